-- what the calls answer, and what they leave
theorem qc_come {G : gG} {a : AM} {us : List AM} (S : SC G a us) (hl : us.length ≤ 3) {p r : Nat} (hp : (p : Int) < (aG a 5).toInt) (hr : 50 ≤ r ∧ r ≤ 150) : ((∀ i, i < 16 → aT a i = true) → sh_X3_come (nI p) (nI r) G = some (-3, G)) ∧ ∀ i, pFr a i → ∃ G', sh_X3_come (nI p) (nI r) G = some (nI i, G') ∧ SC G' (sLay a i (nI p * 100) (nI r)) (us ++ [a]) := by
  have s1 := S.1; have s3 := S.2.1
  have p2 : (aG a 5).toInt ≤ 200 := s3.2.2.2.2.2.1
  have ep : (nI p).toInt = p := nI_toInt (by omega)
  have er : (nI r).toInt = r := nI_toInt (by omega)
  have hs : G 8 0 = aG a 5 := s1.2.2.2.2.2 0 (by decide)
  have w1 : sh_X1_isWholePhase 0 (nI p) G = some 1 := by
    unfold sh_X1_isWholePhase
    show (if nI p < 0 then some 0 else (if (G 8 0) ≤ nI p then some 0 else some 1)) = some (1 : Int32)
    rw [hs, if_neg (nI_pos (by omega)), if_neg (by rw [I_le, ep]; omega)]
  have r1 : sh_X3_isRate (nI r) = 1 := by
    unfold sh_X3_isRate
    have e1 : (50 : Int32).toInt = 50 := by decide
    have e2 : (150 : Int32).toInt = 150 := by decide
    rw [if_neg (by rw [I_lt, er, e1]; omega)]
    first | rw [if_pos (by rw [I_le, er, e2]; omega)] | rw [if_neg (by rw [I_lt, er, e2]; omega)]
  unfold sh_X3_come
  rw [w1, obp_s, if_neg n10, r1, if_neg n10]
  refine ⟨fun q => ?_, fun i q => ?_⟩
  · rw [(X1_free s1).1 q, obp_s, if_pos rfl]
  · rw [(X1_free s1).2 i q, obp_s, if_neg (m1_ne q.1)]
    obtain ⟨G1, e1, e2, e3⟩ := SC.rem S hl
    obtain ⟨G2, f1, f2, f3⟩ := X1_place (ph := nI p) (rt := nI r) e2 q.1
    rw [e1, obv_s, f1, obv_s]
    refine ⟨G2, rfl, e3 G2 _ f3 f2 (lay_wf s3 q.2.1 ?_ ?_ ?_ ?_ q.1)⟩
    · rw [i100 (by omega) (by omega)]; omega
    · rw [i100 (by omega) (by omega)]; omega
    · rw [er]; omega
    · rw [er]; omega
theorem qc_goAway {G : gG} {a : AM} {us : List AM} (S : SC G a us) (hl : us.length ≤ 3) {i : Nat} (hi : i < 16) (ht : aT a i = true) : ∃ G', sh_X3_goAway (nI i) G = some (nI (cnt (aL a i) 16), G') ∧ SC G' (sDel a i) (us ++ [a]) := by
  unfold sh_X3_goAway
  rw [X1_has_t S.1 hi ht, if_neg n10]
  obtain ⟨G1, e1, e2, e3⟩ := SC.rem S hl
  obtain ⟨G2, f1, f2, f3⟩ := X1_remove e2 hi
  rw [e1, obv_s, f1, obi_s]
  exact ⟨G2, rfl, e3 G2 _ f3 f2 (del_wf S.2.1)⟩
theorem qc_goAway_f {G : gG} {a : AM} {us : List AM} (S : SC G a us) {l : Int32} (hl : ∀ i, i < 16 → l = nI i → aT a i = false) : sh_X3_goAway l G = some (-1, G) := by
  unfold sh_X3_goAway
  rw [X1_has_f S.1 hl, if_pos rfl]
theorem qc_turn {G : gG} {a : AM} {us : List AM} (S : SC G a us) (hl : us.length ≤ 3) {i : Nat} {b : Bool} (hi : i < 16) (ht : aT a i = true) : (aO a i = b → sh_X3_turn (nI i) (b2i b) G = some (-5, G)) ∧ (¬ aO a i = b → ∃ G', sh_X3_turn (nI i) (b2i b) G = some (nI (cnt (aO (sOn a i b)) 16), G') ∧ SC G' (sOn a i b) (us ++ [a])) := by
  unfold sh_X3_turn
  rw [X1_has_t S.1 hi ht, if_neg n10, X1_isOn S.1 hi]
  refine ⟨fun q => by rw [if_pos (by rw [q])], fun q => ?_⟩
  rw [if_neg (fun hh => q (b2i_inj hh))]
  obtain ⟨G1, e1, e2, e3⟩ := SC.rem S hl
  obtain ⟨G2, f1, f2, f3⟩ := X1_switch (b := b) e2 hi
  rw [e1, obv_s, f1, obv_s, X1_lampsOn f2]
  exact ⟨G2, rfl, e3 G2 _ f3 f2 (on_wf S.2.1 ht)⟩
theorem qc_turn_f {G : gG} {a : AM} {us : List AM} (S : SC G a us) {l x : Int32} (hl : ∀ i, i < 16 → l = nI i → aT a i = false) : sh_X3_turn l x G = some (-1, G) := by
  unfold sh_X3_turn
  rw [X1_has_f S.1 hl, if_pos rfl]
theorem qc_link {G : gG} {a : AM} {us : List AM} (S : SC G a us) (hl : us.length ≤ 3) {i j : Nat} {b : Bool} (hi : i < 16) (hj : j < 16) (hti : aT a i = true) (htj : aT a j = true) (hij : i ≠ j) : (aL a i j = b → sh_X3_link (nI i) (nI j) (b2i b) G = some (-5, G)) ∧ (¬ aL a i j = b → ∃ G', sh_X3_link (nI i) (nI j) (b2i b) G = some (nI (dsum (fun r => cnt (aL (sLink a i j b) r) 16) 16) / 2, G') ∧ SC G' (sLink a i j b) (us ++ [a])) := by
  unfold sh_X3_link
  rw [X1_has_t S.1 hi hti, if_neg n10, X1_has_t S.1 hj htj, if_neg n10, if_neg (fun h => hij (nI_inj (by omega) (by omega) h)), X1_isLinked S.1 hi hj, obp_s]
  refine ⟨fun q => by rw [if_pos (by rw [q])], fun q => ?_⟩
  rw [if_neg (fun hh => q (b2i_inj hh))]
  obtain ⟨G1, e1, e2, e3⟩ := SC.rem S hl
  obtain ⟨G2, f1, f2, f3⟩ := X1_link (b := b) e2 hi hj hij
  rw [e1, obv_s, f1, obv_s, X1_links f2, obp_s]
  exact ⟨G2, rfl, e3 G2 _ f3 f2 (wf_link S.2.1 hi hj hti htj)⟩
theorem qc_link_f {G : gG} {a : AM} {us : List AM} (S : SC G a us) {l m x : Int32} (hl : (∀ i, i < 16 → l = nI i → aT a i = false) ∨ ∀ i, i < 16 → m = nI i → aT a i = false) : sh_X3_link l m x G = some (-1, G) := by
  unfold sh_X3_link
  rcases lamp_c a l with ⟨i, hi, rfl, hti⟩ | h1
  · rw [X1_has_t S.1 hi hti, if_neg n10]
    rcases hl with h2 | h2
    · rw [h2 i hi rfl] at hti; cases hti
    · rw [X1_has_f S.1 h2, if_pos rfl]
  · rw [X1_has_f S.1 h1, if_pos rfl]
theorem qc_link_e {G : gG} {a : AM} {us : List AM} (S : SC G a us) {i : Nat} {x : Int32} (hi : i < 16) (ht : aT a i = true) : sh_X3_link (nI i) (nI i) x G = some (-2, G) := by
  unfold sh_X3_link
  rw [X1_has_t S.1 hi ht, if_neg n10, if_neg n10, if_pos rfl]
theorem qc_tune {G : gG} {a : AM} {us : List AM} (S : SC G a us) (hl : us.length ≤ 3) {i p r : Nat} (hi : i < 16) (ht : aT a i = true) (hp : (p : Int) < (aG a 5).toInt) (hr : 50 ≤ r ∧ r ≤ 150) : ∃ G', sh_X3_tune (nI i) (nI p) (nI r) G = some (aN a 1 i, G') ∧ SC G' (sTune a i (nI p * 100) (nI r)) (us ++ [a]) := by
  have s1 := S.1; have s3 := S.2.1
  have p2 : (aG a 5).toInt ≤ 200 := s3.2.2.2.2.2.1
  have ep : (nI p).toInt = p := nI_toInt (by omega)
  have er : (nI r).toInt = r := nI_toInt (by omega)
  have hs : G 8 0 = aG a 5 := s1.2.2.2.2.2 0 (by decide)
  have w1 : sh_X1_isWholePhase 0 (nI p) G = some 1 := by
    unfold sh_X1_isWholePhase
    show (if nI p < 0 then some 0 else (if (G 8 0) ≤ nI p then some 0 else some 1)) = some (1 : Int32)
    rw [hs, if_neg (nI_pos (by omega)), if_neg (by rw [I_le, ep]; omega)]
  have r1 : sh_X3_isRate (nI r) = 1 := by
    unfold sh_X3_isRate
    have e1 : (50 : Int32).toInt = 50 := by decide
    have e2 : (150 : Int32).toInt = 150 := by decide
    rw [if_neg (by rw [I_lt, er, e1]; omega)]
    first | rw [if_pos (by rw [I_le, er, e2]; omega)] | rw [if_neg (by rw [I_lt, er, e2]; omega)]
  unfold sh_X3_tune
  rw [X1_has_t s1 hi ht, if_neg n10, w1, obp_s, if_neg n10, r1, if_neg n10]
  obtain ⟨G1, e1, e2, e3⟩ := SC.rem S hl
  obtain ⟨G2, f1, f2, f3⟩ := X1_tune (ph := nI p) (rt := nI r) e2 hi ht
  rw [e1, obv_s, f1, obi_s]
  refine ⟨G2, rfl, e3 G2 _ f3 f2 (tune_wf s3 ?_ ?_ ?_ ?_)⟩
  · rw [i100 (by omega) (by omega)]; omega
  · rw [i100 (by omega) (by omega)]; omega
  · rw [er]; omega
  · rw [er]; omega
theorem qc_tune_f {G : gG} {a : AM} {us : List AM} (S : SC G a us) {l x y : Int32} (hl : ∀ i, i < 16 → l = nI i → aT a i = false) : sh_X3_tune l x y G = some (-1, G) := by
  unfold sh_X3_tune
  rw [X1_has_f S.1 hl, if_pos rfl]
theorem qc_set {G : gG} {a : AM} {us : List AM} (S : SC G a us) (hl : us.length ≤ 3) {j : Nat} {x : Int32} (hj : j < 3) (h1 : (lstT j).toInt ≤ x.toInt) (h2 : x.toInt ≤ (grtT j).toInt) : (aG a (5 + j) = x → sh_X3_set (nI j) x G = some (-5, G)) ∧ (¬ aG a (5 + j) = x → ∃ G', sh_X3_set (nI j) x G = some (aG a (5 + j), G') ∧ SC G' (sSet a j x) (us ++ [a])) := by
  have s1 := S.1; have s3 := S.2.1
  have hset : sh_X1_setting 0 (nI j) G = some (aG a (5 + j)) := by
    unfold sh_X1_setting
    rw [if_pos (gin_n hj (by decide)), nI_clamp (by omega)]
    have := s1.2.2.2.2.2 j hj
    rw [this]
  unfold sh_X3_set
  rw [if_neg (nI_pos (by omega)), if_pos (show nI j < 3 from nI_lt hj (by decide)), if_pos (gin_n hj (by decide)), nI_clamp (by omega), if_neg (by rw [I_lt]; omega), if_pos (by rw [I_le]; exact h2), hset, obp_s]
  refine ⟨fun q => by rw [if_pos q], fun q => ?_⟩
  rw [if_neg q]
  obtain ⟨hwf, hf⟩ := set_wf (x := x) s3 hj h1 h2
  obtain ⟨G1, e1, e2, e3⟩ := SC.rem S hl
  obtain ⟨G2, f1, f2, f3⟩ := X1_set (x := x) e2 hj hf
  rw [e1, obv_s, f1, obi_s]
  exact ⟨G2, rfl, e3 G2 _ f3 f2 hwf⟩
theorem qc_pass {G : gG} {a : AM} {us : List AM} (S : SC G a us) (hl : us.length ≤ 3) {m : Nat} (h1 : 1 ≤ m) (h2 : m ≤ 999) (h0 : 0 ≤ (aG a 0).toInt) (h9 : (aG a 0).toInt + m ≤ 99999) : ∃ G', sh_X3_pass (nI m) G = some (aG (sTickN m a) 1 - aG a 1, G') ∧ SC G' (sTickN m a) (us ++ [a]) := by
  have ht0 : ∀ {G' : gG} {b : AM}, R1 G' 0 b → sh_X1_tickNumber 0 G' = aG b 0 := fun hh => hh.2.2.2.2.1 0 (by decide)
  have ht1 : ∀ {G' : gG} {b : AM}, R1 G' 0 b → sh_X1_allBlinks 0 G' = aG b 1 := fun hh => hh.2.2.2.2.1 1 (by decide)
  have em : (nI m).toInt = m := nI_toInt (by omega)
  have e1 : (1 : Int32).toInt = 1 := by decide
  have e9 : (999 : Int32).toInt = 999 := by decide
  have e99 : (99999 : Int32).toInt = 99999 := by decide
  unfold sh_X3_pass
  rw [if_neg (by rw [I_lt, em, e1]; omega), if_pos (by rw [I_le, em, e9]; omega), ht0 S.1, if_pos (by rw [I_le, I_add (by omega) (by omega), em, e99]; omega)]
  obtain ⟨G1, e1, e2, e3⟩ := SC.rem S hl
  obtain ⟨G2, f1, f2, f3⟩ := X1_pass (m := m) (by omega) S.2.1 e2
  rw [e1, obv_s, f1, obv_s, ht1 f2, ht1 e2]
  exact ⟨G2, rfl, e3 G2 _ f3 f2 (tickN_wf m S.2.1)⟩
theorem qc_apart {G : gG} {a : AM} {us : List AM} (S : SC G a us) {i j : Nat} (hi : i < 16) (hj : j < 16) (hti : aT a i = true) (htj : aT a j = true) : sh_X3_apart (nI i) (nI j) G = some (sDist a i j) := by
  unfold sh_X3_apart
  rw [X1_has_t S.1 hi hti, if_neg n10, X1_has_t S.1 hj htj, if_neg n10, X1_dist S.1 hi hj hti htj, obp_s]
theorem qc_apart_f {G : gG} {a : AM} {us : List AM} (S : SC G a us) {l m : Int32} (hl : (∀ i, i < 16 → l = nI i → aT a i = false) ∨ ∀ i, i < 16 → m = nI i → aT a i = false) : sh_X3_apart l m G = some (-1) := by
  unfold sh_X3_apart
  rcases lamp_c a l with ⟨i, hi, rfl, hti⟩ | h1
  · rw [X1_has_t S.1 hi hti, if_neg n10]
    rcases hl with h2 | h2
    · rw [h2 i hi rfl] at hti; cases hti
    · rw [X1_has_f S.1 h2, if_pos rfl]
  · rw [X1_has_f S.1 h1, if_pos rfl]
theorem qc_next_none {G : gG} {a : AM} {us : List AM} (S : SC G a us) (q : ∀ i, i < 16 → aO a i = false) : sh_X3_next 0 G = some (-5, G) ∧ sh_X3_next 1 G = some (-5, G) := by
  unfold sh_X3_next
  rw [lo_0 S.1 q]
  exact ⟨rfl, rfl⟩
theorem qc_next {G : gG} {a : AM} {us : List AM} (S : SC G a us) {i : Nat} (hi : i < 16) (ho : aO a i = true) : (∃ G', sh_X3_next 0 G = some (nI (sNx 400 0 a).1, G') ∧ SC G' a us) ∧ ∃ G', sh_X3_next 1 G = some (bS (sNx 400 0 a).2, G') ∧ SC G' a us := by
  have s1 := S.1; have s3 := S.2.1
  obtain ⟨G1, e1, e2, e3⟩ := X1_copy isM9 isM0 (by decide) s1
  have hp : ((50 * 0 : Nat) : Int) ≤ (aN a 1 i).toInt := by
    have := (s3.2.2.2.1 i hi (s3.1 i hi ho)).1
    omega
  constructor
  · obtain ⟨r, G2, f0, f1, f2⟩ := X3_nx_l hi 0 400 0 FU G1 a rfl (by decide) s3 ho hp e2
    have f1' : sh_X3_next_38 (fun G => some ((-5 : Int32), G)) FU 0 1 G1 = _ := f1
    unfold sh_X3_next
    rw [if_neg (by decide), if_pos (by decide), if_neg (lo_1 s1 hi ho), e1, obv_s, f1', if_pos rfl]
    exact ⟨G2, rfl, S.tr (e3.trans f2)⟩
  · obtain ⟨r, G2, f0, f1, f2⟩ := X3_nx_l hi 1 400 0 FU G1 a rfl (by decide) s3 ho hp e2
    have f1' : sh_X3_next_38 (fun G => some ((-5 : Int32), G)) FU 1 1 G1 = _ := f1
    unfold sh_X3_next
    rw [if_neg (by decide), if_pos (by decide), if_neg (lo_1 s1 hi ho), e1, obv_s, f1', if_neg n10, f0.bS]
    exact ⟨G2, rfl, S.tr (e3.trans f2)⟩
theorem qc_together {G : gG} {a : AM} {us : List AM} (S : SC G a us) : ∃ G', sh_X3_togetherIn G = some (sTgt a, G') ∧ SC G' a us := by
  unfold sh_X3_togetherIn
  obtain ⟨G1, e1, e2, e3⟩ := X1_copy isM9 isM0 (by decide) S.1
  obtain ⟨G2, f1, f2⟩ := X3_tg S.2.1 e2
  rw [e1, obv_s, f1, obi_s]
  exact ⟨G2, rfl, S.tr (e3.trans f2)⟩
theorem qc_reason {G : gG} {a : AM} {us : List AM} (S : SC G a us) : ((∀ i, i < 16 → aO a i = false) → sh_X3_reason G = some 1) ∧ (pTog a → sh_X3_reason G = some 0) ∧ ((∃ i, i < 16 ∧ aO a i = true) → ¬ pTog a → ∃ r : Int32, sh_X3_reason G = some r ∧ (r = 2 ↔ 1 < (sPcs a 16).1 ∧ (sPcs a 16).1 < 2147483648 ∨ 2147483648 ≤ (sPcs a 16).1 ∧ ¬ nI (sPcs a 16).1 ≤ 1)) := by
  have s1 := S.1; have s3 := S.2.1
  unfold sh_X3_reason
  have hset : ∃ x, sh_X1_setting 0 1 G = some x := by
    unfold sh_X1_setting
    rw [if_pos (by decide)]
    exact ⟨_, rfl⟩
  refine ⟨fun q => ?_, fun q => ?_, fun ⟨i, hi, ho⟩ q => ?_⟩
  · have ht : ¬ pTog a := fun hh => by
      obtain ⟨⟨i, hi, ho⟩, _⟩ := hh
      rw [q i hi] at ho; cases ho
    rw [(X1_tog s3 s1).2 ht, obp_s, if_pos rfl, lo_0 s1 q, if_pos rfl]
  · rw [(X1_tog s3 s1).1 q, obp_s, if_neg n10]
  · rw [(X1_tog s3 s1).2 q, obp_s, if_pos rfl, if_neg (lo_1 s1 hi ho), X1_pieces s1, obp_s]
    have hle : (sPcs a 16).1 < 2147483648 → (nI (sPcs a 16).1 ≤ 1 ↔ (sPcs a 16).1 ≤ 1) := fun h => by
      rw [show (1 : Int32) = nI 1 from rfl]; exact nI_leI (by omega) (by omega)
    by_cases hp : nI (sPcs a 16).1 ≤ 1
    · rw [if_pos hp]
      have h2 : ¬ (1 < (sPcs a 16).1 ∧ (sPcs a 16).1 < 2147483648 ∨ 2147483648 ≤ (sPcs a 16).1 ∧ ¬ nI (sPcs a 16).1 ≤ 1) := by
        rintro (⟨h3, h4⟩ | ⟨_, h4⟩)
        · have := (hle h4).mp hp; omega
        · exact h4 hp
      by_cases hu : pUnl a
      · rw [(X1_unl s3 s1).1 hu, obp_s, if_neg n10]
        exact ⟨3, rfl, ⟨fun h => absurd h (by decide), fun h => absurd h h2⟩⟩
      · rw [(X1_unl s3 s1).2 hu, obp_s, if_pos rfl]
        obtain ⟨x, hx⟩ := hset
        rw [hx, obp_s]
        split
        · exact ⟨4, rfl, ⟨fun h => absurd h (by decide), fun h => absurd h h2⟩⟩
        · exact ⟨0, rfl, ⟨fun h => absurd h (by decide), fun h => absurd h h2⟩⟩
    · rw [if_neg hp]
      refine ⟨2, rfl, ⟨fun _ => ?_, fun _ => rfl⟩⟩
      rcases Nat.lt_or_ge (sPcs a 16).1 2147483648 with h | h
      · exact Or.inl ⟨by rcases Nat.lt_or_ge 1 (sPcs a 16).1 with z | z; exact z; exact absurd ((hle h).mpr z) hp, h⟩
      · exact Or.inr ⟨h, hp⟩
theorem qc_spread_none {G : gG} {a : AM} {us : List AM} (S : SC G a us) (q : ∀ i, i < 16 → aO a i = false) : sh_X3_spread G = some (-5) := by
  unfold sh_X3_spread
  rw [lo_0 S.1 q, if_pos rfl]
theorem qc_spread {G : gG} {a : AM} {us : List AM} (S : SC G a us) {i : Nat} (hi : i < 16) (ho : aO a i = true) : sh_X3_spread G = some (gdOf a) ∧ isMx a (gdOf a) := by
  unfold sh_X3_spread
  obtain ⟨r, e1, e2⟩ := X1_gd S.2.1 S.1
  rw [if_neg (lo_1 S.1 hi ho), e1, obp_s, ← gd_u e2]
  exact ⟨rfl, e2⟩
theorem qc_ifLinked {G : gG} {a : AM} {us : List AM} (S : SC G a us) {i j : Nat} (hi : i < 16) (hj : j < 16) (hti : aT a i = true) (htj : aT a j = true) (hij : i ≠ j) : ∃ G', sh_X3_ifLinked (nI i) (nI j) G = some (sTgt (sLink a i j (!aL a i j)), G') ∧ SC G' a us := by
  have s1 := S.1; have s3 := S.2.1
  unfold sh_X3_ifLinked
  rw [X1_has_t s1 hi hti, if_neg n10, X1_has_t s1 hj htj, if_neg n10, if_neg (fun h => hij (nI_inj (by omega) (by omega) h))]
  obtain ⟨G1, e1, e2, e3⟩ := X1_copy isM9 isM0 (by decide) s1
  have r1 : R1 G1 0 a := s1.fr (fun c c1 c2 => e3 c (by omega))
  rw [e1, obv_s, X1_isLinked r1 hi hj, obp_s]
  obtain ⟨b, hb⟩ : ∃ b, b = !aL a i j := ⟨_, rfl⟩
  have hwl := wf_link (b := b) s3 hi hj hti htj
  obtain ⟨G2, f1, f2, f3⟩ := X1_link (b := b) e2 hi hj hij
  obtain ⟨G3, g1, g2⟩ := X3_tg hwl f2
  have e3j : sh_X3_ifLinked_j66 (nI i) (nI j) (b2i b) G1 = some (sTgt (sLink a i j b), G3) := by
    unfold sh_X3_ifLinked_j66
    rw [f1, obv_s, g1, obi_s]
  refine ⟨G3, ?_, S.tr ((e3.trans f3).trans g2)⟩
  rw [← hb]
  cases hl : aL a i j
  · rw [hl] at hb; rw [if_pos (b_f rfl), ← e3j, hb]; rfl
  · rw [hl] at hb; rw [if_neg (b_t rfl), ← e3j, hb]; rfl
theorem qc_ifLinked_f {G : gG} {a : AM} {us : List AM} (S : SC G a us) {l m : Int32} (hl : (∀ i, i < 16 → l = nI i → aT a i = false) ∨ ∀ i, i < 16 → m = nI i → aT a i = false) : sh_X3_ifLinked l m G = some (-1, G) := by
  unfold sh_X3_ifLinked
  rcases lamp_c a l with ⟨i, hi, rfl, hti⟩ | h1
  · rw [X1_has_t S.1 hi hti, if_neg n10]
    rcases hl with h2 | h2
    · rw [h2 i hi rfl] at hti; cases hti
    · rw [X1_has_f S.1 h2, if_pos rfl]
  · rw [X1_has_f S.1 h1, if_pos rfl]
theorem qc_ifLinked_e {G : gG} {a : AM} {us : List AM} (S : SC G a us) {i : Nat} (hi : i < 16) (ht : aT a i = true) : sh_X3_ifLinked (nI i) (nI i) G = some (-2, G) := by
  unfold sh_X3_ifLinked
  rw [X1_has_t S.1 hi ht, if_neg n10, if_neg n10, if_pos rfl]
theorem qc_hub_none {G : gG} {a : AM} {us : List AM} (S : SC G a us) (q : ∀ i, i < 16 → aT a i = false) : sh_X3_hub G = some (-5) := by
  unfold sh_X3_hub
  cases hh : sHub a 16
  · rw [(X1_hub S.1).1 hh, obp_s, if_pos rfl]
  · rename_i f
    exfalso
    have key : ∀ m, m ≤ 16 → sHub a m = none := by
      intro m
      induction m with
      | zero => intro _; rfl
      | succ m ih =>
        intro hm
        unfold sHub
        simp only [ih (by omega), q m (by omega)]
        try rfl
    rw [key 16 (by omega)] at hh; cases hh
theorem qc_best {G : gG} {a : AM} {us : List AM} (S : SC G a us) : ∃ l2 l3 l4, rep1 (sBl a 256) l2 l3 l4 ∧ ∀ G, SC G a us → (∃ G', sh_X3_bestLink 0 G = some (l2, G') ∧ SC G' a us) ∧ (∃ G', sh_X3_bestLink 1 G = some (l3, G') ∧ SC G' a us) ∧ ∃ G', sh_X3_bestLink 2 G = some (l4, G') ∧ SC G' a us := by
  obtain ⟨x2, x3, x4, G1, e1, e2, e3⟩ := X3_best S.2.1 S.1 0
  refine ⟨x2, x3, x4, e1, fun G S' => ⟨?_, ?_, ?_⟩⟩
  · obtain ⟨y2, y3, y4, G1', e1', e2', e3'⟩ := X3_best S'.2.1 S'.1 0
    have hy : y2 = x2 := by
      rcases e1 with ⟨o1, rfl, rfl, rfl⟩ | ⟨b, s, o1, hb, rfl, rfl, rfl, _⟩
      · rcases e1' with ⟨o2, rfl, rfl, rfl⟩ | ⟨b', s', o2, hb', rfl, rfl, rfl, _⟩
        · rfl
        · rw [o1] at o2; cases o2
      · rcases e1' with ⟨o2, rfl, rfl, rfl⟩ | ⟨b', s', o2, hb', rfl, rfl, rfl, _⟩
        · rw [o1] at o2; cases o2
        · rw [o1] at o2; cases o2; rfl
    subst hy
    unfold sh_X3_bestLink
    rw [if_neg (by decide), if_pos (by decide), e2', if_pos rfl]
    exact ⟨G1', rfl, S'.tr e3'⟩
  · obtain ⟨y2, y3, y4, G1', e1', e2', e3'⟩ := X3_best S'.2.1 S'.1 1
    have hy : y3 = x3 := by
      rcases e1 with ⟨o1, rfl, rfl, rfl⟩ | ⟨b, s, o1, hb, rfl, rfl, rfl, _⟩
      · rcases e1' with ⟨o2, rfl, rfl, rfl⟩ | ⟨b', s', o2, hb', rfl, rfl, rfl, _⟩
        · rfl
        · rw [o1] at o2; cases o2
      · rcases e1' with ⟨o2, rfl, rfl, rfl⟩ | ⟨b', s', o2, hb', rfl, rfl, rfl, _⟩
        · rw [o1] at o2; cases o2
        · rw [o1] at o2; cases o2; rfl
    subst hy
    unfold sh_X3_bestLink
    rw [if_neg (by decide), if_pos (by decide), e2', if_neg n10, if_pos rfl]
    exact ⟨G1', rfl, S'.tr e3'⟩
  · obtain ⟨y2, y3, y4, G1', e1', e2', e3'⟩ := X3_best S'.2.1 S'.1 2
    have hy : y4 = x4 := by
      rcases e1 with ⟨o1, rfl, rfl, rfl⟩ | ⟨b, s, o1, hb, rfl, rfl, rfl, _⟩
      · rcases e1' with ⟨o2, rfl, rfl, rfl⟩ | ⟨b', s', o2, hb', rfl, rfl, rfl, _⟩
        · rfl
        · rw [o1] at o2; cases o2
      · rcases e1' with ⟨o2, rfl, rfl, rfl⟩ | ⟨b', s', o2, hb', rfl, rfl, rfl, _⟩
        · rw [o1] at o2; cases o2
        · rw [o1] at o2; cases o2; rfl
    subst hy
    unfold sh_X3_bestLink
    rw [if_neg (by decide), if_pos (by decide), e2', if_neg (by decide), if_neg (by decide)]
    exact ⟨G1', rfl, S'.tr e3'⟩
