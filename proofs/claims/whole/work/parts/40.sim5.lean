-- the questions
theorem X4_save {G : gG} {a : AM} (h : M2 G a) : ∃ G1, sh_X4_copy 72 75 (0 : Int32) (0 : Int32) G = some G1 ∧ M2 G1 a ∧ R2 G1 75 0 a ∧ frq G G1 75 := by
  obtain ⟨G1, e1, e2, e3, e4⟩ := X4_copy (q0 := 72) (q2 := 75) (o1 := 0) (o2 := 0) (by decide) (by decide) (by decide) (by decide) G
  exact ⟨G1, e1, h.fr (e4 72 (by decide)), R2_copy h e2, e4⟩
theorem X4_back {G : gG} {a : AM} (h : R2 G 75 0 a) : ∃ G1, sh_X4_copy 75 72 (0 : Int32) (0 : Int32) G = some G1 ∧ M2 G1 a ∧ frq G G1 72 := by
  obtain ⟨G1, e1, e2, e3, e4⟩ := X4_copy (q0 := 75) (q2 := 72) (o1 := 0) (o2 := 0) (by decide) (by decide) (by decide) (by decide) G
  exact ⟨G1, e1, R2_copy h e2, e4⟩
theorem SIM.tr {G G1 G2 : gG} {a : AM} {h : List AM} (S : SIM G a h) (f : frm G G1 9) (g : ∀ c, c ≠ 72 → c ≠ 75 → G2 c = G1 c) (m : M2 G2 a) : SIM G2 a h := by
  obtain ⟨s1, s2, s3, s4, s5, s6, s7, s8⟩ := S
  have hc : ∀ c, (c < 9 ∨ 18 ≤ c) → c ≠ 72 → c ≠ 75 → G2 c = G c := fun c c1 c2 c3 => by rw [g c c2 c3, f c (by omega)]
  exact ⟨s1.fr (fun c c1 c2 => hc c (by omega) (by omega) (by omega)), m, s3, s4.fr (fun c c1 c2 => hc c (by omega) (by omega) (by omega)), s5.fr (by rw [hc 71 (by omega) (by decide) (by decide)]) (hc 73 (by omega) (by decide) (by decide)), s6, s7.fr (by rw [hc 70 (by omega) (by decide) (by decide)]) (by rw [hc 71 (by omega) (by decide) (by decide)]) (fun c c1 c2 => hc c (by omega) (by omega) (by omega)) (hc 74 (by omega) (by decide) (by decide)), s8.fr (by rw [hc 65 (by omega) (by decide) (by decide)]) (hc 66 (by omega) (by decide) (by decide)) (by rw [hc 71 (by omega) (by decide) (by decide)]) (hc 76 (by omega) (by decide) (by decide))⟩
theorem s_together : BO sh_X3_togetherIn sh_X4_togetherIn := by
  rintro G ⟨a, h, S⟩
  have S' := S
  obtain ⟨s1, s2, s3, _⟩ := S
  unfold sh_X3_togetherIn
  obtain ⟨G1, e1, e2, e3⟩ := X1_copy isM9 isM0 (by decide) s1
  obtain ⟨G2, f1, f2⟩ := X3_tg s3 e2
  rw [e1, obv_s, f1, obi_s]
  have F := e3.trans f2
  obtain ⟨G3, g1, g2, g3, g4⟩ := X4_save (s2.fr (G' := G2) (F 72 (by omega)))
  obtain ⟨G4, i1, i2⟩ := X4_tg s3 g2
  obtain ⟨G5, j1, j2, j3⟩ := X4_back (g3.fr (G' := G4) (i2 75 (by decide)))
  refine ⟨_, G2, G5, rfl, ?_, a, h, S'.tr F (fun c c1 c2 => by rw [j3 c c1, i2 c c1, g4 c c2]) j2⟩
  unfold sh_X4_togetherIn
  rw [g1, obv_s, i1, obi_s, j1, obv_s]
theorem s_ifLinked (l m : Int32) : BO (sh_X3_ifLinked l m) (sh_X4_ifLinked l m) := by
  rintro G ⟨a, h, S⟩
  have S' := S
  obtain ⟨s1, s2, s3, _⟩ := S
  unfold sh_X3_ifLinked
  rcases lamp_c a l with ⟨i, hi, rfl, hti⟩ | hl
  · rw [X1_has_t s1 hi hti, if_neg (by decide)]
    rcases lamp_c a m with ⟨j, hj, rfl, htj⟩ | hl
    · rw [X1_has_t s1 hj htj, if_neg (by decide)]
      by_cases q0 : nI i = nI j
      · rw [if_pos q0]
        refine ⟨-2, G, G, rfl, ?_, a, h, S'⟩
        unfold sh_X4_ifLinked
        rw [X4_isLamp_t s2 hi hti, obp_s, if_neg (by decide), X4_isLamp_t s2 hj htj, obp_s, if_neg (by decide), if_pos q0]
      · have hij : i ≠ j := fun hh => q0 (by rw [hh])
        obtain ⟨G1, e1, e2, e3⟩ := X1_copy isM9 isM0 (by decide) s1
        have r1 : R1 G1 0 a := s1.fr (fun c c1 c2 => e3 c (by omega))
        rw [if_neg q0, e1, obv_s, X1_isLinked r1 hi hj, obp_s]
        obtain ⟨b, hb⟩ : ∃ b, b = !aL a i j := ⟨_, rfl⟩
        have hwl := wf_link (b := b) s3 hi hj hti htj
        obtain ⟨G2, f1, f2, f3⟩ := X1_link (b := b) e2 hi hj hij
        obtain ⟨G3, g1, g2⟩ := X3_tg hwl f2
        have F := (e3.trans f3).trans g2
        have s2' : M2 G3 a := s2.fr (F 72 (by omega))
        obtain ⟨H1, i1, i2, i3, i4⟩ := X4_save s2'
        obtain ⟨H2, j1, j2, j3⟩ := X4_connect (b := b) i2 hi hj hij
        obtain ⟨H3, k1, k2⟩ := X4_tg hwl j2
        obtain ⟨H4, m1, m2, m3⟩ := X4_back (i3.fr (G' := H3) (by rw [k2 75 (by decide), j3 75 (by decide)]))
        have e3j : sh_X3_ifLinked_j66 (nI i) (nI j) (b2i b) G1 = some (sTgt (sLink a i j b), G3) := by
          unfold sh_X3_ifLinked_j66
          rw [f1, obv_s, g1, obi_s]
        have e4j : sh_X4_ifLinked_j61 (nI i) (nI j) (b2i b) H1 = some (sTgt (sLink a i j b), H4) := by
          unfold sh_X4_ifLinked_j61
          rw [j1, obv_s, k1, obi_s, m1, obv_s]
        refine ⟨sTgt (sLink a i j b), G3, H4, ?_, ?_, a, h, S'.tr F (fun c c1 c2 => by rw [m3 c c1, k2 c c1, j3 c c1, i4 c c2]) m2⟩
        · cases hl : aL a i j
          · rw [hl] at hb; rw [if_pos (b_f rfl), ← e3j, hb]; rfl
          · rw [hl] at hb; rw [if_neg (b_t rfl), ← e3j, hb]; rfl
        · unfold sh_X4_ifLinked
          rw [X4_isLamp_t s2' hi hti, obp_s, if_neg (by decide), X4_isLamp_t s2' hj htj, obp_s, if_neg (by decide), if_neg q0, i1, obv_s, X4_of8 hi, obp_s, X4_hasl i2 hi hj]
          cases hl : aL a i j
          · rw [hl] at hb; rw [if_pos (b_f rfl), ← e4j, hb]; rfl
          · rw [hl] at hb; rw [if_neg (b_t rfl), ← e4j, hb]; rfl
    · rw [X1_has_f s1 hl, if_pos rfl]
      refine ⟨-1, G, G, rfl, ?_, a, h, S'⟩
      unfold sh_X4_ifLinked
      rw [X4_isLamp_t s2 hi hti, obp_s, if_neg (by decide), X4_isLamp_f s2 hl, obp_s, if_pos rfl]
  · rw [X1_has_f s1 hl, if_pos rfl]
    refine ⟨-1, G, G, rfl, ?_, a, h, S'⟩
    unfold sh_X4_ifLinked
    rw [X4_isLamp_f s2 hl, obp_s, if_pos rfl]
theorem on_c (a : AM) : (∀ i, i < 16 → aO a i = false) ∨ ∃ i, i < 16 ∧ aO a i = true := by
  by_cases q : ∃ i, i < 16 ∧ aO a i = true
  · exact Or.inr q
  · refine Or.inl (fun i hi => ?_)
    cases hh : aO a i
    · rfl
    · exact absurd ⟨i, hi, hh⟩ q
theorem lo_0 {G : gG} {a : AM} (h : R1 G 0 a) (q : ∀ i, i < 16 → aO a i = false) : sh_X1_lampsOn 0 G = 0 := by
  rw [X1_lampsOn h, cnt_0.mpr q]; rfl
theorem lo_1 {G : gG} {k : Nat} {a : AM} (h : R1 G k a) {i : Nat} (hi : i < 16) (q : aO a i = true) : ¬ sh_X1_lampsOn k G = 0 := by
  rw [X1_lampsOn h]
  have h1 := cnt_pos hi q
  have h2 := cnt_le (aO a) 16
  exact nI_ne0 h1 (by omega)
theorem s_next (l1 : Int32) : BO (sh_X3_next l1) (sh_X4_next l1) := by
  rintro G ⟨a, h, S⟩
  have S' := S
  obtain ⟨s1, s2, s3, _⟩ := S
  unfold sh_X3_next
  by_cases q1 : l1 < 0
  · rw [if_pos q1]
    refine ⟨-2, G, G, rfl, ?_, a, h, S'⟩
    unfold sh_X4_next
    rw [X4_in_f (Or.inl q1), if_pos rfl]
  · rw [if_neg q1]
    by_cases q2 : l1 ≤ 1
    · have q2' : ¬ (1 : Int32) < l1 := by rw [I_lt]; rw [I_le] at q2; omega
      rw [if_pos q2]
      rcases on_c a with q | ⟨i, hi, ho⟩
      · rw [lo_0 s1 q, if_pos rfl]
        refine ⟨-5, G, G, rfl, ?_, a, h, S'⟩
        obtain ⟨r, c1, c2⟩ := X4_lampsOn s2 s3.1
        unfold sh_X4_next
        rw [X4_in_t q1 q2', if_neg (by decide), c1, obp_s, if_pos (c2.zero.mpr q)]
      · rw [if_neg (lo_1 s1 hi ho)]
        obtain ⟨G1, e1, e2, e3⟩ := X1_copy isM9 isM0 (by decide) s1
        have hp : ((50 * 0 : Nat) : Int) ≤ (aN a 1 i).toInt := by
          have := (s3.2.2.2.1 i hi (s3.1 i hi ho)).1
          omega
        obtain ⟨r, G2, f0, f1, f2⟩ := X3_nx_l hi l1 400 0 FU G1 a rfl (by decide) s3 ho hp e2
        have f1' : sh_X3_next_38 (fun G => some ((-5 : Int32), G)) FU l1 1 G1 = _ := f1
        rw [e1, obv_s, f1']
        have F := e3.trans f2
        have s2' : M2 G2 a := s2.fr (F 72 (by omega))
        obtain ⟨H1, i1, i2, i3, i4⟩ := X4_save s2'
        obtain ⟨r', H2, k0, k1, k2⟩ := X4_nx_l hi l1 (fun l1 l2 l3 G => (obv (sh_X4_copy 75 72 (0 : Int32) (0 : Int32) G) fun G9 => (if l1 = (0 : Int32) then some (l2, G9) else some (l3, G9)))) 400 0 3999 H1 a rfl (by decide) s3 ho hp i2
        obtain ⟨H3, m1, m2, m3⟩ := X4_back (i3.fr (G' := H2) (k2 75 (by decide)))
        have hrr : r = r' := f0.eq k0
        obtain ⟨c, d1, d2⟩ := X4_lampsOn s2' s3.1
        have hd : ¬ c = 0 := fun hh => by
          have := d2.zero.mp hh i hi
          rw [ho] at this; cases this
        have e4 : sh_X4_next l1 G2 = if l1 = 0 then some (nI (sNx 400 0 a).1, H3) else some (r', H3) := by
          unfold sh_X4_next
          rw [X4_in_t q1 q2', if_neg (by decide), d1, obp_s, if_neg hd, i1, obv_s]
          have k1' : sh_X4_next_39 (fun l1 l2 l3 G => (obv (sh_X4_copy 75 72 (0 : Int32) (0 : Int32) G) fun G9 => (if l1 = (0 : Int32) then some (l2, G9) else some (l3, G9)))) FU l1 0 0 H1 = _ := k1
          rw [k1', m1, obv_s]
        rw [hrr]
        by_cases q3 : l1 = 0
        · rw [if_pos q3]
          rw [if_pos q3] at e4
          exact ⟨_, G2, H3, rfl, e4, a, h, S'.tr F (fun c c1 c2 => by rw [m3 c c1, k2 c c1, i4 c c2]) m2⟩
        · rw [if_neg q3]
          rw [if_neg q3] at e4
          exact ⟨_, G2, H3, rfl, e4, a, h, S'.tr F (fun c c1 c2 => by rw [m3 c c1, k2 c c1, i4 c c2]) m2⟩
    · rw [if_neg q2]
      refine ⟨-2, G, G, rfl, ?_, a, h, S'⟩
      unfold sh_X4_next
      rw [X4_in_f (Or.inr (by rw [I_lt]; rw [I_le] at q2; omega)), if_pos rfl]
theorem s_best (l1 : Int32) : BO (sh_X3_bestLink l1) (sh_X4_bestLink l1) := by
  rintro G ⟨a, h, S⟩
  have S' := S
  obtain ⟨s1, s2, s3, _⟩ := S
  unfold sh_X3_bestLink
  by_cases q1 : l1 < 0
  · rw [if_pos q1]
    refine ⟨-2, G, G, rfl, ?_, a, h, S'⟩
    unfold sh_X4_bestLink
    rw [X4_in_f (Or.inl q1), if_pos rfl]
  · rw [if_neg q1]
    by_cases q2 : l1 ≤ 2
    · have q2' : ¬ (2 : Int32) < l1 := by rw [I_lt]; rw [I_le] at q2; omega
      rw [if_pos q2]
      obtain ⟨x2, x3, x4, G1, e1, e2, e3⟩ := X3_best s3 s1 l1
      rw [e2]
      have s2' : M2 G1 a := s2.fr (e3 72 (by omega))
      obtain ⟨H1, i1, i2, i3, i4⟩ := X4_save s2'
      obtain ⟨y2, y3, H2, k0, k1, k2, k3⟩ := X4_best s3 i2 i3 (fun l1 l2 l3 G => (if l2 = (-5 : Int32) then some ((-5 : Int32), G) else (if l1 = (0 : Int32) then some ((l2 / (16 : Int32)), G) else (if l1 = (1 : Int32) then some ((l2 - l2 / (16 : Int32) * (16 : Int32)), G) else some (l3, G))))) l1
      have e4 : sh_X4_bestLink l1 G1 = (if y2 = (-5 : Int32) then some ((-5 : Int32), H2) else (if l1 = (0 : Int32) then some ((y2 / (16 : Int32)), H2) else (if l1 = (1 : Int32) then some ((y2 - y2 / (16 : Int32) * (16 : Int32)), H2) else some (y3, H2)))) := by
        unfold sh_X4_bestLink
        rw [X4_in_t q1 q2', if_neg (by decide), i1, obv_s, k1]
      have SS : SM H2 := ⟨a, h, S'.tr e3 (fun c c1 c2 => by rw [k3 c c1, i4 c c2]) k2⟩
      rcases e1 with ⟨o1, rfl, rfl, rfl⟩ | ⟨b, s, o1, hb, rfl, rfl, rfl, _⟩
      · rcases k0 with ⟨o2, rfl, rfl⟩ | ⟨b', s', o2, _⟩
        · rw [if_pos rfl] at e4
          refine ⟨-5, G1, H2, ?_, e4, SS⟩
          split
          · rfl
          · split <;> rfl
        · rw [o1] at o2; cases o2
      · rcases k0 with ⟨o2, _⟩ | ⟨b', s', o2, hb', rfl, rfl, _⟩
        · rw [o1] at o2; cases o2
        · rw [o1] at o2
          have hbb := Option.some.inj o2
          have h1 : b = b' := congrArg Prod.fst hbb
          have h2 := congrArg Prod.snd hbb
          subst h1
          rw [if_neg (m5_ne (by omega)), (dv16 hb).2, (dv16 hb).1] at e4
          by_cases p0 : l1 = 0
          · rw [if_pos p0] at e4; rw [if_pos p0]
            exact ⟨_, G1, H2, rfl, e4, SS⟩
          · rw [if_neg p0] at e4; rw [if_neg p0]
            by_cases p1 : l1 = 1
            · rw [if_pos p1] at e4; rw [if_pos p1]
              exact ⟨_, G1, H2, rfl, e4, SS⟩
            · rw [if_neg p1] at e4; rw [if_neg p1]
              refine ⟨_, G1, H2, rfl, ?_, SS⟩
              rw [e4]; exact congrArg (fun z => some (z, H2)) h2.symm
    · rw [if_neg q2]
      refine ⟨-2, G, G, rfl, ?_, a, h, S'⟩
      unfold sh_X4_bestLink
      rw [X4_in_f (Or.inr (by rw [I_lt]; rw [I_le] at q2; omega)), if_pos rfl]
theorem s_hub : BP sh_X3_hub sh_X4_hub := by
  rintro G ⟨a, h, s1, s2, s3, _⟩
  unfold sh_X3_hub
  cases hh : sHub a 16
  · rw [(X1_hub s1).1 hh, obp_s, if_pos rfl]
    exact ⟨-5, rfl, (X4_hub s2).1 hh⟩
  · rename_i f
    obtain ⟨h1, h2⟩ := (X1_hub s1).2 f hh
    rw [h2, obp_s, if_neg (m1_ne h1)]
    exact ⟨nI f, rfl, (X4_hub s2).2 f hh⟩
theorem s_spread : BP sh_X3_spread sh_X4_spread := by
  rintro G ⟨a, h, s1, s2, s3, _⟩
  unfold sh_X3_spread sh_X4_spread
  rcases on_c a with q | ⟨i, hi, ho⟩
  · rw [lo_0 s1 q, if_pos rfl, (X4_gd s3 s2).1 (cnt_0.mpr q), obp_s]
    exact ⟨-5, rfl, rfl⟩
  · obtain ⟨r, e1, e2⟩ := X1_gd s3 s1
    have hp := cnt_pos hi ho
    obtain ⟨r', f1, f2⟩ := (X4_gd s3 s2).2 (by omega)
    rw [if_neg (lo_1 s1 hi ho), e1, obp_s, f1, obp_s, mx_u e2 f2]
    exact ⟨r', rfl, rfl⟩
theorem n10 : ¬ (1 : Int32) = 0 := by decide
theorem s_apart (l m : Int32) : BP (sh_X3_apart l m) (sh_X4_apart l m) := by
  rintro G ⟨a, h, s1, s2, s3, _⟩
  unfold sh_X3_apart sh_X4_apart
  rcases lamp_c a l with ⟨i, hi, rfl, hti⟩ | hl
  · rcases lamp_c a m with ⟨j, hj, rfl, htj⟩ | hl
    · refine ⟨sDist a i j, ?_, ?_⟩
      · rw [X1_has_t s1 hi hti, if_neg n10, X1_has_t s1 hj htj, if_neg n10, X1_dist s1 hi hj hti htj, obp_s]
      · rw [X4_isLamp_t s2 hi hti, obp_s, if_neg n10, X4_isLamp_t s2 hj htj, obp_s, if_neg n10, X4_dist s2 hi hj hti htj, obp_s]
    · refine ⟨-1, ?_, ?_⟩
      · rw [X1_has_t s1 hi hti, if_neg n10, X1_has_f s1 hl, if_pos rfl]
      · rw [X4_isLamp_t s2 hi hti, obp_s, if_neg n10, X4_isLamp_f s2 hl, obp_s, if_pos rfl]
  · refine ⟨-1, ?_, ?_⟩
    · rw [X1_has_f s1 hl, if_pos rfl]
    · rw [X4_isLamp_f s2 hl, obp_s, if_pos rfl]
theorem s_reason : BP sh_X3_reason sh_X4_reason := by
  rintro G ⟨a, h, s1, s2, s3, _⟩
  unfold sh_X3_reason sh_X4_reason
  obtain ⟨c, d1, d2⟩ := X4_lampsOn s2 s3.1
  have hset : sh_X1_setting 0 1 G = some (G 72 ((6 : Int32)).toNatClampNeg) := by
    unfold sh_X1_setting
    rw [if_pos (by decide), tc1, tc6, m_g s2 (by decide)]
    have := s1.2.2.2.2.2 1 (by decide)
    rw [this]
  rcases on_c a with q | ⟨i, hi, ho⟩
  · have ht : ¬ pTog a := fun hh => by
      obtain ⟨⟨i, hi, ho⟩, _⟩ := hh
      rw [q i hi] at ho; cases ho
    refine ⟨1, ?_, ?_⟩
    · rw [(X1_tog s3 s1).2 ht, obp_s, if_pos rfl, lo_0 s1 q, if_pos rfl]
    · rw [d1, obp_s, if_pos (d2.zero.mpr q)]
  · have hd : ¬ c = 0 := fun hh => by
      have := d2.zero.mp hh i hi
      rw [ho] at this; cases this
    by_cases ht : pTog a
    · refine ⟨0, ?_, ?_⟩
      · rw [(X1_tog s3 s1).1 ht, obp_s, if_neg n10]
      · rw [d1, obp_s, if_neg hd, (X4_tog s3 s2).1 ht, obp_s, if_neg n10]
    · by_cases hp : nI (sPcs a 16).1 ≤ 1
      · by_cases hu : pUnl a
        · refine ⟨3, ?_, ?_⟩
          · rw [(X1_tog s3 s1).2 ht, obp_s, if_pos rfl, if_neg (lo_1 s1 hi ho), X1_pieces s1, obp_s, if_pos hp, (X1_unl s3 s1).1 hu, obp_s, if_neg n10]
          · rw [d1, obp_s, if_neg hd, (X4_tog s3 s2).2 ht, obp_s, if_pos rfl, X4_pieces s3 s2, obp_s, if_pos hp, (X4_unl s3 s2).1 hu, obp_s, if_neg n10]
        · refine ⟨if (G 72 ((6 : Int32)).toNatClampNeg) = 0 then 4 else 0, ?_, ?_⟩
          · rw [(X1_tog s3 s1).2 ht, obp_s, if_pos rfl, if_neg (lo_1 s1 hi ho), X1_pieces s1, obp_s, if_pos hp, (X1_unl s3 s1).2 hu, obp_s, if_pos rfl, hset, obp_s]
            split <;> rfl
          · rw [d1, obp_s, if_neg hd, (X4_tog s3 s2).2 ht, obp_s, if_pos rfl, X4_pieces s3 s2, obp_s, if_pos hp, (X4_unl s3 s2).2 hu, obp_s, if_pos rfl]
            split <;> rfl
      · refine ⟨2, ?_, ?_⟩
        · rw [(X1_tog s3 s1).2 ht, obp_s, if_pos rfl, if_neg (lo_1 s1 hi ho), X1_pieces s1, obp_s, if_neg hp]
        · rw [d1, obp_s, if_neg hd, (X4_tog s3 s2).2 ht, obp_s, if_pos rfl, X4_pieces s3 s2, obp_s, if_neg hp]
theorem s_lamp (l m : Int32) : BP (sh_X3_lamp l m) (sh_X4_lamp l m) := by
  rintro G ⟨a, h, s1, s2, s3, _⟩
  unfold sh_X3_lamp sh_X4_lamp
  rcases lamp_c a l with ⟨i, hi, rfl, ht⟩ | hl
  · rw [X1_has_t s1 hi ht, X4_isLamp_t s2 hi ht, obp_s]
    rw [if_neg n10, if_neg n10]
    unfold sh_X1_tellLamp
    have g := gin_16 hi
    have cl := cl16 hi
    by_cases q0 : m = 0
    · refine ⟨aN a 1 i, ?_, ?_⟩
      · rw [if_pos q0, if_pos g, cl, s1.num fld1 hi ht, obp_s]
      · rw [if_pos q0, X4_of1 hi, obp_s]; exact congrArg some (m_n s2 (f := 1) fld1 hi ht)
    rw [if_neg q0, if_neg q0]
    by_cases q1 : m = 1
    · refine ⟨aN a 2 i, ?_, ?_⟩
      · rw [if_pos q1, if_pos g, cl, s1.num fld2 hi ht, obp_s]
      · rw [if_pos q1, X4_of2 hi, obp_s]; exact congrArg some (m_n s2 (f := 2) fld2 hi ht)
    rw [if_neg q1, if_neg q1]
    by_cases q2 : m = 2
    · refine ⟨b2i (aO a i), ?_, ?_⟩
      · rw [if_pos q2, X1_isOn s1 hi]
        cases aO a i
        · rw [if_pos (b_f rfl)]; rfl
        · rw [if_neg (b_t rfl)]; rfl
      · rw [if_pos q2, X4_of3 hi, obp_s, m_o s2 hi ht]
    rw [if_neg q2, if_neg q2]
    by_cases q3 : m = 3
    · refine ⟨aN a 3 i, ?_, ?_⟩
      · rw [if_pos q3, if_pos g, cl, s1.num fld3 hi ht, obp_s]
      · rw [if_pos q3, X4_of4 hi, obp_s]; exact congrArg some (m_n s2 (f := 3) fld3 hi ht)
    rw [if_neg q3, if_neg q3]
    by_cases q4 : m = 4
    · refine ⟨aN a 5 i, ?_, ?_⟩
      · rw [if_pos q4, if_pos g, cl, s1.num fld5 hi ht, obp_s]
      · rw [if_pos q4, X4_of5 hi, obp_s]; exact congrArg some (m_n s2 (f := 5) fld5 hi ht)
    rw [if_neg q4, if_neg q4]
    by_cases q5 : m = 5
    · refine ⟨aN a 6 i, ?_, ?_⟩
      · rw [if_pos q5, if_pos g, cl, s1.num fld6 hi ht, obp_s]
      · rw [if_pos q5, X4_of6 hi, obp_s]; exact congrArg some (m_n s2 (f := 6) fld6 hi ht)
    rw [if_neg q5, if_neg q5]
    by_cases q6 : m = 6
    · refine ⟨G 72 (8 + 9 * i + 8), ?_, ?_⟩
      · rw [if_pos q6, if_pos g, cl, obp_s]
        have e1 := s1.2.2.1 i hi
        rw [e1.eq (m_l s2 hi)]
      · rw [if_pos q6, X4_of8 hi, obp_s]
    rw [if_neg q6, if_neg q6]
    by_cases q7 : m = 7
    · obtain ⟨r, e1, e2⟩ := X1_pc s1 hi
      obtain ⟨r', f1, f2⟩ := X4_pc s3 s2 hi
      refine ⟨r, ?_, ?_⟩
      · rw [if_pos q7, e1, obp_s, obp_s]
      · rw [if_pos q7, f1, obp_s, e2.eq f2]
    rw [if_neg q7, if_neg q7]
    by_cases q8 : m = 8
    · obtain ⟨r, e1, e2⟩ := X1_agree s3 s1 hi
      obtain ⟨r', f1, f2⟩ := X4_agree s3 s2 hi
      refine ⟨r, ?_, ?_⟩
      · rw [if_pos q8, e1, obp_s, obp_s]
      · rw [if_pos q8, f1, obp_s, e2.eq f2]
    rw [if_neg q8, if_neg q8]
    by_cases q9 : m = 9
    · refine ⟨aN a 7 i, ?_, ?_⟩
      · rw [if_pos q9, if_pos g, cl, s1.num fld7 hi ht, obp_s]
      · rw [if_pos q9, X4_of7 hi, obp_s]; exact congrArg some (m_n s2 (f := 7) fld7 hi ht)
    rw [if_neg q9, if_neg q9, obp_s]
    exact ⟨-2, rfl, rfl⟩
  · rw [X1_has_f s1 hl, if_pos rfl, X4_isLamp_f s2 hl, obp_s, if_pos rfl]
    exact ⟨-1, rfl, rfl⟩
theorem s_count (m : Int32) : BP (sh_X3_count m) (sh_X4_count m) := by
  rintro G ⟨a, h, s1, s2, s3, s4, s5, s6, s7, n, T, t2, t4⟩
  unfold sh_X3_count sh_X4_count sh_X1_tellMesh
  have gl : ∀ j, j < 5 → G 0 (10 + j) = aG a j := fun j hj => s1.2.2.2.2.1 j hj
  have gs : ∀ j, j < 3 → G 8 j = aG a (5 + j) := fun j hj => s1.2.2.2.2.2 j hj
  have mg : ∀ j, j < 8 → G 72 j = aG a j := fun j hj => m_g s2 hj
  by_cases q0 : m = 0
  · subst q0
    exact ⟨G 72 0, by rw [if_neg (by decide), if_neg (by decide), if_pos rfl, obp_s, mg 0 (by decide)]; exact congrArg some (gl 0 (by decide)), by rw [if_pos rfl, tc0]⟩
  by_cases q1 : m = 1
  · subst q1
    obtain ⟨r, c1, c2⟩ := X4_lamps s2
    exact ⟨nI (cnt (aT a) 16), by rw [if_neg (by decide), if_neg (by decide), if_neg (by decide), if_pos rfl, obp_s, X1_lamps s1], by rw [if_neg (by decide), if_pos rfl, c1, obp_s, bits_eq c2, obp_s]⟩
  by_cases q2 : m = 2
  · subst q2
    obtain ⟨r, c1, c2⟩ := X4_lampsOn s2 s3.1
    exact ⟨nI (cnt (aO a) 16), by rw [if_neg (by decide), if_neg (by decide), if_neg (by decide), if_neg (by decide), if_pos rfl, obp_s, X1_lampsOn s1], by rw [if_neg (by decide), if_neg (by decide), if_pos rfl, c1, obp_s, bits_eq c2, obp_s]⟩
  by_cases q3 : m = 3
  · subst q3
    refine ⟨_, by rw [if_neg (by decide), if_neg (by decide), if_neg (by decide), if_neg (by decide), if_neg (by decide), if_pos rfl, X1_links s1, obp_s, obp_s], by rw [if_neg (by decide), if_neg (by decide), if_neg (by decide), if_pos rfl, X4_links s2, obp_s]⟩
  by_cases q4 : m = 4
  · subst q4
    refine ⟨_, by rw [if_neg (by decide), if_neg (by decide), if_neg (by decide), if_neg (by decide), if_neg (by decide), if_neg (by decide), if_pos rfl, X1_pieces s1, obp_s, obp_s], by rw [if_neg (by decide), if_neg (by decide), if_neg (by decide), if_neg (by decide), if_pos rfl, X4_pieces s3 s2, obp_s]⟩
  by_cases q5 : m = 5
  · subst q5
    exact ⟨G 72 1, by simp only [show ((5 : Int32) = 12) = False by decide, show ((5 : Int32) = 13) = False by decide, show ((5 : Int32) = 0) = False by decide, show ((5 : Int32) = 1) = False by decide, show ((5 : Int32) = 2) = False by decide, show ((5 : Int32) = 3) = False by decide, show ((5 : Int32) = 4) = False by decide, if_false, if_true, obp_s]; rw [mg 1 (by decide)]; exact congrArg some (gl 1 (by decide)), rfl⟩
  by_cases q6 : m = 6
  · subst q6
    exact ⟨G 72 2, by show some (G 0 12) = _; rw [mg 2 (by decide)]; exact congrArg some (gl 2 (by decide)), rfl⟩
  by_cases q7 : m = 7
  · subst q7
    exact ⟨G 72 3, by show some (G 0 13) = _; rw [mg 3 (by decide)]; exact congrArg some (gl 3 (by decide)), rfl⟩
  by_cases q8 : m = 8
  · subst q8
    exact ⟨G 72 4, by show some (G 0 14) = _; rw [mg 4 (by decide)]; exact congrArg some (gl 4 (by decide)), rfl⟩
  by_cases q9 : m = 9
  · subst q9
    exact ⟨G 72 5, by show some (G 8 0) = _; rw [mg 5 (by decide)]; exact congrArg some (gs 0 (by decide)), rfl⟩
  by_cases q10 : m = 10
  · subst q10
    exact ⟨G 72 6, by show some (G 8 1) = _; rw [mg 6 (by decide)]; exact congrArg some (gs 1 (by decide)), rfl⟩
  by_cases q11 : m = 11
  · subst q11
    exact ⟨G 72 7, by show some (G 8 2) = _; rw [mg 7 (by decide)]; exact congrArg some (gs 2 (by decide)), rfl⟩
  by_cases q12 : m = 12
  · subst q12
    exact ⟨G 71 2, by show some (G 63 1) = _; rw [s4.2.1, s5.2.1], rfl⟩
  by_cases q13 : m = 13
  · subst q13
    exact ⟨G 71 7, by show some (G 65 1) = _; rw [t2.1, t4.1], rfl⟩
  rw [if_neg q12, if_neg q13]
  rw [if_neg q0, if_neg q1, if_neg q2, if_neg q3, if_neg q4, if_neg q5, if_neg q6, if_neg q7, if_neg q8, if_neg q9, if_neg q10, if_neg q11]
  rw [if_neg q0, if_neg q1, if_neg q2, if_neg q3, if_neg q4, if_neg q5, if_neg q6, if_neg q7, if_neg q8, if_neg q9, if_neg q10, if_neg q11, if_neg q12, if_neg q13, obp_s]
  exact ⟨-2, rfl, rfl⟩
