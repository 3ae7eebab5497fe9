-- the calls that change the mesh
theorem del_wf {a : AM} {i : Nat} (hw : wf a) : wf (sDel a i) := by
  obtain ⟨w1, w2, w3, w4, w5⟩ := hw
  refine ⟨fun r hr ho => ?_, fun r s hr hs => ?_, fun r s hr hs hl => ?_, fun r hr ht => ?_, w5⟩
  · have ho' : (aO a r && !decide (r = i)) = true := ho
    show (aT a r && !decide (r = i)) = true
    rw [Bool.and_eq_true] at ho' ⊢
    exact ⟨w1 r hr ho'.1, ho'.2⟩
  · show (if r = i then false else aL a r s && !decide (s = i)) = (if s = i then false else aL a s r && !decide (r = i))
    by_cases q1 : r = i
    · by_cases q2 : s = i
      · simp [q1, q2]
      · simp [q1, q2]
    · by_cases q2 : s = i
      · simp [q1, q2]
      · simp [q1, q2, w2 r s hr hs]
  · have hl' : (if r = i then false else aL a r s && !decide (s = i)) = true := hl
    show (aT a r && !decide (r = i)) = true
    by_cases q1 : r = i
    · rw [if_pos q1] at hl'; cases hl'
    · rw [if_neg q1, Bool.and_eq_true] at hl'
      simp [q1, w3 r s hr hs hl'.1]
  · have ht' : (aT a r && !decide (r = i)) = true := ht
    rw [Bool.and_eq_true] at ht'
    exact w4 r hr ht'.1
theorem s_goAway (l : Int32) : BO (sh_X3_goAway l) (sh_X4_goAway l) := by
  rintro G ⟨a, h, S⟩
  have S' := S
  obtain ⟨s1, s2, s3, _⟩ := S
  unfold sh_X3_goAway
  rcases lamp_c a l with ⟨i, hi, rfl, ht⟩ | hl
  · rw [X1_has_t s1 hi ht, if_neg (by decide)]
    obtain ⟨G1, e1, e2, e3, e4, e5⟩ := mutt S'
    obtain ⟨G2, f1, f2, f3⟩ := X1_remove e2 hi
    rw [e1, obv_s, f1, obi_s]
    obtain ⟨t2, G3, g1, g2, g3, g4, g5⟩ := e5 G2 _ f3 f2
    obtain ⟨G4, k1, k2, k3⟩ := X4_goAway_in hi s3.1 g2
    refine ⟨_, G2, G4, rfl, ?_, _, _, g5 G4 k3 k2 (del_wf s3)⟩
    unfold sh_X4_goAway
    rw [X4_isLamp_t t2 hi ht, obp_s, if_neg (by decide), g1, obv_s]
    exact k1
  · rw [X1_has_f s1 hl, if_pos rfl]
    refine ⟨-1, G, G, rfl, ?_, a, h, S'⟩
    unfold sh_X4_goAway
    rw [X4_isLamp_f s2 hl, obp_s, if_pos rfl]
theorem on_wf {a : AM} {i : Nat} {b : Bool} (hw : wf a) (ht : aT a i = true) : wf (sOn a i b) := by
  obtain ⟨w1, w⟩ := hw
  refine ⟨fun r hr ho => ?_, w⟩
  have ho' : (if r = i then b else aO a r) = true := ho
  by_cases q : r = i
  · rw [q]; exact ht
  · rw [if_neg q] at ho'; exact w1 r hr ho'
theorem b2i_inj {b c : Bool} (h : b2i b = b2i c) : b = c := by revert h; cases b <;> cases c <;> decide
theorem s_turn (l : Int32) (b : Bool) : BO (sh_X3_turn l (b2i b)) (sh_X4_turn l (b2i b)) := by
  rintro G ⟨a, h, S⟩
  have S' := S
  obtain ⟨s1, s2, s3, _⟩ := S
  unfold sh_X3_turn
  rcases lamp_c a l with ⟨i, hi, rfl, ht⟩ | hl
  · rw [X1_has_t s1 hi ht, if_neg (by decide), X1_isOn s1 hi]
    by_cases q : aO a i = b
    · rw [if_pos (by rw [q])]
      refine ⟨-5, G, G, rfl, ?_, a, h, S'⟩
      unfold sh_X4_turn
      rw [X4_isLamp_t s2 hi ht, obp_s, if_neg (by decide), X4_isOn s2 s3.1 hi, obp_s, if_pos (by rw [q])]
    · have q' : ¬ b2i (aO a i) = b2i b := fun hh => q (b2i_inj hh)
      rw [if_neg q']
      obtain ⟨G1, e1, e2, e3, e4, e5⟩ := mutt S'
      obtain ⟨G2, f1, f2, f3⟩ := X1_switch (b := b) e2 hi
      rw [e1, obv_s, f1, obv_s, X1_lampsOn f2]
      obtain ⟨t2, G3, g1, g2, g3, g4, g5⟩ := e5 G2 _ f3 f2
      have k2 : M2 (gu G3 72 (8 + 9 * i + 3) (b2i b)) (sOn a i b) := g2.o (b := b) hi
      have hwf := on_wf (b := b) s3 ht
      obtain ⟨r, c1, c2⟩ := X4_lampsOn k2 hwf.1
      refine ⟨_, G2, _, rfl, ?_, _, _, g5 (gu G3 72 (8 + 9 * i + 3) (b2i b)) frq.rf.gu k2 hwf⟩
      have fin : sh_X4_turn_j38 (nI i) 3 (b2i b) G3 = some (nI (cnt (aO (sOn a i b)) 16), gu G3 72 (8 + 9 * i + 3) (b2i b)) := by
        unfold sh_X4_turn_j38
        rw [X4_put3 hi, obv_s, c1, obp_s, bits_eq c2, obp_s]
      unfold sh_X4_turn
      rw [X4_isLamp_t t2 hi ht, obp_s, if_neg (by decide), X4_isOn t2 s3.1 hi, obp_s, if_neg q', g1, obv_s]
      cases b
      · rw [if_pos (b_f rfl)]; exact fin
      · rw [if_neg (b_t rfl)]; exact fin
  · rw [X1_has_f s1 hl, if_pos rfl]
    refine ⟨-1, G, G, rfl, ?_, a, h, S'⟩
    unfold sh_X4_turn
    rw [X4_isLamp_f s2 hl, obp_s, if_pos rfl]
theorem s_link (l m : Int32) (b : Bool) : BO (sh_X3_link l m (b2i b)) (sh_X4_link l m (b2i b)) := by
  rintro G ⟨a, h, S⟩
  have S' := S
  obtain ⟨s1, s2, s3, _⟩ := S
  unfold sh_X3_link
  rcases lamp_c a l with ⟨i, hi, rfl, hti⟩ | hl
  · rw [X1_has_t s1 hi hti, if_neg (by decide)]
    rcases lamp_c a m with ⟨j, hj, rfl, htj⟩ | hl
    · rw [X1_has_t s1 hj htj, if_neg (by decide)]
      by_cases q0 : nI i = nI j
      · rw [if_pos q0]
        refine ⟨-2, G, G, rfl, ?_, a, h, S'⟩
        unfold sh_X4_link
        rw [X4_isLamp_t s2 hi hti, obp_s, if_neg (by decide), X4_isLamp_t s2 hj htj, obp_s, if_neg (by decide), if_pos q0]
      · have hij : i ≠ j := fun hh => q0 (by rw [hh])
        rw [if_neg q0, X1_isLinked s1 hi hj, obp_s]
        by_cases q : aL a i j = b
        · rw [if_pos (by rw [q])]
          refine ⟨-5, G, G, rfl, ?_, a, h, S'⟩
          unfold sh_X4_link
          rw [X4_isLamp_t s2 hi hti, obp_s, if_neg (by decide), X4_isLamp_t s2 hj htj, obp_s, if_neg (by decide), if_neg q0, X4_of8 hi, obp_s, X4_hasl s2 hi hj, if_pos (by rw [q])]
        · have q' : ¬ b2i (aL a i j) = b2i b := fun hh => q (b2i_inj hh)
          rw [if_neg q']
          obtain ⟨G1, e1, e2, e3, e4, e5⟩ := mutt S'
          obtain ⟨G2, f1, f2, f3⟩ := X1_link (b := b) e2 hi hj hij
          rw [e1, obv_s, f1, obv_s, X1_links f2, obp_s]
          obtain ⟨t2, G3, g1, g2, g3, g4, g5⟩ := e5 G2 _ f3 f2
          obtain ⟨G4, k1, k2, k3⟩ := X4_connect (b := b) g2 hi hj hij
          refine ⟨_, G2, G4, rfl, ?_, _, _, g5 G4 k3 k2 (wf_link s3 hi hj hti htj)⟩
          unfold sh_X4_link
          rw [X4_isLamp_t t2 hi hti, obp_s, if_neg (by decide), X4_isLamp_t t2 hj htj, obp_s, if_neg (by decide), if_neg q0, X4_of8 hi, obp_s, X4_hasl t2 hi hj, if_neg q', g1, obv_s, k1, obv_s, X4_links k2, obp_s]
    · rw [X1_has_f s1 hl, if_pos rfl]
      refine ⟨-1, G, G, rfl, ?_, a, h, S'⟩
      unfold sh_X4_link
      rw [X4_isLamp_t s2 hi hti, obp_s, if_neg (by decide), X4_isLamp_f s2 hl, obp_s, if_pos rfl]
  · rw [X1_has_f s1 hl, if_pos rfl]
    refine ⟨-1, G, G, rfl, ?_, a, h, S'⟩
    unfold sh_X4_link
    rw [X4_isLamp_f s2 hl, obp_s, if_pos rfl]
theorem tune_wf {a : AM} {i : Nat} {ph rt : Int32} (hw : wf a) (h1 : 0 ≤ ph.toInt) (h2 : ph.toInt < 100 * (aG a 5).toInt) (h3 : 50 ≤ rt.toInt) (h4 : rt.toInt ≤ 150) : wf (sTune a i ph rt) := by
  obtain ⟨w1, w2, w3, w4, w5⟩ := hw
  refine ⟨w1, w2, w3, fun r hr ht => ?_, w5⟩
  have := w4 r hr ht
  show 0 ≤ (if (1 : Nat) = 2 ∧ r = i then rt else if (1 : Nat) = 1 ∧ r = i then ph else aN a 1 r : Int32).toInt ∧ (if (1 : Nat) = 2 ∧ r = i then rt else if (1 : Nat) = 1 ∧ r = i then ph else aN a 1 r : Int32).toInt < 100 * (aG a 5).toInt ∧ 50 ≤ (if (2 : Nat) = 2 ∧ r = i then rt else if (2 : Nat) = 1 ∧ r = i then ph else aN a 2 r : Int32).toInt ∧ (if (2 : Nat) = 2 ∧ r = i then rt else if (2 : Nat) = 1 ∧ r = i then ph else aN a 2 r : Int32).toInt ≤ 150 ∧ 0 ≤ (if (3 : Nat) = 2 ∧ r = i then rt else if (3 : Nat) = 1 ∧ r = i then ph else aN a 3 r : Int32).toInt
  by_cases q : r = i
  · simp [q]; rw [q] at this; exact ⟨h1, h2, h3, h4, this.2.2.2.2⟩
  · simp [q]; exact this
theorem s_tune (l l2 l3 : Int32) : BO (sh_X3_tune l l2 l3) (sh_X4_tune l l2 l3) := by
  rintro G ⟨a, h, S⟩
  have S' := S
  obtain ⟨s1, s2, s3, _⟩ := S
  have hg5 : ∀ G', M2 G' a → G' 72 5 = aG a 5 := fun G' hh => m_g hh (by decide)
  unfold sh_X3_tune
  rcases lamp_c a l with ⟨i, hi, rfl, ht⟩ | hl
  · rw [X1_has_t s1 hi ht, if_neg (by decide)]
    rcases wp_eq s1 s3 l2 with ⟨w1, w2⟩ | ⟨w1, w2, w3, w4⟩
    · rw [w1, obp_s, if_pos rfl]
      refine ⟨-2, G, G, rfl, ?_, a, h, S'⟩
      unfold sh_X4_tune
      rw [X4_isLamp_t s2 hi ht, obp_s, if_neg (by decide), tc5, hg5 G s2, w2, if_pos rfl]
    · rw [w1, obp_s, if_neg (by decide)]
      rcases rt_eq l3 with ⟨r1, r2⟩ | ⟨r1, r2, r3, r4⟩
      · rw [r1, if_pos rfl]
        refine ⟨-2, G, G, rfl, ?_, a, h, S'⟩
        unfold sh_X4_tune
        rw [X4_isLamp_t s2 hi ht, obp_s, if_neg (by decide), tc5, hg5 G s2, w2, if_neg (by decide), r2, if_pos rfl]
      · rw [r1, if_neg (by decide)]
        have p2 : (aG a 5).toInt ≤ 200 := s3.2.2.2.2.2.1
        obtain ⟨G1, e1, e2, e3, e4, e5⟩ := mutt S'
        obtain ⟨G2, f1, f2, f3⟩ := X1_tune (ph := l2) (rt := l3) e2 hi ht
        rw [e1, obv_s, f1, obi_s]
        obtain ⟨t2, G3, g1, g2, g3, g4, g5⟩ := e5 G2 _ f3 f2
        have k1 : M2 (gu G3 72 (8 + 9 * i + 1) (l2 * 100)) (mN a 1 i (l2 * 100)) := g2.n (f := 1) fld1 hi
        have k2 : M2 (gu (gu G3 72 (8 + 9 * i + 1) (l2 * 100)) 72 (8 + 9 * i + 2) l3) (sTune a i (l2 * 100) l3) := k1.n (f := 2) fld2 hi
        refine ⟨_, G2, _, rfl, ?_, _, _, g5 _ (frq.rf.gu.gu) k2 (tune_wf s3 ?_ ?_ r3 r4)⟩
        · unfold sh_X4_tune
          have hn : G3 72 (8 + 9 * i + 1) = aN a 1 i := m_n g2 (f := 1) fld1 hi ht
          rw [X4_isLamp_t t2 hi ht, obp_s, if_neg (by decide), tc5, hg5 G2 t2, w2, if_neg (by decide), r2, if_neg (by decide), g1, obv_s, X4_of1 hi, obp_s, X4_put1 hi, obv_s, X4_put2 hi, obv_s, hn, Int32.mul_comm]
        · rw [i100 w3 (by omega)]; omega
        · rw [i100 w3 (by omega)]; omega
  · rw [X1_has_f s1 hl, if_pos rfl]
    refine ⟨-1, G, G, rfl, ?_, a, h, S'⟩
    unfold sh_X4_tune
    rw [X4_isLamp_f s2 hl, obp_s, if_pos rfl]
theorem s_pass (l : Int32) : BO (sh_X3_pass l) (sh_X4_pass l) := by
  rintro G ⟨a, h, S⟩
  have S' := S
  obtain ⟨s1, s2, s3, _⟩ := S
  have hg0 : ∀ {G' : gG} {b : AM}, M2 G' b → G' 72 0 = aG b 0 := fun hh => m_g hh (by decide)
  have hg1 : ∀ {G' : gG} {b : AM}, M2 G' b → G' 72 1 = aG b 1 := fun hh => m_g hh (by decide)
  have ht0 : ∀ {G' : gG} {b : AM}, R1 G' 0 b → sh_X1_tickNumber 0 G' = aG b 0 := fun hh => hh.2.2.2.2.1 0 (by decide)
  have ht1 : ∀ {G' : gG} {b : AM}, R1 G' 0 b → sh_X1_allBlinks 0 G' = aG b 1 := fun hh => hh.2.2.2.2.1 1 (by decide)
  unfold sh_X3_pass
  by_cases q1 : l < 1
  · rw [if_pos q1]
    refine ⟨-2, G, G, rfl, ?_, a, h, S'⟩
    unfold sh_X4_pass
    rw [X4_in_f (Or.inl q1), if_pos rfl]
  · rw [if_neg q1]
    by_cases q2 : l ≤ 999
    · rw [if_pos q2, ht0 s1]
      have q2' : ¬ (999 : Int32) < l := by rw [I_lt]; rw [I_le] at q2; omega
      have h0 : ¬ l < 0 := by
        rw [I_lt] at q1 ⊢
        have e1 : (1 : Int32).toInt = 1 := by decide
        have e0 : (0 : Int32).toInt = 0 := by decide
        omega
      by_cases q3 : (aG a 0 + l) ≤ 99999
      · rw [if_pos q3]
        obtain ⟨m, hm, rfl⟩ := nI_of2 (n := 999) (by decide) h0 q2
        obtain ⟨G1, e1, e2, e3, e4, e5⟩ := mutt S'
        obtain ⟨G2, f1, f2, f3⟩ := X1_pass (m := m) (by omega) s3 e2
        rw [e1, obv_s, f1, obv_s, ht1 f2, ht1 e2]
        obtain ⟨t2, G3, g1, g2, g3, g4, g5⟩ := e5 G2 _ f3 f2
        obtain ⟨G4, k1, k2, k3⟩ := X4_goOn (m := m) (by omega) s3 g2
        refine ⟨_, G2, G4, rfl, ?_, _, _, g5 G4 k3 k2 (tickN_wf m s3)⟩
        unfold sh_X4_pass
        rw [X4_in_t q1 q2', if_neg (by decide), tc0, tc1, hg0 t2, if_pos q3, g1, obv_s, k1, obv_s, hg1 k2, hg1 g2]
      · rw [if_neg q3]
        refine ⟨-3, G, G, rfl, ?_, a, h, S'⟩
        unfold sh_X4_pass
        rw [X4_in_t q1 q2', if_neg (by decide), tc0, hg0 s2, if_neg q3]
    · rw [if_neg q2]
      refine ⟨-2, G, G, rfl, ?_, a, h, S'⟩
      unfold sh_X4_pass
      rw [X4_in_f (Or.inr (by rw [I_lt]; rw [I_le] at q2; omega)), if_pos rfl]
