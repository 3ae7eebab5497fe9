-- set, and what a text tells
theorem fit_wf {b : AM} (h1 : ∀ i, i < 16 → aO b i = true → aT b i = true) (h2 : ∀ i j, i < 16 → j < 16 → aL b i j = aL b j i) (h3 : ∀ i j, i < 16 → j < 16 → aL b i j = true → aT b i = true) (h4 : ∀ i, i < 16 → aT b i = true → 0 ≤ (aN b 1 i).toInt ∧ 50 ≤ (aN b 2 i).toInt ∧ (aN b 2 i).toInt ≤ 150 ∧ 0 ≤ (aN b 3 i).toInt) (h5 : 10 ≤ (aG b 5).toInt ∧ (aG b 5).toInt ≤ 200 ∧ 0 ≤ (aG b 6).toInt ∧ (aG b 6).toInt ≤ 100 ∧ 0 ≤ (aG b 7).toInt ∧ (aG b 7).toInt ≤ 99) : wf (sFit b) ∧ 0 < (sFull b).toInt := by
  have hf : (sFull b).toInt = (aG b 5).toInt * 100 := i100 (by omega) (by omega)
  refine ⟨⟨h1, h2, h3, fun i hi ht => ?_, h5⟩, by omega⟩
  obtain ⟨g1, g2, g3, g4⟩ := h4 i hi ht
  have e1 : (1 : Int32).toInt = 1 := by decide
  refine ⟨?_, ?_, g2, g3, g4⟩
  · show 0 ≤ (if aN b 1 i < sFull b then aN b 1 i else sFull b - 1).toInt
    split
    · exact g1
    · rw [I_sub (by omega) (by omega)]; omega
  · show (if aN b 1 i < sFull b then aN b 1 i else sFull b - 1).toInt < 100 * (aG b 5).toInt
    split
    · rename_i q
      rw [I_lt] at q; omega
    · rw [I_sub (by omega) (by omega)]; omega
theorem set_wf {a : AM} {j : Nat} {x : Int32} (hw : wf a) (hj : j < 3) (h1 : (lstT j).toInt ≤ x.toInt) (h2 : x.toInt ≤ (grtT j).toInt) : wf (sSet a j x) ∧ 0 < (sFull (mG a (5 + j) x)).toInt := by
  obtain ⟨w1, w2, w3, w4, w5, w6, w7, w8, w9, w10⟩ := hw
  refine fit_wf w1 w2 w3 (fun i hi ht => ⟨(w4 i hi ht).1, (w4 i hi ht).2.2⟩) ?_
  have l0 : (lstT 0).toInt = 10 := by decide
  have l1 : (lstT 1).toInt = 0 := by decide
  have l2 : (lstT 2).toInt = 0 := by decide
  have u0 : (grtT 0).toInt = 200 := by decide
  have u1 : (grtT 1).toInt = 100 := by decide
  have u2 : (grtT 2).toInt = 99 := by decide
  show 10 ≤ (if 5 = 5 + j then x else aG a 5 : Int32).toInt ∧ (if 5 = 5 + j then x else aG a 5 : Int32).toInt ≤ 200 ∧ 0 ≤ (if 6 = 5 + j then x else aG a 6 : Int32).toInt ∧ (if 6 = 5 + j then x else aG a 6 : Int32).toInt ≤ 100 ∧ 0 ≤ (if 7 = 5 + j then x else aG a 7 : Int32).toInt ∧ (if 7 = 5 + j then x else aG a 7 : Int32).toInt ≤ 99
  rcases (show j = 0 ∨ j = 1 ∨ j = 2 by omega) with rfl | rfl | rfl
  · simp; omega
  · simp; omega
  · simp; omega
theorem X4_set_e {j : Nat} (hj : j < 3) (l2 : Int32) (G : gG) : sh_X4_set (nI j) l2 G = sh_X4_set_j44 (nI j) l2 (sh_X4_in l2 (lstT j) (grtT j)) G := by
  unfold sh_X4_set
  rcases (show j = 0 ∨ j = 1 ∨ j = 2 by omega) with rfl | rfl | rfl
  · rw [if_neg (by decide), if_pos (by decide)]; rfl
  · rw [if_neg (by decide), if_neg (by decide), if_pos (by decide)]; rfl
  · rw [if_neg (by decide), if_neg (by decide), if_neg (by decide)]; rfl
theorem s_set (l1 l2 : Int32) : BO (sh_X3_set l1 l2) (sh_X4_set l1 l2) := by
  rintro G ⟨a, h, S⟩
  have S' := S
  obtain ⟨s1, s2, s3, _⟩ := S
  unfold sh_X3_set
  rcases pk_ix l1 (n := 3) (by decide) with q | q | ⟨j, hj, rfl⟩
  · rw [if_pos q]
    refine ⟨-1, G, G, rfl, ?_, a, h, S'⟩
    unfold sh_X4_set
    rw [X4_in_f (Or.inl q), if_pos rfl]
  · have q' : (3 : Int32) ≤ l1 := q
    rw [I_le] at q'
    have e3 : (3 : Int32).toInt = 3 := by decide
    have e2 : (2 : Int32).toInt = 2 := by decide
    have e0 : (0 : Int32).toInt = 0 := by decide
    rw [if_neg (show ¬ l1 < 0 by rw [I_lt]; omega), if_neg (show ¬ l1 < 3 by rw [I_lt]; omega)]
    refine ⟨-1, G, G, rfl, ?_, a, h, S'⟩
    unfold sh_X4_set
    rw [X4_in_f (Or.inr (by rw [I_lt]; omega)), if_pos rfl]
  · rw [if_neg (nI_pos (by omega)), if_pos (show nI j < 3 from nI_lt hj (by decide)), if_pos (gin_n hj (by decide)), nI_clamp (by omega)]
    by_cases q1 : l2 < lstT j
    · rw [if_pos q1]
      refine ⟨-2, G, G, rfl, ?_, a, h, S'⟩
      rw [X4_set_e hj, X4_in_f (Or.inl q1)]
      unfold sh_X4_set_j44
      rw [if_pos rfl]
    · rw [if_neg q1]
      by_cases q2 : l2 ≤ grtT j
      · have q2' : ¬ grtT j < l2 := by rw [I_lt]; rw [I_le] at q2; omega
        have hset : sh_X1_setting 0 (nI j) G = some (aG a (5 + j)) := by
          unfold sh_X1_setting
          rw [if_pos (gin_n hj (by decide)), nI_clamp (by omega)]
          have := s1.2.2.2.2.2 j hj
          rw [this]
        have h5j : ((5 : Int32) + nI j) = nI (5 + j) := by rw [show (5 : Int32) = nI 5 from rfl, nI_add]
        rw [if_pos q2, hset, obp_s]
        by_cases q3 : aG a (5 + j) = l2
        · rw [if_pos q3]
          refine ⟨-5, G, G, rfl, ?_, a, h, S'⟩
          rw [X4_set_e hj, X4_in_t q1 q2']
          unfold sh_X4_set_j44
          rw [if_neg (by decide), h5j, if_pos (gin_n (by omega) (by decide)), nI_clamp (by omega), bni_s, m_g s2 (by omega), if_pos q3]
        · rw [if_neg q3]
          rw [I_lt] at q1
          rw [I_le] at q2
          obtain ⟨hwf, hf⟩ := set_wf (x := l2) s3 hj (by omega) q2
          obtain ⟨G1, e1, e2, e3, e4, e5⟩ := mutt S'
          obtain ⟨G2, f1, f2, f3⟩ := X1_set (x := l2) e2 hj hf
          rw [e1, obv_s, f1, obi_s]
          obtain ⟨t2, G3, g1, g2, g3, g4, g5⟩ := e5 G2 _ f3 f2
          have k1 : M2 (gu G3 72 (5 + j) l2) (mG a (5 + j) l2) := g2.g (by omega)
          obtain ⟨G4, i1, i2, i3⟩ := X4_set_l hf (aG a (5 + j)) k1
          refine ⟨_, G2, G4, rfl, ?_, _, _, g5 G4 (frq.trans frq.rf.gu i3) i2 hwf⟩
          rw [X4_set_e hj, X4_in_t (by rw [I_lt]; omega) q2']
          unfold sh_X4_set_j44
          rw [if_neg (by decide), h5j, if_pos (gin_n (by omega) (by decide)), nI_clamp (by omega), bni_s, m_g t2 (by omega), if_neg q3, g1, obv_s, bng_s]
          exact i1
      · rw [if_neg q2]
        refine ⟨-2, G, G, rfl, ?_, a, h, S'⟩
        rw [X4_set_e hj, X4_in_f (Or.inr (by rw [I_lt]; rw [I_le] at q2; omega))]
        unfold sh_X4_set_j44
        rw [if_pos rfl]
theorem F2_sim {G G' : gG} {a : AM} {h : List AM} {n p : Nat} {T : Nat → Nat} (S : SIM G a h) (f : F2 G G' n T p) : SIM G' a h := by
  obtain ⟨s1, s2, s3, s4, s5, s6, s7, s8⟩ := S
  obtain ⟨f1, f2, f3, f4, f5, f6⟩ := f
  exact ⟨s1.fr (fun c c1 c2 => f4 c (by omega)), s2.fr (f4 72 (by omega)), s3, s4.fr (fun c c1 c2 => f4 c (by omega)), s5.fr (by rw [f4 71 (by omega)]) (f4 73 (by omega)), s6, s7.fr (by rw [f4 70 (by omega)]) (by rw [f4 71 (by omega)]) (fun c c1 c2 => f4 c (by omega)) (f4 74 (by omega)), s8.fr (f5 1 (by decide) (by decide)) f6 (by rw [f4 71 (by omega)]) (f4 76 (by omega))⟩
theorem F4_sim {G G' : gG} {a : AM} {h : List AM} {n p : Nat} {T : Nat → Nat} (S : SIM G a h) (f : F4 G G' n T p) : SIM G' a h := by
  obtain ⟨s1, s2, s3, s4, s5, s6, s7, s8⟩ := S
  obtain ⟨f1, f2, f3, f4, f5⟩ := f
  have hc : ∀ c, c ≠ 71 → c < 77 → G' c = G c := fun c c1 c2 => f4 c c1 (by omega) (by omega) (by omega)
  exact ⟨s1.fr (fun c c1 c2 => hc c (by omega) (by omega)), s2.fr (hc 72 (by omega) (by omega)), s3, s4.fr (fun c c1 c2 => hc c (by omega) (by omega)), s5.fr (f5 2 (by decide) (by decide)) (hc 73 (by omega) (by omega)), s6, s7.fr (by rw [hc 70 (by omega) (by omega)]) (f5 4 (by decide) (by decide)) (fun c c1 c2 => hc c (by omega) (by omega)) (hc 74 (by omega) (by omega)), s8.fr (by rw [hc 65 (by omega) (by omega)]) (hc 66 (by omega) (by omega)) (f5 7 (by decide) (by decide)) (hc 76 (by omega) (by omega))⟩
theorem some_b {b c : Bool} {G G' : gG} (h : some (b2i b, G) = some (b2i c, G')) : b = c ∧ G = G' := by
  have h1 := Option.some.inj h
  exact ⟨b2i_inj (congrArg Prod.fst h1), congrArg Prod.snd h1⟩
theorem cnt_lowm {c : Nat} : ∀ m : Nat, cnt (fun r => decide (r < c)) m = min c m
  | 0 => by simp [cnt]
  | m + 1 => by
    simp only [cnt]
    rw [cnt_lowm m]
    by_cases q : m < c
    · rw [decide_eq_true q]; simp; omega
    · rw [decide_eq_false q]; simp; omega
theorem cnt_low {c m : Nat} (h : c ≤ m) : cnt (fun r => decide (r < c)) m = c := by rw [cnt_lowm]; omega
theorem s_read : BO sh_X3_readMesh sh_X4_readMesh := by
  rintro G ⟨a, h, S⟩
  have S' := S
  obtain ⟨s1, s2, s3, s4, s5, s6, s7, n, T, t2, t4⟩ := S
  obtain ⟨ok, p, Ga, _, c, ph, rt, lk, e2, _, f2, _, rd⟩ := parse t2 t4
  have Sa := F2_sim S' f2
  unfold sh_X3_readMesh
  rw [e2, obi_s]
  cases ok
  · rw [if_pos (b_f rfl)]
    have t4a : tx4 Ga n T := t4.w (by rw [f2.2.2.2.1 71 (by omega)]) (f2.2.2.2.1 76 (by omega))
    obtain ⟨ok', p', Ga', Gb', c', ph', rt', lk', e2', e4', f2', f4', _⟩ := parse t2 t4a
    rw [e2] at e2'
    obtain ⟨rfl, rfl⟩ := some_b e2'
    have hp : nI p = nI p' := f2.2.2.1.symm.trans f2'.2.2.1
    have hr : sh_X2_fault Ga = nI p := f2.2.2.1
    rw [hr]
    refine ⟨_, Ga, Gb', rfl, ?_, a, h, F4_sim Sa f4'⟩
    unfold sh_X4_readMesh
    rw [e4', obi_s, if_pos (b_f rfl), f4'.2.2.1, hp]
  · rw [if_neg (b_t rfl)]
    obtain ⟨c1, c2, d1, d2, d3, d4, d5, d6, d7, d8⟩ := rd rfl
    obtain ⟨G1, i1, i2, i3, i4, i5⟩ := mut9 Sa
    rw [i1, obv_s]
    obtain ⟨G2, j1, j2, j3⟩ := X2_build s3 c2 (by rw [i3 65 (by omega)]; exact d1) (fun k hk => by rw [i3 67 (by omega), i3 68 (by omega)]; exact d3 k hk) (fun k hk => by rw [i3 69 (by omega)]; exact d5 k hk) d7 i2
    rw [j1, obv_s, X1_lamps j2]
    have hc2 : ∀ c, 70 ≤ c → G2 c = G c := fun c hc => by rw [j3 c (by omega), i3 c (by omega), f2.2.2.2.1 c (by omega)]
    have t4a : tx4 G2 n T := t4.w (by rw [hc2 71 (by omega)]) (hc2 76 (by omega))
    obtain ⟨ok', p', Ga', Gb, c', ph', rt', lk', e2', e4', f2', f4', rd'⟩ := parse t2 t4a
    rw [e2] at e2'
    obtain ⟨rfl, rfl⟩ := some_b e2'
    obtain ⟨c1', c2', d1', d2', d3', d4', d5', d6', d7', d8'⟩ := rd' rfl
    obtain ⟨G2', j1', j2', j3'⟩ := X2_build s3 c2' (by rw [i3 65 (by omega)]; exact d1') (fun k hk => by rw [i3 67 (by omega), i3 68 (by omega)]; exact d3' k hk) (fun k hk => by rw [i3 69 (by omega)]; exact d5' k hk) d7' i2
    rw [j1] at j1'
    have hG2 := Option.some.inj j1'
    subst hG2
    have hcc : c' = c := nI_inj (by omega) (by omega) (d1'.symm.trans d1)
    have r1b : R1 Gb 0 (sRead a c' ph' rt' lk') := j2'.fr (fun x x1 x2 => f4'.2.2.2.1 x (by omega) (by omega) (by omega) (by omega))
    obtain ⟨tb, G3, g1, g2, g3, g4, g5⟩ := i5 Gb (sRead a c' ph' rt' lk') ⟨fun x x1 x2 x3 x4 x5 => by rw [f4'.2.2.2.1 x x2 x3 x4 x5, j3 x (by omega)], fun j y1 y2 => by rw [f4'.2.2.2.2 j y1 y2, j3 71 (by omega)]⟩ r1b
    obtain ⟨G4, k1, k2, k3⟩ := X4_readM (G := G3) (fun G => some ((G 71 9), G)) c2' (by rw [g4 9 (by decide)]; exact d2') (fun k hk => by rw [g3 77 (by decide) (by decide), g3 78 (by decide) (by decide)]; exact d4' k hk) (fun k hk => by rw [g3 79 (by decide) (by decide)]; exact d6' k hk) d7' g2
    refine ⟨_, G2, G4, rfl, ?_, _, _, g5 G4 k3 k2 (read_wf s3 d7' d8')⟩
    unfold sh_X4_readMesh
    rw [e4', obi_s, if_neg (b_t rfl), g1, obv_s, k1, k3 71 (by decide), g4 9 (by decide), d2', hcc]
    show some (nI c, G4) = some (nI (cnt (fun r => decide (r < c)) 16), G4)
    rw [cnt_low c2]
