-- set, the text, the history, the snapshot
theorem isM18' : isM 18 := ⟨by decide, by decide⟩
theorem nar_c (x : Int32) : ∃ k, k < 65536 ∧ vp_nar .char x = nI k := by
  refine ⟨x.toBitVec.toNat % 65536, Nat.mod_lt _ (by decide), ?_⟩
  rw [vp_nar_char, ← pk_char]
  simp
theorem s_type (l : Int32) : BO (sh_X3_type l) (sh_X4_type l) := by
  rintro G ⟨a, h, s1, s2, s3, s4, s5, s6, s7, n, T, t2, t4⟩
  have hn := t2.2.1
  unfold sh_X3_type sh_X2_isFull
  rw [t2.1]
  have e60 : (nI n = 60) ↔ n = 60 := by rw [show (60 : Int32) = nI 60 from rfl]; exact nI_eq (by omega) (by decide)
  by_cases q : n < 60
  · rw [if_pos (show nI n < 60 by rw [show (60 : Int32) = nI 60 from rfl]; exact nI_lt q (by decide)), if_pos rfl]
    unfold sh_X2_append sh_X4_type
    rw [t2.1, if_neg (show ¬ (60 : Int32) ≤ nI n by rw [show (60 : Int32) = nI 60 from rfl]; exact nI_ge q (by decide)), if_pos (gin_n q (by decide)), nI_clamp (by omega), bng_s, bng_s, obv_s]
    obtain ⟨k, hk, ek⟩ := nar_c l
    have e1 : gu G 66 n (vp_nar .char l) 65 1 = nI n := by rw [gu_n1 (by decide)]; exact t2.1
    have r : sh_X2_length (gu (gu G 66 n (vp_nar .char l)) 65 1 (gu G 66 n (vp_nar .char l) 65 1 + 1)) = nI (n + 1) := by
      unfold sh_X2_length; rw [gu_at, e1, nI_1]
    rw [r]
    have e2 : gu (gu G 66 n (vp_nar .char l)) 65 1 (gu G 66 n (vp_nar .char l) 65 1 + 1) 71 7 = nI n := by rw [gu_n1 (by decide), gu_n1 (by decide)]; exact t4.1
    refine ⟨nI (n + 1), _, gu (gu (gu (gu G 66 n (nI k)) 65 1 (nI (n + 1))) 76 n (nI k)) 71 7 (nI (n + 1)), rfl, ?_, a, h, s1.fr (fun c c1 c2 => by rw [gu_ne (by omega), gu_ne (by omega), gu_ne (by omega), gu_ne (by omega)]), s2.fr (by rw [gu_ne (by decide), gu_ne (by decide), gu_ne (by decide), gu_ne (by decide)]), s3, s4.fr (fun c c1 c2 => by rw [gu_ne (by omega), gu_ne (by omega), gu_ne (by omega), gu_ne (by omega)]), s5.fr (by rw [gu_n2 (by decide), gu_n1 (by decide), gu_n1 (by decide), gu_n1 (by decide)]) (by rw [gu_ne (by decide), gu_ne (by decide), gu_ne (by decide), gu_ne (by decide)]), s6, s7.fr (by rw [gu_n1 (by decide), gu_n1 (by decide), gu_n1 (by decide), gu_n1 (by decide)]) (by rw [gu_n2 (by decide), gu_n1 (by decide), gu_n1 (by decide), gu_n1 (by decide)]) (fun c c1 c2 => by rw [gu_ne (by omega), gu_ne (by omega), gu_ne (by omega), gu_ne (by omega)]) (by rw [gu_ne (by decide), gu_ne (by decide), gu_ne (by decide), gu_ne (by decide)]), n + 1, upn T n k, ?_, ?_⟩
    · rw [e2, if_neg (fun hh => by have := e60.mp hh; omega), if_pos (gin_n q (by decide)), nI_clamp (by omega)]
      simp only [bng_s]
      rw [gu_at, gu_n1 (show (71 : Nat) ≠ 76 by decide), e2, nI_1, e1, nI_1, ek]
    · refine ⟨by rw [gu_n1 (by decide), gu_n1 (by decide), gu_at], by omega, fun i hi => ?_⟩
      rw [gu_n1 (by decide), gu_n1 (by decide), gu_n1 (by decide), gu_ap]
      unfold upn
      by_cases q2 : i = n
      · rw [if_pos ⟨rfl, q2⟩, if_pos q2]; exact ⟨rfl, hk⟩
      · rw [if_neg (by omega), if_neg q2]; exact t2.2.2 i (by omega)
    · refine ⟨gu_at, by omega, fun i hi => ?_⟩
      rw [gu_n1 (by decide), gu_ap]
      unfold upn
      by_cases q2 : i = n
      · rw [if_pos ⟨rfl, q2⟩, if_pos q2]; exact ⟨rfl, hk⟩
      · rw [if_neg (by omega), if_neg q2, gu_n1 (by decide), gu_n1 (by decide)]; exact t4.2.2 i (by omega)
  · have hn60 : n = 60 := by omega
    rw [if_neg (show ¬ nI n < 60 by rw [show (60 : Int32) = nI 60 from rfl]; exact nI_nlt (by omega) (by omega)), if_neg (by decide)]
    refine ⟨-3, G, G, rfl, ?_, a, h, s1, s2, s3, s4, s5, s6, s7, n, T, t2, t4⟩
    unfold sh_X4_type
    rw [t4.1, if_pos (e60.mpr hn60)]
theorem s_clear : BO sh_X3_clearText sh_X4_clearText := by
  rintro G ⟨a, h, s1, s2, s3, s4, s5, s6, s7, n, T, t2, t4⟩
  unfold sh_X3_clearText sh_X2_empty sh_X4_clearText sh_X2_length
  rw [bng_s, obv_s, t2.1]
  refine ⟨nI n, _, gu (gu G 65 1 0) 71 7 0, rfl, ?_, a, h, s1.fr (fun c c1 c2 => by rw [gu_ne (by omega), gu_ne (by omega)]), s2.fr (by rw [gu_ne (by decide), gu_ne (by decide)]), s3, s4.fr (fun c c1 c2 => by rw [gu_ne (by omega), gu_ne (by omega)]), s5.fr (by rw [gu_n2 (by decide), gu_n1 (by decide)]) (by rw [gu_ne (by decide), gu_ne (by decide)]), s6, s7.fr (by rw [gu_n1 (by decide), gu_n1 (by decide)]) (by rw [gu_n2 (by decide), gu_n1 (by decide)]) (fun c c1 c2 => by rw [gu_ne (by omega), gu_ne (by omega)]) (by rw [gu_ne (by decide), gu_ne (by decide)]), 0, T, ?_, ?_⟩
  · rw [bng_s, gu_n1 (by decide), t4.1]
  · exact ⟨by rw [gu_n1 (by decide), gu_at]; rfl, by omega, fun i hi => by omega⟩
  · exact ⟨by rw [gu_at]; rfl, by omega, fun i hi => by omega⟩
theorem s_undo : BO sh_X3_undo sh_X4_undo := by
  rintro G ⟨a, h, s1, s2, s3, s4, s5, s6, s7, s8⟩
  unfold sh_X3_undo sh_X0_size
  rw [s4.2.1]
  rcases List.eq_nil_or_concat h with q | ⟨h', b, q⟩
  · subst q
    rw [if_pos (show nI ([] : List AM).length = 0 from rfl)]
    refine ⟨-5, G, G, rfl, ?_, a, _, s1, s2, s3, s4, s5, s6, s7, s8⟩
    unfold sh_X4_undo
    rw [s5.2.1, if_pos (show nI ([] : List AM).length = 0 from rfl)]
  · rw [List.concat_eq_append] at q
    subst q
    have hl : h'.length + 1 ≤ 4 := by have := s4.1; simpa using this
    rw [if_neg (nI_ne0 (by simp) (by simp; omega))]
    obtain ⟨G1, e1, e2, e3, e4⟩ := X0_tak s4
    rw [e1, obv_s, e2.2.1]
    obtain ⟨G2, f1, f2, f3, f4, f5⟩ := X4_tak (s5.fr (G' := G1) (by rw [e4 71 (by omega)]) (e4 73 (by omega)))
    have hc : ∀ c, 9 ≤ c → c ≠ 63 → c ≠ 71 → c ≠ 72 → G2 c = G c := fun c c1 c2 c3 c4 => by rw [f4 c c3 c4, e4 c ⟨c1, c2⟩]
    refine ⟨_, G1, G2, rfl, f1, b, h', e3.fr (fun c c1 c2 => f4 c (by omega) (by omega)), f3, s6 b (by simp), e2.fr (fun c c1 c2 => f4 c (by omega) (by omega)), f2, fun x hx => s6 x (by simp [hx]), s7.fr (by rw [hc 70 (by decide) (by decide) (by decide) (by decide)]) (by rw [f5 4 (by decide), e4 71 (by omega)]) (fun c c1 c2 => hc c (by omega) (by omega) (by omega) (by omega)) (hc 74 (by decide) (by decide) (by decide) (by decide)), s8.fr (by rw [hc 65 (by decide) (by decide) (by decide) (by decide)]) (hc 66 (by decide) (by decide) (by decide) (by decide)) (by rw [f5 7 (by decide), e4 71 (by omega)]) (hc 76 (by decide) (by decide) (by decide) (by decide))⟩
theorem s_keep : BO sh_X3_keep sh_X4_keep := by
  rintro G ⟨a, h, s1, s2, s3, s4, s5, s6, s7, s8⟩
  unfold sh_X3_keep
  obtain ⟨G1, e1, e2, e3⟩ := X1_copy (k := 18) (q := 0) isM18' isM0 (by decide) s1
  rw [e1, obv_s, bng_s]
  have r1 : R1 (gu G1 70 3 1) 0 a := s1.fr (fun c c1 c2 => by rw [gu_ne (by omega), e3 c (by omega)])
  rw [X1_lamps r1]
  have m1 : M2 (gu G1 70 3 1) a := s2.fr (by rw [gu_ne (by decide), e3 72 (by omega)])
  obtain ⟨G2, f1, f2, f3, f4⟩ := X4_copy (q0 := 72) (q2 := 74) (o1 := 0) (o2 := 0) (by decide) (by decide) (by decide) (by decide) (gu G1 70 3 1)
  have m2 : M2 (gu G2 71 4 1) a := m1.fr (by rw [gu_ne (by decide), f4 72 (by decide)])
  obtain ⟨r, c1, c2⟩ := X4_lamps m2
  have hc : ∀ c, c ≠ 70 → c ≠ 71 → c ≠ 74 → (c < 18 ∨ 27 ≤ c) → gu G2 71 4 1 c = G c := fun c c1 c2 c3 c4 => by rw [gu_ne c2, f4 c c3, gu_ne c1, e3 c (by omega)]
  have hj : ∀ j, j ≠ 4 → gu G2 71 4 1 71 j = G 71 j := fun j hj => by rw [gu_n2 hj, f4 71 (by decide), gu_n1 (by decide), e3 71 (by omega)]
  refine ⟨_, _, gu G2 71 4 1, rfl, ?_, a, h, r1.fr (fun c c1 c2 => by rw [gu_ne (by omega), f4 c (by omega)]), m2, s3, s4.fr (fun c c1 c2 => hc c (by omega) (by omega) (by omega) (by omega)), s5.fr (hj 2 (by decide)) (hc 73 (by decide) (by decide) (by decide) (by decide)), s6, Or.inr ⟨by rw [gu_n1 (by decide), f4 70 (by decide), gu_at], gu_at, a, e2.fr (fun c c1 c2 => by rw [gu_ne (by omega), f4 c (by omega), gu_ne (by omega)]), ?_, s3⟩, s8.fr (by rw [hc 65 (by decide) (by decide) (by decide) (by decide)]) (hc 66 (by decide) (by decide) (by decide) (by decide)) (hj 7 (by decide)) (hc 76 (by decide) (by decide) (by decide) (by decide))⟩
  · unfold sh_X4_keep
    rw [show sh_X4_copy 72 74 (0 : Int32) (0 : Int32) (gu G1 70 3 1) = some G2 from f1, obv_s, bng_s, c1, obp_s, bits_eq c2, obp_s]
  · have := R2_copy m1 f2
    exact this.fr (gu_ne (by decide))
theorem s_restore : BO sh_X3_restore sh_X4_restore := by
  rintro G ⟨a, h, S⟩
  have S' := S
  obtain ⟨s1, s2, s3, s4, s5, s6, s7, s8⟩ := S
  unfold sh_X3_restore
  rcases s7 with ⟨q1, q2⟩ | ⟨q1, q2, b, q3, q4, q5⟩
  · rw [q1, if_pos rfl]
    refine ⟨-5, G, G, rfl, ?_, a, h, S'⟩
    unfold sh_X4_restore
    rw [q2, if_pos rfl]
  · rw [q1, if_neg (by decide)]
    obtain ⟨G1, e1, e2, e3, e4, e5⟩ := mutt S'
    obtain ⟨G2, f1, f2, f3⟩ := X1_copy (k := 0) (q := 18) isM0 isM18' (by decide) (q3.fr (G' := G1) (fun c c1 c2 => e4 c (by omega) (by omega)))
    rw [e1, obv_s, f1, obv_s, X1_lamps f2]
    obtain ⟨t2, G3, g1, g2, g3, g4, g5⟩ := e5 G2 _ f3 f2
    have h74 : R2 G3 74 0 b := q4.fr (by rw [g3 74 (by decide) (by decide), f3 74 (by omega), e3 74 (by omega)])
    obtain ⟨G4, k1, k2, k3, k4⟩ := X4_copy (q0 := 74) (q2 := 72) (o1 := 0) (o2 := 0) (by decide) (by decide) (by decide) (by decide) G3
    have m4 : M2 G4 b := R2_copy h74 k2
    obtain ⟨r, c1, c2⟩ := X4_lamps m4
    refine ⟨_, G2, G4, rfl, ?_, _, _, g5 G4 k4 m4 q5⟩
    unfold sh_X4_restore
    rw [f3 71 (by omega), e3 71 (by omega), q2, if_neg (by decide), g1, obv_s, show sh_X4_copy 74 72 (0 : Int32) (0 : Int32) G3 = some G4 from k1, obv_s, c1, obp_s, bits_eq c2, obp_s]
