-- the lamps of the text, read by both
def F2 (G0 G : gG) (n : Nat) (T : Nat → Nat) (p : Nat) : Prop := tx2 G n T ∧ p ≤ n ∧ G 65 2 = nI p ∧ (∀ a, (a < 65 ∨ 69 < a) → G a = G0 a) ∧ (∀ j, j ≠ 2 → j ≠ 5 → G 65 j = G0 65 j) ∧ G 66 = G0 66
def F4 (G0 G : gG) (n : Nat) (T : Nat → Nat) (p : Nat) : Prop := tx4 G n T ∧ p ≤ n ∧ G 71 8 = nI p ∧ (∀ a, a ≠ 71 → a ≠ 77 → a ≠ 78 → a ≠ 79 → G a = G0 a) ∧ (∀ j, j ≠ 8 → j ≠ 9 → G 71 j = G0 71 j)
theorem F2.p {G0 G : gG} {n p p' : Nat} {T : Nat → Nat} (h : F2 G0 G n T p) (h' : p' ≤ n) : F2 G0 (gu G 65 2 (nI p')) n T p' :=
  ⟨h.1.p, h', gu_at, fun a ha => by rw [gu_ne (by omega)]; exact h.2.2.2.1 a ha, fun j h1 h2 => by rw [gu_n2 h1]; exact h.2.2.2.2.1 j h1 h2, by rw [gu_ne (by decide)]; exact h.2.2.2.2.2⟩
theorem F2.w {G0 G : gG} {n p c i : Nat} {T : Nat → Nat} {x : Int32} (h : F2 G0 G n T p) (h1 : 66 < c) (h2 : c ≤ 69) : F2 G0 (gu G c i x) n T p :=
  ⟨h.1.w (gu_n1 (by omega)) (gu_ne (by omega)), h.2.1, by rw [gu_n1 (by omega)]; exact h.2.2.1, fun a ha => by rw [gu_ne (by omega)]; exact h.2.2.2.1 a ha, fun j h1 h2 => by rw [gu_n1 (by omega)]; exact h.2.2.2.2.1 j h1 h2, by rw [gu_ne (by omega)]; exact h.2.2.2.2.2⟩
theorem F2.c {G0 G : gG} {n p : Nat} {T : Nat → Nat} {x : Int32} (h : F2 G0 G n T p) : F2 G0 (gu G 65 5 x) n T p :=
  ⟨h.1.w (gu_n2 (by decide)) (gu_ne (by decide)), h.2.1, by rw [gu_n2 (by decide)]; exact h.2.2.1, fun a ha => by rw [gu_ne (by omega)]; exact h.2.2.2.1 a ha, fun j h1 h2 => by rw [gu_n2 h2]; exact h.2.2.2.2.1 j h1 h2, by rw [gu_ne (by decide)]; exact h.2.2.2.2.2⟩
theorem F4.p {G0 G : gG} {n p p' : Nat} {T : Nat → Nat} (h : F4 G0 G n T p) (h' : p' ≤ n) : F4 G0 (gu G 71 8 (nI p')) n T p' :=
  ⟨h.1.p, h', gu_at, fun a h1 h2 h3 h4 => by rw [gu_ne h1]; exact h.2.2.2.1 a h1 h2 h3 h4, fun j h1 h2 => by rw [gu_n2 h1]; exact h.2.2.2.2 j h1 h2⟩
theorem F4.w {G0 G : gG} {n p c i : Nat} {T : Nat → Nat} {x : Int32} (h : F4 G0 G n T p) (h1 : 76 < c) (h2 : c ≤ 79) : F4 G0 (gu G c i x) n T p :=
  ⟨h.1.w (gu_n1 (by omega)) (gu_ne (by omega)), h.2.1, by rw [gu_n1 (by omega)]; exact h.2.2.1, fun a h1 h2 h3 h4 => by rw [gu_ne (by omega)]; exact h.2.2.2.1 a h1 h2 h3 h4, fun j h1 h2 => by rw [gu_n1 (by omega)]; exact h.2.2.2.2 j h1 h2⟩
theorem F4.c {G0 G : gG} {n p : Nat} {T : Nat → Nat} {x : Int32} (h : F4 G0 G n T p) : F4 G0 (gu G 71 9 x) n T p :=
  ⟨h.1.w (gu_n2 (by decide)) (gu_ne (by decide)), h.2.1, by rw [gu_n2 (by decide)]; exact h.2.2.1, fun a h1 h2 h3 h4 => by rw [gu_ne h1]; exact h.2.2.2.1 a h1 h2 h3 h4, fun j h1 h2 => by rw [gu_n2 h2]; exact h.2.2.2.2 j h1 h2⟩
def upn (f : Nat → Nat) (c v : Nat) (k : Nat) : Nat := if k = c then v else f k
def A2 (G : gG) (c : Nat) (ph rt : Nat → Nat) : Prop := ∀ k, k < c → G 67 k = nI (ph k) ∧ G 68 k = nI (rt k)
def A4 (G : gG) (c : Nat) (ph rt : Nat → Nat) : Prop := ∀ k, k < c → G 77 k = nI (ph k) ∧ G 78 k = nI (rt k)
def BD (c : Nat) (ph rt : Nat → Nat) : Prop := ∀ k, k < c → ph k ≤ 199 ∧ 50 ≤ rt k ∧ rt k ≤ 150
def L2 (G : gG) (lk : Nat → Nat → Bool) : Prop := ∀ k, k < 16 → isS (G 69 k) (lk k)
def L4 (G : gG) (c : Nat) (lk : Nat → Nat → Bool) : Prop := ∀ k, k < c → isS (G 79 k) (lk k)
def nolk : Nat → Nat → Bool := fun _ _ => false
theorem BD.add {c v w : Nat} {ph rt : Nat → Nat} (h : BD c ph rt) (hv : v ≤ 199) (h1 : 50 ≤ w) (h2 : w ≤ 150) : BD (c + 1) (upn ph c v) (upn rt c w) := by
  intro k hk
  unfold upn
  by_cases q : k = c
  · rw [if_pos q, if_pos q]; exact ⟨hv, h1, h2⟩
  · rw [if_neg q, if_neg q]; exact h k (by omega)
theorem A2.add {G G' : gG} {c v w : Nat} {ph rt : Nat → Nat} (h : A2 G c ph rt) (e1 : ∀ k, k < c → G' 67 k = G 67 k) (e2 : ∀ k, k < c → G' 68 k = G 68 k) (hv : G' 67 c = nI v) (hw : G' 68 c = nI w) : A2 G' (c + 1) (upn ph c v) (upn rt c w) := by
  intro k hk
  unfold upn
  by_cases q : k = c
  · rw [if_pos q, if_pos q, q]; exact ⟨hv, hw⟩
  · rw [if_neg q, if_neg q, e1 k (by omega), e2 k (by omega)]; exact h k (by omega)
theorem A4.add {G G' : gG} {c v w : Nat} {ph rt : Nat → Nat} (h : A4 G c ph rt) (e1 : ∀ k, k < c → G' 77 k = G 77 k) (e2 : ∀ k, k < c → G' 78 k = G 78 k) (hv : G' 77 c = nI v) (hw : G' 78 c = nI w) : A4 G' (c + 1) (upn ph c v) (upn rt c w) := by
  intro k hk
  unfold upn
  by_cases q : k = c
  · rw [if_pos q, if_pos q, q]; exact ⟨hv, hw⟩
  · rw [if_neg q, if_neg q, e1 k (by omega), e2 k (by omega)]; exact h k (by omega)
theorem L4.add {G G' : gG} {c : Nat} (h : L4 G c nolk) (e1 : ∀ k, k < c → G' 79 k = G 79 k) (hv : G' 79 c = 0) : L4 G' (c + 1) nolk := by
  intro k hk
  by_cases q : k = c
  · rw [q, hv]; exact isS_0
  · rw [e1 k (by omega)]; exact h k (by omega)
theorem j58 {G : gG} {c : Nat} {x : Int32} (hc : c < 16) (h9 : G 71 9 = nI c) : sh_X4_readLamp_j58 (nI c) x G = some (b2i (decide (x ≠ -5)), gu (gu (gu G 78 c x) 79 c 0) 71 9 (nI (c + 1))) := by
  unfold sh_X4_readLamp_j58
  simp only [bng_s, cl16 hc, gin_16 hc, if_true]
  simp only [gu_n1 (show (71 : Nat) ≠ 78 by decide), gu_n1 (show (71 : Nat) ≠ 79 by decide), gu_n1 (show (78 : Nat) ≠ 79 by decide), h9, gin_16 hc, cl16 hc, if_true, gu_at, nI_1]
  by_cases q : x = -5
  · rw [if_pos q]; simp [q, b2i]
  · rw [if_neg q]; simp [q, b2i]
theorem j56 {G : gG} {c : Nat} (hc : c < 16) : sh_X2_parseLamp_j56 (nI c) G = some (b2i (decide (G 67 c ≠ -1) && decide (G 68 c ≠ -1)), G) := by
  unfold sh_X2_parseLamp_j56
  rw [if_pos (gin_16 hc), cl16 hc]
  by_cases q : G 67 c = -1
  · rw [if_pos q]; simp [q, b2i]
  · rw [if_neg q]
    by_cases q2 : G 68 c = -1
    · rw [if_pos q2]; simp [q2, b2i]
    · rw [if_neg q2]; simp [q, q2, b2i]
theorem nm1 {m : Nat} (h : m < 1000) : nI m ≠ -1 := by
  intro e
  have := congrArg Int32.toInt e
  rw [nI_toInt (by omega)] at this
  have e2 : (-1 : Int32).toInt = -1 := by decide
  omega
theorem dg_nx {n p : Nat} {T : Nat → Nat} {a : Nat} (h : dg n T p = true) (ha : a < 48 ∨ 57 < a) : nx n T p a a = false := by
  obtain ⟨_, e, he, hT⟩ := dg_t h
  unfold nx
  rcases ha with ha | ha
  · simp; omega
  · simp; omega
theorem dg_of {n p : Nat} {T : Nat → Nat} (h : p < n) (h1 : 48 ≤ T p) (h2 : T p ≤ 57) : dg n T p = true := by
  unfold dg nx; simp [h, h1, h2]
theorem lamp {G20 G40 G2 G4 : gG} {n p c : Nat} {T ph rt : Nat → Nat} (hc : c < 16) (h2 : F2 G20 G2 n T p) (h4 : F4 G40 G4 n T p) (h9 : G4 71 9 = nI c) (a2 : A2 G2 c ph rt) (a4 : A4 G4 c ph rt) (z2 : L2 G2 nolk) (z4 : L4 G4 c nolk) (bd : BD c ph rt) : ∃ ok p' r4 G2' G4' ph' rt', sh_X2_parseLamp (nI c) G2 = some (b2i ok, G2') ∧ sh_X4_readLamp G4 = some (b2i r4, G4') ∧ F2 G20 G2' n T p' ∧ F4 G40 G4' n T p' ∧ (ok = true → r4 = true ∧ G4' 71 9 = nI (c + 1) ∧ A2 G2' (c + 1) ph' rt' ∧ A4 G4' (c + 1) ph' rt' ∧ L2 G2' nolk ∧ L4 G4' (c + 1) nolk ∧ BD (c + 1) ph' rt') ∧ (ok = false → r4 = false ∨ (r4 = true ∧ G4' 71 9 = nI (c + 1) ∧ dg n T p' = true)) := by
  have hn := h2.1.2.1
  obtain ⟨v, w, p1, hnr, e2, e4⟩ := num (T := T) bg_p hn h2.2.1
  have e2 := e2 G2 h2.1 h2.2.2.1
  have e4 := e4 G4 h4.1 h4.2.2.1
  have f2 := h2.p hnr.1
  have f4 := h4.p hnr.1
  have g9 : gu G4 71 8 (nI p1) 71 9 = nI c := by rw [gu_n2 (by decide)]; exact h9
  unfold sh_X2_parseLamp sh_X4_readLamp
  rw [show sh_X2_parseNumber (0 : Int32) (199 : Int32) G2 = some (v, gu G2 65 2 (nI p1)) from e2, show sh_X4_readNumber (0 : Int32) (199 : Int32) G4 = some (w, gu G4 71 8 (nI p1)) from e4, obi_s, obi_s, if_pos (gin_16 hc)]
  simp only [bng_s, cl16 hc, g9]
  rw [if_pos (gin_16 hc), gu_n1 (show (67 : Nat) ≠ 68 by decide), gu_at]
  rcases hnr.2 with ⟨m, m1, m2, rfl, rfl⟩ | ⟨rfl, rfl⟩ | ⟨rfl, ⟨m, m2, rfl⟩, q1, q2, q3⟩
  · rw [if_neg (nm1 (by omega)), if_neg (m5_ne (by omega))]
    have F2a := (f2.w (c := 67) (i := c) (x := nI m) (by decide) (by decide)).w (c := 68) (i := c) (x := 100) (by decide) (by decide)
    have F4a := f4.w (c := 77) (i := c) (x := nI m) (by decide) (by decide)
    rw [show (42 : Int32) = nI 42 from rfl, X2_skip F2a.1 F2a.2.2.1 F2a.2.1 (by decide), X4_takes F4a.1 F4a.2.2.1 F4a.2.1 (by decide), obi_s, obi_s, gu_n1 (show (71 : Nat) ≠ 77 by decide), g9]
    cases hs : nx n T p1 42 42
    · rw [if_pos (b_f rfl), if_pos (b_f rfl), j56 hc, j58 hc (by rw [gu_n2 (by decide), gu_n1 (by decide)]; exact g9)]
      rw [if_neg (by decide)]
      refine ⟨true, p1, true, _, _, upn ph c m, upn rt c 100, ?_, rfl, F2a.p hnr.1, (((F4a.p hnr.1).w (by decide) (by decide)).w (by decide) (by decide)).c, fun _ => ⟨rfl, gu_at, a2.add (v := m) (w := 100) (fun k hk => ?_) (fun k hk => ?_) ?_ ?_, a4.add (v := m) (w := 100) (fun k hk => ?_) (fun k hk => ?_) ?_ ?_, fun k hk => ?_, z4.add (fun k hk => ?_) ?_, bd.add m2 (by decide) (by decide)⟩, fun h => by cases h⟩
      · congr 2
        rw [gu_n1 (by decide), gu_n1 (by decide), gu_at, gu_n1 (by decide), gu_at]
        have := nm1 (m := m) (by omega)
        simp [this, b2i]
      · simp only [gu_ap]; rw [if_neg (by omega), if_neg (by omega), if_neg (by omega), if_neg (by omega)]
      · simp only [gu_ap]; rw [if_neg (by omega), if_neg (by omega), if_neg (by omega), if_neg (by omega)]
      · rw [gu_n1 (by decide), gu_n1 (by decide), gu_at]
      · rw [gu_n1 (by decide), gu_at]; rfl
      · simp only [gu_ap]; rw [if_neg (by omega), if_neg (by omega), if_neg (by omega), if_neg (by omega), if_neg (by omega), if_neg (by omega)]
      · simp only [gu_ap]; rw [if_neg (by omega), if_neg (by omega), if_neg (by omega), if_neg (by omega), if_neg (by omega), if_neg (by omega)]
      · rw [gu_n1 (by decide), gu_n1 (by decide), gu_n1 (by decide), gu_n1 (by decide), gu_at]
      · rw [gu_n1 (by decide), gu_n1 (by decide), gu_at]; rfl
      · rw [gu_n1 (by decide), gu_n1 (by decide), gu_n1 (by decide), gu_n1 (by decide)]; exact z2 k hk
      · simp only [gu_ap]; rw [if_neg (by omega), if_neg (by omega), if_neg (by omega), if_neg (by omega), if_neg (by omega), if_neg (by omega)]
      · rw [gu_n1 (by decide), gu_at]
    · rw [if_neg (b_t rfl), if_neg (b_t rfl), if_pos rfl]
      have hp1 : p1 < n := by
        unfold nx at hs
        simp only [Bool.and_eq_true, decide_eq_true_eq] at hs
        exact hs.1
      have F2b := F2a.p (p' := p1 + 1) (by omega)
      have F4b := F4a.p (p' := p1 + 1) (by omega)
      obtain ⟨v2, w2, p2, hnr2, i2, i4⟩ := num (T := T) bg_r hn (p := p1 + 1) (by omega)
      have i2 := i2 _ F2b.1 F2b.2.2.1
      have i4 := i4 _ F4b.1 F4b.2.2.1
      rw [show (50 : Int32) = nI 50 from rfl, show (150 : Int32) = nI 150 from rfl, i2, i4, obi_s, obi_s, j56 hc, j58 hc (by rw [gu_n2 (by decide), gu_n2 (by decide), gu_n1 (by decide)]; exact g9)]
      have F2c := (F2b.p hnr2.1).w (c := 68) (i := c) (x := v2) (by decide) (by decide)
      have F4c := (((F4b.p hnr2.1).w (c := 78) (i := c) (x := w2) (by decide) (by decide)).w (c := 79) (i := c) (x := 0) (by decide) (by decide)).c (x := nI (c + 1))
      have hmm := nm1 (m := m) (by omega)
      have r67 : gu (gu (gu (gu (gu (gu G2 65 2 (nI p1)) 67 c (nI m)) 68 c (100 : Int32)) 65 2 (nI (p1 + 1))) 65 2 (nI p2)) 68 c v2 67 c = nI m := by
        rw [gu_n1 (by decide), gu_n1 (by decide), gu_n1 (by decide), gu_n1 (by decide), gu_at]
      rw [r67, gu_at]
      rcases hnr2.2 with ⟨m', k1, k2, rfl, rfl⟩ | ⟨rfl, rfl⟩ | ⟨rfl, ⟨m', k2, rfl⟩, k3, k4, k5⟩
      · have hm5 : nI m' ≠ -5 := m5_ne (by omega)
        have hm1 := nm1 (m := m') (by omega)
        refine ⟨true, p2, true, _, _, upn ph c m, upn rt c m', by simp [hmm, hm1, b2i], by simp [hm5, b2i], F2c, F4c, fun _ => ⟨rfl, gu_at, a2.add (v := m) (w := m') (fun k hk => ?_) (fun k hk => ?_) r67 gu_at, a4.add (v := m) (w := m') (fun k hk => ?_) (fun k hk => ?_) ?_ ?_, fun k hk => ?_, z4.add (fun k hk => ?_) ?_, bd.add m2 k1 k2⟩, fun h => by cases h⟩
        · simp only [gu_ap]; rw [if_neg (by omega), if_neg (by omega), if_neg (by omega), if_neg (by omega), if_neg (by omega), if_neg (by omega)]
        · simp only [gu_ap]; rw [if_neg (by omega), if_neg (by omega), if_neg (by omega), if_neg (by omega), if_neg (by omega), if_neg (by omega)]
        · simp only [gu_ap]; rw [if_neg (by omega), if_neg (by omega), if_neg (by omega), if_neg (by omega), if_neg (by omega), if_neg (by omega), if_neg (by omega)]
        · simp only [gu_ap]; rw [if_neg (by omega), if_neg (by omega), if_neg (by omega), if_neg (by omega), if_neg (by omega), if_neg (by omega), if_neg (by omega)]
        · rw [gu_n1 (by decide), gu_n1 (by decide), gu_n1 (by decide), gu_n1 (by decide), gu_n1 (by decide), gu_at]
        · rw [gu_n1 (by decide), gu_n1 (by decide), gu_at]
        · rw [gu_n1 (by decide), gu_n1 (by decide), gu_n1 (by decide), gu_n1 (by decide), gu_n1 (by decide), gu_n1 (by decide)]; exact z2 k hk
        · simp only [gu_ap]; rw [if_neg (by omega), if_neg (by omega), if_neg (by omega), if_neg (by omega), if_neg (by omega), if_neg (by omega), if_neg (by omega)]
        · rw [gu_n1 (by decide), gu_at]
      · exact ⟨false, p2, false, _, _, ph, rt, by simp [b2i], by simp [b2i], F2c, F4c, (fun h => by cases h), fun _ => Or.inl rfl⟩
      · have hm5 : nI m' ≠ -5 := m5_ne (by omega)
        exact ⟨false, p2, true, _, _, ph, rt, by simp [b2i], by simp [hm5, b2i], F2c, F4c, (fun h => by cases h), fun _ => Or.inr ⟨rfl, gu_at, dg_of k3 k4 k5⟩⟩
  · rw [if_pos rfl, if_pos rfl, j56 hc]
    refine ⟨false, p1, false, _, _, ph, rt, ?_, rfl, (f2.w (c := 67) (i := c) (x := -1) (by decide) (by decide)).w (c := 68) (i := c) (x := 100) (by decide) (by decide), f4, (fun h => by cases h), fun _ => Or.inl rfl⟩
    rw [gu_n1 (by decide), gu_at]; rfl
  · rw [if_pos rfl, if_neg (m5_ne (by omega)), j56 hc]
    have hd := dg_of q1 q2 q3
    have F4a := f4.w (c := 77) (i := c) (x := nI m) (by decide) (by decide)
    rw [show (42 : Int32) = nI 42 from rfl, X4_takes F4a.1 F4a.2.2.1 F4a.2.1 (by decide), obi_s, gu_n1 (show (71 : Nat) ≠ 77 by decide), g9, dg_nx hd (by decide), if_pos (b_f rfl), j58 hc (by rw [gu_n2 (by decide), gu_n1 (by decide)]; exact g9), if_neg (by decide)]
    refine ⟨false, p1, true, _, _, ph, rt, ?_, rfl, (f2.w (c := 67) (i := c) (x := -1) (by decide) (by decide)).w (c := 68) (i := c) (x := 100) (by decide) (by decide), (((F4a.p hnr.1).w (by decide) (by decide)).w (by decide) (by decide)).c, (fun h => by cases h), fun _ => Or.inr ⟨rfl, gu_at, hd⟩⟩
    rw [gu_n1 (by decide), gu_at]; rfl
