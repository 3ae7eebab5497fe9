-- the whole text, read by both
theorem j113_f {G : gG} : sh_X4_readText_j113 0 G = some (b2i false, G) := by unfold sh_X4_readText_j113; rw [if_pos rfl]; rfl
theorem j113_t {G : gG} {n p : Nat} {T : Nat → Nat} (h : tx4 G n T) (hp : G 71 8 = nI p) (hn : p ≤ n) : sh_X4_readText_j113 1 G = some (b2i (decide (¬ p < n)), G) := by
  unfold sh_X4_readText_j113
  have := h.2.1
  have he : (nI p = nI n) ↔ p = n := nI_eq (by omega) (by omega)
  rw [if_neg (by decide), hp, h.1]
  by_cases q : p = n
  · rw [if_pos (he.mpr q)]; simp [q, b2i]
  · rw [if_neg (fun hh => q (he.mp hh))]; have : p < n := by omega
    simp [this, b2i]
theorem links {G20 G40 : gG} {n c : Nat} {T : Nat → Nat} (hc : c ≤ 16) : ∀ (d j n1 n2 p : Nat) (G2 G4 : gG) (lk : Nat → Nat → Bool), j + d = 60 → d < n1 → d < n2 → 3 * j ≤ p → F2 G20 G2 n T p → F4 G40 G4 n T p → G2 65 5 = nI c → G4 71 9 = nI c → L2 G2 lk → L4 G4 c lk → WL c lk → ∃ ok p' G2' G4' lk', sh_X2_parseLinks_2 (fun G => some ((0 : Int32), G)) n1 (nI j) G2 = some (b2i ok, G2') ∧ (obi (sh_X4_readLink G4) fun r18 G19 => sh_X4_readText_92 (fun l1 G => (sh_X4_readText_j113 l1 G)) n2 r18 G19) = some (b2i ok, G4') ∧ F2 G20 G2' n T p' ∧ F4 G40 G4' n T p' ∧ K2 G2 G2' ∧ K4 G4 G4' ∧ (ok = true → L2 G2' lk' ∧ L4 G4' c lk' ∧ WL c lk') := by
  intro d
  induction d with
  | zero =>
    intro j n1 n2 p G2 G4 lk hj _ _ h3 h2
    have := h2.2.1; have := h2.1.2.1; omega
  | succ d ih =>
    intro j n1 n2 p G2 G4 lk hj hn1 hn2 h3 h2 h4 h5 h9 l2 l4 wl
    obtain ⟨n1, rfl⟩ : ∃ j, n1 = j + 1 := ⟨n1 - 1, by omega⟩
    obtain ⟨n2, rfl⟩ : ∃ j, n2 = j + 1 := ⟨n2 - 1, by omega⟩
    obtain ⟨ok, p1, X2, X4, lk1, e2, e4, f2, f4, k2, k4, g1⟩ := link hc h2 h4 h5 h9 l2 l4 wl
    rw [sh_X2_parseLinks_2.eq_2, if_neg (by rw [show (60 : Int32) = nI 60 from rfl, nI_leI (by decide) (by omega)]; omega), e2, e4, obi_s, obi_s, sh_X4_readText_92.eq_2]
    cases ok
    · rw [if_pos (b_f rfl), if_pos (b_f rfl), show b2i false = 0 from rfl, j113_f]
      exact ⟨false, p1, X2, X4, lk, rfl, rfl, f2, f4, k2, k4, fun h => by cases h⟩
    · obtain ⟨rfl, g2, g3, g4⟩ := g1 rfl
      rw [if_neg (b_t rfl), if_neg (b_t rfl), X2_cur f2.1 f2.2.2.1 f2.2.1, obp_s, show (44 : Int32) = nI 44 from rfl, X2_skip f2.1 f2.2.2.1 f2.2.1 (by decide), X4_takes f4.1 f4.2.2.1 f4.2.1 (by decide), obi_s, obi_s, show b2i true = 1 from rfl]
      have hce := ch_end (n := n) (p := p + 2) (T := T) (fun hh => (f2.1.2.2 (p + 2) hh).2)
      cases hs : nx n T (p + 2) 44 44
      · have e8 : gu X4 71 8 (nI (if false = true then p + 2 + 1 else p + 2)) 71 8 = nI (p + 2) := gu_at
        have e9 := j113_t (n := n) (p := p + 2) (T := T) (f4.1.p (x := nI (if false = true then p + 2 + 1 else p + 2))) e8 f4.2.1
        by_cases q : p + 2 < n
        · rw [if_neg (fun hh => hce.mp hh q), if_pos (b_f rfl), if_pos (b_f rfl), e9]
          refine ⟨false, p + 2, _, _, lk, rfl, by simp [q], f2.p f2.2.1, f4.p f4.2.1, k2.trans K2.p, k4.trans K4.p, fun h => by cases h⟩
        · rw [if_pos (hce.mpr q), if_pos (b_f rfl), e9]
          refine ⟨true, p + 2, X2, _, lk1, rfl, by simp [q], f2, f4.p f4.2.1, k2, k4.trans K4.p, fun _ => ⟨g2, fun k hk => by rw [gu_n1 (by decide)]; exact g3 k hk, g4⟩⟩
      · have hp1 : p + 2 < n := by
          unfold nx at hs
          simp only [Bool.and_eq_true, decide_eq_true_eq] at hs
          exact hs.1
        rw [if_neg (fun hh => hce.mp hh hp1), if_neg (b_t rfl), if_neg (b_t rfl), if_pos rfl, nI_1]
        obtain ⟨ok, p', G2', G4', lk', i1, i2, i3, i4, i5, i6, i7⟩ := ih (j + 1) n1 n2 (p + 2 + 1) (gu X2 65 2 (nI (p + 2 + 1))) (gu X4 71 8 (nI (p + 2 + 1))) lk1 (by omega) (by omega) (by omega) (by omega) (f2.p (by omega)) (f4.p (by omega)) (by rw [gu_n2 (by decide), k2.2.2]; exact h5) (by rw [gu_n2 (by decide), k4.2.2]; exact h9) (fun k hk => by rw [gu_n1 (by decide)]; exact g2 k hk) (fun k hk => by rw [gu_n1 (by decide)]; exact g3 k hk) g4
        exact ⟨ok, p', G2', G4', lk', i1, i2, i3, i4, (k2.trans K2.p).trans i5, (k4.trans K4.p).trans i6, i7⟩
/-- what both have read -/
def RD (G2 G4 : gG) (c : Nat) (ph rt : Nat → Nat) (lk : Nat → Nat → Bool) : Prop := 1 ≤ c ∧ c ≤ 16 ∧ G2 65 5 = nI c ∧ G4 71 9 = nI c ∧ A2 G2 c ph rt ∧ A4 G4 c ph rt ∧ L2 G2 lk ∧ L4 G4 c lk ∧ WL c lk ∧ BD c ph rt
theorem WL_no {c : Nat} : WL c nolk := fun _ _ => ⟨rfl, fun h => by cases h⟩
theorem j45 {G40 G4 : gG} {n p c : Nat} {T : Nat → Nat} (f4 : F4 G40 G4 n T p) (h1 : 1 ≤ c) (hc : c ≤ 16) (h9 : G4 71 9 = nI c) (hd : dg n T p = true) : ∃ G4', sh_X4_readText_j45 1 G4 = some (0, G4') ∧ F4 G40 G4' n T p := by
  have hp := (dg_t hd).1
  have hn := f4.1.2.1
  have z : ∀ G : gG, sh_X4_readText_92 (fun l1 G => (sh_X4_readText_j113 l1 G)) FU 0 G = some (0, G) := by
    intro G
    rw [show FU = 3999 + 1 from rfl, sh_X4_readText_92.eq_2, if_pos rfl, j113_f]; rfl
  unfold sh_X4_readText_j45
  have he : (nI p = nI n) ↔ p = n := nI_eq (by omega) (by omega)
  rw [if_neg (show ¬ (1 : Int32) = 0 by decide), f4.2.2.1, f4.1.1, if_neg (show ¬ nI p = nI n from fun hh => by have := he.mp hh; omega), z]
  split
  · exact ⟨G4, rfl, f4⟩
  · rw [show (59 : Int32) = nI 59 from rfl, X4_takes f4.1 f4.2.2.1 f4.2.1 (by decide), obi_s, dg_nx hd (by decide), if_pos (b_f rfl), z]
    exact ⟨_, rfl, f4.p f4.2.1⟩
theorem X2_zero (kt : gG → Option (Int32 × gG)) (G : gG) : ∃ G', sh_X2_parse_12 kt FU 0 G = kt G' ∧ (∀ a, a ≠ 69 → G' a = G a) ∧ ∀ k, k < 16 → G' 69 k = 0 := by
  obtain ⟨s, ⟨h1, h2⟩, h3⟩ := forl 16 (fun n j s => sh_X2_parse_12 kt n (nI j) s) (fun j s => (∀ a, a ≠ 69 → s a = G a) ∧ ∀ k, k < j → s 69 k = 0) (fun s => kt s) (by
    intro n s _
    show sh_X2_parse_12 kt (n + 1) (nI 16) s = _
    rw [sh_X2_parse_12.eq_2, if_pos (by decide)]) (by
    intro n j s hj ⟨i1, i2⟩
    refine ⟨gu s 69 j 0, ⟨fun a ha => by rw [gu_ne ha]; exact i1 a ha, fun k hk => ?_⟩, ?_⟩
    · by_cases q : k = j
      · rw [q, gu_at]
      · rw [gu_n2 q]; exact i2 k (by omega)
    · show sh_X2_parse_12 kt (n + 1) (nI j) s = _
      rw [sh_X2_parse_12.eq_2, if_neg (nj16 hj), if_pos (gin_16 hj), cl16 hj, bng_s, nI_1]) 16 0 FU G rfl (by decide) ⟨fun _ _ => rfl, fun k hk => by omega⟩
  exact ⟨s, h3, h1, h2⟩
theorem parse {Ga Gb : gG} {n : Nat} {T : Nat → Nat} (h2 : tx2 Ga n T) (h4 : tx4 Gb n T) : ∃ ok p Ga' Gb' c ph rt lk, sh_X2_parse Ga = some (b2i ok, Ga') ∧ sh_X4_readText Gb = some (b2i ok, Gb') ∧ F2 Ga Ga' n T p ∧ F4 Gb Gb' n T p ∧ (ok = true → RD Ga' Gb' c ph rt lk) := by
  have hn := h2.2.1
  unfold sh_X2_parse sh_X4_readText
  rw [bng_s, bng_s, bng_s, bng_s]
  have F20 : F2 Ga (gu Ga 65 2 0) n T 0 := ⟨h2.p, by omega, gu_at, fun a ha => by rw [gu_ne (by omega)], fun j j1 j2 => by rw [gu_n2 j1], by rw [gu_ne (by decide)]⟩
  have F40 : F4 Gb (gu Gb 71 8 0) n T 0 := ⟨h4.p, by omega, gu_at, fun a a1 _ _ _ => by rw [gu_ne a1], fun j j1 j2 => by rw [gu_n2 j1]⟩
  have F21 := F20.c (x := 0)
  have F41 := F40.c (x := 0)
  obtain ⟨Z, z1, z2, z3⟩ := X2_zero (fun G => (obi (sh_X2_parseLamps G) fun r9 G10 => (if r9 = (0 : Int32) then some ((0 : Int32), G10) else (obp (sh_X2_current G10) fun r12 => (if r12 = (-1 : Int32) then some ((1 : Int32), G10) else (if (G10 65 5) < (2 : Int32) then some ((0 : Int32), G10) else (obi (sh_X2_skip (59 : Int32) G10) fun r14 G15 => (if r14 = (0 : Int32) then some ((0 : Int32), G15) else (obi (sh_X2_parseLinks G15) fun r17 G18 => (if r17 = (0 : Int32) then some ((0 : Int32), G18) else some ((1 : Int32), G18))))))))))) (gu (gu Ga 65 2 0) 65 5 0)
  rw [z1]
  have F2z : F2 Ga Z n T 0 := ⟨F21.1.w (by rw [z2 65 (by decide)]) (z2 66 (by decide)), F21.2.1, by rw [z2 65 (by decide)]; exact F21.2.2.1, fun a ha => by rw [z2 a (by omega)]; exact F21.2.2.2.1 a ha, fun j j1 j2 => by rw [z2 65 (by decide)]; exact F21.2.2.2.2.1 j j1 j2, by rw [z2 66 (by decide)]; exact F21.2.2.2.2.2⟩
  obtain ⟨ok, p, r4, c, X2, X4, ph, rt, e2, e4, f2, f4, c1, c2, g1, g2⟩ := lamps (T := T) (fun l1 G => sh_X4_readText_j45 l1 G) 16 0 FU FU 0 Z (gu (gu Gb 71 8 0) 71 9 0) (fun _ => 0) (fun _ => 0) rfl (by decide) (by decide) (by decide) F2z F41 gu_at (fun k hk => by omega) (fun k hk => by omega) (fun k hk => by rw [z3 k hk]; exact isS_0) (fun k hk => by omega) (fun k hk => by omega)
  rw [e4]
  unfold sh_X2_parseLamps
  rw [show sh_X2_parseLamps_2 (fun G => some ((1 : Int32), G)) FU (0 : Int32) Z = some (b2i ok, X2) from e2, obi_s]
  cases ok
  · rw [if_pos (b_f rfl)]
    rcases g2 rfl with rfl | ⟨rfl, k1, k2⟩
    · refine ⟨false, p, X2, X4, c, ph, rt, nolk, rfl, ?_, f2, f4, fun h => by cases h⟩
      show sh_X4_readText_j45 0 X4 = _
      unfold sh_X4_readText_j45
      rw [if_pos rfl, if_pos (by decide)]; rfl
    · obtain ⟨G4', i1, i2⟩ := j45 f4 c1 c2 k1 k2
      exact ⟨false, p, X2, G4', c, ph, rt, nolk, rfl, i1, f2, i2, fun h => by cases h⟩
  · obtain ⟨rfl, k1, k2, k3, k4, k5, k6, k7⟩ := g1 rfl
    have hce := ch_end (n := n) (p := p) (T := T) (fun hh => (f2.1.2.2 p hh).2)
    rw [if_neg (b_t rfl), X2_cur f2.1 f2.2.2.1 f2.2.1, obp_s, k1, show b2i true = 1 from rfl]
    unfold sh_X4_readText_j45
    have hp := f2.2.1
    have z : ∀ G : gG, sh_X4_readText_92 (fun l1 G => (sh_X4_readText_j113 l1 G)) FU 0 G = some (0, G) := by
      intro G
      rw [show FU = 3999 + 1 from rfl, sh_X4_readText_92.eq_2, if_pos rfl, j113_f]; rfl
    have he : (nI p = nI n) ↔ p = n := nI_eq (by omega) (by omega)
    rw [if_neg (show ¬ (1 : Int32) = 0 by decide), f4.2.2.1, f4.1.1, k2]
    by_cases q : p < n
    · rw [if_neg (fun hh => hce.mp hh q), if_neg (show ¬ nI p = nI n from fun hh => by have := he.mp hh; omega)]
      by_cases qc : c < 2
      · rw [if_pos (by rw [show (2 : Int32) = nI 2 from rfl]; exact nI_lt qc (by decide)), if_pos (by rw [show (1 : Int32) = nI 1 from rfl]; exact nI_le (by omega) (by decide)), z]
        exact ⟨false, p, X2, X4, c, ph, rt, nolk, rfl, rfl, f2, f4, fun h => by cases h⟩
      · rw [if_neg (by rw [show (2 : Int32) = nI 2 from rfl]; exact nI_nlt (by omega) (by omega)), if_neg (by rw [show (1 : Int32) = nI 1 from rfl]; exact nI_ge (by omega) (by omega)), show (59 : Int32) = nI 59 from rfl, X2_skip f2.1 f2.2.2.1 f2.2.1 (by decide), X4_takes f4.1 f4.2.2.1 f4.2.1 (by decide), obi_s, obi_s]
        cases hs : nx n T p 59 59
        · rw [if_pos (b_f rfl), if_pos (b_f rfl), z]
          exact ⟨false, p, _, _, c, ph, rt, nolk, rfl, rfl, f2.p f2.2.1, f4.p f4.2.1, fun h => by cases h⟩
        · rw [if_neg (b_t rfl), if_neg (b_t rfl), if_pos rfl]
          obtain ⟨ok, p', G2', G4', lk', i1, i2, i3, i4, i5, i6, i7⟩ := links (T := T) c2 60 0 FU FU (p + 1) (gu X2 65 2 (nI (p + 1))) (gu X4 71 8 (nI (p + 1))) nolk rfl (by decide) (by decide) (by omega) (f2.p (by omega)) (f4.p (by omega)) (by rw [gu_n2 (by decide)]; exact k1) (by rw [gu_n2 (by decide)]; exact k2) (fun k hk => by rw [gu_n1 (by decide)]; exact k5 k hk) (fun k hk => by rw [gu_n1 (by decide)]; exact k6 k hk) WL_no
          have i1' : sh_X2_parseLinks (gu X2 65 2 (nI (p + 1))) = some (b2i ok, G2') := i1
          rw [i1', obi_s]
          refine ⟨ok, p', G2', G4', c, ph, rt, lk', ?_, ?_, i3, i4, fun h => ?_⟩
          · cases ok
            · rw [if_pos (b_f rfl)]; rfl
            · rw [if_neg (b_t rfl)]; rfl
          · rw [← i2]
            obtain ⟨okl, pl, Y2, Y4, lkl, y1, y2, y3⟩ := link (T := T) c2 (f2.p (p' := p + 1) (by omega)) (f4.p (p' := p + 1) (by omega)) (by rw [gu_n2 (by decide)]; exact k1) (by rw [gu_n2 (by decide)]; exact k2) (lk := nolk) (fun k hk => by rw [gu_n1 (by decide)]; exact k5 k hk) (fun k hk => by rw [gu_n1 (by decide)]; exact k6 k hk) WL_no
            rw [y2, obi_s, obi_s]
            cases okl
            · rw [if_pos (b_f rfl)]; rfl
            · rw [if_neg (b_t rfl)]; rfl
          · obtain ⟨j1, j2, j3⟩ := i7 h
            have x2 := i5
            have x4 := i6
            refine ⟨c1, c2, ?_, ?_, fun k hk => ?_, fun k hk => ?_, j1, j2, j3, k7⟩
            · rw [x2.2.2, gu_n2 (by decide)]; exact k1
            · rw [x4.2.2, gu_n2 (by decide)]; exact k2
            · rw [x2.1, x2.2.1, gu_ne (by decide), gu_ne (by decide)]; exact k3 k hk
            · rw [x4.1, x4.2.1, gu_ne (by decide), gu_ne (by decide)]; exact k4 k hk
    · rw [if_pos (hce.mpr q), if_pos (show nI p = nI n from he.mpr (by omega)), if_pos (by decide)]
      exact ⟨true, p, X2, X4, c, ph, rt, nolk, rfl, rfl, f2, f4, fun _ => ⟨c1, c2, k1, k2, k3, k4, k5, k6, WL_no, k7⟩⟩
