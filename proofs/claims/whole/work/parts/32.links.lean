-- the lamps, and a link
theorem lamps {G20 G40 : gG} {n : Nat} {T : Nat → Nat} (kt : Int32 → gG → Option (Int32 × gG)) : ∀ (d c n1 n2 p : Nat) (G2 G4 : gG) (ph rt : Nat → Nat), c + d = 16 → 0 < d → d < n1 → d < n2 → F2 G20 G2 n T p → F4 G40 G4 n T p → G4 71 9 = nI c → A2 G2 c ph rt → A4 G4 c ph rt → L2 G2 nolk → L4 G4 c nolk → BD c ph rt → ∃ ok p' r4 c' G2' G4' ph' rt', sh_X2_parseLamps_2 (fun G => some ((1 : Int32), G)) n1 (nI c) G2 = some (b2i ok, G2') ∧ (obi (sh_X4_readLamp G4) fun r12 G13 => sh_X4_readText_15 kt n2 r12 G13) = kt (b2i r4) G4' ∧ F2 G20 G2' n T p' ∧ F4 G40 G4' n T p' ∧ 1 ≤ c' ∧ c' ≤ 16 ∧ (ok = true → r4 = true ∧ G2' 65 5 = nI c' ∧ G4' 71 9 = nI c' ∧ A2 G2' c' ph' rt' ∧ A4 G4' c' ph' rt' ∧ L2 G2' nolk ∧ L4 G4' c' nolk ∧ BD c' ph' rt') ∧ (ok = false → r4 = false ∨ (r4 = true ∧ G4' 71 9 = nI c' ∧ dg n T p' = true)) := by
  intro d
  induction d with
  | zero => intro c n1 n2 p G2 G4 ph rt _ h; omega
  | succ d ih =>
    intro c n1 n2 p G2 G4 ph rt hcd _ hn1 hn2 h2 h4 h9 a2 a4 z2 z4 bd
    obtain ⟨n1, rfl⟩ : ∃ j, n1 = j + 1 := ⟨n1 - 1, by omega⟩
    obtain ⟨n2, rfl⟩ : ∃ j, n2 = j + 1 := ⟨n2 - 1, by omega⟩
    have hc : c < 16 := by omega
    obtain ⟨ok, p1, r4, X2, X4, ph1, rt1, e2, e4, f2, f4, g1, g2⟩ := lamp hc h2 h4 h9 a2 a4 z2 z4 bd
    rw [sh_X2_parseLamps_2.eq_2, if_neg (nj16 hc), e2, e4, obi_s, obi_s, sh_X4_readText_15.eq_2]
    cases ok
    · rw [if_pos (b_f rfl)]
      rcases g2 rfl with rfl | ⟨rfl, k1, k2⟩
      · rw [if_pos (b_f rfl)]
        exact ⟨false, p1, false, c + 1, X2, X4, ph, rt, rfl, rfl, f2, f4, by omega, by omega, (fun h => by cases h), fun _ => Or.inl rfl⟩
      · rw [if_neg (b_t rfl), k1]
        by_cases q : 16 ≤ c + 1
        · rw [if_pos (by rw [le16 (by omega)]; exact q)]
          exact ⟨false, p1, true, c + 1, X2, X4, ph, rt, rfl, rfl, f2, f4, by omega, by omega, (fun h => by cases h), fun _ => Or.inr ⟨rfl, k1, k2⟩⟩
        · rw [if_neg (by rw [le16 (by omega)]; exact q), show (44 : Int32) = nI 44 from rfl, X4_takes f4.1 f4.2.2.1 f4.2.1 (by decide), obi_s, dg_nx k2 (by decide), if_pos (b_f rfl), if_neg (by decide)]
          exact ⟨false, p1, true, c + 1, X2, _, ph, rt, rfl, rfl, f2, f4.p f4.2.1, by omega, by omega, (fun h => by cases h), fun _ => Or.inr ⟨rfl, by rw [gu_n2 (by decide)]; exact k1, k2⟩⟩
    · obtain ⟨rfl, k1, k2, k3, k4, k5, k6⟩ := g1 rfl
      rw [if_neg (b_t rfl), if_neg (b_t rfl), bng_s, gu_at, nI_1, k1]
      have F2a := f2.c (x := nI (c + 1))
      have A2a : A2 (gu X2 65 5 (nI (c + 1))) (c + 1) ph1 rt1 := fun k hk => by rw [gu_n1 (by decide), gu_n1 (by decide)]; exact k2 k hk
      have L2a : L2 (gu X2 65 5 (nI (c + 1))) nolk := fun k hk => by rw [gu_n1 (by decide)]; exact k4 k hk
      by_cases q : 16 ≤ c + 1
      · have q' : (16 : Int32) ≤ nI (c + 1) := by rw [le16 (by omega)]; exact q
        rw [if_pos q', if_pos q']
        obtain ⟨n1, rfl⟩ : ∃ j, n1 = j + 1 := ⟨n1 - 1, by omega⟩
        rw [sh_X2_parseLamps_2.eq_2, if_pos q']
        exact ⟨true, p1, true, c + 1, _, X4, ph1, rt1, rfl, rfl, F2a, f4, by omega, by omega, fun _ => ⟨rfl, gu_at, k1, A2a, k3, L2a, k5, k6⟩, (fun h => by cases h)⟩
      · have q' : ¬ (16 : Int32) ≤ nI (c + 1) := by rw [le16 (by omega)]; exact q
        rw [if_neg q', if_neg q', show (44 : Int32) = nI 44 from rfl, X2_skip F2a.1 F2a.2.2.1 F2a.2.1 (by decide), X4_takes f4.1 f4.2.2.1 f4.2.1 (by decide), obi_s, obi_s]
        cases hs : nx n T p1 44 44
        · rw [if_pos (b_f rfl), if_pos (b_f rfl), if_neg (by decide)]
          exact ⟨true, p1, true, c + 1, _, _, ph1, rt1, rfl, rfl, F2a.p F2a.2.1, f4.p f4.2.1, by omega, by omega, fun _ => ⟨rfl, by rw [gu_n2 (by decide), gu_at], by rw [gu_n2 (by decide)]; exact k1, fun k hk => by rw [gu_n1 (by decide), gu_n1 (by decide)]; exact A2a k hk, fun k hk => by rw [gu_n1 (by decide), gu_n1 (by decide)]; exact k3 k hk, fun k hk => by rw [gu_n1 (by decide)]; exact L2a k hk, fun k hk => by rw [gu_n1 (by decide)]; exact k5 k hk, k6⟩, (fun h => by cases h)⟩
        · rw [if_neg (b_t rfl), if_neg (b_t rfl), if_pos rfl]
          have hp1 : p1 < n := by
            unfold nx at hs
            simp only [Bool.and_eq_true, decide_eq_true_eq] at hs
            exact hs.1
          exact ih (c + 1) n1 n2 (p1 + 1) _ _ ph1 rt1 (by omega) (by omega) (by omega) (by omega) (F2a.p (by omega)) (f4.p (by omega)) (by rw [gu_n2 (by decide)]; exact k1) (fun k hk => by rw [gu_n1 (by decide), gu_n1 (by decide)]; exact A2a k hk) (fun k hk => by rw [gu_n1 (by decide), gu_n1 (by decide)]; exact k3 k hk) (fun k hk => by rw [gu_n1 (by decide)]; exact L2a k hk) (fun k hk => by rw [gu_n1 (by decide)]; exact k5 k hk) k6
-- a letter
theorem s97 {t : Nat} (e : Nat) (he : t = e + 97) : nI t - 97 = nI e := by
  rw [he, ← nI_add, show nI 97 = (97 : Int32) from rfl, Int32.add_sub_cancel]
theorem s97l {t : Nat} (h : t < 97) : nI t - 97 < 0 := by
  have e97 : (97 : Int32).toInt = 97 := by decide
  have h0 : (0 : Int32).toInt = 0 := by decide
  rw [I_lt, I_sub (by rw [nI_toInt (by omega)]; omega) (by rw [nI_toInt (by omega)]; omega), nI_toInt (by omega)]
  omega
theorem lt_t {n p c : Nat} {T : Nat → Nat} (h : nx n T p 97 (96 + c) = true) : p < n ∧ ∃ e, e < c ∧ T p = e + 97 := by
  unfold nx at h
  simp only [Bool.and_eq_true, decide_eq_true_eq] at h
  exact ⟨h.1, T p - 97, by omega, by omega⟩
theorem lt_f {n p c : Nat} {T : Nat → Nat} (hc : c ≤ 16) (hT : p < n → T p < 65536) (h : nx n T p 97 (96 + c) = false) : (ch n T p - 97 < 0) ∨ (¬ ch n T p - 97 < 0 ∧ nI c ≤ ch n T p - 97) := by
  unfold nx at h
  unfold ch
  by_cases q : p < n
  · rw [if_pos q]
    simp only [q, decide_true, Bool.true_and, Bool.and_eq_false_iff, decide_eq_false_iff_not] at h
    by_cases q1 : T p < 97
    · exact Or.inl (s97l q1)
    · right
      have hh := hT q
      rw [s97 (T p - 97) (by omega)]
      exact ⟨nI_pos (by omega), nI_le (by omega) (by omega)⟩
  · rw [if_neg q]; left; decide
theorem X2_letter_f {G : gG} {n p c : Nat} {T : Nat → Nat} {l : Int32} (h : tx2 G n T) (hp : G 65 2 = nI p) (hn : p ≤ n) (h5 : G 65 5 = nI c) (hc : c ≤ 16) (hx : nx n T p 97 (96 + c) = false) : sh_X2_parseLetter l G = some (-1, G) := by
  unfold sh_X2_parseLetter
  rw [X2_cur h hp hn, obp_s, h5]
  rcases lt_f hc (fun hh => (h.2.2 p hh).2) hx with q | ⟨q1, q2⟩
  · rw [if_pos q]
  · rw [if_neg q1, if_pos q2]
theorem X2_letter_t {G : gG} {n p c e : Nat} {T : Nat → Nat} {l : Int32} (h : tx2 G n T) (hp : G 65 2 = nI p) (hn : p < n) (h5 : G 65 5 = nI c) (hc : c ≤ 16) (he : e < c) (hT : T p = e + 97) : sh_X2_parseLetter l G = if nI e = l then some (-1, G) else some (nI e, gu G 65 2 (nI (p + 1))) := by
  unfold sh_X2_parseLetter
  rw [X2_cur h hp (by omega), obp_s, h5]
  have ec : ch n T p - 97 = nI e := by unfold ch; rw [if_pos hn]; exact s97 e hT
  rw [ec, if_neg (nI_pos (by omega)), if_neg (nI_ge he (by omega)), bng_s, hp, nI_1]
theorem X4_lt {G : gG} {n p c : Nat} {T : Nat → Nat} (h : tx4 G n T) (hp : G 71 8 = nI p) (hn : p ≤ n) (h9 : G 71 9 = nI c) (hc : c ≤ 16) : sh_X4_isNext (97 : Int32) ((97 + (G 71 9)) - 1) G = some (b2i (nx n T p 97 (96 + c))) := by
  have e : ((97 : Int32) + (G 71 9)) - 1 = nI (96 + c) := by
    rw [h9, show (97 : Int32) = nI 97 from rfl, nI_add, show 97 + c = (96 + c) + 1 by omega, nI_pred]
  rw [e, show (97 : Int32) = nI 97 from rfl, X4_nx h hp hn (by decide) (by omega)]
def add1 (lk : Nat → Nat → Bool) (e f : Nat) (r s : Nat) : Bool := lk r s || (decide (r = e) && decide (s = f))
theorem L2.add {G : gG} {lk : Nat → Nat → Bool} {e f : Nat} (h : L2 G lk) (he : e < 16) (hf : f < 16) : L2 (gu G 69 e ((G 69 e) ||| ((1 : Int32) <<< (nI f &&& 31)))) (add1 lk e f) := by
  intro k hk
  by_cases q : k = e
  · subst q
    rw [gu_at]
    exact ((h k hk).add hf).congr (fun i _ => by simp [add1])
  · rw [gu_n2 q]
    exact (h k hk).congr (fun i _ => by simp [add1, q])
theorem L4.addl {G : gG} {c : Nat} {lk : Nat → Nat → Bool} {e f : Nat} (h : L4 G c lk) (he : e < c) (hf : f < 16) : L4 (gu G 79 e ((G 79 e) ||| ((1 : Int32) <<< (nI f &&& 31)))) c (add1 lk e f) := by
  intro k hk
  by_cases q : k = e
  · subst q
    rw [gu_at]
    exact ((h k hk).add hf).congr (fun i _ => by simp [add1])
  · rw [gu_n2 q]
    exact (h k hk).congr (fun i _ => by simp [add1, q])
def WL (c : Nat) (lk : Nat → Nat → Bool) : Prop := ∀ i j, lk i j = lk j i ∧ (lk i j = true → i < c ∧ j < c ∧ i ≠ j)
theorem WL.add {c e f : Nat} {lk : Nat → Nat → Bool} (h : WL c lk) (he : e < c) (hf : f < c) (hne : e ≠ f) : WL c (add1 (add1 lk e f) f e) := by
  intro i j
  refine ⟨?_, fun hl => ?_⟩
  · unfold add1; rw [(h i j).1]
    cases lk j i
    · simp only [Bool.false_or]
      rw [Bool.or_comm]
      congr 1 <;> rw [Bool.and_comm]
    · simp
  · unfold add1 at hl
    simp only [Bool.or_eq_true, Bool.and_eq_true, decide_eq_true_eq] at hl
    rcases hl with (hl | hl) | hl
    · exact (h i j).2 hl
    · omega
    · omega
def K2 (G G' : gG) : Prop := G' 67 = G 67 ∧ G' 68 = G 68 ∧ G' 65 5 = G 65 5
def K4 (G G' : gG) : Prop := G' 77 = G 77 ∧ G' 78 = G 78 ∧ G' 71 9 = G 71 9
theorem K2.trans {G G' G'' : gG} (h : K2 G G') (g : K2 G' G'') : K2 G G'' := ⟨g.1.trans h.1, g.2.1.trans h.2.1, g.2.2.trans h.2.2⟩
theorem K4.trans {G G' G'' : gG} (h : K4 G G') (g : K4 G' G'') : K4 G G'' := ⟨g.1.trans h.1, g.2.1.trans h.2.1, g.2.2.trans h.2.2⟩
theorem K2.p {G : gG} {x : Int32} : K2 G (gu G 65 2 x) := ⟨gu_ne (by decide), gu_ne (by decide), gu_n2 (by decide)⟩
theorem K4.p {G : gG} {x : Int32} : K4 G (gu G 71 8 x) := ⟨gu_ne (by decide), gu_ne (by decide), gu_n2 (by decide)⟩
theorem K2.l {G : gG} {i : Nat} {x : Int32} : K2 G (gu G 69 i x) := ⟨gu_ne (by decide), gu_ne (by decide), gu_n1 (by decide)⟩
theorem K4.l {G : gG} {i : Nat} {x : Int32} : K4 G (gu G 79 i x) := ⟨gu_ne (by decide), gu_ne (by decide), gu_n1 (by decide)⟩
theorem K2.rf {G : gG} : K2 G G := ⟨rfl, rfl, rfl⟩
theorem K4.rf {G : gG} : K4 G G := ⟨rfl, rfl, rfl⟩
theorem link {G20 G40 G2 G4 : gG} {n p c : Nat} {T : Nat → Nat} {lk : Nat → Nat → Bool} (hc : c ≤ 16) (h2 : F2 G20 G2 n T p) (h4 : F4 G40 G4 n T p) (h5 : G2 65 5 = nI c) (h9 : G4 71 9 = nI c) (l2 : L2 G2 lk) (l4 : L4 G4 c lk) (wl : WL c lk) : ∃ ok p' G2' G4' lk', sh_X2_parseLink G2 = some (b2i ok, G2') ∧ sh_X4_readLink G4 = some (b2i ok, G4') ∧ F2 G20 G2' n T p' ∧ F4 G40 G4' n T p' ∧ K2 G2 G2' ∧ K4 G4 G4' ∧ (ok = true → p' = p + 2 ∧ L2 G2' lk' ∧ L4 G4' c lk' ∧ WL c lk') := by
  have hn := h2.1.2.1
  unfold sh_X2_parseLink sh_X4_readLink
  rw [X4_lt h4.1 h4.2.2.1 h4.2.1 h9 hc, obp_s]
  cases hx : nx n T p 97 (96 + c)
  · rw [X2_letter_f h2.1 h2.2.2.1 h2.2.1 h5 hc hx, obi_s, if_pos rfl, if_pos (b_f rfl)]
    exact ⟨false, p, G2, G4, lk, rfl, rfl, h2, h4, K2.rf, K4.rf, fun h => by cases h⟩
  · obtain ⟨hp, e, he, hT⟩ := lt_t hx
    rw [X2_letter_t h2.1 h2.2.2.1 hp h5 hc he hT, if_neg (nm1 (by omega)), obi_s, if_neg (nm1 (by omega)), if_neg (b_t rfl), h4.2.2.1, if_pos (gin_n (by omega) (by decide)), nI_clamp (n := p) (by omega), (h4.1.2.2 p hp).1, s97 e hT]
    simp only [bng_s, bni_s, nI_1]
    have f2 := h2.p (p' := p + 1) (by omega)
    have f4 := h4.p (p' := p + 1) (by omega)
    have g5 : gu G2 65 2 (nI (p + 1)) 65 5 = nI c := by rw [gu_n2 (by decide)]; exact h5
    have g9 : gu G4 71 8 (nI (p + 1)) 71 9 = nI c := by rw [gu_n2 (by decide)]; exact h9
    rw [X4_lt f4.1 f4.2.2.1 f4.2.1 g9 hc, obp_s]
    cases hy : nx n T (p + 1) 97 (96 + c)
    · rw [X2_letter_f f2.1 f2.2.2.1 f2.2.1 g5 hc hy, obi_s, if_pos rfl, if_pos (b_f rfl)]
      exact ⟨false, p + 1, _, _, lk, rfl, rfl, f2, f4, K2.p, K4.p, fun h => by cases h⟩
    · obtain ⟨hp', e', he', hT'⟩ := lt_t hy
      rw [X2_letter_t f2.1 f2.2.2.1 hp' g5 hc he' hT', if_neg (b_t rfl), f4.2.2.1, if_pos (gin_n (by omega) (by decide)), nI_clamp (n := p + 1) (by omega), (f4.1.2.2 (p + 1) hp').1, s97 e' hT']
      by_cases q : e' = e
      · subst q
        rw [if_pos rfl, if_pos rfl, obi_s, if_pos rfl]
        exact ⟨false, p + 1, _, _, lk, rfl, rfl, f2, f4, K2.p, K4.p, fun h => by cases h⟩
      · have q' : ¬ nI e' = nI e := fun hh => q (nI_inj (by omega) (by omega) hh)
        rw [if_neg q', if_neg q', obi_s, if_neg (nm1 (by omega)), if_pos (gin_16 (by omega)), if_pos (gin_16 (by omega)), if_pos (gin_16 (by omega)), if_pos (gin_16 (by omega)), cl16 (by omega), cl16 (by omega), nI_1 (p + 1)]
        have F2a := f2.p (p' := p + 1 + 1) (by omega)
        have F4a := f4.p (p' := p + 1 + 1) (by omega)
        have L2a : L2 (gu (gu G2 65 2 (nI (p + 1))) 65 2 (nI (p + 1 + 1))) lk := fun k hk => by rw [gu_n1 (by decide), gu_n1 (by decide)]; exact l2 k hk
        have L4a : L4 (gu (gu G4 71 8 (nI (p + 1))) 71 8 (nI (p + 1 + 1))) c lk := fun k hk => by rw [gu_n1 (by decide), gu_n1 (by decide)]; exact l4 k hk
        refine ⟨true, p + 1 + 1, _, _, add1 (add1 lk e e') e' e, rfl, rfl, (F2a.w (by decide) (by decide)).w (by decide) (by decide), (F4a.w (by decide) (by decide)).w (by decide) (by decide), ((K2.p.trans K2.p).trans K2.l).trans K2.l, ((K4.p.trans K4.p).trans K4.l).trans K4.l, fun _ => ⟨rfl, (L2a.add (by omega) (by omega)).add (by omega) (by omega), (L4a.addl he (by omega)).addl he' (by omega), wl.add he he' (fun hh => q hh.symm)⟩⟩
