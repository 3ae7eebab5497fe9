-- the history, both sides
def pi4 (G : gG) (i : Nat) : Nat := (G 64 i).toNatClampNeg
def okM (m : Nat) : Prop := isM m ∧ 27 ≤ m
def H1 (G : gG) (h : List AM) : Prop :=
  h.length ≤ 4 ∧ G 63 1 = nI h.length ∧ (∀ i, i < 4 → okM (pi4 G i)) ∧ (∀ i j, i < 4 → j < 4 → pi4 G i = pi4 G j → i = j) ∧ ∀ i b, h[i]? = some b → R1 G (pi4 G i) b
def hPush (h : List AM) (a : AM) : List AM := (if h.length = 4 then h.tail else h) ++ [a]
theorem okM_r {m : Nat} (h : okM m) : isM m ∧ 27 ≤ m ∧ m + 9 ≤ 63 := by
  have h1 := h.1.1; have h2 := h.1.2; have h3 := h.2
  exact ⟨h.1, h3, by omega⟩
theorem okM_apart {m n : Nat} (h : okM m) (g : okM n) (hne : m ≠ n) : m + 9 ≤ n ∨ n + 9 ≤ m := by
  have h1 := h.1.2; have h2 := g.1.2; omega
theorem okM_b {m : Nat} (h : okM m) : isMB m = true := by
  have h1 := h.1.1; have h2 := h.1.2
  unfold isMB; simp [h1, h2]
theorem okM_c {m : Nat} (h : okM m) : (Int32.ofNat m).toNatClampNeg = m := Int32.toNatClampNeg_ofNat_of_lt (by have := h.1.1; omega)
/-- what a class-side recording may touch -/
def fr27 (G G' : gG) : Prop := ∀ c, (c < 27 ∨ 65 ≤ c) → G' c = G c
theorem X0_rem_in {G : gG} {h : List AM} {a : AM} (hH : H1 G h) (hl : h.length < 4) (hR : R1 G 0 a) : ∃ G', sh_X0_remember_j12 0 G = some G' ∧ H1 G' (h ++ [a]) ∧ fr27 G G' := by
  obtain ⟨h1, h2, h3, h4, h5⟩ := hH
  have hk : (G 63 1).toNatClampNeg = h.length := by rw [h2]; exact nI_clamp (by omega)
  have hok := h3 h.length hl
  unfold sh_X0_remember_j12
  rw [if_pos (by rw [h2]; exact gin_n hl (by decide)), hk]
  have hok' : okM ((G 64 h.length).toNatClampNeg) := hok
  rw [if_pos (okM_b hok')]
  obtain ⟨h63a, h63b, h63c⟩ := okM_r hok'
  obtain ⟨G1, e1, e2, e3⟩ := X1_copy hok'.1 isM0 (by omega) hR
  rw [e1, obv_s, bng_s]
  have f63 : G1 63 = G 63 := e3 63 (by omega)
  have f64 : G1 64 = G 64 := e3 64 (by omega)
  have hp : ∀ i, pi4 (gu G1 63 1 (G1 63 1 + 1)) i = pi4 G i := fun i => by unfold pi4; rw [gu_n1 (by decide), f64]
  refine ⟨_, rfl, ⟨by simp; omega, ?_, fun i hi => by rw [hp]; exact h3 i hi, fun i j hi hj => by rw [hp, hp]; exact h4 i j hi hj, fun i b hb => ?_⟩, fun c hc => by rw [gu_ne (by omega)]; exact e3 c (by omega)⟩
  · rw [gu_at, f63, h2, nI_1]; simp
  · rw [hp]
    have hi : i < h.length + 1 := by
      have := (List.getElem?_eq_some_iff.mp hb).1; simpa using this
    by_cases e : i = h.length
    · subst e
      rw [List.getElem?_append_right (Nat.le_refl _)] at hb
      simp at hb
      subst hb
      refine e2.fr (fun c hc1 hc2 => gu_ne ?_)
      have hc2' : c < (G 64 h.length).toNatClampNeg + 9 := hc2
      omega
    · rw [List.getElem?_append_left (by omega)] at hb
      have hap := okM_apart (h3 i (by omega)) hok (fun q => e (h4 i h.length (by omega) hl q))
      have hoi := okM_r (h3 i (by omega))
      refine (h5 i b hb).fr (fun c hc1 hc2 => ?_)
      rw [gu_ne (by omega)]
      refine e3 c ?_
      show c < pi4 G h.length ∨ pi4 G h.length + 9 ≤ c
      omega
theorem X0_drop {G : gG} {h : List AM} (hH : H1 G h) (hl : h.length = 4) : ∃ G', sh_X0_dropOldest G = some G' ∧ H1 G' h.tail ∧ fr27 G G' ∧ G' 0 = G 0 := by
  obtain ⟨h1, h2, h3, h4, h5⟩ := hH
  unfold sh_X0_dropOldest
  have t0 : ((G 64 ((0 : Int32)).toNatClampNeg)).toNatClampNeg = pi4 G 0 := by rw [tc0]; rfl
  rw [t0]
  obtain ⟨s, ⟨a1, a2⟩, a3⟩ := forl 3 (fun n j (s : gG) => sh_X0_dropOldest_9 (fun m1 G => (if isMB m1 = true then (bng (gu G 64 ((3 : Int32)).toNatClampNeg (Int32.ofNat m1)) fun G7 => (bng (gu G7 63 1 (3 : Int32)) fun G9 => some G9)) else none)) n (pi4 G 0) (nI (j + 1)) s) (fun j s => (∀ i, s 64 i = if i < j then Int32.ofNat (pi4 G (i + 1)) else G 64 i) ∧ (∀ c, c ≠ 64 → s c = G c)) (fun s => (if isMB (pi4 G 0) = true then (bng (gu s 64 ((3 : Int32)).toNatClampNeg (Int32.ofNat (pi4 G 0))) fun G7 => (bng (gu G7 63 1 (3 : Int32)) fun G9 => some G9)) else none)) (by
    intro n s _
    show sh_X0_dropOldest_9 _ (n + 1) (pi4 G 0) (nI 4) s = _
    rw [sh_X0_dropOldest_9.eq_2, if_pos (by decide)]) (by
    intro n j s hj ⟨b1, b2⟩
    show ∃ s', _ ∧ sh_X0_dropOldest_9 _ (n + 1) (pi4 G 0) (nI (j + 1)) s = _
    have e1 : nI (j + 1) - 1 = nI j := nI_pred j
    have e2 : s 64 (j + 1) = G 64 (j + 1) := by rw [b1, if_neg (by omega)]
    rw [sh_X0_dropOldest_9.eq_2, if_neg (by rw [show (4 : Int32) = nI 4 from rfl, nI_leI (by decide) (by omega)]; omega), if_pos (gin_n (by omega) (by decide)), e1, if_pos (gin_n (by omega) (by decide)), nI_clamp (by omega), nI_clamp (by omega), e2, nI_1 (j + 1)]
    have hok := h3 (j + 1) (by omega)
    have hok' : okM ((G 64 (j + 1)).toNatClampNeg) := hok
    rw [if_pos (okM_b hok'), bng_s]
    refine ⟨_, ⟨fun i => ?_, fun c hc => by rw [gu_ne hc]; exact b2 c hc⟩, rfl⟩
    by_cases e : i = j
    · subst e; rw [gu_at, if_pos (by omega)]; rfl
    · rw [gu_n2 e, b1]
      by_cases q : i < j
      · rw [if_pos q, if_pos (by omega)]
      · rw [if_neg q, if_neg (by omega)]) 3 0 FU G rfl (by decide) ⟨fun i => by simp, fun _ _ => rfl⟩
  have a3' : sh_X0_dropOldest_9 (fun m1 G => (if isMB m1 = true then (bng (gu G 64 ((3 : Int32)).toNatClampNeg (Int32.ofNat m1)) fun G7 => (bng (gu G7 63 1 (3 : Int32)) fun G9 => some G9)) else none)) FU (pi4 G 0) 1 G = _ := a3
  rw [a3', if_pos (okM_b (h3 0 (by omega))), bng_s, bng_s, tc3]
  -- where each state is now
  have hp : ∀ i, i < 4 → pi4 (gu (gu s 64 3 (Int32.ofNat (pi4 G 0))) 63 1 3) i = pi4 G (if i = 3 then 0 else i + 1) := by
    intro i hi
    unfold pi4
    rw [gu_n1 (by decide), gu_ap]
    by_cases e : i = 3
    · rw [if_pos ⟨rfl, e⟩, if_pos e]
      exact okM_c (h3 0 (by omega))
    · rw [if_neg (by omega), if_neg e, a1, if_pos (by omega)]
      exact okM_c (h3 (i + 1) (by omega))
  have hfr : ∀ c, c ≠ 63 → c ≠ 64 → gu (gu s 64 3 (Int32.ofNat (pi4 G 0))) 63 1 3 c = G c := fun c c1 c2 => by
    rw [gu_ne c1, gu_ne c2, a2 c c2]
  refine ⟨_, rfl, ⟨by simp; omega, ?_, fun i hi => by rw [hp i hi]; exact h3 _ (by split <;> omega), fun i j hi hj q => ?_, fun i b hb => ?_⟩, fun c hc => hfr c (by omega) (by omega), hfr 0 (by decide) (by decide)⟩
  · rw [gu_at]; simp [hl]; rfl
  · rw [hp i hi, hp j hj] at q
    have := h4 _ _ (by split <;> omega) (by split <;> omega) q
    split at this <;> split at this <;> omega
  · have hi : i < 3 := by
      have := (List.getElem?_eq_some_iff.mp hb).1
      simp at this; omega
    rw [hp i (by omega), if_neg (by omega)]
    have hb2 : h[i + 1]? = some b := by rw [← hb]; simp
    have hok := okM_r (h3 (i + 1) (by omega))
    exact (h5 (i + 1) b hb2).fr (fun c hc1 hc2 => hfr c (by omega) (by omega))
theorem X0_rem {G : gG} {h : List AM} {a : AM} (hH : H1 G h) (hR : R1 G 0 a) : ∃ G', sh_X0_remember 0 G = some G' ∧ H1 G' (hPush h a) ∧ fr27 G G' := by
  unfold sh_X0_remember hPush
  by_cases q : h.length = 4
  · have e : ¬ (G 63 1) < 4 := by rw [hH.2.1, q]; decide
    obtain ⟨G1, e1, e2, e3, e4⟩ := X0_drop hH q
    obtain ⟨G2, f1, f2, f3⟩ := X0_rem_in e2 (by simp; omega) (a := a) (hR.fr (fun c _ hc => e3 c (Or.inl (by omega))))
    rw [if_neg e, e1, obv_s, f1, if_pos q]
    exact ⟨G2, rfl, f2, fun c hc => by rw [f3 c hc, e3 c hc]⟩
  · have hl : h.length < 4 := by have := hH.1; omega
    rw [if_pos (by rw [hH.2.1, show (4 : Int32) = nI 4 from rfl, nI_ltI (by omega) (by decide)]; exact hl), if_neg q]
    exact X0_rem_in hH hl hR
theorem X0_tak {G : gG} {h : List AM} {a : AM} (hH : H1 G (h ++ [a])) : ∃ G', sh_X0_takeBack 0 G = some G' ∧ H1 G' h ∧ R1 G' 0 a ∧ (∀ c, (9 ≤ c ∧ c ≠ 63) → G' c = G c) := by
  obtain ⟨h1, h2, h3, h4, h5⟩ := hH
  have hl : h.length < 4 := by simp at h1; omega
  have hk : G 63 1 - 1 = nI h.length := by rw [h2]; simp; exact nI_pred _
  unfold sh_X0_takeBack
  rw [if_neg (by rw [h2]; exact nI_nle (by simp) (by simp; omega)), hk, bng_s, gu_at, if_pos (gin_n hl (by decide)), nI_clamp (by omega), gu_n1 (by decide)]
  have hok : okM ((G 64 h.length).toNatClampNeg) := h3 h.length hl
  obtain ⟨m1, m2, m3⟩ := okM_r hok
  rw [if_pos (okM_b hok)]
  have hRl : R1 G (pi4 G h.length) a := h5 h.length a (by simp)
  have hRl' : R1 (gu G 63 1 (nI h.length)) (G 64 h.length).toNatClampNeg a := hRl.fr (fun c _ hc2 => gu_ne (by
    have : c < (G 64 h.length).toNatClampNeg + 9 := hc2
    omega))
  obtain ⟨G1, e1, e2, e3⟩ := X1_copy isM0 hok.1 (by omega) hRl'
  rw [e1, obv_s]
  have f64 : G1 64 = G 64 := by rw [e3 64 (by omega), gu_ne (by decide)]
  have hp : ∀ i, pi4 G1 i = pi4 G i := fun i => by unfold pi4; rw [f64]
  refine ⟨G1, rfl, ⟨by omega, by rw [e3 63 (by omega), gu_at], fun i hi => by rw [hp]; exact h3 i hi, fun i j hi hj => by rw [hp, hp]; exact h4 i j hi hj, fun i b hb => ?_⟩, e2, fun c hc => by rw [e3 c (by omega), gu_ne hc.2]⟩
  have hi : i < h.length := (List.getElem?_eq_some_iff.mp hb).1
  have hoi := okM_r (h3 i (by omega))
  rw [hp]
  refine (h5 i b (by rw [List.getElem?_append_left hi]; exact hb)).fr (fun c hc1 hc2 => ?_)
  rw [e3 c (by omega), gu_ne (by omega)]
-- the model
def frH (G G' : gG) : Prop := (∀ c, c ≠ 71 → c ≠ 73 → G' c = G c) ∧ ∀ i, i ≠ 2 → G' 71 i = G 71 i
