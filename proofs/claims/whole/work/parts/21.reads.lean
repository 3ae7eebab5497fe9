-- what is read off a mesh: both sides
theorem forp {σ β : Type} (N : Nat) (L : Nat → Nat → σ → β) (Inv : Nat → σ → Prop) (Post : β → Prop) (hx : ∀ n s, Inv N s → Post (L (n + 1) N s)) (hs : ∀ n j s, j < N → Inv j s → Post (L (n + 1) j s) ∨ ∃ s', Inv (j + 1) s' ∧ L (n + 1) j s = L n (j + 1) s') : ∀ (d j n : Nat) (s : σ), j + d = N → d < n → Inv j s → Post (L n j s) := by
  intro d
  induction d with
  | zero =>
    intro j n s hj hn hi
    obtain ⟨n, rfl⟩ : ∃ k, n = k + 1 := ⟨n - 1, by omega⟩
    have : j = N := by omega
    subst this
    exact hx n s hi
  | succ d ih =>
    intro j n s hj hn hi
    obtain ⟨n, rfl⟩ : ∃ k, n = k + 1 := ⟨n - 1, by omega⟩
    rcases hs n j s (by omega) hi with h | ⟨s', h1, h2⟩
    · exact h
    · rw [h2]; exact ih (j + 1) n s' (by omega) (by omega) h1
theorem lamp_c (a : AM) (l : Int32) : (∃ i, i < 16 ∧ l = nI i ∧ aT a i = true) ∨ (∀ i, i < 16 → l = nI i → aT a i = false) := by
  rcases Classical.em (∃ i, i < 16 ∧ l = nI i ∧ aT a i = true) with h | h
  · exact Or.inl h
  · refine Or.inr (fun i hi he => ?_)
    cases ht : aT a i
    · rfl
    · exact absurd ⟨i, hi, he, ht⟩ h
theorem nI_inj {i j : Nat} (hi : i < 2 ^ 31) (hj : j < 2 ^ 31) (h : nI i = nI j) : i = j := (nI_eq hi hj).mp h
theorem idx_c (l : Int32) : l < 0 ∨ (16 : Int32) ≤ l ∨ ∃ i, i < 16 ∧ l = nI i := pk_ix l (n := 16) (by decide)
theorem X1_has_t {G : gG} {k : Nat} {a : AM} (h : R1 G k a) {i : Nat} (hi : i < 16) (ht : aT a i = true) : sh_X1_has k (nI i) G = 1 := by
  unfold sh_X1_has
  rw [if_neg (nI_pos (by omega)), if_neg (nj16 hi), holds_is h.1 hi, ht, if_neg (by decide)]
theorem X1_has_f {G : gG} {k : Nat} {a : AM} (h : R1 G k a) {l : Int32} (hl : ∀ i, i < 16 → l = nI i → aT a i = false) : sh_X1_has k l G = 0 := by
  unfold sh_X1_has
  rcases idx_c l with q | q | ⟨i, hi, rfl⟩
  · rw [if_pos q]
  · by_cases q0 : l < 0
    · rw [if_pos q0]
    · rw [if_neg q0, if_pos q]
  · rw [if_neg (nI_pos (by omega)), if_neg (nj16 hi), holds_is h.1 hi, hl i hi rfl, if_pos (by decide)]
theorem X4_in_t {l lo hi : Int32} (h1 : ¬ l < lo) (h2 : ¬ hi < l) : sh_X4_in l lo hi = 1 := by
  unfold sh_X4_in; rw [if_neg h1, if_neg h2]
theorem X4_in_f {l lo hi : Int32} (h : l < lo ∨ hi < l) : sh_X4_in l lo hi = 0 := by
  unfold sh_X4_in
  by_cases h1 : l < lo
  · rw [if_pos h1]
  · rw [if_neg h1, if_pos (h.resolve_left h1)]
theorem X4_isLamp_t {G : gG} {a : AM} (h : M2 G a) {i : Nat} (hi : i < 16) (ht : aT a i = true) : sh_X4_isLamp (nI i) G = some 1 := by
  unfold sh_X4_isLamp
  rw [X4_in_t (nI_pos (by omega)) (by rw [show (15 : Int32) = nI 15 from rfl, nI_ltI (by decide) (by omega)]; omega), if_neg (by decide), X4_of0 hi, obp_s, m_t h hi, ht, if_pos (by decide)]
theorem X4_isLamp_f {G : gG} {a : AM} (h : M2 G a) {l : Int32} (hl : ∀ i, i < 16 → l = nI i → aT a i = false) : sh_X4_isLamp l G = some 0 := by
  unfold sh_X4_isLamp
  rcases idx_c l with q | q | ⟨i, hi, rfl⟩
  · rw [X4_in_f (Or.inl q), if_pos rfl]
  · rw [X4_in_f (Or.inr (by rw [I_le] at q; rw [I_lt]; have e1 : (16 : Int32).toInt = 16 := by decide
                            have e2 : (15 : Int32).toInt = 15 := by decide
                            omega)), if_pos rfl]
  · rw [X4_in_t (nI_pos (by omega)) (by rw [show (15 : Int32) = nI 15 from rfl, nI_ltI (by decide) (by omega)]; omega), if_neg (by decide), X4_of0 hi, obp_s, m_t h hi, hl i hi rfl, if_neg (by decide)]
theorem X1_lamps {G : gG} {k : Nat} {a : AM} (h : R1 G k a) : sh_X1_lamps k G = nI (cnt (aT a) 16) := bc_eq h.1
theorem X1_lampsOn {G : gG} {k : Nat} {a : AM} (h : R1 G k a) : sh_X1_lampsOn k G = nI (cnt (aO a) 16) := bc_eq h.2.1
theorem X4_setOf_l {G : gG} {l1 : Int32} {S : Nat → Bool} (hs : ∀ i, i < 16 → ∃ r, sh_X4_of (nI i) 0 G = some r ∧ ((r = 1 ∧ ∃ q, sh_X4_of (nI i) l1 G = some q ∧ (q = 1 ↔ S i = true)) ∨ (¬ r = 1 ∧ S i = false))) : ∃ r, sh_X4_setOf l1 G = some r ∧ isS r S := by
  unfold sh_X4_setOf
  obtain ⟨s, h1, h2⟩ := forl 16 (fun n j s => sh_X4_setOf_4 G (fun l2 => some l2) n l1 s (nI j)) (fun j s => isS s (fun i => decide (i < j) && S i)) (fun s => some s) (by
    intro n s _
    show sh_X4_setOf_4 G _ (n + 1) l1 s (nI 16) = _
    rw [sh_X4_setOf_4.eq_2, if_pos (by decide)]) (by
    intro n j s hj hS
    have hnx : nI j + 1 = nI (j + 1) := nI_1 j
    show ∃ s', _ ∧ sh_X4_setOf_4 G _ (n + 1) l1 s (nI j) = _
    have hno : S j = false → isS (s ||| 0) (fun i => decide (i < j + 1) && S i) := fun q => (hS.or isS_0).congr (fun i hi => by
      by_cases e : i = j
      · subst e; simp [q]
      · rw [lt_s16 e]; simp)
    rw [sh_X4_setOf_4.eq_2, if_neg (nj16 hj)]
    obtain ⟨r, e1, h⟩ := hs j hj
    rw [e1, obp_s, hnx]
    rcases h with ⟨h1, q, e2, h3⟩ | ⟨h1, h2⟩
    · rw [if_pos h1, e2, obp_s]
      by_cases hq : q = 1
      · rw [if_pos hq]
        refine ⟨_, (hS.add hj).congr (fun i hi => ?_), rfl⟩
        by_cases e : i = j
        · subst e; simp [h3.mp hq]
        · rw [lt_s16 e]; simp [e]
      · rw [if_neg hq]
        refine ⟨_, hno ?_, rfl⟩
        cases hb : S j
        · rfl
        · exact absurd (h3.mpr hb) hq
    · rw [if_neg h1]
      exact ⟨_, hno h2, rfl⟩) 16 0 FU 0 rfl (by decide) (isS_0.congr (fun i _ => by simp))
  exact ⟨s, h2, h1.congr (fun i hi => by simp [hi])⟩
theorem X4_lampsOn {G : gG} {a : AM} (h : M2 G a) (hw : ∀ i, i < 16 → aO a i = true → aT a i = true) : ∃ r, sh_X4_lampsOn G = some r ∧ isS r (aO a) := by
  obtain ⟨r, h1, h2⟩ := X4_setOf_l (G := G) (l1 := 3) (S := aO a) (fun i hi => by
    refine ⟨_, X4_of0 hi, ?_⟩
    rw [m_t h hi]
    cases ht : aT a i
    · right
      refine ⟨by decide, ?_⟩
      cases ho : aO a i
      · rfl
      · have := hw i hi ho; rw [ht] at this; cases this
    · left
      refine ⟨by decide, _, X4_of3 hi, ?_⟩
      rw [m_o h hi ht]; exact b2i_1)
  unfold sh_X4_lampsOn
  rw [h1, obp_s]
  exact ⟨r, rfl, h2⟩
theorem X4_lamps {G : gG} {a : AM} (h : M2 G a) : ∃ r, sh_X4_setOf 0 G = some r ∧ isS r (aT a) := X4_setOf_l (fun i hi => by
    refine ⟨_, X4_of0 hi, ?_⟩
    rw [m_t h hi]
    cases ht : aT a i
    · exact Or.inr ⟨by decide, rfl⟩
    · exact Or.inl ⟨by decide, _, X4_of0 hi, by rw [m_t h hi, ht]; decide⟩)
theorem X1_isLinked {G : gG} {k : Nat} {a : AM} (h : R1 G k a) {i j : Nat} (hi : i < 16) (hj : j < 16) : sh_X1_isLinked k (nI i) (nI j) G = some (b2i (aL a i j)) := by
  unfold sh_X1_isLinked
  rw [if_pos (gin_16 hi), cl16 hi, holds_is (h.2.2.1 i hi) hj]
theorem X4_hasl {G : gG} {a : AM} (h : M2 G a) {i j : Nat} (hi : i < 16) (hj : j < 16) : sh_X4_has (G 72 (8 + 9 * i + 8)) (nI j) = b2i (aL a i j) := has_is (m_l h hi) hj
theorem X1_isOn {G : gG} {k : Nat} {a : AM} (h : R1 G k a) {i : Nat} (hi : i < 16) : sh_X1_isOn k (nI i) G = b2i (aO a i) := holds_is h.2.1 hi
-- links
theorem X1_links {G : gG} {k : Nat} {a : AM} (h : R1 G k a) : sh_X1_links k G = some (nI (dsum (fun i => cnt (aL a i) 16) 16) / 2) := by
  unfold sh_X1_links
  obtain ⟨s, h1, h2⟩ := forl 16 (fun n j s => sh_X1_links_4 k G (fun l1 => some (l1 / 2)) n s (nI j)) (fun j s => s = nI (dsum (fun i => cnt (aL a i) 16) j)) (fun s => some (s / 2)) (by
    intro n s _
    show sh_X1_links_4 k G _ (n + 1) s (nI 16) = _
    rw [sh_X1_links_4.eq_2, if_pos (by decide)]) (by
    intro n j s hj hS
    show ∃ s', _ ∧ sh_X1_links_4 k G _ (n + 1) s (nI j) = _
    rw [sh_X1_links_4.eq_2, if_neg (nj16 hj), if_pos (gin_16 hj), cl16 hj, bc_eq (h.2.2.1 j hj), bni_s, nI_1 j, hS, nI_add]
    exact ⟨_, rfl, rfl⟩) 16 0 FU 0 rfl (by decide) rfl
  rw [← h1]; exact h2
theorem X4_links {G : gG} {a : AM} (h : M2 G a) : sh_X4_links G = some (nI (dsum (fun i => cnt (aL a i) 16) 16) / 2) := by
  unfold sh_X4_links
  obtain ⟨s, h1, h2⟩ := forl 16 (fun n j s => sh_X4_links_4 G (fun l1 => some (l1 / 2)) n s (nI j)) (fun j s => s = nI (dsum (fun i => cnt (aL a i) 16) j)) (fun s => some (s / 2)) (by
    intro n s _
    show sh_X4_links_4 G _ (n + 1) s (nI 16) = _
    rw [sh_X4_links_4.eq_2, if_pos (by decide)]) (by
    intro n j s hj hS
    show ∃ s', _ ∧ sh_X4_links_4 G _ (n + 1) s (nI j) = _
    rw [sh_X4_links_4.eq_2, if_neg (nj16 hj), X4_of8 hj, obp_s, bits_eq (m_l h hj), obp_s, nI_1 j, hS, nI_add]
    exact ⟨_, rfl, rfl⟩) 16 0 FU 0 rfl (by decide) rfl
  rw [← h1]; exact h2
-- distances
def sDist (a : AM) (i j : Nat) : Int32 :=
  let d := aN a 1 i - aN a 1 j
  let z := if 0 ≤ d then d else 0 - d
  if sFull a - z < z then sFull a - z else z
theorem X1_dist {G : gG} {k : Nat} {a : AM} (h : R1 G k a) {i j : Nat} (hi : i < 16) (hj : j < 16) (hti : aT a i = true) (htj : aT a j = true) : sh_X1_distance k (nI i) (nI j) G = some (sDist a i j) := by
  unfold sh_X1_distance
  rw [if_pos (gin_16 hi), if_pos (gin_16 hj), cl16 hi, cl16 hj, h.num fld1 hi hti, h.num fld1 hj htj, X1_full h]
  rfl
theorem X4_dist {G : gG} {a : AM} (h : M2 G a) {i j : Nat} (hi : i < 16) (hj : j < 16) (hti : aT a i = true) (htj : aT a j = true) : sh_X4_distance (nI i) (nI j) G = some (sDist a i j) := by
  have n1 : G 72 (8 + 9 * i + 1) = aN a 1 i := m_n h (f := 1) fld1 hi hti
  have n2 : G 72 (8 + 9 * j + 1) = aN a 1 j := m_n h (f := 1) fld1 hj htj
  unfold sh_X4_distance sh_X4_distance_j24
  rw [X4_of1 hi, obp_s, X4_of1 hj, obp_s, n1, n2, X4_round h]
  simp only [obp_s]
  unfold sDist
  have key : ∀ z : Int32, (if sFull a - z ≤ z then some (sFull a - z) else some z) = some (if sFull a - z < z then sFull a - z else z) := by
    intro z
    by_cases q : sFull a - z < z
    · rw [if_pos q, if_pos (by rw [I_lt] at q; rw [I_le]; omega)]
    · rw [if_neg q]
      by_cases q2 : sFull a - z ≤ z
      · rw [if_pos q2]
        have : sFull a - z = z := by rw [I_eq]; rw [I_lt] at q; rw [I_le] at q2; omega
        rw [this]
      · rw [if_neg q2]
  by_cases q : 0 ≤ aN a 1 i - aN a 1 j
  · rw [if_pos q]
    simp only [if_pos q]
    exact key _
  · rw [if_neg q]
    simp only [if_neg q]
    rw [Int32.zero_sub]
    exact key _
theorem sDist_i {a : AM} (hw : wf a) {i j : Nat} (hi : i < 16) (hj : j < 16) (hti : aT a i = true) (htj : aT a j = true) : 0 ≤ (sDist a i j).toInt ∧ (sDist a i j = sDist a j i) ∧ (sDist a i j = 0 ↔ aN a 1 i = aN a 1 j) := by
  obtain ⟨f1, f2⟩ := wf_full hw
  obtain ⟨a1, a2⟩ := wf_ph hw hi hti
  obtain ⟨b1, b2⟩ := wf_ph hw hj htj
  have hd : (aN a 1 i - aN a 1 j).toInt = (aN a 1 i).toInt - (aN a 1 j).toInt := I_sub (by omega) (by omega)
  have hd' : (aN a 1 j - aN a 1 i).toInt = (aN a 1 j).toInt - (aN a 1 i).toInt := I_sub (by omega) (by omega)
  have gen : ∀ u : Int32, -20000 ≤ u.toInt → u.toInt < 20000 → u.toInt.natAbs < (sFull a).toInt → ∃ z : Int32, z = (if 0 ≤ u then u else 0 - u) ∧ z.toInt = u.toInt.natAbs ∧ (sFull a - z).toInt = (sFull a).toInt - u.toInt.natAbs := by
    intro u h1 h2 h3
    by_cases q : 0 ≤ u
    · refine ⟨u, by rw [if_pos q], ?_, ?_⟩
      · rw [I_le, I_0] at q; omega
      · rw [I_le, I_0] at q; rw [I_sub (by omega) (by omega)]; omega
    · have hz : (0 - u).toInt = 0 - u.toInt := by rw [I_sub (by rw [I_0]; omega) (by rw [I_0]; omega), I_0]
      refine ⟨0 - u, by rw [if_neg q], ?_, ?_⟩
      · rw [I_le, I_0] at q; rw [hz]; omega
      · rw [I_le, I_0] at q; rw [I_sub (by rw [hz]; omega) (by rw [hz]; omega), hz]; omega
  obtain ⟨z, hz, hz1, hz2⟩ := gen (aN a 1 i - aN a 1 j) (by omega) (by omega) (by omega)
  obtain ⟨z', hz', hz1', hz2'⟩ := gen (aN a 1 j - aN a 1 i) (by omega) (by omega) (by omega)
  have e1 : sDist a i j = if sFull a - z < z then sFull a - z else z := by unfold sDist; rw [hz]
  have e2 : sDist a j i = if sFull a - z' < z' then sFull a - z' else z' := by unfold sDist; rw [hz']
  have ezz : z = z' := by rw [I_eq, hz1, hz1']; omega
  refine ⟨?_, ?_, ?_⟩
  · rw [e1]; split
    · rw [hz2]; omega
    · rw [hz1]; omega
  · rw [e1, e2, ezz]
  · rw [e1, I_eq (x := aN a 1 i)]
    constructor
    · intro h
      split at h
      · rw [I_eq, hz2, I_0] at h; omega
      · rw [I_eq, hz1, I_0] at h; omega
    · intro h
      have hz0 : z.toInt = 0 := by rw [hz1]; omega
      rw [if_neg (by rw [I_lt, hz2]; omega), I_eq, I_0]; exact hz0
