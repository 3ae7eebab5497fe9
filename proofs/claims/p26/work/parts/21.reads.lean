-- what is read off a mesh: both sides
theorem forp {σ β : Type} (N : Nat) (L : Nat → Nat → σ → β) (Inv : Nat → σ → Prop) (Post : β → Prop) (hx : ∀ n s, Inv N s → Post (L (n + 1) N s)) (hs : ∀ n j s, j < N → Inv j s → Post (L (n + 1) j s) ∨ ∃ s', Inv (j + 1) s' ∧ L (n + 1) j s = L n (j + 1) s') : ∀ (d j n : Nat) (s : σ), j + d = N → d < n → Inv j s → Post (L n j s) := by
  intro d
  induction d with
  | zero =>
    intro j n s hj hn hi
    obtain ⟨n, rfl⟩ : ∃ k, n = k + 1 := ⟨n - 1, by omega⟩
    have : j = N := by omega
    subst this
    exact hx n s hi
  | succ d ih =>
    intro j n s hj hn hi
    obtain ⟨n, rfl⟩ : ∃ k, n = k + 1 := ⟨n - 1, by omega⟩
    rcases hs n j s (by omega) hi with h | ⟨s', h1, h2⟩
    · exact h
    · rw [h2]; exact ih (j + 1) n s' (by omega) (by omega) h1
theorem lamp_c (a : AM) (l : Int32) : (∃ i, i < 16 ∧ l = nI i ∧ aT a i = true) ∨ (∀ i, i < 16 → l = nI i → aT a i = false) := by
  rcases Classical.em (∃ i, i < 16 ∧ l = nI i ∧ aT a i = true) with h | h
  · exact Or.inl h
  · refine Or.inr (fun i hi he => ?_)
    cases ht : aT a i
    · rfl
    · exact absurd ⟨i, hi, he, ht⟩ h
theorem nI_inj {i j : Nat} (hi : i < 2 ^ 31) (hj : j < 2 ^ 31) (h : nI i = nI j) : i = j := (nI_eq hi hj).mp h
theorem idx_c (l : Int32) : l < 0 ∨ (16 : Int32) ≤ l ∨ ∃ i, i < 16 ∧ l = nI i := pk_ix l (n := 16) (by decide)
theorem X1_has_t {G : gG} {k : Nat} {a : AM} (h : R1 G k a) {i : Nat} (hi : i < 16) (ht : aT a i = true) : sh_X1_has k (nI i) G = 1 := by
  unfold sh_X1_has
  rw [if_neg (nI_pos (by omega)), if_neg (nj16 hi), holds_is h.1 hi, ht, if_neg (by decide)]
theorem X1_has_f {G : gG} {k : Nat} {a : AM} (h : R1 G k a) {l : Int32} (hl : ∀ i, i < 16 → l = nI i → aT a i = false) : sh_X1_has k l G = 0 := by
  unfold sh_X1_has
  rcases idx_c l with q | q | ⟨i, hi, rfl⟩
  · rw [if_pos q]
  · by_cases q0 : l < 0
    · rw [if_pos q0]
    · rw [if_neg q0, if_pos q]
  · rw [if_neg (nI_pos (by omega)), if_neg (nj16 hi), holds_is h.1 hi, hl i hi rfl, if_pos (by decide)]
theorem X1_lamps {G : gG} {k : Nat} {a : AM} (h : R1 G k a) : sh_X1_lamps k G = nI (cnt (aT a) 16) := bc_eq h.1
theorem X1_lampsOn {G : gG} {k : Nat} {a : AM} (h : R1 G k a) : sh_X1_lampsOn k G = nI (cnt (aO a) 16) := bc_eq h.2.1
theorem X1_isLinked {G : gG} {k : Nat} {a : AM} (h : R1 G k a) {i j : Nat} (hi : i < 16) (hj : j < 16) : sh_X1_isLinked k (nI i) (nI j) G = some (b2i (aL a i j)) := by
  unfold sh_X1_isLinked
  rw [if_pos (gin_16 hi), cl16 hi, holds_is (h.2.2.1 i hi) hj]
theorem X1_isOn {G : gG} {k : Nat} {a : AM} (h : R1 G k a) {i : Nat} (hi : i < 16) : sh_X1_isOn k (nI i) G = b2i (aO a i) := holds_is h.2.1 hi
-- links
theorem X1_links {G : gG} {k : Nat} {a : AM} (h : R1 G k a) : sh_X1_links k G = some (nI (dsum (fun i => cnt (aL a i) 16) 16) / 2) := by
  unfold sh_X1_links
  obtain ⟨s, h1, h2⟩ := forl 16 (fun n j s => sh_X1_links_4 k G (fun l1 => some (l1 / 2)) n s (nI j)) (fun j s => s = nI (dsum (fun i => cnt (aL a i) 16) j)) (fun s => some (s / 2)) (by
    intro n s _
    show sh_X1_links_4 k G _ (n + 1) s (nI 16) = _
    rw [sh_X1_links_4.eq_2, if_pos (by decide)]) (by
    intro n j s hj hS
    show ∃ s', _ ∧ sh_X1_links_4 k G _ (n + 1) s (nI j) = _
    rw [sh_X1_links_4.eq_2, if_neg (nj16 hj), if_pos (gin_16 hj), cl16 hj, bc_eq (h.2.2.1 j hj), bni_s, nI_1 j, hS, nI_add]
    exact ⟨_, rfl, rfl⟩) 16 0 FU 0 rfl (by decide) rfl
  rw [← h1]; exact h2
-- distances
def sDist (a : AM) (i j : Nat) : Int32 :=
  let d := aN a 1 i - aN a 1 j
  let z := if 0 ≤ d then d else 0 - d
  if sFull a - z < z then sFull a - z else z
theorem X1_dist {G : gG} {k : Nat} {a : AM} (h : R1 G k a) {i j : Nat} (hi : i < 16) (hj : j < 16) (hti : aT a i = true) (htj : aT a j = true) : sh_X1_distance k (nI i) (nI j) G = some (sDist a i j) := by
  unfold sh_X1_distance
  rw [if_pos (gin_16 hi), if_pos (gin_16 hj), cl16 hi, cl16 hj, h.num fld1 hi hti, h.num fld1 hj htj, X1_full h]
  rfl
theorem sDist_i {a : AM} (hw : wf a) {i j : Nat} (hi : i < 16) (hj : j < 16) (hti : aT a i = true) (htj : aT a j = true) : 0 ≤ (sDist a i j).toInt ∧ (sDist a i j = sDist a j i) ∧ (sDist a i j = 0 ↔ aN a 1 i = aN a 1 j) := by
  obtain ⟨f1, f2⟩ := wf_full hw
  obtain ⟨a1, a2⟩ := wf_ph hw hi hti
  obtain ⟨b1, b2⟩ := wf_ph hw hj htj
  have hd : (aN a 1 i - aN a 1 j).toInt = (aN a 1 i).toInt - (aN a 1 j).toInt := I_sub (by omega) (by omega)
  have hd' : (aN a 1 j - aN a 1 i).toInt = (aN a 1 j).toInt - (aN a 1 i).toInt := I_sub (by omega) (by omega)
  have gen : ∀ u : Int32, -20000 ≤ u.toInt → u.toInt < 20000 → u.toInt.natAbs < (sFull a).toInt → ∃ z : Int32, z = (if 0 ≤ u then u else 0 - u) ∧ z.toInt = u.toInt.natAbs ∧ (sFull a - z).toInt = (sFull a).toInt - u.toInt.natAbs := by
    intro u h1 h2 h3
    by_cases q : 0 ≤ u
    · refine ⟨u, by rw [if_pos q], ?_, ?_⟩
      · rw [I_le, I_0] at q; omega
      · rw [I_le, I_0] at q; rw [I_sub (by omega) (by omega)]; omega
    · have hz : (0 - u).toInt = 0 - u.toInt := by rw [I_sub (by rw [I_0]; omega) (by rw [I_0]; omega), I_0]
      refine ⟨0 - u, by rw [if_neg q], ?_, ?_⟩
      · rw [I_le, I_0] at q; rw [hz]; omega
      · rw [I_le, I_0] at q; rw [I_sub (by rw [hz]; omega) (by rw [hz]; omega), hz]; omega
  obtain ⟨z, hz, hz1, hz2⟩ := gen (aN a 1 i - aN a 1 j) (by omega) (by omega) (by omega)
  obtain ⟨z', hz', hz1', hz2'⟩ := gen (aN a 1 j - aN a 1 i) (by omega) (by omega) (by omega)
  have e1 : sDist a i j = if sFull a - z < z then sFull a - z else z := by unfold sDist; rw [hz]
  have e2 : sDist a j i = if sFull a - z' < z' then sFull a - z' else z' := by unfold sDist; rw [hz']
  have ezz : z = z' := by rw [I_eq, hz1, hz1']; omega
  refine ⟨?_, ?_, ?_⟩
  · rw [e1]; split
    · rw [hz2]; omega
    · rw [hz1]; omega
  · rw [e1, e2, ezz]
  · rw [e1, I_eq (x := aN a 1 i)]
    constructor
    · intro h
      split at h
      · rw [I_eq, hz2, I_0] at h; omega
      · rw [I_eq, hz1, I_0] at h; omega
    · intro h
      have hz0 : z.toInt = 0 := by rw [hz1]; omega
      rw [if_neg (by rw [I_lt, hz2]; omega), I_eq, I_0]; exact hz0

