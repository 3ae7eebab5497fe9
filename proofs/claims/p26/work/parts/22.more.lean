-- the greatest distance, together, rates
def isMx (a : AM) (r : Int32) : Prop := 0 ≤ r.toInt ∧ (∀ i j, i < 16 → j < 16 → aO a i = true → aO a j = true → (sDist a i j).toInt ≤ r.toInt) ∧ (r = 0 ∨ ∃ i j, i < 16 ∧ j < 16 ∧ aO a i = true ∧ aO a j = true ∧ r = sDist a i j)
theorem mx_u {a : AM} {r s : Int32} (h : isMx a r) (g : isMx a s) : r = s := by
  have key : ∀ {r s : Int32}, isMx a r → isMx a s → r.toInt ≤ s.toInt := by
    intro r s h g
    rcases h.2.2 with q | ⟨i, j, hi, hj, h1, h2, h3⟩
    · rw [q, I_0]; exact g.1
    · rw [h3]; exact g.2.1 i j hi hj h1 h2
  rw [I_eq]
  have := key h g; have := key g h
  omega
theorem X1_gd {G : gG} {k : Nat} {a : AM} (hw : wf a) (h : R1 G k a) : ∃ r, sh_X1_greatestDistance k G = some r ∧ isMx a r := by
  have hxs : ∀ {r s : Int32}, r.toInt ≤ (if r < s then s else r).toInt ∧ s.toInt ≤ (if r < s then s else r).toInt := by
    intro r s
    by_cases q : r < s
    · rw [if_pos q]; rw [I_lt] at q; omega
    · rw [if_neg q]; rw [I_lt] at q; omega
  have inner : ∀ (n : Nat) (i : Nat) (s : Int32) (kt : Int32 → Option Int32), i < 16 → 0 ≤ s.toInt → (∀ p q, p < i → p < q → q < 16 → aO a p = true → aO a q = true → (sDist a p q).toInt ≤ s.toInt) → (s = 0 ∨ ∃ i j, i < 16 ∧ j < 16 ∧ aO a i = true ∧ aO a j = true ∧ s = sDist a i j) → ∃ s', (0 ≤ s'.toInt ∧ (∀ p q, p < i + 1 → p < q → q < 16 → aO a p = true → aO a q = true → (sDist a p q).toInt ≤ s'.toInt) ∧ (s' = 0 ∨ ∃ i j, i < 16 ∧ j < 16 ∧ aO a i = true ∧ aO a j = true ∧ s' = sDist a i j)) ∧ sh_X1_greatestDistance_14 k G (fun l1 l2 => sh_X1_greatestDistance_4 k G kt n l1 (l2 + 1)) FU s (nI i) (nI i + 1) = sh_X1_greatestDistance_4 k G kt n s' (nI (i + 1)) := by
    intro n i s kt hi h0 hp he
    rw [nI_1 i]
    obtain ⟨s', ⟨h1, h2, h3⟩, h4⟩ := forl 16 (fun m j s => sh_X1_greatestDistance_14 k G (fun l1 l2 => sh_X1_greatestDistance_4 k G kt n l1 (l2 + 1)) m s (nI i) (nI j)) (fun j s => 0 ≤ s.toInt ∧ (∀ p q, (p < i ∨ (p = i ∧ q < j)) → p < q → q < 16 → aO a p = true → aO a q = true → (sDist a p q).toInt ≤ s.toInt) ∧ (s = 0 ∨ ∃ i j, i < 16 ∧ j < 16 ∧ aO a i = true ∧ aO a j = true ∧ s = sDist a i j)) (fun s => sh_X1_greatestDistance_4 k G kt n s (nI (i + 1))) (by
      intro m s _
      show sh_X1_greatestDistance_14 k G _ (m + 1) s (nI i) (nI 16) = _
      rw [sh_X1_greatestDistance_14.eq_2, if_pos (by decide), nI_1 i]) (by
      intro m j s hj ⟨h1, h2, h3⟩
      show ∃ s', _ ∧ sh_X1_greatestDistance_14 k G _ (m + 1) s (nI i) (nI j) = _
      rw [sh_X1_greatestDistance_14.eq_2, if_neg (nj16 hj), X1_isOn h hi, X1_isOn h hj, nI_1 j]
      have skip : (aO a i = false ∨ aO a j = false) → (∀ p q, (p < i ∨ (p = i ∧ q < j + 1)) → p < q → q < 16 → aO a p = true → aO a q = true → (sDist a p q).toInt ≤ s.toInt) := by
        intro ho p q hpq h6 h7 h8 h9
        by_cases e : p = i ∧ q = j
        · obtain ⟨rfl, rfl⟩ := e
          rcases ho with ho | ho
          · rw [ho] at h8; cases h8
          · rw [ho] at h9; cases h9
        · exact h2 p q (by omega) h6 h7 h8 h9
      cases hoi : aO a i
      · rw [if_pos (b_f rfl)]; exact ⟨s, ⟨h1, skip (Or.inl hoi), h3⟩, rfl⟩
      · rw [if_neg (b_t rfl)]
        cases hoj : aO a j
        · rw [if_pos (b_f rfl)]; exact ⟨s, ⟨h1, skip (Or.inr hoj), h3⟩, rfl⟩
        · rw [if_neg (b_t rfl), X1_dist h hi hj (hw.1 i hi hoi) (hw.1 j hj hoj), obp_s]
          have hx := hxs (r := s) (s := sDist a i j)
          refine ⟨_, ⟨by omega, fun p q hpq h6 h7 h8 h9 => ?_, ?_⟩, rfl⟩
          · by_cases e : p = i ∧ q = j
            · obtain ⟨rfl, rfl⟩ := e; exact hx.2
            · have := h2 p q (by omega) h6 h7 h8 h9; omega
          · by_cases q : s < sDist a i j
            · rw [if_pos q]; exact Or.inr ⟨i, j, hi, hj, hoi, hoj, rfl⟩
            · rw [if_neg q]; exact h3) (16 - (i + 1)) (i + 1) FU s (by omega) (by unfold FU; omega) ⟨h0, fun p q hpq h6 h7 h8 h9 => hp p q (by omega) h6 h7 h8 h9, he⟩
    exact ⟨s', ⟨h1, fun p q hpq h6 h7 h8 h9 => h2 p q (by omega) h6 h7 h8 h9, h3⟩, h4⟩
  obtain ⟨s, ⟨h1, h2, h3⟩, h4⟩ := forl 16 (fun n j s => sh_X1_greatestDistance_4 k G (fun l1 => some l1) n s (nI j)) (fun i s => 0 ≤ s.toInt ∧ (∀ p q, p < i → p < q → q < 16 → aO a p = true → aO a q = true → (sDist a p q).toInt ≤ s.toInt) ∧ (s = 0 ∨ ∃ i j, i < 16 ∧ j < 16 ∧ aO a i = true ∧ aO a j = true ∧ s = sDist a i j)) (fun s => some s) (by
    intro n s _
    show sh_X1_greatestDistance_4 k G _ (n + 1) s (nI 16) = _
    rw [sh_X1_greatestDistance_4.eq_2, if_pos (by decide)]) (by
    intro n j s hj ⟨h1, h2, h3⟩
    show ∃ s', _ ∧ sh_X1_greatestDistance_4 k G _ (n + 1) s (nI j) = _
    rw [sh_X1_greatestDistance_4.eq_2, if_neg (nj16 hj)]
    exact inner n j s _ hj h1 h2 h3) 16 0 FU 0 rfl (by decide) ⟨by decide, fun p q hp => by omega, Or.inl rfl⟩
  refine ⟨s, h4, h1, fun i j hi hj hoi hoj => ?_, h3⟩
  obtain ⟨d1, d2, d3⟩ := sDist_i hw hi hj (hw.1 i hi hoi) (hw.1 j hj hoj)
  by_cases e : i = j
  · subst e; rw [d3.mpr rfl, I_0]; exact h1
  · rcases Nat.lt_or_ge i j with q | q
    · exact h2 i j hi q hj hoi hoj
    · rw [d2]; exact h2 j i hj (by omega) hi hoj hoi
theorem dv16 {k : Nat} (hk : k < 256) : nI k / 16 = nI (k / 16) ∧ nI k - nI k / 16 * 16 = nI (k % 16) := by
  rw [show (16 : Int32) = nI 16 from rfl]
  exact ⟨pk_div (by omega) (by decide) (by decide), pk_rem (by omega) (by decide) (by decide)⟩
def pTog (a : AM) : Prop := (∃ i, i < 16 ∧ aO a i = true) ∧ ∀ i j, i < 16 → j < 16 → aO a i = true → aO a j = true → aN a 1 i = aN a 1 j
theorem X1_tog {G : gG} {k : Nat} {a : AM} (hw : wf a) (h : R1 G k a) : (pTog a → sh_X1_isTogether k G = some 1) ∧ (¬ pTog a → sh_X1_isTogether k G = some 0) := by
  have key : (fun r => (pTog a → r = some 1) ∧ (¬ pTog a → r = some 0)) (sh_X1_isTogether_4 k G ((if (G k 9) = (0 : Int32) then some (0 : Int32) else some (1 : Int32))) FU (-1) (nI 0)) := by
    refine forp 16 (fun n j s => sh_X1_isTogether_4 k G ((if (G k 9) = (0 : Int32) then some (0 : Int32) else some (1 : Int32))) n s (nI j)) (fun j s => (s = -1 ∧ ∀ i, i < j → aO a i = false) ∨ (∃ f, f < j ∧ f < 16 ∧ s = nI f ∧ aO a f = true ∧ ∀ i, i < j → aO a i = true → aN a 1 i = aN a 1 f)) (fun r => (pTog a → r = some 1) ∧ (¬ pTog a → r = some 0)) ?_ ?_ 16 0 FU (-1) rfl (by decide) (Or.inl ⟨rfl, fun i hi => by omega⟩)
    · intro n s hs
      show _ ∧ _
      have e : sh_X1_isTogether_4 k G ((if (G k 9) = (0 : Int32) then some (0 : Int32) else some (1 : Int32))) (n + 1) s (nI 16) = (if (G k 9) = (0 : Int32) then some (0 : Int32) else some (1 : Int32)) := by
        rw [sh_X1_isTogether_4.eq_2, if_pos (by decide)]
      rw [e]
      rcases hs with ⟨_, h2⟩ | ⟨f, hf1, hf2, _, h3, h4⟩
      · have hz : (G k 9) = 0 := h.2.1.zero.mpr h2
        rw [if_pos hz]
        exact ⟨fun ⟨⟨i, hi, ho⟩, _⟩ => (by rw [h2 i hi] at ho; cases ho), fun _ => rfl⟩
      · have hz : ¬ (G k 9) = 0 := fun q => by have := h.2.1.zero.mp q f hf2; rw [h3] at this; cases this
        rw [if_neg hz]
        refine ⟨fun _ => rfl, fun q => absurd ⟨⟨f, hf2, h3⟩, fun i j hi hj hoi hoj => by rw [h4 i hi hoi, h4 j hj hoj]⟩ q⟩
    · intro n j s hj hs
      have hh : sh_X3_holds (G k 9) (nI j) = b2i (aO a j) := holds_is h.2.1 hj
      show (_ ∧ _) ∨ ∃ s', _ ∧ sh_X1_isTogether_4 k G _ (n + 1) s (nI j) = _
      rw [sh_X1_isTogether_4.eq_2, if_neg (nj16 hj), hh, nI_1 j]
      cases ho : aO a j
      · rw [if_pos (b_f rfl)]
        refine Or.inr ⟨s, ?_, rfl⟩
        rcases hs with ⟨h1, h2⟩ | ⟨f, h1, h2, h3, h4, h5⟩
        · refine Or.inl ⟨h1, fun i hi => ?_⟩
          by_cases e : i = j
          · subst e; exact ho
          · exact h2 i (by omega)
        · refine Or.inr ⟨f, by omega, h2, h3, h4, fun i hi hoi => ?_⟩
          by_cases e : i = j
          · subst e; rw [ho] at hoi; cases hoi
          · exact h5 i (by omega) hoi
      · rw [if_neg (b_t rfl)]
        rcases hs with ⟨h1, h2⟩ | ⟨f, h1, h2, h3, h4, h5⟩
        · rw [if_pos h1]
          refine Or.inr ⟨nI j, Or.inr ⟨j, by omega, hj, rfl, ho, fun i hi hoi => ?_⟩, rfl⟩
          by_cases e : i = j
          · rw [e]
          · rw [h2 i (by omega)] at hoi; cases hoi
        · have hne : ¬ s = -1 := by
            rw [h3]; intro q
            have := nI_pos (n := f) (by omega)
            rw [q] at this; exact this (by decide)
          rw [if_neg hne, h3, if_pos (gin_16 hj), if_pos (gin_16 h2), cl16 hj, cl16 h2, h.num fld1 hj (hw.1 j hj ho), h.num fld1 h2 (hw.1 f h2 h4)]
          by_cases e : aN a 1 j = aN a 1 f
          · rw [if_pos e]
            refine Or.inr ⟨nI f, Or.inr ⟨f, by omega, h2, rfl, h4, fun i hi hoi => ?_⟩, rfl⟩
            by_cases e2 : i = j
            · rw [e2]; exact e
            · exact h5 i (by omega) hoi
          · rw [if_neg e]
            exact Or.inl ⟨fun q => absurd (q.2 j f hj h2 ho h4) e, fun _ => rfl⟩
  exact key
def pUnl (a : AM) : Prop := ∃ i j, i < 16 ∧ j < 16 ∧ aO a i = true ∧ aO a j = true ∧ aN a 2 i ≠ aN a 2 j
theorem X1_unl {G : gG} {k : Nat} {a : AM} (hw : wf a) (h : R1 G k a) : (pUnl a → sh_X1_hasUnlikeRates k G = some 1) ∧ (¬ pUnl a → sh_X1_hasUnlikeRates k G = some 0) := by
  have key : (fun r => (pUnl a → r = some 1) ∧ (¬ pUnl a → r = some 0)) (sh_X1_hasUnlikeRates_4 k G (some 0) FU (-1) (nI 0)) := by
    refine forp 16 (fun n j s => sh_X1_hasUnlikeRates_4 k G (some 0) n s (nI j)) (fun j s => (s = -1 ∧ ∀ i, i < j → aO a i = false) ∨ (∃ f, f < j ∧ f < 16 ∧ s = nI f ∧ aO a f = true ∧ ∀ i, i < j → aO a i = true → aN a 2 i = aN a 2 f)) (fun r => (pUnl a → r = some 1) ∧ (¬ pUnl a → r = some 0)) ?_ ?_ 16 0 FU (-1) rfl (by decide) (Or.inl ⟨rfl, fun i hi => by omega⟩)
    · intro n s hs
      show _ ∧ _
      have e : sh_X1_hasUnlikeRates_4 k G (some 0) (n + 1) s (nI 16) = some 0 := by
        rw [sh_X1_hasUnlikeRates_4.eq_2, if_pos (by decide)]
      rw [e]
      refine ⟨fun ⟨i, j, hi, hj, hoi, hoj, hne⟩ => ?_, fun _ => rfl⟩
      rcases hs with ⟨_, h2⟩ | ⟨f, hf1, hf2, _, h3, h4⟩
      · rw [h2 i hi] at hoi; cases hoi
      · exact absurd (by rw [h4 i hi hoi, h4 j hj hoj]) hne
    · intro n j s hj hs
      have hh : sh_X3_holds (G k 9) (nI j) = b2i (aO a j) := holds_is h.2.1 hj
      show (_ ∧ _) ∨ ∃ s', _ ∧ sh_X1_hasUnlikeRates_4 k G _ (n + 1) s (nI j) = _
      rw [sh_X1_hasUnlikeRates_4.eq_2, if_neg (nj16 hj), hh, nI_1 j]
      cases ho : aO a j
      · rw [if_pos (b_f rfl)]
        refine Or.inr ⟨s, ?_, rfl⟩
        rcases hs with ⟨h1, h2⟩ | ⟨f, h1, h2, h3, h4, h5⟩
        · refine Or.inl ⟨h1, fun i hi => ?_⟩
          by_cases e : i = j
          · subst e; exact ho
          · exact h2 i (by omega)
        · refine Or.inr ⟨f, by omega, h2, h3, h4, fun i hi hoi => ?_⟩
          by_cases e : i = j
          · subst e; rw [ho] at hoi; cases hoi
          · exact h5 i (by omega) hoi
      · rw [if_neg (b_t rfl)]
        rcases hs with ⟨h1, h2⟩ | ⟨f, h1, h2, h3, h4, h5⟩
        · rw [if_pos h1]
          refine Or.inr ⟨nI j, Or.inr ⟨j, by omega, hj, rfl, ho, fun i hi hoi => ?_⟩, rfl⟩
          by_cases e : i = j
          · rw [e]
          · rw [h2 i (by omega)] at hoi; cases hoi
        · have hne : ¬ s = -1 := by
            rw [h3]; intro q
            have := nI_pos (n := f) (by omega)
            rw [q] at this; exact this (by decide)
          rw [if_neg hne, h3, if_pos (gin_16 hj), if_pos (gin_16 h2), cl16 hj, cl16 h2, h.num fld2 hj (hw.1 j hj ho), h.num fld2 h2 (hw.1 f h2 h4)]
          by_cases e : aN a 2 j = aN a 2 f
          · rw [if_pos e]
            refine Or.inr ⟨nI f, Or.inr ⟨f, by omega, h2, rfl, h4, fun i hi hoi => ?_⟩, rfl⟩
            by_cases e2 : i = j
            · rw [e2]; exact e
            · exact h5 i (by omega) hoi
          · rw [if_neg e]
            exact Or.inl ⟨fun _ => rfl, fun q => absurd ⟨j, f, hj, h2, ho, h4, e⟩ q⟩
  exact key
