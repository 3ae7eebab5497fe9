-- the greatest distance, together, rates
def isMx (a : AM) (r : Int32) : Prop := 0 ≤ r.toInt ∧ (∀ i j, i < 16 → j < 16 → aO a i = true → aO a j = true → (sDist a i j).toInt ≤ r.toInt) ∧ (r = 0 ∨ ∃ i j, i < 16 ∧ j < 16 ∧ aO a i = true ∧ aO a j = true ∧ r = sDist a i j)
theorem mx_u {a : AM} {r s : Int32} (h : isMx a r) (g : isMx a s) : r = s := by
  have key : ∀ {r s : Int32}, isMx a r → isMx a s → r.toInt ≤ s.toInt := by
    intro r s h g
    rcases h.2.2 with q | ⟨i, j, hi, hj, h1, h2, h3⟩
    · rw [q, I_0]; exact g.1
    · rw [h3]; exact g.2.1 i j hi hj h1 h2
  rw [I_eq]
  have := key h g; have := key g h
  omega
theorem X1_gd {G : gG} {k : Nat} {a : AM} (hw : wf a) (h : R1 G k a) : ∃ r, sh_X1_greatestDistance k G = some r ∧ isMx a r := by
  have hxs : ∀ {r s : Int32}, r.toInt ≤ (if r < s then s else r).toInt ∧ s.toInt ≤ (if r < s then s else r).toInt := by
    intro r s
    by_cases q : r < s
    · rw [if_pos q]; rw [I_lt] at q; omega
    · rw [if_neg q]; rw [I_lt] at q; omega
  have inner : ∀ (n : Nat) (i : Nat) (s : Int32) (kt : Int32 → Option Int32), i < 16 → 0 ≤ s.toInt → (∀ p q, p < i → p < q → q < 16 → aO a p = true → aO a q = true → (sDist a p q).toInt ≤ s.toInt) → (s = 0 ∨ ∃ i j, i < 16 ∧ j < 16 ∧ aO a i = true ∧ aO a j = true ∧ s = sDist a i j) → ∃ s', (0 ≤ s'.toInt ∧ (∀ p q, p < i + 1 → p < q → q < 16 → aO a p = true → aO a q = true → (sDist a p q).toInt ≤ s'.toInt) ∧ (s' = 0 ∨ ∃ i j, i < 16 ∧ j < 16 ∧ aO a i = true ∧ aO a j = true ∧ s' = sDist a i j)) ∧ sh_X1_greatestDistance_14 k G (fun l1 l2 => sh_X1_greatestDistance_4 k G kt n l1 (l2 + 1)) FU s (nI i) (nI i + 1) = sh_X1_greatestDistance_4 k G kt n s' (nI (i + 1)) := by
    intro n i s kt hi h0 hp he
    rw [nI_1 i]
    obtain ⟨s', ⟨h1, h2, h3⟩, h4⟩ := forl 16 (fun m j s => sh_X1_greatestDistance_14 k G (fun l1 l2 => sh_X1_greatestDistance_4 k G kt n l1 (l2 + 1)) m s (nI i) (nI j)) (fun j s => 0 ≤ s.toInt ∧ (∀ p q, (p < i ∨ (p = i ∧ q < j)) → p < q → q < 16 → aO a p = true → aO a q = true → (sDist a p q).toInt ≤ s.toInt) ∧ (s = 0 ∨ ∃ i j, i < 16 ∧ j < 16 ∧ aO a i = true ∧ aO a j = true ∧ s = sDist a i j)) (fun s => sh_X1_greatestDistance_4 k G kt n s (nI (i + 1))) (by
      intro m s _
      show sh_X1_greatestDistance_14 k G _ (m + 1) s (nI i) (nI 16) = _
      rw [sh_X1_greatestDistance_14.eq_2, if_pos (by decide), nI_1 i]) (by
      intro m j s hj ⟨h1, h2, h3⟩
      show ∃ s', _ ∧ sh_X1_greatestDistance_14 k G _ (m + 1) s (nI i) (nI j) = _
      rw [sh_X1_greatestDistance_14.eq_2, if_neg (nj16 hj), X1_isOn h hi, X1_isOn h hj, nI_1 j]
      have skip : (aO a i = false ∨ aO a j = false) → (∀ p q, (p < i ∨ (p = i ∧ q < j + 1)) → p < q → q < 16 → aO a p = true → aO a q = true → (sDist a p q).toInt ≤ s.toInt) := by
        intro ho p q hpq h6 h7 h8 h9
        by_cases e : p = i ∧ q = j
        · obtain ⟨rfl, rfl⟩ := e
          rcases ho with ho | ho
          · rw [ho] at h8; cases h8
          · rw [ho] at h9; cases h9
        · exact h2 p q (by omega) h6 h7 h8 h9
      cases hoi : aO a i
      · rw [if_pos (b_f rfl)]; exact ⟨s, ⟨h1, skip (Or.inl hoi), h3⟩, rfl⟩
      · rw [if_neg (b_t rfl)]
        cases hoj : aO a j
        · rw [if_pos (b_f rfl)]; exact ⟨s, ⟨h1, skip (Or.inr hoj), h3⟩, rfl⟩
        · rw [if_neg (b_t rfl), X1_dist h hi hj (hw.1 i hi hoi) (hw.1 j hj hoj), obp_s]
          have hx := hxs (r := s) (s := sDist a i j)
          refine ⟨_, ⟨by omega, fun p q hpq h6 h7 h8 h9 => ?_, ?_⟩, rfl⟩
          · by_cases e : p = i ∧ q = j
            · obtain ⟨rfl, rfl⟩ := e; exact hx.2
            · have := h2 p q (by omega) h6 h7 h8 h9; omega
          · by_cases q : s < sDist a i j
            · rw [if_pos q]; exact Or.inr ⟨i, j, hi, hj, hoi, hoj, rfl⟩
            · rw [if_neg q]; exact h3) (16 - (i + 1)) (i + 1) FU s (by omega) (by unfold FU; omega) ⟨h0, fun p q hpq h6 h7 h8 h9 => hp p q (by omega) h6 h7 h8 h9, he⟩
    exact ⟨s', ⟨h1, fun p q hpq h6 h7 h8 h9 => h2 p q (by omega) h6 h7 h8 h9, h3⟩, h4⟩
  obtain ⟨s, ⟨h1, h2, h3⟩, h4⟩ := forl 16 (fun n j s => sh_X1_greatestDistance_4 k G (fun l1 => some l1) n s (nI j)) (fun i s => 0 ≤ s.toInt ∧ (∀ p q, p < i → p < q → q < 16 → aO a p = true → aO a q = true → (sDist a p q).toInt ≤ s.toInt) ∧ (s = 0 ∨ ∃ i j, i < 16 ∧ j < 16 ∧ aO a i = true ∧ aO a j = true ∧ s = sDist a i j)) (fun s => some s) (by
    intro n s _
    show sh_X1_greatestDistance_4 k G _ (n + 1) s (nI 16) = _
    rw [sh_X1_greatestDistance_4.eq_2, if_pos (by decide)]) (by
    intro n j s hj ⟨h1, h2, h3⟩
    show ∃ s', _ ∧ sh_X1_greatestDistance_4 k G _ (n + 1) s (nI j) = _
    rw [sh_X1_greatestDistance_4.eq_2, if_neg (nj16 hj)]
    exact inner n j s _ hj h1 h2 h3) 16 0 FU 0 rfl (by decide) ⟨by decide, fun p q hp => by omega, Or.inl rfl⟩
  refine ⟨s, h4, h1, fun i j hi hj hoi hoj => ?_, h3⟩
  obtain ⟨d1, d2, d3⟩ := sDist_i hw hi hj (hw.1 i hi hoi) (hw.1 j hj hoj)
  by_cases e : i = j
  · subst e; rw [d3.mpr rfl, I_0]; exact h1
  · rcases Nat.lt_or_ge i j with q | q
    · exact h2 i j hi q hj hoi hoj
    · rw [d2]; exact h2 j i hj (by omega) hi hoj hoi
theorem dv16 {k : Nat} (hk : k < 256) : nI k / 16 = nI (k / 16) ∧ nI k - nI k / 16 * 16 = nI (k % 16) := by
  rw [show (16 : Int32) = nI 16 from rfl]
  exact ⟨pk_div (by omega) (by decide) (by decide), pk_rem (by omega) (by decide) (by decide)⟩
theorem X4_gd_l {G : gG} {a : AM} (hw : wf a) (h : M2 G a) (s0 : Int32) : ∃ s, sh_X4_greatestDistance_16 G (fun l1 => some l1) FU s0 0 = some s ∧ s0.toInt ≤ s.toInt ∧ (∀ i j, i < 16 → j < 16 → aO a i = true → aO a j = true → (sDist a i j).toInt ≤ s.toInt) ∧ (s = s0 ∨ ∃ i j, i < 16 ∧ j < 16 ∧ aO a i = true ∧ aO a j = true ∧ s = sDist a i j) := by
  obtain ⟨s, ⟨h1, h2, h3⟩, h4⟩ := forl 256 (fun n k s => sh_X4_greatestDistance_16 G (fun l1 => some l1) n s (nI k)) (fun k s => s0.toInt ≤ s.toInt ∧ (∀ i j, i < 16 → j < 16 → 16 * i + j < k → aO a i = true → aO a j = true → (sDist a i j).toInt ≤ s.toInt) ∧ (s = s0 ∨ ∃ i j, i < 16 ∧ j < 16 ∧ aO a i = true ∧ aO a j = true ∧ s = sDist a i j)) (fun s => some s) (by
    intro n s _
    show sh_X4_greatestDistance_16 G _ (n + 1) s (nI 256) = _
    rw [sh_X4_greatestDistance_16.eq_2, if_pos (by decide)]) (by
    intro n k s hk ⟨h1, h2, h3⟩
    show ∃ s', _ ∧ sh_X4_greatestDistance_16 G _ (n + 1) s (nI k) = _
    have hi : k / 16 < 16 := by omega
    have hj : k % 16 < 16 := by omega
    have hnk : ¬ (256 : Int32) ≤ nI k := by rw [show (256 : Int32) = nI 256 from rfl, nI_leI (by decide) (by omega)]; omega
    rw [sh_X4_greatestDistance_16.eq_2, if_neg hnk, (dv16 hk).2, (dv16 hk).1, X4_isOn h hw.1 hi, obp_s, nI_1 k]
    have skip : (aO a (k / 16) = false ∨ aO a (k % 16) = false) → ∀ i j, i < 16 → j < 16 → 16 * i + j < k + 1 → aO a i = true → aO a j = true → (sDist a i j).toInt ≤ s.toInt := by
      intro ho i j h6 h7 h8 h9 h10
      by_cases e : 16 * i + j = k
      · have e1 : k / 16 = i := by omega
        have e2 : k % 16 = j := by omega
        rw [e1, e2] at ho
        rcases ho with ho | ho
        · rw [ho] at h9; cases h9
        · rw [ho] at h10; cases h10
      · exact h2 i j h6 h7 (by omega) h9 h10
    cases hoi : aO a (k / 16)
    · rw [if_pos (b_f rfl)]; exact ⟨s, ⟨h1, skip (Or.inl hoi), h3⟩, rfl⟩
    · rw [if_neg (b_t rfl), X4_isOn h hw.1 hj, obp_s]
      cases hoj : aO a (k % 16)
      · rw [if_pos (b_f rfl)]; exact ⟨s, ⟨h1, skip (Or.inr hoj), h3⟩, rfl⟩
      · rw [if_neg (b_t rfl), X4_dist h hi hj (hw.1 _ hi hoi) (hw.1 _ hj hoj), obp_s]
        have new : ∀ z : Int32, s.toInt ≤ z.toInt → (sDist a (k / 16) (k % 16)).toInt ≤ z.toInt → ∀ i j, i < 16 → j < 16 → 16 * i + j < k + 1 → aO a i = true → aO a j = true → (sDist a i j).toInt ≤ z.toInt := by
          intro z z1 z2 i j h6 h7 h8 h9 h10
          by_cases e : 16 * i + j = k
          · have e1 : k / 16 = i := by omega
            have e2 : k % 16 = j := by omega
            rw [e1, e2] at z2; exact z2
          · have := h2 i j h6 h7 (by omega) h9 h10; omega
        by_cases q : sDist a (k / 16) (k % 16) ≤ s
        · rw [if_pos q]; rw [I_le] at q
          exact ⟨s, ⟨h1, new s (by omega) q, h3⟩, rfl⟩
        · rw [if_neg q]; rw [I_le] at q
          exact ⟨_, ⟨by omega, new _ (by omega) (by omega), Or.inr ⟨_, _, hi, hj, hoi, hoj, rfl⟩⟩, rfl⟩) 256 0 FU s0 rfl (by decide) ⟨by omega, fun i j _ _ h8 => by omega, Or.inl rfl⟩
  exact ⟨s, h4, h1, fun i j hi hj hoi hoj => h2 i j hi hj (by omega) hoi hoj, h3⟩
theorem X4_gd {G : gG} {a : AM} (hw : wf a) (h : M2 G a) : (cnt (aO a) 16 = 0 → sh_X4_greatestDistance G = some (-5)) ∧ (cnt (aO a) 16 ≠ 0 → ∃ r, sh_X4_greatestDistance G = some r ∧ isMx a r) := by
  obtain ⟨x, e1, e2⟩ := X4_lampsOn h hw.1
  constructor
  · intro hz
    have hn := cnt_0.mp hz
    obtain ⟨s, f1, f2, f3, f4⟩ := X4_gd_l hw h (-5)
    unfold sh_X4_greatestDistance
    rw [e1, obp_s, if_pos (e2.zero.mpr hn), f1]
    rcases f4 with q | ⟨i, j, hi, hj, hoi, hoj, q⟩
    · rw [q]
    · rw [hn i hi] at hoi; cases hoi
  · intro hz
    obtain ⟨s, f1, f2, f3, f4⟩ := X4_gd_l hw h 0
    unfold sh_X4_greatestDistance
    rw [e1, obp_s, if_neg (fun q => hz (cnt_0.mpr (e2.zero.mp q))), f1]
    exact ⟨s, rfl, by rw [I_0] at f2; exact f2, f3, f4⟩
def pTog (a : AM) : Prop := (∃ i, i < 16 ∧ aO a i = true) ∧ ∀ i j, i < 16 → j < 16 → aO a i = true → aO a j = true → aN a 1 i = aN a 1 j
theorem X1_tog {G : gG} {k : Nat} {a : AM} (hw : wf a) (h : R1 G k a) : (pTog a → sh_X1_isTogether k G = some 1) ∧ (¬ pTog a → sh_X1_isTogether k G = some 0) := by
  have key : (fun r => (pTog a → r = some 1) ∧ (¬ pTog a → r = some 0)) (sh_X1_isTogether_4 k G ((if (G k 9) = (0 : Int32) then some (0 : Int32) else some (1 : Int32))) FU (-1) (nI 0)) := by
    refine forp 16 (fun n j s => sh_X1_isTogether_4 k G ((if (G k 9) = (0 : Int32) then some (0 : Int32) else some (1 : Int32))) n s (nI j)) (fun j s => (s = -1 ∧ ∀ i, i < j → aO a i = false) ∨ (∃ f, f < j ∧ f < 16 ∧ s = nI f ∧ aO a f = true ∧ ∀ i, i < j → aO a i = true → aN a 1 i = aN a 1 f)) (fun r => (pTog a → r = some 1) ∧ (¬ pTog a → r = some 0)) ?_ ?_ 16 0 FU (-1) rfl (by decide) (Or.inl ⟨rfl, fun i hi => by omega⟩)
    · intro n s hs
      show _ ∧ _
      have e : sh_X1_isTogether_4 k G ((if (G k 9) = (0 : Int32) then some (0 : Int32) else some (1 : Int32))) (n + 1) s (nI 16) = (if (G k 9) = (0 : Int32) then some (0 : Int32) else some (1 : Int32)) := by
        rw [sh_X1_isTogether_4.eq_2, if_pos (by decide)]
      rw [e]
      rcases hs with ⟨_, h2⟩ | ⟨f, hf1, hf2, _, h3, h4⟩
      · have hz : (G k 9) = 0 := h.2.1.zero.mpr h2
        rw [if_pos hz]
        exact ⟨fun ⟨⟨i, hi, ho⟩, _⟩ => (by rw [h2 i hi] at ho; cases ho), fun _ => rfl⟩
      · have hz : ¬ (G k 9) = 0 := fun q => by have := h.2.1.zero.mp q f hf2; rw [h3] at this; cases this
        rw [if_neg hz]
        refine ⟨fun _ => rfl, fun q => absurd ⟨⟨f, hf2, h3⟩, fun i j hi hj hoi hoj => by rw [h4 i hi hoi, h4 j hj hoj]⟩ q⟩
    · intro n j s hj hs
      have hh : sh_X3_holds (G k 9) (nI j) = b2i (aO a j) := holds_is h.2.1 hj
      show (_ ∧ _) ∨ ∃ s', _ ∧ sh_X1_isTogether_4 k G _ (n + 1) s (nI j) = _
      rw [sh_X1_isTogether_4.eq_2, if_neg (nj16 hj), hh, nI_1 j]
      cases ho : aO a j
      · rw [if_pos (b_f rfl)]
        refine Or.inr ⟨s, ?_, rfl⟩
        rcases hs with ⟨h1, h2⟩ | ⟨f, h1, h2, h3, h4, h5⟩
        · refine Or.inl ⟨h1, fun i hi => ?_⟩
          by_cases e : i = j
          · subst e; exact ho
          · exact h2 i (by omega)
        · refine Or.inr ⟨f, by omega, h2, h3, h4, fun i hi hoi => ?_⟩
          by_cases e : i = j
          · subst e; rw [ho] at hoi; cases hoi
          · exact h5 i (by omega) hoi
      · rw [if_neg (b_t rfl)]
        rcases hs with ⟨h1, h2⟩ | ⟨f, h1, h2, h3, h4, h5⟩
        · rw [if_pos h1]
          refine Or.inr ⟨nI j, Or.inr ⟨j, by omega, hj, rfl, ho, fun i hi hoi => ?_⟩, rfl⟩
          by_cases e : i = j
          · rw [e]
          · rw [h2 i (by omega)] at hoi; cases hoi
        · have hne : ¬ s = -1 := by
            rw [h3]; intro q
            have := nI_pos (n := f) (by omega)
            rw [q] at this; exact this (by decide)
          rw [if_neg hne, h3, if_pos (gin_16 hj), if_pos (gin_16 h2), cl16 hj, cl16 h2, h.num fld1 hj (hw.1 j hj ho), h.num fld1 h2 (hw.1 f h2 h4)]
          by_cases e : aN a 1 j = aN a 1 f
          · rw [if_pos e]
            refine Or.inr ⟨nI f, Or.inr ⟨f, by omega, h2, rfl, h4, fun i hi hoi => ?_⟩, rfl⟩
            by_cases e2 : i = j
            · rw [e2]; exact e
            · exact h5 i (by omega) hoi
          · rw [if_neg e]
            exact Or.inl ⟨fun q => absurd (q.2 j f hj h2 ho h4) e, fun _ => rfl⟩
  exact key
theorem X4_tog {G : gG} {a : AM} (hw : wf a) (h : M2 G a) : (pTog a → sh_X4_isTogether G = some 1) ∧ (¬ pTog a → sh_X4_isTogether G = some 0) := by
  obtain ⟨g1, g2⟩ := X4_gd hw h
  unfold sh_X4_isTogether
  by_cases hz : cnt (aO a) 16 = 0
  · rw [g1 hz, obp_s, if_neg (by decide)]
    refine ⟨fun ⟨⟨i, hi, ho⟩, _⟩ => ?_, fun _ => rfl⟩
    rw [cnt_0.mp hz i hi] at ho; cases ho
  · obtain ⟨r, e1, e2⟩ := g2 hz
    rw [e1, obp_s]
    have hex : ∃ i, i < 16 ∧ aO a i = true := by
      rcases Classical.em (∃ i, i < 16 ∧ aO a i = true) with q | q
      · exact q
      · exfalso; apply hz; apply cnt_0.mpr
        intro i hi
        cases hs : aO a i
        · rfl
        · exact absurd ⟨i, hi, hs⟩ q
    have hiff : r = 0 ↔ pTog a := by
      constructor
      · intro q
        refine ⟨hex, fun i j hi hj hoi hoj => ?_⟩
        obtain ⟨d1, d2, d3⟩ := sDist_i hw hi hj (hw.1 i hi hoi) (hw.1 j hj hoj)
        have := e2.2.1 i j hi hj hoi hoj
        rw [q, I_0] at this
        exact d3.mp (by rw [I_eq, I_0]; omega)
      · intro q
        rcases e2.2.2 with z | ⟨i, j, hi, hj, hoi, hoj, z⟩
        · exact z
        · rw [z]
          exact (sDist_i hw hi hj (hw.1 i hi hoi) (hw.1 j hj hoj)).2.2.mpr (q.2 i j hi hj hoi hoj)
    refine ⟨fun q => by rw [if_pos (hiff.mpr q)], fun q => by rw [if_neg (fun z => q (hiff.mp z))]⟩
def pUnl (a : AM) : Prop := ∃ i j, i < 16 ∧ j < 16 ∧ aO a i = true ∧ aO a j = true ∧ aN a 2 i ≠ aN a 2 j
theorem X1_unl {G : gG} {k : Nat} {a : AM} (hw : wf a) (h : R1 G k a) : (pUnl a → sh_X1_hasUnlikeRates k G = some 1) ∧ (¬ pUnl a → sh_X1_hasUnlikeRates k G = some 0) := by
  have key : (fun r => (pUnl a → r = some 1) ∧ (¬ pUnl a → r = some 0)) (sh_X1_hasUnlikeRates_4 k G (some 0) FU (-1) (nI 0)) := by
    refine forp 16 (fun n j s => sh_X1_hasUnlikeRates_4 k G (some 0) n s (nI j)) (fun j s => (s = -1 ∧ ∀ i, i < j → aO a i = false) ∨ (∃ f, f < j ∧ f < 16 ∧ s = nI f ∧ aO a f = true ∧ ∀ i, i < j → aO a i = true → aN a 2 i = aN a 2 f)) (fun r => (pUnl a → r = some 1) ∧ (¬ pUnl a → r = some 0)) ?_ ?_ 16 0 FU (-1) rfl (by decide) (Or.inl ⟨rfl, fun i hi => by omega⟩)
    · intro n s hs
      show _ ∧ _
      have e : sh_X1_hasUnlikeRates_4 k G (some 0) (n + 1) s (nI 16) = some 0 := by
        rw [sh_X1_hasUnlikeRates_4.eq_2, if_pos (by decide)]
      rw [e]
      refine ⟨fun ⟨i, j, hi, hj, hoi, hoj, hne⟩ => ?_, fun _ => rfl⟩
      rcases hs with ⟨_, h2⟩ | ⟨f, hf1, hf2, _, h3, h4⟩
      · rw [h2 i hi] at hoi; cases hoi
      · exact absurd (by rw [h4 i hi hoi, h4 j hj hoj]) hne
    · intro n j s hj hs
      have hh : sh_X3_holds (G k 9) (nI j) = b2i (aO a j) := holds_is h.2.1 hj
      show (_ ∧ _) ∨ ∃ s', _ ∧ sh_X1_hasUnlikeRates_4 k G _ (n + 1) s (nI j) = _
      rw [sh_X1_hasUnlikeRates_4.eq_2, if_neg (nj16 hj), hh, nI_1 j]
      cases ho : aO a j
      · rw [if_pos (b_f rfl)]
        refine Or.inr ⟨s, ?_, rfl⟩
        rcases hs with ⟨h1, h2⟩ | ⟨f, h1, h2, h3, h4, h5⟩
        · refine Or.inl ⟨h1, fun i hi => ?_⟩
          by_cases e : i = j
          · subst e; exact ho
          · exact h2 i (by omega)
        · refine Or.inr ⟨f, by omega, h2, h3, h4, fun i hi hoi => ?_⟩
          by_cases e : i = j
          · subst e; rw [ho] at hoi; cases hoi
          · exact h5 i (by omega) hoi
      · rw [if_neg (b_t rfl)]
        rcases hs with ⟨h1, h2⟩ | ⟨f, h1, h2, h3, h4, h5⟩
        · rw [if_pos h1]
          refine Or.inr ⟨nI j, Or.inr ⟨j, by omega, hj, rfl, ho, fun i hi hoi => ?_⟩, rfl⟩
          by_cases e : i = j
          · rw [e]
          · rw [h2 i (by omega)] at hoi; cases hoi
        · have hne : ¬ s = -1 := by
            rw [h3]; intro q
            have := nI_pos (n := f) (by omega)
            rw [q] at this; exact this (by decide)
          rw [if_neg hne, h3, if_pos (gin_16 hj), if_pos (gin_16 h2), cl16 hj, cl16 h2, h.num fld2 hj (hw.1 j hj ho), h.num fld2 h2 (hw.1 f h2 h4)]
          by_cases e : aN a 2 j = aN a 2 f
          · rw [if_pos e]
            refine Or.inr ⟨nI f, Or.inr ⟨f, by omega, h2, rfl, h4, fun i hi hoi => ?_⟩, rfl⟩
            by_cases e2 : i = j
            · rw [e2]; exact e
            · exact h5 i (by omega) hoi
          · rw [if_neg e]
            exact Or.inl ⟨fun _ => rfl, fun q => absurd ⟨j, f, hj, h2, ho, h4, e⟩ q⟩
  exact key
theorem X4_unl {G : gG} {a : AM} (hw : wf a) (h : M2 G a) : (pUnl a → sh_X4_areRatesUnlike G = some 1) ∧ (¬ pUnl a → sh_X4_areRatesUnlike G = some 0) := by
  have e150 : (150 : Int32).toInt = 150 := by decide
  obtain ⟨s, ⟨h1, h2, h3⟩, h4⟩ := forl 16 (fun n j (s : Int32 × Int32) => sh_X4_areRatesUnlike_8 G (fun l1 l2 => (if l2 ≤ l1 then some (0 : Int32) else some (1 : Int32))) n s.1 s.2 (nI j)) (fun j s => (∀ i, i < j → aO a i = true → s.1.toInt ≤ (aN a 2 i).toInt ∧ (aN a 2 i).toInt ≤ s.2.toInt) ∧ (s.1 = 150 ∨ ∃ i, i < 16 ∧ aO a i = true ∧ aN a 2 i = s.1) ∧ (s.2 = 0 ∨ ∃ i, i < 16 ∧ aO a i = true ∧ aN a 2 i = s.2)) (fun s => (if s.2 ≤ s.1 then some (0 : Int32) else some (1 : Int32))) (by
    intro n s _
    show sh_X4_areRatesUnlike_8 G _ (n + 1) s.1 s.2 (nI 16) = _
    rw [sh_X4_areRatesUnlike_8.eq_2, if_pos (by decide)]) (by
    intro n j s hj ⟨h1, h2, h3⟩
    obtain ⟨x, y⟩ := s
    show ∃ s', _ ∧ sh_X4_areRatesUnlike_8 G _ (n + 1) x y (nI j) = _
    dsimp only at h1 h2 h3
    rw [sh_X4_areRatesUnlike_8.eq_2, if_neg (nj16 hj), X4_isOn h hw.1 hj, obp_s]
    cases ho : aO a j
    · rw [if_pos (b_f rfl)]
      unfold sh_X4_areRatesUnlike_j41 sh_X4_areRatesUnlike_j42
      rw [X4_isOn h hw.1 hj, obp_s, ho, if_pos (b_f rfl), nI_1 j]
      refine ⟨(x, y), ⟨fun i hi hoi => ?_, h2, h3⟩, rfl⟩
      by_cases e : i = j
      · subst e; rw [ho] at hoi; cases hoi
      · exact h1 i (by omega) hoi
    · have n2 : G 72 (8 + 9 * j + 2) = aN a 2 j := m_n h (f := 2) fld2 hj (hw.1 j hj ho)
      rw [if_neg (b_t rfl), X4_of2 hj, obp_s, obp_s, n2]
      have fin : ∀ x' : Int32, x'.toInt ≤ x.toInt → x'.toInt ≤ (aN a 2 j).toInt → (x' = 150 ∨ ∃ i, i < 16 ∧ aO a i = true ∧ aN a 2 i = x') → ∃ s' : Int32 × Int32, ((∀ i, i < j + 1 → aO a i = true → s'.1.toInt ≤ (aN a 2 i).toInt ∧ (aN a 2 i).toInt ≤ s'.2.toInt) ∧ (s'.1 = 150 ∨ ∃ i, i < 16 ∧ aO a i = true ∧ aN a 2 i = s'.1) ∧ (s'.2 = 0 ∨ ∃ i, i < 16 ∧ aO a i = true ∧ aN a 2 i = s'.2)) ∧ sh_X4_areRatesUnlike_j42 G (fun l1 l2 => (if l2 ≤ l1 then some (0 : Int32) else some (1 : Int32))) (sh_X4_areRatesUnlike_8 G (fun l1 l2 => (if l2 ≤ l1 then some (0 : Int32) else some (1 : Int32))) n) y (nI j) x' = sh_X4_areRatesUnlike_8 G (fun l1 l2 => (if l2 ≤ l1 then some (0 : Int32) else some (1 : Int32))) n s'.1 s'.2 (nI (j + 1)) := by
        intro x' q1 q2 q3
        unfold sh_X4_areRatesUnlike_j42
        rw [X4_isOn h hw.1 hj, obp_s, ho, if_neg (b_t rfl), X4_of2 hj, obp_s, obp_s, n2, nI_1 j]
        by_cases e : aN a 2 j ≤ y
        · rw [if_pos e]; rw [I_le] at e
          refine ⟨(x', y), ⟨fun i hi hoi => ?_, q3, h3⟩, rfl⟩
          by_cases e2 : i = j
          · subst e2; exact ⟨q2, e⟩
          · have := h1 i (by omega) hoi
            exact ⟨by show x'.toInt ≤ _; omega, this.2⟩
        · rw [if_neg e]; rw [I_le] at e
          refine ⟨(x', aN a 2 j), ⟨fun i hi hoi => ?_, q3, Or.inr ⟨j, hj, ho, rfl⟩⟩, rfl⟩
          by_cases e2 : i = j
          · subst e2; exact ⟨q2, Int.le_refl _⟩
          · have := h1 i (by omega) hoi
            exact ⟨by show x'.toInt ≤ _; omega, by show _ ≤ (aN a 2 j).toInt; omega⟩
      by_cases e : x ≤ aN a 2 j
      · rw [if_pos e]; rw [I_le] at e
        unfold sh_X4_areRatesUnlike_j41
        exact fin x (Int.le_refl _) e h2
      · rw [if_neg e]; rw [I_le] at e
        exact fin _ (by omega) (Int.le_refl _) (Or.inr ⟨j, hj, ho, rfl⟩)) 16 0 FU (150, 0) rfl (by decide) ⟨fun i hi => by omega, Or.inl rfl, Or.inl rfl⟩
  have e : sh_X4_areRatesUnlike G = (if s.2 ≤ s.1 then some (0 : Int32) else some (1 : Int32)) := h4
  rw [e]
  have hiff : s.2 ≤ s.1 ↔ ¬ pUnl a := by
    rw [I_le]
    constructor
    · rintro q ⟨i, j, hi, hj, hoi, hoj, hne⟩
      have a1 := h1 i hi hoi; have a2 := h1 j hj hoj
      apply hne; rw [I_eq]; omega
    · intro q
      rcases Int.lt_or_le s.1.toInt s.2.toInt with z | z
      · exfalso; apply q
        rcases h3 with y3 | ⟨i, hi, hoi, y3⟩
        · rw [y3, I_0] at z
          rcases h2 with y2 | ⟨i, hi, hoi, y2⟩
          · rw [y2, e150] at z; omega
          · have := (hw.2.2.2.1 i hi (hw.1 i hi hoi)).2.2.1
            rw [y2] at this; omega
        · rcases h2 with y2 | ⟨j, hj, hoj, y2⟩
          · have := (hw.2.2.2.1 i hi (hw.1 i hi hoi)).2.2.2.1
            rw [y3] at this; rw [y2, e150] at z; omega
          · exact ⟨i, j, hi, hj, hoi, hoj, fun w => by rw [y3, y2] at w; rw [w] at z; omega⟩
      · exact z
  refine ⟨fun q => by rw [if_neg (fun z => (hiff.mp z) q)], fun q => by rw [if_pos (hiff.mpr q)]⟩
