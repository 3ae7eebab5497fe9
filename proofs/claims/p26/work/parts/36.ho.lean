-- the law's look at the whole mesh
theorem sDist_hi {a : AM} (hw : wf a) {i j : Nat} (hi : i < 16) (hj : j < 16) (hti : aT a i = true) (htj : aT a j = true) : (sDist a i j).toInt ≤ 50 * (aG a 5).toInt := by
  obtain ⟨f1, f2⟩ := wf_full hw
  obtain ⟨a1, a2⟩ := wf_ph hw hi hti
  obtain ⟨b1, b2⟩ := wf_ph hw hj htj
  have hd : (aN a 1 i - aN a 1 j).toInt = (aN a 1 i).toInt - (aN a 1 j).toInt := I_sub (by omega) (by omega)
  have gen : ∃ z : Int32, z = (if 0 ≤ aN a 1 i - aN a 1 j then aN a 1 i - aN a 1 j else 0 - (aN a 1 i - aN a 1 j)) ∧ 0 ≤ z.toInt ∧ z.toInt < (sFull a).toInt := by
    refine ⟨_, rfl, ?_⟩
    split
    · rename_i q
      rw [I_le, I_0] at q; omega
    · rename_i q
      rw [I_le, I_0] at q
      rw [I_sub (by rw [I_0]; omega) (by rw [I_0]; omega), I_0]; omega
  obtain ⟨z, hz, z1, z2⟩ := gen
  have e1 : sDist a i j = if sFull a - z < z then sFull a - z else z := by unfold sDist; rw [hz]
  have e2 : (sFull a - z).toInt = (sFull a).toInt - z.toInt := I_sub (by omega) (by omega)
  rw [e1]
  split
  · rename_i q
    rw [I_lt, e2] at q; omega
  · rename_i q
    rw [I_lt, e2] at q; omega
def mxQ (a : AM) (Q : Nat → Nat → Prop) (x : Int32) : Prop := (x = -5 ∧ ∀ i c, i < 16 → c < 16 → Q i c → aO a i = true → aO a c = true → False) ∨ (0 ≤ x.toInt ∧ (∀ i c, i < 16 → c < 16 → Q i c → aO a i = true → aO a c = true → (sDist a i c).toInt ≤ x.toInt) ∧ ∃ i c, i < 16 ∧ c < 16 ∧ aO a i = true ∧ aO a c = true ∧ x = sDist a i c)
theorem mxQ.mono {a : AM} {Q Q' : Nat → Nat → Prop} {x : Int32} (h : mxQ a Q x) (hq : ∀ i c, i < 16 → c < 16 → aO a i = true → aO a c = true → Q' i c → Q i c) : mxQ a Q' x := by
  rcases h with ⟨h1, h2⟩ | ⟨h1, h2, h3⟩
  · exact Or.inl ⟨h1, fun i c hi hc q o1 o2 => h2 i c hi hc (hq i c hi hc o1 o2 q) o1 o2⟩
  · exact Or.inr ⟨h1, fun i c hi hc q o1 o2 => h2 i c hi hc (hq i c hi hc o1 o2 q) o1 o2, h3⟩
theorem mxQ.add {a : AM} {Q : Nat → Nat → Prop} {x : Int32} {i c : Nat} (h : mxQ a Q x) (hi : i < 16) (hc : c < 16) (o1 : aO a i = true) (o2 : aO a c = true) (hd : 0 ≤ (sDist a i c).toInt) : mxQ a (fun r s => Q r s ∨ (r = i ∧ s = c)) (if sDist a i c ≤ x then x else sDist a i c) := by
  right
  have m5 : (-5 : Int32).toInt = -5 := by decide
  rcases h with ⟨h1, h2⟩ | ⟨h1, h2, h3⟩
  · rw [if_neg (by rw [h1, I_le, m5]; omega)]
    refine ⟨hd, fun r s hr hs q p1 p2 => ?_, i, c, hi, hc, o1, o2, rfl⟩
    rcases q with q | ⟨rfl, rfl⟩
    · exact absurd (h2 r s hr hs q p1 p2) id
    · exact Int.le_refl _
  · by_cases q : sDist a i c ≤ x
    · rw [if_pos q]
      rw [I_le] at q
      refine ⟨h1, fun r s hr hs q2 p1 p2 => ?_, h3⟩
      rcases q2 with q2 | ⟨rfl, rfl⟩
      · exact h2 r s hr hs q2 p1 p2
      · exact q
    · rw [if_neg q]
      rw [I_le] at q
      refine ⟨hd, fun r s hr hs q2 p1 p2 => ?_, i, c, hi, hc, o1, o2, rfl⟩
      rcases q2 with q2 | ⟨rfl, rfl⟩
      · have := h2 r s hr hs q2 p1 p2; omega
      · exact Int.le_refl _
def bN (a : AM) (f : Nat) : Nat → Int32
  | 0 => 0
  | j + 1 => if aT a j then bN a f j + aN a f j else bN a f j
theorem zs_mono {P : Nat → Int} {j : Nat} : ∀ {m : Nat}, (∀ i, i < m → 0 ≤ P i) → j ≤ m → zs P j ≤ zs P m
  | 0, _, hj => by
    obtain rfl : j = 0 := by omega
    exact Int.le_refl _
  | m + 1, h, hj => by
    by_cases e : j = m + 1
    · rw [e]; exact Int.le_refl _
    · have h1 := zs_mono (P := P) (j := j) (m := m) (fun i hi => h i (by omega)) (by omega)
      have h2 := h m (by omega)
      simp only [zs]; omega
theorem bN_i {a : AM} (h : ∀ i, i < 16 → aT a i = true → pL a i) {f : Nat} (hf : f = 5 ∨ f = 7) (hb : sB a f < 2147483648) : ∀ j, j ≤ 16 → (bN a f j).toInt = zs (fun i => if aT a i then (aN a f i).toInt else 0) j
  | 0, _ => I_0
  | j + 1, hj => by
    have ih := bN_i h hf hb j (by omega)
    have h1 := zs_mono (P := fun i => if aT a i then (aN a f i).toInt else 0) (j := j + 1) (m := 16) (fun i hi => sB_term h hf hi) hj
    have h2 := zs_nn (P := fun i => if aT a i then (aN a f i).toInt else 0) (m := j) (fun i hi => sB_term h hf (by omega))
    have h3 := sB_term h hf (i := j) (by omega)
    have h1 : zs (fun i => if aT a i then (aN a f i).toInt else 0) j + (if aT a j = true then (aN a f j).toInt else 0) ≤ sB a f := h1
    show (if aT a j then bN a f j + aN a f j else bN a f j).toInt = zs (fun i => if aT a i then (aN a f i).toInt else 0) j + (if aT a j = true then (aN a f j).toInt else 0)
    cases ht : aT a j
    · rw [ht] at h1
      rw [if_neg (by decide), if_neg (by decide), ih]; omega
    · rw [ht] at h1 h3
      rw [if_pos rfl] at h1 h3 ⊢
      rw [if_pos rfl, I_add (by omega) (by omega), ih]
theorem I_m1 : ¬ (0 : Int32) = -1 := by decide
set_option maxHeartbeats 2000000 in
theorem L_row {G : gG} {a : AM} {us : List AM} {nn : Nat} (S : SC G a us) (hv : inv nn a) {i : Nat} (hi : i < 16) (ht : aT a i = true) (kt : Int32 → Int32 → Int32 → Int32 → Int32 → Int32 → Int32 → gG → Option (Int32 × gG)) (l1 l2 l4 l5 : Int32) (dd : Nat) (m : Int32) (hm : mxQ a (fun r _ => r < i) m) : ∃ m', mxQ a (fun r _ => r < i + 1) m' ∧ sh_L_holds_83 kt FU l1 l2 (nI dd) l4 l5 m (nI i) 0 G = kt l1 l2 (nI (dd + cnt (aL a i) 16)) l4 l5 m' (nI i) G := by
  have hw := hv.1
  obtain ⟨m', h1, h2⟩ := forl 16 (fun n c (m : Int32) => sh_L_holds_83 kt n l1 l2 (nI (dd + cnt (aL a i) c)) l4 l5 m (nI i) (nI c) G) (fun c m => mxQ a (fun r s => r < i ∨ (r = i ∧ s < c)) m) (fun m => kt l1 l2 (nI (dd + cnt (aL a i) 16)) l4 l5 m (nI i) G) (by
    intro n m _
    show sh_L_holds_83 kt (n + 1) _ _ _ _ _ _ _ (nI 16) _ = _
    rw [sh_L_holds_83.eq_2, if_pos (by decide)]) (by
    intro n c m hc hQ
    show ∃ m', _ ∧ sh_L_holds_83 kt (n + 1) _ _ _ _ _ _ _ (nI c) _ = sh_L_holds_83 kt n _ _ _ _ _ _ _ (nI (c + 1)) _
    have hz : nI (dd + cnt (aL a i) c) + b2i (aL a i c) = nI (dd + cnt (aL a i) (c + 1)) := by
      show nI (dd + cnt (aL a i) c) + b2i (aL a i c) = nI (dd + (cnt (aL a i) c + (aL a i c).toNat))
      rw [← Nat.add_assoc, ← nI_add (dd + cnt (aL a i) c)]
      cases aL a i c <;> rfl
    have J : ∀ x : Int32, (aT a c = true → x = sDist a i c) → ∃ m', mxQ a (fun r s => r < i ∨ (r = i ∧ s < c + 1)) m' ∧ sh_L_holds_j168 kt (sh_L_holds_83 kt n) l1 l2 (nI (dd + cnt (aL a i) (c + 1))) l4 l5 m (nI i) (nI c) x G = sh_L_holds_83 kt n l1 l2 (nI (dd + cnt (aL a i) (c + 1))) l4 l5 m' (nI i) (nI (c + 1)) G := by
      intro x hx
      unfold sh_L_holds_j168
      rw [L_isOn S hi, obp_s, ifb0, L_isOn S hc, obp_s, ifb0, nI_1 c]
      cases o1 : aO a i
      · refine ⟨m, hQ.mono (fun r s hr hs p1 p2 q => ?_), rfl⟩
        rcases q with q | ⟨rfl, q⟩
        · exact Or.inl q
        · rw [o1] at p1; cases p1
      · cases o2 : aO a c
        · refine ⟨m, hQ.mono (fun r s hr hs p1 p2 q => ?_), rfl⟩
          rcases q with q | ⟨q1, q⟩
          · exact Or.inl q
          · refine Or.inr ⟨q1, ?_⟩
            by_cases e : s = c
            · rw [e, o2] at p2; cases p2
            · omega
        · have htc := hw.1 c hc o2
          rw [hx htc]
          refine ⟨if sDist a i c ≤ m then m else sDist a i c, (hQ.add hi hc o1 o2 (sDist_i hw hi hc ht htc).1).mono (fun r s hr hs p1 p2 q => ?_), ?_⟩
          · rcases q with q | ⟨q1, q⟩
            · exact Or.inl (Or.inl q)
            · by_cases e : s = c
              · exact Or.inr ⟨q1, e⟩
              · exact Or.inl (Or.inr ⟨q1, by omega⟩)
          · by_cases q : sDist a i c ≤ m
            · rw [if_pos rfl, if_pos rfl, if_pos q, if_pos q]
            · rw [if_pos rfl, if_pos rfl, if_neg q, if_neg q]
    rw [sh_L_holds_83.eq_2, if_neg (nj16 hc), ql6 S hi ht, obp_s, bit_is hc, bni_s, hz]
    cases htc : aT a c
    · rw [qc_apart_f S (Or.inr (none_i hc htc)), obp_s, L_isThere S hc, obp_s, htc, if_pos (b_f rfl), if_pos rfl]
      exact J (-1) (fun h => by rw [htc] at h; cases h)
    · obtain ⟨d1, d2, d3⟩ := sDist_i hw hi hc ht htc
      have d4 := sDist_hi hw hi hc ht htc
      have e50 : (50 * aG a 5).toInt = 50 * (aG a 5).toInt := by
        have e : (50 : Int32).toInt = 50 := by decide
        have w1 := hw.2.2.2.2.1
        have w2 := hw.2.2.2.2.2.1
        rw [I_mul (by rw [e]; omega) (by rw [e]; omega), e]
      rw [qc_apart S hi hc ht htc, obp_s, L_isThere S hc, obp_s, htc, if_neg (b_t rfl), qc_apart S hc hi htc ht, obp_s, if_pos d2, if_neg (by rw [I_lt, I_0]; omega), qk9 S, obp_s, if_pos (by rw [I_le, e50]; exact d4)]
      exact J _ (fun _ => rfl)) 16 0 FU m rfl (by decide) (hm.mono (fun r s hr hs _ _ q => by
    rcases q with q | ⟨_, q⟩
    · exact q
    · omega))
  refine ⟨m', h1.mono (fun r s hr hs _ _ q => ?_), h2⟩
  by_cases e : r = i
  · exact Or.inr ⟨e, hs⟩
  · exact Or.inl (by omega)
