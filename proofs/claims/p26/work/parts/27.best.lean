-- the best link
noncomputable def gdOf (a : AM) : Int32 := Classical.epsilon (isMx a)
theorem gd_u {a : AM} {r : Int32} (h : isMx a r) : r = gdOf a := mx_u h (Classical.epsilon_spec ⟨r, h⟩)
theorem gd_0 {a : AM} {r : Int32} (h : isMx a r) : 0 ≤ (gdOf a).toInt := by rw [← gd_u h]; exact h.1
theorem wf_link {a : AM} (h : wf a) {i j : Nat} {b : Bool} (hi : i < 16) (hj : j < 16) (hti : aT a i = true) (htj : aT a j = true) : wf (sLink a i j b) := by
  obtain ⟨h1, h2, h3, h4⟩ := h
  refine ⟨h1, fun r c hr hc => ?_, fun r c hr hc hl => ?_, h4⟩
  · show (if (r = i ∧ c = j) ∨ (r = j ∧ c = i) then b else aL a r c) = (if (c = i ∧ r = j) ∨ (c = j ∧ r = i) then b else aL a c r)
    by_cases q : (r = i ∧ c = j) ∨ (r = j ∧ c = i)
    · rw [if_pos q, if_pos (by omega)]
    · rw [if_neg q, if_neg (by omega)]; exact h2 r c hr hc
  · have hl2 : (if (r = i ∧ c = j) ∨ (r = j ∧ c = i) then b else aL a r c) = true := hl
    by_cases q : (r = i ∧ c = j) ∨ (r = j ∧ c = i)
    · rcases q with ⟨e, _⟩ | ⟨e, _⟩
      · rw [e]; exact hti
      · rw [e]; exact htj
    · rw [if_neg q] at hl2; exact h3 r c hr hc hl2
noncomputable def sp (a : AM) (i j : Nat) : Int32 := gdOf (sTickN 100 (sLink a i j true))
def cB (a : AM) (i j : Nat) : Bool := decide (i < j) && (aO a i && (aO a j && !aL a i j))
noncomputable def sBl (a : AM) : Nat → Option (Nat × Int32)
  | 0 => none
  | k + 1 => if cB a (k / 16) (k % 16) then (match sBl a k with
    | none => some (k, sp a (k / 16) (k % 16))
    | some p => if sp a (k / 16) (k % 16) < p.2 then some (k, sp a (k / 16) (k % 16)) else some p) else sBl a k
theorem X3_spw {G : gG} {a : AM} {i j : Nat} (hw : wf a) (hR : R1 G 0 a) (hi : i < 16) (hj : j < 16) (hij : i ≠ j) (hti : aT a i = true) (htj : aT a j = true) : ∃ G', sh_X3_spreadWith (nI i) (nI j) G = some (sp a i j, G') ∧ 0 ≤ (sp a i j).toInt ∧ frm G G' 9 := by
  obtain ⟨G1, e1, e2, e3⟩ := X1_copy isM9 isM0 (by decide) hR
  obtain ⟨G2, f1, f2, f3⟩ := X1_link (b := true) e2 hi hj hij
  have hwl := wf_link (b := true) hw hi hj hti htj
  obtain ⟨G3, g1, g2, g3⟩ := X1_pass (m := 100) (by decide) hwl f2
  obtain ⟨r, i1, i2⟩ := X1_gd (tickN_wf 100 hwl) g2
  unfold sh_X3_spreadWith
  have f1' : sh_X1_changeLink 9 (nI i) (nI j) 1 G1 = some G2 := f1
  have g1' : sh_X1_tickOften 9 100 G2 = some G3 := g1
  rw [e1, obv_s, f1', obv_s, g1', obv_s, i1, obp_s, gd_u i2]
  exact ⟨G3, rfl, gd_0 i2, (e3.trans f3).trans g3⟩
theorem X1_could {G : gG} {k : Nat} {a : AM} (h : R1 G k a) {i j : Nat} (hi : i < 16) (hj : j < 16) : sh_X1_couldLink k (nI i) (nI j) G = some (b2i (aO a i && (aO a j && !aL a i j))) := by
  unfold sh_X1_couldLink
  rw [X1_isOn h hi, X1_isOn h hj, X1_isLinked h hi hj]
  cases aO a i
  · rw [if_pos (b_f rfl)]; rfl
  · rw [if_neg (b_t rfl)]
    cases aO a j
    · rw [if_pos (b_f rfl)]; rfl
    · rw [if_neg (b_t rfl), obp_s]
      cases aL a i j
      · rw [if_pos (b_f rfl)]; rfl
      · rw [if_neg (b_t rfl)]; rfl
def rep1 (o : Option (Nat × Int32)) (l2 l3 l4 : Int32) : Prop := (o = none ∧ l2 = -5 ∧ l3 = -5 ∧ l4 = -5) ∨ ∃ b s, o = some (b, s) ∧ b < 256 ∧ l2 = nI (b / 16) ∧ l3 = nI (b % 16) ∧ l4 = s ∧ 0 ≤ s.toInt
theorem sBl_f {a : AM} {k : Nat} (h : cB a (k / 16) (k % 16) = false) : sBl a (k + 1) = sBl a k := by
  show (if cB a (k / 16) (k % 16) then _ else _) = _; rw [h]; rfl
theorem sBl_t {a : AM} {k : Nat} (h : cB a (k / 16) (k % 16) = true) : sBl a (k + 1) = (match sBl a k with
    | none => some (k, sp a (k / 16) (k % 16))
    | some p => if sp a (k / 16) (k % 16) < p.2 then some (k, sp a (k / 16) (k % 16)) else some p) := by
  show (if cB a (k / 16) (k % 16) then _ else _) = _; rw [h]; rfl
theorem sBl_row {a : AM} {i : Nat} : ∀ d, d ≤ i + 1 → i < 16 → d ≤ 16 → sBl a (16 * i + d) = sBl a (16 * i)
  | 0, _, _, _ => rfl
  | d + 1, h, hi, h16 => by
    have e1 : (16 * i + d) / 16 = i := by omega
    have e2 : (16 * i + d) % 16 = d := by omega
    rw [show 16 * i + (d + 1) = 16 * i + d + 1 by omega, sBl_f, sBl_row d (by omega) hi (by omega)]
    rw [e1, e2]
    unfold cB
    simp [show ¬ i < d by omega]
theorem m5_i : (-5 : Int32).toInt = -5 := by decide
theorem X3_best {G0 : gG} {a : AM} (hw : wf a) (h0 : R1 G0 0 a) (l1 : Int32) : ∃ l2 l3 l4 G', rep1 (sBl a 256) l2 l3 l4 ∧ sh_X3_bestLink_25 (fun l1 l2 l3 l4 G => (if l1 = (0 : Int32) then some (l2, G) else (if l1 = (1 : Int32) then some (l3, G) else some (l4, G)))) FU l1 (-5) (-5) (-5) 0 G0 = (if l1 = (0 : Int32) then some (l2, G') else (if l1 = (1 : Int32) then some (l3, G') else some (l4, G'))) ∧ frm G0 G' 9 := by
  have inner : ∀ (n i : Nat) (l2 l3 l4 : Int32) (G : gG) (kt : Int32 → Int32 → Int32 → Int32 → gG → Option (Int32 × gG)), i < 16 → R1 G 0 a → frm G0 G 9 → rep1 (sBl a (16 * i)) l2 l3 l4 → ∃ s : (Int32 × Int32) × (Int32 × gG), (R1 s.2.2 0 a ∧ frm G0 s.2.2 9 ∧ rep1 (sBl a (16 * (i + 1))) s.1.1 s.1.2 s.2.1) ∧ sh_X3_bestLink_38 (fun l1 l2 l3 l4 l5 G => sh_X3_bestLink_25 kt n l1 l2 l3 l4 (l5 + 1) G) FU l1 l2 l3 l4 (nI i) (nI i + 1) G = sh_X3_bestLink_25 kt n l1 s.1.1 s.1.2 s.2.1 (nI (i + 1)) s.2.2 := by
    intro n i l2 l3 l4 G kt hi hR hF hrep
    rw [nI_1 i]
    refine forl 16 (fun m j (s : (Int32 × Int32) × (Int32 × gG)) => sh_X3_bestLink_38 (fun l1 l2 l3 l4 l5 G => sh_X3_bestLink_25 kt n l1 l2 l3 l4 (l5 + 1) G) m l1 s.1.1 s.1.2 s.2.1 (nI i) (nI j) s.2.2) (fun j s => R1 s.2.2 0 a ∧ frm G0 s.2.2 9 ∧ i < j ∧ rep1 (sBl a (16 * i + j)) s.1.1 s.1.2 s.2.1) (fun s => sh_X3_bestLink_25 kt n l1 s.1.1 s.1.2 s.2.1 (nI (i + 1)) s.2.2) ?_ ?_ (16 - (i + 1)) (i + 1) FU ((l2, l3), (l4, G)) (by omega) (by unfold FU; omega) ⟨hR, hF, by omega, by rw [sBl_row (i + 1) (by omega) hi (by omega)]; exact hrep⟩ |> fun ⟨s, ⟨q1, q2, _, q4⟩, q5⟩ => ⟨s, ⟨q1, q2, by rw [show 16 * (i + 1) = 16 * i + 16 by omega]; exact q4⟩, q5⟩
    · intro m s _
      show sh_X3_bestLink_38 _ (m + 1) l1 s.1.1 s.1.2 s.2.1 (nI i) (nI 16) s.2.2 = _
      rw [sh_X3_bestLink_38.eq_2, if_pos (by decide), nI_1 i]
    · intro m j s hj ⟨hR, hF, hij, hrep⟩
      obtain ⟨⟨x, y⟩, ⟨z, G⟩⟩ := s
      dsimp only at hR hF hrep
      show ∃ s', _ ∧ sh_X3_bestLink_38 _ (m + 1) l1 x y z (nI i) (nI j) G = _
      have e1 : (16 * i + j) / 16 = i := by omega
      have e2 : (16 * i + j) % 16 = j := by omega
      have hcb : cB a i j = (aO a i && (aO a j && !aL a i j)) := by unfold cB; simp [hij]
      rw [sh_X3_bestLink_38.eq_2, if_neg (nj16 hj), X1_could hR hi hj, obp_s, nI_1 j, ← hcb]
      cases hc : cB a i j
      · rw [if_pos (b_f rfl)]
        refine ⟨((x, y), (z, G)), ⟨hR, hF, by omega, ?_⟩, rfl⟩
        rw [show 16 * i + (j + 1) = 16 * i + j + 1 by omega, sBl_f (by rw [e1, e2]; exact hc)]
        exact hrep
      · have hoi : aO a i = true ∧ aO a j = true := by unfold cB at hc; simp at hc; exact ⟨hc.2.1, hc.2.2.1⟩
        obtain ⟨G1, f1, f2, f3⟩ := X3_spw hw hR hi hj (by omega) (hw.1 i hi hoi.1) (hw.1 j hj hoi.2)
        have hR' : R1 G1 0 a := hR.fr (fun c _ hc2 => f3 c (Or.inl (by omega)))
        rw [if_neg (b_t rfl), f1, obi_s]
        have hst := sBl_t (a := a) (k := 16 * i + j) (by rw [e1, e2]; exact hc)
        rw [e1, e2] at hst
        rcases hrep with ⟨r1, r2, r3, r4⟩ | ⟨b, s, r1, r2, r3, r4, r5, r6⟩
        · rw [if_pos r4]
          refine ⟨((nI i, nI j), (sp a i j, G1)), ⟨hR', hF.trans f3, by omega, ?_⟩, rfl⟩
          rw [show 16 * i + (j + 1) = 16 * i + j + 1 by omega, hst, r1]
          exact Or.inr ⟨16 * i + j, sp a i j, rfl, by omega, by rw [e1], by rw [e2], rfl, f2⟩
        · rw [if_neg (by rw [r5, I_eq, m5_i]; omega)]
          by_cases q : z ≤ sp a i j
          · rw [if_pos q]
            refine ⟨((x, y), (z, G1)), ⟨hR', hF.trans f3, by omega, ?_⟩, rfl⟩
            rw [show 16 * i + (j + 1) = 16 * i + j + 1 by omega, hst, r1]
            show rep1 (if sp a i j < s then _ else _) _ _ _
            rw [if_neg (by rw [r5, I_le] at q; rw [I_lt]; omega)]
            exact Or.inr ⟨b, s, rfl, r2, r3, r4, r5, r6⟩
          · rw [if_neg q]
            refine ⟨((nI i, nI j), (sp a i j, G1)), ⟨hR', hF.trans f3, by omega, ?_⟩, rfl⟩
            rw [show 16 * i + (j + 1) = 16 * i + j + 1 by omega, hst, r1]
            show rep1 (if sp a i j < s then _ else _) _ _ _
            rw [if_pos (by rw [r5, I_le] at q; rw [I_lt]; omega)]
            exact Or.inr ⟨16 * i + j, sp a i j, rfl, by omega, by rw [e1], by rw [e2], rfl, f2⟩
  obtain ⟨s, ⟨h1, h2, h3⟩, h4⟩ := forl 16 (fun n i (s : (Int32 × Int32) × (Int32 × gG)) => sh_X3_bestLink_25 (fun l1 l2 l3 l4 G => (if l1 = (0 : Int32) then some (l2, G) else (if l1 = (1 : Int32) then some (l3, G) else some (l4, G)))) n l1 s.1.1 s.1.2 s.2.1 (nI i) s.2.2) (fun i s => R1 s.2.2 0 a ∧ frm G0 s.2.2 9 ∧ rep1 (sBl a (16 * i)) s.1.1 s.1.2 s.2.1) (fun s => (if l1 = (0 : Int32) then some (s.1.1, s.2.2) else (if l1 = (1 : Int32) then some (s.1.2, s.2.2) else some (s.2.1, s.2.2)))) (by
    intro n s _
    show sh_X3_bestLink_25 _ (n + 1) l1 s.1.1 s.1.2 s.2.1 (nI 16) s.2.2 = _
    rw [sh_X3_bestLink_25.eq_2, if_pos (by decide)]) (by
    intro n i s hi ⟨hR, hF, hrep⟩
    show ∃ s', _ ∧ sh_X3_bestLink_25 _ (n + 1) l1 s.1.1 s.1.2 s.2.1 (nI i) s.2.2 = _
    rw [sh_X3_bestLink_25.eq_2, if_neg (nj16 hi)]
    exact inner n i s.1.1 s.1.2 s.2.1 s.2.2 _ hi hR hF hrep) 16 0 FU ((-5, -5), (-5, G0)) rfl (by decide) ⟨h0, frm.rf, Or.inl ⟨rfl, rfl, rfl, rfl⟩⟩
  exact ⟨s.1.1, s.1.2, s.2.1, s.2.2, h3, h4, h2⟩
def rep2 (o : Option (Nat × Int32)) (l2 l3 : Int32) : Prop := (o = none ∧ l2 = -5 ∧ l3 = -5) ∨ ∃ b s, o = some (b, s) ∧ b < 256 ∧ l2 = nI b ∧ l3 = s ∧ 0 ≤ s.toInt
