-- the model's row: a whole tick
theorem blink_aE (a : AM) {S S' : Nat → Bool} (h : ∀ i, i < 16 → S i = S' i) : aE (sBlink a S) (sBlink a S') := by
  refine ⟨fun _ _ => rfl, fun _ _ => rfl, fun _ _ _ _ => rfl, fun f i hf hi _ => ?_, fun _ _ => rfl⟩
  show (if S i then _ else _) = (if S' i then _ else _)
  rw [h i hi]
theorem blink_none (a : AM) {S : Nat → Bool} (h : ∀ i, i < 16 → S i = false) : aE (sBlink a S) a := by
  refine ⟨fun _ _ => rfl, fun _ _ => rfl, fun _ _ _ _ => rfl, fun f i hf hi _ => ?_, fun _ _ => rfl⟩
  show (if S i then _ else _) = _
  rw [h i hi]; rfl
def pusd (a : AM) (B W : Nat → Bool) (i : Nat) : Bool := dz a W i && decide (0 < cj a B 16 i)
theorem ripe_e {a : AM} {B W : Nat → Bool} (hW : ∀ i, i < 16 → W i = true → aO a i = true) {i : Nat} (hi : i < 16) : mR (sPF 16 a B W) (pusd a B W) i = rPF 16 a B W i := by
  unfold mR rPF pusd sRipe
  cases hz : dz a W i
  · simp
  · have ho : aO a i = true := hW i hi (by unfold dz at hz; simp at hz; exact hz.1)
    have e1 : aN (sPF 16 a B W) 1 i = pIt (sFull a) (aG a 6) (cj a B 16 i) (aN a 1 i) := by
      show (if dz a W i then (if (1 : Nat) = 1 then _ else _) else _) = _
      rw [hz]; rfl
    have e2 : aO (sPF 16 a B W) i = true := ho
    have e3 : sFull (sPF 16 a B W) = sFull a := rfl
    rw [e1, e2, e3]
    simp
theorem X4_ticks (kt : Int32 → gG → Option (Int32 × gG)) : ∀ (d n : Nat) (G : gG) (a : AM) (x y : Int32) (B S : Nat → Bool), 16 ≤ cnt B 16 + d → d < n → isS x S → isS y (fun i => B i || S i) → wfx a S → (∀ i, i < 16 → S i = true → aO a i = true) → (∀ i, i < 16 → S i = true → B i = false) → M2 G (sBlink a S) → ∃ r G', sh_X4_tick_12 kt n x y G = kt r G' ∧ M2 G' (sTickR d a B S).1 ∧ isS r (sTickR d a B S).2 ∧ frq G G' 72 := by
  intro d
  induction d with
  | zero =>
    intro n G a x y B S hm hn hx hy hw hSO hSB hR
    obtain ⟨n, rfl⟩ : ∃ k, n = k + 1 := ⟨n - 1, by omega⟩
    have hall : ∀ i, i < 16 → B i = true := by
      intro i hi
      cases hb : B i
      · have := cnt_lt (S := B) (S' := fun _ => true) (m := 16) (fun _ _ _ => rfl) ⟨i, hi, hb, rfl⟩
        have h2 := cnt_le (fun _ => true) 16
        omega
      · rfl
    have hS : ∀ i, i < 16 → S i = false := by
      intro i hi
      cases hs : S i
      · rfl
      · have := hSB i hi hs
        rw [hall i hi] at this; cases this
    rw [sh_X4_tick_12.eq_2, if_pos (hx.zero.mpr hS)]
    exact ⟨y, G, rfl, hR.congr (blink_none a hS), hy.congr (fun i hi => by show (B i || S i) = B i; rw [hS i hi]; simp), frq.rf⟩
  | succ d ih =>
    intro n G a x y B S hm hn hx hy hw hSO hSB hR
    obtain ⟨n, rfl⟩ : ∃ k, n = k + 1 := ⟨n - 1, by omega⟩
    rw [sh_X4_tick_12.eq_2]
    by_cases hz : cnt S 16 = 0
    · have hS := cnt_0.mp hz
      rw [if_pos (hx.zero.mpr hS)]
      have e : sTickR (d + 1) a B S = (a, B) := by show (if cnt S 16 = 0 then _ else _) = _; rw [if_pos hz]
      rw [e]
      exact ⟨y, G, rfl, hR.congr (blink_none a hS), hy.congr (fun i hi => by show (B i || S i) = B i; rw [hS i hi]; simp), frq.rf⟩
    · rw [if_neg (fun q => hz (cnt_0.mpr (hx.zero.mp q)))]
      have hwb := wf_blink hw
      obtain ⟨r1, G1, e1, e2, e3, e4⟩ := X4_push (a := sBlink a S) hwb hx hy hR
      have hWO : ∀ i, i < 16 → (aO a i && !(B i || S i)) = true → aO (sBlink a S) i = true := fun i hi h => by simp at h; exact h.1
      have hww := wfx_push (B := S) (W := fun i => aO a i && !(B i || S i)) hwb hWO
      obtain ⟨r2, G2, f1, f2, f3, f4⟩ := X4_blink (a := sPF 16 (sBlink a S) S (fun i => aO a i && !(B i || S i))) (S := pusd (sBlink a S) S (fun i => aO a i && !(B i || S i))) hw.1 (fun i hi => e3.at hi) e2
      have hr : ∀ i, i < 16 → mR (sPF 16 (sBlink a S) S (fun i => aO a i && !(B i || S i))) (pusd (sBlink a S) S (fun i => aO a i && !(B i || S i))) i = rPF 16 (sBlink a S) S (fun i => aO a i && !(B i || S i)) i := fun i hi => ripe_e hWO hi
      have f3' := f3.congr hr
      have f2' := f2.congr (blink_aE _ hr)
      have hj : ∃ j, j < 16 ∧ S j = true := by
        rcases Classical.em (∃ j, j < 16 ∧ S j = true) with q | q
        · exact q
        · exfalso; apply hz; apply cnt_0.mpr
          intro i hi
          cases hs : S i
          · rfl
          · exact absurd ⟨i, hi, hs⟩ q
      obtain ⟨j, hj1, hj2⟩ := hj
      have hc := cnt_lt (S := B) (S' := fun i => B i || S i) (m := 16) (fun i _ h => by simp [h]) ⟨j, hj1, hSB j hj1 hj2, by simp [hj2]⟩
      have hW2 : ∀ i, i < 16 → rPF 16 (sBlink a S) S (fun i => aO a i && !(B i || S i)) i = true → aO a i = true ∧ (B i || S i) = false := fun i hi h => by
        unfold rPF dz at h
        simp at h
        have := h.1.1
        simp
        exact this
      obtain ⟨r3, G3, g1, g2, g3, g4⟩ := ih n G2 _ r2 (y ||| r2) (fun i => B i || S i) _ (by omega) (by omega) f3' (hy.or f3') hww (fun i hi h => (hW2 i hi h).1) (fun i hi h => (hW2 i hi h).2) f2'
      have e : sTickR (d + 1) a B S = sTickR d (sPF 16 (sBlink a S) S (fun i => aO a i && !(B i || S i))) (fun i => B i || S i) (rPF 16 (sBlink a S) S (fun i => aO a i && !(B i || S i))) := by show (if cnt S 16 = 0 then _ else _) = _; rw [if_neg hz]
      rw [e1, obi_s, f1, obi_s, g1, e]
      exact ⟨r3, G3, rfl, g2, g3, (e4.trans f4).trans g4⟩
theorem X4_fin {G : gG} {a : AM} {x : Int32} {S : Nat → Bool} (hx : isS x S) (hR : M2 G a) : ∃ G', (obp (sh_X4_bits x) fun r13 => (bng (gu G 72 ((0 : Int32)).toNatClampNeg ((G 72 ((0 : Int32)).toNatClampNeg) + (1 : Int32))) fun G14 => (bng (gu G14 72 ((1 : Int32)).toNatClampNeg ((G14 72 ((1 : Int32)).toNatClampNeg) + r13)) fun G16 => (if r13 ≤ (1 : Int32) then (sh_X4_tick_j76 x r13 (3 : Int32) (G16 72 ((3 : Int32)).toNatClampNeg) (0 : Int32) G16) else (sh_X4_tick_j76 x r13 (3 : Int32) (G16 72 ((3 : Int32)).toNatClampNeg) (1 : Int32) G16))))) = some (x, G') ∧ M2 G' (sAcc a (cnt S 16)) ∧ frq G G' 72 := by
  have hc := cnt_le S 16
  rw [bits_eq hx]
  simp only [obp_s, bng_s, tc0, tc1, tc3]
  have g0 : G 72 0 = aG a 0 := m_g hR (by decide)
  have g1 : G 72 1 = aG a 1 := m_g hR (by decide)
  have g3 : G 72 3 = aG a 3 := m_g hR (by decide)
  have g4 : G 72 4 = aG a 4 := m_g hR (by decide)
  rw [gu_n2 (show 1 ≠ 0 by decide), g0, g1]
  have hR1 := (hR.g (j := 0) (x := aG a 0 + 1) (by decide)).g (j := 1) (x := aG a 1 + nI (cnt S 16)) (by decide)
  have hF1 := ((frq.rf (G := G) (q := 72)).gu (i := 0) (x := aG a 0 + 1)).gu (i := 1) (x := aG a 1 + nI (cnt S 16))
  have h13 : gin 3 152 = true := by decide
  rw [gu_n2 (show 3 ≠ 1 by decide), gu_n2 (show 3 ≠ 0 by decide), g3]
  have hl : nI (cnt S 16) ≤ 1 ↔ cnt S 16 < 2 := by
    rw [show (1 : Int32) = nI 1 from rfl, nI_leI (by omega) (by decide)]; omega
  by_cases h : cnt S 16 < 2
  · rw [if_pos (hl.mpr h)]
    unfold sh_X4_tick_j76
    rw [if_pos h13]
    simp only [bng_s, tc3, tc4]
    rw [if_pos (hl.mpr h)]
    rw [gu_n2 (show 4 ≠ 3 by decide), gu_n2 (show 4 ≠ 1 by decide), gu_n2 (show 4 ≠ 0 by decide), g4]
    refine ⟨_, rfl, ((hR1.g (j := 3) (x := aG a 3 + 0) (by decide)).g (j := 4) (x := aG a 4) (by decide)).congr ⟨fun _ _ => rfl, fun _ _ => rfl, fun _ _ _ _ => rfl, fun _ _ _ _ _ => rfl, fun r hr => ?_⟩, hF1.gu.gu⟩
    show (if r = 4 then _ else if r = 3 then _ else if r = 1 then _ else if r = 0 then _ else _) = (if r = 0 then _ else if r = 1 then _ else if r = 3 then (if cnt S 16 < 2 then _ else _) else if r = 4 then (if cnt S 16 < 2 then _ else _) else _)
    rw [if_pos h, if_pos h, Int32.add_zero]
    by_cases q0 : r = 0
    · subst q0; rfl
    · by_cases q1 : r = 1
      · subst q1; rfl
      · by_cases q3 : r = 3
        · subst q3; rfl
        · by_cases q4 : r = 4
          · subst q4; rfl
          · simp [q0, q1, q3, q4]
  · have h2 : ¬ nI (cnt S 16) ≤ 1 := fun q => h (hl.mp q)
    rw [if_neg h2]
    unfold sh_X4_tick_j76
    rw [if_pos h13]
    simp only [bng_s, tc3, tc4]
    rw [if_neg h2]
    rw [gu_n2 (show 4 ≠ 3 by decide), gu_n2 (show 4 ≠ 1 by decide), gu_n2 (show 4 ≠ 0 by decide), g4]
    have fin : ∀ y, y = (if aG a 4 < nI (cnt S 16) then nI (cnt S 16) else aG a 4) → ∃ G', (some (x, gu (gu (gu (gu G 72 0 (aG a 0 + 1)) 72 1 (aG a 1 + nI (cnt S 16))) 72 3 (aG a 3 + 1)) 72 4 y) : Option (Int32 × gG)) = some (x, G') ∧ M2 G' (sAcc a (cnt S 16)) ∧ frq G G' 72 := by
      intro y hy
      refine ⟨_, rfl, ((hR1.g (j := 3) (x := aG a 3 + 1) (by decide)).g (j := 4) (x := y) (by decide)).congr ⟨fun _ _ => rfl, fun _ _ => rfl, fun _ _ _ _ => rfl, fun _ _ _ _ _ => rfl, fun r hr => ?_⟩, hF1.gu.gu⟩
      show (if r = 4 then _ else if r = 3 then _ else if r = 1 then _ else if r = 0 then _ else _) = (if r = 0 then _ else if r = 1 then _ else if r = 3 then (if cnt S 16 < 2 then _ else _) else if r = 4 then (if cnt S 16 < 2 then _ else _) else _)
      rw [if_neg h, if_neg h, hy]
      by_cases q0 : r = 0
      · subst q0; rfl
      · by_cases q1 : r = 1
        · subst q1; rfl
        · by_cases q3 : r = 3
          · subst q3; rfl
          · by_cases q4 : r = 4
            · subst q4; rfl
            · simp [q0, q1, q3, q4]
    by_cases h4 : nI (cnt S 16) ≤ aG a 4
    · rw [if_pos h4]
      refine fin _ ?_
      rw [if_neg (by rw [I_le] at h4; rw [I_lt]; omega)]
    · rw [if_neg h4]
      refine fin _ ?_
      rw [if_pos (by rw [I_le] at h4; rw [I_lt]; omega)]
theorem X4_tick {G : gG} {a : AM} (hw : wf a) (hR : M2 G a) : ∃ r G', sh_X4_tick G = some (r, G') ∧ M2 G' (sTick a).1 ∧ isS r (sTick a).2 ∧ frq G G' 72 := by
  obtain ⟨G1, e1, e2, e3⟩ := X4_grow hw hR
  obtain ⟨r2, G2, f1, f2, f3, f4⟩ := X4_blink (a := sGrow a) (x := -1) (S := fun _ => true) hw.1 (fun i hi => bt_m1 (by omega)) e2
  have hm : mR (sGrow a) (fun _ => true) = sRipe (sGrow a) := by funext i; unfold mR; simp
  rw [hm] at f2 f3
  unfold sh_X4_tick
  rw [e1, obv_s, f1, obi_s]
  obtain ⟨r3, G3, g1, g2, g3, g4⟩ := X4_ticks (fun l2 G => (obp (sh_X4_bits l2) fun r13 => (bng (gu G 72 ((0 : Int32)).toNatClampNeg ((G 72 ((0 : Int32)).toNatClampNeg) + (1 : Int32))) fun G14 => (bng (gu G14 72 ((1 : Int32)).toNatClampNeg ((G14 72 ((1 : Int32)).toNatClampNeg) + r13)) fun G16 => (if r13 ≤ (1 : Int32) then (sh_X4_tick_j76 l2 r13 (3 : Int32) (G16 72 ((3 : Int32)).toNatClampNeg) (0 : Int32) G16) else (sh_X4_tick_j76 l2 r13 (3 : Int32) (G16 72 ((3 : Int32)).toNatClampNeg) (1 : Int32) G16)))))) 16 FU G2 (sGrow a) r2 r2 (fun _ => false) (sRipe (sGrow a)) (by omega) (by decide) f3 (f3.congr (fun i hi => by simp)) (wfx_grow hw) (fun i hi h => by unfold sRipe at h; simp at h; exact h.1) (fun _ _ _ => rfl) f2
  obtain ⟨G4, i1, i2, i3⟩ := X4_fin g3 g2
  rw [g1]
  exact ⟨r3, G4, i1, i2, g3, ((e3.trans f4).trans g4).trans i3⟩
/-- a good mesh stays good -/
theorem tickR_wf : ∀ (d : Nat) (a : AM) (B S : Nat → Bool), 16 ≤ cnt B 16 + d → wfx a S → (∀ i, i < 16 → S i = true → aO a i = true) → (∀ i, i < 16 → S i = true → B i = false) → wf (sTickR d a B S).1
  | 0, a, B, S, hm, hw, hSO, hSB => by
    refine wfx_none hw (fun i hi => ?_)
    cases hs : S i
    · rfl
    · have hb := hSB i hi hs
      have := cnt_lt (S := B) (S' := fun _ => true) (m := 16) (fun _ _ _ => rfl) ⟨i, hi, hb, rfl⟩
      have h2 := cnt_le (fun _ => true) 16
      omega
  | d + 1, a, B, S, hm, hw, hSO, hSB => by
    by_cases hz : cnt S 16 = 0
    · have e : sTickR (d + 1) a B S = (a, B) := by show (if cnt S 16 = 0 then _ else _) = _; rw [if_pos hz]
      rw [e]; exact wfx_none hw (cnt_0.mp hz)
    · have e : sTickR (d + 1) a B S = sTickR d (sPF 16 (sBlink a S) S (fun i => aO a i && !(B i || S i))) (fun i => B i || S i) (rPF 16 (sBlink a S) S (fun i => aO a i && !(B i || S i))) := by show (if cnt S 16 = 0 then _ else _) = _; rw [if_neg hz]
      rw [e]
      have hj : ∃ j, j < 16 ∧ S j = true := by
        rcases Classical.em (∃ j, j < 16 ∧ S j = true) with q | q
        · exact q
        · exfalso; apply hz; apply cnt_0.mpr
          intro i hi
          cases hs : S i
          · rfl
          · exact absurd ⟨i, hi, hs⟩ q
      obtain ⟨j, hj1, hj2⟩ := hj
      have hc := cnt_lt (S := B) (S' := fun i => B i || S i) (m := 16) (fun i _ h => by simp [h]) ⟨j, hj1, hSB j hj1 hj2, by simp [hj2]⟩
      have hW2 : ∀ i, i < 16 → rPF 16 (sBlink a S) S (fun i => aO a i && !(B i || S i)) i = true → aO a i = true ∧ (B i || S i) = false := fun i hi h => by
        unfold rPF dz at h
        simp at h
        have := h.1.1
        simp
        exact this
      exact tickR_wf d _ _ _ (by omega) (wfx_push (wf_blink hw) (fun i hi h => by simp at h; exact h.1)) (fun i hi h => (hW2 i hi h).1) (fun i hi h => (hW2 i hi h).2)
theorem tick_wf {a : AM} (hw : wf a) : wf (sTick a).1 := by
  have h := tickR_wf 16 (sGrow a) (fun _ => false) (sRipe (sGrow a)) (by omega) (wfx_grow hw) (fun i hi h => by unfold sRipe at h; simp at h; exact h.1) (fun _ _ _ => rfl)
  exact h
