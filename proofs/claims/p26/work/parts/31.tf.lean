-- what a tick does, beside the phases
def zs (P : Nat → Int) : Nat → Int
  | 0 => 0
  | m + 1 => zs P m + P m
theorem zs_congr {P Q : Nat → Int} : ∀ {m : Nat}, (∀ i, i < m → P i = Q i) → zs P m = zs Q m
  | 0, _ => rfl
  | m + 1, h => by simp only [zs]; rw [zs_congr (fun i hi => h i (by omega)), h m (by omega)]
theorem zs_add (P Q : Nat → Int) : ∀ m, zs (fun i => P i + Q i) m = zs P m + zs Q m
  | 0 => rfl
  | m + 1 => by simp only [zs]; rw [zs_add P Q m]; omega
theorem zs_le {P Q : Nat → Int} : ∀ {m : Nat}, (∀ i, i < m → P i ≤ Q i) → zs P m ≤ zs Q m
  | 0, _ => Int.le_refl _
  | m + 1, h => by
    have h1 := zs_le (P := P) (Q := Q) (m := m) (fun i hi => h i (by omega))
    have h2 := h m (by omega)
    simp only [zs]; omega
theorem zs_0 : ∀ m, zs (fun _ => 0) m = 0
  | 0 => rfl
  | m + 1 => by simp only [zs]; rw [zs_0 m]; rfl
theorem zs_nn {P : Nat → Int} {m : Nat} (h : ∀ i, i < m → 0 ≤ P i) : 0 ≤ zs P m := by
  have := zs_le (P := fun _ => 0) (Q := P) h
  rw [zs_0] at this; exact this
theorem zs_at {P : Nat → Int} : ∀ {m : Nat}, (∀ i, i < m → 0 ≤ P i) → ∀ i, i < m → P i ≤ zs P m
  | 0, _, i, hi => by omega
  | m + 1, h, i, hi => by
    have h2 := h m (by omega)
    simp only [zs]
    by_cases e : i = m
    · subst e
      have := zs_nn (P := P) (m := i) (fun i hi => h i (by omega))
      omega
    · have := zs_at (P := P) (m := m) (fun i hi => h i (by omega)) i (by omega)
      omega
theorem zs_nat (P : Nat → Nat) : ∀ m, zs (fun i => (P i : Int)) m = (dsum P m : Nat)
  | 0 => rfl
  | m + 1 => by simp only [zs, dsum]; rw [zs_nat P m]; omega
theorem dsum_le {P : Nat → Nat} {c : Nat} : ∀ {m : Nat}, (∀ i, i < m → P i ≤ c) → dsum P m ≤ c * m
  | 0, _ => by simp [dsum]
  | m + 1, h => by
    have h1 := dsum_le (P := P) (c := c) (m := m) (fun i hi => h i (by omega))
    have h2 := h m (by omega)
    simp only [dsum]; rw [Nat.mul_succ]; omega
theorem dsum_at {P : Nat → Nat} : ∀ {m : Nat} (i : Nat), i < m → P i ≤ dsum P m
  | 0, i, hi => by omega
  | m + 1, i, hi => by
    simp only [dsum]
    by_cases e : i = m
    · subst e; omega
    · have := dsum_at (P := P) (m := m) i (by omega); omega
theorem cnt_f (P : Nat → Bool) (b : Bool) : ∀ m, cnt (fun i => P i && b) m = if b then cnt P m else 0
  | 0 => by simp [cnt]
  | m + 1 => by simp only [cnt]; rw [cnt_f P b m]; cases b <;> simp
/-- b is a mesh within the tick that began at a0: B have blinked so far, P have been pushed -/
def RI (a0 b : AM) (B : Nat → Bool) (P : Nat → Nat) : Prop :=
  aT b = aT a0 ∧ aO b = aO a0 ∧ aL b = aL a0 ∧ (∀ r, r ≠ 2 → aG b r = aG a0 r) ∧ aG b 2 = aG a0 2 + nI (dsum P 16) ∧ (∀ i, aN b 2 i = aN a0 2 i ∧ aN b 5 i = (if B i then aN a0 5 i + 1 else aN a0 5 i) ∧ aN b 6 i = (if B i then aG a0 0 + 1 else aN a0 6 i) ∧ aN b 7 i = aN a0 7 i + nI (P i)) ∧ (∀ i, B i = true → aO a0 i = true) ∧ ∀ i, P i ≠ 0 → aO a0 i = true
theorem RI_grow (a : AM) : RI a (sGrow a) (fun _ => false) (fun _ => 0) := by
  refine ⟨rfl, rfl, rfl, fun _ _ => rfl, ?_, fun i => ⟨?_, ?_, ?_, ?_⟩, fun i (h : false = true) => Bool.noConfusion h, fun i h => absurd rfl h⟩
  · rw [dsum_0, nI_00]; rfl
  · show (if aO a i then (if (2 : Nat) = 1 then _ else if (2 : Nat) = 3 then _ else aN a 2 i) else aN a 2 i) = _
    split <;> rfl
  · show (if aO a i then (if (5 : Nat) = 1 then _ else if (5 : Nat) = 3 then _ else aN a 5 i) else aN a 5 i) = _
    split <;> rfl
  · show (if aO a i then (if (6 : Nat) = 1 then _ else if (6 : Nat) = 3 then _ else aN a 6 i) else aN a 6 i) = _
    split <;> rfl
  · rw [nI_00]
    show (if aO a i then (if (7 : Nat) = 1 then _ else if (7 : Nat) = 3 then _ else aN a 7 i) else aN a 7 i) = _
    split <;> rfl
theorem RI_blink {a0 b : AM} {B S : Nat → Bool} {P : Nat → Nat} (h : RI a0 b B P) (hS : ∀ i, S i = true → aO a0 i = true ∧ B i = false) : RI a0 (sBlink b S) (fun i => B i || S i) P := by
  obtain ⟨h1, h2, h3, h4, h5, h6, h7, h8⟩ := h
  refine ⟨h1, h2, h3, h4, h5, fun i => ?_, fun i hi => ?_, h8⟩
  · obtain ⟨g2, g5, g6, g7⟩ := h6 i
    cases hs : S i
    · have e : ∀ f, aN (sBlink b S) f i = aN b f i := fun f => by show (if S i = true then _ else _) = _; rw [hs]; rfl
      have eb : (B i || S i) = B i := by rw [hs, Bool.or_false]
      rw [e, e, e, e]
      refine ⟨g2, ?_, ?_, g7⟩
      · show _ = (if (B i || S i) = true then _ else _); rw [eb]; exact g5
      · show _ = (if (B i || S i) = true then _ else _); rw [eb]; exact g6
    · have hb := (hS i hs).2
      have e : ∀ f, aN (sBlink b S) f i = (if f = 1 then 0 else if f = 3 then aG b 7 else if f = 5 then aN b 5 i + 1 else if f = 6 then aG b 0 + 1 else aN b f i) := fun f => by show (if S i = true then _ else _) = _; rw [hs]; rfl
      have eb : (B i || S i) = true := by rw [hs, Bool.or_true]
      rw [e, e, e, e]
      rw [hb] at g5 g6
      refine ⟨g2, ?_, ?_, g7⟩
      · show aN b 5 i + 1 = (if (B i || S i) = true then aN a0 5 i + 1 else _); rw [g5, eb]; rfl
      · show aG b 0 + 1 = (if (B i || S i) = true then aG a0 0 + 1 else _); rw [h4 0 (by decide), eb]; rfl
  · rw [Bool.or_eq_true] at hi
    rcases hi with q | q
    · exact h7 i q
    · exact (hS i q).1
def pU (b : AM) (S W : Nat → Bool) (i : Nat) : Nat := if dz b W i then cj b S 16 i else 0
theorem pU_le (b : AM) (S W : Nat → Bool) (i : Nat) : pU b S W i ≤ 16 := by
  unfold pU; split
  · exact cnt_le _ _
  · omega
theorem pU_sum (b : AM) (S W : Nat → Bool) : dsum (fun r => cnt (fun i => S r && (aL b r i && dz b W i)) 16) 16 = dsum (pU b S W) 16 := by
  rw [dsum_swap (fun r i => S r && (aL b r i && dz b W i)) 16 16]
  refine dsum_congr (fun i _ => ?_)
  have e : (fun r => S r && (aL b r i && dz b W i)) = fun r => (S r && aL b r i) && dz b W i := by funext r; rw [Bool.and_assoc]
  show cnt (fun r => S r && (aL b r i && dz b W i)) 16 = _
  rw [e, cnt_f]; rfl
theorem RI_push {a0 b : AM} {B S W : Nat → Bool} {P : Nat → Nat} (h : RI a0 b B P) (hW : ∀ i, W i = true → aO a0 i = true) : RI a0 (sPF 16 b S W) B (fun i => P i + pU b S W i) := by
  obtain ⟨h1, h2, h3, h4, h5, h6, h7, h8⟩ := h
  refine ⟨h1, h2, h3, fun r hr => ?_, ?_, fun i => ?_, h7, fun i hi => ?_⟩
  · show (if r = 2 then _ else aG b r) = _; rw [if_neg hr]; exact h4 r hr
  · show aG b 2 + nI (dsum (fun r => cnt (fun i => S r && (aL b r i && dz b W i)) 16) 16) = _
    rw [pU_sum, h5, dsum_add, ← nI_add, Int32.add_assoc]
  · obtain ⟨g2, g5, g6, g7⟩ := h6 i
    have e : ∀ g, aN (sPF 16 b S W) g i = (if dz b W i then (if g = 1 then pIt (sFull b) (aG b 6) (cj b S 16 i) (aN b 1 i) else if g = 7 then aN b 7 i + nI (cj b S 16 i) else aN b g i) else aN b g i) := fun g => rfl
    have hp : pU b S W i = if dz b W i then cj b S 16 i else 0 := rfl
    have h7' : aN a0 7 i + nI (P i + pU b S W i) = aN b 7 i + nI (pU b S W i) := by rw [g7, ← nI_add, Int32.add_assoc]
    rw [e, e, e, e]
    cases hz : dz b W i
    · rw [hz] at hp
      refine ⟨g2, g5, g6, ?_⟩
      show aN b 7 i = aN a0 7 i + nI (P i + pU b S W i)
      rw [h7', hp]; exact (nI_00 _).symm
    · rw [hz] at hp
      refine ⟨g2, g5, g6, ?_⟩
      show aN b 7 i + nI (cj b S 16 i) = aN a0 7 i + nI (P i + pU b S W i)
      rw [h7', hp]; rfl
  · by_cases q : P i = 0
    · have hu : pU b S W i ≠ 0 := fun z => hi (by show P i + pU b S W i = 0; rw [q, z])
      unfold pU at hu
      cases hz : dz b W i
      · rw [hz] at hu; exact absurd rfl hu
      · unfold dz at hz; rw [Bool.and_eq_true] at hz; exact hW i hz.1
    · exact h8 i q
theorem RI_R {a0 : AM} : ∀ (d : Nat) (b : AM) (B S : Nat → Bool) (P : Nat → Nat), RI a0 b B P → (∀ i, S i = true → aO a0 i = true ∧ B i = false) → ∃ P', RI a0 (sTickR d b B S).1 (sTickR d b B S).2 P' ∧ dsum P' 16 ≤ dsum P 16 + 256 * d
  | 0, b, B, S, P, h, hS => ⟨P, h, by omega⟩
  | d + 1, b, B, S, P, h, hS => by
    by_cases hz : cnt S 16 = 0
    · have e : sTickR (d + 1) b B S = (b, B) := by show (if cnt S 16 = 0 then _ else _) = _; rw [if_pos hz]
      rw [e]; exact ⟨P, h, by omega⟩
    · have e : sTickR (d + 1) b B S = sTickR d (sPF 16 (sBlink b S) S (fun i => aO b i && !(B i || S i))) (fun i => B i || S i) (rPF 16 (sBlink b S) S (fun i => aO b i && !(B i || S i))) := by show (if cnt S 16 = 0 then _ else _) = _; rw [if_neg hz]
      rw [e]
      have hO := h.2.1
      have h1 := RI_blink h hS
      have h2 := RI_push (S := S) (W := fun i => aO b i && !(B i || S i)) h1 (fun i hi => by rw [Bool.and_eq_true] at hi; rw [← hO]; exact hi.1)
      obtain ⟨P', g1, g2⟩ := RI_R d _ _ (rPF 16 (sBlink b S) S (fun i => aO b i && !(B i || S i))) _ h2 (fun i hi => by
        unfold rPF dz at hi
        rw [Bool.and_eq_true, Bool.and_eq_true, Bool.and_eq_true] at hi
        refine ⟨by rw [← hO]; exact hi.1.1.1, ?_⟩
        have := hi.1.1.2
        cases hh : (B i || S i)
        · rfl
        · rw [hh] at this; cases this)
      refine ⟨P', g1, ?_⟩
      have h3 : dsum (fun i => P i + pU (sBlink b S) S (fun i => aO b i && !(B i || S i)) i) 16 = dsum P 16 + dsum (pU (sBlink b S) S (fun i => aO b i && !(B i || S i))) 16 := dsum_add _ _ _
      have h4 := dsum_le (P := pU (sBlink b S) S (fun i => aO b i && !(B i || S i))) (c := 16) (m := 16) (fun i _ => pU_le _ _ _ i)
      omega
theorem tick_f (a : AM) : ∃ P : Nat → Nat, aT (sTick a).1 = aT a ∧ aO (sTick a).1 = aO a ∧ aL (sTick a).1 = aL a ∧ (∀ r, 5 ≤ r → aG (sTick a).1 r = aG a r) ∧ aG (sTick a).1 0 = aG a 0 + 1 ∧ aG (sTick a).1 1 = aG a 1 + nI (cnt (sTick a).2 16) ∧ aG (sTick a).1 2 = aG a 2 + nI (dsum P 16) ∧ aG (sTick a).1 3 = (if cnt (sTick a).2 16 < 2 then aG a 3 else aG a 3 + 1) ∧ aG (sTick a).1 4 = (if cnt (sTick a).2 16 < 2 then aG a 4 else if aG a 4 < nI (cnt (sTick a).2 16) then nI (cnt (sTick a).2 16) else aG a 4) ∧ dsum P 16 ≤ 4096 ∧ (∀ i, aN (sTick a).1 2 i = aN a 2 i ∧ aN (sTick a).1 5 i = (if (sTick a).2 i then aN a 5 i + 1 else aN a 5 i) ∧ aN (sTick a).1 6 i = (if (sTick a).2 i then aG a 0 + 1 else aN a 6 i) ∧ aN (sTick a).1 7 i = aN a 7 i + nI (P i)) ∧ (∀ i, (sTick a).2 i = true → aO a i = true) ∧ ∀ i, P i ≠ 0 → aO a i = true := by
  obtain ⟨P, h, hd⟩ := RI_R (a0 := a) 16 (sGrow a) (fun _ => false) (sRipe (sGrow a)) (fun _ => 0) (RI_grow a) (fun i hi => ⟨by unfold sRipe at hi; rw [Bool.and_eq_true] at hi; exact hi.1, rfl⟩)
  rw [dsum_0] at hd
  obtain ⟨h1, h2, h3, h4, h5, h6, h7, h8⟩ := h
  refine ⟨P, h1, h2, h3, fun r hr => ?_, ?_, ?_, ?_, ?_, ?_, by omega, h6, h7, h8⟩
  · show (if r = 0 then _ else if r = 1 then _ else if r = 3 then _ else if r = 4 then _ else aG (sTickR 16 (sGrow a) (fun _ => false) (sRipe (sGrow a))).1 r) = _
    rw [if_neg (by omega), if_neg (by omega), if_neg (by omega), if_neg (by omega)]
    exact h4 r (by omega)
  · show aG (sTickR 16 (sGrow a) (fun _ => false) (sRipe (sGrow a))).1 0 + 1 = _
    rw [h4 0 (by decide)]
  · show aG (sTickR 16 (sGrow a) (fun _ => false) (sRipe (sGrow a))).1 1 + nI (cnt (sTickR 16 (sGrow a) (fun _ => false) (sRipe (sGrow a))).2 16) = _
    rw [h4 1 (by decide)]; rfl
  · show aG (sTickR 16 (sGrow a) (fun _ => false) (sRipe (sGrow a))).1 2 = _
    exact h5
  · show (if cnt (sTickR 16 (sGrow a) (fun _ => false) (sRipe (sGrow a))).2 16 < 2 then aG (sTickR 16 (sGrow a) (fun _ => false) (sRipe (sGrow a))).1 3 else aG (sTickR 16 (sGrow a) (fun _ => false) (sRipe (sGrow a))).1 3 + 1) = _
    rw [h4 3 (by decide)]; rfl
  · show (if cnt (sTickR 16 (sGrow a) (fun _ => false) (sRipe (sGrow a))).2 16 < 2 then aG (sTickR 16 (sGrow a) (fun _ => false) (sRipe (sGrow a))).1 4 else if aG (sTickR 16 (sGrow a) (fun _ => false) (sRipe (sGrow a))).1 4 < nI (cnt (sTickR 16 (sGrow a) (fun _ => false) (sRipe (sGrow a))).2 16) then _ else aG (sTickR 16 (sGrow a) (fun _ => false) (sRipe (sGrow a))).1 4) = _
    rw [h4 4 (by decide)]; rfl
