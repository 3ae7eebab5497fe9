-- the class's mesh: a whole tick
def sAcc (a : AM) (n : Nat) : AM := (aT a, aO a, aL a, aN a, fun r => if r = 0 then aG a 0 + 1 else if r = 1 then aG a 1 + nI n else if r = 3 then (if n < 2 then aG a 3 else aG a 3 + 1) else if r = 4 then (if n < 2 then aG a 4 else if aG a 4 < nI n then nI n else aG a 4) else aG a r)
def sTickR : Nat → AM → (Nat → Bool) → (Nat → Bool) → AM × (Nat → Bool)
  | 0, a, B, _ => (a, B)
  | n + 1, a, B, S => if cnt S 16 = 0 then (a, B) else sTickR n (sPF 16 (sBlink a S) S (fun i => aO a i && !(B i || S i))) (fun i => B i || S i) (rPF 16 (sBlink a S) S (fun i => aO a i && !(B i || S i)))
def sTick (a : AM) : AM × (Nat → Bool) :=
  (sAcc (sTickR 16 (sGrow a) (fun _ => false) (sRipe (sGrow a))).1 (cnt (sTickR 16 (sGrow a) (fun _ => false) (sRipe (sGrow a))).2 16), (sTickR 16 (sGrow a) (fun _ => false) (sRipe (sGrow a))).2)
/-- a mesh within a tick: the lamps of S have come round, all others that are on have not -/
def wfx (a : AM) (S : Nat → Bool) : Prop :=
  (∀ i, i < 16 → aO a i = true → aT a i = true) ∧ (∀ i j, i < 16 → j < 16 → aL a i j = aL a j i) ∧ (∀ i j, i < 16 → j < 16 → aL a i j = true → aT a i = true) ∧ (∀ i, i < 16 → aT a i = true → 0 ≤ (aN a 1 i).toInt ∧ (S i = false → (aN a 1 i).toInt < 100 * (aG a 5).toInt) ∧ 50 ≤ (aN a 2 i).toInt ∧ (aN a 2 i).toInt ≤ 150 ∧ 0 ≤ (aN a 3 i).toInt) ∧ 10 ≤ (aG a 5).toInt ∧ (aG a 5).toInt ≤ 200 ∧ 0 ≤ (aG a 6).toInt ∧ (aG a 6).toInt ≤ 100 ∧ 0 ≤ (aG a 7).toInt ∧ (aG a 7).toInt ≤ 99
theorem wfx_none {a : AM} {S : Nat → Bool} (h : wfx a S) (hS : ∀ i, i < 16 → S i = false) : wf a := by
  obtain ⟨h1, h2, h3, h4, h5⟩ := h
  exact ⟨h1, h2, h3, fun i hi ht => ⟨(h4 i hi ht).1, (h4 i hi ht).2.1 (hS i hi), (h4 i hi ht).2.2⟩, h5⟩
theorem I_0 : (0 : Int32).toInt = 0 := by decide
theorem I_1 : (1 : Int32).toInt = 1 := by decide
theorem wfx_grow {a : AM} (h : wf a) : wfx (sGrow a) (sRipe (sGrow a)) := by
  obtain ⟨h1, h2, h3, h4, h5⟩ := h
  refine ⟨h1, h2, h3, fun i hi ht => ?_, h5⟩
  obtain ⟨g1, g2, g3, g4, g5⟩ := h4 i hi ht
  have hp := h5.1; have hp2 := h5.2.1
  have hadd : (aN a 1 i + aN a 2 i).toInt = (aN a 1 i).toInt + (aN a 2 i).toInt := I_add (by omega) (by omega)
  have hf : (sFull (sGrow a)).toInt = 100 * (aG a 5).toInt := by
    show (aG a 5 * 100).toInt = _
    rw [I_mul (by rw [I_100]; omega) (by rw [I_100]; omega), I_100]; omega
  cases ho : aO a i
  · have e : ∀ f, aN (sGrow a) f i = aN a f i := fun f => by show (if aO a i = true then _ else _) = _; rw [ho]; rfl
    rw [e, e, e]
    exact ⟨g1, fun _ => g2, g3, g4, g5⟩
  · have e1 : aN (sGrow a) 1 i = aN a 1 i + aN a 2 i := by show (if aO a i = true then _ else _) = _; rw [ho]; rfl
    have e2 : aN (sGrow a) 2 i = aN a 2 i := by show (if aO a i = true then (if (2 : Nat) = 1 then _ else if (2 : Nat) = 3 then _ else _) else _) = _; rw [ho]; rfl
    have e3 : aN (sGrow a) 3 i = (if aN a 3 i ≤ 0 then aN a 3 i else aN a 3 i - 1) := by show (if aO a i = true then (if (3 : Nat) = 1 then _ else if (3 : Nat) = 3 then _ else _) else _) = _; rw [ho]; rfl
    refine ⟨by rw [e1]; omega, fun hs => ?_, by rw [e2]; exact g3, by rw [e2]; exact g4, ?_⟩
    · unfold sRipe at hs
      have ho' : aO (sGrow a) i = true := ho
      rw [ho'] at hs
      simp at hs
      rw [I_lt, hf] at hs
      exact hs
    · rw [e3]
      by_cases q : aN a 3 i ≤ 0
      · rw [if_pos q]; exact g5
      · rw [if_neg q]
        rw [I_le, I_0] at q
        have := Int32.toInt_lt (aN a 3 i)
        rw [I_sub (by rw [I_1]; omega) (by rw [I_1]; omega), I_1]; omega
theorem wf_blink {a : AM} {S : Nat → Bool} (h : wfx a S) : wf (sBlink a S) := by
  obtain ⟨h1, h2, h3, h4, h5⟩ := h
  refine ⟨h1, h2, h3, fun i hi ht => ?_, h5⟩
  obtain ⟨g1, g2, g3, g4, g5⟩ := h4 i hi ht
  cases hs : S i
  · have e : ∀ f, aN (sBlink a S) f i = aN a f i := fun f => by show (if S i = true then _ else _) = _; rw [hs]; rfl
    rw [e, e, e]
    exact ⟨g1, g2 hs, g3, g4, g5⟩
  · have e : ∀ f, aN (sBlink a S) f i = (if f = 1 then 0 else if f = 3 then aG a 7 else if f = 5 then aN a 5 i + 1 else if f = 6 then aG a 0 + 1 else aN a f i) := fun f => by show (if S i = true then _ else _) = _; rw [hs]; rfl
    have hh : aG (sBlink a S) 5 = aG a 5 := rfl
    rw [e, e, e, hh]
    simp
    exact ⟨by omega, g3, g4, h5.2.2.2.2.1⟩
theorem wfx_push {a : AM} {B W : Nat → Bool} (h : wf a) (hW : ∀ i, i < 16 → W i = true → aO a i = true) : wfx (sPF 16 a B W) (rPF 16 a B W) := by
  have hw := h
  obtain ⟨h1, h2, h3, h4, h5⟩ := h
  refine ⟨h1, h2, h3, fun i hi ht => ?_, h5⟩
  obtain ⟨g1, g2, g3, g4, g5⟩ := h4 i hi ht
  obtain ⟨q1, q2⟩ := wf_full hw
  have e : ∀ g, aN (sPF 16 a B W) g i = (if dz a W i then (if g = 1 then pIt (sFull a) (aG a 6) (cj a B 16 i) (aN a 1 i) else if g = 7 then aN a 7 i + nI (cj a B 16 i) else aN a g i) else aN a g i) := fun g => rfl
  rw [e, e, e]
  cases hz : dz a W i
  · simp; exact ⟨g1, fun _ => g2, g3, g4, g5⟩
  · simp
    have hi1 := pIt_i (f := sFull a) (p := aG a 6) g1 (by omega) q2 h5.2.2.1 h5.2.2.2.1 (cj a B 16 i)
    refine ⟨by omega, fun hs => ?_, g3, g4, g5⟩
    unfold rPF at hs
    rw [hz] at hs
    simp at hs
    show _ < 100 * (aG a 5).toInt
    by_cases hc : 0 < cj a B 16 i
    · have := hs hc
      rw [I_lt] at this; omega
    · have h0 : cj a B 16 i = 0 := by omega
      rw [h0]; exact g2
theorem X1_account {G : gG} {k n : Nat} {a : AM} (hn : n ≤ 16) (hR : R1 G k a) : ∃ G', sh_X1_account k (nI n) (gu G k 10 ((G k 10) + 1)) = some G' ∧ R1 G' k (sAcc a n) ∧ frm G G' k := by
  have e0 : G k 10 = aG a 0 := hR.2.2.2.2.1 0 (by decide)
  have e1 : G k 11 = aG a 1 := hR.2.2.2.2.1 1 (by decide)
  have e3 : G k 13 = aG a 3 := hR.2.2.2.2.1 3 (by decide)
  have e4 : G k 14 = aG a 4 := hR.2.2.2.2.1 4 (by decide)
  have h2 : nI n < 2 ↔ n < 2 := nI_ltI (by omega) (by decide)
  unfold sh_X1_account
  simp only [bng_s]
  rw [gu_n2 (show 11 ≠ 10 by decide), gu_n2 (show 13 ≠ 11 by decide), gu_n2 (show 13 ≠ 10 by decide), gu_n2 (show 14 ≠ 13 by decide), gu_n2 (show 14 ≠ 11 by decide), gu_n2 (show 14 ≠ 10 by decide), e0, e1, e3, e4]
  have hR1 := (hR.gl (j := 0) (x := aG a 0 + 1) (by decide)).gl (j := 1) (x := aG a 1 + nI n) (by decide)
  have hF1 := ((frm.rf (G := G) (k := k)).gu (c := k) (i := 10) (x := aG a 0 + 1) (by omega) (by omega)).gu (c := k) (i := 11) (x := aG a 1 + nI n) (by omega) (by omega)
  by_cases hl : n < 2
  · rw [if_pos (h2.mpr hl)]
    refine ⟨_, rfl, hR1.congr ⟨fun _ _ => rfl, fun _ _ => rfl, fun _ _ _ _ => rfl, fun _ _ _ _ _ => rfl, fun r hr => ?_⟩, hF1⟩
    show (if r = 1 then _ else if r = 0 then _ else _) = (if r = 0 then _ else if r = 1 then _ else if r = 3 then (if n < 2 then _ else _) else if r = 4 then (if n < 2 then _ else _) else _)
    rw [if_pos hl, if_pos hl]
    by_cases q0 : r = 0
    · subst q0; rfl
    · by_cases q1 : r = 1
      · subst q1; rfl
      · by_cases q3 : r = 3
        · subst q3; rfl
        · by_cases q4 : r = 4
          · subst q4; rfl
          · simp [q0, q1, q3, q4]
  · rw [if_neg (fun q => hl (h2.mp q))]
    refine ⟨_, rfl, ((hR1.gl (j := 3) (x := aG a 3 + 1) (by decide)).gl (j := 4) (x := if aG a 4 < nI n then nI n else aG a 4) (by decide)).congr ⟨fun _ _ => rfl, fun _ _ => rfl, fun _ _ _ _ => rfl, fun _ _ _ _ _ => rfl, fun r hr => ?_⟩, (hF1.gu (by omega) (by omega)).gu (by omega) (by omega)⟩
    show (if r = 4 then _ else if r = 3 then _ else if r = 1 then _ else if r = 0 then _ else _) = (if r = 0 then _ else if r = 1 then _ else if r = 3 then (if n < 2 then _ else _) else if r = 4 then (if n < 2 then _ else _) else _)
    rw [if_neg hl, if_neg hl]
    by_cases q0 : r = 0
    · subst q0; rfl
    · by_cases q1 : r = 1
      · subst q1; rfl
      · by_cases q3 : r = 3
        · subst q3; rfl
        · by_cases q4 : r = 4
          · subst q4; rfl
          · simp [q0, q1, q3, q4]
theorem X1_ticks {k : Nat} (kt : Int32 → gG → Option (Int32 × gG)) : ∀ (d j n : Nat) (G : gG) (a : AM) (x y : Int32) (B S : Nat → Bool), j + d = 16 → d < n → isS x B → isS y S → wfx a S → (∀ i, i < 16 → S i = true → aO a i = true) → R1 G k a → ∃ r G', sh_X1_tickOnce_9 k kt n x y (nI j) G = kt r G' ∧ R1 G' k (sTickR d a B S).1 ∧ isS r (sTickR d a B S).2 ∧ frm G G' k := by
  intro d
  induction d with
  | zero =>
    intro j n G a x y B S hj hn hx hy hw hSO hR
    obtain ⟨n, rfl⟩ : ∃ k, n = k + 1 := ⟨n - 1, by omega⟩
    have : j = 16 := by omega
    subst this
    rw [sh_X1_tickOnce_9.eq_2, if_pos (by decide)]
    exact ⟨x, G, rfl, hR, hx, frm.rf⟩
  | succ d ih =>
    intro j n G a x y B S hj hn hx hy hw hSO hR
    obtain ⟨n, rfl⟩ : ∃ k, n = k + 1 := ⟨n - 1, by omega⟩
    rw [sh_X1_tickOnce_9.eq_2, if_neg (nj16 (by omega))]
    by_cases hz : cnt S 16 = 0
    · rw [if_pos (hy.zero.mpr (cnt_0.mp hz))]
      have e : sTickR (d + 1) a B S = (a, B) := by show (if cnt S 16 = 0 then _ else _) = _; rw [if_pos hz]
      rw [e]
      exact ⟨x, G, rfl, hR, hx, frm.rf⟩
    · rw [if_neg (fun q => hz (cnt_0.mpr (hy.zero.mp q)))]
      have hST : ∀ i, i < 16 → S i = true → aT a i = true := fun i hi h => hw.1 i hi (hSO i hi h)
      obtain ⟨G1, e1, e2, e3⟩ := X1_blink hy hST hR
      have hwb := wf_blink hw
      have hW : isS ((G1 k 9) &&& ((x ||| y) ^^^ -1)) (fun i => aO a i && !(B i || S i)) := (e2.2.1).andn (hx.or hy)
      obtain ⟨r, G2, f1, f2, f3, f4⟩ := X1_pushFrom (a := sBlink a S) hwb hy hW (fun i hi h => hw.1 i hi (by simp at h; exact h.1)) e2
      have hww := wfx_push (B := S) (W := fun i => aO a i && !(B i || S i)) hwb (fun i hi h => by simp at h; exact h.1)
      obtain ⟨r2, G3, g1, g2, g3, g4⟩ := ih (j + 1) n G2 _ (x ||| y) r _ _ (by omega) (by omega) (hx.or hy) f3 hww (fun i hi h => by
        unfold rPF dz at h
        simp at h
        exact h.1.1.1) f2
      rw [e1, obv_s, f1, obi_s, nI_1 j]
      have e : sTickR (d + 1) a B S = sTickR d (sPF 16 (sBlink a S) S (fun i => aO a i && !(B i || S i))) (fun i => B i || S i) (rPF 16 (sBlink a S) S (fun i => aO a i && !(B i || S i))) := by show (if cnt S 16 = 0 then _ else _) = _; rw [if_neg hz]
      rw [e]
      exact ⟨r2, G3, g1, g2, g3, (e3.trans f4).trans g4⟩
theorem X1_tick {G : gG} {k : Nat} {a : AM} (hw : wf a) (hR : R1 G k a) : ∃ r G', sh_X1_tickOnce k G = some (r, G') ∧ R1 G' k (sTick a).1 ∧ isS r (sTick a).2 ∧ frm G G' k := by
  obtain ⟨r, G1, e1, e2, e3, e4⟩ := X1_grow hw hR
  obtain ⟨r2, G2, f1, f2, f3, f4⟩ := X1_ticks (k := k) (fun l1 G => sh_X1_tickOnce_j48 k l1 G) 16 0 FU G1 (sGrow a) 0 r _ _ rfl (by decide) isS_0 e3 (wfx_grow hw) (fun i hi h => by unfold sRipe at h; simp at h; exact h.1) e2
  obtain ⟨G3, g1, g2, g3⟩ := X1_account (n := cnt (sTickR 16 (sGrow a) (fun _ => false) (sRipe (sGrow a))).2 16) (cnt_le _ _) f2
  unfold sh_X1_tickOnce
  rw [e1, obi_s]
  have f1' : sh_X1_tickOnce_9 k (fun l1 G => sh_X1_tickOnce_j48 k l1 G) FU 0 r 0 G1 = sh_X1_tickOnce_j48 k r2 G2 := f1
  rw [f1']
  unfold sh_X1_tickOnce_j48
  rw [bng_s, bc_eq f3, g1, obv_s]
  exact ⟨r2, G3, rfl, g2, f3, (e4.trans f4).trans g3⟩

