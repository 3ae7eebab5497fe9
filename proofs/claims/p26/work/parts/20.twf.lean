-- a tick keeps a good mesh good
theorem tickR_wf : ∀ (d : Nat) (a : AM) (B S : Nat → Bool), 16 ≤ cnt B 16 + d → wfx a S → (∀ i, i < 16 → S i = true → aO a i = true) → (∀ i, i < 16 → S i = true → B i = false) → wf (sTickR d a B S).1
  | 0, a, B, S, hm, hw, hSO, hSB => by
    refine wfx_none hw (fun i hi => ?_)
    cases hs : S i
    · rfl
    · have hb := hSB i hi hs
      have := cnt_lt (S := B) (S' := fun _ => true) (m := 16) (fun _ _ _ => rfl) ⟨i, hi, hb, rfl⟩
      have h2 := cnt_le (fun _ => true) 16
      omega
  | d + 1, a, B, S, hm, hw, hSO, hSB => by
    by_cases hz : cnt S 16 = 0
    · have e : sTickR (d + 1) a B S = (a, B) := by show (if cnt S 16 = 0 then _ else _) = _; rw [if_pos hz]
      rw [e]; exact wfx_none hw (cnt_0.mp hz)
    · have e : sTickR (d + 1) a B S = sTickR d (sPF 16 (sBlink a S) S (fun i => aO a i && !(B i || S i))) (fun i => B i || S i) (rPF 16 (sBlink a S) S (fun i => aO a i && !(B i || S i))) := by show (if cnt S 16 = 0 then _ else _) = _; rw [if_neg hz]
      rw [e]
      have hj : ∃ j, j < 16 ∧ S j = true := by
        rcases Classical.em (∃ j, j < 16 ∧ S j = true) with q | q
        · exact q
        · exfalso; apply hz; apply cnt_0.mpr
          intro i hi
          cases hs : S i
          · rfl
          · exact absurd ⟨i, hi, hs⟩ q
      obtain ⟨j, hj1, hj2⟩ := hj
      have hc := cnt_lt (S := B) (S' := fun i => B i || S i) (m := 16) (fun i _ h => by simp [h]) ⟨j, hj1, hSB j hj1 hj2, by simp [hj2]⟩
      have hW2 : ∀ i, i < 16 → rPF 16 (sBlink a S) S (fun i => aO a i && !(B i || S i)) i = true → aO a i = true ∧ (B i || S i) = false := fun i hi h => by
        unfold rPF dz at h
        simp at h
        have := h.1.1
        simp
        exact this
      exact tickR_wf d _ _ _ (by omega) (wfx_push (wf_blink hw) (fun i hi h => by simp at h; exact h.1)) (fun i hi h => (hW2 i hi h).1) (fun i hi h => (hW2 i hi h).2)
theorem tick_wf {a : AM} (hw : wf a) : wf (sTick a).1 := by
  have h := tickR_wf 16 (sGrow a) (fun _ => false) (sRipe (sGrow a)) (by omega) (wfx_grow hw) (fun i hi h => by unfold sRipe at h; simp at h; exact h.1) (fun _ _ _ => rfl)
  exact h
