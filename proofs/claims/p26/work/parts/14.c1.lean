-- the class's mesh: one tick
def sFull (a : AM) : Int32 := aG a 5 * 100
def sUp (j : Nat) (a' a : AM) : AM := (aT a, aO a, aL a, fun f i => if i < j then aN a' f i else aN a f i, aG a)
theorem up_0 {a' a : AM} : sUp 0 a' a = a := rfl
theorem up_16 {a' a : AM} (hT : aT a' = aT a) (hO : aO a' = aO a) (hL : aL a' = aL a) (hG : aG a' = aG a) : aE (sUp 16 a' a) a' := by
  refine ⟨fun i _ => ?_, fun i _ => ?_, fun i j _ _ => ?_, fun f i _ hi _ => ?_, fun j _ => ?_⟩
  · rw [hT]; rfl
  · rw [hO]; rfl
  · rw [hL]; rfl
  · show (if i < 16 then _ else _) = _; rw [if_pos hi]
  · rw [hG]; rfl
theorem up_aE {a a' b : AM} {j : Nat} (hT : aT b = aT a) (hO : aO b = aO a) (hL : aL b = aL a) (hG : aG b = aG a) (h1 : ∀ f, fld f → aN b f j = aN a' f j) (h2 : ∀ f i, i ≠ j → aN b f i = aN (sUp j a' a) f i) : aE b (sUp (j + 1) a' a) := by
  refine ⟨fun i _ => ?_, fun i _ => ?_, fun i j _ _ => ?_, fun f i hf hi _ => ?_, fun j _ => ?_⟩
  · rw [hT]; rfl
  · rw [hO]; rfl
  · rw [hL]; rfl
  · show _ = (if i < j + 1 then _ else _)
    by_cases e : i = j
    · subst e; rw [if_pos (by omega)]; exact h1 f hf
    · rw [h2 f i e]
      show (if i < j then _ else _) = _
      by_cases q : i < j
      · rw [if_pos q, if_pos (by omega)]
      · rw [if_neg q, if_neg (by omega)]
  · rw [hG]; rfl
theorem fld1 : fld 1 := Or.inl rfl
theorem fld2 : fld 2 := Or.inr (Or.inl rfl)
theorem fld3 : fld 3 := Or.inr (Or.inr (Or.inl rfl))
theorem fld5 : fld 5 := Or.inr (Or.inr (Or.inr (Or.inl rfl)))
theorem fld6 : fld 6 := Or.inr (Or.inr (Or.inr (Or.inr (Or.inl rfl))))
theorem fld7 : fld 7 := Or.inr (Or.inr (Or.inr (Or.inr (Or.inr rfl))))
theorem nj16 {j : Nat} (h : j < 16) : ¬ (16 : Int32) ≤ nI j := by rw [le16 (by omega)]; omega
theorem holds_is {x : Int32} {S : Nat → Bool} {j : Nat} (h : isS x S) (hj : j < 16) : sh_X3_holds x (nI j) = b2i (S j) := by
  rw [holds_eq (by omega), h.at hj]; rfl
theorem b_f {b : Bool} (h : b = false) : b2i b = 0 := b2i_0.mpr h
theorem b_t {b : Bool} (h : b = true) : ¬ b2i b = 0 := by rw [h]; decide
theorem R1.num {G : gG} {k : Nat} {a : AM} (h : R1 G k a) {f i : Nat} (hf : fld f) (hi : i < 16) (ht : aT a i = true) : G (k + f) i = aN a f i := h.2.2.2.1 f i hf hi ht
theorem X1_full {G : gG} {k : Nat} {a : AM} (h : R1 G k a) : sh_X1_fullPhase k G = some (sFull a) := by
  unfold sh_X1_fullPhase sFull
  rw [tc0, h.2.2.2.2.2 0 (by decide)]
def sGrow (a : AM) : AM := (aT a, aO a, aL a, fun f i => if aO a i then (if f = 1 then aN a 1 i + aN a 2 i else if f = 3 then (if aN a 3 i ≤ 0 then aN a 3 i else aN a 3 i - 1) else aN a f i) else aN a f i, aG a)
def sRipe (a : AM) (i : Nat) : Bool := aO a i && decide (¬ aN a 1 i < sFull a)
theorem X1_grow_l {G0 : gG} {k : Nat} {a : AM} (hw : wf a) (kt : Int32 → gG → Option (Int32 × gG)) : ∀ (n : Nat) (G : gG), 16 < n → R1 G k a → frm G0 G k →
    ∃ s : Int32 × gG, (R1 s.2 k (sUp 16 (sGrow a) a) ∧ isS s.1 (fun i => decide (i < 16) && sRipe (sGrow a) i) ∧ frm G0 s.2 k) ∧ sh_X1_grow_9 k kt n (sFull a) 0 (nI 0) G = kt s.1 s.2 := by
  intro n G hn hR hF
  refine forl 16 (fun n j s => sh_X1_grow_9 k kt n (sFull a) s.1 (nI j) s.2) (fun j s => R1 s.2 k (sUp j (sGrow a) a) ∧ isS s.1 (fun i => decide (i < j) && sRipe (sGrow a) i) ∧ frm G0 s.2 k) (fun s => kt s.1 s.2) ?_ ?_ 16 0 n (0, G) rfl hn ⟨hR, isS_0.congr (fun i _ => by simp), hF⟩
  · intro n s _
    show sh_X1_grow_9 k kt (n + 1) (sFull a) s.1 (nI 16) s.2 = _
    rw [sh_X1_grow_9.eq_2, if_pos (by decide)]
  · intro n j s hj ⟨hR, hS, hF⟩
    obtain ⟨z, G⟩ := s
    have hnx : nI j + 1 = nI (j + 1) := nI_1 j
    show ∃ s', _ ∧ sh_X1_grow_9 k kt (n + 1) (sFull a) z (nI j) G = _
    dsimp only at hR hS hF
    have hh : sh_X3_holds (G k 9) (nI j) = b2i (aO a j) := holds_is hR.2.1 hj
    rw [sh_X1_grow_9.eq_2, if_neg (nj16 hj), hh]
    cases ho : aO a j
    · rw [if_pos (b_f rfl), hnx]
      refine ⟨(z, G), ⟨hR.congr (up_aE rfl rfl rfl rfl (fun f hf => ?_) (fun f i hi => rfl)), hS.congr (fun i hi => ?_), hF⟩, rfl⟩
      · show (if j < j then _ else _) = (if aO a j = true then _ else _)
        rw [if_neg (by omega), ho]; rfl
      · by_cases e : i = j
        · subst e
          have : sRipe (sGrow a) i = false := by unfold sRipe; show (aO a i && _) = false; rw [ho]; rfl
          simp [this]
        · have : (decide (i < j)) = decide (i < j + 1) := by by_cases q : i < j <;> simp [q] <;> omega
          rw [this]
    · have ht := hw.1 j hj ho
      have hN : ∀ f, fld f → G (k + f) j = aN a f j := fun f hf => by
        rw [hR.num hf hj ht]; show (if j < j then _ else _) = _; rw [if_neg (by omega)]
      rw [if_neg (b_t rfl), if_pos (gin_16 hj)]
      simp only [bng, cl16 hj]
      rw [gu_n1 (by omega), hN 1 fld1, hN 2 fld2, hN 3 fld3]
      have hR1 := hR.nu (x := aN a 1 j + aN a 2 j) fld1 hj
      have hF1 := hF.gu (c := k + 1) (i := j) (x := aN a 1 j + aN a 2 j) (by omega) (by omega)
      have hrp : sRipe (sGrow a) j = decide (¬ aN a 1 j + aN a 2 j < sFull a) := by
        unfold sRipe
        show (aO a j && decide (¬ (if aO a j = true then _ else _) < sFull a)) = _
        rw [ho, if_pos rfl]; rfl
      have fin : ∀ G', R1 G' k (sUp (j + 1) (sGrow a) a) → frm G0 G' k → G' (k + 1) j = aN a 1 j + aN a 2 j → ∃ s' : Int32 × gG, (R1 s'.2 k (sUp (j + 1) (sGrow a) a) ∧ isS s'.1 (fun i => decide (i < j + 1) && sRipe (sGrow a) i) ∧ frm G0 s'.2 k) ∧ sh_X1_grow_j60 k kt (sh_X1_grow_9 k kt n) (sFull a) z (nI j) G' = sh_X1_grow_9 k kt n (sFull a) s'.1 (nI (j + 1)) s'.2 := by
        intro G' hR' hF' hp
        unfold sh_X1_grow_j60
        rw [if_pos (gin_16 hj), cl16 hj, hp, hnx]
        by_cases hlt : aN a 1 j + aN a 2 j < sFull a
        · rw [if_pos hlt]
          refine ⟨(z, G'), ⟨hR', hS.congr (fun i hi => ?_), hF'⟩, rfl⟩
          by_cases e : i = j
          · subst e; simp [hrp, hlt]
          · have : (decide (i < j)) = decide (i < j + 1) := by by_cases q : i < j <;> simp [q] <;> omega
            rw [this]
        · rw [if_neg hlt]
          refine ⟨(z ||| (1 : Int32) <<< (nI j &&& 31), G'), ⟨hR', (hS.add hj).congr (fun i hi => ?_), hF'⟩, rfl⟩
          by_cases e : i = j
          · subst e; simp [hrp, hlt]
          · have : (decide (i < j)) = decide (i < j + 1) := by by_cases q : i < j <;> simp [q] <;> omega
            rw [this]; simp [e]
      have h2 : ∀ (x : Int32) f i, i ≠ j → (if f = 1 ∧ i = j then x else aN (sUp j (sGrow a) a) f i) = aN (sUp j (sGrow a) a) f i := fun x f i hi => by rw [if_neg (by omega)]
      have hg : ∀ f, fld f → aN (sGrow a) f j = (if f = 1 then aN a 1 j + aN a 2 j else if f = 3 then (if aN a 3 j ≤ 0 then aN a 3 j else aN a 3 j - 1) else aN a f j) := fun f _ => by
        show (if aO a j = true then _ else _) = _; rw [ho, if_pos rfl]
      have hu : ∀ f, aN (sUp j (sGrow a) a) f j = aN a f j := fun f => by show (if j < j then _ else _) = _; rw [if_neg (by omega)]
      by_cases hd : aN a 3 j ≤ 0
      · rw [if_pos hd]
        refine fin _ (hR1.congr (up_aE rfl rfl rfl rfl (fun f hf => ?_) (fun f i hi => h2 _ f i hi))) hF1 gu_at
        rw [hg f hf]
        show (if f = 1 ∧ j = j then _ else aN (sUp j (sGrow a) a) f j) = _
        rw [hu]
        by_cases e1 : f = 1
        · simp [e1]
        · by_cases e3 : f = 3
          · simp [e3, hd]
          · simp [e1, e3]
      · rw [if_neg hd]
        refine fin _ ((hR1.nu (x := aN a 3 j - 1) fld3 hj).congr (up_aE rfl rfl rfl rfl (fun f hf => ?_) (fun f i hi => ?_))) (hF1.gu (by omega) (by omega)) (by rw [gu_n1 (by omega), gu_at])
        · rw [hg f hf]
          show (if f = 3 ∧ j = j then _ else if f = 1 ∧ j = j then _ else aN (sUp j (sGrow a) a) f j) = _
          rw [hu]
          by_cases e1 : f = 1
          · simp [e1]
          · by_cases e3 : f = 3
            · simp [e3, hd]
            · simp [e1, e3]
        · show (if f = 3 ∧ i = j then _ else if f = 1 ∧ i = j then _ else aN (sUp j (sGrow a) a) f i) = _
          rw [if_neg (by omega), if_neg (by omega)]
theorem X1_grow {G : gG} {k : Nat} {a : AM} (hw : wf a) (hR : R1 G k a) : ∃ (r : Int32) (G' : gG), sh_X1_grow k G = some (r, G') ∧ R1 G' k (sGrow a) ∧ isS r (sRipe (sGrow a)) ∧ frm G G' k := by
  obtain ⟨s, ⟨h1, h2, h3⟩, h4⟩ := X1_grow_l (G0 := G) hw (fun l2 G => some (l2, G)) FU G (by decide) hR frm.rf
  refine ⟨s.1, s.2, ?_, h1.congr (up_16 rfl rfl rfl rfl), h2.congr (fun i hi => by simp [hi]), h3⟩
  unfold sh_X1_grow
  rw [X1_full hR]
  exact h4

