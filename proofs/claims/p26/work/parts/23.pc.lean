-- pieces, agreement, the lamp with the most links
def sNb (a : AM) (S : Nat → Bool) (i : Nat) : Bool := aO a i && decide (0 < cnt (fun b => S b && aL a b i) 16)
def isPc (a : AM) (S0 Z : Nat → Bool) : Prop := (∀ i, i < 16 → S0 i = true → Z i = true) ∧ (∀ i, i < 16 → sNb a Z i = true → Z i = true) ∧ ∀ Y : Nat → Bool, (∀ i, i < 16 → S0 i = true → Y i = true) → (∀ i, i < 16 → sNb a Y i = true → Y i = true) → ∀ i, i < 16 → Z i = true → Y i = true
theorem pc_u {a : AM} {S0 Z Z' : Nat → Bool} (h : isPc a S0 Z) (g : isPc a S0 Z') : ∀ i, i < 16 → Z i = Z' i := by
  intro i hi
  have h1 := h.2.2 Z' g.1 g.2.1 i hi
  have h2 := g.2.2 Z h.1 h.2.1 i hi
  cases hz : Z i <;> cases hz' : Z' i <;> simp_all
theorem sNb_mono {a : AM} {S T : Nat → Bool} (h : ∀ i, i < 16 → S i = true → T i = true) {i : Nat} (hi : sNb a S i = true) : sNb a T i = true := by
  unfold sNb at hi ⊢
  simp only [Bool.and_eq_true, decide_eq_true_eq] at hi ⊢
  refine ⟨hi.1, ?_⟩
  have := cnt_mono (S := fun b => S b && aL a b i) (S' := fun b => T b && aL a b i) (m := 16) (fun b hb q => by
    simp only [Bool.and_eq_true] at q ⊢
    exact ⟨h b hb q.1, q.2⟩)
  omega
/-- a set on the way from S0 to its piece -/
def onWay (a : AM) (S0 S : Nat → Bool) : Prop := (∀ i, i < 16 → S0 i = true → S i = true) ∧ ∀ Y : Nat → Bool, (∀ i, i < 16 → S0 i = true → Y i = true) → (∀ i, i < 16 → sNb a Y i = true → Y i = true) → ∀ i, i < 16 → S i = true → Y i = true
theorem onWay_step {a : AM} {S0 S : Nat → Bool} (h : onWay a S0 S) : onWay a S0 (fun i => S i || sNb a S i) := by
  refine ⟨fun i hi q => by simp [h.1 i hi q], fun Y h1 h2 i hi q => ?_⟩
  simp only [Bool.or_eq_true] at q
  rcases q with q | q
  · exact h.2 Y h1 h2 i hi q
  · exact h2 i hi (sNb_mono (fun b hb z => h.2 Y h1 h2 b hb z) q)
theorem onWay_end {a : AM} {S0 S : Nat → Bool} (h : onWay a S0 S) (hf : ∀ i, i < 16 → (S i || sNb a S i) = S i) : isPc a S0 S :=
  ⟨h.1, fun i hi q => by have := hf i hi; rw [q] at this; simpa using this.symm, h.2⟩
theorem onWay_rf (a : AM) (S0 : Nat → Bool) : onWay a S0 S0 := ⟨fun _ _ q => q, fun _ h1 _ i hi q => h1 i hi q⟩
theorem cnt_pos {S : Nat → Bool} {m i : Nat} (hi : i < m) (h : S i = true) : 0 < cnt S m := by
  rcases Nat.eq_zero_or_pos (cnt S m) with q | q
  · rw [cnt_0.mp q i hi] at h; cases h
  · exact q
theorem sNb_none {a : AM} {S : Nat → Bool} (h : ∀ i, i < 16 → S i = false) (i : Nat) : sNb a S i = false := by
  unfold sNb
  rw [cnt_0.mpr (fun b hb => by rw [h b hb]; rfl)]; simp
theorem isS_ne {x y : Int32} {S T : Nat → Bool} (hx : isS x S) (hy : isS y T) (h : ¬ x = y) : ∃ i, i < 16 ∧ S i ≠ T i := by
  rcases Classical.em (∃ i, i < 16 ∧ S i ≠ T i) with q | q
  · exact q
  · exfalso; apply h
    refine hx.eq (hy.congr (fun i hi => ?_))
    rcases Classical.em (S i = T i) with z | z
    · exact z.symm
    · exact absurd ⟨i, hi, z⟩ q
theorem X1_nb {G : gG} {k : Nat} {a : AM} (h : R1 G k a) {x : Int32} {S : Nat → Bool} (hx : isS x S) : ∃ r, sh_X1_neighbours k x G = some r ∧ isS r (sNb a S) := by
  unfold sh_X1_neighbours
  obtain ⟨s, h1, h2⟩ := forl 16 (fun n j s => sh_X1_neighbours_4 k G (fun l2 => some l2) n x s (nI j)) (fun j s => isS s (fun i => aO a i && decide (0 < cnt (fun b => S b && aL a b i) j))) (fun s => some s) (by
    intro n s _
    show sh_X1_neighbours_4 k G _ (n + 1) x s (nI 16) = _
    rw [sh_X1_neighbours_4.eq_2, if_pos (by decide)]) (by
    intro n j s hj hS
    have hh : sh_X3_holds x (nI j) = b2i (S j) := holds_is hx hj
    show ∃ s', _ ∧ sh_X1_neighbours_4 k G _ (n + 1) x s (nI j) = _
    rw [sh_X1_neighbours_4.eq_2, if_neg (nj16 hj), hh, nI_1 j]
    cases hs : S j
    · rw [if_pos (b_f rfl)]
      refine ⟨s, hS.congr (fun i hi => ?_), rfl⟩
      show _ = (aO a i && decide (0 < cnt _ j + (S j && aL a j i).toNat))
      rw [hs]; rfl
    · rw [if_neg (b_t rfl), if_pos (gin_16 hj), cl16 hj, bni_s]
      refine ⟨_, (hS.or ((h.2.2.1 j hj).and h.2.1)).congr (fun i hi => ?_), rfl⟩
      show _ = (aO a i && decide (0 < cnt _ j + (S j && aL a j i).toNat))
      rw [hs]
      cases aO a i <;> cases aL a j i <;> simp) 16 0 FU 0 rfl (by decide) (isS_0.congr (fun i _ => by simp [cnt]))
  exact ⟨s, h2, h1⟩
theorem X1_pieceOf {G : gG} {k : Nat} {a : AM} (h : R1 G k a) {l : Nat} (hl : l < 16) : ∃ r Z, sh_X1_pieceOf k (nI l) G = some r ∧ isS r Z ∧ isPc a (fun i => aO a i && decide (i = l)) Z := by
  have key : ∀ (d j n : Nat) (x : Int32) (S : Nat → Bool), j + d = 16 → d < n → isS x S → onWay a (fun i => aO a i && decide (i = l)) S → (cnt S 16 = 0 ∨ j < cnt S 16) → ∃ r Z, sh_X1_pieceOf_11 k G (fun l2 => some l2) n x (nI j) = some r ∧ isS r Z ∧ isPc a (fun i => aO a i && decide (i = l)) Z := by
    intro d
    induction d with
    | zero =>
      intro j n x S hj hn hx hS hc
      obtain ⟨n, rfl⟩ : ∃ k, n = k + 1 := ⟨n - 1, by omega⟩
      have : j = 16 := by omega
      subst this
      rw [sh_X1_pieceOf_11.eq_2, if_pos (by decide)]
      have hle := cnt_le S 16
      have h0 : cnt S 16 = 0 := by omega
      refine ⟨x, S, rfl, hx, onWay_end hS (fun i hi => ?_)⟩
      rw [sNb_none (cnt_0.mp h0) i]; simp
    | succ d ih =>
      intro j n x S hj hn hx hS hc
      obtain ⟨n, rfl⟩ : ∃ k, n = k + 1 := ⟨n - 1, by omega⟩
      obtain ⟨r, e1, e2⟩ := X1_nb h hx
      rw [sh_X1_pieceOf_11.eq_2, if_neg (nj16 (by omega)), e1, obp_s, nI_1 j]
      have hw := hx.or e2
      by_cases q : x ||| r = x
      · rw [if_pos q]
        refine ⟨x, S, rfl, hx, onWay_end hS (fun i hi => ?_)⟩
        rw [← hw.at hi, q, hx.at hi]
      · rw [if_neg q]
        obtain ⟨i, hi, hne⟩ := isS_ne hw hx q
        have hlt : cnt S 16 < cnt (fun i => S i || sNb a S i) 16 := cnt_lt (fun b _ z => by simp [z]) ⟨i, hi, by
          cases hs : S i
          · rfl
          · rw [hs] at hne; simp at hne, by
          cases hs : S i
          · rw [hs] at hne; simpa using hne
          · simp⟩
        have hc0 : cnt S 16 ≠ 0 := fun z => hne (by rw [cnt_0.mp z i hi, sNb_none (cnt_0.mp z) i]; rfl)
        exact ih (j + 1) n _ _ (by omega) (by omega) hw (onWay_step hS) (Or.inr (by omega))
  unfold sh_X1_pieceOf
  rw [bni_s]
  have hx : isS ((G k 9) &&& ((1 : Int32) <<< (nI l &&& 31))) (fun i => aO a i && decide (i = l)) := h.2.1.and (isS_1 hl)
  refine key 16 0 FU _ _ rfl (by decide) hx (onWay_rf a _) ?_
  rcases Nat.eq_zero_or_pos (cnt (fun i => aO a i && decide (i = l)) 16) with q | q
  · exact Or.inl q
  · exact Or.inr q
noncomputable def pcOf (a : AM) (l : Nat) : Nat → Bool := Classical.epsilon (fun Z => isPc a (fun i => aO a i && decide (i = l)) Z)
theorem X1_pc {G : gG} {k : Nat} {a : AM} (h : R1 G k a) {l : Nat} (hl : l < 16) : ∃ r, sh_X1_pieceOf k (nI l) G = some r ∧ isS r (pcOf a l) := by
  obtain ⟨r, Z, h1, h2, h3⟩ := X1_pieceOf h hl
  exact ⟨r, h1, h2.congr (pc_u h3 (Classical.epsilon_spec (p := fun Z => isPc a (fun i => aO a i && decide (i = l)) Z) ⟨Z, h3⟩))⟩
noncomputable def sPcs (a : AM) : Nat → Nat × (Nat → Bool)
  | 0 => (0, fun _ => false)
  | j + 1 => if aO a j && !(sPcs a j).2 j then ((sPcs a j).1 + 1, fun i => (sPcs a j).2 i || pcOf a j i) else sPcs a j
theorem sPcs_t {a : AM} {j : Nat} (h : (aO a j && !(sPcs a j).2 j) = true) : sPcs a (j + 1) = ((sPcs a j).1 + 1, fun i => (sPcs a j).2 i || pcOf a j i) := by
  show (if _ then _ else _) = _; rw [if_pos h]
theorem sPcs_f {a : AM} {j : Nat} (h : (aO a j && !(sPcs a j).2 j) = false) : sPcs a (j + 1) = sPcs a j := by
  show (if _ then _ else _) = _; rw [h]; rfl
theorem X1_pieces {G : gG} {k : Nat} {a : AM} (h : R1 G k a) : sh_X1_pieces k G = some (nI (sPcs a 16).1) := by
  obtain ⟨s, ⟨h1, h2⟩, h3⟩ := forl 16 (fun n j (s : Int32 × Int32) => sh_X1_pieces_6 k G (fun l1 => some l1) n s.1 s.2 (nI j)) (fun j s => s.1 = nI (sPcs a j).1 ∧ isS s.2 (sPcs a j).2) (fun s => some s.1) (by
    intro n s _
    show sh_X1_pieces_6 k G _ (n + 1) s.1 s.2 (nI 16) = _
    rw [sh_X1_pieces_6.eq_2, if_pos (by decide)]) (by
    intro n j s hj ⟨h1, h2⟩
    obtain ⟨x, y⟩ := s
    dsimp only at h1 h2
    have hh : sh_X3_holds ((G k 9) &&& (y ^^^ -1)) (nI j) = b2i (aO a j && !(sPcs a j).2 j) := holds_is (h.2.1.andn h2) hj
    show ∃ s', _ ∧ sh_X1_pieces_6 k G _ (n + 1) x y (nI j) = _
    rw [sh_X1_pieces_6.eq_2, if_neg (nj16 hj), hh, nI_1 j]
    cases hb : (aO a j && !(sPcs a j).2 j)
    · rw [if_pos (b_f rfl)]
      exact ⟨(x, y), ⟨by rw [sPcs_f hb]; exact h1, by rw [sPcs_f hb]; exact h2⟩, rfl⟩
    · rw [if_neg (b_t rfl)]
      obtain ⟨r, e1, e2⟩ := X1_pc h hj
      rw [e1, obp_s]
      exact ⟨(x + 1, y ||| r), ⟨by rw [sPcs_t hb]; show x + 1 = nI (_ + 1); rw [h1, nI_1], by rw [sPcs_t hb]; exact h2.or e2⟩, rfl⟩) 16 0 FU (0, 0) rfl (by decide) ⟨rfl, isS_0⟩
  rw [← h1]; exact h3
-- agreement
def sAg (a : AM) (l i : Nat) : Bool := aO a l && (aO a i && decide (aN a 1 i = aN a 1 l))
theorem X1_agree {G : gG} {k : Nat} {a : AM} (hw : wf a) (h : R1 G k a) {l : Nat} (hl : l < 16) : ∃ r, sh_X1_agreeing k (nI l) G = some r ∧ isS r (sAg a l) := by
  unfold sh_X1_agreeing
  rw [X1_isOn h hl]
  cases hol : aO a l
  · rw [if_pos (b_f rfl)]
    exact ⟨0, rfl, isS_0.congr (fun i _ => by unfold sAg; rw [hol]; rfl)⟩
  · rw [if_neg (b_t rfl)]
    obtain ⟨s, h1, h2⟩ := forl 16 (fun n j s => sh_X1_agreeing_14 k G (fun l2 => some l2) n (nI l) s (nI j)) (fun j s => isS s (fun i => decide (i < j) && sAg a l i)) (fun s => some s) (by
      intro n s _
      show sh_X1_agreeing_14 k G _ (n + 1) (nI l) s (nI 16) = _
      rw [sh_X1_agreeing_14.eq_2, if_pos (by decide)]) (by
      intro n j s hj hS
      have hno : sAg a l j = false → isS s (fun i => decide (i < j + 1) && sAg a l i) := fun q => hS.congr (fun i hi => by
        by_cases e : i = j
        · subst e; simp [q]
        · rw [lt_s16 e])
      show ∃ s', _ ∧ sh_X1_agreeing_14 k G _ (n + 1) (nI l) s (nI j) = _
      rw [sh_X1_agreeing_14.eq_2, if_neg (nj16 hj), X1_isOn h hj, nI_1 j]
      cases ho : aO a j
      · rw [if_pos (b_f rfl)]
        exact ⟨s, hno (by unfold sAg; rw [ho]; simp), rfl⟩
      · rw [if_neg (b_t rfl), if_pos (gin_16 hj), if_pos (gin_16 hl), cl16 hj, cl16 hl, h.num fld1 hj (hw.1 j hj ho), h.num fld1 hl (hw.1 l hl hol)]
        by_cases e : aN a 1 j = aN a 1 l
        · rw [if_pos e]
          refine ⟨_, (hS.add hj).congr (fun i hi => ?_), rfl⟩
          by_cases e2 : i = j
          · subst e2
            have : sAg a l i = true := by unfold sAg; rw [hol, ho]; simp [e]
            simp [this]
          · rw [lt_s16 e2]; simp [e2]
        · rw [if_neg e]
          exact ⟨s, hno (by unfold sAg; simp [e]), rfl⟩) 16 0 FU 0 rfl (by decide) (isS_0.congr (fun i _ => by simp))
    exact ⟨s, h2, h1.congr (fun i hi => by simp [hi])⟩
