-- what holds at every time
theorem I_addn {x : Int32} {k : Nat} (h1 : 0 ≤ x.toInt) (h2 : x.toInt + k < 2147483648) : (x + nI k).toInt = x.toInt + k := by
  have e : (nI k).toInt = k := nI_toInt (by omega)
  rw [I_add (by omega) (by omega), e]
theorem I_add1 {x : Int32} (h1 : 0 ≤ x.toInt) (h2 : x.toInt + 1 < 2147483648) : (x + 1).toInt = x.toInt + 1 := I_addn (k := 1) h1 h2
def sB (a : AM) (f : Nat) : Int := zs (fun i => if aT a i then (aN a f i).toInt else 0) 16
def pL (a : AM) (i : Nat) : Prop := 0 ≤ (aN a 5 i).toInt ∧ 0 ≤ (aN a 6 i).toInt ∧ (aN a 6 i).toInt ≤ (aG a 0).toInt ∧ ((aN a 5 i).toInt = 0 ↔ (aN a 6 i).toInt = 0) ∧ 0 ≤ (aN a 7 i).toInt
def pG (n : Nat) (a : AM) : Prop := 0 ≤ (aG a 0).toInt ∧ (aG a 0).toInt ≤ n ∧ sB a 5 ≤ (aG a 1).toInt ∧ (aG a 1).toInt ≤ 16 * (aG a 0).toInt ∧ sB a 7 ≤ (aG a 2).toInt ∧ (aG a 2).toInt ≤ 4096 * (aG a 0).toInt ∧ 0 ≤ (aG a 3).toInt ∧ (aG a 3).toInt ≤ (aG a 0).toInt ∧ 0 ≤ (aG a 4).toInt ∧ (aG a 4).toInt ≤ 16 ∧ (aG a 4).toInt ≠ 1 ∧ ((aG a 4).toInt = 0 ↔ (aG a 3).toInt = 0)
def inv (n : Nat) (a : AM) : Prop := wf a ∧ (∀ i, i < 16 → aL a i i = false) ∧ (∀ i, i < 16 → aT a i = true → pL a i) ∧ pG n a
theorem inv.mono {n m : Nat} {a : AM} (h : inv n a) (hm : n ≤ m) : inv m a := by
  obtain ⟨h1, h2, h3, g1, g2, g3⟩ := h
  exact ⟨h1, h2, h3, g1, by omega, g3⟩
theorem sB_term {a : AM} (h : ∀ i, i < 16 → aT a i = true → pL a i) {f : Nat} (hf : f = 5 ∨ f = 7) {i : Nat} (hi : i < 16) : 0 ≤ (if aT a i = true then (aN a f i).toInt else 0) := by
  split
  · rename_i ht
    have := h i hi ht
    rcases hf with rfl | rfl
    · exact this.1
    · exact this.2.2.2.2
  · omega
theorem sB_at {a : AM} (h : ∀ i, i < 16 → aT a i = true → pL a i) {f : Nat} (hf : f = 5 ∨ f = 7) {i : Nat} (hi : i < 16) (ht : aT a i = true) : (aN a f i).toInt ≤ sB a f := by
  have := zs_at (P := fun i => if aT a i then (aN a f i).toInt else 0) (m := 16) (fun i hi => sB_term h hf hi) i hi
  rw [if_pos ht] at this
  exact this
theorem sB_nn {a : AM} (h : ∀ i, i < 16 → aT a i = true → pL a i) {f : Nat} (hf : f = 5 ∨ f = 7) : 0 ≤ sB a f := zs_nn (fun i hi => sB_term h hf hi)
theorem inv_tick {n : Nat} {a : AM} (h : inv n a) (hn : n < 100000) : inv (n + 1) (sTick a).1 := by
  obtain ⟨hw, h2, h3, g1, g2, g3, g4, g5, g6, g7, g8, g9, g10, g11, g12⟩ := h
  obtain ⟨P, f1, f2, f3, f4, t0, t1, t2, t3, t4, t5, t6, t7, t8⟩ := tick_f a
  have hc := cnt_le (sTick a).2 16
  have s5 := sB_nn h3 (f := 5) (Or.inl rfl)
  have s7 := sB_nn h3 (f := 7) (Or.inr rfl)
  have e0 : (aG (sTick a).1 0).toInt = (aG a 0).toInt + 1 := by rw [t0]; exact I_add1 g1 (by omega)
  have e1 : (aG (sTick a).1 1).toInt = (aG a 1).toInt + cnt (sTick a).2 16 := by rw [t1]; exact I_addn (by omega) (by omega)
  have e2 : (aG (sTick a).1 2).toInt = (aG a 2).toInt + dsum P 16 := by rw [t2]; exact I_addn (by omega) (by omega)
  have n5 : ∀ i, i < 16 → aT a i = true → (aN (sTick a).1 5 i).toInt = (aN a 5 i).toInt + ((sTick a).2 i).toNat := fun i hi ht => by
    have := sB_at h3 (f := 5) (Or.inl rfl) hi ht
    have p := (h3 i hi ht).1
    rw [(t6 i).2.1]
    cases (sTick a).2 i
    · exact (Int.add_zero _).symm
    · exact I_add1 p (by omega)
  have n6 : ∀ i, (aN (sTick a).1 6 i).toInt = if (sTick a).2 i then (aG a 0).toInt + 1 else (aN a 6 i).toInt := fun i => by
    rw [(t6 i).2.2.1]
    cases (sTick a).2 i
    · rfl
    · exact I_add1 g1 (by omega)
  have n7 : ∀ i, i < 16 → aT a i = true → (aN (sTick a).1 7 i).toInt = (aN a 7 i).toInt + P i := fun i hi ht => by
    have := sB_at h3 (f := 7) (Or.inr rfl) hi ht
    have p := (h3 i hi ht).2.2.2.2
    have := dsum_at (P := P) (m := 16) i hi
    rw [(t6 i).2.2.2]
    exact I_addn p (by omega)
  have u5 : sB (sTick a).1 5 ≤ sB a 5 + cnt (sTick a).2 16 := by
    have q : sB (sTick a).1 5 ≤ zs (fun i => (if aT a i then (aN a 5 i).toInt else 0) + (((sTick a).2 i).toNat : Int)) 16 := zs_le (fun i hi => by
      show (if aT (sTick a).1 i = true then _ else _) ≤ _
      rw [f1]
      cases ht : aT a i
      · show (0 : Int) ≤ 0 + _; omega
      · show (aN (sTick a).1 5 i).toInt ≤ (aN a 5 i).toInt + _
        rw [n5 i hi ht]; exact Int.le_refl _)
    rw [zs_add, zs_nat, ← cnt_dsum] at q
    exact q
  have u7 : sB (sTick a).1 7 ≤ sB a 7 + dsum P 16 := by
    have q : sB (sTick a).1 7 ≤ zs (fun i => (if aT a i then (aN a 7 i).toInt else 0) + (P i : Int)) 16 := zs_le (fun i hi => by
      show (if aT (sTick a).1 i = true then _ else _) ≤ _
      rw [f1]
      cases ht : aT a i
      · show (0 : Int) ≤ 0 + _; omega
      · show (aN (sTick a).1 7 i).toInt ≤ (aN a 7 i).toInt + _
        rw [n7 i hi ht]; exact Int.le_refl _)
    rw [zs_add, zs_nat] at q
    exact q
  refine ⟨tick_wf hw, by rw [f3]; exact h2, fun i hi ht => ?_, by omega, by omega, by omega, by omega, by omega, by omega, ?_⟩
  · rw [f1] at ht
    obtain ⟨p1, p2, p3, p4, p5⟩ := h3 i hi ht
    have q5 := n5 i hi ht
    have q6 := n6 i
    have q7 := n7 i hi ht
    cases hb : (sTick a).2 i
    · rw [hb] at q5 q6
      have q5' : (aN (sTick a).1 5 i).toInt = (aN a 5 i).toInt := by rw [q5]; exact Int.add_zero _
      have q6' : (aN (sTick a).1 6 i).toInt = (aN a 6 i).toInt := q6
      exact ⟨by omega, by omega, by omega, by rw [q5', q6']; exact p4, by omega⟩
    · rw [hb] at q5 q6
      have q5' : (aN (sTick a).1 5 i).toInt = (aN a 5 i).toInt + 1 := q5
      have q6' : (aN (sTick a).1 6 i).toInt = (aG a 0).toInt + 1 := q6
      exact ⟨by omega, by omega, by omega, by omega, by omega⟩
  · have eN : (nI (cnt (sTick a).2 16)).toInt = cnt (sTick a).2 16 := nI_toInt (by omega)
    by_cases q : cnt (sTick a).2 16 < 2
    · rw [if_pos q] at t3 t4
      rw [t3, t4]
      exact ⟨by omega, by omega, by omega, by omega, g11, g12⟩
    · rw [if_neg q] at t3 t4
      have e3 : (aG (sTick a).1 3).toInt = (aG a 3).toInt + 1 := by rw [t3]; exact I_add1 g7 (by omega)
      by_cases q2 : aG a 4 < nI (cnt (sTick a).2 16)
      · rw [if_pos q2] at t4
        rw [t4, eN, e3]
        exact ⟨by omega, by omega, by omega, by omega, by omega, by omega⟩
      · rw [if_neg q2] at t4
        rw [I_lt, eN] at q2
        rw [t4, e3]
        exact ⟨by omega, by omega, by omega, by omega, by omega, by omega⟩
theorem tickN_s : ∀ (m : Nat) (a : AM), sTickN (m + 1) a = (sTick (sTickN m a)).1
  | 0, _ => rfl
  | m + 1, a => tickN_s m (sTick a).1
theorem tickN_add : ∀ (m k : Nat) (a : AM), sTickN (m + k) a = sTickN k (sTickN m a)
  | 0, k, a => by rw [Nat.zero_add]; rfl
  | m + 1, k, a => by rw [Nat.succ_add]; exact tickN_add m k (sTick a).1
theorem inv_ticks : ∀ (m n : Nat) {a : AM}, inv n a → n + m ≤ 100000 → inv (n + m) (sTickN m a)
  | 0, n, _, h, _ => h
  | m + 1, n, a, h, hn => by
    have := inv_ticks m (n + 1) (inv_tick h (by omega)) (by omega)
    rw [show n + 1 + m = n + (m + 1) by omega] at this
    exact this
theorem tickN_f : ∀ (m : Nat) (a : AM), aT (sTickN m a) = aT a ∧ aO (sTickN m a) = aO a ∧ aL (sTickN m a) = aL a ∧ (∀ r, 5 ≤ r → aG (sTickN m a) r = aG a r) ∧ aG (sTickN m a) 0 = aG a 0 + nI m ∧ ∀ i, aN (sTickN m a) 2 i = aN a 2 i
  | 0, a => ⟨rfl, rfl, rfl, fun _ _ => rfl, by rw [nI_00]; rfl, fun _ => rfl⟩
  | m + 1, a => by
    obtain ⟨P, f1, f2, f3, f4, t0, t1, t2, t3, t4, t5, t6, t7, t8⟩ := tick_f (sTickN m a)
    obtain ⟨g1, g2, g3, g4, g5, g6⟩ := tickN_f m a
    rw [tickN_s]
    refine ⟨f1.trans g1, f2.trans g2, f3.trans g3, fun r hr => (f4 r hr).trans (g4 r hr), ?_, fun i => (t6 i).1.trans (g6 i)⟩
    rw [t0, g5, Int32.add_assoc, nI_1]
/-- a change that leaves what was counted -/
theorem inv_same {n : Nat} {a b : AM} (h : inv n a) (hw : wf b) (hi : ∀ i, i < 16 → aL b i i = false) (hT : ∀ i, i < 16 → aT b i = aT a i) (hN : ∀ f i, 5 ≤ f → i < 16 → aN b f i = aN a f i) (hG : ∀ r, r < 5 → aG b r = aG a r) : inv n b := by
  obtain ⟨_, h2, h3, g⟩ := h
  have e : ∀ f, 5 ≤ f → sB b f = sB a f := fun f hf => zs_congr (fun i hi => by rw [hT i hi, hN f i hf hi])
  refine ⟨hw, hi, fun i hi ht => ?_, ?_⟩
  · unfold pL
    rw [hN 5 i (by decide) hi, hN 6 i (by decide) hi, hN 7 i (by decide) hi, hG 0 (by decide)]
    exact h3 i hi (by rw [← hT i hi]; exact ht)
  · unfold pG
    rw [e 5 (by decide), e 7 (by decide), hG 0 (by decide), hG 1 (by decide), hG 2 (by decide), hG 3 (by decide), hG 4 (by decide)]
    exact g
theorem inv_lay {n : Nat} {a : AM} {i : Nat} {ph rt : Int32} (h : inv n a) (hi : i < 16) (hf : aT a i = false) (hw : wf (sLay a i ph rt)) : inv n (sLay a i ph rt) := by
  obtain ⟨_, h2, h3, g⟩ := h
  have eT : ∀ r, aT (sLay a i ph rt) r = (aT a r || decide (r = i)) := fun r => rfl
  have eN : ∀ f r, aN (sLay a i ph rt) f r = if r = i then (if f = 1 then ph else if f = 2 then rt else 0) else aN a f r := fun f r => rfl
  have e : ∀ f, 5 ≤ f → sB (sLay a i ph rt) f = sB a f := fun f hf5 => zs_congr (fun r hr => by
    rw [eT, eN]
    by_cases q : r = i
    · subst q
      rw [hf, if_pos rfl, if_neg (show ¬ f = 1 by omega), if_neg (show ¬ f = 2 by omega)]
      simp
    · rw [if_neg q]; simp [q])
  refine ⟨hw, fun r hr => ?_, fun r hr ht => ?_, ?_⟩
  · show (if r = i then false else aL a r r) = false
    split
    · rfl
    · exact h2 r hr
  · unfold pL
    rw [eN, eN, eN]
    by_cases q : r = i
    · subst q
      rw [if_pos rfl, if_pos rfl, if_pos rfl]
      have := g.1
      refine ⟨Int.le_refl _, Int.le_refl _, this, Iff.rfl, Int.le_refl _⟩
    · rw [if_neg q, if_neg q, if_neg q]
      refine h3 r hr ?_
      rw [eT] at ht
      simpa [q] using ht
  · unfold pG
    rw [e 5 (by decide), e 7 (by decide)]
    exact g
theorem inv_del {n : Nat} {a : AM} {i : Nat} (h : inv n a) : inv n (sDel a i) := by
  obtain ⟨hw, h2, h3, g⟩ := h
  have eT : ∀ r, aT (sDel a i) r = (aT a r && !decide (r = i)) := fun r => rfl
  have e : ∀ f, f = 5 ∨ f = 7 → sB (sDel a i) f ≤ sB a f := fun f hf => zs_le (fun r hr => by
    rw [eT]
    have := sB_term h3 hf hr
    by_cases q : r = i
    · simp [q]; rw [q] at this; exact this
    · simp [q]; exact Int.le_refl _)
  refine ⟨del_wf hw, fun r hr => ?_, fun r hr ht => ?_, ?_⟩
  · show (if r = i then false else aL a r r && !decide (r = i)) = false
    rw [h2 r hr]; split <;> rfl
  · rw [eT, Bool.and_eq_true] at ht
    exact h3 r hr ht.1
  · have e5 := e 5 (Or.inl rfl)
    have e7 := e 7 (Or.inr rfl)
    obtain ⟨g1, g2, g3, g4, g5, g6⟩ := g
    exact ⟨g1, g2, Int.le_trans e5 g3, g4, Int.le_trans e7 g5, g6⟩
theorem inv_on {n : Nat} {a : AM} {i : Nat} {b : Bool} (h : inv n a) (ht : aT a i = true) : inv n (sOn a i b) :=
  inv_same h (on_wf h.1 ht) h.2.1 (fun _ _ => rfl) (fun _ _ _ _ => rfl) (fun _ _ => rfl)
theorem inv_link {n : Nat} {a : AM} {i j : Nat} {b : Bool} (h : inv n a) (hi : i < 16) (hj : j < 16) (hti : aT a i = true) (htj : aT a j = true) (hij : i ≠ j) : inv n (sLink a i j b) :=
  inv_same h (wf_link h.1 hi hj hti htj) (fun r hr => by
    show (if (r = i ∧ r = j) ∨ (r = j ∧ r = i) then b else aL a r r) = false
    rw [if_neg (by omega)]; exact h.2.1 r hr) (fun _ _ => rfl) (fun _ _ _ _ => rfl) (fun _ _ => rfl)
theorem inv_tune {n : Nat} {a : AM} {i : Nat} {ph rt : Int32} (h : inv n a) (hw : wf (sTune a i ph rt)) : inv n (sTune a i ph rt) :=
  inv_same h hw h.2.1 (fun _ _ => rfl) (fun f r hf _ => by
    show (if f = 2 ∧ r = i then rt else if f = 1 ∧ r = i then ph else aN a f r) = _
    rw [if_neg (by omega), if_neg (by omega)]) (fun _ _ => rfl)
theorem inv_set {n : Nat} {a : AM} {j : Nat} {x : Int32} (h : inv n a) (hw : wf (sSet a j x)) : inv n (sSet a j x) :=
  inv_same h hw h.2.1 (fun _ _ => rfl) (fun f r hf _ => by
    show (if f = 1 then _ else aN a f r) = _
    rw [if_neg (by omega)]) (fun r hr => by
    show (if r = 5 + j then x else aG a r) = _
    rw [if_neg (by omega)])
