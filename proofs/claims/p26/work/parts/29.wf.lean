-- good meshes stay good
theorem H1.fr {G G' : gG} {h : List AM} (hH : H1 G h) (e : ∀ c, 27 ≤ c → c < 65 → G' c = G c) : H1 G' h := by
  obtain ⟨h1, h2, h3, h4, h5⟩ := hH
  have e4 : ∀ i, pi4 G' i = pi4 G i := fun i => by unfold pi4; rw [e 64 (by decide) (by decide)]
  refine ⟨h1, by rw [e 63 (by decide) (by decide)]; exact h2, fun i hi => by rw [e4]; exact h3 i hi, fun i j hi hj hh => h4 i j hi hj (by rwa [e4, e4] at hh), fun i b hb => ?_⟩
  rw [e4]
  have hl : i < 4 := by
    have := (List.getElem?_eq_some_iff.mp hb).1
    omega
  have hm := okM_r (h3 i hl)
  exact (h5 i b hb).fr (fun c c1 c2 => e c (by omega) (by omega))
theorem lay_wf {a : AM} {i : Nat} {ph rt : Int32} (hw : wf a) (hf : aT a i = false) (h1 : 0 ≤ ph.toInt) (h2 : ph.toInt < 100 * (aG a 5).toInt) (h3 : 50 ≤ rt.toInt) (h4 : rt.toInt ≤ 150) (hi : i < 16) : wf (sLay a i ph rt) := by
  obtain ⟨w1, w2, w3, w4, w5⟩ := hw
  have e0 : (0 : Int32).toInt = 0 := by decide
  have hno : ∀ r, r < 16 → aL a r i = false := fun r hr => by
    cases hh : aL a r i
    · rfl
    · rw [w2 r i hr hi] at hh
      have := w3 i r hi hr hh
      rw [hf] at this; cases this
  refine ⟨fun r hr ho => ?_, fun r s hr hs => ?_, fun r s hr hs hl => ?_, fun r hr ht => ?_, w5⟩
  · have ho' : (aO a r || decide (r = i)) = true := ho
    show (aT a r || decide (r = i)) = true
    simp only [Bool.or_eq_true] at ho' ⊢
    exact ho'.imp (w1 r hr) id
  · show (if r = i then false else aL a r s) = (if s = i then false else aL a s r)
    by_cases q1 : r = i
    · rw [if_pos q1]
      by_cases q2 : s = i
      · rw [if_pos q2]
      · rw [if_neg q2, q1, hno s hs]
    · rw [if_neg q1]
      by_cases q2 : s = i
      · rw [if_pos q2, q2, hno r hr]
      · rw [if_neg q2, w2 r s hr hs]
  · have hl' : (if r = i then false else aL a r s) = true := hl
    show (aT a r || decide (r = i)) = true
    by_cases q1 : r = i
    · simp [q1]
    · rw [if_neg q1] at hl'
      simp [w3 r s hr hs hl']
  · have ht' : (aT a r || decide (r = i)) = true := ht
    by_cases q : r = i
    · subst q
      refine ⟨?_, ?_, ?_, ?_, ?_⟩
      · show 0 ≤ (if r = r then (if (1 : Nat) = 1 then ph else _) else _ : Int32).toInt; rw [if_pos rfl, if_pos rfl]; exact h1
      · show (if r = r then (if (1 : Nat) = 1 then ph else _) else _ : Int32).toInt < _; rw [if_pos rfl, if_pos rfl]; exact h2
      · show 50 ≤ (if r = r then (if (2 : Nat) = 1 then ph else if (2 : Nat) = 2 then rt else 0) else _ : Int32).toInt; rw [if_pos rfl, if_neg (by decide), if_pos rfl]; exact h3
      · show (if r = r then (if (2 : Nat) = 1 then ph else if (2 : Nat) = 2 then rt else 0) else _ : Int32).toInt ≤ 150; rw [if_pos rfl, if_neg (by decide), if_pos rfl]; exact h4
      · show 0 ≤ (if r = r then (if (3 : Nat) = 1 then ph else if (3 : Nat) = 2 then rt else 0) else _ : Int32).toInt; rw [if_pos rfl, if_neg (by decide), if_neg (by decide)]; omega
    · have ht2 : aT a r = true := by simpa [q] using ht'
      have := w4 r hr ht2
      show 0 ≤ (if r = i then _ else aN a 1 r : Int32).toInt ∧ (if r = i then _ else aN a 1 r : Int32).toInt < _ ∧ 50 ≤ (if r = i then _ else aN a 2 r : Int32).toInt ∧ (if r = i then _ else aN a 2 r : Int32).toInt ≤ 150 ∧ 0 ≤ (if r = i then _ else aN a 3 r : Int32).toInt
      rw [if_neg q, if_neg q, if_neg q]; exact this
theorem i100 {x : Int32} (h1 : 0 ≤ x.toInt) (h2 : x.toInt ≤ 200) : (x * 100).toInt = x.toInt * 100 := by
  rw [I_mul (by rw [I_100]; omega) (by rw [I_100]; omega), I_100]
theorem del_wf {a : AM} {i : Nat} (hw : wf a) : wf (sDel a i) := by
  obtain ⟨w1, w2, w3, w4, w5⟩ := hw
  refine ⟨fun r hr ho => ?_, fun r s hr hs => ?_, fun r s hr hs hl => ?_, fun r hr ht => ?_, w5⟩
  · have ho' : (aO a r && !decide (r = i)) = true := ho
    show (aT a r && !decide (r = i)) = true
    rw [Bool.and_eq_true] at ho' ⊢
    exact ⟨w1 r hr ho'.1, ho'.2⟩
  · show (if r = i then false else aL a r s && !decide (s = i)) = (if s = i then false else aL a s r && !decide (r = i))
    by_cases q1 : r = i
    · by_cases q2 : s = i
      · simp [q1, q2]
      · simp [q1, q2]
    · by_cases q2 : s = i
      · simp [q1, q2]
      · simp [q1, q2, w2 r s hr hs]
  · have hl' : (if r = i then false else aL a r s && !decide (s = i)) = true := hl
    show (aT a r && !decide (r = i)) = true
    by_cases q1 : r = i
    · rw [if_pos q1] at hl'; cases hl'
    · rw [if_neg q1, Bool.and_eq_true] at hl'
      simp [q1, w3 r s hr hs hl'.1]
  · have ht' : (aT a r && !decide (r = i)) = true := ht
    rw [Bool.and_eq_true] at ht'
    exact w4 r hr ht'.1
theorem on_wf {a : AM} {i : Nat} {b : Bool} (hw : wf a) (ht : aT a i = true) : wf (sOn a i b) := by
  obtain ⟨w1, w⟩ := hw
  refine ⟨fun r hr ho => ?_, w⟩
  have ho' : (if r = i then b else aO a r) = true := ho
  by_cases q : r = i
  · rw [q]; exact ht
  · rw [if_neg q] at ho'; exact w1 r hr ho'
theorem b2i_inj {b c : Bool} (h : b2i b = b2i c) : b = c := by revert h; cases b <;> cases c <;> decide
theorem tune_wf {a : AM} {i : Nat} {ph rt : Int32} (hw : wf a) (h1 : 0 ≤ ph.toInt) (h2 : ph.toInt < 100 * (aG a 5).toInt) (h3 : 50 ≤ rt.toInt) (h4 : rt.toInt ≤ 150) : wf (sTune a i ph rt) := by
  obtain ⟨w1, w2, w3, w4, w5⟩ := hw
  refine ⟨w1, w2, w3, fun r hr ht => ?_, w5⟩
  have := w4 r hr ht
  show 0 ≤ (if (1 : Nat) = 2 ∧ r = i then rt else if (1 : Nat) = 1 ∧ r = i then ph else aN a 1 r : Int32).toInt ∧ (if (1 : Nat) = 2 ∧ r = i then rt else if (1 : Nat) = 1 ∧ r = i then ph else aN a 1 r : Int32).toInt < 100 * (aG a 5).toInt ∧ 50 ≤ (if (2 : Nat) = 2 ∧ r = i then rt else if (2 : Nat) = 1 ∧ r = i then ph else aN a 2 r : Int32).toInt ∧ (if (2 : Nat) = 2 ∧ r = i then rt else if (2 : Nat) = 1 ∧ r = i then ph else aN a 2 r : Int32).toInt ≤ 150 ∧ 0 ≤ (if (3 : Nat) = 2 ∧ r = i then rt else if (3 : Nat) = 1 ∧ r = i then ph else aN a 3 r : Int32).toInt
  by_cases q : r = i
  · simp [q]; rw [q] at this; exact ⟨h1, h2, h3, h4, this.2.2.2.2⟩
  · simp [q]; exact this
theorem fit_wf {b : AM} (h1 : ∀ i, i < 16 → aO b i = true → aT b i = true) (h2 : ∀ i j, i < 16 → j < 16 → aL b i j = aL b j i) (h3 : ∀ i j, i < 16 → j < 16 → aL b i j = true → aT b i = true) (h4 : ∀ i, i < 16 → aT b i = true → 0 ≤ (aN b 1 i).toInt ∧ 50 ≤ (aN b 2 i).toInt ∧ (aN b 2 i).toInt ≤ 150 ∧ 0 ≤ (aN b 3 i).toInt) (h5 : 10 ≤ (aG b 5).toInt ∧ (aG b 5).toInt ≤ 200 ∧ 0 ≤ (aG b 6).toInt ∧ (aG b 6).toInt ≤ 100 ∧ 0 ≤ (aG b 7).toInt ∧ (aG b 7).toInt ≤ 99) : wf (sFit b) ∧ 0 < (sFull b).toInt := by
  have hf : (sFull b).toInt = (aG b 5).toInt * 100 := i100 (by omega) (by omega)
  refine ⟨⟨h1, h2, h3, fun i hi ht => ?_, h5⟩, by omega⟩
  obtain ⟨g1, g2, g3, g4⟩ := h4 i hi ht
  have e1 : (1 : Int32).toInt = 1 := by decide
  refine ⟨?_, ?_, g2, g3, g4⟩
  · show 0 ≤ (if aN b 1 i < sFull b then aN b 1 i else sFull b - 1).toInt
    split
    · exact g1
    · rw [I_sub (by omega) (by omega)]; omega
  · show (if aN b 1 i < sFull b then aN b 1 i else sFull b - 1).toInt < 100 * (aG b 5).toInt
    split
    · rename_i q
      rw [I_lt] at q; omega
    · rw [I_sub (by omega) (by omega)]; omega
theorem set_wf {a : AM} {j : Nat} {x : Int32} (hw : wf a) (hj : j < 3) (h1 : (lstT j).toInt ≤ x.toInt) (h2 : x.toInt ≤ (grtT j).toInt) : wf (sSet a j x) ∧ 0 < (sFull (mG a (5 + j) x)).toInt := by
  obtain ⟨w1, w2, w3, w4, w5, w6, w7, w8, w9, w10⟩ := hw
  refine fit_wf w1 w2 w3 (fun i hi ht => ⟨(w4 i hi ht).1, (w4 i hi ht).2.2⟩) ?_
  have l0 : (lstT 0).toInt = 10 := by decide
  have l1 : (lstT 1).toInt = 0 := by decide
  have l2 : (lstT 2).toInt = 0 := by decide
  have u0 : (grtT 0).toInt = 200 := by decide
  have u1 : (grtT 1).toInt = 100 := by decide
  have u2 : (grtT 2).toInt = 99 := by decide
  show 10 ≤ (if 5 = 5 + j then x else aG a 5 : Int32).toInt ∧ (if 5 = 5 + j then x else aG a 5 : Int32).toInt ≤ 200 ∧ 0 ≤ (if 6 = 5 + j then x else aG a 6 : Int32).toInt ∧ (if 6 = 5 + j then x else aG a 6 : Int32).toInt ≤ 100 ∧ 0 ≤ (if 7 = 5 + j then x else aG a 7 : Int32).toInt ∧ (if 7 = 5 + j then x else aG a 7 : Int32).toInt ≤ 99
  rcases (show j = 0 ∨ j = 1 ∨ j = 2 by omega) with rfl | rfl | rfl
  · simp; omega
  · simp; omega
  · simp; omega
theorem on_c (a : AM) : (∀ i, i < 16 → aO a i = false) ∨ ∃ i, i < 16 ∧ aO a i = true := by
  by_cases q : ∃ i, i < 16 ∧ aO a i = true
  · exact Or.inr q
  · refine Or.inl (fun i hi => ?_)
    cases hh : aO a i
    · rfl
    · exact absurd ⟨i, hi, hh⟩ q
theorem lo_0 {G : gG} {a : AM} (h : R1 G 0 a) (q : ∀ i, i < 16 → aO a i = false) : sh_X1_lampsOn 0 G = 0 := by
  rw [X1_lampsOn h, cnt_0.mpr q]; rfl
theorem lo_1 {G : gG} {k : Nat} {a : AM} (h : R1 G k a) {i : Nat} (hi : i < 16) (q : aO a i = true) : ¬ sh_X1_lampsOn k G = 0 := by
  rw [X1_lampsOn h]
  have h1 := cnt_pos hi q
  have h2 := cnt_le (aO a) 16
  exact nI_ne0 h1 (by omega)
theorem n10 : ¬ (1 : Int32) = 0 := by decide
