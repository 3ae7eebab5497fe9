-- what holds at the law's entry
theorem t_start {args : Array Value} {s : State} (h : ∀ w ∈ gtbl, w.before args s = true) (hO : va_AO "BlinkMesh$Mesh" s) : ∃ t : gT, ∀ (k : Nat) (q : ClassId × FieldType), (tys t)[k]? = some q → ArrOfT s q.1 q.2 ∧ va_RA s q.1 q.2 := by
  obtain ⟨c1, k1', p1, a1, a2, a3⟩ := Cond.arrayClass_spec (type := .int) (h _ k77)
  obtain ⟨c2, k2', p2, b1, b2, b3⟩ := Cond.arrayClass_spec (type := .char) (h _ k120)
  obtain ⟨p3, c3, k3', e1, e2, e3, e4, e5⟩ := Cond.arrayOver_spec hO
  refine ⟨(c1, c2, c3), fun k q hq => ?_⟩
  match k, hq with
  | 0, hq => cases hq; exact ⟨fun n z => ⟨fun k h => (by cases h), k1', a2, p1, a3⟩, a1⟩
  | 1, hq => cases hq; exact ⟨fun n z => ⟨fun k h => (by cases h), k2', b2, p2, b3⟩, b1⟩
  | 2, hq => cases hq; exact ⟨fun n z => ⟨fun k h => (by cases h), k3', e3, p3, e4⟩, k3', p3, e3, e4, e1, e5⟩
  | k + 3, hq => simp at hq
theorem st_T {args : Array Value} {s : State} {A : Nat → Prop} {nm : String} {f : Nat → Int32} (hl : (Cond.laysStatic "BlinkMesh" nm "[I").before args s = true) (hini : (Cond.initialized "BlinkMesh").before args s = true) (harr : (Cond.arrayOf (Term.static "BlinkMesh" nm "[I") .int).before args s = true) (hlen : (Cond.eq (Term.length (Term.static "BlinkMesh" nm "[I")) (Term.int 3)).before args s = true) (h0 : (Cond.eq (Term.elem (Term.static "BlinkMesh" nm "[I") (Term.int 0)) (Term.int (f 0))).before args s = true) (h1 : (Cond.eq (Term.elem (Term.static "BlinkMesh" nm "[I") (Term.int 1)) (Term.int (f 1))).before args s = true) (h2 : (Cond.eq (Term.elem (Term.static "BlinkMesh" nm "[I") (Term.int 2)) (Term.int (f 2))).before args s = true) (hA : ∀ a : Nat, a < s.heap.size → ¬ A a) : ∃ a : Nat, va_Z "BlinkMesh" nm "[I" (.ref a) A s s.heap ∧ va_T .int a 3 (fun j => .int (f j)) A s s.heap ∧ (Term.static "BlinkMesh" nm "[I").eval args s none [] s = some (.ref a) := by
  obtain ⟨a, ha, hT⟩ := va_Tof (N := 3) (f := fun j => .int (f j)) (by decide) harr (va_eqt hlen) (fun j hj => (by
    rcases (show j = 0 ∨ j = 1 ∨ j = 2 by omega) with rfl | rfl | rfl
    · exact va_eqt h0
    · exact va_eqt h1
    · exact va_eqt h2)) hA
  exact ⟨a, va_Zof hl hini ha hA, hT, ha⟩
theorem len_small {tm : Term} {args : Array Value} {s : State} {a : Nat} {cell : Cell} {v : Value} (he : tm.eval args s none [] s = some (.ref a)) (hc : s.arrayAt? a = some cell) (hv : (Term.length tm).eval args s none [] s = some v) : cell.slots.size < 2 ^ 31 := by
  simp only [Term.eval, he, hc, Option.bind_eq_bind, Option.bind_some] at hv
  by_cases hlt : cell.slots.size < 2147483648
  · exact hlt
  · simp [hlt] at hv
theorem f_T {args : Array Value} {s : State} {A : Nat → Prop} {t : gT} {a : Nat} (hnm : s.vm.findClass "[I" = some t.1) (hlen : (Cond.eq (Term.length (Term.static "BlinkMesh" "FIRST_SETTING" "[I")) (Term.int 3)).before args s = true) (hex : (Cond.exactly (Term.static "BlinkMesh" "FIRST_SETTING" "[I") "[I").before args s = true) (he : (Term.static "BlinkMesh" "FIRST_SETTING" "[I").eval args s none [] s = some (.ref a)) (hT : va_T .int a 3 (fun j => .int (fstT j)) A s s.heap) : FT t a A s.heap := by
  obtain ⟨cell, d1, d2, d3, d4, d5, d6, d7⟩ := hT
  obtain ⟨a', cc, cell', kk, g1, g2, g3, g4, g5, g6, g7⟩ := Cond.exactly_spec hex
  cases he.symm.trans g1
  cases d1.symm.trans g3
  cases hnm.symm.trans g2
  obtain ⟨b', cell2, i1, i2, i3⟩ := Term.length_spec (va_eqt hlen)
  cases he.symm.trans i1
  have hcell2 := (State.arrayAt?_spec i2).1
  cases d1.symm.trans hcell2
  have hsz : cell.slots.size < 2 ^ 31 := len_small he i2 (va_eqt hlen)
  have hs3 : cell.slots.size = 3 := nI_inj hsz (by decide) d5
  refine ⟨cell, d1, g6, fun k e => ?_, d3, ?_, d7⟩
  · rw [e] at g5; cases g5
  · apply Array.ext_getElem?
    intro i
    by_cases hi : i < 3
    · rw [d6 i hi]
      exact (arrV_read t.1 (fun j => .int (fstT j)) hi).symm
    · rw [Array.getElem?_eq_none (by omega), Array.getElem?_eq_none]
      show (arrV t.1 3 (fun j => .int (fstT j))).slots.size ≤ i
      rw [arrV_size]; omega
