-- the law's own script, and its loop
abbrev lwA (s : State) : Nat → Prop := fun q => s.heap.size ≤ q
abbrev lwC (p : Program) (s : State) (m : MethodId) (meth : Method) (c : Code) (D : va_G) (t : gT) (ad : Nat → Nat) (b : Nat) : Prop := gC p s m #[Value.ref b] meth c code R_law 3 ret (lwA s) D t ad
abbrev lwV (p : Program) (l : Launch) (e : Env) (s : State) (m : MethodId) (below : List Frame) (meth : Method) (c : Code) (D : va_G) (t : gT) (ad : Nat → Nat) (b cells slots : Nat) (G : gG) (pc i : Nat) (st : List Value) : Prop := V p l e room_1 s m #[Value.ref b] below meth c (lwA s) D t ad cells slots 3 (lw_Z below #[Value.ref b] s) G pc [some (.ref b), some (.ref (ad 70)), some (.int (nI i))] st
def noA : Nat → Prop := fun _ => False
theorem X_moved {b L : Nat} {xs : Nat → Int32} {s U : State} {H H1 : Heap} (h : va_X b L xs s H) (hvm : s.vm.Alike U.vm) (hH : H1[b]? = H[b]?) : va_X b L xs U H1 := by
  obtain ⟨scr, h1, h2, h3, h4, h5⟩ := h
  exact ⟨scr, by rw [hH]; exact h1, State.isArrayOf_alike hvm h2, h3, h4, h5⟩
/-- a number of the script, or one made of its place -/
theorem c_L_cell (l : Launch) {b L k : Nat} {xs : Nat → Int32} (hk : k < 2147483648) : Met l yL_cell (wM yL_cell cL_cell 2 (some .int)) (rM 0 0) (va_Pc [.ref b, .int (nI k)] (fun U => va_X b L xs U U.heap ∧ b < U.heap.size ∧ L ≤ 260)) (va_Qi (fun (_ : Int32) (_ : Unit) => True) (fun _ _ => True) noA) 0 0 noA := by
  refine Met.ofW (cc := cL_cell) (maxL := 2) (ret := some .int) (by decide +kernel) rfl ?_
  intro p e s m args below meth c s₁ B hml hv
  obtain ⟨rfl, hX, hbl, hL⟩ := hv
  have hts0 : ∀ w ∈ wM yL_cell cL_cell 2 (some .int), w.before ([.ref b, .int (nI k)] : List Value).toArray s = true := atoms_spec (ws := wM yL_cell cL_cell 2 (some .int)) B.pre
  have hts : ∀ w ∈ gtbl, w.before ([.ref b, .int (nI k)] : List Value).toArray s = true := fun w hw => hts0 w (List.mem_cons_of_mem _ hw)
  have hown : s.vm.findClass RL = some m.cls := findClass_of_methodNamed B.named
  have hx := B.exec
  have hb := B.bytes
  have hr := B.returns
  have hlocks := B.notSynchronized
  have hS : va_S noA s.heap s.heap [] := va_S.rf
  have hl := lv_entry ([.ref b, .int (nI k)]) (n := 2) (Nat.le_of_ble_eq_true rfl)
  rw [lg_entry_eq]
  generalize (lg_sl ([.ref b, .int (nI k)]) ++ List.replicate (2 - (lg_sl ([.ref b, .int (nI k)])).length) Slot.unset).toArray = ls at hl ⊢
  have hl : lv_has ls 2 [(0, .ref b), (1, .int (nI k))] := hl
  refine lv_iload_n hx hb dL_cell_0 rfl (lv_at hl 1 rfl) ?_
  refine lv_aload_n hx hb dL_cell_1 rfl (lv_at hl 0 rfl) ?_
  refine va_slen hx hb hX hbl id hS dL_cell_2 ?_
  refine lv_icmp_ge (tgt := 12) hx hb dL_cell_3 (by decide) (fun hz => ?_) (fun hz => ?_)
  · refine lv_ldc hx hb hown (hts _ k240) dL_cell_12 ?_
    refine lv_iload_n hx hb dL_cell_14 rfl (lv_at hl 1 rfl) ?_
    refine lv_iconst (v := 5) hx hb dL_cell_15 (by decide) ?_
    refine lv_iadd hx hb dL_cell_16 ?_
    refine lv_imul hx hb dL_cell_17 ?_
    refine lv_ldc hx hb hown (hts _ k241) dL_cell_18 ?_
    refine lv_iadd hx hb dL_cell_20 ?_
    exact W.iret hx hb hr (fun t ht hW => ⟨⟨_, (), rfl, trivial, trivial⟩, hS.F ht⟩) hS.2.2 dL_cell_21 hlocks
  · have hkL : k < L := by
      rcases Nat.lt_or_ge k L with q | q
      · exact q
      · exact absurd (show nI L ≤ nI k from nI_le q (by omega)) hz
    refine lv_aload_n hx hb dL_cell_6 rfl (lv_at hl 0 rfl) ?_
    refine lv_iload_n hx hb dL_cell_7 rfl (lv_at hl 1 rfl) ?_
    refine va_sld hx hb hX hbl id hS (nI_in hkL (by omega)) dL_cell_8 ?_
    refine lv_goto (tgt := 21) hx hb dL_cell_9 (by decide) ?_
    exact W.iret hx hb hr (fun t ht hW => ⟨⟨_, (), rfl, trivial, trivial⟩, hS.F ht⟩) hS.2.2 dL_cell_21 hlocks
theorem cell_blind {b L k : Nat} {xs : Nat → Int32} : FrameBlind (va_Pc [.ref b, .int (nI k)] (fun U => va_X b L xs U U.heap ∧ b < U.heap.size ∧ L ≤ 260)) := by
  intro a U g mk h
  obtain ⟨h0, h1, h2, h3⟩ := h
  exact ⟨h0, X_moved (U := U.calling g mk a) h1 (Vm.Alike.refl U.vm) rfl, h2, h3⟩
theorem yo_L_cell : yOk yL_cell 2 := ⟨by decide, by decide, by decide +kernel⟩
theorem v_cell {p : Program} {l : Launch} {e : Env} {s : State} {m : MethodId} {below : List Frame} {meth : Method} {c : Code} {D : va_G} {t : gT} {ad : Nat → Nat} {b L : Nat} {xs : Nat → Int32} {cells slots : Nat} (C : lwC p s m meth c D t ad b) (hX : va_X b L xs s s.heap) (hbl : b < s.heap.size) (hL : L ≤ 260) (hcs : cells ≤ 600000 ∧ slots ≤ 7302249) {k pc i : Nat} (hk : k < 2147483648) {G : gG} {st : List Value} (hcat : (st.map fun v => v.category).sum ≤ 8) (d : decode code pc = .ok (.invokestatic 119, 3)) (kk : ∀ r, lwV p l e s m below meth c D t ad b cells slots G (pc + 3) i (.int r :: st)) : lwV p l e s m below meth c D t ad b cells slots G pc i (.int (nI k) :: .ref b :: st) := by
  intro H locs ls hP hS hl
  have hts := (gc_x C).1
  refine va_calli (va_runS (As := [.ref b, .int (nI k)]) (rest := st) ⟨C.1, C.2.1, C.2.2.1, C.2.2.2.1, hts⟩ (c_L_cell l hk) ⟨callB_of 2 hts (gd_c k239) rfl rfl rfl (hts _ k0) (hts _ k237) yo_L_cell ⟨Nat.le_of_ble_eq_true rfl, Nat.le_of_ble_eq_true rfl⟩, hts _ k238⟩ ⟨cell_blind (L := L) (xs := xs), fun U hU hW => ⟨rfl, X_moved hX hW.alike (by rw [hU]; exact hS.2.1 b hbl (Nat.not_le.mpr hbl)), by rw [hU]; exact Nat.lt_of_lt_of_le hbl hS.1, hL⟩⟩ rfl rfl hl.1 rfl (lv_room hcat) d ⟨hcs.1, hcs.2⟩) hS (fun q _ h => h.elim) (fun q h => h.elim) (fun r u t' H1 locs1 ht hvm hw hB hz1 hk1 hS1 => ?_)
  exact kk r H1 locs1 ls (hP.kept (fun k y hy => hk1 y.1 (hP k y hy).lt id)) hS1 hl
