-- the constructor of BlinkMesh$MeshText
abbrev wX2 (t : gT) (h : Nat) (q : Nat → Nat) : va_W := [(h, .inr (2, [.ref (q 0), .int 0, .int 0, .ref (q 1), .ref (q 2), .int 0, .ref (q 3)])), (q 0, .inl (t.2.1, 60, .inl (fun _ => (0 : Int32)))), (q 1, .inl (t.1, 16, .inl (fun _ => (0 : Int32)))), (q 2, .inl (t.1, 16, .inl (fun _ => (0 : Int32)))), (q 3, .inl (t.1, 16, .inl (fun _ => (0 : Int32))))]
set_option maxHeartbeats 4000000 in
set_option maxRecDepth 100000 in
theorem c_X2_init (l : Launch) (D : va_G) (t : gT) (h0 sz fs : Nat) : Met l yX2_init (wM yX2_init cX2_init 1 none) ({ frames := 1, cells := 4, slots := 108, locals := 20 }) (va_Pc [.ref h0] (fun U => U.heap.size = sz ∧ va_P D vwCl [(h0, .inr (2, [.null, .int 0, .int 0, .null, .null, .int 0, .null]))] U.heap ∧ va_K D vwCl (tys t) U ∧ va_D (fun _ => True) [(h0, .inr (2, [.null, .int 0, .int 0, .null, .null, .int 0, .null]))] ∧ gN U ∧ va_AO "BlinkMesh$Mesh" U ∧ gF t fs (va_A [(h0, .inr (2, [.null, .int 0, .int 0, .null, .null, .int 0, .null]))] sz) U U.heap)) (va_Qv (fun _ : Nat → Nat => True) (fun q U => va_P D vwCl (wX2 t h0 q) U.heap ∧ va_D (va_A [(h0, .inr (2, [.null, .int 0, .int 0, .null, .null, .int 0, .null]))] sz) (wX2 t h0 q)) (va_A [(h0, .inr (2, [.null, .int 0, .int 0, .null, .null, .int 0, .null]))] sz)) 4 108 (va_A [(h0, .inr (2, [.null, .int 0, .int 0, .null, .null, .int 0, .null]))] sz) := by
  refine Met.ofW (cc := cX2_init) (maxL := 1) (ret := none) (by decide) rfl ?_
  intro p e s m args below meth c s₁ B hml hv
  obtain ⟨rfl, hsz, hP, hK, hD0, hN, hO, hF⟩ := hv
  have hx := B.exec
  have hb := B.bytes
  have hr := B.returns
  have hts0 := atoms_spec (ws := wM yX2_init cX2_init 1 none) B.pre
  have hts : ∀ w ∈ gtbl, w.before ([.ref h0] : List Value).toArray s = true := fun w hw => hts0 w (List.mem_cons_of_mem _ hw)
  have hown : s.vm.findClass RX2 = some m.cls := findClass_of_methodNamed B.named
  have hlocks := B.notSynchronized
  have hin : meth.name = "<init>" := (name_of_methodNamed B.named B.method).1
  subst hsz
  have hD := hD0.self (sz := s.heap.size)
  generalize hAe : va_A [(h0, .inr (2, [.null, .int 0, .int 0, .null, .null, .int 0, .null]))] s.heap.size = A at hD hF ⊢
  have hA : ∀ q : Nat, s.heap.size ≤ q → A q := fun q h => by rw [← hAe]; exact Or.inr h
  have hS : va_S A s.heap s.heap [] := va_S.rf
  have hP : va_P D vwCl [(h0, .inr (2, [.null, .int 0, .int 0, .null, .null, .int 0, .null]))] s.heap := hP
  have hl := lv_entry ([.ref h0]) (n := 1) (Nat.le_of_ble_eq_true rfl)
  rw [lg_entry_eq]
  generalize (lg_sl ([.ref h0]) ++ List.replicate (1 - (lg_sl ([.ref h0])).length) Slot.unset).toArray = ls at hl ⊢
  have hl : lv_has ls 1 [(0, .ref h0)] := hl
  refine lv_aload_n hx hb dX2_init_0 rfl (lv_at hl 0 rfl) ?_
  refine W.objInit hx hb hown (hts _ k99) (hts _ k14) (hts _ k15) rfl (by rw [hml]; exact hl.1) rfl dX2_init_1 (Nat.le_of_ble_eq_true rfl) (Nat.le_of_ble_eq_true rfl) ?_
  refine W.eq (g2 := F0 m 4 ls []) rfl ?_
  refine lv_aload_n hx hb dX2_init_4 rfl (lv_at hl 0 rfl) ?_
  refine lv_bipush (v := 60) hx hb dX2_init_5 (by decide) ?_
  refine va_newa (atype := .char) (ty := .char) (a0 := (60, .inl (fun _ => (0 : Int32)))) hx hb (hts _ k120) rfl hK hP hD hS hA (fun _ => rfl) (by decide) (by decide) (Nat.le_of_ble_eq_true rfl) (Nat.le_of_ble_eq_true rfl) (Nat.le_of_ble_eq_true rfl) dX2_init_7 (fun a0 cA H hK1 hP hD hS => ?_)
  obtain rfl : cA = t.2.1 := RA_u (hK1.2 3 _ rfl).2 (hK.2 1 _ rfl).2
  have hP : va_P D vwCl [(h0, .inr (2, [.null, .int 0, .int 0, .null, .null, .int 0, .null])), (a0, .inl (t.2.1, 60, .inl (fun _ => (0 : Int32))))] H := hP
  have hD : va_D A [(h0, .inr (2, [.null, .int 0, .int 0, .null, .null, .int 0, .null])), (a0, .inl (t.2.1, 60, .inl (fun _ => (0 : Int32))))] := hD
  refine W.widen (k := 1) (n := 60) (Nat.le_of_ble_eq_true rfl) (Nat.le_of_ble_eq_true rfl) ?_
  refine va_putF (D := D) (ci := 2) (v := .ref (a0)) (ty := .array .char) (C := RX2) (T := TX2) (N := 7) hx hb hts hin2 tyX2 tyX2_ok nmX2 hown hK hP hD hS 0 rfl rfl 0 (by decide) (hts _ k100) (fun _ h => h) rfl hin rfl (by decide +kernel) rfl rfl (Nat.le_of_ble_eq_true rfl) dX2_init_9 (fun H locs hP hD hS => ?_)
  have hP : va_P D vwCl [(h0, .inr (2, [.ref (a0), .int 0, .int 0, .null, .null, .int 0, .null])), (a0, .inl (t.2.1, 60, .inl (fun _ => (0 : Int32))))] H := hP
  have hD : va_D A [(h0, .inr (2, [.ref (a0), .int 0, .int 0, .null, .null, .int 0, .null])), (a0, .inl (t.2.1, 60, .inl (fun _ => (0 : Int32))))] := hD
  refine lv_aload_n hx hb dX2_init_12 rfl (lv_at hl 0 rfl) ?_
  refine lv_bipush (v := 16) hx hb dX2_init_13 (by decide) ?_
  refine va_newa (atype := .int) (ty := .int) (a0 := (16, .inl (fun _ => (0 : Int32)))) hx hb (hts _ k77) rfl hK hP hD hS hA (fun _ => rfl) (by decide) (by decide) (Nat.le_of_ble_eq_true rfl) (Nat.le_of_ble_eq_true rfl) (Nat.le_of_ble_eq_true rfl) dX2_init_15 (fun a1 cA H hK1 hP hD hS => ?_)
  obtain rfl : cA = t.1 := RA_u (hK1.2 3 _ rfl).2 (hK.2 0 _ rfl).2
  have hP : va_P D vwCl [(h0, .inr (2, [.ref (a0), .int 0, .int 0, .null, .null, .int 0, .null])), (a0, .inl (t.2.1, 60, .inl (fun _ => (0 : Int32)))), (a1, .inl (t.1, 16, .inl (fun _ => (0 : Int32))))] H := hP
  have hD : va_D A [(h0, .inr (2, [.ref (a0), .int 0, .int 0, .null, .null, .int 0, .null])), (a0, .inl (t.2.1, 60, .inl (fun _ => (0 : Int32)))), (a1, .inl (t.1, 16, .inl (fun _ => (0 : Int32))))] := hD
  refine W.widen (k := 2) (n := 76) (Nat.le_of_ble_eq_true rfl) (Nat.le_of_ble_eq_true rfl) ?_
  refine va_putF (D := D) (ci := 2) (v := .ref (a1)) (ty := .array .int) (C := RX2) (T := TX2) (N := 7) hx hb hts hin2 tyX2 tyX2_ok nmX2 hown hK hP hD hS 0 rfl rfl 3 (by decide) (hts _ k102) (fun _ h => h) rfl hin rfl (by decide +kernel) rfl rfl (Nat.le_of_ble_eq_true rfl) dX2_init_17 (fun H locs hP hD hS => ?_)
  have hP : va_P D vwCl [(h0, .inr (2, [.ref (a0), .int 0, .int 0, .ref (a1), .null, .int 0, .null])), (a0, .inl (t.2.1, 60, .inl (fun _ => (0 : Int32)))), (a1, .inl (t.1, 16, .inl (fun _ => (0 : Int32))))] H := hP
  have hD : va_D A [(h0, .inr (2, [.ref (a0), .int 0, .int 0, .ref (a1), .null, .int 0, .null])), (a0, .inl (t.2.1, 60, .inl (fun _ => (0 : Int32)))), (a1, .inl (t.1, 16, .inl (fun _ => (0 : Int32))))] := hD
  refine lv_aload_n hx hb dX2_init_20 rfl (lv_at hl 0 rfl) ?_
  refine lv_bipush (v := 16) hx hb dX2_init_21 (by decide) ?_
  refine va_newa (atype := .int) (ty := .int) (a0 := (16, .inl (fun _ => (0 : Int32)))) hx hb (hts _ k77) rfl hK hP hD hS hA (fun _ => rfl) (by decide) (by decide) (Nat.le_of_ble_eq_true rfl) (Nat.le_of_ble_eq_true rfl) (Nat.le_of_ble_eq_true rfl) dX2_init_23 (fun a2 cA H hK1 hP hD hS => ?_)
  obtain rfl : cA = t.1 := RA_u (hK1.2 3 _ rfl).2 (hK.2 0 _ rfl).2
  have hP : va_P D vwCl [(h0, .inr (2, [.ref (a0), .int 0, .int 0, .ref (a1), .null, .int 0, .null])), (a0, .inl (t.2.1, 60, .inl (fun _ => (0 : Int32)))), (a1, .inl (t.1, 16, .inl (fun _ => (0 : Int32)))), (a2, .inl (t.1, 16, .inl (fun _ => (0 : Int32))))] H := hP
  have hD : va_D A [(h0, .inr (2, [.ref (a0), .int 0, .int 0, .ref (a1), .null, .int 0, .null])), (a0, .inl (t.2.1, 60, .inl (fun _ => (0 : Int32)))), (a1, .inl (t.1, 16, .inl (fun _ => (0 : Int32)))), (a2, .inl (t.1, 16, .inl (fun _ => (0 : Int32))))] := hD
  refine W.widen (k := 3) (n := 92) (Nat.le_of_ble_eq_true rfl) (Nat.le_of_ble_eq_true rfl) ?_
  refine va_putF (D := D) (ci := 2) (v := .ref (a2)) (ty := .array .int) (C := RX2) (T := TX2) (N := 7) hx hb hts hin2 tyX2 tyX2_ok nmX2 hown hK hP hD hS 0 rfl rfl 4 (by decide) (hts _ k103) (fun _ h => h) rfl hin rfl (by decide +kernel) rfl rfl (Nat.le_of_ble_eq_true rfl) dX2_init_25 (fun H locs hP hD hS => ?_)
  have hP : va_P D vwCl [(h0, .inr (2, [.ref (a0), .int 0, .int 0, .ref (a1), .ref (a2), .int 0, .null])), (a0, .inl (t.2.1, 60, .inl (fun _ => (0 : Int32)))), (a1, .inl (t.1, 16, .inl (fun _ => (0 : Int32)))), (a2, .inl (t.1, 16, .inl (fun _ => (0 : Int32))))] H := hP
  have hD : va_D A [(h0, .inr (2, [.ref (a0), .int 0, .int 0, .ref (a1), .ref (a2), .int 0, .null])), (a0, .inl (t.2.1, 60, .inl (fun _ => (0 : Int32)))), (a1, .inl (t.1, 16, .inl (fun _ => (0 : Int32)))), (a2, .inl (t.1, 16, .inl (fun _ => (0 : Int32))))] := hD
  refine lv_aload_n hx hb dX2_init_28 rfl (lv_at hl 0 rfl) ?_
  refine lv_bipush (v := 16) hx hb dX2_init_29 (by decide) ?_
  refine va_newa (atype := .int) (ty := .int) (a0 := (16, .inl (fun _ => (0 : Int32)))) hx hb (hts _ k77) rfl hK hP hD hS hA (fun _ => rfl) (by decide) (by decide) (Nat.le_of_ble_eq_true rfl) (Nat.le_of_ble_eq_true rfl) (Nat.le_of_ble_eq_true rfl) dX2_init_31 (fun a3 cA H hK1 hP hD hS => ?_)
  obtain rfl : cA = t.1 := RA_u (hK1.2 3 _ rfl).2 (hK.2 0 _ rfl).2
  have hP : va_P D vwCl [(h0, .inr (2, [.ref (a0), .int 0, .int 0, .ref (a1), .ref (a2), .int 0, .null])), (a0, .inl (t.2.1, 60, .inl (fun _ => (0 : Int32)))), (a1, .inl (t.1, 16, .inl (fun _ => (0 : Int32)))), (a2, .inl (t.1, 16, .inl (fun _ => (0 : Int32)))), (a3, .inl (t.1, 16, .inl (fun _ => (0 : Int32))))] H := hP
  have hD : va_D A [(h0, .inr (2, [.ref (a0), .int 0, .int 0, .ref (a1), .ref (a2), .int 0, .null])), (a0, .inl (t.2.1, 60, .inl (fun _ => (0 : Int32)))), (a1, .inl (t.1, 16, .inl (fun _ => (0 : Int32)))), (a2, .inl (t.1, 16, .inl (fun _ => (0 : Int32)))), (a3, .inl (t.1, 16, .inl (fun _ => (0 : Int32))))] := hD
  refine W.widen (k := 4) (n := 108) (Nat.le_of_ble_eq_true rfl) (Nat.le_of_ble_eq_true rfl) ?_
  refine va_putF (D := D) (ci := 2) (v := .ref (a3)) (ty := .array .int) (C := RX2) (T := TX2) (N := 7) hx hb hts hin2 tyX2 tyX2_ok nmX2 hown hK hP hD hS 0 rfl rfl 6 (by decide) (hts _ k104) (fun _ h => h) rfl hin rfl (by decide +kernel) rfl rfl (Nat.le_of_ble_eq_true rfl) dX2_init_33 (fun H locs hP hD hS => ?_)
  have hP : va_P D vwCl [(h0, .inr (2, [.ref (a0), .int 0, .int 0, .ref (a1), .ref (a2), .int 0, .ref (a3)])), (a0, .inl (t.2.1, 60, .inl (fun _ => (0 : Int32)))), (a1, .inl (t.1, 16, .inl (fun _ => (0 : Int32)))), (a2, .inl (t.1, 16, .inl (fun _ => (0 : Int32)))), (a3, .inl (t.1, 16, .inl (fun _ => (0 : Int32))))] H := hP
  have hD : va_D A [(h0, .inr (2, [.ref (a0), .int 0, .int 0, .ref (a1), .ref (a2), .int 0, .ref (a3)])), (a0, .inl (t.2.1, 60, .inl (fun _ => (0 : Int32)))), (a1, .inl (t.1, 16, .inl (fun _ => (0 : Int32)))), (a2, .inl (t.1, 16, .inl (fun _ => (0 : Int32)))), (a3, .inl (t.1, 16, .inl (fun _ => (0 : Int32))))] := hD
  have hP9 := hP.sub (ws' := wX2 t h0 (fun k => [a0, a1, a2, a3].getD k 0)) [0, 1, 2, 3, 4] rfl
  have hD9 := hD.sub (ws' := wX2 t h0 (fun k => [a0, a1, a2, a3].getD k 0)) [0, 1, 2, 3, 4] (by decide) rfl
  exact W.vret hx hb hr (fun tt ht hW => ⟨⟨(fun k => [a0, a1, a2, a3].getD k 0), rfl, trivial, by rw [ht]; exact hP9, hD9⟩, hS.F ht⟩) hS.2.2 dX2_init_36
