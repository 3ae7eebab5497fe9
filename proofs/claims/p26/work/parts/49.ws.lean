-- the law, from its entry
theorem in_t {w : Cond} (i : Nat) (h : tables_1[i]? = some w) : w ∈ lw_tbl := List.mem_append_right _ (List.mem_of_getElem? h)
set_option maxHeartbeats 8000000 in
set_option maxRecDepth 100000 in
theorem whole_start {p : Program} {e : Env} {s : State} {m : MethodId} {below : List Frame} {meth : Method} {c : Code} (l : Launch) (hflags : l.flags = flags0) {b L : Nat} {xs : Nat → Int32} (hL : L ≤ 260) (C0 : lw_At p s m meth c b L xs) : W p l e room_1 s m #[Value.ref b] below meth c s.heap [] 0 0 (lw_Z below #[Value.ref b] s) (entryFrame m ([Value.ref b] : List Value).toArray 3) := by
  obtain ⟨hx, hb, hr, hml, hown, htsL, hX, hbl, hlocks, hgv⟩ := id C0
  have hts : ∀ w ∈ gtbl, w.before #[Value.ref b] s = true := fun w hw => htsL w (List.mem_filter.mp hw).1
  have n1 : (Cond.methodLinkNest "BlinkMesh" 9 yX1_init "BlinkMesh").before #[Value.ref b] s = true := htsL _ (in_t 18 (by decide +kernel))
  have n2 : (Cond.fieldLinkNest "BlinkMesh$Mesh" 33 "BlinkMesh" "FIRST_SETTING" "[I" "BlinkMesh").before #[Value.ref b] s = true := htsL _ (in_t 22 (by decide +kernel))
  have n3 : (Cond.castable "[I" "java/lang/Cloneable").before #[Value.ref b] s = true := htsL _ (in_t 29 (by decide +kernel))
  have n4 : (Cond.methodLinkNest "BlinkMesh$History" 17 yX1_init "BlinkMesh").before #[Value.ref b] s = true := htsL _ (in_t 86 (by decide +kernel))
  have n5 : (Cond.methodLinkNest "BlinkMesh" 35 yX2_init "BlinkMesh").before #[Value.ref b] s = true := htsL _ (in_t 96 (by decide +kernel))
  have n6 : (Cond.methodLinkNest "BlinkMesh$Mesh" 72 yX3_holds "BlinkMesh").before #[Value.ref b] s = true := htsL _ (in_t 154 (by decide +kernel))
  have n8 : (Cond.arrayOver (.object "BlinkMesh$Mesh")).before #[Value.ref b] s = true := htsL _ (in_t 85 (by decide +kernel))
  have hN : gN s := ⟨n1, n2, n3, n4, n5, n6⟩
  have hO : va_AO "BlinkMesh$Mesh" s := va_AO.of n8
  obtain ⟨t, ht⟩ := t_start hts hO
  obtain ⟨c0, i0, hKn0⟩ := u_known (C := RX0) (T := TX0) (N := 2) (n := 2) hts hin0 (hts _ k79)
  obtain ⟨c1, i1, hKn1⟩ := u_known (C := RX1) (T := TX1) (N := 15) (n := 15) hts hin1 (hts _ k17)
  obtain ⟨c2, i2, hKn2⟩ := u_known (C := RX2) (T := TX2) (N := 7) (n := 7) hts hin2 (hts _ k95)
  obtain ⟨c3, i3, hKn3⟩ := u_known (C := RX3) (T := TX3) (N := 6) (n := 6) hts hin3 (hts _ k9)
  obtain ⟨dC, dI, hKc⟩ : ∃ (dC : Nat → ClassId) (dI : Nat → Nat → Nat), ∀ (k : Nat) (q : vw_C), vwCl[k]? = some q → u_Kn s q.1 q.2.1 q.2.2 (dC k) (dI k) := by
    refine ⟨fun k => if k = 0 then c0 else if k = 1 then c1 else if k = 2 then c2 else c3, fun k => if k = 0 then i0 else if k = 1 then i1 else if k = 2 then i2 else i3, ?_⟩
    intro k q hq
    match k, hq with
    | 0, hq => cases hq; exact hKn0
    | 1, hq => cases hq; exact hKn1
    | 2, hq => cases hq; exact hKn2
    | 3, hq => cases hq; exact hKn3
    | k + 4, hq => simp at hq
  have hA : ∀ q : Nat, s.heap.size ≤ q → lwA s q := fun _ h => h
  have hA' : ∀ a : Nat, a < s.heap.size → ¬ lwA s a := fun a h => Nat.not_le.mpr h
  have hfl := flat_of_before _ hgv
  obtain ⟨fs, zfs, tfs, efs⟩ := st_T (nm := "FIRST_SETTING") (f := fstT) (htsL _ (in_t 23 (by decide +kernel))) (hts _ k1) (hfl _ (by decide +kernel)) (hfl _ (by decide +kernel)) (hfl _ (by decide +kernel)) (hfl _ (by decide +kernel)) (hfl _ (by decide +kernel)) hA'
  obtain ⟨ls, zls, tls, els⟩ := st_T (nm := "LEAST_SETTING") (f := lstT) (htsL _ (in_t 460 (by decide +kernel))) (hts _ k1) (hfl _ (by decide +kernel)) (hfl _ (by decide +kernel)) (hfl _ (by decide +kernel)) (hfl _ (by decide +kernel)) (hfl _ (by decide +kernel)) hA'
  obtain ⟨gs, zgs, tgs, egs⟩ := st_T (nm := "GREATEST_SETTING") (f := grtT) (htsL _ (in_t 462 (by decide +kernel))) (hts _ k1) (hfl _ (by decide +kernel)) (hfl _ (by decide +kernel)) (hfl _ (by decide +kernel)) (hfl _ (by decide +kernel)) (hfl _ (by decide +kernel)) hA'
  have hK : va_K (dC, dI) vwCl (tys t) s := ⟨hKc, ht⟩
  have hF : gF t fs (lwA s) s s.heap := ⟨zfs, f_T (va_nm_int (hK.2 0 _ rfl).2) (hfl _ (by decide +kernel)) (hfl _ (by decide +kernel)) efs tfs⟩
  have hS : va_S (lwA s) s.heap s.heap [] := va_S.rf
  have hP : va_P (dC, dI) vwCl [] s.heap := fun k q h => by simp at h
  have hD : va_D (lwA s) [] := ⟨fun i j p q h => by simp at h, fun k q h => by simp at h⟩
  have hl := lv_entry ([.ref b]) (n := 3) (Nat.le_of_ble_eq_true rfl)
  rw [lg_entry_eq]
  generalize (lg_sl ([.ref b]) ++ List.replicate (3 - (lg_sl ([.ref b])).length) Slot.unset).toArray = ls' at hl ⊢
  have hl : lv_has ls' 3 [(0, .ref b)] := hl
  refine va_new (ci := 3) (fs := [.null, .null, .null, .int 0, .null, .null]) (C := RX3) (T := TX3) (N := 6) hx hb hts hin3 tyX3 tyX3_ok hown (hts _ k8) (hts _ k9) (hts _ k1) hK hP hD hS hA rfl (by decide +kernel) (Nat.le_of_ble_eq_true rfl) (Nat.le_of_ble_eq_true rfl) dL_law_0 (fun h0 H hP hD hS => ?_)
  have hP : va_P (dC, dI) vwCl [(h0, .inr (3, [.null, .null, .null, .int 0, .null, .null]))] H := hP
  have hD : va_D (lwA s) [(h0, .inr (3, [.null, .null, .null, .int 0, .null, .null]))] := hD
  refine W.widen (k := 1) (n := 6) (Nat.le_of_ble_eq_true rfl) (Nat.le_of_ble_eq_true rfl) ?_
  refine lv_dup hx hb dL_law_3 rfl ?_
  have hPc := hP.sub (ws' := [(h0, .inr (3, [.null, .null, .null, .int 0, .null, .null]))]) [0] rfl
  have hDc := hD.sub (ws' := [(h0, .inr (3, [.null, .null, .null, .int 0, .null, .null]))]) [0] (by decide) rfl
  have hFc := va_free (wc := [(h0, .inr (3, [.null, .null, .null, .int 0, .null, .null]))]) hD hS hA [0] rfl
  refine va_callv (va_runI (As := []) (rest := [.ref h0]) ⟨hx, hb, hml, hown, hts⟩ (c_X3_init l (dC, dI) t h0 H.size fs) (cwI 0 hts (gd_c k12) rfl rfl rfl (hts _ k1) (hts _ k10) (hts _ k11) rfl (by decide +kernel) ⟨Nat.le_of_ble_eq_true rfl, Nat.le_of_ble_eq_true rfl⟩) ⟨fun a U g mk q => by obtain ⟨q0, q1, qP, qK, qD, qN, qO, qF⟩ := q; exact ⟨q0, q1, qP, va_K.moved (u := U) (U := U.calling g mk a) (Vm.Alike.refl U.vm) qK, qD, gN.same (s := U) (U := U.calling g mk a) rfl qN, va_AO.moved (u := U) (U := U.calling g mk a) (Vm.Alike.refl U.vm) qO, qF.to (U := U.calling g mk a) (Vm.Alike.refl U.vm) (fun _ _ _ => rfl) (fun _ h => h)⟩, fun U hU hW => ⟨rfl, by rw [hU], by rw [hU]; exact hPc, va_K.moved hW.alike hK, hDc.weaken (fun _ _ _ _ => trivial), hN.warm hW, hO.moved hW.alike, hF.to hW.alike (fun a h1 h2 => by rw [hU]; exact hS.2.1 a h1 h2) hFc⟩⟩ rfl rfl hl.1 rfl (lv_room (Nat.le_of_ble_eq_true rfl)) dL_law_4 ⟨Nat.le_of_ble_eq_true rfl, Nat.le_of_ble_eq_true rfl⟩) hS (fun q _ h => hFc q h) hFc (fun q tt H1 locs ht1 hvm _ hB hz1 hk1 hS => ?_)
  obtain ⟨hP1, hD1⟩ := hB
  rw [ht1] at hP1
  obtain ⟨hP, hD⟩ := va_join (wr := []) (w1 := wX3 t h0 q) hP hD [0] [] rfl rfl (by decide) (by decide) hk1 hFc hP1 hD1
  generalize H1 = H at hP hS ⊢
  have hP : va_P (dC, dI) vwCl (wX3 t h0 q) H := hP
  have hD : va_D (lwA s) (wX3 t h0 q) := hD
  refine W.widen (k := 71) (n := 1037) (Nat.le_of_ble_eq_true rfl) (Nat.le_of_ble_eq_true rfl) ?_
  refine lv_astore_n (lv' := [(1, .ref h0), (0, .ref b)]) hx hb dL_law_7 rfl hl (by decide) rfl (fun ls' hl => ?_)
  obtain ⟨hI, hAd⟩ := g_apart (ls := ls) (gs := gs) hD
  have C : lwC p s m meth c (dC, dI) t (adL h0 ls gs q) b := ⟨hx, hb, hml, hown, hts, hK, hI, hAd, ⟨zls, tls, zgs, tgs⟩, hN, hr, hlocks⟩
  have key := lw_first (below := below) (l := l) (e := e) (cells := 71) (slots := 1037) C hI hX hbl hL ⟨Nat.le_of_ble_eq_true rfl, Nat.le_of_ble_eq_true rfl⟩
  refine key H _ ls' (g_start hP) hS ⟨hl.1, hl.2.1, fun i v hv => ?_⟩
  match i, hv with
  | 0, hv => cases hv; exact ⟨lv_at hl 1 rfl, Or.inl rfl⟩
  | 1, hv => cases hv; exact ⟨lv_at hl 0 rfl, Or.inl rfl⟩
  | 2, hv => simp at hv
  | i + 3, hv => simp at hv
