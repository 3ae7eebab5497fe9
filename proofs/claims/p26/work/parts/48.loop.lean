-- the law: behind the making, the loop, the end
theorem two_nI : ∀ i : Nat, i < 30 → (2 : Int32) * nI i = nI (2 * i) := by decide
theorem sBl_none {a : AM} (h : ∀ i, aO a i = false) : ∀ k, sBl a k = none
  | 0 => rfl
  | k + 1 => by
    have hc : cB a (k / 16) (k % 16) = false := by
      unfold cB; rw [h]; simp
    rw [sBl_f hc]; exact sBl_none h k
abbrev leT : Nat.ble 0 0 = true := rfl
section LW
variable {p : Program} {l : Launch} {e : Env} {s : State} {m : MethodId} {below : List Frame} {meth : Method} {c : Code} {D : va_G} {t : gT} {ad : Nat → Nat} {b L : Nat} {xs : Nat → Int32} {cells slots : Nat}
set_option maxHeartbeats 4000000 in
theorem lw_end (C : lwC p s m meth c D t ad b) (hI : gI ad) (hcs : cells ≤ 600000 ∧ slots ≤ 7302249) {G : gG} {a : AM} {n i : Nat} (S : SC G a []) (hv : inv n a) (hn : n ≤ 50000) : lwV p l e s m below meth c D t ad b cells slots G 91 i [] := by
  obtain ⟨G1, e1, S1⟩ := L_nextSo S hv hn
  obtain ⟨G2, e2, S2⟩ := L_togetherSo S1 hv hn
  refine v_aloadn C dL_law_91 rfl ?_
  refine v_callS (nP := 1) C (c_L_nextSo l D t ad hI e1) k352 k350 k351 k0 yo_L_nextSo ⟨Nat.le_of_ble_eq_true rfl, Nat.le_of_ble_eq_true rfl, rfl, rfl, hcs.1, hcs.2⟩ rfl rfl (Nat.le_of_ble_eq_true rfl) dL_law_92 ?_
  refine v_if_eq C 109 dL_law_95 (by decide) (fun hc => absurd hc n10) (fun _ => ?_)
  refine v_aloadn C dL_law_98 rfl ?_
  refine v_callS (nP := 1) C (c_L_togetherSo l D t ad hI e2) k385 k383 k384 k0 yo_L_togetherSo ⟨Nat.le_of_ble_eq_true rfl, Nat.le_of_ble_eq_true rfl, rfl, rfl, hcs.1, hcs.2⟩ rfl rfl (Nat.le_of_ble_eq_true rfl) dL_law_99 ?_
  refine v_if_eq C 109 dL_law_102 (by decide) (fun hc => absurd hc n10) (fun _ => ?_)
  refine v_iconst C dL_law_105 (v := 1) (by decide) ?_
  refine v_goto C 110 dL_law_106 (by decide) ?_
  intro H locs ls hP hS hl
  refine va_forget (fun q hq => hS.2.2 q hq) (W.widen (k := 600000) (n := 7302249) hcs.1 hcs.2 ?_)
  exact lw_ret C.1 C.2.1 (gc_x C).2.2.2.2.2.1 (gc_x C).2.2.2.2.2.2 dL_law_110
set_option maxHeartbeats 4000000 in
theorem lw_body (C : lwC p s m meth c D t ad b) (hI : gI ad) (hX : va_X b L xs s s.heap) (hbl : b < s.heap.size) (hL : L ≤ 260) (hcs : cells ≤ 600000 ∧ slots ≤ 7302249) {G : gG} {a : AM} {i : Nat} (hi : i ≤ 30) (S : SC G a []) (hv : inv (450 * i) a) (next : i < 30 → ∀ G' a', SC G' a' [] → inv (450 * (i + 1)) a' → lwV p l e s m below meth c D t ad b cells slots G' 38 (i + 1) []) : lwV p l e s m below meth c D t ad b cells slots G 38 i [] := by
  refine v_iloadn C dL_law_38 rfl ?_
  refine v_bipush C dL_law_39 (v := 30) (by decide) ?_
  have e30 : (30 : Int32) = nI 30 := rfl
  refine v_ic_ge C 91 dL_law_41 (by decide) (fun hge => ?_) (fun hlt => ?_)
  · exact lw_end C hI hcs S hv (by omega)
  · have hi2 : i < 30 := by
      rw [e30, nI_leI (by omega) (by omega)] at hlt
      omega
    -- behind both numbers
    have J61 : ∀ v : Int32, lwV p l e s m below meth c D t ad b cells slots G 61 i [.int v, .ref (ad 70)] := by
      intro v
      refine v_aloadn C dL_law_61 rfl ?_
      refine v_iconst C dL_law_62 (v := 2) (by decide) ?_
      refine v_iloadn C dL_law_63 rfl ?_
      refine v_imul C dL_law_64 ?_
      refine v_iconst C dL_law_65 (v := 1) (by decide) ?_
      refine v_iadd C dL_law_66 ?_
      rw [two_nI i hi2, nI_1]
      refine v_cell C hX hbl hL hcs (by omega) (Nat.le_of_ble_eq_true rfl) dL_law_67 (fun w => ?_)
      obtain ⟨G1, a1, e1, S1, v1⟩ := L_act S hv (by omega) v w
      obtain ⟨G2, e2, S2⟩ := L_holds S1 v1 (by omega)
      refine v_callS (nP := 3) C (c_L_act l D t ad hI e1) k388 k386 k387 k0 yo_L_act ⟨Nat.le_of_ble_eq_true rfl, Nat.le_of_ble_eq_true rfl, rfl, rfl, hcs.1, hcs.2⟩ rfl rfl (Nat.le_of_ble_eq_true rfl) dL_law_70 ?_
      refine v_if_eq C 83 dL_law_73 (by decide) (fun hc => absurd hc n10) (fun _ => ?_)
      refine v_aloadn C dL_law_76 rfl ?_
      refine v_callS (nP := 1) C (c_L_holds l D t ad hI e2) k244 k242 k243 k0 yo_L_holds ⟨Nat.le_of_ble_eq_true rfl, Nat.le_of_ble_eq_true rfl, rfl, rfl, hcs.1, hcs.2⟩ rfl rfl (Nat.le_of_ble_eq_true rfl) dL_law_77 ?_
      refine v_if_ne C 85 dL_law_80 (by decide) (fun _ => ?_) (fun hc => absurd hc n10)
      refine v_iinc C (k := 2) dL_law_85 rfl (v := 1) (by decide) (by decide) ?_
      rw [nI_1]
      refine v_goto C 38 dL_law_88 (by decide) ?_
      exact next hi2 G2 a1 S2 v1
    refine v_aloadn C dL_law_44 rfl ?_
    refine v_iloadn C dL_law_45 rfl ?_
    refine v_iconst C dL_law_46 (v := 4) (by decide) ?_
    refine v_ic_ge C 54 dL_law_47 (by decide) (fun _ => ?_) (fun _ => ?_)
    · refine v_aloadn C dL_law_54 rfl ?_
      refine v_iconst C dL_law_55 (v := 2) (by decide) ?_
      refine v_iloadn C dL_law_56 rfl ?_
      refine v_imul C dL_law_57 ?_
      rw [two_nI i hi2]
      exact v_cell C hX hbl hL hcs (by omega) (Nat.le_of_ble_eq_true rfl) dL_law_58 (fun v => J61 v)
    · refine v_iconst C dL_law_50 (v := 0) (by decide) ?_
      refine v_goto C 61 dL_law_51 (by decide) ?_
      exact J61 0
theorem lw_loop (C : lwC p s m meth c D t ad b) (hI : gI ad) (hX : va_X b L xs s s.heap) (hbl : b < s.heap.size) (hL : L ≤ 260) (hcs : cells ≤ 600000 ∧ slots ≤ 7302249) : ∀ (n i : Nat), i + n = 30 → ∀ (G : gG) (a : AM), SC G a [] → inv (450 * i) a → lwV p l e s m below meth c D t ad b cells slots G 38 i [] := by
  intro n
  induction n with
  | zero =>
    intro i h G a S hv
    exact lw_body C hI hX hbl hL hcs (by omega) S hv (fun hlt => absurd hlt (by omega))
  | succ n ih =>
    intro i h G a S hv
    exact lw_body C hI hX hbl hL hcs (by omega) S hv (fun _ G' a' S' v' => ih (i + 1) (by omega) G' a' S' v')
set_option maxHeartbeats 4000000 in
theorem lw_first (C : lwC p s m meth c D t ad b) (hI : gI ad) (hX : va_X b L xs s s.heap) (hbl : b < s.heap.size) (hL : L ≤ 260) (hcs : cells ≤ 600000 ∧ slots ≤ 7302249) : V p l e room_1 s m #[Value.ref b] below meth c (lwA s) D t ad cells slots 3 (lw_Z below #[Value.ref b] s) G00 8 [some (.ref b), some (.ref (ad 70)), none] [] := by
  obtain ⟨G1, e1, S1⟩ := L_holds SC0 inv0 (by omega)
  have hh := qc_hub_none S1 (fun _ _ => rfl)
  obtain ⟨x2, x3, x4, hrep, hb⟩ := qc_best S1
  obtain ⟨G2, e2, S2⟩ := (hb G1 S1).1
  have hx2 : x2 = -5 := by
    rcases hrep with ⟨_, h, _⟩ | ⟨b, s, h, _⟩
    · exact h
    · rw [sBl_none (fun _ => rfl) 256] at h; cases h
  rw [hx2] at e2
  refine v_aloadn C dL_law_8 rfl ?_
  refine v_callS (nP := 1) C (c_L_holds l D t ad hI e1) k244 k242 k243 k0 yo_L_holds ⟨Nat.le_of_ble_eq_true rfl, Nat.le_of_ble_eq_true rfl, rfl, rfl, hcs.1, hcs.2⟩ rfl rfl (Nat.le_of_ble_eq_true rfl) dL_law_9 ?_
  refine v_if_eq C 34 dL_law_12 (by decide) (fun hc => absurd hc n10) (fun _ => ?_)
  refine v_aloadn C dL_law_15 rfl ?_
  refine v_callI (nP := 0) (k := 70) C (by decide) rfl rfl (c_X3_hub l D t ad hI hh) k143 k140 k141 k142 k1 yo_X3_hub ⟨Nat.le_of_ble_eq_true rfl, Nat.le_of_ble_eq_true rfl, rfl, rfl, hcs.1, hcs.2⟩ rfl rfl (Nat.le_of_ble_eq_true rfl) dL_law_16 ?_
  refine v_bipush C dL_law_19 (v := -5) (by decide) ?_
  refine v_ic_ne C 34 dL_law_21 (by decide) (fun hc => absurd rfl hc) (fun _ => ?_)
  refine v_aloadn C dL_law_24 rfl ?_
  refine v_iconst C dL_law_25 (v := 0) (by decide) ?_
  refine v_callI (nP := 1) (k := 70) C (by decide) rfl rfl (c_X3_bestLink l D t ad hI e2) k160 k157 k158 k159 k1 yo_X3_bestLink ⟨Nat.le_of_ble_eq_true rfl, Nat.le_of_ble_eq_true rfl, rfl, rfl, hcs.1, hcs.2⟩ rfl rfl (Nat.le_of_ble_eq_true rfl) dL_law_26 ?_
  refine v_bipush C dL_law_29 (v := -5) (by decide) ?_
  refine v_ic_eq C 36 dL_law_31 (by decide) (fun _ => ?_) (fun hc => absurd rfl hc)
  refine v_iconst C dL_law_36 (v := 0) (by decide) ?_
  refine v_istoren C dL_law_37 (by decide) ?_
  exact lw_loop C hI hX hbl hL hcs 30 0 rfl G2 a00 S2 inv0
end LW
