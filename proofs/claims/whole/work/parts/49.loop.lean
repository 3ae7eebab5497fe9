-- the loop of the law
theorem and31 (x : Int32) : ∃ j, j < 32 ∧ x &&& 31 = nI j := by
  refine ⟨(x &&& 31).toBitVec.toNat, ?_, ?_⟩
  · have e : (x &&& 31).toBitVec = x.toBitVec &&& 31#32 := rfl
    rw [e, BitVec.toNat_and]
    exact Nat.and_lt_two_pow _ (n := 5) (by decide)
  · apply Int32.toBitVec_inj.mp
    rw [nI_bv, BitVec.ofNat_toNat, BitVec.setWidth_eq]
set_option maxHeartbeats 4000000 in
theorem lw_body {p : Program} {l : Launch} {e : Env} {s : State} {m : MethodId} {below : List Frame} {meth : Method} {c : Code} {D : va_G} {t : gT} {ad : Nat → Nat} {b L : Nat} {xs : Nat → Int32} {cells slots : Nat} (C : lwC p s m meth c D t ad b) (hI : gI ad) (hX : va_X b L xs s s.heap) (hbl : b < s.heap.size) (hL : L ≤ 2048) (hcs : cells ≤ 600000 ∧ slots ≤ 7302250) (i : Nat) (h2 : i ≤ L + 4) (G : gG) (hG : SM G) (next : i + 4 ≤ L → ∀ G', SM G' → lwV p l e s m below meth c D t ad b cells slots G' 18 (i + 4) []) : lwV p l e s m below meth c D t ad b cells slots G 18 i [] := by
  refine v_iloadn C dL_18 rfl ?_
  refine v_aloadn C dL_19 rfl ?_
  refine v_slen C hX hbl dL_20 ?_
  refine v_iconst C dL_21 (v := 4) (by decide) ?_
  refine v_isub C dL_22 ?_
  have e4 : (4 : Int32).toInt = 4 := by decide
  have eL : (nI L - 4).toInt = (L : Int) - 4 := by rw [I_sub (by rw [nI_toInt (by omega)]; omega) (by rw [nI_toInt (by omega)]; omega), nI_toInt (by omega), e4]
  refine v_ic_gt C 719 dL_23 (by decide) (fun hgt => ?_) (fun hle => ?_)
  · refine v_iconst C dL_719 (v := 1) (by decide) ?_
    intro H locs ls hP hS hl
    refine va_forget (fun q hq => hS.2.2 q hq) (W.widen (k := 600000) (n := 7302250) hcs.1 hcs.2 ?_)
    exact lw_ret C.1 C.2.1 (gc_x C).2.2.2.2.2.1 (gc_x C).2.2.2.2.2.2 dL_720
  · have hi : i + 4 ≤ L := by
      rw [I_lt, eL, nI_toInt (by omega)] at hle
      omega
    refine v_aloadn C dL_26 rfl ?_
    refine v_iloadn C dL_27 rfl ?_
    refine v_sldk C hX hbl (k := i) (by omega) hL rfl dL_28 ?_
    refine v_bipush C dL_29 (v := 31) (by decide) ?_
    refine v_iand C dL_31 ?_
    have kk : ∀ G', SM G' → lwV p l e s m below meth c D t ad b cells slots G' 713 i [] := by
      intro G' hG'
      refine v_iinc C (k := 3) dL_713 rfl (v := 4) (by decide) (by decide) ?_
      rw [show nI i + 4 = nI (i + 4) from nI_add i 4]
      refine v_goto C 18 dL_716 (by decide) ?_
      exact next hi G' hG'
    obtain ⟨j, hj, ej⟩ := and31 (xs i)
    rw [ej]
    rcases (show j = 0 ∨ j = 1 ∨ j = 2 ∨ j = 3 ∨ j = 4 ∨ j = 5 ∨ j = 6 ∨ j = 7 ∨ j = 8 ∨ j = 9 ∨ j = 10 ∨ j = 11 ∨ j = 12 ∨ j = 13 ∨ j = 14 ∨ j = 15 ∨ j = 16 ∨ j = 17 ∨ j = 18 ∨ j = 19 ∨ j = 20 ∨ j = 21 ∨ j = 22 ∨ 23 ≤ j by omega) with rfl | rfl | rfl | rfl | rfl | rfl | rfl | rfl | rfl | rfl | rfl | rfl | rfl | rfl | rfl | rfl | rfl | rfl | rfl | rfl | rfl | rfl | rfl | h23
    · refine v_tabIn (off := 108) C 140 dL_32 (by decide) (by decide) rfl (by decide) ?_
      exact lc_come C hI hX hbl hL hcs hi hG kk
    · refine v_tabIn (off := 141) C 173 dL_32 (by decide) (by decide) rfl (by decide) ?_
      exact lc_goAway C hI hX hbl hL hcs hi hG kk
    · refine v_tabIn (off := 164) C 196 dL_32 (by decide) (by decide) rfl (by decide) ?_
      exact lc_turn C hI hX hbl hL hcs hi hG kk
    · refine v_tabIn (off := 213) C 245 dL_32 (by decide) (by decide) rfl (by decide) ?_
      exact lc_link C hI hX hbl hL hcs hi hG kk
    · refine v_tabIn (off := 272) C 304 dL_32 (by decide) (by decide) rfl (by decide) ?_
      exact lc_tune C hI hX hbl hL hcs hi hG kk
    · refine v_tabIn (off := 315) C 347 dL_32 (by decide) (by decide) rfl (by decide) ?_
      exact lc_set C hI hX hbl hL hcs hi hG kk
    · refine v_tabIn (off := 348) C 380 dL_32 (by decide) (by decide) rfl (by decide) ?_
      exact lc_pass C hI hX hbl hL hcs hi hG kk
    · refine v_tabIn (off := 371) C 403 dL_32 (by decide) (by decide) rfl (by decide) ?_
      exact lc_type C hI hX hbl hL hcs hi hG kk
    · refine v_tabIn (off := 396) C 428 dL_32 (by decide) (by decide) rfl (by decide) ?_
      exact lc_clearText C hI hX hbl hL hcs hi hG kk
    · refine v_tabIn (off := 409) C 441 dL_32 (by decide) (by decide) rfl (by decide) ?_
      exact lc_readMesh C hI hX hbl hL hcs hi hG kk
    · refine v_tabIn (off := 422) C 454 dL_32 (by decide) (by decide) rfl (by decide) ?_
      exact lc_undo C hI hX hbl hL hcs hi hG kk
    · refine v_tabIn (off := 435) C 467 dL_32 (by decide) (by decide) rfl (by decide) ?_
      exact lc_keep C hI hX hbl hL hcs hi hG kk
    · refine v_tabIn (off := 448) C 480 dL_32 (by decide) (by decide) rfl (by decide) ?_
      exact lc_restore C hI hX hbl hL hcs hi hG kk
    · refine v_tabIn (off := 461) C 493 dL_32 (by decide) (by decide) rfl (by decide) ?_
      exact lc_lamp C hI hX hbl hL hcs hi hG kk
    · refine v_tabIn (off := 494) C 526 dL_32 (by decide) (by decide) rfl (by decide) ?_
      exact lc_apart C hI hX hbl hL hcs hi hG kk
    · refine v_tabIn (off := 527) C 559 dL_32 (by decide) (by decide) rfl (by decide) ?_
      exact lc_next C hI hX hbl hL hcs hi hG kk
    · refine v_tabIn (off := 550) C 582 dL_32 (by decide) (by decide) rfl (by decide) ?_
      exact lc_togetherIn C hI hX hbl hL hcs hi hG kk
    · refine v_tabIn (off := 563) C 595 dL_32 (by decide) (by decide) rfl (by decide) ?_
      exact lc_reason C hI hX hbl hL hcs hi hG kk
    · refine v_tabIn (off := 576) C 608 dL_32 (by decide) (by decide) rfl (by decide) ?_
      exact lc_spread C hI hX hbl hL hcs hi hG kk
    · refine v_tabIn (off := 589) C 621 dL_32 (by decide) (by decide) rfl (by decide) ?_
      exact lc_ifLinked C hI hX hbl hL hcs hi hG kk
    · refine v_tabIn (off := 622) C 654 dL_32 (by decide) (by decide) rfl (by decide) ?_
      exact lc_hub C hI hX hbl hL hcs hi hG kk
    · refine v_tabIn (off := 635) C 667 dL_32 (by decide) (by decide) rfl (by decide) ?_
      exact lc_bestLink C hI hX hbl hL hcs hi hG kk
    · refine v_tabIn (off := 658) C 690 dL_32 (by decide) (by decide) rfl (by decide) ?_
      exact lc_count C hI hX hbl hL hcs hi hG kk
    · refine v_tabOut C 713 dL_32 (Or.inr ?_) (by decide) (kk G hG)
      rw [nI_toInt (by omega)]; omega
set_option maxHeartbeats 4000000 in
theorem lw_loop {p : Program} {l : Launch} {e : Env} {s : State} {m : MethodId} {below : List Frame} {meth : Method} {c : Code} {D : va_G} {t : gT} {ad : Nat → Nat} {b L : Nat} {xs : Nat → Int32} {cells slots : Nat} (C : lwC p s m meth c D t ad b) (hI : gI ad) (hX : va_X b L xs s s.heap) (hbl : b < s.heap.size) (hL : L ≤ 2048) (hcs : cells ≤ 600000 ∧ slots ≤ 7302250) : ∀ (n i : Nat), L < i + n → i ≤ L + 4 → ∀ G, SM G → lwV p l e s m below meth c D t ad b cells slots G 18 i [] := by
  intro n
  induction n with
  | zero =>
    intro i h1 h2 G hG
    exact lw_body C hI hX hbl hL hcs i h2 G hG (fun hlt => absurd hlt (by omega))
  | succ n ih =>
    intro i h1 h2 G hG
    exact lw_body C hI hX hbl hL hcs i h2 G hG (fun hlt G' hG' => ih (i + 4) (by omega) (by omega) G' hG')
