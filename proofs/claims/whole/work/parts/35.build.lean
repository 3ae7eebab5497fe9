-- the mesh that a text tells of, laid by both
theorem X2_build {G : gG} {a : AM} {c : Nat} {ph rt : Nat → Nat} {lk : Nat → Nat → Bool} (hw : wf a) (hc : c ≤ 16) (h5 : G 65 5 = nI c) (a2 : A2 G c ph rt) (l2 : L2 G lk) (wl : WL c lk) (hR : R1 G 0 a) : ∃ G', sh_X2_build 0 G = some G' ∧ R1 G' 0 (sRead a c ph rt lk) ∧ frm G G' 0 := by
  unfold sh_X2_build
  obtain ⟨G1, e1, e2, e3⟩ := X1_clear hR
  rw [e1, obv_s]
  obtain ⟨G2, ⟨f1, f2⟩, f3⟩ := forl c (fun n j s => sh_X2_build_6 0 (fun G => (sh_X2_build_45 0 (fun G => (obv (sh_X1_fitPhases 0 G) fun G10 => some G10)) FU (0 : Int32) G)) n (nI j) s) (fun j s => R1 s 0 (sMS a j ph rt nolk) ∧ frm G s 0) (fun s => (sh_X2_build_45 0 (fun G => (obv (sh_X1_fitPhases 0 G) fun G10 => some G10)) FU (0 : Int32) s)) (by
    intro n s ⟨i1, i2⟩
    show sh_X2_build_6 0 _ (n + 1) (nI c) s = _
    rw [sh_X2_build_6.eq_2, i2 65 (by omega), h5, if_pos (show nI c ≤ nI c from nI_le (Nat.le_refl _) (by omega))]
    split <;> rfl) (by
    intro n j s hj ⟨i1, i2⟩
    obtain ⟨s1, g1, g2, g3⟩ := X1_place (ph := nI (ph j)) (rt := nI (rt j)) i1 (show j < 16 by omega)
    refine ⟨s1, ⟨g2.congr MS_step, i2.trans g3⟩, ?_⟩
    show sh_X2_build_6 0 _ (n + 1) (nI j) s = _
    rw [sh_X2_build_6.eq_2, if_neg (nj16 (by omega)), i2 65 (by omega), h5, if_neg (nI_ge hj (by omega)), if_pos (gin_16 (by omega)), cl16 (by omega), i2 67 (by omega), i2 68 (by omega), (a2 j hj).1, (a2 j hj).2, g1, obv_s, nI_1]) c 0 FU G1 (by omega) (by have := FU_gt; omega) ⟨e2 ph rt, e3⟩
  have f3' : sh_X2_build_6 0 (fun G => (sh_X2_build_45 0 (fun G => (obv (sh_X1_fitPhases 0 G) fun G10 => some G10)) FU (0 : Int32) G)) FU (0 : Int32) G1 = _ := f3
  rw [f3']
  obtain ⟨G3, ⟨j1, j2, j3⟩, j4⟩ := forl 16 (fun n j s => sh_X2_build_45 0 (fun G => (obv (sh_X1_fitPhases 0 G) fun G10 => some G10)) n (nI j) s) (fun j s => R1 s 0 (fun r => decide (r < c), fun r => decide (r < c), lkU lk j (j + 1), aN (sMS a c ph rt nolk), aG a) ∧ frm G s 0 ∧ L2 s lk) (fun s => (obv (sh_X1_fitPhases 0 s) fun G10 => some G10)) (by
    intro n s _
    show sh_X2_build_45 0 _ (n + 1) (nI 16) s = _
    rw [sh_X2_build_45.eq_2, if_pos (by decide)]) (by
    intro n j s hj ⟨i1, i2, i3⟩
    obtain ⟨s1, g1, g2, g3, g4⟩ := X2_row (G := G) (fun l2 G => sh_X2_build_45 0 (fun G => (obv (sh_X1_fitPhases 0 G) fun G10 => some G10)) n (l2 + 1) G) wl hj (16 - (j + 1)) (j + 1) FU s (by omega) (by have := FU_gt; omega) (by omega) i3 i1 i2
    refine ⟨s1, ⟨g2.congr ⟨fun _ _ => rfl, fun _ _ => rfl, fun r s hr hs => lkU_row wl hr hs, fun _ _ _ _ _ => rfl, fun _ _ => rfl⟩, g3, g4⟩, ?_⟩
    show sh_X2_build_45 0 _ (n + 1) (nI j) s = _
    rw [sh_X2_build_45.eq_2, if_neg (nj16 hj), nI_1, g1, nI_1]) 16 0 FU G2 rfl (by decide) ⟨f1.congr ⟨fun _ _ => rfl, fun _ _ => rfl, fun r s _ _ => (by
      show nolk r s = lkU lk 0 (0 + 1) r s
      unfold lkU nolk
      cases hrs : lk r s
      · rfl
      · have := ((wl r s).2 hrs).2.2
        have h1 : ¬ (min r s = 0 ∧ max r s < 1) := by omega
        simp; omega), fun _ _ _ _ _ => rfl, fun _ _ => rfl⟩, f2, fun k hk => by rw [f2 69 (by omega)]; exact l2 k hk⟩
  have j4' : sh_X2_build_45 0 (fun G => (obv (sh_X1_fitPhases 0 G) fun G10 => some G10)) FU (0 : Int32) G2 = _ := j4
  rw [j4']
  have hf := wf_full hw
  have h5' : 10 ≤ (aG a 5).toInt := hw.2.2.2.2.1
  obtain ⟨G4, k1, k2, k3⟩ := X1_fit (show 0 < (sFull (fun r => decide (r < c), fun r => decide (r < c), lkU lk 16 (16 + 1), aN (sMS a c ph rt nolk), aG a)).toInt from by
    show 0 < (sFull a).toInt
    omega) j1
  rw [k1, obv_s]
  refine ⟨G4, rfl, k2.congr ⟨fun _ _ => rfl, fun _ _ => rfl, fun r s hr hs => ?_, fun f i _ _ _ => ?_, fun _ _ => rfl⟩, j2.trans k3⟩
  · show lkU lk 16 (16 + 1) r s = lk r s
    unfold lkU
    simp [show min r s < 16 by omega]
  · show (if f = 1 then (if nI (ph i * 100) < sFull a then nI (ph i * 100) else sFull a - 1) else (if f = 1 then nI (ph i * 100) else if f = 2 then nI (rt i) else 0)) = (if f = 1 then (if nI (ph i * 100) < sFull a then nI (ph i * 100) else sFull a - 1) else if f = 2 then nI (rt i) else 0)
    by_cases q : f = 1
    · rw [if_pos q, if_pos q]
    · rw [if_neg q, if_neg q, if_neg q]
theorem M2.oo {G : gG} {a : AM} {i : Nat} (h : M2 G a) (ht : aT a i = false) (b : Bool) : M2 G (mO a (fun r => if r = i then b else aO a r)) := by
  obtain ⟨h1, h2, h3, h4, h5⟩ := h
  refine ⟨h1, fun r hr hr2 => ?_, h3, h4, h5⟩
  rw [h2 r hr hr2]
  show b2i (aO a r) = b2i (if r = i then b else aO a r)
  by_cases q : r = i
  · rw [q] at hr2
    rw [show aT a i = true from hr2] at ht
    cases ht
  · rw [if_neg q]
def sMM (a : AM) (k c : Nat) (ph rt : Nat → Nat) (lk : Nat → Nat → Bool) : AM := (fun r => if r < k then decide (r < c) else aT a r, fun r => if r < k then decide (r < c) else aO a r, fun r s => if r < k then lk r s else aL a r s, fun f r => if r < k then aN (sRead a c ph rt lk) f r else aN a f r, aG a)
theorem MM_e {b a : AM} {k c : Nat} {ph rt : Nat → Nat} {lk : Nat → Nat → Bool} (h1 : aT b k = decide (k < c)) (h2 : aO b k = decide (k < c)) (h3 : ∀ s, s < 16 → aL b k s = lk k s) (h4 : ∀ f, fld f → k < c → aN b f k = aN (sRead a c ph rt lk) f k) (g1 : ∀ r, r ≠ k → aT b r = aT (sMM a k c ph rt lk) r) (g2 : ∀ r, r ≠ k → aO b r = aO (sMM a k c ph rt lk) r) (g3 : ∀ r s, r ≠ k → aL b r s = aL (sMM a k c ph rt lk) r s) (g4 : ∀ f r, r ≠ k → aN b f r = aN (sMM a k c ph rt lk) f r) (g5 : aG b = aG a) : aE b (sMM a (k + 1) c ph rt lk) := by
  have hlt : ∀ {r : Nat}, r ≠ k → (r < k ↔ r < k + 1) := by intro r h; omega
  refine ⟨fun r _ => ?_, fun r _ => ?_, fun r s _ hs => ?_, fun f r hf _ ht => ?_, fun _ _ => by rw [g5]; rfl⟩
  · by_cases q : r = k
    · rw [q, h1]; show _ = if k < k + 1 then _ else _; rw [if_pos (by omega)]
    · rw [g1 r q]; show (if r < k then decide (r < c) else aT a r) = if r < k + 1 then decide (r < c) else aT a r
      simp only [hlt q]
  · by_cases q : r = k
    · rw [q, h2]; show _ = if k < k + 1 then _ else _; rw [if_pos (by omega)]
    · rw [g2 r q]; show (if r < k then decide (r < c) else aO a r) = if r < k + 1 then decide (r < c) else aO a r
      simp only [hlt q]
  · by_cases q : r = k
    · rw [q, h3 s hs]; show _ = if k < k + 1 then _ else _; rw [if_pos (by omega)]
    · rw [g3 r s q]; show (if r < k then lk r s else aL a r s) = if r < k + 1 then lk r s else aL a r s
      simp only [hlt q]
  · by_cases q : r = k
    · rw [q] at ht ⊢
      rw [h1] at ht
      rw [h4 f hf (by simpa using ht)]; show _ = if k < k + 1 then _ else _; rw [if_pos (by omega)]
    · rw [g4 f r q]; show (if r < k then aN (sRead a c ph rt lk) f r else aN a f r) = if r < k + 1 then aN (sRead a c ph rt lk) f r else aN a f r
      simp only [hlt q]
theorem X4_readM {G : gG} {a : AM} {c : Nat} {ph rt : Nat → Nat} {lk : Nat → Nat → Bool} (kt : gG → Option (Int32 × gG)) (hc : c ≤ 16) (h9 : G 71 9 = nI c) (a4 : A4 G c ph rt) (l4 : L4 G c lk) (wl : WL c lk) (hR : M2 G a) : ∃ G', sh_X4_readMesh_21 kt FU 0 G = kt G' ∧ M2 G' (sRead a c ph rt lk) ∧ frq G G' 72 := by
  obtain ⟨G2, ⟨f1, f2⟩, f3⟩ := forl 16 (fun n j s => sh_X4_readMesh_21 kt n (nI j) s) (fun j s => M2 s (sMM a j c ph rt lk) ∧ frq G s 72) (fun s => kt s) (by
    intro n s _
    show sh_X4_readMesh_21 kt (n + 1) (nI 16) s = _
    rw [sh_X4_readMesh_21.eq_2, if_pos (by decide)]) (by
    intro n j s hj ⟨i1, i2⟩
    have b1 := i1.t0 hj
    have b2 := b1.l (S := fun _ => false) isS_0 hj
    have b3 := b2.oo (i := j) (by show (if j = j then false else _) = false; rw [if_pos rfl]) false
    have fr1 := (i2.gu (i := 8 + 9 * j) (x := 0)).gu (i := 8 + 9 * j + 8) (x := 0)
    by_cases q : j < c
    · obtain ⟨s1, g1, g2, g3⟩ := X4_lay (ph := 100 * nI (ph j)) (rt := nI (rt j)) b3 hj
      have g4 := g2.l (l4 j q) hj
      refine ⟨gu s1 72 (8 + 9 * j + 8) (G 79 j), ⟨g4.congr (MM_e ?_ ?_ (fun s' hs' => ?_) (fun f hf _ => ?_) (fun r hr => ?_) (fun r hr => ?_) (fun r s' hr => ?_) (fun f r hr => ?_) rfl), (fr1.trans g3).gu⟩, ?_⟩
      · show (_ || decide (j = j)) = _
        simp [q]
      · show (_ || decide (j = j)) = _
        simp [q]
      · show (if j = j then lk j s' else _) = _
        rw [if_pos rfl]
      · have e : (100 : Int32) * nI (ph j) = nI (ph j * 100) := by rw [show (100 : Int32) = nI 100 from rfl, pk_mul, Nat.mul_comm]
        show (if j = j then (if f = 1 then (if 100 * nI (ph j) < sFull a then 100 * nI (ph j) else sFull a - 1) else if f = 2 then nI (rt j) else 0) else _) = (if f = 1 then (if nI (ph j * 100) < sFull a then nI (ph j * 100) else sFull a - 1) else if f = 2 then nI (rt j) else 0)
        rw [if_pos rfl, e]
      · show ((if r = j then false else aT (sMM a j c ph rt lk) r) || decide (r = j)) = aT (sMM a j c ph rt lk) r
        rw [if_neg hr]; simp [hr]
      · show ((if r = j then false else aO (sMM a j c ph rt lk) r) || decide (r = j)) = aO (sMM a j c ph rt lk) r
        rw [if_neg hr]; simp [hr]
      · show (if r = j then lk j s' else if r = j then false else if r = j then false else aL (sMM a j c ph rt lk) r s') = _
        rw [if_neg hr, if_neg hr, if_neg hr]
      · show (if r = j then _ else aN (sMM a j c ph rt lk) f r) = _
        rw [if_neg hr]
      · show sh_X4_readMesh_21 kt (n + 1) (nI j) s = _
        rw [sh_X4_readMesh_21.eq_2, if_neg (nj16 hj), X4_put0 hj, obv_s, X4_put8 hj, obv_s, fr1 71 (by decide), h9, if_neg (nI_ge q (by omega)), if_pos (gin_16 hj), cl16 hj, fr1 77 (by decide), fr1 78 (by decide), (a4 j q).1, (a4 j q).2, g1, obv_s, g3 79 (by decide), fr1 79 (by decide), X4_put8 hj, obv_s, nI_1]
    · refine ⟨_, ⟨b3.congr (MM_e ?_ ?_ (fun s' hs' => ?_) (fun f hf hh => ?_) (fun r hr => ?_) (fun r hr => ?_) (fun r s' hr => ?_) (fun f r hr => ?_) rfl), fr1⟩, ?_⟩
      · show (if j = j then false else _) = _
        rw [if_pos rfl]; simp [q]
      · show (if j = j then false else _) = _
        rw [if_pos rfl]; simp [q]
      · show (if j = j then false else _) = _
        rw [if_pos rfl]
        cases hl : lk j s'
        · rfl
        · exact absurd ((wl j s').2 hl).1 q
      · exact absurd hh q
      · show (if r = j then false else aT (sMM a j c ph rt lk) r) = _
        rw [if_neg hr]
      · show (if r = j then false else aO (sMM a j c ph rt lk) r) = _
        rw [if_neg hr]
      · show (if r = j then false else aL (sMM a j c ph rt lk) r s') = _
        rw [if_neg hr]
      · rfl
      · show sh_X4_readMesh_21 kt (n + 1) (nI j) s = _
        rw [sh_X4_readMesh_21.eq_2, if_neg (nj16 hj), X4_put0 hj, obv_s, X4_put8 hj, obv_s, fr1 71 (by decide), h9, if_pos (nI_le (by omega) (by omega)), nI_1]) 16 0 FU G rfl (by decide) ⟨hR.congr ⟨fun _ _ => by simp [sMM], fun _ _ => by simp [sMM], fun _ _ _ _ => by simp [sMM], fun _ _ _ _ _ => by simp [sMM], fun _ _ => rfl⟩, frq.rf⟩
  refine ⟨G2, f3, f1.congr ⟨fun r hr => ?_, fun r hr => ?_, fun r s hr _ => ?_, fun f r _ hr _ => ?_, fun _ _ => rfl⟩, f2⟩
  · show (if r < 16 then decide (r < c) else aT a r) = decide (r < c)
    rw [if_pos hr]
  · show (if r < 16 then decide (r < c) else aO a r) = decide (r < c)
    rw [if_pos hr]
  · show (if r < 16 then lk r s else aL a r s) = lk r s
    rw [if_pos hr]
  · show (if r < 16 then aN (sRead a c ph rt lk) f r else aN a f r) = _
    rw [if_pos hr]
