-- what is done to a mesh: lamps that come and go, links, phases, settings; the class's side
def sLay (a : AM) (i : Nat) (ph rt : Int32) : AM := (fun r => aT a r || decide (r = i), fun r => aO a r || decide (r = i), fun r c => if r = i then false else aL a r c, fun f r => if r = i then (if f = 1 then ph else if f = 2 then rt else 0) else aN a f r, aG a)
theorem R1_lay {G G' : gG} {k i : Nat} {a : AM} {ph rt : Int32} (h : R1 G k a) (hi : i < 16) (h8 : G' k 8 = (G k 8 ||| (1 : Int32) <<< (nI i &&& 31))) (h9 : G' k 9 = (G k 9 ||| (1 : Int32) <<< (nI i &&& 31))) (hr : ∀ f r, 1 ≤ f → f ≤ 7 → r ≠ i → G' (k + f) r = G (k + f) r) (h1 : G' (k + 1) i = ph) (h2 : G' (k + 2) i = rt) (h0 : ∀ f, 3 ≤ f → f ≤ 7 → G' (k + f) i = 0) (hg : ∀ j, j < 5 → G' k (10 + j) = G k (10 + j)) (hs : G' (k + 8) = G (k + 8)) : R1 G' k (sLay a i ph rt) := by
  obtain ⟨g1, g2, g3, g4, g5, g6⟩ := h
  refine ⟨by rw [h8]; exact g1.add hi, by rw [h9]; exact g2.add hi, fun r hr2 => ?_, fun f r hf hr2 ht => ?_, fun j hj => by rw [hg j hj]; exact g5 j hj, fun j hj => by rw [hs]; exact g6 j hj⟩
  · by_cases e : r = i
    · subst e
      rw [h0 4 (by omega) (by omega)]
      refine isS_0.congr (fun c _ => ?_)
      show _ = (if r = r then false else _); rw [if_pos rfl]
    · rw [hr 4 r (by omega) (by omega) e]
      refine (g3 r hr2).congr (fun c _ => ?_)
      show _ = (if r = i then false else _); rw [if_neg e]
  · show _ = (if r = i then (if f = 1 then ph else if f = 2 then rt else 0) else aN a f r)
    by_cases e : r = i
    · subst e
      rw [if_pos rfl]
      rcases hf with rfl | rfl | rfl | rfl | rfl | rfl
      · rw [h1, if_pos rfl]
      · rw [h2]; rfl
      · rw [h0 3 (by omega) (by omega)]; rfl
      · rw [h0 5 (by omega) (by omega)]; rfl
      · rw [h0 6 (by omega) (by omega)]; rfl
      · rw [h0 7 (by omega) (by omega)]; rfl
    · have hf0 : 1 ≤ f ∧ f ≤ 7 := by unfold fld at hf; omega
      rw [if_neg e, hr f r hf0.1 hf0.2 e]
      refine g4 f r hf hr2 ?_
      have : (aT a r || decide (r = i)) = true := ht
      simpa [e] using this
theorem X1_place {G : gG} {k i : Nat} {a : AM} {ph rt : Int32} (h : R1 G k a) (hi : i < 16) : ∃ G', sh_X1_place k (nI i) ph rt G = some G' ∧ R1 G' k (sLay a i (ph * 100) rt) ∧ frm G G' k := by
  unfold sh_X1_place
  simp only [bng_s]
  rw [if_pos (gin_16 hi)]
  simp only [bng_s, cl16 hi]
  refine ⟨_, rfl, R1_lay h hi ?_ ?_ (fun f r hf1 hf2 hr => ?_) ?_ ?_ (fun f hf1 hf2 => ?_) (fun j hj => ?_) ?_, ?_⟩
  · simp [gu_ap]
  · simp [gu_ap]
  · have e0 : f ≠ 0 := by omega
    simp [gu_ap, hr, e0]
  · simp [gu_ap]
  · simp [gu_ap]
  · rcases (show f = 3 ∨ f = 4 ∨ f = 5 ∨ f = 6 ∨ f = 7 by omega) with rfl | rfl | rfl | rfl | rfl <;> simp [gu_ap]
  · rcases (show j = 0 ∨ j = 1 ∨ j = 2 ∨ j = 3 ∨ j = 4 by omega) with rfl | rfl | rfl | rfl | rfl <;> simp [gu_ap]
  · funext b; simp [gu_ap]
  · exact ((((((((frm.rf.gu (by omega) (by omega)).gu (by omega) (by omega)).gu (by omega) (by omega)).gu (by omega) (by omega)).gu (by omega) (by omega)).gu (by omega) (by omega)).gu (by omega) (by omega)).gu (by omega) (by omega)).gu (by omega) (by omega)
def sDel (a : AM) (i : Nat) : AM := (fun r => aT a r && !decide (r = i), fun r => aO a r && !decide (r = i), fun r c => if r = i then false else aL a r c && !decide (c = i), aN a, aG a)
theorem X1_remove {G0 : gG} {k i : Nat} {a : AM} (h0 : R1 G0 k a) (hi : i < 16) : ∃ G', sh_X1_remove k (nI i) G0 = some (nI (cnt (aL a i) 16), G') ∧ R1 G' k (sDel a i) ∧ frm G0 G' k := by
  unfold sh_X1_remove
  rw [if_pos (gin_16 hi), cl16 hi, bc_eq (h0.2.2.1 i hi), bni_s, bni_s, bng_s, bng_s, bng_s, gu_n2 (show 9 ≠ 8 by decide)]
  have hR1 : R1 (gu (gu (gu G0 k 8 (G0 k 8 &&& ((1 : Int32) <<< (nI i &&& 31) ^^^ -1))) k 9 (G0 k 9 &&& ((1 : Int32) <<< (nI i &&& 31) ^^^ -1))) (k + 4) i 0) k (mL (mO (mT a (fun r => aT a r && !decide (r = i))) (fun r => aO a r && !decide (r = i))) i (fun _ => false)) :=
    ((h0.th (h0.1.del hi) (fun f r _ _ q1 q2 => by rw [q2] at q1; cases q1)).on (by exact h0.2.1.del hi)).lk isS_0
  have hF1 := (((frm.rf (G := G0) (k := k)).gu (c := k) (i := 8) (x := G0 k 8 &&& ((1 : Int32) <<< (nI i &&& 31) ^^^ -1)) (by omega) (by omega)).gu (c := k) (i := 9) (x := G0 k 9 &&& ((1 : Int32) <<< (nI i &&& 31) ^^^ -1)) (by omega) (by omega)).gu (c := k + 4) (i := i) (x := 0) (by omega) (by omega)
  generalize (gu (gu (gu G0 k 8 (G0 k 8 &&& ((1 : Int32) <<< (nI i &&& 31) ^^^ -1))) k 9 (G0 k 9 &&& ((1 : Int32) <<< (nI i &&& 31) ^^^ -1))) (k + 4) i 0) = G1 at hR1 hF1 ⊢
  obtain ⟨s, ⟨h1, h2⟩, h3⟩ := forl 16 (fun n j s => sh_X1_remove_46 k (fun l2 G => some (l2, G)) n (nI (cnt (aL a i) 16)) ((1 : Int32) <<< (nI i &&& 31) ^^^ -1) (nI j) s) (fun j s => R1 s k (fun r => aT a r && !decide (r = i), fun r => aO a r && !decide (r = i), fun r c => if r = i then false else aL a r c && !(decide (r < j) && decide (c = i)), aN a, aG a) ∧ frm G0 s k) (fun s => some (nI (cnt (aL a i) 16), s)) (by
    intro n s _
    show sh_X1_remove_46 k _ (n + 1) _ _ (nI 16) s = _
    rw [sh_X1_remove_46.eq_2, if_pos (by decide)]) (by
    intro n j s hj ⟨hR, hF⟩
    show ∃ s', _ ∧ sh_X1_remove_46 k _ (n + 1) _ _ (nI j) s = _
    rw [sh_X1_remove_46.eq_2, if_neg (nj16 hj), if_pos (gin_16 hj), cl16 hj, bng_s, nI_1 j]
    refine ⟨_, ⟨(hR.lk (i := j) ((hR.2.2.1 j hj).del hi)).congr ⟨fun _ _ => rfl, fun _ _ => rfl, fun r c hr hc => ?_, fun _ _ _ _ _ => rfl, fun _ _ => rfl⟩, hF.gu (by omega) (by omega)⟩, rfl⟩
    show (if r = j then ((if j = i then false else aL a j c && !(decide (j < j) && decide (c = i))) && !decide (c = i)) else (if r = i then false else aL a r c && !(decide (r < j) && decide (c = i)))) = (if r = i then false else aL a r c && !(decide (r < j + 1) && decide (c = i)))
    by_cases e : r = j
    · subst e
      rw [if_pos rfl]
      by_cases e2 : r = i
      · simp [e2]
      · simp [e2]
    · rw [if_neg e, lt_s16 e]) 16 0 FU G1 rfl (by decide) ⟨hR1.congr ⟨fun _ _ => rfl, fun _ _ => rfl, fun r c hr hc => by
        show (if r = i then false else aL a r c) = (if r = i then false else aL a r c && !(decide (r < 0) && decide (c = i)))
        simp, fun _ _ _ _ _ => rfl, fun _ _ => rfl⟩, hF1⟩
  refine ⟨s, h3, h1.congr ⟨fun _ _ => rfl, fun _ _ => rfl, fun r c hr hc => ?_, fun _ _ _ _ _ => rfl, fun _ _ => rfl⟩, h2⟩
  show (if r = i then false else aL a r c && !(decide (r < 16) && decide (c = i))) = (if r = i then false else aL a r c && !decide (c = i))
  simp [hr]
def sOn (a : AM) (i : Nat) (b : Bool) : AM := mO a (fun r => if r = i then b else aO a r)
theorem X1_switch {G : gG} {k i : Nat} {a : AM} {b : Bool} (h : R1 G k a) (hi : i < 16) : ∃ G', sh_X1_switchTo k (nI i) (b2i b) G = some G' ∧ R1 G' k (sOn a i b) ∧ frm G G' k := by
  unfold sh_X1_switchTo
  cases b
  · rw [if_pos (b_f rfl), bng_s]
    refine ⟨_, rfl, (h.on (h.2.1.del hi)).congr ⟨fun _ _ => rfl, fun r _ => ?_, fun _ _ _ _ => rfl, fun _ _ _ _ _ => rfl, fun _ _ => rfl⟩, frm.rf.gu (by omega) (by omega)⟩
    show (aO a r && !decide (r = i)) = (if r = i then false else aO a r)
    by_cases e : r = i <;> simp [e]
  · rw [if_neg (b_t rfl), bng_s]
    refine ⟨_, rfl, (h.on (h.2.1.add hi)).congr ⟨fun _ _ => rfl, fun r _ => ?_, fun _ _ _ _ => rfl, fun _ _ _ _ _ => rfl, fun _ _ => rfl⟩, frm.rf.gu (by omega) (by omega)⟩
    show (aO a r || decide (r = i)) = (if r = i then true else aO a r)
    by_cases e : r = i <;> simp [e]
def sLink (a : AM) (i j : Nat) (b : Bool) : AM := (aT a, aO a, fun r c => if (r = i ∧ c = j) ∨ (r = j ∧ c = i) then b else aL a r c, aN a, aG a)
theorem X1_link {G : gG} {k i j : Nat} {a : AM} {b : Bool} (h : R1 G k a) (hi : i < 16) (hj : j < 16) (hij : i ≠ j) : ∃ G', sh_X1_changeLink k (nI i) (nI j) (b2i b) G = some G' ∧ R1 G' k (sLink a i j b) ∧ frm G G' k := by
  unfold sh_X1_changeLink
  cases b
  · rw [if_pos (b_f rfl), if_pos (gin_16 hi), bng_s, if_pos (gin_16 hj), bng_s, cl16 hi, cl16 hj, gu_n2 (Ne.symm hij)]
    refine ⟨_, rfl, ((h.lk ((h.2.2.1 i hi).del hj)).lk ((h.2.2.1 j hj).del hi)).congr ⟨fun _ _ => rfl, fun _ _ => rfl, fun r c _ _ => ?_, fun _ _ _ _ _ => rfl, fun _ _ => rfl⟩, (frm.rf.gu (by omega) (by omega)).gu (by omega) (by omega)⟩
    show (if r = j then (aL a j c && !decide (c = i)) else if r = i then (aL a i c && !decide (c = j)) else aL a r c) = (if (r = i ∧ c = j) ∨ (r = j ∧ c = i) then false else aL a r c)
    by_cases e1 : r = j
    · subst e1
      by_cases e2 : c = i <;> simp [e2, Ne.symm hij]
    · by_cases e3 : r = i
      · subst e3
        by_cases e2 : c = j <;> simp [e2, e1]
      · simp [e1, e3]
  · rw [if_neg (b_t rfl), if_pos (gin_16 hi), bng_s, if_pos (gin_16 hj), bng_s, cl16 hi, cl16 hj, gu_n2 (Ne.symm hij)]
    refine ⟨_, rfl, ((h.lk ((h.2.2.1 i hi).add hj)).lk ((h.2.2.1 j hj).add hi)).congr ⟨fun _ _ => rfl, fun _ _ => rfl, fun r c _ _ => ?_, fun _ _ _ _ _ => rfl, fun _ _ => rfl⟩, (frm.rf.gu (by omega) (by omega)).gu (by omega) (by omega)⟩
    show (if r = j then (aL a j c || decide (c = i)) else if r = i then (aL a i c || decide (c = j)) else aL a r c) = (if (r = i ∧ c = j) ∨ (r = j ∧ c = i) then true else aL a r c)
    by_cases e1 : r = j
    · subst e1
      by_cases e2 : c = i <;> simp [e2, Ne.symm hij]
    · by_cases e3 : r = i
      · subst e3
        by_cases e2 : c = j <;> simp [e2, e1]
      · simp [e1, e3]
def sTune (a : AM) (i : Nat) (ph rt : Int32) : AM := mN (mN a 1 i ph) 2 i rt
theorem X1_tune {G : gG} {k i : Nat} {a : AM} {ph rt : Int32} (h : R1 G k a) (hi : i < 16) (ht : aT a i = true) : ∃ G', sh_X1_retune k (nI i) ph rt G = some (aN a 1 i, G') ∧ R1 G' k (sTune a i (ph * 100) rt) ∧ frm G G' k := by
  unfold sh_X1_retune
  rw [if_pos (gin_16 hi), cl16 hi, bng_s, bng_s, h.num fld1 hi ht]
  exact ⟨_, rfl, (h.nu fld1 hi).nu fld2 hi, (frm.rf.gu (by omega) (by omega)).gu (by omega) (by omega)⟩
def sFit (a : AM) : AM := (aT a, aO a, aL a, fun f i => if f = 1 then (if aN a 1 i < sFull a then aN a 1 i else sFull a - 1) else aN a f i, aG a)
theorem X1_fit {G0 : gG} {k : Nat} {a : AM} (hf : 0 < (sFull a).toInt) (h0 : R1 G0 k a) : ∃ G', sh_X1_fitPhases k G0 = some G' ∧ R1 G' k (sFit a) ∧ frm G0 G' k := by
  unfold sh_X1_fitPhases
  obtain ⟨s, ⟨h1, h2⟩, h3⟩ := forl 16 (fun n j s => sh_X1_fitPhases_2 k (fun G => some G) n (nI j) s) (fun j s => R1 s k (sUp j (sFit a) a) ∧ frm G0 s k) (fun s => some s) (by
    intro n s _
    show sh_X1_fitPhases_2 k _ (n + 1) (nI 16) s = _
    rw [sh_X1_fitPhases_2.eq_2, if_pos (by decide)]) (by
    intro n j G hj ⟨hR, hF⟩
    have hu : ∀ f, aN (sUp j (sFit a) a) f j = aN a f j := fun f => by show (if j < j then _ else _) = _; rw [if_neg (by omega)]
    have hfull : sh_X1_fullPhase k G = some (sFull a) := X1_full (a := sUp j (sFit a) a) hR
    show ∃ s', _ ∧ sh_X1_fitPhases_2 k _ (n + 1) (nI j) G = _
    rw [sh_X1_fitPhases_2.eq_2, if_neg (nj16 hj), if_pos (gin_16 hj), hfull, obp_s, bng_s, cl16 hj, nI_1 j]
    refine ⟨_, ⟨?_, hF.gu (c := k + 1) (by omega) (by omega)⟩, rfl⟩
    refine (hR.nu (f := 1) (x := _) fld1 hj).congr ⟨fun _ _ => rfl, fun _ _ => rfl, fun _ _ _ _ => rfl, fun f i hf1 hi ht => ?_, fun _ _ => rfl⟩
    show (if f = 1 ∧ i = j then _ else aN (sUp j (sFit a) a) f i) = (if i < j + 1 then (if f = 1 then (if aN a 1 i < sFull a then aN a 1 i else sFull a - 1) else aN a f i) else aN a f i)
    by_cases e : i = j
    · subst e
      rw [if_pos (show i < i + 1 by omega)]
      by_cases e1 : f = 1
      · subst e1
        rw [if_pos ⟨rfl, rfl⟩, if_pos rfl, hR.num fld1 hi ht, hu]
        have hm : (sFull a - 1).toInt = (sFull a).toInt - 1 := by
          have := Int32.toInt_lt (sFull a)
          rw [I_sub (by rw [I_1]; omega) (by rw [I_1]; omega), I_1]
        by_cases q : aN a 1 i < sFull a
        · rw [if_pos q, if_neg (by rw [I_lt] at q ⊢; omega)]
        · rw [if_neg q, if_pos (by rw [I_lt] at q ⊢; omega)]
      · rw [if_neg (by omega), if_neg e1, hu]
    · rw [if_neg (by omega)]
      show (if i < j then _ else _) = _
      by_cases q : i < j
      · rw [if_pos q, if_pos (show i < j + 1 by omega)]; rfl
      · rw [if_neg q, if_neg (show ¬ i < j + 1 by omega)]) 16 0 FU G0 rfl (by decide) ⟨h0, frm.rf⟩
  exact ⟨s, h3, h1.congr (up_16 rfl rfl rfl rfl), h2⟩
def sSet (a : AM) (j : Nat) (x : Int32) : AM := sFit (mG a (5 + j) x)
theorem X1_set {G : gG} {k j : Nat} {a : AM} {x : Int32} (h : R1 G k a) (hj : j < 3) (hf : 0 < (sFull (mG a (5 + j) x)).toInt) : ∃ G', sh_X1_changeSetting k (nI j) x G = some (aG a (5 + j), G') ∧ R1 G' k (sSet a j x) ∧ frm G G' k := by
  unfold sh_X1_changeSetting
  rw [if_pos (gin_n hj (by decide)), nI_clamp (by omega), bng_s]
  obtain ⟨G', e1, e2, e3⟩ := X1_fit hf (h.se (x := x) hj)
  rw [e1, obv_s, h.2.2.2.2.2 j hj]
  exact ⟨G', rfl, e2, (frm.rf.gu (by omega) (by omega)).trans e3⟩
def sTickN : Nat → AM → AM
  | 0, a => a
  | n + 1, a => sTickN n (sTick a).1
theorem tickN_wf : ∀ (n : Nat) {a : AM}, wf a → wf (sTickN n a)
  | 0, _, h => h
  | n + 1, _, h => tickN_wf n (tick_wf h)
theorem X1_ticksN {k : Nat} : ∀ (d j m n : Nat) (G : gG) (a : AM), j + d = m → m < 100000 → d < n → wf a → R1 G k a → ∃ G', sh_X1_tickOften_2 k (fun G => some G) n (nI m) (nI j) G = some G' ∧ R1 G' k (sTickN d a) ∧ frm G G' k := by
  intro d
  induction d with
  | zero =>
    intro j m n G a hj hm hn hw hR
    obtain ⟨n, rfl⟩ : ∃ k, n = k + 1 := ⟨n - 1, by omega⟩
    rw [sh_X1_tickOften_2.eq_2, if_pos (nI_le (by omega) (by omega))]
    exact ⟨G, rfl, hR, frm.rf⟩
  | succ d ih =>
    intro j m n G a hj hm hn hw hR
    obtain ⟨n, rfl⟩ : ∃ k, n = k + 1 := ⟨n - 1, by omega⟩
    obtain ⟨r, G1, e1, e2, e3, e4⟩ := X1_tick hw hR
    obtain ⟨G2, f1, f2, f3⟩ := ih (j + 1) m n G1 _ (by omega) hm (by omega) (tick_wf hw) e2
    rw [sh_X1_tickOften_2.eq_2, if_neg (nI_ge (by omega) (by omega)), e1, obi_s, nI_1 j]
    exact ⟨G2, f1, f2, e4.trans f3⟩
theorem X1_pass {G : gG} {k m : Nat} {a : AM} (hm : m < 1000) (hw : wf a) (hR : R1 G k a) : ∃ G', sh_X1_tickOften k (nI m) G = some G' ∧ R1 G' k (sTickN m a) ∧ frm G G' k :=
  X1_ticksN m 0 m FU G a (by omega) (by omega) (by unfold FU; omega) hw hR
-- a copy
theorem gcp_ap {G : gG} {k0 k1 N a b : Nat} : gcp G k0 k1 N a b = if a = k1 ∧ b < N then G k0 b else G a b := by
  unfold gcp; by_cases h1 : a = k1 <;> by_cases h2 : b < N <;> simp [h1, h2]
theorem X1_copy {G : gG} {k q : Nat} {a : AM} (hk : isM k) (hq : isM q) (hne : k ≠ q) (h : R1 G q a) : ∃ G', sh_X1_copyFrom k q G = some G' ∧ R1 G' k a ∧ frm G G' k := by
  have hd : k + 9 ≤ q ∨ q + 9 ≤ k := by have := hk.2; have := hq.2; omega
  obtain ⟨h1, h2, h3, h4, h5, h6⟩ := h
  unfold sh_X1_copyFrom
  simp only [bng_s]
  refine ⟨_, rfl, ⟨?_, ?_, fun i hi => ?_, fun f i hf hi ht => ?_, fun j hj => ?_, fun j hj => ?_⟩, fun c hc => ?_⟩
  · have e1 : q ≠ k := by omega
    simp [gu_ap, gcp_ap, show ∀ f, f ≤ 8 → q ≠ k + f from fun f _ => by omega]
    exact h1
  · simp [gu_ap, gcp_ap, show ∀ f, f ≤ 8 → q ≠ k + f from fun f _ => by omega, show q ≠ k by omega]
    exact h2
  · simp [gu_ap, gcp_ap, hi, show ∀ f g, f ≤ 8 → g ≤ 8 → q + f ≠ k + g from fun f g _ _ => by omega]
    exact h3 i hi
  · have := h4 f i hf hi ht
    rcases hf with rfl | rfl | rfl | rfl | rfl | rfl <;> (simp [gu_ap, gcp_ap, hi, show ∀ f g, f ≤ 8 → g ≤ 8 → q + f ≠ k + g from fun f g _ _ => by omega]; exact this)
  · have := h5 j hj
    rcases (show j = 0 ∨ j = 1 ∨ j = 2 ∨ j = 3 ∨ j = 4 by omega) with rfl | rfl | rfl | rfl | rfl <;> (simp [gu_ap, gcp_ap, show ∀ f, f ≤ 8 → q ≠ k + f from fun f _ => by omega, show q ≠ k by omega]; exact this)
  · have := h6 j hj
    simp [gu_ap, gcp_ap, hj, show ∀ f g, f ≤ 8 → g ≤ 8 → q + f ≠ k + g from fun f g _ _ => by omega]
    exact this
  · funext b
    simp [gu_ap, gcp_ap, show ∀ g, g ≤ 8 → c ≠ k + g from fun g _ => by omega, show c ≠ k by omega]

