-- the class's mesh: blinks and pushes
theorem lt_s16 {i j : Nat} (e : i ≠ j) : decide (i < j) = decide (i < j + 1) := by
  by_cases q : i < j
  · have : i < j + 1 := by omega
    simp [q, this]
  · have : ¬ i < j + 1 := by omega
    simp [q, this]
def sBlink (a : AM) (S : Nat → Bool) : AM := (aT a, aO a, aL a, fun f i => if S i then (if f = 1 then 0 else if f = 3 then aG a 7 else if f = 5 then aN a 5 i + 1 else if f = 6 then aG a 0 + 1 else aN a f i) else aN a f i, aG a)
theorem X1_blink {G0 : gG} {k : Nat} {a : AM} {x : Int32} {S : Nat → Bool} (hx : isS x S) (hST : ∀ i, i < 16 → S i = true → aT a i = true) (hR0 : R1 G0 k a) : ∃ G', sh_X1_blink k x G0 = some G' ∧ R1 G' k (sBlink a S) ∧ frm G0 G' k := by
  have key : ∃ s : gG, (R1 s k (sUp 16 (sBlink a S) a) ∧ frm G0 s k) ∧ sh_X1_blink_2 k (fun G => some G) FU x (nI 0) G0 = some s := by
    refine forl 16 (fun n j s => sh_X1_blink_2 k (fun G => some G) n x (nI j) s) (fun j s => R1 s k (sUp j (sBlink a S) a) ∧ frm G0 s k) (fun s => some s) ?_ ?_ 16 0 FU G0 rfl (by decide) ⟨hR0, frm.rf⟩
    · intro n s _
      show sh_X1_blink_2 k _ (n + 1) x (nI 16) s = _
      rw [sh_X1_blink_2.eq_2, if_pos (by decide)]
    · intro n j G hj ⟨hR, hF⟩
      have hnx : nI j + 1 = nI (j + 1) := nI_1 j
      show ∃ s', _ ∧ sh_X1_blink_2 k _ (n + 1) x (nI j) G = _
      have hh : sh_X3_holds x (nI j) = b2i (S j) := holds_is hx hj
      rw [sh_X1_blink_2.eq_2, if_neg (nj16 hj), hh]
      have hu : ∀ f, aN (sUp j (sBlink a S) a) f j = aN a f j := fun f => by show (if j < j then _ else _) = _; rw [if_neg (by omega)]
      cases hs : S j
      · rw [if_pos (b_f rfl), hnx]
        refine ⟨G, ⟨hR.congr (up_aE rfl rfl rfl rfl (fun f hf => ?_) (fun f i hi => rfl)), hF⟩, rfl⟩
        rw [hu]
        show _ = (if S j = true then _ else _)
        rw [hs]; rfl
      · have ht := hST j hj hs
        rw [if_neg (b_t rfl), if_pos (gin_16 hj)]
        simp only [bng, cl16 hj, tc2]
        rw [gu_n1 (show k + 8 ≠ k + 1 by omega), gu_n1 (show k + 5 ≠ k + 3 by omega), gu_n1 (show k + 5 ≠ k + 1 by omega), gu_n1 (show k ≠ k + 5 by omega), gu_n1 (show k ≠ k + 3 by omega), gu_n1 (show k ≠ k + 1 by omega), hnx]
        have e5 : G (k + 5) j = aN a 5 j := by rw [hR.num fld5 hj ht, hu]
        have e10 : G k 10 = aG a 0 := hR.2.2.2.2.1 0 (by decide)
        have e8 : G (k + 8) 2 = aG a 7 := hR.2.2.2.2.2 2 (by decide)
        rw [e5, e10, e8]
        refine ⟨_, ⟨((((hR.nu (x := 0) fld1 hj).nu (x := aG a 7) fld3 hj).nu (x := aN a 5 j + 1) fld5 hj).nu (x := aG a 0 + 1) fld6 hj).congr (up_aE rfl rfl rfl rfl (fun f hf => ?_) (fun f i hi => ?_)), (((hF.gu (by omega) (by omega)).gu (by omega) (by omega)).gu (by omega) (by omega)).gu (by omega) (by omega)⟩, rfl⟩
        · show (if f = 6 ∧ j = j then _ else if f = 5 ∧ j = j then _ else if f = 3 ∧ j = j then _ else if f = 1 ∧ j = j then _ else aN (sUp j (sBlink a S) a) f j) = (if S j = true then _ else _)
          rw [hu, hs]
          rcases hf with rfl | rfl | rfl | rfl | rfl | rfl <;> simp
        · show (if f = 6 ∧ i = j then _ else if f = 5 ∧ i = j then _ else if f = 3 ∧ i = j then _ else if f = 1 ∧ i = j then _ else aN (sUp j (sBlink a S) a) f i) = _
          rw [if_neg (by omega), if_neg (by omega), if_neg (by omega), if_neg (by omega)]
  obtain ⟨s, ⟨h1, h2⟩, h3⟩ := key
  exact ⟨s, h3, h1.congr (up_16 rfl rfl rfl rfl), h2⟩
def pS (a : AM) (U : Nat → Bool) (i : Nat) : Bool := U i && decide (aN a 3 i = 0)
def sPushU (j : Nat) (a : AM) (U : Nat → Bool) : AM := (aT a, aO a, aL a, fun f i => if i < j then (if pS a U i then (if f = 1 then pP (sFull a) (aG a 6) (aN a 1 i) else if f = 7 then aN a 7 i + 1 else aN a f i) else aN a f i) else aN a f i, fun r => if r = 2 then aG a 2 + nI (cnt (pS a U) j) else aG a r)
def pR (a : AM) (U : Nat → Bool) (i : Nat) : Bool := pS a U i && decide (¬ pZ (aG a 6) (aN a 1 i) < sFull a)
theorem pushU_aE {a b : AM} {U : Nat → Bool} {j : Nat} (hT : aT b = aT a) (hO : aO b = aO a) (hL : aL b = aL a) (hG : ∀ r, r < 8 → aG b r = aG (sPushU (j + 1) a U) r) (h1 : ∀ f, fld f → aN b f j = (if pS a U j then (if f = 1 then pP (sFull a) (aG a 6) (aN a 1 j) else if f = 7 then aN a 7 j + 1 else aN a f j) else aN a f j)) (h2 : ∀ f i, i ≠ j → aN b f i = aN (sPushU j a U) f i) : aE b (sPushU (j + 1) a U) := by
  refine ⟨fun i _ => ?_, fun i _ => ?_, fun i j _ _ => ?_, fun f i hf hi _ => ?_, hG⟩
  · rw [hT]; rfl
  · rw [hO]; rfl
  · rw [hL]; rfl
  · show _ = (if i < j + 1 then _ else _)
    by_cases e : i = j
    · subst e; rw [if_pos (by omega)]; exact h1 f hf
    · rw [h2 f i e]
      show (if i < j then _ else _) = _
      by_cases q : i < j
      · rw [if_pos q, if_pos (show i < j + 1 by omega)]
      · rw [if_neg q, if_neg (show ¬ i < j + 1 by omega)]

theorem X1_pushAll {G0 : gG} {k : Nat} {a : AM} {x : Int32} {U : Nat → Bool} (hx : isS x U) (hUT : ∀ i, i < 16 → U i = true → aT a i = true) (hR0 : R1 G0 k a) : ∃ r G', sh_X1_pushAll k x G0 = some (r, G') ∧ R1 G' k (sPushU 16 a U) ∧ isS r (pR a U) ∧ frm G0 G' k := by
  have key : ∃ s : Int32 × gG, (R1 s.2 k (sPushU 16 a U) ∧ isS s.1 (fun i => decide (i < 16) && pR a U i) ∧ frm G0 s.2 k) ∧ sh_X1_pushAll_10 k (fun l3 G => some (l3, G)) FU x (sFull a) 0 (nI 0) G0 = some (s.1, s.2) := by
    have h0 : R1 G0 k (sPushU 0 a U) := hR0.congr ⟨fun _ _ => rfl, fun _ _ => rfl, fun _ _ _ _ => rfl, fun f i _ _ _ => rfl, fun r _ => by
      show _ = (if r = 2 then aG a 2 + nI 0 else aG a r)
      by_cases e : r = 2
      · subst e; simp [nI_0]
      · simp [e]⟩
    refine forl 16 (fun n j s => sh_X1_pushAll_10 k (fun l3 G => some (l3, G)) n x (sFull a) s.1 (nI j) s.2) (fun j s => R1 s.2 k (sPushU j a U) ∧ isS s.1 (fun i => decide (i < j) && pR a U i) ∧ frm G0 s.2 k) (fun s => some (s.1, s.2)) ?_ ?_ 16 0 FU (0, G0) rfl (by decide) ⟨h0, isS_0.congr (fun i _ => by simp), frm.rf⟩
    · intro n s _
      show sh_X1_pushAll_10 k _ (n + 1) x (sFull a) s.1 (nI 16) s.2 = _
      rw [sh_X1_pushAll_10.eq_2, if_pos (by decide)]
    · intro n j s hj ⟨hR, hS, hF⟩
      obtain ⟨z, G⟩ := s
      have hnx : nI j + 1 = nI (j + 1) := nI_1 j
      show ∃ s', _ ∧ sh_X1_pushAll_10 k _ (n + 1) x (sFull a) z (nI j) G = _
      dsimp only at hR hS hF
      have hh : sh_X3_holds x (nI j) = b2i (U j) := holds_is hx hj
      rw [sh_X1_pushAll_10.eq_2, if_neg (nj16 hj), hh]
      have hu : ∀ f, aN (sPushU j a U) f j = aN a f j := fun f => by show (if j < j then _ else _) = _; rw [if_neg (by omega)]
      have skip : pS a U j = false → ∃ s' : Int32 × gG, (R1 s'.2 k (sPushU (j + 1) a U) ∧ isS s'.1 (fun i => decide (i < j + 1) && pR a U i) ∧ frm G0 s'.2 k) ∧ sh_X1_pushAll_10 k (fun l3 G => some (l3, G)) n x (sFull a) z (nI (j + 1)) G = sh_X1_pushAll_10 k (fun l3 G => some (l3, G)) n x (sFull a) s'.1 (nI (j + 1)) s'.2 := by
        intro hp
        refine ⟨(z, G), ⟨hR.congr (pushU_aE rfl rfl rfl (fun r _ => ?_) (fun f hf => ?_) (fun f i hi => rfl)), hS.congr (fun i hi => ?_), hF⟩, rfl⟩
        · show (if r = 2 then _ else _) = (if r = 2 then aG a 2 + nI (cnt (pS a U) j + (pS a U j).toNat) else _)
          rw [hp]; rfl
        · rw [hu, hp]; rfl
        · by_cases e : i = j
          · subst e
            have : pR a U i = false := by unfold pR; rw [hp]; rfl
            simp [this]
          · rw [lt_s16 e]
      cases hs : U j
      · rw [if_pos (b_f rfl), hnx]
        exact skip (by unfold pS; rw [hs]; rfl)
      · have ht := hUT j hj hs
        have e3 : G (k + 3) j = aN a 3 j := by rw [hR.num fld3 hj ht, hu]
        have e1 : G (k + 1) j = aN a 1 j := by rw [hR.num fld1 hj ht, hu]
        have e7 : G (k + 7) j = aN a 7 j := by rw [hR.num fld7 hj ht, hu]
        have e8 : G (k + 8) 1 = aG a 6 := hR.2.2.2.2.2 1 (by decide)
        have e12 : G k 12 = aG a 2 + nI (cnt (pS a U) j) := hR.2.2.2.2.1 2 (by decide)
        rw [if_neg (b_t rfl), if_pos (gin_16 hj)]
        simp only [bng, bni, cl16 hj, tc1]
        rw [gu_n1 (show k + 7 ≠ k + 1 by omega), gu_n1 (show k ≠ k + 7 by omega), gu_n1 (show k ≠ k + 1 by omega), hnx, e3, e1, e7, e8, e12]
        by_cases hd : aN a 3 j = 0
        · have hp : pS a U j = true := by unfold pS; rw [hs]; simp [hd]
          rw [if_pos hd]
          have hRn : R1 (gu (gu (gu G (k + 1) j (pP (sFull a) (aG a 6) (aN a 1 j))) (k + 7) j (aN a 7 j + 1)) k (10 + 2) (aG a 2 + nI (cnt (pS a U) j) + 1)) k (sPushU (j + 1) a U) := by
            refine (((hR.nu fld1 hj).nu fld7 hj).gl (by decide)).congr (pushU_aE rfl rfl rfl (fun r _ => ?_) (fun f hf => ?_) (fun f i hi => ?_))
            · show (if r = 2 then _ else if r = 2 then _ else _) = (if r = 2 then aG a 2 + nI (cnt (pS a U) j + (pS a U j).toNat) else _)
              by_cases e : r = 2
              · rw [if_pos e, if_pos e, hp]
                show _ = aG a 2 + nI (cnt (pS a U) j + 1)
                rw [nI_succ, Int32.add_assoc]
              · rw [if_neg e, if_neg e, if_neg e]
            · show (if f = 7 ∧ j = j then _ else if f = 1 ∧ j = j then _ else aN (sPushU j a U) f j) = _
              rw [hu, hp]
              rcases hf with rfl | rfl | rfl | rfl | rfl | rfl <;> simp
            · show (if f = 7 ∧ i = j then _ else if f = 1 ∧ i = j then _ else aN (sPushU j a U) f i) = _
              rw [if_neg (by omega), if_neg (by omega)]
          have hFn : frm G0 (gu (gu (gu G (k + 1) j (pP (sFull a) (aG a 6) (aN a 1 j))) (k + 7) j (aN a 7 j + 1)) k (10 + 2) (aG a 2 + nI (cnt (pS a U) j) + 1)) k := ((hF.gu (by omega) (by omega)).gu (by omega) (by omega)).gu (by omega) (by omega)
          have hpR : pR a U j = decide (¬ pZ (aG a 6) (aN a 1 j) < sFull a) := by unfold pR; rw [hp]; simp
          by_cases hlt : pZ (aG a 6) (aN a 1 j) < sFull a
          · rw [if_pos (by exact hlt)]
            refine ⟨(z, _), ⟨hRn, hS.congr (fun i hi => ?_), hFn⟩, rfl⟩
            by_cases e : i = j
            · subst e; rw [hpR]; simp [hlt]
            · rw [lt_s16 e]
          · rw [if_neg (by exact hlt)]
            refine ⟨(z ||| (1 : Int32) <<< (nI j &&& 31), _), ⟨hRn, (hS.add hj).congr (fun i hi => ?_), hFn⟩, rfl⟩
            by_cases e : i = j
            · subst e; rw [hpR]; simp [hlt]
            · rw [lt_s16 e]; simp [e]
        · rw [if_neg hd]
          exact skip (by unfold pS; rw [hs]; simp [hd])
  obtain ⟨s, ⟨h1, h2, h3⟩, h4⟩ := key
  refine ⟨s.1, s.2, ?_, h1, h2.congr (fun i hi => by simp [hi]), h3⟩
  unfold sh_X1_pushAll
  rw [X1_full hR0, obp_s]
  exact h4

def cj (a : AM) (B : Nat → Bool) (j i : Nat) : Nat := cnt (fun b => B b && aL a b i) j
def dz (a : AM) (W : Nat → Bool) (i : Nat) : Bool := W i && decide (aN a 3 i = 0)
def sPF (j : Nat) (a : AM) (B W : Nat → Bool) : AM := (aT a, aO a, aL a, fun f i => if dz a W i then (if f = 1 then pIt (sFull a) (aG a 6) (cj a B j i) (aN a 1 i) else if f = 7 then aN a 7 i + nI (cj a B j i) else aN a f i) else aN a f i, fun r => if r = 2 then aG a 2 + nI (dsum (fun b => cnt (fun i => B b && (aL a b i && dz a W i)) 16) j) else aG a r)
def rPF (j : Nat) (a : AM) (B W : Nat → Bool) (i : Nat) : Bool := dz a W i && (decide (0 < cj a B j i) && decide (¬ pIt (sFull a) (aG a 6) (cj a B j i) (aN a 1 i) < sFull a))
theorem wf_full {a : AM} (h : wf a) : (sFull a).toInt = 100 * (aG a 5).toInt ∧ (sFull a).toInt ≤ 20000 := by
  obtain ⟨_, _, _, _, h5, h6, _⟩ := h
  unfold sFull
  rw [I_mul (by rw [I_100]; omega) (by rw [I_100]; omega), I_100]
  omega
theorem wf_ph {a : AM} (h : wf a) {i : Nat} (hi : i < 16) (ht : aT a i = true) : 0 ≤ (aN a 1 i).toInt ∧ (aN a 1 i).toInt < (sFull a).toInt := by
  have h1 := (h.2.2.2.1 i hi ht)
  have h2 := wf_full h
  omega
theorem nI_00 (x : Int32) : x + nI 0 = x := by rw [nI_0, Int32.add_zero]
theorem X1_pushFrom {G0 : gG} {k : Nat} {a : AM} {x y : Int32} {B W : Nat → Bool} (hw : wf a) (hx : isS x B) (hy : isS y W) (hWT : ∀ i, i < 16 → W i = true → aT a i = true) (hR0 : R1 G0 k a) : ∃ r G', sh_X1_pushFrom k x y G0 = some (r, G') ∧ R1 G' k (sPF 16 a B W) ∧ isS r (rPF 16 a B W) ∧ frm G0 G' k := by
  have key : ∃ s : Int32 × gG, (R1 s.2 k (sPF 16 a B W) ∧ isS s.1 (rPF 16 a B W) ∧ frm G0 s.2 k) ∧ sh_X1_pushFrom_5 k (fun l3 G => some (l3, G)) FU x y 0 (nI 0) G0 = some (s.1, s.2) := by
    have h0 : R1 G0 k (sPF 0 a B W) := hR0.congr ⟨fun _ _ => rfl, fun _ _ => rfl, fun _ _ _ _ => rfl, fun f i _ _ _ => by
      show _ = (if dz a W i then (if f = 1 then aN a 1 i else if f = 7 then aN a 7 i + nI 0 else aN a f i) else aN a f i)
      rw [nI_00]
      by_cases e1 : f = 1
      · simp [e1]
      · by_cases e7 : f = 7
        · simp [e7]
        · simp [e1, e7], fun r _ => by
      show _ = (if r = 2 then aG a 2 + nI 0 else aG a r)
      rw [nI_00]
      by_cases e : r = 2
      · simp [e]
      · simp [e]⟩
    refine forl 16 (fun n j s => sh_X1_pushFrom_5 k (fun l3 G => some (l3, G)) n x y s.1 (nI j) s.2) (fun j s => R1 s.2 k (sPF j a B W) ∧ isS s.1 (rPF j a B W) ∧ frm G0 s.2 k) (fun s => some (s.1, s.2)) ?_ ?_ 16 0 FU (0, G0) rfl (by decide) ⟨h0, isS_0.congr (fun i _ => by
      show false = (dz a W i && (decide (0 < 0) && _))
      simp), frm.rf⟩
    · intro n s _
      show sh_X1_pushFrom_5 k _ (n + 1) x y s.1 (nI 16) s.2 = _
      rw [sh_X1_pushFrom_5.eq_2, if_pos (by decide)]
    · intro n j s hj ⟨hR, hS, hF⟩
      obtain ⟨z, G⟩ := s
      have hnx : nI j + 1 = nI (j + 1) := nI_1 j
      show ∃ s', _ ∧ sh_X1_pushFrom_5 k _ (n + 1) x y z (nI j) G = _
      dsimp only at hR hS hF
      have hh : sh_X3_holds x (nI j) = b2i (B j) := holds_is hx hj
      rw [sh_X1_pushFrom_5.eq_2, if_neg (nj16 hj), hh]
      cases hs : B j
      · have hc : ∀ i, cj a B (j + 1) i = cj a B j i := fun i => by
          show cj a B j i + (B j && aL a j i).toNat = _
          rw [hs]; rfl
        have hd : dsum (fun b => cnt (fun i => B b && (aL a b i && dz a W i)) 16) (j + 1) = dsum (fun b => cnt (fun i => B b && (aL a b i && dz a W i)) 16) j := by
          show _ + cnt (fun i => B j && _) 16 = _
          rw [cnt_0.mpr (fun i _ => by rw [hs]; rfl)]; rfl
        rw [if_pos (b_f rfl), hnx]
        refine ⟨(z, G), ⟨?_, ?_, hF⟩, rfl⟩
        · show R1 G k (sPF (j + 1) a B W)
          unfold sPF; rw [hd]; simp only [hc]; exact hR
        · show isS z (rPF (j + 1) a B W)
          unfold rPF; simp only [hc]; exact hS
      · rw [if_neg (b_t rfl), if_pos (gin_16 hj), cl16 hj]
        have hU : isS (G (k + 4) j &&& y) (fun i => aL a j i && W i) := (hR.2.2.1 j hj).and hy
        obtain ⟨r, G', e1, e2, e3, e4⟩ := X1_pushAll (a := sPF j a B W) hU (fun i hi h => hWT i hi (by simp at h; exact h.2)) hR
        rw [e1, obi_s, hnx]
        have hps : ∀ i, pS (sPF j a B W) (fun i => aL a j i && W i) i = (aL a j i && dz a W i) := fun i => by
          unfold pS
          have : aN (sPF j a B W) 3 i = aN a 3 i := by
            show (if dz a W i then (if (3 : Nat) = 1 then _ else if (3 : Nat) = 7 then _ else aN a 3 i) else aN a 3 i) = _
            simp
          rw [this]; unfold dz
          exact Bool.and_assoc _ _ _
        have hc : ∀ i, cj a B (j + 1) i = cj a B j i + (aL a j i).toNat := fun i => by
          show cj a B j i + (B j && aL a j i).toNat = _
          rw [hs]; rfl
        refine ⟨(z ||| r, G'), ⟨e2.congr ⟨fun _ _ => rfl, fun _ _ => rfl, fun _ _ _ _ => rfl, fun f i hf hi ht => ?_, fun q _ => ?_⟩, (hS.or e3).congr (fun i hi => ?_), hF.trans e4⟩, rfl⟩
        · show (if i < 16 then (if pS (sPF j a B W) _ i then (if f = 1 then pP (sFull a) (aG a 6) (aN (sPF j a B W) 1 i) else if f = 7 then aN (sPF j a B W) 7 i + 1 else aN (sPF j a B W) f i) else aN (sPF j a B W) f i) else _) = (if dz a W i then (if f = 1 then pIt (sFull a) (aG a 6) (cj a B (j + 1) i) (aN a 1 i) else if f = 7 then aN a 7 i + nI (cj a B (j + 1) i) else aN a f i) else aN a f i)
          rw [if_pos hi, hps, hc]
          have hn : ∀ g, aN (sPF j a B W) g i = (if dz a W i then (if g = 1 then pIt (sFull a) (aG a 6) (cj a B j i) (aN a 1 i) else if g = 7 then aN a 7 i + nI (cj a B j i) else aN a g i) else aN a g i) := fun g => rfl
          rw [hn, hn, hn]
          cases hz : dz a W i
          · simp
          · cases hl : aL a j i
            · simp
            · by_cases e1 : f = 1
              · subst e1; simp [pIt]
              · by_cases e7 : f = 7
                · subst e7; simp
                  rw [nI_succ, Int32.add_assoc]
                · simp [e1, e7]
        · show (if q = 2 then aG (sPF j a B W) 2 + nI (cnt (pS (sPF j a B W) _) 16) else aG (sPF j a B W) q) = (if q = 2 then aG a 2 + nI (dsum _ j + cnt (fun i => B j && (aL a j i && dz a W i)) 16) else aG a q)
          by_cases e : q = 2
          · rw [if_pos e, if_pos e]
            rw [cnt_congr (S' := fun i => B j && (aL a j i && dz a W i)) (fun i _ => by rw [hps, hs]; rfl)]
            rw [← nI_add, ← Int32.add_assoc]; rfl
          · rw [if_neg e, if_neg e]
            show (if q = 2 then _ else _) = _
            rw [if_neg e]
        · unfold pR
          rw [hps]
          show (rPF j a B W i || (aL a j i && dz a W i && decide (¬ pZ (aG a 6) (aN (sPF j a B W) 1 i) < sFull a))) = rPF (j + 1) a B W i
          unfold rPF
          rw [hc]
          have hn : aN (sPF j a B W) 1 i = (if dz a W i then pIt (sFull a) (aG a 6) (cj a B j i) (aN a 1 i) else aN a 1 i) := by
            show (if dz a W i then (if (1 : Nat) = 1 then _ else _) else _) = _
            rw [if_pos rfl]
          rw [hn]
          cases hz : dz a W i
          · simp
          · have hwt : aT a i = true := hWT i hi (by unfold dz at hz; simp at hz; exact hz.1)
            obtain ⟨p1, p2⟩ := wf_ph hw hi hwt
            obtain ⟨q1, q2⟩ := wf_full hw
            have hg := hw.2.2.2.2.2.2
            cases hl : aL a j i
            · simp
            · have hs1 := pIt_s p1 (by omega) q2 hg.1 hg.2.1 (cj a B j i)
              have hi1 := pIt_i p1 (Int.le_of_lt p2) q2 hg.1 hg.2.1 (cj a B j i)
              have hp3 := (pP_i (f := sFull a) (p := aG a 6) (x := pIt (sFull a) (aG a 6) (cj a B j i) (aN a 1 i)) (by omega) hi1.2 q2 hg.1 hg.2.1).2.2
              have hp4 : pIt (sFull a) (aG a 6) (cj a B j i + 1) (aN a 1 i) = pP (sFull a) (aG a 6) (pIt (sFull a) (aG a 6) (cj a B j i) (aN a 1 i)) := rfl
              rw [if_pos rfl]
              by_cases h1 : pZ (aG a 6) (pIt (sFull a) (aG a 6) (cj a B j i) (aN a 1 i)) < sFull a
              · have h2 := hp3.mp h1
                rw [← hp4] at h2
                have h3 : pIt (sFull a) (aG a 6) (cj a B j i) (aN a 1 i) < sFull a := by
                  rcases Classical.em (pIt (sFull a) (aG a 6) (cj a B j i) (aN a 1 i) < sFull a) with q | q
                  · exact q
                  · exact absurd h2 (hs1 q)
                simp [h1, h2, h3]
              · have h2 : ¬ pIt (sFull a) (aG a 6) (cj a B j i + 1) (aN a 1 i) < sFull a := by
                  rw [hp4]; exact fun q => h1 (hp3.mpr q)
                simp [h1, h2]
  obtain ⟨s, ⟨h1, h2, h3⟩, h4⟩ := key
  refine ⟨s.1, s.2, ?_, h1, h2, h3⟩
  unfold sh_X1_pushFrom
  exact h4

