-- the model's row: pushes, the whole tick
theorem pb_aE {a b a' : AM} {j : Nat} (hT : aT b = aT a) (hO : aO b = aO a) (hL : aL b = aL a) (hT' : aT a' = aT a) (hO' : aO a' = aO a) (hL' : aL a' = aL a) (hG : ∀ r, r < 8 → aG b r = aG a' r) (h1 : ∀ f, fld f → aN b f j = aN a' f j) (h2 : ∀ f i, fld f → i < 16 → i ≠ j → aN b f i = aN a' f i) : aE b a' := by
  refine ⟨fun i _ => by rw [hT, hT'], fun i _ => by rw [hO, hO'], fun i j _ _ => by rw [hL, hL'], fun f i hf hi _ => ?_, hG⟩
  by_cases e : i = j
  · subst e; exact h1 f hf
  · exact h2 f i hf hi e
/-- some pushes of the lamp j -/
def sPJ (a : AM) (j t : Nat) : AM := (aT a, aO a, aL a, fun f i => if i = j then (if f = 1 then pIt (sFull a) (aG a 6) t (aN a 1 i) else if f = 7 then aN a 7 i + nI t else aN a f i) else aN a f i, fun r => if r = 2 then aG a 2 + nI t else aG a r)
theorem X4_push_in {j : Nat} (hj : j < 16) (kt : Int32 → Int32 → Int32 → Int32 → gG → Option (Int32 × gG)) {a : AM} (ht : aT a j = true) (l1 l2 : Int32) : ∀ (d t n : Nat) (G : gG) (x : Int32), d < n → M2 G (sPJ a j t) → d + t < 1000 → ∃ G', sh_X4_push_63 kt n l1 l2 x (nI j) (nI d) G = kt l1 l2 (if d = 0 then x else x ||| (1 : Int32) <<< (nI j &&& 31)) (nI j) G' ∧ M2 G' (sPJ a j (t + d)) ∧ frq G G' 72 := by
  intro d
  induction d with
  | zero =>
    intro t n G x hn hR _
    obtain ⟨n, rfl⟩ : ∃ k, n = k + 1 := ⟨n - 1, by omega⟩
    rw [sh_X4_push_63.eq_2, if_pos (by decide), if_pos rfl]
    exact ⟨G, rfl, hR, frq.rf⟩
  | succ d ih =>
    intro t n G x hn hR hb
    obtain ⟨n, rfl⟩ : ∃ k, n = k + 1 := ⟨n - 1, by omega⟩
    have h0 : ¬ nI (d + 1) ≤ 0 := nI_nle (by omega) (by omega)
    have n1 : G 72 (8 + 9 * j + 1) = pIt (sFull a) (aG a 6) t (aN a 1 j) := by
      have := m_n hR (f := 1) fld1 hj ht
      rw [show aN (sPJ a j t) 1 j = pIt (sFull a) (aG a 6) t (aN a 1 j) by show (if j = j then _ else _) = _; rw [if_pos rfl]; rfl] at this
      exact this
    have n7 : G 72 (8 + 9 * j + 7) = aN a 7 j + nI t := by
      have := m_n hR (f := 7) fld7 hj ht
      rw [show aN (sPJ a j t) 7 j = aN a 7 j + nI t by show (if j = j then _ else _) = _; rw [if_pos rfl]; rfl] at this
      exact this
    have g6 : G 72 6 = aG a 6 := m_g hR (by decide)
    have g2 : G 72 2 = aG a 2 + nI t := m_g hR (by decide)
    have hr : sh_X4_round G = some (sFull a) := X4_round (a := sPJ a j t) hR
    rw [sh_X4_push_63.eq_2, if_neg h0, X4_of1 hj, hr, tc6, n1, g6]
    simp only [obp_s, bni_s]
    have hpd : nI (d + 1) + -1 = nI d := pk_m1 d
    have fin : ∀ y, y = pP (sFull a) (aG a 6) (pIt (sFull a) (aG a 6) t (aN a 1 j)) → ∃ G', sh_X4_push_j118 kt (sh_X4_push_63 kt n) l1 l2 x (nI j) (nI (d + 1)) (nI j) 1 y G = kt l1 l2 (if d + 1 = 0 then x else x ||| (1 : Int32) <<< (nI j &&& 31)) (nI j) G' ∧ M2 G' (sPJ a j (t + (d + 1))) ∧ frq G G' 72 := by
      intro y hy
      unfold sh_X4_push_j118
      rw [X4_put1 hj, obv_s, X4_of7 hj, obp_s, X4_put7 hj, obv_s, tc2, bng_s, gu_n2 (by omega), gu_n2 (by omega), gu_n2 (by omega), n7, g2, hpd]
      have hRn : M2 (gu (gu (gu G 72 (8 + 9 * j + 1) y) 72 (8 + 9 * j + 7) (aN a 7 j + nI t + 1)) 72 2 (aG a 2 + nI t + 1)) (sPJ a j (t + 1)) := by
        refine (((hR.n (f := 1) (x := y) fld1 hj).n (f := 7) (x := aN a 7 j + nI t + 1) fld7 hj).g (j := 2) (x := aG a 2 + nI t + 1) (by decide)).congr (pb_aE (a := a) (j := j) rfl rfl rfl rfl rfl rfl (fun r _ => ?_) (fun f hf => ?_) (fun f i hf hi e => ?_))
        · show (if r = 2 then _ else if r = 2 then _ else _) = (if r = 2 then _ else _)
          by_cases q : r = 2
          · rw [if_pos q, if_pos q, nI_succ, Int32.add_assoc]
          · rw [if_neg q, if_neg q, if_neg q]
        · show (if f = 7 ∧ j = j then _ else if f = 1 ∧ j = j then _ else aN (sPJ a j t) f j) = (if j = j then (if f = 1 then pP (sFull a) (aG a 6) (pIt (sFull a) (aG a 6) t (aN a 1 j)) else if f = 7 then aN a 7 j + nI (t + 1) else aN a f j) else _)
          rw [if_pos (rfl : j = j), nI_succ, ← Int32.add_assoc, ← hy]
          have hu : aN (sPJ a j t) f j = (if f = 1 then pIt (sFull a) (aG a 6) t (aN a 1 j) else if f = 7 then aN a 7 j + nI t else aN a f j) := by show (if j = j then _ else _) = _; rw [if_pos rfl]
          rw [hu]
          rcases hf with rfl | rfl | rfl | rfl | rfl | rfl <;> simp
        · show (if f = 7 ∧ i = j then _ else if f = 1 ∧ i = j then _ else (if i = j then _ else _)) = (if i = j then _ else _)
          rw [if_neg (by omega), if_neg (by omega), if_neg e, if_neg e]
      obtain ⟨G', e1, e2, e3⟩ := ih (t + 1) n _ (x ||| (1 : Int32) <<< (nI j &&& 31)) (by omega) hRn (by omega)
      rw [e1]
      refine ⟨G', ?_, by rw [show t + (d + 1) = t + 1 + d by omega]; exact e2, (frq.rf.gu.gu.gu).trans e3⟩
      rw [if_neg (show ¬ d + 1 = 0 by omega)]
      by_cases hd : d = 0
      · rw [if_pos hd]
      · rw [if_neg hd]
        have e : x ||| (1 : Int32) <<< (nI j &&& 31) ||| (1 : Int32) <<< (nI j &&& 31) = x ||| (1 : Int32) <<< (nI j &&& 31) := bt_ext (fun i _ => by
          rw [bt_or, bt_or, Bool.or_assoc, Bool.or_self])
        rw [e]
    by_cases hle : pIt (sFull a) (aG a 6) t (aN a 1 j) + pIt (sFull a) (aG a 6) t (aN a 1 j) * aG a 6 / 100 ≤ sFull a
    · rw [if_pos hle]
      refine fin _ ?_
      show _ = (if sFull a < pZ (aG a 6) (pIt (sFull a) (aG a 6) t (aN a 1 j)) then _ else _)
      rw [if_neg (by intro q; rw [I_lt] at q; rw [I_le] at hle; unfold pZ at q; omega)]; rfl
    · rw [if_neg hle]
      refine fin _ ?_
      show _ = (if sFull a < pZ (aG a 6) (pIt (sFull a) (aG a 6) t (aN a 1 j)) then _ else _)
      rw [if_pos (by rw [I_le] at hle; rw [I_lt]; unfold pZ; omega)]
def cz (a : AM) (B W : Nat → Bool) (i : Nat) : Nat := if dz a W i then cj a B 16 i else 0
/-- pushes of the lamps below j -/
def sPM (j : Nat) (a : AM) (B W : Nat → Bool) : AM := (aT a, aO a, aL a, fun f i => if i < j then (if f = 1 then pIt (sFull a) (aG a 6) (cz a B W i) (aN a 1 i) else if f = 7 then aN a 7 i + nI (cz a B W i) else aN a f i) else aN a f i, fun r => if r = 2 then aG a 2 + nI (dsum (cz a B W) j) else aG a r)
theorem sPM_aE (a : AM) (B W : Nat → Bool) : aE (sPM 16 a B W) (sPF 16 a B W) := by
  refine ⟨fun _ _ => rfl, fun _ _ => rfl, fun _ _ _ _ => rfl, fun f i hf hi _ => ?_, fun r _ => ?_⟩
  · show (if i < 16 then (if f = 1 then pIt (sFull a) (aG a 6) (cz a B W i) (aN a 1 i) else if f = 7 then aN a 7 i + nI (cz a B W i) else aN a f i) else _) = (if dz a W i then (if f = 1 then pIt (sFull a) (aG a 6) (cj a B 16 i) (aN a 1 i) else if f = 7 then aN a 7 i + nI (cj a B 16 i) else aN a f i) else aN a f i)
    rw [if_pos hi]
    unfold cz
    cases hz : dz a W i
    · simp
      by_cases e1 : f = 1
      · simp [e1, pIt]
      · by_cases e7 : f = 7
        · simp [e7, nI_00]
        · simp [e1, e7]
    · simp
  · show (if r = 2 then aG a 2 + nI (dsum (cz a B W) 16) else aG a r) = (if r = 2 then aG a 2 + nI (dsum (fun b => cnt (fun i => B b && (aL a b i && dz a W i)) 16) 16) else aG a r)
    rw [dsum_swap (fun b i => B b && (aL a b i && dz a W i)) 16 16]
    rw [dsum_congr (P := cz a B W) (Q := fun i => cnt (fun b => B b && (aL a b i && dz a W i)) 16)]
    intro i _
    unfold cz cj
    cases hz : dz a W i
    · simp
      exact (cnt_0.mpr (fun _ _ => rfl)).symm
    · simp
theorem dz_e (a : AM) (Bl : Nat → Bool) (j : Nat) : dz a (fun i => aO a i && !Bl i) j = ((aO a j && !Bl j) && decide (aN a 3 j = 0)) := rfl
theorem X4_push {G0 : gG} {a : AM} {x y : Int32} {B Bl : Nat → Bool} (hw : wf a) (hx : isS x B) (hy : isS y Bl) (hR0 : M2 G0 a) : ∃ r G', sh_X4_push x y G0 = some (r, G') ∧ M2 G' (sPF 16 a B (fun i => aO a i && !Bl i)) ∧ isS r (fun i => dz a (fun i => aO a i && !Bl i) i && decide (0 < cj a B 16 i)) ∧ frq G0 G' 72 := by
  have key : ∃ s : Int32 × gG, (M2 s.2 (sPM 16 a B (fun i => aO a i && !Bl i)) ∧ isS s.1 (fun i => decide (i < 16) && decide (0 < cz a B (fun i => aO a i && !Bl i) i)) ∧ frq G0 s.2 72) ∧ sh_X4_push_5 (fun l3 G => some (l3, G)) FU x y 0 (nI 0) G0 = some (s.1, s.2) := by
    have h0 : M2 G0 (sPM 0 a B (fun i => aO a i && !Bl i)) := hR0.congr ⟨fun _ _ => rfl, fun _ _ => rfl, fun _ _ _ _ => rfl, fun f i _ _ _ => rfl, fun r _ => by
      show _ = (if r = 2 then aG a 2 + nI 0 else aG a r)
      rw [nI_00]
      by_cases e : r = 2
      · simp [e]
      · simp [e]⟩
    refine forl 16 (fun n j s => sh_X4_push_5 (fun l3 G => some (l3, G)) n x y s.1 (nI j) s.2) (fun j s => M2 s.2 (sPM j a B (fun i => aO a i && !Bl i)) ∧ isS s.1 (fun i => decide (i < j) && decide (0 < cz a B (fun i => aO a i && !Bl i) i)) ∧ frq G0 s.2 72) (fun s => some (s.1, s.2)) ?_ ?_ 16 0 FU (0, G0) rfl (by decide) ⟨h0, isS_0.congr (fun i _ => by simp), frq.rf⟩
    · intro n s _
      show sh_X4_push_5 _ (n + 1) x y s.1 (nI 16) s.2 = _
      rw [sh_X4_push_5.eq_2, if_pos (by decide)]
    · intro n j s hj ⟨hR, hS, hF⟩
      obtain ⟨z, G⟩ := s
      have hnx : nI j + 1 = nI (j + 1) := nI_1 j
      show ∃ s', _ ∧ sh_X4_push_5 _ (n + 1) x y z (nI j) G = _
      dsimp only at hR hS hF
      have hh : sh_X4_has y (nI j) = b2i (Bl j) := has_is hy hj
      rw [sh_X4_push_5.eq_2, if_neg (nj16 hj), hh]
      have hu : ∀ f, aN (sPM j a B (fun i => aO a i && !Bl i)) f j = aN a f j := fun f => by show (if j < j then _ else _) = _; rw [if_neg (by omega)]
      -- with nobody that pushes
      have run0 : dz a (fun i => aO a i && !Bl i) j = false → ∃ s' : Int32 × gG, (M2 s'.2 (sPM (j + 1) a B (fun i => aO a i && !Bl i)) ∧ isS s'.1 (fun i => decide (i < j + 1) && decide (0 < cz a B (fun i => aO a i && !Bl i) i)) ∧ frq G0 s'.2 72) ∧ sh_X4_push_j40 (fun l3 G => some (l3, G)) (sh_X4_push_5 (fun l3 G => some (l3, G)) n) x y z (nI j) G = sh_X4_push_5 (fun l3 G => some (l3, G)) n x y s'.1 (nI (j + 1)) s'.2 := by
        intro hz
        have hc : cz a B (fun i => aO a i && !Bl i) j = 0 := by unfold cz; rw [hz]; rfl
        unfold sh_X4_push_j40 sh_X4_push_j54
        rw [bits_eq isS_0, obp_s, cnt_0.mpr (fun _ _ => rfl)]
        have e63 : ∀ kt, sh_X4_push_63 kt FU x y z (nI j) (nI 0) G = kt x y z (nI j) G := fun kt => by
          show sh_X4_push_63 kt (3999 + 1) x y z (nI j) (nI 0) G = _
          rw [sh_X4_push_63.eq_2, if_pos (by decide)]
        rw [e63, hnx]
        refine ⟨(z, G), ⟨hR.congr (pb_aE (a := a) (j := j) rfl rfl rfl rfl rfl rfl (fun r _ => ?_) (fun f hf => ?_) (fun f i hf hi e => ?_)), hS.congr (fun i hi => ?_), hF⟩, rfl⟩
        · show (if r = 2 then aG a 2 + nI (dsum _ j) else _) = (if r = 2 then aG a 2 + nI (dsum _ j + cz a B (fun i => aO a i && !Bl i) j) else _)
          rw [hc]; rfl
        · rw [hu]
          show _ = (if j < j + 1 then (if f = 1 then pIt (sFull a) (aG a 6) (cz a B (fun i => aO a i && !Bl i) j) (aN a 1 j) else if f = 7 then aN a 7 j + nI (cz a B (fun i => aO a i && !Bl i) j) else aN a f j) else _)
          rw [if_pos (by omega), hc, nI_00]
          rcases hf with rfl | rfl | rfl | rfl | rfl | rfl <;> simp [pIt]
        · show (if i < j then _ else _) = (if i < j + 1 then _ else _)
          by_cases q : i < j
          · rw [if_pos q, if_pos (show i < j + 1 by omega)]
          · rw [if_neg q, if_neg (show ¬ i < j + 1 by omega)]
        · by_cases e : i = j
          · subst e; rw [hc]; simp
          · rw [lt_s16 e]
      cases hb : Bl j
      · rw [if_pos (b_f rfl), X4_isOn hR hw.1 hj, obp_s]
        show ∃ s', _ ∧ (if b2i (aO a j) = 0 then _ else _) = _
        cases ho : aO a j
        · rw [if_pos (b_f rfl)]
          exact run0 (by rw [dz_e, ho]; rfl)
        · have ht := hw.1 j hj ho
          have n3 : G 72 (8 + 9 * j + 4) = aN a 3 j := by
            have := m_n hR (f := 3) fld3 hj ht; rw [hu] at this; exact this
          rw [if_neg (b_t rfl), X4_of4 hj, obp_s, n3]
          have hd0 := (hw.2.2.2.1 j hj ht).2.2.2.2
          by_cases hd : aN a 3 j ≤ 0
          · have hd3 : aN a 3 j = 0 := by rw [I_le, I_0] at hd; rw [I_eq, I_0]; omega
            have hz : dz a (fun i => aO a i && !Bl i) j = true := by rw [dz_e, ho, hb, hd3]; rfl
            have hl : isS (G 72 (8 + 9 * j + 8) &&& x) (fun b => aL a j b && B b) := (m_l hR hj).and hx
            have hcn : cnt (fun b => aL a j b && B b) 16 = cz a B (fun i => aO a i && !Bl i) j := by
              unfold cz; rw [hz, if_pos rfl]
              exact cnt_congr (fun b hb2 => by rw [hw.2.1 j b hj hb2, Bool.and_comm])
            have hc16 := cnt_le (fun b => aL a j b && B b) 16
            rw [if_pos hd, X4_of8 hj, obp_s]
            unfold sh_X4_push_j54
            rw [bits_eq hl, obp_s, hcn]
            rw [hcn] at hc16
            obtain ⟨G', e1, e2, e3⟩ := X4_push_in hj (fun l1 l2 l3 l4 G => sh_X4_push_5 (fun l3 G => some (l3, G)) n l1 l2 l3 (l4 + 1) G) (a := sPM j a B (fun i => aO a i && !Bl i)) ht x y (cz a B (fun i => aO a i && !Bl i) j) 0 FU G z (by unfold FU; omega) (hR.congr (pb_aE (a := a) (j := j) rfl rfl rfl rfl rfl rfl (fun r _ => by
              show _ = (if r = 2 then aG (sPM j a B (fun i => aO a i && !Bl i)) 2 + nI 0 else _)
              rw [nI_00]
              by_cases q : r = 2
              · rw [if_pos q, q]
              · rw [if_neg q]) (fun f hf => by
              show _ = (if j = j then (if f = 1 then aN (sPM j a B (fun i => aO a i && !Bl i)) 1 j else if f = 7 then aN (sPM j a B (fun i => aO a i && !Bl i)) 7 j + nI 0 else aN (sPM j a B (fun i => aO a i && !Bl i)) f j) else _)
              rw [if_pos (rfl : j = j), nI_00]
              rcases hf with rfl | rfl | rfl | rfl | rfl | rfl <;> simp) (fun f i hf hi e => by
              show _ = (if i = j then _ else _)
              rw [if_neg e]))) (by omega)
            rw [e1, hnx]
            refine ⟨(if cz a B (fun i => aO a i && !Bl i) j = 0 then z else z ||| (1 : Int32) <<< (nI j &&& 31), G'), ⟨e2.congr (pb_aE (a := a) (j := j) rfl rfl rfl rfl rfl rfl (fun r _ => ?_) (fun f hf => ?_) (fun f i hf hi e => ?_)), ?_, hF.trans e3⟩, rfl⟩
            · show (if r = 2 then aG a 2 + nI (dsum _ j) + nI (0 + cz a B (fun i => aO a i && !Bl i) j) else (if r = 2 then _ else _)) = (if r = 2 then aG a 2 + nI (dsum _ j + cz a B (fun i => aO a i && !Bl i) j) else _)
              rw [Nat.zero_add, ← nI_add, ← Int32.add_assoc]
              by_cases q : r = 2
              · rw [if_pos q, if_pos q]
              · rw [if_neg q, if_neg q, if_neg q]
            · show (if j = j then (if f = 1 then pIt (sFull a) (aG a 6) (0 + cz a B (fun i => aO a i && !Bl i) j) (aN (sPM j a B (fun i => aO a i && !Bl i)) 1 j) else if f = 7 then aN (sPM j a B (fun i => aO a i && !Bl i)) 7 j + nI (0 + cz a B (fun i => aO a i && !Bl i) j) else aN (sPM j a B (fun i => aO a i && !Bl i)) f j) else _) = (if j < j + 1 then (if f = 1 then pIt (sFull a) (aG a 6) (cz a B (fun i => aO a i && !Bl i) j) (aN a 1 j) else if f = 7 then aN a 7 j + nI (cz a B (fun i => aO a i && !Bl i) j) else aN a f j) else _)
              rw [if_pos (rfl : j = j), if_pos (show j < j + 1 by omega), Nat.zero_add, hu, hu, hu]
            · show (if i = j then _ else (if i < j then _ else _)) = (if i < j + 1 then _ else _)
              rw [if_neg e]
              by_cases q : i < j
              · rw [if_pos q, if_pos (show i < j + 1 by omega)]
              · rw [if_neg q, if_neg (show ¬ i < j + 1 by omega)]
            · by_cases hc : cz a B (fun i => aO a i && !Bl i) j = 0
              · show isS (if _ then _ else _) _
                rw [if_pos hc]
                refine hS.congr (fun i hi => ?_)
                by_cases e : i = j
                · subst e; rw [hc]; simp
                · rw [lt_s16 e]
              · show isS (if _ then _ else _) _
                rw [if_neg hc]
                refine (hS.add hj).congr (fun i hi => ?_)
                by_cases e : i = j
                · subst e
                  have : 0 < cz a B (fun i => aO a i && !Bl i) i := by omega
                  simp [this]
                · rw [lt_s16 e]; simp [e]
          · rw [if_neg hd]
            refine run0 ?_
            rw [dz_e, ho, hb]
            have : ¬ aN a 3 j = 0 := by intro q; apply hd; rw [q]; decide
            simp [this]
      · rw [if_neg (b_t rfl)]
        exact run0 (by rw [dz_e, hb]; simp)
  obtain ⟨s, ⟨h1, h2, h3⟩, h4⟩ := key
  refine ⟨s.1, s.2, h4, h1.congr (sPM_aE a B _), h2.congr (fun i hi => ?_), h3⟩
  unfold cz
  cases hz : dz a (fun i => aO a i && !Bl i) i <;> simp [hi]
