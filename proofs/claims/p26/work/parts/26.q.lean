-- hub, free numbers, when together, who is next
def sHub (a : AM) : Nat → Option Nat
  | 0 => none
  | j + 1 => if aT a j then (match sHub a j with
    | none => some j
    | some f => if cnt (aL a f) 16 < cnt (aL a j) 16 then some j else some f) else sHub a j
theorem m1_ne {i : Nat} (hi : i < 16) : ¬ nI i = -1 := by
  intro q
  have := nI_pos (n := i) (by omega)
  rw [q] at this; exact this (by decide)
theorem m5_ne {i : Nat} (hi : i < 1000) : ¬ nI i = -5 := by
  intro q
  have := nI_pos (n := i) (by omega)
  rw [q] at this; exact this (by decide)
theorem X1_hub {G : gG} {k : Nat} {a : AM} (h : R1 G k a) : (sHub a 16 = none → sh_X1_lampWithMostLinks k G = some (-1)) ∧ (∀ f, sHub a 16 = some f → f < 16 ∧ sh_X1_lampWithMostLinks k G = some (nI f)) := by
  obtain ⟨s, h1, h2⟩ := forl 16 (fun n j (s : Int32 × Int32) => sh_X1_lampWithMostLinks_6 k G (fun l1 => some l1) n s.1 s.2 (nI j)) (fun j s => (sHub a j = none ∧ s = (-1, -1)) ∨ (∃ f, sHub a j = some f ∧ f < 16 ∧ s = (nI f, nI (cnt (aL a f) 16)))) (fun s => some s.1) (by
    intro n s _
    show sh_X1_lampWithMostLinks_6 k G _ (n + 1) s.1 s.2 (nI 16) = _
    rw [sh_X1_lampWithMostLinks_6.eq_2, if_pos (by decide)]) (by
    intro n j s hj hS
    obtain ⟨x, y⟩ := s
    show ∃ s', _ ∧ sh_X1_lampWithMostLinks_6 k G _ (n + 1) x y (nI j) = _
    have hh : sh_X3_holds (G k 8) (nI j) = b2i (aT a j) := holds_is h.1 hj
    have hc := cnt_le (aL a j) 16
    rw [sh_X1_lampWithMostLinks_6.eq_2, if_neg (nj16 hj), if_pos (gin_16 hj), cl16 hj, bc_eq (h.2.2.1 j hj), bni_s, hh, nI_1 j]
    cases ht : aT a j
    · have e : sHub a (j + 1) = sHub a j := by show (if aT a j then _ else _) = _; rw [ht]; rfl
      rw [if_pos (b_f rfl), e]
      exact ⟨(x, y), hS, rfl⟩
    · rw [if_neg (b_t rfl)]
      rcases hS with ⟨e1, e2⟩ | ⟨f, e1, e2, e3⟩
      · have e : sHub a (j + 1) = some j := by show (if aT a j then _ else _) = _; rw [ht, e1]; rfl
        cases e2
        rw [if_neg (by rw [I_le, nI_toInt (by omega), show (-1 : Int32).toInt = -1 by decide]; omega)]
        exact ⟨(nI j, nI (cnt (aL a j) 16)), Or.inr ⟨j, e, hj, rfl⟩, rfl⟩
      · have e : sHub a (j + 1) = if cnt (aL a f) 16 < cnt (aL a j) 16 then some j else some f := by show (if aT a j then _ else _) = _; rw [ht, e1]; rfl
        have hc2 := cnt_le (aL a f) 16
        cases e3
        by_cases q : cnt (aL a f) 16 < cnt (aL a j) 16
        · rw [if_neg (by rw [nI_leI (by omega) (by omega)]; omega)]
          exact ⟨(nI j, nI (cnt (aL a j) 16)), Or.inr ⟨j, by rw [e, if_pos q], hj, rfl⟩, rfl⟩
        · rw [if_pos (by rw [nI_leI (by omega) (by omega)]; omega)]
          exact ⟨(nI f, nI (cnt (aL a f) 16)), Or.inr ⟨f, by rw [e, if_neg q], e2, rfl⟩, rfl⟩) 16 0 FU (-1, -1) rfl (by decide) (Or.inl ⟨rfl, rfl⟩)
  have h3 : sh_X1_lampWithMostLinks k G = some s.1 := h2
  rw [h3]
  rcases h1 with ⟨e1, e2⟩ | ⟨f, e1, e2, e3⟩
  · exact ⟨fun _ => by rw [e2], fun f q => by rw [e1] at q; cases q⟩
  · exact ⟨fun q => (by rw [e1] at q; cases q), fun g q => by rw [e1] at q; cases q; exact ⟨e2, by rw [e3]⟩⟩
-- the lowest number that none has
def pFr (a : AM) (i : Nat) : Prop := i < 16 ∧ aT a i = false ∧ ∀ r, r < i → aT a r = true
theorem fr_c (a : AM) : (∀ i, i < 16 → aT a i = true) ∨ ∃ i, pFr a i := by
  rcases Classical.em (∃ i, i < 16 ∧ aT a i = false) with q | q
  · obtain ⟨i, ⟨h1, h2⟩, h3⟩ := pk_least (fun i => i < 16 ∧ aT a i = false) q
    refine Or.inr ⟨i, h1, h2, fun r hr => ?_⟩
    cases hb : aT a r
    · exact absurd ⟨by omega, hb⟩ (h3 r hr)
    · rfl
  · refine Or.inl (fun i hi => ?_)
    cases hb : aT a i
    · exact absurd ⟨i, hi, hb⟩ q
    · rfl
theorem X1_free {G : gG} {k : Nat} {a : AM} (h : R1 G k a) : ((∀ i, i < 16 → aT a i = true) → sh_X1_freeNumber k G = some (-1)) ∧ (∀ i, pFr a i → sh_X1_freeNumber k G = some (nI i)) := by
  refine forp 16 (fun n j (_ : Unit) => sh_X1_freeNumber_2 k G (some (-1)) n (nI j)) (fun j _ => ∀ i, i < j → aT a i = true) (fun r => ((∀ i, i < 16 → aT a i = true) → r = some (-1)) ∧ (∀ i, pFr a i → r = some (nI i))) ?_ ?_ 16 0 FU () rfl (by decide) (fun i hi => by omega)
  · intro n _ hS
    show ((_ → _) ∧ _)
    have e : sh_X1_freeNumber_2 k G (some (-1)) (n + 1) (nI 16) = some (-1) := by rw [sh_X1_freeNumber_2.eq_2, if_pos (by decide)]
    rw [e]
    exact ⟨fun _ => rfl, fun i hp => by have := hS i hp.1; rw [hp.2.1] at this; cases this⟩
  · intro n j _ hj hS
    have hh : sh_X3_holds (G k 8) (nI j) = b2i (aT a j) := holds_is h.1 hj
    show _ ∨ ∃ s', _ ∧ sh_X1_freeNumber_2 k G _ (n + 1) (nI j) = _
    rw [sh_X1_freeNumber_2.eq_2, if_neg (nj16 hj), hh, nI_1 j]
    cases ht : aT a j
    · rw [if_pos (b_f rfl)]
      refine Or.inl ⟨fun q => (by rw [q j hj] at ht; cases ht), fun i hp => ?_⟩
      have : i = j := by
        rcases Nat.lt_trichotomy i j with q | q | q
        · have := hS i q; rw [hp.2.1] at this; cases this
        · exact q
        · have := hp.2.2 j q; rw [ht] at this; cases this
      rw [this]
    · rw [if_neg (b_t rfl)]
      refine Or.inr ⟨(), fun i hi => ?_, rfl⟩
      by_cases e : i = j
      · subst e; exact ht
      · exact hS i (by omega)
-- when all are together
noncomputable def tgB (a : AM) : Bool := @decide (pTog a) (Classical.propDecidable _)
theorem tgB_t {a : AM} (h : pTog a) : tgB a = true := by unfold tgB; exact @decide_eq_true _ (Classical.propDecidable _) h
theorem tgB_f {a : AM} (h : ¬ pTog a) : tgB a = false := by unfold tgB; exact @decide_eq_false _ (Classical.propDecidable _) h
theorem X1_tgb {G : gG} {k : Nat} {a : AM} (hw : wf a) (h : R1 G k a) : sh_X1_isTogether k G = some (b2i (tgB a)) := by
  rcases Classical.em (pTog a) with q | q
  · rw [tgB_t q]; exact (X1_tog hw h).1 q
  · rw [tgB_f q]; exact (X1_tog hw h).2 q
noncomputable def sTg : Nat → Nat → AM → Int32
  | 0, m, a => if tgB a then nI m else -5
  | d + 1, m, a => if tgB a then nI m else sTg d (m + 1) (sTick a).1
noncomputable def sTgt (a : AM) : Int32 := if cnt (aO a) 16 = 0 then -5 else sTg 2000 0 a
theorem X3_tg_l : ∀ (d j n : Nat) (G : gG) (a : AM), j + d = 2000 → d < n → wf a → R1 G 9 a → ∃ G', sh_X3_trialTogetherIn_15 (fun G => (obp (sh_X1_isTogether 9 G) fun r7 => (if r7 = (0 : Int32) then some ((-5 : Int32), G) else some ((2000 : Int32), G)))) n (nI j) G = some (sTg d j a, G') ∧ frm G G' 9 := by
  intro d
  induction d with
  | zero =>
    intro j n G a hj hn hw hR
    obtain ⟨n, rfl⟩ : ∃ k, n = k + 1 := ⟨n - 1, by omega⟩
    have : j = 2000 := by omega
    subst this
    rw [sh_X3_trialTogetherIn_15.eq_2, if_pos (by decide), X1_tgb hw hR, obp_s]
    have e : sTg 0 2000 a = if tgB a then nI 2000 else -5 := rfl
    rw [e]
    cases tgB a
    · exact ⟨G, rfl, frm.rf⟩
    · exact ⟨G, rfl, frm.rf⟩
  | succ d ih =>
    intro j n G a hj hn hw hR
    obtain ⟨n, rfl⟩ : ∃ k, n = k + 1 := ⟨n - 1, by omega⟩
    have e : sTg (d + 1) j a = if tgB a then nI j else sTg d (j + 1) (sTick a).1 := rfl
    rw [sh_X3_trialTogetherIn_15.eq_2, if_neg (by rw [show (2000 : Int32) = nI 2000 from rfl, nI_leI (by decide) (by omega)]; omega), X1_tgb hw hR, obp_s, e]
    cases tgB a
    · rw [if_pos (b_f rfl)]
      obtain ⟨r, G1, e1, e2, e3, e4⟩ := X1_tick hw hR
      obtain ⟨G2, f1, f2⟩ := ih (j + 1) n G1 _ (by omega) (by omega) (tick_wf hw) e2
      rw [e1, obi_s, nI_1 j, f1]
      exact ⟨G2, rfl, e4.trans f2⟩
    · rw [if_neg (b_t rfl)]
      exact ⟨G, rfl, frm.rf⟩
theorem X3_tg {G : gG} {a : AM} (hw : wf a) (hR : R1 G 9 a) : ∃ G', sh_X3_trialTogetherIn G = some (sTgt a, G') ∧ frm G G' 9 := by
  unfold sh_X3_trialTogetherIn sTgt
  rw [X1_lampsOn hR]
  have hc := cnt_le (aO a) 16
  by_cases q : cnt (aO a) 16 = 0
  · rw [if_pos q, q, if_pos nI_0]; exact ⟨G, rfl, frm.rf⟩
  · rw [if_neg q, if_neg (nI_ne0 (by omega) (by omega))]
    exact X3_tg_l 2000 0 FU G a rfl (by decide) hw hR
-- who blinks next
def sNx : Nat → Nat → AM → Nat × (Nat → Bool)
  | 0, _, _ => (0, fun _ => false)
  | d + 1, j, a => if cnt (sTick a).2 16 = 0 then sNx d (j + 1) (sTick a).1 else (j + 1, (sTick a).2)
theorem quiet {a : AM} (hz : cnt (sTick a).2 16 = 0) : ∀ i, i < 16 → aO a i = true → aO (sTick a).1 i = true ∧ aN (sTick a).1 1 i = aN a 1 i + aN a 2 i := by
  have hr : cnt (sRipe (sGrow a)) 16 = 0 := by
    rcases Nat.eq_zero_or_pos (cnt (sRipe (sGrow a)) 16) with q | q
    · exact q
    · exfalso
      have mono : ∀ (d : Nat) (b : AM) (B S : Nat → Bool), ∀ i, i < 16 → B i = true → (sTickR d b B S).2 i = true := by
        intro d
        induction d with
        | zero => intro b B S i _ h; exact h
        | succ d ih =>
          intro b B S i hi h
          show (if cnt S 16 = 0 then (b, B) else sTickR d _ _ _).2 i = true
          by_cases q : cnt S 16 = 0
          · rw [if_pos q]; exact h
          · rw [if_neg q]; exact ih _ _ _ i hi (by show (B i || S i) = true; rw [h]; rfl)
      have hne : ¬ cnt (sRipe (sGrow a)) 16 = 0 := by omega
      have e : (sTick a).2 = (sTickR 15 (sPF 16 (sBlink (sGrow a) (sRipe (sGrow a))) (sRipe (sGrow a)) (fun i => aO (sGrow a) i && !(false || sRipe (sGrow a) i))) (fun i => false || sRipe (sGrow a) i) (rPF 16 (sBlink (sGrow a) (sRipe (sGrow a))) (sRipe (sGrow a)) (fun i => aO (sGrow a) i && !(false || sRipe (sGrow a) i)))).2 := by
        show (if cnt (sRipe (sGrow a)) 16 = 0 then (sGrow a, fun _ => false) else sTickR 15 _ _ _).2 = _
        rw [if_neg hne]
      apply hne
      apply cnt_0.mpr
      intro i hi
      cases hs : sRipe (sGrow a) i
      · rfl
      · have := mono 15 (sPF 16 (sBlink (sGrow a) (sRipe (sGrow a))) (sRipe (sGrow a)) (fun i => aO (sGrow a) i && !(false || sRipe (sGrow a) i))) (fun i => false || sRipe (sGrow a) i) (rPF 16 (sBlink (sGrow a) (sRipe (sGrow a))) (sRipe (sGrow a)) (fun i => aO (sGrow a) i && !(false || sRipe (sGrow a) i))) i hi (by show (false || sRipe (sGrow a) i) = true; rw [hs]; rfl)
        rw [← e, cnt_0.mp hz i hi] at this
        cases this
  have e : sTickR 16 (sGrow a) (fun _ => false) (sRipe (sGrow a)) = (sGrow a, fun _ => false) := by
    show (if cnt (sRipe (sGrow a)) 16 = 0 then _ else _) = _
    rw [if_pos hr]
  intro i hi ho
  unfold sTick
  rw [e]
  refine ⟨ho, ?_⟩
  show (if aO a i = true then (if (1 : Nat) = 1 then _ else _) else _) = _
  rw [ho]; rfl
theorem nx_ph {a : AM} (hw : wf a) {i j : Nat} (hi : i < 16) (ho : aO a i = true) (hp : (50 * j : Nat) ≤ (aN a 1 i).toInt) (hz : cnt (sTick a).2 16 = 0) : aO (sTick a).1 i = true ∧ (50 * (j + 1) : Nat) ≤ (aN (sTick a).1 1 i).toInt := by
  obtain ⟨q1, q2⟩ := quiet hz i hi ho
  have ht := hw.1 i hi ho
  have hr := hw.2.2.2.1 i hi ht
  have hf := hw.2.2.2.2.2.1
  refine ⟨q1, ?_⟩
  rw [q2, I_add (by omega) (by omega)]
  omega
theorem X3_nx_l {i : Nat} (hi : i < 16) (l1 : Int32) : ∀ (d j n : Nat) (G : gG) (a : AM), j + d = 400 → d < n → wf a → aO a i = true → (50 * j : Nat) ≤ (aN a 1 i).toInt → R1 G 9 a → ∃ r G', isS r (sNx d j a).2 ∧ sh_X3_next_38 (fun G => some ((-5 : Int32), G)) n l1 (nI (j + 1)) G = (if l1 = (0 : Int32) then some (nI (sNx d j a).1, G') else some (r, G')) ∧ frm G G' 9 := by
  intro d
  induction d with
  | zero =>
    intro j n G a hj hn hw ho hp hR
    exfalso
    have := wf_ph hw hi (hw.1 i hi ho)
    have := wf_full hw
    omega
  | succ d ih =>
    intro j n G a hj hn hw ho hp hR
    obtain ⟨n, rfl⟩ : ∃ k, n = k + 1 := ⟨n - 1, by omega⟩
    obtain ⟨r, G1, e1, e2, e3, e4⟩ := X1_tick hw hR
    have e : sNx (d + 1) j a = if cnt (sTick a).2 16 = 0 then sNx d (j + 1) (sTick a).1 else (j + 1, (sTick a).2) := rfl
    rw [sh_X3_next_38.eq_2, if_neg (by rw [show (400 : Int32) = nI 400 from rfl, nI_ltI (by decide) (by omega)]; omega), e1, obi_s, e]
    by_cases hz : cnt (sTick a).2 16 = 0
    · obtain ⟨p1, p2⟩ := nx_ph hw hi ho hp hz
      rw [if_pos hz, if_pos (e3.zero.mpr (cnt_0.mp hz)), nI_1 (j + 1)]
      obtain ⟨r2, G2, f1, f2, f3⟩ := ih (j + 1) n G1 _ (by omega) (by omega) (tick_wf hw) p1 p2 e2
      exact ⟨r2, G2, f1, f2, e4.trans f3⟩
    · rw [if_neg hz, if_neg (fun z => hz (cnt_0.mpr (e3.zero.mp z)))]
      exact ⟨r, G1, e3, rfl, e4⟩
