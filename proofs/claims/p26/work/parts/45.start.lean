-- the start: what is there when both have been made
def gz : Nat → Int32 := fun _ => 0
def g64 : Nat → Int32 := fun i => nI (27 + 9 * i)
def GL : List (Nat → Int32) := [gz, gz, gz, gz, gz, gz, gz, gz, fstT, gz, gz, gz, gz, gz, gz, gz, gz, fstT, gz, gz, gz, gz, gz, gz, gz, gz, fstT, gz, gz, gz, gz, gz, gz, gz, gz, fstT, gz, gz, gz, gz, gz, gz, gz, gz, fstT, gz, gz, gz, gz, gz, gz, gz, gz, fstT, gz, gz, gz, gz, gz, gz, gz, gz, fstT, gz, g64, gz, gz, gz, gz, gz, gz]
def G00 : gG := fun k => GL.getD k gz
def a00 : AM := (fun _ => false, fun _ => false, fun _ _ => false, fun _ _ => 0, fun r => if r = 5 then 100 else if r = 6 then 10 else if r = 7 then 2 else 0)
theorem SC0 : SC G00 a00 [] := by
  have p64 : ∀ i, i < 4 → pi4 G00 i = 27 + 9 * i := fun i hi => by
    show (nI (27 + 9 * i)).toNatClampNeg = _
    exact nI_clamp (by omega)
  refine ⟨⟨isS_0, isS_0, fun i hi => ?_, fun f i _ _ ht => (by cases ht), fun j hj => ?_, fun j hj => ?_⟩, ⟨fun i _ ho => ho, fun _ _ _ _ => rfl, fun _ _ _ _ hl => (by cases hl), fun i _ ht => (by cases ht), by decide, by decide, by decide, by decide, by decide, by decide⟩, ⟨[], by decide, rfl, fun i hi => ?_, fun i j hi hj h => ?_, fun i b hb => (by cases hb)⟩, fun b hb => (by cases hb)⟩
  · show isS (G00 (0 + 4) i) _
    exact isS_0
  · rcases (show j = 0 ∨ j = 1 ∨ j = 2 ∨ j = 3 ∨ j = 4 by omega) with rfl | rfl | rfl | rfl | rfl <;> rfl
  · rcases (show j = 0 ∨ j = 1 ∨ j = 2 by omega) with rfl | rfl | rfl <;> rfl
  · rw [p64 i hi]; exact ⟨⟨by omega, by omega⟩, by omega⟩
  · rw [p64 i hi, p64 j hj] at h; omega
theorem inv0 : inv 0 a00 := by
  have z : ∀ f, sB a00 f = 0 := fun f => zs_0 16
  refine ⟨SC0.2.1, fun _ _ => rfl, fun i _ ht => (by cases ht), ?_⟩
  unfold pG
  rw [z, z]
  decide
theorem at_q {D : va_G} {cl : List vw_C} {a n : Nat} {cA : ClassId} {f f' : Nat → Option Nat} {H : Heap} (h : va_at D cl (a, .inl (cA, n, .inr (.inr (.inr (.inr f))))) H) (e : ∀ i, i < n → f i = f' i) : va_at D cl (a, .inl (cA, n, .inr (.inr (.inr (.inr f'))))) H := by
  have h' : H[a]? = some (arrV cA n (fun j => va_rf (f j))) := h
  show H[a]? = some (arrV cA n (fun j => va_rf (f' j)))
  rw [h']
  unfold arrV
  congr 2
  apply Array.ext
  · simp
  · intro i h1 h2
    simp at h1
    simp [e i h1]
def adL (h0 ls gs : Nat) (q : Nat → Nat) : Nat → Nat := fun k => [q 0, q 1, q 2, q 3, q 4, q 5, q 6, q 7, q 8, q 9, q 10, q 11, q 12, q 13, q 14, q 15, q 16, q 17, q 18, q 19, q 20, q 21, q 22, q 23, q 24, q 25, q 26, q 29, q 30, q 31, q 32, q 33, q 34, q 35, q 36, q 37, q 38, q 39, q 40, q 41, q 42, q 43, q 44, q 45, q 46, q 47, q 48, q 49, q 50, q 51, q 52, q 53, q 54, q 55, q 56, q 57, q 58, q 59, q 60, q 61, q 62, q 63, q 64, q 27, q 28, q 65, q 66, q 67, q 68, q 69, h0, h0, h0, h0, h0, h0, h0, h0, h0, h0, ls, gs].getD k 0
abbrev c64 (t : gT) (q : Nat → Nat) : va_E := .inl (t.2.2, 4, .inr (.inr (.inr (.inr (va_up (va_up (va_up (va_up (fun _ => none) (0 : Int32).toNatClampNeg (some (q 29))) (1 : Int32).toNatClampNeg (some (q 38))) (2 : Int32).toNatClampNeg (some (q 47))) (3 : Int32).toNatClampNeg (some (q 56)))))))
def pl71 : List Nat := [1, 2, 3, 4, 5, 6, 7, 8, 9, 10, 11, 12, 13, 14, 15, 16, 17, 18, 19, 20, 21, 22, 23, 24, 25, 26, 27, 30, 31, 32, 33, 34, 35, 36, 37, 38, 39, 40, 41, 42, 43, 44, 45, 46, 47, 48, 49, 50, 51, 52, 53, 54, 55, 56, 57, 58, 59, 60, 61, 62, 63, 64, 65, 28, 29, 66, 67, 68, 69, 70, 0]
set_option maxRecDepth 100000 in
set_option maxHeartbeats 4000000 in
theorem gws_places (t : gT) (h0 ls gs : Nat) (q : Nat → Nat) : pl71.filterMap (fun i => (wX3 t h0 q)[i]?) = (gws t (adL h0 ls gs q) G00).set 64 (q 28, c64 t q) := rfl
set_option maxRecDepth 100000 in
set_option maxHeartbeats 4000000 in
theorem gws_placesM (t : gT) (h0 ls gs : Nat) (q : Nat → Nat) : pl71.map (fun i => (wX3 t h0 q)[i]?) = ((gws t (adL h0 ls gs q) G00).set 64 (q 28, c64 t q)).map some := rfl
theorem g_start {D : va_G} {t : gT} {h0 ls gs : Nat} {q : Nat → Nat} {H : Heap} (hP : va_P D vwCl (wX3 t h0 q) H) : va_P D vwCl (gws t (adL h0 ls gs q) G00) H := by
  have hP1 : va_P D vwCl ((gws t (adL h0 ls gs q) G00).set 64 (q 28, c64 t q)) H := hP.sub pl71 (gws_places t h0 ls gs q)
  intro k x hx
  by_cases hk : k = 64
  · subst hk
    have h64 : (gws t (adL h0 ls gs q) G00)[64]? = some (q 28, .inl (t.2.2, 4, .inr (.inr (.inr (.inr (fun i => some (adL h0 ls gs q (G00 64 i).toNatClampNeg))))))) := rfl
    rw [h64] at hx
    cases hx
    have h2 : va_at D vwCl (q 28, c64 t q) H := hP1 64 _ (by rw [List.getElem?_set_self (by simp [gws])])
    refine at_q h2 (fun i hi => ?_)
    have e : (G00 64 i).toNatClampNeg = 27 + 9 * i := by
      show (nI (27 + 9 * i)).toNatClampNeg = _
      exact nI_clamp (by omega)
    rw [e]
    rcases (show i = 0 ∨ i = 1 ∨ i = 2 ∨ i = 3 by omega) with rfl | rfl | rfl | rfl <;> rfl
  · exact hP1 k x (by rw [List.getElem?_set_ne (Ne.symm hk)]; exact hx)
theorem g_apart {A : Nat → Prop} {t : gT} {h0 ls gs : Nat} {q : Nat → Nat} (hD : va_D A (wX3 t h0 q)) : gI (adL h0 ls gs q) ∧ ∀ k, k < 71 → A (adL h0 ls gs q k) := by
  have hD1 : va_D A ((gws t (adL h0 ls gs q) G00).set 64 (q 28, c64 t q)) := hD.sub pl71 (by decide) (gws_placesM t h0 ls gs q)
  have key : ∀ k, k < 71 → ∃ e, ((gws t (adL h0 ls gs q) G00).set 64 (q 28, c64 t q))[k]? = some (adL h0 ls gs q k, e) := by
    intro k hk
    by_cases h : k = 64
    · subst h
      exact ⟨c64 t q, by rw [List.getElem?_set_self (by simp [gws])]; rfl⟩
    · exact ⟨_, by rw [List.getElem?_set_ne (Ne.symm h)]; exact gws_at hk⟩
  refine ⟨fun i j hi hj h => ?_, fun k hk => ?_⟩
  · obtain ⟨e, he⟩ := key i hi
    obtain ⟨e', he'⟩ := key j hj
    exact hD1.1 i j _ _ he he' h
  · obtain ⟨e, he⟩ := key k hk
    exact hD1.2 k _ he
