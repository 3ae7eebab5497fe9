-- a mesh as the document has it: which lamps there are, which are on, links, numbers of the lamps (1 phase, 2 rate, 3 deaf, 5 blinks, 6 latest, 7 pushes), numbers of the mesh (0 tick, 1 blinks, 2 pushes, 3 shared ticks, 4 most, 5 period, 6 push, 7 deaf ticks)
abbrev AM : Type := (Nat → Bool) × (Nat → Bool) × (Nat → Nat → Bool) × (Nat → Nat → Int32) × (Nat → Int32)
abbrev aT (a : AM) : Nat → Bool := a.1
abbrev aO (a : AM) : Nat → Bool := a.2.1
abbrev aL (a : AM) : Nat → Nat → Bool := a.2.2.1
abbrev aN (a : AM) : Nat → Nat → Int32 := a.2.2.2.1
abbrev aG (a : AM) : Nat → Int32 := a.2.2.2.2
abbrev mT (a : AM) (S : Nat → Bool) : AM := (S, aO a, aL a, aN a, aG a)
abbrev mO (a : AM) (S : Nat → Bool) : AM := (aT a, S, aL a, aN a, aG a)
abbrev mL (a : AM) (i : Nat) (S : Nat → Bool) : AM := (aT a, aO a, fun r c => if r = i then S c else aL a r c, aN a, aG a)
abbrev mN (a : AM) (f i : Nat) (x : Int32) : AM := (aT a, aO a, aL a, fun g r => if g = f ∧ r = i then x else aN a g r, aG a)
abbrev mG (a : AM) (j : Nat) (x : Int32) : AM := (aT a, aO a, aL a, aN a, fun r => if r = j then x else aG a r)
def fld (f : Nat) : Prop := f = 1 ∨ f = 2 ∨ f = 3 ∨ f = 5 ∨ f = 6 ∨ f = 7
def b2i (b : Bool) : Int32 := if b then 1 else 0
/-- the class's mesh at the cell k is a -/
def R1 (G : gG) (k : Nat) (a : AM) : Prop :=
  isS (G k 8) (aT a) ∧ isS (G k 9) (aO a) ∧ (∀ i, i < 16 → isS (G (k + 4) i) (aL a i)) ∧ (∀ f i, fld f → i < 16 → aT a i = true → G (k + f) i = aN a f i) ∧ (∀ j, j < 5 → G k (10 + j) = aG a j) ∧ (∀ j, j < 3 → G (k + 8) j = aG a (5 + j))
/-- the same for all that is asked -/
def aE (a b : AM) : Prop :=
  (∀ i, i < 16 → aT a i = aT b i) ∧ (∀ i, i < 16 → aO a i = aO b i) ∧ (∀ i j, i < 16 → j < 16 → aL a i j = aL b i j) ∧ (∀ f i, fld f → i < 16 → aT a i = true → aN a f i = aN b f i) ∧ (∀ j, j < 8 → aG a j = aG b j)
theorem R1.congr {G : gG} {k : Nat} {a b : AM} (h : R1 G k a) (e : aE a b) : R1 G k b :=
  ⟨h.1.congr e.1, h.2.1.congr e.2.1, fun i hi => (h.2.2.1 i hi).congr (fun j hj => e.2.2.1 i j hi hj), fun f i hf hi ht => by rw [h.2.2.2.1 f i hf hi (by rw [e.1 i hi]; exact ht)]; exact e.2.2.2.1 f i hf hi (by rw [e.1 i hi]; exact ht), fun j hj => by rw [h.2.2.2.2.1 j hj]; exact e.2.2.2.2 j (by omega), fun j hj => by rw [h.2.2.2.2.2 j hj]; exact e.2.2.2.2 (5 + j) (by omega)⟩
theorem aE.rf (a : AM) : aE a a := ⟨fun _ _ => rfl, fun _ _ => rfl, fun _ _ _ _ => rfl, fun _ _ _ _ _ => rfl, fun _ _ => rfl⟩
theorem aE.symm {a b : AM} (h : aE a b) : aE b a := ⟨fun i hi => (h.1 i hi).symm, fun i hi => (h.2.1 i hi).symm, fun i j hi hj => (h.2.2.1 i j hi hj).symm, fun f i hf hi ht => (h.2.2.2.1 f i hf hi (by rw [h.1 i hi]; exact ht)).symm, fun j hj => (h.2.2.2.2 j hj).symm⟩
theorem aE.trans {a b c : AM} (h : aE a b) (g : aE b c) : aE a c := ⟨fun i hi => (h.1 i hi).trans (g.1 i hi), fun i hi => (h.2.1 i hi).trans (g.2.1 i hi), fun i j hi hj => (h.2.2.1 i j hi hj).trans (g.2.2.1 i j hi hj), fun f i hf hi ht => (h.2.2.2.1 f i hf hi ht).trans (g.2.2.2.1 f i hf hi (by rw [← h.1 i hi]; exact ht)), fun j hj => (h.2.2.2.2 j hj).trans (g.2.2.2.2 j hj)⟩
-- what is written
theorem gu_at {G : gG} {k i : Nat} {x : Int32} : gu G k i x k i = x := by simp [gu]
theorem gu_n1 {G : gG} {k i a b : Nat} {x : Int32} (h : a ≠ k) : gu G k i x a b = G a b := by simp [gu, h]
theorem gu_n2 {G : gG} {k i a b : Nat} {x : Int32} (h : b ≠ i) : gu G k i x a b = G a b := by simp [gu, h]
theorem gu_ap {G : gG} {k i a b : Nat} {x : Int32} : gu G k i x a b = if a = k ∧ b = i then x else G a b := by
  unfold gu; by_cases h1 : a = k <;> by_cases h2 : b = i <;> simp [h1, h2]
/-- nothing but the mesh at k has changed -/
def frm (G G' : gG) (k : Nat) : Prop := ∀ a, (a < k ∨ k + 9 ≤ a) → G' a = G a
theorem frm.rf {G : gG} {k : Nat} : frm G G k := fun _ _ => rfl
theorem frm.trans {G G1 G2 : gG} {k : Nat} (h : frm G G1 k) (h' : frm G1 G2 k) : frm G G2 k := fun a ha => (h' a ha).trans (h a ha)
theorem frm.gu {G G1 : gG} {k c i : Nat} {x : Int32} (h : frm G G1 k) (h1 : k ≤ c) (h2 : c < k + 9) : frm G (gu G1 c i x) k := fun a ha => by
  rw [gu_ne (by omega)]; exact h a ha
/-- nothing but the cell q has changed -/
def frq (G G' : gG) (q : Nat) : Prop := ∀ a, a ≠ q → G' a = G a
theorem frq.rf {G : gG} {q : Nat} : frq G G q := fun _ _ => rfl
theorem frq.trans {G G1 G2 : gG} {q : Nat} (h : frq G G1 q) (h' : frq G1 G2 q) : frq G G2 q := fun a ha => (h' a ha).trans (h a ha)
theorem frq.gu {G G1 : gG} {q i : Nat} {x : Int32} (h : frq G G1 q) : frq G (gu G1 q i x) q := fun a ha => by
  rw [gu_ne ha]; exact h a ha
theorem R1.fr {G G' : gG} {k : Nat} {a : AM} (h : R1 G k a) (e : ∀ c, k ≤ c → c < k + 9 → G' c = G c) : R1 G' k a := by
  obtain ⟨h1, h2, h3, h4, h5, h6⟩ := h
  refine ⟨by rw [e k (by omega) (by omega)]; exact h1, by rw [e k (by omega) (by omega)]; exact h2, fun i hi => by rw [e (k + 4) (by omega) (by omega)]; exact h3 i hi, fun f i hf hi ht => ?_, fun j hj => by rw [e k (by omega) (by omega)]; exact h5 j hj, fun j hj => by rw [e (k + 8) (by omega) (by omega)]; exact h6 j hj⟩
  have : f ≤ 7 := by unfold fld at hf; omega
  rw [e (k + f) (by omega) (by omega)]; exact h4 f i hf hi ht
-- one write at a time
theorem R1.nu {G : gG} {k f i : Nat} {a : AM} {x : Int32} (h : R1 G k a) (hf : fld f) (hi : i < 16) : R1 (gu G (k + f) i x) k (mN a f i x) := by
  obtain ⟨h1, h2, h3, h4, h5, h6⟩ := h
  have hf0 : 1 ≤ f ∧ f ≤ 7 ∧ f ≠ 4 := by unfold fld at hf; omega
  refine ⟨by rw [gu_n1 (by omega)]; exact h1, by rw [gu_n1 (by omega)]; exact h2, fun r hr => by rw [gu_n1 (by omega)]; exact h3 r hr, fun g r hg hr ht => ?_, fun j hj => by rw [gu_n1 (by omega)]; exact h5 j hj, fun j hj => by rw [gu_n1 (by omega)]; exact h6 j hj⟩
  rw [gu_ap]
  by_cases e : g = f ∧ r = i
  · rw [if_pos ⟨by omega, e.2⟩]; simp [mN, mG, mT, mO, mL, aN, aG, aT, aO, aL, e]
  · rw [if_neg (by omega), h4 g r hg hr ht]; simp [mN, mG, mT, mO, mL, aN, aG, aT, aO, aL, e]
theorem R1.gl {G : gG} {k j : Nat} {a : AM} {x : Int32} (h : R1 G k a) (hj : j < 5) : R1 (gu G k (10 + j) x) k (mG a j x) := by
  obtain ⟨h1, h2, h3, h4, h5, h6⟩ := h
  refine ⟨by rw [gu_n2 (by omega)]; exact h1, by rw [gu_n2 (by omega)]; exact h2, fun r hr => by rw [gu_n1 (by omega)]; exact h3 r hr, fun g r hg hr ht => ?_, fun r hr => ?_, fun r hr => ?_⟩
  · have : 1 ≤ g := by unfold fld at hg; omega
    rw [gu_n1 (by omega)]; exact h4 g r hg hr ht
  · rw [gu_ap]
    by_cases e : r = j
    · rw [if_pos ⟨rfl, by omega⟩]; simp [mN, mG, mT, mO, mL, aN, aG, aT, aO, aL, e]
    · rw [if_neg (by omega), h5 r hr]; simp [mN, mG, mT, mO, mL, aN, aG, aT, aO, aL, e]
  · rw [gu_n1 (by omega), h6 r hr]; simp [mN, mG, mT, mO, mL, aN, aG, aT, aO, aL]; omega
theorem R1.se {G : gG} {k j : Nat} {a : AM} {x : Int32} (h : R1 G k a) (hj : j < 3) : R1 (gu G (k + 8) j x) k (mG a (5 + j) x) := by
  obtain ⟨h1, h2, h3, h4, h5, h6⟩ := h
  refine ⟨by rw [gu_n1 (by omega)]; exact h1, by rw [gu_n1 (by omega)]; exact h2, fun r hr => by rw [gu_n1 (by omega)]; exact h3 r hr, fun g r hg hr ht => ?_, fun r hr => ?_, fun r hr => ?_⟩
  · have : g ≤ 7 := by unfold fld at hg; omega
    rw [gu_n1 (by omega)]; exact h4 g r hg hr ht
  · rw [gu_n1 (by omega), h5 r hr]; simp [mN, mG, mT, mO, mL, aN, aG, aT, aO, aL]; omega
  · rw [gu_ap]
    by_cases e : r = j
    · rw [if_pos ⟨rfl, by omega⟩]; simp [mN, mG, mT, mO, mL, aN, aG, aT, aO, aL, e]
    · rw [if_neg (by omega), h6 r hr]; simp [mN, mG, mT, mO, mL, aN, aG, aT, aO, aL]; omega
theorem R1.th {G : gG} {k : Nat} {a : AM} {x : Int32} {S : Nat → Bool} (h : R1 G k a) (hx : isS x S) (hn : ∀ f i, fld f → i < 16 → S i = true → aT a i = false → G (k + f) i = aN a f i) : R1 (gu G k 8 x) k (mT a S) := by
  obtain ⟨h1, h2, h3, h4, h5, h6⟩ := h
  refine ⟨by rw [gu_at]; exact hx, by rw [gu_n2 (by omega)]; exact h2, fun r hr => by rw [gu_n1 (by omega)]; exact h3 r hr, fun g r hg hr ht => ?_, fun r hr => by rw [gu_n2 (by omega)]; exact h5 r hr, fun r hr => by rw [gu_n1 (by omega)]; exact h6 r hr⟩
  have : 1 ≤ g := by unfold fld at hg; omega
  rw [gu_n1 (by omega)]
  cases hb : aT a r
  · exact hn g r hg hr ht hb
  · exact h4 g r hg hr hb
theorem R1.on {G : gG} {k : Nat} {a : AM} {x : Int32} {S : Nat → Bool} (h : R1 G k a) (hx : isS x S) : R1 (gu G k 9 x) k (mO a S) := by
  obtain ⟨h1, h2, h3, h4, h5, h6⟩ := h
  refine ⟨by rw [gu_n2 (by omega)]; exact h1, by rw [gu_at]; exact hx, fun r hr => by rw [gu_n1 (by omega)]; exact h3 r hr, fun g r hg hr ht => ?_, fun r hr => by rw [gu_n2 (by omega)]; exact h5 r hr, fun r hr => by rw [gu_n1 (by omega)]; exact h6 r hr⟩
  have : 1 ≤ g := by unfold fld at hg; omega
  rw [gu_n1 (by omega)]; exact h4 g r hg hr ht
theorem R1.lk {G : gG} {k i : Nat} {a : AM} {x : Int32} {S : Nat → Bool} (h : R1 G k a) (hx : isS x S) : R1 (gu G (k + 4) i x) k (mL a i S) := by
  obtain ⟨h1, h2, h3, h4, h5, h6⟩ := h
  refine ⟨by rw [gu_n1 (by omega)]; exact h1, by rw [gu_n1 (by omega)]; exact h2, fun r hr => ?_, fun g r hg hr ht => ?_, fun r hr => by rw [gu_n1 (by omega)]; exact h5 r hr, fun r hr => by rw [gu_n1 (by omega)]; exact h6 r hr⟩
  · rw [gu_ap]
    by_cases e : r = i
    · rw [if_pos ⟨rfl, e⟩]; simp [mN, mG, mT, mO, mL, aN, aG, aT, aO, aL, e]; exact hx
    · rw [if_neg (by omega)]; simp [mN, mG, mT, mO, mL, aN, aG, aT, aO, aL, e]; exact h3 r hr
  · have : g ≠ 4 := by unfold fld at hg; omega
    rw [gu_n1 (by omega)]; exact h4 g r hg hr ht
-- loops
theorem forl {σ β : Type} (N : Nat) (L : Nat → Nat → σ → Option β) (Inv : Nat → σ → Prop) (fin : σ → Option β) (hx : ∀ n s, Inv N s → L (n + 1) N s = fin s) (hs : ∀ n j s, j < N → Inv j s → ∃ s', Inv (j + 1) s' ∧ L (n + 1) j s = L n (j + 1) s') : ∀ (d j n : Nat) (s : σ), j + d = N → d < n → Inv j s → ∃ s', Inv N s' ∧ L n j s = fin s' := by
  intro d
  induction d with
  | zero =>
    intro j n s hj hn hi
    obtain ⟨n, rfl⟩ : ∃ k, n = k + 1 := ⟨n - 1, by omega⟩
    have : j = N := by omega
    subst this
    exact ⟨s, hi, hx n s hi⟩
  | succ d ih =>
    intro j n s hj hn hi
    obtain ⟨n, rfl⟩ : ∃ k, n = k + 1 := ⟨n - 1, by omega⟩
    obtain ⟨s', h1, h2⟩ := hs n j s (by omega) hi
    obtain ⟨s2, h3, h4⟩ := ih (j + 1) n s' (by omega) (by omega) h1
    exact ⟨s2, h3, by rw [h2]; exact h4⟩
theorem le16 {j : Nat} (h : j < 2 ^ 31) : (16 : Int32) ≤ nI j ↔ 16 ≤ j := nI_leI (by decide) h
theorem gin_n {i N : Nat} (h : i < N) (hN : N < 2 ^ 31) : gin (nI i) N = true := by
  unfold gin
  rw [nI_clamp (by omega)]
  have h1 : ¬ nI i < 0 := nI_pos (by omega)
  simp [h1, h]
theorem gin_16 {i : Nat} (h : i < 16) : gin (nI i) 16 = true := gin_n h (by decide)
theorem cl16 {i : Nat} (h : i < 16) : (nI i).toNatClampNeg = i := nI_clamp (by omega)
theorem tc0 : (0 : Int32).toNatClampNeg = 0 := by decide
theorem tc1 : (1 : Int32).toNatClampNeg = 1 := by decide
theorem tc2 : (2 : Int32).toNatClampNeg = 2 := by decide
theorem tc3 : (3 : Int32).toNatClampNeg = 3 := by decide
theorem tc4 : (4 : Int32).toNatClampNeg = 4 := by decide
theorem tc5 : (5 : Int32).toNatClampNeg = 5 := by decide
theorem tc6 : (6 : Int32).toNatClampNeg = 6 := by decide
theorem tc7 : (7 : Int32).toNatClampNeg = 7 := by decide
theorem FU_gt : 3000 < FU := by decide
theorem b2i_0 {b : Bool} : b2i b = 0 ↔ b = false := by cases b <;> decide
theorem b2i_1 {b : Bool} : b2i b = 1 ↔ b = true := by cases b <;> decide
/-- a good mesh -/
def wf (a : AM) : Prop :=
  (∀ i, i < 16 → aO a i = true → aT a i = true) ∧ (∀ i j, i < 16 → j < 16 → aL a i j = aL a j i) ∧ (∀ i j, i < 16 → j < 16 → aL a i j = true → aT a i = true) ∧ (∀ i, i < 16 → aT a i = true → 0 ≤ (aN a 1 i).toInt ∧ (aN a 1 i).toInt < 100 * (aG a 5).toInt ∧ 50 ≤ (aN a 2 i).toInt ∧ (aN a 2 i).toInt ≤ 150 ∧ 0 ≤ (aN a 3 i).toInt) ∧ 10 ≤ (aG a 5).toInt ∧ (aG a 5).toInt ≤ 200 ∧ 0 ≤ (aG a 6).toInt ∧ (aG a 6).toInt ≤ 100 ∧ 0 ≤ (aG a 7).toInt ∧ (aG a 7).toInt ≤ 99
theorem wf.congr {a b : AM} (h : wf a) (e : aE a b) : wf b := by
  obtain ⟨h1, h2, h3, h4, h5, h6, h7, h8, h9, h10⟩ := h
  obtain ⟨e1, e2, e3, e4, e5⟩ := e
  have g5 := e5 5 (by decide); have g6 := e5 6 (by decide); have g7 := e5 7 (by decide)
  refine ⟨fun i hi ho => ?_, fun i j hi hj => ?_, fun i j hi hj hl => ?_, fun i hi ht => ?_, by rw [← g5]; exact h5, by rw [← g5]; exact h6, by rw [← g6]; exact h7, by rw [← g6]; exact h8, by rw [← g7]; exact h9, by rw [← g7]; exact h10⟩
  · rw [← e1 i hi]; exact h1 i hi (by rw [e2 i hi]; exact ho)
  · rw [← e3 i j hi hj, ← e3 j i hj hi]; exact h2 i j hi hj
  · rw [← e1 i hi]; exact h3 i j hi hj (by rw [e3 i j hi hj]; exact hl)
  · rw [← e1 i hi] at ht
    have := h4 i hi ht
    rw [← g5, ← e4 1 i (by unfold fld; omega) hi ht, ← e4 2 i (by unfold fld; omega) hi ht, ← e4 3 i (by unfold fld; omega) hi ht]
    exact this
theorem obp_s {α : Type} (r : Int32) (f : Int32 → Option α) : obp (some r) f = f r := rfl
theorem obi_s {α : Type} (r : Int32) (g : gG) (f : Int32 → gG → Option α) : obi (some (r, g)) f = f r g := rfl
theorem obv_s {α : Type} (g : gG) (f : gG → Option α) : obv (some g) f = f g := rfl
theorem bng_s {α : Sort _} (g : gG) (f : gG → α) : bng g f = f g := rfl
theorem bni_s {α : Sort _} (g : Int32) (f : Int32 → α) : bni g f = f g := rfl

