-- bits of an int, and sets of lamps
def bt (x : Int32) (i : Nat) : Bool := x.toBitVec.getLsbD i
theorem bt_or (x y : Int32) (i : Nat) : bt (x ||| y) i = (bt x i || bt y i) := by simp [bt]
theorem bt_and (x y : Int32) (i : Nat) : bt (x &&& y) i = (bt x i && bt y i) := by simp [bt]
theorem bt_xor (x y : Int32) (i : Nat) : bt (x ^^^ y) i = (bt x i ^^ bt y i) := by simp [bt]
theorem bt_0 (i : Nat) : bt 0 i = false := by simp [bt]
theorem bt_ge {x : Int32} {i : Nat} (h : 32 ≤ i) : bt x i = false := by
  unfold bt; exact BitVec.getLsbD_of_ge _ _ h
theorem bt_m1 : ∀ {i : Nat}, i < 32 → bt (-1) i = true := by decide
theorem bt_ext {x y : Int32} (h : ∀ i, i < 32 → bt x i = bt y i) : x = y := by
  apply Int32.toBitVec_inj.mp
  exact BitVec.eq_of_getLsbD_eq h
theorem bt_z {x : Int32} : x = 0 ↔ ∀ i, i < 32 → bt x i = false := by
  constructor
  · rintro rfl i _; exact bt_0 i
  · intro h; exact bt_ext (fun i hi => by rw [h i hi, bt_0])
theorem nI_bv (n : Nat) : (nI n).toBitVec = BitVec.ofNat 32 n := rfl
theorem sh_a : ∀ {j : Nat}, j < 32 → nI j &&& 31 = nI j := by decide
theorem sh_m : ∀ {j : Nat}, j < 32 → ((nI j).toBitVec.smod 32).toNat = j := by decide
theorem bt_shl1 {j i : Nat} (h : j < 32) : bt ((1 : Int32) <<< (nI j &&& 31)) i = decide (i = j) := by
  rw [sh_a h]
  show ((1 : Int32).toBitVec <<< ((nI j).toBitVec.smod 32).toNat).getLsbD i = _
  rw [sh_m h, BitVec.getLsbD_shiftLeft]
  by_cases hi : i = j
  · subst hi; simp [h]
  · by_cases h1 : i < j
    · simp [h1, hi]
    · have : 1 ≤ i - j := by omega
      simp [hi, h1]
      intro _
      omega
theorem bt_1 (i : Nat) : bt 1 i = decide (i = 0) := by
  unfold bt
  have e : (1 : Int32).toBitVec = 1#32 := rfl
  rw [e, BitVec.getLsbD_one]; simp
theorem bt_shr0 {x : Int32} {j : Nat} (h : j < 32) : bt (x >>> (nI j &&& 31)) 0 = bt x j := by
  rw [sh_a h]
  show (x.toBitVec.sshiftRight ((nI j).toBitVec.smod 32).toNat).getLsbD 0 = _
  rw [sh_m h, BitVec.getLsbD_sshiftRight]
  simp [h, bt]
theorem bt_shr {x : Int32} {j : Nat} (h : j < 32) : ((x >>> (nI j &&& 31)) &&& 1 = 0) ↔ bt x j = false := by
  rw [bt_z]
  constructor
  · intro H
    have := H 0 (by decide)
    rw [bt_and, bt_shr0 h, bt_1] at this
    simpa using this
  · intro H i _
    rw [bt_and, bt_1]
    by_cases hi : i = 0
    · subst hi; rw [bt_shr0 h, H]; rfl
    · simp [hi]
theorem bt_shr' {x : Int32} {j : Nat} (h : j < 32) : ((x >>> (nI j &&& 31)) &&& 1 = 1) ↔ bt x j = true := by
  constructor
  · intro H
    have := congrArg (fun z => bt z 0) H
    simp only [bt_and, bt_shr0 h, bt_1] at this
    simpa using this
  · intro H
    apply bt_ext
    intro i _
    rw [bt_and, bt_1]
    by_cases hi : i = 0
    · subst hi; rw [bt_shr0 h, H]; rfl
    · simp [hi]
theorem holds_eq {x : Int32} {j : Nat} (h : j < 32) : sh_X3_holds x (nI j) = if bt x j then 1 else 0 := by
  unfold sh_X3_holds
  by_cases hb : bt x j = true
  · rw [if_neg (by rw [bt_shr h, hb]; decide), if_pos hb]
  · rw [if_pos (by rw [bt_shr h]; simpa using hb), if_neg hb]
/-- an int that is a set of lamps 0 to 15 -/
def isS (x : Int32) (S : Nat → Bool) : Prop := ∀ i, i < 32 → bt x i = (decide (i < 16) && S i)
theorem isS.at {x : Int32} {S : Nat → Bool} (h : isS x S) {i : Nat} (hi : i < 16) : bt x i = S i := by
  rw [h i (by omega)]; simp [hi]
theorem isS.hi {x : Int32} {S : Nat → Bool} (h : isS x S) {i : Nat} (h1 : 16 ≤ i) : bt x i = false := by
  by_cases hi : i < 32
  · rw [h i hi]; simp; omega
  · exact bt_ge (by omega)
theorem isS.congr {x : Int32} {S S' : Nat → Bool} (h : isS x S) (e : ∀ i, i < 16 → S i = S' i) : isS x S' := by
  intro i hi
  rw [h i hi]
  by_cases h6 : i < 16
  · simp [h6, e i h6]
  · simp [h6]
theorem isS.eq {x y : Int32} {S : Nat → Bool} (h : isS x S) (h' : isS y S) : x = y := bt_ext (fun i hi => by rw [h i hi, h' i hi])
theorem isS_0 : isS 0 (fun _ => false) := fun i _ => by rw [bt_0]; simp
theorem isS.or {x y : Int32} {S S' : Nat → Bool} (h : isS x S) (h' : isS y S') : isS (x ||| y) (fun i => S i || S' i) := fun i hi => by
  rw [bt_or, h i hi, h' i hi]; by_cases h6 : i < 16 <;> simp [h6]
theorem isS.and {x y : Int32} {S S' : Nat → Bool} (h : isS x S) (h' : isS y S') : isS (x &&& y) (fun i => S i && S' i) := fun i hi => by
  rw [bt_and, h i hi, h' i hi]; by_cases h6 : i < 16 <;> simp [h6]
theorem isS.andn {x y : Int32} {S S' : Nat → Bool} (h : isS x S) (h' : isS y S') : isS (x &&& (y ^^^ -1)) (fun i => S i && !S' i) := fun i hi => by
  rw [bt_and, bt_xor, h i hi, h' i hi, bt_m1 hi]; by_cases h6 : i < 16 <;> simp [h6]
theorem isS_1 {j : Nat} (h : j < 16) : isS ((1 : Int32) <<< (nI j &&& 31)) (fun i => decide (i = j)) := fun i _ => by
  rw [bt_shl1 (by omega)]; by_cases h6 : i < 16
  · simp [h6]
  · simp [h6]; omega
theorem isS.add {x : Int32} {S : Nat → Bool} (h : isS x S) {j : Nat} (hj : j < 16) : isS (x ||| (1 : Int32) <<< (nI j &&& 31)) (fun i => S i || decide (i = j)) := h.or (isS_1 hj)
theorem isS.del {x : Int32} {S : Nat → Bool} (h : isS x S) {j : Nat} (hj : j < 16) : isS (x &&& ((1 : Int32) <<< (nI j &&& 31) ^^^ -1)) (fun i => S i && !decide (i = j)) := h.andn (isS_1 hj)
theorem isS.zero {x : Int32} {S : Nat → Bool} (h : isS x S) : x = 0 ↔ ∀ i, i < 16 → S i = false := by
  rw [bt_z]
  constructor
  · intro H i hi; rw [← h.at hi]; exact H i (by omega)
  · intro H i hi
    rw [h i hi]
    by_cases h6 : i < 16
    · simp [h6, H i h6]
    · simp [h6]
theorem shl_ne {j : Nat} (h : j < 16) : ¬ ((1 : Int32) <<< (nI j &&& 31)) = 0 := by
  rw [(isS_1 h).zero]
  intro H
  have := H j h
  simp at this
-- how many
def cnt (S : Nat → Bool) : Nat → Nat
  | 0 => 0
  | m + 1 => cnt S m + (S m).toNat
theorem cnt_le (S : Nat → Bool) : ∀ m, cnt S m ≤ m
  | 0 => Nat.le_refl _
  | m + 1 => by have := cnt_le S m; have := Bool.toNat_le (S m); simp only [cnt]; omega
theorem cnt_congr {S S' : Nat → Bool} : ∀ {m : Nat}, (∀ i, i < m → S i = S' i) → cnt S m = cnt S' m
  | 0, _ => rfl
  | m + 1, h => by simp only [cnt]; rw [cnt_congr (fun i hi => h i (by omega)), h m (by omega)]
theorem cnt_0 {S : Nat → Bool} : ∀ {m : Nat}, cnt S m = 0 ↔ ∀ i, i < m → S i = false
  | 0 => by simp [cnt]
  | m + 1 => by
    simp only [cnt]
    constructor
    · intro h i hi
      by_cases hm : i = m
      · subst hm
        cases hs : S i
        · rfl
        · rw [hs] at h; simp at h
      · exact (cnt_0 (m := m)).mp (by omega) i (by omega)
    · intro h
      rw [(cnt_0 (m := m)).mpr (fun i hi => h i (by omega)), h m (by omega)]; rfl
theorem cnt_mono {S S' : Nat → Bool} : ∀ {m : Nat}, (∀ i, i < m → S i = true → S' i = true) → cnt S m ≤ cnt S' m
  | 0, _ => Nat.le_refl _
  | m + 1, h => by
    have := cnt_mono (S := S) (S' := S') (m := m) (fun i hi => h i (by omega))
    have h2 := h m (by omega)
    simp only [cnt]
    cases hs : S m
    · simp; omega
    · rw [h2 hs]; simp; omega
theorem cnt_lt {S S' : Nat → Bool} : ∀ {m : Nat}, (∀ i, i < m → S i = true → S' i = true) → (∃ j, j < m ∧ S j = false ∧ S' j = true) → cnt S m < cnt S' m
  | 0, _, h => by obtain ⟨j, hj, _⟩ := h; omega
  | m + 1, h, ⟨j, hj, h1, h2⟩ => by
    simp only [cnt]
    by_cases hm : j = m
    · subst hm
      have := cnt_mono (S := S) (S' := S') (m := j) (fun i hi => h i (by omega))
      rw [h1, h2]; simp; omega
    · have := cnt_lt (S := S) (S' := S') (m := m) (fun i hi => h i (by omega)) ⟨j, by omega, h1, h2⟩
      have h3 := h m (by omega)
      cases hs : S m
      · simp; omega
      · rw [h3 hs]; simp; omega

