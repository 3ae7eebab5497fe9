-- whole numbers
theorem I_add {x y : Int32} (h1 : -2147483648 ≤ x.toInt + y.toInt) (h2 : x.toInt + y.toInt < 2147483648) : (x + y).toInt = x.toInt + y.toInt := by
  rw [Int32.toInt_add]
  exact Int.bmod_eq_of_le (by omega) (by omega)
theorem I_sub {x y : Int32} (h1 : -2147483648 ≤ x.toInt - y.toInt) (h2 : x.toInt - y.toInt < 2147483648) : (x - y).toInt = x.toInt - y.toInt := by
  rw [Int32.toInt_sub]
  exact Int.bmod_eq_of_le (by omega) (by omega)
theorem I_mul {x y : Int32} (h1 : -2147483648 ≤ x.toInt * y.toInt) (h2 : x.toInt * y.toInt < 2147483648) : (x * y).toInt = x.toInt * y.toInt := by
  rw [Int32.toInt_mul]
  exact Int.bmod_eq_of_le (by omega) (by omega)
theorem I_le {x y : Int32} : x ≤ y ↔ x.toInt ≤ y.toInt := Int32.le_iff_toInt_le
theorem I_lt {x y : Int32} : x < y ↔ x.toInt < y.toInt := Int32.lt_iff_toInt_lt
theorem I_eq {x y : Int32} : x = y ↔ x.toInt = y.toInt := ⟨fun h => by rw [h], fun h => Int32.toInt_inj.mp h⟩
theorem I_100 : (100 : Int32).toInt = 100 := by decide
theorem I_div100 {x : Int32} (h : 0 ≤ x.toInt) : (x / 100).toInt = x.toInt / 100 := by
  rw [Int32.toInt_div, I_100, Int.tdiv_eq_ediv_of_nonneg h]
  have := Int32.toInt_lt x
  exact Int.bmod_eq_of_le (by omega) (by omega)
/-- what a push makes of a phase -/
def pZ (p x : Int32) : Int32 := x + x * p / 100
def pP (f p x : Int32) : Int32 := if f < pZ p x then f else pZ p x
theorem pZ_i {p x : Int32} (hx : 0 ≤ x.toInt) (hx2 : x.toInt ≤ 20200) (hp : 0 ≤ p.toInt) (hp2 : p.toInt ≤ 100) : (pZ p x).toInt = x.toInt + x.toInt * p.toInt / 100 ∧ 0 ≤ x.toInt * p.toInt / 100 := by
  have h1 : 0 ≤ x.toInt * p.toInt := Int.mul_nonneg hx hp
  have h2 : x.toInt * p.toInt ≤ 20200 * 100 := Int.mul_le_mul hx2 hp2 hp (by decide)
  have h3 := I_mul (x := x) (y := p) (by omega) (by omega)
  have h4 := I_div100 (x := x * p) (by omega)
  have h5 : 0 ≤ x.toInt * p.toInt / 100 := Int.ediv_nonneg h1 (by decide)
  unfold pZ
  rw [I_add (by rw [h4, h3]; omega) (by rw [h4, h3]; omega), h4, h3]
  exact ⟨rfl, h5⟩
theorem pP_i {f p x : Int32} (hx : 0 ≤ x.toInt) (hxf : x.toInt ≤ f.toInt) (hf : f.toInt ≤ 20000) (hp : 0 ≤ p.toInt) (hp2 : p.toInt ≤ 100) : x.toInt ≤ (pP f p x).toInt ∧ (pP f p x).toInt ≤ f.toInt ∧ (pZ p x < f ↔ pP f p x < f) := by
  obtain ⟨h1, h2⟩ := pZ_i hx (by omega) hp hp2
  unfold pP
  by_cases h : f < pZ p x
  · rw [if_pos h]
    rw [I_lt] at h
    refine ⟨hxf, by omega, ?_⟩
    rw [I_lt, I_lt]; omega
  · rw [if_neg h]
    rw [I_lt] at h
    exact ⟨by omega, by omega, Iff.rfl⟩
def pIt (f p : Int32) : Nat → Int32 → Int32
  | 0, x => x
  | n + 1, x => pP f p (pIt f p n x)
theorem pIt_i {f p x : Int32} (hx : 0 ≤ x.toInt) (hxf : x.toInt ≤ f.toInt) (hf : f.toInt ≤ 20000) (hp : 0 ≤ p.toInt) (hp2 : p.toInt ≤ 100) : ∀ n, x.toInt ≤ (pIt f p n x).toInt ∧ (pIt f p n x).toInt ≤ f.toInt
  | 0 => ⟨Int.le_refl _, hxf⟩
  | n + 1 => by
    obtain ⟨h1, h2⟩ := pIt_i hx hxf hf hp hp2 n
    obtain ⟨h3, h4, _⟩ := pP_i (x := pIt f p n x) (by omega) h2 hf hp hp2
    exact ⟨by show _ ≤ (pP f p (pIt f p n x)).toInt; omega, h4⟩
theorem pIt_s {f p x : Int32} (hx : 0 ≤ x.toInt) (hxf : x.toInt ≤ f.toInt) (hf : f.toInt ≤ 20000) (hp : 0 ≤ p.toInt) (hp2 : p.toInt ≤ 100) (n : Nat) (h : ¬ pIt f p n x < f) : ¬ pIt f p (n + 1) x < f := by
  obtain ⟨h1, h2⟩ := pIt_i hx hxf hf hp hp2 n
  obtain ⟨h3, h4, _⟩ := pP_i (x := pIt f p n x) (by omega) h2 hf hp hp2
  rw [I_lt] at h ⊢
  show ¬ (pP f p (pIt f p n x)).toInt < f.toInt
  omega
-- counting in two ways
def dsum (P : Nat → Nat) : Nat → Nat
  | 0 => 0
  | m + 1 => dsum P m + P m
theorem dsum_congr {P Q : Nat → Nat} : ∀ {m : Nat}, (∀ i, i < m → P i = Q i) → dsum P m = dsum Q m
  | 0, _ => rfl
  | m + 1, h => by simp only [dsum]; rw [dsum_congr (fun i hi => h i (by omega)), h m (by omega)]
theorem dsum_add (P Q : Nat → Nat) : ∀ m, dsum (fun i => P i + Q i) m = dsum P m + dsum Q m
  | 0 => rfl
  | m + 1 => by simp only [dsum]; rw [dsum_add P Q m]; omega
theorem dsum_0 : ∀ m, dsum (fun _ => 0) m = 0
  | 0 => rfl
  | m + 1 => by simp only [dsum]; rw [dsum_0 m]
theorem cnt_dsum (S : Nat → Bool) : ∀ m, cnt S m = dsum (fun i => (S i).toNat) m
  | 0 => rfl
  | m + 1 => by simp only [cnt, dsum]; rw [cnt_dsum S m]
theorem dsum_swap (P : Nat → Nat → Bool) : ∀ (m n : Nat), dsum (fun b => cnt (P b) n) m = dsum (fun i => cnt (fun b => P b i) m) n
  | 0, n => by simp only [dsum, cnt]; rw [dsum_0]
  | m + 1, n => by
    simp only [dsum, cnt]
    rw [dsum_swap P m n, dsum_add, cnt_dsum (P m) n]

