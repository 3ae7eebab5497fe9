theorem chk_s : ∀ (d n c : Nat), chk d n c = true → ∀ m, m < 2 ^ d → sw (n + m) = c + cnt (fun i => m.testBit i) d
  | 0, n, c, h, m, hm => by
    have : m = 0 := by simpa using hm
    subst this
    have := Nat.eq_of_beq_eq_true h
    simpa [cnt] using this
  | d + 1, n, c, h, m, hm => by
    simp only [chk, Bool.and_eq_true] at h
    have hp : 2 ^ (d + 1) = 2 ^ d + 2 ^ d := by rw [Nat.pow_succ]; omega
    by_cases hd : m < 2 ^ d
    · rw [chk_s d n c h.1 m hd]
      simp only [cnt, Nat.testBit_lt_two_pow hd]; rfl
    · obtain ⟨q, rfl⟩ : ∃ q, m = 2 ^ d + q := ⟨m - 2 ^ d, by omega⟩
      have hq : q < 2 ^ d := by omega
      rw [show n + (2 ^ d + q) = n + 2 ^ d + q by omega, chk_s d _ _ h.2 q hq]
      simp only [cnt, Nat.testBit_two_pow_add_eq, Nat.testBit_lt_two_pow hq]
      rw [cnt_congr (S := fun i => (2 ^ d + q).testBit i) (S' := fun i => q.testBit i) (fun i hi => Nat.testBit_two_pow_add_gt hi q)]
      simp; omega
theorem tN_add (x y : Int32) : (x + y).toBitVec.toNat = (x.toBitVec.toNat + y.toBitVec.toNat) % 4294967296 := by
  rw [Int32.toBitVec_add, BitVec.toNat_add]
theorem tN_sub (x y : Int32) : (x - y).toBitVec.toNat = (4294967296 - y.toBitVec.toNat + x.toBitVec.toNat) % 4294967296 := by
  rw [Int32.toBitVec_sub, BitVec.toNat_sub]
theorem tN_and (x y : Int32) : (x &&& y).toBitVec.toNat = x.toBitVec.toNat &&& y.toBitVec.toNat := by
  rw [Int32.toBitVec_and, BitVec.toNat_and]
theorem bc_t (x : Int32) : (sh_J6_bitCount_0f7a4 x).toBitVec.toNat = sw x.toBitVec.toNat := by
  unfold sh_J6_bitCount_0f7a4 sh_J6_bitCount_0f7a4_j10 sh_J6_bitCount_0f7a4_j24 sh_J6_bitCount_0f7a4_j34 sh_J6_bitCount_0f7a4_j41 sh_J6_bitCount_0f7a4_j48
  rw [tN_and, tN_add, pk_ushr _ 16 16 (by decide), tN_add, pk_ushr _ 8 8 (by decide), tN_and, tN_add, pk_ushr _ 4 4 (by decide), tN_add, tN_and, tN_and, pk_ushr _ 2 2 (by decide), tN_sub, tN_and, pk_ushr _ 1 1 (by decide)]
  rfl
theorem bt_tb (x : Int32) (i : Nat) : bt x i = x.toBitVec.toNat.testBit i := by
  unfold bt; rw [BitVec.testBit_toNat]
theorem lt_of_bits {x : Int32} {w : Nat} (h : ∀ i, w ≤ i → bt x i = false) : x.toBitVec.toNat < 2 ^ w := by
  apply Nat.lt_pow_two_of_testBit
  intro i hi
  rw [← bt_tb]; exact h i hi
theorem bc_eq {x : Int32} {S : Nat → Bool} (h : isS x S) : sh_J6_bitCount_0f7a4 x = nI (cnt S 16) := by
  have h1 := bc_t x
  have h2 := chk_s 16 0 0 chk_ok x.toBitVec.toNat (lt_of_bits (fun i hi => h.hi hi))
  rw [Nat.zero_add, Nat.zero_add] at h2
  rw [h2] at h1
  rw [cnt_congr (S' := S) (fun i hi => by rw [← bt_tb]; exact h.at hi)] at h1
  apply Int32.toBitVec_inj.mp
  apply BitVec.eq_of_toNat_eq
  rw [h1]
  have := cnt_le S 16
  rw [pk_tn (by omega)]
theorem cnt_s (S : Nat → Bool) : ∀ m, cnt S (m + 1) = (S 0).toNat + cnt (fun i => S (i + 1)) m
  | 0 => by simp [cnt]
  | m + 1 => by
    rw [cnt, cnt_s S m]
    simp only [cnt]; omega
theorem kern : ∀ (w n : Nat), 0 < n → n < 2 ^ w → cnt (fun i => (n &&& (n - 1)).testBit i) w + 1 = cnt (fun i => n.testBit i) w
  | 0, n, h0, h => by have : n < 1 := by simpa using h
                      omega
  | w + 1, n, h0, h => by
    have hp : 2 ^ (w + 1) = 2 * 2 ^ w := by rw [Nat.pow_succ]; omega
    rw [cnt_s, cnt_s]
    have e1 : (fun i => n.testBit (i + 1)) = fun i => (n / 2).testBit i := by funext i; rw [Nat.testBit_succ]
    have e2 : (fun i => (n &&& (n - 1)).testBit (i + 1)) = fun i => (n / 2 &&& (n - 1) / 2).testBit i := by
      funext i; rw [Nat.testBit_and, Nat.testBit_succ, Nat.testBit_succ, ← Nat.testBit_and]
    rw [e1, e2, Nat.testBit_and, Nat.testBit_zero, Nat.testBit_zero]
    by_cases hp2 : n % 2 = 1
    · have h3 : (n - 1) / 2 = n / 2 := by omega
      have h4 : (n - 1) % 2 = 0 := by omega
      rw [h3, hp2, h4, Nat.and_self]
      simp; omega
    · have h5 : n % 2 = 0 := by omega
      have h3 : (n - 1) / 2 = n / 2 - 1 := by omega
      have := kern w (n / 2) (by omega) (by omega)
      rw [h3, h5]
      simp only [Nat.testBit_and] at this ⊢
      simp
      omega
