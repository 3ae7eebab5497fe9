-- the law's small functions
theorem low_f (x : Int32) {n : Nat} (h0 : 0 < n) (hn : n < 2 ^ 31) : ∃ r, r < n ∧ sh_L_low x (nI n) = some (nI r) := by
  have en : (nI n).toInt = n := nI_toInt hn
  have hz : nzB (nI n) = true := by unfold nzB; simp [nI_ne0 h0 hn]
  have hy : ¬ (x &&& 2147483647) < 0 := by
    have e : (x &&& 2147483647).toBitVec.toNat < 2 ^ 31 := lt_of_bits (fun i hi => by
      rw [bt_and]
      have : bt 2147483647 i = false := by
        by_cases h32 : 32 ≤ i
        · exact bt_ge h32
        · obtain rfl : i = 31 := by omega
          decide
      rw [this, Bool.and_false])
    rw [I_lt, I_0]
    have e2 : (x &&& 2147483647).toInt = (x &&& 2147483647).toBitVec.toInt := rfl
    rw [e2, BitVec.toInt_eq_toNat_of_lt (by omega)]
    omega
  obtain ⟨y, hy1, hy2⟩ := nI_of hy
  have ey : (nI y).toInt = y := nI_toInt hy1
  have hd : (nI y / nI n).toInt = (y / n : Nat) := by
    rw [Int32.toInt_div, ey, en, Int.tdiv_eq_ediv_of_nonneg (by omega)]
    have h3 : (y : Int) / n = (y / n : Nat) := by norm_cast
    rw [h3]
    have h4 := Nat.div_le_self y n
    generalize y / n = q at h4 ⊢
    exact Int.bmod_eq_of_le (by omega) (by omega)
  have hm : (y / n) * n ≤ y := Nat.div_mul_le_self y n
  have hmm : ((y / n : Nat) : Int) * (n : Int) = ((y / n * n : Nat) : Int) := by norm_cast
  have hp : (nI y / nI n * nI n).toInt = (y / n * n : Nat) := by
    rw [I_mul (by rw [hd, en, hmm]; omega) (by rw [hd, en, hmm]; omega), hd, en, hmm]
  have hr : (nI y - nI y / nI n * nI n) = nI (y % n) := by
    have h5 := Nat.mod_lt y h0
    have h6 := Nat.div_add_mod y n
    have h7 : n * (y / n) = y / n * n := Nat.mul_comm _ _
    rw [I_eq, I_sub (by rw [hp, ey]; omega) (by rw [hp, ey]; omega), hp, ey, nI_toInt (by omega)]
    omega
  refine ⟨y % n, Nat.mod_lt y h0, ?_⟩
  unfold sh_L_low
  rw [if_pos hz, hy2, hr]
section LS
variable {G : gG} {a : AM} {us : List AM}
theorem ql0 (S : SC G a us) {i : Nat} (hi : i < 16) (ht : aT a i = true) : sh_X3_lamp (nI i) 0 G = some (aN a 1 i) := qc_lamp S hi ht (m := 0) (by decide)
theorem ql1 (S : SC G a us) {i : Nat} (hi : i < 16) (ht : aT a i = true) : sh_X3_lamp (nI i) 1 G = some (aN a 2 i) := qc_lamp S hi ht (m := 1) (by decide)
theorem ql2 (S : SC G a us) {i : Nat} (hi : i < 16) (ht : aT a i = true) : sh_X3_lamp (nI i) 2 G = some (b2i (aO a i)) := qc_lamp S hi ht (m := 2) (by decide)
theorem ql3 (S : SC G a us) {i : Nat} (hi : i < 16) (ht : aT a i = true) : sh_X3_lamp (nI i) 3 G = some (aN a 3 i) := qc_lamp S hi ht (m := 3) (by decide)
theorem ql4 (S : SC G a us) {i : Nat} (hi : i < 16) (ht : aT a i = true) : sh_X3_lamp (nI i) 4 G = some (aN a 5 i) := qc_lamp S hi ht (m := 4) (by decide)
theorem ql5 (S : SC G a us) {i : Nat} (hi : i < 16) (ht : aT a i = true) : sh_X3_lamp (nI i) 5 G = some (aN a 6 i) := qc_lamp S hi ht (m := 5) (by decide)
theorem ql6 (S : SC G a us) {i : Nat} (hi : i < 16) (ht : aT a i = true) : sh_X3_lamp (nI i) 6 G = some (bS (aL a i)) := qc_lamp S hi ht (m := 6) (by decide)
theorem ql7 (S : SC G a us) {i : Nat} (hi : i < 16) (ht : aT a i = true) : sh_X3_lamp (nI i) 7 G = some (bS (pcOf a i)) := qc_lamp S hi ht (m := 7) (by decide)
theorem ql8 (S : SC G a us) {i : Nat} (hi : i < 16) (ht : aT a i = true) : sh_X3_lamp (nI i) 8 G = some (bS (sAg a i)) := qc_lamp S hi ht (m := 8) (by decide)
theorem ql9 (S : SC G a us) {i : Nat} (hi : i < 16) (ht : aT a i = true) : sh_X3_lamp (nI i) 9 G = some (aN a 7 i) := qc_lamp S hi ht (m := 9) (by decide)
theorem qk0 (S : SC G a us) : sh_X3_count 0 G = some (aG a 0) := qc_count S (j := 0) (by decide)
theorem qk1 (S : SC G a us) : sh_X3_count 1 G = some (nI (cnt (aT a) 16)) := qc_count S (j := 1) (by decide)
theorem qk2 (S : SC G a us) : sh_X3_count 2 G = some (nI (cnt (aO a) 16)) := qc_count S (j := 2) (by decide)
theorem qk3 (S : SC G a us) : sh_X3_count 3 G = some (nI (lkN a / 2)) := by
  have h : sh_X3_count 3 G = some (nI (lkN a) / 2) := qc_count S (j := 3) (by decide)
  rw [h, nI_half (by have := lk_le a; omega)]
theorem qk4 (S : SC G a us) : sh_X3_count 4 G = some (nI (sPcs a 16).1) := qc_count S (j := 4) (by decide)
theorem qk5 (S : SC G a us) : sh_X3_count 5 G = some (aG a 1) := qc_count S (j := 5) (by decide)
theorem qk6 (S : SC G a us) : sh_X3_count 6 G = some (aG a 2) := qc_count S (j := 6) (by decide)
theorem qk7 (S : SC G a us) : sh_X3_count 7 G = some (aG a 3) := qc_count S (j := 7) (by decide)
theorem qk8 (S : SC G a us) : sh_X3_count 8 G = some (aG a 4) := qc_count S (j := 8) (by decide)
theorem qk9 (S : SC G a us) : sh_X3_count 9 G = some (aG a 5) := qc_count S (j := 9) (by decide)
theorem none_i {i : Nat} (hi : i < 16) (ht : aT a i = false) : ∀ r, r < 16 → nI i = nI r → aT a r = false := fun r hr e => by
  rw [← nI_inj (by omega) (by omega) e]; exact ht
theorem L_isOn (S : SC G a us) {i : Nat} (hi : i < 16) : sh_L_isOn (nI i) G = some (b2i (aO a i)) := by
  unfold sh_L_isOn
  cases ht : aT a i
  · rw [qc_lamp_f S (none_i hi ht), obp_s, if_neg (by decide)]
    cases ho : aO a i
    · rfl
    · have := S.2.1.1 i hi ho
      rw [ht] at this; cases this
  · rw [ql2 S hi ht, obp_s]
    cases aO a i
    · rfl
    · rfl
theorem L_isThere (S : SC G a us) {i : Nat} (hi : i < 16) : sh_L_isThere (nI i) G = some (b2i (aT a i)) := by
  unfold sh_L_isThere
  cases ht : aT a i
  · rw [qc_lamp_f S (none_i hi ht), obp_s, if_pos (by decide)]; rfl
  · have := (S.2.1.2.2.2.1 i hi ht).1
    rw [ql0 S hi ht, obp_s, if_neg (by rw [I_lt, I_0]; omega)]; rfl
theorem L_isThere_f (S : SC G a us) {l : Int32} (hl : ∀ i, i < 16 → l = nI i → aT a i = false) : sh_L_isThere l G = some 0 := by
  unfold sh_L_isThere
  rw [qc_lamp_f S hl, obp_s, if_pos (by decide)]
noncomputable def tA (a : AM) : Nat → Int64
  | 0 => 7
  | j + 1 => 31 * tA a j + (vC a j).toInt64
noncomputable def tB (a : AM) : Nat → Int64
  | 0 => tA a 12
  | k + 1 => 31 * tB a k + (if aT a (k / 10) then vL a (k / 10) (k % 10) else -1).toInt64
theorem dv10 {k : Nat} (h : k < 160) : nI k / 10 = nI (k / 10) ∧ nI k - nI k / 10 * 10 = nI (k % 10) := by
  have : ∀ k : Nat, k < 160 → nI k / 10 = nI (k / 10) ∧ nI k - nI k / 10 * 10 = nI (k % 10) := by decide +kernel
  exact this k h
theorem L_tale (S : SC G a us) : sh_L_tale G = some (tB a 160) := by
  unfold sh_L_tale
  obtain ⟨w, h1, h2⟩ := forl 12 (fun n j (w : Int64) => sh_L_tale_6 G (fun w1 => (sh_L_tale_33 G (fun w1 => some w1) FU w1 (0 : Int32))) n w (nI j)) (fun j w => w = tA a j) (fun w => sh_L_tale_33 G (fun w1 => some w1) FU w (0 : Int32)) (by
    intro n w _
    show sh_L_tale_6 G _ (n + 1) w (nI 12) = _
    rw [sh_L_tale_6.eq_2, if_pos (by decide)]) (by
    intro n j w hj hw
    show ∃ s', _ ∧ sh_L_tale_6 G _ (n + 1) w (nI j) = _
    rw [sh_L_tale_6.eq_2, if_neg (by rw [show (12 : Int32) = nI 12 from rfl, nI_leI (by omega) (by omega)]; omega), qc_count S hj, obp_s, nI_1 j]
    refine ⟨_, ?_, rfl⟩
    rw [hw]; rfl) 12 0 FU 7 rfl (by decide) rfl
  have h2' : sh_L_tale_6 G (fun w1 => (sh_L_tale_33 G (fun w1 => some w1) FU w1 (0 : Int32))) FU (7 : Int64) (0 : Int32) = _ := h2
  rw [h2', h1]
  obtain ⟨w, h1, h2⟩ := forl 160 (fun n j (w : Int64) => sh_L_tale_33 G (fun w1 => some w1) n w (nI j)) (fun j w => w = tB a j) (fun w => some w) (by
    intro n w _
    show sh_L_tale_33 G _ (n + 1) w (nI 160) = _
    rw [sh_L_tale_33.eq_2, if_pos (by decide)]) (by
    intro n j w hj hw
    obtain ⟨d1, d2⟩ := dv10 hj
    show ∃ s', _ ∧ sh_L_tale_33 G _ (n + 1) w (nI j) = _
    rw [sh_L_tale_33.eq_2, if_neg (by rw [show (160 : Int32) = nI 160 from rfl, nI_leI (by omega) (by omega)]; omega), d2, d1, nI_1 j]
    have hv : sh_X3_lamp (nI (j / 10)) (nI (j % 10)) G = some (if aT a (j / 10) then vL a (j / 10) (j % 10) else -1) := by
      cases ht : aT a (j / 10)
      · rw [qc_lamp_f S (none_i (by omega) ht)]; rfl
      · rw [qc_lamp S (by omega) ht (by omega)]; rfl
    rw [hv, obp_s]
    refine ⟨_, ?_, rfl⟩
    rw [hw]; rfl) 160 0 FU (tA a 12) rfl (by decide) rfl
  rw [← h1]
  exact h2
theorem lgc (x : Int64) : lg_cmp x x = 0 := by simp [lg_cmp]
theorem ifb {α : Sort _} (b : Bool) (f : Int32 → α) : (if b2i b = 1 then f 1 else f 0) = f (b2i b) := by cases b <;> rfl
end LS
