-- the text
def tx2 (G : gG) (n : Nat) (T : Nat → Nat) : Prop := G 65 1 = nI n ∧ n ≤ 60 ∧ ∀ i, i < n → G 66 i = nI (T i) ∧ T i < 65536
def tx4 (G : gG) (n : Nat) (T : Nat → Nat) : Prop := G 71 7 = nI n ∧ n ≤ 60 ∧ ∀ i, i < n → G 76 i = nI (T i) ∧ T i < 65536
def ch (n : Nat) (T : Nat → Nat) (p : Nat) : Int32 := if p < n then nI (T p) else -1
def nx (n : Nat) (T : Nat → Nat) (p a b : Nat) : Bool := decide (p < n) && (decide (a ≤ T p) && decide (T p ≤ b))
theorem gu_self {G : gG} {k i : Nat} {x : Int32} (h : G k i = x) : gu G k i x = G := by
  funext a b; rw [gu_ap]; split
  · rename_i q; rw [q.1, q.2, h]
  · rfl
theorem gu_gu {G : gG} {k i : Nat} {x y : Int32} : gu (gu G k i x) k i y = gu G k i y := by
  funext a b; simp only [gu_ap]; split
  · rfl
  · rfl
theorem X2_cur {G : gG} {n p : Nat} {T : Nat → Nat} (h : tx2 G n T) (hp : G 65 2 = nI p) (hn : p ≤ n) : sh_X2_current G = some (ch n T p) := by
  obtain ⟨h1, h2, h3⟩ := h
  unfold sh_X2_current ch
  rw [hp, h1, if_neg (nI_pos (by omega))]
  by_cases q : p < n
  · rw [if_neg (nI_ge q (by omega)), if_pos (by rw [show (60 : Int32) = nI 60 from rfl]; exact nI_lt (by omega) (by decide)), if_pos (gin_n (by omega) (by decide)), nI_clamp (by omega), (h3 p q).1, if_pos q]
  · rw [if_pos (nI_le (by omega) (by omega)), if_neg q]
theorem X4_nx {G : gG} {n p : Nat} {T : Nat → Nat} {a b : Nat} (h : tx4 G n T) (hp : G 71 8 = nI p) (hn : p ≤ n) (ha : a < 2 ^ 31) (hb : b < 2 ^ 31) : sh_X4_isNext (nI a) (nI b) G = some (b2i (nx n T p a b)) := by
  obtain ⟨h1, h2, h3⟩ := h
  unfold sh_X4_isNext nx
  rw [hp, h1]
  by_cases q : p < n
  · rw [if_neg (nI_ge q (by omega)), if_pos (gin_n (by omega) (by decide)), nI_clamp (by omega), (h3 p q).1]
    have hT := (h3 p q).2
    unfold sh_X4_in
    simp only [nI_leI ha (show T p < 2 ^ 31 by omega), nI_leI (show T p < 2 ^ 31 by omega) hb, nI_ltI ha (show T p < 2 ^ 31 by omega), nI_ltI (show T p < 2 ^ 31 by omega) hb, nI_ltI (show T p < 2 ^ 31 by omega) ha, nI_ltI hb (show T p < 2 ^ 31 by omega)]
    by_cases q1 : a ≤ T p
    · by_cases q2 : T p ≤ b
      · simp [q, q1, q2, b2i, show ¬ T p < a by omega, show ¬ b < T p by omega]
      · simp [q, q1, q2, b2i, show ¬ T p < a by omega, show b < T p by omega]
    · simp [q, q1, b2i, show T p < a by omega]
  · rw [if_pos (nI_le (by omega) (by omega))]; simp [q, b2i]
theorem X4_takes {G : gG} {n p : Nat} {T : Nat → Nat} {a : Nat} (h : tx4 G n T) (hp : G 71 8 = nI p) (hn : p ≤ n) (ha : a < 2 ^ 31) : sh_X4_takes (nI a) G = some (b2i (nx n T p a a), gu G 71 8 (nI (if nx n T p a a then p + 1 else p))) := by
  unfold sh_X4_takes
  rw [X4_nx h hp hn ha ha, obp_s]
  cases nx n T p a a
  · rw [if_pos (b_f rfl), bng_s, hp, Int32.add_zero, if_pos (by decide)]; rfl
  · rw [if_neg (b_t rfl), bng_s, hp, nI_1, if_pos (by decide)]; rfl
theorem nx_ch {n p : Nat} {T : Nat → Nat} {a : Nat} (ha : a < 2 ^ 31) (hT : p < n → T p < 65536) : ch n T p = nI a ↔ nx n T p a a = true := by
  unfold ch nx
  by_cases q : p < n
  · rw [if_pos q, nI_eq (by have := hT q; omega) ha]; simp [q]; omega
  · rw [if_neg q]; simp [q]
    intro e
    have := congrArg Int32.toInt e
    rw [nI_toInt ha] at this
    have e2 : (-1 : Int32).toInt = -1 := by decide
    omega
theorem X2_skip {G : gG} {n p : Nat} {T : Nat → Nat} {a : Nat} (h : tx2 G n T) (hp : G 65 2 = nI p) (hn : p ≤ n) (ha : a < 2 ^ 31) : sh_X2_skip (nI a) G = some (b2i (nx n T p a a), gu G 65 2 (nI (if nx n T p a a then p + 1 else p))) := by
  unfold sh_X2_skip
  rw [X2_cur h hp hn, obp_s]
  have e := nx_ch (n := n) (p := p) (T := T) ha (fun q => (h.2.2 p q).2)
  by_cases q : ch n T p = nI a
  · have q2 := e.mp q
    rw [if_pos q, bng_s, hp, nI_1, q2]; rfl
  · have q2 : nx n T p a a = false := by
      cases hh : nx n T p a a
      · rfl
      · exact absurd (e.mpr hh) q
    rw [if_neg q, q2]
    rw [gu_self (by rw [hp]; rfl)]; rfl
theorem ch_end {n p : Nat} {T : Nat → Nat} (hT : p < n → T p < 65536) : ch n T p = -1 ↔ ¬ p < n := by
  unfold ch
  by_cases q : p < n
  · rw [if_pos q]
    constructor
    · intro e
      have := congrArg Int32.toInt e
      rw [nI_toInt (by have := hT q; omega)] at this
      have e2 : (-1 : Int32).toInt = -1 := by decide
      omega
    · intro e; exact absurd q e
  · rw [if_neg q]; simp [q]
-- a number
def BG (lo hi : Nat) : Prop := hi < 200 ∧ lo < 2 ^ 31 ∧ ∀ m, m < 2000 → ∃ b : Bool, sh_X2_begins (nI m) (nI lo) (nI hi) = some (b2i b) ∧ sh_X4_begins (nI m) (nI lo) (nI hi) = some (b2i b) ∧ (b = true → m ≤ hi)
def bgq (lo hi m : Nat) : Bool := match sh_X2_begins (nI m) (nI lo) (nI hi), sh_X4_begins (nI m) (nI lo) (nI hi) with
  | some x, some y => decide (x = y) && (decide (x = 0) || (decide (x = 1) && decide (m ≤ hi)))
  | _, _ => false
theorem bg_of {lo hi : Nat} (h1 : hi < 200) (h2 : lo < 2 ^ 31) (h : (List.range 2000).all (bgq lo hi) = true) : BG lo hi := by
  refine ⟨h1, h2, fun m hm => ?_⟩
  have := List.all_eq_true.mp h m (List.mem_range.mpr hm)
  unfold bgq at this
  split at this
  · rename_i x y ex ey
    rw [ex, ey]
    simp only [Bool.and_eq_true, Bool.or_eq_true, decide_eq_true_eq] at this
    obtain ⟨rfl, e | e⟩ := this
    · exact ⟨false, by rw [e]; rfl, by rw [e]; rfl, fun h => by cases h⟩
    · exact ⟨true, by rw [e.1]; rfl, by rw [e.1]; rfl, fun _ => e.2⟩
  · cases this
theorem bg_p : BG 0 199 := bg_of (by decide) (by decide) (by decide +kernel)
theorem bg_r : BG 50 150 := bg_of (by decide) (by decide) (by decide +kernel)
