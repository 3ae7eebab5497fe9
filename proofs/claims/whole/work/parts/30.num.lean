-- a number of the text, read by both
theorem tx2.w {G G' : gG} {n : Nat} {T : Nat → Nat} (h : tx2 G n T) (e1 : G' 65 1 = G 65 1) (e2 : G' 66 = G 66) : tx2 G' n T := by
  unfold tx2; rw [e1, e2]; exact h
theorem tx4.w {G G' : gG} {n : Nat} {T : Nat → Nat} (h : tx4 G n T) (e1 : G' 71 7 = G 71 7) (e2 : G' 76 = G 76) : tx4 G' n T := by
  unfold tx4; rw [e1, e2]; exact h
theorem tx2.p {G : gG} {n : Nat} {T : Nat → Nat} {x : Int32} (h : tx2 G n T) : tx2 (gu G 65 2 x) n T := h.w (gu_n2 (by decide)) (gu_ne (by decide))
theorem tx4.p {G : gG} {n : Nat} {T : Nat → Nat} {x : Int32} (h : tx4 G n T) : tx4 (gu G 71 8 x) n T := h.w (gu_n2 (by decide)) (gu_ne (by decide))
def NR (lo hi n : Nat) (T : Nat → Nat) (v w : Int32) (p' : Nat) : Prop := p' ≤ n ∧ ((∃ m, lo ≤ m ∧ m ≤ hi ∧ v = nI m ∧ w = nI m) ∨ (v = -1 ∧ w = -5) ∨ (v = -1 ∧ (∃ m, m ≤ hi ∧ w = nI m) ∧ p' < n ∧ 48 ≤ T p' ∧ T p' ≤ 57))
theorem s48 {t : Nat} (e : Nat) (he : t = e + 48) : nI t - 48 = nI e := by
  rw [he, ← nI_add, show nI 48 = (48 : Int32) from rfl, Int32.add_sub_cancel]
theorem s48l {t : Nat} (h : t < 48) : nI t - 48 < 0 := by
  rw [I_lt, I_sub (by rw [nI_toInt (by omega)]; have : (48 : Int32).toInt = 48 := by decide
                      omega) (by rw [nI_toInt (by omega)]; have : (48 : Int32).toInt = 48 := by decide
                                 omega), nI_toInt (by omega)]
  have : (48 : Int32).toInt = 48 := by decide
  have h0 : (0 : Int32).toInt = 0 := by decide
  omega
theorem n_m1 : (-1 : Int32) - 48 < 0 := by decide
theorem lo_m {lo : Nat} (h : lo < 2 ^ 31) : ¬ nI lo ≤ -1 := by
  rw [I_le, nI_toInt h]
  have : (-1 : Int32).toInt = -1 := by decide
  omega
theorem lo_5 {lo : Nat} (h : lo < 2 ^ 31) : (-5 : Int32) < nI lo := by
  rw [I_lt, nI_toInt h, m5_i]; omega
theorem n_fin {lo hi m n p : Nat} {T : Nat → Nat} (hp : p ≤ n) (h1 : lo < 2 ^ 31) (h2 : hi < 200) (hm : m ≤ hi) : ∃ v w, NR lo hi n T v w p ∧ (∀ G, sh_X2_parseNumber_j89 (nI lo) (nI m) G = some (v, G)) ∧ (if (sh_X4_in (nI m) (nI lo) (nI hi)) = (0 : Int32) then (-5 : Int32) else nI m) = w := by
  unfold sh_X2_parseNumber_j89
  by_cases q : lo ≤ m
  · refine ⟨nI m, nI m, ⟨hp, Or.inl ⟨m, q, hm, rfl, rfl⟩⟩, fun G => by rw [if_pos (nI_le q (by omega))], ?_⟩
    rw [X4_in_t (nI_nlt q (by omega)) (nI_nlt hm (by omega)), if_neg (by decide)]
  · refine ⟨-1, -5, ⟨hp, Or.inr (Or.inl ⟨rfl, rfl⟩)⟩, fun G => by rw [if_neg (nI_ge (by omega) (by omega))], ?_⟩
    rw [X4_in_f (Or.inl (nI_lt (by omega) (by omega))), if_pos rfl]
theorem ite_so {c : Prop} [Decidable c] {x y : Int32} {G : gG} : (if c then some (x, G) else some (y, G)) = some (if c then x else y, G) := by split <;> rfl
def dg (n : Nat) (T : Nat → Nat) (p : Nat) : Bool := nx n T p 48 57
theorem dg_t {n p : Nat} {T : Nat → Nat} (h : dg n T p = true) : p < n ∧ ∃ e, e < 10 ∧ T p = e + 48 := by
  unfold dg nx at h
  simp only [Bool.and_eq_true, decide_eq_true_eq] at h
  exact ⟨h.1, T p - 48, by omega, by omega⟩
theorem dg_f {n p : Nat} {T : Nat → Nat} (hT : p < n → T p < 65536) (h : dg n T p = false) : (ch n T p - 48 < 0) ∨ (¬ ch n T p - 48 < 0 ∧ 9 < ch n T p - 48) := by
  unfold dg nx at h
  unfold ch
  by_cases q : p < n
  · rw [if_pos q]
    simp only [q, decide_true, Bool.true_and, Bool.and_eq_false_iff, decide_eq_false_iff_not] at h
    by_cases q1 : T p < 48
    · exact Or.inl (s48l q1)
    · right
      have hh := hT q
      rw [s48 (T p - 48) (by omega)]
      exact ⟨nI_pos (by omega), by rw [show (9 : Int32) = nI 9 from rfl]; exact nI_lt (by omega) (by omega)⟩
  · rw [if_neg q]; exact Or.inl n_m1
/-- the class's step -/
theorem n2_step {lo hi n n1 m p c : Nat} {T : Nat → Nat} {G : gG} (l3 : Int32) (hc : c < 3) (h : tx2 G n T) (hp : G 65 2 = nI p) (hn : p ≤ n) : sh_X2_parseNumber_5 (fun l1 l3 G => (sh_X2_parseNumber_j89 l1 l3 G)) (n1 + 1) (nI lo) (nI hi) l3 (nI c) G = (if dg n T p = true ∧ ¬ l3 = 0 then sh_X2_parseNumber_j56 (fun l1 l3 G => (sh_X2_parseNumber_j89 l1 l3 G)) (sh_X2_parseNumber_5 (fun l1 l3 G => (sh_X2_parseNumber_j89 l1 l3 G)) n1) (nI lo) (nI hi) (nI c) (if c = 0 then nI (T p) - 48 else l3 * 10 + (nI (T p) - 48)) G else sh_X2_parseNumber_j89 (nI lo) l3 G) := by
  rw [sh_X2_parseNumber_5.eq_2, if_neg (by rw [show (3 : Int32) = nI 3 from rfl, nI_leI (by decide) (by omega)]; omega), X2_cur h hp hn, obp_s]
  by_cases q : dg n T p = true
  · obtain ⟨q1, e, he, hT⟩ := dg_t q
    have ec : ch n T p - 48 = nI e := by unfold ch; rw [if_pos q1]; exact s48 e hT
    have ec2 : nI (T p) - 48 = nI e := s48 e hT
    rw [ec, ec2, if_neg (nI_pos (by omega)), if_neg (by rw [show (9 : Int32) = nI 9 from rfl]; exact nI_nlt (by omega) (by decide))]
    by_cases q2 : l3 = 0
    · rw [if_pos q2, if_neg (show ¬ (dg n T p = true ∧ ¬ l3 = 0) from fun hh => hh.2 q2)]
    · rw [if_neg q2, if_pos (show dg n T p = true ∧ ¬ l3 = 0 from ⟨q, q2⟩)]
      by_cases q3 : c = 0
      · subst q3; rw [if_pos nI_0, if_pos rfl]
      · rw [if_neg (nI_ne0 (by omega) (by omega)), if_neg q3]
  · rw [if_neg (show ¬ (dg n T p = true ∧ ¬ l3 = 0) from fun hh => q hh.1)]
    rcases dg_f (fun hh => (h.2.2 p hh).2) (by simpa using q) with q1 | ⟨q1, q2⟩
    · rw [if_pos q1]
    · rw [if_neg q1, if_pos q2]
/-- the model's step -/
theorem n4_step {lo hi n n1 p : Nat} {T : Nat → Nat} {G : gG} (l3 : Int32) (h : tx4 G n T) (hp : G 71 8 = nI p) (hn : p ≤ n) : sh_X4_readNumber_3 (fun l1 l2 l3 G => (sh_X4_readNumber_j100 l1 l2 l3 G)) (n1 + 1) (nI lo) (nI hi) l3 G = (if dg n T p = true ∧ ¬ l3 = 0 then sh_X4_readNumber_j56 (fun l1 l2 l3 G => (sh_X4_readNumber_j100 l1 l2 l3 G)) (sh_X4_readNumber_3 (fun l1 l2 l3 G => (sh_X4_readNumber_j100 l1 l2 l3 G)) n1) (nI lo) (nI hi) l3 (if l3 = -5 then nI (T p) - 48 else (10 * l3 + nI (T p)) - 48) G else sh_X4_readNumber_j100 (nI lo) (nI hi) l3 G) := by
  rw [sh_X4_readNumber_3.eq_2, show (48 : Int32) = nI 48 from rfl, show (57 : Int32) = nI 57 from rfl, X4_nx h hp hn (by decide) (by decide), obp_s]
  by_cases q : dg n T p = true
  · obtain ⟨q1, e, he, hT⟩ := dg_t q
    have q' : nx n T p 48 57 = true := q
    rw [q', if_neg (b_t rfl)]
    by_cases q2 : l3 = 0
    · rw [if_pos q2, if_neg (show ¬ (dg n T p = true ∧ ¬ l3 = 0) from fun hh => hh.2 q2)]
    · rw [if_neg q2, if_pos (show dg n T p = true ∧ ¬ l3 = 0 from ⟨q, q2⟩), hp, if_pos (gin_n (by have := h.2.1; omega) (by decide)), nI_clamp (by have := h.2.1; omega), (h.2.2 p q1).1]
      by_cases q3 : l3 = -5
      · rw [if_pos q3, if_pos q3]
      · rw [if_neg q3, if_neg q3, if_pos (gin_n (by have := h.2.1; omega) (by decide))]
  · have q' : nx n T p 48 57 = false := by simpa [dg] using q
    rw [q', if_pos (b_f rfl), if_neg (show ¬ (dg n T p = true ∧ ¬ l3 = 0) from fun hh => q hh.1)]
theorem num_l {lo hi n : Nat} {T : Nat → Nat} (hb : BG lo hi) (hn : n ≤ 60) : ∀ (k m p n1 n2 : Nat), k ≤ 2 → p ≤ n → m ≤ hi → (k = 0 → 100 ≤ m) → (k = 1 → 10 ≤ m) → k + 1 < n1 → k + 2 < n2 → ∃ v w p', NR lo hi n T v w p' ∧ (∀ G, tx2 G n T → G 65 2 = nI p → sh_X2_parseNumber_5 (fun l1 l3 G => (sh_X2_parseNumber_j89 l1 l3 G)) n1 (nI lo) (nI hi) (nI m) (nI (3 - k)) G = some (v, gu G 65 2 (nI p'))) ∧ (∀ G, tx4 G n T → G 71 8 = nI p → sh_X4_readNumber_3 (fun l1 l2 l3 G => (sh_X4_readNumber_j100 l1 l2 l3 G)) n2 (nI lo) (nI hi) (nI m) G = some (w, gu G 71 8 (nI p'))) := by
  obtain ⟨hb1, hb2, hb3⟩ := hb
  intro k
  induction k with
  | zero =>
    intro m p n1 n2 _ hp hm h0 _ hn1 hn2
    have h100 := h0 rfl
    obtain ⟨v, w, f1, f2, f3⟩ := n_fin (T := T) hp hb2 hb1 hm
    refine ⟨v, w, p, f1, fun G hG hpG => ?_, fun G hG hpG => ?_⟩
    · obtain ⟨n1, rfl⟩ : ∃ j, n1 = j + 1 := ⟨n1 - 1, by omega⟩
      rw [sh_X2_parseNumber_5.eq_2, if_pos (by decide), f2, gu_self hpG]
    · obtain ⟨n2, rfl⟩ : ∃ j, n2 = j + 1 := ⟨n2 - 1, by omega⟩
      rw [n4_step _ hG hpG hp, gu_self hpG]
      split
      · rename_i q
        obtain ⟨q1, e, he, hT⟩ := dg_t q.1
        obtain ⟨b, e1, e2, e3⟩ := hb3 (10 * m + e) (by omega)
        rw [if_neg (m5_ne (by omega)), hT, show (10 : Int32) = nI 10 from rfl, pk_mul, nI_add, s48 (10 * m + e) (by omega)]
        unfold sh_X4_readNumber_j56
        have hbf : b = false := by
          cases b
          · rfl
          · have := e3 rfl; omega
        rw [e2, obp_s, hbf, if_pos (b_f rfl), ite_so, f3]
      · unfold sh_X4_readNumber_j100
        rw [ite_so, f3]
  | succ k ih =>
    intro m p n1 n2 hk hp hm _ h1 hn1 hn2
    obtain ⟨n1, rfl⟩ : ∃ j, n1 = j + 1 := ⟨n1 - 1, by omega⟩
    obtain ⟨n2, rfl⟩ : ∃ j, n2 = j + 1 := ⟨n2 - 1, by omega⟩
    by_cases q : dg n T p = true ∧ ¬ nI m = 0
    · obtain ⟨q1, e, he, hT⟩ := dg_t q.1
      obtain ⟨b, e1, e2, e3⟩ := hb3 (10 * m + e) (by omega)
      have hm0 : m ≠ 0 := fun hh => q.2 (by rw [hh]; rfl)
      have x2 : (if 3 - (k + 1) = 0 then nI (T p) - 48 else nI m * 10 + (nI (T p) - 48)) = nI (10 * m + e) := by
        rw [if_neg (by omega), s48 e hT, show (10 : Int32) = nI 10 from rfl, pk_mul, nI_add, Nat.mul_comm]
      have x4 : (if nI m = -5 then nI (T p) - 48 else (10 * nI m + nI (T p)) - 48) = nI (10 * m + e) := by
        rw [if_neg (m5_ne (by omega)), hT, show (10 : Int32) = nI 10 from rfl, pk_mul, nI_add, s48 (10 * m + e) (by omega)]
      cases hbb : b
      · obtain ⟨v, w, f1, f2, f3⟩ := n_fin (T := T) (m := m) hp hb2 hb1 hm
        refine ⟨-1, w, p, ⟨hp, ?_⟩, fun G hG hpG => ?_, fun G hG hpG => ?_⟩
        · rcases f1.2 with ⟨m', g1, g2, g3, g4⟩ | ⟨g1, g2⟩ | ⟨g1, g2⟩
          · exact Or.inr (Or.inr ⟨rfl, ⟨m', g2, g4⟩, q1, by omega, by omega⟩)
          · exact Or.inr (Or.inl ⟨rfl, g2⟩)
          · exact Or.inr (Or.inr ⟨rfl, g2⟩)
        · rw [n2_step (m := m) _ (by omega) hG hpG hp, if_pos q, x2]
          unfold sh_X2_parseNumber_j56
          rw [e1, obp_s, hbb, if_pos (b_f rfl), gu_self hpG]
        · rw [n4_step _ hG hpG hp, if_pos q, x4]
          unfold sh_X4_readNumber_j56
          rw [e2, obp_s, hbb, if_pos (b_f rfl), gu_self hpG, ite_so, f3]
      · have hle := e3 hbb
        obtain ⟨v, w, p', f1, f2, f3⟩ := ih (10 * m + e) (p + 1) n1 n2 (by omega) (by omega) hle (by omega) (by omega) (by omega) (by omega)
        refine ⟨v, w, p', f1, fun G hG hpG => ?_, fun G hG hpG => ?_⟩
        · rw [n2_step (m := m) _ (by omega) hG hpG hp, if_pos q, x2]
          unfold sh_X2_parseNumber_j56
          rw [e1, obp_s, hbb, if_neg (b_t rfl), bng_s, hpG, nI_1, nI_1, show 3 - (k + 1) + 1 = 3 - k by omega, f2 _ hG.p gu_at, gu_gu]
        · rw [n4_step _ hG hpG hp, if_pos q, x4]
          unfold sh_X4_readNumber_j56
          rw [e2, obp_s, hbb, if_neg (b_t rfl), bng_s, hpG, nI_1, f3 _ hG.p gu_at, gu_gu]
    · obtain ⟨v, w, f1, f2, f3⟩ := n_fin (T := T) (m := m) hp hb2 hb1 hm
      refine ⟨v, w, p, f1, fun G hG hpG => ?_, fun G hG hpG => ?_⟩
      · rw [n2_step (m := m) _ (by omega) hG hpG hp, if_neg q, f2, gu_self hpG]
      · rw [n4_step _ hG hpG hp, if_neg q, gu_self hpG]
        unfold sh_X4_readNumber_j100
        rw [ite_so, f3]
theorem num {lo hi n : Nat} {T : Nat → Nat} (hb : BG lo hi) (hn : n ≤ 60) {p : Nat} (hp : p ≤ n) : ∃ v w p', NR lo hi n T v w p' ∧ (∀ G, tx2 G n T → G 65 2 = nI p → sh_X2_parseNumber (nI lo) (nI hi) G = some (v, gu G 65 2 (nI p'))) ∧ (∀ G, tx4 G n T → G 71 8 = nI p → sh_X4_readNumber (nI lo) (nI hi) G = some (w, gu G 71 8 (nI p'))) := by
  have hb' := hb
  obtain ⟨hb1, hb2, hb3⟩ := hb
  unfold sh_X2_parseNumber sh_X4_readNumber
  have hF : FU = 3999 + 1 := rfl
  rw [hF, ← nI_0]
  by_cases q : dg n T p = true
  · obtain ⟨q1, e, he, hT⟩ := dg_t q
    obtain ⟨b, e1, e2, e3⟩ := hb3 e (by omega)
    have ec : nI (T p) - 48 = nI e := s48 e hT
    cases hbb : b
    · refine ⟨-1, -5, p, ⟨hp, Or.inr (Or.inl ⟨rfl, rfl⟩)⟩, fun G hG hpG => ?_, fun G hG hpG => ?_⟩
      · rw [n2_step (m := 0) (-1) (by decide) hG hpG hp, if_pos ⟨q, by decide⟩, if_pos rfl, ec]
        unfold sh_X2_parseNumber_j56
        rw [e1, obp_s, hbb, if_pos (b_f rfl), gu_self hpG]
      · rw [n4_step (-5) hG hpG hp, if_pos ⟨q, by decide⟩, if_pos rfl, ec]
        unfold sh_X4_readNumber_j56
        rw [e2, obp_s, hbb, if_pos (b_f rfl), gu_self hpG, X4_in_f (Or.inl (lo_5 hb2)), if_pos rfl]
    · obtain ⟨v, w, p', f1, f2, f3⟩ := num_l (T := T) hb' hn 2 e (p + 1) 3999 3999 (by omega) (by omega) (e3 hbb) (by omega) (by omega) (by omega) (by omega)
      refine ⟨v, w, p', f1, fun G hG hpG => ?_, fun G hG hpG => ?_⟩
      · rw [n2_step (m := 0) (-1) (by decide) hG hpG hp, if_pos ⟨q, by decide⟩, if_pos rfl, ec]
        unfold sh_X2_parseNumber_j56
        rw [e1, obp_s, hbb, if_neg (b_t rfl), bng_s, hpG, nI_1, nI_1]
        have := f2 _ (hG.p (x := nI (p + 1))) gu_at
        rw [gu_gu] at this
        exact this
      · rw [n4_step (-5) hG hpG hp, if_pos ⟨q, by decide⟩, if_pos rfl, ec]
        unfold sh_X4_readNumber_j56
        rw [e2, obp_s, hbb, if_neg (b_t rfl), bng_s, hpG, nI_1, f3 _ hG.p gu_at, gu_gu]
  · have q' : ¬ (dg n T p = true ∧ ¬ (-1 : Int32) = 0) := fun hh => q hh.1
    have q'' : ¬ (dg n T p = true ∧ ¬ (-5 : Int32) = 0) := fun hh => q hh.1
    refine ⟨-1, -5, p, ⟨hp, Or.inr (Or.inl ⟨rfl, rfl⟩)⟩, fun G hG hpG => ?_, fun G hG hpG => ?_⟩
    · rw [n2_step (m := 0) (-1) (by decide) hG hpG hp, if_neg q', gu_self hpG]
      unfold sh_X2_parseNumber_j89
      rw [if_neg (lo_m hb2)]
    · rw [n4_step (-5) hG hpG hp, if_neg q'', gu_self hpG]
      unfold sh_X4_readNumber_j100
      rw [X4_in_f (Or.inl (lo_5 hb2)), if_pos rfl]
