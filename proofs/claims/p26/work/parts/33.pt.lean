-- pieces, twins, how many links, who blinks next, when all are together
theorem pc_is {G : gG} {a : AM} {us : List AM} (S : SC G a us) {l : Nat} (hl : l < 16) : isPc a (fun i => aO a i && decide (i = l)) (pcOf a l) := by
  obtain ⟨r, Z, h1, h2, h3⟩ := X1_pieceOf S.1 hl
  exact Classical.epsilon_spec (p := fun Z => isPc a (fun i => aO a i && decide (i = l)) Z) ⟨Z, h3⟩
/-- all lamps have their pieces -/
def hasPc (a : AM) : Prop := ∀ l, l < 16 → isPc a (fun i => aO a i && decide (i = l)) (pcOf a l)
theorem pc_on {a : AM} (h : hasPc a) {l k : Nat} (hl : l < 16) (hk : k < 16) (hm : pcOf a l k = true) : aO a k = true := by
  refine (h l hl).2.2 (aO a) (fun i hi q => ?_) (fun i hi q => ?_) k hk hm
  · rw [Bool.and_eq_true] at q; exact q.1
  · unfold sNb at q; rw [Bool.and_eq_true] at q; exact q.1
theorem pc_self {a : AM} (h : hasPc a) {l : Nat} (hl : l < 16) (ho : aO a l = true) : pcOf a l l = true := (h l hl).1 l hl (by show (aO a l && decide (l = l)) = true; rw [ho]; simp)
theorem pc_off {a : AM} (h : hasPc a) {l k : Nat} (hl : l < 16) (hk : k < 16) (ho : aO a l = false) : pcOf a l k = false := by
  cases hm : pcOf a l k
  · rfl
  · have := (h l hl).2.2 (fun _ => false) (fun i hi q => by
      rw [Bool.and_eq_true, decide_eq_true_eq] at q
      rw [q.2, ho] at q; exact q.1) (fun i hi q => by rw [sNb_none (fun _ _ => rfl) i] at q; exact q) k hk hm
    cases this
theorem nb_of {a : AM} {S : Nat → Bool} {b i : Nat} (hb : b < 16) (h1 : S b = true) (h2 : aL a b i = true) (ho : aO a i = true) : sNb a S i = true := by
  unfold sNb
  rw [ho, Bool.true_and, decide_eq_true_eq]
  exact cnt_pos hb (by rw [h1, h2]; rfl)
theorem of_nb {a : AM} {S : Nat → Bool} {i : Nat} (h : sNb a S i = true) : aO a i = true ∧ ∃ b, b < 16 ∧ S b = true ∧ aL a b i = true := by
  unfold sNb at h
  rw [Bool.and_eq_true, decide_eq_true_eq] at h
  refine ⟨h.1, ?_⟩
  rcases Classical.em (∃ b, b < 16 ∧ S b = true ∧ aL a b i = true) with q | q
  · exact q
  · have : cnt (fun b => S b && aL a b i) 16 = 0 := cnt_0.mpr (fun b hb => by
      cases h1 : S b
      · rfl
      · cases h2 : aL a b i
        · rfl
        · exact absurd ⟨b, hb, h1, h2⟩ q)
    omega
theorem pc_link {a : AM} (h : hasPc a) {l k : Nat} (hl : l < 16) (hk : k < 16) (h1 : aO a l = true) (h2 : aO a k = true) (hL : aL a l k = true) : pcOf a l k = true :=
  (h l hl).2.1 k hk (nb_of hl (pc_self h hl h1) hL h2)
theorem pc_sub {a : AM} (h : hasPc a) {l k j : Nat} (hl : l < 16) (hk : k < 16) (hj : j < 16) (hm : pcOf a l k = true) (hz : pcOf a k j = true) : pcOf a l j = true :=
  (h k hk).2.2 (pcOf a l) (fun i hi q => by
    rw [Bool.and_eq_true, decide_eq_true_eq] at q
    rw [q.2]; exact hm) (h l hl).2.1 j hj hz
theorem pc_symm {a : AM} (h : hasPc a) (hs : ∀ i j, i < 16 → j < 16 → aL a i j = aL a j i) {l k : Nat} (hl : l < 16) (hk : k < 16) (hm : pcOf a l k = true) : pcOf a k l = true := by
  have key := (h l hl).2.2 (fun j => aO a j && pcOf a j l) (fun i hi q => by
    rw [Bool.and_eq_true, decide_eq_true_eq] at q
    obtain ⟨q1, q2⟩ := q
    rw [q2] at q1
    show (aO a i && pcOf a i l) = true
    rw [q2, q1, pc_self h hl q1]; rfl) (fun i hi q => by
    obtain ⟨ho, b, hb, h1, h2⟩ := of_nb q
    rw [Bool.and_eq_true] at h1
    have h3 : pcOf a i b = true := pc_link h hi hb ho h1.1 (by rw [hs i b hi hb]; exact h2)
    rw [ho, pc_sub h hi hb hl h3 h1.2]; rfl) k hk hm
  rw [Bool.and_eq_true] at key
  exact key.2
theorem pc_same {a : AM} (h : hasPc a) (hs : ∀ i j, i < 16 → j < 16 → aL a i j = aL a j i) {l k : Nat} (hl : l < 16) (hk : k < 16) (hm : pcOf a l k = true) : bS (pcOf a k) = bS (pcOf a l) := by
  refine isS.bS ((bS_is (pcOf a k)).congr (fun j hj => ?_))
  have hm2 := pc_symm h hs hl hk hm
  cases h1 : pcOf a k j
  · cases h2 : pcOf a l j
    · rfl
    · rw [pc_sub h hk hl hj hm2 h2] at h1; cases h1
  · rw [pc_sub h hl hk hj hm h1]
theorem bS_0 (S : Nat → Bool) : bS S = 0 ↔ ∀ i, i < 16 → S i = false := (bS_is S).zero
theorem pcs_le (a : AM) : ∀ j, (sPcs a j).1 ≤ cnt (aO a) j
  | 0 => Nat.le_refl _
  | j + 1 => by
    have ih := pcs_le a j
    simp only [cnt]
    cases hb : (aO a j && !(sPcs a j).2 j)
    · rw [sPcs_f hb]; omega
    · rw [sPcs_t hb]
      rw [Bool.and_eq_true] at hb
      rw [hb.1]
      show (sPcs a j).1 + 1 ≤ _ + 1
      omega
theorem pcs_0 (a : AM) : ∀ j, (sPcs a j).1 = 0 → (∀ i, (sPcs a j).2 i = false) ∧ ∀ i, i < j → aO a i = false
  | 0, _ => ⟨fun _ => rfl, fun i hi => by omega⟩
  | j + 1, h => by
    cases hb : (aO a j && !(sPcs a j).2 j)
    · rw [sPcs_f hb] at h ⊢
      obtain ⟨h1, h2⟩ := pcs_0 a j h
      refine ⟨h1, fun i hi => ?_⟩
      by_cases e : i = j
      · subst e
        rw [h1 i] at hb
        simpa using hb
      · exact h2 i (by omega)
    · rw [sPcs_t hb] at h
      exact absurd h (Nat.succ_ne_zero _)
theorem pcs_pos {a : AM} {i : Nat} (hi : i < 16) (ho : aO a i = true) : 0 < (sPcs a 16).1 := by
  rcases Nat.eq_zero_or_pos (sPcs a 16).1 with q | q
  · have := (pcs_0 a 16 q).2 i hi
    rw [ho] at this; cases this
  · exact q
-- counting links
theorem cnt_set {S : Nat → Bool} {j : Nat} {b : Bool} : ∀ {m : Nat}, j < m → cnt (fun c => if c = j then b else S c) m + (S j).toNat = cnt S m + b.toNat
  | 0, h => by omega
  | m + 1, h => by
    simp only [cnt]
    by_cases e : m = j
    · subst e
      rw [if_pos rfl, cnt_congr (S' := S) (fun i hi => by rw [if_neg (by omega)])]
      omega
    · rw [if_neg e]
      have := cnt_set (S := S) (j := j) (b := b) (m := m) (by omega)
      omega
theorem dsum_set {P : Nat → Nat} {j x : Nat} : ∀ {m : Nat}, j < m → dsum (fun c => if c = j then x else P c) m + P j = dsum P m + x
  | 0, h => by omega
  | m + 1, h => by
    simp only [dsum]
    by_cases e : m = j
    · subst e
      rw [if_pos rfl, dsum_congr (Q := P) (fun i hi => by rw [if_neg (by omega)])]
      omega
    · rw [if_neg e]
      have := dsum_set (P := P) (j := j) (x := x) (m := m) (by omega)
      omega
def lkN (a : AM) : Nat := dsum (fun r => cnt (aL a r) 16) 16
theorem lk_link {a : AM} {i j : Nat} {b : Bool} (hw : wf a) (hi : i < 16) (hj : j < 16) (hij : i ≠ j) : lkN (sLink a i j b) + 2 * (aL a i j).toNat = lkN a + 2 * b.toNat := by
  have e1 : cnt (aL (sLink a i j b) i) 16 + (aL a i j).toNat = cnt (aL a i) 16 + b.toNat := by
    rw [← cnt_set (S := aL a i) (b := b) hj]
    congr 1
    refine cnt_congr (fun c _ => ?_)
    show (if (i = i ∧ c = j) ∨ (i = j ∧ c = i) then b else aL a i c) = _
    by_cases q : c = j
    · rw [if_pos (Or.inl ⟨rfl, q⟩), if_pos q]
    · rw [if_neg (by omega), if_neg q]
  have e2 : cnt (aL (sLink a i j b) j) 16 + (aL a i j).toNat = cnt (aL a j) 16 + b.toNat := by
    rw [hw.2.1 i j hi hj, ← cnt_set (S := aL a j) (b := b) hi]
    congr 1
    refine cnt_congr (fun c _ => ?_)
    show (if (j = i ∧ c = j) ∨ (j = j ∧ c = i) then b else aL a j c) = _
    by_cases q : c = i
    · rw [if_pos (Or.inr ⟨rfl, q⟩), if_pos q]
    · rw [if_neg (by omega), if_neg q]
  have e3 : lkN (sLink a i j b) = dsum (fun c => if c = i then cnt (aL (sLink a i j b) i) 16 else (fun c => if c = j then cnt (aL (sLink a i j b) j) 16 else cnt (aL a c) 16) c) 16 := by
    refine dsum_congr (fun c _ => ?_)
    by_cases q : c = i
    · rw [if_pos q, q]
    · rw [if_neg q]
      show _ = (if c = j then _ else _)
      by_cases q2 : c = j
      · rw [if_pos q2, q2]
      · rw [if_neg q2]
        refine cnt_congr (fun x _ => ?_)
        show (if (c = i ∧ x = j) ∨ (c = j ∧ x = i) then b else aL a c x) = _
        rw [if_neg (by omega)]
  have e4 := dsum_set (P := fun c => if c = j then cnt (aL (sLink a i j b) j) 16 else cnt (aL a c) 16) (x := cnt (aL (sLink a i j b) i) 16) hi
  have e5 := dsum_set (P := fun c => cnt (aL a c) 16) (x := cnt (aL (sLink a i j b) j) 16) hj
  rw [← e3] at e4
  rw [if_neg hij] at e4
  have e7 : lkN a = dsum (fun c => cnt (aL a c) 16) 16 := rfl
  omega
theorem lk_le (a : AM) : lkN a ≤ 256 := dsum_le (c := 16) (m := 16) (fun i _ => cnt_le _ _)
theorem even_sym {L : Nat → Nat → Bool} : ∀ {n : Nat}, (∀ i j, i < n → j < n → L i j = L j i) → (∀ i, i < n → L i i = false) → dsum (fun r => cnt (L r) n) n % 2 = 0
  | 0, _, _ => rfl
  | n + 1, h1, h2 => by
    have ih := even_sym (L := L) (n := n) (fun i j hi hj => h1 i j (by omega) (by omega)) (fun i hi => h2 i (by omega))
    have e : dsum (fun r => cnt (L r) (n + 1)) n = dsum (fun r => cnt (L r) n) n + cnt (L n) n := by
      show dsum (fun r => cnt (L r) n + (L r n).toNat) n = _
      rw [dsum_add, cnt_dsum (L n)]
      congr 1
      exact dsum_congr (fun i hi => by rw [h1 i n (by omega) (by omega)])
    show (dsum (fun r => cnt (L r) (n + 1)) n + (cnt (L n) n + (L n n).toNat)) % 2 = 0
    rw [e, h2 n (by omega)]
    show (_ + (_ + 0)) % 2 = 0
    omega
theorem lk_even {n : Nat} {a : AM} (h : inv n a) : lkN a % 2 = 0 := even_sym h.1.2.1 h.2.1
theorem nI_half {k : Nat} (h : k < 1000) : nI k / 2 = nI (k / 2) := by
  have : ∀ k : Nat, k < 1000 → nI k / 2 = nI (k / 2) := by decide +kernel
  exact this k h
-- who blinks next
theorem nx_f {i : Nat} (hi : i < 16) : ∀ (d j : Nat) (a : AM), j + d = 400 → wf a → aO a i = true → (50 * j : Nat) ≤ (aN a 1 i).toInt → ∃ n, 1 ≤ n ∧ n ≤ d ∧ (sNx d j a).1 = j + n ∧ (sNx d j a).2 = (sTick (sTickN (n - 1) a)).2 ∧ ¬ cnt (sTick (sTickN (n - 1) a)).2 16 = 0 ∧ ∀ k, k + 1 < n → cnt (sTick (sTickN k a)).2 16 = 0
  | 0, j, a, hj, hw, ho, hp => by
    exfalso
    have := wf_ph hw hi (hw.1 i hi ho)
    have := wf_full hw
    omega
  | d + 1, j, a, hj, hw, ho, hp => by
    have e : sNx (d + 1) j a = if cnt (sTick a).2 16 = 0 then sNx d (j + 1) (sTick a).1 else (j + 1, (sTick a).2) := rfl
    by_cases hz : cnt (sTick a).2 16 = 0
    · obtain ⟨p1, p2⟩ := nx_ph hw hi ho hp hz
      obtain ⟨n, n1, n2, n3, n4, n5, n6⟩ := nx_f hi d (j + 1) (sTick a).1 (by omega) (tick_wf hw) p1 p2
      rw [e, if_pos hz]
      obtain ⟨k, rfl⟩ : ∃ k, n = k + 1 := ⟨n - 1, by omega⟩
      refine ⟨k + 1 + 1, by omega, by omega, by rw [n3]; omega, n4, n5, fun q hq => ?_⟩
      cases q with
      | zero => exact hz
      | succ q => exact n6 q (by omega)
    · rw [e, if_neg hz]
      exact ⟨1, by omega, by omega, rfl, rfl, hz, fun k hk => by omega⟩
theorem quiet_f {m : Nat} {a : AM} (h : ∀ k, k < m → cnt (sTick (sTickN k a)).2 16 = 0) : aG (sTickN m a) 1 = aG a 1 ∧ ∀ i, i < 16 → aN (sTickN m a) 6 i = aN a 6 i := by
  induction m with
  | zero => exact ⟨rfl, fun _ _ => rfl⟩
  | succ m ih =>
    obtain ⟨g1, g2⟩ := ih (fun k hk => h k (by omega))
    obtain ⟨P, f1, f2, f3, f4, t0, t1, t2, t3, t4, t5, t6, t7, t8⟩ := tick_f (sTickN m a)
    have hz := h m (by omega)
    rw [tickN_s]
    refine ⟨?_, fun i hi => ?_⟩
    · rw [t1, hz, nI_00]; exact g1
    · rw [(t6 i).2.2.1, cnt_0.mp hz i hi]; exact g2 i hi
-- when all are together
theorem tg_f : ∀ (d m : Nat) (a : AM), (sTg d m a = -5 ∧ ∀ k, k ≤ d → ¬ pTog (sTickN k a)) ∨ ∃ k, k ≤ d ∧ sTg d m a = nI (m + k) ∧ pTog (sTickN k a) ∧ ∀ j, j < k → ¬ pTog (sTickN j a)
  | 0, m, a => by
    have e : sTg 0 m a = if tgB a then nI m else -5 := rfl
    rcases Classical.em (pTog a) with q | q
    · right
      refine ⟨0, Nat.le_refl _, ?_, q, fun j hj => by omega⟩
      rw [e, tgB_t q]; rfl
    · left
      refine ⟨?_, fun k hk => ?_⟩
      · rw [e, tgB_f q]; rfl
      · obtain rfl : k = 0 := by omega
        exact q
  | d + 1, m, a => by
    have e : sTg (d + 1) m a = if tgB a then nI m else sTg d (m + 1) (sTick a).1 := rfl
    rcases Classical.em (pTog a) with q | q
    · right
      refine ⟨0, Nat.zero_le _, ?_, q, fun j hj => by omega⟩
      rw [e, tgB_t q]; rfl
    · rw [e, tgB_f q]
      rcases tg_f d (m + 1) (sTick a).1 with ⟨h1, h2⟩ | ⟨k, h1, h2, h3, h4⟩
      · left
        refine ⟨h1, fun k hk => ?_⟩
        cases k with
        | zero => exact q
        | succ k => exact h2 k (by omega)
      · right
        refine ⟨k + 1, by omega, ?_, h3, fun j hj => ?_⟩
        · show (if false = true then _ else sTg d (m + 1) (sTick a).1) = _
          rw [if_neg (by decide), h2]; congr 1; omega
        · cases j with
          | zero => exact q
          | succ j => exact h4 j (by omega)
-- twins
def tw (a : AM) (p q : Nat) : Prop := p < 16 ∧ q < 16 ∧ p ≠ q ∧ aO a p = true ∧ aO a q = true ∧ (∀ f, fld f → aN a f p = aN a f q) ∧ ∀ k, k < 16 → k ≠ p → k ≠ q → aL a k p = aL a k q
theorem tw_grow {a : AM} {p q : Nat} (h : tw a p q) : tw (sGrow a) p q ∧ sRipe (sGrow a) p = sRipe (sGrow a) q := by
  obtain ⟨h1, h2, h3, h4, h5, h6, h7⟩ := h
  have e : ∀ i, aO a i = true → ∀ f, aN (sGrow a) f i = (if f = 1 then aN a 1 i + aN a 2 i else if f = 3 then (if aN a 3 i ≤ 0 then aN a 3 i else aN a 3 i - 1) else aN a f i) := fun i hi f => by
    show (if aO a i = true then _ else _) = _; rw [hi]; rfl
  have e1 : ∀ f, fld f → aN (sGrow a) f p = aN (sGrow a) f q := fun f hf => by
    rw [e p h4, e q h5, h6 1 fld1, h6 2 fld2, h6 3 fld3, h6 f hf]
  refine ⟨⟨h1, h2, h3, h4, h5, e1, h7⟩, ?_⟩
  unfold sRipe
  have o1 : aO (sGrow a) p = true := h4
  have o2 : aO (sGrow a) q = true := h5
  rw [o1, o2, e1 1 fld1]
theorem tw_blink {a : AM} {p q : Nat} {S : Nat → Bool} (h : tw a p q) (hS : S p = S q) : tw (sBlink a S) p q := by
  obtain ⟨h1, h2, h3, h4, h5, h6, h7⟩ := h
  refine ⟨h1, h2, h3, h4, h5, fun f hf => ?_, h7⟩
  show (if S p then (if f = 1 then 0 else if f = 3 then aG a 7 else if f = 5 then aN a 5 p + 1 else if f = 6 then aG a 0 + 1 else aN a f p) else aN a f p) = (if S q then (if f = 1 then 0 else if f = 3 then aG a 7 else if f = 5 then aN a 5 q + 1 else if f = 6 then aG a 0 + 1 else aN a f q) else aN a f q)
  rw [hS, h6 5 fld5, h6 f hf]
theorem tw_push {a : AM} {p q : Nat} {S W : Nat → Bool} (h : tw a p q) (hS : S p = S q) (hW : W p = W q) (hWS : W p = true → S p = false) : tw (sPF 16 a S W) p q ∧ rPF 16 a S W p = rPF 16 a S W q := by
  obtain ⟨h1, h2, h3, h4, h5, h6, h7⟩ := h
  have hz : dz a W p = dz a W q := by unfold dz; rw [hW, h6 3 fld3]
  have hc : dz a W p = true → cj a S 16 p = cj a S 16 q := fun hd => by
    have hw : W p = true := by unfold dz at hd; rw [Bool.and_eq_true] at hd; exact hd.1
    have s1 := hWS hw
    have s2 : S q = false := by rw [← hS]; exact s1
    refine cnt_congr (fun b hb => ?_)
    by_cases e1 : b = p
    · rw [e1, s1]; rfl
    · by_cases e2 : b = q
      · rw [e2, s2]; rfl
      · rw [h7 b hb e1 e2]
  have e : ∀ g i, aN (sPF 16 a S W) g i = (if dz a W i then (if g = 1 then pIt (sFull a) (aG a 6) (cj a S 16 i) (aN a 1 i) else if g = 7 then aN a 7 i + nI (cj a S 16 i) else aN a g i) else aN a g i) := fun g i => rfl
  refine ⟨⟨h1, h2, h3, h4, h5, fun f hf => ?_, h7⟩, ?_⟩
  · rw [e, e, ← hz]
    cases hd : dz a W p
    · exact h6 f hf
    · rw [hc hd, h6 1 fld1, h6 7 fld7, h6 f hf]
  · unfold rPF
    rw [← hz]
    cases hd : dz a W p
    · rw [Bool.false_and, Bool.false_and]
    · rw [hc hd, h6 1 fld1]
theorem tw_R {p q : Nat} : ∀ (d : Nat) (a : AM) (B S : Nat → Bool), tw a p q → B p = B q → S p = S q → tw (sTickR d a B S).1 p q
  | 0, a, B, S, h, _, _ => h
  | d + 1, a, B, S, h, hB, hS => by
    by_cases hz : cnt S 16 = 0
    · have e : sTickR (d + 1) a B S = (a, B) := by show (if cnt S 16 = 0 then _ else _) = _; rw [if_pos hz]
      rw [e]; exact h
    · have e : sTickR (d + 1) a B S = sTickR d (sPF 16 (sBlink a S) S (fun i => aO a i && !(B i || S i))) (fun i => B i || S i) (rPF 16 (sBlink a S) S (fun i => aO a i && !(B i || S i))) := by show (if cnt S 16 = 0 then _ else _) = _; rw [if_neg hz]
      rw [e]
      have h2 := tw_push (S := S) (W := fun i => aO a i && !(B i || S i)) (tw_blink h hS) hS (by show (aO a p && !(B p || S p)) = (aO a q && !(B q || S q)); rw [h.2.2.2.1, h.2.2.2.2.1, hB, hS]) (fun hw => by
        have hw' : (aO a p && !(B p || S p)) = true := hw
        cases hs : S p
        · rfl
        · rw [hs] at hw'; simp at hw')
      exact tw_R d _ _ _ h2.1 (by show (B p || S p) = (B q || S q); rw [hB, hS]) h2.2
theorem tw_tick {a : AM} {p q : Nat} (h : tw a p q) : tw (sTick a).1 p q := by
  obtain ⟨h1, h2⟩ := tw_grow h
  exact tw_R 16 (sGrow a) (fun _ => false) (sRipe (sGrow a)) h1 rfl h2
theorem tw_ticks {p q : Nat} : ∀ (m : Nat) {a : AM}, tw a p q → tw (sTickN m a) p q
  | 0, _, h => h
  | m + 1, _, h => tw_ticks m (tw_tick h)
