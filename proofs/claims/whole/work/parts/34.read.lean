-- the mesh that a text tells of
def sRead (a : AM) (c : Nat) (ph rt : Nat → Nat) (lk : Nat → Nat → Bool) : AM := (fun r => decide (r < c), fun r => decide (r < c), lk, fun f r => if f = 1 then (if nI (ph r * 100) < sFull a then nI (ph r * 100) else sFull a - 1) else if f = 2 then nI (rt r) else 0, aG a)
theorem read_wf {a : AM} {c : Nat} {ph rt : Nat → Nat} {lk : Nat → Nat → Bool} (hw : wf a) (hl : WL c lk) (hb : BD c ph rt) : wf (sRead a c ph rt lk) := by
  have hf := wf_full hw
  have hw' := hw
  obtain ⟨_, _, _, _, h5, h6, h7, h8, h9, h10⟩ := hw'
  refine ⟨fun i hi ho => ho, fun i j hi hj => (hl i j).1, fun i j hi hj h => by simpa [aT, sRead] using ((hl i j).2 h).1, fun i hi ht => ?_, h5, h6, h7, h8, h9, h10⟩
  have hi' : i < c := by simpa [aT, sRead] using ht
  obtain ⟨b1, b2, b3⟩ := hb i hi'
  have e1 : (1 : Int32).toInt = 1 := by decide
  have e0 : (0 : Int32).toInt = 0 := by decide
  refine ⟨?_, ?_, ?_, ?_, ?_⟩
  · show 0 ≤ (if nI (ph i * 100) < sFull a then nI (ph i * 100) else sFull a - 1).toInt
    split
    · rw [nI_toInt (by omega)]; omega
    · rw [I_sub (by omega) (by omega)]; omega
  · show (if nI (ph i * 100) < sFull a then nI (ph i * 100) else sFull a - 1).toInt < 100 * (aG a 5).toInt
    split
    · rename_i q
      rw [I_lt] at q; omega
    · rw [I_sub (by omega) (by omega)]; omega
  · show 50 ≤ (nI (rt i)).toInt
    rw [nI_toInt (by omega)]; omega
  · show (nI (rt i)).toInt ≤ 150
    rw [nI_toInt (by omega)]; omega
  · show 0 ≤ (0 : Int32).toInt
    omega
def sMS (a : AM) (j : Nat) (ph rt : Nat → Nat) (lk : Nat → Nat → Bool) : AM := (fun r => decide (r < j), fun r => decide (r < j), lk, fun f r => if f = 1 then nI (ph r * 100) else if f = 2 then nI (rt r) else 0, aG a)
theorem MS_step {a : AM} {j : Nat} {ph rt : Nat → Nat} : aE (sLay (sMS a j ph rt nolk) j (nI (ph j) * 100) (nI (rt j))) (sMS a (j + 1) ph rt nolk) := by
  have e : nI (ph j) * 100 = nI (ph j * 100) := by rw [show (100 : Int32) = nI 100 from rfl, pk_mul]
  refine ⟨fun i _ => ?_, fun i _ => ?_, fun r s _ _ => ?_, fun f r _ _ _ => ?_, fun _ _ => rfl⟩
  · show (decide (i < j) || decide (i = j)) = decide (i < j + 1)
    by_cases q : i = j
    · simp [q]
    · rw [← lt_s16 q]; simp [q]
  · show (decide (i < j) || decide (i = j)) = decide (i < j + 1)
    by_cases q : i = j
    · simp [q]
    · rw [← lt_s16 q]; simp [q]
  · show (if r = j then false else nolk r s) = nolk r s
    split <;> rfl
  · show (if r = j then (if f = 1 then nI (ph j) * 100 else if f = 2 then nI (rt j) else 0) else (if f = 1 then nI (ph r * 100) else if f = 2 then nI (rt r) else 0)) = (if f = 1 then nI (ph r * 100) else if f = 2 then nI (rt r) else 0)
    rw [e]
    split
    · rename_i q; rw [q]
    · rfl
theorem X1_clear {G : gG} {a : AM} (h : R1 G 0 a) : ∃ G', sh_X1_removeAll 0 G = some G' ∧ (∀ ph rt, R1 G' 0 (sMS a 0 ph rt nolk)) ∧ frm G G' 0 := by
  unfold sh_X1_removeAll
  rw [bng_s, bng_s]
  obtain ⟨s, ⟨h1, h2⟩, h3⟩ := forl 16 (fun n j s => sh_X1_removeAll_12 0 (fun G => some G) n (nI j) s) (fun j s => R1 s 0 (fun r => false, fun r => false, fun r c => if r < j then false else aL a r c, aN a, aG a) ∧ frm G s 0) (fun s => some s) (by
    intro n s _
    show sh_X1_removeAll_12 0 (fun G => some G) (n + 1) (nI 16) s = _
    rw [sh_X1_removeAll_12.eq_2, if_pos (by decide)]) (by
    intro n j s hj ⟨i1, i2⟩
    refine ⟨gu s 4 j 0, ⟨?_, i2.gu (by decide) (by decide)⟩, ?_⟩
    · have := i1.lk (i := j) isS_0
      rw [Nat.zero_add] at this
      refine this.congr ⟨fun _ _ => rfl, fun _ _ => rfl, fun r c _ _ => ?_, fun _ _ _ _ _ => rfl, fun _ _ => rfl⟩
      show (if r = j then false else if r < j then false else aL a r c) = if r < j + 1 then false else aL a r c
      by_cases q : r = j
      · rw [if_pos q, if_pos (by omega)]
      · rw [if_neg q]
        by_cases q2 : r < j
        · rw [if_pos q2, if_pos (by omega)]
        · rw [if_neg q2, if_neg (by omega)]
    · show sh_X1_removeAll_12 0 (fun G => some G) (n + 1) (nI j) s = _
      rw [sh_X1_removeAll_12.eq_2, if_neg (nj16 hj), if_pos (gin_16 hj), cl16 hj, bng_s, nI_1]) 16 0 FU (gu (gu G 0 8 0) 0 9 0) rfl (by decide) ⟨(by
      have h1 := h.th (S := fun _ => false) isS_0 (fun f i _ _ hh => by cases hh)
      have h2 := h1.on (S := fun _ => false) isS_0
      refine h2.congr ⟨fun _ _ => rfl, fun _ _ => rfl, fun r c _ _ => by simp, fun _ _ _ _ _ => rfl, fun _ _ => rfl⟩), (frm.rf.gu (by decide) (by decide)).gu (by decide) (by decide)⟩
  refine ⟨s, h3, fun ph rt => h1.congr ⟨fun i _ => by simp [sMS], fun i _ => by simp [sMS], fun r c hr _ => ?_, (fun f i _ _ ht => by cases ht), fun _ _ => rfl⟩, h2⟩
  show (if r < 16 then false else aL a r c) = nolk r c
  rw [if_pos hr]; rfl
def lkU (lk : Nat → Nat → Bool) (i j r s : Nat) : Bool := lk r s && (decide (min r s < i) || (decide (min r s = i) && decide (max r s < j)))
theorem lkU_t {lk : Nat → Nat → Bool} {c i j : Nat} (hl : WL c lk) (hij : i < j) (h : lk i j = true) {a : AM} {g : Nat → Nat → Int32} {t o : Nat → Bool} : aE (sLink (t, o, lkU lk i j, g, aG a) i j true) (t, o, lkU lk i (j + 1), g, aG a) := by
  refine ⟨fun _ _ => rfl, fun _ _ => rfl, fun r s _ _ => ?_, fun _ _ _ _ _ => rfl, fun _ _ => rfl⟩
  show (if (r = i ∧ s = j) ∨ (r = j ∧ s = i) then true else lkU lk i j r s) = lkU lk i (j + 1) r s
  split
  · rename_i q
    have hrs : lk r s = true := by
      rcases q with ⟨rfl, rfl⟩ | ⟨rfl, rfl⟩
      · exact h
      · rw [(hl _ _).1]; exact h
    unfold lkU
    rw [hrs, decide_eq_true (show min r s = i by omega), decide_eq_true (show max r s < j + 1 by omega)]
    simp
  · rename_i q
    unfold lkU
    by_cases q1 : min r s = i
    · have : decide (max r s < j) = decide (max r s < j + 1) := lt_s16 (by omega)
      rw [this]
    · simp [q1]
theorem lkU_f {lk : Nat → Nat → Bool} {c i j : Nat} (hl : WL c lk) (hij : i < j) (h : lk i j = false) {r s : Nat} : lkU lk i j r s = lkU lk i (j + 1) r s := by
  unfold lkU
  by_cases q1 : min r s = i
  · by_cases q2 : max r s = j
    · have hrs : lk r s = false := by
        rcases (show (r = i ∧ s = j) ∨ (r = j ∧ s = i) by omega) with ⟨rfl, rfl⟩ | ⟨rfl, rfl⟩
        · exact h
        · rw [(hl _ _).1]; exact h
      rw [hrs]; simp
    · rw [lt_s16 q2]
  · simp [q1]
theorem lkU_row {lk : Nat → Nat → Bool} {c i : Nat} (hl : WL c lk) {r s : Nat} (hr : r < 16) (hs : s < 16) : lkU lk i 16 r s = lkU lk (i + 1) (i + 2) r s := by
  unfold lkU
  have h2 := (hl r s).2
  cases hrs : lk r s
  · simp
  · have h3 := h2 hrs
    by_cases q1 : min r s < i
    · simp [q1, show min r s < i + 1 by omega]
    · by_cases q2 : min r s = i
      · simp [q2, show max r s < 16 by omega]
      · by_cases q3 : min r s = i + 1
        · have : ¬ max r s < i + 2 := by omega
          simp [q3, this]
        · simp [q1, q2, q3, show ¬ min r s < i + 1 by omega]
theorem X2_row {G : gG} {a : AM} {c i : Nat} {lk : Nat → Nat → Bool} {t o : Nat → Bool} {g : Nat → Nat → Int32} (kt : Int32 → gG → Option gG) (hl : WL c lk) (hi : i < 16) : ∀ (d j n : Nat) (s : gG), j + d = 16 → d < n → i < j → L2 s lk → R1 s 0 (t, o, lkU lk i j, g, aG a) → frm G s 0 → ∃ s', sh_X2_build_55 0 kt n (nI i) (nI j) s = kt (nI i) s' ∧ R1 s' 0 (t, o, lkU lk i 16, g, aG a) ∧ frm G s' 0 ∧ L2 s' lk := by
  intro d
  induction d with
  | zero =>
    intro j n s hj hn hij l2 hR hF
    obtain ⟨n, rfl⟩ : ∃ m, n = m + 1 := ⟨n - 1, by omega⟩
    have hj16 : j = 16 := by omega
    subst hj16
    rw [sh_X2_build_55.eq_2, if_pos (by decide)]
    exact ⟨s, rfl, hR, hF, l2⟩
  | succ d ih =>
    intro j n s hj hn hij l2 hR hF
    obtain ⟨n, rfl⟩ : ∃ m, n = m + 1 := ⟨n - 1, by omega⟩
    rw [sh_X2_build_55.eq_2, if_neg (nj16 (show j < 16 by omega)), if_pos (gin_16 hi), cl16 hi, holds_is (l2 i hi) (show j < 16 by omega)]
    cases hh : lk i j
    · rw [if_pos (b_f rfl), nI_1]
      exact ih (j + 1) n s (by omega) (by omega) (by omega) l2 (hR.congr ⟨fun _ _ => rfl, fun _ _ => rfl, fun r s _ _ => lkU_f hl hij hh, fun _ _ _ _ _ => rfl, fun _ _ => rfl⟩) hF
    · rw [if_neg (b_t rfl)]
      obtain ⟨s1, e1, e2, e3⟩ := X1_link (b := true) hR hi (show j < 16 by omega) (show i ≠ j by omega)
      rw [show sh_X1_changeLink 0 (nI i) (nI j) (1 : Int32) s = some s1 from e1, obv_s, nI_1]
      exact ih (j + 1) n s1 (by omega) (by omega) (by omega) (fun k hk => by rw [e3 69 (by omega)]; exact l2 k hk) (e2.congr (lkU_t hl hij hh)) (hF.trans e3)
