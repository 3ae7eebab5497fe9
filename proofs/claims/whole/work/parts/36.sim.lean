-- the class and the model stand for the same
def SN (G : gG) : Prop := (G 70 3 = 0 ∧ G 71 4 = 0) ∨ (G 70 3 = 1 ∧ G 71 4 = 1 ∧ ∃ b, R1 G 18 b ∧ R2 G 74 0 b ∧ wf b)
def TXs (G : gG) : Prop := ∃ n T, tx2 G n T ∧ tx4 G n T
def SIM (G : gG) (a : AM) (h : List AM) : Prop := R1 G 0 a ∧ M2 G a ∧ wf a ∧ H1 G h ∧ H2 G h ∧ (∀ b, b ∈ h → wf b) ∧ SN G ∧ TXs G
def SM (G : gG) : Prop := ∃ a h, SIM G a h
theorem SN.fr {G G' : gG} (h : SN G) (e1 : G' 70 3 = G 70 3) (e2 : G' 71 4 = G 71 4) (e3 : ∀ c, 18 ≤ c → c < 27 → G' c = G c) (e4 : G' 74 = G 74) : SN G' := by
  rcases h with ⟨h1, h2⟩ | ⟨h1, h2, b, h3, h4, h5⟩
  · exact Or.inl ⟨e1.trans h1, e2.trans h2⟩
  · exact Or.inr ⟨e1.trans h1, e2.trans h2, b, h3.fr (fun c c1 c2 => e3 c c1 (by omega)), h4.fr e4, h5⟩
theorem TXs.fr {G G' : gG} (h : TXs G) (e1 : G' 65 1 = G 65 1) (e2 : G' 66 = G 66) (e3 : G' 71 7 = G 71 7) (e4 : G' 76 = G 76) : TXs G' := by
  obtain ⟨n, T, h1, h2⟩ := h
  exact ⟨n, T, h1.w e1 e2, h2.w e3 e4⟩
theorem H1.fr {G G' : gG} {h : List AM} (hH : H1 G h) (e : ∀ c, 27 ≤ c → c < 65 → G' c = G c) : H1 G' h := by
  obtain ⟨h1, h2, h3, h4, h5⟩ := hH
  have e4 : ∀ i, pi4 G' i = pi4 G i := fun i => by unfold pi4; rw [e 64 (by decide) (by decide)]
  refine ⟨h1, by rw [e 63 (by decide) (by decide)]; exact h2, fun i hi => by rw [e4]; exact h3 i hi, fun i j hi hj hh => h4 i j hi hj (by rwa [e4, e4] at hh), fun i b hb => ?_⟩
  rw [e4]
  have hl : i < 4 := by
    have := (List.getElem?_eq_some_iff.mp hb).1
    omega
  have hm := okM_r (h3 i hl)
  exact (h5 i b hb).fr (fun c c1 c2 => e c (by omega) (by omega))
theorem H2.fr {G G' : gG} {h : List AM} (hH : H2 G h) (e1 : G' 71 2 = G 71 2) (e2 : G' 73 = G 73) : H2 G' h :=
  ⟨hH.1, e1.trans hH.2.1, fun i b hb => (hH.2.2 i b hb).fr e2⟩
theorem push_wf {a : AM} {h : List AM} (hw : wf a) (hh : ∀ b, b ∈ h → wf b) : ∀ b, b ∈ hPush h a → wf b := by
  intro b hb
  unfold hPush at hb
  rcases List.mem_append.mp hb with h1 | h1
  · split at h1
    · exact hh b (List.mem_of_mem_tail h1)
    · exact hh b h1
  · rw [List.mem_singleton.mp h1]; exact hw
def fr9 (G1 G2 : gG) : Prop := (∀ c, 9 ≤ c → c ≠ 71 → c ≠ 77 → c ≠ 78 → c ≠ 79 → G2 c = G1 c) ∧ ∀ j, j ≠ 8 → j ≠ 9 → G2 71 j = G1 71 j
theorem mut9 {G : gG} {a : AM} {h : List AM} (S : SIM G a h) : ∃ G1, sh_X0_remember 0 G = some G1 ∧ R1 G1 0 a ∧ (∀ c, 65 ≤ c → G1 c = G c) ∧ (∀ c, 9 ≤ c → c < 27 → G1 c = G c) ∧ ∀ G2 a', fr9 G1 G2 → R1 G2 0 a' → M2 G2 a ∧ ∃ G3, sh_X4_record G2 = some G3 ∧ M2 G3 a ∧ (∀ c, c ≠ 71 → c ≠ 73 → G3 c = G2 c) ∧ (∀ i, i ≠ 2 → G3 71 i = G2 71 i) ∧ ∀ G4, frq G3 G4 72 → M2 G4 a' → wf a' → SIM G4 a' (hPush h a) := by
  obtain ⟨s1, s2, s3, s4, s5, s6, s7, s8⟩ := S
  obtain ⟨G1, e1, e2, e3⟩ := X0_rem s4 s1
  refine ⟨G1, e1, s1.fr (fun c c1 c2 => e3 c (by omega)), fun c hc => e3 c (by omega), fun c c1 c2 => e3 c (by omega), fun G2 a' ⟨f1, f1'⟩ f2 => ?_⟩
  have t2 : M2 G2 a := s2.fr (by rw [f1 72 (by omega) (by decide) (by decide) (by decide) (by decide), e3 72 (by omega)])
  have t5 : H2 G2 h := s5.fr (by rw [f1' 2 (by decide) (by decide), e3 71 (by omega)]) (by rw [f1 73 (by omega) (by decide) (by decide) (by decide) (by decide), e3 73 (by omega)])
  refine ⟨t2, ?_⟩
  obtain ⟨G3, g1, g2, g3, g4⟩ := X4_rec t5 t2
  have hc : ∀ (G4 : gG), frq G3 G4 72 → ∀ c, 9 ≤ c → c ≠ 71 → c ≠ 72 → c ≠ 73 → c ≠ 77 → c ≠ 78 → c ≠ 79 → (c < 27 ∨ 65 ≤ c) → G4 c = G c := fun G4 k1 c c1 c2 c3 c4 c5 c6 c7 c8 => by rw [k1 c c3, g3 c c2 c4, f1 c c1 c2 c5 c6 c7, e3 c (by omega)]
  refine ⟨G3, g1, t2.fr (g3 72 (by decide) (by decide)), g3, g4, fun G4 k1 k2 k3 => ⟨f2.fr (fun c c1 c2 => by rw [k1 c (by omega), g3 c (by omega) (by omega)]), k2, k3, e2.fr (fun c c1 c2 => by rw [k1 c (by omega), g3 c (by omega) (by omega), f1 c (by omega) (by omega) (by omega) (by omega) (by omega)]), g2.fr (by rw [k1 71 (by decide)]) (k1 73 (by decide)), push_wf s3 s6, ?_, ?_⟩⟩
  · exact s7.fr (by rw [hc G4 k1 70 (by decide) (by decide) (by decide) (by decide) (by decide) (by decide) (by decide) (by omega)]) (by rw [k1 71 (by decide), g4 4 (by decide), f1' 4 (by decide) (by decide), e3 71 (by omega)]) (fun c c1 c2 => hc G4 k1 c (by omega) (by omega) (by omega) (by omega) (by omega) (by omega) (by omega) (by omega)) (hc G4 k1 74 (by decide) (by decide) (by decide) (by decide) (by decide) (by decide) (by decide) (by omega))
  · exact s8.fr (by rw [hc G4 k1 65 (by decide) (by decide) (by decide) (by decide) (by decide) (by decide) (by decide) (by omega)]) (hc G4 k1 66 (by decide) (by decide) (by decide) (by decide) (by decide) (by decide) (by decide) (by omega)) (by rw [k1 71 (by decide), g4 7 (by decide), f1' 7 (by decide) (by decide), e3 71 (by omega)]) (hc G4 k1 76 (by decide) (by decide) (by decide) (by decide) (by decide) (by decide) (by decide) (by omega))
theorem mutt {G : gG} {a : AM} {h : List AM} (S : SIM G a h) : ∃ G1, sh_X0_remember 0 G = some G1 ∧ R1 G1 0 a ∧ (∀ c, 65 ≤ c → G1 c = G c) ∧ (∀ c, 9 ≤ c → c < 27 → G1 c = G c) ∧ ∀ G2 a', frm G1 G2 0 → R1 G2 0 a' → M2 G2 a ∧ ∃ G3, sh_X4_record G2 = some G3 ∧ M2 G3 a ∧ (∀ c, c ≠ 71 → c ≠ 73 → G3 c = G2 c) ∧ (∀ i, i ≠ 2 → G3 71 i = G2 71 i) ∧ ∀ G4, frq G3 G4 72 → M2 G4 a' → wf a' → SIM G4 a' (hPush h a) := by
  obtain ⟨G1, e1, e2, e3, e4, e5⟩ := mut9 S
  exact ⟨G1, e1, e2, e3, e4, fun G2 a' f => e5 G2 a' ⟨fun c hc _ _ _ _ => f c (by omega), fun j _ _ => by rw [f 71 (by omega)]⟩⟩
/-- both answer the same and stand for the same after it -/
def BO (f g : gG → Option (Int32 × gG)) : Prop := ∀ G, SM G → ∃ r G1 G2, f G = some (r, G1) ∧ g G1 = some (r, G2) ∧ SM G2
def BP (f g : gG → Option Int32) : Prop := ∀ G, SM G → ∃ r, f G = some r ∧ g G = some r
theorem wp_eq {G : gG} {a : AM} (h1 : R1 G 0 a) (hw : wf a) (l : Int32) : (sh_X1_isWholePhase 0 l G = some 0 ∧ sh_X4_in l 0 (aG a 5 - 1) = 0) ∨ (sh_X1_isWholePhase 0 l G = some 1 ∧ sh_X4_in l 0 (aG a 5 - 1) = 1 ∧ 0 ≤ l.toInt ∧ l.toInt < (aG a 5).toInt) := by
  have hs : G 8 0 = aG a 5 := h1.2.2.2.2.2 0 (by decide)
  have p1 : 10 ≤ (aG a 5).toInt := hw.2.2.2.2.1
  have p2 : (aG a 5).toInt ≤ 200 := hw.2.2.2.2.2.1
  have e1 : (aG a 5 - 1).toInt = (aG a 5).toInt - 1 := by
    have : (1 : Int32).toInt = 1 := by decide
    rw [I_sub (by omega) (by omega), this]
  have e0 : (0 : Int32).toInt = 0 := by decide
  unfold sh_X1_isWholePhase sh_X4_in
  show ((if l < 0 then some 0 else (if (G 8 0) ≤ l then some 0 else some 1)) = some (0 : Int32) ∧ _) ∨ ((if l < 0 then some 0 else (if (G 8 0) ≤ l then some 0 else some 1)) = some (1 : Int32) ∧ _)
  rw [hs]
  by_cases q1 : l < 0
  · left; rw [if_pos q1, if_pos q1]; exact ⟨rfl, rfl⟩
  · rw [if_neg q1, if_neg q1]
    rw [I_lt] at q1
    by_cases q2 : aG a 5 ≤ l
    · left; rw [if_pos q2, if_pos (by rw [I_lt, e1]; rw [I_le] at q2; omega)]; exact ⟨rfl, rfl⟩
    · right; rw [if_neg q2, if_neg (by rw [I_lt, e1]; rw [I_le] at q2; omega)]
      rw [I_le] at q2
      exact ⟨rfl, rfl, by omega, by omega⟩
theorem rt_eq (l : Int32) : (sh_X3_isRate l = 0 ∧ sh_X4_in l 50 150 = 0) ∨ (sh_X3_isRate l = 1 ∧ sh_X4_in l 50 150 = 1 ∧ 50 ≤ l.toInt ∧ l.toInt ≤ 150) := by
  unfold sh_X3_isRate sh_X4_in
  have e1 : (50 : Int32).toInt = 50 := by decide
  have e2 : (150 : Int32).toInt = 150 := by decide
  by_cases q1 : l < 50
  · left; rw [if_pos q1]; exact ⟨rfl, rfl⟩
  · rw [if_neg q1]
    by_cases q2 : 150 < l
    · left; rw [if_pos q2]; exact ⟨rfl, rfl⟩
    · right; rw [if_neg q2]
      rw [I_lt] at q1 q2
      exact ⟨rfl, rfl, by omega, by omega⟩
theorem lay_wf {a : AM} {i : Nat} {ph rt : Int32} (hw : wf a) (hf : aT a i = false) (h1 : 0 ≤ ph.toInt) (h2 : ph.toInt < 100 * (aG a 5).toInt) (h3 : 50 ≤ rt.toInt) (h4 : rt.toInt ≤ 150) (hi : i < 16) : wf (sLay a i ph rt) := by
  obtain ⟨w1, w2, w3, w4, w5⟩ := hw
  have e0 : (0 : Int32).toInt = 0 := by decide
  have hno : ∀ r, r < 16 → aL a r i = false := fun r hr => by
    cases hh : aL a r i
    · rfl
    · rw [w2 r i hr hi] at hh
      have := w3 i r hi hr hh
      rw [hf] at this; cases this
  refine ⟨fun r hr ho => ?_, fun r s hr hs => ?_, fun r s hr hs hl => ?_, fun r hr ht => ?_, w5⟩
  · have ho' : (aO a r || decide (r = i)) = true := ho
    show (aT a r || decide (r = i)) = true
    simp only [Bool.or_eq_true] at ho' ⊢
    exact ho'.imp (w1 r hr) id
  · show (if r = i then false else aL a r s) = (if s = i then false else aL a s r)
    by_cases q1 : r = i
    · rw [if_pos q1]
      by_cases q2 : s = i
      · rw [if_pos q2]
      · rw [if_neg q2, q1, hno s hs]
    · rw [if_neg q1]
      by_cases q2 : s = i
      · rw [if_pos q2, q2, hno r hr]
      · rw [if_neg q2, w2 r s hr hs]
  · have hl' : (if r = i then false else aL a r s) = true := hl
    show (aT a r || decide (r = i)) = true
    by_cases q1 : r = i
    · simp [q1]
    · rw [if_neg q1] at hl'
      simp [w3 r s hr hs hl']
  · have ht' : (aT a r || decide (r = i)) = true := ht
    by_cases q : r = i
    · subst q
      refine ⟨?_, ?_, ?_, ?_, ?_⟩
      · show 0 ≤ (if r = r then (if (1 : Nat) = 1 then ph else _) else _ : Int32).toInt; rw [if_pos rfl, if_pos rfl]; exact h1
      · show (if r = r then (if (1 : Nat) = 1 then ph else _) else _ : Int32).toInt < _; rw [if_pos rfl, if_pos rfl]; exact h2
      · show 50 ≤ (if r = r then (if (2 : Nat) = 1 then ph else if (2 : Nat) = 2 then rt else 0) else _ : Int32).toInt; rw [if_pos rfl, if_neg (by decide), if_pos rfl]; exact h3
      · show (if r = r then (if (2 : Nat) = 1 then ph else if (2 : Nat) = 2 then rt else 0) else _ : Int32).toInt ≤ 150; rw [if_pos rfl, if_neg (by decide), if_pos rfl]; exact h4
      · show 0 ≤ (if r = r then (if (3 : Nat) = 1 then ph else if (3 : Nat) = 2 then rt else 0) else _ : Int32).toInt; rw [if_pos rfl, if_neg (by decide), if_neg (by decide)]; omega
    · have ht2 : aT a r = true := by simpa [q] using ht'
      have := w4 r hr ht2
      show 0 ≤ (if r = i then _ else aN a 1 r : Int32).toInt ∧ (if r = i then _ else aN a 1 r : Int32).toInt < _ ∧ 50 ≤ (if r = i then _ else aN a 2 r : Int32).toInt ∧ (if r = i then _ else aN a 2 r : Int32).toInt ≤ 150 ∧ 0 ≤ (if r = i then _ else aN a 3 r : Int32).toInt
      rw [if_neg q, if_neg q, if_neg q]; exact this
theorem i100 {x : Int32} (h1 : 0 ≤ x.toInt) (h2 : x.toInt ≤ 200) : (x * 100).toInt = x.toInt * 100 := by
  rw [I_mul (by rw [I_100]; omega) (by rw [I_100]; omega), I_100]
theorem s_come (l1 l2 : Int32) : BO (sh_X3_come l1 l2) (sh_X4_come l1 l2) := by
  rintro G ⟨a, h, S⟩
  have S' := S
  obtain ⟨s1, s2, s3, _⟩ := S
  have hg5 : ∀ G', M2 G' a → G' 72 5 = aG a 5 := fun G' hh => m_g hh (by decide)
  unfold sh_X3_come
  rcases wp_eq s1 s3 l1 with ⟨w1, w2⟩ | ⟨w1, w2, w3, w4⟩
  · rw [w1, obp_s, if_pos rfl]
    refine ⟨-2, G, G, rfl, ?_, a, h, S'⟩
    unfold sh_X4_come
    rw [tc5, hg5 G s2, w2, if_pos rfl]
  · rw [w1, obp_s, if_neg (by decide)]
    rcases rt_eq l2 with ⟨r1, r2⟩ | ⟨r1, r2, r3, r4⟩
    · rw [r1, if_pos rfl]
      refine ⟨-2, G, G, rfl, ?_, a, h, S'⟩
      unfold sh_X4_come
      rw [tc5, hg5 G s2, w2, if_neg (by decide), r2, if_pos rfl]
    · rw [r1, if_neg (by decide)]
      have p2 : (aG a 5).toInt ≤ 200 := s3.2.2.2.2.2.1
      rcases fr_c a with q | ⟨i, q⟩
      · rw [(X1_free s1).1 q, obp_s, if_pos rfl]
        refine ⟨-3, G, G, rfl, ?_, a, h, S'⟩
        unfold sh_X4_come
        rw [tc5, hg5 G s2, w2, if_neg (by decide), r2, if_neg (by decide), (X4_free s2 _ l1 l2).1 q]
        unfold sh_X4_come_j55
        rw [if_pos (show nI 16 = 16 from rfl)]
      · have hi := q.1
        rw [(X1_free s1).2 i q, obp_s, if_neg (m1_ne hi)]
        obtain ⟨G1, e1, e2, e3, e4, e5⟩ := mutt S'
        obtain ⟨G2, f1, f2, f3⟩ := X1_place (ph := l1) (rt := l2) e2 hi
        rw [e1, obv_s, f1, obv_s]
        obtain ⟨t2, G3, g1, g2, g3, g4, g5⟩ := e5 G2 _ f3 f2
        obtain ⟨G4, k1, k2, k3⟩ := X4_lay (ph := 100 * l1) (rt := l2) g2 hi
        refine ⟨nI i, G2, G4, rfl, ?_, _, _, g5 G4 k3 ?_ (lay_wf s3 q.2.1 ?_ ?_ r3 r4 hi)⟩
        · unfold sh_X4_come
          rw [tc5, hg5 G2 t2, w2, if_neg (by decide), r2, if_neg (by decide), (X4_free t2 _ l1 l2).2 i q]
          unfold sh_X4_come_j55
          rw [if_neg (fun hh => by have := nI_inj (by omega) (by decide) (show nI i = nI 16 from hh); omega), g1, obv_s, k1, obv_s]
        · have hlt : 100 * l1 < sFull a := by
            rw [Int32.mul_comm, I_lt, (wf_full s3).1, i100 w3 (by omega)]; omega
          rw [if_pos hlt, Int32.mul_comm] at k2
          exact k2
        · rw [i100 w3 (by omega)]; omega
        · rw [i100 w3 (by omega)]; omega
