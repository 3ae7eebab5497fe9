-- the class's object as the law sees it: the mesh is a, the latest states of the history are us
def SC (G : gG) (a : AM) (us : List AM) : Prop := R1 G 0 a ∧ wf a ∧ (∃ p, H1 G (p ++ us)) ∧ ∀ b, b ∈ us → wf b
theorem SC.weak {G : gG} {a : AM} {us : List AM} (h : SC G a us) : SC G a [] := by
  obtain ⟨h1, h2, ⟨p, h3⟩, h4⟩ := h
  exact ⟨h1, h2, ⟨p ++ us, by rw [List.append_nil]; exact h3⟩, fun b hb => by cases hb⟩
theorem SC.congr {G : gG} {a b : AM} {us : List AM} (h : SC G a us) (e : aE a b) : SC G b us := ⟨h.1.congr e, h.2.1.congr e, h.2.2⟩
theorem SC.tr {G G' : gG} {a : AM} {us : List AM} (h : SC G a us) (f : frm G G' 9) : SC G' a us := by
  obtain ⟨h1, h2, ⟨p, h3⟩, h4⟩ := h
  exact ⟨h1.fr (fun c c1 c2 => f c (by omega)), h2, ⟨p, h3.fr (fun c c1 c2 => f c (by omega))⟩, h4⟩
theorem SC.rem {G : gG} {a : AM} {us : List AM} (S : SC G a us) (hl : us.length ≤ 3) : ∃ G1, sh_X0_remember 0 G = some G1 ∧ R1 G1 0 a ∧ ∀ G2 a', frm G1 G2 0 → R1 G2 0 a' → wf a' → SC G2 a' (us ++ [a]) := by
  obtain ⟨h1, h2, ⟨p, h3⟩, h4⟩ := S
  obtain ⟨G1, e1, e2, e3⟩ := X0_rem h3 h1
  refine ⟨G1, e1, h1.fr (fun c c1 c2 => e3 c (by omega)), fun G2 a' f1 f2 f3 => ⟨f2, f3, ?_, fun b hb => ?_⟩⟩
  · have e2' : H1 G2 (hPush (p ++ us) a) := e2.fr (fun c c1 c2 => f1 c (by omega))
    unfold hPush at e2'
    by_cases q : (p ++ us).length = 4
    · rw [if_pos q] at e2'
      cases p with
      | nil => simp at q; omega
      | cons x p =>
        refine ⟨p, ?_⟩
        have e : ((x :: p) ++ us).tail ++ [a] = p ++ (us ++ [a]) := by simp
        rw [← e]; exact e2'
    · rw [if_neg q] at e2'
      exact ⟨p, by rw [← List.append_assoc]; exact e2'⟩
  · rcases List.mem_append.mp hb with q | q
    · exact h4 b q
    · rw [List.mem_singleton.mp q]; exact h2
theorem qc_undo {G : gG} {a b : AM} {us : List AM} (S : SC G a (us ++ [b])) : ∃ (n : Nat) (G' : gG), n < 4 ∧ sh_X3_undo G = some (nI n, G') ∧ SC G' b us := by
  obtain ⟨h1, h2, ⟨p, h3⟩, h4⟩ := S
  rw [← List.append_assoc] at h3
  have hl : (p ++ us).length + 1 ≤ 4 := by have := h3.1; rw [List.length_append (bs := [b])] at this; exact this
  unfold sh_X3_undo sh_X0_size
  rw [h3.2.1, if_neg (nI_ne0 (by rw [List.length_append (bs := [b])]; exact Nat.succ_pos _) (by rw [List.length_append (bs := [b])]; show (p ++ us).length + 1 < _; omega))]
  obtain ⟨G1, e1, e2, e3, e4⟩ := X0_tak h3
  rw [e1, obv_s, e2.2.1]
  exact ⟨(p ++ us).length, G1, by omega, rfl, e3, h4 b (by simp), ⟨p, e2⟩, fun x hx => h4 x (by simp [hx])⟩
-- the numbers that are asked
def bI (S : Nat → Bool) : Nat → Int32
  | 0 => 0
  | m + 1 => if S m then bI S m ||| (1 : Int32) <<< (nI m &&& 31) else bI S m
theorem bI_is (S : Nat → Bool) : ∀ m, m ≤ 16 → isS (bI S m) (fun i => decide (i < m) && S i)
  | 0, _ => isS_0.congr (fun i _ => by simp)
  | m + 1, h => by
    have ih := bI_is S m (by omega)
    show isS (if S m then bI S m ||| (1 : Int32) <<< (nI m &&& 31) else bI S m) _
    cases hs : S m
    · refine ih.congr (fun i _ => ?_)
      by_cases e : i = m
      · subst e; simp [hs]
      · rw [lt_s16 e]
    · refine (ih.add (by omega)).congr (fun i _ => ?_)
      by_cases e : i = m
      · subst e; simp [hs]
      · rw [lt_s16 e]; simp [e]
def bS (S : Nat → Bool) : Int32 := bI S 16
theorem bS_is (S : Nat → Bool) : isS (bS S) S := (bI_is S 16 (by omega)).congr (fun i hi => by simp [hi])
theorem isS.bS {x : Int32} {S : Nat → Bool} (h : isS x S) : x = bS S := h.eq (bS_is S)
theorem bit_is {S : Nat → Bool} {i : Nat} (hi : i < 16) : ((bS S >>> (nI i &&& 31)) &&& 1) = b2i (S i) := by
  have := (bS_is S).at hi
  cases hs : S i
  · exact (bt_shr (by omega)).mpr (by rw [this, hs])
  · exact (bt_shr' (by omega)).mpr (by rw [this, hs])
noncomputable def vL (a : AM) (i : Nat) (m : Nat) : Int32 :=
  if m = 0 then aN a 1 i else if m = 1 then aN a 2 i else if m = 2 then b2i (aO a i) else if m = 3 then aN a 3 i else if m = 4 then aN a 5 i else if m = 5 then aN a 6 i else if m = 6 then bS (aL a i) else if m = 7 then bS (pcOf a i) else if m = 8 then bS (sAg a i) else aN a 7 i
theorem qc_lamp {G : gG} {a : AM} {us : List AM} (S : SC G a us) {i m : Nat} (hi : i < 16) (ht : aT a i = true) (hm : m < 10) : sh_X3_lamp (nI i) (nI m) G = some (vL a i m) := by
  have s1 := S.1; have s3 := S.2.1
  have g := gin_16 hi
  have cl := cl16 hi
  unfold sh_X3_lamp
  rw [X1_has_t s1 hi ht, if_neg n10]
  unfold sh_X1_tellLamp
  rcases (show m = 0 ∨ m = 1 ∨ m = 2 ∨ m = 3 ∨ m = 4 ∨ m = 5 ∨ m = 6 ∨ m = 7 ∨ m = 8 ∨ m = 9 by omega) with rfl | rfl | rfl | rfl | rfl | rfl | rfl | rfl | rfl | rfl
  · rw [if_pos (show nI 0 = 0 from rfl), if_pos g, cl, s1.num fld1 hi ht]; rfl
  · rw [if_neg (by decide), if_pos (show nI 1 = 1 from rfl), if_pos g, cl, s1.num fld2 hi ht]; rfl
  · rw [if_neg (by decide), if_neg (by decide), if_pos (show nI 2 = 2 from rfl), X1_isOn s1 hi]
    show _ = some (b2i (aO a i))
    cases aO a i
    · rw [if_pos (b_f rfl)]; rfl
    · rw [if_neg (b_t rfl)]; rfl
  · rw [if_neg (by decide), if_neg (by decide), if_neg (by decide), if_pos (show nI 3 = 3 from rfl), if_pos g, cl, s1.num fld3 hi ht]; rfl
  · rw [if_neg (by decide), if_neg (by decide), if_neg (by decide), if_neg (by decide), if_pos (show nI 4 = 4 from rfl), if_pos g, cl, s1.num fld5 hi ht]; rfl
  · rw [if_neg (by decide), if_neg (by decide), if_neg (by decide), if_neg (by decide), if_neg (by decide), if_pos (show nI 5 = 5 from rfl), if_pos g, cl, s1.num fld6 hi ht]; rfl
  · rw [if_neg (by decide), if_neg (by decide), if_neg (by decide), if_neg (by decide), if_neg (by decide), if_neg (by decide), if_pos (show nI 6 = 6 from rfl), if_pos g, cl, (s1.2.2.1 i hi).bS]; rfl
  · obtain ⟨r, e1, e2⟩ := X1_pc s1 hi
    rw [if_neg (by decide), if_neg (by decide), if_neg (by decide), if_neg (by decide), if_neg (by decide), if_neg (by decide), if_neg (by decide), if_pos (show nI 7 = 7 from rfl), e1, obp_s, obp_s, e2.bS]; rfl
  · obtain ⟨r, e1, e2⟩ := X1_agree s3 s1 hi
    rw [if_neg (by decide), if_neg (by decide), if_neg (by decide), if_neg (by decide), if_neg (by decide), if_neg (by decide), if_neg (by decide), if_neg (by decide), if_pos (show nI 8 = 8 from rfl), e1, obp_s, obp_s, e2.bS]; rfl
  · rw [if_neg (by decide), if_neg (by decide), if_neg (by decide), if_neg (by decide), if_neg (by decide), if_neg (by decide), if_neg (by decide), if_neg (by decide), if_neg (by decide), if_pos (show nI 9 = 9 from rfl), if_pos g, cl, s1.num fld7 hi ht]; rfl
theorem qc_lamp_f {G : gG} {a : AM} {us : List AM} (S : SC G a us) {l m : Int32} (hl : ∀ i, i < 16 → l = nI i → aT a i = false) : sh_X3_lamp l m G = some (-1) := by
  unfold sh_X3_lamp
  rw [X1_has_f S.1 hl, if_pos rfl]
noncomputable def vC (a : AM) (j : Nat) : Int32 :=
  if j = 0 then aG a 0 else if j = 1 then nI (cnt (aT a) 16) else if j = 2 then nI (cnt (aO a) 16) else if j = 3 then nI (dsum (fun i => cnt (aL a i) 16) 16) / 2 else if j = 4 then nI (sPcs a 16).1 else aG a (j - 4)
theorem qc_count {G : gG} {a : AM} {us : List AM} (S : SC G a us) {j : Nat} (hj : j < 12) : sh_X3_count (nI j) G = some (vC a j) := by
  have s1 := S.1; have s3 := S.2.1
  have gl : ∀ j, j < 5 → G 0 (10 + j) = aG a j := fun j hj => s1.2.2.2.2.1 j hj
  have gs : ∀ j, j < 3 → G 8 j = aG a (5 + j) := fun j hj => s1.2.2.2.2.2 j hj
  unfold sh_X3_count sh_X1_tellMesh
  rcases (show j = 0 ∨ j = 1 ∨ j = 2 ∨ j = 3 ∨ j = 4 ∨ j = 5 ∨ j = 6 ∨ j = 7 ∨ j = 8 ∨ j = 9 ∨ j = 10 ∨ j = 11 by omega) with rfl | rfl | rfl | rfl | rfl | rfl | rfl | rfl | rfl | rfl | rfl | rfl
  · show some (G 0 10) = _; rw [gl 0 (by decide)]; rfl
  · show some (sh_X1_lamps 0 G) = _; rw [X1_lamps s1]; rfl
  · show some (sh_X1_lampsOn 0 G) = _; rw [X1_lampsOn s1]; rfl
  · rw [if_neg (by decide), if_neg (by decide), if_neg (by decide), if_neg (by decide), if_neg (by decide), if_pos (show nI 3 = 3 from rfl), X1_links s1, obp_s, obp_s]; rfl
  · rw [if_neg (by decide), if_neg (by decide), if_neg (by decide), if_neg (by decide), if_neg (by decide), if_neg (by decide), if_pos (show nI 4 = 4 from rfl), X1_pieces s1, obp_s, obp_s]; rfl
  · show some (G 0 11) = _; rw [gl 1 (by decide)]; rfl
  · show some (G 0 12) = _; rw [gl 2 (by decide)]; rfl
  · show some (G 0 13) = _; rw [gl 3 (by decide)]; rfl
  · show some (G 0 14) = _; rw [gl 4 (by decide)]; rfl
  · show some (G 8 0) = _; rw [gs 0 (by decide)]; rfl
  · show some (G 8 1) = _; rw [gs 1 (by decide)]; rfl
  · show some (G 8 2) = _; rw [gs 2 (by decide)]; rfl
