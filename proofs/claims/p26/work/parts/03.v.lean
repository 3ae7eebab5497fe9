-- the tables' words that can be handed on, and those that cannot (they go beside)
def gtbl : List Cond := lw_tbl.filter goodWord
theorem gw {w : Cond} (i : Nat) (h : tables_1[i]? = some w) (hg : goodWord w = true) : w ∈ gtbl := List.mem_filter.mpr ⟨List.mem_append_right _ (List.mem_of_getElem? h), hg⟩
theorem gwp {w : Cond} (i : Nat) (h : (k2_sels lw_privs)[i]? = some w) (hg : goodWord w = true) : w ∈ gtbl := List.mem_filter.mpr ⟨List.mem_append_left _ (List.mem_of_getElem? h), hg⟩
theorem gd_all : GoodIn gtbl gtbl := fun w h => ⟨h, good_of_word (List.mem_filter.mp h).2⟩
theorem gd_c {w : Cond} (h : w ∈ gtbl) : GoodIn gtbl (w :: gtbl) := fun x hx => by
  rcases List.mem_cons.mp hx with rfl | hx
  · exact gd_all _ h
  · exact gd_all _ hx
def gN (U : State) : Prop :=
  va_Nw (.methodLinkNest "BlinkMesh" 9 yX1_init "BlinkMesh") U ∧ va_Nw (.fieldLinkNest "BlinkMesh$Mesh" 33 "BlinkMesh" "FIRST_SETTING" "[I" "BlinkMesh") U ∧ va_Nw (.castable "[I" "java/lang/Cloneable") U ∧ va_Nw (.methodLinkNest "BlinkMesh$History" 17 yX1_init "BlinkMesh") U ∧ va_Nw (.methodLinkNest "BlinkMesh" 35 yX2_init "BlinkMesh") U ∧ va_Nw (.methodLinkNest "BlinkMesh$Mesh" 72 yX3_holds "BlinkMesh") U
theorem gN.warm {s U : State} (hW : s.WarmedH U.vm) (h : gN s) : gN U :=
  ⟨va_Nw.warmM hW h.1, va_Nw.warmF hW h.2.1, va_Nw.warmC hW h.2.2.1, va_Nw.warmM hW h.2.2.2.1, va_Nw.warmM hW h.2.2.2.2.1, va_Nw.warmM hW h.2.2.2.2.2⟩
theorem gN.same {s U : State} (e : s.vm = U.vm) (h : gN s) : gN U :=
  ⟨va_Nw.same rfl e h.1, va_Nw.same rfl e h.2.1, va_Nw.same rfl e h.2.2.1, va_Nw.same rfl e h.2.2.2.1, va_Nw.same rfl e h.2.2.2.2.1, va_Nw.same rfl e h.2.2.2.2.2⟩
-- the world: 71 cells with fixed numbers; meshes at 9j (j = 0..6) with their eight arrays behind them; 63 History, 64 its states, 65 MeshText, 66..69 its arrays, 70 BlinkMesh
abbrev gT : Type := ClassId × ClassId × ClassId
abbrev gG : Type := Nat → Nat → Int32
def gu (G : gG) (k i : Nat) (x : Int32) : gG := fun a b => if a = k then (if b = i then x else G a b) else G a b
theorem gu_ne {G : gG} {k i a : Nat} {x : Int32} (h : a ≠ k) : gu G k i x a = G a := by
  funext b; simp [gu, h]
theorem gu_eq {G : gG} {k i : Nat} {x : Int32} : gu G k i x k = upd (G k) i x := by
  funext b; simp [gu, upd]
def ce (t : gT) (ad : Nat → Nat) (k : Nat) (g : Nat → Int32) : va_E :=
  if k < 63 then
    (if k % 9 = 0 then .inr (1, [.ref (ad (k + 1)), .ref (ad (k + 2)), .ref (ad (k + 3)), .ref (ad (k + 4)), .ref (ad (k + 5)), .ref (ad (k + 6)), .ref (ad (k + 7)), .ref (ad (k + 8)), .int (g 8), .int (g 9), .int (g 10), .int (g 11), .int (g 12), .int (g 13), .int (g 14)])
     else if k % 9 = 8 then .inl (t.1, 3, .inl g) else .inl (t.1, 16, .inl g))
  else match k with
    | 63 => .inr (0, [.ref (ad 64), .int (g 1)])
    | 64 => .inl (t.2.2, 4, .inr (.inr (.inr (.inr (fun i => some (ad (g i).toNatClampNeg))))))
    | 65 => .inr (2, [.ref (ad 66), .int (g 1), .int (g 2), .ref (ad 67), .ref (ad 68), .int (g 5), .ref (ad 69)])
    | 66 => .inl (t.2.1, 60, .inl g)
    | 67 => .inl (t.1, 16, .inl g)
    | 68 => .inl (t.1, 16, .inl g)
    | 69 => .inl (t.1, 16, .inl g)
    | 70 => .inr (3, [.ref (ad 0), .ref (ad 9), .ref (ad 18), .int (g 3), .ref (ad 63), .ref (ad 65)])
    | _ => .inl (t.1, 16, .inl g)
def isM (k : Nat) : Prop := k < 63 ∧ k % 9 = 0
theorem ce_m {t : gT} {ad : Nat → Nat} {k : Nat} {g : Nat → Int32} (h : isM k) : ce t ad k g = .inr (1, [.ref (ad (k + 1)), .ref (ad (k + 2)), .ref (ad (k + 3)), .ref (ad (k + 4)), .ref (ad (k + 5)), .ref (ad (k + 6)), .ref (ad (k + 7)), .ref (ad (k + 8)), .int (g 8), .int (g 9), .int (g 10), .int (g 11), .int (g 12), .int (g 13), .int (g 14)]) := by
  unfold ce; rw [if_pos h.1, if_pos h.2]
theorem ce_ma {t : gT} {ad : Nat → Nat} {k f : Nat} {g : Nat → Int32} (h : isM k) (h1 : 1 ≤ f) (h7 : f ≤ 7) : ce t ad (k + f) g = .inl (t.1, 16, .inl g) := by
  have := h.1; have := h.2
  unfold ce; rw [if_pos (by omega), if_neg (by omega), if_neg (by omega)]
theorem ce_m8 {t : gT} {ad : Nat → Nat} {k : Nat} {g : Nat → Int32} (h : isM k) : ce t ad (k + 8) g = .inl (t.1, 3, .inl g) := by
  have := h.1; have := h.2
  unfold ce; rw [if_pos (by omega), if_neg (by omega), if_pos (by omega)]
theorem isM_lt {k f : Nat} (h : isM k) (hf : f ≤ 8) : k + f < 71 := by have := h.1; omega
abbrev tys (t : gT) : List (ClassId × FieldType) := [(t.1, .int), (t.2.1, .char), (t.2.2, .object "BlinkMesh$Mesh")]
def gws (t : gT) (ad : Nat → Nat) (G : gG) : va_W := (List.range 71).map (fun k => (ad k, ce t ad k (G k)))
theorem gws_at {t : gT} {ad : Nat → Nat} {G : gG} {k : Nat} (hk : k < 71) : (gws t ad G)[k]? = some (ad k, ce t ad k (G k)) := by
  simp [gws, hk]
theorem gws_ate {t : gT} {ad : Nat → Nat} {G : gG} {k : Nat} {e : va_E} (hk : k < 71) (he : ce t ad k (G k) = e) : (gws t ad G)[k]? = some (ad k, e) := by
  rw [gws_at hk, he]
theorem gws_set {t : gT} {ad : Nat → Nat} {G G' : gG} {k : Nat} {e : va_E} (hk : k < 71) (he : ce t ad k (G' k) = e) (h2 : ∀ j, j ≠ k → G' j = G j) : (gws t ad G).set k (ad k, e) = gws t ad G' := by
  apply List.ext_getElem?
  intro j
  by_cases hj : j = k
  · subst hj
    rw [List.getElem?_set_self (by simp [gws, hk]), gws_at hk, he]
  · rw [List.getElem?_set_ne (Ne.symm hj)]
    by_cases hl : j < 71
    · rw [gws_at hl, gws_at hl, h2 j hj]
    · simp [gws, Nat.le_of_not_lt hl]
def isW (ad : Nat → Nat) : Nat → Prop := fun q => ∃ k, k < 71 ∧ ad k = q
def lstT (j : Nat) : Int32 := if j = 0 then 10 else 0
def grtT (j : Nat) : Int32 := if j = 0 then 200 else if j = 1 then 100 else 99
def gS (ad : Nat → Nat) (A : Nat → Prop) (U : State) (H : Heap) : Prop :=
  va_Z "BlinkMesh" "LEAST_SETTING" "[I" (.ref (ad 80)) A U H ∧ va_T .int (ad 80) 3 (fun j => .int (lstT j)) A U H ∧ va_Z "BlinkMesh" "GREATEST_SETTING" "[I" (.ref (ad 81)) A U H ∧ va_T .int (ad 81) 3 (fun j => .int (grtT j)) A U H
theorem gS.to {ad : Nat → Nat} {A B : Nat → Prop} {u U : State} {H H1 : Heap} (h : gS ad A u H) (hvm : u.vm.Alike U.vm) (hq : ∀ a : Nat, a < H.size → ¬ A a → H1[a]? = H[a]?) (hAB : ∀ q, B q → A q) : gS ad B U H1 :=
  ⟨((h.1.moved hvm).kept hq).narrow hAB, ((h.2.1.moved hvm).kept hq).narrow hAB, ((h.2.2.1.moved hvm).kept hq).narrow hAB, ((h.2.2.2.moved hvm).kept hq).narrow hAB⟩
-- locals by their numbers
def lh (ls : Array Slot) (n : Nat) (Lv : List (Option Value)) : Prop := ls.size = n ∧ lv_wf ls ∧ ∀ (i : Nat) (v : Value), Lv[i]? = some (some v) → ls[i]? = some (.val v) ∧ (v.category = 1 ∨ ∀ w, Lv[i + 1]? ≠ some (some w))
def la (Lv : List (Option Value)) : List (Nat × Value) := (List.range Lv.length).filterMap (fun i => (Lv[i]?.join).map (fun v => (i, v)))
theorem la_mem {Lv : List (Option Value)} {q : Nat × Value} : q ∈ la Lv ↔ Lv[q.1]? = some (some q.2) := by
  unfold la
  rw [List.mem_filterMap]
  constructor
  · rintro ⟨i, hi, h⟩
    cases hx : Lv[i]? with
    | none => rw [hx] at h; simp at h
    | some o =>
      cases o with
      | none => rw [hx] at h; simp at h
      | some v => rw [hx] at h; simp at h; subst h; simpa using hx
  · intro h
    refine ⟨q.1, ?_, by rw [h]; rfl⟩
    rw [List.mem_range]
    exact (List.getElem?_eq_some_iff.mp h).1
theorem lh.has {ls : Array Slot} {n : Nat} {Lv : List (Option Value)} (h : lh ls n Lv) : lv_has ls n (la Lv) :=
  ⟨h.1, h.2.1, fun q hq => (h.2.2 q.1 q.2 (la_mem.mp hq)).1⟩
def okst (Lv : List (Option Value)) (i : Nat) : Bool := match i with
  | 0 => true
  | j + 1 => match Lv[j]? with
    | some (some w) => Nat.beq w.category 1
    | _ => true
theorem okst_e {Lv : List (Option Value)} {i j : Nat} {w : Value} (h : okst Lv i = true) (hj : Lv[j]? = some (some w)) (hc : ¬ w.category = 1) : ¬ j + 1 = i := by
  rintro rfl
  have h' : (match Lv[j]? with | some (some w) => Nat.beq w.category 1 | _ => true) = true := h
  rw [hj] at h'
  exact hc (Nat.eq_of_beq_eq_true h')
theorem lh.st {ls' : Array Slot} {ls : Array Slot} {n i : Nat} {v : Value} {Lv : List (Option Value)} (h : lh ls n Lv) (hc : v.category = 1) (hk : okst Lv i = true) (h' : lv_has ls' n ((i, v) :: (la Lv).filter (fun q => !(q.1 == i) && !(q.1 + 1 == i && q.2.category == 2)))) : lh ls' n (Lv.set i (some v)) := by
  refine ⟨h'.1, h'.2.1, fun j w hw => ?_⟩
  by_cases hj : j = i
  · subst hj
    have hw2 : w = v := by
      rw [List.getElem?_set] at hw
      split at hw
      · split at hw
        · simpa using hw.symm
        · simp at hw
      · rename_i hne; exact absurd rfl hne
    subst hw2
    exact ⟨h'.2.2 (j, w) List.mem_cons_self, Or.inl hc⟩
  · rw [List.getElem?_set_ne (Ne.symm hj)] at hw
    obtain ⟨-, hc2⟩ := h.2.2 j w hw
    by_cases c1 : w.category = 1
    · refine ⟨h'.2.2 (j, w) (List.mem_cons_of_mem _ (List.mem_filter.mpr ⟨la_mem.mpr hw, ?_⟩)), Or.inl c1⟩
      simp [hj, c1]
    · have hn := okst_e hk hw c1
      refine ⟨h'.2.2 (j, w) (List.mem_cons_of_mem _ (List.mem_filter.mpr ⟨la_mem.mpr hw, ?_⟩)), Or.inr (fun u => ?_)⟩
      · simp [hj, hn]
      · rw [List.getElem?_set_ne (Ne.symm hn)]
        exact hc2.resolve_left c1 u
theorem lh.st2 {ls' : Array Slot} {ls : Array Slot} {n i : Nat} {x : Int64} {Lv : List (Option Value)} (h : lh ls n Lv) (hk : okst Lv i = true) (h' : lv_has ls' n ((i, .long x) :: (la Lv).filter (fun q => !(q.1 == i) && (!(q.1 == i + 1) && !(q.1 + 1 == i && q.2.category == 2))))) : lh ls' n ((Lv.set i (some (.long x))).set (i + 1) none) := by
  refine ⟨h'.1, h'.2.1, fun j w hw => ?_⟩
  by_cases hj1 : j = i + 1
  · subst hj1
    rw [List.getElem?_set] at hw
    simp at hw
  · rw [List.getElem?_set_ne (Ne.symm hj1)] at hw
    by_cases hj : j = i
    · subst hj
      have hw2 : w = .long x := by
        rw [List.getElem?_set] at hw
        split at hw
        · split at hw
          · simpa using hw.symm
          · simp at hw
        · rename_i hne; exact absurd rfl hne
      subst hw2
      refine ⟨h'.2.2 (j, .long x) List.mem_cons_self, Or.inr (fun u hu => ?_)⟩
      rw [List.getElem?_set] at hu
      simp at hu
    · rw [List.getElem?_set_ne (Ne.symm hj)] at hw
      obtain ⟨-, hc2⟩ := h.2.2 j w hw
      by_cases c1 : w.category = 1
      · refine ⟨h'.2.2 (j, w) (List.mem_cons_of_mem _ (List.mem_filter.mpr ⟨la_mem.mpr hw, ?_⟩)), Or.inl c1⟩
        simp [hj, hj1, c1]
      · have hn := okst_e hk hw c1
        refine ⟨h'.2.2 (j, w) (List.mem_cons_of_mem _ (List.mem_filter.mpr ⟨la_mem.mpr hw, ?_⟩)), Or.inr (fun u hu => ?_)⟩
        · simp [hj, hj1, hn]
        · rw [List.getElem?_set_ne (by omega), List.getElem?_set_ne (Ne.symm hn)] at hu
          exact hc2.resolve_left c1 u hu
theorem lh.iok {ls : Array Slot} {n k : Nat} {v : Value} {Lv : List (Option Value)} (h : lh ls n Lv) (hi : Lv[k]? = some (some v)) : okst Lv k = true := by
  cases k with
  | zero => rfl
  | succ j =>
    show (match Lv[j]? with | some (some w) => Nat.beq w.category 1 | _ => true) = true
    cases hj : Lv[j]? with
    | none => rfl
    | some o =>
      cases o with
      | none => rfl
      | some w =>
        have := ((h.2.2 j w hj).2.resolve_right (fun q => q v hi))
        show Nat.beq w.category 1 = true
        rw [this]; rfl
theorem lh.mono {ls : Array Slot} {n : Nat} {Lv Lv' : List (Option Value)} (h : lh ls n Lv) (hs : ∀ (i : Nat) (v : Value), Lv'[i]? = some (some v) → Lv[i]? = some (some v)) : lh ls n Lv' :=
  ⟨h.1, h.2.1, fun i v hv => ⟨(h.2.2 i v (hs i v hv)).1, (h.2.2 i v (hs i v hv)).2.imp id (fun q w hw => q w (hs _ _ hw))⟩⟩
def gC (p : Program) (s : State) (m : MethodId) (args : Array Value) (meth : Method) (c : Code) (cc : ByteArray) (own : String) (n : Nat) (ret : Option FieldType) (A : Nat → Prop) (D : va_G) (t : gT) (ad : Nat → Nat) : Prop :=
  p.tables.exec = Jvm.exec ∧ c.code = cc ∧ c.maxLocals = n ∧ s.vm.findClass own = some m.cls ∧ (∀ w ∈ gtbl, w.before args s = true) ∧ va_K D vwCl (tys t) s ∧ (∀ i j, i < 71 → j < 71 → ad i = ad j → i = j) ∧ (∀ k, k < 71 → A (ad k)) ∧ gS ad A s s.heap ∧ gN s ∧ meth.sig.returnType = ret ∧ meth.locks = false
def V (p : Program) (l : Launch) (e : Env) (R : Room) (s : State) (m : MethodId) (args : Array Value) (below : List Frame) (meth : Method) (c : Code) (A : Nat → Prop) (D : va_G) (t : gT) (ad : Nat → Nat) (cells slots n : Nat) (Q : State → Prop) (G : gG) (pc : Nat) (Lv : List (Option Value)) (st : List Value) : Prop :=
  ∀ (H : Heap) (locs : List Loc) (ls : Array Slot), va_P D vwCl (gws t ad G) H → va_S A s.heap H locs → lh ls n Lv → W p l e R s m args below meth c H locs cells slots Q (F0 m pc ls st)
theorem gD {A : Nat → Prop} {t : gT} {ad : Nat → Nat} {G : gG} (hi : ∀ i j, i < 71 → j < 71 → ad i = ad j → i = j) (hA : ∀ k, k < 71 → A (ad k)) : va_D A (gws t ad G) := by
  have key : ∀ (i : Nat) (p : Nat × va_E), (gws t ad G)[i]? = some p → i < 71 ∧ p.1 = ad i := by
    intro i p h
    by_cases hl : i < 71
    · rw [gws_at hl] at h; cases h; exact ⟨hl, rfl⟩
    · simp [gws, Nat.le_of_not_lt hl] at h
  refine ⟨fun i j p q h1 h2 h => ?_, fun k q h => ?_⟩
  · obtain ⟨a1, a2⟩ := key i p h1
    obtain ⟨b1, b2⟩ := key j q h2
    exact hi i j a1 b1 (by rw [← a2, ← b2]; exact h)
  · obtain ⟨a1, a2⟩ := key k q h
    rw [a2]; exact hA k a1
theorem gc_D {p : Program} {s : State} {m : MethodId} {args : Array Value} {meth : Method} {c : Code} {cc : ByteArray} {own : String} {n : Nat} {ret : Option FieldType} {A : Nat → Prop} {D : va_G} {t : gT} {ad : Nat → Nat} (C : gC p s m args meth c cc own n ret A D t ad) (G : gG) : va_D A (gws t ad G) := gD C.2.2.2.2.2.2.1 C.2.2.2.2.2.2.2.1
section V1
variable {p : Program} {l : Launch} {e : Env} {R : Room} {s : State} {m : MethodId} {args : Array Value} {below : List Frame} {meth : Method} {c : Code} {A : Nat → Prop} {D : va_G} {t : gT} {ad : Nat → Nat} {cells slots n : Nat} {Q : State → Prop} {G : gG} {pc : Nat} {Lv : List (Option Value)} {st : List Value} {cc : ByteArray} {own : String} {ret : Option FieldType}
theorem v_iconst (C : gC p s m args meth c cc own n ret A D t ad) {z : Int} {v : Int32} (d : decode cc pc = .ok (.iconst z, 1)) (hv : Int32.ofInt z = v) (kk : V p l e R s m args below meth c A D t ad cells slots n Q G (pc + 1) Lv (.int v :: st)) : V p l e R s m args below meth c A D t ad cells slots n Q G pc Lv st :=
  fun H locs ls hP hS hl => lv_iconst C.1 C.2.1 d hv (kk H locs ls hP hS hl)
theorem v_bipush (C : gC p s m args meth c cc own n ret A D t ad) {z : Int} {v : Int32} (d : decode cc pc = .ok (.bipush z, 2)) (hv : (Int8.ofInt z).toInt32 = v) (kk : V p l e R s m args below meth c A D t ad cells slots n Q G (pc + 2) Lv (.int v :: st)) : V p l e R s m args below meth c A D t ad cells slots n Q G pc Lv st :=
  fun H locs ls hP hS hl => lv_bipush C.1 C.2.1 d hv (kk H locs ls hP hS hl)
theorem v_sipush (C : gC p s m args meth c cc own n ret A D t ad) {z : Int} {v : Int32} (d : decode cc pc = .ok (.sipush z, 3)) (hv : (Int16.ofInt z).toInt32 = v) (kk : V p l e R s m args below meth c A D t ad cells slots n Q G (pc + 3) Lv (.int v :: st)) : V p l e R s m args below meth c A D t ad cells slots n Q G pc Lv st :=
  fun H locs ls hP hS hl => lv_sipush C.1 C.2.1 d hv (kk H locs ls hP hS hl)
theorem v_iloadn (C : gC p s m args meth c cc own n ret A D t ad) {k : Fin 4} {x : Int32} (d : decode cc pc = .ok (.iload_n k, 1)) (hi : Lv[(k : Nat)]? = some (some (.int x))) (kk : V p l e R s m args below meth c A D t ad cells slots n Q G (pc + 1) Lv (.int x :: st)) : V p l e R s m args below meth c A D t ad cells slots n Q G pc Lv st :=
  fun H locs ls hP hS hl => lv_iload_n C.1 C.2.1 d rfl (hl.2.2 _ _ hi).1 (kk H locs ls hP hS hl)
theorem v_iload (C : gC p s m args meth c cc own n ret A D t ad) {k : Nat} {x : Int32} (d : decode cc pc = .ok (.iload k, 2)) (hi : Lv[k]? = some (some (.int x))) (kk : V p l e R s m args below meth c A D t ad cells slots n Q G (pc + 2) Lv (.int x :: st)) : V p l e R s m args below meth c A D t ad cells slots n Q G pc Lv st :=
  fun H locs ls hP hS hl => lv_iload C.1 C.2.1 d (hl.2.2 _ _ hi).1 (kk H locs ls hP hS hl)
theorem v_aloadn (C : gC p s m args meth c cc own n ret A D t ad) {k : Fin 4} {x : Nat} (d : decode cc pc = .ok (.aload_n k, 1)) (hi : Lv[(k : Nat)]? = some (some (.ref x))) (kk : V p l e R s m args below meth c A D t ad cells slots n Q G (pc + 1) Lv (.ref x :: st)) : V p l e R s m args below meth c A D t ad cells slots n Q G pc Lv st :=
  fun H locs ls hP hS hl => lv_aload_n C.1 C.2.1 d rfl (hl.2.2 _ _ hi).1 (kk H locs ls hP hS hl)
theorem v_istoren (C : gC p s m args meth c cc own n ret A D t ad) {k : Fin 4} {x : Int32} (d : decode cc pc = .ok (.istore_n k, 1)) (hn : (k : Nat) < n) (kk : V p l e R s m args below meth c A D t ad cells slots n Q G (pc + 1) (Lv.set k (some (.int x))) st) (hk : okst Lv (k : Nat) = true := by rfl) : V p l e R s m args below meth c A D t ad cells slots n Q G pc Lv (.int x :: st) :=
  fun H locs ls hP hS hl => lv_istore_n C.1 C.2.1 d rfl hl.has hn rfl (fun ls' hl' => kk H locs ls' hP hS (hl.st rfl hk hl'))
theorem v_istore (C : gC p s m args meth c cc own n ret A D t ad) {k : Nat} {x : Int32} (d : decode cc pc = .ok (.istore k, 2)) (hn : k < n) (kk : V p l e R s m args below meth c A D t ad cells slots n Q G (pc + 2) (Lv.set k (some (.int x))) st) (hk : okst Lv k = true := by rfl) : V p l e R s m args below meth c A D t ad cells slots n Q G pc Lv (.int x :: st) :=
  fun H locs ls hP hS hl => lv_istore C.1 C.2.1 d hl.has hn rfl (fun ls' hl' => kk H locs ls' hP hS (hl.st rfl hk hl'))
theorem v_astoren (C : gC p s m args meth c cc own n ret A D t ad) {k : Fin 4} {x : Nat} (d : decode cc pc = .ok (.astore_n k, 1)) (hn : (k : Nat) < n) (kk : V p l e R s m args below meth c A D t ad cells slots n Q G (pc + 1) (Lv.set k (some (.ref x))) st) (hk : okst Lv (k : Nat) = true := by rfl) : V p l e R s m args below meth c A D t ad cells slots n Q G pc Lv (.ref x :: st) :=
  fun H locs ls hP hS hl => lv_astore_n C.1 C.2.1 d rfl hl.has hn rfl (fun ls' hl' => kk H locs ls' hP hS (hl.st rfl hk hl'))
theorem v_iinc (C : gC p s m args meth c cc own n ret A D t ad) {k : Nat} {z : Int} {x v : Int32} (d : decode cc pc = .ok (.iinc k z, 3)) (hi : Lv[k]? = some (some (.int x))) (hv : Int32.ofInt z = v) (hn : k < n) (kk : V p l e R s m args below meth c A D t ad cells slots n Q G (pc + 3) (Lv.set k (some (.int (x + v)))) st) : V p l e R s m args below meth c A D t ad cells slots n Q G pc Lv st := by
  intro H locs ls hP hS hl
  obtain ⟨j, hj⟩ := List.getElem?_of_mem (la_mem (q := (k, Value.int x)).mpr hi)
  exact lv_iinc C.1 C.2.1 d hl.has (k := j) hj (by rw [hv]) hn rfl (fun ls' hl' => kk H locs ls' hP hS (hl.st rfl (hl.iok hi) hl'))
theorem v_lstoren (C : gC p s m args meth c cc own n ret A D t ad) {k : Fin 4} {x : Int64} (d : decode cc pc = .ok (.lstore_n k, 1)) (hn : (k : Nat) + 1 < n) (kk : V p l e R s m args below meth c A D t ad cells slots n Q G (pc + 1) ((Lv.set k (some (.long x))).set (k + 1) none) st) (hk : okst Lv (k : Nat) = true := by rfl) : V p l e R s m args below meth c A D t ad cells slots n Q G pc Lv (.long x :: st) :=
  fun H locs ls hP hS hl => lv_lstore_n C.1 C.2.1 d rfl hl.has hn rfl (fun ls' hl' => kk H locs ls' hP hS (hl.st2 hk hl'))
theorem v_lstore (C : gC p s m args meth c cc own n ret A D t ad) {k : Nat} {x : Int64} (d : decode cc pc = .ok (.lstore k, 2)) (hn : k + 1 < n) (kk : V p l e R s m args below meth c A D t ad cells slots n Q G (pc + 2) ((Lv.set k (some (.long x))).set (k + 1) none) st) (hk : okst Lv k = true := by rfl) : V p l e R s m args below meth c A D t ad cells slots n Q G pc Lv (.long x :: st) :=
  fun H locs ls hP hS hl => lv_lstore C.1 C.2.1 d hl.has hn rfl (fun ls' hl' => kk H locs ls' hP hS (hl.st2 hk hl'))
theorem v_lloadn (C : gC p s m args meth c cc own n ret A D t ad) {k : Fin 4} {x : Int64} (d : decode cc pc = .ok (.lload_n k, 1)) (hi : Lv[(k : Nat)]? = some (some (.long x))) (kk : V p l e R s m args below meth c A D t ad cells slots n Q G (pc + 1) Lv (.long x :: st)) : V p l e R s m args below meth c A D t ad cells slots n Q G pc Lv st :=
  fun H locs ls hP hS hl => lv_lload_n C.1 C.2.1 d rfl (hl.2.2 _ _ hi).1 (kk H locs ls hP hS hl)
theorem v_lload (C : gC p s m args meth c cc own n ret A D t ad) {k : Nat} {x : Int64} (d : decode cc pc = .ok (.lload k, 2)) (hi : Lv[k]? = some (some (.long x))) (kk : V p l e R s m args below meth c A D t ad cells slots n Q G (pc + 2) Lv (.long x :: st)) : V p l e R s m args below meth c A D t ad cells slots n Q G pc Lv st :=
  fun H locs ls hP hS hl => lv_lload C.1 C.2.1 d (hl.2.2 _ _ hi).1 (kk H locs ls hP hS hl)
theorem v_ladd (C : gC p s m args meth c cc own n ret A D t ad) {x y : Int64} (d : decode cc pc = .ok (.ladd, 1)) (kk : V p l e R s m args below meth c A D t ad cells slots n Q G (pc + 1) Lv (.long (x + y) :: st)) : V p l e R s m args below meth c A D t ad cells slots n Q G pc Lv (.long y :: .long x :: st) :=
  fun H locs ls hP hS hl => lv_ladd C.1 C.2.1 d (kk H locs ls hP hS hl)
theorem v_lmul (C : gC p s m args meth c cc own n ret A D t ad) {x y : Int64} (d : decode cc pc = .ok (.lmul, 1)) (kk : V p l e R s m args below meth c A D t ad cells slots n Q G (pc + 1) Lv (.long (x * y) :: st)) : V p l e R s m args below meth c A D t ad cells slots n Q G pc Lv (.long y :: .long x :: st) :=
  fun H locs ls hP hS hl => lv_lmul C.1 C.2.1 d (kk H locs ls hP hS hl)
theorem v_i2l (C : gC p s m args meth c cc own n ret A D t ad) {x : Int32} (d : decode cc pc = .ok (.i2l, 1)) (kk : V p l e R s m args below meth c A D t ad cells slots n Q G (pc + 1) Lv (.long x.toInt64 :: st)) : V p l e R s m args below meth c A D t ad cells slots n Q G pc Lv (.int x :: st) :=
  fun H locs ls hP hS hl => lv_i2l C.1 C.2.1 d rfl (kk H locs ls hP hS hl)
theorem v_lcmp (C : gC p s m args meth c cc own n ret A D t ad) {x y : Int64} (d : decode cc pc = .ok (.lcmp, 1)) (kk : V p l e R s m args below meth c A D t ad cells slots n Q G (pc + 1) Lv (.int (lg_cmp x y) :: st)) : V p l e R s m args below meth c A D t ad cells slots n Q G pc Lv (.long y :: .long x :: st) :=
  fun H locs ls hP hS hl => W.lcmp C.1 C.2.1 d (kk H locs ls hP hS hl)
theorem v_ldc2 (C : gC p s m args meth c cc own n ret A D t ad) {v : Int64} {index : Nat} (hlink : Cond.constantLong own index v ∈ gtbl) (d : decode cc pc = .ok (.ldc2_w index, 3)) (kk : V p l e R s m args below meth c A D t ad cells slots n Q G (pc + 3) Lv (.long v :: st)) : V p l e R s m args below meth c A D t ad cells slots n Q G pc Lv st :=
  fun H locs ls hP hS hl => lv_ldc2 C.1 C.2.1 C.2.2.2.1 (C.2.2.2.2.1 _ hlink) d (kk H locs ls hP hS hl)
theorem v_iadd (C : gC p s m args meth c cc own n ret A D t ad) {x y : Int32} (d : decode cc pc = .ok (.iadd, 1)) (kk : V p l e R s m args below meth c A D t ad cells slots n Q G (pc + 1) Lv (.int (x + y) :: st)) : V p l e R s m args below meth c A D t ad cells slots n Q G pc Lv (.int y :: .int x :: st) :=
  fun H locs ls hP hS hl => lv_iadd C.1 C.2.1 d (kk H locs ls hP hS hl)
theorem v_isub (C : gC p s m args meth c cc own n ret A D t ad) {x y : Int32} (d : decode cc pc = .ok (.isub, 1)) (kk : V p l e R s m args below meth c A D t ad cells slots n Q G (pc + 1) Lv (.int (x - y) :: st)) : V p l e R s m args below meth c A D t ad cells slots n Q G pc Lv (.int y :: .int x :: st) :=
  fun H locs ls hP hS hl => lv_isub C.1 C.2.1 d (kk H locs ls hP hS hl)
theorem v_imul (C : gC p s m args meth c cc own n ret A D t ad) {x y : Int32} (d : decode cc pc = .ok (.imul, 1)) (kk : V p l e R s m args below meth c A D t ad cells slots n Q G (pc + 1) Lv (.int (x * y) :: st)) : V p l e R s m args below meth c A D t ad cells slots n Q G pc Lv (.int y :: .int x :: st) :=
  fun H locs ls hP hS hl => lv_imul C.1 C.2.1 d (kk H locs ls hP hS hl)
theorem v_idiv (C : gC p s m args meth c cc own n ret A D t ad) {x y : Int32} (d : decode cc pc = .ok (.idiv, 1)) (hne : ¬ y = 0) (kk : V p l e R s m args below meth c A D t ad cells slots n Q G (pc + 1) Lv (.int (x / y) :: st)) : V p l e R s m args below meth c A D t ad cells slots n Q G pc Lv (.int y :: .int x :: st) :=
  fun H locs ls hP hS hl => lv_idiv C.1 C.2.1 d hne (kk H locs ls hP hS hl)
theorem v_irem (C : gC p s m args meth c cc own n ret A D t ad) {x y : Int32} (d : decode cc pc = .ok (.irem, 1)) (hne : ¬ y = 0) (kk : V p l e R s m args below meth c A D t ad cells slots n Q G (pc + 1) Lv (.int (x - x / y * y) :: st)) : V p l e R s m args below meth c A D t ad cells slots n Q G pc Lv (.int y :: .int x :: st) :=
  fun H locs ls hP hS hl => lv_irem C.1 C.2.1 d hne (kk H locs ls hP hS hl)
theorem v_ineg (C : gC p s m args meth c cc own n ret A D t ad) {x : Int32} (d : decode cc pc = .ok (.ineg, 1)) (kk : V p l e R s m args below meth c A D t ad cells slots n Q G (pc + 1) Lv (.int (-x) :: st)) : V p l e R s m args below meth c A D t ad cells slots n Q G pc Lv (.int x :: st) :=
  fun H locs ls hP hS hl => lv_ineg C.1 C.2.1 d (kk H locs ls hP hS hl)
theorem v_ishl (C : gC p s m args meth c cc own n ret A D t ad) {x y : Int32} (d : decode cc pc = .ok (.ishl, 1)) (kk : V p l e R s m args below meth c A D t ad cells slots n Q G (pc + 1) Lv (.int (x <<< (y &&& 31)) :: st)) : V p l e R s m args below meth c A D t ad cells slots n Q G pc Lv (.int y :: .int x :: st) :=
  fun H locs ls hP hS hl => lv_ishl C.1 C.2.1 d (kk H locs ls hP hS hl)
theorem v_ishr (C : gC p s m args meth c cc own n ret A D t ad) {x y : Int32} (d : decode cc pc = .ok (.ishr, 1)) (kk : V p l e R s m args below meth c A D t ad cells slots n Q G (pc + 1) Lv (.int (x >>> (y &&& 31)) :: st)) : V p l e R s m args below meth c A D t ad cells slots n Q G pc Lv (.int y :: .int x :: st) :=
  fun H locs ls hP hS hl => lv_ishr C.1 C.2.1 d (kk H locs ls hP hS hl)
theorem v_iand (C : gC p s m args meth c cc own n ret A D t ad) {x y : Int32} (d : decode cc pc = .ok (.iand, 1)) (kk : V p l e R s m args below meth c A D t ad cells slots n Q G (pc + 1) Lv (.int (x &&& y) :: st)) : V p l e R s m args below meth c A D t ad cells slots n Q G pc Lv (.int y :: .int x :: st) :=
  fun H locs ls hP hS hl => lv_iand C.1 C.2.1 d (kk H locs ls hP hS hl)
theorem v_ior (C : gC p s m args meth c cc own n ret A D t ad) {x y : Int32} (d : decode cc pc = .ok (.ior, 1)) (kk : V p l e R s m args below meth c A D t ad cells slots n Q G (pc + 1) Lv (.int (x ||| y) :: st)) : V p l e R s m args below meth c A D t ad cells slots n Q G pc Lv (.int y :: .int x :: st) :=
  fun H locs ls hP hS hl => lv_ior C.1 C.2.1 d (kk H locs ls hP hS hl)
theorem v_ixor (C : gC p s m args meth c cc own n ret A D t ad) {x y : Int32} (d : decode cc pc = .ok (.ixor, 1)) (kk : V p l e R s m args below meth c A D t ad cells slots n Q G (pc + 1) Lv (.int (x ^^^ y) :: st)) : V p l e R s m args below meth c A D t ad cells slots n Q G pc Lv (.int y :: .int x :: st) :=
  fun H locs ls hP hS hl => lv_ixor C.1 C.2.1 d (kk H locs ls hP hS hl)
theorem v_i2c (C : gC p s m args meth c cc own n ret A D t ad) {x : Int32} (d : decode cc pc = .ok (.i2c, 1)) (kk : V p l e R s m args below meth c A D t ad cells slots n Q G (pc + 1) Lv (.int (x.toUInt32 % 65536).toInt32 :: st)) : V p l e R s m args below meth c A D t ad cells slots n Q G pc Lv (.int x :: st) :=
  fun H locs ls hP hS hl => lv_i2c C.1 C.2.1 d rfl (kk H locs ls hP hS hl)
theorem v_dup (C : gC p s m args meth c cc own n ret A D t ad) {x : Value} (d : decode cc pc = .ok (.dup, 1)) (hx : x.category = 1) (kk : V p l e R s m args below meth c A D t ad cells slots n Q G (pc + 1) Lv (x :: x :: st)) : V p l e R s m args below meth c A D t ad cells slots n Q G pc Lv (x :: st) :=
  fun H locs ls hP hS hl => lv_dup C.1 C.2.1 d hx (kk H locs ls hP hS hl)
theorem v_pop (C : gC p s m args meth c cc own n ret A D t ad) {x : Value} (d : decode cc pc = .ok (.pop, 1)) (hx : x.category = 1) (kk : V p l e R s m args below meth c A D t ad cells slots n Q G (pc + 1) Lv st) : V p l e R s m args below meth c A D t ad cells slots n Q G pc Lv (x :: st) :=
  fun H locs ls hP hS hl => lv_pop C.1 C.2.1 d hx (kk H locs ls hP hS hl)
theorem v_dup2 (C : gC p s m args meth c cc own n ret A D t ad) {x y : Value} (d : decode cc pc = .ok (.dup2, 1)) (hx : x.category = 1) (hy : y.category = 1) (kk : V p l e R s m args below meth c A D t ad cells slots n Q G (pc + 1) Lv (x :: y :: x :: y :: st)) : V p l e R s m args below meth c A D t ad cells slots n Q G pc Lv (x :: y :: st) :=
  fun H locs ls hP hS hl => lv_dup2_11 C.1 C.2.1 d hx hy (kk H locs ls hP hS hl)
theorem v_goto (C : gC p s m args meth c cc own n ret A D t ad) {off : Int} (tgt : Nat) (d : decode cc pc = .ok (.goto off, 3)) (ht : (pc : Int) + off = (tgt : Int)) (kk : V p l e R s m args below meth c A D t ad cells slots n Q G tgt Lv st) : V p l e R s m args below meth c A D t ad cells slots n Q G pc Lv st :=
  fun H locs ls hP hS hl => lv_goto C.1 C.2.1 d ht (kk H locs ls hP hS hl)
theorem v_tabOut (C : gC p s m args meth c cc own n ret A D t ad) {dflt lo hi : Int} {offs : Array Int} {len : Nat} {x : Int32} (tgt : Nat) (d : decode cc pc = .ok (.tableswitch dflt lo hi offs, len)) (h : x.toInt < lo ∨ hi < x.toInt) (ht : (pc : Int) + dflt = (tgt : Int)) (kk : V p l e R s m args below meth c A D t ad cells slots n Q G tgt Lv st) : V p l e R s m args below meth c A D t ad cells slots n Q G pc Lv (.int x :: st) :=
  fun H locs ls hP hS hl => lv_tableOut C.1 C.2.1 d h ht (kk H locs ls hP hS hl)
theorem v_tabIn (C : gC p s m args meth c cc own n ret A D t ad) {dflt lo hi : Int} {offs : Array Int} {len : Nat} {x : Int32} {off : Int} (tgt : Nat) (d : decode cc pc = .ok (.tableswitch dflt lo hi offs, len)) (h1 : ¬ x.toInt < lo) (h2 : ¬ hi < x.toInt) (ho : offs[(x.toInt - lo).toNat]? = some off) (ht : (pc : Int) + off = (tgt : Int)) (kk : V p l e R s m args below meth c A D t ad cells slots n Q G tgt Lv st) : V p l e R s m args below meth c A D t ad cells slots n Q G pc Lv (.int x :: st) :=
  fun H locs ls hP hS hl => lv_tableIn C.1 C.2.1 d h1 h2 ho ht (kk H locs ls hP hS hl)
theorem v_if_eq (C : gC p s m args meth c cc own n ret A D t ad) {x : Int32} {off : Int} (tgt : Nat) (d : decode cc pc = .ok (.ifCond .eq off, 3)) (ht : (pc : Int) + off = (tgt : Int)) (kt : x = 0 → V p l e R s m args below meth c A D t ad cells slots n Q G tgt Lv st) (kf : ¬ x = 0 → V p l e R s m args below meth c A D t ad cells slots n Q G (pc + 3) Lv st) : V p l e R s m args below meth c A D t ad cells slots n Q G pc Lv (.int x :: st) :=
  fun H locs ls hP hS hl => lv_if_eq C.1 C.2.1 d ht (fun h => kt h H locs ls hP hS hl) (fun h => kf h H locs ls hP hS hl)
theorem v_ic_eq (C : gC p s m args meth c cc own n ret A D t ad) {x y : Int32} {off : Int} (tgt : Nat) (d : decode cc pc = .ok (.if_icmp .eq off, 3)) (ht : (pc : Int) + off = (tgt : Int)) (kt : x = y → V p l e R s m args below meth c A D t ad cells slots n Q G tgt Lv st) (kf : ¬ x = y → V p l e R s m args below meth c A D t ad cells slots n Q G (pc + 3) Lv st) : V p l e R s m args below meth c A D t ad cells slots n Q G pc Lv (.int y :: .int x :: st) :=
  fun H locs ls hP hS hl => lv_icmp_eq C.1 C.2.1 d ht (fun h => kt h H locs ls hP hS hl) (fun h => kf h H locs ls hP hS hl)
theorem v_if_ne (C : gC p s m args meth c cc own n ret A D t ad) {x : Int32} {off : Int} (tgt : Nat) (d : decode cc pc = .ok (.ifCond .ne off, 3)) (ht : (pc : Int) + off = (tgt : Int)) (kt : ¬ x = 0 → V p l e R s m args below meth c A D t ad cells slots n Q G tgt Lv st) (kf : x = 0 → V p l e R s m args below meth c A D t ad cells slots n Q G (pc + 3) Lv st) : V p l e R s m args below meth c A D t ad cells slots n Q G pc Lv (.int x :: st) :=
  fun H locs ls hP hS hl => lv_if_ne C.1 C.2.1 d ht (fun h => kt h H locs ls hP hS hl) (fun h => kf h H locs ls hP hS hl)
theorem v_ic_ne (C : gC p s m args meth c cc own n ret A D t ad) {x y : Int32} {off : Int} (tgt : Nat) (d : decode cc pc = .ok (.if_icmp .ne off, 3)) (ht : (pc : Int) + off = (tgt : Int)) (kt : ¬ x = y → V p l e R s m args below meth c A D t ad cells slots n Q G tgt Lv st) (kf : x = y → V p l e R s m args below meth c A D t ad cells slots n Q G (pc + 3) Lv st) : V p l e R s m args below meth c A D t ad cells slots n Q G pc Lv (.int y :: .int x :: st) :=
  fun H locs ls hP hS hl => lv_icmp_ne C.1 C.2.1 d ht (fun h => kt h H locs ls hP hS hl) (fun h => kf h H locs ls hP hS hl)
theorem v_if_lt (C : gC p s m args meth c cc own n ret A D t ad) {x : Int32} {off : Int} (tgt : Nat) (d : decode cc pc = .ok (.ifCond .lt off, 3)) (ht : (pc : Int) + off = (tgt : Int)) (kt : x < 0 → V p l e R s m args below meth c A D t ad cells slots n Q G tgt Lv st) (kf : ¬ x < 0 → V p l e R s m args below meth c A D t ad cells slots n Q G (pc + 3) Lv st) : V p l e R s m args below meth c A D t ad cells slots n Q G pc Lv (.int x :: st) :=
  fun H locs ls hP hS hl => lv_if_lt C.1 C.2.1 d ht (fun h => kt h H locs ls hP hS hl) (fun h => kf h H locs ls hP hS hl)
theorem v_ic_lt (C : gC p s m args meth c cc own n ret A D t ad) {x y : Int32} {off : Int} (tgt : Nat) (d : decode cc pc = .ok (.if_icmp .lt off, 3)) (ht : (pc : Int) + off = (tgt : Int)) (kt : x < y → V p l e R s m args below meth c A D t ad cells slots n Q G tgt Lv st) (kf : ¬ x < y → V p l e R s m args below meth c A D t ad cells slots n Q G (pc + 3) Lv st) : V p l e R s m args below meth c A D t ad cells slots n Q G pc Lv (.int y :: .int x :: st) :=
  fun H locs ls hP hS hl => lv_icmp_lt C.1 C.2.1 d ht (fun h => kt h H locs ls hP hS hl) (fun h => kf h H locs ls hP hS hl)
theorem v_if_ge (C : gC p s m args meth c cc own n ret A D t ad) {x : Int32} {off : Int} (tgt : Nat) (d : decode cc pc = .ok (.ifCond .ge off, 3)) (ht : (pc : Int) + off = (tgt : Int)) (kt : 0 ≤ x → V p l e R s m args below meth c A D t ad cells slots n Q G tgt Lv st) (kf : ¬ 0 ≤ x → V p l e R s m args below meth c A D t ad cells slots n Q G (pc + 3) Lv st) : V p l e R s m args below meth c A D t ad cells slots n Q G pc Lv (.int x :: st) :=
  fun H locs ls hP hS hl => lv_if_ge C.1 C.2.1 d ht (fun h => kt h H locs ls hP hS hl) (fun h => kf h H locs ls hP hS hl)
theorem v_ic_ge (C : gC p s m args meth c cc own n ret A D t ad) {x y : Int32} {off : Int} (tgt : Nat) (d : decode cc pc = .ok (.if_icmp .ge off, 3)) (ht : (pc : Int) + off = (tgt : Int)) (kt : y ≤ x → V p l e R s m args below meth c A D t ad cells slots n Q G tgt Lv st) (kf : ¬ y ≤ x → V p l e R s m args below meth c A D t ad cells slots n Q G (pc + 3) Lv st) : V p l e R s m args below meth c A D t ad cells slots n Q G pc Lv (.int y :: .int x :: st) :=
  fun H locs ls hP hS hl => lv_icmp_ge C.1 C.2.1 d ht (fun h => kt h H locs ls hP hS hl) (fun h => kf h H locs ls hP hS hl)
theorem v_if_gt (C : gC p s m args meth c cc own n ret A D t ad) {x : Int32} {off : Int} (tgt : Nat) (d : decode cc pc = .ok (.ifCond .gt off, 3)) (ht : (pc : Int) + off = (tgt : Int)) (kt : 0 < x → V p l e R s m args below meth c A D t ad cells slots n Q G tgt Lv st) (kf : ¬ 0 < x → V p l e R s m args below meth c A D t ad cells slots n Q G (pc + 3) Lv st) : V p l e R s m args below meth c A D t ad cells slots n Q G pc Lv (.int x :: st) :=
  fun H locs ls hP hS hl => lv_if_gt C.1 C.2.1 d ht (fun h => kt h H locs ls hP hS hl) (fun h => kf h H locs ls hP hS hl)
theorem v_ic_gt (C : gC p s m args meth c cc own n ret A D t ad) {x y : Int32} {off : Int} (tgt : Nat) (d : decode cc pc = .ok (.if_icmp .gt off, 3)) (ht : (pc : Int) + off = (tgt : Int)) (kt : y < x → V p l e R s m args below meth c A D t ad cells slots n Q G tgt Lv st) (kf : ¬ y < x → V p l e R s m args below meth c A D t ad cells slots n Q G (pc + 3) Lv st) : V p l e R s m args below meth c A D t ad cells slots n Q G pc Lv (.int y :: .int x :: st) :=
  fun H locs ls hP hS hl => lv_icmp_gt C.1 C.2.1 d ht (fun h => kt h H locs ls hP hS hl) (fun h => kf h H locs ls hP hS hl)
theorem v_if_le (C : gC p s m args meth c cc own n ret A D t ad) {x : Int32} {off : Int} (tgt : Nat) (d : decode cc pc = .ok (.ifCond .le off, 3)) (ht : (pc : Int) + off = (tgt : Int)) (kt : x ≤ 0 → V p l e R s m args below meth c A D t ad cells slots n Q G tgt Lv st) (kf : ¬ x ≤ 0 → V p l e R s m args below meth c A D t ad cells slots n Q G (pc + 3) Lv st) : V p l e R s m args below meth c A D t ad cells slots n Q G pc Lv (.int x :: st) :=
  fun H locs ls hP hS hl => lv_if_le C.1 C.2.1 d ht (fun h => kt h H locs ls hP hS hl) (fun h => kf h H locs ls hP hS hl)
theorem v_ic_le (C : gC p s m args meth c cc own n ret A D t ad) {x y : Int32} {off : Int} (tgt : Nat) (d : decode cc pc = .ok (.if_icmp .le off, 3)) (ht : (pc : Int) + off = (tgt : Int)) (kt : x ≤ y → V p l e R s m args below meth c A D t ad cells slots n Q G tgt Lv st) (kf : ¬ x ≤ y → V p l e R s m args below meth c A D t ad cells slots n Q G (pc + 3) Lv st) : V p l e R s m args below meth c A D t ad cells slots n Q G pc Lv (.int y :: .int x :: st) :=
  fun H locs ls hP hS hl => lv_icmp_le C.1 C.2.1 d ht (fun h => kt h H locs ls hP hS hl) (fun h => kf h H locs ls hP hS hl)
theorem v_wk (kk : V p l e R s m args below meth c A D t ad cells slots n Q G pc Lv st) {Lv' : List (Option Value)} (hs : ∀ (i : Nat) (v : Value), Lv[i]? = some (some v) → Lv'[i]? = some (some v)) : V p l e R s m args below meth c A D t ad cells slots n Q G pc Lv' st :=
  fun H locs ls hP hS hl => kk H locs ls hP hS (hl.mono hs)
end V1
