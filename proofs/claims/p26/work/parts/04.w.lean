theorem gc_x {p : Program} {s : State} {m : MethodId} {args : Array Value} {meth : Method} {c : Code} {cc : ByteArray} {own : String} {n : Nat} {ret : Option FieldType} {A : Nat → Prop} {D : va_G} {t : gT} {ad : Nat → Nat} (C : gC p s m args meth c cc own n ret A D t ad) : (∀ w ∈ gtbl, w.before args s = true) ∧ va_K D vwCl (tys t) s ∧ (∀ k, k < 71 → A (ad k)) ∧ gS ad A s s.heap ∧ gN s ∧ meth.sig.returnType = ret ∧ meth.locks = false := ⟨C.2.2.2.2.1, C.2.2.2.2.2.1, C.2.2.2.2.2.2.2.1, C.2.2.2.2.2.2.2.2.1, C.2.2.2.2.2.2.2.2.2.1, C.2.2.2.2.2.2.2.2.2.2.1, C.2.2.2.2.2.2.2.2.2.2.2⟩
def gP (D : va_G) (t : gT) (ad : Nat → Nat) (G : gG) (U : State) : Prop := va_P D vwCl (gws t ad G) U.heap ∧ va_K D vwCl (tys t) U ∧ gS ad (isW ad) U U.heap ∧ gN U
def gI (ad : Nat → Nat) : Prop := ∀ i j, i < 71 → j < 71 → ad i = ad j → i = j
theorem gP_blind {D : va_G} {t : gT} {ad : Nat → Nat} {G : gG} {av : List Value} : FrameBlind (va_Pc av (gP D t ad G)) := by
  intro a U g mk h
  obtain ⟨h0, h1, h2, h3, h4⟩ := h
  exact ⟨h0, h1, va_K.moved (u := U) (U := U.calling g mk a) (Vm.Alike.refl U.vm) h2, gS.to h3 (U := U.calling g mk a) (Vm.Alike.refl U.vm) (fun _ _ _ => rfl) (fun _ h => h), gN.same (s := U) (U := U.calling g mk a) rfl h4⟩
abbrev wM (y : MethodName) (b : ByteArray) (n : Nat) (ret : Option FieldType) : List Cond := .code y b n ret :: gtbl
abbrev rM (f loc : Nat) : Room := { frames := f, cells := 0, slots := 0, locals := loc }
def Mi (l : Launch) (D : va_G) (t : gT) (ad : Nat → Nat) (y : MethodName) (b : ByteArray) (n : Nat) (ret : Option FieldType) (rm : Room) (av : List Value) (G : gG) (r : Int32) (G' : gG) : Prop :=
  Met l y (wM y b n ret) rm (va_Pc av (gP D t ad G)) (va_Qi (fun (r' : Int32) (_ : Unit) => r' = r) (fun _ U => va_P D vwCl (gws t ad G') U.heap) (isW ad)) 0 0 (isW ad)
def Mv (l : Launch) (D : va_G) (t : gT) (ad : Nat → Nat) (y : MethodName) (b : ByteArray) (n : Nat) (rm : Room) (av : List Value) (G : gG) (G' : gG) : Prop :=
  Met l y (wM y b n none) rm (va_Pc av (gP D t ad G)) (va_Qv (fun (_ : Unit) => True) (fun _ U => va_P D vwCl (gws t ad G') U.heap) (isW ad)) 0 0 (isW ad)
def Ml (l : Launch) (D : va_G) (t : gT) (ad : Nat → Nat) (y : MethodName) (b : ByteArray) (n : Nat) (rm : Room) (av : List Value) (G : gG) (r : Int64) : Prop :=
  Met l y (wM y b n (some .long)) rm (va_Pc av (gP D t ad G)) (va_Ql (fun (r' : Int64) (_ : Unit) => r' = r) (fun _ U => va_P D vwCl (gws t ad G) U.heap) (isW ad)) 0 0 (isW ad)
abbrev Ql (below : List Frame) (D : va_G) (t : gT) (ad : Nat → Nat) (args : Array Value) (s : State) (r : Int64) (G' : gG) : State → Prop := MQ below (va_Ql (fun (r' : Int64) (_ : Unit) => r' = r) (fun _ U => va_P D vwCl (gws t ad G') U.heap) (isW ad)) args s 0 0 (isW ad)
abbrev Qi (below : List Frame) (D : va_G) (t : gT) (ad : Nat → Nat) (args : Array Value) (s : State) (r : Int32) (G' : gG) : State → Prop := MQ below (va_Qi (fun (r' : Int32) (_ : Unit) => r' = r) (fun _ U => va_P D vwCl (gws t ad G') U.heap) (isW ad)) args s 0 0 (isW ad)
abbrev Qv (below : List Frame) (D : va_G) (t : gT) (ad : Nat → Nat) (args : Array Value) (s : State) (G' : gG) : State → Prop := MQ below (va_Qv (fun (_ : Unit) => True) (fun _ U => va_P D vwCl (gws t ad G') U.heap) (isW ad)) args s 0 0 (isW ad)
/-- a method's entry -/
theorem m_in {l : Launch} {D : va_G} {t : gT} {ad : Nat → Nat} {y : MethodName} {b : ByteArray} {n : Nat} {ret : Option FieldType} {rm : Room} {av : List Value} {G : gG} {Qc : Array Value → State → Outcome → State → Prop} (hI : gI ad) (hy : plainName y.cls = true) (hrc : rm.cells = 0 ∧ rm.slots = 0) (hlen : (lg_sl av).length ≤ n) (hcat : ∀ q ∈ lv_args 0 av, q.2.category = 1) (Lv : List (Option Value)) (hLv : ∀ (i : Nat) (v : Value), Lv[i]? = some (some v) → (i, v) ∈ lv_args 0 av)
    (body : ∀ (p : Program) (e : Env) (s : State) (m : MethodId) (args : Array Value) (below : List Frame) (meth : Method) (c : Code), gC p s m args meth c b y.cls n ret (isW ad) D t ad → V p l e rm s m args below meth c (isW ad) D t ad 0 0 n (MQ below Qc args s 0 0 (isW ad)) G 0 Lv []) : Met l y (wM y b n ret) rm (va_Pc av (gP D t ad G)) Qc 0 0 (isW ad) := by
  refine Met.ofW (cc := b) (maxL := n) (ret := ret) hy rfl ?_
  intro p e s m args below meth c s₁ B hml hv
  obtain ⟨rfl, hP, hK, hS, hN⟩ := hv
  have hts : ∀ w ∈ wM y b n ret, w.before av.toArray s = true := atoms_spec (ws := wM y b n ret) B.pre
  have hl := lv_entry av (n := n) hlen
  rw [lg_entry_eq]
  exact body p e s m _ below meth c ⟨B.exec, B.bytes, hml, findClass_of_methodNamed B.named, fun w hw => hts w (List.mem_cons_of_mem _ hw), hK, hI, fun k hk => ⟨k, hk, rfl⟩, hS, hN, B.returns, B.notSynchronized⟩ s.heap [] _ hP va_S.rf ⟨hl.1, hl.2.1, fun i v hv => ⟨hl.2.2 _ (hLv i v hv), Or.inl (hcat _ (hLv i v hv))⟩⟩
section V2
variable {p : Program} {l : Launch} {e : Env} {R : Room} {s : State} {m : MethodId} {args : Array Value} {below : List Frame} {meth : Method} {c : Code} {A : Nat → Prop} {D : va_G} {t : gT} {ad : Nat → Nat} {cells slots n : Nat} {Q : State → Prop} {G : gG} {pc : Nat} {Lv : List (Option Value)} {st : List Value} {cc : ByteArray} {own : String} {ret : Option FieldType}
theorem v_get (C : gC p s m args meth c cc own n ret A D t ad) {ci N k index : Nat} {Cn ref : String} {T : u_T} {fs : List Value} {v : Value} (hk : k < 71) (hce : ce t ad k (G k) = .inr (ci, fs)) (hc : vwCl[ci]? = some (Cn, T, N)) (hin : ∀ w ∈ u_ws Cn T N, w ∈ gtbl) (f : Nat) (hf : f < N) (hlink : Cond.fieldLink own index ref (T f).2.1 (T f).2.2.1 ∈ gtbl) (href : (T f).1 = ref) (hv : fs[f]? = some v) (d : decode cc pc = .ok (.getfield index, 3)) (kk : V p l e R s m args below meth c A D t ad cells slots n Q G (pc + 3) Lv (v :: st)) : V p l e R s m args below meth c A D t ad cells slots n Q G pc Lv (.ref (ad k) :: st) :=
  fun H locs ls hP hS hl => va_get C.1 C.2.1 (gc_x C).1 hin C.2.2.2.1 (gc_x C).2.1 hP k (gws_ate hk hce) hc f hf ((gc_x C).1 _ hlink) (fun _ h => by rw [← href]; exact h) hv d (kk H locs ls hP hS hl)
theorem v_put (C : gC p s m args meth c cc own n ret A D t ad) {ci N k index : Nat} {Cn ref : String} {T : u_T} {fs : List Value} {x : Int32} {ty : FieldType} (hk : k < 71) (hce : ce t ad k (G k) = .inr (ci, fs)) (hc : vwCl[ci]? = some (Cn, T, N)) (hin : ∀ w ∈ u_ws Cn T N, w ∈ gtbl) (ty0 : Nat → FieldType) (hty : ∀ k, k < N → parseFieldDescriptor (T k).2.2.1 = some (ty0 k)) (hnm : ∀ a, a < N → ∀ b, b < N → a ≠ b → (T a).2.1 ≠ (T b).2.1) (f : Nat) (hf : f < N) (hlink : Cond.fieldLink own index ref (T f).2.1 (T f).2.2.1 ∈ gtbl) (href : (T f).1 = ref) (hfin : (T f).2.2.2 = false) (hd : parseFieldDescriptor (T f).2.2.1 = some ty) (hn : narrow ty (.int x) = .int x) (hfit : fits ty (.int x) = true) (hl0 : f < fs.length) (hce' : ce t ad k (gu G k f x k) = .inr (ci, fs.set f (.int x))) (d : decode cc pc = .ok (.putfield index, 3)) (kk : V p l e R s m args below meth c A D t ad cells slots n Q (gu G k f x) (pc + 3) Lv st) : V p l e R s m args below meth c A D t ad cells slots n Q G pc Lv (.int x :: .ref (ad k) :: st) := by
  intro H locs ls hP hS hl
  refine va_put C.1 C.2.1 (gc_x C).1 hin ty0 hty hnm C.2.2.2.1 (gc_x C).2.1 hP (gc_D C G) hS k (gws_ate hk hce) hc f hf ((gc_x C).1 _ hlink) (fun _ h => by rw [← href]; exact h) hfin hd hn hfit hl0 d (fun H1 locs1 hP1 _ hS1 => ?_)
  rw [gws_set (G := G) (G' := gu G k f x) hk hce' (fun j hj => gu_ne hj)] at hP1
  exact kk H1 locs1 ls hP1 hS1 hl
theorem v_ld (C : gC p s m args meth c cc own n ret A D t ad) {k N : Nat} {i : Int32} (hk : k < 71) (hce : ce t ad k (G k) = .inl (t.1, N, .inl (G k))) (hin : vp_in i N) (d : decode cc pc = .ok (.iaload, 1)) (kk : V p l e R s m args below meth c A D t ad cells slots n Q G (pc + 1) Lv (.int (G k i.toNatClampNeg) :: st)) : V p l e R s m args below meth c A D t ad cells slots n Q G pc Lv (.int i :: .ref (ad k) :: st) :=
  fun H locs ls hP hS hl => va_iald C.1 C.2.1 (gc_x C).2.1 hP k 0 (gws_ate hk hce) rfl hin d (kk H locs ls hP hS hl)
theorem v_cld (C : gC p s m args meth c cc own n ret A D t ad) {k N : Nat} {i : Int32} (hk : k < 71) (hce : ce t ad k (G k) = .inl (t.2.1, N, .inl (G k))) (hin : vp_in i N) (d : decode cc pc = .ok (.caload, 1)) (kk : V p l e R s m args below meth c A D t ad cells slots n Q G (pc + 1) Lv (.int (G k i.toNatClampNeg) :: st)) : V p l e R s m args below meth c A D t ad cells slots n Q G pc Lv (.int i :: .ref (ad k) :: st) :=
  fun H locs ls hP hS hl => va_cald C.1 C.2.1 (gc_x C).2.1 hP k 1 (gws_ate hk hce) rfl hin d (kk H locs ls hP hS hl)
theorem v_st (C : gC p s m args meth c cc own n ret A D t ad) {k N : Nat} {i x : Int32} (hk : k < 71) (hce : ∀ g, ce t ad k g = .inl (t.1, N, .inl g)) (hin : vp_in i N) (d : decode cc pc = .ok (.iastore, 1)) (kk : V p l e R s m args below meth c A D t ad cells slots n Q (gu G k i.toNatClampNeg x) (pc + 1) Lv st) : V p l e R s m args below meth c A D t ad cells slots n Q G pc Lv (.int x :: .int i :: .ref (ad k) :: st) := by
  intro H locs ls hP hS hl
  refine va_iast C.1 C.2.1 (gc_x C).2.1 hP (gc_D C G) hS k 0 (gws_ate hk (hce _)) rfl hin d (fun H1 locs1 hP1 _ hS1 => ?_)
  rw [gws_set (G := G) (G' := gu G k i.toNatClampNeg x) hk (by rw [hce, gu_eq]) (fun j hj => gu_ne hj)] at hP1
  exact kk H1 locs1 ls hP1 hS1 hl
theorem v_cst (C : gC p s m args meth c cc own n ret A D t ad) {k N : Nat} {i x : Int32} (hk : k < 71) (hce : ∀ g, ce t ad k g = .inl (t.2.1, N, .inl g)) (hin : vp_in i N) (d : decode cc pc = .ok (.castore, 1)) (kk : V p l e R s m args below meth c A D t ad cells slots n Q (gu G k i.toNatClampNeg (vp_nar .char x)) (pc + 1) Lv st) : V p l e R s m args below meth c A D t ad cells slots n Q G pc Lv (.int x :: .int i :: .ref (ad k) :: st) := by
  intro H locs ls hP hS hl
  refine va_cast C.1 C.2.1 (gc_x C).2.1 hP (gc_D C G) hS k 1 (gws_ate hk (hce _)) rfl hin d (fun H1 locs1 hP1 _ hS1 => ?_)
  rw [gws_set (G := G) (G' := gu G k i.toNatClampNeg (vp_nar .char x)) hk (by rw [hce, gu_eq]) (fun j hj => gu_ne hj)] at hP1
  exact kk H1 locs1 ls hP1 hS1 hl
theorem v_ald (C : gC p s m args meth c cc own n ret A D t ad) {i : Int32} (hin : vp_in i 4) (d : decode cc pc = .ok (.aaload, 1)) (kk : V p l e R s m args below meth c A D t ad cells slots n Q G (pc + 1) Lv (.ref (ad (G 64 i.toNatClampNeg).toNatClampNeg) :: st)) : V p l e R s m args below meth c A D t ad cells slots n Q G pc Lv (.int i :: .ref (ad 64) :: st) :=
  fun H locs ls hP hS hl => va_aldq C.1 C.2.1 (gc_x C).2.1 hP 64 2 (gws_ate (e := .inl (t.2.2, 4, .inr (.inr (.inr (.inr (fun i => some (ad (G 64 i).toNatClampNeg))))))) (by decide) rfl) rfl hin d (kk H locs ls hP hS hl)
theorem v_ast (C : gC p s m args meth c cc own n ret A D t ad) {i : Int32} {k : Nat} (hk : isM k) (hin : vp_in i 4) (d : decode cc pc = .ok (.aastore, 1)) (kk : V p l e R s m args below meth c A D t ad cells slots n Q (gu G 64 i.toNatClampNeg (Int32.ofNat k)) (pc + 1) Lv st) : V p l e R s m args below meth c A D t ad cells slots n Q G pc Lv (.ref (ad k) :: .int i :: .ref (ad 64) :: st) := by
  intro H locs ls hP hS hl
  have hk9 : k < 63 := hk.1
  refine va_astq C.1 C.2.1 (gc_x C).2.1 hP (gc_D C G) hS 64 2 k 1 (r := (RX1, TX1, 15)) (gws_ate (e := .inl (t.2.2, 4, .inr (.inr (.inr (.inr (fun i => some (ad (G 64 i).toNatClampNeg))))))) (by decide) rfl) rfl (gws_ate (by omega) (ce_m hk)) rfl hin d (fun H1 locs1 hP1 _ hS1 => ?_)
  rw [gws_set (G := G) (G' := gu G 64 i.toNatClampNeg (Int32.ofNat k)) (by decide) ?_ (fun j hj => gu_ne hj)] at hP1
  · exact kk H1 locs1 ls hP1 hS1 hl
  · have hT : (Int32.ofNat k).toNatClampNeg = k := Int32.toNatClampNeg_ofNat_of_lt (by omega)
    have hF : (fun j => some (ad (gu G 64 i.toNatClampNeg (Int32.ofNat k) 64 j).toNatClampNeg)) = va_up (fun j => some (ad (G 64 j).toNatClampNeg)) i.toNatClampNeg (some (ad k)) := by
      funext j
      by_cases hj : j = i.toNatClampNeg
      · simp [gu, va_up, hj, hT]
      · simp [gu, va_up, hj]
    show (Sum.inl (t.2.2, 4, .inr (.inr (.inr (.inr (fun j => some (ad (gu G 64 i.toNatClampNeg (Int32.ofNat k) 64 j).toNatClampNeg)))))) : va_E) = _
    rw [hF]
theorem v_iret (C : gC p s m args meth c cc own n (some .int) (isW ad) D t ad) {r : Int32} (d : decode cc pc = .ok (.ireturn, 1)) : V p l e R s m args below meth c (isW ad) D t ad 0 0 n (Qi below D t ad args s r G) G pc Lv [.int r] :=
  fun H locs ls hP hS hl => W.iret C.1 C.2.1 (gc_x C).2.2.2.2.2.1 (fun t ht hW => ⟨⟨r, (), rfl, rfl, by show va_P _ _ _ _; rw [ht]; exact hP⟩, hS.F ht⟩) hS.2.2 d (gc_x C).2.2.2.2.2.2
def nb (r : Int32) : Prop := r = 0 ∨ r = 1
theorem nb_n {r : Int32} (h : nb r) : narrow .boolean (.int r) = .int r := by rcases h with rfl | rfl <;> rfl
theorem v_zret (C : gC p s m args meth c cc own n (some .boolean) (isW ad) D t ad) {r : Int32} (hr : nb r) (d : decode cc pc = .ok (.ireturn, 1)) : V p l e R s m args below meth c (isW ad) D t ad 0 0 n (Qi below D t ad args s r G) G pc Lv [.int r] :=
  fun H locs ls hP hS hl => W.zret C.1 C.2.1 (gc_x C).2.2.2.2.2.1 (nb_n hr) (fun t ht hW => ⟨⟨r, (), rfl, rfl, by show va_P _ _ _ _; rw [ht]; exact hP⟩, hS.F ht⟩) hS.2.2 d (gc_x C).2.2.2.2.2.2
theorem v_lret (C : gC p s m args meth c cc own n (some .long) (isW ad) D t ad) {r : Int64} (d : decode cc pc = .ok (.lreturn, 1)) : V p l e R s m args below meth c (isW ad) D t ad 0 0 n (Ql below D t ad args s r G) G pc Lv [.long r] :=
  fun H locs ls hP hS hl => W.lret C.1 C.2.1 (gc_x C).2.2.2.2.2.1 (fun t ht hW => ⟨⟨r, (), rfl, rfl, by show va_P _ _ _ _; rw [ht]; exact hP⟩, hS.F ht⟩) hS.2.2 d (gc_x C).2.2.2.2.2.2
theorem v_vret (C : gC p s m args meth c cc own n none (isW ad) D t ad) (d : decode cc pc = .ok (.return_, 1)) : V p l e R s m args below meth c (isW ad) D t ad 0 0 n (Qv below D t ad args s G) G pc Lv [] :=
  fun H locs ls hP hS hl => W.vret C.1 C.2.1 (gc_x C).2.2.2.2.2.1 (fun t ht hW => ⟨⟨(), rfl, trivial, by show va_P _ _ _ _; rw [ht]; exact hP⟩, hS.F ht⟩) hS.2.2 d (gc_x C).2.2.2.2.2.2
-- calls
variable {y : MethodName} {b : ByteArray} {mL nP index : Nat} {ry : Option FieldType} {rm : Room} {As : List Value} {r : Int32} {G' : gG}
theorem v_pre (C : gC p s m args meth c cc own n ret A D t ad) {H : Heap} {locs : List Loc} (hP : va_P D vwCl (gws t ad G) H) (hS : va_S A s.heap H locs) {av : List Value} : ∀ U : State, U.heap = H → s.WarmedH U.vm → va_Pc av (gP D t ad G) av.toArray U :=
  fun U hU hW => ⟨rfl, by rw [hU]; exact hP, va_K.moved hW.alike (gc_x C).2.1, (gc_x C).2.2.2.1.to hW.alike (fun a ha hna => by rw [hU]; exact hS.2.1 a ha hna) (fun q ⟨k, hk, he⟩ => he ▸ (gc_x C).2.2.1 k hk), (gc_x C).2.2.2.2.1.warm hW⟩
theorem v_AW (C : gC p s m args meth c cc own n ret A D t ad) : ∀ q, isW ad q → A q := fun q ⟨k, hk, he⟩ => he ▸ (gc_x C).2.2.1 k hk
abbrev yOk (y : MethodName) (nP : Nat) : Prop := y.cls ≠ "java/lang/invoke/MethodHandle" ∧ y.cls ≠ "java/lang/invoke/VarHandle" ∧ (parseMethodDescriptor y.desc).map (fun d => d.parameters.length) = some nP
theorem v_callI (C : gC p s m args meth c cc own n ret A D t ad) {k ci : Nat} {fs : List Value} {rest : List Value} {q : vw_C} (hk : k < 71) (hce : ce t ad k (G k) = .inr (ci, fs)) (hc : vwCl[ci]? = some q)
    (hM : Mi l D t ad y b mL ry rm (.ref (ad k) :: As) G r G') (hcode : Cond.code y b mL ry ∈ gtbl) (hlink : Cond.methodLink own index y ∈ gtbl) (hinst : Cond.instanceMethod y ∈ gtbl) (hsel : Cond.selects q.1 y y ∈ gtbl) (hini : Cond.initialized y.cls ∈ gtbl) (hd : yOk y nP) (hR : rm.frames + 1 ≤ R.frames ∧ 8 + (mL + 11) + rm.locals ≤ R.locals ∧ rm.cells = 0 ∧ rm.slots = 0 ∧ cells ≤ R.cells ∧ slots ≤ R.slots)
    (hn : As.length = nP) (hst : st = As.reverse ++ .ref (ad k) :: rest) (hcat : (rest.map fun v => v.category).sum ≤ 8) (d : decode cc pc = .ok (.invokevirtual index, 3))
    (kk : V p l e R s m args below meth c A D t ad cells slots n Q G' (pc + 3) Lv (.int r :: rest)) : V p l e R s m args below meth c A D t ad cells slots n Q G pc Lv st := by
  intro H locs ls hP hS hl
  have hts := (gc_x C).1
  refine va_calli (va_runV (As := As) (rest := rest) ⟨C.1, C.2.1, C.2.2.1, C.2.2.2.1, hts⟩ hM ⟨callB_of nP hts (gd_c hcode) rfl hR.2.2.1 hR.2.2.2.1 (hts _ hini) (hts _ hlink) hd ⟨hR.1, hR.2.1⟩, hts _ hinst, hts _ hsel⟩ ⟨gP_blind, va_recv (gc_x C).2.1 hP hc (gws_ate hk hce), v_pre C hP hS⟩ rfl hn hl.1 hst (lv_room hcat) d ⟨hR.2.2.2.2.1, hR.2.2.2.2.2⟩) hS (fun q _ h => v_AW C q h) (v_AW C) (fun r' u t' H1 locs1 ht hvm hw hB hz1 hk1 hS1 => ?_)
  subst hw
  exact kk H1 locs1 ls (by rw [← ht]; exact hB) hS1 hl
theorem v_callV (C : gC p s m args meth c cc own n ret A D t ad) {k ci : Nat} {fs : List Value} {rest : List Value} {q : vw_C} (hk : k < 71) (hce : ce t ad k (G k) = .inr (ci, fs)) (hc : vwCl[ci]? = some q)
    (hM : Mv l D t ad y b mL rm (.ref (ad k) :: As) G G') (hcode : Cond.code y b mL none ∈ gtbl) (hlink : Cond.methodLink own index y ∈ gtbl) (hinst : Cond.instanceMethod y ∈ gtbl) (hsel : Cond.selects q.1 y y ∈ gtbl) (hini : Cond.initialized y.cls ∈ gtbl) (hd : yOk y nP) (hR : rm.frames + 1 ≤ R.frames ∧ 8 + (mL + 11) + rm.locals ≤ R.locals ∧ rm.cells = 0 ∧ rm.slots = 0 ∧ cells ≤ R.cells ∧ slots ≤ R.slots)
    (hn : As.length = nP) (hst : st = As.reverse ++ .ref (ad k) :: rest) (hcat : (rest.map fun v => v.category).sum ≤ 8) (d : decode cc pc = .ok (.invokevirtual index, 3))
    (kk : V p l e R s m args below meth c A D t ad cells slots n Q G' (pc + 3) Lv rest) : V p l e R s m args below meth c A D t ad cells slots n Q G pc Lv st := by
  intro H locs ls hP hS hl
  have hts := (gc_x C).1
  refine va_callv (va_runV (As := As) (rest := rest) ⟨C.1, C.2.1, C.2.2.1, C.2.2.2.1, hts⟩ hM ⟨callB_of nP hts (gd_c hcode) rfl hR.2.2.1 hR.2.2.2.1 (hts _ hini) (hts _ hlink) hd ⟨hR.1, hR.2.1⟩, hts _ hinst, hts _ hsel⟩ ⟨gP_blind, va_recv (gc_x C).2.1 hP hc (gws_ate hk hce), v_pre C hP hS⟩ rfl hn hl.1 hst (lv_room hcat) d ⟨hR.2.2.2.2.1, hR.2.2.2.2.2⟩) hS (fun q _ h => v_AW C q h) (v_AW C) (fun u t' H1 locs1 ht hvm hw hB hz1 hk1 hS1 => ?_)
  exact kk H1 locs1 ls (by rw [← ht]; exact hB) hS1 hl
theorem v_callS (C : gC p s m args meth c cc own n ret A D t ad) {rest : List Value}
    (hM : Mi l D t ad y b mL ry rm As G r G') (hcode : Cond.code y b mL ry ∈ gtbl) (hlink : Cond.methodLink own index y ∈ gtbl) (hsta : Cond.static y ∈ gtbl) (hini : Cond.initialized y.cls ∈ gtbl) (hd : yOk y nP) (hR : rm.frames + 1 ≤ R.frames ∧ 8 + (mL + 11) + rm.locals ≤ R.locals ∧ rm.cells = 0 ∧ rm.slots = 0 ∧ cells ≤ R.cells ∧ slots ≤ R.slots)
    (hn : As.length = nP) (hst : st = As.reverse ++ rest) (hcat : (rest.map fun v => v.category).sum ≤ 8) (d : decode cc pc = .ok (.invokestatic index, 3))
    (kk : V p l e R s m args below meth c A D t ad cells slots n Q G' (pc + 3) Lv (.int r :: rest)) : V p l e R s m args below meth c A D t ad cells slots n Q G pc Lv st := by
  intro H locs ls hP hS hl
  have hts := (gc_x C).1
  refine va_calli (va_runS (As := As) (rest := rest) ⟨C.1, C.2.1, C.2.2.1, C.2.2.2.1, hts⟩ hM ⟨callB_of nP hts (gd_c hcode) rfl hR.2.2.1 hR.2.2.2.1 (hts _ hini) (hts _ hlink) hd ⟨hR.1, hR.2.1⟩, hts _ hsta⟩ ⟨gP_blind, v_pre C hP hS⟩ rfl hn hl.1 hst (lv_room hcat) d ⟨hR.2.2.2.2.1, hR.2.2.2.2.2⟩) hS (fun q _ h => v_AW C q h) (v_AW C) (fun r' u t' H1 locs1 ht hvm hw hB hz1 hk1 hS1 => ?_)
  subst hw
  exact kk H1 locs1 ls (by rw [← ht]; exact hB) hS1 hl
theorem v_callSv (C : gC p s m args meth c cc own n ret A D t ad) {rest : List Value}
    (hM : Mv l D t ad y b mL rm As G G') (hcode : Cond.code y b mL none ∈ gtbl) (hlink : Cond.methodLink own index y ∈ gtbl) (hsta : Cond.static y ∈ gtbl) (hini : Cond.initialized y.cls ∈ gtbl) (hd : yOk y nP) (hR : rm.frames + 1 ≤ R.frames ∧ 8 + (mL + 11) + rm.locals ≤ R.locals ∧ rm.cells = 0 ∧ rm.slots = 0 ∧ cells ≤ R.cells ∧ slots ≤ R.slots)
    (hn : As.length = nP) (hst : st = As.reverse ++ rest) (hcat : (rest.map fun v => v.category).sum ≤ 8) (d : decode cc pc = .ok (.invokestatic index, 3))
    (kk : V p l e R s m args below meth c A D t ad cells slots n Q G' (pc + 3) Lv rest) : V p l e R s m args below meth c A D t ad cells slots n Q G pc Lv st := by
  intro H locs ls hP hS hl
  have hts := (gc_x C).1
  refine va_callv (va_runS (As := As) (rest := rest) ⟨C.1, C.2.1, C.2.2.1, C.2.2.2.1, hts⟩ hM ⟨callB_of nP hts (gd_c hcode) rfl hR.2.2.1 hR.2.2.2.1 (hts _ hini) (hts _ hlink) hd ⟨hR.1, hR.2.1⟩, hts _ hsta⟩ ⟨gP_blind, v_pre C hP hS⟩ rfl hn hl.1 hst (lv_room hcat) d ⟨hR.2.2.2.2.1, hR.2.2.2.2.2⟩) hS (fun q _ h => v_AW C q h) (v_AW C) (fun u t' H1 locs1 ht hvm hw hB hz1 hk1 hS1 => ?_)
  exact kk H1 locs1 ls (by rw [← ht]; exact hB) hS1 hl
theorem v_callSl (C : gC p s m args meth c cc own n ret A D t ad) {rest : List Value} {r : Int64}
    (hM : Ml l D t ad y b mL rm As G r) (hcode : Cond.code y b mL (some .long) ∈ gtbl) (hlink : Cond.methodLink own index y ∈ gtbl) (hsta : Cond.static y ∈ gtbl) (hini : Cond.initialized y.cls ∈ gtbl) (hd : yOk y nP) (hR : rm.frames + 1 ≤ R.frames ∧ 8 + (mL + 11) + rm.locals ≤ R.locals ∧ rm.cells = 0 ∧ rm.slots = 0 ∧ cells ≤ R.cells ∧ slots ≤ R.slots)
    (hn : As.length = nP) (hst : st = As.reverse ++ rest) (hcat : (rest.map fun v => v.category).sum ≤ 8) (d : decode cc pc = .ok (.invokestatic index, 3))
    (kk : V p l e R s m args below meth c A D t ad cells slots n Q G (pc + 3) Lv (.long r :: rest)) : V p l e R s m args below meth c A D t ad cells slots n Q G pc Lv st := by
  intro H locs ls hP hS hl
  have hts := (gc_x C).1
  refine va_calll (va_runS (As := As) (rest := rest) ⟨C.1, C.2.1, C.2.2.1, C.2.2.2.1, hts⟩ hM ⟨callB_of nP hts (gd_c hcode) rfl hR.2.2.1 hR.2.2.2.1 (hts _ hini) (hts _ hlink) hd ⟨hR.1, hR.2.1⟩, hts _ hsta⟩ ⟨gP_blind, v_pre C hP hS⟩ rfl hn hl.1 hst (lv_room hcat) d ⟨hR.2.2.2.2.1, hR.2.2.2.2.2⟩) hS (fun q _ h => v_AW C q h) (v_AW C) (fun r' u t' H1 locs1 ht hvm hw hB hz1 hk1 hS1 => ?_)
  subst hw
  exact kk H1 locs1 ls (by rw [← ht]; exact hB) hS1 hl
theorem v_callN (C : gC p s m args meth c cc own n ret A D t ad) {host : String} {rest : List Value}
    (hM : Mi l D t ad y b mL ry rm As G r G') (hcode : Cond.code y b mL ry ∈ gtbl) (hlink : va_Nw (.methodLinkNest own index y host) s) (hsta : Cond.static y ∈ gtbl) (hini : Cond.initialized y.cls ∈ gtbl) (hd : yOk y nP) (hR : rm.frames + 1 ≤ R.frames ∧ 8 + (mL + 11) + rm.locals ≤ R.locals ∧ rm.cells = 0 ∧ rm.slots = 0 ∧ cells ≤ R.cells ∧ slots ≤ R.slots)
    (hn : As.length = nP) (hst : st = As.reverse ++ rest) (hcat : (rest.map fun v => v.category).sum ≤ 8) (d : decode cc pc = .ok (.invokestatic index, 3))
    (kk : V p l e R s m args below meth c A D t ad cells slots n Q G' (pc + 3) Lv (.int r :: rest)) : V p l e R s m args below meth c A D t ad cells slots n Q G pc Lv st := by
  intro H locs ls hP hS hl
  have hts := (gc_x C).1
  refine va_calli (va_runSN (As := As) (rest := rest) ⟨C.1, C.2.1, C.2.2.1, C.2.2.2.1, hts⟩ hM ⟨va_cnB nP hts (gd_c hcode) rfl hR.2.2.1 hR.2.2.2.1 hlink (hts _ hini) hd ⟨hR.1, hR.2.1⟩, hts _ hsta, trivial⟩ ⟨gP_blind, v_pre C hP hS⟩ rfl hn hl.1 hst (lv_room hcat) d ⟨hR.2.2.2.2.1, hR.2.2.2.2.2⟩) hS (fun q _ h => v_AW C q h) (v_AW C) (fun r' u t' H1 locs1 ht hvm hw hB hz1 hk1 hS1 => ?_)
  subst hw
  exact kk H1 locs1 ls (by rw [← ht]; exact hB) hS1 hl
theorem v_min (C : gC p s m args meth c cc own n ret A D t ad) {x z : Int32} (hlink : Cond.methodLink own index Lib.Math.min.name ∈ gtbl) (hsta : Cond.static Lib.Math.min.name ∈ gtbl) (hini : Cond.initialized "java/lang/Math" ∈ gtbl) (hcode : Cond.code Lib.Math.min.name Lib.Math.min.code 2 (some .int) ∈ gtbl) (hR : 1 ≤ R.frames ∧ 21 ≤ R.locals ∧ cells ≤ R.cells ∧ slots ≤ R.slots) (hcat : (st.map fun v => v.category).sum ≤ 8) (d : decode cc pc = .ok (.invokestatic index, 3))
    (kk : V p l e R s m args below meth c A D t ad cells slots n Q G (pc + 3) Lv (.int (if z < x then z else x) :: st)) : V p l e R s m args below meth c A D t ad cells slots n Q G pc Lv (.int z :: .int x :: st) :=
  fun H locs ls hP hS hl => va_mmin C.1 C.2.1 (C.2.2.1.trans hl.1.symm) C.2.2.2.1 ((gc_x C).1 _ hlink) ((gc_x C).1 _ hsta) ((gc_x C).1 _ hini) ((gc_x C).1 _ hcode) hR.1 (by have := hR.2.1; omega) hR.2.2.1 hR.2.2.2 d (kk H locs ls hP hS hl)
theorem v_max (C : gC p s m args meth c cc own n ret A D t ad) {x z : Int32} (hlink : Cond.methodLink own index Lib.Math.max.name ∈ gtbl) (hsta : Cond.static Lib.Math.max.name ∈ gtbl) (hini : Cond.initialized "java/lang/Math" ∈ gtbl) (hcode : Cond.code Lib.Math.max.name Lib.Math.max.code 2 (some .int) ∈ gtbl) (hR : 1 ≤ R.frames ∧ 21 ≤ R.locals ∧ cells ≤ R.cells ∧ slots ≤ R.slots) (hcat : (st.map fun v => v.category).sum ≤ 8) (d : decode cc pc = .ok (.invokestatic index, 3))
    (kk : V p l e R s m args below meth c A D t ad cells slots n Q G (pc + 3) Lv (.int (if x < z then z else x) :: st)) : V p l e R s m args below meth c A D t ad cells slots n Q G pc Lv (.int z :: .int x :: st) :=
  fun H locs ls hP hS hl => va_mmax C.1 C.2.1 (C.2.2.1.trans hl.1.symm) C.2.2.2.1 ((gc_x C).1 _ hlink) ((gc_x C).1 _ hsta) ((gc_x C).1 _ hini) ((gc_x C).1 _ hcode) hR.1 (by have := hR.2.1; omega) hR.2.2.1 hR.2.2.2 d (kk H locs ls hP hS hl)
theorem v_abs (C : gC p s m args meth c cc own n ret A D t ad) {x : Int32} (hlink : Cond.methodLink own index Lib.Math.abs.name ∈ gtbl) (hsta : Cond.static Lib.Math.abs.name ∈ gtbl) (hini : Cond.initialized "java/lang/Math" ∈ gtbl) (hcode : Cond.code Lib.Math.abs.name Lib.Math.abs.code 1 (some .int) ∈ gtbl) (hR : 1 ≤ R.frames ∧ 21 ≤ R.locals ∧ cells ≤ R.cells ∧ slots ≤ R.slots) (hcat : (st.map fun v => v.category).sum ≤ 8) (d : decode cc pc = .ok (.invokestatic index, 3))
    (kk : V p l e R s m args below meth c A D t ad cells slots n Q G (pc + 3) Lv (.int (if 0 ≤ x then x else 0 - x) :: st)) : V p l e R s m args below meth c A D t ad cells slots n Q G pc Lv (.int x :: st) :=
  fun H locs ls hP hS hl => va_mabs C.1 C.2.1 (C.2.2.1.trans hl.1.symm) C.2.2.2.1 ((gc_x C).1 _ hlink) ((gc_x C).1 _ hsta) ((gc_x C).1 _ hini) ((gc_x C).1 _ hcode) hR.1 (by have := hR.2.1; omega) hR.2.2.1 hR.2.2.2 d (kk H locs ls hP hS hl)
theorem v_ldc (C : gC p s m args meth c cc own n ret A D t ad) {v : Int32} (hlink : Cond.constant own index v ∈ gtbl) (d : decode cc pc = .ok (.ldc index, 2)) (kk : V p l e R s m args below meth c A D t ad cells slots n Q G (pc + 2) Lv (.int v :: st)) : V p l e R s m args below meth c A D t ad cells slots n Q G pc Lv st :=
  fun H locs ls hP hS hl => lv_ldc C.1 C.2.1 C.2.2.2.1 ((gc_x C).1 _ hlink) d (kk H locs ls hP hS hl)
theorem v_ldcw (C : gC p s m args meth c cc own n ret A D t ad) {v : Int32} (hlink : Cond.constant own index v ∈ gtbl) (d : decode cc pc = .ok (.ldc_w index, 3)) (kk : V p l e R s m args below meth c A D t ad cells slots n Q G (pc + 3) Lv (.int v :: st)) : V p l e R s m args below meth c A D t ad cells slots n Q G pc Lv st :=
  fun H locs ls hP hS hl => lv_ldcw C.1 C.2.1 C.2.2.2.1 ((gc_x C).1 _ hlink) d (kk H locs ls hP hS hl)
theorem v_iushr (C : gC p s m args meth c cc own n ret A D t ad) {x z : Int32} (d : decode cc pc = .ok (.iushr, 1)) (kk : V p l e R s m args below meth c A D t ad cells slots n Q G (pc + 1) Lv (.int (x.toUInt32 >>> (z.toUInt32 &&& Int32.toUInt32 31)).toInt32 :: st)) : V p l e R s m args below meth c A D t ad cells slots n Q G pc Lv (.int z :: .int x :: st) :=
  fun H locs ls hP hS hl => lv_iushr C.1 C.2.1 d rfl (kk H locs ls hP hS hl)
/-- the static tables of BlinkMesh -/
theorem v_gLst (C : gC p s m args meth c cc own n ret A D t ad) (hlink : Cond.fieldLink own index "BlinkMesh" "LEAST_SETTING" "[I" ∈ gtbl) (d : decode cc pc = .ok (.getstatic index, 3)) (kk : V p l e R s m args below meth c A D t ad cells slots n Q G (pc + 3) Lv (.ref (ad 80) :: st)) : V p l e R s m args below meth c A D t ad cells slots n Q G pc Lv st :=
  fun H locs ls hP hS hl => va_gets C.1 C.2.1 (gc_x C).2.2.2.1.1 hS C.2.2.2.1 ((gc_x C).1 _ hlink) (fun _ h => h) d (kk H locs ls hP hS hl)
theorem v_gGrt (C : gC p s m args meth c cc own n ret A D t ad) (hlink : Cond.fieldLink own index "BlinkMesh" "GREATEST_SETTING" "[I" ∈ gtbl) (d : decode cc pc = .ok (.getstatic index, 3)) (kk : V p l e R s m args below meth c A D t ad cells slots n Q G (pc + 3) Lv (.ref (ad 81) :: st)) : V p l e R s m args below meth c A D t ad cells slots n Q G pc Lv st :=
  fun H locs ls hP hS hl => va_gets C.1 C.2.1 (gc_x C).2.2.2.1.2.2.1 hS C.2.2.2.1 ((gc_x C).1 _ hlink) (fun _ h => h) d (kk H locs ls hP hS hl)
theorem v_ldLst (C : gC p s m args meth c cc own n ret A D t ad) {i : Int32} (hin : vp_in i 3) (d : decode cc pc = .ok (.iaload, 1)) (kk : V p l e R s m args below meth c A D t ad cells slots n Q G (pc + 1) Lv (.int (lstT i.toNatClampNeg) :: st)) : V p l e R s m args below meth c A D t ad cells slots n Q G pc Lv (.int i :: .ref (ad 80) :: st) :=
  fun H locs ls hP hS hl => va_ti C.1 C.2.1 (gc_x C).2.2.2.1.2.1 hS hin rfl d (kk H locs ls hP hS hl)
theorem v_ldGrt (C : gC p s m args meth c cc own n ret A D t ad) {i : Int32} (hin : vp_in i 3) (d : decode cc pc = .ok (.iaload, 1)) (kk : V p l e R s m args below meth c A D t ad cells slots n Q G (pc + 1) Lv (.int (grtT i.toNatClampNeg) :: st)) : V p l e R s m args below meth c A D t ad cells slots n Q G pc Lv (.int i :: .ref (ad 81) :: st) :=
  fun H locs ls hP hS hl => va_ti C.1 C.2.1 (gc_x C).2.2.2.1.2.2.2 hS hin rfl d (kk H locs ls hP hS hl)
/-- System.arraycopy of ints from 0, n at a time: between arrays of the world -/
def gcp (G : gG) (k0 k1 N : Nat) : gG := fun a b => if a = k1 then (if b < N then G k0 b else G a b) else G a b
theorem gcp_ne {G : gG} {k0 k1 N a : Nat} (h : a ≠ k1) : gcp G k0 k1 N a = G a := by funext b; simp [gcp, h]
theorem v_copy (C : gC p s m args meth c cc own n ret A D t ad) {k0 k1 N M : Nat} {z : Int32} (hk0 : k0 < 71) (hk1 : k1 < 71) (hc0 : ∀ g, ce t ad k0 g = .inl (t.1, N, .inl g)) (hc1 : ∀ g, ce t ad k1 g = .inl (t.1, N, .inl g)) (hz : z.toNatClampNeg = M ∧ ¬ z < 0) (hM : M ≤ N) (hlink : Cond.methodLink own index arraycopyName ∈ gtbl) (hnat : Cond.native arraycopyName ∈ gtbl) (hsta : Cond.static arraycopyName ∈ gtbl) (hini : Cond.initialized "java/lang/System" ∈ gtbl) (hR : 1 ≤ R.frames ∧ 8 + (nativeFrameWords "java/lang/System" "arraycopy" 5 + 11) ≤ R.locals) (hcat : (st.map fun v => v.category).sum ≤ 8) (d : decode cc pc = .ok (.invokestatic index, 3))
    (kk : V p l e R s m args below meth c A D t ad cells slots n Q (gcp G k0 k1 M) (pc + 3) Lv st) : V p l e R s m args below meth c A D t ad cells slots n Q G pc Lv (.int z :: .int 0 :: .ref (ad k1) :: .int 0 :: .ref (ad k0) :: st) := by
  intro H locs ls hP hS hl
  refine va_copyi C.1 C.2.1 (C.2.2.1.trans hl.1.symm) C.2.2.2.1 ((gc_x C).1 _ hlink) ((gc_x C).1 _ hnat) ((gc_x C).1 _ hsta) ((gc_x C).1 _ hini) (gc_x C).2.1 hP (gc_D C G) hS k0 k1 0 0 (gws_ate hk0 (hc0 _)) (gws_ate hk1 (hc1 _)) rfl rfl rfl (by decide) (by decide) hz.2 (by rw [hz.1]; simpa using hM) (by rw [hz.1]; simpa using hM) (fun _ _ => rfl) hR.1 (by have := hR.2; omega) d (fun H1 locs1 hP1 _ hS1 => ?_)
  rw [gws_set (G := G) (G' := gcp G k0 k1 M) hk1 ?_ (fun j hj => gcp_ne hj)] at hP1
  · exact kk H1 locs1 ls hP1 hS1 hl
  · rw [hc1, hz.1]
    congr 3
    congr 1
    funext j
    simp [gcp, va_cpy]
end V2
