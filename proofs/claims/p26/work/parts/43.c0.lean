-- the constructors: what they stand on
theorem k25 : (Cond.sameMethod "[I" "java/lang/Object" "clone" "()Ljava/lang/Object;") ∈ gtbl := gw 25 (by decide +kernel) rfl
theorem RA_u {U : State} {cA cB : ClassId} {ty : FieldType} (h : va_RA U cA ty) (g : va_RA U cB ty) : cA = cB := by
  cases ty with
  | object C =>
    obtain ⟨_, _, _, _, _, h4⟩ := h
    obtain ⟨_, _, _, _, _, g4⟩ := g
    exact Option.some.inj (h4.symm.trans g4)
  | _ => exact Option.some.inj (Eq.trans (Eq.symm h) g)
def fstT (j : Nat) : Int32 := if j = 0 then 100 else if j = 1 then 10 else 2
/-- the row of the first settings, where nothing is written -/
def FT (t : gT) (f : Nat) (A : Nat → Prop) (H : Heap) : Prop := ∃ cell : Cell, H[f]? = some cell ∧ cell.cls = t.1 ∧ (∀ k, cell.vm ≠ .statics k) ∧ cell.vm ≠ .unknown ∧ cell.slots = (vp_cell t.1 (3, .inl fstT)).slots ∧ ¬ A f
def gF (t : gT) (f : Nat) (A : Nat → Prop) (U : State) (H : Heap) : Prop := va_Z "BlinkMesh" "FIRST_SETTING" "[I" (.ref f) A U H ∧ FT t f A H
theorem gF.to {t : gT} {f : Nat} {A B : Nat → Prop} {u U : State} {H H1 : Heap} (h : gF t f A u H) (hvm : u.vm.Alike U.vm) (hq : ∀ a : Nat, a < H.size → ¬ A a → H1[a]? = H[a]?) (hAB : ∀ q, B q → A q) : gF t f B U H1 := by
  obtain ⟨h1, cell, h2, h3, h4, h5, h6, h7⟩ := h
  exact ⟨((h1.moved hvm).kept hq).narrow hAB, cell, by rw [hq f (Array.getElem?_eq_some_iff.mp h2).1 h7]; exact h2, h3, h4, h5, h6, fun hb => h7 (hAB _ hb)⟩
section CLN
variable {p : Program} {l : Launch} {e : Env} {R : Room} {s : State} {m : MethodId} {args : Array Value} {below : List Frame} {meth : Method} {c : Code} {H : Heap} {locs : List Loc} {cells slots : Nat} {Q : State → Prop} {cc : ByteArray} {pc : Nat} {ls : Array Slot} {rest : List Value} {D : va_G} {A : Nat → Prop} {t : gT} {ws : va_W} {f : Nat}
/-- a row of the class's own, copied -/
theorem v_clone (hx : p.tables.exec = Jvm.exec) (hb : c.code = cc) (hml : c.maxLocals = ls.size) (hown : s.vm.findClass RX1 = some m.cls) (hts : ∀ w ∈ gtbl, w.before args s = true) (hN : gN s) (hF : FT t f A s.heap) (hK : va_K D vwCl (tys t) s) (hP : va_P D vwCl ws H) (hD : va_D A ws) (hS : va_S A s.heap H locs) (hA : ∀ q, s.heap.size ≤ q → A q)
    (hframes : 1 ≤ R.frames) (hlocals : (rest.map fun v => v.category).sum + 14 ≤ R.locals) (hcells : cells + 1 ≤ R.cells) (hslots : slots + 3 ≤ R.slots) (hdg : decode cc pc = .ok (.invokevirtual 36, 3))
    (kk : ∀ (q : Nat) (H1 : Heap), va_P D vwCl (ws ++ [(q, .inl (t.1, 3, .inl fstT))]) H1 → va_D A (ws ++ [(q, .inl (t.1, 3, .inl fstT))]) → va_S A s.heap H1 locs → W p l e R s m args below meth c H1 locs (cells + 1) (slots + 3) Q (F0 m (pc + 3) ls (.ref q :: rest))) : W p l e R s m args below meth c H locs cells slots Q (F0 m pc ls (.ref f :: rest)) := by
  obtain ⟨cell, f1, f2, f3, f4, f5, f6⟩ := hF
  have hnm : s.vm.findClass "[I" = some t.1 := va_nm_int (hK.2 0 _ rfl).2
  obtain ⟨c0, t0, g1, g2, g3⟩ := Cond.castable_spec (va_Nw.use (A := args) rfl hN.2.2.1)
  cases hnm.symm.trans g1
  have hsz : cell.slots.size = 3 := by rw [f5]; exact arrV_size _ _ _
  have hcE : ({ cls := cell.cls, slots := cell.slots } : Cell) = vp_cell t.1 (3, .inl fstT) := by rw [f2, f5]; rfl
  intro T hT X
  have hlt : f < s.heap.size := (Array.getElem?_eq_some_iff.mp f1).1
  have hcT : T.heap[f]? = some cell := by rw [hT, hS.2.1 f hlt f6]; exact f1
  obtain ⟨-, kA, hkA, comp, hkind⟩ := State.isArrayOf_alike X.warmed.alike ((hK.2 0 _ rfl).1 0 (fun _ => .null))
  obtain ⟨-, kS, hkS, compS, hkindS⟩ := (hK.2 0 _ rfl).1 0 (fun _ => .null)
  have hloader : s.vm.clonesLoader cell.cls = false := by rw [f2]; exact Vm.clonesLoader_of_array hkS hkindS
  have hfit : ∀ (i : Nat) (v : Value), cell.slots[i]? = some v → T.fitsSlot cell.cls .none i v = true := by
    intro i v hv
    rw [f2]
    have hk' : T.vm.classes[t.1]? = some kA := hkA
    rw [f5] at hv
    have := va_fit (cA := t.1) (n := 3) (F := fun j => .int (fstT j)) (ty := .int) (fun _ _ => rfl) i v hv
    simpa [State.fitsSlot, State.slotType?, hk', hkind] using this
  obtain ⟨vm', X', st⟩ := X.cloneArray hx hown (hts _ k24) (hts _ k25) (hts _ k26) (hts _ k27) (hts _ k28) (a := f) (cell := cell) hcT f3 f4 (by rw [f2]; exact hnm) g2 (by rw [f2]; exact g3) hfit (g := F0 m pc ls (.ref f :: rest)) rfl (by rw [hml]) rfl (by rw [hb]; exact hdg) hframes (by show 2 * 0 + _ + 14 ≤ _; omega) hcells (by rw [hsz]; exact hslots) (hloader := hloader)
  rw [hcE, hsz] at X'
  have z1 : (H.push (vp_cell t.1 (3, .inl fstT))).size = H.size + 1 := Array.size_push _
  have o1 : ∀ q : Nat, q < H.size → (H.push (vp_cell t.1 (3, .inl fstT)))[q]? = H[q]? := fun q hq => by rw [Array.getElem?_push, if_neg (Nat.ne_of_lt hq)]
  have hk : ∀ (k : Nat) (y : Nat × va_E), ws[k]? = some y → (H.push (vp_cell t.1 (3, .inl fstT)))[y.1]? = H[y.1]? := fun k y hy => o1 y.1 ((hP k y hy).lt)
  have hlast : va_P D vwCl [(H.size, .inl (t.1, 3, .inl fstT))] (H.push (vp_cell t.1 (3, .inl fstT))) := by
    intro k y hy
    have hz : k < 1 := (List.getElem?_eq_some_iff.mp hy).1
    rw [show k = 0 by omega] at hy
    cases hy
    exact Array.getElem?_push_size
  obtain ⟨u, b1, b2⟩ := kk H.size (H.push (vp_cell t.1 (3, .inl fstT))) ((hP.kept hk).app hlast) (hD.push hP rfl (hA _ hS.1)) ⟨Nat.le_trans hS.1 (by omega), fun y h1 h2 => (o1 y (Nat.lt_of_lt_of_le h1 hS.1)).trans (hS.2.1 y h1 h2), hS.2.2⟩ ((T.setVm vm').pushCell (vp_cell t.1 (3, .inl fstT))) (by rw [← hT]; rfl) X'
  refine ⟨u, st u ?_, b2⟩
  rw [hcE, hT]
  exact b1
end CLN
