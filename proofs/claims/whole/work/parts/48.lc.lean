-- the cases of the law
abbrev lwA (s : State) : Nat → Prop := fun q => s.heap.size ≤ q
abbrev lwC (p : Program) (s : State) (m : MethodId) (meth : Method) (c : Code) (D : va_G) (t : gT) (ad : Nat → Nat) (b : Nat) : Prop := gC p s m #[Value.ref b] meth c code R_law 4 ret (lwA s) D t ad
abbrev lwV (p : Program) (l : Launch) (e : Env) (s : State) (m : MethodId) (below : List Frame) (meth : Method) (c : Code) (D : va_G) (t : gT) (ad : Nat → Nat) (b cells slots : Nat) (G : gG) (pc i : Nat) (st : List Value) : Prop := V p l e room_1 s m #[Value.ref b] below meth c (lwA s) D t ad cells slots 4 (lw_Z below #[Value.ref b] s) G pc [some (.ref b), some (.ref (ad 70)), some (.ref (ad 71)), some (.int (nI i))] st
theorem v_sldk {p : Program} {l : Launch} {e : Env} {s : State} {m : MethodId} {below : List Frame} {meth : Method} {c : Code} {D : va_G} {t : gT} {ad : Nat → Nat} {b L : Nat} {xs : Nat → Int32} {cells slots : Nat} (C : lwC p s m meth c D t ad b) (hX : va_X b L xs s s.heap) (hbl : b < s.heap.size) {k pc i : Nat} (hk : k < L) (hL : L ≤ 2048) {x : Int32} (hx : x = nI k) {G : gG} {st : List Value} (d : decode code pc = .ok (.iaload, 1)) (kk : lwV p l e s m below meth c D t ad b cells slots G (pc + 1) i (.int (xs k) :: st)) : lwV p l e s m below meth c D t ad b cells slots G pc i (.int x :: .ref b :: st) := by
  intro H locs ls hP hS hl
  have hin : vp_in x L := by subst hx; exact nI_in hk (by omega)
  have hc : x.toNatClampNeg = k := by subst hx; exact nI_clamp (by omega)
  refine va_sld C.1 C.2.1 hX hbl (Nat.not_le.mpr hbl) hS hin d ?_
  rw [hc]
  exact kk H locs ls hP hS hl
theorem v_slen {p : Program} {l : Launch} {e : Env} {s : State} {m : MethodId} {below : List Frame} {meth : Method} {c : Code} {D : va_G} {t : gT} {ad : Nat → Nat} {b L : Nat} {xs : Nat → Int32} {cells slots : Nat} (C : lwC p s m meth c D t ad b) (hX : va_X b L xs s s.heap) (hbl : b < s.heap.size) {pc i : Nat} {G : gG} {st : List Value} (d : decode code pc = .ok (.arraylength, 1)) (kk : lwV p l e s m below meth c D t ad b cells slots G (pc + 1) i (.int (nI L) :: st)) : lwV p l e s m below meth c D t ad b cells slots G pc i (.ref b :: st) :=
  fun H locs ls hP hS hl => va_slen C.1 C.2.1 hX hbl (Nat.not_le.mpr hbl) hS d (kk H locs ls hP hS hl)
set_option maxHeartbeats 1000000 in
theorem lc_come {p : Program} {l : Launch} {e : Env} {s : State} {m : MethodId} {below : List Frame} {meth : Method} {c : Code} {D : va_G} {t : gT} {ad : Nat → Nat} {b L : Nat} {xs : Nat → Int32} {cells slots : Nat} (C : lwC p s m meth c D t ad b) (hI : gI ad) (hX : va_X b L xs s s.heap) (hbl : b < s.heap.size) (hL : L ≤ 2048) (hcs : cells ≤ 600000 ∧ slots ≤ 7302250) {i : Nat} (hi : i + 4 ≤ L) {G : gG} (hG : SM G) (kk : ∀ G', SM G' → lwV p l e s m below meth c D t ad b cells slots G' 713 i []) : lwV p l e s m below meth c D t ad b cells slots G 140 i [] := by
  obtain ⟨r, G1, G2, h1, h2, h3⟩ := s_come (xs (i + 1)) (xs (i + 2)) G hG
  refine v_aloadn C dL_140 rfl ?_
  refine v_aloadn C dL_141 rfl ?_
  refine v_iloadn C dL_142 rfl ?_
  refine v_iconst C dL_143 (v := 1) (by decide) ?_
  refine v_iadd C dL_144 ?_
  refine v_sldk C hX hbl (k := i + 1) (by omega) hL (nI_add i 1) dL_145 ?_
  refine v_aloadn C dL_146 rfl ?_
  refine v_iloadn C dL_147 rfl ?_
  refine v_iconst C dL_148 (v := 2) (by decide) ?_
  refine v_iadd C dL_149 ?_
  refine v_sldk C hX hbl (k := i + 2) (by omega) hL (nI_add i 2) dL_150 ?_
  refine v_callI (nP := 2) (k := 70) C (by decide) rfl rfl (c_X3_come l D t ad hI h1) k146 k143 k144 k145 k1 yo_X3_come ⟨Nat.le_of_ble_eq_true rfl, Nat.le_of_ble_eq_true rfl, rfl, rfl, hcs.1, hcs.2⟩ rfl rfl (Nat.le_of_ble_eq_true rfl) dL_151 ?_
  refine v_aloadn C dL_154 rfl ?_
  refine v_aloadn C dL_155 rfl ?_
  refine v_iloadn C dL_156 rfl ?_
  refine v_iconst C dL_157 (v := 1) (by decide) ?_
  refine v_iadd C dL_158 ?_
  refine v_sldk C hX hbl (k := i + 1) (by omega) hL (nI_add i 1) dL_159 ?_
  refine v_aloadn C dL_160 rfl ?_
  refine v_iloadn C dL_161 rfl ?_
  refine v_iconst C dL_162 (v := 2) (by decide) ?_
  refine v_iadd C dL_163 ?_
  refine v_sldk C hX hbl (k := i + 2) (by omega) hL (nI_add i 2) dL_164 ?_
  refine v_callI (nP := 2) (k := 71) C (by decide) rfl rfl (c_X4_come l D t ad hI h2) k573 k570 k571 k572 k5 yo_X4_come ⟨Nat.le_of_ble_eq_true rfl, Nat.le_of_ble_eq_true rfl, rfl, rfl, hcs.1, hcs.2⟩ rfl rfl (Nat.le_of_ble_eq_true rfl) dL_165 ?_
  exact v_ic_eq C 713 dL_168 (by decide) (fun _ => kk G2 h3) (fun hc => absurd rfl hc)
set_option maxHeartbeats 1000000 in
theorem lc_goAway {p : Program} {l : Launch} {e : Env} {s : State} {m : MethodId} {below : List Frame} {meth : Method} {c : Code} {D : va_G} {t : gT} {ad : Nat → Nat} {b L : Nat} {xs : Nat → Int32} {cells slots : Nat} (C : lwC p s m meth c D t ad b) (hI : gI ad) (hX : va_X b L xs s s.heap) (hbl : b < s.heap.size) (hL : L ≤ 2048) (hcs : cells ≤ 600000 ∧ slots ≤ 7302250) {i : Nat} (hi : i + 4 ≤ L) {G : gG} (hG : SM G) (kk : ∀ G', SM G' → lwV p l e s m below meth c D t ad b cells slots G' 713 i []) : lwV p l e s m below meth c D t ad b cells slots G 173 i [] := by
  obtain ⟨r, G1, G2, h1, h2, h3⟩ := s_goAway (xs (i + 1)) G hG
  refine v_aloadn C dL_173 rfl ?_
  refine v_aloadn C dL_174 rfl ?_
  refine v_iloadn C dL_175 rfl ?_
  refine v_iconst C dL_176 (v := 1) (by decide) ?_
  refine v_iadd C dL_177 ?_
  refine v_sldk C hX hbl (k := i + 1) (by omega) hL (nI_add i 1) dL_178 ?_
  refine v_callI (nP := 1) (k := 70) C (by decide) rfl rfl (c_X3_goAway l D t ad hI h1) k183 k180 k181 k182 k1 yo_X3_goAway ⟨Nat.le_of_ble_eq_true rfl, Nat.le_of_ble_eq_true rfl, rfl, rfl, hcs.1, hcs.2⟩ rfl rfl (Nat.le_of_ble_eq_true rfl) dL_179 ?_
  refine v_aloadn C dL_182 rfl ?_
  refine v_aloadn C dL_183 rfl ?_
  refine v_iloadn C dL_184 rfl ?_
  refine v_iconst C dL_185 (v := 1) (by decide) ?_
  refine v_iadd C dL_186 ?_
  refine v_sldk C hX hbl (k := i + 1) (by omega) hL (nI_add i 1) dL_187 ?_
  refine v_callI (nP := 1) (k := 71) C (by decide) rfl rfl (c_X4_goAway l D t ad hI h2) k603 k600 k601 k602 k5 yo_X4_goAway ⟨Nat.le_of_ble_eq_true rfl, Nat.le_of_ble_eq_true rfl, rfl, rfl, hcs.1, hcs.2⟩ rfl rfl (Nat.le_of_ble_eq_true rfl) dL_188 ?_
  exact v_ic_eq C 713 dL_191 (by decide) (fun _ => kk G2 h3) (fun hc => absurd rfl hc)
set_option maxHeartbeats 1000000 in
theorem lc_turn {p : Program} {l : Launch} {e : Env} {s : State} {m : MethodId} {below : List Frame} {meth : Method} {c : Code} {D : va_G} {t : gT} {ad : Nat → Nat} {b L : Nat} {xs : Nat → Int32} {cells slots : Nat} (C : lwC p s m meth c D t ad b) (hI : gI ad) (hX : va_X b L xs s s.heap) (hbl : b < s.heap.size) (hL : L ≤ 2048) (hcs : cells ≤ 600000 ∧ slots ≤ 7302250) {i : Nat} (hi : i + 4 ≤ L) {G : gG} (hG : SM G) (kk : ∀ G', SM G' → lwV p l e s m below meth c D t ad b cells slots G' 713 i []) : lwV p l e s m below meth c D t ad b cells slots G 196 i [] := by
  by_cases hz : xs (i + 2) = 0
  · obtain ⟨r, G1, G2, h1, h2, h3⟩ := s_turn (xs (i + 1)) false G hG
    have h1 : sh_X3_turn (xs (i + 1)) (0 : Int32) G = some (r, G1) := h1
    have h2 : sh_X4_turn (xs (i + 1)) (0 : Int32) G1 = some (r, G2) := h2
    refine v_aloadn C dL_196 rfl ?_
    refine v_aloadn C dL_197 rfl ?_
    refine v_iloadn C dL_198 rfl ?_
    refine v_iconst C dL_199 (v := 1) (by decide) ?_
    refine v_iadd C dL_200 ?_
    refine v_sldk C hX hbl (k := i + 1) (by omega) hL (nI_add i 1) dL_201 ?_
    refine v_aloadn C dL_202 rfl ?_
    refine v_iloadn C dL_203 rfl ?_
    refine v_iconst C dL_204 (v := 2) (by decide) ?_
    refine v_iadd C dL_205 ?_
    refine v_sldk C hX hbl (k := i + 2) (by omega) hL (nI_add i 2) dL_206 ?_
    refine v_if_eq C 214 dL_207 (by decide) (fun _ => ?_) (fun hc => absurd hz hc)
    refine v_iconst C dL_214 (v := 0) (by decide) ?_
    refine v_callI (nP := 2) (k := 70) C (by decide) rfl rfl (c_X3_turn l D t ad hI h1) k201 k198 k199 k200 k1 yo_X3_turn ⟨Nat.le_of_ble_eq_true rfl, Nat.le_of_ble_eq_true rfl, rfl, rfl, hcs.1, hcs.2⟩ rfl rfl (Nat.le_of_ble_eq_true rfl) dL_215 ?_
    refine v_aloadn C dL_218 rfl ?_
    refine v_aloadn C dL_219 rfl ?_
    refine v_iloadn C dL_220 rfl ?_
    refine v_iconst C dL_221 (v := 1) (by decide) ?_
    refine v_iadd C dL_222 ?_
    refine v_sldk C hX hbl (k := i + 1) (by omega) hL (nI_add i 1) dL_223 ?_
    refine v_aloadn C dL_224 rfl ?_
    refine v_iloadn C dL_225 rfl ?_
    refine v_iconst C dL_226 (v := 2) (by decide) ?_
    refine v_iadd C dL_227 ?_
    refine v_sldk C hX hbl (k := i + 2) (by omega) hL (nI_add i 2) dL_228 ?_
    refine v_if_eq C 236 dL_229 (by decide) (fun _ => ?_) (fun hc => absurd hz hc)
    refine v_iconst C dL_236 (v := 0) (by decide) ?_
    refine v_callI (nP := 2) (k := 71) C (by decide) rfl rfl (c_X4_turn l D t ad hI h2) k614 k611 k612 k613 k5 yo_X4_turn ⟨Nat.le_of_ble_eq_true rfl, Nat.le_of_ble_eq_true rfl, rfl, rfl, hcs.1, hcs.2⟩ rfl rfl (Nat.le_of_ble_eq_true rfl) dL_237 ?_
    exact v_ic_eq C 713 dL_240 (by decide) (fun _ => kk G2 h3) (fun hc => absurd rfl hc)
  · obtain ⟨r, G1, G2, h1, h2, h3⟩ := s_turn (xs (i + 1)) true G hG
    have h1 : sh_X3_turn (xs (i + 1)) (1 : Int32) G = some (r, G1) := h1
    have h2 : sh_X4_turn (xs (i + 1)) (1 : Int32) G1 = some (r, G2) := h2
    refine v_aloadn C dL_196 rfl ?_
    refine v_aloadn C dL_197 rfl ?_
    refine v_iloadn C dL_198 rfl ?_
    refine v_iconst C dL_199 (v := 1) (by decide) ?_
    refine v_iadd C dL_200 ?_
    refine v_sldk C hX hbl (k := i + 1) (by omega) hL (nI_add i 1) dL_201 ?_
    refine v_aloadn C dL_202 rfl ?_
    refine v_iloadn C dL_203 rfl ?_
    refine v_iconst C dL_204 (v := 2) (by decide) ?_
    refine v_iadd C dL_205 ?_
    refine v_sldk C hX hbl (k := i + 2) (by omega) hL (nI_add i 2) dL_206 ?_
    refine v_if_eq C 214 dL_207 (by decide) (fun hc => absurd hc hz) (fun _ => ?_)
    refine v_iconst C dL_210 (v := 1) (by decide) ?_
    refine v_goto C 215 dL_211 (by decide) ?_
    refine v_callI (nP := 2) (k := 70) C (by decide) rfl rfl (c_X3_turn l D t ad hI h1) k201 k198 k199 k200 k1 yo_X3_turn ⟨Nat.le_of_ble_eq_true rfl, Nat.le_of_ble_eq_true rfl, rfl, rfl, hcs.1, hcs.2⟩ rfl rfl (Nat.le_of_ble_eq_true rfl) dL_215 ?_
    refine v_aloadn C dL_218 rfl ?_
    refine v_aloadn C dL_219 rfl ?_
    refine v_iloadn C dL_220 rfl ?_
    refine v_iconst C dL_221 (v := 1) (by decide) ?_
    refine v_iadd C dL_222 ?_
    refine v_sldk C hX hbl (k := i + 1) (by omega) hL (nI_add i 1) dL_223 ?_
    refine v_aloadn C dL_224 rfl ?_
    refine v_iloadn C dL_225 rfl ?_
    refine v_iconst C dL_226 (v := 2) (by decide) ?_
    refine v_iadd C dL_227 ?_
    refine v_sldk C hX hbl (k := i + 2) (by omega) hL (nI_add i 2) dL_228 ?_
    refine v_if_eq C 236 dL_229 (by decide) (fun hc => absurd hc hz) (fun _ => ?_)
    refine v_iconst C dL_232 (v := 1) (by decide) ?_
    refine v_goto C 237 dL_233 (by decide) ?_
    refine v_callI (nP := 2) (k := 71) C (by decide) rfl rfl (c_X4_turn l D t ad hI h2) k614 k611 k612 k613 k5 yo_X4_turn ⟨Nat.le_of_ble_eq_true rfl, Nat.le_of_ble_eq_true rfl, rfl, rfl, hcs.1, hcs.2⟩ rfl rfl (Nat.le_of_ble_eq_true rfl) dL_237 ?_
    exact v_ic_eq C 713 dL_240 (by decide) (fun _ => kk G2 h3) (fun hc => absurd rfl hc)
set_option maxHeartbeats 1000000 in
theorem lc_link {p : Program} {l : Launch} {e : Env} {s : State} {m : MethodId} {below : List Frame} {meth : Method} {c : Code} {D : va_G} {t : gT} {ad : Nat → Nat} {b L : Nat} {xs : Nat → Int32} {cells slots : Nat} (C : lwC p s m meth c D t ad b) (hI : gI ad) (hX : va_X b L xs s s.heap) (hbl : b < s.heap.size) (hL : L ≤ 2048) (hcs : cells ≤ 600000 ∧ slots ≤ 7302250) {i : Nat} (hi : i + 4 ≤ L) {G : gG} (hG : SM G) (kk : ∀ G', SM G' → lwV p l e s m below meth c D t ad b cells slots G' 713 i []) : lwV p l e s m below meth c D t ad b cells slots G 245 i [] := by
  by_cases hz : xs (i + 3) = 0
  · obtain ⟨r, G1, G2, h1, h2, h3⟩ := s_link (xs (i + 1)) (xs (i + 2)) false G hG
    have h1 : sh_X3_link (xs (i + 1)) (xs (i + 2)) (0 : Int32) G = some (r, G1) := h1
    have h2 : sh_X4_link (xs (i + 1)) (xs (i + 2)) (0 : Int32) G1 = some (r, G2) := h2
    refine v_aloadn C dL_245 rfl ?_
    refine v_aloadn C dL_246 rfl ?_
    refine v_iloadn C dL_247 rfl ?_
    refine v_iconst C dL_248 (v := 1) (by decide) ?_
    refine v_iadd C dL_249 ?_
    refine v_sldk C hX hbl (k := i + 1) (by omega) hL (nI_add i 1) dL_250 ?_
    refine v_aloadn C dL_251 rfl ?_
    refine v_iloadn C dL_252 rfl ?_
    refine v_iconst C dL_253 (v := 2) (by decide) ?_
    refine v_iadd C dL_254 ?_
    refine v_sldk C hX hbl (k := i + 2) (by omega) hL (nI_add i 2) dL_255 ?_
    refine v_aloadn C dL_256 rfl ?_
    refine v_iloadn C dL_257 rfl ?_
    refine v_iconst C dL_258 (v := 3) (by decide) ?_
    refine v_iadd C dL_259 ?_
    refine v_sldk C hX hbl (k := i + 3) (by omega) hL (nI_add i 3) dL_260 ?_
    refine v_if_eq C 268 dL_261 (by decide) (fun _ => ?_) (fun hc => absurd hz hc)
    refine v_iconst C dL_268 (v := 0) (by decide) ?_
    refine v_callI (nP := 3) (k := 70) C (by decide) rfl rfl (c_X3_link l D t ad hI h1) k217 k214 k215 k216 k1 yo_X3_link ⟨Nat.le_of_ble_eq_true rfl, Nat.le_of_ble_eq_true rfl, rfl, rfl, hcs.1, hcs.2⟩ rfl rfl (Nat.le_of_ble_eq_true rfl) dL_269 ?_
    refine v_aloadn C dL_272 rfl ?_
    refine v_aloadn C dL_273 rfl ?_
    refine v_iloadn C dL_274 rfl ?_
    refine v_iconst C dL_275 (v := 1) (by decide) ?_
    refine v_iadd C dL_276 ?_
    refine v_sldk C hX hbl (k := i + 1) (by omega) hL (nI_add i 1) dL_277 ?_
    refine v_aloadn C dL_278 rfl ?_
    refine v_iloadn C dL_279 rfl ?_
    refine v_iconst C dL_280 (v := 2) (by decide) ?_
    refine v_iadd C dL_281 ?_
    refine v_sldk C hX hbl (k := i + 2) (by omega) hL (nI_add i 2) dL_282 ?_
    refine v_aloadn C dL_283 rfl ?_
    refine v_iloadn C dL_284 rfl ?_
    refine v_iconst C dL_285 (v := 3) (by decide) ?_
    refine v_iadd C dL_286 ?_
    refine v_sldk C hX hbl (k := i + 3) (by omega) hL (nI_add i 3) dL_287 ?_
    refine v_if_eq C 295 dL_288 (by decide) (fun _ => ?_) (fun hc => absurd hz hc)
    refine v_iconst C dL_295 (v := 0) (by decide) ?_
    refine v_callI (nP := 3) (k := 71) C (by decide) rfl rfl (c_X4_link l D t ad hI h2) k630 k627 k628 k629 k5 yo_X4_link ⟨Nat.le_of_ble_eq_true rfl, Nat.le_of_ble_eq_true rfl, rfl, rfl, hcs.1, hcs.2⟩ rfl rfl (Nat.le_of_ble_eq_true rfl) dL_296 ?_
    exact v_ic_eq C 713 dL_299 (by decide) (fun _ => kk G2 h3) (fun hc => absurd rfl hc)
  · obtain ⟨r, G1, G2, h1, h2, h3⟩ := s_link (xs (i + 1)) (xs (i + 2)) true G hG
    have h1 : sh_X3_link (xs (i + 1)) (xs (i + 2)) (1 : Int32) G = some (r, G1) := h1
    have h2 : sh_X4_link (xs (i + 1)) (xs (i + 2)) (1 : Int32) G1 = some (r, G2) := h2
    refine v_aloadn C dL_245 rfl ?_
    refine v_aloadn C dL_246 rfl ?_
    refine v_iloadn C dL_247 rfl ?_
    refine v_iconst C dL_248 (v := 1) (by decide) ?_
    refine v_iadd C dL_249 ?_
    refine v_sldk C hX hbl (k := i + 1) (by omega) hL (nI_add i 1) dL_250 ?_
    refine v_aloadn C dL_251 rfl ?_
    refine v_iloadn C dL_252 rfl ?_
    refine v_iconst C dL_253 (v := 2) (by decide) ?_
    refine v_iadd C dL_254 ?_
    refine v_sldk C hX hbl (k := i + 2) (by omega) hL (nI_add i 2) dL_255 ?_
    refine v_aloadn C dL_256 rfl ?_
    refine v_iloadn C dL_257 rfl ?_
    refine v_iconst C dL_258 (v := 3) (by decide) ?_
    refine v_iadd C dL_259 ?_
    refine v_sldk C hX hbl (k := i + 3) (by omega) hL (nI_add i 3) dL_260 ?_
    refine v_if_eq C 268 dL_261 (by decide) (fun hc => absurd hc hz) (fun _ => ?_)
    refine v_iconst C dL_264 (v := 1) (by decide) ?_
    refine v_goto C 269 dL_265 (by decide) ?_
    refine v_callI (nP := 3) (k := 70) C (by decide) rfl rfl (c_X3_link l D t ad hI h1) k217 k214 k215 k216 k1 yo_X3_link ⟨Nat.le_of_ble_eq_true rfl, Nat.le_of_ble_eq_true rfl, rfl, rfl, hcs.1, hcs.2⟩ rfl rfl (Nat.le_of_ble_eq_true rfl) dL_269 ?_
    refine v_aloadn C dL_272 rfl ?_
    refine v_aloadn C dL_273 rfl ?_
    refine v_iloadn C dL_274 rfl ?_
    refine v_iconst C dL_275 (v := 1) (by decide) ?_
    refine v_iadd C dL_276 ?_
    refine v_sldk C hX hbl (k := i + 1) (by omega) hL (nI_add i 1) dL_277 ?_
    refine v_aloadn C dL_278 rfl ?_
    refine v_iloadn C dL_279 rfl ?_
    refine v_iconst C dL_280 (v := 2) (by decide) ?_
    refine v_iadd C dL_281 ?_
    refine v_sldk C hX hbl (k := i + 2) (by omega) hL (nI_add i 2) dL_282 ?_
    refine v_aloadn C dL_283 rfl ?_
    refine v_iloadn C dL_284 rfl ?_
    refine v_iconst C dL_285 (v := 3) (by decide) ?_
    refine v_iadd C dL_286 ?_
    refine v_sldk C hX hbl (k := i + 3) (by omega) hL (nI_add i 3) dL_287 ?_
    refine v_if_eq C 295 dL_288 (by decide) (fun hc => absurd hc hz) (fun _ => ?_)
    refine v_iconst C dL_291 (v := 1) (by decide) ?_
    refine v_goto C 296 dL_292 (by decide) ?_
    refine v_callI (nP := 3) (k := 71) C (by decide) rfl rfl (c_X4_link l D t ad hI h2) k630 k627 k628 k629 k5 yo_X4_link ⟨Nat.le_of_ble_eq_true rfl, Nat.le_of_ble_eq_true rfl, rfl, rfl, hcs.1, hcs.2⟩ rfl rfl (Nat.le_of_ble_eq_true rfl) dL_296 ?_
    exact v_ic_eq C 713 dL_299 (by decide) (fun _ => kk G2 h3) (fun hc => absurd rfl hc)
set_option maxHeartbeats 1000000 in
theorem lc_tune {p : Program} {l : Launch} {e : Env} {s : State} {m : MethodId} {below : List Frame} {meth : Method} {c : Code} {D : va_G} {t : gT} {ad : Nat → Nat} {b L : Nat} {xs : Nat → Int32} {cells slots : Nat} (C : lwC p s m meth c D t ad b) (hI : gI ad) (hX : va_X b L xs s s.heap) (hbl : b < s.heap.size) (hL : L ≤ 2048) (hcs : cells ≤ 600000 ∧ slots ≤ 7302250) {i : Nat} (hi : i + 4 ≤ L) {G : gG} (hG : SM G) (kk : ∀ G', SM G' → lwV p l e s m below meth c D t ad b cells slots G' 713 i []) : lwV p l e s m below meth c D t ad b cells slots G 304 i [] := by
  obtain ⟨r, G1, G2, h1, h2, h3⟩ := s_tune (xs (i + 1)) (xs (i + 2)) (xs (i + 3)) G hG
  refine v_aloadn C dL_304 rfl ?_
  refine v_aloadn C dL_305 rfl ?_
  refine v_iloadn C dL_306 rfl ?_
  refine v_iconst C dL_307 (v := 1) (by decide) ?_
  refine v_iadd C dL_308 ?_
  refine v_sldk C hX hbl (k := i + 1) (by omega) hL (nI_add i 1) dL_309 ?_
  refine v_aloadn C dL_310 rfl ?_
  refine v_iloadn C dL_311 rfl ?_
  refine v_iconst C dL_312 (v := 2) (by decide) ?_
  refine v_iadd C dL_313 ?_
  refine v_sldk C hX hbl (k := i + 2) (by omega) hL (nI_add i 2) dL_314 ?_
  refine v_aloadn C dL_315 rfl ?_
  refine v_iloadn C dL_316 rfl ?_
  refine v_iconst C dL_317 (v := 3) (by decide) ?_
  refine v_iadd C dL_318 ?_
  refine v_sldk C hX hbl (k := i + 3) (by omega) hL (nI_add i 3) dL_319 ?_
  refine v_callI (nP := 3) (k := 70) C (by decide) rfl rfl (c_X3_tune l D t ad hI h1) k233 k230 k231 k232 k1 yo_X3_tune ⟨Nat.le_of_ble_eq_true rfl, Nat.le_of_ble_eq_true rfl, rfl, rfl, hcs.1, hcs.2⟩ rfl rfl (Nat.le_of_ble_eq_true rfl) dL_320 ?_
  refine v_aloadn C dL_323 rfl ?_
  refine v_aloadn C dL_324 rfl ?_
  refine v_iloadn C dL_325 rfl ?_
  refine v_iconst C dL_326 (v := 1) (by decide) ?_
  refine v_iadd C dL_327 ?_
  refine v_sldk C hX hbl (k := i + 1) (by omega) hL (nI_add i 1) dL_328 ?_
  refine v_aloadn C dL_329 rfl ?_
  refine v_iloadn C dL_330 rfl ?_
  refine v_iconst C dL_331 (v := 2) (by decide) ?_
  refine v_iadd C dL_332 ?_
  refine v_sldk C hX hbl (k := i + 2) (by omega) hL (nI_add i 2) dL_333 ?_
  refine v_aloadn C dL_334 rfl ?_
  refine v_iloadn C dL_335 rfl ?_
  refine v_iconst C dL_336 (v := 3) (by decide) ?_
  refine v_iadd C dL_337 ?_
  refine v_sldk C hX hbl (k := i + 3) (by omega) hL (nI_add i 3) dL_338 ?_
  refine v_callI (nP := 3) (k := 71) C (by decide) rfl rfl (c_X4_tune l D t ad hI h2) k645 k642 k643 k644 k5 yo_X4_tune ⟨Nat.le_of_ble_eq_true rfl, Nat.le_of_ble_eq_true rfl, rfl, rfl, hcs.1, hcs.2⟩ rfl rfl (Nat.le_of_ble_eq_true rfl) dL_339 ?_
  exact v_ic_eq C 713 dL_342 (by decide) (fun _ => kk G2 h3) (fun hc => absurd rfl hc)
set_option maxHeartbeats 1000000 in
theorem lc_set {p : Program} {l : Launch} {e : Env} {s : State} {m : MethodId} {below : List Frame} {meth : Method} {c : Code} {D : va_G} {t : gT} {ad : Nat → Nat} {b L : Nat} {xs : Nat → Int32} {cells slots : Nat} (C : lwC p s m meth c D t ad b) (hI : gI ad) (hX : va_X b L xs s s.heap) (hbl : b < s.heap.size) (hL : L ≤ 2048) (hcs : cells ≤ 600000 ∧ slots ≤ 7302250) {i : Nat} (hi : i + 4 ≤ L) {G : gG} (hG : SM G) (kk : ∀ G', SM G' → lwV p l e s m below meth c D t ad b cells slots G' 713 i []) : lwV p l e s m below meth c D t ad b cells slots G 347 i [] := by
  obtain ⟨r, G1, G2, h1, h2, h3⟩ := s_set (xs (i + 1)) (xs (i + 2)) G hG
  refine v_aloadn C dL_347 rfl ?_
  refine v_aloadn C dL_348 rfl ?_
  refine v_iloadn C dL_349 rfl ?_
  refine v_iconst C dL_350 (v := 1) (by decide) ?_
  refine v_iadd C dL_351 ?_
  refine v_sldk C hX hbl (k := i + 1) (by omega) hL (nI_add i 1) dL_352 ?_
  refine v_aloadn C dL_353 rfl ?_
  refine v_iloadn C dL_354 rfl ?_
  refine v_iconst C dL_355 (v := 2) (by decide) ?_
  refine v_iadd C dL_356 ?_
  refine v_sldk C hX hbl (k := i + 2) (by omega) hL (nI_add i 2) dL_357 ?_
  refine v_callI (nP := 2) (k := 70) C (by decide) rfl rfl (c_X3_set l D t ad hI h1) k241 k238 k239 k240 k1 yo_X3_set ⟨Nat.le_of_ble_eq_true rfl, Nat.le_of_ble_eq_true rfl, rfl, rfl, hcs.1, hcs.2⟩ rfl rfl (Nat.le_of_ble_eq_true rfl) dL_358 ?_
  refine v_aloadn C dL_361 rfl ?_
  refine v_aloadn C dL_362 rfl ?_
  refine v_iloadn C dL_363 rfl ?_
  refine v_iconst C dL_364 (v := 1) (by decide) ?_
  refine v_iadd C dL_365 ?_
  refine v_sldk C hX hbl (k := i + 1) (by omega) hL (nI_add i 1) dL_366 ?_
  refine v_aloadn C dL_367 rfl ?_
  refine v_iloadn C dL_368 rfl ?_
  refine v_iconst C dL_369 (v := 2) (by decide) ?_
  refine v_iadd C dL_370 ?_
  refine v_sldk C hX hbl (k := i + 2) (by omega) hL (nI_add i 2) dL_371 ?_
  refine v_callI (nP := 2) (k := 71) C (by decide) rfl rfl (c_X4_set l D t ad hI h2) k649 k646 k647 k648 k5 yo_X4_set ⟨Nat.le_of_ble_eq_true rfl, Nat.le_of_ble_eq_true rfl, rfl, rfl, hcs.1, hcs.2⟩ rfl rfl (Nat.le_of_ble_eq_true rfl) dL_372 ?_
  exact v_ic_eq C 713 dL_375 (by decide) (fun _ => kk G2 h3) (fun hc => absurd rfl hc)
set_option maxHeartbeats 1000000 in
theorem lc_pass {p : Program} {l : Launch} {e : Env} {s : State} {m : MethodId} {below : List Frame} {meth : Method} {c : Code} {D : va_G} {t : gT} {ad : Nat → Nat} {b L : Nat} {xs : Nat → Int32} {cells slots : Nat} (C : lwC p s m meth c D t ad b) (hI : gI ad) (hX : va_X b L xs s s.heap) (hbl : b < s.heap.size) (hL : L ≤ 2048) (hcs : cells ≤ 600000 ∧ slots ≤ 7302250) {i : Nat} (hi : i + 4 ≤ L) {G : gG} (hG : SM G) (kk : ∀ G', SM G' → lwV p l e s m below meth c D t ad b cells slots G' 713 i []) : lwV p l e s m below meth c D t ad b cells slots G 380 i [] := by
  obtain ⟨r, G1, G2, h1, h2, h3⟩ := s_pass (xs (i + 1)) G hG
  refine v_aloadn C dL_380 rfl ?_
  refine v_aloadn C dL_381 rfl ?_
  refine v_iloadn C dL_382 rfl ?_
  refine v_iconst C dL_383 (v := 1) (by decide) ?_
  refine v_iadd C dL_384 ?_
  refine v_sldk C hX hbl (k := i + 1) (by omega) hL (nI_add i 1) dL_385 ?_
  refine v_callI (nP := 1) (k := 70) C (by decide) rfl rfl (c_X3_pass l D t ad hI h1) k268 k265 k266 k267 k1 yo_X3_pass ⟨Nat.le_of_ble_eq_true rfl, Nat.le_of_ble_eq_true rfl, rfl, rfl, hcs.1, hcs.2⟩ rfl rfl (Nat.le_of_ble_eq_true rfl) dL_386 ?_
  refine v_aloadn C dL_389 rfl ?_
  refine v_aloadn C dL_390 rfl ?_
  refine v_iloadn C dL_391 rfl ?_
  refine v_iconst C dL_392 (v := 1) (by decide) ?_
  refine v_iadd C dL_393 ?_
  refine v_sldk C hX hbl (k := i + 1) (by omega) hL (nI_add i 1) dL_394 ?_
  refine v_callI (nP := 1) (k := 71) C (by decide) rfl rfl (c_X4_pass l D t ad hI h2) k653 k650 k651 k652 k5 yo_X4_pass ⟨Nat.le_of_ble_eq_true rfl, Nat.le_of_ble_eq_true rfl, rfl, rfl, hcs.1, hcs.2⟩ rfl rfl (Nat.le_of_ble_eq_true rfl) dL_395 ?_
  exact v_ic_eq C 713 dL_398 (by decide) (fun _ => kk G2 h3) (fun hc => absurd rfl hc)
set_option maxHeartbeats 1000000 in
theorem lc_type {p : Program} {l : Launch} {e : Env} {s : State} {m : MethodId} {below : List Frame} {meth : Method} {c : Code} {D : va_G} {t : gT} {ad : Nat → Nat} {b L : Nat} {xs : Nat → Int32} {cells slots : Nat} (C : lwC p s m meth c D t ad b) (hI : gI ad) (hX : va_X b L xs s s.heap) (hbl : b < s.heap.size) (hL : L ≤ 2048) (hcs : cells ≤ 600000 ∧ slots ≤ 7302250) {i : Nat} (hi : i + 4 ≤ L) {G : gG} (hG : SM G) (kk : ∀ G', SM G' → lwV p l e s m below meth c D t ad b cells slots G' 713 i []) : lwV p l e s m below meth c D t ad b cells slots G 403 i [] := by
  obtain ⟨r, G1, G2, h1, h2, h3⟩ := s_type ((xs (i + 1)).toUInt32 % 65536).toInt32 G hG
  refine v_aloadn C dL_403 rfl ?_
  refine v_aloadn C dL_404 rfl ?_
  refine v_iloadn C dL_405 rfl ?_
  refine v_iconst C dL_406 (v := 1) (by decide) ?_
  refine v_iadd C dL_407 ?_
  refine v_sldk C hX hbl (k := i + 1) (by omega) hL (nI_add i 1) dL_408 ?_
  refine v_i2c C dL_409 ?_
  refine v_callI (nP := 1) (k := 70) C (by decide) rfl rfl (c_X3_type l D t ad hI h1) k312 k309 k310 k311 k1 yo_X3_type ⟨Nat.le_of_ble_eq_true rfl, Nat.le_of_ble_eq_true rfl, rfl, rfl, hcs.1, hcs.2⟩ rfl rfl (Nat.le_of_ble_eq_true rfl) dL_410 ?_
  refine v_aloadn C dL_413 rfl ?_
  refine v_aloadn C dL_414 rfl ?_
  refine v_iloadn C dL_415 rfl ?_
  refine v_iconst C dL_416 (v := 1) (by decide) ?_
  refine v_iadd C dL_417 ?_
  refine v_sldk C hX hbl (k := i + 1) (by omega) hL (nI_add i 1) dL_418 ?_
  refine v_i2c C dL_419 ?_
  refine v_callI (nP := 1) (k := 71) C (by decide) rfl rfl (c_X4_type l D t ad hI h2) k678 k675 k676 k677 k5 yo_X4_type ⟨Nat.le_of_ble_eq_true rfl, Nat.le_of_ble_eq_true rfl, rfl, rfl, hcs.1, hcs.2⟩ rfl rfl (Nat.le_of_ble_eq_true rfl) dL_420 ?_
  exact v_ic_eq C 713 dL_423 (by decide) (fun _ => kk G2 h3) (fun hc => absurd rfl hc)
set_option maxHeartbeats 1000000 in
theorem lc_clearText {p : Program} {l : Launch} {e : Env} {s : State} {m : MethodId} {below : List Frame} {meth : Method} {c : Code} {D : va_G} {t : gT} {ad : Nat → Nat} {b L : Nat} {xs : Nat → Int32} {cells slots : Nat} (C : lwC p s m meth c D t ad b) (hI : gI ad) (hX : va_X b L xs s s.heap) (hbl : b < s.heap.size) (hL : L ≤ 2048) (hcs : cells ≤ 600000 ∧ slots ≤ 7302250) {i : Nat} (hi : i + 4 ≤ L) {G : gG} (hG : SM G) (kk : ∀ G', SM G' → lwV p l e s m below meth c D t ad b cells slots G' 713 i []) : lwV p l e s m below meth c D t ad b cells slots G 428 i [] := by
  obtain ⟨r, G1, G2, h1, h2, h3⟩ := s_clear G hG
  refine v_aloadn C dL_428 rfl ?_
  refine v_callI (nP := 0) (k := 70) C (by decide) rfl rfl (c_X3_clearText l D t ad hI h1) k328 k325 k326 k327 k1 yo_X3_clearText ⟨Nat.le_of_ble_eq_true rfl, Nat.le_of_ble_eq_true rfl, rfl, rfl, hcs.1, hcs.2⟩ rfl rfl (Nat.le_of_ble_eq_true rfl) dL_429 ?_
  refine v_aloadn C dL_432 rfl ?_
  refine v_callI (nP := 0) (k := 71) C (by decide) rfl rfl (c_X4_clearText l D t ad hI h2) k682 k679 k680 k681 k5 yo_X4_clearText ⟨Nat.le_of_ble_eq_true rfl, Nat.le_of_ble_eq_true rfl, rfl, rfl, hcs.1, hcs.2⟩ rfl rfl (Nat.le_of_ble_eq_true rfl) dL_433 ?_
  exact v_ic_eq C 713 dL_436 (by decide) (fun _ => kk G2 h3) (fun hc => absurd rfl hc)
set_option maxHeartbeats 1000000 in
theorem lc_readMesh {p : Program} {l : Launch} {e : Env} {s : State} {m : MethodId} {below : List Frame} {meth : Method} {c : Code} {D : va_G} {t : gT} {ad : Nat → Nat} {b L : Nat} {xs : Nat → Int32} {cells slots : Nat} (C : lwC p s m meth c D t ad b) (hI : gI ad) (hX : va_X b L xs s s.heap) (hbl : b < s.heap.size) (hL : L ≤ 2048) (hcs : cells ≤ 600000 ∧ slots ≤ 7302250) {i : Nat} (hi : i + 4 ≤ L) {G : gG} (hG : SM G) (kk : ∀ G', SM G' → lwV p l e s m below meth c D t ad b cells slots G' 713 i []) : lwV p l e s m below meth c D t ad b cells slots G 441 i [] := by
  obtain ⟨r, G1, G2, h1, h2, h3⟩ := s_read G hG
  refine v_aloadn C dL_441 rfl ?_
  refine v_callI (nP := 0) (k := 70) C (by decide) rfl rfl (c_X3_readMesh l D t ad hI h1) k336 k333 k334 k335 k1 yo_X3_readMesh ⟨Nat.le_of_ble_eq_true rfl, Nat.le_of_ble_eq_true rfl, rfl, rfl, hcs.1, hcs.2⟩ rfl rfl (Nat.le_of_ble_eq_true rfl) dL_442 ?_
  refine v_aloadn C dL_445 rfl ?_
  refine v_callI (nP := 0) (k := 71) C (by decide) rfl rfl (c_X4_readMesh l D t ad hI h2) k686 k683 k684 k685 k5 yo_X4_readMesh ⟨Nat.le_of_ble_eq_true rfl, Nat.le_of_ble_eq_true rfl, rfl, rfl, hcs.1, hcs.2⟩ rfl rfl (Nat.le_of_ble_eq_true rfl) dL_446 ?_
  exact v_ic_eq C 713 dL_449 (by decide) (fun _ => kk G2 h3) (fun hc => absurd rfl hc)
set_option maxHeartbeats 1000000 in
theorem lc_undo {p : Program} {l : Launch} {e : Env} {s : State} {m : MethodId} {below : List Frame} {meth : Method} {c : Code} {D : va_G} {t : gT} {ad : Nat → Nat} {b L : Nat} {xs : Nat → Int32} {cells slots : Nat} (C : lwC p s m meth c D t ad b) (hI : gI ad) (hX : va_X b L xs s s.heap) (hbl : b < s.heap.size) (hL : L ≤ 2048) (hcs : cells ≤ 600000 ∧ slots ≤ 7302250) {i : Nat} (hi : i + 4 ≤ L) {G : gG} (hG : SM G) (kk : ∀ G', SM G' → lwV p l e s m below meth c D t ad b cells slots G' 713 i []) : lwV p l e s m below meth c D t ad b cells slots G 454 i [] := by
  obtain ⟨r, G1, G2, h1, h2, h3⟩ := s_undo G hG
  refine v_aloadn C dL_454 rfl ?_
  refine v_callI (nP := 0) (k := 70) C (by decide) rfl rfl (c_X3_undo l D t ad hI h1) k399 k396 k397 k398 k1 yo_X3_undo ⟨Nat.le_of_ble_eq_true rfl, Nat.le_of_ble_eq_true rfl, rfl, rfl, hcs.1, hcs.2⟩ rfl rfl (Nat.le_of_ble_eq_true rfl) dL_455 ?_
  refine v_aloadn C dL_458 rfl ?_
  refine v_callI (nP := 0) (k := 71) C (by decide) rfl rfl (c_X4_undo l D t ad hI h2) k717 k714 k715 k716 k5 yo_X4_undo ⟨Nat.le_of_ble_eq_true rfl, Nat.le_of_ble_eq_true rfl, rfl, rfl, hcs.1, hcs.2⟩ rfl rfl (Nat.le_of_ble_eq_true rfl) dL_459 ?_
  exact v_ic_eq C 713 dL_462 (by decide) (fun _ => kk G2 h3) (fun hc => absurd rfl hc)
set_option maxHeartbeats 1000000 in
theorem lc_keep {p : Program} {l : Launch} {e : Env} {s : State} {m : MethodId} {below : List Frame} {meth : Method} {c : Code} {D : va_G} {t : gT} {ad : Nat → Nat} {b L : Nat} {xs : Nat → Int32} {cells slots : Nat} (C : lwC p s m meth c D t ad b) (hI : gI ad) (hX : va_X b L xs s s.heap) (hbl : b < s.heap.size) (hL : L ≤ 2048) (hcs : cells ≤ 600000 ∧ slots ≤ 7302250) {i : Nat} (hi : i + 4 ≤ L) {G : gG} (hG : SM G) (kk : ∀ G', SM G' → lwV p l e s m below meth c D t ad b cells slots G' 713 i []) : lwV p l e s m below meth c D t ad b cells slots G 467 i [] := by
  obtain ⟨r, G1, G2, h1, h2, h3⟩ := s_keep G hG
  refine v_aloadn C dL_467 rfl ?_
  refine v_callI (nP := 0) (k := 70) C (by decide) rfl rfl (c_X3_keep l D t ad hI h1) k411 k408 k409 k410 k1 yo_X3_keep ⟨Nat.le_of_ble_eq_true rfl, Nat.le_of_ble_eq_true rfl, rfl, rfl, hcs.1, hcs.2⟩ rfl rfl (Nat.le_of_ble_eq_true rfl) dL_468 ?_
  refine v_aloadn C dL_471 rfl ?_
  refine v_callI (nP := 0) (k := 71) C (by decide) rfl rfl (c_X4_keep l D t ad hI h2) k721 k718 k719 k720 k5 yo_X4_keep ⟨Nat.le_of_ble_eq_true rfl, Nat.le_of_ble_eq_true rfl, rfl, rfl, hcs.1, hcs.2⟩ rfl rfl (Nat.le_of_ble_eq_true rfl) dL_472 ?_
  exact v_ic_eq C 713 dL_475 (by decide) (fun _ => kk G2 h3) (fun hc => absurd rfl hc)
set_option maxHeartbeats 1000000 in
theorem lc_restore {p : Program} {l : Launch} {e : Env} {s : State} {m : MethodId} {below : List Frame} {meth : Method} {c : Code} {D : va_G} {t : gT} {ad : Nat → Nat} {b L : Nat} {xs : Nat → Int32} {cells slots : Nat} (C : lwC p s m meth c D t ad b) (hI : gI ad) (hX : va_X b L xs s s.heap) (hbl : b < s.heap.size) (hL : L ≤ 2048) (hcs : cells ≤ 600000 ∧ slots ≤ 7302250) {i : Nat} (hi : i + 4 ≤ L) {G : gG} (hG : SM G) (kk : ∀ G', SM G' → lwV p l e s m below meth c D t ad b cells slots G' 713 i []) : lwV p l e s m below meth c D t ad b cells slots G 480 i [] := by
  obtain ⟨r, G1, G2, h1, h2, h3⟩ := s_restore G hG
  refine v_aloadn C dL_480 rfl ?_
  refine v_callI (nP := 0) (k := 70) C (by decide) rfl rfl (c_X3_restore l D t ad hI h1) k416 k413 k414 k415 k1 yo_X3_restore ⟨Nat.le_of_ble_eq_true rfl, Nat.le_of_ble_eq_true rfl, rfl, rfl, hcs.1, hcs.2⟩ rfl rfl (Nat.le_of_ble_eq_true rfl) dL_481 ?_
  refine v_aloadn C dL_484 rfl ?_
  refine v_callI (nP := 0) (k := 71) C (by decide) rfl rfl (c_X4_restore l D t ad hI h2) k725 k722 k723 k724 k5 yo_X4_restore ⟨Nat.le_of_ble_eq_true rfl, Nat.le_of_ble_eq_true rfl, rfl, rfl, hcs.1, hcs.2⟩ rfl rfl (Nat.le_of_ble_eq_true rfl) dL_485 ?_
  exact v_ic_eq C 713 dL_488 (by decide) (fun _ => kk G2 h3) (fun hc => absurd rfl hc)
set_option maxHeartbeats 1000000 in
theorem lc_lamp {p : Program} {l : Launch} {e : Env} {s : State} {m : MethodId} {below : List Frame} {meth : Method} {c : Code} {D : va_G} {t : gT} {ad : Nat → Nat} {b L : Nat} {xs : Nat → Int32} {cells slots : Nat} (C : lwC p s m meth c D t ad b) (hI : gI ad) (hX : va_X b L xs s s.heap) (hbl : b < s.heap.size) (hL : L ≤ 2048) (hcs : cells ≤ 600000 ∧ slots ≤ 7302250) {i : Nat} (hi : i + 4 ≤ L) {G : gG} (hG : SM G) (kk : ∀ G', SM G' → lwV p l e s m below meth c D t ad b cells slots G' 713 i []) : lwV p l e s m below meth c D t ad b cells slots G 493 i [] := by
  obtain ⟨r, h1, h2⟩ := s_lamp (xs (i + 1)) (xs (i + 2)) G hG
  refine v_aloadn C dL_493 rfl ?_
  refine v_aloadn C dL_494 rfl ?_
  refine v_iloadn C dL_495 rfl ?_
  refine v_iconst C dL_496 (v := 1) (by decide) ?_
  refine v_iadd C dL_497 ?_
  refine v_sldk C hX hbl (k := i + 1) (by omega) hL (nI_add i 1) dL_498 ?_
  refine v_aloadn C dL_499 rfl ?_
  refine v_iloadn C dL_500 rfl ?_
  refine v_iconst C dL_501 (v := 2) (by decide) ?_
  refine v_iadd C dL_502 ?_
  refine v_sldk C hX hbl (k := i + 2) (by omega) hL (nI_add i 2) dL_503 ?_
  refine v_callI (nP := 2) (k := 70) C (by decide) rfl rfl (c_X3_lamp l D t ad hI h1) k420 k417 k418 k419 k1 yo_X3_lamp ⟨Nat.le_of_ble_eq_true rfl, Nat.le_of_ble_eq_true rfl, rfl, rfl, hcs.1, hcs.2⟩ rfl rfl (Nat.le_of_ble_eq_true rfl) dL_504 ?_
  refine v_aloadn C dL_507 rfl ?_
  refine v_aloadn C dL_508 rfl ?_
  refine v_iloadn C dL_509 rfl ?_
  refine v_iconst C dL_510 (v := 1) (by decide) ?_
  refine v_iadd C dL_511 ?_
  refine v_sldk C hX hbl (k := i + 1) (by omega) hL (nI_add i 1) dL_512 ?_
  refine v_aloadn C dL_513 rfl ?_
  refine v_iloadn C dL_514 rfl ?_
  refine v_iconst C dL_515 (v := 2) (by decide) ?_
  refine v_iadd C dL_516 ?_
  refine v_sldk C hX hbl (k := i + 2) (by omega) hL (nI_add i 2) dL_517 ?_
  refine v_callI (nP := 2) (k := 71) C (by decide) rfl rfl (c_X4_lamp l D t ad hI h2) k729 k726 k727 k728 k5 yo_X4_lamp ⟨Nat.le_of_ble_eq_true rfl, Nat.le_of_ble_eq_true rfl, rfl, rfl, hcs.1, hcs.2⟩ rfl rfl (Nat.le_of_ble_eq_true rfl) dL_518 ?_
  exact v_ic_eq C 713 dL_521 (by decide) (fun _ => kk G hG) (fun hc => absurd rfl hc)
set_option maxHeartbeats 1000000 in
theorem lc_apart {p : Program} {l : Launch} {e : Env} {s : State} {m : MethodId} {below : List Frame} {meth : Method} {c : Code} {D : va_G} {t : gT} {ad : Nat → Nat} {b L : Nat} {xs : Nat → Int32} {cells slots : Nat} (C : lwC p s m meth c D t ad b) (hI : gI ad) (hX : va_X b L xs s s.heap) (hbl : b < s.heap.size) (hL : L ≤ 2048) (hcs : cells ≤ 600000 ∧ slots ≤ 7302250) {i : Nat} (hi : i + 4 ≤ L) {G : gG} (hG : SM G) (kk : ∀ G', SM G' → lwV p l e s m below meth c D t ad b cells slots G' 713 i []) : lwV p l e s m below meth c D t ad b cells slots G 526 i [] := by
  obtain ⟨r, h1, h2⟩ := s_apart (xs (i + 1)) (xs (i + 2)) G hG
  refine v_aloadn C dL_526 rfl ?_
  refine v_aloadn C dL_527 rfl ?_
  refine v_iloadn C dL_528 rfl ?_
  refine v_iconst C dL_529 (v := 1) (by decide) ?_
  refine v_iadd C dL_530 ?_
  refine v_sldk C hX hbl (k := i + 1) (by omega) hL (nI_add i 1) dL_531 ?_
  refine v_aloadn C dL_532 rfl ?_
  refine v_iloadn C dL_533 rfl ?_
  refine v_iconst C dL_534 (v := 2) (by decide) ?_
  refine v_iadd C dL_535 ?_
  refine v_sldk C hX hbl (k := i + 2) (by omega) hL (nI_add i 2) dL_536 ?_
  refine v_callI (nP := 2) (k := 70) C (by decide) rfl rfl (c_X3_apart l D t ad hI h1) k441 k438 k439 k440 k1 yo_X3_apart ⟨Nat.le_of_ble_eq_true rfl, Nat.le_of_ble_eq_true rfl, rfl, rfl, hcs.1, hcs.2⟩ rfl rfl (Nat.le_of_ble_eq_true rfl) dL_537 ?_
  refine v_aloadn C dL_540 rfl ?_
  refine v_aloadn C dL_541 rfl ?_
  refine v_iloadn C dL_542 rfl ?_
  refine v_iconst C dL_543 (v := 1) (by decide) ?_
  refine v_iadd C dL_544 ?_
  refine v_sldk C hX hbl (k := i + 1) (by omega) hL (nI_add i 1) dL_545 ?_
  refine v_aloadn C dL_546 rfl ?_
  refine v_iloadn C dL_547 rfl ?_
  refine v_iconst C dL_548 (v := 2) (by decide) ?_
  refine v_iadd C dL_549 ?_
  refine v_sldk C hX hbl (k := i + 2) (by omega) hL (nI_add i 2) dL_550 ?_
  refine v_callI (nP := 2) (k := 71) C (by decide) rfl rfl (c_X4_apart l D t ad hI h2) k741 k738 k739 k740 k5 yo_X4_apart ⟨Nat.le_of_ble_eq_true rfl, Nat.le_of_ble_eq_true rfl, rfl, rfl, hcs.1, hcs.2⟩ rfl rfl (Nat.le_of_ble_eq_true rfl) dL_551 ?_
  exact v_ic_eq C 713 dL_554 (by decide) (fun _ => kk G hG) (fun hc => absurd rfl hc)
set_option maxHeartbeats 1000000 in
theorem lc_next {p : Program} {l : Launch} {e : Env} {s : State} {m : MethodId} {below : List Frame} {meth : Method} {c : Code} {D : va_G} {t : gT} {ad : Nat → Nat} {b L : Nat} {xs : Nat → Int32} {cells slots : Nat} (C : lwC p s m meth c D t ad b) (hI : gI ad) (hX : va_X b L xs s s.heap) (hbl : b < s.heap.size) (hL : L ≤ 2048) (hcs : cells ≤ 600000 ∧ slots ≤ 7302250) {i : Nat} (hi : i + 4 ≤ L) {G : gG} (hG : SM G) (kk : ∀ G', SM G' → lwV p l e s m below meth c D t ad b cells slots G' 713 i []) : lwV p l e s m below meth c D t ad b cells slots G 559 i [] := by
  obtain ⟨r, G1, G2, h1, h2, h3⟩ := s_next (xs (i + 1)) G hG
  refine v_aloadn C dL_559 rfl ?_
  refine v_aloadn C dL_560 rfl ?_
  refine v_iloadn C dL_561 rfl ?_
  refine v_iconst C dL_562 (v := 1) (by decide) ?_
  refine v_iadd C dL_563 ?_
  refine v_sldk C hX hbl (k := i + 1) (by omega) hL (nI_add i 1) dL_564 ?_
  refine v_callI (nP := 1) (k := 70) C (by decide) rfl rfl (c_X3_next l D t ad hI h1) k452 k449 k450 k451 k1 yo_X3_next ⟨Nat.le_of_ble_eq_true rfl, Nat.le_of_ble_eq_true rfl, rfl, rfl, hcs.1, hcs.2⟩ rfl rfl (Nat.le_of_ble_eq_true rfl) dL_565 ?_
  refine v_aloadn C dL_568 rfl ?_
  refine v_aloadn C dL_569 rfl ?_
  refine v_iloadn C dL_570 rfl ?_
  refine v_iconst C dL_571 (v := 1) (by decide) ?_
  refine v_iadd C dL_572 ?_
  refine v_sldk C hX hbl (k := i + 1) (by omega) hL (nI_add i 1) dL_573 ?_
  refine v_callI (nP := 1) (k := 71) C (by decide) rfl rfl (c_X4_next l D t ad hI h2) k749 k746 k747 k748 k5 yo_X4_next ⟨Nat.le_of_ble_eq_true rfl, Nat.le_of_ble_eq_true rfl, rfl, rfl, hcs.1, hcs.2⟩ rfl rfl (Nat.le_of_ble_eq_true rfl) dL_574 ?_
  exact v_ic_eq C 713 dL_577 (by decide) (fun _ => kk G2 h3) (fun hc => absurd rfl hc)
set_option maxHeartbeats 1000000 in
theorem lc_togetherIn {p : Program} {l : Launch} {e : Env} {s : State} {m : MethodId} {below : List Frame} {meth : Method} {c : Code} {D : va_G} {t : gT} {ad : Nat → Nat} {b L : Nat} {xs : Nat → Int32} {cells slots : Nat} (C : lwC p s m meth c D t ad b) (hI : gI ad) (hX : va_X b L xs s s.heap) (hbl : b < s.heap.size) (hL : L ≤ 2048) (hcs : cells ≤ 600000 ∧ slots ≤ 7302250) {i : Nat} (hi : i + 4 ≤ L) {G : gG} (hG : SM G) (kk : ∀ G', SM G' → lwV p l e s m below meth c D t ad b cells slots G' 713 i []) : lwV p l e s m below meth c D t ad b cells slots G 582 i [] := by
  obtain ⟨r, G1, G2, h1, h2, h3⟩ := s_together G hG
  refine v_aloadn C dL_582 rfl ?_
  refine v_callI (nP := 0) (k := 70) C (by decide) rfl rfl (c_X3_togetherIn l D t ad hI h1) k457 k454 k455 k456 k1 yo_X3_togetherIn ⟨Nat.le_of_ble_eq_true rfl, Nat.le_of_ble_eq_true rfl, rfl, rfl, hcs.1, hcs.2⟩ rfl rfl (Nat.le_of_ble_eq_true rfl) dL_583 ?_
  refine v_aloadn C dL_586 rfl ?_
  refine v_callI (nP := 0) (k := 71) C (by decide) rfl rfl (c_X4_togetherIn l D t ad hI h2) k753 k750 k751 k752 k5 yo_X4_togetherIn ⟨Nat.le_of_ble_eq_true rfl, Nat.le_of_ble_eq_true rfl, rfl, rfl, hcs.1, hcs.2⟩ rfl rfl (Nat.le_of_ble_eq_true rfl) dL_587 ?_
  exact v_ic_eq C 713 dL_590 (by decide) (fun _ => kk G2 h3) (fun hc => absurd rfl hc)
set_option maxHeartbeats 1000000 in
theorem lc_reason {p : Program} {l : Launch} {e : Env} {s : State} {m : MethodId} {below : List Frame} {meth : Method} {c : Code} {D : va_G} {t : gT} {ad : Nat → Nat} {b L : Nat} {xs : Nat → Int32} {cells slots : Nat} (C : lwC p s m meth c D t ad b) (hI : gI ad) (hX : va_X b L xs s s.heap) (hbl : b < s.heap.size) (hL : L ≤ 2048) (hcs : cells ≤ 600000 ∧ slots ≤ 7302250) {i : Nat} (hi : i + 4 ≤ L) {G : gG} (hG : SM G) (kk : ∀ G', SM G' → lwV p l e s m below meth c D t ad b cells slots G' 713 i []) : lwV p l e s m below meth c D t ad b cells slots G 595 i [] := by
  obtain ⟨r, h1, h2⟩ := s_reason  G hG
  refine v_aloadn C dL_595 rfl ?_
  refine v_callI (nP := 0) (k := 70) C (by decide) rfl rfl (c_X3_reason l D t ad hI h1) k469 k466 k467 k468 k1 yo_X3_reason ⟨Nat.le_of_ble_eq_true rfl, Nat.le_of_ble_eq_true rfl, rfl, rfl, hcs.1, hcs.2⟩ rfl rfl (Nat.le_of_ble_eq_true rfl) dL_596 ?_
  refine v_aloadn C dL_599 rfl ?_
  refine v_callI (nP := 0) (k := 71) C (by decide) rfl rfl (c_X4_reason l D t ad hI h2) k769 k766 k767 k768 k5 yo_X4_reason ⟨Nat.le_of_ble_eq_true rfl, Nat.le_of_ble_eq_true rfl, rfl, rfl, hcs.1, hcs.2⟩ rfl rfl (Nat.le_of_ble_eq_true rfl) dL_600 ?_
  exact v_ic_eq C 713 dL_603 (by decide) (fun _ => kk G hG) (fun hc => absurd rfl hc)
set_option maxHeartbeats 1000000 in
theorem lc_spread {p : Program} {l : Launch} {e : Env} {s : State} {m : MethodId} {below : List Frame} {meth : Method} {c : Code} {D : va_G} {t : gT} {ad : Nat → Nat} {b L : Nat} {xs : Nat → Int32} {cells slots : Nat} (C : lwC p s m meth c D t ad b) (hI : gI ad) (hX : va_X b L xs s s.heap) (hbl : b < s.heap.size) (hL : L ≤ 2048) (hcs : cells ≤ 600000 ∧ slots ≤ 7302250) {i : Nat} (hi : i + 4 ≤ L) {G : gG} (hG : SM G) (kk : ∀ G', SM G' → lwV p l e s m below meth c D t ad b cells slots G' 713 i []) : lwV p l e s m below meth c D t ad b cells slots G 608 i [] := by
  obtain ⟨r, h1, h2⟩ := s_spread  G hG
  refine v_aloadn C dL_608 rfl ?_
  refine v_callI (nP := 0) (k := 70) C (by decide) rfl rfl (c_X3_spread l D t ad hI h1) k481 k478 k479 k480 k1 yo_X3_spread ⟨Nat.le_of_ble_eq_true rfl, Nat.le_of_ble_eq_true rfl, rfl, rfl, hcs.1, hcs.2⟩ rfl rfl (Nat.le_of_ble_eq_true rfl) dL_609 ?_
  refine v_aloadn C dL_612 rfl ?_
  refine v_callI (nP := 0) (k := 71) C (by decide) rfl rfl (c_X4_spread l D t ad hI h2) k781 k778 k779 k780 k5 yo_X4_spread ⟨Nat.le_of_ble_eq_true rfl, Nat.le_of_ble_eq_true rfl, rfl, rfl, hcs.1, hcs.2⟩ rfl rfl (Nat.le_of_ble_eq_true rfl) dL_613 ?_
  exact v_ic_eq C 713 dL_616 (by decide) (fun _ => kk G hG) (fun hc => absurd rfl hc)
set_option maxHeartbeats 1000000 in
theorem lc_ifLinked {p : Program} {l : Launch} {e : Env} {s : State} {m : MethodId} {below : List Frame} {meth : Method} {c : Code} {D : va_G} {t : gT} {ad : Nat → Nat} {b L : Nat} {xs : Nat → Int32} {cells slots : Nat} (C : lwC p s m meth c D t ad b) (hI : gI ad) (hX : va_X b L xs s s.heap) (hbl : b < s.heap.size) (hL : L ≤ 2048) (hcs : cells ≤ 600000 ∧ slots ≤ 7302250) {i : Nat} (hi : i + 4 ≤ L) {G : gG} (hG : SM G) (kk : ∀ G', SM G' → lwV p l e s m below meth c D t ad b cells slots G' 713 i []) : lwV p l e s m below meth c D t ad b cells slots G 621 i [] := by
  obtain ⟨r, G1, G2, h1, h2, h3⟩ := s_ifLinked (xs (i + 1)) (xs (i + 2)) G hG
  refine v_aloadn C dL_621 rfl ?_
  refine v_aloadn C dL_622 rfl ?_
  refine v_iloadn C dL_623 rfl ?_
  refine v_iconst C dL_624 (v := 1) (by decide) ?_
  refine v_iadd C dL_625 ?_
  refine v_sldk C hX hbl (k := i + 1) (by omega) hL (nI_add i 1) dL_626 ?_
  refine v_aloadn C dL_627 rfl ?_
  refine v_iloadn C dL_628 rfl ?_
  refine v_iconst C dL_629 (v := 2) (by decide) ?_
  refine v_iadd C dL_630 ?_
  refine v_sldk C hX hbl (k := i + 2) (by omega) hL (nI_add i 2) dL_631 ?_
  refine v_callI (nP := 2) (k := 70) C (by decide) rfl rfl (c_X3_ifLinked l D t ad hI h1) k490 k487 k488 k489 k1 yo_X3_ifLinked ⟨Nat.le_of_ble_eq_true rfl, Nat.le_of_ble_eq_true rfl, rfl, rfl, hcs.1, hcs.2⟩ rfl rfl (Nat.le_of_ble_eq_true rfl) dL_632 ?_
  refine v_aloadn C dL_635 rfl ?_
  refine v_aloadn C dL_636 rfl ?_
  refine v_iloadn C dL_637 rfl ?_
  refine v_iconst C dL_638 (v := 1) (by decide) ?_
  refine v_iadd C dL_639 ?_
  refine v_sldk C hX hbl (k := i + 1) (by omega) hL (nI_add i 1) dL_640 ?_
  refine v_aloadn C dL_641 rfl ?_
  refine v_iloadn C dL_642 rfl ?_
  refine v_iconst C dL_643 (v := 2) (by decide) ?_
  refine v_iadd C dL_644 ?_
  refine v_sldk C hX hbl (k := i + 2) (by omega) hL (nI_add i 2) dL_645 ?_
  refine v_callI (nP := 2) (k := 71) C (by decide) rfl rfl (c_X4_ifLinked l D t ad hI h2) k785 k782 k783 k784 k5 yo_X4_ifLinked ⟨Nat.le_of_ble_eq_true rfl, Nat.le_of_ble_eq_true rfl, rfl, rfl, hcs.1, hcs.2⟩ rfl rfl (Nat.le_of_ble_eq_true rfl) dL_646 ?_
  exact v_ic_eq C 713 dL_649 (by decide) (fun _ => kk G2 h3) (fun hc => absurd rfl hc)
set_option maxHeartbeats 1000000 in
theorem lc_hub {p : Program} {l : Launch} {e : Env} {s : State} {m : MethodId} {below : List Frame} {meth : Method} {c : Code} {D : va_G} {t : gT} {ad : Nat → Nat} {b L : Nat} {xs : Nat → Int32} {cells slots : Nat} (C : lwC p s m meth c D t ad b) (hI : gI ad) (hX : va_X b L xs s s.heap) (hbl : b < s.heap.size) (hL : L ≤ 2048) (hcs : cells ≤ 600000 ∧ slots ≤ 7302250) {i : Nat} (hi : i + 4 ≤ L) {G : gG} (hG : SM G) (kk : ∀ G', SM G' → lwV p l e s m below meth c D t ad b cells slots G' 713 i []) : lwV p l e s m below meth c D t ad b cells slots G 654 i [] := by
  obtain ⟨r, h1, h2⟩ := s_hub  G hG
  refine v_aloadn C dL_654 rfl ?_
  refine v_callI (nP := 0) (k := 70) C (by decide) rfl rfl (c_X3_hub l D t ad hI h1) k494 k491 k492 k493 k1 yo_X3_hub ⟨Nat.le_of_ble_eq_true rfl, Nat.le_of_ble_eq_true rfl, rfl, rfl, hcs.1, hcs.2⟩ rfl rfl (Nat.le_of_ble_eq_true rfl) dL_655 ?_
  refine v_aloadn C dL_658 rfl ?_
  refine v_callI (nP := 0) (k := 71) C (by decide) rfl rfl (c_X4_hub l D t ad hI h2) k789 k786 k787 k788 k5 yo_X4_hub ⟨Nat.le_of_ble_eq_true rfl, Nat.le_of_ble_eq_true rfl, rfl, rfl, hcs.1, hcs.2⟩ rfl rfl (Nat.le_of_ble_eq_true rfl) dL_659 ?_
  exact v_ic_eq C 713 dL_662 (by decide) (fun _ => kk G hG) (fun hc => absurd rfl hc)
set_option maxHeartbeats 1000000 in
theorem lc_bestLink {p : Program} {l : Launch} {e : Env} {s : State} {m : MethodId} {below : List Frame} {meth : Method} {c : Code} {D : va_G} {t : gT} {ad : Nat → Nat} {b L : Nat} {xs : Nat → Int32} {cells slots : Nat} (C : lwC p s m meth c D t ad b) (hI : gI ad) (hX : va_X b L xs s s.heap) (hbl : b < s.heap.size) (hL : L ≤ 2048) (hcs : cells ≤ 600000 ∧ slots ≤ 7302250) {i : Nat} (hi : i + 4 ≤ L) {G : gG} (hG : SM G) (kk : ∀ G', SM G' → lwV p l e s m below meth c D t ad b cells slots G' 713 i []) : lwV p l e s m below meth c D t ad b cells slots G 667 i [] := by
  obtain ⟨r, G1, G2, h1, h2, h3⟩ := s_best (xs (i + 1)) G hG
  refine v_aloadn C dL_667 rfl ?_
  refine v_aloadn C dL_668 rfl ?_
  refine v_iloadn C dL_669 rfl ?_
  refine v_iconst C dL_670 (v := 1) (by decide) ?_
  refine v_iadd C dL_671 ?_
  refine v_sldk C hX hbl (k := i + 1) (by omega) hL (nI_add i 1) dL_672 ?_
  refine v_callI (nP := 1) (k := 70) C (by decide) rfl rfl (c_X3_bestLink l D t ad hI h1) k502 k499 k500 k501 k1 yo_X3_bestLink ⟨Nat.le_of_ble_eq_true rfl, Nat.le_of_ble_eq_true rfl, rfl, rfl, hcs.1, hcs.2⟩ rfl rfl (Nat.le_of_ble_eq_true rfl) dL_673 ?_
  refine v_aloadn C dL_676 rfl ?_
  refine v_aloadn C dL_677 rfl ?_
  refine v_iloadn C dL_678 rfl ?_
  refine v_iconst C dL_679 (v := 1) (by decide) ?_
  refine v_iadd C dL_680 ?_
  refine v_sldk C hX hbl (k := i + 1) (by omega) hL (nI_add i 1) dL_681 ?_
  refine v_callI (nP := 1) (k := 71) C (by decide) rfl rfl (c_X4_bestLink l D t ad hI h2) k793 k790 k791 k792 k5 yo_X4_bestLink ⟨Nat.le_of_ble_eq_true rfl, Nat.le_of_ble_eq_true rfl, rfl, rfl, hcs.1, hcs.2⟩ rfl rfl (Nat.le_of_ble_eq_true rfl) dL_682 ?_
  exact v_ic_eq C 713 dL_685 (by decide) (fun _ => kk G2 h3) (fun hc => absurd rfl hc)
set_option maxHeartbeats 1000000 in
theorem lc_count {p : Program} {l : Launch} {e : Env} {s : State} {m : MethodId} {below : List Frame} {meth : Method} {c : Code} {D : va_G} {t : gT} {ad : Nat → Nat} {b L : Nat} {xs : Nat → Int32} {cells slots : Nat} (C : lwC p s m meth c D t ad b) (hI : gI ad) (hX : va_X b L xs s s.heap) (hbl : b < s.heap.size) (hL : L ≤ 2048) (hcs : cells ≤ 600000 ∧ slots ≤ 7302250) {i : Nat} (hi : i + 4 ≤ L) {G : gG} (hG : SM G) (kk : ∀ G', SM G' → lwV p l e s m below meth c D t ad b cells slots G' 713 i []) : lwV p l e s m below meth c D t ad b cells slots G 690 i [] := by
  obtain ⟨r, h1, h2⟩ := s_count (xs (i + 1)) G hG
  refine v_aloadn C dL_690 rfl ?_
  refine v_aloadn C dL_691 rfl ?_
  refine v_iloadn C dL_692 rfl ?_
  refine v_iconst C dL_693 (v := 1) (by decide) ?_
  refine v_iadd C dL_694 ?_
  refine v_sldk C hX hbl (k := i + 1) (by omega) hL (nI_add i 1) dL_695 ?_
  refine v_callI (nP := 1) (k := 70) C (by decide) rfl rfl (c_X3_count l D t ad hI h1) k515 k512 k513 k514 k1 yo_X3_count ⟨Nat.le_of_ble_eq_true rfl, Nat.le_of_ble_eq_true rfl, rfl, rfl, hcs.1, hcs.2⟩ rfl rfl (Nat.le_of_ble_eq_true rfl) dL_696 ?_
  refine v_aloadn C dL_699 rfl ?_
  refine v_aloadn C dL_700 rfl ?_
  refine v_iloadn C dL_701 rfl ?_
  refine v_iconst C dL_702 (v := 1) (by decide) ?_
  refine v_iadd C dL_703 ?_
  refine v_sldk C hX hbl (k := i + 1) (by omega) hL (nI_add i 1) dL_704 ?_
  refine v_callI (nP := 1) (k := 71) C (by decide) rfl rfl (c_X4_count l D t ad hI h2) k797 k794 k795 k796 k5 yo_X4_count ⟨Nat.le_of_ble_eq_true rfl, Nat.le_of_ble_eq_true rfl, rfl, rfl, hcs.1, hcs.2⟩ rfl rfl (Nat.le_of_ble_eq_true rfl) dL_705 ?_
  exact v_ic_eq C 713 dL_708 (by decide) (fun _ => kk G hG) (fun hc => absurd rfl hc)
