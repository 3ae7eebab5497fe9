def sh_L_nextSo_j173 (kt189 : Int32 → Int32 → Int32 → Int32 → Int32 → gG → Option (Int32 × gG)) (self108 : Int32 → Int32 → Int32 → Int32 → Int32 → Int32 → Int32 → gG → Option (Int32 × gG)) (l1 : Int32) (l2 : Int32) (l3 : Int32) (l4 : Int32) (l5 : Int32) (l7 : Int32) (x0 : Int32) (x1 : Int32) (G : gG) : Option (Int32 × gG) := (if x0 = x1 then self108 l1 l2 l3 l4 l5 (1 : Int32) (l7 + 1) G else self108 l1 l2 l3 l4 l5 (0 : Int32) (l7 + 1) G)
def sh_L_nextSo_j172 (kt189 : Int32 → Int32 → Int32 → Int32 → Int32 → gG → Option (Int32 × gG)) (self108 : Int32 → Int32 → Int32 → Int32 → Int32 → Int32 → Int32 → gG → Option (Int32 × gG)) (l1 : Int32) (l2 : Int32) (l3 : Int32) (l4 : Int32) (l5 : Int32) (l7 : Int32) (x0 : Int32) (G : gG) : Option (Int32 × gG) := (sh_L_nextSo_j173 kt189 self108 l1 l2 l3 l4 l5 l7 x0 (0 : Int32) G)
def sh_L_nextSo_j146 (kt189 : Int32 → Int32 → Int32 → Int32 → Int32 → gG → Option (Int32 × gG)) (self108 : Int32 → Int32 → Int32 → Int32 → Int32 → Int32 → Int32 → gG → Option (Int32 × gG)) (l1 : Int32) (l2 : Int32) (l3 : Int32) (l4 : Int32) (l5 : Int32) (l7 : Int32) (x0 : Int32) (G : gG) : Option (Int32 × gG) := (obp (sh_L_isThere l7 G) fun r14 => (if r14 = (0 : Int32) then (sh_L_nextSo_j172 kt189 self108 l1 l2 l3 l4 l5 l7 x0 G) else (obp (sh_X3_lamp l7 (5 : Int32) G) fun r16 => (if r16 = (l3 + l1) then (sh_L_nextSo_j173 kt189 self108 l1 l2 l3 l4 l5 l7 x0 (1 : Int32) G) else (sh_L_nextSo_j172 kt189 self108 l1 l2 l3 l4 l5 l7 x0 G)))))
def sh_L_nextSo_108  (kt189 : Int32 → Int32 → Int32 → Int32 → Int32 → gG → Option (Int32 × gG)) : Nat → Int32 → Int32 → Int32 → Int32 → Int32 → Int32 → Int32 → gG → Option (Int32 × gG)
  | 0, _, _, _, _, _, _, _, _ => none
  | n + 1, l1, l2, l3, l4, l5, l6, l7, G => (if (16 : Int32) ≤ l7 then kt189 l1 l3 l4 l5 l6 G else (bni (l5 + ((l2 >>> (l7 &&& 31)) &&& (1 : Int32))) fun z11 => (if l6 = (0 : Int32) then sh_L_nextSo_108 kt189 n l1 l2 l3 l4 z11 (0 : Int32) (l7 + 1) G else (if ((l2 >>> (l7 &&& 31)) &&& (1 : Int32)) = (1 : Int32) then (sh_L_nextSo_j146 kt189 (sh_L_nextSo_108 kt189 n) l1 l2 l3 l4 z11 l7 (1 : Int32) G) else (sh_L_nextSo_j146 kt189 (sh_L_nextSo_108 kt189 n) l1 l2 l3 l4 z11 l7 (0 : Int32) G)))))
def sh_L_nextSo_j237 (l3 : Int32) (G : gG) : Option (Int32 × gG) := (obp (sh_X3_count (0 : Int32) G) fun r25 => (if r25 = l3 then some ((1 : Int32), G) else some ((0 : Int32), G)))
def sh_L_nextSo_j90 (l1 : Int32) (l2 : Int32) (l3 : Int32) (l4 : Int32) (l5 : Int32) (G : gG) : Option (Int32 × gG) := (obi (sh_X3_pass (1 : Int32) G) fun r40 G41 => (if r40 ≤ (0 : Int32) then (sh_L_nextSo_108 (fun l1 l3 l4 l5 l6 G => (if l6 = (0 : Int32) then some ((0 : Int32), G) else (obp (sh_X3_count (5 : Int32) G) fun r43 => (if r43 = (l4 + l5) then (obp (sh_X3_count (0 : Int32) G) fun r45 => (if r45 = (l3 + l1) then (obi (sh_X3_undo G) fun r47 G48 => (if r47 < (0 : Int32) then some ((0 : Int32), G48) else (if l1 = (1 : Int32) then (sh_L_nextSo_j237 l3 G48) else (obi (sh_X3_undo G48) fun r50 G51 => (if r50 < (0 : Int32) then some ((0 : Int32), G51) else (sh_L_nextSo_j237 l3 G51)))))) else some ((0 : Int32), G))) else some ((0 : Int32), G))))) FU l1 l2 l3 l4 l5 (0 : Int32) (0 : Int32) G41) else (sh_L_nextSo_108 (fun l1 l3 l4 l5 l6 G => (if l6 = (0 : Int32) then some ((0 : Int32), G) else (obp (sh_X3_count (5 : Int32) G) fun r53 => (if r53 = (l4 + l5) then (obp (sh_X3_count (0 : Int32) G) fun r55 => (if r55 = (l3 + l1) then (obi (sh_X3_undo G) fun r57 G58 => (if r57 < (0 : Int32) then some ((0 : Int32), G58) else (if l1 = (1 : Int32) then (sh_L_nextSo_j237 l3 G58) else (obi (sh_X3_undo G58) fun r60 G61 => (if r60 < (0 : Int32) then some ((0 : Int32), G61) else (sh_L_nextSo_j237 l3 G61)))))) else some ((0 : Int32), G))) else some ((0 : Int32), G))))) FU l1 l2 l3 l4 l5 (1 : Int32) (0 : Int32) G41)))
def sh_L_nextSo (G : gG) : Option (Int32 × gG) := (obi (sh_X3_next (0 : Int32) G) fun r2 G3 => (obi (sh_X3_next (1 : Int32) G3) fun r5 G6 => (obp (sh_X3_count (0 : Int32) G6) fun r8 => (obp (sh_X3_count (5 : Int32) G6) fun r10 => (if r2 = (-5 : Int32) then (if r5 = (-5 : Int32) then (obp (sh_X3_count (2 : Int32) G6) fun r88 => (if r88 = (0 : Int32) then some ((1 : Int32), G6) else some ((0 : Int32), G6))) else some ((0 : Int32), G6)) else (if r2 ≤ (0 : Int32) then (sh_L_nextSo_108 (fun l1 l3 l4 l5 l6 G => (if l6 = (0 : Int32) then some ((0 : Int32), G) else (obp (sh_X3_count (5 : Int32) G) fun r18 => (if r18 = (l4 + l5) then (obp (sh_X3_count (0 : Int32) G) fun r20 => (if r20 = (l3 + l1) then (obi (sh_X3_undo G) fun r22 G23 => (if r22 < (0 : Int32) then some ((0 : Int32), G23) else (if l1 = (1 : Int32) then (sh_L_nextSo_j237 l3 G23) else (obi (sh_X3_undo G23) fun r27 G28 => (if r27 < (0 : Int32) then some ((0 : Int32), G28) else (sh_L_nextSo_j237 l3 G28)))))) else some ((0 : Int32), G))) else some ((0 : Int32), G))))) FU r2 r5 r8 r10 (0 : Int32) (0 : Int32) (0 : Int32) G6) else (if (400 : Int32) < r2 then (sh_L_nextSo_108 (fun l1 l3 l4 l5 l6 G => (if l6 = (0 : Int32) then some ((0 : Int32), G) else (obp (sh_X3_count (5 : Int32) G) fun r30 => (if r30 = (l4 + l5) then (obp (sh_X3_count (0 : Int32) G) fun r32 => (if r32 = (l3 + l1) then (obi (sh_X3_undo G) fun r34 G35 => (if r34 < (0 : Int32) then some ((0 : Int32), G35) else (if l1 = (1 : Int32) then (sh_L_nextSo_j237 l3 G35) else (obi (sh_X3_undo G35) fun r37 G38 => (if r37 < (0 : Int32) then some ((0 : Int32), G38) else (sh_L_nextSo_j237 l3 G38)))))) else some ((0 : Int32), G))) else some ((0 : Int32), G))))) FU r2 r5 r8 r10 (0 : Int32) (0 : Int32) (0 : Int32) G6) else (if r2 = (1 : Int32) then (sh_L_nextSo_j90 r2 r5 r8 r10 (0 : Int32) G6) else (obi (sh_X3_pass (r2 - (1 : Int32)) G6) fun r63 G64 => (if r63 = (0 : Int32) then (obp (sh_X3_count (5 : Int32) G64) fun r76 => (if r76 = r10 then (sh_L_nextSo_j90 r2 r5 r8 r10 (0 : Int32) G64) else (sh_L_nextSo_108 (fun l1 l3 l4 l5 l6 G => (if l6 = (0 : Int32) then some ((0 : Int32), G) else (obp (sh_X3_count (5 : Int32) G) fun r78 => (if r78 = (l4 + l5) then (obp (sh_X3_count (0 : Int32) G) fun r80 => (if r80 = (l3 + l1) then (obi (sh_X3_undo G) fun r82 G83 => (if r82 < (0 : Int32) then some ((0 : Int32), G83) else (if l1 = (1 : Int32) then (sh_L_nextSo_j237 l3 G83) else (obi (sh_X3_undo G83) fun r85 G86 => (if r85 < (0 : Int32) then some ((0 : Int32), G86) else (sh_L_nextSo_j237 l3 G86)))))) else some ((0 : Int32), G))) else some ((0 : Int32), G))))) FU r2 r5 r8 r10 (0 : Int32) (0 : Int32) (0 : Int32) G64))) else (sh_L_nextSo_108 (fun l1 l3 l4 l5 l6 G => (if l6 = (0 : Int32) then some ((0 : Int32), G) else (obp (sh_X3_count (5 : Int32) G) fun r66 => (if r66 = (l4 + l5) then (obp (sh_X3_count (0 : Int32) G) fun r68 => (if r68 = (l3 + l1) then (obi (sh_X3_undo G) fun r70 G71 => (if r70 < (0 : Int32) then some ((0 : Int32), G71) else (if l1 = (1 : Int32) then (sh_L_nextSo_j237 l3 G71) else (obi (sh_X3_undo G71) fun r73 G74 => (if r73 < (0 : Int32) then some ((0 : Int32), G74) else (sh_L_nextSo_j237 l3 G74)))))) else some ((0 : Int32), G))) else some ((0 : Int32), G))))) FU r2 r5 r8 r10 (0 : Int32) (0 : Int32) (0 : Int32) G64)))))))))))
set_option maxRecDepth 100000 in
set_option maxHeartbeats 4000000 in
theorem lp_L_nextSo_108 {p : Program} {l : Launch} {e : Env} {s : State} {m : MethodId} {args : Array Value} {below : List Frame} {meth : Method} {c : Code} {D : va_G} {t : gT} {ad : Nat → Nat} (C : gC p s m args meth c cL_nextSo RL 8 (some .boolean) (isW ad) D t ad) (hI : gI ad) {r0 : Int32} {G0 : gG} {kt189 : Int32 → Int32 → Int32 → Int32 → Int32 → gG → Option (Int32 × gG)} (hk189 : ∀ (l1 : Int32) (l3 : Int32) (l4 : Int32) (l5 : Int32) (l6 : Int32) (G : gG) , kt189 l1 l3 l4 l5 l6 G = some (r0, G0) → V p l e (rM 6 137) s m args below meth c (isW ad) D t ad 0 0 8 (Qi below D t ad args s r0 G0) G 189 [some (.ref (ad 70)), some (.int l1), none, some (.int l3), some (.int l4), some (.int l5), some (.int l6), none] []) : ∀ (n : Nat) (l1 : Int32) (l2 : Int32) (l3 : Int32) (l4 : Int32) (l5 : Int32) (l6 : Int32) (l7 : Int32) (G : gG) , sh_L_nextSo_108 kt189 n l1 l2 l3 l4 l5 l6 l7 G = some (r0, G0) → V p l e (rM 6 137) s m args below meth c (isW ad) D t ad 0 0 8 (Qi below D t ad args s r0 G0) G 108 [some (.ref (ad 70)), some (.int l1), some (.int l2), some (.int l3), some (.int l4), some (.int l5), some (.int l6), some (.int l7)] [] := by
  intro n
  induction n with
  | zero => intro l1 l2 l3 l4 l5 l6 l7 G hsh; rw [sh_L_nextSo_108.eq_1] at hsh; cases hsh
  | succ n ih =>
    intro l1 l2 l3 l4 l5 l6 l7 G hsh
    rw [sh_L_nextSo_108.eq_2] at hsh
    have hj173 : ∀ (l1 : Int32) (l2 : Int32) (l3 : Int32) (l4 : Int32) (l5 : Int32) (l7 : Int32) (x0 : Int32) (x1 : Int32) (G : gG) , sh_L_nextSo_j173 kt189 (sh_L_nextSo_108 kt189 n) l1 l2 l3 l4 l5 l7 x0 x1 G = some (r0, G0) → V p l e (rM 6 137) s m args below meth c (isW ad) D t ad 0 0 8 (Qi below D t ad args s r0 G0) G 173 [some (.ref (ad 70)), some (.int l1), some (.int l2), some (.int l3), some (.int l4), some (.int l5), none, some (.int l7)] [.int x1, .int x0] := by
      intro l1 l2 l3 l4 l5 l7 x0 x1 G hsh
      unfold sh_L_nextSo_j173 at hsh
      refine v_ic_ne C 180 dL_nextSo_173 (by decide) (fun hc => ?_) (fun hc => ?_)
      · replace hsh := ite_n hc hsh
        refine v_iconst C dL_nextSo_180 (v := 0) (by decide) ?_
        refine v_istore C dL_nextSo_181 (by decide) ?_
        refine v_iinc C dL_nextSo_183 rfl (v := 1) (by decide) (by decide) ?_
        refine v_goto C 108 dL_nextSo_186 (by decide) ?_
        exact v_wk (ih _ _ _ _ _ _ _ _ hsh) (wk_of (And.intro rfl (And.intro rfl (And.intro rfl (And.intro rfl (And.intro rfl (And.intro rfl (And.intro rfl (And.intro rfl trivial)))))))))
      · replace hsh := ite_p hc hsh
        refine v_iconst C dL_nextSo_176 (v := 1) (by decide) ?_
        refine v_goto C 181 dL_nextSo_177 (by decide) ?_
        refine v_istore C dL_nextSo_181 (by decide) ?_
        refine v_iinc C dL_nextSo_183 rfl (v := 1) (by decide) (by decide) ?_
        refine v_goto C 108 dL_nextSo_186 (by decide) ?_
        exact v_wk (ih _ _ _ _ _ _ _ _ hsh) (wk_of (And.intro rfl (And.intro rfl (And.intro rfl (And.intro rfl (And.intro rfl (And.intro rfl (And.intro rfl (And.intro rfl trivial)))))))))
    have hj172 : ∀ (l1 : Int32) (l2 : Int32) (l3 : Int32) (l4 : Int32) (l5 : Int32) (l7 : Int32) (x0 : Int32) (G : gG) , sh_L_nextSo_j172 kt189 (sh_L_nextSo_108 kt189 n) l1 l2 l3 l4 l5 l7 x0 G = some (r0, G0) → V p l e (rM 6 137) s m args below meth c (isW ad) D t ad 0 0 8 (Qi below D t ad args s r0 G0) G 172 [some (.ref (ad 70)), some (.int l1), some (.int l2), some (.int l3), some (.int l4), some (.int l5), none, some (.int l7)] [.int x0] := by
      intro l1 l2 l3 l4 l5 l7 x0 G hsh
      unfold sh_L_nextSo_j172 at hsh
      refine v_iconst C dL_nextSo_172 (v := 0) (by decide) ?_
      exact v_wk (hj173 _ _ _ _ _ _ _ _ _ hsh) (wk_of (And.intro rfl (And.intro rfl (And.intro rfl (And.intro rfl (And.intro rfl (And.intro rfl (And.intro rfl trivial))))))))
    have hj146 : ∀ (l1 : Int32) (l2 : Int32) (l3 : Int32) (l4 : Int32) (l5 : Int32) (l7 : Int32) (x0 : Int32) (G : gG) , sh_L_nextSo_j146 kt189 (sh_L_nextSo_108 kt189 n) l1 l2 l3 l4 l5 l7 x0 G = some (r0, G0) → V p l e (rM 6 137) s m args below meth c (isW ad) D t ad 0 0 8 (Qi below D t ad args s r0 G0) G 146 [some (.ref (ad 70)), some (.int l1), some (.int l2), some (.int l3), some (.int l4), some (.int l5), none, some (.int l7)] [.int x0] := by
      intro l1 l2 l3 l4 l5 l7 x0 G hsh
      unfold sh_L_nextSo_j146 at hsh
      refine v_aloadn C dL_nextSo_146 rfl ?_
      refine v_iload C dL_nextSo_147 rfl ?_
      obtain ⟨r14, e13, hsh⟩ := obp_e hsh
      refine v_callS (nP := 2) C (c_L_isThere l D t ad hI  e13) k247 k245 k246 k0 yo_L_isThere ⟨Nat.le_of_ble_eq_true rfl, Nat.le_of_ble_eq_true rfl, rfl, rfl, Nat.zero_le _, Nat.zero_le _⟩ rfl rfl (Nat.le_of_ble_eq_true rfl) dL_nextSo_149 ?_
      refine v_if_eq C 172 dL_nextSo_152 (by decide) (fun hc => ?_) (fun hc => ?_)
      · replace hsh := ite_p hc hsh
        exact v_wk (hj172 _ _ _ _ _ _ _ _ hsh) (wk_of (And.intro rfl (And.intro rfl (And.intro rfl (And.intro rfl (And.intro rfl (And.intro rfl (And.intro rfl trivial))))))))
      · replace hsh := ite_n hc hsh
        refine v_aloadn C dL_nextSo_155 rfl ?_
        refine v_iload C dL_nextSo_156 rfl ?_
        refine v_iconst C dL_nextSo_158 (v := 5) (by decide) ?_
        obtain ⟨r16, e15, hsh⟩ := obp_e hsh
        refine v_callI (nP := 2) (k := 70) C (by decide) rfl rfl (c_X3_lamp l D t ad hI  e15) k251 k248 k249 k250 k1 yo_X3_lamp ⟨Nat.le_of_ble_eq_true rfl, Nat.le_of_ble_eq_true rfl, rfl, rfl, Nat.zero_le _, Nat.zero_le _⟩ rfl rfl (Nat.le_of_ble_eq_true rfl) dL_nextSo_159 ?_
        refine v_iloadn C dL_nextSo_162 rfl ?_
        refine v_iloadn C dL_nextSo_163 rfl ?_
        refine v_iadd C dL_nextSo_164 ?_
        refine v_ic_ne C 172 dL_nextSo_165 (by decide) (fun hc => ?_) (fun hc => ?_)
        · replace hsh := ite_n hc hsh
          exact v_wk (hj172 _ _ _ _ _ _ _ _ hsh) (wk_of (And.intro rfl (And.intro rfl (And.intro rfl (And.intro rfl (And.intro rfl (And.intro rfl (And.intro rfl trivial))))))))
        · replace hsh := ite_p hc hsh
          refine v_iconst C dL_nextSo_168 (v := 1) (by decide) ?_
          refine v_goto C 173 dL_nextSo_169 (by decide) ?_
          exact v_wk (hj173 _ _ _ _ _ _ _ _ _ hsh) (wk_of (And.intro rfl (And.intro rfl (And.intro rfl (And.intro rfl (And.intro rfl (And.intro rfl (And.intro rfl trivial))))))))
    refine v_iload C dL_nextSo_108 rfl ?_
    refine v_bipush C dL_nextSo_110 (v := 16) (by decide) ?_
    refine v_ic_ge C 189 dL_nextSo_112 (by decide) (fun hc => ?_) (fun hc => ?_)
    · replace hsh := ite_p hc hsh
      exact v_wk (hk189 _ _ _ _ _ _ hsh) (wk_of (And.intro rfl (And.intro rfl (And.intro rfl (And.intro rfl (And.intro rfl (And.intro rfl trivial)))))))
    · replace hsh := ite_n hc hsh
      refine v_iload C dL_nextSo_115 rfl ?_
      refine v_iloadn C dL_nextSo_117 rfl ?_
      refine v_iload C dL_nextSo_118 rfl ?_
      refine v_ishr C dL_nextSo_120 ?_
      refine v_iconst C dL_nextSo_121 (v := 1) (by decide) ?_
      refine v_iand C dL_nextSo_122 ?_
      refine v_iadd C dL_nextSo_123 ?_
      obtain ⟨z11, e12, hsh⟩ := bni_e hsh
      refine v_bi e12 ?_
      refine v_istore C dL_nextSo_124 (by decide) ?_
      refine v_iload C dL_nextSo_126 rfl ?_
      refine v_if_eq C 180 dL_nextSo_128 (by decide) (fun hc => ?_) (fun hc => ?_)
      · replace hsh := ite_p hc hsh
        refine v_iconst C dL_nextSo_180 (v := 0) (by decide) ?_
        refine v_istore C dL_nextSo_181 (by decide) ?_
        refine v_iinc C dL_nextSo_183 rfl (v := 1) (by decide) (by decide) ?_
        refine v_goto C 108 dL_nextSo_186 (by decide) ?_
        exact v_wk (ih _ _ _ _ _ _ _ _ hsh) (wk_of (And.intro rfl (And.intro rfl (And.intro rfl (And.intro rfl (And.intro rfl (And.intro rfl (And.intro rfl (And.intro rfl trivial)))))))))
      · replace hsh := ite_n hc hsh
        refine v_iloadn C dL_nextSo_131 rfl ?_
        refine v_iload C dL_nextSo_132 rfl ?_
        refine v_ishr C dL_nextSo_134 ?_
        refine v_iconst C dL_nextSo_135 (v := 1) (by decide) ?_
        refine v_iand C dL_nextSo_136 ?_
        refine v_iconst C dL_nextSo_137 (v := 1) (by decide) ?_
        refine v_ic_ne C 145 dL_nextSo_138 (by decide) (fun hc => ?_) (fun hc => ?_)
        · replace hsh := ite_n hc hsh
          refine v_iconst C dL_nextSo_145 (v := 0) (by decide) ?_
          exact v_wk (hj146 _ _ _ _ _ _ _ _ hsh) (wk_of (And.intro rfl (And.intro rfl (And.intro rfl (And.intro rfl (And.intro rfl (And.intro rfl (And.intro rfl trivial))))))))
        · replace hsh := ite_p hc hsh
          refine v_iconst C dL_nextSo_141 (v := 1) (by decide) ?_
          refine v_goto C 146 dL_nextSo_142 (by decide) ?_
          exact v_wk (hj146 _ _ _ _ _ _ _ _ hsh) (wk_of (And.intro rfl (And.intro rfl (And.intro rfl (And.intro rfl (And.intro rfl (And.intro rfl (And.intro rfl trivial))))))))
set_option maxRecDepth 100000 in
set_option maxHeartbeats 4000000 in
theorem c_L_nextSo (l : Launch) (D : va_G) (t : gT) (ad : Nat → Nat) (hI : gI ad) {G : gG} {r0 : Int32} {G0 : gG} (hsh : sh_L_nextSo G = some (r0, G0)) : Mi l D t ad yL_nextSo cL_nextSo 8 (some .boolean) (rM 6 137) [.ref (ad 70)] G r0 G0 := by
  refine m_go hI RL rfl (by decide +kernel) ⟨rfl, rfl⟩ (Nat.le_of_ble_eq_true rfl) rfl [some (.ref (ad 70)), none, none, none, none, none, none, none] rfl (fun p e s m args below meth c C => ?_)
  unfold sh_L_nextSo at hsh
  have hj237 : ∀ (l3 : Int32) (G : gG) , sh_L_nextSo_j237 l3 G = some (r0, G0) → V p l e (rM 6 137) s m args below meth c (isW ad) D t ad 0 0 8 (Qi below D t ad args s r0 G0) G 237 [some (.ref (ad 70)), none, none, some (.int l3), none, none, none, none] [] := by
    intro l3 G hsh
    unfold sh_L_nextSo_j237 at hsh
    refine v_aloadn C dL_nextSo_237 rfl ?_
    refine v_iconst C dL_nextSo_238 (v := 0) (by decide) ?_
    obtain ⟨r25, e24, hsh⟩ := obp_e hsh
    refine v_callI (nP := 1) (k := 70) C (by decide) rfl rfl (c_X3_count l D t ad hI  e24) k283 k280 k281 k282 k1 yo_X3_count ⟨Nat.le_of_ble_eq_true rfl, Nat.le_of_ble_eq_true rfl, rfl, rfl, Nat.zero_le _, Nat.zero_le _⟩ rfl rfl (Nat.le_of_ble_eq_true rfl) dL_nextSo_239 ?_
    refine v_iloadn C dL_nextSo_242 rfl ?_
    refine v_ic_ne C 250 dL_nextSo_243 (by decide) (fun hc => ?_) (fun hc => ?_)
    · replace hsh := ite_n hc hsh
      refine v_iconst C dL_nextSo_250 (v := 0) (by decide) ?_
      obtain ⟨rfl, rfl⟩ := so_i hsh
      exact v_zret C (Or.inl rfl) dL_nextSo_251
    · replace hsh := ite_p hc hsh
      refine v_iconst C dL_nextSo_246 (v := 1) (by decide) ?_
      refine v_goto C 251 dL_nextSo_247 (by decide) ?_
      obtain ⟨rfl, rfl⟩ := so_i hsh
      exact v_zret C (Or.inr rfl) dL_nextSo_251
  have hj90 : ∀ (l1 : Int32) (l2 : Int32) (l3 : Int32) (l4 : Int32) (l5 : Int32) (G : gG) , sh_L_nextSo_j90 l1 l2 l3 l4 l5 G = some (r0, G0) → V p l e (rM 6 137) s m args below meth c (isW ad) D t ad 0 0 8 (Qi below D t ad args s r0 G0) G 90 [some (.ref (ad 70)), some (.int l1), some (.int l2), some (.int l3), some (.int l4), some (.int l5), none, none] [] := by
    intro l1 l2 l3 l4 l5 G hsh
    unfold sh_L_nextSo_j90 at hsh
    refine v_aloadn C dL_nextSo_90 rfl ?_
    refine v_iconst C dL_nextSo_91 (v := 1) (by decide) ?_
    obtain ⟨r40, G41, e39, hsh⟩ := obi_e hsh
    refine v_callI (nP := 1) (k := 70) C (by decide) rfl rfl (c_X3_pass l D t ad hI  e39) k356 k353 k354 k355 k1 yo_X3_pass ⟨Nat.le_of_ble_eq_true rfl, Nat.le_of_ble_eq_true rfl, rfl, rfl, Nat.zero_le _, Nat.zero_le _⟩ rfl rfl (Nat.le_of_ble_eq_true rfl) dL_nextSo_92 ?_
    refine v_if_le C 102 dL_nextSo_95 (by decide) (fun hc => ?_) (fun hc => ?_)
    · replace hsh := ite_p hc hsh
      refine v_iconst C dL_nextSo_102 (v := 0) (by decide) ?_
      refine v_istore C dL_nextSo_103 (by decide) ?_
      refine v_iconst C dL_nextSo_105 (v := 0) (by decide) ?_
      refine v_istore C dL_nextSo_106 (by decide) ?_
      refine v_wk (lp_L_nextSo_108 C hI (fun l1 l3 l4 l5 l6 G hsh => ?_) FU _ _ _ _ _ _ _ _ hsh) (wk_of (And.intro rfl (And.intro rfl (And.intro rfl (And.intro rfl (And.intro rfl (And.intro rfl (And.intro rfl (And.intro rfl trivial)))))))))
      refine v_iload C dL_nextSo_189 rfl ?_
      refine v_if_eq C 250 dL_nextSo_191 (by decide) (fun hc => ?_) (fun hc => ?_)
      · replace hsh := ite_p hc hsh
        refine v_iconst C dL_nextSo_250 (v := 0) (by decide) ?_
        obtain ⟨rfl, rfl⟩ := so_i hsh
        exact v_zret C (Or.inl rfl) dL_nextSo_251
      · replace hsh := ite_n hc hsh
        refine v_aloadn C dL_nextSo_194 rfl ?_
        refine v_iconst C dL_nextSo_195 (v := 5) (by decide) ?_
        obtain ⟨r43, e42, hsh⟩ := obp_e hsh
        refine v_callI (nP := 1) (k := 70) C (by decide) rfl rfl (c_X3_count l D t ad hI  e42) k283 k280 k281 k282 k1 yo_X3_count ⟨Nat.le_of_ble_eq_true rfl, Nat.le_of_ble_eq_true rfl, rfl, rfl, Nat.zero_le _, Nat.zero_le _⟩ rfl rfl (Nat.le_of_ble_eq_true rfl) dL_nextSo_196 ?_
        refine v_iload C dL_nextSo_199 rfl ?_
        refine v_iload C dL_nextSo_201 rfl ?_
        refine v_iadd C dL_nextSo_203 ?_
        refine v_ic_ne C 250 dL_nextSo_204 (by decide) (fun hc => ?_) (fun hc => ?_)
        · replace hsh := ite_n hc hsh
          refine v_iconst C dL_nextSo_250 (v := 0) (by decide) ?_
          obtain ⟨rfl, rfl⟩ := so_i hsh
          exact v_zret C (Or.inl rfl) dL_nextSo_251
        · replace hsh := ite_p hc hsh
          refine v_aloadn C dL_nextSo_207 rfl ?_
          refine v_iconst C dL_nextSo_208 (v := 0) (by decide) ?_
          obtain ⟨r45, e44, hsh⟩ := obp_e hsh
          refine v_callI (nP := 1) (k := 70) C (by decide) rfl rfl (c_X3_count l D t ad hI  e44) k283 k280 k281 k282 k1 yo_X3_count ⟨Nat.le_of_ble_eq_true rfl, Nat.le_of_ble_eq_true rfl, rfl, rfl, Nat.zero_le _, Nat.zero_le _⟩ rfl rfl (Nat.le_of_ble_eq_true rfl) dL_nextSo_209 ?_
          refine v_iloadn C dL_nextSo_212 rfl ?_
          refine v_iloadn C dL_nextSo_213 rfl ?_
          refine v_iadd C dL_nextSo_214 ?_
          refine v_ic_ne C 250 dL_nextSo_215 (by decide) (fun hc => ?_) (fun hc => ?_)
          · replace hsh := ite_n hc hsh
            refine v_iconst C dL_nextSo_250 (v := 0) (by decide) ?_
            obtain ⟨rfl, rfl⟩ := so_i hsh
            exact v_zret C (Or.inl rfl) dL_nextSo_251
          · replace hsh := ite_p hc hsh
            refine v_aloadn C dL_nextSo_218 rfl ?_
            obtain ⟨r47, G48, e46, hsh⟩ := obi_e hsh
            refine v_callI (nP := 0) (k := 70) C (by decide) rfl rfl (c_X3_undo l D t ad hI  e46) k378 k375 k376 k377 k1 yo_X3_undo ⟨Nat.le_of_ble_eq_true rfl, Nat.le_of_ble_eq_true rfl, rfl, rfl, Nat.zero_le _, Nat.zero_le _⟩ rfl rfl (Nat.le_of_ble_eq_true rfl) dL_nextSo_219 ?_
            refine v_if_lt C 250 dL_nextSo_222 (by decide) (fun hc => ?_) (fun hc => ?_)
            · replace hsh := ite_p hc hsh
              refine v_iconst C dL_nextSo_250 (v := 0) (by decide) ?_
              obtain ⟨rfl, rfl⟩ := so_i hsh
              exact v_zret C (Or.inl rfl) dL_nextSo_251
            · replace hsh := ite_n hc hsh
              refine v_iloadn C dL_nextSo_225 rfl ?_
              refine v_iconst C dL_nextSo_226 (v := 1) (by decide) ?_
              refine v_ic_eq C 237 dL_nextSo_227 (by decide) (fun hc => ?_) (fun hc => ?_)
              · replace hsh := ite_p hc hsh
                exact v_wk (hj237 _ _ hsh) (wk_of (And.intro rfl (And.intro rfl trivial)))
              · replace hsh := ite_n hc hsh
                refine v_aloadn C dL_nextSo_230 rfl ?_
                obtain ⟨r50, G51, e49, hsh⟩ := obi_e hsh
                refine v_callI (nP := 0) (k := 70) C (by decide) rfl rfl (c_X3_undo l D t ad hI  e49) k378 k375 k376 k377 k1 yo_X3_undo ⟨Nat.le_of_ble_eq_true rfl, Nat.le_of_ble_eq_true rfl, rfl, rfl, Nat.zero_le _, Nat.zero_le _⟩ rfl rfl (Nat.le_of_ble_eq_true rfl) dL_nextSo_231 ?_
                refine v_if_lt C 250 dL_nextSo_234 (by decide) (fun hc => ?_) (fun hc => ?_)
                · replace hsh := ite_p hc hsh
                  refine v_iconst C dL_nextSo_250 (v := 0) (by decide) ?_
                  obtain ⟨rfl, rfl⟩ := so_i hsh
                  exact v_zret C (Or.inl rfl) dL_nextSo_251
                · replace hsh := ite_n hc hsh
                  exact v_wk (hj237 _ _ hsh) (wk_of (And.intro rfl (And.intro rfl trivial)))
    · replace hsh := ite_n hc hsh
      refine v_iconst C dL_nextSo_98 (v := 1) (by decide) ?_
      refine v_goto C 103 dL_nextSo_99 (by decide) ?_
      refine v_istore C dL_nextSo_103 (by decide) ?_
      refine v_iconst C dL_nextSo_105 (v := 0) (by decide) ?_
      refine v_istore C dL_nextSo_106 (by decide) ?_
      refine v_wk (lp_L_nextSo_108 C hI (fun l1 l3 l4 l5 l6 G hsh => ?_) FU _ _ _ _ _ _ _ _ hsh) (wk_of (And.intro rfl (And.intro rfl (And.intro rfl (And.intro rfl (And.intro rfl (And.intro rfl (And.intro rfl (And.intro rfl trivial)))))))))
      refine v_iload C dL_nextSo_189 rfl ?_
      refine v_if_eq C 250 dL_nextSo_191 (by decide) (fun hc => ?_) (fun hc => ?_)
      · replace hsh := ite_p hc hsh
        refine v_iconst C dL_nextSo_250 (v := 0) (by decide) ?_
        obtain ⟨rfl, rfl⟩ := so_i hsh
        exact v_zret C (Or.inl rfl) dL_nextSo_251
      · replace hsh := ite_n hc hsh
        refine v_aloadn C dL_nextSo_194 rfl ?_
        refine v_iconst C dL_nextSo_195 (v := 5) (by decide) ?_
        obtain ⟨r53, e52, hsh⟩ := obp_e hsh
        refine v_callI (nP := 1) (k := 70) C (by decide) rfl rfl (c_X3_count l D t ad hI  e52) k283 k280 k281 k282 k1 yo_X3_count ⟨Nat.le_of_ble_eq_true rfl, Nat.le_of_ble_eq_true rfl, rfl, rfl, Nat.zero_le _, Nat.zero_le _⟩ rfl rfl (Nat.le_of_ble_eq_true rfl) dL_nextSo_196 ?_
        refine v_iload C dL_nextSo_199 rfl ?_
        refine v_iload C dL_nextSo_201 rfl ?_
        refine v_iadd C dL_nextSo_203 ?_
        refine v_ic_ne C 250 dL_nextSo_204 (by decide) (fun hc => ?_) (fun hc => ?_)
        · replace hsh := ite_n hc hsh
          refine v_iconst C dL_nextSo_250 (v := 0) (by decide) ?_
          obtain ⟨rfl, rfl⟩ := so_i hsh
          exact v_zret C (Or.inl rfl) dL_nextSo_251
        · replace hsh := ite_p hc hsh
          refine v_aloadn C dL_nextSo_207 rfl ?_
          refine v_iconst C dL_nextSo_208 (v := 0) (by decide) ?_
          obtain ⟨r55, e54, hsh⟩ := obp_e hsh
          refine v_callI (nP := 1) (k := 70) C (by decide) rfl rfl (c_X3_count l D t ad hI  e54) k283 k280 k281 k282 k1 yo_X3_count ⟨Nat.le_of_ble_eq_true rfl, Nat.le_of_ble_eq_true rfl, rfl, rfl, Nat.zero_le _, Nat.zero_le _⟩ rfl rfl (Nat.le_of_ble_eq_true rfl) dL_nextSo_209 ?_
          refine v_iloadn C dL_nextSo_212 rfl ?_
          refine v_iloadn C dL_nextSo_213 rfl ?_
          refine v_iadd C dL_nextSo_214 ?_
          refine v_ic_ne C 250 dL_nextSo_215 (by decide) (fun hc => ?_) (fun hc => ?_)
          · replace hsh := ite_n hc hsh
            refine v_iconst C dL_nextSo_250 (v := 0) (by decide) ?_
            obtain ⟨rfl, rfl⟩ := so_i hsh
            exact v_zret C (Or.inl rfl) dL_nextSo_251
          · replace hsh := ite_p hc hsh
            refine v_aloadn C dL_nextSo_218 rfl ?_
            obtain ⟨r57, G58, e56, hsh⟩ := obi_e hsh
            refine v_callI (nP := 0) (k := 70) C (by decide) rfl rfl (c_X3_undo l D t ad hI  e56) k378 k375 k376 k377 k1 yo_X3_undo ⟨Nat.le_of_ble_eq_true rfl, Nat.le_of_ble_eq_true rfl, rfl, rfl, Nat.zero_le _, Nat.zero_le _⟩ rfl rfl (Nat.le_of_ble_eq_true rfl) dL_nextSo_219 ?_
            refine v_if_lt C 250 dL_nextSo_222 (by decide) (fun hc => ?_) (fun hc => ?_)
            · replace hsh := ite_p hc hsh
              refine v_iconst C dL_nextSo_250 (v := 0) (by decide) ?_
              obtain ⟨rfl, rfl⟩ := so_i hsh
              exact v_zret C (Or.inl rfl) dL_nextSo_251
            · replace hsh := ite_n hc hsh
              refine v_iloadn C dL_nextSo_225 rfl ?_
              refine v_iconst C dL_nextSo_226 (v := 1) (by decide) ?_
              refine v_ic_eq C 237 dL_nextSo_227 (by decide) (fun hc => ?_) (fun hc => ?_)
              · replace hsh := ite_p hc hsh
                exact v_wk (hj237 _ _ hsh) (wk_of (And.intro rfl (And.intro rfl trivial)))
              · replace hsh := ite_n hc hsh
                refine v_aloadn C dL_nextSo_230 rfl ?_
                obtain ⟨r60, G61, e59, hsh⟩ := obi_e hsh
                refine v_callI (nP := 0) (k := 70) C (by decide) rfl rfl (c_X3_undo l D t ad hI  e59) k378 k375 k376 k377 k1 yo_X3_undo ⟨Nat.le_of_ble_eq_true rfl, Nat.le_of_ble_eq_true rfl, rfl, rfl, Nat.zero_le _, Nat.zero_le _⟩ rfl rfl (Nat.le_of_ble_eq_true rfl) dL_nextSo_231 ?_
                refine v_if_lt C 250 dL_nextSo_234 (by decide) (fun hc => ?_) (fun hc => ?_)
                · replace hsh := ite_p hc hsh
                  refine v_iconst C dL_nextSo_250 (v := 0) (by decide) ?_
                  obtain ⟨rfl, rfl⟩ := so_i hsh
                  exact v_zret C (Or.inl rfl) dL_nextSo_251
                · replace hsh := ite_n hc hsh
                  exact v_wk (hj237 _ _ hsh) (wk_of (And.intro rfl (And.intro rfl trivial)))
  refine v_aloadn C dL_nextSo_0 rfl ?_
  refine v_iconst C dL_nextSo_1 (v := 0) (by decide) ?_
  obtain ⟨r2, G3, e1, hsh⟩ := obi_e hsh
  refine v_callI (nP := 1) (k := 70) C (by decide) rfl rfl (c_X3_next l D t ad hI  e1) k336 k333 k334 k335 k1 yo_X3_next ⟨Nat.le_of_ble_eq_true rfl, Nat.le_of_ble_eq_true rfl, rfl, rfl, Nat.zero_le _, Nat.zero_le _⟩ rfl rfl (Nat.le_of_ble_eq_true rfl) dL_nextSo_2 ?_
  refine v_istoren C dL_nextSo_5 (by decide) ?_
  refine v_aloadn C dL_nextSo_6 rfl ?_
  refine v_iconst C dL_nextSo_7 (v := 1) (by decide) ?_
  obtain ⟨r5, G6, e4, hsh⟩ := obi_e hsh
  refine v_callI (nP := 1) (k := 70) C (by decide) rfl rfl (c_X3_next l D t ad hI  e4) k336 k333 k334 k335 k1 yo_X3_next ⟨Nat.le_of_ble_eq_true rfl, Nat.le_of_ble_eq_true rfl, rfl, rfl, Nat.zero_le _, Nat.zero_le _⟩ rfl rfl (Nat.le_of_ble_eq_true rfl) dL_nextSo_8 ?_
  refine v_istoren C dL_nextSo_11 (by decide) ?_
  refine v_aloadn C dL_nextSo_12 rfl ?_
  refine v_iconst C dL_nextSo_13 (v := 0) (by decide) ?_
  obtain ⟨r8, e7, hsh⟩ := obp_e hsh
  refine v_callI (nP := 1) (k := 70) C (by decide) rfl rfl (c_X3_count l D t ad hI  e7) k283 k280 k281 k282 k1 yo_X3_count ⟨Nat.le_of_ble_eq_true rfl, Nat.le_of_ble_eq_true rfl, rfl, rfl, Nat.zero_le _, Nat.zero_le _⟩ rfl rfl (Nat.le_of_ble_eq_true rfl) dL_nextSo_14 ?_
  refine v_istoren C dL_nextSo_17 (by decide) ?_
  refine v_aloadn C dL_nextSo_18 rfl ?_
  refine v_iconst C dL_nextSo_19 (v := 5) (by decide) ?_
  obtain ⟨r10, e9, hsh⟩ := obp_e hsh
  refine v_callI (nP := 1) (k := 70) C (by decide) rfl rfl (c_X3_count l D t ad hI  e9) k283 k280 k281 k282 k1 yo_X3_count ⟨Nat.le_of_ble_eq_true rfl, Nat.le_of_ble_eq_true rfl, rfl, rfl, Nat.zero_le _, Nat.zero_le _⟩ rfl rfl (Nat.le_of_ble_eq_true rfl) dL_nextSo_20 ?_
  refine v_istore C dL_nextSo_23 (by decide) ?_
  refine v_iconst C dL_nextSo_25 (v := 0) (by decide) ?_
  refine v_istore C dL_nextSo_26 (by decide) ?_
  refine v_iloadn C dL_nextSo_28 rfl ?_
  refine v_bipush C dL_nextSo_29 (v := -5) (by decide) ?_
  refine v_ic_ne C 54 dL_nextSo_31 (by decide) (fun hc => ?_) (fun hc => ?_)
  · replace hsh := ite_n hc hsh
    refine v_iloadn C dL_nextSo_54 rfl ?_
    refine v_if_le C 102 dL_nextSo_55 (by decide) (fun hc => ?_) (fun hc => ?_)
    · replace hsh := ite_p hc hsh
      refine v_iconst C dL_nextSo_102 (v := 0) (by decide) ?_
      refine v_istore C dL_nextSo_103 (by decide) ?_
      refine v_iconst C dL_nextSo_105 (v := 0) (by decide) ?_
      refine v_istore C dL_nextSo_106 (by decide) ?_
      refine v_wk (lp_L_nextSo_108 C hI (fun l1 l3 l4 l5 l6 G hsh => ?_) FU _ _ _ _ _ _ _ _ hsh) (wk_of (And.intro rfl (And.intro rfl (And.intro rfl (And.intro rfl (And.intro rfl (And.intro rfl (And.intro rfl (And.intro rfl trivial)))))))))
      refine v_iload C dL_nextSo_189 rfl ?_
      refine v_if_eq C 250 dL_nextSo_191 (by decide) (fun hc => ?_) (fun hc => ?_)
      · replace hsh := ite_p hc hsh
        refine v_iconst C dL_nextSo_250 (v := 0) (by decide) ?_
        obtain ⟨rfl, rfl⟩ := so_i hsh
        exact v_zret C (Or.inl rfl) dL_nextSo_251
      · replace hsh := ite_n hc hsh
        refine v_aloadn C dL_nextSo_194 rfl ?_
        refine v_iconst C dL_nextSo_195 (v := 5) (by decide) ?_
        obtain ⟨r18, e17, hsh⟩ := obp_e hsh
        refine v_callI (nP := 1) (k := 70) C (by decide) rfl rfl (c_X3_count l D t ad hI  e17) k283 k280 k281 k282 k1 yo_X3_count ⟨Nat.le_of_ble_eq_true rfl, Nat.le_of_ble_eq_true rfl, rfl, rfl, Nat.zero_le _, Nat.zero_le _⟩ rfl rfl (Nat.le_of_ble_eq_true rfl) dL_nextSo_196 ?_
        refine v_iload C dL_nextSo_199 rfl ?_
        refine v_iload C dL_nextSo_201 rfl ?_
        refine v_iadd C dL_nextSo_203 ?_
        refine v_ic_ne C 250 dL_nextSo_204 (by decide) (fun hc => ?_) (fun hc => ?_)
        · replace hsh := ite_n hc hsh
          refine v_iconst C dL_nextSo_250 (v := 0) (by decide) ?_
          obtain ⟨rfl, rfl⟩ := so_i hsh
          exact v_zret C (Or.inl rfl) dL_nextSo_251
        · replace hsh := ite_p hc hsh
          refine v_aloadn C dL_nextSo_207 rfl ?_
          refine v_iconst C dL_nextSo_208 (v := 0) (by decide) ?_
          obtain ⟨r20, e19, hsh⟩ := obp_e hsh
          refine v_callI (nP := 1) (k := 70) C (by decide) rfl rfl (c_X3_count l D t ad hI  e19) k283 k280 k281 k282 k1 yo_X3_count ⟨Nat.le_of_ble_eq_true rfl, Nat.le_of_ble_eq_true rfl, rfl, rfl, Nat.zero_le _, Nat.zero_le _⟩ rfl rfl (Nat.le_of_ble_eq_true rfl) dL_nextSo_209 ?_
          refine v_iloadn C dL_nextSo_212 rfl ?_
          refine v_iloadn C dL_nextSo_213 rfl ?_
          refine v_iadd C dL_nextSo_214 ?_
          refine v_ic_ne C 250 dL_nextSo_215 (by decide) (fun hc => ?_) (fun hc => ?_)
          · replace hsh := ite_n hc hsh
            refine v_iconst C dL_nextSo_250 (v := 0) (by decide) ?_
            obtain ⟨rfl, rfl⟩ := so_i hsh
            exact v_zret C (Or.inl rfl) dL_nextSo_251
          · replace hsh := ite_p hc hsh
            refine v_aloadn C dL_nextSo_218 rfl ?_
            obtain ⟨r22, G23, e21, hsh⟩ := obi_e hsh
            refine v_callI (nP := 0) (k := 70) C (by decide) rfl rfl (c_X3_undo l D t ad hI  e21) k378 k375 k376 k377 k1 yo_X3_undo ⟨Nat.le_of_ble_eq_true rfl, Nat.le_of_ble_eq_true rfl, rfl, rfl, Nat.zero_le _, Nat.zero_le _⟩ rfl rfl (Nat.le_of_ble_eq_true rfl) dL_nextSo_219 ?_
            refine v_if_lt C 250 dL_nextSo_222 (by decide) (fun hc => ?_) (fun hc => ?_)
            · replace hsh := ite_p hc hsh
              refine v_iconst C dL_nextSo_250 (v := 0) (by decide) ?_
              obtain ⟨rfl, rfl⟩ := so_i hsh
              exact v_zret C (Or.inl rfl) dL_nextSo_251
            · replace hsh := ite_n hc hsh
              refine v_iloadn C dL_nextSo_225 rfl ?_
              refine v_iconst C dL_nextSo_226 (v := 1) (by decide) ?_
              refine v_ic_eq C 237 dL_nextSo_227 (by decide) (fun hc => ?_) (fun hc => ?_)
              · replace hsh := ite_p hc hsh
                exact v_wk (hj237 _ _ hsh) (wk_of (And.intro rfl (And.intro rfl trivial)))
              · replace hsh := ite_n hc hsh
                refine v_aloadn C dL_nextSo_230 rfl ?_
                obtain ⟨r27, G28, e26, hsh⟩ := obi_e hsh
                refine v_callI (nP := 0) (k := 70) C (by decide) rfl rfl (c_X3_undo l D t ad hI  e26) k378 k375 k376 k377 k1 yo_X3_undo ⟨Nat.le_of_ble_eq_true rfl, Nat.le_of_ble_eq_true rfl, rfl, rfl, Nat.zero_le _, Nat.zero_le _⟩ rfl rfl (Nat.le_of_ble_eq_true rfl) dL_nextSo_231 ?_
                refine v_if_lt C 250 dL_nextSo_234 (by decide) (fun hc => ?_) (fun hc => ?_)
                · replace hsh := ite_p hc hsh
                  refine v_iconst C dL_nextSo_250 (v := 0) (by decide) ?_
                  obtain ⟨rfl, rfl⟩ := so_i hsh
                  exact v_zret C (Or.inl rfl) dL_nextSo_251
                · replace hsh := ite_n hc hsh
                  exact v_wk (hj237 _ _ hsh) (wk_of (And.intro rfl (And.intro rfl trivial)))
    · replace hsh := ite_n hc hsh
      refine v_iloadn C dL_nextSo_58 rfl ?_
      refine v_sipush C dL_nextSo_59 (v := 400) (by decide) ?_
      refine v_ic_gt C 102 dL_nextSo_62 (by decide) (fun hc => ?_) (fun hc => ?_)
      · replace hsh := ite_p hc hsh
        refine v_iconst C dL_nextSo_102 (v := 0) (by decide) ?_
        refine v_istore C dL_nextSo_103 (by decide) ?_
        refine v_iconst C dL_nextSo_105 (v := 0) (by decide) ?_
        refine v_istore C dL_nextSo_106 (by decide) ?_
        refine v_wk (lp_L_nextSo_108 C hI (fun l1 l3 l4 l5 l6 G hsh => ?_) FU _ _ _ _ _ _ _ _ hsh) (wk_of (And.intro rfl (And.intro rfl (And.intro rfl (And.intro rfl (And.intro rfl (And.intro rfl (And.intro rfl (And.intro rfl trivial)))))))))
        refine v_iload C dL_nextSo_189 rfl ?_
        refine v_if_eq C 250 dL_nextSo_191 (by decide) (fun hc => ?_) (fun hc => ?_)
        · replace hsh := ite_p hc hsh
          refine v_iconst C dL_nextSo_250 (v := 0) (by decide) ?_
          obtain ⟨rfl, rfl⟩ := so_i hsh
          exact v_zret C (Or.inl rfl) dL_nextSo_251
        · replace hsh := ite_n hc hsh
          refine v_aloadn C dL_nextSo_194 rfl ?_
          refine v_iconst C dL_nextSo_195 (v := 5) (by decide) ?_
          obtain ⟨r30, e29, hsh⟩ := obp_e hsh
          refine v_callI (nP := 1) (k := 70) C (by decide) rfl rfl (c_X3_count l D t ad hI  e29) k283 k280 k281 k282 k1 yo_X3_count ⟨Nat.le_of_ble_eq_true rfl, Nat.le_of_ble_eq_true rfl, rfl, rfl, Nat.zero_le _, Nat.zero_le _⟩ rfl rfl (Nat.le_of_ble_eq_true rfl) dL_nextSo_196 ?_
          refine v_iload C dL_nextSo_199 rfl ?_
          refine v_iload C dL_nextSo_201 rfl ?_
          refine v_iadd C dL_nextSo_203 ?_
          refine v_ic_ne C 250 dL_nextSo_204 (by decide) (fun hc => ?_) (fun hc => ?_)
          · replace hsh := ite_n hc hsh
            refine v_iconst C dL_nextSo_250 (v := 0) (by decide) ?_
            obtain ⟨rfl, rfl⟩ := so_i hsh
            exact v_zret C (Or.inl rfl) dL_nextSo_251
          · replace hsh := ite_p hc hsh
            refine v_aloadn C dL_nextSo_207 rfl ?_
            refine v_iconst C dL_nextSo_208 (v := 0) (by decide) ?_
            obtain ⟨r32, e31, hsh⟩ := obp_e hsh
            refine v_callI (nP := 1) (k := 70) C (by decide) rfl rfl (c_X3_count l D t ad hI  e31) k283 k280 k281 k282 k1 yo_X3_count ⟨Nat.le_of_ble_eq_true rfl, Nat.le_of_ble_eq_true rfl, rfl, rfl, Nat.zero_le _, Nat.zero_le _⟩ rfl rfl (Nat.le_of_ble_eq_true rfl) dL_nextSo_209 ?_
            refine v_iloadn C dL_nextSo_212 rfl ?_
            refine v_iloadn C dL_nextSo_213 rfl ?_
            refine v_iadd C dL_nextSo_214 ?_
            refine v_ic_ne C 250 dL_nextSo_215 (by decide) (fun hc => ?_) (fun hc => ?_)
            · replace hsh := ite_n hc hsh
              refine v_iconst C dL_nextSo_250 (v := 0) (by decide) ?_
              obtain ⟨rfl, rfl⟩ := so_i hsh
              exact v_zret C (Or.inl rfl) dL_nextSo_251
            · replace hsh := ite_p hc hsh
              refine v_aloadn C dL_nextSo_218 rfl ?_
              obtain ⟨r34, G35, e33, hsh⟩ := obi_e hsh
              refine v_callI (nP := 0) (k := 70) C (by decide) rfl rfl (c_X3_undo l D t ad hI  e33) k378 k375 k376 k377 k1 yo_X3_undo ⟨Nat.le_of_ble_eq_true rfl, Nat.le_of_ble_eq_true rfl, rfl, rfl, Nat.zero_le _, Nat.zero_le _⟩ rfl rfl (Nat.le_of_ble_eq_true rfl) dL_nextSo_219 ?_
              refine v_if_lt C 250 dL_nextSo_222 (by decide) (fun hc => ?_) (fun hc => ?_)
              · replace hsh := ite_p hc hsh
                refine v_iconst C dL_nextSo_250 (v := 0) (by decide) ?_
                obtain ⟨rfl, rfl⟩ := so_i hsh
                exact v_zret C (Or.inl rfl) dL_nextSo_251
              · replace hsh := ite_n hc hsh
                refine v_iloadn C dL_nextSo_225 rfl ?_
                refine v_iconst C dL_nextSo_226 (v := 1) (by decide) ?_
                refine v_ic_eq C 237 dL_nextSo_227 (by decide) (fun hc => ?_) (fun hc => ?_)
                · replace hsh := ite_p hc hsh
                  exact v_wk (hj237 _ _ hsh) (wk_of (And.intro rfl (And.intro rfl trivial)))
                · replace hsh := ite_n hc hsh
                  refine v_aloadn C dL_nextSo_230 rfl ?_
                  obtain ⟨r37, G38, e36, hsh⟩ := obi_e hsh
                  refine v_callI (nP := 0) (k := 70) C (by decide) rfl rfl (c_X3_undo l D t ad hI  e36) k378 k375 k376 k377 k1 yo_X3_undo ⟨Nat.le_of_ble_eq_true rfl, Nat.le_of_ble_eq_true rfl, rfl, rfl, Nat.zero_le _, Nat.zero_le _⟩ rfl rfl (Nat.le_of_ble_eq_true rfl) dL_nextSo_231 ?_
                  refine v_if_lt C 250 dL_nextSo_234 (by decide) (fun hc => ?_) (fun hc => ?_)
                  · replace hsh := ite_p hc hsh
                    refine v_iconst C dL_nextSo_250 (v := 0) (by decide) ?_
                    obtain ⟨rfl, rfl⟩ := so_i hsh
                    exact v_zret C (Or.inl rfl) dL_nextSo_251
                  · replace hsh := ite_n hc hsh
                    exact v_wk (hj237 _ _ hsh) (wk_of (And.intro rfl (And.intro rfl trivial)))
      · replace hsh := ite_n hc hsh
        refine v_iloadn C dL_nextSo_65 rfl ?_
        refine v_iconst C dL_nextSo_66 (v := 1) (by decide) ?_
        refine v_ic_eq C 90 dL_nextSo_67 (by decide) (fun hc => ?_) (fun hc => ?_)
        · replace hsh := ite_p hc hsh
          exact v_wk (hj90 _ _ _ _ _ _ hsh) (wk_of (And.intro rfl (And.intro rfl (And.intro rfl (And.intro rfl (And.intro rfl (And.intro rfl trivial)))))))
        · replace hsh := ite_n hc hsh
          refine v_aloadn C dL_nextSo_70 rfl ?_
          refine v_iloadn C dL_nextSo_71 rfl ?_
          refine v_iconst C dL_nextSo_72 (v := 1) (by decide) ?_
          refine v_isub C dL_nextSo_73 ?_
          obtain ⟨r63, G64, e62, hsh⟩ := obi_e hsh
          refine v_callI (nP := 1) (k := 70) C (by decide) rfl rfl (c_X3_pass l D t ad hI  e62) k356 k353 k354 k355 k1 yo_X3_pass ⟨Nat.le_of_ble_eq_true rfl, Nat.le_of_ble_eq_true rfl, rfl, rfl, Nat.zero_le _, Nat.zero_le _⟩ rfl rfl (Nat.le_of_ble_eq_true rfl) dL_nextSo_74 ?_
          refine v_if_ne C 102 dL_nextSo_77 (by decide) (fun hc => ?_) (fun hc => ?_)
          · replace hsh := ite_n hc hsh
            refine v_iconst C dL_nextSo_102 (v := 0) (by decide) ?_
            refine v_istore C dL_nextSo_103 (by decide) ?_
            refine v_iconst C dL_nextSo_105 (v := 0) (by decide) ?_
            refine v_istore C dL_nextSo_106 (by decide) ?_
            refine v_wk (lp_L_nextSo_108 C hI (fun l1 l3 l4 l5 l6 G hsh => ?_) FU _ _ _ _ _ _ _ _ hsh) (wk_of (And.intro rfl (And.intro rfl (And.intro rfl (And.intro rfl (And.intro rfl (And.intro rfl (And.intro rfl (And.intro rfl trivial)))))))))
            refine v_iload C dL_nextSo_189 rfl ?_
            refine v_if_eq C 250 dL_nextSo_191 (by decide) (fun hc => ?_) (fun hc => ?_)
            · replace hsh := ite_p hc hsh
              refine v_iconst C dL_nextSo_250 (v := 0) (by decide) ?_
              obtain ⟨rfl, rfl⟩ := so_i hsh
              exact v_zret C (Or.inl rfl) dL_nextSo_251
            · replace hsh := ite_n hc hsh
              refine v_aloadn C dL_nextSo_194 rfl ?_
              refine v_iconst C dL_nextSo_195 (v := 5) (by decide) ?_
              obtain ⟨r66, e65, hsh⟩ := obp_e hsh
              refine v_callI (nP := 1) (k := 70) C (by decide) rfl rfl (c_X3_count l D t ad hI  e65) k283 k280 k281 k282 k1 yo_X3_count ⟨Nat.le_of_ble_eq_true rfl, Nat.le_of_ble_eq_true rfl, rfl, rfl, Nat.zero_le _, Nat.zero_le _⟩ rfl rfl (Nat.le_of_ble_eq_true rfl) dL_nextSo_196 ?_
              refine v_iload C dL_nextSo_199 rfl ?_
              refine v_iload C dL_nextSo_201 rfl ?_
              refine v_iadd C dL_nextSo_203 ?_
              refine v_ic_ne C 250 dL_nextSo_204 (by decide) (fun hc => ?_) (fun hc => ?_)
              · replace hsh := ite_n hc hsh
                refine v_iconst C dL_nextSo_250 (v := 0) (by decide) ?_
                obtain ⟨rfl, rfl⟩ := so_i hsh
                exact v_zret C (Or.inl rfl) dL_nextSo_251
              · replace hsh := ite_p hc hsh
                refine v_aloadn C dL_nextSo_207 rfl ?_
                refine v_iconst C dL_nextSo_208 (v := 0) (by decide) ?_
                obtain ⟨r68, e67, hsh⟩ := obp_e hsh
                refine v_callI (nP := 1) (k := 70) C (by decide) rfl rfl (c_X3_count l D t ad hI  e67) k283 k280 k281 k282 k1 yo_X3_count ⟨Nat.le_of_ble_eq_true rfl, Nat.le_of_ble_eq_true rfl, rfl, rfl, Nat.zero_le _, Nat.zero_le _⟩ rfl rfl (Nat.le_of_ble_eq_true rfl) dL_nextSo_209 ?_
                refine v_iloadn C dL_nextSo_212 rfl ?_
                refine v_iloadn C dL_nextSo_213 rfl ?_
                refine v_iadd C dL_nextSo_214 ?_
                refine v_ic_ne C 250 dL_nextSo_215 (by decide) (fun hc => ?_) (fun hc => ?_)
                · replace hsh := ite_n hc hsh
                  refine v_iconst C dL_nextSo_250 (v := 0) (by decide) ?_
                  obtain ⟨rfl, rfl⟩ := so_i hsh
                  exact v_zret C (Or.inl rfl) dL_nextSo_251
                · replace hsh := ite_p hc hsh
                  refine v_aloadn C dL_nextSo_218 rfl ?_
                  obtain ⟨r70, G71, e69, hsh⟩ := obi_e hsh
                  refine v_callI (nP := 0) (k := 70) C (by decide) rfl rfl (c_X3_undo l D t ad hI  e69) k378 k375 k376 k377 k1 yo_X3_undo ⟨Nat.le_of_ble_eq_true rfl, Nat.le_of_ble_eq_true rfl, rfl, rfl, Nat.zero_le _, Nat.zero_le _⟩ rfl rfl (Nat.le_of_ble_eq_true rfl) dL_nextSo_219 ?_
                  refine v_if_lt C 250 dL_nextSo_222 (by decide) (fun hc => ?_) (fun hc => ?_)
                  · replace hsh := ite_p hc hsh
                    refine v_iconst C dL_nextSo_250 (v := 0) (by decide) ?_
                    obtain ⟨rfl, rfl⟩ := so_i hsh
                    exact v_zret C (Or.inl rfl) dL_nextSo_251
                  · replace hsh := ite_n hc hsh
                    refine v_iloadn C dL_nextSo_225 rfl ?_
                    refine v_iconst C dL_nextSo_226 (v := 1) (by decide) ?_
                    refine v_ic_eq C 237 dL_nextSo_227 (by decide) (fun hc => ?_) (fun hc => ?_)
                    · replace hsh := ite_p hc hsh
                      exact v_wk (hj237 _ _ hsh) (wk_of (And.intro rfl (And.intro rfl trivial)))
                    · replace hsh := ite_n hc hsh
                      refine v_aloadn C dL_nextSo_230 rfl ?_
                      obtain ⟨r73, G74, e72, hsh⟩ := obi_e hsh
                      refine v_callI (nP := 0) (k := 70) C (by decide) rfl rfl (c_X3_undo l D t ad hI  e72) k378 k375 k376 k377 k1 yo_X3_undo ⟨Nat.le_of_ble_eq_true rfl, Nat.le_of_ble_eq_true rfl, rfl, rfl, Nat.zero_le _, Nat.zero_le _⟩ rfl rfl (Nat.le_of_ble_eq_true rfl) dL_nextSo_231 ?_
                      refine v_if_lt C 250 dL_nextSo_234 (by decide) (fun hc => ?_) (fun hc => ?_)
                      · replace hsh := ite_p hc hsh
                        refine v_iconst C dL_nextSo_250 (v := 0) (by decide) ?_
                        obtain ⟨rfl, rfl⟩ := so_i hsh
                        exact v_zret C (Or.inl rfl) dL_nextSo_251
                      · replace hsh := ite_n hc hsh
                        exact v_wk (hj237 _ _ hsh) (wk_of (And.intro rfl (And.intro rfl trivial)))
          · replace hsh := ite_p hc hsh
            refine v_aloadn C dL_nextSo_80 rfl ?_
            refine v_iconst C dL_nextSo_81 (v := 5) (by decide) ?_
            obtain ⟨r76, e75, hsh⟩ := obp_e hsh
            refine v_callI (nP := 1) (k := 70) C (by decide) rfl rfl (c_X3_count l D t ad hI  e75) k283 k280 k281 k282 k1 yo_X3_count ⟨Nat.le_of_ble_eq_true rfl, Nat.le_of_ble_eq_true rfl, rfl, rfl, Nat.zero_le _, Nat.zero_le _⟩ rfl rfl (Nat.le_of_ble_eq_true rfl) dL_nextSo_82 ?_
            refine v_iload C dL_nextSo_85 rfl ?_
            refine v_ic_ne C 102 dL_nextSo_87 (by decide) (fun hc => ?_) (fun hc => ?_)
            · replace hsh := ite_n hc hsh
              refine v_iconst C dL_nextSo_102 (v := 0) (by decide) ?_
              refine v_istore C dL_nextSo_103 (by decide) ?_
              refine v_iconst C dL_nextSo_105 (v := 0) (by decide) ?_
              refine v_istore C dL_nextSo_106 (by decide) ?_
              refine v_wk (lp_L_nextSo_108 C hI (fun l1 l3 l4 l5 l6 G hsh => ?_) FU _ _ _ _ _ _ _ _ hsh) (wk_of (And.intro rfl (And.intro rfl (And.intro rfl (And.intro rfl (And.intro rfl (And.intro rfl (And.intro rfl (And.intro rfl trivial)))))))))
              refine v_iload C dL_nextSo_189 rfl ?_
              refine v_if_eq C 250 dL_nextSo_191 (by decide) (fun hc => ?_) (fun hc => ?_)
              · replace hsh := ite_p hc hsh
                refine v_iconst C dL_nextSo_250 (v := 0) (by decide) ?_
                obtain ⟨rfl, rfl⟩ := so_i hsh
                exact v_zret C (Or.inl rfl) dL_nextSo_251
              · replace hsh := ite_n hc hsh
                refine v_aloadn C dL_nextSo_194 rfl ?_
                refine v_iconst C dL_nextSo_195 (v := 5) (by decide) ?_
                obtain ⟨r78, e77, hsh⟩ := obp_e hsh
                refine v_callI (nP := 1) (k := 70) C (by decide) rfl rfl (c_X3_count l D t ad hI  e77) k283 k280 k281 k282 k1 yo_X3_count ⟨Nat.le_of_ble_eq_true rfl, Nat.le_of_ble_eq_true rfl, rfl, rfl, Nat.zero_le _, Nat.zero_le _⟩ rfl rfl (Nat.le_of_ble_eq_true rfl) dL_nextSo_196 ?_
                refine v_iload C dL_nextSo_199 rfl ?_
                refine v_iload C dL_nextSo_201 rfl ?_
                refine v_iadd C dL_nextSo_203 ?_
                refine v_ic_ne C 250 dL_nextSo_204 (by decide) (fun hc => ?_) (fun hc => ?_)
                · replace hsh := ite_n hc hsh
                  refine v_iconst C dL_nextSo_250 (v := 0) (by decide) ?_
                  obtain ⟨rfl, rfl⟩ := so_i hsh
                  exact v_zret C (Or.inl rfl) dL_nextSo_251
                · replace hsh := ite_p hc hsh
                  refine v_aloadn C dL_nextSo_207 rfl ?_
                  refine v_iconst C dL_nextSo_208 (v := 0) (by decide) ?_
                  obtain ⟨r80, e79, hsh⟩ := obp_e hsh
                  refine v_callI (nP := 1) (k := 70) C (by decide) rfl rfl (c_X3_count l D t ad hI  e79) k283 k280 k281 k282 k1 yo_X3_count ⟨Nat.le_of_ble_eq_true rfl, Nat.le_of_ble_eq_true rfl, rfl, rfl, Nat.zero_le _, Nat.zero_le _⟩ rfl rfl (Nat.le_of_ble_eq_true rfl) dL_nextSo_209 ?_
                  refine v_iloadn C dL_nextSo_212 rfl ?_
                  refine v_iloadn C dL_nextSo_213 rfl ?_
                  refine v_iadd C dL_nextSo_214 ?_
                  refine v_ic_ne C 250 dL_nextSo_215 (by decide) (fun hc => ?_) (fun hc => ?_)
                  · replace hsh := ite_n hc hsh
                    refine v_iconst C dL_nextSo_250 (v := 0) (by decide) ?_
                    obtain ⟨rfl, rfl⟩ := so_i hsh
                    exact v_zret C (Or.inl rfl) dL_nextSo_251
                  · replace hsh := ite_p hc hsh
                    refine v_aloadn C dL_nextSo_218 rfl ?_
                    obtain ⟨r82, G83, e81, hsh⟩ := obi_e hsh
                    refine v_callI (nP := 0) (k := 70) C (by decide) rfl rfl (c_X3_undo l D t ad hI  e81) k378 k375 k376 k377 k1 yo_X3_undo ⟨Nat.le_of_ble_eq_true rfl, Nat.le_of_ble_eq_true rfl, rfl, rfl, Nat.zero_le _, Nat.zero_le _⟩ rfl rfl (Nat.le_of_ble_eq_true rfl) dL_nextSo_219 ?_
                    refine v_if_lt C 250 dL_nextSo_222 (by decide) (fun hc => ?_) (fun hc => ?_)
                    · replace hsh := ite_p hc hsh
                      refine v_iconst C dL_nextSo_250 (v := 0) (by decide) ?_
                      obtain ⟨rfl, rfl⟩ := so_i hsh
                      exact v_zret C (Or.inl rfl) dL_nextSo_251
                    · replace hsh := ite_n hc hsh
                      refine v_iloadn C dL_nextSo_225 rfl ?_
                      refine v_iconst C dL_nextSo_226 (v := 1) (by decide) ?_
                      refine v_ic_eq C 237 dL_nextSo_227 (by decide) (fun hc => ?_) (fun hc => ?_)
                      · replace hsh := ite_p hc hsh
                        exact v_wk (hj237 _ _ hsh) (wk_of (And.intro rfl (And.intro rfl trivial)))
                      · replace hsh := ite_n hc hsh
                        refine v_aloadn C dL_nextSo_230 rfl ?_
                        obtain ⟨r85, G86, e84, hsh⟩ := obi_e hsh
                        refine v_callI (nP := 0) (k := 70) C (by decide) rfl rfl (c_X3_undo l D t ad hI  e84) k378 k375 k376 k377 k1 yo_X3_undo ⟨Nat.le_of_ble_eq_true rfl, Nat.le_of_ble_eq_true rfl, rfl, rfl, Nat.zero_le _, Nat.zero_le _⟩ rfl rfl (Nat.le_of_ble_eq_true rfl) dL_nextSo_231 ?_
                        refine v_if_lt C 250 dL_nextSo_234 (by decide) (fun hc => ?_) (fun hc => ?_)
                        · replace hsh := ite_p hc hsh
                          refine v_iconst C dL_nextSo_250 (v := 0) (by decide) ?_
                          obtain ⟨rfl, rfl⟩ := so_i hsh
                          exact v_zret C (Or.inl rfl) dL_nextSo_251
                        · replace hsh := ite_n hc hsh
                          exact v_wk (hj237 _ _ hsh) (wk_of (And.intro rfl (And.intro rfl trivial)))
            · replace hsh := ite_p hc hsh
              exact v_wk (hj90 _ _ _ _ _ _ hsh) (wk_of (And.intro rfl (And.intro rfl (And.intro rfl (And.intro rfl (And.intro rfl (And.intro rfl trivial)))))))
  · replace hsh := ite_p hc hsh
    refine v_iloadn C dL_nextSo_34 rfl ?_
    refine v_bipush C dL_nextSo_35 (v := -5) (by decide) ?_
    refine v_ic_ne C 52 dL_nextSo_37 (by decide) (fun hc => ?_) (fun hc => ?_)
    · replace hsh := ite_n hc hsh
      refine v_iconst C dL_nextSo_52 (v := 0) (by decide) ?_
      obtain ⟨rfl, rfl⟩ := so_i hsh
      exact v_zret C (Or.inl rfl) dL_nextSo_53
    · replace hsh := ite_p hc hsh
      refine v_aloadn C dL_nextSo_40 rfl ?_
      refine v_iconst C dL_nextSo_41 (v := 2) (by decide) ?_
      obtain ⟨r88, e87, hsh⟩ := obp_e hsh
      refine v_callI (nP := 1) (k := 70) C (by decide) rfl rfl (c_X3_count l D t ad hI  e87) k283 k280 k281 k282 k1 yo_X3_count ⟨Nat.le_of_ble_eq_true rfl, Nat.le_of_ble_eq_true rfl, rfl, rfl, Nat.zero_le _, Nat.zero_le _⟩ rfl rfl (Nat.le_of_ble_eq_true rfl) dL_nextSo_42 ?_
      refine v_if_ne C 52 dL_nextSo_45 (by decide) (fun hc => ?_) (fun hc => ?_)
      · replace hsh := ite_n hc hsh
        refine v_iconst C dL_nextSo_52 (v := 0) (by decide) ?_
        obtain ⟨rfl, rfl⟩ := so_i hsh
        exact v_zret C (Or.inl rfl) dL_nextSo_53
      · replace hsh := ite_p hc hsh
        refine v_iconst C dL_nextSo_48 (v := 1) (by decide) ?_
        refine v_goto C 53 dL_nextSo_49 (by decide) ?_
        obtain ⟨rfl, rfl⟩ := so_i hsh
        exact v_zret C (Or.inr rfl) dL_nextSo_53
theorem yo_L_nextSo : yOk yL_nextSo 1 := ⟨by decide, by decide, by decide +kernel⟩

def sh_L_togetherSo_j17 (l1 : Int32) (G : gG) : Option (Int32 × gG) := (if l1 = (0 : Int32) then some ((1 : Int32), G) else (if l1 = (-5 : Int32) then some ((1 : Int32), G) else (if (2000 : Int32) < l1 then some ((0 : Int32), G) else (obi (sh_X3_pass (999 : Int32) G) fun r5 G6 => (if r5 < (0 : Int32) then some ((0 : Int32), G6) else (obp (sh_X3_spread G6) fun r8 => (if r8 ≤ (0 : Int32) then some ((0 : Int32), G6) else (obi (sh_X3_togetherIn G6) fun r10 G11 => (if r10 = (l1 - (999 : Int32)) then (obi (sh_X3_undo G11) fun r13 G14 => (if r13 < (0 : Int32) then some ((0 : Int32), G14) else some ((1 : Int32), G14))) else some ((0 : Int32), G11))))))))))
def sh_L_togetherSo_j103 (l1 : Int32) (x0 : Int32) (G : gG) : Option (Int32 × gG) := (if x0 = (0 : Int32) then some ((0 : Int32), G) else (if l1 = (1 : Int32) then some ((1 : Int32), G) else (obi (sh_X3_pass (l1 - (1 : Int32)) G) fun r19 G20 => (if r19 < (0 : Int32) then some ((0 : Int32), G20) else (obp (sh_X3_spread G20) fun r22 => (if r22 ≤ (0 : Int32) then some ((0 : Int32), G20) else (obi (sh_X3_undo G20) fun r24 G25 => (if r24 < (0 : Int32) then some ((0 : Int32), G25) else some ((1 : Int32), G25)))))))))
def sh_L_togetherSo_j102 (l1 : Int32) (G : gG) : Option (Int32 × gG) := (sh_L_togetherSo_j103 l1 (0 : Int32) G)
def sh_L_togetherSo (G : gG) : Option (Int32 × gG) := (obi (sh_X3_togetherIn G) fun r2 G3 => (if r2 < (1 : Int32) then (sh_L_togetherSo_j17 r2 G3) else (if r2 ≤ (999 : Int32) then (obi (sh_X3_pass r2 G3) fun r16 G17 => (if r16 < (0 : Int32) then (sh_L_togetherSo_j102 r2 G17) else (obp (sh_X3_spread G17) fun r27 => (if r27 = (0 : Int32) then (obi (sh_X3_undo G17) fun r29 G30 => (if r29 < (0 : Int32) then (sh_L_togetherSo_j102 r2 G30) else (sh_L_togetherSo_j103 r2 (1 : Int32) G30))) else (sh_L_togetherSo_j102 r2 G17))))) else (sh_L_togetherSo_j17 r2 G3))))
set_option maxRecDepth 100000 in
set_option maxHeartbeats 4000000 in
theorem c_L_togetherSo (l : Launch) (D : va_G) (t : gT) (ad : Nat → Nat) (hI : gI ad) {G : gG} {r0 : Int32} {G0 : gG} (hsh : sh_L_togetherSo G = some (r0, G0)) : Mi l D t ad yL_togetherSo cL_togetherSo 3 (some .boolean) (rM 6 137) [.ref (ad 70)] G r0 G0 := by
  refine m_go hI RL rfl (by decide +kernel) ⟨rfl, rfl⟩ (Nat.le_of_ble_eq_true rfl) rfl [some (.ref (ad 70)), none, none] rfl (fun p e s m args below meth c C => ?_)
  unfold sh_L_togetherSo at hsh
  have hj17 : ∀ (l1 : Int32) (G : gG) , sh_L_togetherSo_j17 l1 G = some (r0, G0) → V p l e (rM 6 137) s m args below meth c (isW ad) D t ad 0 0 3 (Qi below D t ad args s r0 G0) G 17 [some (.ref (ad 70)), some (.int l1), none] [] := by
    intro l1 G hsh
    unfold sh_L_togetherSo_j17 at hsh
    refine v_iloadn C dL_togetherSo_17 rfl ?_
    refine v_if_eq C 70 dL_togetherSo_18 (by decide) (fun hc => ?_) (fun hc => ?_)
    · replace hsh := ite_p hc hsh
      refine v_iconst C dL_togetherSo_70 (v := 1) (by decide) ?_
      refine v_goto C 75 dL_togetherSo_71 (by decide) ?_
      obtain ⟨rfl, rfl⟩ := so_i hsh
      exact v_zret C (Or.inr rfl) dL_togetherSo_75
    · replace hsh := ite_n hc hsh
      refine v_iloadn C dL_togetherSo_21 rfl ?_
      refine v_bipush C dL_togetherSo_22 (v := -5) (by decide) ?_
      refine v_ic_eq C 70 dL_togetherSo_24 (by decide) (fun hc => ?_) (fun hc => ?_)
      · replace hsh := ite_p hc hsh
        refine v_iconst C dL_togetherSo_70 (v := 1) (by decide) ?_
        refine v_goto C 75 dL_togetherSo_71 (by decide) ?_
        obtain ⟨rfl, rfl⟩ := so_i hsh
        exact v_zret C (Or.inr rfl) dL_togetherSo_75
      · replace hsh := ite_n hc hsh
        refine v_iloadn C dL_togetherSo_27 rfl ?_
        refine v_sipush C dL_togetherSo_28 (v := 2000) (by decide) ?_
        refine v_ic_gt C 74 dL_togetherSo_31 (by decide) (fun hc => ?_) (fun hc => ?_)
        · replace hsh := ite_p hc hsh
          refine v_iconst C dL_togetherSo_74 (v := 0) (by decide) ?_
          obtain ⟨rfl, rfl⟩ := so_i hsh
          exact v_zret C (Or.inl rfl) dL_togetherSo_75
        · replace hsh := ite_n hc hsh
          refine v_aloadn C dL_togetherSo_34 rfl ?_
          refine v_sipush C dL_togetherSo_35 (v := 999) (by decide) ?_
          obtain ⟨r5, G6, e4, hsh⟩ := obi_e hsh
          refine v_callI (nP := 1) (k := 70) C (by decide) rfl rfl (c_X3_pass l D t ad hI  e4) k356 k353 k354 k355 k1 yo_X3_pass ⟨Nat.le_of_ble_eq_true rfl, Nat.le_of_ble_eq_true rfl, rfl, rfl, Nat.zero_le _, Nat.zero_le _⟩ rfl rfl (Nat.le_of_ble_eq_true rfl) dL_togetherSo_38 ?_
          refine v_if_lt C 74 dL_togetherSo_41 (by decide) (fun hc => ?_) (fun hc => ?_)
          · replace hsh := ite_p hc hsh
            refine v_iconst C dL_togetherSo_74 (v := 0) (by decide) ?_
            obtain ⟨rfl, rfl⟩ := so_i hsh
            exact v_zret C (Or.inl rfl) dL_togetherSo_75
          · replace hsh := ite_n hc hsh
            refine v_aloadn C dL_togetherSo_44 rfl ?_
            obtain ⟨r8, e7, hsh⟩ := obp_e hsh
            refine v_callI (nP := 0) (k := 70) C (by decide) rfl rfl (c_X3_spread l D t ad hI  e7) k318 k315 k316 k317 k1 yo_X3_spread ⟨Nat.le_of_ble_eq_true rfl, Nat.le_of_ble_eq_true rfl, rfl, rfl, Nat.zero_le _, Nat.zero_le _⟩ rfl rfl (Nat.le_of_ble_eq_true rfl) dL_togetherSo_45 ?_
            refine v_if_le C 74 dL_togetherSo_48 (by decide) (fun hc => ?_) (fun hc => ?_)
            · replace hsh := ite_p hc hsh
              refine v_iconst C dL_togetherSo_74 (v := 0) (by decide) ?_
              obtain ⟨rfl, rfl⟩ := so_i hsh
              exact v_zret C (Or.inl rfl) dL_togetherSo_75
            · replace hsh := ite_n hc hsh
              refine v_aloadn C dL_togetherSo_51 rfl ?_
              obtain ⟨r10, G11, e9, hsh⟩ := obi_e hsh
              refine v_callI (nP := 0) (k := 70) C (by decide) rfl rfl (c_X3_togetherIn l D t ad hI  e9) k323 k320 k321 k322 k1 yo_X3_togetherIn ⟨Nat.le_of_ble_eq_true rfl, Nat.le_of_ble_eq_true rfl, rfl, rfl, Nat.zero_le _, Nat.zero_le _⟩ rfl rfl (Nat.le_of_ble_eq_true rfl) dL_togetherSo_52 ?_
              refine v_iloadn C dL_togetherSo_55 rfl ?_
              refine v_sipush C dL_togetherSo_56 (v := 999) (by decide) ?_
              refine v_isub C dL_togetherSo_59 ?_
              refine v_ic_ne C 74 dL_togetherSo_60 (by decide) (fun hc => ?_) (fun hc => ?_)
              · replace hsh := ite_n hc hsh
                refine v_iconst C dL_togetherSo_74 (v := 0) (by decide) ?_
                obtain ⟨rfl, rfl⟩ := so_i hsh
                exact v_zret C (Or.inl rfl) dL_togetherSo_75
              · replace hsh := ite_p hc hsh
                refine v_aloadn C dL_togetherSo_63 rfl ?_
                obtain ⟨r13, G14, e12, hsh⟩ := obi_e hsh
                refine v_callI (nP := 0) (k := 70) C (by decide) rfl rfl (c_X3_undo l D t ad hI  e12) k378 k375 k376 k377 k1 yo_X3_undo ⟨Nat.le_of_ble_eq_true rfl, Nat.le_of_ble_eq_true rfl, rfl, rfl, Nat.zero_le _, Nat.zero_le _⟩ rfl rfl (Nat.le_of_ble_eq_true rfl) dL_togetherSo_64 ?_
                refine v_if_lt C 74 dL_togetherSo_67 (by decide) (fun hc => ?_) (fun hc => ?_)
                · replace hsh := ite_p hc hsh
                  refine v_iconst C dL_togetherSo_74 (v := 0) (by decide) ?_
                  obtain ⟨rfl, rfl⟩ := so_i hsh
                  exact v_zret C (Or.inl rfl) dL_togetherSo_75
                · replace hsh := ite_n hc hsh
                  refine v_iconst C dL_togetherSo_70 (v := 1) (by decide) ?_
                  refine v_goto C 75 dL_togetherSo_71 (by decide) ?_
                  obtain ⟨rfl, rfl⟩ := so_i hsh
                  exact v_zret C (Or.inr rfl) dL_togetherSo_75
  have hj103 : ∀ (l1 : Int32) (x0 : Int32) (G : gG) , sh_L_togetherSo_j103 l1 x0 G = some (r0, G0) → V p l e (rM 6 137) s m args below meth c (isW ad) D t ad 0 0 3 (Qi below D t ad args s r0 G0) G 103 [some (.ref (ad 70)), some (.int l1), none] [.int x0] := by
    intro l1 x0 G hsh
    unfold sh_L_togetherSo_j103 at hsh
    refine v_istoren C dL_togetherSo_103 (by decide) ?_
    refine v_iloadn C dL_togetherSo_104 rfl ?_
    refine v_if_eq C 141 dL_togetherSo_105 (by decide) (fun hc => ?_) (fun hc => ?_)
    · replace hsh := ite_p hc hsh
      refine v_iconst C dL_togetherSo_141 (v := 0) (by decide) ?_
      obtain ⟨rfl, rfl⟩ := so_i hsh
      exact v_zret C (Or.inl rfl) dL_togetherSo_142
    · replace hsh := ite_n hc hsh
      refine v_iloadn C dL_togetherSo_108 rfl ?_
      refine v_iconst C dL_togetherSo_109 (v := 1) (by decide) ?_
      refine v_ic_eq C 137 dL_togetherSo_110 (by decide) (fun hc => ?_) (fun hc => ?_)
      · replace hsh := ite_p hc hsh
        refine v_iconst C dL_togetherSo_137 (v := 1) (by decide) ?_
        refine v_goto C 142 dL_togetherSo_138 (by decide) ?_
        obtain ⟨rfl, rfl⟩ := so_i hsh
        exact v_zret C (Or.inr rfl) dL_togetherSo_142
      · replace hsh := ite_n hc hsh
        refine v_aloadn C dL_togetherSo_113 rfl ?_
        refine v_iloadn C dL_togetherSo_114 rfl ?_
        refine v_iconst C dL_togetherSo_115 (v := 1) (by decide) ?_
        refine v_isub C dL_togetherSo_116 ?_
        obtain ⟨r19, G20, e18, hsh⟩ := obi_e hsh
        refine v_callI (nP := 1) (k := 70) C (by decide) rfl rfl (c_X3_pass l D t ad hI  e18) k356 k353 k354 k355 k1 yo_X3_pass ⟨Nat.le_of_ble_eq_true rfl, Nat.le_of_ble_eq_true rfl, rfl, rfl, Nat.zero_le _, Nat.zero_le _⟩ rfl rfl (Nat.le_of_ble_eq_true rfl) dL_togetherSo_117 ?_
        refine v_if_lt C 141 dL_togetherSo_120 (by decide) (fun hc => ?_) (fun hc => ?_)
        · replace hsh := ite_p hc hsh
          refine v_iconst C dL_togetherSo_141 (v := 0) (by decide) ?_
          obtain ⟨rfl, rfl⟩ := so_i hsh
          exact v_zret C (Or.inl rfl) dL_togetherSo_142
        · replace hsh := ite_n hc hsh
          refine v_aloadn C dL_togetherSo_123 rfl ?_
          obtain ⟨r22, e21, hsh⟩ := obp_e hsh
          refine v_callI (nP := 0) (k := 70) C (by decide) rfl rfl (c_X3_spread l D t ad hI  e21) k318 k315 k316 k317 k1 yo_X3_spread ⟨Nat.le_of_ble_eq_true rfl, Nat.le_of_ble_eq_true rfl, rfl, rfl, Nat.zero_le _, Nat.zero_le _⟩ rfl rfl (Nat.le_of_ble_eq_true rfl) dL_togetherSo_124 ?_
          refine v_if_le C 141 dL_togetherSo_127 (by decide) (fun hc => ?_) (fun hc => ?_)
          · replace hsh := ite_p hc hsh
            refine v_iconst C dL_togetherSo_141 (v := 0) (by decide) ?_
            obtain ⟨rfl, rfl⟩ := so_i hsh
            exact v_zret C (Or.inl rfl) dL_togetherSo_142
          · replace hsh := ite_n hc hsh
            refine v_aloadn C dL_togetherSo_130 rfl ?_
            obtain ⟨r24, G25, e23, hsh⟩ := obi_e hsh
            refine v_callI (nP := 0) (k := 70) C (by decide) rfl rfl (c_X3_undo l D t ad hI  e23) k378 k375 k376 k377 k1 yo_X3_undo ⟨Nat.le_of_ble_eq_true rfl, Nat.le_of_ble_eq_true rfl, rfl, rfl, Nat.zero_le _, Nat.zero_le _⟩ rfl rfl (Nat.le_of_ble_eq_true rfl) dL_togetherSo_131 ?_
            refine v_if_lt C 141 dL_togetherSo_134 (by decide) (fun hc => ?_) (fun hc => ?_)
            · replace hsh := ite_p hc hsh
              refine v_iconst C dL_togetherSo_141 (v := 0) (by decide) ?_
              obtain ⟨rfl, rfl⟩ := so_i hsh
              exact v_zret C (Or.inl rfl) dL_togetherSo_142
            · replace hsh := ite_n hc hsh
              refine v_iconst C dL_togetherSo_137 (v := 1) (by decide) ?_
              refine v_goto C 142 dL_togetherSo_138 (by decide) ?_
              obtain ⟨rfl, rfl⟩ := so_i hsh
              exact v_zret C (Or.inr rfl) dL_togetherSo_142
  have hj102 : ∀ (l1 : Int32) (G : gG) , sh_L_togetherSo_j102 l1 G = some (r0, G0) → V p l e (rM 6 137) s m args below meth c (isW ad) D t ad 0 0 3 (Qi below D t ad args s r0 G0) G 102 [some (.ref (ad 70)), some (.int l1), none] [] := by
    intro l1 G hsh
    unfold sh_L_togetherSo_j102 at hsh
    refine v_iconst C dL_togetherSo_102 (v := 0) (by decide) ?_
    exact v_wk (hj103 _ _ _ hsh) (wk_of (And.intro rfl (And.intro rfl trivial)))
  refine v_aloadn C dL_togetherSo_0 rfl ?_
  obtain ⟨r2, G3, e1, hsh⟩ := obi_e hsh
  refine v_callI (nP := 0) (k := 70) C (by decide) rfl rfl (c_X3_togetherIn l D t ad hI  e1) k323 k320 k321 k322 k1 yo_X3_togetherIn ⟨Nat.le_of_ble_eq_true rfl, Nat.le_of_ble_eq_true rfl, rfl, rfl, Nat.zero_le _, Nat.zero_le _⟩ rfl rfl (Nat.le_of_ble_eq_true rfl) dL_togetherSo_1 ?_
  refine v_istoren C dL_togetherSo_4 (by decide) ?_
  refine v_iloadn C dL_togetherSo_5 rfl ?_
  refine v_iconst C dL_togetherSo_6 (v := 1) (by decide) ?_
  refine v_ic_lt C 17 dL_togetherSo_7 (by decide) (fun hc => ?_) (fun hc => ?_)
  · replace hsh := ite_p hc hsh
    exact v_wk (hj17 _ _ hsh) (wk_of (And.intro rfl (And.intro rfl trivial)))
  · replace hsh := ite_n hc hsh
    refine v_iloadn C dL_togetherSo_10 rfl ?_
    refine v_sipush C dL_togetherSo_11 (v := 999) (by decide) ?_
    refine v_ic_le C 76 dL_togetherSo_14 (by decide) (fun hc => ?_) (fun hc => ?_)
    · replace hsh := ite_p hc hsh
      refine v_aloadn C dL_togetherSo_76 rfl ?_
      refine v_iloadn C dL_togetherSo_77 rfl ?_
      obtain ⟨r16, G17, e15, hsh⟩ := obi_e hsh
      refine v_callI (nP := 1) (k := 70) C (by decide) rfl rfl (c_X3_pass l D t ad hI  e15) k356 k353 k354 k355 k1 yo_X3_pass ⟨Nat.le_of_ble_eq_true rfl, Nat.le_of_ble_eq_true rfl, rfl, rfl, Nat.zero_le _, Nat.zero_le _⟩ rfl rfl (Nat.le_of_ble_eq_true rfl) dL_togetherSo_78 ?_
      refine v_if_lt C 102 dL_togetherSo_81 (by decide) (fun hc => ?_) (fun hc => ?_)
      · replace hsh := ite_p hc hsh
        exact v_wk (hj102 _ _ hsh) (wk_of (And.intro rfl (And.intro rfl trivial)))
      · replace hsh := ite_n hc hsh
        refine v_aloadn C dL_togetherSo_84 rfl ?_
        obtain ⟨r27, e26, hsh⟩ := obp_e hsh
        refine v_callI (nP := 0) (k := 70) C (by decide) rfl rfl (c_X3_spread l D t ad hI  e26) k318 k315 k316 k317 k1 yo_X3_spread ⟨Nat.le_of_ble_eq_true rfl, Nat.le_of_ble_eq_true rfl, rfl, rfl, Nat.zero_le _, Nat.zero_le _⟩ rfl rfl (Nat.le_of_ble_eq_true rfl) dL_togetherSo_85 ?_
        refine v_if_ne C 102 dL_togetherSo_88 (by decide) (fun hc => ?_) (fun hc => ?_)
        · replace hsh := ite_n hc hsh
          exact v_wk (hj102 _ _ hsh) (wk_of (And.intro rfl (And.intro rfl trivial)))
        · replace hsh := ite_p hc hsh
          refine v_aloadn C dL_togetherSo_91 rfl ?_
          obtain ⟨r29, G30, e28, hsh⟩ := obi_e hsh
          refine v_callI (nP := 0) (k := 70) C (by decide) rfl rfl (c_X3_undo l D t ad hI  e28) k378 k375 k376 k377 k1 yo_X3_undo ⟨Nat.le_of_ble_eq_true rfl, Nat.le_of_ble_eq_true rfl, rfl, rfl, Nat.zero_le _, Nat.zero_le _⟩ rfl rfl (Nat.le_of_ble_eq_true rfl) dL_togetherSo_92 ?_
          refine v_if_lt C 102 dL_togetherSo_95 (by decide) (fun hc => ?_) (fun hc => ?_)
          · replace hsh := ite_p hc hsh
            exact v_wk (hj102 _ _ hsh) (wk_of (And.intro rfl (And.intro rfl trivial)))
          · replace hsh := ite_n hc hsh
            refine v_iconst C dL_togetherSo_98 (v := 1) (by decide) ?_
            refine v_goto C 103 dL_togetherSo_99 (by decide) ?_
            exact v_wk (hj103 _ _ _ hsh) (wk_of (And.intro rfl (And.intro rfl trivial)))
    · replace hsh := ite_n hc hsh
      exact v_wk (hj17 _ _ hsh) (wk_of (And.intro rfl (And.intro rfl trivial)))
theorem yo_L_togetherSo : yOk yL_togetherSo 1 := ⟨by decide, by decide, by decide +kernel⟩

def sh_L_linkedSo_j23 (l3 : Int32) (G : gG) : Option (Int32 × gG) := (if l3 = (-1 : Int32) then some ((1 : Int32), G) else some ((0 : Int32), G))
def sh_L_linkedSo_j108 (l3 : Int32) (l5 : Int32) (x0 : Int32) (x1 : Int32) (x2 : Int32) (G : gG) : Option (Int32 × gG) := (if x0 = (x1 + x2) then (obi (sh_X3_togetherIn G) fun r16 G17 => (if r16 = l3 then (obi (sh_X3_undo G17) fun r19 G20 => (if r19 < (0 : Int32) then some ((0 : Int32), G20) else (obp (sh_X3_count (3 : Int32) G20) fun r22 => (if r22 = l5 then some ((1 : Int32), G20) else some ((0 : Int32), G20))))) else some ((0 : Int32), G17))) else some ((0 : Int32), G))
def sh_L_linkedSo_j93 (l3 : Int32) (l4 : Int32) (l5 : Int32) (x1 : Int32) (x2 : Int32) (x3 : Int32) (G : gG) : Option (Int32 × gG) := (obi (sh_X3_link x1 x2 x3 G) fun r13 G14 => (if l4 = (0 : Int32) then (sh_L_linkedSo_j108 l3 l5 r13 l5 (1 : Int32) G14) else (sh_L_linkedSo_j108 l3 l5 r13 l5 (-1 : Int32) G14)))
def sh_L_linkedSo_j71 (l1 : Int32) (l2 : Int32) (l3 : Int32) (x0 : Int32) (G : gG) : Option (Int32 × gG) := (obp (sh_X3_count (3 : Int32) G) fun r11 => (if x0 = (0 : Int32) then (sh_L_linkedSo_j93 l3 x0 r11 l1 l2 (1 : Int32) G) else (sh_L_linkedSo_j93 l3 x0 r11 l1 l2 (0 : Int32) G)))
def sh_L_linkedSo (l1 : Int32) (l2 : Int32) (G : gG) : Option (Int32 × gG) := (obi (sh_X3_ifLinked l1 l2 G) fun r2 G3 => (obp (sh_L_isThere l1 G3) fun r5 => (if r5 = (0 : Int32) then (sh_L_linkedSo_j23 r2 G3) else (obp (sh_L_isThere l2 G3) fun r7 => (if r7 = (0 : Int32) then (sh_L_linkedSo_j23 r2 G3) else (if l1 = l2 then (if r2 = (-2 : Int32) then some ((1 : Int32), G3) else some ((0 : Int32), G3)) else (obp (sh_X3_lamp l1 (6 : Int32) G3) fun r9 => (if ((r9 >>> (l2 &&& 31)) &&& (1 : Int32)) = (1 : Int32) then (sh_L_linkedSo_j71 l1 l2 r2 (1 : Int32) G3) else (sh_L_linkedSo_j71 l1 l2 r2 (0 : Int32) G3)))))))))
set_option maxRecDepth 100000 in
set_option maxHeartbeats 4000000 in
theorem c_L_linkedSo (l : Launch) (D : va_G) (t : gT) (ad : Nat → Nat) (hI : gI ad) {l1 : Int32} {l2 : Int32} {G : gG} {r0 : Int32} {G0 : gG} (hsh : sh_L_linkedSo l1 l2 G = some (r0, G0)) : Mi l D t ad yL_linkedSo cL_linkedSo 6 (some .boolean) (rM 6 136) [.ref (ad 70), .int l1, .int l2] G r0 G0 := by
  refine m_go hI RL rfl (by decide +kernel) ⟨rfl, rfl⟩ (Nat.le_of_ble_eq_true rfl) rfl [some (.ref (ad 70)), some (.int l1), some (.int l2), none, none, none] rfl (fun p e s m args below meth c C => ?_)
  unfold sh_L_linkedSo at hsh
  have hj23 : ∀ (l3 : Int32) (G : gG) , sh_L_linkedSo_j23 l3 G = some (r0, G0) → V p l e (rM 6 136) s m args below meth c (isW ad) D t ad 0 0 6 (Qi below D t ad args s r0 G0) G 23 [none, none, none, some (.int l3), none, none] [] := by
    intro l3 G hsh
    unfold sh_L_linkedSo_j23 at hsh
    refine v_iloadn C dL_linkedSo_23 rfl ?_
    refine v_iconst C dL_linkedSo_24 (v := -1) (by decide) ?_
    refine v_ic_ne C 32 dL_linkedSo_25 (by decide) (fun hc => ?_) (fun hc => ?_)
    · replace hsh := ite_n hc hsh
      refine v_iconst C dL_linkedSo_32 (v := 0) (by decide) ?_
      obtain ⟨rfl, rfl⟩ := so_i hsh
      exact v_zret C (Or.inl rfl) dL_linkedSo_33
    · replace hsh := ite_p hc hsh
      refine v_iconst C dL_linkedSo_28 (v := 1) (by decide) ?_
      refine v_goto C 33 dL_linkedSo_29 (by decide) ?_
      obtain ⟨rfl, rfl⟩ := so_i hsh
      exact v_zret C (Or.inr rfl) dL_linkedSo_33
  have hj108 : ∀ (l3 : Int32) (l5 : Int32) (x0 : Int32) (x1 : Int32) (x2 : Int32) (G : gG) , sh_L_linkedSo_j108 l3 l5 x0 x1 x2 G = some (r0, G0) → V p l e (rM 6 136) s m args below meth c (isW ad) D t ad 0 0 6 (Qi below D t ad args s r0 G0) G 108 [some (.ref (ad 70)), none, none, some (.int l3), none, some (.int l5)] [.int x2, .int x1, .int x0] := by
    intro l3 l5 x0 x1 x2 G hsh
    unfold sh_L_linkedSo_j108 at hsh
    refine v_iadd C dL_linkedSo_108 ?_
    refine v_ic_ne C 141 dL_linkedSo_109 (by decide) (fun hc => ?_) (fun hc => ?_)
    · replace hsh := ite_n hc hsh
      refine v_iconst C dL_linkedSo_141 (v := 0) (by decide) ?_
      obtain ⟨rfl, rfl⟩ := so_i hsh
      exact v_zret C (Or.inl rfl) dL_linkedSo_142
    · replace hsh := ite_p hc hsh
      refine v_aloadn C dL_linkedSo_112 rfl ?_
      obtain ⟨r16, G17, e15, hsh⟩ := obi_e hsh
      refine v_callI (nP := 0) (k := 70) C (by decide) rfl rfl (c_X3_togetherIn l D t ad hI  e15) k323 k320 k321 k322 k1 yo_X3_togetherIn ⟨Nat.le_of_ble_eq_true rfl, Nat.le_of_ble_eq_true rfl, rfl, rfl, Nat.zero_le _, Nat.zero_le _⟩ rfl rfl (Nat.le_of_ble_eq_true rfl) dL_linkedSo_113 ?_
      refine v_iloadn C dL_linkedSo_116 rfl ?_
      refine v_ic_ne C 141 dL_linkedSo_117 (by decide) (fun hc => ?_) (fun hc => ?_)
      · replace hsh := ite_n hc hsh
        refine v_iconst C dL_linkedSo_141 (v := 0) (by decide) ?_
        obtain ⟨rfl, rfl⟩ := so_i hsh
        exact v_zret C (Or.inl rfl) dL_linkedSo_142
      · replace hsh := ite_p hc hsh
        refine v_aloadn C dL_linkedSo_120 rfl ?_
        obtain ⟨r19, G20, e18, hsh⟩ := obi_e hsh
        refine v_callI (nP := 0) (k := 70) C (by decide) rfl rfl (c_X3_undo l D t ad hI  e18) k378 k375 k376 k377 k1 yo_X3_undo ⟨Nat.le_of_ble_eq_true rfl, Nat.le_of_ble_eq_true rfl, rfl, rfl, Nat.zero_le _, Nat.zero_le _⟩ rfl rfl (Nat.le_of_ble_eq_true rfl) dL_linkedSo_121 ?_
        refine v_if_lt C 141 dL_linkedSo_124 (by decide) (fun hc => ?_) (fun hc => ?_)
        · replace hsh := ite_p hc hsh
          refine v_iconst C dL_linkedSo_141 (v := 0) (by decide) ?_
          obtain ⟨rfl, rfl⟩ := so_i hsh
          exact v_zret C (Or.inl rfl) dL_linkedSo_142
        · replace hsh := ite_n hc hsh
          refine v_aloadn C dL_linkedSo_127 rfl ?_
          refine v_iconst C dL_linkedSo_128 (v := 3) (by decide) ?_
          obtain ⟨r22, e21, hsh⟩ := obp_e hsh
          refine v_callI (nP := 1) (k := 70) C (by decide) rfl rfl (c_X3_count l D t ad hI  e21) k283 k280 k281 k282 k1 yo_X3_count ⟨Nat.le_of_ble_eq_true rfl, Nat.le_of_ble_eq_true rfl, rfl, rfl, Nat.zero_le _, Nat.zero_le _⟩ rfl rfl (Nat.le_of_ble_eq_true rfl) dL_linkedSo_129 ?_
          refine v_iload C dL_linkedSo_132 rfl ?_
          refine v_ic_ne C 141 dL_linkedSo_134 (by decide) (fun hc => ?_) (fun hc => ?_)
          · replace hsh := ite_n hc hsh
            refine v_iconst C dL_linkedSo_141 (v := 0) (by decide) ?_
            obtain ⟨rfl, rfl⟩ := so_i hsh
            exact v_zret C (Or.inl rfl) dL_linkedSo_142
          · replace hsh := ite_p hc hsh
            refine v_iconst C dL_linkedSo_137 (v := 1) (by decide) ?_
            refine v_goto C 142 dL_linkedSo_138 (by decide) ?_
            obtain ⟨rfl, rfl⟩ := so_i hsh
            exact v_zret C (Or.inr rfl) dL_linkedSo_142
  have hj93 : ∀ (l3 : Int32) (l4 : Int32) (l5 : Int32) (x1 : Int32) (x2 : Int32) (x3 : Int32) (G : gG) , sh_L_linkedSo_j93 l3 l4 l5 x1 x2 x3 G = some (r0, G0) → V p l e (rM 6 136) s m args below meth c (isW ad) D t ad 0 0 6 (Qi below D t ad args s r0 G0) G 93 [some (.ref (ad 70)), none, none, some (.int l3), some (.int l4), some (.int l5)] [.int x3, .int x2, .int x1, .ref (ad 70)] := by
    intro l3 l4 l5 x1 x2 x3 G hsh
    unfold sh_L_linkedSo_j93 at hsh
    obtain ⟨r13, G14, e12, hsh⟩ := obi_e hsh
    refine v_callI (nP := 3) (k := 70) C (by decide) rfl rfl (c_X3_link l D t ad hI  e12) k445 k442 k443 k444 k1 yo_X3_link ⟨Nat.le_of_ble_eq_true rfl, Nat.le_of_ble_eq_true rfl, rfl, rfl, Nat.zero_le _, Nat.zero_le _⟩ rfl rfl (Nat.le_of_ble_eq_true rfl) dL_linkedSo_93 ?_
    refine v_iload C dL_linkedSo_96 rfl ?_
    refine v_iload C dL_linkedSo_98 rfl ?_
    refine v_if_eq C 107 dL_linkedSo_100 (by decide) (fun hc => ?_) (fun hc => ?_)
    · replace hsh := ite_p hc hsh
      refine v_iconst C dL_linkedSo_107 (v := 1) (by decide) ?_
      exact v_wk (hj108 _ _ _ _ _ _ hsh) (wk_of (And.intro rfl (And.intro rfl (And.intro rfl trivial))))
    · replace hsh := ite_n hc hsh
      refine v_iconst C dL_linkedSo_103 (v := -1) (by decide) ?_
      refine v_goto C 108 dL_linkedSo_104 (by decide) ?_
      exact v_wk (hj108 _ _ _ _ _ _ hsh) (wk_of (And.intro rfl (And.intro rfl (And.intro rfl trivial))))
  have hj71 : ∀ (l1 : Int32) (l2 : Int32) (l3 : Int32) (x0 : Int32) (G : gG) , sh_L_linkedSo_j71 l1 l2 l3 x0 G = some (r0, G0) → V p l e (rM 6 136) s m args below meth c (isW ad) D t ad 0 0 6 (Qi below D t ad args s r0 G0) G 71 [some (.ref (ad 70)), some (.int l1), some (.int l2), some (.int l3), none, none] [.int x0] := by
    intro l1 l2 l3 x0 G hsh
    unfold sh_L_linkedSo_j71 at hsh
    refine v_istore C dL_linkedSo_71 (by decide) ?_
    refine v_aloadn C dL_linkedSo_73 rfl ?_
    refine v_iconst C dL_linkedSo_74 (v := 3) (by decide) ?_
    obtain ⟨r11, e10, hsh⟩ := obp_e hsh
    refine v_callI (nP := 1) (k := 70) C (by decide) rfl rfl (c_X3_count l D t ad hI  e10) k283 k280 k281 k282 k1 yo_X3_count ⟨Nat.le_of_ble_eq_true rfl, Nat.le_of_ble_eq_true rfl, rfl, rfl, Nat.zero_le _, Nat.zero_le _⟩ rfl rfl (Nat.le_of_ble_eq_true rfl) dL_linkedSo_75 ?_
    refine v_istore C dL_linkedSo_78 (by decide) ?_
    refine v_aloadn C dL_linkedSo_80 rfl ?_
    refine v_iloadn C dL_linkedSo_81 rfl ?_
    refine v_iloadn C dL_linkedSo_82 rfl ?_
    refine v_iload C dL_linkedSo_83 rfl ?_
    refine v_if_ne C 92 dL_linkedSo_85 (by decide) (fun hc => ?_) (fun hc => ?_)
    · replace hsh := ite_n hc hsh
      refine v_iconst C dL_linkedSo_92 (v := 0) (by decide) ?_
      exact v_wk (hj93 _ _ _ _ _ _ _ hsh) (wk_of (And.intro rfl (And.intro rfl (And.intro rfl (And.intro rfl trivial)))))
    · replace hsh := ite_p hc hsh
      refine v_iconst C dL_linkedSo_88 (v := 1) (by decide) ?_
      refine v_goto C 93 dL_linkedSo_89 (by decide) ?_
      exact v_wk (hj93 _ _ _ _ _ _ _ hsh) (wk_of (And.intro rfl (And.intro rfl (And.intro rfl (And.intro rfl trivial)))))
  refine v_aloadn C dL_linkedSo_0 rfl ?_
  refine v_iloadn C dL_linkedSo_1 rfl ?_
  refine v_iloadn C dL_linkedSo_2 rfl ?_
  obtain ⟨r2, G3, e1, hsh⟩ := obi_e hsh
  refine v_callI (nP := 2) (k := 70) C (by decide) rfl rfl (c_X3_ifLinked l D t ad hI  e1) k440 k437 k438 k439 k1 yo_X3_ifLinked ⟨Nat.le_of_ble_eq_true rfl, Nat.le_of_ble_eq_true rfl, rfl, rfl, Nat.zero_le _, Nat.zero_le _⟩ rfl rfl (Nat.le_of_ble_eq_true rfl) dL_linkedSo_3 ?_
  refine v_istoren C dL_linkedSo_6 (by decide) ?_
  refine v_aloadn C dL_linkedSo_7 rfl ?_
  refine v_iloadn C dL_linkedSo_8 rfl ?_
  obtain ⟨r5, e4, hsh⟩ := obp_e hsh
  refine v_callS (nP := 2) C (c_L_isThere l D t ad hI  e4) k247 k245 k246 k0 yo_L_isThere ⟨Nat.le_of_ble_eq_true rfl, Nat.le_of_ble_eq_true rfl, rfl, rfl, Nat.zero_le _, Nat.zero_le _⟩ rfl rfl (Nat.le_of_ble_eq_true rfl) dL_linkedSo_9 ?_
  refine v_if_eq C 23 dL_linkedSo_12 (by decide) (fun hc => ?_) (fun hc => ?_)
  · replace hsh := ite_p hc hsh
    exact v_wk (hj23 _ _ hsh) (wk_of (And.intro rfl trivial))
  · replace hsh := ite_n hc hsh
    refine v_aloadn C dL_linkedSo_15 rfl ?_
    refine v_iloadn C dL_linkedSo_16 rfl ?_
    obtain ⟨r7, e6, hsh⟩ := obp_e hsh
    refine v_callS (nP := 2) C (c_L_isThere l D t ad hI  e6) k247 k245 k246 k0 yo_L_isThere ⟨Nat.le_of_ble_eq_true rfl, Nat.le_of_ble_eq_true rfl, rfl, rfl, Nat.zero_le _, Nat.zero_le _⟩ rfl rfl (Nat.le_of_ble_eq_true rfl) dL_linkedSo_17 ?_
    refine v_if_ne C 34 dL_linkedSo_20 (by decide) (fun hc => ?_) (fun hc => ?_)
    · replace hsh := ite_n hc hsh
      refine v_iloadn C dL_linkedSo_34 rfl ?_
      refine v_iloadn C dL_linkedSo_35 rfl ?_
      refine v_ic_ne C 51 dL_linkedSo_36 (by decide) (fun hc => ?_) (fun hc => ?_)
      · replace hsh := ite_n hc hsh
        refine v_aloadn C dL_linkedSo_51 rfl ?_
        refine v_iloadn C dL_linkedSo_52 rfl ?_
        refine v_bipush C dL_linkedSo_53 (v := 6) (by decide) ?_
        obtain ⟨r9, e8, hsh⟩ := obp_e hsh
        refine v_callI (nP := 2) (k := 70) C (by decide) rfl rfl (c_X3_lamp l D t ad hI  e8) k251 k248 k249 k250 k1 yo_X3_lamp ⟨Nat.le_of_ble_eq_true rfl, Nat.le_of_ble_eq_true rfl, rfl, rfl, Nat.zero_le _, Nat.zero_le _⟩ rfl rfl (Nat.le_of_ble_eq_true rfl) dL_linkedSo_55 ?_
        refine v_iloadn C dL_linkedSo_58 rfl ?_
        refine v_ishr C dL_linkedSo_59 ?_
        refine v_iconst C dL_linkedSo_60 (v := 1) (by decide) ?_
        refine v_iand C dL_linkedSo_61 ?_
        refine v_iconst C dL_linkedSo_62 (v := 1) (by decide) ?_
        refine v_ic_ne C 70 dL_linkedSo_63 (by decide) (fun hc => ?_) (fun hc => ?_)
        · replace hsh := ite_n hc hsh
          refine v_iconst C dL_linkedSo_70 (v := 0) (by decide) ?_
          exact v_wk (hj71 _ _ _ _ _ hsh) (wk_of (And.intro rfl (And.intro rfl (And.intro rfl (And.intro rfl trivial)))))
        · replace hsh := ite_p hc hsh
          refine v_iconst C dL_linkedSo_66 (v := 1) (by decide) ?_
          refine v_goto C 71 dL_linkedSo_67 (by decide) ?_
          exact v_wk (hj71 _ _ _ _ _ hsh) (wk_of (And.intro rfl (And.intro rfl (And.intro rfl (And.intro rfl trivial)))))
      · replace hsh := ite_p hc hsh
        refine v_iloadn C dL_linkedSo_39 rfl ?_
        refine v_bipush C dL_linkedSo_40 (v := -2) (by decide) ?_
        refine v_ic_ne C 49 dL_linkedSo_42 (by decide) (fun hc => ?_) (fun hc => ?_)
        · replace hsh := ite_n hc hsh
          refine v_iconst C dL_linkedSo_49 (v := 0) (by decide) ?_
          obtain ⟨rfl, rfl⟩ := so_i hsh
          exact v_zret C (Or.inl rfl) dL_linkedSo_50
        · replace hsh := ite_p hc hsh
          refine v_iconst C dL_linkedSo_45 (v := 1) (by decide) ?_
          refine v_goto C 50 dL_linkedSo_46 (by decide) ?_
          obtain ⟨rfl, rfl⟩ := so_i hsh
          exact v_zret C (Or.inr rfl) dL_linkedSo_50
    · replace hsh := ite_p hc hsh
      exact v_wk (hj23 _ _ hsh) (wk_of (And.intro rfl trivial))
theorem yo_L_linkedSo : yOk yL_linkedSo 3 := ⟨by decide, by decide, by decide +kernel⟩

def sh_L_bestSo_j120 (kt154 : Int32 → Int32 → gG → Option (Int32 × gG)) (self8 : Int32 → Int32 → Int32 → gG → Option (Int32 × gG)) (l1 : Int32) (l3 : Int32) (l6 : Int32) (l7 : Int32) (x0 : Int32) (G : gG) : Option (Int32 × gG) := (if l6 < (1 : Int32) then some ((0 : Int32), G) else (if l7 < (0 : Int32) then some ((0 : Int32), G) else (obi (sh_X3_undo G) fun r16 G17 => (if r16 < (0 : Int32) then some ((0 : Int32), G17) else (obi (sh_X3_undo G17) fun r19 G20 => (if (0 : Int32) ≤ r19 then self8 l1 x0 (l3 + 1) G20 else some ((0 : Int32), G20)))))))
def sh_L_bestSo_j108 (kt154 : Int32 → Int32 → gG → Option (Int32 × gG)) (self8 : Int32 → Int32 → Int32 → gG → Option (Int32 × gG)) (l2 : Int32) (l3 : Int32) (l6 : Int32) (l7 : Int32) (l8 : Int32) (x0 : Int32) (G : gG) : Option (Int32 × gG) := (if x0 = l3 then (sh_L_bestSo_j120 kt154 self8 x0 l3 l6 l7 l8 G) else (sh_L_bestSo_j120 kt154 self8 x0 l3 l6 l7 l2 G))
def sh_L_bestSo_j103 (kt154 : Int32 → Int32 → gG → Option (Int32 × gG)) (self8 : Int32 → Int32 → Int32 → gG → Option (Int32 × gG)) (l2 : Int32) (l3 : Int32) (l6 : Int32) (l7 : Int32) (l8 : Int32) (G : gG) : Option (Int32 × gG) := (sh_L_bestSo_j108 kt154 self8 l2 l3 l6 l7 l8 l3 G)
def sh_L_bestSo_8  (kt154 : Int32 → Int32 → gG → Option (Int32 × gG)) : Nat → Int32 → Int32 → Int32 → gG → Option (Int32 × gG)
  | 0, _, _, _, _ => none
  | n + 1, l1, l2, l3, G => (if (256 : Int32) ≤ l3 then kt154 l1 l2 G else (if (l3 - l3 / (16 : Int32) * (16 : Int32)) ≤ (l3 / (16 : Int32)) then sh_L_bestSo_8 kt154 n l1 l2 (l3 + 1) G else (obp (sh_L_isOn (l3 / (16 : Int32)) G) fun r2 => (if r2 = (0 : Int32) then sh_L_bestSo_8 kt154 n l1 l2 (l3 + 1) G else (obp (sh_L_isOn (l3 - l3 / (16 : Int32) * (16 : Int32)) G) fun r4 => (if r4 = (0 : Int32) then sh_L_bestSo_8 kt154 n l1 l2 (l3 + 1) G else (obp (sh_X3_lamp (l3 / (16 : Int32)) (6 : Int32) G) fun r6 => (if ((r6 >>> ((l3 - l3 / (16 : Int32) * (16 : Int32)) &&& 31)) &&& (1 : Int32)) = (0 : Int32) then (obi (sh_X3_link (l3 / (16 : Int32)) (l3 - l3 / (16 : Int32) * (16 : Int32)) (1 : Int32) G) fun r8 G9 => (obi (sh_X3_pass (100 : Int32) G9) fun r11 G12 => (obp (sh_X3_spread G12) fun r14 => (if l1 < (0 : Int32) then (sh_L_bestSo_j103 kt154 (sh_L_bestSo_8 kt154 n) l2 l3 r8 r11 r14 G12) else (if l2 ≤ r14 then (sh_L_bestSo_j108 kt154 (sh_L_bestSo_8 kt154 n) l2 l3 r8 r11 r14 l1 G12) else (sh_L_bestSo_j103 kt154 (sh_L_bestSo_8 kt154 n) l2 l3 r8 r11 r14 G12)))))) else sh_L_bestSo_8 kt154 n l1 l2 (l3 + 1) G))))))))
def sh_L_bestSo (G : gG) : Option (Int32 × gG) := (sh_L_bestSo_8 (fun l1 l2 G => (if (0 : Int32) ≤ l1 then (obi (sh_X3_bestLink (0 : Int32) G) fun r22 G23 => (if r22 = (l1 / (16 : Int32)) then (obi (sh_X3_bestLink (1 : Int32) G23) fun r25 G26 => (if r25 = (l1 - l1 / (16 : Int32) * (16 : Int32)) then (obi (sh_X3_bestLink (2 : Int32) G26) fun r28 G29 => (if r28 = l2 then some ((1 : Int32), G29) else some ((0 : Int32), G29))) else some ((0 : Int32), G26))) else some ((0 : Int32), G23))) else (obi (sh_X3_bestLink (0 : Int32) G) fun r31 G32 => (if r31 = (-5 : Int32) then (obi (sh_X3_bestLink (2 : Int32) G32) fun r34 G35 => (if r34 = (-5 : Int32) then some ((1 : Int32), G35) else some ((0 : Int32), G35))) else some ((0 : Int32), G32))))) FU (-5 : Int32) (-5 : Int32) (0 : Int32) G)
set_option maxRecDepth 100000 in
set_option maxHeartbeats 4000000 in
theorem lp_L_bestSo_8 {p : Program} {l : Launch} {e : Env} {s : State} {m : MethodId} {args : Array Value} {below : List Frame} {meth : Method} {c : Code} {D : va_G} {t : gT} {ad : Nat → Nat} (C : gC p s m args meth c cL_bestSo RL 9 (some .boolean) (isW ad) D t ad) (hI : gI ad) {r0 : Int32} {G0 : gG} {kt154 : Int32 → Int32 → gG → Option (Int32 × gG)} (hk154 : ∀ (l1 : Int32) (l2 : Int32) (G : gG) , kt154 l1 l2 G = some (r0, G0) → V p l e (rM 7 164) s m args below meth c (isW ad) D t ad 0 0 9 (Qi below D t ad args s r0 G0) G 154 [some (.ref (ad 70)), some (.int l1), some (.int l2), none, none, none, none, none, none] []) : ∀ (n : Nat) (l1 : Int32) (l2 : Int32) (l3 : Int32) (G : gG) , sh_L_bestSo_8 kt154 n l1 l2 l3 G = some (r0, G0) → V p l e (rM 7 164) s m args below meth c (isW ad) D t ad 0 0 9 (Qi below D t ad args s r0 G0) G 8 [some (.ref (ad 70)), some (.int l1), some (.int l2), some (.int l3), none, none, none, none, none] [] := by
  intro n
  induction n with
  | zero => intro l1 l2 l3 G hsh; rw [sh_L_bestSo_8.eq_1] at hsh; cases hsh
  | succ n ih =>
    intro l1 l2 l3 G hsh
    rw [sh_L_bestSo_8.eq_2] at hsh
    have hj120 : ∀ (l1 : Int32) (l3 : Int32) (l6 : Int32) (l7 : Int32) (x0 : Int32) (G : gG) , sh_L_bestSo_j120 kt154 (sh_L_bestSo_8 kt154 n) l1 l3 l6 l7 x0 G = some (r0, G0) → V p l e (rM 7 164) s m args below meth c (isW ad) D t ad 0 0 9 (Qi below D t ad args s r0 G0) G 120 [some (.ref (ad 70)), some (.int l1), none, some (.int l3), none, none, some (.int l6), some (.int l7), none] [.int x0] := by
      intro l1 l3 l6 l7 x0 G hsh
      unfold sh_L_bestSo_j120 at hsh
      refine v_istoren C dL_bestSo_120 (by decide) ?_
      refine v_iload C dL_bestSo_121 rfl ?_
      refine v_iconst C dL_bestSo_123 (v := 1) (by decide) ?_
      refine v_ic_lt C 146 dL_bestSo_124 (by decide) (fun hc => ?_) (fun hc => ?_)
      · replace hsh := ite_p hc hsh
        refine v_iconst C dL_bestSo_146 (v := 0) (by decide) ?_
        obtain ⟨rfl, rfl⟩ := so_i hsh
        exact v_zret C (Or.inl rfl) dL_bestSo_147
      · replace hsh := ite_n hc hsh
        refine v_iload C dL_bestSo_127 rfl ?_
        refine v_if_lt C 146 dL_bestSo_129 (by decide) (fun hc => ?_) (fun hc => ?_)
        · replace hsh := ite_p hc hsh
          refine v_iconst C dL_bestSo_146 (v := 0) (by decide) ?_
          obtain ⟨rfl, rfl⟩ := so_i hsh
          exact v_zret C (Or.inl rfl) dL_bestSo_147
        · replace hsh := ite_n hc hsh
          refine v_aloadn C dL_bestSo_132 rfl ?_
          obtain ⟨r16, G17, e15, hsh⟩ := obi_e hsh
          refine v_callI (nP := 0) (k := 70) C (by decide) rfl rfl (c_X3_undo l D t ad hI  e15) k378 k375 k376 k377 k1 yo_X3_undo ⟨Nat.le_of_ble_eq_true rfl, Nat.le_of_ble_eq_true rfl, rfl, rfl, Nat.zero_le _, Nat.zero_le _⟩ rfl rfl (Nat.le_of_ble_eq_true rfl) dL_bestSo_133 ?_
          refine v_if_lt C 146 dL_bestSo_136 (by decide) (fun hc => ?_) (fun hc => ?_)
          · replace hsh := ite_p hc hsh
            refine v_iconst C dL_bestSo_146 (v := 0) (by decide) ?_
            obtain ⟨rfl, rfl⟩ := so_i hsh
            exact v_zret C (Or.inl rfl) dL_bestSo_147
          · replace hsh := ite_n hc hsh
            refine v_aloadn C dL_bestSo_139 rfl ?_
            obtain ⟨r19, G20, e18, hsh⟩ := obi_e hsh
            refine v_callI (nP := 0) (k := 70) C (by decide) rfl rfl (c_X3_undo l D t ad hI  e18) k378 k375 k376 k377 k1 yo_X3_undo ⟨Nat.le_of_ble_eq_true rfl, Nat.le_of_ble_eq_true rfl, rfl, rfl, Nat.zero_le _, Nat.zero_le _⟩ rfl rfl (Nat.le_of_ble_eq_true rfl) dL_bestSo_140 ?_
            refine v_if_ge C 148 dL_bestSo_143 (by decide) (fun hc => ?_) (fun hc => ?_)
            · replace hsh := ite_p hc hsh
              refine v_iinc C dL_bestSo_148 rfl (v := 1) (by decide) (by decide) ?_
              refine v_goto C 8 dL_bestSo_151 (by decide) ?_
              exact v_wk (ih _ _ _ _ hsh) (wk_of (And.intro rfl (And.intro rfl (And.intro rfl (And.intro rfl trivial)))))
            · replace hsh := ite_n hc hsh
              refine v_iconst C dL_bestSo_146 (v := 0) (by decide) ?_
              obtain ⟨rfl, rfl⟩ := so_i hsh
              exact v_zret C (Or.inl rfl) dL_bestSo_147
    have hj108 : ∀ (l2 : Int32) (l3 : Int32) (l6 : Int32) (l7 : Int32) (l8 : Int32) (x0 : Int32) (G : gG) , sh_L_bestSo_j108 kt154 (sh_L_bestSo_8 kt154 n) l2 l3 l6 l7 l8 x0 G = some (r0, G0) → V p l e (rM 7 164) s m args below meth c (isW ad) D t ad 0 0 9 (Qi below D t ad args s r0 G0) G 108 [some (.ref (ad 70)), none, some (.int l2), some (.int l3), none, none, some (.int l6), some (.int l7), some (.int l8)] [.int x0] := by
      intro l2 l3 l6 l7 l8 x0 G hsh
      unfold sh_L_bestSo_j108 at hsh
      refine v_istoren C dL_bestSo_108 (by decide) ?_
      refine v_iloadn C dL_bestSo_109 rfl ?_
      refine v_iloadn C dL_bestSo_110 rfl ?_
      refine v_ic_ne C 119 dL_bestSo_111 (by decide) (fun hc => ?_) (fun hc => ?_)
      · replace hsh := ite_n hc hsh
        refine v_iloadn C dL_bestSo_119 rfl ?_
        exact v_wk (hj120 _ _ _ _ _ _ hsh) (wk_of (And.intro rfl (And.intro rfl (And.intro rfl (And.intro rfl (And.intro rfl trivial))))))
      · replace hsh := ite_p hc hsh
        refine v_iload C dL_bestSo_114 rfl ?_
        refine v_goto C 120 dL_bestSo_116 (by decide) ?_
        exact v_wk (hj120 _ _ _ _ _ _ hsh) (wk_of (And.intro rfl (And.intro rfl (And.intro rfl (And.intro rfl (And.intro rfl trivial))))))
    have hj103 : ∀ (l2 : Int32) (l3 : Int32) (l6 : Int32) (l7 : Int32) (l8 : Int32) (G : gG) , sh_L_bestSo_j103 kt154 (sh_L_bestSo_8 kt154 n) l2 l3 l6 l7 l8 G = some (r0, G0) → V p l e (rM 7 164) s m args below meth c (isW ad) D t ad 0 0 9 (Qi below D t ad args s r0 G0) G 103 [some (.ref (ad 70)), none, some (.int l2), some (.int l3), none, none, some (.int l6), some (.int l7), some (.int l8)] [] := by
      intro l2 l3 l6 l7 l8 G hsh
      unfold sh_L_bestSo_j103 at hsh
      refine v_iloadn C dL_bestSo_103 rfl ?_
      refine v_goto C 108 dL_bestSo_104 (by decide) ?_
      exact v_wk (hj108 _ _ _ _ _ _ _ hsh) (wk_of (And.intro rfl (And.intro rfl (And.intro rfl (And.intro rfl (And.intro rfl (And.intro rfl trivial)))))))
    refine v_iloadn C dL_bestSo_8 rfl ?_
    refine v_sipush C dL_bestSo_9 (v := 256) (by decide) ?_
    refine v_ic_ge C 154 dL_bestSo_12 (by decide) (fun hc => ?_) (fun hc => ?_)
    · replace hsh := ite_p hc hsh
      exact v_wk (hk154 _ _ _ hsh) (wk_of (And.intro rfl (And.intro rfl (And.intro rfl trivial))))
    · replace hsh := ite_n hc hsh
      refine v_iloadn C dL_bestSo_15 rfl ?_
      refine v_bipush C dL_bestSo_16 (v := 16) (by decide) ?_
      refine v_idiv C dL_bestSo_18 (by decide) ?_
      refine v_istore C dL_bestSo_19 (by decide) ?_
      refine v_iloadn C dL_bestSo_21 rfl ?_
      refine v_bipush C dL_bestSo_22 (v := 16) (by decide) ?_
      refine v_irem C dL_bestSo_24 (by decide) ?_
      refine v_istore C dL_bestSo_25 (by decide) ?_
      refine v_iload C dL_bestSo_27 rfl ?_
      refine v_iload C dL_bestSo_29 rfl ?_
      refine v_ic_ge C 148 dL_bestSo_31 (by decide) (fun hc => ?_) (fun hc => ?_)
      · replace hsh := ite_p hc hsh
        refine v_iinc C dL_bestSo_148 rfl (v := 1) (by decide) (by decide) ?_
        refine v_goto C 8 dL_bestSo_151 (by decide) ?_
        exact v_wk (ih _ _ _ _ hsh) (wk_of (And.intro rfl (And.intro rfl (And.intro rfl (And.intro rfl trivial)))))
      · replace hsh := ite_n hc hsh
        refine v_aloadn C dL_bestSo_34 rfl ?_
        refine v_iload C dL_bestSo_35 rfl ?_
        obtain ⟨r2, e1, hsh⟩ := obp_e hsh
        refine v_callS (nP := 2) C (c_L_isOn l D t ad hI  e1) k274 k272 k273 k0 yo_L_isOn ⟨Nat.le_of_ble_eq_true rfl, Nat.le_of_ble_eq_true rfl, rfl, rfl, Nat.zero_le _, Nat.zero_le _⟩ rfl rfl (Nat.le_of_ble_eq_true rfl) dL_bestSo_37 ?_
        refine v_if_eq C 148 dL_bestSo_40 (by decide) (fun hc => ?_) (fun hc => ?_)
        · replace hsh := ite_p hc hsh
          refine v_iinc C dL_bestSo_148 rfl (v := 1) (by decide) (by decide) ?_
          refine v_goto C 8 dL_bestSo_151 (by decide) ?_
          exact v_wk (ih _ _ _ _ hsh) (wk_of (And.intro rfl (And.intro rfl (And.intro rfl (And.intro rfl trivial)))))
        · replace hsh := ite_n hc hsh
          refine v_aloadn C dL_bestSo_43 rfl ?_
          refine v_iload C dL_bestSo_44 rfl ?_
          obtain ⟨r4, e3, hsh⟩ := obp_e hsh
          refine v_callS (nP := 2) C (c_L_isOn l D t ad hI  e3) k274 k272 k273 k0 yo_L_isOn ⟨Nat.le_of_ble_eq_true rfl, Nat.le_of_ble_eq_true rfl, rfl, rfl, Nat.zero_le _, Nat.zero_le _⟩ rfl rfl (Nat.le_of_ble_eq_true rfl) dL_bestSo_46 ?_
          refine v_if_eq C 148 dL_bestSo_49 (by decide) (fun hc => ?_) (fun hc => ?_)
          · replace hsh := ite_p hc hsh
            refine v_iinc C dL_bestSo_148 rfl (v := 1) (by decide) (by decide) ?_
            refine v_goto C 8 dL_bestSo_151 (by decide) ?_
            exact v_wk (ih _ _ _ _ hsh) (wk_of (And.intro rfl (And.intro rfl (And.intro rfl (And.intro rfl trivial)))))
          · replace hsh := ite_n hc hsh
            refine v_aloadn C dL_bestSo_52 rfl ?_
            refine v_iload C dL_bestSo_53 rfl ?_
            refine v_bipush C dL_bestSo_55 (v := 6) (by decide) ?_
            obtain ⟨r6, e5, hsh⟩ := obp_e hsh
            refine v_callI (nP := 2) (k := 70) C (by decide) rfl rfl (c_X3_lamp l D t ad hI  e5) k251 k248 k249 k250 k1 yo_X3_lamp ⟨Nat.le_of_ble_eq_true rfl, Nat.le_of_ble_eq_true rfl, rfl, rfl, Nat.zero_le _, Nat.zero_le _⟩ rfl rfl (Nat.le_of_ble_eq_true rfl) dL_bestSo_57 ?_
            refine v_iload C dL_bestSo_60 rfl ?_
            refine v_ishr C dL_bestSo_62 ?_
            refine v_iconst C dL_bestSo_63 (v := 1) (by decide) ?_
            refine v_iand C dL_bestSo_64 ?_
            refine v_if_ne C 148 dL_bestSo_65 (by decide) (fun hc => ?_) (fun hc => ?_)
            · replace hsh := ite_n hc hsh
              refine v_iinc C dL_bestSo_148 rfl (v := 1) (by decide) (by decide) ?_
              refine v_goto C 8 dL_bestSo_151 (by decide) ?_
              exact v_wk (ih _ _ _ _ hsh) (wk_of (And.intro rfl (And.intro rfl (And.intro rfl (And.intro rfl trivial)))))
            · replace hsh := ite_p hc hsh
              refine v_aloadn C dL_bestSo_68 rfl ?_
              refine v_iload C dL_bestSo_69 rfl ?_
              refine v_iload C dL_bestSo_71 rfl ?_
              refine v_iconst C dL_bestSo_73 (v := 1) (by decide) ?_
              obtain ⟨r8, G9, e7, hsh⟩ := obi_e hsh
              refine v_callI (nP := 3) (k := 70) C (by decide) rfl rfl (c_X3_link l D t ad hI  e7) k445 k442 k443 k444 k1 yo_X3_link ⟨Nat.le_of_ble_eq_true rfl, Nat.le_of_ble_eq_true rfl, rfl, rfl, Nat.zero_le _, Nat.zero_le _⟩ rfl rfl (Nat.le_of_ble_eq_true rfl) dL_bestSo_74 ?_
              refine v_istore C dL_bestSo_77 (by decide) ?_
              refine v_aloadn C dL_bestSo_79 rfl ?_
              refine v_bipush C dL_bestSo_80 (v := 100) (by decide) ?_
              obtain ⟨r11, G12, e10, hsh⟩ := obi_e hsh
              refine v_callI (nP := 1) (k := 70) C (by decide) rfl rfl (c_X3_pass l D t ad hI  e10) k356 k353 k354 k355 k1 yo_X3_pass ⟨Nat.le_of_ble_eq_true rfl, Nat.le_of_ble_eq_true rfl, rfl, rfl, Nat.zero_le _, Nat.zero_le _⟩ rfl rfl (Nat.le_of_ble_eq_true rfl) dL_bestSo_82 ?_
              refine v_istore C dL_bestSo_85 (by decide) ?_
              refine v_aloadn C dL_bestSo_87 rfl ?_
              obtain ⟨r14, e13, hsh⟩ := obp_e hsh
              refine v_callI (nP := 0) (k := 70) C (by decide) rfl rfl (c_X3_spread l D t ad hI  e13) k318 k315 k316 k317 k1 yo_X3_spread ⟨Nat.le_of_ble_eq_true rfl, Nat.le_of_ble_eq_true rfl, rfl, rfl, Nat.zero_le _, Nat.zero_le _⟩ rfl rfl (Nat.le_of_ble_eq_true rfl) dL_bestSo_88 ?_
              refine v_istore C dL_bestSo_91 (by decide) ?_
              refine v_iloadn C dL_bestSo_93 rfl ?_
              refine v_if_lt C 103 dL_bestSo_94 (by decide) (fun hc => ?_) (fun hc => ?_)
              · replace hsh := ite_p hc hsh
                exact v_wk (hj103 _ _ _ _ _ _ hsh) (wk_of (And.intro rfl (And.intro rfl (And.intro rfl (And.intro rfl (And.intro rfl (And.intro rfl trivial)))))))
              · replace hsh := ite_n hc hsh
                refine v_iload C dL_bestSo_97 rfl ?_
                refine v_iloadn C dL_bestSo_99 rfl ?_
                refine v_ic_ge C 107 dL_bestSo_100 (by decide) (fun hc => ?_) (fun hc => ?_)
                · replace hsh := ite_p hc hsh
                  refine v_iloadn C dL_bestSo_107 rfl ?_
                  exact v_wk (hj108 _ _ _ _ _ _ _ hsh) (wk_of (And.intro rfl (And.intro rfl (And.intro rfl (And.intro rfl (And.intro rfl (And.intro rfl trivial)))))))
                · replace hsh := ite_n hc hsh
                  exact v_wk (hj103 _ _ _ _ _ _ hsh) (wk_of (And.intro rfl (And.intro rfl (And.intro rfl (And.intro rfl (And.intro rfl (And.intro rfl trivial)))))))
set_option maxRecDepth 100000 in
set_option maxHeartbeats 4000000 in
theorem c_L_bestSo (l : Launch) (D : va_G) (t : gT) (ad : Nat → Nat) (hI : gI ad) {G : gG} {r0 : Int32} {G0 : gG} (hsh : sh_L_bestSo G = some (r0, G0)) : Mi l D t ad yL_bestSo cL_bestSo 9 (some .boolean) (rM 7 164) [.ref (ad 70)] G r0 G0 := by
  refine m_go hI RL rfl (by decide +kernel) ⟨rfl, rfl⟩ (Nat.le_of_ble_eq_true rfl) rfl [some (.ref (ad 70)), none, none, none, none, none, none, none, none] rfl (fun p e s m args below meth c C => ?_)
  unfold sh_L_bestSo at hsh
  refine v_bipush C dL_bestSo_0 (v := -5) (by decide) ?_
  refine v_istoren C dL_bestSo_2 (by decide) ?_
  refine v_bipush C dL_bestSo_3 (v := -5) (by decide) ?_
  refine v_istoren C dL_bestSo_5 (by decide) ?_
  refine v_iconst C dL_bestSo_6 (v := 0) (by decide) ?_
  refine v_istoren C dL_bestSo_7 (by decide) ?_
  refine v_wk (lp_L_bestSo_8 C hI (fun l1 l2 G hsh => ?_) FU _ _ _ _ hsh) (wk_of (And.intro rfl (And.intro rfl (And.intro rfl (And.intro rfl trivial)))))
  refine v_iloadn C dL_bestSo_154 rfl ?_
  refine v_if_ge C 186 dL_bestSo_155 (by decide) (fun hc => ?_) (fun hc => ?_)
  · replace hsh := ite_p hc hsh
    refine v_aloadn C dL_bestSo_186 rfl ?_
    refine v_iconst C dL_bestSo_187 (v := 0) (by decide) ?_
    obtain ⟨r22, G23, e21, hsh⟩ := obi_e hsh
    refine v_callI (nP := 1) (k := 70) C (by decide) rfl rfl (c_X3_bestLink l D t ad hI  e21) k160 k157 k158 k159 k1 yo_X3_bestLink ⟨Nat.le_of_ble_eq_true rfl, Nat.le_of_ble_eq_true rfl, rfl, rfl, Nat.zero_le _, Nat.zero_le _⟩ rfl rfl (Nat.le_of_ble_eq_true rfl) dL_bestSo_188 ?_
    refine v_iloadn C dL_bestSo_191 rfl ?_
    refine v_bipush C dL_bestSo_192 (v := 16) (by decide) ?_
    refine v_idiv C dL_bestSo_194 (by decide) ?_
    refine v_ic_ne C 223 dL_bestSo_195 (by decide) (fun hc => ?_) (fun hc => ?_)
    · replace hsh := ite_n hc hsh
      refine v_iconst C dL_bestSo_223 (v := 0) (by decide) ?_
      obtain ⟨rfl, rfl⟩ := so_i hsh
      exact v_zret C (Or.inl rfl) dL_bestSo_224
    · replace hsh := ite_p hc hsh
      refine v_aloadn C dL_bestSo_198 rfl ?_
      refine v_iconst C dL_bestSo_199 (v := 1) (by decide) ?_
      obtain ⟨r25, G26, e24, hsh⟩ := obi_e hsh
      refine v_callI (nP := 1) (k := 70) C (by decide) rfl rfl (c_X3_bestLink l D t ad hI  e24) k160 k157 k158 k159 k1 yo_X3_bestLink ⟨Nat.le_of_ble_eq_true rfl, Nat.le_of_ble_eq_true rfl, rfl, rfl, Nat.zero_le _, Nat.zero_le _⟩ rfl rfl (Nat.le_of_ble_eq_true rfl) dL_bestSo_200 ?_
      refine v_iloadn C dL_bestSo_203 rfl ?_
      refine v_bipush C dL_bestSo_204 (v := 16) (by decide) ?_
      refine v_irem C dL_bestSo_206 (by decide) ?_
      refine v_ic_ne C 223 dL_bestSo_207 (by decide) (fun hc => ?_) (fun hc => ?_)
      · replace hsh := ite_n hc hsh
        refine v_iconst C dL_bestSo_223 (v := 0) (by decide) ?_
        obtain ⟨rfl, rfl⟩ := so_i hsh
        exact v_zret C (Or.inl rfl) dL_bestSo_224
      · replace hsh := ite_p hc hsh
        refine v_aloadn C dL_bestSo_210 rfl ?_
        refine v_iconst C dL_bestSo_211 (v := 2) (by decide) ?_
        obtain ⟨r28, G29, e27, hsh⟩ := obi_e hsh
        refine v_callI (nP := 1) (k := 70) C (by decide) rfl rfl (c_X3_bestLink l D t ad hI  e27) k160 k157 k158 k159 k1 yo_X3_bestLink ⟨Nat.le_of_ble_eq_true rfl, Nat.le_of_ble_eq_true rfl, rfl, rfl, Nat.zero_le _, Nat.zero_le _⟩ rfl rfl (Nat.le_of_ble_eq_true rfl) dL_bestSo_212 ?_
        refine v_iloadn C dL_bestSo_215 rfl ?_
        refine v_ic_ne C 223 dL_bestSo_216 (by decide) (fun hc => ?_) (fun hc => ?_)
        · replace hsh := ite_n hc hsh
          refine v_iconst C dL_bestSo_223 (v := 0) (by decide) ?_
          obtain ⟨rfl, rfl⟩ := so_i hsh
          exact v_zret C (Or.inl rfl) dL_bestSo_224
        · replace hsh := ite_p hc hsh
          refine v_iconst C dL_bestSo_219 (v := 1) (by decide) ?_
          refine v_goto C 224 dL_bestSo_220 (by decide) ?_
          obtain ⟨rfl, rfl⟩ := so_i hsh
          exact v_zret C (Or.inr rfl) dL_bestSo_224
  · replace hsh := ite_n hc hsh
    refine v_aloadn C dL_bestSo_158 rfl ?_
    refine v_iconst C dL_bestSo_159 (v := 0) (by decide) ?_
    obtain ⟨r31, G32, e30, hsh⟩ := obi_e hsh
    refine v_callI (nP := 1) (k := 70) C (by decide) rfl rfl (c_X3_bestLink l D t ad hI  e30) k160 k157 k158 k159 k1 yo_X3_bestLink ⟨Nat.le_of_ble_eq_true rfl, Nat.le_of_ble_eq_true rfl, rfl, rfl, Nat.zero_le _, Nat.zero_le _⟩ rfl rfl (Nat.le_of_ble_eq_true rfl) dL_bestSo_160 ?_
    refine v_bipush C dL_bestSo_163 (v := -5) (by decide) ?_
    refine v_ic_ne C 182 dL_bestSo_165 (by decide) (fun hc => ?_) (fun hc => ?_)
    · replace hsh := ite_n hc hsh
      refine v_iconst C dL_bestSo_182 (v := 0) (by decide) ?_
      refine v_goto C 224 dL_bestSo_183 (by decide) ?_
      obtain ⟨rfl, rfl⟩ := so_i hsh
      exact v_zret C (Or.inl rfl) dL_bestSo_224
    · replace hsh := ite_p hc hsh
      refine v_aloadn C dL_bestSo_168 rfl ?_
      refine v_iconst C dL_bestSo_169 (v := 2) (by decide) ?_
      obtain ⟨r34, G35, e33, hsh⟩ := obi_e hsh
      refine v_callI (nP := 1) (k := 70) C (by decide) rfl rfl (c_X3_bestLink l D t ad hI  e33) k160 k157 k158 k159 k1 yo_X3_bestLink ⟨Nat.le_of_ble_eq_true rfl, Nat.le_of_ble_eq_true rfl, rfl, rfl, Nat.zero_le _, Nat.zero_le _⟩ rfl rfl (Nat.le_of_ble_eq_true rfl) dL_bestSo_170 ?_
      refine v_bipush C dL_bestSo_173 (v := -5) (by decide) ?_
      refine v_ic_ne C 182 dL_bestSo_175 (by decide) (fun hc => ?_) (fun hc => ?_)
      · replace hsh := ite_n hc hsh
        refine v_iconst C dL_bestSo_182 (v := 0) (by decide) ?_
        refine v_goto C 224 dL_bestSo_183 (by decide) ?_
        obtain ⟨rfl, rfl⟩ := so_i hsh
        exact v_zret C (Or.inl rfl) dL_bestSo_224
      · replace hsh := ite_p hc hsh
        refine v_iconst C dL_bestSo_178 (v := 1) (by decide) ?_
        refine v_goto C 224 dL_bestSo_179 (by decide) ?_
        obtain ⟨rfl, rfl⟩ := so_i hsh
        exact v_zret C (Or.inr rfl) dL_bestSo_224
theorem yo_L_bestSo : yOk yL_bestSo 1 := ⟨by decide, by decide, by decide +kernel⟩

def sh_L_twins_55  (kt130 : Int32 → Int32 → Int32 → gG → Option (Int32 × gG)) : Nat → Int32 → Int32 → Int32 → Int32 → gG → Option (Int32 × gG)
  | 0, _, _, _, _, _ => none
  | n + 1, l1, l4, l5, l6, G => (if (16 : Int32) ≤ l6 then kt130 l1 l4 l5 G else (if l6 = l4 then sh_L_twins_55 kt130 n l1 l4 l5 (l6 + 1) G else (if l6 = l5 then sh_L_twins_55 kt130 n l1 l4 l5 (l6 + 1) G else (obp (sh_L_isThere l6 G) fun r16 => (if r16 = (0 : Int32) then sh_L_twins_55 kt130 n l1 l4 l5 (l6 + 1) G else (obp (sh_L_low (l1 >>> (l6 &&& 31)) (3 : Int32)) fun r18 => (if r18 = (0 : Int32) then (obi (sh_X3_link l4 l6 (1 : Int32) G) fun r20 G21 => (if r20 < (1 : Int32) then some ((0 : Int32), G21) else (obi (sh_X3_link l5 l6 (1 : Int32) G21) fun r23 G24 => (if (1 : Int32) ≤ r23 then sh_L_twins_55 kt130 n l1 l4 l5 (l6 + 1) G24 else some ((0 : Int32), G24))))) else sh_L_twins_55 kt130 n l1 l4 l5 (l6 + 1) G)))))))
def sh_L_twins_j274 (kt289 : gG → Option (Int32 × gG)) (self158 : Int32 → Int32 → Int32 → Int32 → gG → Option (Int32 × gG)) (l1 : Int32) (l4 : Int32) (l5 : Int32) (l6 : Int32) (x0 : Int32) (G : gG) : Option (Int32 × gG) := (if x0 = (0 : Int32) then some ((0 : Int32), G) else self158 l1 l4 l5 (l6 + 1) G)
def sh_L_twins_j273 (kt289 : gG → Option (Int32 × gG)) (self158 : Int32 → Int32 → Int32 → Int32 → gG → Option (Int32 × gG)) (l1 : Int32) (l4 : Int32) (l5 : Int32) (l6 : Int32) (G : gG) : Option (Int32 × gG) := (sh_L_twins_j274 kt289 self158 l1 l4 l5 l6 (0 : Int32) G)
def sh_L_twins_158  (kt289 : gG → Option (Int32 × gG)) : Nat → Int32 → Int32 → Int32 → Int32 → gG → Option (Int32 × gG)
  | 0, _, _, _, _, _ => none
  | n + 1, l1, l4, l5, l6, G => (if (5 : Int32) ≤ l6 then kt289  G else (obp (sh_L_low (l1 >>> (((3 : Int32) * l6) &&& 31)) (90 : Int32)) fun r28 => (obi (sh_X3_pass ((1 : Int32) + r28) G) fun r30 G31 => (if r30 < (0 : Int32) then (sh_L_twins_j273 kt289 (sh_L_twins_158 kt289 n) l1 l4 l5 l6 G31) else (obp (sh_X3_lamp l4 (0 : Int32) G31) fun r33 => (obp (sh_X3_lamp l5 (0 : Int32) G31) fun r35 => (if r33 = r35 then (obp (sh_X3_lamp l4 (4 : Int32) G31) fun r37 => (obp (sh_X3_lamp l5 (4 : Int32) G31) fun r39 => (if r37 = r39 then (obp (sh_X3_lamp l4 (5 : Int32) G31) fun r41 => (obp (sh_X3_lamp l5 (5 : Int32) G31) fun r43 => (if r41 = r43 then (obp (sh_X3_lamp l4 (9 : Int32) G31) fun r45 => (obp (sh_X3_lamp l5 (9 : Int32) G31) fun r47 => (if r45 = r47 then (obp (sh_X3_apart l4 l5 G31) fun r49 => (if r49 = (0 : Int32) then (sh_L_twins_j274 kt289 (sh_L_twins_158 kt289 n) l1 l4 l5 l6 (1 : Int32) G31) else (sh_L_twins_j273 kt289 (sh_L_twins_158 kt289 n) l1 l4 l5 l6 G31))) else (sh_L_twins_j273 kt289 (sh_L_twins_158 kt289 n) l1 l4 l5 l6 G31)))) else (sh_L_twins_j273 kt289 (sh_L_twins_158 kt289 n) l1 l4 l5 l6 G31)))) else (sh_L_twins_j273 kt289 (sh_L_twins_158 kt289 n) l1 l4 l5 l6 G31)))) else (sh_L_twins_j273 kt289 (sh_L_twins_158 kt289 n) l1 l4 l5 l6 G31))))))))
def sh_L_twins (l1 : Int32) (G : gG) : Option (Int32 × gG) := (obp (sh_X3_count (1 : Int32) G) fun r2 => (if r2 ≤ (14 : Int32) then (obp (sh_X3_count (9 : Int32) G) fun r4 => (obp (sh_L_low l1 r4) fun r6 => (obp (sh_L_low (l1 >>> ((7 : Int32) &&& 31)) (101 : Int32)) fun r8 => (obi (sh_X3_come r6 ((50 : Int32) + r8) G) fun r10 G11 => (obi (sh_X3_come r6 ((50 : Int32) + r8) G11) fun r13 G14 => (sh_L_twins_55 (fun l1 l4 l5 G => (obp (sh_L_low (l1 >>> ((3 : Int32) &&& 31)) (2 : Int32)) fun r26 => (if r26 = (0 : Int32) then (obi (sh_X3_link l4 l5 (1 : Int32) G) fun r51 G52 => (if (1 : Int32) ≤ r51 then (sh_L_twins_158 (fun G => some ((1 : Int32), G)) FU l1 l4 l5 (0 : Int32) G52) else some ((0 : Int32), G52))) else (sh_L_twins_158 (fun G => some ((1 : Int32), G)) FU l1 l4 l5 (0 : Int32) G)))) FU l1 r10 r13 (0 : Int32) G14)))))) else some ((1 : Int32), G)))
set_option maxRecDepth 100000 in
set_option maxHeartbeats 4000000 in
theorem lp_L_twins_55 {p : Program} {l : Launch} {e : Env} {s : State} {m : MethodId} {args : Array Value} {below : List Frame} {meth : Method} {c : Code} {D : va_G} {t : gT} {ad : Nat → Nat} (C : gC p s m args meth c cL_twins RL 9 (some .boolean) (isW ad) D t ad) (hI : gI ad) {r0 : Int32} {G0 : gG} {kt130 : Int32 → Int32 → Int32 → gG → Option (Int32 × gG)} (hk130 : ∀ (l1 : Int32) (l4 : Int32) (l5 : Int32) (G : gG) , kt130 l1 l4 l5 G = some (r0, G0) → V p l e (rM 6 137) s m args below meth c (isW ad) D t ad 0 0 9 (Qi below D t ad args s r0 G0) G 130 [some (.ref (ad 70)), some (.int l1), none, none, some (.int l4), some (.int l5), none, none, none] []) : ∀ (n : Nat) (l1 : Int32) (l4 : Int32) (l5 : Int32) (l6 : Int32) (G : gG) , sh_L_twins_55 kt130 n l1 l4 l5 l6 G = some (r0, G0) → V p l e (rM 6 137) s m args below meth c (isW ad) D t ad 0 0 9 (Qi below D t ad args s r0 G0) G 55 [some (.ref (ad 70)), some (.int l1), none, none, some (.int l4), some (.int l5), some (.int l6), none, none] [] := by
  intro n
  induction n with
  | zero => intro l1 l4 l5 l6 G hsh; rw [sh_L_twins_55.eq_1] at hsh; cases hsh
  | succ n ih =>
    intro l1 l4 l5 l6 G hsh
    rw [sh_L_twins_55.eq_2] at hsh
    refine v_iload C dL_twins_55 rfl ?_
    refine v_bipush C dL_twins_57 (v := 16) (by decide) ?_
    refine v_ic_ge C 130 dL_twins_59 (by decide) (fun hc => ?_) (fun hc => ?_)
    · replace hsh := ite_p hc hsh
      exact v_wk (hk130 _ _ _ _ hsh) (wk_of (And.intro rfl (And.intro rfl (And.intro rfl (And.intro rfl trivial)))))
    · replace hsh := ite_n hc hsh
      refine v_iload C dL_twins_62 rfl ?_
      refine v_iload C dL_twins_64 rfl ?_
      refine v_ic_eq C 124 dL_twins_66 (by decide) (fun hc => ?_) (fun hc => ?_)
      · replace hsh := ite_p hc hsh
        refine v_iinc C dL_twins_124 rfl (v := 1) (by decide) (by decide) ?_
        refine v_goto C 55 dL_twins_127 (by decide) ?_
        exact v_wk (ih _ _ _ _ _ hsh) (wk_of (And.intro rfl (And.intro rfl (And.intro rfl (And.intro rfl (And.intro rfl trivial))))))
      · replace hsh := ite_n hc hsh
        refine v_iload C dL_twins_69 rfl ?_
        refine v_iload C dL_twins_71 rfl ?_
        refine v_ic_eq C 124 dL_twins_73 (by decide) (fun hc => ?_) (fun hc => ?_)
        · replace hsh := ite_p hc hsh
          refine v_iinc C dL_twins_124 rfl (v := 1) (by decide) (by decide) ?_
          refine v_goto C 55 dL_twins_127 (by decide) ?_
          exact v_wk (ih _ _ _ _ _ hsh) (wk_of (And.intro rfl (And.intro rfl (And.intro rfl (And.intro rfl (And.intro rfl trivial))))))
        · replace hsh := ite_n hc hsh
          refine v_aloadn C dL_twins_76 rfl ?_
          refine v_iload C dL_twins_77 rfl ?_
          obtain ⟨r16, e15, hsh⟩ := obp_e hsh
          refine v_callS (nP := 2) C (c_L_isThere l D t ad hI  e15) k247 k245 k246 k0 yo_L_isThere ⟨Nat.le_of_ble_eq_true rfl, Nat.le_of_ble_eq_true rfl, rfl, rfl, Nat.zero_le _, Nat.zero_le _⟩ rfl rfl (Nat.le_of_ble_eq_true rfl) dL_twins_79 ?_
          refine v_if_eq C 124 dL_twins_82 (by decide) (fun hc => ?_) (fun hc => ?_)
          · replace hsh := ite_p hc hsh
            refine v_iinc C dL_twins_124 rfl (v := 1) (by decide) (by decide) ?_
            refine v_goto C 55 dL_twins_127 (by decide) ?_
            exact v_wk (ih _ _ _ _ _ hsh) (wk_of (And.intro rfl (And.intro rfl (And.intro rfl (And.intro rfl (And.intro rfl trivial))))))
          · replace hsh := ite_n hc hsh
            refine v_iloadn C dL_twins_85 rfl ?_
            refine v_iload C dL_twins_86 rfl ?_
            refine v_ishr C dL_twins_88 ?_
            refine v_iconst C dL_twins_89 (v := 3) (by decide) ?_
            obtain ⟨r18, e17, hsh⟩ := obp_e hsh
            refine v_callS (nP := 2) C (c_L_low l D t ad hI  (G := G) e17) k391 k389 k390 k0 yo_L_low ⟨Nat.le_of_ble_eq_true rfl, Nat.le_of_ble_eq_true rfl, rfl, rfl, Nat.zero_le _, Nat.zero_le _⟩ rfl rfl (Nat.le_of_ble_eq_true rfl) dL_twins_90 ?_
            refine v_if_ne C 124 dL_twins_93 (by decide) (fun hc => ?_) (fun hc => ?_)
            · replace hsh := ite_n hc hsh
              refine v_iinc C dL_twins_124 rfl (v := 1) (by decide) (by decide) ?_
              refine v_goto C 55 dL_twins_127 (by decide) ?_
              exact v_wk (ih _ _ _ _ _ hsh) (wk_of (And.intro rfl (And.intro rfl (And.intro rfl (And.intro rfl (And.intro rfl trivial))))))
            · replace hsh := ite_p hc hsh
              refine v_aloadn C dL_twins_96 rfl ?_
              refine v_iload C dL_twins_97 rfl ?_
              refine v_iload C dL_twins_99 rfl ?_
              refine v_iconst C dL_twins_101 (v := 1) (by decide) ?_
              obtain ⟨r20, G21, e19, hsh⟩ := obi_e hsh
              refine v_callI (nP := 3) (k := 70) C (by decide) rfl rfl (c_X3_link l D t ad hI  e19) k445 k442 k443 k444 k1 yo_X3_link ⟨Nat.le_of_ble_eq_true rfl, Nat.le_of_ble_eq_true rfl, rfl, rfl, Nat.zero_le _, Nat.zero_le _⟩ rfl rfl (Nat.le_of_ble_eq_true rfl) dL_twins_102 ?_
              refine v_iconst C dL_twins_105 (v := 1) (by decide) ?_
              refine v_ic_lt C 122 dL_twins_106 (by decide) (fun hc => ?_) (fun hc => ?_)
              · replace hsh := ite_p hc hsh
                refine v_iconst C dL_twins_122 (v := 0) (by decide) ?_
                obtain ⟨rfl, rfl⟩ := so_i hsh
                exact v_zret C (Or.inl rfl) dL_twins_123
              · replace hsh := ite_n hc hsh
                refine v_aloadn C dL_twins_109 rfl ?_
                refine v_iload C dL_twins_110 rfl ?_
                refine v_iload C dL_twins_112 rfl ?_
                refine v_iconst C dL_twins_114 (v := 1) (by decide) ?_
                obtain ⟨r23, G24, e22, hsh⟩ := obi_e hsh
                refine v_callI (nP := 3) (k := 70) C (by decide) rfl rfl (c_X3_link l D t ad hI  e22) k445 k442 k443 k444 k1 yo_X3_link ⟨Nat.le_of_ble_eq_true rfl, Nat.le_of_ble_eq_true rfl, rfl, rfl, Nat.zero_le _, Nat.zero_le _⟩ rfl rfl (Nat.le_of_ble_eq_true rfl) dL_twins_115 ?_
                refine v_iconst C dL_twins_118 (v := 1) (by decide) ?_
                refine v_ic_ge C 124 dL_twins_119 (by decide) (fun hc => ?_) (fun hc => ?_)
                · replace hsh := ite_p hc hsh
                  refine v_iinc C dL_twins_124 rfl (v := 1) (by decide) (by decide) ?_
                  refine v_goto C 55 dL_twins_127 (by decide) ?_
                  exact v_wk (ih _ _ _ _ _ hsh) (wk_of (And.intro rfl (And.intro rfl (And.intro rfl (And.intro rfl (And.intro rfl trivial))))))
                · replace hsh := ite_n hc hsh
                  refine v_iconst C dL_twins_122 (v := 0) (by decide) ?_
                  obtain ⟨rfl, rfl⟩ := so_i hsh
                  exact v_zret C (Or.inl rfl) dL_twins_123
set_option maxRecDepth 100000 in
set_option maxHeartbeats 4000000 in
theorem lp_L_twins_158 {p : Program} {l : Launch} {e : Env} {s : State} {m : MethodId} {args : Array Value} {below : List Frame} {meth : Method} {c : Code} {D : va_G} {t : gT} {ad : Nat → Nat} (C : gC p s m args meth c cL_twins RL 9 (some .boolean) (isW ad) D t ad) (hI : gI ad) {r0 : Int32} {G0 : gG} {kt289 : gG → Option (Int32 × gG)} (hk289 : ∀ (G : gG) , kt289 G = some (r0, G0) → V p l e (rM 6 137) s m args below meth c (isW ad) D t ad 0 0 9 (Qi below D t ad args s r0 G0) G 289 [none, none, none, none, none, none, none, none, none] []) : ∀ (n : Nat) (l1 : Int32) (l4 : Int32) (l5 : Int32) (l6 : Int32) (G : gG) , sh_L_twins_158 kt289 n l1 l4 l5 l6 G = some (r0, G0) → V p l e (rM 6 137) s m args below meth c (isW ad) D t ad 0 0 9 (Qi below D t ad args s r0 G0) G 158 [some (.ref (ad 70)), some (.int l1), none, none, some (.int l4), some (.int l5), some (.int l6), none, none] [] := by
  intro n
  induction n with
  | zero => intro l1 l4 l5 l6 G hsh; rw [sh_L_twins_158.eq_1] at hsh; cases hsh
  | succ n ih =>
    intro l1 l4 l5 l6 G hsh
    rw [sh_L_twins_158.eq_2] at hsh
    have hj274 : ∀ (l1 : Int32) (l4 : Int32) (l5 : Int32) (l6 : Int32) (x0 : Int32) (G : gG) , sh_L_twins_j274 kt289 (sh_L_twins_158 kt289 n) l1 l4 l5 l6 x0 G = some (r0, G0) → V p l e (rM 6 137) s m args below meth c (isW ad) D t ad 0 0 9 (Qi below D t ad args s r0 G0) G 274 [some (.ref (ad 70)), some (.int l1), none, none, some (.int l4), some (.int l5), some (.int l6), none, none] [.int x0] := by
      intro l1 l4 l5 l6 x0 G hsh
      unfold sh_L_twins_j274 at hsh
      refine v_istore C dL_twins_274 (by decide) ?_
      refine v_iload C dL_twins_276 rfl ?_
      refine v_if_ne C 283 dL_twins_278 (by decide) (fun hc => ?_) (fun hc => ?_)
      · replace hsh := ite_n hc hsh
        refine v_iinc C dL_twins_283 rfl (v := 1) (by decide) (by decide) ?_
        refine v_goto C 158 dL_twins_286 (by decide) ?_
        exact v_wk (ih _ _ _ _ _ hsh) (wk_of (And.intro rfl (And.intro rfl (And.intro rfl (And.intro rfl (And.intro rfl trivial))))))
      · replace hsh := ite_p hc hsh
        refine v_iconst C dL_twins_281 (v := 0) (by decide) ?_
        obtain ⟨rfl, rfl⟩ := so_i hsh
        exact v_zret C (Or.inl rfl) dL_twins_282
    have hj273 : ∀ (l1 : Int32) (l4 : Int32) (l5 : Int32) (l6 : Int32) (G : gG) , sh_L_twins_j273 kt289 (sh_L_twins_158 kt289 n) l1 l4 l5 l6 G = some (r0, G0) → V p l e (rM 6 137) s m args below meth c (isW ad) D t ad 0 0 9 (Qi below D t ad args s r0 G0) G 273 [some (.ref (ad 70)), some (.int l1), none, none, some (.int l4), some (.int l5), some (.int l6), none, none] [] := by
      intro l1 l4 l5 l6 G hsh
      unfold sh_L_twins_j273 at hsh
      refine v_iconst C dL_twins_273 (v := 0) (by decide) ?_
      exact v_wk (hj274 _ _ _ _ _ _ hsh) (wk_of (And.intro rfl (And.intro rfl (And.intro rfl (And.intro rfl (And.intro rfl trivial))))))
    refine v_iload C dL_twins_158 rfl ?_
    refine v_iconst C dL_twins_160 (v := 5) (by decide) ?_
    refine v_ic_ge C 289 dL_twins_161 (by decide) (fun hc => ?_) (fun hc => ?_)
    · replace hsh := ite_p hc hsh
      exact v_wk (hk289  _ hsh) (wk_of trivial)
    · replace hsh := ite_n hc hsh
      refine v_aloadn C dL_twins_164 rfl ?_
      refine v_iconst C dL_twins_165 (v := 1) (by decide) ?_
      refine v_iloadn C dL_twins_166 rfl ?_
      refine v_iconst C dL_twins_167 (v := 3) (by decide) ?_
      refine v_iload C dL_twins_168 rfl ?_
      refine v_imul C dL_twins_170 ?_
      refine v_ishr C dL_twins_171 ?_
      refine v_bipush C dL_twins_172 (v := 90) (by decide) ?_
      obtain ⟨r28, e27, hsh⟩ := obp_e hsh
      refine v_callS (nP := 2) C (c_L_low l D t ad hI  (G := G) e27) k391 k389 k390 k0 yo_L_low ⟨Nat.le_of_ble_eq_true rfl, Nat.le_of_ble_eq_true rfl, rfl, rfl, Nat.zero_le _, Nat.zero_le _⟩ rfl rfl (Nat.le_of_ble_eq_true rfl) dL_twins_174 ?_
      refine v_iadd C dL_twins_177 ?_
      obtain ⟨r30, G31, e29, hsh⟩ := obi_e hsh
      refine v_callI (nP := 1) (k := 70) C (by decide) rfl rfl (c_X3_pass l D t ad hI  e29) k356 k353 k354 k355 k1 yo_X3_pass ⟨Nat.le_of_ble_eq_true rfl, Nat.le_of_ble_eq_true rfl, rfl, rfl, Nat.zero_le _, Nat.zero_le _⟩ rfl rfl (Nat.le_of_ble_eq_true rfl) dL_twins_178 ?_
      refine v_istore C dL_twins_181 (by decide) ?_
      refine v_iload C dL_twins_183 rfl ?_
      refine v_if_lt C 273 dL_twins_185 (by decide) (fun hc => ?_) (fun hc => ?_)
      · replace hsh := ite_p hc hsh
        exact v_wk (hj273 _ _ _ _ _ hsh) (wk_of (And.intro rfl (And.intro rfl (And.intro rfl (And.intro rfl (And.intro rfl trivial))))))
      · replace hsh := ite_n hc hsh
        refine v_aloadn C dL_twins_188 rfl ?_
        refine v_iload C dL_twins_189 rfl ?_
        refine v_iconst C dL_twins_191 (v := 0) (by decide) ?_
        obtain ⟨r33, e32, hsh⟩ := obp_e hsh
        refine v_callI (nP := 2) (k := 70) C (by decide) rfl rfl (c_X3_lamp l D t ad hI  e32) k251 k248 k249 k250 k1 yo_X3_lamp ⟨Nat.le_of_ble_eq_true rfl, Nat.le_of_ble_eq_true rfl, rfl, rfl, Nat.zero_le _, Nat.zero_le _⟩ rfl rfl (Nat.le_of_ble_eq_true rfl) dL_twins_192 ?_
        refine v_aloadn C dL_twins_195 rfl ?_
        refine v_iload C dL_twins_196 rfl ?_
        refine v_iconst C dL_twins_198 (v := 0) (by decide) ?_
        obtain ⟨r35, e34, hsh⟩ := obp_e hsh
        refine v_callI (nP := 2) (k := 70) C (by decide) rfl rfl (c_X3_lamp l D t ad hI  e34) k251 k248 k249 k250 k1 yo_X3_lamp ⟨Nat.le_of_ble_eq_true rfl, Nat.le_of_ble_eq_true rfl, rfl, rfl, Nat.zero_le _, Nat.zero_le _⟩ rfl rfl (Nat.le_of_ble_eq_true rfl) dL_twins_199 ?_
        refine v_ic_ne C 273 dL_twins_202 (by decide) (fun hc => ?_) (fun hc => ?_)
        · replace hsh := ite_n hc hsh
          exact v_wk (hj273 _ _ _ _ _ hsh) (wk_of (And.intro rfl (And.intro rfl (And.intro rfl (And.intro rfl (And.intro rfl trivial))))))
        · replace hsh := ite_p hc hsh
          refine v_aloadn C dL_twins_205 rfl ?_
          refine v_iload C dL_twins_206 rfl ?_
          refine v_iconst C dL_twins_208 (v := 4) (by decide) ?_
          obtain ⟨r37, e36, hsh⟩ := obp_e hsh
          refine v_callI (nP := 2) (k := 70) C (by decide) rfl rfl (c_X3_lamp l D t ad hI  e36) k251 k248 k249 k250 k1 yo_X3_lamp ⟨Nat.le_of_ble_eq_true rfl, Nat.le_of_ble_eq_true rfl, rfl, rfl, Nat.zero_le _, Nat.zero_le _⟩ rfl rfl (Nat.le_of_ble_eq_true rfl) dL_twins_209 ?_
          refine v_aloadn C dL_twins_212 rfl ?_
          refine v_iload C dL_twins_213 rfl ?_
          refine v_iconst C dL_twins_215 (v := 4) (by decide) ?_
          obtain ⟨r39, e38, hsh⟩ := obp_e hsh
          refine v_callI (nP := 2) (k := 70) C (by decide) rfl rfl (c_X3_lamp l D t ad hI  e38) k251 k248 k249 k250 k1 yo_X3_lamp ⟨Nat.le_of_ble_eq_true rfl, Nat.le_of_ble_eq_true rfl, rfl, rfl, Nat.zero_le _, Nat.zero_le _⟩ rfl rfl (Nat.le_of_ble_eq_true rfl) dL_twins_216 ?_
          refine v_ic_ne C 273 dL_twins_219 (by decide) (fun hc => ?_) (fun hc => ?_)
          · replace hsh := ite_n hc hsh
            exact v_wk (hj273 _ _ _ _ _ hsh) (wk_of (And.intro rfl (And.intro rfl (And.intro rfl (And.intro rfl (And.intro rfl trivial))))))
          · replace hsh := ite_p hc hsh
            refine v_aloadn C dL_twins_222 rfl ?_
            refine v_iload C dL_twins_223 rfl ?_
            refine v_iconst C dL_twins_225 (v := 5) (by decide) ?_
            obtain ⟨r41, e40, hsh⟩ := obp_e hsh
            refine v_callI (nP := 2) (k := 70) C (by decide) rfl rfl (c_X3_lamp l D t ad hI  e40) k251 k248 k249 k250 k1 yo_X3_lamp ⟨Nat.le_of_ble_eq_true rfl, Nat.le_of_ble_eq_true rfl, rfl, rfl, Nat.zero_le _, Nat.zero_le _⟩ rfl rfl (Nat.le_of_ble_eq_true rfl) dL_twins_226 ?_
            refine v_aloadn C dL_twins_229 rfl ?_
            refine v_iload C dL_twins_230 rfl ?_
            refine v_iconst C dL_twins_232 (v := 5) (by decide) ?_
            obtain ⟨r43, e42, hsh⟩ := obp_e hsh
            refine v_callI (nP := 2) (k := 70) C (by decide) rfl rfl (c_X3_lamp l D t ad hI  e42) k251 k248 k249 k250 k1 yo_X3_lamp ⟨Nat.le_of_ble_eq_true rfl, Nat.le_of_ble_eq_true rfl, rfl, rfl, Nat.zero_le _, Nat.zero_le _⟩ rfl rfl (Nat.le_of_ble_eq_true rfl) dL_twins_233 ?_
            refine v_ic_ne C 273 dL_twins_236 (by decide) (fun hc => ?_) (fun hc => ?_)
            · replace hsh := ite_n hc hsh
              exact v_wk (hj273 _ _ _ _ _ hsh) (wk_of (And.intro rfl (And.intro rfl (And.intro rfl (And.intro rfl (And.intro rfl trivial))))))
            · replace hsh := ite_p hc hsh
              refine v_aloadn C dL_twins_239 rfl ?_
              refine v_iload C dL_twins_240 rfl ?_
              refine v_bipush C dL_twins_242 (v := 9) (by decide) ?_
              obtain ⟨r45, e44, hsh⟩ := obp_e hsh
              refine v_callI (nP := 2) (k := 70) C (by decide) rfl rfl (c_X3_lamp l D t ad hI  e44) k251 k248 k249 k250 k1 yo_X3_lamp ⟨Nat.le_of_ble_eq_true rfl, Nat.le_of_ble_eq_true rfl, rfl, rfl, Nat.zero_le _, Nat.zero_le _⟩ rfl rfl (Nat.le_of_ble_eq_true rfl) dL_twins_244 ?_
              refine v_aloadn C dL_twins_247 rfl ?_
              refine v_iload C dL_twins_248 rfl ?_
              refine v_bipush C dL_twins_250 (v := 9) (by decide) ?_
              obtain ⟨r47, e46, hsh⟩ := obp_e hsh
              refine v_callI (nP := 2) (k := 70) C (by decide) rfl rfl (c_X3_lamp l D t ad hI  e46) k251 k248 k249 k250 k1 yo_X3_lamp ⟨Nat.le_of_ble_eq_true rfl, Nat.le_of_ble_eq_true rfl, rfl, rfl, Nat.zero_le _, Nat.zero_le _⟩ rfl rfl (Nat.le_of_ble_eq_true rfl) dL_twins_252 ?_
              refine v_ic_ne C 273 dL_twins_255 (by decide) (fun hc => ?_) (fun hc => ?_)
              · replace hsh := ite_n hc hsh
                exact v_wk (hj273 _ _ _ _ _ hsh) (wk_of (And.intro rfl (And.intro rfl (And.intro rfl (And.intro rfl (And.intro rfl trivial))))))
              · replace hsh := ite_p hc hsh
                refine v_aloadn C dL_twins_258 rfl ?_
                refine v_iload C dL_twins_259 rfl ?_
                refine v_iload C dL_twins_261 rfl ?_
                obtain ⟨r49, e48, hsh⟩ := obp_e hsh
                refine v_callI (nP := 2) (k := 70) C (by decide) rfl rfl (c_X3_apart l D t ad hI  e48) k278 k275 k276 k277 k1 yo_X3_apart ⟨Nat.le_of_ble_eq_true rfl, Nat.le_of_ble_eq_true rfl, rfl, rfl, Nat.zero_le _, Nat.zero_le _⟩ rfl rfl (Nat.le_of_ble_eq_true rfl) dL_twins_263 ?_
                refine v_if_ne C 273 dL_twins_266 (by decide) (fun hc => ?_) (fun hc => ?_)
                · replace hsh := ite_n hc hsh
                  exact v_wk (hj273 _ _ _ _ _ hsh) (wk_of (And.intro rfl (And.intro rfl (And.intro rfl (And.intro rfl (And.intro rfl trivial))))))
                · replace hsh := ite_p hc hsh
                  refine v_iconst C dL_twins_269 (v := 1) (by decide) ?_
                  refine v_goto C 274 dL_twins_270 (by decide) ?_
                  exact v_wk (hj274 _ _ _ _ _ _ hsh) (wk_of (And.intro rfl (And.intro rfl (And.intro rfl (And.intro rfl (And.intro rfl trivial))))))
set_option maxRecDepth 100000 in
set_option maxHeartbeats 4000000 in
theorem c_L_twins (l : Launch) (D : va_G) (t : gT) (ad : Nat → Nat) (hI : gI ad) {l1 : Int32} {G : gG} {r0 : Int32} {G0 : gG} (hsh : sh_L_twins l1 G = some (r0, G0)) : Mi l D t ad yL_twins cL_twins 9 (some .boolean) (rM 6 137) [.ref (ad 70), .int l1] G r0 G0 := by
  refine m_go hI RL rfl (by decide +kernel) ⟨rfl, rfl⟩ (Nat.le_of_ble_eq_true rfl) rfl [some (.ref (ad 70)), some (.int l1), none, none, none, none, none, none, none] rfl (fun p e s m args below meth c C => ?_)
  unfold sh_L_twins at hsh
  refine v_aloadn C dL_twins_0 rfl ?_
  refine v_iconst C dL_twins_1 (v := 1) (by decide) ?_
  obtain ⟨r2, e1, hsh⟩ := obp_e hsh
  refine v_callI (nP := 1) (k := 70) C (by decide) rfl rfl (c_X3_count l D t ad hI  e1) k283 k280 k281 k282 k1 yo_X3_count ⟨Nat.le_of_ble_eq_true rfl, Nat.le_of_ble_eq_true rfl, rfl, rfl, Nat.zero_le _, Nat.zero_le _⟩ rfl rfl (Nat.le_of_ble_eq_true rfl) dL_twins_2 ?_
  refine v_bipush C dL_twins_5 (v := 14) (by decide) ?_
  refine v_ic_le C 12 dL_twins_7 (by decide) (fun hc => ?_) (fun hc => ?_)
  · replace hsh := ite_p hc hsh
    refine v_iloadn C dL_twins_12 rfl ?_
    refine v_aloadn C dL_twins_13 rfl ?_
    refine v_bipush C dL_twins_14 (v := 9) (by decide) ?_
    obtain ⟨r4, e3, hsh⟩ := obp_e hsh
    refine v_callI (nP := 1) (k := 70) C (by decide) rfl rfl (c_X3_count l D t ad hI  e3) k283 k280 k281 k282 k1 yo_X3_count ⟨Nat.le_of_ble_eq_true rfl, Nat.le_of_ble_eq_true rfl, rfl, rfl, Nat.zero_le _, Nat.zero_le _⟩ rfl rfl (Nat.le_of_ble_eq_true rfl) dL_twins_16 ?_
    obtain ⟨r6, e5, hsh⟩ := obp_e hsh
    refine v_callS (nP := 2) C (c_L_low l D t ad hI  (G := G) e5) k391 k389 k390 k0 yo_L_low ⟨Nat.le_of_ble_eq_true rfl, Nat.le_of_ble_eq_true rfl, rfl, rfl, Nat.zero_le _, Nat.zero_le _⟩ rfl rfl (Nat.le_of_ble_eq_true rfl) dL_twins_19 ?_
    refine v_istoren C dL_twins_22 (by decide) ?_
    refine v_bipush C dL_twins_23 (v := 50) (by decide) ?_
    refine v_iloadn C dL_twins_25 rfl ?_
    refine v_bipush C dL_twins_26 (v := 7) (by decide) ?_
    refine v_ishr C dL_twins_28 ?_
    refine v_bipush C dL_twins_29 (v := 101) (by decide) ?_
    obtain ⟨r8, e7, hsh⟩ := obp_e hsh
    refine v_callS (nP := 2) C (c_L_low l D t ad hI  (G := G) e7) k391 k389 k390 k0 yo_L_low ⟨Nat.le_of_ble_eq_true rfl, Nat.le_of_ble_eq_true rfl, rfl, rfl, Nat.zero_le _, Nat.zero_le _⟩ rfl rfl (Nat.le_of_ble_eq_true rfl) dL_twins_31 ?_
    refine v_iadd C dL_twins_34 ?_
    refine v_istoren C dL_twins_35 (by decide) ?_
    refine v_aloadn C dL_twins_36 rfl ?_
    refine v_iloadn C dL_twins_37 rfl ?_
    refine v_iloadn C dL_twins_38 rfl ?_
    obtain ⟨r10, G11, e9, hsh⟩ := obi_e hsh
    refine v_callI (nP := 2) (k := 70) C (by decide) rfl rfl (c_X3_come l D t ad hI  e9) k396 k393 k394 k395 k1 yo_X3_come ⟨Nat.le_of_ble_eq_true rfl, Nat.le_of_ble_eq_true rfl, rfl, rfl, Nat.zero_le _, Nat.zero_le _⟩ rfl rfl (Nat.le_of_ble_eq_true rfl) dL_twins_39 ?_
    refine v_istore C dL_twins_42 (by decide) ?_
    refine v_aloadn C dL_twins_44 rfl ?_
    refine v_iloadn C dL_twins_45 rfl ?_
    refine v_iloadn C dL_twins_46 rfl ?_
    obtain ⟨r13, G14, e12, hsh⟩ := obi_e hsh
    refine v_callI (nP := 2) (k := 70) C (by decide) rfl rfl (c_X3_come l D t ad hI  e12) k396 k393 k394 k395 k1 yo_X3_come ⟨Nat.le_of_ble_eq_true rfl, Nat.le_of_ble_eq_true rfl, rfl, rfl, Nat.zero_le _, Nat.zero_le _⟩ rfl rfl (Nat.le_of_ble_eq_true rfl) dL_twins_47 ?_
    refine v_istore C dL_twins_50 (by decide) ?_
    refine v_iconst C dL_twins_52 (v := 0) (by decide) ?_
    refine v_istore C dL_twins_53 (by decide) ?_
    refine v_wk (lp_L_twins_55 C hI (fun l1 l4 l5 G hsh => ?_) FU _ _ _ _ _ hsh) (wk_of (And.intro rfl (And.intro rfl (And.intro rfl (And.intro rfl (And.intro rfl trivial))))))
    refine v_iloadn C dL_twins_130 rfl ?_
    refine v_iconst C dL_twins_131 (v := 3) (by decide) ?_
    refine v_ishr C dL_twins_132 ?_
    refine v_iconst C dL_twins_133 (v := 2) (by decide) ?_
    obtain ⟨r26, e25, hsh⟩ := obp_e hsh
    refine v_callS (nP := 2) C (c_L_low l D t ad hI  (G := G) e25) k391 k389 k390 k0 yo_L_low ⟨Nat.le_of_ble_eq_true rfl, Nat.le_of_ble_eq_true rfl, rfl, rfl, Nat.zero_le _, Nat.zero_le _⟩ rfl rfl (Nat.le_of_ble_eq_true rfl) dL_twins_134 ?_
    refine v_if_ne C 155 dL_twins_137 (by decide) (fun hc => ?_) (fun hc => ?_)
    · replace hsh := ite_n hc hsh
      refine v_iconst C dL_twins_155 (v := 0) (by decide) ?_
      refine v_istore C dL_twins_156 (by decide) ?_
      refine v_wk (lp_L_twins_158 C hI (fun G hsh => ?_) FU _ _ _ _ _ hsh) (wk_of (And.intro rfl (And.intro rfl (And.intro rfl (And.intro rfl (And.intro rfl trivial))))))
      refine v_iconst C dL_twins_289 (v := 1) (by decide) ?_
      obtain ⟨rfl, rfl⟩ := so_i hsh
      exact v_zret C (Or.inr rfl) dL_twins_290
    · replace hsh := ite_p hc hsh
      refine v_aloadn C dL_twins_140 rfl ?_
      refine v_iload C dL_twins_141 rfl ?_
      refine v_iload C dL_twins_143 rfl ?_
      refine v_iconst C dL_twins_145 (v := 1) (by decide) ?_
      obtain ⟨r51, G52, e50, hsh⟩ := obi_e hsh
      refine v_callI (nP := 3) (k := 70) C (by decide) rfl rfl (c_X3_link l D t ad hI  e50) k445 k442 k443 k444 k1 yo_X3_link ⟨Nat.le_of_ble_eq_true rfl, Nat.le_of_ble_eq_true rfl, rfl, rfl, Nat.zero_le _, Nat.zero_le _⟩ rfl rfl (Nat.le_of_ble_eq_true rfl) dL_twins_146 ?_
      refine v_iconst C dL_twins_149 (v := 1) (by decide) ?_
      refine v_ic_ge C 155 dL_twins_150 (by decide) (fun hc => ?_) (fun hc => ?_)
      · replace hsh := ite_p hc hsh
        refine v_iconst C dL_twins_155 (v := 0) (by decide) ?_
        refine v_istore C dL_twins_156 (by decide) ?_
        refine v_wk (lp_L_twins_158 C hI (fun G hsh => ?_) FU _ _ _ _ _ hsh) (wk_of (And.intro rfl (And.intro rfl (And.intro rfl (And.intro rfl (And.intro rfl trivial))))))
        refine v_iconst C dL_twins_289 (v := 1) (by decide) ?_
        obtain ⟨rfl, rfl⟩ := so_i hsh
        exact v_zret C (Or.inr rfl) dL_twins_290
      · replace hsh := ite_n hc hsh
        refine v_iconst C dL_twins_153 (v := 0) (by decide) ?_
        obtain ⟨rfl, rfl⟩ := so_i hsh
        exact v_zret C (Or.inl rfl) dL_twins_154
  · replace hsh := ite_n hc hsh
    refine v_iconst C dL_twins_10 (v := 1) (by decide) ?_
    obtain ⟨rfl, rfl⟩ := so_i hsh
    exact v_zret C (Or.inr rfl) dL_twins_11
theorem yo_L_twins : yOk yL_twins 2 := ⟨by decide, by decide, by decide +kernel⟩
