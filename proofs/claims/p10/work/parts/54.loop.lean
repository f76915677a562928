theorem lw_inc (k : Nat) : nI (4 + 3 * k) + Int32.ofInt 3 = nI (4 + 3 * (k + 1)) := by
  have h : Int32.ofInt 3 = nI 3 := rfl
  rw [h, lw_add, show 4 + 3 * k + 3 = 4 + 3 * (k + 1) by omega]
theorem lw_updL (f : Nat → Int64) (i : Nat) (x : Int64) : vp_updL f i x i = x := by simp [vp_updL]
theorem lw_cmpu (f : Nat → Int64) (i : Nat) (x : Int64) : lg_cmp (vp_updL f i x i) x = 0 := by rw [lw_updL]; exact lw_cmp x
set_option maxRecDepth 100000 in
set_option maxHeartbeats 4000000 in
theorem law_case0 {p : Program} {e : Env} {s : State} {m : MethodId} {below : List Frame} {meth : Method} {c : Code} {l : Launch} (hl0 : l.stackTraces = false) {b Lx : Nat} {xs : Nat → Int32} (hLx : Lx ≤ 1540) (C0 : lw_At p s m meth c b Lx xs) {G : kx_G} (F : kx_F G (fun q : Nat => s.heap.size ≤ q) s) {a z ad : Nat → Nat} {hm ho N L D : Nat} {kr : Int32} (hL : L ≤ 32) (hD : D ≤ 4) {k c1 : Nat} {U : sg_mainp} {t : sg_model} {f : Nat → Int64} {H : Heap} {locs : List Loc} {ls : Array Slot} (hk : k ≤ 511) (hc : c1 ≤ 100 * k) (hi : 4 + 3 * k + 3 ≤ Lx) (A : AI N L D kr c1 U t) (w : lwW G (fun q : Nat => s.heap.size ≤ q) s a z ad hm ho N L D kr U t f H locs) (hl : lv_has ls 7 [(0, .ref b), (1, .ref (a 0)), (2, .ref hm), (3, .ref ho), (4, .int (nI (4 + 3 * k)))])
    (tail : ∀ (U' : sg_mainp) (t' : sg_model) (f' : Nat → Int64) (c' : Nat) (H : Heap) (locs : List Loc) (ls : Array Slot), AI N L D kr c' U' t' → c' ≤ 100 * (k + 1) → lwW G (fun q : Nat => s.heap.size ≤ q) s a z ad hm ho N L D kr U' t' f' H locs → lv_has ls 7 [(0, .ref b), (1, .ref (a 0)), (2, .ref hm), (3, .ref ho), (4, .int (nI (4 + 3 * k)))] → W p l e room_1 s m #[Value.ref b] below meth c H locs (36 + (k + 1)) (1163 + 6 * (k + 1)) (lw_Z below #[Value.ref b] s) (F0 m 374 ls [])) : W p l e room_1 s m #[Value.ref b] below meth c H locs (36 + k) (1163 + 6 * k) (lw_Z below #[Value.ref b] s) (F0 m 128 ls []) := by
  obtain ⟨hx, hb, hr, hml, hown, hts0, hX, hbl, hlocks, hgv⟩ := id C0
  have hbA : ¬ (fun q : Nat => s.heap.size ≤ q) b := Nat.not_le.mpr hbl
  have S : CallFix p m c code 7 s #[Value.ref b] kx_T "PrefetchRulesLaw" := ⟨hx, hb, hml, hown, fun w h => hts0 w (kx_lw h)⟩
  obtain ⟨r, U', t', e1, e2, A', -⟩ := AI.access hL hD A (by omega) (xs (4 + 3 * k + 1)) (xs (4 + 3 * k + 2))
  refine lv_aload_n hx hb d_law_128 rfl (lv_at hl 1 rfl) ?_
  refine lv_aload_n hx hb d_law_129 rfl (lv_at hl 0 rfl) ?_
  refine lv_iload hx hb d_law_130 (lv_at hl 4 rfl) ?_
  refine lv_iconst (v := nI 1) hx hb d_law_132 (by decide) ?_
  refine lv_iadd hx hb d_law_133 ?_
  refine lw_ld hx hb hX hbl hbA w.2.2 (4 + 3 * k + 1) (by omega) (by omega) (lw_add _ _) d_law_134 ?_
  refine lv_aload_n hx hb d_law_135 rfl (lv_at hl 0 rfl) ?_
  refine lv_iload hx hb d_law_136 (lv_at hl 4 rfl) ?_
  refine lv_iconst (v := nI 2) hx hb d_law_138 (by decide) ?_
  refine lv_iadd hx hb d_law_139 ?_
  refine lw_ld hx hb hX hbl hbA w.2.2 (4 + 3 * k + 2) (by omega) (by omega) (lw_add _ _) d_law_140 ?_
  refine lx_access S F w e1 kw_b31e5c89e2 ⟨rfl, rfl, Nat.le_of_ble_eq_true rfl, Nat.le_of_ble_eq_true rfl⟩ hl.1 (Nat.le_of_ble_eq_true rfl) d_law_141 ⟨Nat.le_trans (show 36 + k + 0 ≤ 1000 by omega) (Nat.le_of_ble_eq_true rfl), Nat.le_trans (show 1163 + 6 * k + 0 ≤ 10000 by omega) (Nat.le_of_ble_eq_true rfl)⟩ (fun H locs w => ?_)
  refine lv_pop hx hb d_law_144 rfl ?_
  refine lv_aload_n hx hb d_law_145 rfl (lv_at hl 2 rfl) ?_
  refine lv_aload_n hx hb d_law_146 rfl (lv_at hl 0 rfl) ?_
  refine lv_iload hx hb d_law_147 (lv_at hl 4 rfl) ?_
  refine lv_iconst (v := nI 1) hx hb d_law_149 (by decide) ?_
  refine lv_iadd hx hb d_law_150 ?_
  refine lw_ld hx hb hX hbl hbA w.2.2 (4 + 3 * k + 1) (by omega) (by omega) (lw_add _ _) d_law_151 ?_
  refine lv_aload_n hx hb d_law_152 rfl (lv_at hl 0 rfl) ?_
  refine lv_iload hx hb d_law_153 (lv_at hl 4 rfl) ?_
  refine lv_iconst (v := nI 2) hx hb d_law_155 (by decide) ?_
  refine lv_iadd hx hb d_law_156 ?_
  refine lw_ld hx hb hX hbl hbA w.2.2 (4 + 3 * k + 2) (by omega) (by omega) (lw_add _ _) d_law_157 ?_
  refine lm_access S F w e2 kw_5cf9314201 ⟨rfl, rfl, Nat.le_of_ble_eq_true rfl, Nat.le_of_ble_eq_true rfl⟩ hl.1 (Nat.le_of_ble_eq_true rfl) d_law_158 ⟨Nat.le_trans (show 36 + k + 0 ≤ 1000 by omega) (Nat.le_of_ble_eq_true rfl), Nat.le_trans (show 1163 + 6 * k + 0 ≤ 10000 by omega) (Nat.le_of_ble_eq_true rfl)⟩ (fun H locs w => ?_)
  refine lv_pop hx hb d_law_161 rfl ?_
  refine lv_goto (tgt := 374) hx hb d_law_162 (by decide) ?_
  refine W.widen (k := 36 + (k + 1)) (n := 1163 + 6 * (k + 1)) (by omega) (by omega) ?_
  exact tail U' t' f (c1 + 1) _ _ _ (A') (by omega) w (lv_sub hl [0, 1, 2, 3, 4] rfl)
set_option maxRecDepth 100000 in
set_option maxHeartbeats 4000000 in
theorem law_case1 {p : Program} {e : Env} {s : State} {m : MethodId} {below : List Frame} {meth : Method} {c : Code} {l : Launch} (hl0 : l.stackTraces = false) {b Lx : Nat} {xs : Nat → Int32} (hLx : Lx ≤ 1540) (C0 : lw_At p s m meth c b Lx xs) {G : kx_G} (F : kx_F G (fun q : Nat => s.heap.size ≤ q) s) {a z ad : Nat → Nat} {hm ho N L D : Nat} {kr : Int32} (hL : L ≤ 32) (hD : D ≤ 4) {k c1 : Nat} {U : sg_mainp} {t : sg_model} {f : Nat → Int64} {H : Heap} {locs : List Loc} {ls : Array Slot} (hk : k ≤ 511) (hc : c1 ≤ 100 * k) (hi : 4 + 3 * k + 3 ≤ Lx) (A : AI N L D kr c1 U t) (w : lwW G (fun q : Nat => s.heap.size ≤ q) s a z ad hm ho N L D kr U t f H locs) (hl : lv_has ls 7 [(0, .ref b), (1, .ref (a 0)), (2, .ref hm), (3, .ref ho), (4, .int (nI (4 + 3 * k)))])
    (tail : ∀ (U' : sg_mainp) (t' : sg_model) (f' : Nat → Int64) (c' : Nat) (H : Heap) (locs : List Loc) (ls : Array Slot), AI N L D kr c' U' t' → c' ≤ 100 * (k + 1) → lwW G (fun q : Nat => s.heap.size ≤ q) s a z ad hm ho N L D kr U' t' f' H locs → lv_has ls 7 [(0, .ref b), (1, .ref (a 0)), (2, .ref hm), (3, .ref ho), (4, .int (nI (4 + 3 * k)))] → W p l e room_1 s m #[Value.ref b] below meth c H locs (36 + (k + 1)) (1163 + 6 * (k + 1)) (lw_Z below #[Value.ref b] s) (F0 m 374 ls [])) : W p l e room_1 s m #[Value.ref b] below meth c H locs (36 + k) (1163 + 6 * k) (lw_Z below #[Value.ref b] s) (F0 m 165 ls []) := by
  obtain ⟨hx, hb, hr, hml, hown, hts0, hX, hbl, hlocks, hgv⟩ := id C0
  have hbA : ¬ (fun q : Nat => s.heap.size ≤ q) b := Nat.not_le.mpr hbl
  have S : CallFix p m c code 7 s #[Value.ref b] kx_T "PrefetchRulesLaw" := ⟨hx, hb, hml, hown, fun w h => hts0 w (kx_lw h)⟩
  rcases lw_pass (xs (4 + 3 * k + 1)) with ⟨K, hK1, hK2, hK⟩ | hp
  · obtain ⟨r, u', t', e1, e2, A', h0⟩ := AI.pass (lat := nI L) (kd := nI D) (kl := nI L) hL A hK1 hK2 (by omega)
    rw [← hK] at e1 e2
    refine lv_aload_n hx hb d_law_165 rfl (lv_at hl 1 rfl) ?_
    refine lv_aload_n hx hb d_law_166 rfl (lv_at hl 0 rfl) ?_
    refine lv_iload hx hb d_law_167 (lv_at hl 4 rfl) ?_
    refine lv_iconst (v := nI 1) hx hb d_law_169 (by decide) ?_
    refine lv_iadd hx hb d_law_170 ?_
    refine lw_ld hx hb hX hbl hbA w.2.2 (4 + 3 * k + 1) (by omega) (by omega) (lw_add _ _) d_law_171 ?_
    refine lv_aload_n hx hb d_law_172 rfl (lv_at hl 3 rfl) ?_
    refine lh_passR S F w e1 kw_71a4180948 ⟨rfl, rfl, Nat.le_of_ble_eq_true rfl, Nat.le_of_ble_eq_true rfl⟩ hl.1 (Nat.le_of_ble_eq_true rfl) d_law_173 ⟨Nat.le_trans (show 36 + k + 0 ≤ 1000 by omega) (Nat.le_of_ble_eq_true rfl), Nat.le_trans (show 1163 + 6 * k + 0 ≤ 10000 by omega) (Nat.le_of_ble_eq_true rfl)⟩ (fun H locs w => ?_)
    refine lv_istore (lv' := [(5, .int (0 : Int32)), (0, .ref b), (1, .ref (a 0)), (2, .ref hm), (3, .ref ho), (4, .int (nI (4 + 3 * k)))]) hx hb d_law_176 hl (by decide) rfl (fun ls hl => ?_)
    refine lv_aload_n hx hb d_law_178 rfl (lv_at hl 3 rfl) ?_
    refine lv_aload_n hx hb d_law_179 rfl (lv_at hl 1 rfl) ?_
    refine lv_iload hx hb d_law_180 (lv_at hl 5 rfl) ?_
    refine lv_iconst (v := nI 1) hx hb d_law_182 (by decide) ?_
    refine lv_iadd hx hb d_law_183 ?_
    refine lw_ld hx hb hX hbl hbA w.2.2 (4 + 3 * k + 1) (by omega) (by omega) (lw_add _ _) d_law_184 ?_
    refine lm_pass S F w e2 kw_aecb472690 ⟨rfl, rfl, Nat.le_of_ble_eq_true rfl, Nat.le_of_ble_eq_true rfl⟩ hl.1 (Nat.le_of_ble_eq_true rfl) d_law_185 ⟨Nat.le_trans (show 36 + k + 0 ≤ 1000 by omega) (Nat.le_of_ble_eq_true rfl), Nat.le_trans (show 1163 + 6 * k + 0 ≤ 10000 by omega) (Nat.le_of_ble_eq_true rfl)⟩ (fun H locs w => ?_)
    refine lv_istore (lv' := [(6, .int r), (5, .int (0 : Int32)), (0, .ref b), (1, .ref (a 0)), (2, .ref hm), (3, .ref ho), (4, .int (nI (4 + 3 * k)))]) hx hb d_law_188 hl (by decide) rfl (fun ls hl => ?_)
    refine lv_goto (tgt := 374) hx hb d_law_190 (by decide) ?_
    refine W.widen (k := 36 + (k + 1)) (n := 1163 + 6 * (k + 1)) (by omega) (by omega) ?_
    exact tail (u'.1, u'.2.1, u'.2.2, U.2.2.2) t' (vp_updL f (0 : Int32).toNatClampNeg r.toInt64) (c1 + K) _ _ _ (A') (by omega) w (lv_sub hl [2, 3, 4, 5, 6] rfl)
  · have e2 := px_passF (kr := kr) (kd := nI D) (kl := nI L) (N := N) (t := t) hp
    refine lv_aload_n hx hb d_law_165 rfl (lv_at hl 1 rfl) ?_
    refine lv_aload_n hx hb d_law_166 rfl (lv_at hl 0 rfl) ?_
    refine lv_iload hx hb d_law_167 (lv_at hl 4 rfl) ?_
    refine lv_iconst (v := nI 1) hx hb d_law_169 (by decide) ?_
    refine lv_iadd hx hb d_law_170 ?_
    refine lw_ld hx hb hX hbl hbA w.2.2 (4 + 3 * k + 1) (by omega) (by omega) (lw_add _ _) d_law_171 ?_
    refine lv_aload_n hx hb d_law_172 rfl (lv_at hl 3 rfl) ?_
    refine lh_passT S F w hl0 hp kw_71a4180948 ⟨rfl, rfl, Nat.le_of_ble_eq_true rfl, Nat.le_of_ble_eq_true rfl⟩ hl.1 (Nat.le_of_ble_eq_true rfl) d_law_173 ⟨Nat.le_trans (show 36 + k + 1 ≤ 1000 by omega) (Nat.le_of_ble_eq_true rfl), Nat.le_trans (show 1163 + 6 * k + 6 ≤ 10000 by omega) (Nat.le_of_ble_eq_true rfl)⟩ (fun H locs w => ?_)
    refine lv_istore (lv' := [(5, .int (1 : Int32)), (0, .ref b), (1, .ref (a 0)), (2, .ref hm), (3, .ref ho), (4, .int (nI (4 + 3 * k)))]) hx hb d_law_176 hl (by decide) rfl (fun ls hl => ?_)
    refine lv_aload_n hx hb d_law_178 rfl (lv_at hl 3 rfl) ?_
    refine lv_aload_n hx hb d_law_179 rfl (lv_at hl 1 rfl) ?_
    refine lv_iload hx hb d_law_180 (lv_at hl 5 rfl) ?_
    refine lv_iconst (v := nI 1) hx hb d_law_182 (by decide) ?_
    refine lv_iadd hx hb d_law_183 ?_
    refine lw_ld hx hb hX hbl hbA w.2.2 (4 + 3 * k + 1) (by omega) (by omega) (lw_add _ _) d_law_184 ?_
    refine lm_pass S F w e2 kw_aecb472690 ⟨rfl, rfl, Nat.le_of_ble_eq_true rfl, Nat.le_of_ble_eq_true rfl⟩ hl.1 (Nat.le_of_ble_eq_true rfl) d_law_185 ⟨Nat.le_trans (show 36 + k + 1 + 0 ≤ 1000 by omega) (Nat.le_of_ble_eq_true rfl), Nat.le_trans (show 1163 + 6 * k + 6 + 0 ≤ 10000 by omega) (Nat.le_of_ble_eq_true rfl)⟩ (fun H locs w => ?_)
    refine lv_istore (lv' := [(6, .int (0 : Int32)), (5, .int (1 : Int32)), (0, .ref b), (1, .ref (a 0)), (2, .ref hm), (3, .ref ho), (4, .int (nI (4 + 3 * k)))]) hx hb d_law_188 hl (by decide) rfl (fun ls hl => ?_)
    refine lv_goto (tgt := 374) hx hb d_law_190 (by decide) ?_
    refine W.widen (k := 36 + (k + 1)) (n := 1163 + 6 * (k + 1)) (by omega) (by omega) ?_
    exact tail U (((1 : Int32), t.1.2), t.2) f c1 _ _ _ (AI.thrown A (1 : Int32)) (by omega) w (lv_sub hl [2, 3, 4, 5, 6] rfl)
set_option maxRecDepth 100000 in
set_option maxHeartbeats 4000000 in
theorem law_case2 {p : Program} {e : Env} {s : State} {m : MethodId} {below : List Frame} {meth : Method} {c : Code} {l : Launch} (hl0 : l.stackTraces = false) {b Lx : Nat} {xs : Nat → Int32} (hLx : Lx ≤ 1540) (C0 : lw_At p s m meth c b Lx xs) {G : kx_G} (F : kx_F G (fun q : Nat => s.heap.size ≤ q) s) {a z ad : Nat → Nat} {hm ho N L D : Nat} {kr : Int32} (hL : L ≤ 32) (hD : D ≤ 4) {k c1 : Nat} {U : sg_mainp} {t : sg_model} {f : Nat → Int64} {H : Heap} {locs : List Loc} {ls : Array Slot} (hk : k ≤ 511) (hc : c1 ≤ 100 * k) (hi : 4 + 3 * k + 3 ≤ Lx) (A : AI N L D kr c1 U t) (w : lwW G (fun q : Nat => s.heap.size ≤ q) s a z ad hm ho N L D kr U t f H locs) (hl : lv_has ls 7 [(0, .ref b), (1, .ref (a 0)), (2, .ref hm), (3, .ref ho), (4, .int (nI (4 + 3 * k)))])
    (tail : ∀ (U' : sg_mainp) (t' : sg_model) (f' : Nat → Int64) (c' : Nat) (H : Heap) (locs : List Loc) (ls : Array Slot), AI N L D kr c' U' t' → c' ≤ 100 * (k + 1) → lwW G (fun q : Nat => s.heap.size ≤ q) s a z ad hm ho N L D kr U' t' f' H locs → lv_has ls 7 [(0, .ref b), (1, .ref (a 0)), (2, .ref hm), (3, .ref ho), (4, .int (nI (4 + 3 * k)))] → W p l e room_1 s m #[Value.ref b] below meth c H locs (36 + (k + 1)) (1163 + 6 * (k + 1)) (lw_Z below #[Value.ref b] s) (F0 m 374 ls [])) : W p l e room_1 s m #[Value.ref b] below meth c H locs (36 + k) (1163 + 6 * k) (lw_Z below #[Value.ref b] s) (F0 m 193 ls []) := by
  obtain ⟨hx, hb, hr, hml, hown, hts0, hX, hbl, hlocks, hgv⟩ := id C0
  have hbA : ¬ (fun q : Nat => s.heap.size ≤ q) b := Nat.not_le.mpr hbl
  have S : CallFix p m c code 7 s #[Value.ref b] kx_T "PrefetchRulesLaw" := ⟨hx, hb, hml, hown, fun w h => hts0 w (kx_lw h)⟩
  obtain ⟨r, u', t', e1, e2, A', -⟩ := AI.finish (lat := nI L) (kd := nI D) (kl := nI L) A
  refine lv_aload_n hx hb d_law_193 rfl (lv_at hl 1 rfl) ?_
  refine lx_finish S F w e1 kw_0a16aee37a ⟨rfl, rfl, Nat.le_of_ble_eq_true rfl, Nat.le_of_ble_eq_true rfl⟩ hl.1 (Nat.le_of_ble_eq_true rfl) d_law_194 ⟨Nat.le_trans (show 36 + k + 0 ≤ 1000 by omega) (Nat.le_of_ble_eq_true rfl), Nat.le_trans (show 1163 + 6 * k + 0 ≤ 10000 by omega) (Nat.le_of_ble_eq_true rfl)⟩ (fun H locs w => ?_)
  refine lv_pop hx hb d_law_197 rfl ?_
  refine lv_aload_n hx hb d_law_198 rfl (lv_at hl 2 rfl) ?_
  refine lm_finish S F w e2 kw_56a0d1831c ⟨rfl, rfl, Nat.le_of_ble_eq_true rfl, Nat.le_of_ble_eq_true rfl⟩ hl.1 (Nat.le_of_ble_eq_true rfl) d_law_199 ⟨Nat.le_trans (show 36 + k + 0 ≤ 1000 by omega) (Nat.le_of_ble_eq_true rfl), Nat.le_trans (show 1163 + 6 * k + 0 ≤ 10000 by omega) (Nat.le_of_ble_eq_true rfl)⟩ (fun H locs w => ?_)
  refine lv_pop hx hb d_law_202 rfl ?_
  refine lv_goto (tgt := 374) hx hb d_law_203 (by decide) ?_
  refine W.widen (k := 36 + (k + 1)) (n := 1163 + 6 * (k + 1)) (by omega) (by omega) ?_
  exact tail (u'.1, u'.2.1, u'.2.2, U.2.2.2) t' f c1 _ _ _ (A') (by omega) w (lv_sub hl [0, 1, 2, 3, 4] rfl)
set_option maxRecDepth 100000 in
set_option maxHeartbeats 4000000 in
theorem law_case3 {p : Program} {e : Env} {s : State} {m : MethodId} {below : List Frame} {meth : Method} {c : Code} {l : Launch} (hl0 : l.stackTraces = false) {b Lx : Nat} {xs : Nat → Int32} (hLx : Lx ≤ 1540) (C0 : lw_At p s m meth c b Lx xs) {G : kx_G} (F : kx_F G (fun q : Nat => s.heap.size ≤ q) s) {a z ad : Nat → Nat} {hm ho N L D : Nat} {kr : Int32} (hL : L ≤ 32) (hD : D ≤ 4) {k c1 : Nat} {U : sg_mainp} {t : sg_model} {f : Nat → Int64} {H : Heap} {locs : List Loc} {ls : Array Slot} (hk : k ≤ 511) (hc : c1 ≤ 100 * k) (hi : 4 + 3 * k + 3 ≤ Lx) (A : AI N L D kr c1 U t) (w : lwW G (fun q : Nat => s.heap.size ≤ q) s a z ad hm ho N L D kr U t f H locs) (hl : lv_has ls 7 [(0, .ref b), (1, .ref (a 0)), (2, .ref hm), (3, .ref ho), (4, .int (nI (4 + 3 * k)))])
    (tail : ∀ (U' : sg_mainp) (t' : sg_model) (f' : Nat → Int64) (c' : Nat) (H : Heap) (locs : List Loc) (ls : Array Slot), AI N L D kr c' U' t' → c' ≤ 100 * (k + 1) → lwW G (fun q : Nat => s.heap.size ≤ q) s a z ad hm ho N L D kr U' t' f' H locs → lv_has ls 7 [(0, .ref b), (1, .ref (a 0)), (2, .ref hm), (3, .ref ho), (4, .int (nI (4 + 3 * k)))] → W p l e room_1 s m #[Value.ref b] below meth c H locs (36 + (k + 1)) (1163 + 6 * (k + 1)) (lw_Z below #[Value.ref b] s) (F0 m 374 ls [])) : W p l e room_1 s m #[Value.ref b] below meth c H locs (36 + k) (1163 + 6 * k) (lw_Z below #[Value.ref b] s) (F0 m 206 ls []) := by
  obtain ⟨hx, hb, hr, hml, hown, hts0, hX, hbl, hlocks, hgv⟩ := id C0
  have hbA : ¬ (fun q : Nat => s.heap.size ≤ q) b := Nat.not_le.mpr hbl
  have S : CallFix p m c code 7 s #[Value.ref b] kx_T "PrefetchRulesLaw" := ⟨hx, hb, hml, hown, fun w h => hts0 w (kx_lw h)⟩
  obtain ⟨r, e1, e2⟩ := AI.state (lat := nI L) (kd := nI D) (kl := nI L) A (xs (4 + 3 * k + 1))
  refine lv_aload_n hx hb d_law_206 rfl (lv_at hl 1 rfl) ?_
  refine lv_aload_n hx hb d_law_207 rfl (lv_at hl 0 rfl) ?_
  refine lv_iload hx hb d_law_208 (lv_at hl 4 rfl) ?_
  refine lv_iconst (v := nI 1) hx hb d_law_210 (by decide) ?_
  refine lv_iadd hx hb d_law_211 ?_
  refine lw_ld hx hb hX hbl hbA w.2.2 (4 + 3 * k + 1) (by omega) (by omega) (lw_add _ _) d_law_212 ?_
  refine lx_state S F w e1 kw_3e569c7ad6 ⟨rfl, rfl, Nat.le_of_ble_eq_true rfl, Nat.le_of_ble_eq_true rfl⟩ hl.1 (Nat.le_of_ble_eq_true rfl) d_law_213 ⟨Nat.le_trans (show 36 + k + 0 ≤ 1000 by omega) (Nat.le_of_ble_eq_true rfl), Nat.le_trans (show 1163 + 6 * k + 0 ≤ 10000 by omega) (Nat.le_of_ble_eq_true rfl)⟩ (fun H locs w => ?_)
  refine lv_pop hx hb d_law_216 rfl ?_
  refine lv_aload_n hx hb d_law_217 rfl (lv_at hl 2 rfl) ?_
  refine lv_aload_n hx hb d_law_218 rfl (lv_at hl 0 rfl) ?_
  refine lv_iload hx hb d_law_219 (lv_at hl 4 rfl) ?_
  refine lv_iconst (v := nI 1) hx hb d_law_221 (by decide) ?_
  refine lv_iadd hx hb d_law_222 ?_
  refine lw_ld hx hb hX hbl hbA w.2.2 (4 + 3 * k + 1) (by omega) (by omega) (lw_add _ _) d_law_223 ?_
  refine lm_state S F w e2 kw_5a8d1575a1 ⟨rfl, rfl, Nat.le_of_ble_eq_true rfl, Nat.le_of_ble_eq_true rfl⟩ hl.1 (Nat.le_of_ble_eq_true rfl) d_law_224 ⟨Nat.le_trans (show 36 + k + 0 ≤ 1000 by omega) (Nat.le_of_ble_eq_true rfl), Nat.le_trans (show 1163 + 6 * k + 0 ≤ 10000 by omega) (Nat.le_of_ble_eq_true rfl)⟩ (fun H locs w => ?_)
  refine lv_pop hx hb d_law_227 rfl ?_
  refine lv_goto (tgt := 374) hx hb d_law_228 (by decide) ?_
  refine W.widen (k := 36 + (k + 1)) (n := 1163 + 6 * (k + 1)) (by omega) (by omega) ?_
  exact tail U (((0 : Int32), t.1.2), t.2) f c1 _ _ _ (AI.thrown A (0 : Int32)) (by omega) w (lv_sub hl [0, 1, 2, 3, 4] rfl)
set_option maxRecDepth 100000 in
set_option maxHeartbeats 4000000 in
theorem law_case4 {p : Program} {e : Env} {s : State} {m : MethodId} {below : List Frame} {meth : Method} {c : Code} {l : Launch} (hl0 : l.stackTraces = false) {b Lx : Nat} {xs : Nat → Int32} (hLx : Lx ≤ 1540) (C0 : lw_At p s m meth c b Lx xs) {G : kx_G} (F : kx_F G (fun q : Nat => s.heap.size ≤ q) s) {a z ad : Nat → Nat} {hm ho N L D : Nat} {kr : Int32} (hL : L ≤ 32) (hD : D ≤ 4) {k c1 : Nat} {U : sg_mainp} {t : sg_model} {f : Nat → Int64} {H : Heap} {locs : List Loc} {ls : Array Slot} (hk : k ≤ 511) (hc : c1 ≤ 100 * k) (hi : 4 + 3 * k + 3 ≤ Lx) (A : AI N L D kr c1 U t) (w : lwW G (fun q : Nat => s.heap.size ≤ q) s a z ad hm ho N L D kr U t f H locs) (hl : lv_has ls 7 [(0, .ref b), (1, .ref (a 0)), (2, .ref hm), (3, .ref ho), (4, .int (nI (4 + 3 * k)))])
    (tail : ∀ (U' : sg_mainp) (t' : sg_model) (f' : Nat → Int64) (c' : Nat) (H : Heap) (locs : List Loc) (ls : Array Slot), AI N L D kr c' U' t' → c' ≤ 100 * (k + 1) → lwW G (fun q : Nat => s.heap.size ≤ q) s a z ad hm ho N L D kr U' t' f' H locs → lv_has ls 7 [(0, .ref b), (1, .ref (a 0)), (2, .ref hm), (3, .ref ho), (4, .int (nI (4 + 3 * k)))] → W p l e room_1 s m #[Value.ref b] below meth c H locs (36 + (k + 1)) (1163 + 6 * (k + 1)) (lw_Z below #[Value.ref b] s) (F0 m 374 ls [])) : W p l e room_1 s m #[Value.ref b] below meth c H locs (36 + k) (1163 + 6 * k) (lw_Z below #[Value.ref b] s) (F0 m 231 ls []) := by
  obtain ⟨hx, hb, hr, hml, hown, hts0, hX, hbl, hlocks, hgv⟩ := id C0
  have hbA : ¬ (fun q : Nat => s.heap.size ≤ q) b := Nat.not_le.mpr hbl
  have S : CallFix p m c code 7 s #[Value.ref b] kx_T "PrefetchRulesLaw" := ⟨hx, hb, hml, hown, fun w h => hts0 w (kx_lw h)⟩
  rcases AI.stored (lat := nI L) (kd := nI D) (kl := nI L) A (xs (4 + 3 * k + 1)) with ⟨r, e1, e2⟩ | ⟨hp, e2⟩
  · refine lv_aload_n hx hb d_law_231 rfl (lv_at hl 1 rfl) ?_
    refine lv_aload_n hx hb d_law_232 rfl (lv_at hl 0 rfl) ?_
    refine lv_iload hx hb d_law_233 (lv_at hl 4 rfl) ?_
    refine lv_iconst (v := nI 1) hx hb d_law_235 (by decide) ?_
    refine lv_iadd hx hb d_law_236 ?_
    refine lw_ld hx hb hX hbl hbA w.2.2 (4 + 3 * k + 1) (by omega) (by omega) (lw_add _ _) d_law_237 ?_
    refine lv_aload_n hx hb d_law_238 rfl (lv_at hl 3 rfl) ?_
    refine lh_storedR S F w e1 kw_493f2cdd67 ⟨rfl, rfl, Nat.le_of_ble_eq_true rfl, Nat.le_of_ble_eq_true rfl⟩ hl.1 (Nat.le_of_ble_eq_true rfl) d_law_239 ⟨Nat.le_trans (show 36 + k + 0 ≤ 1000 by omega) (Nat.le_of_ble_eq_true rfl), Nat.le_trans (show 1163 + 6 * k + 0 ≤ 10000 by omega) (Nat.le_of_ble_eq_true rfl)⟩ (fun H locs w => ?_)
    refine lv_istore (lv' := [(5, .int (0 : Int32)), (0, .ref b), (1, .ref (a 0)), (2, .ref hm), (3, .ref ho), (4, .int (nI (4 + 3 * k)))]) hx hb d_law_242 hl (by decide) rfl (fun ls hl => ?_)
    refine lv_aload_n hx hb d_law_244 rfl (lv_at hl 3 rfl) ?_
    refine lv_aload_n hx hb d_law_245 rfl (lv_at hl 1 rfl) ?_
    refine lv_iload hx hb d_law_246 (lv_at hl 5 rfl) ?_
    refine lv_iconst (v := nI 1) hx hb d_law_248 (by decide) ?_
    refine lv_iadd hx hb d_law_249 ?_
    refine lw_ld hx hb hX hbl hbA w.2.2 (4 + 3 * k + 1) (by omega) (by omega) (lw_add _ _) d_law_250 ?_
    refine lm_stored S F w e2 kw_b1d8d13a5e ⟨rfl, rfl, Nat.le_of_ble_eq_true rfl, Nat.le_of_ble_eq_true rfl⟩ hl.1 (Nat.le_of_ble_eq_true rfl) d_law_251 ⟨Nat.le_trans (show 36 + k + 0 ≤ 1000 by omega) (Nat.le_of_ble_eq_true rfl), Nat.le_trans (show 1163 + 6 * k + 0 ≤ 10000 by omega) (Nat.le_of_ble_eq_true rfl)⟩ (fun H locs w => ?_)
    refine lv_istore (lv' := [(6, .int r), (5, .int (0 : Int32)), (0, .ref b), (1, .ref (a 0)), (2, .ref hm), (3, .ref ho), (4, .int (nI (4 + 3 * k)))]) hx hb d_law_254 hl (by decide) rfl (fun ls hl => ?_)
    refine lv_goto (tgt := 374) hx hb d_law_256 (by decide) ?_
    refine W.widen (k := 36 + (k + 1)) (n := 1163 + 6 * (k + 1)) (by omega) (by omega) ?_
    exact tail U (((0 : Int32), t.1.2), t.2) (vp_updL f (0 : Int32).toNatClampNeg r.toInt64) c1 _ _ _ (AI.thrown A (0 : Int32)) (by omega) w (lv_sub hl [2, 3, 4, 5, 6] rfl)
  · refine lv_aload_n hx hb d_law_231 rfl (lv_at hl 1 rfl) ?_
    refine lv_aload_n hx hb d_law_232 rfl (lv_at hl 0 rfl) ?_
    refine lv_iload hx hb d_law_233 (lv_at hl 4 rfl) ?_
    refine lv_iconst (v := nI 1) hx hb d_law_235 (by decide) ?_
    refine lv_iadd hx hb d_law_236 ?_
    refine lw_ld hx hb hX hbl hbA w.2.2 (4 + 3 * k + 1) (by omega) (by omega) (lw_add _ _) d_law_237 ?_
    refine lv_aload_n hx hb d_law_238 rfl (lv_at hl 3 rfl) ?_
    refine lh_storedT S F w hl0 hp kw_493f2cdd67 ⟨rfl, rfl, Nat.le_of_ble_eq_true rfl, Nat.le_of_ble_eq_true rfl⟩ hl.1 (Nat.le_of_ble_eq_true rfl) d_law_239 ⟨Nat.le_trans (show 36 + k + 1 ≤ 1000 by omega) (Nat.le_of_ble_eq_true rfl), Nat.le_trans (show 1163 + 6 * k + 6 ≤ 10000 by omega) (Nat.le_of_ble_eq_true rfl)⟩ (fun H locs w => ?_)
    refine lv_istore (lv' := [(5, .int (1 : Int32)), (0, .ref b), (1, .ref (a 0)), (2, .ref hm), (3, .ref ho), (4, .int (nI (4 + 3 * k)))]) hx hb d_law_242 hl (by decide) rfl (fun ls hl => ?_)
    refine lv_aload_n hx hb d_law_244 rfl (lv_at hl 3 rfl) ?_
    refine lv_aload_n hx hb d_law_245 rfl (lv_at hl 1 rfl) ?_
    refine lv_iload hx hb d_law_246 (lv_at hl 5 rfl) ?_
    refine lv_iconst (v := nI 1) hx hb d_law_248 (by decide) ?_
    refine lv_iadd hx hb d_law_249 ?_
    refine lw_ld hx hb hX hbl hbA w.2.2 (4 + 3 * k + 1) (by omega) (by omega) (lw_add _ _) d_law_250 ?_
    refine lm_stored S F w e2 kw_b1d8d13a5e ⟨rfl, rfl, Nat.le_of_ble_eq_true rfl, Nat.le_of_ble_eq_true rfl⟩ hl.1 (Nat.le_of_ble_eq_true rfl) d_law_251 ⟨Nat.le_trans (show 36 + k + 1 + 0 ≤ 1000 by omega) (Nat.le_of_ble_eq_true rfl), Nat.le_trans (show 1163 + 6 * k + 6 + 0 ≤ 10000 by omega) (Nat.le_of_ble_eq_true rfl)⟩ (fun H locs w => ?_)
    refine lv_istore (lv' := [(6, .int (0 : Int32)), (5, .int (1 : Int32)), (0, .ref b), (1, .ref (a 0)), (2, .ref hm), (3, .ref ho), (4, .int (nI (4 + 3 * k)))]) hx hb d_law_254 hl (by decide) rfl (fun ls hl => ?_)
    refine lv_goto (tgt := 374) hx hb d_law_256 (by decide) ?_
    refine W.widen (k := 36 + (k + 1)) (n := 1163 + 6 * (k + 1)) (by omega) (by omega) ?_
    exact tail U (((1 : Int32), t.1.2), t.2) f c1 _ _ _ (AI.thrown A (1 : Int32)) (by omega) w (lv_sub hl [2, 3, 4, 5, 6] rfl)
set_option maxRecDepth 100000 in
set_option maxHeartbeats 4000000 in
theorem law_case5 {p : Program} {e : Env} {s : State} {m : MethodId} {below : List Frame} {meth : Method} {c : Code} {l : Launch} (hl0 : l.stackTraces = false) {b Lx : Nat} {xs : Nat → Int32} (hLx : Lx ≤ 1540) (C0 : lw_At p s m meth c b Lx xs) {G : kx_G} (F : kx_F G (fun q : Nat => s.heap.size ≤ q) s) {a z ad : Nat → Nat} {hm ho N L D : Nat} {kr : Int32} (hL : L ≤ 32) (hD : D ≤ 4) {k c1 : Nat} {U : sg_mainp} {t : sg_model} {f : Nat → Int64} {H : Heap} {locs : List Loc} {ls : Array Slot} (hk : k ≤ 511) (hc : c1 ≤ 100 * k) (hi : 4 + 3 * k + 3 ≤ Lx) (A : AI N L D kr c1 U t) (w : lwW G (fun q : Nat => s.heap.size ≤ q) s a z ad hm ho N L D kr U t f H locs) (hl : lv_has ls 7 [(0, .ref b), (1, .ref (a 0)), (2, .ref hm), (3, .ref ho), (4, .int (nI (4 + 3 * k)))])
    (tail : ∀ (U' : sg_mainp) (t' : sg_model) (f' : Nat → Int64) (c' : Nat) (H : Heap) (locs : List Loc) (ls : Array Slot), AI N L D kr c' U' t' → c' ≤ 100 * (k + 1) → lwW G (fun q : Nat => s.heap.size ≤ q) s a z ad hm ho N L D kr U' t' f' H locs → lv_has ls 7 [(0, .ref b), (1, .ref (a 0)), (2, .ref hm), (3, .ref ho), (4, .int (nI (4 + 3 * k)))] → W p l e room_1 s m #[Value.ref b] below meth c H locs (36 + (k + 1)) (1163 + 6 * (k + 1)) (lw_Z below #[Value.ref b] s) (F0 m 374 ls [])) : W p l e room_1 s m #[Value.ref b] below meth c H locs (36 + k) (1163 + 6 * k) (lw_Z below #[Value.ref b] s) (F0 m 259 ls []) := by
  obtain ⟨hx, hb, hr, hml, hown, hts0, hX, hbl, hlocks, hgv⟩ := id C0
  have hbA : ¬ (fun q : Nat => s.heap.size ≤ q) b := Nat.not_le.mpr hbl
  have S : CallFix p m c code 7 s #[Value.ref b] kx_T "PrefetchRulesLaw" := ⟨hx, hb, hml, hown, fun w h => hts0 w (kx_lw h)⟩
  rcases AI.queued (lat := nI L) (kd := nI D) (kl := nI L) A (xs (4 + 3 * k + 1)) (xs (4 + 3 * k + 2)) with ⟨r, e1, e2⟩ | ⟨hp, e2⟩
  · refine lv_aload_n hx hb d_law_259 rfl (lv_at hl 1 rfl) ?_
    refine lv_aload_n hx hb d_law_260 rfl (lv_at hl 0 rfl) ?_
    refine lv_iload hx hb d_law_261 (lv_at hl 4 rfl) ?_
    refine lv_iconst (v := nI 1) hx hb d_law_263 (by decide) ?_
    refine lv_iadd hx hb d_law_264 ?_
    refine lw_ld hx hb hX hbl hbA w.2.2 (4 + 3 * k + 1) (by omega) (by omega) (lw_add _ _) d_law_265 ?_
    refine lv_aload_n hx hb d_law_266 rfl (lv_at hl 0 rfl) ?_
    refine lv_iload hx hb d_law_267 (lv_at hl 4 rfl) ?_
    refine lv_iconst (v := nI 2) hx hb d_law_269 (by decide) ?_
    refine lv_iadd hx hb d_law_270 ?_
    refine lw_ld hx hb hX hbl hbA w.2.2 (4 + 3 * k + 2) (by omega) (by omega) (lw_add _ _) d_law_271 ?_
    refine lv_aload_n hx hb d_law_272 rfl (lv_at hl 3 rfl) ?_
    refine lh_queuedR S F w e1 kw_6885339cad ⟨rfl, rfl, Nat.le_of_ble_eq_true rfl, Nat.le_of_ble_eq_true rfl⟩ hl.1 (Nat.le_of_ble_eq_true rfl) d_law_273 ⟨Nat.le_trans (show 36 + k + 0 ≤ 1000 by omega) (Nat.le_of_ble_eq_true rfl), Nat.le_trans (show 1163 + 6 * k + 0 ≤ 10000 by omega) (Nat.le_of_ble_eq_true rfl)⟩ (fun H locs w => ?_)
    refine lv_istore (lv' := [(5, .int (0 : Int32)), (0, .ref b), (1, .ref (a 0)), (2, .ref hm), (3, .ref ho), (4, .int (nI (4 + 3 * k)))]) hx hb d_law_276 hl (by decide) rfl (fun ls hl => ?_)
    refine lv_aload_n hx hb d_law_278 rfl (lv_at hl 3 rfl) ?_
    refine lv_aload_n hx hb d_law_279 rfl (lv_at hl 1 rfl) ?_
    refine lv_iload hx hb d_law_280 (lv_at hl 5 rfl) ?_
    refine lv_iconst (v := nI 1) hx hb d_law_282 (by decide) ?_
    refine lv_iadd hx hb d_law_283 ?_
    refine lw_ld hx hb hX hbl hbA w.2.2 (4 + 3 * k + 1) (by omega) (by omega) (lw_add _ _) d_law_284 ?_
    refine lv_aload_n hx hb d_law_285 rfl (lv_at hl 1 rfl) ?_
    refine lv_iload hx hb d_law_286 (lv_at hl 5 rfl) ?_
    refine lv_iconst (v := nI 2) hx hb d_law_288 (by decide) ?_
    refine lv_iadd hx hb d_law_289 ?_
    refine lw_ld hx hb hX hbl hbA w.2.2 (4 + 3 * k + 2) (by omega) (by omega) (lw_add _ _) d_law_290 ?_
    refine lm_queued S F w e2 kw_f24a0a55d3 ⟨rfl, rfl, Nat.le_of_ble_eq_true rfl, Nat.le_of_ble_eq_true rfl⟩ hl.1 (Nat.le_of_ble_eq_true rfl) d_law_291 ⟨Nat.le_trans (show 36 + k + 0 ≤ 1000 by omega) (Nat.le_of_ble_eq_true rfl), Nat.le_trans (show 1163 + 6 * k + 0 ≤ 10000 by omega) (Nat.le_of_ble_eq_true rfl)⟩ (fun H locs w => ?_)
    refine lv_istore (lv' := [(6, .int r), (5, .int (0 : Int32)), (0, .ref b), (1, .ref (a 0)), (2, .ref hm), (3, .ref ho), (4, .int (nI (4 + 3 * k)))]) hx hb d_law_294 hl (by decide) rfl (fun ls hl => ?_)
    refine lv_goto (tgt := 374) hx hb d_law_296 (by decide) ?_
    refine W.widen (k := 36 + (k + 1)) (n := 1163 + 6 * (k + 1)) (by omega) (by omega) ?_
    exact tail U (((0 : Int32), t.1.2), t.2) (vp_updL f (0 : Int32).toNatClampNeg r.toInt64) c1 _ _ _ (AI.thrown A (0 : Int32)) (by omega) w (lv_sub hl [2, 3, 4, 5, 6] rfl)
  · refine lv_aload_n hx hb d_law_259 rfl (lv_at hl 1 rfl) ?_
    refine lv_aload_n hx hb d_law_260 rfl (lv_at hl 0 rfl) ?_
    refine lv_iload hx hb d_law_261 (lv_at hl 4 rfl) ?_
    refine lv_iconst (v := nI 1) hx hb d_law_263 (by decide) ?_
    refine lv_iadd hx hb d_law_264 ?_
    refine lw_ld hx hb hX hbl hbA w.2.2 (4 + 3 * k + 1) (by omega) (by omega) (lw_add _ _) d_law_265 ?_
    refine lv_aload_n hx hb d_law_266 rfl (lv_at hl 0 rfl) ?_
    refine lv_iload hx hb d_law_267 (lv_at hl 4 rfl) ?_
    refine lv_iconst (v := nI 2) hx hb d_law_269 (by decide) ?_
    refine lv_iadd hx hb d_law_270 ?_
    refine lw_ld hx hb hX hbl hbA w.2.2 (4 + 3 * k + 2) (by omega) (by omega) (lw_add _ _) d_law_271 ?_
    refine lv_aload_n hx hb d_law_272 rfl (lv_at hl 3 rfl) ?_
    refine lh_queuedT S F w hl0 hp kw_6885339cad ⟨rfl, rfl, Nat.le_of_ble_eq_true rfl, Nat.le_of_ble_eq_true rfl⟩ hl.1 (Nat.le_of_ble_eq_true rfl) d_law_273 ⟨Nat.le_trans (show 36 + k + 1 ≤ 1000 by omega) (Nat.le_of_ble_eq_true rfl), Nat.le_trans (show 1163 + 6 * k + 6 ≤ 10000 by omega) (Nat.le_of_ble_eq_true rfl)⟩ (fun H locs w => ?_)
    refine lv_istore (lv' := [(5, .int (1 : Int32)), (0, .ref b), (1, .ref (a 0)), (2, .ref hm), (3, .ref ho), (4, .int (nI (4 + 3 * k)))]) hx hb d_law_276 hl (by decide) rfl (fun ls hl => ?_)
    refine lv_aload_n hx hb d_law_278 rfl (lv_at hl 3 rfl) ?_
    refine lv_aload_n hx hb d_law_279 rfl (lv_at hl 1 rfl) ?_
    refine lv_iload hx hb d_law_280 (lv_at hl 5 rfl) ?_
    refine lv_iconst (v := nI 1) hx hb d_law_282 (by decide) ?_
    refine lv_iadd hx hb d_law_283 ?_
    refine lw_ld hx hb hX hbl hbA w.2.2 (4 + 3 * k + 1) (by omega) (by omega) (lw_add _ _) d_law_284 ?_
    refine lv_aload_n hx hb d_law_285 rfl (lv_at hl 1 rfl) ?_
    refine lv_iload hx hb d_law_286 (lv_at hl 5 rfl) ?_
    refine lv_iconst (v := nI 2) hx hb d_law_288 (by decide) ?_
    refine lv_iadd hx hb d_law_289 ?_
    refine lw_ld hx hb hX hbl hbA w.2.2 (4 + 3 * k + 2) (by omega) (by omega) (lw_add _ _) d_law_290 ?_
    refine lm_queued S F w e2 kw_f24a0a55d3 ⟨rfl, rfl, Nat.le_of_ble_eq_true rfl, Nat.le_of_ble_eq_true rfl⟩ hl.1 (Nat.le_of_ble_eq_true rfl) d_law_291 ⟨Nat.le_trans (show 36 + k + 1 + 0 ≤ 1000 by omega) (Nat.le_of_ble_eq_true rfl), Nat.le_trans (show 1163 + 6 * k + 6 + 0 ≤ 10000 by omega) (Nat.le_of_ble_eq_true rfl)⟩ (fun H locs w => ?_)
    refine lv_istore (lv' := [(6, .int (0 : Int32)), (5, .int (1 : Int32)), (0, .ref b), (1, .ref (a 0)), (2, .ref hm), (3, .ref ho), (4, .int (nI (4 + 3 * k)))]) hx hb d_law_294 hl (by decide) rfl (fun ls hl => ?_)
    refine lv_goto (tgt := 374) hx hb d_law_296 (by decide) ?_
    refine W.widen (k := 36 + (k + 1)) (n := 1163 + 6 * (k + 1)) (by omega) (by omega) ?_
    exact tail U (((1 : Int32), t.1.2), t.2) f c1 _ _ _ (AI.thrown A (1 : Int32)) (by omega) w (lv_sub hl [2, 3, 4, 5, 6] rfl)
set_option maxRecDepth 100000 in
set_option maxHeartbeats 4000000 in
theorem law_case6 {p : Program} {e : Env} {s : State} {m : MethodId} {below : List Frame} {meth : Method} {c : Code} {l : Launch} (hl0 : l.stackTraces = false) {b Lx : Nat} {xs : Nat → Int32} (hLx : Lx ≤ 1540) (C0 : lw_At p s m meth c b Lx xs) {G : kx_G} (F : kx_F G (fun q : Nat => s.heap.size ≤ q) s) {a z ad : Nat → Nat} {hm ho N L D : Nat} {kr : Int32} (hL : L ≤ 32) (hD : D ≤ 4) {k c1 : Nat} {U : sg_mainp} {t : sg_model} {f : Nat → Int64} {H : Heap} {locs : List Loc} {ls : Array Slot} (hk : k ≤ 511) (hc : c1 ≤ 100 * k) (hi : 4 + 3 * k + 3 ≤ Lx) (A : AI N L D kr c1 U t) (w : lwW G (fun q : Nat => s.heap.size ≤ q) s a z ad hm ho N L D kr U t f H locs) (hl : lv_has ls 7 [(0, .ref b), (1, .ref (a 0)), (2, .ref hm), (3, .ref ho), (4, .int (nI (4 + 3 * k)))])
    (tail : ∀ (U' : sg_mainp) (t' : sg_model) (f' : Nat → Int64) (c' : Nat) (H : Heap) (locs : List Loc) (ls : Array Slot), AI N L D kr c' U' t' → c' ≤ 100 * (k + 1) → lwW G (fun q : Nat => s.heap.size ≤ q) s a z ad hm ho N L D kr U' t' f' H locs → lv_has ls 7 [(0, .ref b), (1, .ref (a 0)), (2, .ref hm), (3, .ref ho), (4, .int (nI (4 + 3 * k)))] → W p l e room_1 s m #[Value.ref b] below meth c H locs (36 + (k + 1)) (1163 + 6 * (k + 1)) (lw_Z below #[Value.ref b] s) (F0 m 374 ls [])) : W p l e room_1 s m #[Value.ref b] below meth c H locs (36 + k) (1163 + 6 * k) (lw_Z below #[Value.ref b] s) (F0 m 299 ls []) := by
  obtain ⟨hx, hb, hr, hml, hown, hts0, hX, hbl, hlocks, hgv⟩ := id C0
  have hbA : ¬ (fun q : Nat => s.heap.size ≤ q) b := Nat.not_le.mpr hbl
  have S : CallFix p m c code 7 s #[Value.ref b] kx_T "PrefetchRulesLaw" := ⟨hx, hb, hml, hown, fun w h => hts0 w (kx_lw h)⟩
  obtain ⟨r, e1, e2⟩ := AI.known (lat := nI L) (kd := nI D) (kl := nI L) A (xs (4 + 3 * k + 1))
  refine lv_aload_n hx hb d_law_299 rfl (lv_at hl 1 rfl) ?_
  refine lv_aload_n hx hb d_law_300 rfl (lv_at hl 0 rfl) ?_
  refine lv_iload hx hb d_law_301 (lv_at hl 4 rfl) ?_
  refine lv_iconst (v := nI 1) hx hb d_law_303 (by decide) ?_
  refine lv_iadd hx hb d_law_304 ?_
  refine lw_ld hx hb hX hbl hbA w.2.2 (4 + 3 * k + 1) (by omega) (by omega) (lw_add _ _) d_law_305 ?_
  refine lx_known S F w e1 kw_8925b8752c ⟨rfl, rfl, Nat.le_of_ble_eq_true rfl, Nat.le_of_ble_eq_true rfl⟩ hl.1 (Nat.le_of_ble_eq_true rfl) d_law_306 ⟨Nat.le_trans (show 36 + k + 0 ≤ 1000 by omega) (Nat.le_of_ble_eq_true rfl), Nat.le_trans (show 1163 + 6 * k + 0 ≤ 10000 by omega) (Nat.le_of_ble_eq_true rfl)⟩ (fun H locs w => ?_)
  refine lv_pop hx hb d_law_309 rfl ?_
  refine lv_aload_n hx hb d_law_310 rfl (lv_at hl 2 rfl) ?_
  refine lv_aload_n hx hb d_law_311 rfl (lv_at hl 0 rfl) ?_
  refine lv_iload hx hb d_law_312 (lv_at hl 4 rfl) ?_
  refine lv_iconst (v := nI 1) hx hb d_law_314 (by decide) ?_
  refine lv_iadd hx hb d_law_315 ?_
  refine lw_ld hx hb hX hbl hbA w.2.2 (4 + 3 * k + 1) (by omega) (by omega) (lw_add _ _) d_law_316 ?_
  refine lm_known S F w e2 kw_97dfbe2b37 ⟨rfl, rfl, Nat.le_of_ble_eq_true rfl, Nat.le_of_ble_eq_true rfl⟩ hl.1 (Nat.le_of_ble_eq_true rfl) d_law_317 ⟨Nat.le_trans (show 36 + k + 0 ≤ 1000 by omega) (Nat.le_of_ble_eq_true rfl), Nat.le_trans (show 1163 + 6 * k + 0 ≤ 10000 by omega) (Nat.le_of_ble_eq_true rfl)⟩ (fun H locs w => ?_)
  refine lv_pop hx hb d_law_320 rfl ?_
  refine lv_goto (tgt := 374) hx hb d_law_321 (by decide) ?_
  refine W.widen (k := 36 + (k + 1)) (n := 1163 + 6 * (k + 1)) (by omega) (by omega) ?_
  exact tail U (((0 : Int32), t.1.2), t.2) f c1 _ _ _ (AI.thrown A (0 : Int32)) (by omega) w (lv_sub hl [0, 1, 2, 3, 4] rfl)
set_option maxRecDepth 100000 in
set_option maxHeartbeats 4000000 in
theorem law_case7 {p : Program} {e : Env} {s : State} {m : MethodId} {below : List Frame} {meth : Method} {c : Code} {l : Launch} (hl0 : l.stackTraces = false) {b Lx : Nat} {xs : Nat → Int32} (hLx : Lx ≤ 1540) (C0 : lw_At p s m meth c b Lx xs) {G : kx_G} (F : kx_F G (fun q : Nat => s.heap.size ≤ q) s) {a z ad : Nat → Nat} {hm ho N L D : Nat} {kr : Int32} (hL : L ≤ 32) (hD : D ≤ 4) {k c1 : Nat} {U : sg_mainp} {t : sg_model} {f : Nat → Int64} {H : Heap} {locs : List Loc} {ls : Array Slot} (hk : k ≤ 511) (hc : c1 ≤ 100 * k) (hi : 4 + 3 * k + 3 ≤ Lx) (A : AI N L D kr c1 U t) (w : lwW G (fun q : Nat => s.heap.size ≤ q) s a z ad hm ho N L D kr U t f H locs) (hl : lv_has ls 7 [(0, .ref b), (1, .ref (a 0)), (2, .ref hm), (3, .ref ho), (4, .int (nI (4 + 3 * k)))])
    (tail : ∀ (U' : sg_mainp) (t' : sg_model) (f' : Nat → Int64) (c' : Nat) (H : Heap) (locs : List Loc) (ls : Array Slot), AI N L D kr c' U' t' → c' ≤ 100 * (k + 1) → lwW G (fun q : Nat => s.heap.size ≤ q) s a z ad hm ho N L D kr U' t' f' H locs → lv_has ls 7 [(0, .ref b), (1, .ref (a 0)), (2, .ref hm), (3, .ref ho), (4, .int (nI (4 + 3 * k)))] → W p l e room_1 s m #[Value.ref b] below meth c H locs (36 + (k + 1)) (1163 + 6 * (k + 1)) (lw_Z below #[Value.ref b] s) (F0 m 374 ls [])) : W p l e room_1 s m #[Value.ref b] below meth c H locs (36 + k) (1163 + 6 * k) (lw_Z below #[Value.ref b] s) (F0 m 324 ls []) := by
  obtain ⟨hx, hb, hr, hml, hown, hts0, hX, hbl, hlocks, hgv⟩ := id C0
  have hbA : ¬ (fun q : Nat => s.heap.size ≤ q) b := Nat.not_le.mpr hbl
  have S : CallFix p m c code 7 s #[Value.ref b] kx_T "PrefetchRulesLaw" := ⟨hx, hb, hml, hown, fun w h => hts0 w (kx_lw h)⟩
  obtain ⟨r, r', e1, e2, -⟩ := AI.trust (lat := nI L) (kd := nI D) (kl := nI L) A (xs (4 + 3 * k + 1))
  refine lv_aload_n hx hb d_law_324 rfl (lv_at hl 1 rfl) ?_
  refine lv_aload_n hx hb d_law_325 rfl (lv_at hl 0 rfl) ?_
  refine lv_iload hx hb d_law_326 (lv_at hl 4 rfl) ?_
  refine lv_iconst (v := nI 1) hx hb d_law_328 (by decide) ?_
  refine lv_iadd hx hb d_law_329 ?_
  refine lw_ld hx hb hX hbl hbA w.2.2 (4 + 3 * k + 1) (by omega) (by omega) (lw_add _ _) d_law_330 ?_
  refine lx_trust S F w e1 kw_9ffbd6ac39 ⟨rfl, rfl, Nat.le_of_ble_eq_true rfl, Nat.le_of_ble_eq_true rfl⟩ hl.1 (Nat.le_of_ble_eq_true rfl) d_law_331 ⟨Nat.le_trans (show 36 + k + 0 ≤ 1000 by omega) (Nat.le_of_ble_eq_true rfl), Nat.le_trans (show 1163 + 6 * k + 0 ≤ 10000 by omega) (Nat.le_of_ble_eq_true rfl)⟩ (fun H locs w => ?_)
  refine lv_pop hx hb d_law_334 rfl ?_
  refine lv_aload_n hx hb d_law_335 rfl (lv_at hl 2 rfl) ?_
  refine lv_aload_n hx hb d_law_336 rfl (lv_at hl 0 rfl) ?_
  refine lv_iload hx hb d_law_337 (lv_at hl 4 rfl) ?_
  refine lv_iconst (v := nI 1) hx hb d_law_339 (by decide) ?_
  refine lv_iadd hx hb d_law_340 ?_
  refine lw_ld hx hb hX hbl hbA w.2.2 (4 + 3 * k + 1) (by omega) (by omega) (lw_add _ _) d_law_341 ?_
  refine lm_trust S F w e2 kw_a207274404 ⟨rfl, rfl, Nat.le_of_ble_eq_true rfl, Nat.le_of_ble_eq_true rfl⟩ hl.1 (Nat.le_of_ble_eq_true rfl) d_law_342 ⟨Nat.le_trans (show 36 + k + 0 ≤ 1000 by omega) (Nat.le_of_ble_eq_true rfl), Nat.le_trans (show 1163 + 6 * k + 0 ≤ 10000 by omega) (Nat.le_of_ble_eq_true rfl)⟩ (fun H locs w => ?_)
  refine lv_pop hx hb d_law_345 rfl ?_
  refine lv_goto (tgt := 374) hx hb d_law_346 (by decide) ?_
  refine W.widen (k := 36 + (k + 1)) (n := 1163 + 6 * (k + 1)) (by omega) (by omega) ?_
  exact tail U (((0 : Int32), t.1.2), t.2) f c1 _ _ _ (AI.thrown A (0 : Int32)) (by omega) w (lv_sub hl [0, 1, 2, 3, 4] rfl)
set_option maxRecDepth 100000 in
set_option maxHeartbeats 4000000 in
theorem law_case8 {p : Program} {e : Env} {s : State} {m : MethodId} {below : List Frame} {meth : Method} {c : Code} {l : Launch} (hl0 : l.stackTraces = false) {b Lx : Nat} {xs : Nat → Int32} (hLx : Lx ≤ 1540) (C0 : lw_At p s m meth c b Lx xs) {G : kx_G} (F : kx_F G (fun q : Nat => s.heap.size ≤ q) s) {a z ad : Nat → Nat} {hm ho N L D : Nat} {kr : Int32} (hL : L ≤ 32) (hD : D ≤ 4) {k c1 : Nat} {U : sg_mainp} {t : sg_model} {f : Nat → Int64} {H : Heap} {locs : List Loc} {ls : Array Slot} (hk : k ≤ 511) (hc : c1 ≤ 100 * k) (hi : 4 + 3 * k + 3 ≤ Lx) (A : AI N L D kr c1 U t) (w : lwW G (fun q : Nat => s.heap.size ≤ q) s a z ad hm ho N L D kr U t f H locs) (hl : lv_has ls 7 [(0, .ref b), (1, .ref (a 0)), (2, .ref hm), (3, .ref ho), (4, .int (nI (4 + 3 * k)))])
    (tail : ∀ (U' : sg_mainp) (t' : sg_model) (f' : Nat → Int64) (c' : Nat) (H : Heap) (locs : List Loc) (ls : Array Slot), AI N L D kr c' U' t' → c' ≤ 100 * (k + 1) → lwW G (fun q : Nat => s.heap.size ≤ q) s a z ad hm ho N L D kr U' t' f' H locs → lv_has ls 7 [(0, .ref b), (1, .ref (a 0)), (2, .ref hm), (3, .ref ho), (4, .int (nI (4 + 3 * k)))] → W p l e room_1 s m #[Value.ref b] below meth c H locs (36 + (k + 1)) (1163 + 6 * (k + 1)) (lw_Z below #[Value.ref b] s) (F0 m 374 ls [])) : W p l e room_1 s m #[Value.ref b] below meth c H locs (36 + k) (1163 + 6 * k) (lw_Z below #[Value.ref b] s) (F0 m 349 ls []) := by
  obtain ⟨hx, hb, hr, hml, hown, hts0, hX, hbl, hlocks, hgv⟩ := id C0
  have hbA : ¬ (fun q : Nat => s.heap.size ≤ q) b := Nat.not_le.mpr hbl
  have S : CallFix p m c code 7 s #[Value.ref b] kx_T "PrefetchRulesLaw" := ⟨hx, hb, hml, hown, fun w h => hts0 w (kx_lw h)⟩
  obtain ⟨r, e1, e2⟩ := AI.count (lat := nI L) (kd := nI D) (kl := nI L) A (xs (4 + 3 * k + 1))
  refine lv_aload_n hx hb d_law_349 rfl (lv_at hl 1 rfl) ?_
  refine lv_aload_n hx hb d_law_350 rfl (lv_at hl 0 rfl) ?_
  refine lv_iload hx hb d_law_351 (lv_at hl 4 rfl) ?_
  refine lv_iconst (v := nI 1) hx hb d_law_353 (by decide) ?_
  refine lv_iadd hx hb d_law_354 ?_
  refine lw_ld hx hb hX hbl hbA w.2.2 (4 + 3 * k + 1) (by omega) (by omega) (lw_add _ _) d_law_355 ?_
  refine lx_count S F w e1 kw_c354fd0912 ⟨rfl, rfl, Nat.le_of_ble_eq_true rfl, Nat.le_of_ble_eq_true rfl⟩ hl.1 (Nat.le_of_ble_eq_true rfl) d_law_356 ⟨Nat.le_trans (show 36 + k + 0 ≤ 1000 by omega) (Nat.le_of_ble_eq_true rfl), Nat.le_trans (show 1163 + 6 * k + 0 ≤ 10000 by omega) (Nat.le_of_ble_eq_true rfl)⟩ (fun H locs w => ?_)
  refine lv_aload_n hx hb d_law_359 rfl (lv_at hl 2 rfl) ?_
  refine lv_aload_n hx hb d_law_360 rfl (lv_at hl 0 rfl) ?_
  refine lv_iload hx hb d_law_361 (lv_at hl 4 rfl) ?_
  refine lv_iconst (v := nI 1) hx hb d_law_363 (by decide) ?_
  refine lv_iadd hx hb d_law_364 ?_
  refine lw_ld hx hb hX hbl hbA w.2.2 (4 + 3 * k + 1) (by omega) (by omega) (lw_add _ _) d_law_365 ?_
  refine lm_count S F w e2 kw_5dbd62adf2 ⟨rfl, rfl, Nat.le_of_ble_eq_true rfl, Nat.le_of_ble_eq_true rfl⟩ hl.1 (Nat.le_of_ble_eq_true rfl) d_law_366 ⟨Nat.le_trans (show 36 + k + 0 ≤ 1000 by omega) (Nat.le_of_ble_eq_true rfl), Nat.le_trans (show 1163 + 6 * k + 0 ≤ 10000 by omega) (Nat.le_of_ble_eq_true rfl)⟩ (fun H locs w => ?_)
  refine lv_icmp_eq (tgt := 374) hx hb d_law_369 (by decide) (fun _ => ?_) (fun h => absurd rfl h)
  refine W.widen (k := 36 + (k + 1)) (n := 1163 + 6 * (k + 1)) (by omega) (by omega) ?_
  exact tail U (((0 : Int32), t.1.2), t.2) f c1 _ _ _ (AI.thrown A (0 : Int32)) (by omega) w (lv_sub hl [0, 1, 2, 3, 4] rfl)
set_option maxRecDepth 100000 in
set_option maxHeartbeats 4000000 in
theorem law_loop {p : Program} {e : Env} {s : State} {m : MethodId} {below : List Frame} {meth : Method} {c : Code} {l : Launch} (hl0 : l.stackTraces = false) {b Lx : Nat} {xs : Nat → Int32} (hLx : Lx ≤ 1540) (C0 : lw_At p s m meth c b Lx xs) {G : kx_G} (F : kx_F G (fun q : Nat => s.heap.size ≤ q) s) {a z ad : Nat → Nat} {hm ho N L D : Nat} {kr : Int32} (hL : L ≤ 32) (hD : D ≤ 4) : ∀ (n k c1 : Nat) (U : sg_mainp) (t : sg_model) (f : Nat → Int64) (H : Heap) (locs : List Loc) (ls : Array Slot), Lx ≤ 3 * k + n → k ≤ 512 → c1 ≤ 100 * k → AI N L D kr c1 U t → lwW G (fun q : Nat => s.heap.size ≤ q) s a z ad hm ho N L D kr U t f H locs → lv_has ls 7 [(0, .ref b), (1, .ref (a 0)), (2, .ref hm), (3, .ref ho), (4, .int (nI (4 + 3 * k)))] → W p l e room_1 s m #[Value.ref b] below meth c H locs (36 + k) (1163 + 6 * k) (lw_Z below #[Value.ref b] s) (F0 m 63 ls []) := by
  obtain ⟨hx, hb, hr, hml, hown, hts0, hX, hbl, hlocks, hgv⟩ := id C0
  have hbA : ¬ (fun q : Nat => s.heap.size ≤ q) b := Nat.not_le.mpr hbl
  have S : CallFix p m c code 7 s #[Value.ref b] kx_T "PrefetchRulesLaw" := ⟨hx, hb, hml, hown, fun w h => hts0 w (kx_lw h)⟩
  intro n
  induction n using Nat.strongRecOn with
  | ind n ih =>
    intro k c1 U t f H locs ls hn hk hc A w hl
    refine lv_iload hx hb d_law_63 (lv_at hl 4 rfl) ?_
    refine lv_aload_n hx hb d_law_65 rfl (lv_at hl 0 rfl) ?_
    refine va_slen hx hb hX hbl hbA w.2.2 d_law_66 ?_
    refine lv_iconst (v := (3 : Int32)) hx hb d_law_67 (by decide) ?_
    refine lv_isub hx hb d_law_68 ?_
    refine lv_icmp_gt (tgt := 380) hx hb d_law_69 (by decide) (fun cE => ?_) (fun cE => ?_)
    · refine lv_iconst (v := (1 : Int32)) hx hb d_law_380 (by decide) ?_
      refine va_forget (fun q hq => w.2.2.2.2 q hq) ?_
      refine W.widen (k := 601024) (n := 7292965) (by omega) (by omega) ?_
      exact lw_ret hx hb hr hlocks d_law_381
    · have hi : 4 + 3 * k + 3 ≤ Lx := lw_end (by omega) (by omega) cE
      refine lv_aload_n hx hb d_law_72 rfl (lv_at hl 0 rfl) ?_
      refine lv_iload hx hb d_law_73 (lv_at hl 4 rfl) ?_
      refine lw_ld hx hb hX hbl hbA w.2.2 (4 + 3 * k) (by omega) (by omega) rfl d_law_75 ?_
      refine lv_bipush (v := (15 : Int32)) hx hb d_law_76 (by decide) ?_
      refine lv_iand hx hb d_law_78 ?_
      refine lv_topi (fun y _ => ?_)
      have tail : ∀ (U' : sg_mainp) (t' : sg_model) (f' : Nat → Int64) (c' : Nat) (H : Heap) (locs : List Loc) (ls : Array Slot), AI N L D kr c' U' t' → c' ≤ 100 * (k + 1) → lwW G (fun q : Nat => s.heap.size ≤ q) s a z ad hm ho N L D kr U' t' f' H locs → lv_has ls 7 [(0, .ref b), (1, .ref (a 0)), (2, .ref hm), (3, .ref ho), (4, .int (nI (4 + 3 * k)))] → W p l e room_1 s m #[Value.ref b] below meth c H locs (36 + (k + 1)) (1163 + 6 * (k + 1)) (lw_Z below #[Value.ref b] s) (F0 m 374 ls []) := by
        intro U' t' f' c' H locs ls A' hc' w' hl
        refine lv_iinc (v := nI (4 + 3 * (k + 1))) (lv' := [(4, .int (nI (4 + 3 * (k + 1)))), (0, .ref b), (1, .ref (a 0)), (2, .ref hm), (3, .ref ho)]) hx hb d_law_374 hl (k := 4) rfl (lw_inc k) (by decide) rfl (fun ls hl => ?_)
        refine lv_goto (tgt := 63) hx hb d_law_377 (by decide) ?_
        exact ih (n - 3) (by omega) (k + 1) c' U' t' f' H locs ls (by omega) (by omega) hc' A' w' (lv_sub hl [1, 2, 3, 4, 0] rfl)
      by_cases hout : y.toInt < 0 ∨ 8 < y.toInt
      · refine lv_tableOut (tgt := 374) hx hb d_law_79 hout (by decide) ?_
        refine W.widen (k := 36 + (k + 1)) (n := 1163 + 6 * (k + 1)) (by omega) (by omega) ?_
        exact tail U t f c1 _ _ _ A (by omega) w hl
      · rcases (show y.toInt = 0 ∨ y.toInt = 1 ∨ y.toInt = 2 ∨ y.toInt = 3 ∨ y.toInt = 4 ∨ y.toInt = 5 ∨ y.toInt = 6 ∨ y.toInt = 7 ∨ y.toInt = 8 by omega) with h | h | h | h | h | h | h | h | h
        · refine lv_tableIn (off := 49) (tgt := 128) hx hb d_law_79 (by omega) (by omega) (by rw [h]; rfl) (by decide) ?_
          exact law_case0 hl0 hLx C0 F hL hD (by omega) hc hi A w hl tail
        · refine lv_tableIn (off := 86) (tgt := 165) hx hb d_law_79 (by omega) (by omega) (by rw [h]; rfl) (by decide) ?_
          exact law_case1 hl0 hLx C0 F hL hD (by omega) hc hi A w hl tail
        · refine lv_tableIn (off := 114) (tgt := 193) hx hb d_law_79 (by omega) (by omega) (by rw [h]; rfl) (by decide) ?_
          exact law_case2 hl0 hLx C0 F hL hD (by omega) hc hi A w hl tail
        · refine lv_tableIn (off := 127) (tgt := 206) hx hb d_law_79 (by omega) (by omega) (by rw [h]; rfl) (by decide) ?_
          exact law_case3 hl0 hLx C0 F hL hD (by omega) hc hi A w hl tail
        · refine lv_tableIn (off := 152) (tgt := 231) hx hb d_law_79 (by omega) (by omega) (by rw [h]; rfl) (by decide) ?_
          exact law_case4 hl0 hLx C0 F hL hD (by omega) hc hi A w hl tail
        · refine lv_tableIn (off := 180) (tgt := 259) hx hb d_law_79 (by omega) (by omega) (by rw [h]; rfl) (by decide) ?_
          exact law_case5 hl0 hLx C0 F hL hD (by omega) hc hi A w hl tail
        · refine lv_tableIn (off := 220) (tgt := 299) hx hb d_law_79 (by omega) (by omega) (by rw [h]; rfl) (by decide) ?_
          exact law_case6 hl0 hLx C0 F hL hD (by omega) hc hi A w hl tail
        · refine lv_tableIn (off := 245) (tgt := 324) hx hb d_law_79 (by omega) (by omega) (by rw [h]; rfl) (by decide) ?_
          exact law_case7 hl0 hLx C0 F hL hD (by omega) hc hi A w hl tail
        · refine lv_tableIn (off := 270) (tgt := 349) hx hb d_law_79 (by omega) (by omega) (by rw [h]; rfl) (by decide) ?_
          exact law_case8 hl0 hLx C0 F hL hD (by omega) hc hi A w hl tail
