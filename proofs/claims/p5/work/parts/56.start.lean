def lw_a (h hs hq hru sa1 sa2 qa1 qa2 : Nat) : Nat → Nat
  | 0 => h
  | 1 => hs
  | 2 => hq
  | 3 => hru
  | 4 => sa1
  | 5 => sa2
  | 6 => qa1
  | _ => qa2
def lw_z (w : Nat × Nat × Nat × Nat × Nat × Nat × Nat × Nat × Nat × Nat × Nat × Nat × Nat × Nat × Nat × Nat × Nat × Nat × Nat × Nat) : Nat → Nat
  | 0 => w.1
  | 1 => w.2.1
  | 2 => w.2.2.1
  | 3 => w.2.2.2.1
  | 4 => w.2.2.2.2.1
  | 5 => w.2.2.2.2.2.1
  | 6 => w.2.2.2.2.2.2.1
  | 7 => w.2.2.2.2.2.2.2.1
  | 8 => w.2.2.2.2.2.2.2.2.1
  | 9 => w.2.2.2.2.2.2.2.2.2.1
  | 10 => w.2.2.2.2.2.2.2.2.2.2.1
  | 11 => w.2.2.2.2.2.2.2.2.2.2.2.1
  | 12 => w.2.2.2.2.2.2.2.2.2.2.2.2.1
  | 13 => w.2.2.2.2.2.2.2.2.2.2.2.2.2.1
  | 14 => w.2.2.2.2.2.2.2.2.2.2.2.2.2.2.1
  | 15 => w.2.2.2.2.2.2.2.2.2.2.2.2.2.2.2.1
  | 16 => w.2.2.2.2.2.2.2.2.2.2.2.2.2.2.2.2.1
  | 17 => w.2.2.2.2.2.2.2.2.2.2.2.2.2.2.2.2.2.1
  | 18 => w.2.2.2.2.2.2.2.2.2.2.2.2.2.2.2.2.2.2.1
  | _ => w.2.2.2.2.2.2.2.2.2.2.2.2.2.2.2.2.2.2.2
theorem lw_blind (b L : Nat) (xs : Nat → Int32) (As : List Value) : FrameBlind (va_Pc As (fun U => va_X b L xs U U.heap ∧ b < U.heap.size)) := fun a U g mk q => by
  obtain ⟨q0, ⟨scr, h1, h2, h3⟩, q2⟩ := q
  exact ⟨q0, ⟨scr, h1, h2, h3⟩, q2⟩
theorem lw_cpre {A : Nat → Prop} {s : State} {H : Heap} {locs : List Loc} {b L : Nat} {xs : Nat → Int32} {As : List Value} (hX : va_X b L xs s s.heap) (hbl : b < s.heap.size) (hbA : ¬ A b) (hS : va_S A s.heap H locs) : ∀ U : State, U.heap = H → s.WarmedH U.vm → va_Pc As (fun U => va_X b L xs U U.heap ∧ b < U.heap.size) As.toArray U := fun U hU hW => by
  obtain ⟨scr, h1, h2, h3⟩ := hX
  exact ⟨rfl, ⟨scr, by rw [hU, hS.2.1 b hbl hbA]; exact h1, State.isArrayOf_alike hW.alike h2, h3⟩, by rw [hU]; exact Nat.lt_of_lt_of_le hbl hS.1⟩
set_option maxRecDepth 100000 in
set_option maxHeartbeats 4000000 in
theorem whole_start {p : Program} {e : Env} {s : State} {m : MethodId} {below : List Frame} {meth : Method} {c : Code} (l : Launch) (hl0 : l.stackTraces = false) {b Lx : Nat} {xs : Nat → Int32} (hLx : Lx ≤ 1540) (C0 : lw_At p s m meth c b Lx xs) : W p l e room_1 s m #[Value.ref b] below meth c s.heap [] 0 0 (lw_Z below #[Value.ref b] s) (entryFrame m ([Value.ref b] : List Value).toArray 7) := by
  obtain ⟨hx, hb, hr, hml, hown, hts0, hX, hbl, hlocks, hgv⟩ := id C0
  have hbA : ¬ (fun q : Nat => s.heap.size ≤ q) b := Nat.not_le.mpr hbl
  have S : CallFix p m c code 7 s #[Value.ref b] kx_T "PrefetchRulesLaw" := ⟨hx, hb, hml, hown, fun w h => hts0 w (kx_lw h)⟩
  obtain ⟨G, F⟩ := lw_F C0
  have w : kx_W G (fun q : Nat => s.heap.size ≤ q) s (([] : va_W) ++ []) s.heap [] := ⟨fun k q h => by simp at h, ⟨fun i j p q h => by simp at h, fun k q h => by simp at h⟩, va_S.rf⟩
  have hl := lv_entry [.ref b] (n := 7) (Nat.le_of_ble_eq_true rfl)
  rw [lg_entry_eq]
  generalize (lg_sl [.ref b] ++ List.replicate (7 - (lg_sl [.ref b]).length) Slot.unset).toArray = ls at hl ⊢
  have hl : lv_has ls 7 [(0, .ref b)] := hl
  obtain ⟨k, hk, k1, k2⟩ := px_mod (lw_cl Lx xs 0) (d := 5) (by omega) (by omega)
  obtain ⟨D, hD1, hD2, d1, qd, d2, d3⟩ := px_one (p := lw_cl Lx xs 1) (d := 4) (by omega) (by omega)
  obtain ⟨L, hL1, hL2, l1, ql, l2, l3⟩ := px_one (p := lw_cl Lx xs 2) (d := 32) (by omega) (by omega)
  obtain ⟨N, hN1, hN2, n1, qn, n2, n3⟩ := px_one (p := lw_cl Lx xs 3) (d := 64) (by omega) (by omega)
  refine kx_new S F w (fs := [.int 0, .null, .null, .null, .int 0, .int 0, .int 0, .int 0, .int 0, .int 0, .int 0, .int 0, .int 0, .int 0]) kc_Main kw_c2db5b6dfb kw_4af2c24e81 kw_66c3f8be15 df_Main (Nat.le_of_ble_eq_true rfl) (Nat.le_of_ble_eq_true rfl) d_law_0 (fun h H w => ?_)
  replace w : kx_W G (fun q : Nat => s.heap.size ≤ q) s ([(h, .inr (0, [.int 0, .null, .null, .null, .int 0, .int 0, .int 0, .int 0, .int 0, .int 0, .int 0, .int 0, .int 0, .int 0]))] ++ []) H [] := w
  refine lv_dup hx hb d_law_3 rfl ?_
  refine lv_aload_n hx hb d_law_4 rfl (lv_at hl 0 rfl) ?_
  refine lv_iconst (v := nI 0) hx hb d_law_5 (by decide) ?_
  refine kx_cg (x := lw_cl Lx xs 0) (va_runS (As := [.ref b, .int (nI 0)]) (rest := [.ref h, .ref h]) S (c_Law_cell l b Lx xs (by omega) 0 (by omega)) (kx_cwS S ms_Law_cell kw_6c2cc257bf ⟨rfl, rfl, Nat.le_of_ble_eq_true rfl, Nat.le_of_ble_eq_true rfl⟩) ⟨lw_blind _ _ _ _, lw_cpre hX hbl hbA w.2.2⟩ rfl rfl hl.1 rfl (lv_room (Nat.le_of_ble_eq_true rfl)) d_law_6 ⟨Nat.le_of_ble_eq_true rfl, Nat.le_of_ble_eq_true rfl⟩) (fun H g1 g2 => ?_)
  replace w := w.same g1 g2
  refine lv_aload_n hx hb d_law_9 rfl (lv_at hl 0 rfl) ?_
  refine lv_iconst (v := nI 1) hx hb d_law_10 (by decide) ?_
  refine kx_cg (x := lw_cl Lx xs 1) (va_runS (As := [.ref b, .int (nI 1)]) (rest := [.int (lw_cl Lx xs 0), .ref h, .ref h]) S (c_Law_cell l b Lx xs (by omega) 1 (by omega)) (kx_cwS S ms_Law_cell kw_6c2cc257bf ⟨rfl, rfl, Nat.le_of_ble_eq_true rfl, Nat.le_of_ble_eq_true rfl⟩) ⟨lw_blind _ _ _ _, lw_cpre hX hbl hbA w.2.2⟩ rfl rfl hl.1 rfl (lv_room (Nat.le_of_ble_eq_true rfl)) d_law_11 ⟨Nat.le_of_ble_eq_true rfl, Nat.le_of_ble_eq_true rfl⟩) (fun H g1 g2 => ?_)
  replace w := w.same g1 g2
  refine lv_aload_n hx hb d_law_14 rfl (lv_at hl 0 rfl) ?_
  refine lv_iconst (v := nI 2) hx hb d_law_15 (by decide) ?_
  refine kx_cg (x := lw_cl Lx xs 2) (va_runS (As := [.ref b, .int (nI 2)]) (rest := [.int (lw_cl Lx xs 1), .int (lw_cl Lx xs 0), .ref h, .ref h]) S (c_Law_cell l b Lx xs (by omega) 2 (by omega)) (kx_cwS S ms_Law_cell kw_6c2cc257bf ⟨rfl, rfl, Nat.le_of_ble_eq_true rfl, Nat.le_of_ble_eq_true rfl⟩) ⟨lw_blind _ _ _ _, lw_cpre hX hbl hbA w.2.2⟩ rfl rfl hl.1 rfl (lv_room (Nat.le_of_ble_eq_true rfl)) d_law_16 ⟨Nat.le_of_ble_eq_true rfl, Nat.le_of_ble_eq_true rfl⟩) (fun H g1 g2 => ?_)
  replace w := w.same g1 g2
  refine lv_aload_n hx hb d_law_19 rfl (lv_at hl 0 rfl) ?_
  refine lv_iconst (v := nI 3) hx hb d_law_20 (by decide) ?_
  refine kx_cg (x := lw_cl Lx xs 3) (va_runS (As := [.ref b, .int (nI 3)]) (rest := [.int (lw_cl Lx xs 2), .int (lw_cl Lx xs 1), .int (lw_cl Lx xs 0), .ref h, .ref h]) S (c_Law_cell l b Lx xs (by omega) 3 (by omega)) (kx_cwS S ms_Law_cell kw_6c2cc257bf ⟨rfl, rfl, Nat.le_of_ble_eq_true rfl, Nat.le_of_ble_eq_true rfl⟩) ⟨lw_blind _ _ _ _, lw_cpre hX hbl hbA w.2.2⟩ rfl rfl hl.1 rfl (lv_room (Nat.le_of_ble_eq_true rfl)) d_law_21 ⟨Nat.le_of_ble_eq_true rfl, Nat.le_of_ble_eq_true rfl⟩) (fun H g1 g2 => ?_)
  replace w := w.same g1 g2
  refine kx_cv (cx := [(h, .inr (0, [.int 0, .null, .null, .null, .int 0, .int 0, .int 0, .int 0, .int 0, .int 0, .int 0, .int 0, .int 0, .int 0]))]) (wr := []) F w [0] [] rfl rfl rfl (by decide) (va_runI (As := [.int (lw_cl Lx xs 0), .int (lw_cl Lx xs 1), .int (lw_cl Lx xs 2), .int (lw_cl Lx xs 3)]) (rest := [.ref h]) S (c_Main_init l G h N (lw_cl Lx xs 0) (lw_cl Lx xs 1) (lw_cl Lx xs 2) (lw_cl Lx xs 3) (nI L) (nI N) (nI k) (nI D) l1 n1 k1 d1 (px_mxp hN1 (by omega)) (px_mxc hN1 (by omega)) hN2 _) (kx_cwI S mi_Main_init kw_b8fc6bbd71 ⟨rfl, rfl, Nat.le_of_ble_eq_true rfl, Nat.le_of_ble_eq_true rfl⟩) ⟨kx_blind _ _ _ _, kx_pre F w [0] rfl rfl⟩ rfl rfl hl.1 rfl (lv_room (Nat.le_of_ble_eq_true rfl)) d_law_24 ⟨Nat.le_of_ble_eq_true rfl, Nat.le_of_ble_eq_true rfl⟩) (fun ux H locs hp w => ?_)
  obtain ⟨a, ha⟩ : ∃ a : Nat → Nat, a = lw_a h ux.1.1 ux.1.2.2.2.1 ux.1.2.2.2.2.2.2 ux.1.2.1 ux.1.2.2.1 ux.1.2.2.2.2.1 ux.1.2.2.2.2.2.1 := ⟨_, rfl⟩
  have ea : h = a 0 := by rw [ha]; rfl
  replace w : kx_W G (fun q : Nat => s.heap.size ≤ q) s ([((a 0), .inr (0, [.int (nI L), .ref (a 1), .ref (a 2), .ref (a 3), .int (px_U0 (nI k)).1.1, .int (px_U0 (nI k)).1.2.1, .int (px_U0 (nI k)).1.2.2.1, .int (px_U0 (nI k)).1.2.2.2.1, .int (px_U0 (nI k)).1.2.2.2.2.1, .int (px_U0 (nI k)).1.2.2.2.2.2.1, .int (px_U0 (nI k)).1.2.2.2.2.2.2.1, .int (px_U0 (nI k)).1.2.2.2.2.2.2.2.1, .int (px_U0 (nI k)).1.2.2.2.2.2.2.2.2.1, .int (px_U0 (nI k)).1.2.2.2.2.2.2.2.2.2])), ((a 1), .inr (1, [.ref (a 4), .ref (a 5), .int (px_U0 (nI k)).2.1.1])), ((a 4), .inl (G.2 0, N, .inl (px_U0 (nI k)).2.1.2.1)), ((a 5), .inl (G.2 1, N, .inl (px_U0 (nI k)).2.1.2.2)), ((a 2), .inr (2, [.ref (a 6), .ref (a 7), .int (px_U0 (nI k)).2.2.1.1])), ((a 6), .inl (G.2 0, 8, .inl (px_U0 (nI k)).2.2.1.2.1)), ((a 7), .inl (G.2 0, 8, .inl (px_U0 (nI k)).2.2.1.2.2))] ++ rc G (a 3) ux.2 (nI D) (rs_init (nI k))) H locs := by
    rw [List.append_nil] at w
    rw [ha]
    exact w
  refine lv_astore_n (lv' := [(1, .ref h), (0, .ref b)]) hx hb d_law_27 rfl hl (by decide) rfl (fun ls hl => ?_)
  refine kx_new S F w (fs := [.int 0, .int 0, .int 0, .int 0, .int 0, .int 0, .null, .int 0, .null, .null, .int 0, .null, .null, .null, .null, .null, .null, .null, .int 0, .null, .null, .int 0, .int 0, .int 0, .null, .null, .null, .int 0, .int 0, .null, .null, .null, .null, .null]) kc_Mod kw_035f39818a kw_a804a8236a kw_fb7641aad9 df_Mod (Nat.le_of_ble_eq_true rfl) (Nat.le_of_ble_eq_true rfl) d_law_28 (fun hm H w => ?_)
  replace w : kx_W G (fun q : Nat => s.heap.size ≤ q) s ([((a 0), .inr (0, [.int (nI L), .ref (a 1), .ref (a 2), .ref (a 3), .int (px_U0 (nI k)).1.1, .int (px_U0 (nI k)).1.2.1, .int (px_U0 (nI k)).1.2.2.1, .int (px_U0 (nI k)).1.2.2.2.1, .int (px_U0 (nI k)).1.2.2.2.2.1, .int (px_U0 (nI k)).1.2.2.2.2.2.1, .int (px_U0 (nI k)).1.2.2.2.2.2.2.1, .int (px_U0 (nI k)).1.2.2.2.2.2.2.2.1, .int (px_U0 (nI k)).1.2.2.2.2.2.2.2.2.1, .int (px_U0 (nI k)).1.2.2.2.2.2.2.2.2.2])), ((a 1), .inr (1, [.ref (a 4), .ref (a 5), .int (px_U0 (nI k)).2.1.1])), ((a 4), .inl (G.2 0, N, .inl (px_U0 (nI k)).2.1.2.1)), ((a 5), .inl (G.2 1, N, .inl (px_U0 (nI k)).2.1.2.2)), ((a 2), .inr (2, [.ref (a 6), .ref (a 7), .int (px_U0 (nI k)).2.2.1.1])), ((a 6), .inl (G.2 0, 8, .inl (px_U0 (nI k)).2.2.1.2.1)), ((a 7), .inl (G.2 0, 8, .inl (px_U0 (nI k)).2.2.1.2.2)), (hm, .inr (8, [.int 0, .int 0, .int 0, .int 0, .int 0, .int 0, .null, .int 0, .null, .null, .int 0, .null, .null, .null, .null, .null, .null, .null, .int 0, .null, .null, .int 0, .int 0, .int 0, .null, .null, .null, .int 0, .int 0, .null, .null, .null, .null, .null]))] ++ rc G (a 3) ux.2 (nI D) (rs_init (nI k))) H locs := w
  refine lv_dup hx hb d_law_31 rfl ?_
  refine lv_aload_n hx hb d_law_32 rfl (lv_at hl 1 rfl) ?_
  refine lv_iconst (v := nI 0) hx hb d_law_33 (by decide) ?_
  refine kx_cg (x := lw_cl Lx xs 0) (va_runS (As := [.ref b, .int (nI 0)]) (rest := [.ref hm, .ref hm]) S (c_Law_cell l b Lx xs (by omega) 0 (by omega)) (kx_cwS S ms_Law_cell kw_6c2cc257bf ⟨rfl, rfl, Nat.le_of_ble_eq_true rfl, Nat.le_of_ble_eq_true rfl⟩) ⟨lw_blind _ _ _ _, lw_cpre hX hbl hbA w.2.2⟩ rfl rfl hl.1 rfl (lv_room (Nat.le_of_ble_eq_true rfl)) d_law_34 ⟨Nat.le_of_ble_eq_true rfl, Nat.le_of_ble_eq_true rfl⟩) (fun H g1 g2 => ?_)
  replace w := w.same g1 g2
  refine lv_aload_n hx hb d_law_37 rfl (lv_at hl 1 rfl) ?_
  refine lv_iconst (v := nI 1) hx hb d_law_38 (by decide) ?_
  refine kx_cg (x := lw_cl Lx xs 1) (va_runS (As := [.ref b, .int (nI 1)]) (rest := [.int (lw_cl Lx xs 0), .ref hm, .ref hm]) S (c_Law_cell l b Lx xs (by omega) 1 (by omega)) (kx_cwS S ms_Law_cell kw_6c2cc257bf ⟨rfl, rfl, Nat.le_of_ble_eq_true rfl, Nat.le_of_ble_eq_true rfl⟩) ⟨lw_blind _ _ _ _, lw_cpre hX hbl hbA w.2.2⟩ rfl rfl hl.1 rfl (lv_room (Nat.le_of_ble_eq_true rfl)) d_law_39 ⟨Nat.le_of_ble_eq_true rfl, Nat.le_of_ble_eq_true rfl⟩) (fun H g1 g2 => ?_)
  replace w := w.same g1 g2
  refine lv_aload_n hx hb d_law_42 rfl (lv_at hl 1 rfl) ?_
  refine lv_iconst (v := nI 2) hx hb d_law_43 (by decide) ?_
  refine kx_cg (x := lw_cl Lx xs 2) (va_runS (As := [.ref b, .int (nI 2)]) (rest := [.int (lw_cl Lx xs 1), .int (lw_cl Lx xs 0), .ref hm, .ref hm]) S (c_Law_cell l b Lx xs (by omega) 2 (by omega)) (kx_cwS S ms_Law_cell kw_6c2cc257bf ⟨rfl, rfl, Nat.le_of_ble_eq_true rfl, Nat.le_of_ble_eq_true rfl⟩) ⟨lw_blind _ _ _ _, lw_cpre hX hbl hbA w.2.2⟩ rfl rfl hl.1 rfl (lv_room (Nat.le_of_ble_eq_true rfl)) d_law_44 ⟨Nat.le_of_ble_eq_true rfl, Nat.le_of_ble_eq_true rfl⟩) (fun H g1 g2 => ?_)
  replace w := w.same g1 g2
  refine lv_aload_n hx hb d_law_47 rfl (lv_at hl 1 rfl) ?_
  refine lv_iconst (v := nI 3) hx hb d_law_48 (by decide) ?_
  refine kx_cg (x := lw_cl Lx xs 3) (va_runS (As := [.ref b, .int (nI 3)]) (rest := [.int (lw_cl Lx xs 2), .int (lw_cl Lx xs 1), .int (lw_cl Lx xs 0), .ref hm, .ref hm]) S (c_Law_cell l b Lx xs (by omega) 3 (by omega)) (kx_cwS S ms_Law_cell kw_6c2cc257bf ⟨rfl, rfl, Nat.le_of_ble_eq_true rfl, Nat.le_of_ble_eq_true rfl⟩) ⟨lw_blind _ _ _ _, lw_cpre hX hbl hbA w.2.2⟩ rfl rfl hl.1 rfl (lv_room (Nat.le_of_ble_eq_true rfl)) d_law_49 ⟨Nat.le_of_ble_eq_true rfl, Nat.le_of_ble_eq_true rfl⟩) (fun H g1 g2 => ?_)
  replace w := w.same g1 g2
  refine kx_cv (cx := [(hm, .inr (8, [.int 0, .int 0, .int 0, .int 0, .int 0, .int 0, .null, .int 0, .null, .null, .int 0, .null, .null, .null, .null, .null, .null, .null, .int 0, .null, .null, .int 0, .int 0, .int 0, .null, .null, .null, .int 0, .int 0, .null, .null, .null, .null, .null]))]) (wr := [((a 0), .inr (0, [.int (nI L), .ref (a 1), .ref (a 2), .ref (a 3), .int (px_U0 (nI k)).1.1, .int (px_U0 (nI k)).1.2.1, .int (px_U0 (nI k)).1.2.2.1, .int (px_U0 (nI k)).1.2.2.2.1, .int (px_U0 (nI k)).1.2.2.2.2.1, .int (px_U0 (nI k)).1.2.2.2.2.2.1, .int (px_U0 (nI k)).1.2.2.2.2.2.2.1, .int (px_U0 (nI k)).1.2.2.2.2.2.2.2.1, .int (px_U0 (nI k)).1.2.2.2.2.2.2.2.2.1, .int (px_U0 (nI k)).1.2.2.2.2.2.2.2.2.2])), ((a 1), .inr (1, [.ref (a 4), .ref (a 5), .int (px_U0 (nI k)).2.1.1])), ((a 4), .inl (G.2 0, N, .inl (px_U0 (nI k)).2.1.2.1)), ((a 5), .inl (G.2 1, N, .inl (px_U0 (nI k)).2.1.2.2)), ((a 2), .inr (2, [.ref (a 6), .ref (a 7), .int (px_U0 (nI k)).2.2.1.1])), ((a 6), .inl (G.2 0, 8, .inl (px_U0 (nI k)).2.2.1.2.1)), ((a 7), .inl (G.2 0, 8, .inl (px_U0 (nI k)).2.2.1.2.2))]) F w [7] [0, 1, 2, 3, 4, 5, 6] rfl rfl rfl (by decide) (va_runI (As := [.int (lw_cl Lx xs 0), .int (lw_cl Lx xs 1), .int (lw_cl Lx xs 2), .int (lw_cl Lx xs 3)]) (rest := [.ref hm]) S (c_Mod_init l G hm (lw_cl Lx xs 0) (lw_cl Lx xs 1) (lw_cl Lx xs 2) (lw_cl Lx xs 3) (nI k) k2 qd d2 ql l2 qn n2 _) (kx_cwI S mi_Mod_init kw_4117a5370f ⟨rfl, rfl, Nat.le_of_ble_eq_true rfl, Nat.le_of_ble_eq_true rfl⟩) ⟨kx_blind _ _ _ _, kx_pre F w [7] rfl rfl⟩ rfl rfl hl.1 rfl (lv_room (Nat.le_of_ble_eq_true rfl)) d_law_52 ⟨Nat.le_of_ble_eq_true rfl, Nat.le_of_ble_eq_true rfl⟩) (fun um H locs hp w => ?_)
  rw [d3, l3, n3] at w
  obtain ⟨z, hz⟩ : ∃ z : Nat → Nat, z = lw_z um := ⟨_, rfl⟩
  replace w : kx_W G (fun q : Nat => s.heap.size ≤ q) s ([((a 0), .inr (0, [.int (nI L), .ref (a 1), .ref (a 2), .ref (a 3), .int (px_U0 (nI k)).1.1, .int (px_U0 (nI k)).1.2.1, .int (px_U0 (nI k)).1.2.2.1, .int (px_U0 (nI k)).1.2.2.2.1, .int (px_U0 (nI k)).1.2.2.2.2.1, .int (px_U0 (nI k)).1.2.2.2.2.2.1, .int (px_U0 (nI k)).1.2.2.2.2.2.2.1, .int (px_U0 (nI k)).1.2.2.2.2.2.2.2.1, .int (px_U0 (nI k)).1.2.2.2.2.2.2.2.2.1, .int (px_U0 (nI k)).1.2.2.2.2.2.2.2.2.2])), ((a 1), .inr (1, [.ref (a 4), .ref (a 5), .int (px_U0 (nI k)).2.1.1])), ((a 4), .inl (G.2 0, N, .inl (px_U0 (nI k)).2.1.2.1)), ((a 5), .inl (G.2 1, N, .inl (px_U0 (nI k)).2.1.2.2)), ((a 2), .inr (2, [.ref (a 6), .ref (a 7), .int (px_U0 (nI k)).2.2.1.1])), ((a 6), .inl (G.2 0, 8, .inl (px_U0 (nI k)).2.2.1.2.1)), ((a 7), .inl (G.2 0, 8, .inl (px_U0 (nI k)).2.2.1.2.2)), (hm, .inr (8, [.int px_t0.1.1, .int (nI k), .int (nI D), .int (nI L), .int (nI N), .int px_t0.1.2.1, .ref (z 0), .int px_t0.2.1.1, .ref (z 1), .ref (z 2), .int px_t0.2.2.1.1, .ref (z 3), .ref (z 4), .ref (z 5), .ref (z 6), .ref (z 7), .ref (z 8), .ref (z 9), .int px_t0.2.2.2.2.1.1, .ref (z 10), .ref (z 11), .int px_t0.2.2.2.2.2.1.1, .int px_t0.2.2.2.2.2.1.2.1, .int px_t0.2.2.2.2.2.1.2.2.1, .ref (z 12), .ref (z 13), .ref (z 14), .int px_t0.2.2.2.2.2.2.1, .int px_t0.2.2.2.2.2.2.2.1, .ref (z 15), .ref (z 16), .ref (z 17), .ref (z 18), .ref (z 19)])), ((z 0), .inl (G.2 0, 14, .inl px_t0.1.2.2)), ((z 1), .inl (G.2 0, 64, .inl px_t0.2.1.2.1)), ((z 2), .inl (G.2 1, 64, .inl px_t0.2.1.2.2)), ((z 3), .inl (G.2 0, 8, .inl px_t0.2.2.1.2.1)), ((z 4), .inl (G.2 0, 8, .inl px_t0.2.2.1.2.2)), ((z 5), .inl (G.2 1, 16, .inl px_t0.2.2.2.1.1)), ((z 6), .inl (G.2 0, 16, .inl px_t0.2.2.2.1.2.1)), ((z 7), .inl (G.2 0, 16, .inl px_t0.2.2.2.1.2.2.1)), ((z 8), .inl (G.2 0, 16, .inl px_t0.2.2.2.1.2.2.2.1)), ((z 9), .inl (G.2 0, 16, .inl px_t0.2.2.2.1.2.2.2.2)), ((z 10), .inl (G.2 0, 8, .inl px_t0.2.2.2.2.1.2.1)), ((z 11), .inl (G.2 0, 8, .inl px_t0.2.2.2.2.1.2.2)), ((z 12), .inl (G.2 0, 32, .inl px_t0.2.2.2.2.2.1.2.2.2.1)), ((z 13), .inl (G.2 0, 12, .inl px_t0.2.2.2.2.2.1.2.2.2.2.1)), ((z 14), .inl (G.2 0, 12, .inl px_t0.2.2.2.2.2.1.2.2.2.2.2)), ((z 15), .inl (G.2 1, 64, .inl px_t0.2.2.2.2.2.2.2.2.1)), ((z 16), .inl (G.2 0, 64, .inl px_t0.2.2.2.2.2.2.2.2.2.1)), ((z 17), .inl (G.2 0, 64, .inl px_t0.2.2.2.2.2.2.2.2.2.2.1)), ((z 18), .inl (G.2 0, 64, .inl px_t0.2.2.2.2.2.2.2.2.2.2.2.1)), ((z 19), .inl (G.2 0, 64, .inl px_t0.2.2.2.2.2.2.2.2.2.2.2.2))] ++ rc G (a 3) ux.2 (nI D) (rs_init (nI k))) H locs := by
    rw [hz]
    exact w
  refine lv_astore_n (lv' := [(2, .ref hm), (1, .ref h), (0, .ref b)]) hx hb d_law_55 rfl hl (by decide) rfl (fun ls hl => ?_)
  refine lv_iconst (v := (1 : Int32)) hx hb d_law_56 (by decide) ?_
  refine kx_newl (N' := 1) S F w kw_93731f458b (by decide) (by decide) (by decide) (Nat.le_of_ble_eq_true rfl) (Nat.le_of_ble_eq_true rfl) d_law_57 (fun ho H w => ?_)
  refine lv_astore_n (lv' := [(3, .ref ho), (2, .ref hm), (1, .ref h), (0, .ref b)]) hx hb d_law_59 rfl hl (by decide) rfl (fun ls hl => ?_)
  refine lv_iconst (v := nI 4) hx hb d_law_60 (by decide) ?_
  refine lv_istore (lv' := [(4, .int (nI 4)), (3, .ref ho), (2, .ref hm), (1, .ref h), (0, .ref b)]) hx hb d_law_61 hl (by decide) rfl (fun ls hl => ?_)
  replace w : lwW G (fun q : Nat => s.heap.size ≤ q) s a z ux.2 hm ho N L D (nI k) (px_U0 (nI k)) px_t0 (fun _ => 0) H locs := w
  rw [ea] at hl
  refine W.widen (k := 36 + 0) (n := 1163 + 6 * 0) (Nat.le_of_ble_eq_true rfl) (Nat.le_of_ble_eq_true rfl) ?_
  exact law_loop hl0 hLx C0 F hL2 hD2 Lx 0 0 (px_U0 (nI k)) px_t0 (fun _ => 0) H locs ls (by omega) (by omega) (by omega) (AI.start ⟨hN1, hN2⟩ hk) w (lv_sub hl [4, 3, 2, 1, 0] rfl)
