/-! Strides_rowOf -/
def f_Strides_rowOf (p0 : Int32) : Option (Int32) := some (p0 &&& (15 : Int32))
def rm_Strides_rowOf : Room := { frames := 0, cells := 0, slots := 0, locals := 0 }
set_option maxRecDepth 100000 in
set_option maxHeartbeats 4000000 in
theorem c_Strides_rowOf (l : Launch) (G : kx_G) (p0 : Int32) (v : Int32) (hF : f_Strides_rowOf p0 = some v) : CtI l y_Strides_rowOf b_Strides_rowOf 1 (some .int) rm_Strides_rowOf G [.int p0] [] (fun (r : Int32) (_ : Unit) => v = r) (fun _ => []) 0 0 := by
  refine CtI.of (by decide) (Nat.le_of_ble_eq_true rfl) [(0, .int p0)] rfl ?_
  intro p e s m args below meth c A ls Q hQ S hr hlocks F w hl
  have S : CallFix p m c b_Strides_rowOf 1 s args kx_T "PrefetchRules$Strides" := S
  obtain ⟨hx, hb, hml, hown, hts⟩ := id S
  have w : kx_W G A s ([] ++ []) s.heap [] := w
  unfold f_Strides_rowOf at hF
  refine lv_iload_n hx hb d_Strides_rowOf_0 rfl (lv_at hl 0 rfl) ?_
  refine lv_bipush (v := (15 : Int32)) hx hb d_Strides_rowOf_1 (by decide) ?_
  refine lv_iand hx hb d_Strides_rowOf_3 ?_
  obtain rfl := Option.some.inj hF
  exact kx_iret hQ S hr hlocks w (xo := []) [] rfl rfl () rfl rfl d_Strides_rowOf_4
/-! Strides_isOwn -/
def f_Strides_isOwn (d : Int32) (u : sg_strides) (p0 : Int32) (p1 : Int32) : Option (Int32) := (if (p0 < 0 ∨ 16 ≤ p0.toNatClampNeg) then none else (if (u.2.2.1 p0.toNatClampNeg) = 0 then some (0 : Int32) else (if (p0 < 0 ∨ 16 ≤ p0.toNatClampNeg) then none else (if (u.2.2.2.1 p0.toNatClampNeg) = p1 then some (1 : Int32) else some (0 : Int32)))))
def rm_Strides_isOwn : Room := { frames := 0, cells := 0, slots := 0, locals := 0 }
set_option maxRecDepth 100000 in
set_option maxHeartbeats 4000000 in
theorem c_Strides_isOwn (l : Launch) (G : kx_G) (h : Nat) (sa : Nat) (d : Int32) (a_tk : Nat) (a_pl : Nat) (a_li : Nat) (a_st : Nat) (a_tr : Nat) (u : sg_strides) (p0 : Int32) (p1 : Int32) (v : Int32) (hF : f_Strides_isOwn d u p0 p1 = some v) : CtI l y_Strides_isOwn b_Strides_isOwn 3 (some .boolean) rm_Strides_isOwn G [.ref h, .int p0, .int p1] [(h, .inr (4, [.int d, .ref sa, .int u.1, .ref a_tk, .ref a_pl, .ref a_li, .ref a_st, .ref a_tr])), (sa, .inl (G.2 0, 4, .inl u.2.1)), (a_tk, .inl (G.2 1, 16, .inl u.2.2.1)), (a_pl, .inl (G.2 0, 16, .inl u.2.2.2.1)), (a_li, .inl (G.2 0, 16, .inl u.2.2.2.2.1)), (a_st, .inl (G.2 0, 16, .inl u.2.2.2.2.2.1)), (a_tr, .inl (G.2 0, 16, .inl u.2.2.2.2.2.2))] (fun (r : Int32) (_ : Unit) => v = r) (fun _ => [(h, .inr (4, [.int d, .ref sa, .int u.1, .ref a_tk, .ref a_pl, .ref a_li, .ref a_st, .ref a_tr])), (sa, .inl (G.2 0, 4, .inl u.2.1)), (a_tk, .inl (G.2 1, 16, .inl u.2.2.1)), (a_pl, .inl (G.2 0, 16, .inl u.2.2.2.1)), (a_li, .inl (G.2 0, 16, .inl u.2.2.2.2.1)), (a_st, .inl (G.2 0, 16, .inl u.2.2.2.2.2.1)), (a_tr, .inl (G.2 0, 16, .inl u.2.2.2.2.2.2))]) 0 0 := by
  refine CtI.of (by decide) (Nat.le_of_ble_eq_true rfl) [(0, .ref h), (1, .int p0), (2, .int p1)] rfl ?_
  intro p e s m args below meth c A ls Q hQ S hr hlocks F w hl
  have S : CallFix p m c b_Strides_isOwn 3 s args kx_T "PrefetchRules$Strides" := S
  obtain ⟨hx, hb, hml, hown, hts⟩ := id S
  have w : kx_W G A s ([(h, .inr (4, [.int d, .ref sa, .int u.1, .ref a_tk, .ref a_pl, .ref a_li, .ref a_st, .ref a_tr])), (sa, .inl (G.2 0, 4, .inl u.2.1)), (a_tk, .inl (G.2 1, 16, .inl u.2.2.1)), (a_pl, .inl (G.2 0, 16, .inl u.2.2.2.1)), (a_li, .inl (G.2 0, 16, .inl u.2.2.2.2.1)), (a_st, .inl (G.2 0, 16, .inl u.2.2.2.2.2.1)), (a_tr, .inl (G.2 0, 16, .inl u.2.2.2.2.2.2))] ++ []) s.heap [] := w
  unfold f_Strides_isOwn at hF
  refine lv_aload_n hx hb d_Strides_isOwn_0 rfl (lv_at hl 0 rfl) ?_
  refine kx_get S F w kc_Strides 0 rfl 3 (by decide) kw_3264763fa4 rfl d_Strides_isOwn_1 ?_
  refine lv_iload_n hx hb d_Strides_isOwn_4 rfl (lv_at hl 1 rfl) ?_
  obtain ⟨hi5, hF⟩ := kx_ar hF
  refine kx_zald S F w 2 rfl hi5 d_Strides_isOwn_5 ?_
  refine lv_if_eq (tgt := 23) hx hb d_Strides_isOwn_6 (by decide) (fun c6 => ?_) (fun c6 => ?_)
  · have hF := kx_t c6 hF
    refine lv_iconst (v := (0 : Int32)) hx hb d_Strides_isOwn_23 (by decide) ?_
    obtain rfl := Option.some.inj hF
    exact kx_zret hQ S hr hlocks (by decide) w (xo := [(h, .inr (4, [.int d, .ref sa, .int u.1, .ref a_tk, .ref a_pl, .ref a_li, .ref a_st, .ref a_tr])), (sa, .inl (G.2 0, 4, .inl u.2.1)), (a_tk, .inl (G.2 1, 16, .inl u.2.2.1)), (a_pl, .inl (G.2 0, 16, .inl u.2.2.2.1)), (a_li, .inl (G.2 0, 16, .inl u.2.2.2.2.1)), (a_st, .inl (G.2 0, 16, .inl u.2.2.2.2.2.1)), (a_tr, .inl (G.2 0, 16, .inl u.2.2.2.2.2.2))]) [0, 1, 2, 3, 4, 5, 6] rfl rfl () rfl rfl d_Strides_isOwn_24
  · have hF := kx_f c6 hF
    refine lv_aload_n hx hb d_Strides_isOwn_9 rfl (lv_at hl 0 rfl) ?_
    refine kx_get S F w kc_Strides 0 rfl 4 (by decide) kw_9f60197caf rfl d_Strides_isOwn_10 ?_
    refine lv_iload_n hx hb d_Strides_isOwn_13 rfl (lv_at hl 1 rfl) ?_
    obtain ⟨hi14, hF⟩ := kx_ar hF
    refine kx_iald S F w 3 rfl hi14 d_Strides_isOwn_14 ?_
    refine lv_iload_n hx hb d_Strides_isOwn_15 rfl (lv_at hl 2 rfl) ?_
    refine lv_icmp_ne (tgt := 23) hx hb d_Strides_isOwn_16 (by decide) (fun c16 => ?_) (fun c16 => ?_)
    · have hF := kx_f c16 hF
      refine lv_iconst (v := (0 : Int32)) hx hb d_Strides_isOwn_23 (by decide) ?_
      obtain rfl := Option.some.inj hF
      exact kx_zret hQ S hr hlocks (by decide) w (xo := [(h, .inr (4, [.int d, .ref sa, .int u.1, .ref a_tk, .ref a_pl, .ref a_li, .ref a_st, .ref a_tr])), (sa, .inl (G.2 0, 4, .inl u.2.1)), (a_tk, .inl (G.2 1, 16, .inl u.2.2.1)), (a_pl, .inl (G.2 0, 16, .inl u.2.2.2.1)), (a_li, .inl (G.2 0, 16, .inl u.2.2.2.2.1)), (a_st, .inl (G.2 0, 16, .inl u.2.2.2.2.2.1)), (a_tr, .inl (G.2 0, 16, .inl u.2.2.2.2.2.2))]) [0, 1, 2, 3, 4, 5, 6] rfl rfl () rfl rfl d_Strides_isOwn_24
    · have hF := kx_t c16 hF
      refine lv_iconst (v := (1 : Int32)) hx hb d_Strides_isOwn_19 (by decide) ?_
      refine lv_goto (tgt := 24) hx hb d_Strides_isOwn_20 (by decide) ?_
      obtain rfl := Option.some.inj hF
      exact kx_zret hQ S hr hlocks (by decide) w (xo := [(h, .inr (4, [.int d, .ref sa, .int u.1, .ref a_tk, .ref a_pl, .ref a_li, .ref a_st, .ref a_tr])), (sa, .inl (G.2 0, 4, .inl u.2.1)), (a_tk, .inl (G.2 1, 16, .inl u.2.2.1)), (a_pl, .inl (G.2 0, 16, .inl u.2.2.2.1)), (a_li, .inl (G.2 0, 16, .inl u.2.2.2.2.1)), (a_st, .inl (G.2 0, 16, .inl u.2.2.2.2.2.1)), (a_tr, .inl (G.2 0, 16, .inl u.2.2.2.2.2.2))]) [0, 1, 2, 3, 4, 5, 6] rfl rfl () rfl rfl d_Strides_isOwn_24
/-! Strides_begin -/
def f_Strides_begin (d : Int32) (u : sg_strides) (p0 : Int32) (p1 : Int32) (p2 : Int32) : Option (sg_strides) := (if (p0 < 0 ∨ 16 ≤ p0.toNatClampNeg) then none else (if (p0 < 0 ∨ 16 ≤ p0.toNatClampNeg) then none else (if (p0 < 0 ∨ 16 ≤ p0.toNatClampNeg) then none else (if (p0 < 0 ∨ 16 ≤ p0.toNatClampNeg) then none else (if (p0 < 0 ∨ 16 ≤ p0.toNatClampNeg) then none else some (u.1, u.2.1, upd u.2.2.1 p0.toNatClampNeg (vp_nar .boolean (1 : Int32)), upd u.2.2.2.1 p0.toNatClampNeg p1, upd u.2.2.2.2.1 p0.toNatClampNeg p2, upd u.2.2.2.2.2.1 p0.toNatClampNeg (0 : Int32), upd u.2.2.2.2.2.2 p0.toNatClampNeg (0 : Int32)))))))
def rm_Strides_begin : Room := { frames := 0, cells := 0, slots := 0, locals := 0 }
set_option maxRecDepth 100000 in
set_option maxHeartbeats 4000000 in
theorem c_Strides_begin (l : Launch) (G : kx_G) (h : Nat) (sa : Nat) (d : Int32) (a_tk : Nat) (a_pl : Nat) (a_li : Nat) (a_st : Nat) (a_tr : Nat) (u : sg_strides) (p0 : Int32) (p1 : Int32) (p2 : Int32) (v : sg_strides) (hF : f_Strides_begin d u p0 p1 p2 = some v) : CtV l y_Strides_begin b_Strides_begin 4 rm_Strides_begin G [.ref h, .int p0, .int p1, .int p2] [(h, .inr (4, [.int d, .ref sa, .int u.1, .ref a_tk, .ref a_pl, .ref a_li, .ref a_st, .ref a_tr])), (sa, .inl (G.2 0, 4, .inl u.2.1)), (a_tk, .inl (G.2 1, 16, .inl u.2.2.1)), (a_pl, .inl (G.2 0, 16, .inl u.2.2.2.1)), (a_li, .inl (G.2 0, 16, .inl u.2.2.2.2.1)), (a_st, .inl (G.2 0, 16, .inl u.2.2.2.2.2.1)), (a_tr, .inl (G.2 0, 16, .inl u.2.2.2.2.2.2))] (fun w : sg_strides => v = w) (fun w => [(h, .inr (4, [.int d, .ref sa, .int w.1, .ref a_tk, .ref a_pl, .ref a_li, .ref a_st, .ref a_tr])), (sa, .inl (G.2 0, 4, .inl w.2.1)), (a_tk, .inl (G.2 1, 16, .inl w.2.2.1)), (a_pl, .inl (G.2 0, 16, .inl w.2.2.2.1)), (a_li, .inl (G.2 0, 16, .inl w.2.2.2.2.1)), (a_st, .inl (G.2 0, 16, .inl w.2.2.2.2.2.1)), (a_tr, .inl (G.2 0, 16, .inl w.2.2.2.2.2.2))]) 0 0 := by
  refine CtV.of (by decide) (Nat.le_of_ble_eq_true rfl) [(0, .ref h), (1, .int p0), (2, .int p1), (3, .int p2)] rfl ?_
  intro p e s m args below meth c A ls Q hQ S hr hlocks hin F w hl
  have S : CallFix p m c b_Strides_begin 4 s args kx_T "PrefetchRules$Strides" := S
  obtain ⟨hx, hb, hml, hown, hts⟩ := id S
  have w : kx_W G A s ([(h, .inr (4, [.int d, .ref sa, .int u.1, .ref a_tk, .ref a_pl, .ref a_li, .ref a_st, .ref a_tr])), (sa, .inl (G.2 0, 4, .inl u.2.1)), (a_tk, .inl (G.2 1, 16, .inl u.2.2.1)), (a_pl, .inl (G.2 0, 16, .inl u.2.2.2.1)), (a_li, .inl (G.2 0, 16, .inl u.2.2.2.2.1)), (a_st, .inl (G.2 0, 16, .inl u.2.2.2.2.2.1)), (a_tr, .inl (G.2 0, 16, .inl u.2.2.2.2.2.2))] ++ []) s.heap [] := w
  unfold f_Strides_begin at hF
  refine lv_aload_n hx hb d_Strides_begin_0 rfl (lv_at hl 0 rfl) ?_
  refine kx_get S F w kc_Strides 0 rfl 3 (by decide) kw_3264763fa4 rfl d_Strides_begin_1 ?_
  refine lv_iload_n hx hb d_Strides_begin_4 rfl (lv_at hl 1 rfl) ?_
  refine lv_iconst (v := (1 : Int32)) hx hb d_Strides_begin_5 (by decide) ?_
  obtain ⟨hi6, hF⟩ := kx_ar hF
  refine kx_zast S F w 2 rfl hi6 d_Strides_begin_6 (fun H locs w => ?_)
  have w : kx_W G A s ([(h, .inr (4, [.int d, .ref sa, .int u.1, .ref a_tk, .ref a_pl, .ref a_li, .ref a_st, .ref a_tr])), (sa, .inl (G.2 0, 4, .inl u.2.1)), (a_tk, .inl (G.2 1, 16, .inl (upd u.2.2.1 p0.toNatClampNeg (vp_nar .boolean (1 : Int32))))), (a_pl, .inl (G.2 0, 16, .inl u.2.2.2.1)), (a_li, .inl (G.2 0, 16, .inl u.2.2.2.2.1)), (a_st, .inl (G.2 0, 16, .inl u.2.2.2.2.2.1)), (a_tr, .inl (G.2 0, 16, .inl u.2.2.2.2.2.2))] ++ []) H locs := w
  refine lv_aload_n hx hb d_Strides_begin_7 rfl (lv_at hl 0 rfl) ?_
  refine kx_get S F w kc_Strides 0 rfl 4 (by decide) kw_9f60197caf rfl d_Strides_begin_8 ?_
  refine lv_iload_n hx hb d_Strides_begin_11 rfl (lv_at hl 1 rfl) ?_
  refine lv_iload_n hx hb d_Strides_begin_12 rfl (lv_at hl 2 rfl) ?_
  obtain ⟨hi13, hF⟩ := kx_ar hF
  refine kx_iast S F w 3 rfl hi13 d_Strides_begin_13 (fun H locs w => ?_)
  have w : kx_W G A s ([(h, .inr (4, [.int d, .ref sa, .int u.1, .ref a_tk, .ref a_pl, .ref a_li, .ref a_st, .ref a_tr])), (sa, .inl (G.2 0, 4, .inl u.2.1)), (a_tk, .inl (G.2 1, 16, .inl (upd u.2.2.1 p0.toNatClampNeg (vp_nar .boolean (1 : Int32))))), (a_pl, .inl (G.2 0, 16, .inl (upd u.2.2.2.1 p0.toNatClampNeg p1))), (a_li, .inl (G.2 0, 16, .inl u.2.2.2.2.1)), (a_st, .inl (G.2 0, 16, .inl u.2.2.2.2.2.1)), (a_tr, .inl (G.2 0, 16, .inl u.2.2.2.2.2.2))] ++ []) H locs := w
  refine lv_aload_n hx hb d_Strides_begin_14 rfl (lv_at hl 0 rfl) ?_
  refine kx_get S F w kc_Strides 0 rfl 5 (by decide) kw_c37cf748b9 rfl d_Strides_begin_15 ?_
  refine lv_iload_n hx hb d_Strides_begin_18 rfl (lv_at hl 1 rfl) ?_
  refine lv_iload_n hx hb d_Strides_begin_19 rfl (lv_at hl 3 rfl) ?_
  obtain ⟨hi20, hF⟩ := kx_ar hF
  refine kx_iast S F w 4 rfl hi20 d_Strides_begin_20 (fun H locs w => ?_)
  have w : kx_W G A s ([(h, .inr (4, [.int d, .ref sa, .int u.1, .ref a_tk, .ref a_pl, .ref a_li, .ref a_st, .ref a_tr])), (sa, .inl (G.2 0, 4, .inl u.2.1)), (a_tk, .inl (G.2 1, 16, .inl (upd u.2.2.1 p0.toNatClampNeg (vp_nar .boolean (1 : Int32))))), (a_pl, .inl (G.2 0, 16, .inl (upd u.2.2.2.1 p0.toNatClampNeg p1))), (a_li, .inl (G.2 0, 16, .inl (upd u.2.2.2.2.1 p0.toNatClampNeg p2))), (a_st, .inl (G.2 0, 16, .inl u.2.2.2.2.2.1)), (a_tr, .inl (G.2 0, 16, .inl u.2.2.2.2.2.2))] ++ []) H locs := w
  refine lv_aload_n hx hb d_Strides_begin_21 rfl (lv_at hl 0 rfl) ?_
  refine kx_get S F w kc_Strides 0 rfl 6 (by decide) kw_0860e4f42b rfl d_Strides_begin_22 ?_
  refine lv_iload_n hx hb d_Strides_begin_25 rfl (lv_at hl 1 rfl) ?_
  refine lv_iconst (v := (0 : Int32)) hx hb d_Strides_begin_26 (by decide) ?_
  obtain ⟨hi27, hF⟩ := kx_ar hF
  refine kx_iast S F w 5 rfl hi27 d_Strides_begin_27 (fun H locs w => ?_)
  have w : kx_W G A s ([(h, .inr (4, [.int d, .ref sa, .int u.1, .ref a_tk, .ref a_pl, .ref a_li, .ref a_st, .ref a_tr])), (sa, .inl (G.2 0, 4, .inl u.2.1)), (a_tk, .inl (G.2 1, 16, .inl (upd u.2.2.1 p0.toNatClampNeg (vp_nar .boolean (1 : Int32))))), (a_pl, .inl (G.2 0, 16, .inl (upd u.2.2.2.1 p0.toNatClampNeg p1))), (a_li, .inl (G.2 0, 16, .inl (upd u.2.2.2.2.1 p0.toNatClampNeg p2))), (a_st, .inl (G.2 0, 16, .inl (upd u.2.2.2.2.2.1 p0.toNatClampNeg (0 : Int32)))), (a_tr, .inl (G.2 0, 16, .inl u.2.2.2.2.2.2))] ++ []) H locs := w
  refine lv_aload_n hx hb d_Strides_begin_28 rfl (lv_at hl 0 rfl) ?_
  refine kx_get S F w kc_Strides 0 rfl 7 (by decide) kw_e88e72f25f rfl d_Strides_begin_29 ?_
  refine lv_iload_n hx hb d_Strides_begin_32 rfl (lv_at hl 1 rfl) ?_
  refine lv_iconst (v := (0 : Int32)) hx hb d_Strides_begin_33 (by decide) ?_
  obtain ⟨hi34, hF⟩ := kx_ar hF
  refine kx_iast S F w 6 rfl hi34 d_Strides_begin_34 (fun H locs w => ?_)
  have w : kx_W G A s ([(h, .inr (4, [.int d, .ref sa, .int u.1, .ref a_tk, .ref a_pl, .ref a_li, .ref a_st, .ref a_tr])), (sa, .inl (G.2 0, 4, .inl u.2.1)), (a_tk, .inl (G.2 1, 16, .inl (upd u.2.2.1 p0.toNatClampNeg (vp_nar .boolean (1 : Int32))))), (a_pl, .inl (G.2 0, 16, .inl (upd u.2.2.2.1 p0.toNatClampNeg p1))), (a_li, .inl (G.2 0, 16, .inl (upd u.2.2.2.2.1 p0.toNatClampNeg p2))), (a_st, .inl (G.2 0, 16, .inl (upd u.2.2.2.2.2.1 p0.toNatClampNeg (0 : Int32)))), (a_tr, .inl (G.2 0, 16, .inl (upd u.2.2.2.2.2.2 p0.toNatClampNeg (0 : Int32))))] ++ []) H locs := w
  obtain rfl := Option.some.inj hF
  exact kx_vret hQ S hr hlocks w (xo := [(h, .inr (4, [.int d, .ref sa, .int u.1, .ref a_tk, .ref a_pl, .ref a_li, .ref a_st, .ref a_tr])), (sa, .inl (G.2 0, 4, .inl u.2.1)), (a_tk, .inl (G.2 1, 16, .inl (upd u.2.2.1 p0.toNatClampNeg (vp_nar .boolean (1 : Int32))))), (a_pl, .inl (G.2 0, 16, .inl (upd u.2.2.2.1 p0.toNatClampNeg p1))), (a_li, .inl (G.2 0, 16, .inl (upd u.2.2.2.2.1 p0.toNatClampNeg p2))), (a_st, .inl (G.2 0, 16, .inl (upd u.2.2.2.2.2.1 p0.toNatClampNeg (0 : Int32)))), (a_tr, .inl (G.2 0, 16, .inl (upd u.2.2.2.2.2.2 p0.toNatClampNeg (0 : Int32))))]) [0, 1, 2, 3, 4, 5, 6] rfl rfl (u.1, u.2.1, upd u.2.2.1 p0.toNatClampNeg (vp_nar .boolean (1 : Int32)), upd u.2.2.2.1 p0.toNatClampNeg p1, upd u.2.2.2.2.1 p0.toNatClampNeg p2, upd u.2.2.2.2.2.1 p0.toNatClampNeg (0 : Int32), upd u.2.2.2.2.2.2 p0.toNatClampNeg (0 : Int32)) rfl rfl d_Strides_begin_35
/-! Strides_compare -/
def f_Strides_compare (d : Int32) (u : sg_strides) (p0 : Int32) (p1 : Int32) : Option (sg_strides) := (if (p0 < 0 ∨ 16 ≤ p0.toNatClampNeg) then none else (if p1 = (u.2.2.2.2.2.1 p0.toNatClampNeg) then (if (p0 < 0 ∨ 16 ≤ p0.toNatClampNeg) then none else (if (p0 < 0 ∨ 16 ≤ p0.toNatClampNeg) then none else some (u.1, u.2.1, u.2.2.1, u.2.2.2.1, u.2.2.2.2.1, u.2.2.2.2.2.1, upd u.2.2.2.2.2.2 p0.toNatClampNeg (if ((u.2.2.2.2.2.2 p0.toNatClampNeg) + (1 : Int32)) < (3 : Int32) then ((u.2.2.2.2.2.2 p0.toNatClampNeg) + (1 : Int32)) else (3 : Int32))))) else (if (p0 < 0 ∨ 16 ≤ p0.toNatClampNeg) then none else (if (u.2.2.2.2.2.2 p0.toNatClampNeg) ≤ 0 then (if (p0 < 0 ∨ 16 ≤ p0.toNatClampNeg) then none else some (u.1, u.2.1, u.2.2.1, u.2.2.2.1, u.2.2.2.2.1, upd u.2.2.2.2.2.1 p0.toNatClampNeg p1, u.2.2.2.2.2.2)) else (if (p0 < 0 ∨ 16 ≤ p0.toNatClampNeg) then none else (if (p0 < 0 ∨ 16 ≤ p0.toNatClampNeg) then none else some (u.1, u.2.1, u.2.2.1, u.2.2.2.1, u.2.2.2.2.1, u.2.2.2.2.2.1, upd u.2.2.2.2.2.2 p0.toNatClampNeg ((u.2.2.2.2.2.2 p0.toNatClampNeg) - (1 : Int32)))))))))
def rm_Strides_compare : Room := { frames := 1, cells := 0, slots := 0, locals := 21 }
set_option maxRecDepth 100000 in
set_option maxHeartbeats 4000000 in
theorem c_Strides_compare (l : Launch) (G : kx_G) (h : Nat) (sa : Nat) (d : Int32) (a_tk : Nat) (a_pl : Nat) (a_li : Nat) (a_st : Nat) (a_tr : Nat) (u : sg_strides) (p0 : Int32) (p1 : Int32) (v : sg_strides) (hF : f_Strides_compare d u p0 p1 = some v) : CtV l y_Strides_compare b_Strides_compare 3 rm_Strides_compare G [.ref h, .int p0, .int p1] [(h, .inr (4, [.int d, .ref sa, .int u.1, .ref a_tk, .ref a_pl, .ref a_li, .ref a_st, .ref a_tr])), (sa, .inl (G.2 0, 4, .inl u.2.1)), (a_tk, .inl (G.2 1, 16, .inl u.2.2.1)), (a_pl, .inl (G.2 0, 16, .inl u.2.2.2.1)), (a_li, .inl (G.2 0, 16, .inl u.2.2.2.2.1)), (a_st, .inl (G.2 0, 16, .inl u.2.2.2.2.2.1)), (a_tr, .inl (G.2 0, 16, .inl u.2.2.2.2.2.2))] (fun w : sg_strides => v = w) (fun w => [(h, .inr (4, [.int d, .ref sa, .int w.1, .ref a_tk, .ref a_pl, .ref a_li, .ref a_st, .ref a_tr])), (sa, .inl (G.2 0, 4, .inl w.2.1)), (a_tk, .inl (G.2 1, 16, .inl w.2.2.1)), (a_pl, .inl (G.2 0, 16, .inl w.2.2.2.1)), (a_li, .inl (G.2 0, 16, .inl w.2.2.2.2.1)), (a_st, .inl (G.2 0, 16, .inl w.2.2.2.2.2.1)), (a_tr, .inl (G.2 0, 16, .inl w.2.2.2.2.2.2))]) 0 0 := by
  refine CtV.of (by decide) (Nat.le_of_ble_eq_true rfl) [(0, .ref h), (1, .int p0), (2, .int p1)] rfl ?_
  intro p e s m args below meth c A ls Q hQ S hr hlocks hin F w hl
  have S : CallFix p m c b_Strides_compare 3 s args kx_T "PrefetchRules$Strides" := S
  obtain ⟨hx, hb, hml, hown, hts⟩ := id S
  have w : kx_W G A s ([(h, .inr (4, [.int d, .ref sa, .int u.1, .ref a_tk, .ref a_pl, .ref a_li, .ref a_st, .ref a_tr])), (sa, .inl (G.2 0, 4, .inl u.2.1)), (a_tk, .inl (G.2 1, 16, .inl u.2.2.1)), (a_pl, .inl (G.2 0, 16, .inl u.2.2.2.1)), (a_li, .inl (G.2 0, 16, .inl u.2.2.2.2.1)), (a_st, .inl (G.2 0, 16, .inl u.2.2.2.2.2.1)), (a_tr, .inl (G.2 0, 16, .inl u.2.2.2.2.2.2))] ++ []) s.heap [] := w
  unfold f_Strides_compare at hF
  refine lv_iload_n hx hb d_Strides_compare_0 rfl (lv_at hl 2 rfl) ?_
  refine lv_aload_n hx hb d_Strides_compare_1 rfl (lv_at hl 0 rfl) ?_
  refine kx_get S F w kc_Strides 0 rfl 6 (by decide) kw_0860e4f42b rfl d_Strides_compare_2 ?_
  refine lv_iload_n hx hb d_Strides_compare_5 rfl (lv_at hl 1 rfl) ?_
  obtain ⟨hi6, hF⟩ := kx_ar hF
  refine kx_iald S F w 5 rfl hi6 d_Strides_compare_6 ?_
  refine lv_icmp_ne (tgt := 31) hx hb d_Strides_compare_7 (by decide) (fun c7 => ?_) (fun c7 => ?_)
  · have hF := kx_f c7 hF
    refine lv_aload_n hx hb d_Strides_compare_31 rfl (lv_at hl 0 rfl) ?_
    refine kx_get S F w kc_Strides 0 rfl 7 (by decide) kw_e88e72f25f rfl d_Strides_compare_32 ?_
    refine lv_iload_n hx hb d_Strides_compare_35 rfl (lv_at hl 1 rfl) ?_
    obtain ⟨hi36, hF⟩ := kx_ar hF
    refine kx_iald S F w 6 rfl hi36 d_Strides_compare_36 ?_
    refine lv_if_le (tgt := 53) hx hb d_Strides_compare_37 (by decide) (fun c37 => ?_) (fun c37 => ?_)
    · have hF := kx_t c37 hF
      refine lv_aload_n hx hb d_Strides_compare_53 rfl (lv_at hl 0 rfl) ?_
      refine kx_get S F w kc_Strides 0 rfl 6 (by decide) kw_0860e4f42b rfl d_Strides_compare_54 ?_
      refine lv_iload_n hx hb d_Strides_compare_57 rfl (lv_at hl 1 rfl) ?_
      refine lv_iload_n hx hb d_Strides_compare_58 rfl (lv_at hl 2 rfl) ?_
      obtain ⟨hi59, hF⟩ := kx_ar hF
      refine kx_iast S F w 5 rfl hi59 d_Strides_compare_59 (fun H locs w => ?_)
      have w : kx_W G A s ([(h, .inr (4, [.int d, .ref sa, .int u.1, .ref a_tk, .ref a_pl, .ref a_li, .ref a_st, .ref a_tr])), (sa, .inl (G.2 0, 4, .inl u.2.1)), (a_tk, .inl (G.2 1, 16, .inl u.2.2.1)), (a_pl, .inl (G.2 0, 16, .inl u.2.2.2.1)), (a_li, .inl (G.2 0, 16, .inl u.2.2.2.2.1)), (a_st, .inl (G.2 0, 16, .inl (upd u.2.2.2.2.2.1 p0.toNatClampNeg p1))), (a_tr, .inl (G.2 0, 16, .inl u.2.2.2.2.2.2))] ++ []) H locs := w
      obtain rfl := Option.some.inj hF
      exact kx_vret hQ S hr hlocks w (xo := [(h, .inr (4, [.int d, .ref sa, .int u.1, .ref a_tk, .ref a_pl, .ref a_li, .ref a_st, .ref a_tr])), (sa, .inl (G.2 0, 4, .inl u.2.1)), (a_tk, .inl (G.2 1, 16, .inl u.2.2.1)), (a_pl, .inl (G.2 0, 16, .inl u.2.2.2.1)), (a_li, .inl (G.2 0, 16, .inl u.2.2.2.2.1)), (a_st, .inl (G.2 0, 16, .inl (upd u.2.2.2.2.2.1 p0.toNatClampNeg p1))), (a_tr, .inl (G.2 0, 16, .inl u.2.2.2.2.2.2))]) [0, 1, 2, 3, 4, 5, 6] rfl rfl (u.1, u.2.1, u.2.2.1, u.2.2.2.1, u.2.2.2.2.1, upd u.2.2.2.2.2.1 p0.toNatClampNeg p1, u.2.2.2.2.2.2) rfl rfl d_Strides_compare_60
    · have hF := kx_f c37 hF
      refine lv_aload_n hx hb d_Strides_compare_40 rfl (lv_at hl 0 rfl) ?_
      refine kx_get S F w kc_Strides 0 rfl 7 (by decide) kw_e88e72f25f rfl d_Strides_compare_41 ?_
      refine lv_iload_n hx hb d_Strides_compare_44 rfl (lv_at hl 1 rfl) ?_
      refine lv_dup2_11 hx hb d_Strides_compare_45 rfl rfl ?_
      obtain ⟨hi46, hF⟩ := kx_ar hF
      refine kx_iald S F w 6 rfl hi46 d_Strides_compare_46 ?_
      refine lv_iconst (v := (1 : Int32)) hx hb d_Strides_compare_47 (by decide) ?_
      refine lv_isub hx hb d_Strides_compare_48 ?_
      obtain ⟨hi49, hF⟩ := kx_ar hF
      refine kx_iast S F w 6 rfl hi49 d_Strides_compare_49 (fun H locs w => ?_)
      have w : kx_W G A s ([(h, .inr (4, [.int d, .ref sa, .int u.1, .ref a_tk, .ref a_pl, .ref a_li, .ref a_st, .ref a_tr])), (sa, .inl (G.2 0, 4, .inl u.2.1)), (a_tk, .inl (G.2 1, 16, .inl u.2.2.1)), (a_pl, .inl (G.2 0, 16, .inl u.2.2.2.1)), (a_li, .inl (G.2 0, 16, .inl u.2.2.2.2.1)), (a_st, .inl (G.2 0, 16, .inl u.2.2.2.2.2.1)), (a_tr, .inl (G.2 0, 16, .inl (upd u.2.2.2.2.2.2 p0.toNatClampNeg ((u.2.2.2.2.2.2 p0.toNatClampNeg) - (1 : Int32)))))] ++ []) H locs := w
      refine lv_goto (tgt := 60) hx hb d_Strides_compare_50 (by decide) ?_
      obtain rfl := Option.some.inj hF
      exact kx_vret hQ S hr hlocks w (xo := [(h, .inr (4, [.int d, .ref sa, .int u.1, .ref a_tk, .ref a_pl, .ref a_li, .ref a_st, .ref a_tr])), (sa, .inl (G.2 0, 4, .inl u.2.1)), (a_tk, .inl (G.2 1, 16, .inl u.2.2.1)), (a_pl, .inl (G.2 0, 16, .inl u.2.2.2.1)), (a_li, .inl (G.2 0, 16, .inl u.2.2.2.2.1)), (a_st, .inl (G.2 0, 16, .inl u.2.2.2.2.2.1)), (a_tr, .inl (G.2 0, 16, .inl (upd u.2.2.2.2.2.2 p0.toNatClampNeg ((u.2.2.2.2.2.2 p0.toNatClampNeg) - (1 : Int32)))))]) [0, 1, 2, 3, 4, 5, 6] rfl rfl (u.1, u.2.1, u.2.2.1, u.2.2.2.1, u.2.2.2.2.1, u.2.2.2.2.2.1, upd u.2.2.2.2.2.2 p0.toNatClampNeg ((u.2.2.2.2.2.2 p0.toNatClampNeg) - (1 : Int32))) rfl rfl d_Strides_compare_60
  · have hF := kx_t c7 hF
    refine lv_aload_n hx hb d_Strides_compare_10 rfl (lv_at hl 0 rfl) ?_
    refine kx_get S F w kc_Strides 0 rfl 7 (by decide) kw_e88e72f25f rfl d_Strides_compare_11 ?_
    refine lv_iload_n hx hb d_Strides_compare_14 rfl (lv_at hl 1 rfl) ?_
    refine lv_iconst (v := (3 : Int32)) hx hb d_Strides_compare_15 (by decide) ?_
    refine lv_aload_n hx hb d_Strides_compare_16 rfl (lv_at hl 0 rfl) ?_
    refine kx_get S F w kc_Strides 0 rfl 7 (by decide) kw_e88e72f25f rfl d_Strides_compare_17 ?_
    refine lv_iload_n hx hb d_Strides_compare_20 rfl (lv_at hl 1 rfl) ?_
    obtain ⟨hi21, hF⟩ := kx_ar hF
    refine kx_iald S F w 6 rfl hi21 d_Strides_compare_21 ?_
    refine lv_iconst (v := (1 : Int32)) hx hb d_Strides_compare_22 (by decide) ?_
    refine lv_iadd hx hb d_Strides_compare_23 ?_
    refine va_mmin hx hb (by rw [hml]; exact hl.1.symm) hown (hts _ kw_cea87ad66a) (hts _ kw_86f19dd951) (hts _ kw_ae09fe6d2e) (hts _ kw_45c1916403) (Nat.le_of_ble_eq_true rfl) (Nat.le_of_ble_eq_true rfl) (Nat.zero_le _) (Nat.zero_le _) d_Strides_compare_24 ?_
    obtain ⟨hi27, hF⟩ := kx_ar hF
    refine kx_iast S F w 6 rfl hi27 d_Strides_compare_27 (fun H locs w => ?_)
    have w : kx_W G A s ([(h, .inr (4, [.int d, .ref sa, .int u.1, .ref a_tk, .ref a_pl, .ref a_li, .ref a_st, .ref a_tr])), (sa, .inl (G.2 0, 4, .inl u.2.1)), (a_tk, .inl (G.2 1, 16, .inl u.2.2.1)), (a_pl, .inl (G.2 0, 16, .inl u.2.2.2.1)), (a_li, .inl (G.2 0, 16, .inl u.2.2.2.2.1)), (a_st, .inl (G.2 0, 16, .inl u.2.2.2.2.2.1)), (a_tr, .inl (G.2 0, 16, .inl (upd u.2.2.2.2.2.2 p0.toNatClampNeg (if ((u.2.2.2.2.2.2 p0.toNatClampNeg) + (1 : Int32)) < (3 : Int32) then ((u.2.2.2.2.2.2 p0.toNatClampNeg) + (1 : Int32)) else (3 : Int32)))))] ++ []) H locs := w
    refine lv_goto (tgt := 60) hx hb d_Strides_compare_28 (by decide) ?_
    obtain rfl := Option.some.inj hF
    exact kx_vret hQ S hr hlocks w (xo := [(h, .inr (4, [.int d, .ref sa, .int u.1, .ref a_tk, .ref a_pl, .ref a_li, .ref a_st, .ref a_tr])), (sa, .inl (G.2 0, 4, .inl u.2.1)), (a_tk, .inl (G.2 1, 16, .inl u.2.2.1)), (a_pl, .inl (G.2 0, 16, .inl u.2.2.2.1)), (a_li, .inl (G.2 0, 16, .inl u.2.2.2.2.1)), (a_st, .inl (G.2 0, 16, .inl u.2.2.2.2.2.1)), (a_tr, .inl (G.2 0, 16, .inl (upd u.2.2.2.2.2.2 p0.toNatClampNeg (if ((u.2.2.2.2.2.2 p0.toNatClampNeg) + (1 : Int32)) < (3 : Int32) then ((u.2.2.2.2.2.2 p0.toNatClampNeg) + (1 : Int32)) else (3 : Int32)))))]) [0, 1, 2, 3, 4, 5, 6] rfl rfl (u.1, u.2.1, u.2.2.1, u.2.2.2.1, u.2.2.2.2.1, u.2.2.2.2.2.1, upd u.2.2.2.2.2.2 p0.toNatClampNeg (if ((u.2.2.2.2.2.2 p0.toNatClampNeg) + (1 : Int32)) < (3 : Int32) then ((u.2.2.2.2.2.2 p0.toNatClampNeg) + (1 : Int32)) else (3 : Int32))) rfl rfl d_Strides_compare_60
/-! Strides_learn -/
def f_Strides_learn (d : Int32) (u : sg_strides) (p0 : Int32) (p1 : Int32) : Option (sg_strides) := (f_Strides_rowOf p0).bind (fun q1 => (f_Strides_isOwn d u q1 p0).bind (fun q8 => (if q8 = 0 then (f_Strides_begin d u q1 p0 p1).bind (fun q18 => some q18) else (if (q1 < 0 ∨ 16 ≤ q1.toNatClampNeg) then none else (f_Strides_compare d u q1 (p1 - (u.2.2.2.2.1 q1.toNatClampNeg))).bind (fun q32 => (if (q1 < 0 ∨ 16 ≤ q1.toNatClampNeg) then none else (if (q1 < 0 ∨ 16 ≤ q1.toNatClampNeg) then none else (if (q32.2.2.2.2.2.2 q1.toNatClampNeg) < (2 : Int32) then some (q32.1, q32.2.1, q32.2.2.1, q32.2.2.2.1, upd q32.2.2.2.2.1 q1.toNatClampNeg p1, q32.2.2.2.2.2) else (if (q1 < 0 ∨ 16 ≤ q1.toNatClampNeg) then none else (if (q32.2.2.2.2.2.1 q1.toNatClampNeg) = 0 then some (q32.1, q32.2.1, q32.2.2.1, q32.2.2.2.1, upd q32.2.2.2.2.1 q1.toNatClampNeg p1, q32.2.2.2.2.2) else (if (q1 < 0 ∨ 16 ≤ q1.toNatClampNeg) then none else (f_Rule_sayInSteps d (q32.1, q32.2.1) p1 (q32.2.2.2.2.2.1 q1.toNatClampNeg)).bind (fun q69 => some (q69.1, q69.2, q32.2.2.1, q32.2.2.2.1, upd q32.2.2.2.2.1 q1.toNatClampNeg p1, q32.2.2.2.2.2)))))))))))))
def rm_Strides_learn : Room := { frames := 2, cells := 0, slots := 0, locals := 44 }
set_option maxRecDepth 100000 in
set_option maxHeartbeats 4000000 in
theorem c_Strides_learn (l : Launch) (G : kx_G) (h : Nat) (sa : Nat) (d : Int32) (a_tk : Nat) (a_pl : Nat) (a_li : Nat) (a_st : Nat) (a_tr : Nat) (u : sg_strides) (p0 : Int32) (p1 : Int32) (v : sg_strides) (hF : f_Strides_learn d u p0 p1 = some v) : CtV l y_Strides_learn b_Strides_learn 4 rm_Strides_learn G [.ref h, .int p0, .int p1] [(h, .inr (4, [.int d, .ref sa, .int u.1, .ref a_tk, .ref a_pl, .ref a_li, .ref a_st, .ref a_tr])), (sa, .inl (G.2 0, 4, .inl u.2.1)), (a_tk, .inl (G.2 1, 16, .inl u.2.2.1)), (a_pl, .inl (G.2 0, 16, .inl u.2.2.2.1)), (a_li, .inl (G.2 0, 16, .inl u.2.2.2.2.1)), (a_st, .inl (G.2 0, 16, .inl u.2.2.2.2.2.1)), (a_tr, .inl (G.2 0, 16, .inl u.2.2.2.2.2.2))] (fun w : sg_strides => v = w) (fun w => [(h, .inr (4, [.int d, .ref sa, .int w.1, .ref a_tk, .ref a_pl, .ref a_li, .ref a_st, .ref a_tr])), (sa, .inl (G.2 0, 4, .inl w.2.1)), (a_tk, .inl (G.2 1, 16, .inl w.2.2.1)), (a_pl, .inl (G.2 0, 16, .inl w.2.2.2.1)), (a_li, .inl (G.2 0, 16, .inl w.2.2.2.2.1)), (a_st, .inl (G.2 0, 16, .inl w.2.2.2.2.2.1)), (a_tr, .inl (G.2 0, 16, .inl w.2.2.2.2.2.2))]) 0 0 := by
  refine CtV.of (by decide) (Nat.le_of_ble_eq_true rfl) [(0, .ref h), (1, .int p0), (2, .int p1)] rfl ?_
  intro p e s m args below meth c A ls Q hQ S hr hlocks hin F w hl
  have S : CallFix p m c b_Strides_learn 4 s args kx_T "PrefetchRules$Strides" := S
  obtain ⟨hx, hb, hml, hown, hts⟩ := id S
  have w : kx_W G A s ([(h, .inr (4, [.int d, .ref sa, .int u.1, .ref a_tk, .ref a_pl, .ref a_li, .ref a_st, .ref a_tr])), (sa, .inl (G.2 0, 4, .inl u.2.1)), (a_tk, .inl (G.2 1, 16, .inl u.2.2.1)), (a_pl, .inl (G.2 0, 16, .inl u.2.2.2.1)), (a_li, .inl (G.2 0, 16, .inl u.2.2.2.2.1)), (a_st, .inl (G.2 0, 16, .inl u.2.2.2.2.2.1)), (a_tr, .inl (G.2 0, 16, .inl u.2.2.2.2.2.2))] ++ []) s.heap [] := w
  unfold f_Strides_learn at hF
  refine lv_iload_n hx hb d_Strides_learn_0 rfl (lv_at hl 1 rfl) ?_
  obtain ⟨q1, hq1, hF⟩ := kx_bd hF
  refine kx_ci (cx := []) (wr := [(h, .inr (4, [.int d, .ref sa, .int u.1, .ref a_tk, .ref a_pl, .ref a_li, .ref a_st, .ref a_tr])), (sa, .inl (G.2 0, 4, .inl u.2.1)), (a_tk, .inl (G.2 1, 16, .inl u.2.2.1)), (a_pl, .inl (G.2 0, 16, .inl u.2.2.2.1)), (a_li, .inl (G.2 0, 16, .inl u.2.2.2.2.1)), (a_st, .inl (G.2 0, 16, .inl u.2.2.2.2.2.1)), (a_tr, .inl (G.2 0, 16, .inl u.2.2.2.2.2.2))]) F w [] [0, 1, 2, 3, 4, 5, 6] rfl rfl rfl (by decide) (va_runS (As := [.int p0]) (rest := []) S (c_Strides_rowOf l G p0 q1 hq1 _) (kx_cwS S ms_Strides_rowOf kw_5e2cdbf2bb ⟨rfl, rfl, Nat.le_of_ble_eq_true rfl, Nat.le_of_ble_eq_true rfl⟩) ⟨kx_blind _ _ _ _, kx_pre F w [] rfl rfl⟩ rfl rfl hl.1 rfl (lv_room (Nat.le_of_ble_eq_true rfl)) d_Strides_learn_1 ⟨Nat.le_of_ble_eq_true rfl, Nat.le_of_ble_eq_true rfl⟩) (fun r1 w1 H locs hp w => ?_)
  subst hp
  have w : kx_W G A s ([(h, .inr (4, [.int d, .ref sa, .int u.1, .ref a_tk, .ref a_pl, .ref a_li, .ref a_st, .ref a_tr])), (sa, .inl (G.2 0, 4, .inl u.2.1)), (a_tk, .inl (G.2 1, 16, .inl u.2.2.1)), (a_pl, .inl (G.2 0, 16, .inl u.2.2.2.1)), (a_li, .inl (G.2 0, 16, .inl u.2.2.2.2.1)), (a_st, .inl (G.2 0, 16, .inl u.2.2.2.2.2.1)), (a_tr, .inl (G.2 0, 16, .inl u.2.2.2.2.2.2))] ++ []) H locs := w
  refine lv_istore_n (lv' := [(3, .int q1), (0, .ref h), (1, .int p0), (2, .int p1)]) hx hb d_Strides_learn_4 rfl hl (by decide) rfl (fun ls hl => ?_)
  refine lv_aload_n hx hb d_Strides_learn_5 rfl (lv_at hl 1 rfl) ?_
  refine lv_iload_n hx hb d_Strides_learn_6 rfl (lv_at hl 0 rfl) ?_
  refine lv_iload_n hx hb d_Strides_learn_7 rfl (lv_at hl 2 rfl) ?_
  obtain ⟨q8, hq8, hF⟩ := kx_bd hF
  refine kx_ci (cx := [(h, .inr (4, [.int d, .ref sa, .int u.1, .ref a_tk, .ref a_pl, .ref a_li, .ref a_st, .ref a_tr])), (sa, .inl (G.2 0, 4, .inl u.2.1)), (a_tk, .inl (G.2 1, 16, .inl u.2.2.1)), (a_pl, .inl (G.2 0, 16, .inl u.2.2.2.1)), (a_li, .inl (G.2 0, 16, .inl u.2.2.2.2.1)), (a_st, .inl (G.2 0, 16, .inl u.2.2.2.2.2.1)), (a_tr, .inl (G.2 0, 16, .inl u.2.2.2.2.2.2))]) (wr := []) F w [0, 1, 2, 3, 4, 5, 6] [] rfl rfl rfl (by decide) (va_runV (As := [.int q1, .int p0]) (rest := []) S (c_Strides_isOwn l G h sa d a_tk a_pl a_li a_st a_tr u q1 p0 q8 hq8 _) (kx_cwV S mv_Strides_isOwn kw_221ef465e8 ⟨rfl, rfl, Nat.le_of_ble_eq_true rfl, Nat.le_of_ble_eq_true rfl⟩) ⟨kx_blind _ _ _ _, va_recv (q0 := 0) F.1.1 w.1 kc_Strides.1 rfl, kx_pre F w [0, 1, 2, 3, 4, 5, 6] rfl rfl⟩ rfl rfl hl.1 rfl (lv_room (Nat.le_of_ble_eq_true rfl)) d_Strides_learn_8 ⟨Nat.le_of_ble_eq_true rfl, Nat.le_of_ble_eq_true rfl⟩) (fun r8 w8 H locs hp w => ?_)
  subst hp
  have w : kx_W G A s ([(h, .inr (4, [.int d, .ref sa, .int u.1, .ref a_tk, .ref a_pl, .ref a_li, .ref a_st, .ref a_tr])), (sa, .inl (G.2 0, 4, .inl u.2.1)), (a_tk, .inl (G.2 1, 16, .inl u.2.2.1)), (a_pl, .inl (G.2 0, 16, .inl u.2.2.2.1)), (a_li, .inl (G.2 0, 16, .inl u.2.2.2.2.1)), (a_st, .inl (G.2 0, 16, .inl u.2.2.2.2.2.1)), (a_tr, .inl (G.2 0, 16, .inl u.2.2.2.2.2.2))] ++ []) H locs := w
  refine lv_if_ne (tgt := 22) hx hb d_Strides_learn_11 (by decide) (fun c11 => ?_) (fun c11 => ?_)
  · have hF := kx_f c11 hF
    refine lv_aload_n hx hb d_Strides_learn_22 rfl (lv_at hl 1 rfl) ?_
    refine lv_iload_n hx hb d_Strides_learn_23 rfl (lv_at hl 0 rfl) ?_
    refine lv_iload_n hx hb d_Strides_learn_24 rfl (lv_at hl 3 rfl) ?_
    refine lv_aload_n hx hb d_Strides_learn_25 rfl (lv_at hl 1 rfl) ?_
    refine kx_get S F w kc_Strides 0 rfl 5 (by decide) kw_c37cf748b9 rfl d_Strides_learn_26 ?_
    refine lv_iload_n hx hb d_Strides_learn_29 rfl (lv_at hl 0 rfl) ?_
    obtain ⟨hi30, hF⟩ := kx_ar hF
    refine kx_iald S F w 4 rfl hi30 d_Strides_learn_30 ?_
    refine lv_isub hx hb d_Strides_learn_31 ?_
    obtain ⟨q32, hq32, hF⟩ := kx_bd hF
    refine kx_cv (cx := [(h, .inr (4, [.int d, .ref sa, .int u.1, .ref a_tk, .ref a_pl, .ref a_li, .ref a_st, .ref a_tr])), (sa, .inl (G.2 0, 4, .inl u.2.1)), (a_tk, .inl (G.2 1, 16, .inl u.2.2.1)), (a_pl, .inl (G.2 0, 16, .inl u.2.2.2.1)), (a_li, .inl (G.2 0, 16, .inl u.2.2.2.2.1)), (a_st, .inl (G.2 0, 16, .inl u.2.2.2.2.2.1)), (a_tr, .inl (G.2 0, 16, .inl u.2.2.2.2.2.2))]) (wr := []) F w [0, 1, 2, 3, 4, 5, 6] [] rfl rfl rfl (by decide) (va_runV (As := [.int q1, .int (p1 - (u.2.2.2.2.1 q1.toNatClampNeg))]) (rest := []) S (c_Strides_compare l G h sa d a_tk a_pl a_li a_st a_tr u q1 (p1 - (u.2.2.2.2.1 q1.toNatClampNeg)) q32 hq32 _) (kx_cwV S mv_Strides_compare kw_c83620d864 ⟨rfl, rfl, Nat.le_of_ble_eq_true rfl, Nat.le_of_ble_eq_true rfl⟩) ⟨kx_blind _ _ _ _, va_recv (q0 := 0) F.1.1 w.1 kc_Strides.1 rfl, kx_pre F w [0, 1, 2, 3, 4, 5, 6] rfl rfl⟩ rfl rfl hl.1 rfl (lv_room (Nat.le_of_ble_eq_true rfl)) d_Strides_learn_32 ⟨Nat.le_of_ble_eq_true rfl, Nat.le_of_ble_eq_true rfl⟩) (fun w32 H locs hp w => ?_)
    subst hp
    have w : kx_W G A s ([(h, .inr (4, [.int d, .ref sa, .int q32.1, .ref a_tk, .ref a_pl, .ref a_li, .ref a_st, .ref a_tr])), (sa, .inl (G.2 0, 4, .inl q32.2.1)), (a_tk, .inl (G.2 1, 16, .inl q32.2.2.1)), (a_pl, .inl (G.2 0, 16, .inl q32.2.2.2.1)), (a_li, .inl (G.2 0, 16, .inl q32.2.2.2.2.1)), (a_st, .inl (G.2 0, 16, .inl q32.2.2.2.2.2.1)), (a_tr, .inl (G.2 0, 16, .inl q32.2.2.2.2.2.2))] ++ []) H locs := w
    refine lv_aload_n hx hb d_Strides_learn_35 rfl (lv_at hl 1 rfl) ?_
    refine kx_get S F w kc_Strides 0 rfl 5 (by decide) kw_c37cf748b9 rfl d_Strides_learn_36 ?_
    refine lv_iload_n hx hb d_Strides_learn_39 rfl (lv_at hl 0 rfl) ?_
    refine lv_iload_n hx hb d_Strides_learn_40 rfl (lv_at hl 3 rfl) ?_
    obtain ⟨hi41, hF⟩ := kx_ar hF
    refine kx_iast S F w 4 rfl hi41 d_Strides_learn_41 (fun H locs w => ?_)
    have w : kx_W G A s ([(h, .inr (4, [.int d, .ref sa, .int q32.1, .ref a_tk, .ref a_pl, .ref a_li, .ref a_st, .ref a_tr])), (sa, .inl (G.2 0, 4, .inl q32.2.1)), (a_tk, .inl (G.2 1, 16, .inl q32.2.2.1)), (a_pl, .inl (G.2 0, 16, .inl q32.2.2.2.1)), (a_li, .inl (G.2 0, 16, .inl (upd q32.2.2.2.2.1 q1.toNatClampNeg p1))), (a_st, .inl (G.2 0, 16, .inl q32.2.2.2.2.2.1)), (a_tr, .inl (G.2 0, 16, .inl q32.2.2.2.2.2.2))] ++ []) H locs := w
    refine lv_aload_n hx hb d_Strides_learn_42 rfl (lv_at hl 1 rfl) ?_
    refine kx_get S F w kc_Strides 0 rfl 7 (by decide) kw_e88e72f25f rfl d_Strides_learn_43 ?_
    refine lv_iload_n hx hb d_Strides_learn_46 rfl (lv_at hl 0 rfl) ?_
    obtain ⟨hi47, hF⟩ := kx_ar hF
    refine kx_iald S F w 6 rfl hi47 d_Strides_learn_47 ?_
    refine lv_iconst (v := (2 : Int32)) hx hb d_Strides_learn_48 (by decide) ?_
    refine lv_icmp_lt (tgt := 72) hx hb d_Strides_learn_49 (by decide) (fun c49 => ?_) (fun c49 => ?_)
    · have hF := kx_t c49 hF
      obtain rfl := Option.some.inj hF
      exact kx_vret hQ S hr hlocks w (xo := [(h, .inr (4, [.int d, .ref sa, .int q32.1, .ref a_tk, .ref a_pl, .ref a_li, .ref a_st, .ref a_tr])), (sa, .inl (G.2 0, 4, .inl q32.2.1)), (a_tk, .inl (G.2 1, 16, .inl q32.2.2.1)), (a_pl, .inl (G.2 0, 16, .inl q32.2.2.2.1)), (a_li, .inl (G.2 0, 16, .inl (upd q32.2.2.2.2.1 q1.toNatClampNeg p1))), (a_st, .inl (G.2 0, 16, .inl q32.2.2.2.2.2.1)), (a_tr, .inl (G.2 0, 16, .inl q32.2.2.2.2.2.2))]) [0, 1, 2, 3, 4, 5, 6] rfl rfl (q32.1, q32.2.1, q32.2.2.1, q32.2.2.2.1, upd q32.2.2.2.2.1 q1.toNatClampNeg p1, q32.2.2.2.2.2) rfl rfl d_Strides_learn_72
    · have hF := kx_f c49 hF
      refine lv_aload_n hx hb d_Strides_learn_52 rfl (lv_at hl 1 rfl) ?_
      refine kx_get S F w kc_Strides 0 rfl 6 (by decide) kw_0860e4f42b rfl d_Strides_learn_53 ?_
      refine lv_iload_n hx hb d_Strides_learn_56 rfl (lv_at hl 0 rfl) ?_
      obtain ⟨hi57, hF⟩ := kx_ar hF
      refine kx_iald S F w 5 rfl hi57 d_Strides_learn_57 ?_
      refine lv_if_eq (tgt := 72) hx hb d_Strides_learn_58 (by decide) (fun c58 => ?_) (fun c58 => ?_)
      · have hF := kx_t c58 hF
        obtain rfl := Option.some.inj hF
        exact kx_vret hQ S hr hlocks w (xo := [(h, .inr (4, [.int d, .ref sa, .int q32.1, .ref a_tk, .ref a_pl, .ref a_li, .ref a_st, .ref a_tr])), (sa, .inl (G.2 0, 4, .inl q32.2.1)), (a_tk, .inl (G.2 1, 16, .inl q32.2.2.1)), (a_pl, .inl (G.2 0, 16, .inl q32.2.2.2.1)), (a_li, .inl (G.2 0, 16, .inl (upd q32.2.2.2.2.1 q1.toNatClampNeg p1))), (a_st, .inl (G.2 0, 16, .inl q32.2.2.2.2.2.1)), (a_tr, .inl (G.2 0, 16, .inl q32.2.2.2.2.2.2))]) [0, 1, 2, 3, 4, 5, 6] rfl rfl (q32.1, q32.2.1, q32.2.2.1, q32.2.2.2.1, upd q32.2.2.2.2.1 q1.toNatClampNeg p1, q32.2.2.2.2.2) rfl rfl d_Strides_learn_72
      · have hF := kx_f c58 hF
        refine lv_aload_n hx hb d_Strides_learn_61 rfl (lv_at hl 1 rfl) ?_
        refine lv_iload_n hx hb d_Strides_learn_62 rfl (lv_at hl 3 rfl) ?_
        refine lv_aload_n hx hb d_Strides_learn_63 rfl (lv_at hl 1 rfl) ?_
        refine kx_get S F w kc_Strides 0 rfl 6 (by decide) kw_0860e4f42b rfl d_Strides_learn_64 ?_
        refine lv_iload_n hx hb d_Strides_learn_67 rfl (lv_at hl 0 rfl) ?_
        obtain ⟨hi68, hF⟩ := kx_ar hF
        refine kx_iald S F w 5 rfl hi68 d_Strides_learn_68 ?_
        obtain ⟨q69, hq69, hF⟩ := kx_bd hF
        refine kx_cv (cx := [(h, .inr (4, [.int d, .ref sa, .int q32.1, .ref a_tk, .ref a_pl, .ref a_li, .ref a_st, .ref a_tr])), (sa, .inl (G.2 0, 4, .inl q32.2.1))]) (wr := [(a_tk, .inl (G.2 1, 16, .inl q32.2.2.1)), (a_pl, .inl (G.2 0, 16, .inl q32.2.2.2.1)), (a_li, .inl (G.2 0, 16, .inl (upd q32.2.2.2.2.1 q1.toNatClampNeg p1))), (a_st, .inl (G.2 0, 16, .inl q32.2.2.2.2.2.1)), (a_tr, .inl (G.2 0, 16, .inl q32.2.2.2.2.2.2))]) F w [0, 1] [2, 3, 4, 5, 6] rfl rfl rfl (by decide) (va_runU (As := [.int p1, .int (q32.2.2.2.2.2.1 q1.toNatClampNeg)]) (rest := []) S (c_Rule_sayInSteps l G 4 ("PrefetchRules$Strides") F_Strides 8 t_Strides h sa d ([.ref a_tk, .ref a_pl, .ref a_li, .ref a_st, .ref a_tr]) kr_Strides (q32.1, q32.2.1) p1 (q32.2.2.2.2.2.1 q1.toNatClampNeg) q69 hq69 _) (kx_cwU (n := 2) (x := ⟨"PrefetchRules$Strides", "sayInSteps", "(II)V"⟩) S kw_115e75369b kw_982864c9dc kw_e3bc7b6d4e kw_2208582879 kw_9597fba511 kw_d0941c2f9e rfl (by decide +kernel) ⟨rfl, rfl, Nat.le_of_ble_eq_true rfl, Nat.le_of_ble_eq_true rfl⟩) ⟨kx_blind _ _ _ _, va_recv (q0 := 0) F.1.1 w.1 kc_Strides.1 rfl, kx_pre F w [0, 1] rfl rfl⟩ rfl rfl hl.1 rfl (lv_room (Nat.le_of_ble_eq_true rfl)) d_Strides_learn_69 ⟨Nat.le_of_ble_eq_true rfl, Nat.le_of_ble_eq_true rfl⟩) (fun w69 H locs hp w => ?_)
        subst hp
        have w : kx_W G A s ([(a_tk, .inl (G.2 1, 16, .inl q32.2.2.1)), (a_pl, .inl (G.2 0, 16, .inl q32.2.2.2.1)), (a_li, .inl (G.2 0, 16, .inl (upd q32.2.2.2.2.1 q1.toNatClampNeg p1))), (a_st, .inl (G.2 0, 16, .inl q32.2.2.2.2.2.1)), (a_tr, .inl (G.2 0, 16, .inl q32.2.2.2.2.2.2)), (h, .inr (4, [.int d, .ref sa, .int q69.1, .ref a_tk, .ref a_pl, .ref a_li, .ref a_st, .ref a_tr])), (sa, .inl (G.2 0, 4, .inl q69.2))] ++ []) H locs := w
        obtain rfl := Option.some.inj hF
        exact kx_vret hQ S hr hlocks w (xo := [(h, .inr (4, [.int d, .ref sa, .int q69.1, .ref a_tk, .ref a_pl, .ref a_li, .ref a_st, .ref a_tr])), (sa, .inl (G.2 0, 4, .inl q69.2)), (a_tk, .inl (G.2 1, 16, .inl q32.2.2.1)), (a_pl, .inl (G.2 0, 16, .inl q32.2.2.2.1)), (a_li, .inl (G.2 0, 16, .inl (upd q32.2.2.2.2.1 q1.toNatClampNeg p1))), (a_st, .inl (G.2 0, 16, .inl q32.2.2.2.2.2.1)), (a_tr, .inl (G.2 0, 16, .inl q32.2.2.2.2.2.2))]) [5, 6, 0, 1, 2, 3, 4] rfl rfl (q69.1, q69.2, q32.2.2.1, q32.2.2.2.1, upd q32.2.2.2.2.1 q1.toNatClampNeg p1, q32.2.2.2.2.2) rfl rfl d_Strides_learn_72
  · have hF := kx_t c11 hF
    refine lv_aload_n hx hb d_Strides_learn_14 rfl (lv_at hl 1 rfl) ?_
    refine lv_iload_n hx hb d_Strides_learn_15 rfl (lv_at hl 0 rfl) ?_
    refine lv_iload_n hx hb d_Strides_learn_16 rfl (lv_at hl 2 rfl) ?_
    refine lv_iload_n hx hb d_Strides_learn_17 rfl (lv_at hl 3 rfl) ?_
    obtain ⟨q18, hq18, hF⟩ := kx_bd hF
    refine kx_cv (cx := [(h, .inr (4, [.int d, .ref sa, .int u.1, .ref a_tk, .ref a_pl, .ref a_li, .ref a_st, .ref a_tr])), (sa, .inl (G.2 0, 4, .inl u.2.1)), (a_tk, .inl (G.2 1, 16, .inl u.2.2.1)), (a_pl, .inl (G.2 0, 16, .inl u.2.2.2.1)), (a_li, .inl (G.2 0, 16, .inl u.2.2.2.2.1)), (a_st, .inl (G.2 0, 16, .inl u.2.2.2.2.2.1)), (a_tr, .inl (G.2 0, 16, .inl u.2.2.2.2.2.2))]) (wr := []) F w [0, 1, 2, 3, 4, 5, 6] [] rfl rfl rfl (by decide) (va_runV (As := [.int q1, .int p0, .int p1]) (rest := []) S (c_Strides_begin l G h sa d a_tk a_pl a_li a_st a_tr u q1 p0 p1 q18 hq18 _) (kx_cwV S mv_Strides_begin kw_0a493e3a55 ⟨rfl, rfl, Nat.le_of_ble_eq_true rfl, Nat.le_of_ble_eq_true rfl⟩) ⟨kx_blind _ _ _ _, va_recv (q0 := 0) F.1.1 w.1 kc_Strides.1 rfl, kx_pre F w [0, 1, 2, 3, 4, 5, 6] rfl rfl⟩ rfl rfl hl.1 rfl (lv_room (Nat.le_of_ble_eq_true rfl)) d_Strides_learn_18 ⟨Nat.le_of_ble_eq_true rfl, Nat.le_of_ble_eq_true rfl⟩) (fun w18 H locs hp w => ?_)
    subst hp
    have w : kx_W G A s ([(h, .inr (4, [.int d, .ref sa, .int q18.1, .ref a_tk, .ref a_pl, .ref a_li, .ref a_st, .ref a_tr])), (sa, .inl (G.2 0, 4, .inl q18.2.1)), (a_tk, .inl (G.2 1, 16, .inl q18.2.2.1)), (a_pl, .inl (G.2 0, 16, .inl q18.2.2.2.1)), (a_li, .inl (G.2 0, 16, .inl q18.2.2.2.2.1)), (a_st, .inl (G.2 0, 16, .inl q18.2.2.2.2.2.1)), (a_tr, .inl (G.2 0, 16, .inl q18.2.2.2.2.2.2))] ++ []) H locs := w
    obtain rfl := Option.some.inj hF
    exact kx_vret hQ S hr hlocks w (xo := [(h, .inr (4, [.int d, .ref sa, .int q18.1, .ref a_tk, .ref a_pl, .ref a_li, .ref a_st, .ref a_tr])), (sa, .inl (G.2 0, 4, .inl q18.2.1)), (a_tk, .inl (G.2 1, 16, .inl q18.2.2.1)), (a_pl, .inl (G.2 0, 16, .inl q18.2.2.2.1)), (a_li, .inl (G.2 0, 16, .inl q18.2.2.2.2.1)), (a_st, .inl (G.2 0, 16, .inl q18.2.2.2.2.2.1)), (a_tr, .inl (G.2 0, 16, .inl q18.2.2.2.2.2.2))]) [0, 1, 2, 3, 4, 5, 6] rfl rfl q18 rfl rfl d_Strides_learn_21
/-! Strides_knowledge -/
def f_Strides_knowledge (d : Int32) (u : sg_strides) (p0 : Int32) : Option (Int32) := (f_Strides_rowOf p0).bind (fun q1 => (f_Strides_isOwn d u q1 p0).bind (fun q8 => (if q8 = 0 then some (0 : Int32) else (if (q1 < 0 ∨ 16 ≤ q1.toNatClampNeg) then none else some (u.2.2.2.2.2.1 q1.toNatClampNeg)))))
def rm_Strides_knowledge : Room := { frames := 2, cells := 0, slots := 0, locals := 44 }
set_option maxRecDepth 100000 in
set_option maxHeartbeats 4000000 in
theorem c_Strides_knowledge (l : Launch) (G : kx_G) (h : Nat) (sa : Nat) (d : Int32) (a_tk : Nat) (a_pl : Nat) (a_li : Nat) (a_st : Nat) (a_tr : Nat) (u : sg_strides) (p0 : Int32) (v : Int32) (hF : f_Strides_knowledge d u p0 = some v) : CtI l y_Strides_knowledge b_Strides_knowledge 3 (some .int) rm_Strides_knowledge G [.ref h, .int p0] [(h, .inr (4, [.int d, .ref sa, .int u.1, .ref a_tk, .ref a_pl, .ref a_li, .ref a_st, .ref a_tr])), (sa, .inl (G.2 0, 4, .inl u.2.1)), (a_tk, .inl (G.2 1, 16, .inl u.2.2.1)), (a_pl, .inl (G.2 0, 16, .inl u.2.2.2.1)), (a_li, .inl (G.2 0, 16, .inl u.2.2.2.2.1)), (a_st, .inl (G.2 0, 16, .inl u.2.2.2.2.2.1)), (a_tr, .inl (G.2 0, 16, .inl u.2.2.2.2.2.2))] (fun (r : Int32) (_ : Unit) => v = r) (fun _ => [(h, .inr (4, [.int d, .ref sa, .int u.1, .ref a_tk, .ref a_pl, .ref a_li, .ref a_st, .ref a_tr])), (sa, .inl (G.2 0, 4, .inl u.2.1)), (a_tk, .inl (G.2 1, 16, .inl u.2.2.1)), (a_pl, .inl (G.2 0, 16, .inl u.2.2.2.1)), (a_li, .inl (G.2 0, 16, .inl u.2.2.2.2.1)), (a_st, .inl (G.2 0, 16, .inl u.2.2.2.2.2.1)), (a_tr, .inl (G.2 0, 16, .inl u.2.2.2.2.2.2))]) 0 0 := by
  refine CtI.of (by decide) (Nat.le_of_ble_eq_true rfl) [(0, .ref h), (1, .int p0)] rfl ?_
  intro p e s m args below meth c A ls Q hQ S hr hlocks F w hl
  have S : CallFix p m c b_Strides_knowledge 3 s args kx_T "PrefetchRules$Strides" := S
  obtain ⟨hx, hb, hml, hown, hts⟩ := id S
  have w : kx_W G A s ([(h, .inr (4, [.int d, .ref sa, .int u.1, .ref a_tk, .ref a_pl, .ref a_li, .ref a_st, .ref a_tr])), (sa, .inl (G.2 0, 4, .inl u.2.1)), (a_tk, .inl (G.2 1, 16, .inl u.2.2.1)), (a_pl, .inl (G.2 0, 16, .inl u.2.2.2.1)), (a_li, .inl (G.2 0, 16, .inl u.2.2.2.2.1)), (a_st, .inl (G.2 0, 16, .inl u.2.2.2.2.2.1)), (a_tr, .inl (G.2 0, 16, .inl u.2.2.2.2.2.2))] ++ []) s.heap [] := w
  unfold f_Strides_knowledge at hF
  refine lv_iload_n hx hb d_Strides_knowledge_0 rfl (lv_at hl 1 rfl) ?_
  obtain ⟨q1, hq1, hF⟩ := kx_bd hF
  refine kx_ci (cx := []) (wr := [(h, .inr (4, [.int d, .ref sa, .int u.1, .ref a_tk, .ref a_pl, .ref a_li, .ref a_st, .ref a_tr])), (sa, .inl (G.2 0, 4, .inl u.2.1)), (a_tk, .inl (G.2 1, 16, .inl u.2.2.1)), (a_pl, .inl (G.2 0, 16, .inl u.2.2.2.1)), (a_li, .inl (G.2 0, 16, .inl u.2.2.2.2.1)), (a_st, .inl (G.2 0, 16, .inl u.2.2.2.2.2.1)), (a_tr, .inl (G.2 0, 16, .inl u.2.2.2.2.2.2))]) F w [] [0, 1, 2, 3, 4, 5, 6] rfl rfl rfl (by decide) (va_runS (As := [.int p0]) (rest := []) S (c_Strides_rowOf l G p0 q1 hq1 _) (kx_cwS S ms_Strides_rowOf kw_5e2cdbf2bb ⟨rfl, rfl, Nat.le_of_ble_eq_true rfl, Nat.le_of_ble_eq_true rfl⟩) ⟨kx_blind _ _ _ _, kx_pre F w [] rfl rfl⟩ rfl rfl hl.1 rfl (lv_room (Nat.le_of_ble_eq_true rfl)) d_Strides_knowledge_1 ⟨Nat.le_of_ble_eq_true rfl, Nat.le_of_ble_eq_true rfl⟩) (fun r1 w1 H locs hp w => ?_)
  subst hp
  have w : kx_W G A s ([(h, .inr (4, [.int d, .ref sa, .int u.1, .ref a_tk, .ref a_pl, .ref a_li, .ref a_st, .ref a_tr])), (sa, .inl (G.2 0, 4, .inl u.2.1)), (a_tk, .inl (G.2 1, 16, .inl u.2.2.1)), (a_pl, .inl (G.2 0, 16, .inl u.2.2.2.1)), (a_li, .inl (G.2 0, 16, .inl u.2.2.2.2.1)), (a_st, .inl (G.2 0, 16, .inl u.2.2.2.2.2.1)), (a_tr, .inl (G.2 0, 16, .inl u.2.2.2.2.2.2))] ++ []) H locs := w
  refine lv_istore_n (lv' := [(2, .int q1), (0, .ref h), (1, .int p0)]) hx hb d_Strides_knowledge_4 rfl hl (by decide) rfl (fun ls hl => ?_)
  refine lv_aload_n hx hb d_Strides_knowledge_5 rfl (lv_at hl 1 rfl) ?_
  refine lv_iload_n hx hb d_Strides_knowledge_6 rfl (lv_at hl 0 rfl) ?_
  refine lv_iload_n hx hb d_Strides_knowledge_7 rfl (lv_at hl 2 rfl) ?_
  obtain ⟨q8, hq8, hF⟩ := kx_bd hF
  refine kx_ci (cx := [(h, .inr (4, [.int d, .ref sa, .int u.1, .ref a_tk, .ref a_pl, .ref a_li, .ref a_st, .ref a_tr])), (sa, .inl (G.2 0, 4, .inl u.2.1)), (a_tk, .inl (G.2 1, 16, .inl u.2.2.1)), (a_pl, .inl (G.2 0, 16, .inl u.2.2.2.1)), (a_li, .inl (G.2 0, 16, .inl u.2.2.2.2.1)), (a_st, .inl (G.2 0, 16, .inl u.2.2.2.2.2.1)), (a_tr, .inl (G.2 0, 16, .inl u.2.2.2.2.2.2))]) (wr := []) F w [0, 1, 2, 3, 4, 5, 6] [] rfl rfl rfl (by decide) (va_runV (As := [.int q1, .int p0]) (rest := []) S (c_Strides_isOwn l G h sa d a_tk a_pl a_li a_st a_tr u q1 p0 q8 hq8 _) (kx_cwV S mv_Strides_isOwn kw_221ef465e8 ⟨rfl, rfl, Nat.le_of_ble_eq_true rfl, Nat.le_of_ble_eq_true rfl⟩) ⟨kx_blind _ _ _ _, va_recv (q0 := 0) F.1.1 w.1 kc_Strides.1 rfl, kx_pre F w [0, 1, 2, 3, 4, 5, 6] rfl rfl⟩ rfl rfl hl.1 rfl (lv_room (Nat.le_of_ble_eq_true rfl)) d_Strides_knowledge_8 ⟨Nat.le_of_ble_eq_true rfl, Nat.le_of_ble_eq_true rfl⟩) (fun r8 w8 H locs hp w => ?_)
  subst hp
  have w : kx_W G A s ([(h, .inr (4, [.int d, .ref sa, .int u.1, .ref a_tk, .ref a_pl, .ref a_li, .ref a_st, .ref a_tr])), (sa, .inl (G.2 0, 4, .inl u.2.1)), (a_tk, .inl (G.2 1, 16, .inl u.2.2.1)), (a_pl, .inl (G.2 0, 16, .inl u.2.2.2.1)), (a_li, .inl (G.2 0, 16, .inl u.2.2.2.2.1)), (a_st, .inl (G.2 0, 16, .inl u.2.2.2.2.2.1)), (a_tr, .inl (G.2 0, 16, .inl u.2.2.2.2.2.2))] ++ []) H locs := w
  refine lv_if_eq (tgt := 23) hx hb d_Strides_knowledge_11 (by decide) (fun c11 => ?_) (fun c11 => ?_)
  · have hF := kx_t c11 hF
    refine lv_iconst (v := (0 : Int32)) hx hb d_Strides_knowledge_23 (by decide) ?_
    obtain rfl := Option.some.inj hF
    exact kx_iret hQ S hr hlocks w (xo := [(h, .inr (4, [.int d, .ref sa, .int u.1, .ref a_tk, .ref a_pl, .ref a_li, .ref a_st, .ref a_tr])), (sa, .inl (G.2 0, 4, .inl u.2.1)), (a_tk, .inl (G.2 1, 16, .inl u.2.2.1)), (a_pl, .inl (G.2 0, 16, .inl u.2.2.2.1)), (a_li, .inl (G.2 0, 16, .inl u.2.2.2.2.1)), (a_st, .inl (G.2 0, 16, .inl u.2.2.2.2.2.1)), (a_tr, .inl (G.2 0, 16, .inl u.2.2.2.2.2.2))]) [0, 1, 2, 3, 4, 5, 6] rfl rfl () rfl rfl d_Strides_knowledge_24
  · have hF := kx_f c11 hF
    refine lv_aload_n hx hb d_Strides_knowledge_14 rfl (lv_at hl 1 rfl) ?_
    refine kx_get S F w kc_Strides 0 rfl 6 (by decide) kw_0860e4f42b rfl d_Strides_knowledge_15 ?_
    refine lv_iload_n hx hb d_Strides_knowledge_18 rfl (lv_at hl 0 rfl) ?_
    obtain ⟨hi19, hF⟩ := kx_ar hF
    refine kx_iald S F w 5 rfl hi19 d_Strides_knowledge_19 ?_
    refine lv_goto (tgt := 24) hx hb d_Strides_knowledge_20 (by decide) ?_
    obtain rfl := Option.some.inj hF
    exact kx_iret hQ S hr hlocks w (xo := [(h, .inr (4, [.int d, .ref sa, .int u.1, .ref a_tk, .ref a_pl, .ref a_li, .ref a_st, .ref a_tr])), (sa, .inl (G.2 0, 4, .inl u.2.1)), (a_tk, .inl (G.2 1, 16, .inl u.2.2.1)), (a_pl, .inl (G.2 0, 16, .inl u.2.2.2.1)), (a_li, .inl (G.2 0, 16, .inl u.2.2.2.2.1)), (a_st, .inl (G.2 0, 16, .inl u.2.2.2.2.2.1)), (a_tr, .inl (G.2 0, 16, .inl u.2.2.2.2.2.2))]) [0, 1, 2, 3, 4, 5, 6] rfl rfl () rfl rfl d_Strides_knowledge_24
/-! Strides_confidence -/
def f_Strides_confidence (d : Int32) (u : sg_strides) (p0 : Int32) : Option (Int32) := (f_Strides_rowOf p0).bind (fun q1 => (f_Strides_isOwn d u q1 p0).bind (fun q8 => (if q8 = 0 then some (0 : Int32) else (if (q1 < 0 ∨ 16 ≤ q1.toNatClampNeg) then none else some (u.2.2.2.2.2.2 q1.toNatClampNeg)))))
def rm_Strides_confidence : Room := { frames := 2, cells := 0, slots := 0, locals := 44 }
set_option maxRecDepth 100000 in
set_option maxHeartbeats 4000000 in
theorem c_Strides_confidence (l : Launch) (G : kx_G) (h : Nat) (sa : Nat) (d : Int32) (a_tk : Nat) (a_pl : Nat) (a_li : Nat) (a_st : Nat) (a_tr : Nat) (u : sg_strides) (p0 : Int32) (v : Int32) (hF : f_Strides_confidence d u p0 = some v) : CtI l y_Strides_confidence b_Strides_confidence 3 (some .int) rm_Strides_confidence G [.ref h, .int p0] [(h, .inr (4, [.int d, .ref sa, .int u.1, .ref a_tk, .ref a_pl, .ref a_li, .ref a_st, .ref a_tr])), (sa, .inl (G.2 0, 4, .inl u.2.1)), (a_tk, .inl (G.2 1, 16, .inl u.2.2.1)), (a_pl, .inl (G.2 0, 16, .inl u.2.2.2.1)), (a_li, .inl (G.2 0, 16, .inl u.2.2.2.2.1)), (a_st, .inl (G.2 0, 16, .inl u.2.2.2.2.2.1)), (a_tr, .inl (G.2 0, 16, .inl u.2.2.2.2.2.2))] (fun (r : Int32) (_ : Unit) => v = r) (fun _ => [(h, .inr (4, [.int d, .ref sa, .int u.1, .ref a_tk, .ref a_pl, .ref a_li, .ref a_st, .ref a_tr])), (sa, .inl (G.2 0, 4, .inl u.2.1)), (a_tk, .inl (G.2 1, 16, .inl u.2.2.1)), (a_pl, .inl (G.2 0, 16, .inl u.2.2.2.1)), (a_li, .inl (G.2 0, 16, .inl u.2.2.2.2.1)), (a_st, .inl (G.2 0, 16, .inl u.2.2.2.2.2.1)), (a_tr, .inl (G.2 0, 16, .inl u.2.2.2.2.2.2))]) 0 0 := by
  refine CtI.of (by decide) (Nat.le_of_ble_eq_true rfl) [(0, .ref h), (1, .int p0)] rfl ?_
  intro p e s m args below meth c A ls Q hQ S hr hlocks F w hl
  have S : CallFix p m c b_Strides_confidence 3 s args kx_T "PrefetchRules$Strides" := S
  obtain ⟨hx, hb, hml, hown, hts⟩ := id S
  have w : kx_W G A s ([(h, .inr (4, [.int d, .ref sa, .int u.1, .ref a_tk, .ref a_pl, .ref a_li, .ref a_st, .ref a_tr])), (sa, .inl (G.2 0, 4, .inl u.2.1)), (a_tk, .inl (G.2 1, 16, .inl u.2.2.1)), (a_pl, .inl (G.2 0, 16, .inl u.2.2.2.1)), (a_li, .inl (G.2 0, 16, .inl u.2.2.2.2.1)), (a_st, .inl (G.2 0, 16, .inl u.2.2.2.2.2.1)), (a_tr, .inl (G.2 0, 16, .inl u.2.2.2.2.2.2))] ++ []) s.heap [] := w
  unfold f_Strides_confidence at hF
  refine lv_iload_n hx hb d_Strides_confidence_0 rfl (lv_at hl 1 rfl) ?_
  obtain ⟨q1, hq1, hF⟩ := kx_bd hF
  refine kx_ci (cx := []) (wr := [(h, .inr (4, [.int d, .ref sa, .int u.1, .ref a_tk, .ref a_pl, .ref a_li, .ref a_st, .ref a_tr])), (sa, .inl (G.2 0, 4, .inl u.2.1)), (a_tk, .inl (G.2 1, 16, .inl u.2.2.1)), (a_pl, .inl (G.2 0, 16, .inl u.2.2.2.1)), (a_li, .inl (G.2 0, 16, .inl u.2.2.2.2.1)), (a_st, .inl (G.2 0, 16, .inl u.2.2.2.2.2.1)), (a_tr, .inl (G.2 0, 16, .inl u.2.2.2.2.2.2))]) F w [] [0, 1, 2, 3, 4, 5, 6] rfl rfl rfl (by decide) (va_runS (As := [.int p0]) (rest := []) S (c_Strides_rowOf l G p0 q1 hq1 _) (kx_cwS S ms_Strides_rowOf kw_5e2cdbf2bb ⟨rfl, rfl, Nat.le_of_ble_eq_true rfl, Nat.le_of_ble_eq_true rfl⟩) ⟨kx_blind _ _ _ _, kx_pre F w [] rfl rfl⟩ rfl rfl hl.1 rfl (lv_room (Nat.le_of_ble_eq_true rfl)) d_Strides_confidence_1 ⟨Nat.le_of_ble_eq_true rfl, Nat.le_of_ble_eq_true rfl⟩) (fun r1 w1 H locs hp w => ?_)
  subst hp
  have w : kx_W G A s ([(h, .inr (4, [.int d, .ref sa, .int u.1, .ref a_tk, .ref a_pl, .ref a_li, .ref a_st, .ref a_tr])), (sa, .inl (G.2 0, 4, .inl u.2.1)), (a_tk, .inl (G.2 1, 16, .inl u.2.2.1)), (a_pl, .inl (G.2 0, 16, .inl u.2.2.2.1)), (a_li, .inl (G.2 0, 16, .inl u.2.2.2.2.1)), (a_st, .inl (G.2 0, 16, .inl u.2.2.2.2.2.1)), (a_tr, .inl (G.2 0, 16, .inl u.2.2.2.2.2.2))] ++ []) H locs := w
  refine lv_istore_n (lv' := [(2, .int q1), (0, .ref h), (1, .int p0)]) hx hb d_Strides_confidence_4 rfl hl (by decide) rfl (fun ls hl => ?_)
  refine lv_aload_n hx hb d_Strides_confidence_5 rfl (lv_at hl 1 rfl) ?_
  refine lv_iload_n hx hb d_Strides_confidence_6 rfl (lv_at hl 0 rfl) ?_
  refine lv_iload_n hx hb d_Strides_confidence_7 rfl (lv_at hl 2 rfl) ?_
  obtain ⟨q8, hq8, hF⟩ := kx_bd hF
  refine kx_ci (cx := [(h, .inr (4, [.int d, .ref sa, .int u.1, .ref a_tk, .ref a_pl, .ref a_li, .ref a_st, .ref a_tr])), (sa, .inl (G.2 0, 4, .inl u.2.1)), (a_tk, .inl (G.2 1, 16, .inl u.2.2.1)), (a_pl, .inl (G.2 0, 16, .inl u.2.2.2.1)), (a_li, .inl (G.2 0, 16, .inl u.2.2.2.2.1)), (a_st, .inl (G.2 0, 16, .inl u.2.2.2.2.2.1)), (a_tr, .inl (G.2 0, 16, .inl u.2.2.2.2.2.2))]) (wr := []) F w [0, 1, 2, 3, 4, 5, 6] [] rfl rfl rfl (by decide) (va_runV (As := [.int q1, .int p0]) (rest := []) S (c_Strides_isOwn l G h sa d a_tk a_pl a_li a_st a_tr u q1 p0 q8 hq8 _) (kx_cwV S mv_Strides_isOwn kw_221ef465e8 ⟨rfl, rfl, Nat.le_of_ble_eq_true rfl, Nat.le_of_ble_eq_true rfl⟩) ⟨kx_blind _ _ _ _, va_recv (q0 := 0) F.1.1 w.1 kc_Strides.1 rfl, kx_pre F w [0, 1, 2, 3, 4, 5, 6] rfl rfl⟩ rfl rfl hl.1 rfl (lv_room (Nat.le_of_ble_eq_true rfl)) d_Strides_confidence_8 ⟨Nat.le_of_ble_eq_true rfl, Nat.le_of_ble_eq_true rfl⟩) (fun r8 w8 H locs hp w => ?_)
  subst hp
  have w : kx_W G A s ([(h, .inr (4, [.int d, .ref sa, .int u.1, .ref a_tk, .ref a_pl, .ref a_li, .ref a_st, .ref a_tr])), (sa, .inl (G.2 0, 4, .inl u.2.1)), (a_tk, .inl (G.2 1, 16, .inl u.2.2.1)), (a_pl, .inl (G.2 0, 16, .inl u.2.2.2.1)), (a_li, .inl (G.2 0, 16, .inl u.2.2.2.2.1)), (a_st, .inl (G.2 0, 16, .inl u.2.2.2.2.2.1)), (a_tr, .inl (G.2 0, 16, .inl u.2.2.2.2.2.2))] ++ []) H locs := w
  refine lv_if_eq (tgt := 23) hx hb d_Strides_confidence_11 (by decide) (fun c11 => ?_) (fun c11 => ?_)
  · have hF := kx_t c11 hF
    refine lv_iconst (v := (0 : Int32)) hx hb d_Strides_confidence_23 (by decide) ?_
    obtain rfl := Option.some.inj hF
    exact kx_iret hQ S hr hlocks w (xo := [(h, .inr (4, [.int d, .ref sa, .int u.1, .ref a_tk, .ref a_pl, .ref a_li, .ref a_st, .ref a_tr])), (sa, .inl (G.2 0, 4, .inl u.2.1)), (a_tk, .inl (G.2 1, 16, .inl u.2.2.1)), (a_pl, .inl (G.2 0, 16, .inl u.2.2.2.1)), (a_li, .inl (G.2 0, 16, .inl u.2.2.2.2.1)), (a_st, .inl (G.2 0, 16, .inl u.2.2.2.2.2.1)), (a_tr, .inl (G.2 0, 16, .inl u.2.2.2.2.2.2))]) [0, 1, 2, 3, 4, 5, 6] rfl rfl () rfl rfl d_Strides_confidence_24
  · have hF := kx_f c11 hF
    refine lv_aload_n hx hb d_Strides_confidence_14 rfl (lv_at hl 1 rfl) ?_
    refine kx_get S F w kc_Strides 0 rfl 7 (by decide) kw_e88e72f25f rfl d_Strides_confidence_15 ?_
    refine lv_iload_n hx hb d_Strides_confidence_18 rfl (lv_at hl 0 rfl) ?_
    obtain ⟨hi19, hF⟩ := kx_ar hF
    refine kx_iald S F w 6 rfl hi19 d_Strides_confidence_19 ?_
    refine lv_goto (tgt := 24) hx hb d_Strides_confidence_20 (by decide) ?_
    obtain rfl := Option.some.inj hF
    exact kx_iret hQ S hr hlocks w (xo := [(h, .inr (4, [.int d, .ref sa, .int u.1, .ref a_tk, .ref a_pl, .ref a_li, .ref a_st, .ref a_tr])), (sa, .inl (G.2 0, 4, .inl u.2.1)), (a_tk, .inl (G.2 1, 16, .inl u.2.2.1)), (a_pl, .inl (G.2 0, 16, .inl u.2.2.2.1)), (a_li, .inl (G.2 0, 16, .inl u.2.2.2.2.1)), (a_st, .inl (G.2 0, 16, .inl u.2.2.2.2.2.1)), (a_tr, .inl (G.2 0, 16, .inl u.2.2.2.2.2.2))]) [0, 1, 2, 3, 4, 5, 6] rfl rfl () rfl rfl d_Strides_confidence_24
/-! Streams_wayTo -/
def f_Streams_wayTo (p0 : Int32) : Option (Int32) := (if p0 < (1 : Int32) then (if (-1 : Int32) < p0 then some (0 : Int32) else (if p0 < (-2 : Int32) then some (0 : Int32) else some (-1 : Int32))) else (if (2 : Int32) < p0 then (if (-1 : Int32) < p0 then some (0 : Int32) else (if p0 < (-2 : Int32) then some (0 : Int32) else some (-1 : Int32))) else some (1 : Int32)))
def rm_Streams_wayTo : Room := { frames := 0, cells := 0, slots := 0, locals := 0 }
set_option maxRecDepth 100000 in
set_option maxHeartbeats 4000000 in
theorem c_Streams_wayTo (l : Launch) (G : kx_G) (p0 : Int32) (v : Int32) (hF : f_Streams_wayTo p0 = some v) : CtI l y_Streams_wayTo b_Streams_wayTo 1 (some .int) rm_Streams_wayTo G [.int p0] [] (fun (r : Int32) (_ : Unit) => v = r) (fun _ => []) 0 0 := by
  refine CtI.of (by decide) (Nat.le_of_ble_eq_true rfl) [(0, .int p0)] rfl ?_
  intro p e s m args below meth c A ls Q hQ S hr hlocks F w hl
  have S : CallFix p m c b_Streams_wayTo 1 s args kx_T "PrefetchRules$Streams" := S
  obtain ⟨hx, hb, hml, hown, hts⟩ := id S
  have w : kx_W G A s ([] ++ []) s.heap [] := w
  unfold f_Streams_wayTo at hF
  refine lv_iload_n hx hb d_Streams_wayTo_0 rfl (lv_at hl 0 rfl) ?_
  refine lv_iconst (v := (1 : Int32)) hx hb d_Streams_wayTo_1 (by decide) ?_
  refine lv_icmp_lt (tgt := 12) hx hb d_Streams_wayTo_2 (by decide) (fun c2 => ?_) (fun c2 => ?_)
  · have hF := kx_t c2 hF
    refine lv_iload_n hx hb d_Streams_wayTo_12 rfl (lv_at hl 0 rfl) ?_
    refine lv_iconst (v := (-1 : Int32)) hx hb d_Streams_wayTo_13 (by decide) ?_
    refine lv_icmp_gt (tgt := 27) hx hb d_Streams_wayTo_14 (by decide) (fun c14 => ?_) (fun c14 => ?_)
    · have hF := kx_t c14 hF
      refine lv_iconst (v := (0 : Int32)) hx hb d_Streams_wayTo_27 (by decide) ?_
      obtain rfl := Option.some.inj hF
      exact kx_iret hQ S hr hlocks w (xo := []) [] rfl rfl () rfl rfl d_Streams_wayTo_28
    · have hF := kx_f c14 hF
      refine lv_iload_n hx hb d_Streams_wayTo_17 rfl (lv_at hl 0 rfl) ?_
      refine lv_bipush (v := (-2 : Int32)) hx hb d_Streams_wayTo_18 (by decide) ?_
      refine lv_icmp_lt (tgt := 27) hx hb d_Streams_wayTo_20 (by decide) (fun c20 => ?_) (fun c20 => ?_)
      · have hF := kx_t c20 hF
        refine lv_iconst (v := (0 : Int32)) hx hb d_Streams_wayTo_27 (by decide) ?_
        obtain rfl := Option.some.inj hF
        exact kx_iret hQ S hr hlocks w (xo := []) [] rfl rfl () rfl rfl d_Streams_wayTo_28
      · have hF := kx_f c20 hF
        refine lv_iconst (v := (-1 : Int32)) hx hb d_Streams_wayTo_23 (by decide) ?_
        refine lv_goto (tgt := 28) hx hb d_Streams_wayTo_24 (by decide) ?_
        obtain rfl := Option.some.inj hF
        exact kx_iret hQ S hr hlocks w (xo := []) [] rfl rfl () rfl rfl d_Streams_wayTo_28
  · have hF := kx_f c2 hF
    refine lv_iload_n hx hb d_Streams_wayTo_5 rfl (lv_at hl 0 rfl) ?_
    refine lv_iconst (v := (2 : Int32)) hx hb d_Streams_wayTo_6 (by decide) ?_
    refine lv_icmp_gt (tgt := 12) hx hb d_Streams_wayTo_7 (by decide) (fun c7 => ?_) (fun c7 => ?_)
    · have hF := kx_t c7 hF
      refine lv_iload_n hx hb d_Streams_wayTo_12 rfl (lv_at hl 0 rfl) ?_
      refine lv_iconst (v := (-1 : Int32)) hx hb d_Streams_wayTo_13 (by decide) ?_
      refine lv_icmp_gt (tgt := 27) hx hb d_Streams_wayTo_14 (by decide) (fun c14 => ?_) (fun c14 => ?_)
      · have hF := kx_t c14 hF
        refine lv_iconst (v := (0 : Int32)) hx hb d_Streams_wayTo_27 (by decide) ?_
        obtain rfl := Option.some.inj hF
        exact kx_iret hQ S hr hlocks w (xo := []) [] rfl rfl () rfl rfl d_Streams_wayTo_28
      · have hF := kx_f c14 hF
        refine lv_iload_n hx hb d_Streams_wayTo_17 rfl (lv_at hl 0 rfl) ?_
        refine lv_bipush (v := (-2 : Int32)) hx hb d_Streams_wayTo_18 (by decide) ?_
        refine lv_icmp_lt (tgt := 27) hx hb d_Streams_wayTo_20 (by decide) (fun c20 => ?_) (fun c20 => ?_)
        · have hF := kx_t c20 hF
          refine lv_iconst (v := (0 : Int32)) hx hb d_Streams_wayTo_27 (by decide) ?_
          obtain rfl := Option.some.inj hF
          exact kx_iret hQ S hr hlocks w (xo := []) [] rfl rfl () rfl rfl d_Streams_wayTo_28
        · have hF := kx_f c20 hF
          refine lv_iconst (v := (-1 : Int32)) hx hb d_Streams_wayTo_23 (by decide) ?_
          refine lv_goto (tgt := 28) hx hb d_Streams_wayTo_24 (by decide) ?_
          obtain rfl := Option.some.inj hF
          exact kx_iret hQ S hr hlocks w (xo := []) [] rfl rfl () rfl rfl d_Streams_wayTo_28
    · have hF := kx_f c7 hF
      refine lv_iconst (v := (1 : Int32)) hx hb d_Streams_wayTo_10 (by decide) ?_
      obtain rfl := Option.some.inj hF
      exact kx_iret hQ S hr hlocks w (xo := []) [] rfl rfl () rfl rfl d_Streams_wayTo_11
/-! Streams_moveInFront -/
def lp_Streams_moveInFront_8 (d : Int32) : Nat → Int32 → Int32 → Int32 → Int32 → sg_streams → Option (sg_streams)
  | 0, _, _, _, _, _ => none
  | n8 + 1, x1, x2, x3, x4, u8 => (if x4 ≤ 0 then (if ((0 : Int32) < 0 ∨ 8 ≤ (0 : Int32).toNatClampNeg) then none else (if ((0 : Int32) < 0 ∨ 8 ≤ (0 : Int32).toNatClampNeg) then none else some (u8.1, u8.2.1, upd u8.2.2.1 (0 : Int32).toNatClampNeg x2, upd u8.2.2.2.1 (0 : Int32).toNatClampNeg x3, u8.2.2.2.2))) else (if ((x4 - (1 : Int32)) < 0 ∨ 8 ≤ (x4 - (1 : Int32)).toNatClampNeg) then none else (if (x4 < 0 ∨ 8 ≤ x4.toNatClampNeg) then none else (if ((x4 - (1 : Int32)) < 0 ∨ 8 ≤ (x4 - (1 : Int32)).toNatClampNeg) then none else (if (x4 < 0 ∨ 8 ≤ x4.toNatClampNeg) then none else lp_Streams_moveInFront_8 d n8 x1 x2 x3 (x4 + (-1)) (u8.1, u8.2.1, upd u8.2.2.1 x4.toNatClampNeg (u8.2.2.1 (x4 - (1 : Int32)).toNatClampNeg), upd u8.2.2.2.1 x4.toNatClampNeg (u8.2.2.2.1 (x4 - (1 : Int32)).toNatClampNeg), u8.2.2.2.2))))))
def f_Streams_moveInFront (d : Int32) (u : sg_streams) (p0 : Int32) (p1 : Int32) (p2 : Int32) : Option (sg_streams) := lp_Streams_moveInFront_8 d 1000 p0 p1 p2 (if (7 : Int32) < p0 then (7 : Int32) else p0) u
def rm_Streams_moveInFront : Room := { frames := 1, cells := 0, slots := 0, locals := 21 }
set_option maxRecDepth 100000 in
set_option maxHeartbeats 4000000 in
theorem c_Streams_moveInFront (l : Launch) (G : kx_G) (h : Nat) (sa : Nat) (d : Int32) (a_li : Nat) (a_wy : Nat) (u : sg_streams) (p0 : Int32) (p1 : Int32) (p2 : Int32) (v : sg_streams) (hF : f_Streams_moveInFront d u p0 p1 p2 = some v) : CtV l y_Streams_moveInFront b_Streams_moveInFront 5 rm_Streams_moveInFront G [.ref h, .int p0, .int p1, .int p2] [(h, .inr (5, [.int d, .ref sa, .int u.1, .ref a_li, .ref a_wy, .int u.2.2.2.2])), (sa, .inl (G.2 0, 4, .inl u.2.1)), (a_li, .inl (G.2 0, 8, .inl u.2.2.1)), (a_wy, .inl (G.2 0, 8, .inl u.2.2.2.1))] (fun w : sg_streams => v = w) (fun w => [(h, .inr (5, [.int d, .ref sa, .int w.1, .ref a_li, .ref a_wy, .int w.2.2.2.2])), (sa, .inl (G.2 0, 4, .inl w.2.1)), (a_li, .inl (G.2 0, 8, .inl w.2.2.1)), (a_wy, .inl (G.2 0, 8, .inl w.2.2.2.1))]) 0 0 := by
  refine CtV.of (by decide) (Nat.le_of_ble_eq_true rfl) [(0, .ref h), (1, .int p0), (2, .int p1), (3, .int p2)] rfl ?_
  intro p e s m args below meth c A ls Q hQ S hr hlocks hin F w hl
  have S : CallFix p m c b_Streams_moveInFront 5 s args kx_T "PrefetchRules$Streams" := S
  obtain ⟨hx, hb, hml, hown, hts⟩ := id S
  have w : kx_W G A s ([(h, .inr (5, [.int d, .ref sa, .int u.1, .ref a_li, .ref a_wy, .int u.2.2.2.2])), (sa, .inl (G.2 0, 4, .inl u.2.1)), (a_li, .inl (G.2 0, 8, .inl u.2.2.1)), (a_wy, .inl (G.2 0, 8, .inl u.2.2.2.1))] ++ []) s.heap [] := w
  unfold f_Streams_moveInFront at hF
  refine lv_iload_n hx hb d_Streams_moveInFront_0 rfl (lv_at hl 1 rfl) ?_
  refine lv_bipush (v := (7 : Int32)) hx hb d_Streams_moveInFront_1 (by decide) ?_
  refine va_mmin hx hb (by rw [hml]; exact hl.1.symm) hown (hts _ kw_2c87e6da3b) (hts _ kw_86f19dd951) (hts _ kw_ae09fe6d2e) (hts _ kw_45c1916403) (Nat.le_of_ble_eq_true rfl) (Nat.le_of_ble_eq_true rfl) (Nat.zero_le _) (Nat.zero_le _) d_Streams_moveInFront_3 ?_
  refine lv_istore (lv' := [(4, .int (if (7 : Int32) < p0 then (7 : Int32) else p0)), (0, .ref h), (1, .int p0), (2, .int p1), (3, .int p2)]) hx hb d_Streams_moveInFront_6 hl (by decide) rfl (fun ls hl => ?_)
  have L8 : ∀ (n8 : Nat) (x1 : Int32) (x2 : Int32) (x3 : Int32) (x4 : Int32) (u8 : sg_streams), lp_Streams_moveInFront_8 d n8 x1 x2 x3 x4 u8 = some v → ∀ (H : Heap) (locs : List Loc) (ls : Array Slot), kx_W G A s ([(h, .inr (5, [.int d, .ref sa, .int u8.1, .ref a_li, .ref a_wy, .int u8.2.2.2.2])), (sa, .inl (G.2 0, 4, .inl u8.2.1)), (a_li, .inl (G.2 0, 8, .inl u8.2.2.1)), (a_wy, .inl (G.2 0, 8, .inl u8.2.2.2.1))] ++ []) H locs → lv_has ls 5 [(0, .ref h), (1, .int x1), (2, .int x2), (3, .int x3), (4, .int x4)] → W p l e rm_Streams_moveInFront s m args below meth c H locs 0 0 Q (F0 m 8 ls []) := by
    intro n8
    induction n8 with
    | zero =>
      intro x1 x2 x3 x4 u8 hF
      rw [lp_Streams_moveInFront_8] at hF
      cases hF
    | succ n8 ih8 =>
      intro x1 x2 x3 x4 u8 hF H locs ls w hl
      rw [lp_Streams_moveInFront_8] at hF
      refine lv_iload hx hb d_Streams_moveInFront_8 (lv_at hl 4 rfl) ?_
      refine lv_if_le (tgt := 51) hx hb d_Streams_moveInFront_10 (by decide) (fun c10 => ?_) (fun c10 => ?_)
      · have hF := kx_t c10 hF
        refine lv_aload_n hx hb d_Streams_moveInFront_51 rfl (lv_at hl 0 rfl) ?_
        refine kx_get S F w kc_Streams 0 rfl 3 (by decide) kw_e81286a8b8 rfl d_Streams_moveInFront_52 ?_
        refine lv_iconst (v := (0 : Int32)) hx hb d_Streams_moveInFront_55 (by decide) ?_
        refine lv_iload_n hx hb d_Streams_moveInFront_56 rfl (lv_at hl 2 rfl) ?_
        obtain ⟨hi57, hF⟩ := kx_ar hF
        refine kx_iast S F w 2 rfl hi57 d_Streams_moveInFront_57 (fun H locs w => ?_)
        have w : kx_W G A s ([(h, .inr (5, [.int d, .ref sa, .int u8.1, .ref a_li, .ref a_wy, .int u8.2.2.2.2])), (sa, .inl (G.2 0, 4, .inl u8.2.1)), (a_li, .inl (G.2 0, 8, .inl (upd u8.2.2.1 (0 : Int32).toNatClampNeg x2))), (a_wy, .inl (G.2 0, 8, .inl u8.2.2.2.1))] ++ []) H locs := w
        refine lv_aload_n hx hb d_Streams_moveInFront_58 rfl (lv_at hl 0 rfl) ?_
        refine kx_get S F w kc_Streams 0 rfl 4 (by decide) kw_f75e26bc13 rfl d_Streams_moveInFront_59 ?_
        refine lv_iconst (v := (0 : Int32)) hx hb d_Streams_moveInFront_62 (by decide) ?_
        refine lv_iload_n hx hb d_Streams_moveInFront_63 rfl (lv_at hl 3 rfl) ?_
        obtain ⟨hi64, hF⟩ := kx_ar hF
        refine kx_iast S F w 3 rfl hi64 d_Streams_moveInFront_64 (fun H locs w => ?_)
        have w : kx_W G A s ([(h, .inr (5, [.int d, .ref sa, .int u8.1, .ref a_li, .ref a_wy, .int u8.2.2.2.2])), (sa, .inl (G.2 0, 4, .inl u8.2.1)), (a_li, .inl (G.2 0, 8, .inl (upd u8.2.2.1 (0 : Int32).toNatClampNeg x2))), (a_wy, .inl (G.2 0, 8, .inl (upd u8.2.2.2.1 (0 : Int32).toNatClampNeg x3)))] ++ []) H locs := w
        obtain rfl := Option.some.inj hF
        exact kx_vret hQ S hr hlocks w (xo := [(h, .inr (5, [.int d, .ref sa, .int u8.1, .ref a_li, .ref a_wy, .int u8.2.2.2.2])), (sa, .inl (G.2 0, 4, .inl u8.2.1)), (a_li, .inl (G.2 0, 8, .inl (upd u8.2.2.1 (0 : Int32).toNatClampNeg x2))), (a_wy, .inl (G.2 0, 8, .inl (upd u8.2.2.2.1 (0 : Int32).toNatClampNeg x3)))]) [0, 1, 2, 3] rfl rfl (u8.1, u8.2.1, upd u8.2.2.1 (0 : Int32).toNatClampNeg x2, upd u8.2.2.2.1 (0 : Int32).toNatClampNeg x3, u8.2.2.2.2) rfl rfl d_Streams_moveInFront_65
      · have hF := kx_f c10 hF
        refine lv_aload_n hx hb d_Streams_moveInFront_13 rfl (lv_at hl 0 rfl) ?_
        refine kx_get S F w kc_Streams 0 rfl 3 (by decide) kw_e81286a8b8 rfl d_Streams_moveInFront_14 ?_
        refine lv_iload hx hb d_Streams_moveInFront_17 (lv_at hl 4 rfl) ?_
        refine lv_aload_n hx hb d_Streams_moveInFront_19 rfl (lv_at hl 0 rfl) ?_
        refine kx_get S F w kc_Streams 0 rfl 3 (by decide) kw_e81286a8b8 rfl d_Streams_moveInFront_20 ?_
        refine lv_iload hx hb d_Streams_moveInFront_23 (lv_at hl 4 rfl) ?_
        refine lv_iconst (v := (1 : Int32)) hx hb d_Streams_moveInFront_25 (by decide) ?_
        refine lv_isub hx hb d_Streams_moveInFront_26 ?_
        obtain ⟨hi27, hF⟩ := kx_ar hF
        refine kx_iald S F w 2 rfl hi27 d_Streams_moveInFront_27 ?_
        obtain ⟨hi28, hF⟩ := kx_ar hF
        refine kx_iast S F w 2 rfl hi28 d_Streams_moveInFront_28 (fun H locs w => ?_)
        have w : kx_W G A s ([(h, .inr (5, [.int d, .ref sa, .int u8.1, .ref a_li, .ref a_wy, .int u8.2.2.2.2])), (sa, .inl (G.2 0, 4, .inl u8.2.1)), (a_li, .inl (G.2 0, 8, .inl (upd u8.2.2.1 x4.toNatClampNeg (u8.2.2.1 (x4 - (1 : Int32)).toNatClampNeg)))), (a_wy, .inl (G.2 0, 8, .inl u8.2.2.2.1))] ++ []) H locs := w
        refine lv_aload_n hx hb d_Streams_moveInFront_29 rfl (lv_at hl 0 rfl) ?_
        refine kx_get S F w kc_Streams 0 rfl 4 (by decide) kw_f75e26bc13 rfl d_Streams_moveInFront_30 ?_
        refine lv_iload hx hb d_Streams_moveInFront_33 (lv_at hl 4 rfl) ?_
        refine lv_aload_n hx hb d_Streams_moveInFront_35 rfl (lv_at hl 0 rfl) ?_
        refine kx_get S F w kc_Streams 0 rfl 4 (by decide) kw_f75e26bc13 rfl d_Streams_moveInFront_36 ?_
        refine lv_iload hx hb d_Streams_moveInFront_39 (lv_at hl 4 rfl) ?_
        refine lv_iconst (v := (1 : Int32)) hx hb d_Streams_moveInFront_41 (by decide) ?_
        refine lv_isub hx hb d_Streams_moveInFront_42 ?_
        obtain ⟨hi43, hF⟩ := kx_ar hF
        refine kx_iald S F w 3 rfl hi43 d_Streams_moveInFront_43 ?_
        obtain ⟨hi44, hF⟩ := kx_ar hF
        refine kx_iast S F w 3 rfl hi44 d_Streams_moveInFront_44 (fun H locs w => ?_)
        have w : kx_W G A s ([(h, .inr (5, [.int d, .ref sa, .int u8.1, .ref a_li, .ref a_wy, .int u8.2.2.2.2])), (sa, .inl (G.2 0, 4, .inl u8.2.1)), (a_li, .inl (G.2 0, 8, .inl (upd u8.2.2.1 x4.toNatClampNeg (u8.2.2.1 (x4 - (1 : Int32)).toNatClampNeg)))), (a_wy, .inl (G.2 0, 8, .inl (upd u8.2.2.2.1 x4.toNatClampNeg (u8.2.2.2.1 (x4 - (1 : Int32)).toNatClampNeg))))] ++ []) H locs := w
        refine lv_iinc (v := x4 + (-1)) (lv' := [(4, .int (x4 + (-1))), (0, .ref h), (1, .int x1), (2, .int x2), (3, .int x3)]) hx hb d_Streams_moveInFront_45 hl (k := 4) rfl (by rfl) (by decide) rfl (fun ls hl => ?_)
        refine lv_goto (tgt := 8) hx hb d_Streams_moveInFront_48 (by decide) ?_
        exact ih8 x1 x2 x3 (x4 + (-1)) (u8.1, u8.2.1, upd u8.2.2.1 x4.toNatClampNeg (u8.2.2.1 (x4 - (1 : Int32)).toNatClampNeg), upd u8.2.2.2.1 x4.toNatClampNeg (u8.2.2.2.1 (x4 - (1 : Int32)).toNatClampNeg), u8.2.2.2.2) hF H locs ls (w.perm [0, 1, 2, 3] rfl rfl) (lv_sub hl [1, 2, 3, 4, 0] rfl)
  exact L8 1000 p0 p1 p2 (if (7 : Int32) < p0 then (7 : Int32) else p0) u hF s.heap [] ls (w.perm [0, 1, 2, 3] rfl rfl) (lv_sub hl [1, 2, 3, 4, 0] rfl)
/-! Streams_begin -/
def f_Streams_begin (d : Int32) (u : sg_streams) (p0 : Int32) : Option (sg_streams) := (if (8 : Int32) ≤ u.2.2.2.2 then (f_Streams_moveInFront d u (u.2.2.2.2 - (1 : Int32)) p0 (0 : Int32)).bind (fun q28 => some q28) else (f_Streams_moveInFront d (u.1, u.2.1, u.2.2.1, u.2.2.2.1, u.2.2.2.2 + (1 : Int32)) ((u.2.2.2.2 + (1 : Int32)) - (1 : Int32)) p0 (0 : Int32)).bind (fun q28 => some q28))
def rm_Streams_begin : Room := { frames := 2, cells := 0, slots := 0, locals := 45 }
set_option maxRecDepth 100000 in
set_option maxHeartbeats 4000000 in
theorem c_Streams_begin (l : Launch) (G : kx_G) (h : Nat) (sa : Nat) (d : Int32) (a_li : Nat) (a_wy : Nat) (u : sg_streams) (p0 : Int32) (v : sg_streams) (hF : f_Streams_begin d u p0 = some v) : CtV l y_Streams_begin b_Streams_begin 2 rm_Streams_begin G [.ref h, .int p0] [(h, .inr (5, [.int d, .ref sa, .int u.1, .ref a_li, .ref a_wy, .int u.2.2.2.2])), (sa, .inl (G.2 0, 4, .inl u.2.1)), (a_li, .inl (G.2 0, 8, .inl u.2.2.1)), (a_wy, .inl (G.2 0, 8, .inl u.2.2.2.1))] (fun w : sg_streams => v = w) (fun w => [(h, .inr (5, [.int d, .ref sa, .int w.1, .ref a_li, .ref a_wy, .int w.2.2.2.2])), (sa, .inl (G.2 0, 4, .inl w.2.1)), (a_li, .inl (G.2 0, 8, .inl w.2.2.1)), (a_wy, .inl (G.2 0, 8, .inl w.2.2.2.1))]) 0 0 := by
  refine CtV.of (by decide) (Nat.le_of_ble_eq_true rfl) [(0, .ref h), (1, .int p0)] rfl ?_
  intro p e s m args below meth c A ls Q hQ S hr hlocks hin F w hl
  have S : CallFix p m c b_Streams_begin 2 s args kx_T "PrefetchRules$Streams" := S
  obtain ⟨hx, hb, hml, hown, hts⟩ := id S
  have w : kx_W G A s ([(h, .inr (5, [.int d, .ref sa, .int u.1, .ref a_li, .ref a_wy, .int u.2.2.2.2])), (sa, .inl (G.2 0, 4, .inl u.2.1)), (a_li, .inl (G.2 0, 8, .inl u.2.2.1)), (a_wy, .inl (G.2 0, 8, .inl u.2.2.2.1))] ++ []) s.heap [] := w
  unfold f_Streams_begin at hF
  refine lv_aload_n hx hb d_Streams_begin_0 rfl (lv_at hl 0 rfl) ?_
  refine kx_get S F w kc_Streams 0 rfl 5 (by decide) kw_a9019757af rfl d_Streams_begin_1 ?_
  refine lv_bipush (v := (8 : Int32)) hx hb d_Streams_begin_4 (by decide) ?_
  refine lv_icmp_ge (tgt := 19) hx hb d_Streams_begin_6 (by decide) (fun c6 => ?_) (fun c6 => ?_)
  · have hF := kx_t c6 hF
    refine lv_aload_n hx hb d_Streams_begin_19 rfl (lv_at hl 0 rfl) ?_
    refine lv_aload_n hx hb d_Streams_begin_20 rfl (lv_at hl 0 rfl) ?_
    refine kx_get S F w kc_Streams 0 rfl 5 (by decide) kw_a9019757af rfl d_Streams_begin_21 ?_
    refine lv_iconst (v := (1 : Int32)) hx hb d_Streams_begin_24 (by decide) ?_
    refine lv_isub hx hb d_Streams_begin_25 ?_
    refine lv_iload_n hx hb d_Streams_begin_26 rfl (lv_at hl 1 rfl) ?_
    refine lv_iconst (v := (0 : Int32)) hx hb d_Streams_begin_27 (by decide) ?_
    obtain ⟨q28, hq28, hF⟩ := kx_bd hF
    refine kx_cv (cx := [(h, .inr (5, [.int d, .ref sa, .int u.1, .ref a_li, .ref a_wy, .int u.2.2.2.2])), (sa, .inl (G.2 0, 4, .inl u.2.1)), (a_li, .inl (G.2 0, 8, .inl u.2.2.1)), (a_wy, .inl (G.2 0, 8, .inl u.2.2.2.1))]) (wr := []) F w [0, 1, 2, 3] [] rfl rfl rfl (by decide) (va_runV (As := [.int (u.2.2.2.2 - (1 : Int32)), .int p0, .int (0 : Int32)]) (rest := []) S (c_Streams_moveInFront l G h sa d a_li a_wy u (u.2.2.2.2 - (1 : Int32)) p0 (0 : Int32) q28 hq28 _) (kx_cwV S mv_Streams_moveInFront kw_b08c114645 ⟨rfl, rfl, Nat.le_of_ble_eq_true rfl, Nat.le_of_ble_eq_true rfl⟩) ⟨kx_blind _ _ _ _, va_recv (q0 := 0) F.1.1 w.1 kc_Streams.1 rfl, kx_pre F w [0, 1, 2, 3] rfl rfl⟩ rfl rfl hl.1 rfl (lv_room (Nat.le_of_ble_eq_true rfl)) d_Streams_begin_28 ⟨Nat.le_of_ble_eq_true rfl, Nat.le_of_ble_eq_true rfl⟩) (fun w28 H locs hp w => ?_)
    subst hp
    have w : kx_W G A s ([(h, .inr (5, [.int d, .ref sa, .int q28.1, .ref a_li, .ref a_wy, .int q28.2.2.2.2])), (sa, .inl (G.2 0, 4, .inl q28.2.1)), (a_li, .inl (G.2 0, 8, .inl q28.2.2.1)), (a_wy, .inl (G.2 0, 8, .inl q28.2.2.2.1))] ++ []) H locs := w
    obtain rfl := Option.some.inj hF
    exact kx_vret hQ S hr hlocks w (xo := [(h, .inr (5, [.int d, .ref sa, .int q28.1, .ref a_li, .ref a_wy, .int q28.2.2.2.2])), (sa, .inl (G.2 0, 4, .inl q28.2.1)), (a_li, .inl (G.2 0, 8, .inl q28.2.2.1)), (a_wy, .inl (G.2 0, 8, .inl q28.2.2.2.1))]) [0, 1, 2, 3] rfl rfl q28 rfl rfl d_Streams_begin_31
  · have hF := kx_f c6 hF
    refine lv_aload_n hx hb d_Streams_begin_9 rfl (lv_at hl 0 rfl) ?_
    refine lv_dup hx hb d_Streams_begin_10 rfl ?_
    refine kx_get S F w kc_Streams 0 rfl 5 (by decide) kw_a9019757af rfl d_Streams_begin_11 ?_
    refine lv_iconst (v := (1 : Int32)) hx hb d_Streams_begin_14 (by decide) ?_
    refine lv_iadd hx hb d_Streams_begin_15 ?_
    refine kx_put S F w kc_Streams 0 rfl 5 (by decide) kw_a9019757af rfl rfl rfl (Nat.le_of_ble_eq_true rfl) d_Streams_begin_16 (fun H locs w => ?_)
    have w : kx_W G A s ([(h, .inr (5, [.int d, .ref sa, .int u.1, .ref a_li, .ref a_wy, .int (u.2.2.2.2 + (1 : Int32))])), (sa, .inl (G.2 0, 4, .inl u.2.1)), (a_li, .inl (G.2 0, 8, .inl u.2.2.1)), (a_wy, .inl (G.2 0, 8, .inl u.2.2.2.1))] ++ []) H locs := w
    refine lv_aload_n hx hb d_Streams_begin_19 rfl (lv_at hl 0 rfl) ?_
    refine lv_aload_n hx hb d_Streams_begin_20 rfl (lv_at hl 0 rfl) ?_
    refine kx_get S F w kc_Streams 0 rfl 5 (by decide) kw_a9019757af rfl d_Streams_begin_21 ?_
    refine lv_iconst (v := (1 : Int32)) hx hb d_Streams_begin_24 (by decide) ?_
    refine lv_isub hx hb d_Streams_begin_25 ?_
    refine lv_iload_n hx hb d_Streams_begin_26 rfl (lv_at hl 1 rfl) ?_
    refine lv_iconst (v := (0 : Int32)) hx hb d_Streams_begin_27 (by decide) ?_
    obtain ⟨q28, hq28, hF⟩ := kx_bd hF
    refine kx_cv (cx := [(h, .inr (5, [.int d, .ref sa, .int u.1, .ref a_li, .ref a_wy, .int (u.2.2.2.2 + (1 : Int32))])), (sa, .inl (G.2 0, 4, .inl u.2.1)), (a_li, .inl (G.2 0, 8, .inl u.2.2.1)), (a_wy, .inl (G.2 0, 8, .inl u.2.2.2.1))]) (wr := []) F w [0, 1, 2, 3] [] rfl rfl rfl (by decide) (va_runV (As := [.int ((u.2.2.2.2 + (1 : Int32)) - (1 : Int32)), .int p0, .int (0 : Int32)]) (rest := []) S (c_Streams_moveInFront l G h sa d a_li a_wy (u.1, u.2.1, u.2.2.1, u.2.2.2.1, u.2.2.2.2 + (1 : Int32)) ((u.2.2.2.2 + (1 : Int32)) - (1 : Int32)) p0 (0 : Int32) q28 hq28 _) (kx_cwV S mv_Streams_moveInFront kw_b08c114645 ⟨rfl, rfl, Nat.le_of_ble_eq_true rfl, Nat.le_of_ble_eq_true rfl⟩) ⟨kx_blind _ _ _ _, va_recv (q0 := 0) F.1.1 w.1 kc_Streams.1 rfl, kx_pre F w [0, 1, 2, 3] rfl rfl⟩ rfl rfl hl.1 rfl (lv_room (Nat.le_of_ble_eq_true rfl)) d_Streams_begin_28 ⟨Nat.le_of_ble_eq_true rfl, Nat.le_of_ble_eq_true rfl⟩) (fun w28 H locs hp w => ?_)
    subst hp
    have w : kx_W G A s ([(h, .inr (5, [.int d, .ref sa, .int q28.1, .ref a_li, .ref a_wy, .int q28.2.2.2.2])), (sa, .inl (G.2 0, 4, .inl q28.2.1)), (a_li, .inl (G.2 0, 8, .inl q28.2.2.1)), (a_wy, .inl (G.2 0, 8, .inl q28.2.2.2.1))] ++ []) H locs := w
    obtain rfl := Option.some.inj hF
    exact kx_vret hQ S hr hlocks w (xo := [(h, .inr (5, [.int d, .ref sa, .int q28.1, .ref a_li, .ref a_wy, .int q28.2.2.2.2])), (sa, .inl (G.2 0, 4, .inl q28.2.1)), (a_li, .inl (G.2 0, 8, .inl q28.2.2.1)), (a_wy, .inl (G.2 0, 8, .inl q28.2.2.2.1))]) [0, 1, 2, 3] rfl rfl q28 rfl rfl d_Streams_begin_31
/-! Streams_learn -/
def lp_Streams_learn_2 (d : Int32) : Nat → Int32 → Int32 → Int32 → sg_streams → Option (sg_streams)
  | 0, _, _, _, _ => none
  | n2 + 1, x1, x2, x3, u2 => (if u2.2.2.2.2 ≤ x3 then (f_Streams_begin d u2 x2).bind (fun q70 => some q70) else (if (8 : Int32) ≤ x3 then (f_Streams_begin d u2 x2).bind (fun q70 => some q70) else (if (x3 < 0 ∨ 8 ≤ x3.toNatClampNeg) then none else (f_Streams_wayTo (x2 - (u2.2.2.1 x3.toNatClampNeg))).bind (fun q24 => (if q24 = 0 then lp_Streams_learn_2 d n2 x1 x2 (x3 + 1) u2 else (if (x3 < 0 ∨ 8 ≤ x3.toNatClampNeg) then none else (if (u2.2.2.2.1 x3.toNatClampNeg) = (-q24) then lp_Streams_learn_2 d n2 x1 x2 (x3 + 1) u2 else (f_Streams_moveInFront d u2 x3 x2 q24).bind (fun q51 => (f_Rule_sayInSteps d (q51.1, q51.2.1) x2 q24).bind (fun q58 => some (q58.1, q58.2, q51.2.2))))))))))
def f_Streams_learn (d : Int32) (u : sg_streams) (p0 : Int32) (p1 : Int32) : Option (sg_streams) := lp_Streams_learn_2 d 1000 p0 p1 (0 : Int32) u
def rm_Streams_learn : Room := { frames := 3, cells := 0, slots := 0, locals := 66 }
set_option maxRecDepth 100000 in
set_option maxHeartbeats 4000000 in
theorem c_Streams_learn (l : Launch) (G : kx_G) (h : Nat) (sa : Nat) (d : Int32) (a_li : Nat) (a_wy : Nat) (u : sg_streams) (p0 : Int32) (p1 : Int32) (v : sg_streams) (hF : f_Streams_learn d u p0 p1 = some v) : CtV l y_Streams_learn b_Streams_learn 5 rm_Streams_learn G [.ref h, .int p0, .int p1] [(h, .inr (5, [.int d, .ref sa, .int u.1, .ref a_li, .ref a_wy, .int u.2.2.2.2])), (sa, .inl (G.2 0, 4, .inl u.2.1)), (a_li, .inl (G.2 0, 8, .inl u.2.2.1)), (a_wy, .inl (G.2 0, 8, .inl u.2.2.2.1))] (fun w : sg_streams => v = w) (fun w => [(h, .inr (5, [.int d, .ref sa, .int w.1, .ref a_li, .ref a_wy, .int w.2.2.2.2])), (sa, .inl (G.2 0, 4, .inl w.2.1)), (a_li, .inl (G.2 0, 8, .inl w.2.2.1)), (a_wy, .inl (G.2 0, 8, .inl w.2.2.2.1))]) 0 0 := by
  refine CtV.of (by decide) (Nat.le_of_ble_eq_true rfl) [(0, .ref h), (1, .int p0), (2, .int p1)] rfl ?_
  intro p e s m args below meth c A ls Q hQ S hr hlocks hin F w hl
  have S : CallFix p m c b_Streams_learn 5 s args kx_T "PrefetchRules$Streams" := S
  obtain ⟨hx, hb, hml, hown, hts⟩ := id S
  have w : kx_W G A s ([(h, .inr (5, [.int d, .ref sa, .int u.1, .ref a_li, .ref a_wy, .int u.2.2.2.2])), (sa, .inl (G.2 0, 4, .inl u.2.1)), (a_li, .inl (G.2 0, 8, .inl u.2.2.1)), (a_wy, .inl (G.2 0, 8, .inl u.2.2.2.1))] ++ []) s.heap [] := w
  unfold f_Streams_learn at hF
  refine lv_iconst (v := (0 : Int32)) hx hb d_Streams_learn_0 (by decide) ?_
  refine lv_istore_n (lv' := [(3, .int (0 : Int32)), (0, .ref h), (1, .int p0), (2, .int p1)]) hx hb d_Streams_learn_1 rfl hl (by decide) rfl (fun ls hl => ?_)
  have L2 : ∀ (n2 : Nat) (x1 : Int32) (x2 : Int32) (x3 : Int32) (u2 : sg_streams), lp_Streams_learn_2 d n2 x1 x2 x3 u2 = some v → ∀ (H : Heap) (locs : List Loc) (ls : Array Slot), kx_W G A s ([(h, .inr (5, [.int d, .ref sa, .int u2.1, .ref a_li, .ref a_wy, .int u2.2.2.2.2])), (sa, .inl (G.2 0, 4, .inl u2.2.1)), (a_li, .inl (G.2 0, 8, .inl u2.2.2.1)), (a_wy, .inl (G.2 0, 8, .inl u2.2.2.2.1))] ++ []) H locs → lv_has ls 5 [(0, .ref h), (1, .int x1), (2, .int x2), (3, .int x3)] → W p l e rm_Streams_learn s m args below meth c H locs 0 0 Q (F0 m 2 ls []) := by
    intro n2
    induction n2 with
    | zero =>
      intro x1 x2 x3 u2 hF
      rw [lp_Streams_learn_2] at hF
      cases hF
    | succ n2 ih2 =>
      intro x1 x2 x3 u2 hF H locs ls w hl
      rw [lp_Streams_learn_2] at hF
      refine lv_iload_n hx hb d_Streams_learn_2 rfl (lv_at hl 3 rfl) ?_
      refine lv_aload_n hx hb d_Streams_learn_3 rfl (lv_at hl 0 rfl) ?_
      refine kx_get S F w kc_Streams 0 rfl 5 (by decide) kw_a9019757af rfl d_Streams_learn_4 ?_
      refine lv_icmp_ge (tgt := 68) hx hb d_Streams_learn_7 (by decide) (fun c7 => ?_) (fun c7 => ?_)
      · have hF := kx_t c7 hF
        refine lv_aload_n hx hb d_Streams_learn_68 rfl (lv_at hl 0 rfl) ?_
        refine lv_iload_n hx hb d_Streams_learn_69 rfl (lv_at hl 2 rfl) ?_
        obtain ⟨q70, hq70, hF⟩ := kx_bd hF
        refine kx_cv (cx := [(h, .inr (5, [.int d, .ref sa, .int u2.1, .ref a_li, .ref a_wy, .int u2.2.2.2.2])), (sa, .inl (G.2 0, 4, .inl u2.2.1)), (a_li, .inl (G.2 0, 8, .inl u2.2.2.1)), (a_wy, .inl (G.2 0, 8, .inl u2.2.2.2.1))]) (wr := []) F w [0, 1, 2, 3] [] rfl rfl rfl (by decide) (va_runV (As := [.int x2]) (rest := []) S (c_Streams_begin l G h sa d a_li a_wy u2 x2 q70 hq70 _) (kx_cwV S mv_Streams_begin kw_d33c633925 ⟨rfl, rfl, Nat.le_of_ble_eq_true rfl, Nat.le_of_ble_eq_true rfl⟩) ⟨kx_blind _ _ _ _, va_recv (q0 := 0) F.1.1 w.1 kc_Streams.1 rfl, kx_pre F w [0, 1, 2, 3] rfl rfl⟩ rfl rfl hl.1 rfl (lv_room (Nat.le_of_ble_eq_true rfl)) d_Streams_learn_70 ⟨Nat.le_of_ble_eq_true rfl, Nat.le_of_ble_eq_true rfl⟩) (fun w70 H locs hp w => ?_)
        subst hp
        have w : kx_W G A s ([(h, .inr (5, [.int d, .ref sa, .int q70.1, .ref a_li, .ref a_wy, .int q70.2.2.2.2])), (sa, .inl (G.2 0, 4, .inl q70.2.1)), (a_li, .inl (G.2 0, 8, .inl q70.2.2.1)), (a_wy, .inl (G.2 0, 8, .inl q70.2.2.2.1))] ++ []) H locs := w
        obtain rfl := Option.some.inj hF
        exact kx_vret hQ S hr hlocks w (xo := [(h, .inr (5, [.int d, .ref sa, .int q70.1, .ref a_li, .ref a_wy, .int q70.2.2.2.2])), (sa, .inl (G.2 0, 4, .inl q70.2.1)), (a_li, .inl (G.2 0, 8, .inl q70.2.2.1)), (a_wy, .inl (G.2 0, 8, .inl q70.2.2.2.1))]) [0, 1, 2, 3] rfl rfl q70 rfl rfl d_Streams_learn_73
      · have hF := kx_f c7 hF
        refine lv_iload_n hx hb d_Streams_learn_10 rfl (lv_at hl 3 rfl) ?_
        refine lv_bipush (v := (8 : Int32)) hx hb d_Streams_learn_11 (by decide) ?_
        refine lv_icmp_ge (tgt := 68) hx hb d_Streams_learn_13 (by decide) (fun c13 => ?_) (fun c13 => ?_)
        · have hF := kx_t c13 hF
          refine lv_aload_n hx hb d_Streams_learn_68 rfl (lv_at hl 0 rfl) ?_
          refine lv_iload_n hx hb d_Streams_learn_69 rfl (lv_at hl 2 rfl) ?_
          obtain ⟨q70, hq70, hF⟩ := kx_bd hF
          refine kx_cv (cx := [(h, .inr (5, [.int d, .ref sa, .int u2.1, .ref a_li, .ref a_wy, .int u2.2.2.2.2])), (sa, .inl (G.2 0, 4, .inl u2.2.1)), (a_li, .inl (G.2 0, 8, .inl u2.2.2.1)), (a_wy, .inl (G.2 0, 8, .inl u2.2.2.2.1))]) (wr := []) F w [0, 1, 2, 3] [] rfl rfl rfl (by decide) (va_runV (As := [.int x2]) (rest := []) S (c_Streams_begin l G h sa d a_li a_wy u2 x2 q70 hq70 _) (kx_cwV S mv_Streams_begin kw_d33c633925 ⟨rfl, rfl, Nat.le_of_ble_eq_true rfl, Nat.le_of_ble_eq_true rfl⟩) ⟨kx_blind _ _ _ _, va_recv (q0 := 0) F.1.1 w.1 kc_Streams.1 rfl, kx_pre F w [0, 1, 2, 3] rfl rfl⟩ rfl rfl hl.1 rfl (lv_room (Nat.le_of_ble_eq_true rfl)) d_Streams_learn_70 ⟨Nat.le_of_ble_eq_true rfl, Nat.le_of_ble_eq_true rfl⟩) (fun w70 H locs hp w => ?_)
          subst hp
          have w : kx_W G A s ([(h, .inr (5, [.int d, .ref sa, .int q70.1, .ref a_li, .ref a_wy, .int q70.2.2.2.2])), (sa, .inl (G.2 0, 4, .inl q70.2.1)), (a_li, .inl (G.2 0, 8, .inl q70.2.2.1)), (a_wy, .inl (G.2 0, 8, .inl q70.2.2.2.1))] ++ []) H locs := w
          obtain rfl := Option.some.inj hF
          exact kx_vret hQ S hr hlocks w (xo := [(h, .inr (5, [.int d, .ref sa, .int q70.1, .ref a_li, .ref a_wy, .int q70.2.2.2.2])), (sa, .inl (G.2 0, 4, .inl q70.2.1)), (a_li, .inl (G.2 0, 8, .inl q70.2.2.1)), (a_wy, .inl (G.2 0, 8, .inl q70.2.2.2.1))]) [0, 1, 2, 3] rfl rfl q70 rfl rfl d_Streams_learn_73
        · have hF := kx_f c13 hF
          refine lv_iload_n hx hb d_Streams_learn_16 rfl (lv_at hl 2 rfl) ?_
          refine lv_aload_n hx hb d_Streams_learn_17 rfl (lv_at hl 0 rfl) ?_
          refine kx_get S F w kc_Streams 0 rfl 3 (by decide) kw_e81286a8b8 rfl d_Streams_learn_18 ?_
          refine lv_iload_n hx hb d_Streams_learn_21 rfl (lv_at hl 3 rfl) ?_
          obtain ⟨hi22, hF⟩ := kx_ar hF
          refine kx_iald S F w 2 rfl hi22 d_Streams_learn_22 ?_
          refine lv_isub hx hb d_Streams_learn_23 ?_
          obtain ⟨q24, hq24, hF⟩ := kx_bd hF
          refine kx_ci (cx := []) (wr := [(h, .inr (5, [.int d, .ref sa, .int u2.1, .ref a_li, .ref a_wy, .int u2.2.2.2.2])), (sa, .inl (G.2 0, 4, .inl u2.2.1)), (a_li, .inl (G.2 0, 8, .inl u2.2.2.1)), (a_wy, .inl (G.2 0, 8, .inl u2.2.2.2.1))]) F w [] [0, 1, 2, 3] rfl rfl rfl (by decide) (va_runS (As := [.int (x2 - (u2.2.2.1 x3.toNatClampNeg))]) (rest := []) S (c_Streams_wayTo l G (x2 - (u2.2.2.1 x3.toNatClampNeg)) q24 hq24 _) (kx_cwS S ms_Streams_wayTo kw_be6f8e512e ⟨rfl, rfl, Nat.le_of_ble_eq_true rfl, Nat.le_of_ble_eq_true rfl⟩) ⟨kx_blind _ _ _ _, kx_pre F w [] rfl rfl⟩ rfl rfl hl.1 rfl (lv_room (Nat.le_of_ble_eq_true rfl)) d_Streams_learn_24 ⟨Nat.le_of_ble_eq_true rfl, Nat.le_of_ble_eq_true rfl⟩) (fun r24 w24 H locs hp w => ?_)
          subst hp
          have w : kx_W G A s ([(h, .inr (5, [.int d, .ref sa, .int u2.1, .ref a_li, .ref a_wy, .int u2.2.2.2.2])), (sa, .inl (G.2 0, 4, .inl u2.2.1)), (a_li, .inl (G.2 0, 8, .inl u2.2.2.1)), (a_wy, .inl (G.2 0, 8, .inl u2.2.2.2.1))] ++ []) H locs := w
          refine lv_istore (lv' := [(4, .int q24), (0, .ref h), (1, .int x1), (2, .int x2), (3, .int x3)]) hx hb d_Streams_learn_27 hl (by decide) rfl (fun ls hl => ?_)
          refine lv_iload hx hb d_Streams_learn_29 (lv_at hl 0 rfl) ?_
          refine lv_if_eq (tgt := 62) hx hb d_Streams_learn_31 (by decide) (fun c31 => ?_) (fun c31 => ?_)
          · have hF := kx_t c31 hF
            refine lv_iinc (v := x3 + 1) (lv' := [(3, .int (x3 + 1)), (4, .int q24), (0, .ref h), (1, .int x1), (2, .int x2)]) hx hb d_Streams_learn_62 hl (k := 4) rfl (by rfl) (by decide) rfl (fun ls hl => ?_)
            refine lv_goto (tgt := 2) hx hb d_Streams_learn_65 (by decide) ?_
            exact ih2 x1 x2 (x3 + 1) u2 hF H locs ls (w.perm [0, 1, 2, 3] rfl rfl) (lv_sub hl [2, 3, 4, 0] rfl)
          · have hF := kx_f c31 hF
            refine lv_aload_n hx hb d_Streams_learn_34 rfl (lv_at hl 1 rfl) ?_
            refine kx_get S F w kc_Streams 0 rfl 4 (by decide) kw_f75e26bc13 rfl d_Streams_learn_35 ?_
            refine lv_iload_n hx hb d_Streams_learn_38 rfl (lv_at hl 4 rfl) ?_
            obtain ⟨hi39, hF⟩ := kx_ar hF
            refine kx_iald S F w 3 rfl hi39 d_Streams_learn_39 ?_
            refine lv_iload hx hb d_Streams_learn_40 (lv_at hl 0 rfl) ?_
            refine lv_ineg hx hb d_Streams_learn_42 ?_
            refine lv_icmp_eq (tgt := 62) hx hb d_Streams_learn_43 (by decide) (fun c43 => ?_) (fun c43 => ?_)
            · have hF := kx_t c43 hF
              refine lv_iinc (v := x3 + 1) (lv' := [(3, .int (x3 + 1)), (4, .int q24), (0, .ref h), (1, .int x1), (2, .int x2)]) hx hb d_Streams_learn_62 hl (k := 4) rfl (by rfl) (by decide) rfl (fun ls hl => ?_)
              refine lv_goto (tgt := 2) hx hb d_Streams_learn_65 (by decide) ?_
              exact ih2 x1 x2 (x3 + 1) u2 hF H locs ls (w.perm [0, 1, 2, 3] rfl rfl) (lv_sub hl [2, 3, 4, 0] rfl)
            · have hF := kx_f c43 hF
              refine lv_aload_n hx hb d_Streams_learn_46 rfl (lv_at hl 1 rfl) ?_
              refine lv_iload_n hx hb d_Streams_learn_47 rfl (lv_at hl 4 rfl) ?_
              refine lv_iload_n hx hb d_Streams_learn_48 rfl (lv_at hl 3 rfl) ?_
              refine lv_iload hx hb d_Streams_learn_49 (lv_at hl 0 rfl) ?_
              obtain ⟨q51, hq51, hF⟩ := kx_bd hF
              refine kx_cv (cx := [(h, .inr (5, [.int d, .ref sa, .int u2.1, .ref a_li, .ref a_wy, .int u2.2.2.2.2])), (sa, .inl (G.2 0, 4, .inl u2.2.1)), (a_li, .inl (G.2 0, 8, .inl u2.2.2.1)), (a_wy, .inl (G.2 0, 8, .inl u2.2.2.2.1))]) (wr := []) F w [0, 1, 2, 3] [] rfl rfl rfl (by decide) (va_runV (As := [.int x3, .int x2, .int q24]) (rest := []) S (c_Streams_moveInFront l G h sa d a_li a_wy u2 x3 x2 q24 q51 hq51 _) (kx_cwV S mv_Streams_moveInFront kw_b08c114645 ⟨rfl, rfl, Nat.le_of_ble_eq_true rfl, Nat.le_of_ble_eq_true rfl⟩) ⟨kx_blind _ _ _ _, va_recv (q0 := 0) F.1.1 w.1 kc_Streams.1 rfl, kx_pre F w [0, 1, 2, 3] rfl rfl⟩ rfl rfl hl.1 rfl (lv_room (Nat.le_of_ble_eq_true rfl)) d_Streams_learn_51 ⟨Nat.le_of_ble_eq_true rfl, Nat.le_of_ble_eq_true rfl⟩) (fun w51 H locs hp w => ?_)
              subst hp
              have w : kx_W G A s ([(h, .inr (5, [.int d, .ref sa, .int q51.1, .ref a_li, .ref a_wy, .int q51.2.2.2.2])), (sa, .inl (G.2 0, 4, .inl q51.2.1)), (a_li, .inl (G.2 0, 8, .inl q51.2.2.1)), (a_wy, .inl (G.2 0, 8, .inl q51.2.2.2.1))] ++ []) H locs := w
              refine lv_aload_n hx hb d_Streams_learn_54 rfl (lv_at hl 1 rfl) ?_
              refine lv_iload_n hx hb d_Streams_learn_55 rfl (lv_at hl 3 rfl) ?_
              refine lv_iload hx hb d_Streams_learn_56 (lv_at hl 0 rfl) ?_
              obtain ⟨q58, hq58, hF⟩ := kx_bd hF
              refine kx_cv (cx := [(h, .inr (5, [.int d, .ref sa, .int q51.1, .ref a_li, .ref a_wy, .int q51.2.2.2.2])), (sa, .inl (G.2 0, 4, .inl q51.2.1))]) (wr := [(a_li, .inl (G.2 0, 8, .inl q51.2.2.1)), (a_wy, .inl (G.2 0, 8, .inl q51.2.2.2.1))]) F w [0, 1] [2, 3] rfl rfl rfl (by decide) (va_runU (As := [.int x2, .int q24]) (rest := []) S (c_Rule_sayInSteps l G 5 ("PrefetchRules$Streams") F_Streams 6 t_Streams h sa d ([.ref a_li, .ref a_wy, .int q51.2.2.2.2]) kr_Streams (q51.1, q51.2.1) x2 q24 q58 hq58 _) (kx_cwU (n := 2) (x := ⟨"PrefetchRules$Streams", "sayInSteps", "(II)V"⟩) S kw_115e75369b kw_5d76cbb53a kw_2cf992f34b kw_3ccad77b64 kw_9597fba511 kw_d0941c2f9e rfl (by decide +kernel) ⟨rfl, rfl, Nat.le_of_ble_eq_true rfl, Nat.le_of_ble_eq_true rfl⟩) ⟨kx_blind _ _ _ _, va_recv (q0 := 0) F.1.1 w.1 kc_Streams.1 rfl, kx_pre F w [0, 1] rfl rfl⟩ rfl rfl hl.1 rfl (lv_room (Nat.le_of_ble_eq_true rfl)) d_Streams_learn_58 ⟨Nat.le_of_ble_eq_true rfl, Nat.le_of_ble_eq_true rfl⟩) (fun w58 H locs hp w => ?_)
              subst hp
              have w : kx_W G A s ([(a_li, .inl (G.2 0, 8, .inl q51.2.2.1)), (a_wy, .inl (G.2 0, 8, .inl q51.2.2.2.1)), (h, .inr (5, [.int d, .ref sa, .int q58.1, .ref a_li, .ref a_wy, .int q51.2.2.2.2])), (sa, .inl (G.2 0, 4, .inl q58.2))] ++ []) H locs := w
              obtain rfl := Option.some.inj hF
              exact kx_vret hQ S hr hlocks w (xo := [(h, .inr (5, [.int d, .ref sa, .int q58.1, .ref a_li, .ref a_wy, .int q51.2.2.2.2])), (sa, .inl (G.2 0, 4, .inl q58.2)), (a_li, .inl (G.2 0, 8, .inl q51.2.2.1)), (a_wy, .inl (G.2 0, 8, .inl q51.2.2.2.1))]) [2, 3, 0, 1] rfl rfl (q58.1, q58.2, q51.2.2) rfl rfl d_Streams_learn_61
  exact L2 1000 p0 p1 (0 : Int32) u hF s.heap [] ls (w.perm [0, 1, 2, 3] rfl rfl) (lv_sub hl [1, 2, 3, 0] rfl)
/-! Streams_knowledge -/
def f_Streams_knowledge (d : Int32) (u : sg_streams) (p0 : Int32) : Option (Int32) := some u.2.2.2.2
def rm_Streams_knowledge : Room := { frames := 2, cells := 0, slots := 0, locals := 44 }
set_option maxRecDepth 100000 in
set_option maxHeartbeats 4000000 in
theorem c_Streams_knowledge (l : Launch) (G : kx_G) (h : Nat) (sa : Nat) (d : Int32) (a_li : Nat) (a_wy : Nat) (u : sg_streams) (p0 : Int32) (v : Int32) (hF : f_Streams_knowledge d u p0 = some v) : CtI l y_Streams_knowledge b_Streams_knowledge 2 (some .int) rm_Streams_knowledge G [.ref h, .int p0] [(h, .inr (5, [.int d, .ref sa, .int u.1, .ref a_li, .ref a_wy, .int u.2.2.2.2])), (sa, .inl (G.2 0, 4, .inl u.2.1)), (a_li, .inl (G.2 0, 8, .inl u.2.2.1)), (a_wy, .inl (G.2 0, 8, .inl u.2.2.2.1))] (fun (r : Int32) (_ : Unit) => v = r) (fun _ => [(h, .inr (5, [.int d, .ref sa, .int u.1, .ref a_li, .ref a_wy, .int u.2.2.2.2])), (sa, .inl (G.2 0, 4, .inl u.2.1)), (a_li, .inl (G.2 0, 8, .inl u.2.2.1)), (a_wy, .inl (G.2 0, 8, .inl u.2.2.2.1))]) 0 0 := by
  refine CtI.of (by decide) (Nat.le_of_ble_eq_true rfl) [(0, .ref h), (1, .int p0)] rfl ?_
  intro p e s m args below meth c A ls Q hQ S hr hlocks F w hl
  have S : CallFix p m c b_Streams_knowledge 2 s args kx_T "PrefetchRules$Streams" := S
  obtain ⟨hx, hb, hml, hown, hts⟩ := id S
  have w : kx_W G A s ([(h, .inr (5, [.int d, .ref sa, .int u.1, .ref a_li, .ref a_wy, .int u.2.2.2.2])), (sa, .inl (G.2 0, 4, .inl u.2.1)), (a_li, .inl (G.2 0, 8, .inl u.2.2.1)), (a_wy, .inl (G.2 0, 8, .inl u.2.2.2.1))] ++ []) s.heap [] := w
  unfold f_Streams_knowledge at hF
  refine lv_aload_n hx hb d_Streams_knowledge_0 rfl (lv_at hl 0 rfl) ?_
  refine kx_get S F w kc_Streams 0 rfl 5 (by decide) kw_a9019757af rfl d_Streams_knowledge_1 ?_
  obtain rfl := Option.some.inj hF
  exact kx_iret hQ S hr hlocks w (xo := [(h, .inr (5, [.int d, .ref sa, .int u.1, .ref a_li, .ref a_wy, .int u.2.2.2.2])), (sa, .inl (G.2 0, 4, .inl u.2.1)), (a_li, .inl (G.2 0, 8, .inl u.2.2.1)), (a_wy, .inl (G.2 0, 8, .inl u.2.2.2.1))]) [0, 1, 2, 3] rfl rfl () rfl rfl d_Streams_knowledge_4
/-! Streams_confidence -/
def f_Streams_confidence (d : Int32) (u : sg_streams) (p0 : Int32) : Option (Int32) := (if p0 < 0 then some (0 : Int32) else (if u.2.2.2.2 ≤ p0 then some (0 : Int32) else (if (8 : Int32) ≤ p0 then some (0 : Int32) else (if (p0 < 0 ∨ 8 ≤ p0.toNatClampNeg) then none else some (u.2.2.2.1 p0.toNatClampNeg)))))
def rm_Streams_confidence : Room := { frames := 2, cells := 0, slots := 0, locals := 44 }
set_option maxRecDepth 100000 in
set_option maxHeartbeats 4000000 in
theorem c_Streams_confidence (l : Launch) (G : kx_G) (h : Nat) (sa : Nat) (d : Int32) (a_li : Nat) (a_wy : Nat) (u : sg_streams) (p0 : Int32) (v : Int32) (hF : f_Streams_confidence d u p0 = some v) : CtI l y_Streams_confidence b_Streams_confidence 2 (some .int) rm_Streams_confidence G [.ref h, .int p0] [(h, .inr (5, [.int d, .ref sa, .int u.1, .ref a_li, .ref a_wy, .int u.2.2.2.2])), (sa, .inl (G.2 0, 4, .inl u.2.1)), (a_li, .inl (G.2 0, 8, .inl u.2.2.1)), (a_wy, .inl (G.2 0, 8, .inl u.2.2.2.1))] (fun (r : Int32) (_ : Unit) => v = r) (fun _ => [(h, .inr (5, [.int d, .ref sa, .int u.1, .ref a_li, .ref a_wy, .int u.2.2.2.2])), (sa, .inl (G.2 0, 4, .inl u.2.1)), (a_li, .inl (G.2 0, 8, .inl u.2.2.1)), (a_wy, .inl (G.2 0, 8, .inl u.2.2.2.1))]) 0 0 := by
  refine CtI.of (by decide) (Nat.le_of_ble_eq_true rfl) [(0, .ref h), (1, .int p0)] rfl ?_
  intro p e s m args below meth c A ls Q hQ S hr hlocks F w hl
  have S : CallFix p m c b_Streams_confidence 2 s args kx_T "PrefetchRules$Streams" := S
  obtain ⟨hx, hb, hml, hown, hts⟩ := id S
  have w : kx_W G A s ([(h, .inr (5, [.int d, .ref sa, .int u.1, .ref a_li, .ref a_wy, .int u.2.2.2.2])), (sa, .inl (G.2 0, 4, .inl u.2.1)), (a_li, .inl (G.2 0, 8, .inl u.2.2.1)), (a_wy, .inl (G.2 0, 8, .inl u.2.2.2.1))] ++ []) s.heap [] := w
  unfold f_Streams_confidence at hF
  refine lv_iload_n hx hb d_Streams_confidence_0 rfl (lv_at hl 1 rfl) ?_
  refine lv_if_lt (tgt := 27) hx hb d_Streams_confidence_1 (by decide) (fun c1 => ?_) (fun c1 => ?_)
  · have hF := kx_t c1 hF
    refine lv_iconst (v := (0 : Int32)) hx hb d_Streams_confidence_27 (by decide) ?_
    obtain rfl := Option.some.inj hF
    exact kx_iret hQ S hr hlocks w (xo := [(h, .inr (5, [.int d, .ref sa, .int u.1, .ref a_li, .ref a_wy, .int u.2.2.2.2])), (sa, .inl (G.2 0, 4, .inl u.2.1)), (a_li, .inl (G.2 0, 8, .inl u.2.2.1)), (a_wy, .inl (G.2 0, 8, .inl u.2.2.2.1))]) [0, 1, 2, 3] rfl rfl () rfl rfl d_Streams_confidence_28
  · have hF := kx_f c1 hF
    refine lv_iload_n hx hb d_Streams_confidence_4 rfl (lv_at hl 1 rfl) ?_
    refine lv_aload_n hx hb d_Streams_confidence_5 rfl (lv_at hl 0 rfl) ?_
    refine kx_get S F w kc_Streams 0 rfl 5 (by decide) kw_a9019757af rfl d_Streams_confidence_6 ?_
    refine lv_icmp_ge (tgt := 27) hx hb d_Streams_confidence_9 (by decide) (fun c9 => ?_) (fun c9 => ?_)
    · have hF := kx_t c9 hF
      refine lv_iconst (v := (0 : Int32)) hx hb d_Streams_confidence_27 (by decide) ?_
      obtain rfl := Option.some.inj hF
      exact kx_iret hQ S hr hlocks w (xo := [(h, .inr (5, [.int d, .ref sa, .int u.1, .ref a_li, .ref a_wy, .int u.2.2.2.2])), (sa, .inl (G.2 0, 4, .inl u.2.1)), (a_li, .inl (G.2 0, 8, .inl u.2.2.1)), (a_wy, .inl (G.2 0, 8, .inl u.2.2.2.1))]) [0, 1, 2, 3] rfl rfl () rfl rfl d_Streams_confidence_28
    · have hF := kx_f c9 hF
      refine lv_iload_n hx hb d_Streams_confidence_12 rfl (lv_at hl 1 rfl) ?_
      refine lv_bipush (v := (8 : Int32)) hx hb d_Streams_confidence_13 (by decide) ?_
      refine lv_icmp_ge (tgt := 27) hx hb d_Streams_confidence_15 (by decide) (fun c15 => ?_) (fun c15 => ?_)
      · have hF := kx_t c15 hF
        refine lv_iconst (v := (0 : Int32)) hx hb d_Streams_confidence_27 (by decide) ?_
        obtain rfl := Option.some.inj hF
        exact kx_iret hQ S hr hlocks w (xo := [(h, .inr (5, [.int d, .ref sa, .int u.1, .ref a_li, .ref a_wy, .int u.2.2.2.2])), (sa, .inl (G.2 0, 4, .inl u.2.1)), (a_li, .inl (G.2 0, 8, .inl u.2.2.1)), (a_wy, .inl (G.2 0, 8, .inl u.2.2.2.1))]) [0, 1, 2, 3] rfl rfl () rfl rfl d_Streams_confidence_28
      · have hF := kx_f c15 hF
        refine lv_aload_n hx hb d_Streams_confidence_18 rfl (lv_at hl 0 rfl) ?_
        refine kx_get S F w kc_Streams 0 rfl 4 (by decide) kw_f75e26bc13 rfl d_Streams_confidence_19 ?_
        refine lv_iload_n hx hb d_Streams_confidence_22 rfl (lv_at hl 1 rfl) ?_
        obtain ⟨hi23, hF⟩ := kx_ar hF
        refine kx_iald S F w 3 rfl hi23 d_Streams_confidence_23 ?_
        refine lv_goto (tgt := 28) hx hb d_Streams_confidence_24 (by decide) ?_
        obtain rfl := Option.some.inj hF
        exact kx_iret hQ S hr hlocks w (xo := [(h, .inr (5, [.int d, .ref sa, .int u.1, .ref a_li, .ref a_wy, .int u.2.2.2.2])), (sa, .inl (G.2 0, 4, .inl u.2.1)), (a_li, .inl (G.2 0, 8, .inl u.2.2.1)), (a_wy, .inl (G.2 0, 8, .inl u.2.2.2.1))]) [0, 1, 2, 3] rfl rfl () rfl rfl d_Streams_confidence_28
/-! Strides_hear -/
def f_Strides_hear (d : Int32) (u : sg_strides) (p0 : Int32) (p1 : Int32) : Option (sg_strides) := (f_Strides_learn d ((0 : Int32), u.2) p0 p1).bind (fun q8 => some q8)
def rm_Strides_hear : Room := { frames := 4, cells := 0, slots := 0, locals := 90 }
set_option maxRecDepth 100000 in
set_option maxHeartbeats 4000000 in
theorem c_Strides_hear (l : Launch) (G : kx_G) (h : Nat) (sa : Nat) (d : Int32) (a_tk : Nat) (a_pl : Nat) (a_li : Nat) (a_st : Nat) (a_tr : Nat) (u : sg_strides) (p0 : Int32) (p1 : Int32) (v : sg_strides) (hF : f_Strides_hear d u p0 p1 = some v) : CtV l y_Rule_hear b_Rule_hear 3 rm_Strides_hear G [.ref h, .int p0, .int p1] [(h, .inr (4, [.int d, .ref sa, .int u.1, .ref a_tk, .ref a_pl, .ref a_li, .ref a_st, .ref a_tr])), (sa, .inl (G.2 0, 4, .inl u.2.1)), (a_tk, .inl (G.2 1, 16, .inl u.2.2.1)), (a_pl, .inl (G.2 0, 16, .inl u.2.2.2.1)), (a_li, .inl (G.2 0, 16, .inl u.2.2.2.2.1)), (a_st, .inl (G.2 0, 16, .inl u.2.2.2.2.2.1)), (a_tr, .inl (G.2 0, 16, .inl u.2.2.2.2.2.2))] (fun w : sg_strides => v = w) (fun w => [(h, .inr (4, [.int d, .ref sa, .int w.1, .ref a_tk, .ref a_pl, .ref a_li, .ref a_st, .ref a_tr])), (sa, .inl (G.2 0, 4, .inl w.2.1)), (a_tk, .inl (G.2 1, 16, .inl w.2.2.1)), (a_pl, .inl (G.2 0, 16, .inl w.2.2.2.1)), (a_li, .inl (G.2 0, 16, .inl w.2.2.2.2.1)), (a_st, .inl (G.2 0, 16, .inl w.2.2.2.2.2.1)), (a_tr, .inl (G.2 0, 16, .inl w.2.2.2.2.2.2))]) 0 0 := by
  refine CtV.of (by decide) (Nat.le_of_ble_eq_true rfl) [(0, .ref h), (1, .int p0), (2, .int p1)] rfl ?_
  intro p e s m args below meth c A ls Q hQ S hr hlocks hin F w hl
  have S : CallFix p m c b_Rule_hear 3 s args kx_T "PrefetchRules$Rule" := S
  obtain ⟨hx, hb, hml, hown, hts⟩ := id S
  have w : kx_W G A s ([(h, .inr (4, [.int d, .ref sa, .int u.1, .ref a_tk, .ref a_pl, .ref a_li, .ref a_st, .ref a_tr])), (sa, .inl (G.2 0, 4, .inl u.2.1)), (a_tk, .inl (G.2 1, 16, .inl u.2.2.1)), (a_pl, .inl (G.2 0, 16, .inl u.2.2.2.1)), (a_li, .inl (G.2 0, 16, .inl u.2.2.2.2.1)), (a_st, .inl (G.2 0, 16, .inl u.2.2.2.2.2.1)), (a_tr, .inl (G.2 0, 16, .inl u.2.2.2.2.2.2))] ++ []) s.heap [] := w
  unfold f_Strides_hear at hF
  refine lv_aload_n hx hb d_Rule_hear_0 rfl (lv_at hl 0 rfl) ?_
  refine lv_iconst (v := (0 : Int32)) hx hb d_Rule_hear_1 (by decide) ?_
  refine kx_put S F w kc_Strides 0 rfl 2 (by decide) kw_f28b66b365 rfl rfl rfl (Nat.le_of_ble_eq_true rfl) d_Rule_hear_2 (fun H locs w => ?_)
  have w : kx_W G A s ([(h, .inr (4, [.int d, .ref sa, .int (0 : Int32), .ref a_tk, .ref a_pl, .ref a_li, .ref a_st, .ref a_tr])), (sa, .inl (G.2 0, 4, .inl u.2.1)), (a_tk, .inl (G.2 1, 16, .inl u.2.2.1)), (a_pl, .inl (G.2 0, 16, .inl u.2.2.2.1)), (a_li, .inl (G.2 0, 16, .inl u.2.2.2.2.1)), (a_st, .inl (G.2 0, 16, .inl u.2.2.2.2.2.1)), (a_tr, .inl (G.2 0, 16, .inl u.2.2.2.2.2.2))] ++ []) H locs := w
  refine lv_aload_n hx hb d_Rule_hear_5 rfl (lv_at hl 0 rfl) ?_
  refine lv_iload_n hx hb d_Rule_hear_6 rfl (lv_at hl 1 rfl) ?_
  refine lv_iload_n hx hb d_Rule_hear_7 rfl (lv_at hl 2 rfl) ?_
  obtain ⟨q8, hq8, hF⟩ := kx_bd hF
  refine kx_cv (cx := [(h, .inr (4, [.int d, .ref sa, .int (0 : Int32), .ref a_tk, .ref a_pl, .ref a_li, .ref a_st, .ref a_tr])), (sa, .inl (G.2 0, 4, .inl u.2.1)), (a_tk, .inl (G.2 1, 16, .inl u.2.2.1)), (a_pl, .inl (G.2 0, 16, .inl u.2.2.2.1)), (a_li, .inl (G.2 0, 16, .inl u.2.2.2.2.1)), (a_st, .inl (G.2 0, 16, .inl u.2.2.2.2.2.1)), (a_tr, .inl (G.2 0, 16, .inl u.2.2.2.2.2.2))]) (wr := []) F w [0, 1, 2, 3, 4, 5, 6] [] rfl rfl rfl (by decide) (va_runU (As := [.int p0, .int p1]) (rest := []) S (c_Strides_learn l G h sa d a_tk a_pl a_li a_st a_tr ((0 : Int32), u.2) p0 p1 q8 hq8 _) (kx_cwA (n := 2) (x := ⟨"PrefetchRules$Rule", "learn", "(II)V"⟩) S F kw_259d5f925a kw_812921046e kw_4987ac2f73 kw_5a9f1e2437 kw_a564a2a022 kw_a3458301cd kw_498ee79c2d (by decide +kernel) ⟨rfl, rfl, Nat.le_of_ble_eq_true rfl, Nat.le_of_ble_eq_true rfl⟩) ⟨kx_blind _ _ _ _, va_recv (q0 := 0) F.1.1 w.1 kc_Strides.1 rfl, kx_pre F w [0, 1, 2, 3, 4, 5, 6] rfl rfl⟩ rfl rfl hl.1 rfl (lv_room (Nat.le_of_ble_eq_true rfl)) d_Rule_hear_8 ⟨Nat.le_of_ble_eq_true rfl, Nat.le_of_ble_eq_true rfl⟩) (fun w8 H locs hp w => ?_)
  subst hp
  have w : kx_W G A s ([(h, .inr (4, [.int d, .ref sa, .int q8.1, .ref a_tk, .ref a_pl, .ref a_li, .ref a_st, .ref a_tr])), (sa, .inl (G.2 0, 4, .inl q8.2.1)), (a_tk, .inl (G.2 1, 16, .inl q8.2.2.1)), (a_pl, .inl (G.2 0, 16, .inl q8.2.2.2.1)), (a_li, .inl (G.2 0, 16, .inl q8.2.2.2.2.1)), (a_st, .inl (G.2 0, 16, .inl q8.2.2.2.2.2.1)), (a_tr, .inl (G.2 0, 16, .inl q8.2.2.2.2.2.2))] ++ []) H locs := w
  obtain rfl := Option.some.inj hF
  exact kx_vret hQ S hr hlocks w (xo := [(h, .inr (4, [.int d, .ref sa, .int q8.1, .ref a_tk, .ref a_pl, .ref a_li, .ref a_st, .ref a_tr])), (sa, .inl (G.2 0, 4, .inl q8.2.1)), (a_tk, .inl (G.2 1, 16, .inl q8.2.2.1)), (a_pl, .inl (G.2 0, 16, .inl q8.2.2.2.1)), (a_li, .inl (G.2 0, 16, .inl q8.2.2.2.2.1)), (a_st, .inl (G.2 0, 16, .inl q8.2.2.2.2.2.1)), (a_tr, .inl (G.2 0, 16, .inl q8.2.2.2.2.2.2))]) [0, 1, 2, 3, 4, 5, 6] rfl rfl q8 rfl rfl d_Rule_hear_11
/-! Strides_saidCount -/
def f_Strides_saidCount (d : Int32) (u : sg_strides) : Option (Int32) := some u.1
def rm_Strides_saidCount : Room := { frames := 0, cells := 0, slots := 0, locals := 0 }
set_option maxRecDepth 100000 in
set_option maxHeartbeats 4000000 in
theorem c_Strides_saidCount (l : Launch) (G : kx_G) (h : Nat) (sa : Nat) (d : Int32) (a_tk : Nat) (a_pl : Nat) (a_li : Nat) (a_st : Nat) (a_tr : Nat) (u : sg_strides) (v : Int32) (hF : f_Strides_saidCount d u = some v) : CtI l y_Rule_saidCount b_Rule_saidCount 1 (some .int) rm_Strides_saidCount G [.ref h] [(h, .inr (4, [.int d, .ref sa, .int u.1, .ref a_tk, .ref a_pl, .ref a_li, .ref a_st, .ref a_tr])), (sa, .inl (G.2 0, 4, .inl u.2.1)), (a_tk, .inl (G.2 1, 16, .inl u.2.2.1)), (a_pl, .inl (G.2 0, 16, .inl u.2.2.2.1)), (a_li, .inl (G.2 0, 16, .inl u.2.2.2.2.1)), (a_st, .inl (G.2 0, 16, .inl u.2.2.2.2.2.1)), (a_tr, .inl (G.2 0, 16, .inl u.2.2.2.2.2.2))] (fun (r : Int32) (_ : Unit) => v = r) (fun _ => [(h, .inr (4, [.int d, .ref sa, .int u.1, .ref a_tk, .ref a_pl, .ref a_li, .ref a_st, .ref a_tr])), (sa, .inl (G.2 0, 4, .inl u.2.1)), (a_tk, .inl (G.2 1, 16, .inl u.2.2.1)), (a_pl, .inl (G.2 0, 16, .inl u.2.2.2.1)), (a_li, .inl (G.2 0, 16, .inl u.2.2.2.2.1)), (a_st, .inl (G.2 0, 16, .inl u.2.2.2.2.2.1)), (a_tr, .inl (G.2 0, 16, .inl u.2.2.2.2.2.2))]) 0 0 := by
  refine CtI.of (by decide) (Nat.le_of_ble_eq_true rfl) [(0, .ref h)] rfl ?_
  intro p e s m args below meth c A ls Q hQ S hr hlocks F w hl
  have S : CallFix p m c b_Rule_saidCount 1 s args kx_T "PrefetchRules$Rule" := S
  obtain ⟨hx, hb, hml, hown, hts⟩ := id S
  have w : kx_W G A s ([(h, .inr (4, [.int d, .ref sa, .int u.1, .ref a_tk, .ref a_pl, .ref a_li, .ref a_st, .ref a_tr])), (sa, .inl (G.2 0, 4, .inl u.2.1)), (a_tk, .inl (G.2 1, 16, .inl u.2.2.1)), (a_pl, .inl (G.2 0, 16, .inl u.2.2.2.1)), (a_li, .inl (G.2 0, 16, .inl u.2.2.2.2.1)), (a_st, .inl (G.2 0, 16, .inl u.2.2.2.2.2.1)), (a_tr, .inl (G.2 0, 16, .inl u.2.2.2.2.2.2))] ++ []) s.heap [] := w
  unfold f_Strides_saidCount at hF
  refine lv_aload_n hx hb d_Rule_saidCount_0 rfl (lv_at hl 0 rfl) ?_
  refine kx_get S F w kc_Strides 0 rfl 2 (by decide) kw_f28b66b365 rfl d_Rule_saidCount_1 ?_
  obtain rfl := Option.some.inj hF
  exact kx_iret hQ S hr hlocks w (xo := [(h, .inr (4, [.int d, .ref sa, .int u.1, .ref a_tk, .ref a_pl, .ref a_li, .ref a_st, .ref a_tr])), (sa, .inl (G.2 0, 4, .inl u.2.1)), (a_tk, .inl (G.2 1, 16, .inl u.2.2.1)), (a_pl, .inl (G.2 0, 16, .inl u.2.2.2.1)), (a_li, .inl (G.2 0, 16, .inl u.2.2.2.2.1)), (a_st, .inl (G.2 0, 16, .inl u.2.2.2.2.2.1)), (a_tr, .inl (G.2 0, 16, .inl u.2.2.2.2.2.2))]) [0, 1, 2, 3, 4, 5, 6] rfl rfl () rfl rfl d_Rule_saidCount_4
/-! Strides_saidLine -/
def f_Strides_saidLine (d : Int32) (u : sg_strides) (p0 : Int32) : Option (Int32) := (if p0 < 0 then some (-1 : Int32) else (if u.1 ≤ p0 then some (-1 : Int32) else (if (nI 4) ≤ p0 then some (-1 : Int32) else (if (p0 < 0 ∨ 4 ≤ p0.toNatClampNeg) then none else some (u.2.1 p0.toNatClampNeg)))))
def rm_Strides_saidLine : Room := { frames := 0, cells := 0, slots := 0, locals := 0 }
set_option maxRecDepth 100000 in
set_option maxHeartbeats 4000000 in
theorem c_Strides_saidLine (l : Launch) (G : kx_G) (h : Nat) (sa : Nat) (d : Int32) (a_tk : Nat) (a_pl : Nat) (a_li : Nat) (a_st : Nat) (a_tr : Nat) (u : sg_strides) (p0 : Int32) (v : Int32) (hF : f_Strides_saidLine d u p0 = some v) : CtI l y_Rule_saidLine b_Rule_saidLine 2 (some .int) rm_Strides_saidLine G [.ref h, .int p0] [(h, .inr (4, [.int d, .ref sa, .int u.1, .ref a_tk, .ref a_pl, .ref a_li, .ref a_st, .ref a_tr])), (sa, .inl (G.2 0, 4, .inl u.2.1)), (a_tk, .inl (G.2 1, 16, .inl u.2.2.1)), (a_pl, .inl (G.2 0, 16, .inl u.2.2.2.1)), (a_li, .inl (G.2 0, 16, .inl u.2.2.2.2.1)), (a_st, .inl (G.2 0, 16, .inl u.2.2.2.2.2.1)), (a_tr, .inl (G.2 0, 16, .inl u.2.2.2.2.2.2))] (fun (r : Int32) (_ : Unit) => v = r) (fun _ => [(h, .inr (4, [.int d, .ref sa, .int u.1, .ref a_tk, .ref a_pl, .ref a_li, .ref a_st, .ref a_tr])), (sa, .inl (G.2 0, 4, .inl u.2.1)), (a_tk, .inl (G.2 1, 16, .inl u.2.2.1)), (a_pl, .inl (G.2 0, 16, .inl u.2.2.2.1)), (a_li, .inl (G.2 0, 16, .inl u.2.2.2.2.1)), (a_st, .inl (G.2 0, 16, .inl u.2.2.2.2.2.1)), (a_tr, .inl (G.2 0, 16, .inl u.2.2.2.2.2.2))]) 0 0 := by
  refine CtI.of (by decide) (Nat.le_of_ble_eq_true rfl) [(0, .ref h), (1, .int p0)] rfl ?_
  intro p e s m args below meth c A ls Q hQ S hr hlocks F w hl
  have S : CallFix p m c b_Rule_saidLine 2 s args kx_T "PrefetchRules$Rule" := S
  obtain ⟨hx, hb, hml, hown, hts⟩ := id S
  have w : kx_W G A s ([(h, .inr (4, [.int d, .ref sa, .int u.1, .ref a_tk, .ref a_pl, .ref a_li, .ref a_st, .ref a_tr])), (sa, .inl (G.2 0, 4, .inl u.2.1)), (a_tk, .inl (G.2 1, 16, .inl u.2.2.1)), (a_pl, .inl (G.2 0, 16, .inl u.2.2.2.1)), (a_li, .inl (G.2 0, 16, .inl u.2.2.2.2.1)), (a_st, .inl (G.2 0, 16, .inl u.2.2.2.2.2.1)), (a_tr, .inl (G.2 0, 16, .inl u.2.2.2.2.2.2))] ++ []) s.heap [] := w
  unfold f_Strides_saidLine at hF
  refine lv_iload_n hx hb d_Rule_saidLine_0 rfl (lv_at hl 1 rfl) ?_
  refine lv_if_lt (tgt := 30) hx hb d_Rule_saidLine_1 (by decide) (fun c1 => ?_) (fun c1 => ?_)
  · have hF := kx_t c1 hF
    refine lv_iconst (v := (-1 : Int32)) hx hb d_Rule_saidLine_30 (by decide) ?_
    obtain rfl := Option.some.inj hF
    exact kx_iret hQ S hr hlocks w (xo := [(h, .inr (4, [.int d, .ref sa, .int u.1, .ref a_tk, .ref a_pl, .ref a_li, .ref a_st, .ref a_tr])), (sa, .inl (G.2 0, 4, .inl u.2.1)), (a_tk, .inl (G.2 1, 16, .inl u.2.2.1)), (a_pl, .inl (G.2 0, 16, .inl u.2.2.2.1)), (a_li, .inl (G.2 0, 16, .inl u.2.2.2.2.1)), (a_st, .inl (G.2 0, 16, .inl u.2.2.2.2.2.1)), (a_tr, .inl (G.2 0, 16, .inl u.2.2.2.2.2.2))]) [0, 1, 2, 3, 4, 5, 6] rfl rfl () rfl rfl d_Rule_saidLine_31
  · have hF := kx_f c1 hF
    refine lv_iload_n hx hb d_Rule_saidLine_4 rfl (lv_at hl 1 rfl) ?_
    refine lv_aload_n hx hb d_Rule_saidLine_5 rfl (lv_at hl 0 rfl) ?_
    refine kx_get S F w kc_Strides 0 rfl 2 (by decide) kw_f28b66b365 rfl d_Rule_saidLine_6 ?_
    refine lv_icmp_ge (tgt := 30) hx hb d_Rule_saidLine_9 (by decide) (fun c9 => ?_) (fun c9 => ?_)
    · have hF := kx_t c9 hF
      refine lv_iconst (v := (-1 : Int32)) hx hb d_Rule_saidLine_30 (by decide) ?_
      obtain rfl := Option.some.inj hF
      exact kx_iret hQ S hr hlocks w (xo := [(h, .inr (4, [.int d, .ref sa, .int u.1, .ref a_tk, .ref a_pl, .ref a_li, .ref a_st, .ref a_tr])), (sa, .inl (G.2 0, 4, .inl u.2.1)), (a_tk, .inl (G.2 1, 16, .inl u.2.2.1)), (a_pl, .inl (G.2 0, 16, .inl u.2.2.2.1)), (a_li, .inl (G.2 0, 16, .inl u.2.2.2.2.1)), (a_st, .inl (G.2 0, 16, .inl u.2.2.2.2.2.1)), (a_tr, .inl (G.2 0, 16, .inl u.2.2.2.2.2.2))]) [0, 1, 2, 3, 4, 5, 6] rfl rfl () rfl rfl d_Rule_saidLine_31
    · have hF := kx_f c9 hF
      refine lv_iload_n hx hb d_Rule_saidLine_12 rfl (lv_at hl 1 rfl) ?_
      refine lv_aload_n hx hb d_Rule_saidLine_13 rfl (lv_at hl 0 rfl) ?_
      refine kx_get S F w kc_Strides 0 rfl 1 (by decide) kw_266785f3c2 rfl d_Rule_saidLine_14 ?_
      refine kx_alen S F w 1 0 rfl rfl d_Rule_saidLine_17 ?_
      refine lv_icmp_ge (tgt := 30) hx hb d_Rule_saidLine_18 (by decide) (fun c18 => ?_) (fun c18 => ?_)
      · have hF := kx_t c18 hF
        refine lv_iconst (v := (-1 : Int32)) hx hb d_Rule_saidLine_30 (by decide) ?_
        obtain rfl := Option.some.inj hF
        exact kx_iret hQ S hr hlocks w (xo := [(h, .inr (4, [.int d, .ref sa, .int u.1, .ref a_tk, .ref a_pl, .ref a_li, .ref a_st, .ref a_tr])), (sa, .inl (G.2 0, 4, .inl u.2.1)), (a_tk, .inl (G.2 1, 16, .inl u.2.2.1)), (a_pl, .inl (G.2 0, 16, .inl u.2.2.2.1)), (a_li, .inl (G.2 0, 16, .inl u.2.2.2.2.1)), (a_st, .inl (G.2 0, 16, .inl u.2.2.2.2.2.1)), (a_tr, .inl (G.2 0, 16, .inl u.2.2.2.2.2.2))]) [0, 1, 2, 3, 4, 5, 6] rfl rfl () rfl rfl d_Rule_saidLine_31
      · have hF := kx_f c18 hF
        refine lv_aload_n hx hb d_Rule_saidLine_21 rfl (lv_at hl 0 rfl) ?_
        refine kx_get S F w kc_Strides 0 rfl 1 (by decide) kw_266785f3c2 rfl d_Rule_saidLine_22 ?_
        refine lv_iload_n hx hb d_Rule_saidLine_25 rfl (lv_at hl 1 rfl) ?_
        obtain ⟨hi26, hF⟩ := kx_ar hF
        refine kx_iald S F w 1 rfl hi26 d_Rule_saidLine_26 ?_
        refine lv_goto (tgt := 31) hx hb d_Rule_saidLine_27 (by decide) ?_
        obtain rfl := Option.some.inj hF
        exact kx_iret hQ S hr hlocks w (xo := [(h, .inr (4, [.int d, .ref sa, .int u.1, .ref a_tk, .ref a_pl, .ref a_li, .ref a_st, .ref a_tr])), (sa, .inl (G.2 0, 4, .inl u.2.1)), (a_tk, .inl (G.2 1, 16, .inl u.2.2.1)), (a_pl, .inl (G.2 0, 16, .inl u.2.2.2.1)), (a_li, .inl (G.2 0, 16, .inl u.2.2.2.2.1)), (a_st, .inl (G.2 0, 16, .inl u.2.2.2.2.2.1)), (a_tr, .inl (G.2 0, 16, .inl u.2.2.2.2.2.2))]) [0, 1, 2, 3, 4, 5, 6] rfl rfl () rfl rfl d_Rule_saidLine_31
/-! Strides_roundCount -/
def f_Strides_roundCount (d : Int32) (u : sg_strides) : Option (Int32) := some (0 : Int32)
def rm_Strides_roundCount : Room := { frames := 0, cells := 0, slots := 0, locals := 0 }
set_option maxRecDepth 100000 in
set_option maxHeartbeats 4000000 in
theorem c_Strides_roundCount (l : Launch) (G : kx_G) (h : Nat) (sa : Nat) (d : Int32) (a_tk : Nat) (a_pl : Nat) (a_li : Nat) (a_st : Nat) (a_tr : Nat) (u : sg_strides) (v : Int32) (hF : f_Strides_roundCount d u = some v) : CtI l y_Rule_roundCount b_Rule_roundCount 1 (some .int) rm_Strides_roundCount G [.ref h] [(h, .inr (4, [.int d, .ref sa, .int u.1, .ref a_tk, .ref a_pl, .ref a_li, .ref a_st, .ref a_tr])), (sa, .inl (G.2 0, 4, .inl u.2.1)), (a_tk, .inl (G.2 1, 16, .inl u.2.2.1)), (a_pl, .inl (G.2 0, 16, .inl u.2.2.2.1)), (a_li, .inl (G.2 0, 16, .inl u.2.2.2.2.1)), (a_st, .inl (G.2 0, 16, .inl u.2.2.2.2.2.1)), (a_tr, .inl (G.2 0, 16, .inl u.2.2.2.2.2.2))] (fun (r : Int32) (_ : Unit) => v = r) (fun _ => [(h, .inr (4, [.int d, .ref sa, .int u.1, .ref a_tk, .ref a_pl, .ref a_li, .ref a_st, .ref a_tr])), (sa, .inl (G.2 0, 4, .inl u.2.1)), (a_tk, .inl (G.2 1, 16, .inl u.2.2.1)), (a_pl, .inl (G.2 0, 16, .inl u.2.2.2.1)), (a_li, .inl (G.2 0, 16, .inl u.2.2.2.2.1)), (a_st, .inl (G.2 0, 16, .inl u.2.2.2.2.2.1)), (a_tr, .inl (G.2 0, 16, .inl u.2.2.2.2.2.2))]) 0 0 := by
  refine CtI.of (by decide) (Nat.le_of_ble_eq_true rfl) [(0, .ref h)] rfl ?_
  intro p e s m args below meth c A ls Q hQ S hr hlocks F w hl
  have S : CallFix p m c b_Rule_roundCount 1 s args kx_T "PrefetchRules$Rule" := S
  obtain ⟨hx, hb, hml, hown, hts⟩ := id S
  have w : kx_W G A s ([(h, .inr (4, [.int d, .ref sa, .int u.1, .ref a_tk, .ref a_pl, .ref a_li, .ref a_st, .ref a_tr])), (sa, .inl (G.2 0, 4, .inl u.2.1)), (a_tk, .inl (G.2 1, 16, .inl u.2.2.1)), (a_pl, .inl (G.2 0, 16, .inl u.2.2.2.1)), (a_li, .inl (G.2 0, 16, .inl u.2.2.2.2.1)), (a_st, .inl (G.2 0, 16, .inl u.2.2.2.2.2.1)), (a_tr, .inl (G.2 0, 16, .inl u.2.2.2.2.2.2))] ++ []) s.heap [] := w
  unfold f_Strides_roundCount at hF
  refine lv_iconst (v := (0 : Int32)) hx hb d_Rule_roundCount_0 (by decide) ?_
  obtain rfl := Option.some.inj hF
  exact kx_iret hQ S hr hlocks w (xo := [(h, .inr (4, [.int d, .ref sa, .int u.1, .ref a_tk, .ref a_pl, .ref a_li, .ref a_st, .ref a_tr])), (sa, .inl (G.2 0, 4, .inl u.2.1)), (a_tk, .inl (G.2 1, 16, .inl u.2.2.1)), (a_pl, .inl (G.2 0, 16, .inl u.2.2.2.1)), (a_li, .inl (G.2 0, 16, .inl u.2.2.2.2.1)), (a_st, .inl (G.2 0, 16, .inl u.2.2.2.2.2.1)), (a_tr, .inl (G.2 0, 16, .inl u.2.2.2.2.2.2))]) [0, 1, 2, 3, 4, 5, 6] rfl rfl () rfl rfl d_Rule_roundCount_1
/-! Streams_hear -/
def f_Streams_hear (d : Int32) (u : sg_streams) (p0 : Int32) (p1 : Int32) : Option (sg_streams) := (f_Streams_learn d ((0 : Int32), u.2) p0 p1).bind (fun q8 => some q8)
def rm_Streams_hear : Room := { frames := 4, cells := 0, slots := 0, locals := 90 }
set_option maxRecDepth 100000 in
set_option maxHeartbeats 4000000 in
theorem c_Streams_hear (l : Launch) (G : kx_G) (h : Nat) (sa : Nat) (d : Int32) (a_li : Nat) (a_wy : Nat) (u : sg_streams) (p0 : Int32) (p1 : Int32) (v : sg_streams) (hF : f_Streams_hear d u p0 p1 = some v) : CtV l y_Rule_hear b_Rule_hear 3 rm_Streams_hear G [.ref h, .int p0, .int p1] [(h, .inr (5, [.int d, .ref sa, .int u.1, .ref a_li, .ref a_wy, .int u.2.2.2.2])), (sa, .inl (G.2 0, 4, .inl u.2.1)), (a_li, .inl (G.2 0, 8, .inl u.2.2.1)), (a_wy, .inl (G.2 0, 8, .inl u.2.2.2.1))] (fun w : sg_streams => v = w) (fun w => [(h, .inr (5, [.int d, .ref sa, .int w.1, .ref a_li, .ref a_wy, .int w.2.2.2.2])), (sa, .inl (G.2 0, 4, .inl w.2.1)), (a_li, .inl (G.2 0, 8, .inl w.2.2.1)), (a_wy, .inl (G.2 0, 8, .inl w.2.2.2.1))]) 0 0 := by
  refine CtV.of (by decide) (Nat.le_of_ble_eq_true rfl) [(0, .ref h), (1, .int p0), (2, .int p1)] rfl ?_
  intro p e s m args below meth c A ls Q hQ S hr hlocks hin F w hl
  have S : CallFix p m c b_Rule_hear 3 s args kx_T "PrefetchRules$Rule" := S
  obtain ⟨hx, hb, hml, hown, hts⟩ := id S
  have w : kx_W G A s ([(h, .inr (5, [.int d, .ref sa, .int u.1, .ref a_li, .ref a_wy, .int u.2.2.2.2])), (sa, .inl (G.2 0, 4, .inl u.2.1)), (a_li, .inl (G.2 0, 8, .inl u.2.2.1)), (a_wy, .inl (G.2 0, 8, .inl u.2.2.2.1))] ++ []) s.heap [] := w
  unfold f_Streams_hear at hF
  refine lv_aload_n hx hb d_Rule_hear_0 rfl (lv_at hl 0 rfl) ?_
  refine lv_iconst (v := (0 : Int32)) hx hb d_Rule_hear_1 (by decide) ?_
  refine kx_put S F w kc_Streams 0 rfl 2 (by decide) kw_f28b66b365 rfl rfl rfl (Nat.le_of_ble_eq_true rfl) d_Rule_hear_2 (fun H locs w => ?_)
  have w : kx_W G A s ([(h, .inr (5, [.int d, .ref sa, .int (0 : Int32), .ref a_li, .ref a_wy, .int u.2.2.2.2])), (sa, .inl (G.2 0, 4, .inl u.2.1)), (a_li, .inl (G.2 0, 8, .inl u.2.2.1)), (a_wy, .inl (G.2 0, 8, .inl u.2.2.2.1))] ++ []) H locs := w
  refine lv_aload_n hx hb d_Rule_hear_5 rfl (lv_at hl 0 rfl) ?_
  refine lv_iload_n hx hb d_Rule_hear_6 rfl (lv_at hl 1 rfl) ?_
  refine lv_iload_n hx hb d_Rule_hear_7 rfl (lv_at hl 2 rfl) ?_
  obtain ⟨q8, hq8, hF⟩ := kx_bd hF
  refine kx_cv (cx := [(h, .inr (5, [.int d, .ref sa, .int (0 : Int32), .ref a_li, .ref a_wy, .int u.2.2.2.2])), (sa, .inl (G.2 0, 4, .inl u.2.1)), (a_li, .inl (G.2 0, 8, .inl u.2.2.1)), (a_wy, .inl (G.2 0, 8, .inl u.2.2.2.1))]) (wr := []) F w [0, 1, 2, 3] [] rfl rfl rfl (by decide) (va_runU (As := [.int p0, .int p1]) (rest := []) S (c_Streams_learn l G h sa d a_li a_wy ((0 : Int32), u.2) p0 p1 q8 hq8 _) (kx_cwA (n := 2) (x := ⟨"PrefetchRules$Rule", "learn", "(II)V"⟩) S F kw_21b118675f kw_812921046e kw_4987ac2f73 kw_ba7c0f9a30 kw_ef8a4d37e3 kw_9205f02653 kw_498ee79c2d (by decide +kernel) ⟨rfl, rfl, Nat.le_of_ble_eq_true rfl, Nat.le_of_ble_eq_true rfl⟩) ⟨kx_blind _ _ _ _, va_recv (q0 := 0) F.1.1 w.1 kc_Streams.1 rfl, kx_pre F w [0, 1, 2, 3] rfl rfl⟩ rfl rfl hl.1 rfl (lv_room (Nat.le_of_ble_eq_true rfl)) d_Rule_hear_8 ⟨Nat.le_of_ble_eq_true rfl, Nat.le_of_ble_eq_true rfl⟩) (fun w8 H locs hp w => ?_)
  subst hp
  have w : kx_W G A s ([(h, .inr (5, [.int d, .ref sa, .int q8.1, .ref a_li, .ref a_wy, .int q8.2.2.2.2])), (sa, .inl (G.2 0, 4, .inl q8.2.1)), (a_li, .inl (G.2 0, 8, .inl q8.2.2.1)), (a_wy, .inl (G.2 0, 8, .inl q8.2.2.2.1))] ++ []) H locs := w
  obtain rfl := Option.some.inj hF
  exact kx_vret hQ S hr hlocks w (xo := [(h, .inr (5, [.int d, .ref sa, .int q8.1, .ref a_li, .ref a_wy, .int q8.2.2.2.2])), (sa, .inl (G.2 0, 4, .inl q8.2.1)), (a_li, .inl (G.2 0, 8, .inl q8.2.2.1)), (a_wy, .inl (G.2 0, 8, .inl q8.2.2.2.1))]) [0, 1, 2, 3] rfl rfl q8 rfl rfl d_Rule_hear_11
/-! Streams_saidCount -/
def f_Streams_saidCount (d : Int32) (u : sg_streams) : Option (Int32) := some u.1
def rm_Streams_saidCount : Room := { frames := 0, cells := 0, slots := 0, locals := 0 }
set_option maxRecDepth 100000 in
set_option maxHeartbeats 4000000 in
theorem c_Streams_saidCount (l : Launch) (G : kx_G) (h : Nat) (sa : Nat) (d : Int32) (a_li : Nat) (a_wy : Nat) (u : sg_streams) (v : Int32) (hF : f_Streams_saidCount d u = some v) : CtI l y_Rule_saidCount b_Rule_saidCount 1 (some .int) rm_Streams_saidCount G [.ref h] [(h, .inr (5, [.int d, .ref sa, .int u.1, .ref a_li, .ref a_wy, .int u.2.2.2.2])), (sa, .inl (G.2 0, 4, .inl u.2.1)), (a_li, .inl (G.2 0, 8, .inl u.2.2.1)), (a_wy, .inl (G.2 0, 8, .inl u.2.2.2.1))] (fun (r : Int32) (_ : Unit) => v = r) (fun _ => [(h, .inr (5, [.int d, .ref sa, .int u.1, .ref a_li, .ref a_wy, .int u.2.2.2.2])), (sa, .inl (G.2 0, 4, .inl u.2.1)), (a_li, .inl (G.2 0, 8, .inl u.2.2.1)), (a_wy, .inl (G.2 0, 8, .inl u.2.2.2.1))]) 0 0 := by
  refine CtI.of (by decide) (Nat.le_of_ble_eq_true rfl) [(0, .ref h)] rfl ?_
  intro p e s m args below meth c A ls Q hQ S hr hlocks F w hl
  have S : CallFix p m c b_Rule_saidCount 1 s args kx_T "PrefetchRules$Rule" := S
  obtain ⟨hx, hb, hml, hown, hts⟩ := id S
  have w : kx_W G A s ([(h, .inr (5, [.int d, .ref sa, .int u.1, .ref a_li, .ref a_wy, .int u.2.2.2.2])), (sa, .inl (G.2 0, 4, .inl u.2.1)), (a_li, .inl (G.2 0, 8, .inl u.2.2.1)), (a_wy, .inl (G.2 0, 8, .inl u.2.2.2.1))] ++ []) s.heap [] := w
  unfold f_Streams_saidCount at hF
  refine lv_aload_n hx hb d_Rule_saidCount_0 rfl (lv_at hl 0 rfl) ?_
  refine kx_get S F w kc_Streams 0 rfl 2 (by decide) kw_f28b66b365 rfl d_Rule_saidCount_1 ?_
  obtain rfl := Option.some.inj hF
  exact kx_iret hQ S hr hlocks w (xo := [(h, .inr (5, [.int d, .ref sa, .int u.1, .ref a_li, .ref a_wy, .int u.2.2.2.2])), (sa, .inl (G.2 0, 4, .inl u.2.1)), (a_li, .inl (G.2 0, 8, .inl u.2.2.1)), (a_wy, .inl (G.2 0, 8, .inl u.2.2.2.1))]) [0, 1, 2, 3] rfl rfl () rfl rfl d_Rule_saidCount_4
/-! Streams_saidLine -/
def f_Streams_saidLine (d : Int32) (u : sg_streams) (p0 : Int32) : Option (Int32) := (if p0 < 0 then some (-1 : Int32) else (if u.1 ≤ p0 then some (-1 : Int32) else (if (nI 4) ≤ p0 then some (-1 : Int32) else (if (p0 < 0 ∨ 4 ≤ p0.toNatClampNeg) then none else some (u.2.1 p0.toNatClampNeg)))))
def rm_Streams_saidLine : Room := { frames := 0, cells := 0, slots := 0, locals := 0 }
set_option maxRecDepth 100000 in
set_option maxHeartbeats 4000000 in
theorem c_Streams_saidLine (l : Launch) (G : kx_G) (h : Nat) (sa : Nat) (d : Int32) (a_li : Nat) (a_wy : Nat) (u : sg_streams) (p0 : Int32) (v : Int32) (hF : f_Streams_saidLine d u p0 = some v) : CtI l y_Rule_saidLine b_Rule_saidLine 2 (some .int) rm_Streams_saidLine G [.ref h, .int p0] [(h, .inr (5, [.int d, .ref sa, .int u.1, .ref a_li, .ref a_wy, .int u.2.2.2.2])), (sa, .inl (G.2 0, 4, .inl u.2.1)), (a_li, .inl (G.2 0, 8, .inl u.2.2.1)), (a_wy, .inl (G.2 0, 8, .inl u.2.2.2.1))] (fun (r : Int32) (_ : Unit) => v = r) (fun _ => [(h, .inr (5, [.int d, .ref sa, .int u.1, .ref a_li, .ref a_wy, .int u.2.2.2.2])), (sa, .inl (G.2 0, 4, .inl u.2.1)), (a_li, .inl (G.2 0, 8, .inl u.2.2.1)), (a_wy, .inl (G.2 0, 8, .inl u.2.2.2.1))]) 0 0 := by
  refine CtI.of (by decide) (Nat.le_of_ble_eq_true rfl) [(0, .ref h), (1, .int p0)] rfl ?_
  intro p e s m args below meth c A ls Q hQ S hr hlocks F w hl
  have S : CallFix p m c b_Rule_saidLine 2 s args kx_T "PrefetchRules$Rule" := S
  obtain ⟨hx, hb, hml, hown, hts⟩ := id S
  have w : kx_W G A s ([(h, .inr (5, [.int d, .ref sa, .int u.1, .ref a_li, .ref a_wy, .int u.2.2.2.2])), (sa, .inl (G.2 0, 4, .inl u.2.1)), (a_li, .inl (G.2 0, 8, .inl u.2.2.1)), (a_wy, .inl (G.2 0, 8, .inl u.2.2.2.1))] ++ []) s.heap [] := w
  unfold f_Streams_saidLine at hF
  refine lv_iload_n hx hb d_Rule_saidLine_0 rfl (lv_at hl 1 rfl) ?_
  refine lv_if_lt (tgt := 30) hx hb d_Rule_saidLine_1 (by decide) (fun c1 => ?_) (fun c1 => ?_)
  · have hF := kx_t c1 hF
    refine lv_iconst (v := (-1 : Int32)) hx hb d_Rule_saidLine_30 (by decide) ?_
    obtain rfl := Option.some.inj hF
    exact kx_iret hQ S hr hlocks w (xo := [(h, .inr (5, [.int d, .ref sa, .int u.1, .ref a_li, .ref a_wy, .int u.2.2.2.2])), (sa, .inl (G.2 0, 4, .inl u.2.1)), (a_li, .inl (G.2 0, 8, .inl u.2.2.1)), (a_wy, .inl (G.2 0, 8, .inl u.2.2.2.1))]) [0, 1, 2, 3] rfl rfl () rfl rfl d_Rule_saidLine_31
  · have hF := kx_f c1 hF
    refine lv_iload_n hx hb d_Rule_saidLine_4 rfl (lv_at hl 1 rfl) ?_
    refine lv_aload_n hx hb d_Rule_saidLine_5 rfl (lv_at hl 0 rfl) ?_
    refine kx_get S F w kc_Streams 0 rfl 2 (by decide) kw_f28b66b365 rfl d_Rule_saidLine_6 ?_
    refine lv_icmp_ge (tgt := 30) hx hb d_Rule_saidLine_9 (by decide) (fun c9 => ?_) (fun c9 => ?_)
    · have hF := kx_t c9 hF
      refine lv_iconst (v := (-1 : Int32)) hx hb d_Rule_saidLine_30 (by decide) ?_
      obtain rfl := Option.some.inj hF
      exact kx_iret hQ S hr hlocks w (xo := [(h, .inr (5, [.int d, .ref sa, .int u.1, .ref a_li, .ref a_wy, .int u.2.2.2.2])), (sa, .inl (G.2 0, 4, .inl u.2.1)), (a_li, .inl (G.2 0, 8, .inl u.2.2.1)), (a_wy, .inl (G.2 0, 8, .inl u.2.2.2.1))]) [0, 1, 2, 3] rfl rfl () rfl rfl d_Rule_saidLine_31
    · have hF := kx_f c9 hF
      refine lv_iload_n hx hb d_Rule_saidLine_12 rfl (lv_at hl 1 rfl) ?_
      refine lv_aload_n hx hb d_Rule_saidLine_13 rfl (lv_at hl 0 rfl) ?_
      refine kx_get S F w kc_Streams 0 rfl 1 (by decide) kw_266785f3c2 rfl d_Rule_saidLine_14 ?_
      refine kx_alen S F w 1 0 rfl rfl d_Rule_saidLine_17 ?_
      refine lv_icmp_ge (tgt := 30) hx hb d_Rule_saidLine_18 (by decide) (fun c18 => ?_) (fun c18 => ?_)
      · have hF := kx_t c18 hF
        refine lv_iconst (v := (-1 : Int32)) hx hb d_Rule_saidLine_30 (by decide) ?_
        obtain rfl := Option.some.inj hF
        exact kx_iret hQ S hr hlocks w (xo := [(h, .inr (5, [.int d, .ref sa, .int u.1, .ref a_li, .ref a_wy, .int u.2.2.2.2])), (sa, .inl (G.2 0, 4, .inl u.2.1)), (a_li, .inl (G.2 0, 8, .inl u.2.2.1)), (a_wy, .inl (G.2 0, 8, .inl u.2.2.2.1))]) [0, 1, 2, 3] rfl rfl () rfl rfl d_Rule_saidLine_31
      · have hF := kx_f c18 hF
        refine lv_aload_n hx hb d_Rule_saidLine_21 rfl (lv_at hl 0 rfl) ?_
        refine kx_get S F w kc_Streams 0 rfl 1 (by decide) kw_266785f3c2 rfl d_Rule_saidLine_22 ?_
        refine lv_iload_n hx hb d_Rule_saidLine_25 rfl (lv_at hl 1 rfl) ?_
        obtain ⟨hi26, hF⟩ := kx_ar hF
        refine kx_iald S F w 1 rfl hi26 d_Rule_saidLine_26 ?_
        refine lv_goto (tgt := 31) hx hb d_Rule_saidLine_27 (by decide) ?_
        obtain rfl := Option.some.inj hF
        exact kx_iret hQ S hr hlocks w (xo := [(h, .inr (5, [.int d, .ref sa, .int u.1, .ref a_li, .ref a_wy, .int u.2.2.2.2])), (sa, .inl (G.2 0, 4, .inl u.2.1)), (a_li, .inl (G.2 0, 8, .inl u.2.2.1)), (a_wy, .inl (G.2 0, 8, .inl u.2.2.2.1))]) [0, 1, 2, 3] rfl rfl () rfl rfl d_Rule_saidLine_31
/-! Streams_roundCount -/
def f_Streams_roundCount (d : Int32) (u : sg_streams) : Option (Int32) := some (0 : Int32)
def rm_Streams_roundCount : Room := { frames := 0, cells := 0, slots := 0, locals := 0 }
set_option maxRecDepth 100000 in
set_option maxHeartbeats 4000000 in
theorem c_Streams_roundCount (l : Launch) (G : kx_G) (h : Nat) (sa : Nat) (d : Int32) (a_li : Nat) (a_wy : Nat) (u : sg_streams) (v : Int32) (hF : f_Streams_roundCount d u = some v) : CtI l y_Rule_roundCount b_Rule_roundCount 1 (some .int) rm_Streams_roundCount G [.ref h] [(h, .inr (5, [.int d, .ref sa, .int u.1, .ref a_li, .ref a_wy, .int u.2.2.2.2])), (sa, .inl (G.2 0, 4, .inl u.2.1)), (a_li, .inl (G.2 0, 8, .inl u.2.2.1)), (a_wy, .inl (G.2 0, 8, .inl u.2.2.2.1))] (fun (r : Int32) (_ : Unit) => v = r) (fun _ => [(h, .inr (5, [.int d, .ref sa, .int u.1, .ref a_li, .ref a_wy, .int u.2.2.2.2])), (sa, .inl (G.2 0, 4, .inl u.2.1)), (a_li, .inl (G.2 0, 8, .inl u.2.2.1)), (a_wy, .inl (G.2 0, 8, .inl u.2.2.2.1))]) 0 0 := by
  refine CtI.of (by decide) (Nat.le_of_ble_eq_true rfl) [(0, .ref h)] rfl ?_
  intro p e s m args below meth c A ls Q hQ S hr hlocks F w hl
  have S : CallFix p m c b_Rule_roundCount 1 s args kx_T "PrefetchRules$Rule" := S
  obtain ⟨hx, hb, hml, hown, hts⟩ := id S
  have w : kx_W G A s ([(h, .inr (5, [.int d, .ref sa, .int u.1, .ref a_li, .ref a_wy, .int u.2.2.2.2])), (sa, .inl (G.2 0, 4, .inl u.2.1)), (a_li, .inl (G.2 0, 8, .inl u.2.2.1)), (a_wy, .inl (G.2 0, 8, .inl u.2.2.2.1))] ++ []) s.heap [] := w
  unfold f_Streams_roundCount at hF
  refine lv_iconst (v := (0 : Int32)) hx hb d_Rule_roundCount_0 (by decide) ?_
  obtain rfl := Option.some.inj hF
  exact kx_iret hQ S hr hlocks w (xo := [(h, .inr (5, [.int d, .ref sa, .int u.1, .ref a_li, .ref a_wy, .int u.2.2.2.2])), (sa, .inl (G.2 0, 4, .inl u.2.1)), (a_li, .inl (G.2 0, 8, .inl u.2.2.1)), (a_wy, .inl (G.2 0, 8, .inl u.2.2.2.1))]) [0, 1, 2, 3] rfl rfl () rfl rfl d_Rule_roundCount_1
/-! Strides_init -/
def rm_Strides_init : Room := { frames := 2, cells := 6, slots := 84, locals := 41 }
set_option maxRecDepth 100000 in
set_option maxHeartbeats 4000000 in
theorem c_Strides_init (l : Launch) (G : kx_G) (h : Nat) (p0 : Int32) : CtV l y_Strides_init b_Strides_init 2 rm_Strides_init G [.ref h, .int p0] [(h, .inr (4, [.int 0, .null, .int 0, .null, .null, .null, .null, .null]))] (fun (_ : Nat × Nat × Nat × Nat × Nat × Nat) => True) (fun w => [(h, .inr (4, [.int p0, .ref w.1, .int 0, .ref w.2.1, .ref w.2.2.1, .ref w.2.2.2.1, .ref w.2.2.2.2.1, .ref w.2.2.2.2.2])), (w.1, .inl (G.2 0, 4, .inl (fun _ => 0))), (w.2.1, .inl (G.2 1, 16, .inl (fun _ => 0))), (w.2.2.1, .inl (G.2 0, 16, .inl (fun _ => 0))), (w.2.2.2.1, .inl (G.2 0, 16, .inl (fun _ => 0))), (w.2.2.2.2.1, .inl (G.2 0, 16, .inl (fun _ => 0))), (w.2.2.2.2.2, .inl (G.2 0, 16, .inl (fun _ => 0)))]) 6 84 := by
  refine CtV.of (by decide) (Nat.le_of_ble_eq_true rfl) [(0, .ref h), (1, .int p0)] rfl ?_
  intro p e s m args below meth c A ls Q hQ S hr hlocks hin F w hl
  have S : CallFix p m c b_Strides_init 2 s args kx_T "PrefetchRules$Strides" := S
  obtain ⟨hx, hb, hml, hown, hts⟩ := id S
  have w : kx_W G A s ([(h, .inr (4, [.int 0, .null, .int 0, .null, .null, .null, .null, .null]))] ++ []) s.heap [] := w
  refine lv_aload_n hx hb d_Strides_init_0 rfl (lv_at hl 0 rfl) ?_
  refine lv_iload_n hx hb d_Strides_init_1 rfl (lv_at hl 1 rfl) ?_
  refine kx_cv (cx := [(h, .inr (4, [.int 0, .null, .int 0, .null, .null, .null, .null, .null]))]) (wr := []) F w [0] [] rfl rfl rfl (by decide) (va_runI (As := [.int p0]) (rest := []) S (c_Rule_init l G 4 ("PrefetchRules$Strides") F_Strides 8 t_Strides h ([.null, .null, .null, .null, .null]) kr_Strides p0 _) (kx_cwI S mi_Rule_init kw_143c547f37 ⟨rfl, rfl, Nat.le_of_ble_eq_true rfl, Nat.le_of_ble_eq_true rfl⟩) ⟨kx_blind _ _ _ _, kx_pre F w [0] rfl rfl⟩ rfl rfl hl.1 rfl (lv_room (Nat.le_of_ble_eq_true rfl)) d_Strides_init_2 ⟨Nat.le_of_ble_eq_true rfl, Nat.le_of_ble_eq_true rfl⟩) (fun w2 H locs hp w => ?_)
  have w : kx_W G A s ([(h, .inr (4, [.int p0, .ref w2, .int 0, .null, .null, .null, .null, .null])), (w2, .inl (G.2 0, 4, .inl (fun _ => 0)))] ++ []) H locs := w
  refine lv_aload_n hx hb d_Strides_init_5 rfl (lv_at hl 0 rfl) ?_
  refine lv_bipush (v := (16 : Int32)) hx hb d_Strides_init_6 (by decide) ?_
  refine kx_newz S F w kw_3c893b368c (N' := 16) (by decide) (by decide) (by decide) (Nat.le_of_ble_eq_true rfl) (Nat.le_of_ble_eq_true rfl) d_Strides_init_8 (fun b8 H w => ?_)
  have w : kx_W G A s ([(h, .inr (4, [.int p0, .ref w2, .int 0, .null, .null, .null, .null, .null])), (w2, .inl (G.2 0, 4, .inl (fun _ => 0))), (b8, .inl (G.2 1, 16, .inl (fun _ => 0)))] ++ []) H locs := w
  refine kx_putF S F w kc_Strides 0 rfl 3 (by decide) kw_3264763fa4 rfl hin rfl rfl rfl (Nat.le_of_ble_eq_true rfl) d_Strides_init_10 (fun H locs w => ?_)
  have w : kx_W G A s ([(h, .inr (4, [.int p0, .ref w2, .int 0, .ref b8, .null, .null, .null, .null])), (w2, .inl (G.2 0, 4, .inl (fun _ => 0))), (b8, .inl (G.2 1, 16, .inl (fun _ => 0)))] ++ []) H locs := w
  refine lv_aload_n hx hb d_Strides_init_13 rfl (lv_at hl 0 rfl) ?_
  refine lv_bipush (v := (16 : Int32)) hx hb d_Strides_init_14 (by decide) ?_
  refine kx_newi S F w kw_32e41f54b3 (N' := 16) (by decide) (by decide) (by decide) (Nat.le_of_ble_eq_true rfl) (Nat.le_of_ble_eq_true rfl) d_Strides_init_16 (fun b16 H w => ?_)
  have w : kx_W G A s ([(h, .inr (4, [.int p0, .ref w2, .int 0, .ref b8, .null, .null, .null, .null])), (w2, .inl (G.2 0, 4, .inl (fun _ => 0))), (b8, .inl (G.2 1, 16, .inl (fun _ => 0))), (b16, .inl (G.2 0, 16, .inl (fun _ => 0)))] ++ []) H locs := w
  refine kx_putF S F w kc_Strides 0 rfl 4 (by decide) kw_9f60197caf rfl hin rfl rfl rfl (Nat.le_of_ble_eq_true rfl) d_Strides_init_18 (fun H locs w => ?_)
  have w : kx_W G A s ([(h, .inr (4, [.int p0, .ref w2, .int 0, .ref b8, .ref b16, .null, .null, .null])), (w2, .inl (G.2 0, 4, .inl (fun _ => 0))), (b8, .inl (G.2 1, 16, .inl (fun _ => 0))), (b16, .inl (G.2 0, 16, .inl (fun _ => 0)))] ++ []) H locs := w
  refine lv_aload_n hx hb d_Strides_init_21 rfl (lv_at hl 0 rfl) ?_
  refine lv_bipush (v := (16 : Int32)) hx hb d_Strides_init_22 (by decide) ?_
  refine kx_newi S F w kw_32e41f54b3 (N' := 16) (by decide) (by decide) (by decide) (Nat.le_of_ble_eq_true rfl) (Nat.le_of_ble_eq_true rfl) d_Strides_init_24 (fun b24 H w => ?_)
  have w : kx_W G A s ([(h, .inr (4, [.int p0, .ref w2, .int 0, .ref b8, .ref b16, .null, .null, .null])), (w2, .inl (G.2 0, 4, .inl (fun _ => 0))), (b8, .inl (G.2 1, 16, .inl (fun _ => 0))), (b16, .inl (G.2 0, 16, .inl (fun _ => 0))), (b24, .inl (G.2 0, 16, .inl (fun _ => 0)))] ++ []) H locs := w
  refine kx_putF S F w kc_Strides 0 rfl 5 (by decide) kw_c37cf748b9 rfl hin rfl rfl rfl (Nat.le_of_ble_eq_true rfl) d_Strides_init_26 (fun H locs w => ?_)
  have w : kx_W G A s ([(h, .inr (4, [.int p0, .ref w2, .int 0, .ref b8, .ref b16, .ref b24, .null, .null])), (w2, .inl (G.2 0, 4, .inl (fun _ => 0))), (b8, .inl (G.2 1, 16, .inl (fun _ => 0))), (b16, .inl (G.2 0, 16, .inl (fun _ => 0))), (b24, .inl (G.2 0, 16, .inl (fun _ => 0)))] ++ []) H locs := w
  refine lv_aload_n hx hb d_Strides_init_29 rfl (lv_at hl 0 rfl) ?_
  refine lv_bipush (v := (16 : Int32)) hx hb d_Strides_init_30 (by decide) ?_
  refine kx_newi S F w kw_32e41f54b3 (N' := 16) (by decide) (by decide) (by decide) (Nat.le_of_ble_eq_true rfl) (Nat.le_of_ble_eq_true rfl) d_Strides_init_32 (fun b32 H w => ?_)
  have w : kx_W G A s ([(h, .inr (4, [.int p0, .ref w2, .int 0, .ref b8, .ref b16, .ref b24, .null, .null])), (w2, .inl (G.2 0, 4, .inl (fun _ => 0))), (b8, .inl (G.2 1, 16, .inl (fun _ => 0))), (b16, .inl (G.2 0, 16, .inl (fun _ => 0))), (b24, .inl (G.2 0, 16, .inl (fun _ => 0))), (b32, .inl (G.2 0, 16, .inl (fun _ => 0)))] ++ []) H locs := w
  refine kx_putF S F w kc_Strides 0 rfl 6 (by decide) kw_0860e4f42b rfl hin rfl rfl rfl (Nat.le_of_ble_eq_true rfl) d_Strides_init_34 (fun H locs w => ?_)
  have w : kx_W G A s ([(h, .inr (4, [.int p0, .ref w2, .int 0, .ref b8, .ref b16, .ref b24, .ref b32, .null])), (w2, .inl (G.2 0, 4, .inl (fun _ => 0))), (b8, .inl (G.2 1, 16, .inl (fun _ => 0))), (b16, .inl (G.2 0, 16, .inl (fun _ => 0))), (b24, .inl (G.2 0, 16, .inl (fun _ => 0))), (b32, .inl (G.2 0, 16, .inl (fun _ => 0)))] ++ []) H locs := w
  refine lv_aload_n hx hb d_Strides_init_37 rfl (lv_at hl 0 rfl) ?_
  refine lv_bipush (v := (16 : Int32)) hx hb d_Strides_init_38 (by decide) ?_
  refine kx_newi S F w kw_32e41f54b3 (N' := 16) (by decide) (by decide) (by decide) (Nat.le_of_ble_eq_true rfl) (Nat.le_of_ble_eq_true rfl) d_Strides_init_40 (fun b40 H w => ?_)
  have w : kx_W G A s ([(h, .inr (4, [.int p0, .ref w2, .int 0, .ref b8, .ref b16, .ref b24, .ref b32, .null])), (w2, .inl (G.2 0, 4, .inl (fun _ => 0))), (b8, .inl (G.2 1, 16, .inl (fun _ => 0))), (b16, .inl (G.2 0, 16, .inl (fun _ => 0))), (b24, .inl (G.2 0, 16, .inl (fun _ => 0))), (b32, .inl (G.2 0, 16, .inl (fun _ => 0))), (b40, .inl (G.2 0, 16, .inl (fun _ => 0)))] ++ []) H locs := w
  refine kx_putF S F w kc_Strides 0 rfl 7 (by decide) kw_e88e72f25f rfl hin rfl rfl rfl (Nat.le_of_ble_eq_true rfl) d_Strides_init_42 (fun H locs w => ?_)
  have w : kx_W G A s ([(h, .inr (4, [.int p0, .ref w2, .int 0, .ref b8, .ref b16, .ref b24, .ref b32, .ref b40])), (w2, .inl (G.2 0, 4, .inl (fun _ => 0))), (b8, .inl (G.2 1, 16, .inl (fun _ => 0))), (b16, .inl (G.2 0, 16, .inl (fun _ => 0))), (b24, .inl (G.2 0, 16, .inl (fun _ => 0))), (b32, .inl (G.2 0, 16, .inl (fun _ => 0))), (b40, .inl (G.2 0, 16, .inl (fun _ => 0)))] ++ []) H locs := w
  refine W.widen (k := 6) (n := 84) (Nat.le_of_ble_eq_true rfl) (Nat.le_of_ble_eq_true rfl) ?_
  exact kx_vret hQ S hr hlocks w (xo := [(h, .inr (4, [.int p0, .ref w2, .int 0, .ref b8, .ref b16, .ref b24, .ref b32, .ref b40])), (w2, .inl (G.2 0, 4, .inl (fun _ => 0))), (b8, .inl (G.2 1, 16, .inl (fun _ => 0))), (b16, .inl (G.2 0, 16, .inl (fun _ => 0))), (b24, .inl (G.2 0, 16, .inl (fun _ => 0))), (b32, .inl (G.2 0, 16, .inl (fun _ => 0))), (b40, .inl (G.2 0, 16, .inl (fun _ => 0)))]) [0, 1, 2, 3, 4, 5, 6] rfl rfl (w2, b8, b16, b24, b32, b40) rfl trivial d_Strides_init_45
/-! Streams_init -/
def rm_Streams_init : Room := { frames := 2, cells := 3, slots := 20, locals := 41 }
set_option maxRecDepth 100000 in
set_option maxHeartbeats 4000000 in
theorem c_Streams_init (l : Launch) (G : kx_G) (h : Nat) (p0 : Int32) : CtV l y_Streams_init b_Streams_init 2 rm_Streams_init G [.ref h, .int p0] [(h, .inr (5, [.int 0, .null, .int 0, .null, .null, .int 0]))] (fun (_ : Nat × Nat × Nat) => True) (fun w => [(h, .inr (5, [.int p0, .ref w.1, .int 0, .ref w.2.1, .ref w.2.2, .int 0])), (w.1, .inl (G.2 0, 4, .inl (fun _ => 0))), (w.2.1, .inl (G.2 0, 8, .inl (fun _ => 0))), (w.2.2, .inl (G.2 0, 8, .inl (fun _ => 0)))]) 3 20 := by
  refine CtV.of (by decide) (Nat.le_of_ble_eq_true rfl) [(0, .ref h), (1, .int p0)] rfl ?_
  intro p e s m args below meth c A ls Q hQ S hr hlocks hin F w hl
  have S : CallFix p m c b_Streams_init 2 s args kx_T "PrefetchRules$Streams" := S
  obtain ⟨hx, hb, hml, hown, hts⟩ := id S
  have w : kx_W G A s ([(h, .inr (5, [.int 0, .null, .int 0, .null, .null, .int 0]))] ++ []) s.heap [] := w
  refine lv_aload_n hx hb d_Streams_init_0 rfl (lv_at hl 0 rfl) ?_
  refine lv_iload_n hx hb d_Streams_init_1 rfl (lv_at hl 1 rfl) ?_
  refine kx_cv (cx := [(h, .inr (5, [.int 0, .null, .int 0, .null, .null, .int 0]))]) (wr := []) F w [0] [] rfl rfl rfl (by decide) (va_runI (As := [.int p0]) (rest := []) S (c_Rule_init l G 5 ("PrefetchRules$Streams") F_Streams 6 t_Streams h ([.null, .null, .int 0]) kr_Streams p0 _) (kx_cwI S mi_Rule_init kw_afa028a366 ⟨rfl, rfl, Nat.le_of_ble_eq_true rfl, Nat.le_of_ble_eq_true rfl⟩) ⟨kx_blind _ _ _ _, kx_pre F w [0] rfl rfl⟩ rfl rfl hl.1 rfl (lv_room (Nat.le_of_ble_eq_true rfl)) d_Streams_init_2 ⟨Nat.le_of_ble_eq_true rfl, Nat.le_of_ble_eq_true rfl⟩) (fun w2 H locs hp w => ?_)
  have w : kx_W G A s ([(h, .inr (5, [.int p0, .ref w2, .int 0, .null, .null, .int 0])), (w2, .inl (G.2 0, 4, .inl (fun _ => 0)))] ++ []) H locs := w
  refine lv_aload_n hx hb d_Streams_init_5 rfl (lv_at hl 0 rfl) ?_
  refine lv_bipush (v := (8 : Int32)) hx hb d_Streams_init_6 (by decide) ?_
  refine kx_newi S F w kw_32e41f54b3 (N' := 8) (by decide) (by decide) (by decide) (Nat.le_of_ble_eq_true rfl) (Nat.le_of_ble_eq_true rfl) d_Streams_init_8 (fun b8 H w => ?_)
  have w : kx_W G A s ([(h, .inr (5, [.int p0, .ref w2, .int 0, .null, .null, .int 0])), (w2, .inl (G.2 0, 4, .inl (fun _ => 0))), (b8, .inl (G.2 0, 8, .inl (fun _ => 0)))] ++ []) H locs := w
  refine kx_putF S F w kc_Streams 0 rfl 3 (by decide) kw_e81286a8b8 rfl hin rfl rfl rfl (Nat.le_of_ble_eq_true rfl) d_Streams_init_10 (fun H locs w => ?_)
  have w : kx_W G A s ([(h, .inr (5, [.int p0, .ref w2, .int 0, .ref b8, .null, .int 0])), (w2, .inl (G.2 0, 4, .inl (fun _ => 0))), (b8, .inl (G.2 0, 8, .inl (fun _ => 0)))] ++ []) H locs := w
  refine lv_aload_n hx hb d_Streams_init_13 rfl (lv_at hl 0 rfl) ?_
  refine lv_bipush (v := (8 : Int32)) hx hb d_Streams_init_14 (by decide) ?_
  refine kx_newi S F w kw_32e41f54b3 (N' := 8) (by decide) (by decide) (by decide) (Nat.le_of_ble_eq_true rfl) (Nat.le_of_ble_eq_true rfl) d_Streams_init_16 (fun b16 H w => ?_)
  have w : kx_W G A s ([(h, .inr (5, [.int p0, .ref w2, .int 0, .ref b8, .null, .int 0])), (w2, .inl (G.2 0, 4, .inl (fun _ => 0))), (b8, .inl (G.2 0, 8, .inl (fun _ => 0))), (b16, .inl (G.2 0, 8, .inl (fun _ => 0)))] ++ []) H locs := w
  refine kx_putF S F w kc_Streams 0 rfl 4 (by decide) kw_f75e26bc13 rfl hin rfl rfl rfl (Nat.le_of_ble_eq_true rfl) d_Streams_init_18 (fun H locs w => ?_)
  have w : kx_W G A s ([(h, .inr (5, [.int p0, .ref w2, .int 0, .ref b8, .ref b16, .int 0])), (w2, .inl (G.2 0, 4, .inl (fun _ => 0))), (b8, .inl (G.2 0, 8, .inl (fun _ => 0))), (b16, .inl (G.2 0, 8, .inl (fun _ => 0)))] ++ []) H locs := w
  refine W.widen (k := 3) (n := 20) (Nat.le_of_ble_eq_true rfl) (Nat.le_of_ble_eq_true rfl) ?_
  exact kx_vret hQ S hr hlocks w (xo := [(h, .inr (5, [.int p0, .ref w2, .int 0, .ref b8, .ref b16, .int 0])), (w2, .inl (G.2 0, 4, .inl (fun _ => 0))), (b8, .inl (G.2 0, 8, .inl (fun _ => 0))), (b16, .inl (G.2 0, 8, .inl (fun _ => 0)))]) [0, 1, 2, 3] rfl rfl (w2, b8, b16) rfl trivial d_Streams_init_21
