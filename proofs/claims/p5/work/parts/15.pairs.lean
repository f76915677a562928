/-! Pairs_rowOf -/
def f_Pairs_rowOf (p0 : Int32) : Option (Int32) := some (p0 &&& (63 : Int32))
def rm_Pairs_rowOf : Room := { frames := 0, cells := 0, slots := 0, locals := 0 }
set_option maxRecDepth 100000 in
set_option maxHeartbeats 4000000 in
theorem c_Pairs_rowOf (l : Launch) (G : kx_G) (p0 : Int32) (v : Int32) (hF : f_Pairs_rowOf p0 = some v) : CtI l y_Pairs_rowOf b_Pairs_rowOf 1 (some .int) rm_Pairs_rowOf G [.int p0] [] (fun (r : Int32) (_ : Unit) => v = r) (fun _ => []) 0 0 := by
  refine CtI.of (by decide) (Nat.le_of_ble_eq_true rfl) [(0, .int p0)] rfl ?_
  intro p e s m args below meth c A ls Q hQ S hr hlocks F w hl
  have S : CallFix p m c b_Pairs_rowOf 1 s args kx_T "PrefetchRules$Pairs" := S
  obtain ⟨hx, hb, hml, hown, hts⟩ := id S
  have w : kx_W G A s ([] ++ []) s.heap [] := w
  unfold f_Pairs_rowOf at hF
  refine lv_iload_n hx hb d_Pairs_rowOf_0 rfl (lv_at hl 0 rfl) ?_
  refine lv_bipush (v := (63 : Int32)) hx hb d_Pairs_rowOf_1 (by decide) ?_
  refine lv_iand hx hb d_Pairs_rowOf_3 ?_
  obtain rfl := Option.some.inj hF
  exact kx_iret hQ S hr hlocks w (xo := []) [] rfl rfl () rfl rfl d_Pairs_rowOf_4
/-! Pairs_isOwn -/
def f_Pairs_isOwn (d : Int32) (u : sg_pairs) (p0 : Int32) (p1 : Int32) : Option (Int32) := (if (p0 < 0 ∨ 64 ≤ p0.toNatClampNeg) then none else (if (u.2.2.1 p0.toNatClampNeg) = 0 then some (0 : Int32) else (if (p0 < 0 ∨ 64 ≤ p0.toNatClampNeg) then none else (if (u.2.2.2.1 p0.toNatClampNeg) = p1 then some (1 : Int32) else some (0 : Int32)))))
def rm_Pairs_isOwn : Room := { frames := 0, cells := 0, slots := 0, locals := 0 }
set_option maxRecDepth 100000 in
set_option maxHeartbeats 4000000 in
theorem c_Pairs_isOwn (l : Launch) (G : kx_G) (h : Nat) (sa : Nat) (d : Int32) (a_tk : Nat) (a_ow : Nat) (a_be : Nat) (a_ne : Nat) (a_ol : Nat) (u : sg_pairs) (p0 : Int32) (p1 : Int32) (v : Int32) (hF : f_Pairs_isOwn d u p0 p1 = some v) : CtI l y_Pairs_isOwn b_Pairs_isOwn 3 (some .boolean) rm_Pairs_isOwn G [.ref h, .int p0, .int p1] [(h, .inr (7, [.int d, .ref sa, .int u.1, .ref a_tk, .ref a_ow, .ref a_be, .ref a_ne, .ref a_ol, .int u.2.2.2.2.2.2.2.1, .int u.2.2.2.2.2.2.2.2])), (sa, .inl (G.2 0, 4, .inl u.2.1)), (a_tk, .inl (G.2 1, 64, .inl u.2.2.1)), (a_ow, .inl (G.2 0, 64, .inl u.2.2.2.1)), (a_be, .inl (G.2 0, 64, .inl u.2.2.2.2.1)), (a_ne, .inl (G.2 0, 64, .inl u.2.2.2.2.2.1)), (a_ol, .inl (G.2 0, 64, .inl u.2.2.2.2.2.2.1))] (fun (r : Int32) (_ : Unit) => v = r) (fun _ => [(h, .inr (7, [.int d, .ref sa, .int u.1, .ref a_tk, .ref a_ow, .ref a_be, .ref a_ne, .ref a_ol, .int u.2.2.2.2.2.2.2.1, .int u.2.2.2.2.2.2.2.2])), (sa, .inl (G.2 0, 4, .inl u.2.1)), (a_tk, .inl (G.2 1, 64, .inl u.2.2.1)), (a_ow, .inl (G.2 0, 64, .inl u.2.2.2.1)), (a_be, .inl (G.2 0, 64, .inl u.2.2.2.2.1)), (a_ne, .inl (G.2 0, 64, .inl u.2.2.2.2.2.1)), (a_ol, .inl (G.2 0, 64, .inl u.2.2.2.2.2.2.1))]) 0 0 := by
  refine CtI.of (by decide) (Nat.le_of_ble_eq_true rfl) [(0, .ref h), (1, .int p0), (2, .int p1)] rfl ?_
  intro p e s m args below meth c A ls Q hQ S hr hlocks F w hl
  have S : CallFix p m c b_Pairs_isOwn 3 s args kx_T "PrefetchRules$Pairs" := S
  obtain ⟨hx, hb, hml, hown, hts⟩ := id S
  have w : kx_W G A s ([(h, .inr (7, [.int d, .ref sa, .int u.1, .ref a_tk, .ref a_ow, .ref a_be, .ref a_ne, .ref a_ol, .int u.2.2.2.2.2.2.2.1, .int u.2.2.2.2.2.2.2.2])), (sa, .inl (G.2 0, 4, .inl u.2.1)), (a_tk, .inl (G.2 1, 64, .inl u.2.2.1)), (a_ow, .inl (G.2 0, 64, .inl u.2.2.2.1)), (a_be, .inl (G.2 0, 64, .inl u.2.2.2.2.1)), (a_ne, .inl (G.2 0, 64, .inl u.2.2.2.2.2.1)), (a_ol, .inl (G.2 0, 64, .inl u.2.2.2.2.2.2.1))] ++ []) s.heap [] := w
  unfold f_Pairs_isOwn at hF
  refine lv_aload_n hx hb d_Pairs_isOwn_0 rfl (lv_at hl 0 rfl) ?_
  refine kx_get S F w kc_Pairs 0 rfl 3 (by decide) kw_1f8f065a79 rfl d_Pairs_isOwn_1 ?_
  refine lv_iload_n hx hb d_Pairs_isOwn_4 rfl (lv_at hl 1 rfl) ?_
  obtain ⟨hi5, hF⟩ := kx_ar hF
  refine kx_zald S F w 2 rfl hi5 d_Pairs_isOwn_5 ?_
  refine lv_if_eq (tgt := 23) hx hb d_Pairs_isOwn_6 (by decide) (fun c6 => ?_) (fun c6 => ?_)
  · have hF := kx_t c6 hF
    refine lv_iconst (v := (0 : Int32)) hx hb d_Pairs_isOwn_23 (by decide) ?_
    obtain rfl := Option.some.inj hF
    exact kx_zret hQ S hr hlocks (by decide) w (xo := [(h, .inr (7, [.int d, .ref sa, .int u.1, .ref a_tk, .ref a_ow, .ref a_be, .ref a_ne, .ref a_ol, .int u.2.2.2.2.2.2.2.1, .int u.2.2.2.2.2.2.2.2])), (sa, .inl (G.2 0, 4, .inl u.2.1)), (a_tk, .inl (G.2 1, 64, .inl u.2.2.1)), (a_ow, .inl (G.2 0, 64, .inl u.2.2.2.1)), (a_be, .inl (G.2 0, 64, .inl u.2.2.2.2.1)), (a_ne, .inl (G.2 0, 64, .inl u.2.2.2.2.2.1)), (a_ol, .inl (G.2 0, 64, .inl u.2.2.2.2.2.2.1))]) [0, 1, 2, 3, 4, 5, 6] rfl rfl () rfl rfl d_Pairs_isOwn_24
  · have hF := kx_f c6 hF
    refine lv_aload_n hx hb d_Pairs_isOwn_9 rfl (lv_at hl 0 rfl) ?_
    refine kx_get S F w kc_Pairs 0 rfl 4 (by decide) kw_a89b35cae7 rfl d_Pairs_isOwn_10 ?_
    refine lv_iload_n hx hb d_Pairs_isOwn_13 rfl (lv_at hl 1 rfl) ?_
    obtain ⟨hi14, hF⟩ := kx_ar hF
    refine kx_iald S F w 3 rfl hi14 d_Pairs_isOwn_14 ?_
    refine lv_iload_n hx hb d_Pairs_isOwn_15 rfl (lv_at hl 2 rfl) ?_
    refine lv_icmp_ne (tgt := 23) hx hb d_Pairs_isOwn_16 (by decide) (fun c16 => ?_) (fun c16 => ?_)
    · have hF := kx_f c16 hF
      refine lv_iconst (v := (0 : Int32)) hx hb d_Pairs_isOwn_23 (by decide) ?_
      obtain rfl := Option.some.inj hF
      exact kx_zret hQ S hr hlocks (by decide) w (xo := [(h, .inr (7, [.int d, .ref sa, .int u.1, .ref a_tk, .ref a_ow, .ref a_be, .ref a_ne, .ref a_ol, .int u.2.2.2.2.2.2.2.1, .int u.2.2.2.2.2.2.2.2])), (sa, .inl (G.2 0, 4, .inl u.2.1)), (a_tk, .inl (G.2 1, 64, .inl u.2.2.1)), (a_ow, .inl (G.2 0, 64, .inl u.2.2.2.1)), (a_be, .inl (G.2 0, 64, .inl u.2.2.2.2.1)), (a_ne, .inl (G.2 0, 64, .inl u.2.2.2.2.2.1)), (a_ol, .inl (G.2 0, 64, .inl u.2.2.2.2.2.2.1))]) [0, 1, 2, 3, 4, 5, 6] rfl rfl () rfl rfl d_Pairs_isOwn_24
    · have hF := kx_t c16 hF
      refine lv_iconst (v := (1 : Int32)) hx hb d_Pairs_isOwn_19 (by decide) ?_
      refine lv_goto (tgt := 24) hx hb d_Pairs_isOwn_20 (by decide) ?_
      obtain rfl := Option.some.inj hF
      exact kx_zret hQ S hr hlocks (by decide) w (xo := [(h, .inr (7, [.int d, .ref sa, .int u.1, .ref a_tk, .ref a_ow, .ref a_be, .ref a_ne, .ref a_ol, .int u.2.2.2.2.2.2.2.1, .int u.2.2.2.2.2.2.2.2])), (sa, .inl (G.2 0, 4, .inl u.2.1)), (a_tk, .inl (G.2 1, 64, .inl u.2.2.1)), (a_ow, .inl (G.2 0, 64, .inl u.2.2.2.1)), (a_be, .inl (G.2 0, 64, .inl u.2.2.2.2.1)), (a_ne, .inl (G.2 0, 64, .inl u.2.2.2.2.2.1)), (a_ol, .inl (G.2 0, 64, .inl u.2.2.2.2.2.2.1))]) [0, 1, 2, 3, 4, 5, 6] rfl rfl () rfl rfl d_Pairs_isOwn_24
/-! Pairs_behindCount -/
def f_Pairs_behindCount (d : Int32) (u : sg_pairs) (p0 : Int32) : Option (Int32) := (f_Pairs_rowOf p0).bind (fun q1 => (f_Pairs_isOwn d u q1 p0).bind (fun q8 => (if q8 = 0 then some (0 : Int32) else (if (q1 < 0 ∨ 64 ≤ q1.toNatClampNeg) then none else some (u.2.2.2.2.1 q1.toNatClampNeg)))))
def rm_Pairs_behindCount : Room := { frames := 1, cells := 0, slots := 0, locals := 22 }
set_option maxRecDepth 100000 in
set_option maxHeartbeats 4000000 in
theorem c_Pairs_behindCount (l : Launch) (G : kx_G) (h : Nat) (sa : Nat) (d : Int32) (a_tk : Nat) (a_ow : Nat) (a_be : Nat) (a_ne : Nat) (a_ol : Nat) (u : sg_pairs) (p0 : Int32) (v : Int32) (hF : f_Pairs_behindCount d u p0 = some v) : CtI l y_Pairs_behindCount b_Pairs_behindCount 3 (some .int) rm_Pairs_behindCount G [.ref h, .int p0] [(h, .inr (7, [.int d, .ref sa, .int u.1, .ref a_tk, .ref a_ow, .ref a_be, .ref a_ne, .ref a_ol, .int u.2.2.2.2.2.2.2.1, .int u.2.2.2.2.2.2.2.2])), (sa, .inl (G.2 0, 4, .inl u.2.1)), (a_tk, .inl (G.2 1, 64, .inl u.2.2.1)), (a_ow, .inl (G.2 0, 64, .inl u.2.2.2.1)), (a_be, .inl (G.2 0, 64, .inl u.2.2.2.2.1)), (a_ne, .inl (G.2 0, 64, .inl u.2.2.2.2.2.1)), (a_ol, .inl (G.2 0, 64, .inl u.2.2.2.2.2.2.1))] (fun (r : Int32) (_ : Unit) => v = r) (fun _ => [(h, .inr (7, [.int d, .ref sa, .int u.1, .ref a_tk, .ref a_ow, .ref a_be, .ref a_ne, .ref a_ol, .int u.2.2.2.2.2.2.2.1, .int u.2.2.2.2.2.2.2.2])), (sa, .inl (G.2 0, 4, .inl u.2.1)), (a_tk, .inl (G.2 1, 64, .inl u.2.2.1)), (a_ow, .inl (G.2 0, 64, .inl u.2.2.2.1)), (a_be, .inl (G.2 0, 64, .inl u.2.2.2.2.1)), (a_ne, .inl (G.2 0, 64, .inl u.2.2.2.2.2.1)), (a_ol, .inl (G.2 0, 64, .inl u.2.2.2.2.2.2.1))]) 0 0 := by
  refine CtI.of (by decide) (Nat.le_of_ble_eq_true rfl) [(0, .ref h), (1, .int p0)] rfl ?_
  intro p e s m args below meth c A ls Q hQ S hr hlocks F w hl
  have S : CallFix p m c b_Pairs_behindCount 3 s args kx_T "PrefetchRules$Pairs" := S
  obtain ⟨hx, hb, hml, hown, hts⟩ := id S
  have w : kx_W G A s ([(h, .inr (7, [.int d, .ref sa, .int u.1, .ref a_tk, .ref a_ow, .ref a_be, .ref a_ne, .ref a_ol, .int u.2.2.2.2.2.2.2.1, .int u.2.2.2.2.2.2.2.2])), (sa, .inl (G.2 0, 4, .inl u.2.1)), (a_tk, .inl (G.2 1, 64, .inl u.2.2.1)), (a_ow, .inl (G.2 0, 64, .inl u.2.2.2.1)), (a_be, .inl (G.2 0, 64, .inl u.2.2.2.2.1)), (a_ne, .inl (G.2 0, 64, .inl u.2.2.2.2.2.1)), (a_ol, .inl (G.2 0, 64, .inl u.2.2.2.2.2.2.1))] ++ []) s.heap [] := w
  unfold f_Pairs_behindCount at hF
  refine lv_iload_n hx hb d_Pairs_behindCount_0 rfl (lv_at hl 1 rfl) ?_
  obtain ⟨q1, hq1, hF⟩ := kx_bd hF
  refine kx_ci (cx := []) (wr := [(h, .inr (7, [.int d, .ref sa, .int u.1, .ref a_tk, .ref a_ow, .ref a_be, .ref a_ne, .ref a_ol, .int u.2.2.2.2.2.2.2.1, .int u.2.2.2.2.2.2.2.2])), (sa, .inl (G.2 0, 4, .inl u.2.1)), (a_tk, .inl (G.2 1, 64, .inl u.2.2.1)), (a_ow, .inl (G.2 0, 64, .inl u.2.2.2.1)), (a_be, .inl (G.2 0, 64, .inl u.2.2.2.2.1)), (a_ne, .inl (G.2 0, 64, .inl u.2.2.2.2.2.1)), (a_ol, .inl (G.2 0, 64, .inl u.2.2.2.2.2.2.1))]) F w [] [0, 1, 2, 3, 4, 5, 6] rfl rfl rfl (by decide) (va_runS (As := [.int p0]) (rest := []) S (c_Pairs_rowOf l G p0 q1 hq1 _) (kx_cwS S ms_Pairs_rowOf kw_2d7741eb9f ⟨rfl, rfl, Nat.le_of_ble_eq_true rfl, Nat.le_of_ble_eq_true rfl⟩) ⟨kx_blind _ _ _ _, kx_pre F w [] rfl rfl⟩ rfl rfl hl.1 rfl (lv_room (Nat.le_of_ble_eq_true rfl)) d_Pairs_behindCount_1 ⟨Nat.le_of_ble_eq_true rfl, Nat.le_of_ble_eq_true rfl⟩) (fun r1 w1 H locs hp w => ?_)
  subst hp
  have w : kx_W G A s ([(h, .inr (7, [.int d, .ref sa, .int u.1, .ref a_tk, .ref a_ow, .ref a_be, .ref a_ne, .ref a_ol, .int u.2.2.2.2.2.2.2.1, .int u.2.2.2.2.2.2.2.2])), (sa, .inl (G.2 0, 4, .inl u.2.1)), (a_tk, .inl (G.2 1, 64, .inl u.2.2.1)), (a_ow, .inl (G.2 0, 64, .inl u.2.2.2.1)), (a_be, .inl (G.2 0, 64, .inl u.2.2.2.2.1)), (a_ne, .inl (G.2 0, 64, .inl u.2.2.2.2.2.1)), (a_ol, .inl (G.2 0, 64, .inl u.2.2.2.2.2.2.1))] ++ []) H locs := w
  refine lv_istore_n (lv' := [(2, .int q1), (0, .ref h), (1, .int p0)]) hx hb d_Pairs_behindCount_4 rfl hl (by decide) rfl (fun ls hl => ?_)
  refine lv_aload_n hx hb d_Pairs_behindCount_5 rfl (lv_at hl 1 rfl) ?_
  refine lv_iload_n hx hb d_Pairs_behindCount_6 rfl (lv_at hl 0 rfl) ?_
  refine lv_iload_n hx hb d_Pairs_behindCount_7 rfl (lv_at hl 2 rfl) ?_
  obtain ⟨q8, hq8, hF⟩ := kx_bd hF
  refine kx_ci (cx := [(h, .inr (7, [.int d, .ref sa, .int u.1, .ref a_tk, .ref a_ow, .ref a_be, .ref a_ne, .ref a_ol, .int u.2.2.2.2.2.2.2.1, .int u.2.2.2.2.2.2.2.2])), (sa, .inl (G.2 0, 4, .inl u.2.1)), (a_tk, .inl (G.2 1, 64, .inl u.2.2.1)), (a_ow, .inl (G.2 0, 64, .inl u.2.2.2.1)), (a_be, .inl (G.2 0, 64, .inl u.2.2.2.2.1)), (a_ne, .inl (G.2 0, 64, .inl u.2.2.2.2.2.1)), (a_ol, .inl (G.2 0, 64, .inl u.2.2.2.2.2.2.1))]) (wr := []) F w [0, 1, 2, 3, 4, 5, 6] [] rfl rfl rfl (by decide) (va_runV (As := [.int q1, .int p0]) (rest := []) S (c_Pairs_isOwn l G h sa d a_tk a_ow a_be a_ne a_ol u q1 p0 q8 hq8 _) (kx_cwV S mv_Pairs_isOwn kw_17c7d68b9a ⟨rfl, rfl, Nat.le_of_ble_eq_true rfl, Nat.le_of_ble_eq_true rfl⟩) ⟨kx_blind _ _ _ _, va_recv (q0 := 0) F.1.1 w.1 kc_Pairs.1 rfl, kx_pre F w [0, 1, 2, 3, 4, 5, 6] rfl rfl⟩ rfl rfl hl.1 rfl (lv_room (Nat.le_of_ble_eq_true rfl)) d_Pairs_behindCount_8 ⟨Nat.le_of_ble_eq_true rfl, Nat.le_of_ble_eq_true rfl⟩) (fun r8 w8 H locs hp w => ?_)
  subst hp
  have w : kx_W G A s ([(h, .inr (7, [.int d, .ref sa, .int u.1, .ref a_tk, .ref a_ow, .ref a_be, .ref a_ne, .ref a_ol, .int u.2.2.2.2.2.2.2.1, .int u.2.2.2.2.2.2.2.2])), (sa, .inl (G.2 0, 4, .inl u.2.1)), (a_tk, .inl (G.2 1, 64, .inl u.2.2.1)), (a_ow, .inl (G.2 0, 64, .inl u.2.2.2.1)), (a_be, .inl (G.2 0, 64, .inl u.2.2.2.2.1)), (a_ne, .inl (G.2 0, 64, .inl u.2.2.2.2.2.1)), (a_ol, .inl (G.2 0, 64, .inl u.2.2.2.2.2.2.1))] ++ []) H locs := w
  refine lv_if_eq (tgt := 23) hx hb d_Pairs_behindCount_11 (by decide) (fun c11 => ?_) (fun c11 => ?_)
  · have hF := kx_t c11 hF
    refine lv_iconst (v := (0 : Int32)) hx hb d_Pairs_behindCount_23 (by decide) ?_
    obtain rfl := Option.some.inj hF
    exact kx_iret hQ S hr hlocks w (xo := [(h, .inr (7, [.int d, .ref sa, .int u.1, .ref a_tk, .ref a_ow, .ref a_be, .ref a_ne, .ref a_ol, .int u.2.2.2.2.2.2.2.1, .int u.2.2.2.2.2.2.2.2])), (sa, .inl (G.2 0, 4, .inl u.2.1)), (a_tk, .inl (G.2 1, 64, .inl u.2.2.1)), (a_ow, .inl (G.2 0, 64, .inl u.2.2.2.1)), (a_be, .inl (G.2 0, 64, .inl u.2.2.2.2.1)), (a_ne, .inl (G.2 0, 64, .inl u.2.2.2.2.2.1)), (a_ol, .inl (G.2 0, 64, .inl u.2.2.2.2.2.2.1))]) [0, 1, 2, 3, 4, 5, 6] rfl rfl () rfl rfl d_Pairs_behindCount_24
  · have hF := kx_f c11 hF
    refine lv_aload_n hx hb d_Pairs_behindCount_14 rfl (lv_at hl 1 rfl) ?_
    refine kx_get S F w kc_Pairs 0 rfl 5 (by decide) kw_97e607a90d rfl d_Pairs_behindCount_15 ?_
    refine lv_iload_n hx hb d_Pairs_behindCount_18 rfl (lv_at hl 0 rfl) ?_
    obtain ⟨hi19, hF⟩ := kx_ar hF
    refine kx_iald S F w 4 rfl hi19 d_Pairs_behindCount_19 ?_
    refine lv_goto (tgt := 24) hx hb d_Pairs_behindCount_20 (by decide) ?_
    obtain rfl := Option.some.inj hF
    exact kx_iret hQ S hr hlocks w (xo := [(h, .inr (7, [.int d, .ref sa, .int u.1, .ref a_tk, .ref a_ow, .ref a_be, .ref a_ne, .ref a_ol, .int u.2.2.2.2.2.2.2.1, .int u.2.2.2.2.2.2.2.2])), (sa, .inl (G.2 0, 4, .inl u.2.1)), (a_tk, .inl (G.2 1, 64, .inl u.2.2.1)), (a_ow, .inl (G.2 0, 64, .inl u.2.2.2.1)), (a_be, .inl (G.2 0, 64, .inl u.2.2.2.2.1)), (a_ne, .inl (G.2 0, 64, .inl u.2.2.2.2.2.1)), (a_ol, .inl (G.2 0, 64, .inl u.2.2.2.2.2.2.1))]) [0, 1, 2, 3, 4, 5, 6] rfl rfl () rfl rfl d_Pairs_behindCount_24
/-! Pairs_follow -/
def jn_Pairs_follow_35 (d : Int32) (x1 : Int32) (x2 : Int32) (x3 : Int32) (u35 : sg_pairs) : Option (sg_pairs) := (if (x3 < 0 ∨ 64 ≤ x3.toNatClampNeg) then none else (if (u35.2.2.2.2.1 x3.toNatClampNeg) ≤ 0 then (if (x3 < 0 ∨ 64 ≤ x3.toNatClampNeg) then none else (if (x3 < 0 ∨ 64 ≤ x3.toNatClampNeg) then none else (if (x3 < 0 ∨ 64 ≤ x3.toNatClampNeg) then none else (if (x3 < 0 ∨ 64 ≤ x3.toNatClampNeg) then none else (if (x3 < 0 ∨ 64 ≤ x3.toNatClampNeg) then none else some (u35.1, u35.2.1, u35.2.2.1, u35.2.2.2.1, upd u35.2.2.2.2.1 x3.toNatClampNeg (if ((u35.2.2.2.2.1 x3.toNatClampNeg) + (1 : Int32)) < (2 : Int32) then ((u35.2.2.2.2.1 x3.toNatClampNeg) + (1 : Int32)) else (2 : Int32)), upd u35.2.2.2.2.2.1 x3.toNatClampNeg x2, upd u35.2.2.2.2.2.2.1 x3.toNatClampNeg (u35.2.2.2.2.2.1 x3.toNatClampNeg), u35.2.2.2.2.2.2.2)))))) else (if (x3 < 0 ∨ 64 ≤ x3.toNatClampNeg) then none else (if (u35.2.2.2.2.2.1 x3.toNatClampNeg) = x2 then some u35 else (if (x3 < 0 ∨ 64 ≤ x3.toNatClampNeg) then none else (if (x3 < 0 ∨ 64 ≤ x3.toNatClampNeg) then none else (if (x3 < 0 ∨ 64 ≤ x3.toNatClampNeg) then none else (if (x3 < 0 ∨ 64 ≤ x3.toNatClampNeg) then none else (if (x3 < 0 ∨ 64 ≤ x3.toNatClampNeg) then none else some (u35.1, u35.2.1, u35.2.2.1, u35.2.2.2.1, upd u35.2.2.2.2.1 x3.toNatClampNeg (if ((u35.2.2.2.2.1 x3.toNatClampNeg) + (1 : Int32)) < (2 : Int32) then ((u35.2.2.2.2.1 x3.toNatClampNeg) + (1 : Int32)) else (2 : Int32)), upd u35.2.2.2.2.2.1 x3.toNatClampNeg x2, upd u35.2.2.2.2.2.2.1 x3.toNatClampNeg (u35.2.2.2.2.2.1 x3.toNatClampNeg), u35.2.2.2.2.2.2.2))))))))))
def f_Pairs_follow (d : Int32) (u : sg_pairs) (p0 : Int32) (p1 : Int32) : Option (sg_pairs) := (f_Pairs_rowOf p0).bind (fun q1 => (f_Pairs_isOwn d u q1 p0).bind (fun q8 => (if q8 = 0 then (if (q1 < 0 ∨ 64 ≤ q1.toNatClampNeg) then none else (if (q1 < 0 ∨ 64 ≤ q1.toNatClampNeg) then none else (if (q1 < 0 ∨ 64 ≤ q1.toNatClampNeg) then none else jn_Pairs_follow_35 d p0 p1 q1 (u.1, u.2.1, upd u.2.2.1 q1.toNatClampNeg (vp_nar .boolean (1 : Int32)), upd u.2.2.2.1 q1.toNatClampNeg p0, upd u.2.2.2.2.1 q1.toNatClampNeg (0 : Int32), u.2.2.2.2.2)))) else jn_Pairs_follow_35 d p0 p1 q1 u)))
def rm_Pairs_follow : Room := { frames := 1, cells := 0, slots := 0, locals := 22 }
set_option maxRecDepth 100000 in
set_option maxHeartbeats 4000000 in
theorem c_Pairs_follow (l : Launch) (G : kx_G) (h : Nat) (sa : Nat) (d : Int32) (a_tk : Nat) (a_ow : Nat) (a_be : Nat) (a_ne : Nat) (a_ol : Nat) (u : sg_pairs) (p0 : Int32) (p1 : Int32) (v : sg_pairs) (hF : f_Pairs_follow d u p0 p1 = some v) : CtV l y_Pairs_follow b_Pairs_follow 4 rm_Pairs_follow G [.ref h, .int p0, .int p1] [(h, .inr (7, [.int d, .ref sa, .int u.1, .ref a_tk, .ref a_ow, .ref a_be, .ref a_ne, .ref a_ol, .int u.2.2.2.2.2.2.2.1, .int u.2.2.2.2.2.2.2.2])), (sa, .inl (G.2 0, 4, .inl u.2.1)), (a_tk, .inl (G.2 1, 64, .inl u.2.2.1)), (a_ow, .inl (G.2 0, 64, .inl u.2.2.2.1)), (a_be, .inl (G.2 0, 64, .inl u.2.2.2.2.1)), (a_ne, .inl (G.2 0, 64, .inl u.2.2.2.2.2.1)), (a_ol, .inl (G.2 0, 64, .inl u.2.2.2.2.2.2.1))] (fun w : sg_pairs => v = w) (fun w => [(h, .inr (7, [.int d, .ref sa, .int w.1, .ref a_tk, .ref a_ow, .ref a_be, .ref a_ne, .ref a_ol, .int w.2.2.2.2.2.2.2.1, .int w.2.2.2.2.2.2.2.2])), (sa, .inl (G.2 0, 4, .inl w.2.1)), (a_tk, .inl (G.2 1, 64, .inl w.2.2.1)), (a_ow, .inl (G.2 0, 64, .inl w.2.2.2.1)), (a_be, .inl (G.2 0, 64, .inl w.2.2.2.2.1)), (a_ne, .inl (G.2 0, 64, .inl w.2.2.2.2.2.1)), (a_ol, .inl (G.2 0, 64, .inl w.2.2.2.2.2.2.1))]) 0 0 := by
  refine CtV.of (by decide) (Nat.le_of_ble_eq_true rfl) [(0, .ref h), (1, .int p0), (2, .int p1)] rfl ?_
  intro p e s m args below meth c A ls Q hQ S hr hlocks hin F w hl
  have S : CallFix p m c b_Pairs_follow 4 s args kx_T "PrefetchRules$Pairs" := S
  obtain ⟨hx, hb, hml, hown, hts⟩ := id S
  have w : kx_W G A s ([(h, .inr (7, [.int d, .ref sa, .int u.1, .ref a_tk, .ref a_ow, .ref a_be, .ref a_ne, .ref a_ol, .int u.2.2.2.2.2.2.2.1, .int u.2.2.2.2.2.2.2.2])), (sa, .inl (G.2 0, 4, .inl u.2.1)), (a_tk, .inl (G.2 1, 64, .inl u.2.2.1)), (a_ow, .inl (G.2 0, 64, .inl u.2.2.2.1)), (a_be, .inl (G.2 0, 64, .inl u.2.2.2.2.1)), (a_ne, .inl (G.2 0, 64, .inl u.2.2.2.2.2.1)), (a_ol, .inl (G.2 0, 64, .inl u.2.2.2.2.2.2.1))] ++ []) s.heap [] := w
  unfold f_Pairs_follow at hF
  refine lv_iload_n hx hb d_Pairs_follow_0 rfl (lv_at hl 1 rfl) ?_
  obtain ⟨q1, hq1, hF⟩ := kx_bd hF
  refine kx_ci (cx := []) (wr := [(h, .inr (7, [.int d, .ref sa, .int u.1, .ref a_tk, .ref a_ow, .ref a_be, .ref a_ne, .ref a_ol, .int u.2.2.2.2.2.2.2.1, .int u.2.2.2.2.2.2.2.2])), (sa, .inl (G.2 0, 4, .inl u.2.1)), (a_tk, .inl (G.2 1, 64, .inl u.2.2.1)), (a_ow, .inl (G.2 0, 64, .inl u.2.2.2.1)), (a_be, .inl (G.2 0, 64, .inl u.2.2.2.2.1)), (a_ne, .inl (G.2 0, 64, .inl u.2.2.2.2.2.1)), (a_ol, .inl (G.2 0, 64, .inl u.2.2.2.2.2.2.1))]) F w [] [0, 1, 2, 3, 4, 5, 6] rfl rfl rfl (by decide) (va_runS (As := [.int p0]) (rest := []) S (c_Pairs_rowOf l G p0 q1 hq1 _) (kx_cwS S ms_Pairs_rowOf kw_2d7741eb9f ⟨rfl, rfl, Nat.le_of_ble_eq_true rfl, Nat.le_of_ble_eq_true rfl⟩) ⟨kx_blind _ _ _ _, kx_pre F w [] rfl rfl⟩ rfl rfl hl.1 rfl (lv_room (Nat.le_of_ble_eq_true rfl)) d_Pairs_follow_1 ⟨Nat.le_of_ble_eq_true rfl, Nat.le_of_ble_eq_true rfl⟩) (fun r1 w1 H locs hp w => ?_)
  subst hp
  have w : kx_W G A s ([(h, .inr (7, [.int d, .ref sa, .int u.1, .ref a_tk, .ref a_ow, .ref a_be, .ref a_ne, .ref a_ol, .int u.2.2.2.2.2.2.2.1, .int u.2.2.2.2.2.2.2.2])), (sa, .inl (G.2 0, 4, .inl u.2.1)), (a_tk, .inl (G.2 1, 64, .inl u.2.2.1)), (a_ow, .inl (G.2 0, 64, .inl u.2.2.2.1)), (a_be, .inl (G.2 0, 64, .inl u.2.2.2.2.1)), (a_ne, .inl (G.2 0, 64, .inl u.2.2.2.2.2.1)), (a_ol, .inl (G.2 0, 64, .inl u.2.2.2.2.2.2.1))] ++ []) H locs := w
  refine lv_istore_n (lv' := [(3, .int q1), (0, .ref h), (1, .int p0), (2, .int p1)]) hx hb d_Pairs_follow_4 rfl hl (by decide) rfl (fun ls hl => ?_)
  refine lv_aload_n hx hb d_Pairs_follow_5 rfl (lv_at hl 1 rfl) ?_
  refine lv_iload_n hx hb d_Pairs_follow_6 rfl (lv_at hl 0 rfl) ?_
  refine lv_iload_n hx hb d_Pairs_follow_7 rfl (lv_at hl 2 rfl) ?_
  obtain ⟨q8, hq8, hF⟩ := kx_bd hF
  refine kx_ci (cx := [(h, .inr (7, [.int d, .ref sa, .int u.1, .ref a_tk, .ref a_ow, .ref a_be, .ref a_ne, .ref a_ol, .int u.2.2.2.2.2.2.2.1, .int u.2.2.2.2.2.2.2.2])), (sa, .inl (G.2 0, 4, .inl u.2.1)), (a_tk, .inl (G.2 1, 64, .inl u.2.2.1)), (a_ow, .inl (G.2 0, 64, .inl u.2.2.2.1)), (a_be, .inl (G.2 0, 64, .inl u.2.2.2.2.1)), (a_ne, .inl (G.2 0, 64, .inl u.2.2.2.2.2.1)), (a_ol, .inl (G.2 0, 64, .inl u.2.2.2.2.2.2.1))]) (wr := []) F w [0, 1, 2, 3, 4, 5, 6] [] rfl rfl rfl (by decide) (va_runV (As := [.int q1, .int p0]) (rest := []) S (c_Pairs_isOwn l G h sa d a_tk a_ow a_be a_ne a_ol u q1 p0 q8 hq8 _) (kx_cwV S mv_Pairs_isOwn kw_17c7d68b9a ⟨rfl, rfl, Nat.le_of_ble_eq_true rfl, Nat.le_of_ble_eq_true rfl⟩) ⟨kx_blind _ _ _ _, va_recv (q0 := 0) F.1.1 w.1 kc_Pairs.1 rfl, kx_pre F w [0, 1, 2, 3, 4, 5, 6] rfl rfl⟩ rfl rfl hl.1 rfl (lv_room (Nat.le_of_ble_eq_true rfl)) d_Pairs_follow_8 ⟨Nat.le_of_ble_eq_true rfl, Nat.le_of_ble_eq_true rfl⟩) (fun r8 w8 H locs hp w => ?_)
  subst hp
  have w : kx_W G A s ([(h, .inr (7, [.int d, .ref sa, .int u.1, .ref a_tk, .ref a_ow, .ref a_be, .ref a_ne, .ref a_ol, .int u.2.2.2.2.2.2.2.1, .int u.2.2.2.2.2.2.2.2])), (sa, .inl (G.2 0, 4, .inl u.2.1)), (a_tk, .inl (G.2 1, 64, .inl u.2.2.1)), (a_ow, .inl (G.2 0, 64, .inl u.2.2.2.1)), (a_be, .inl (G.2 0, 64, .inl u.2.2.2.2.1)), (a_ne, .inl (G.2 0, 64, .inl u.2.2.2.2.2.1)), (a_ol, .inl (G.2 0, 64, .inl u.2.2.2.2.2.2.1))] ++ []) H locs := w
  have L35 : ∀ (x1 : Int32) (x2 : Int32) (x3 : Int32) (u35 : sg_pairs), jn_Pairs_follow_35 d x1 x2 x3 u35 = some v → ∀ (H : Heap) (locs : List Loc) (ls : Array Slot), kx_W G A s ([(h, .inr (7, [.int d, .ref sa, .int u35.1, .ref a_tk, .ref a_ow, .ref a_be, .ref a_ne, .ref a_ol, .int u35.2.2.2.2.2.2.2.1, .int u35.2.2.2.2.2.2.2.2])), (sa, .inl (G.2 0, 4, .inl u35.2.1)), (a_tk, .inl (G.2 1, 64, .inl u35.2.2.1)), (a_ow, .inl (G.2 0, 64, .inl u35.2.2.2.1)), (a_be, .inl (G.2 0, 64, .inl u35.2.2.2.2.1)), (a_ne, .inl (G.2 0, 64, .inl u35.2.2.2.2.2.1)), (a_ol, .inl (G.2 0, 64, .inl u35.2.2.2.2.2.2.1))] ++ []) H locs → lv_has ls 4 [(0, .ref h), (1, .int x1), (2, .int x2), (3, .int x3)] → W p l e rm_Pairs_follow s m args below meth c H locs 0 0 Q (F0 m 35 ls []) := by
    intro x1 x2 x3 u35 hF H locs ls w hl
    unfold jn_Pairs_follow_35 at hF
    refine lv_aload_n hx hb d_Pairs_follow_35 rfl (lv_at hl 0 rfl) ?_
    refine kx_get S F w kc_Pairs 0 rfl 5 (by decide) kw_97e607a90d rfl d_Pairs_follow_36 ?_
    refine lv_iload_n hx hb d_Pairs_follow_39 rfl (lv_at hl 3 rfl) ?_
    obtain ⟨hi40, hF⟩ := kx_ar hF
    refine kx_iald S F w 4 rfl hi40 d_Pairs_follow_40 ?_
    refine lv_if_le (tgt := 55) hx hb d_Pairs_follow_41 (by decide) (fun c41 => ?_) (fun c41 => ?_)
    · have hF := kx_t c41 hF
      refine lv_aload_n hx hb d_Pairs_follow_55 rfl (lv_at hl 0 rfl) ?_
      refine kx_get S F w kc_Pairs 0 rfl 7 (by decide) kw_696e2a9f7e rfl d_Pairs_follow_56 ?_
      refine lv_iload_n hx hb d_Pairs_follow_59 rfl (lv_at hl 3 rfl) ?_
      refine lv_aload_n hx hb d_Pairs_follow_60 rfl (lv_at hl 0 rfl) ?_
      refine kx_get S F w kc_Pairs 0 rfl 6 (by decide) kw_202a0387b3 rfl d_Pairs_follow_61 ?_
      refine lv_iload_n hx hb d_Pairs_follow_64 rfl (lv_at hl 3 rfl) ?_
      obtain ⟨hi65, hF⟩ := kx_ar hF
      refine kx_iald S F w 5 rfl hi65 d_Pairs_follow_65 ?_
      obtain ⟨hi66, hF⟩ := kx_ar hF
      refine kx_iast S F w 6 rfl hi66 d_Pairs_follow_66 (fun H locs w => ?_)
      have w : kx_W G A s ([(h, .inr (7, [.int d, .ref sa, .int u35.1, .ref a_tk, .ref a_ow, .ref a_be, .ref a_ne, .ref a_ol, .int u35.2.2.2.2.2.2.2.1, .int u35.2.2.2.2.2.2.2.2])), (sa, .inl (G.2 0, 4, .inl u35.2.1)), (a_tk, .inl (G.2 1, 64, .inl u35.2.2.1)), (a_ow, .inl (G.2 0, 64, .inl u35.2.2.2.1)), (a_be, .inl (G.2 0, 64, .inl u35.2.2.2.2.1)), (a_ne, .inl (G.2 0, 64, .inl u35.2.2.2.2.2.1)), (a_ol, .inl (G.2 0, 64, .inl (upd u35.2.2.2.2.2.2.1 x3.toNatClampNeg (u35.2.2.2.2.2.1 x3.toNatClampNeg))))] ++ []) H locs := w
      refine lv_aload_n hx hb d_Pairs_follow_67 rfl (lv_at hl 0 rfl) ?_
      refine kx_get S F w kc_Pairs 0 rfl 6 (by decide) kw_202a0387b3 rfl d_Pairs_follow_68 ?_
      refine lv_iload_n hx hb d_Pairs_follow_71 rfl (lv_at hl 3 rfl) ?_
      refine lv_iload_n hx hb d_Pairs_follow_72 rfl (lv_at hl 2 rfl) ?_
      obtain ⟨hi73, hF⟩ := kx_ar hF
      refine kx_iast S F w 5 rfl hi73 d_Pairs_follow_73 (fun H locs w => ?_)
      have w : kx_W G A s ([(h, .inr (7, [.int d, .ref sa, .int u35.1, .ref a_tk, .ref a_ow, .ref a_be, .ref a_ne, .ref a_ol, .int u35.2.2.2.2.2.2.2.1, .int u35.2.2.2.2.2.2.2.2])), (sa, .inl (G.2 0, 4, .inl u35.2.1)), (a_tk, .inl (G.2 1, 64, .inl u35.2.2.1)), (a_ow, .inl (G.2 0, 64, .inl u35.2.2.2.1)), (a_be, .inl (G.2 0, 64, .inl u35.2.2.2.2.1)), (a_ne, .inl (G.2 0, 64, .inl (upd u35.2.2.2.2.2.1 x3.toNatClampNeg x2))), (a_ol, .inl (G.2 0, 64, .inl (upd u35.2.2.2.2.2.2.1 x3.toNatClampNeg (u35.2.2.2.2.2.1 x3.toNatClampNeg))))] ++ []) H locs := w
      refine lv_aload_n hx hb d_Pairs_follow_74 rfl (lv_at hl 0 rfl) ?_
      refine kx_get S F w kc_Pairs 0 rfl 5 (by decide) kw_97e607a90d rfl d_Pairs_follow_75 ?_
      refine lv_iload_n hx hb d_Pairs_follow_78 rfl (lv_at hl 3 rfl) ?_
      refine lv_iconst (v := (2 : Int32)) hx hb d_Pairs_follow_79 (by decide) ?_
      refine lv_aload_n hx hb d_Pairs_follow_80 rfl (lv_at hl 0 rfl) ?_
      refine kx_get S F w kc_Pairs 0 rfl 5 (by decide) kw_97e607a90d rfl d_Pairs_follow_81 ?_
      refine lv_iload_n hx hb d_Pairs_follow_84 rfl (lv_at hl 3 rfl) ?_
      obtain ⟨hi85, hF⟩ := kx_ar hF
      refine kx_iald S F w 4 rfl hi85 d_Pairs_follow_85 ?_
      refine lv_iconst (v := (1 : Int32)) hx hb d_Pairs_follow_86 (by decide) ?_
      refine lv_iadd hx hb d_Pairs_follow_87 ?_
      refine va_mmin hx hb (by rw [hml]; exact hl.1.symm) hown (hts _ kw_4e5c2148a0) (hts _ kw_86f19dd951) (hts _ kw_ae09fe6d2e) (hts _ kw_45c1916403) (Nat.le_of_ble_eq_true rfl) (Nat.le_of_ble_eq_true rfl) (Nat.zero_le _) (Nat.zero_le _) d_Pairs_follow_88 ?_
      obtain ⟨hi91, hF⟩ := kx_ar hF
      refine kx_iast S F w 4 rfl hi91 d_Pairs_follow_91 (fun H locs w => ?_)
      have w : kx_W G A s ([(h, .inr (7, [.int d, .ref sa, .int u35.1, .ref a_tk, .ref a_ow, .ref a_be, .ref a_ne, .ref a_ol, .int u35.2.2.2.2.2.2.2.1, .int u35.2.2.2.2.2.2.2.2])), (sa, .inl (G.2 0, 4, .inl u35.2.1)), (a_tk, .inl (G.2 1, 64, .inl u35.2.2.1)), (a_ow, .inl (G.2 0, 64, .inl u35.2.2.2.1)), (a_be, .inl (G.2 0, 64, .inl (upd u35.2.2.2.2.1 x3.toNatClampNeg (if ((u35.2.2.2.2.1 x3.toNatClampNeg) + (1 : Int32)) < (2 : Int32) then ((u35.2.2.2.2.1 x3.toNatClampNeg) + (1 : Int32)) else (2 : Int32))))), (a_ne, .inl (G.2 0, 64, .inl (upd u35.2.2.2.2.2.1 x3.toNatClampNeg x2))), (a_ol, .inl (G.2 0, 64, .inl (upd u35.2.2.2.2.2.2.1 x3.toNatClampNeg (u35.2.2.2.2.2.1 x3.toNatClampNeg))))] ++ []) H locs := w
      obtain rfl := Option.some.inj hF
      exact kx_vret hQ S hr hlocks w (xo := [(h, .inr (7, [.int d, .ref sa, .int u35.1, .ref a_tk, .ref a_ow, .ref a_be, .ref a_ne, .ref a_ol, .int u35.2.2.2.2.2.2.2.1, .int u35.2.2.2.2.2.2.2.2])), (sa, .inl (G.2 0, 4, .inl u35.2.1)), (a_tk, .inl (G.2 1, 64, .inl u35.2.2.1)), (a_ow, .inl (G.2 0, 64, .inl u35.2.2.2.1)), (a_be, .inl (G.2 0, 64, .inl (upd u35.2.2.2.2.1 x3.toNatClampNeg (if ((u35.2.2.2.2.1 x3.toNatClampNeg) + (1 : Int32)) < (2 : Int32) then ((u35.2.2.2.2.1 x3.toNatClampNeg) + (1 : Int32)) else (2 : Int32))))), (a_ne, .inl (G.2 0, 64, .inl (upd u35.2.2.2.2.2.1 x3.toNatClampNeg x2))), (a_ol, .inl (G.2 0, 64, .inl (upd u35.2.2.2.2.2.2.1 x3.toNatClampNeg (u35.2.2.2.2.2.1 x3.toNatClampNeg))))]) [0, 1, 2, 3, 4, 5, 6] rfl rfl (u35.1, u35.2.1, u35.2.2.1, u35.2.2.2.1, upd u35.2.2.2.2.1 x3.toNatClampNeg (if ((u35.2.2.2.2.1 x3.toNatClampNeg) + (1 : Int32)) < (2 : Int32) then ((u35.2.2.2.2.1 x3.toNatClampNeg) + (1 : Int32)) else (2 : Int32)), upd u35.2.2.2.2.2.1 x3.toNatClampNeg x2, upd u35.2.2.2.2.2.2.1 x3.toNatClampNeg (u35.2.2.2.2.2.1 x3.toNatClampNeg), u35.2.2.2.2.2.2.2) rfl rfl d_Pairs_follow_92
    · have hF := kx_f c41 hF
      refine lv_aload_n hx hb d_Pairs_follow_44 rfl (lv_at hl 0 rfl) ?_
      refine kx_get S F w kc_Pairs 0 rfl 6 (by decide) kw_202a0387b3 rfl d_Pairs_follow_45 ?_
      refine lv_iload_n hx hb d_Pairs_follow_48 rfl (lv_at hl 3 rfl) ?_
      obtain ⟨hi49, hF⟩ := kx_ar hF
      refine kx_iald S F w 5 rfl hi49 d_Pairs_follow_49 ?_
      refine lv_iload_n hx hb d_Pairs_follow_50 rfl (lv_at hl 2 rfl) ?_
      refine lv_icmp_ne (tgt := 55) hx hb d_Pairs_follow_51 (by decide) (fun c51 => ?_) (fun c51 => ?_)
      · have hF := kx_f c51 hF
        refine lv_aload_n hx hb d_Pairs_follow_55 rfl (lv_at hl 0 rfl) ?_
        refine kx_get S F w kc_Pairs 0 rfl 7 (by decide) kw_696e2a9f7e rfl d_Pairs_follow_56 ?_
        refine lv_iload_n hx hb d_Pairs_follow_59 rfl (lv_at hl 3 rfl) ?_
        refine lv_aload_n hx hb d_Pairs_follow_60 rfl (lv_at hl 0 rfl) ?_
        refine kx_get S F w kc_Pairs 0 rfl 6 (by decide) kw_202a0387b3 rfl d_Pairs_follow_61 ?_
        refine lv_iload_n hx hb d_Pairs_follow_64 rfl (lv_at hl 3 rfl) ?_
        obtain ⟨hi65, hF⟩ := kx_ar hF
        refine kx_iald S F w 5 rfl hi65 d_Pairs_follow_65 ?_
        obtain ⟨hi66, hF⟩ := kx_ar hF
        refine kx_iast S F w 6 rfl hi66 d_Pairs_follow_66 (fun H locs w => ?_)
        have w : kx_W G A s ([(h, .inr (7, [.int d, .ref sa, .int u35.1, .ref a_tk, .ref a_ow, .ref a_be, .ref a_ne, .ref a_ol, .int u35.2.2.2.2.2.2.2.1, .int u35.2.2.2.2.2.2.2.2])), (sa, .inl (G.2 0, 4, .inl u35.2.1)), (a_tk, .inl (G.2 1, 64, .inl u35.2.2.1)), (a_ow, .inl (G.2 0, 64, .inl u35.2.2.2.1)), (a_be, .inl (G.2 0, 64, .inl u35.2.2.2.2.1)), (a_ne, .inl (G.2 0, 64, .inl u35.2.2.2.2.2.1)), (a_ol, .inl (G.2 0, 64, .inl (upd u35.2.2.2.2.2.2.1 x3.toNatClampNeg (u35.2.2.2.2.2.1 x3.toNatClampNeg))))] ++ []) H locs := w
        refine lv_aload_n hx hb d_Pairs_follow_67 rfl (lv_at hl 0 rfl) ?_
        refine kx_get S F w kc_Pairs 0 rfl 6 (by decide) kw_202a0387b3 rfl d_Pairs_follow_68 ?_
        refine lv_iload_n hx hb d_Pairs_follow_71 rfl (lv_at hl 3 rfl) ?_
        refine lv_iload_n hx hb d_Pairs_follow_72 rfl (lv_at hl 2 rfl) ?_
        obtain ⟨hi73, hF⟩ := kx_ar hF
        refine kx_iast S F w 5 rfl hi73 d_Pairs_follow_73 (fun H locs w => ?_)
        have w : kx_W G A s ([(h, .inr (7, [.int d, .ref sa, .int u35.1, .ref a_tk, .ref a_ow, .ref a_be, .ref a_ne, .ref a_ol, .int u35.2.2.2.2.2.2.2.1, .int u35.2.2.2.2.2.2.2.2])), (sa, .inl (G.2 0, 4, .inl u35.2.1)), (a_tk, .inl (G.2 1, 64, .inl u35.2.2.1)), (a_ow, .inl (G.2 0, 64, .inl u35.2.2.2.1)), (a_be, .inl (G.2 0, 64, .inl u35.2.2.2.2.1)), (a_ne, .inl (G.2 0, 64, .inl (upd u35.2.2.2.2.2.1 x3.toNatClampNeg x2))), (a_ol, .inl (G.2 0, 64, .inl (upd u35.2.2.2.2.2.2.1 x3.toNatClampNeg (u35.2.2.2.2.2.1 x3.toNatClampNeg))))] ++ []) H locs := w
        refine lv_aload_n hx hb d_Pairs_follow_74 rfl (lv_at hl 0 rfl) ?_
        refine kx_get S F w kc_Pairs 0 rfl 5 (by decide) kw_97e607a90d rfl d_Pairs_follow_75 ?_
        refine lv_iload_n hx hb d_Pairs_follow_78 rfl (lv_at hl 3 rfl) ?_
        refine lv_iconst (v := (2 : Int32)) hx hb d_Pairs_follow_79 (by decide) ?_
        refine lv_aload_n hx hb d_Pairs_follow_80 rfl (lv_at hl 0 rfl) ?_
        refine kx_get S F w kc_Pairs 0 rfl 5 (by decide) kw_97e607a90d rfl d_Pairs_follow_81 ?_
        refine lv_iload_n hx hb d_Pairs_follow_84 rfl (lv_at hl 3 rfl) ?_
        obtain ⟨hi85, hF⟩ := kx_ar hF
        refine kx_iald S F w 4 rfl hi85 d_Pairs_follow_85 ?_
        refine lv_iconst (v := (1 : Int32)) hx hb d_Pairs_follow_86 (by decide) ?_
        refine lv_iadd hx hb d_Pairs_follow_87 ?_
        refine va_mmin hx hb (by rw [hml]; exact hl.1.symm) hown (hts _ kw_4e5c2148a0) (hts _ kw_86f19dd951) (hts _ kw_ae09fe6d2e) (hts _ kw_45c1916403) (Nat.le_of_ble_eq_true rfl) (Nat.le_of_ble_eq_true rfl) (Nat.zero_le _) (Nat.zero_le _) d_Pairs_follow_88 ?_
        obtain ⟨hi91, hF⟩ := kx_ar hF
        refine kx_iast S F w 4 rfl hi91 d_Pairs_follow_91 (fun H locs w => ?_)
        have w : kx_W G A s ([(h, .inr (7, [.int d, .ref sa, .int u35.1, .ref a_tk, .ref a_ow, .ref a_be, .ref a_ne, .ref a_ol, .int u35.2.2.2.2.2.2.2.1, .int u35.2.2.2.2.2.2.2.2])), (sa, .inl (G.2 0, 4, .inl u35.2.1)), (a_tk, .inl (G.2 1, 64, .inl u35.2.2.1)), (a_ow, .inl (G.2 0, 64, .inl u35.2.2.2.1)), (a_be, .inl (G.2 0, 64, .inl (upd u35.2.2.2.2.1 x3.toNatClampNeg (if ((u35.2.2.2.2.1 x3.toNatClampNeg) + (1 : Int32)) < (2 : Int32) then ((u35.2.2.2.2.1 x3.toNatClampNeg) + (1 : Int32)) else (2 : Int32))))), (a_ne, .inl (G.2 0, 64, .inl (upd u35.2.2.2.2.2.1 x3.toNatClampNeg x2))), (a_ol, .inl (G.2 0, 64, .inl (upd u35.2.2.2.2.2.2.1 x3.toNatClampNeg (u35.2.2.2.2.2.1 x3.toNatClampNeg))))] ++ []) H locs := w
        obtain rfl := Option.some.inj hF
        exact kx_vret hQ S hr hlocks w (xo := [(h, .inr (7, [.int d, .ref sa, .int u35.1, .ref a_tk, .ref a_ow, .ref a_be, .ref a_ne, .ref a_ol, .int u35.2.2.2.2.2.2.2.1, .int u35.2.2.2.2.2.2.2.2])), (sa, .inl (G.2 0, 4, .inl u35.2.1)), (a_tk, .inl (G.2 1, 64, .inl u35.2.2.1)), (a_ow, .inl (G.2 0, 64, .inl u35.2.2.2.1)), (a_be, .inl (G.2 0, 64, .inl (upd u35.2.2.2.2.1 x3.toNatClampNeg (if ((u35.2.2.2.2.1 x3.toNatClampNeg) + (1 : Int32)) < (2 : Int32) then ((u35.2.2.2.2.1 x3.toNatClampNeg) + (1 : Int32)) else (2 : Int32))))), (a_ne, .inl (G.2 0, 64, .inl (upd u35.2.2.2.2.2.1 x3.toNatClampNeg x2))), (a_ol, .inl (G.2 0, 64, .inl (upd u35.2.2.2.2.2.2.1 x3.toNatClampNeg (u35.2.2.2.2.2.1 x3.toNatClampNeg))))]) [0, 1, 2, 3, 4, 5, 6] rfl rfl (u35.1, u35.2.1, u35.2.2.1, u35.2.2.2.1, upd u35.2.2.2.2.1 x3.toNatClampNeg (if ((u35.2.2.2.2.1 x3.toNatClampNeg) + (1 : Int32)) < (2 : Int32) then ((u35.2.2.2.2.1 x3.toNatClampNeg) + (1 : Int32)) else (2 : Int32)), upd u35.2.2.2.2.2.1 x3.toNatClampNeg x2, upd u35.2.2.2.2.2.2.1 x3.toNatClampNeg (u35.2.2.2.2.2.1 x3.toNatClampNeg), u35.2.2.2.2.2.2.2) rfl rfl d_Pairs_follow_92
      · have hF := kx_t c51 hF
        obtain rfl := Option.some.inj hF
        exact kx_vret hQ S hr hlocks w (xo := [(h, .inr (7, [.int d, .ref sa, .int u35.1, .ref a_tk, .ref a_ow, .ref a_be, .ref a_ne, .ref a_ol, .int u35.2.2.2.2.2.2.2.1, .int u35.2.2.2.2.2.2.2.2])), (sa, .inl (G.2 0, 4, .inl u35.2.1)), (a_tk, .inl (G.2 1, 64, .inl u35.2.2.1)), (a_ow, .inl (G.2 0, 64, .inl u35.2.2.2.1)), (a_be, .inl (G.2 0, 64, .inl u35.2.2.2.2.1)), (a_ne, .inl (G.2 0, 64, .inl u35.2.2.2.2.2.1)), (a_ol, .inl (G.2 0, 64, .inl u35.2.2.2.2.2.2.1))]) [0, 1, 2, 3, 4, 5, 6] rfl rfl u35 rfl rfl d_Pairs_follow_54
  refine lv_if_ne (tgt := 35) hx hb d_Pairs_follow_11 (by decide) (fun c11 => ?_) (fun c11 => ?_)
  · have hF := kx_f c11 hF
    exact L35 p0 p1 q1 u hF H locs ls (w.perm [0, 1, 2, 3, 4, 5, 6] rfl rfl) (lv_sub hl [1, 2, 3, 0] rfl)
  · have hF := kx_t c11 hF
    refine lv_aload_n hx hb d_Pairs_follow_14 rfl (lv_at hl 1 rfl) ?_
    refine kx_get S F w kc_Pairs 0 rfl 3 (by decide) kw_1f8f065a79 rfl d_Pairs_follow_15 ?_
    refine lv_iload_n hx hb d_Pairs_follow_18 rfl (lv_at hl 0 rfl) ?_
    refine lv_iconst (v := (1 : Int32)) hx hb d_Pairs_follow_19 (by decide) ?_
    obtain ⟨hi20, hF⟩ := kx_ar hF
    refine kx_zast S F w 2 rfl hi20 d_Pairs_follow_20 (fun H locs w => ?_)
    have w : kx_W G A s ([(h, .inr (7, [.int d, .ref sa, .int u.1, .ref a_tk, .ref a_ow, .ref a_be, .ref a_ne, .ref a_ol, .int u.2.2.2.2.2.2.2.1, .int u.2.2.2.2.2.2.2.2])), (sa, .inl (G.2 0, 4, .inl u.2.1)), (a_tk, .inl (G.2 1, 64, .inl (upd u.2.2.1 q1.toNatClampNeg (vp_nar .boolean (1 : Int32))))), (a_ow, .inl (G.2 0, 64, .inl u.2.2.2.1)), (a_be, .inl (G.2 0, 64, .inl u.2.2.2.2.1)), (a_ne, .inl (G.2 0, 64, .inl u.2.2.2.2.2.1)), (a_ol, .inl (G.2 0, 64, .inl u.2.2.2.2.2.2.1))] ++ []) H locs := w
    refine lv_aload_n hx hb d_Pairs_follow_21 rfl (lv_at hl 1 rfl) ?_
    refine kx_get S F w kc_Pairs 0 rfl 4 (by decide) kw_a89b35cae7 rfl d_Pairs_follow_22 ?_
    refine lv_iload_n hx hb d_Pairs_follow_25 rfl (lv_at hl 0 rfl) ?_
    refine lv_iload_n hx hb d_Pairs_follow_26 rfl (lv_at hl 2 rfl) ?_
    obtain ⟨hi27, hF⟩ := kx_ar hF
    refine kx_iast S F w 3 rfl hi27 d_Pairs_follow_27 (fun H locs w => ?_)
    have w : kx_W G A s ([(h, .inr (7, [.int d, .ref sa, .int u.1, .ref a_tk, .ref a_ow, .ref a_be, .ref a_ne, .ref a_ol, .int u.2.2.2.2.2.2.2.1, .int u.2.2.2.2.2.2.2.2])), (sa, .inl (G.2 0, 4, .inl u.2.1)), (a_tk, .inl (G.2 1, 64, .inl (upd u.2.2.1 q1.toNatClampNeg (vp_nar .boolean (1 : Int32))))), (a_ow, .inl (G.2 0, 64, .inl (upd u.2.2.2.1 q1.toNatClampNeg p0))), (a_be, .inl (G.2 0, 64, .inl u.2.2.2.2.1)), (a_ne, .inl (G.2 0, 64, .inl u.2.2.2.2.2.1)), (a_ol, .inl (G.2 0, 64, .inl u.2.2.2.2.2.2.1))] ++ []) H locs := w
    refine lv_aload_n hx hb d_Pairs_follow_28 rfl (lv_at hl 1 rfl) ?_
    refine kx_get S F w kc_Pairs 0 rfl 5 (by decide) kw_97e607a90d rfl d_Pairs_follow_29 ?_
    refine lv_iload_n hx hb d_Pairs_follow_32 rfl (lv_at hl 0 rfl) ?_
    refine lv_iconst (v := (0 : Int32)) hx hb d_Pairs_follow_33 (by decide) ?_
    obtain ⟨hi34, hF⟩ := kx_ar hF
    refine kx_iast S F w 4 rfl hi34 d_Pairs_follow_34 (fun H locs w => ?_)
    have w : kx_W G A s ([(h, .inr (7, [.int d, .ref sa, .int u.1, .ref a_tk, .ref a_ow, .ref a_be, .ref a_ne, .ref a_ol, .int u.2.2.2.2.2.2.2.1, .int u.2.2.2.2.2.2.2.2])), (sa, .inl (G.2 0, 4, .inl u.2.1)), (a_tk, .inl (G.2 1, 64, .inl (upd u.2.2.1 q1.toNatClampNeg (vp_nar .boolean (1 : Int32))))), (a_ow, .inl (G.2 0, 64, .inl (upd u.2.2.2.1 q1.toNatClampNeg p0))), (a_be, .inl (G.2 0, 64, .inl (upd u.2.2.2.2.1 q1.toNatClampNeg (0 : Int32)))), (a_ne, .inl (G.2 0, 64, .inl u.2.2.2.2.2.1)), (a_ol, .inl (G.2 0, 64, .inl u.2.2.2.2.2.2.1))] ++ []) H locs := w
    exact L35 p0 p1 q1 (u.1, u.2.1, upd u.2.2.1 q1.toNatClampNeg (vp_nar .boolean (1 : Int32)), upd u.2.2.2.1 q1.toNatClampNeg p0, upd u.2.2.2.2.1 q1.toNatClampNeg (0 : Int32), u.2.2.2.2.2) hF H locs ls (w.perm [0, 1, 2, 3, 4, 5, 6] rfl rfl) (lv_sub hl [1, 2, 3, 0] rfl)
/-! Pairs_learn -/
def jn_Pairs_learn_49 (d : Int32) (x1 : Int32) (x2 : Int32) (x3 : Int32) (u49 : sg_pairs) : Option (sg_pairs) := (if x3 ≤ (1 : Int32) then some u49 else (f_Rule_degree d (u49.1, u49.2.1)).bind (fun q55 => (if q55 ≤ (1 : Int32) then some u49 else (f_Pairs_rowOf x2).bind (fun q68 => (if (q68 < 0 ∨ 64 ≤ q68.toNatClampNeg) then none else (f_Rule_say d (u49.1, u49.2.1) (u49.2.2.2.2.2.2.1 q68.toNatClampNeg)).bind (fun q72 => some (q72.1, q72.2, u49.2.2)))))))
def jn_Pairs_learn_16 (d : Int32) (x1 : Int32) (x2 : Int32) (u16 : sg_pairs) : Option (sg_pairs) := (f_Pairs_behindCount d (u16.1, u16.2.1, u16.2.2.1, u16.2.2.2.1, u16.2.2.2.2.1, u16.2.2.2.2.2.1, u16.2.2.2.2.2.2.1, (1 : Int32), x2) x2).bind (fun q28 => (if q28 ≤ 0 then jn_Pairs_learn_49 d x1 x2 q28 (u16.1, u16.2.1, u16.2.2.1, u16.2.2.2.1, u16.2.2.2.2.1, u16.2.2.2.2.2.1, u16.2.2.2.2.2.2.1, (1 : Int32), x2) else (f_Pairs_rowOf x2).bind (fun q42 => (if (q42 < 0 ∨ 64 ≤ q42.toNatClampNeg) then none else (f_Rule_say d (u16.1, u16.2.1) (u16.2.2.2.2.2.1 q42.toNatClampNeg)).bind (fun q46 => jn_Pairs_learn_49 d x1 x2 q28 (q46.1, q46.2, u16.2.2.1, u16.2.2.2.1, u16.2.2.2.2.1, u16.2.2.2.2.2.1, u16.2.2.2.2.2.2.1, (1 : Int32), x2))))))
def f_Pairs_learn (d : Int32) (u : sg_pairs) (p0 : Int32) (p1 : Int32) : Option (sg_pairs) := (if u.2.2.2.2.2.2.2.1 = 0 then jn_Pairs_learn_16 d p0 p1 u else (f_Pairs_follow d u u.2.2.2.2.2.2.2.2 p1).bind (fun q13 => jn_Pairs_learn_16 d p0 p1 q13))
def rm_Pairs_learn : Room := { frames := 2, cells := 0, slots := 0, locals := 45 }
set_option maxRecDepth 100000 in
set_option maxHeartbeats 4000000 in
theorem c_Pairs_learn (l : Launch) (G : kx_G) (h : Nat) (sa : Nat) (d : Int32) (a_tk : Nat) (a_ow : Nat) (a_be : Nat) (a_ne : Nat) (a_ol : Nat) (u : sg_pairs) (p0 : Int32) (p1 : Int32) (v : sg_pairs) (hF : f_Pairs_learn d u p0 p1 = some v) : CtV l y_Pairs_learn b_Pairs_learn 4 rm_Pairs_learn G [.ref h, .int p0, .int p1] [(h, .inr (7, [.int d, .ref sa, .int u.1, .ref a_tk, .ref a_ow, .ref a_be, .ref a_ne, .ref a_ol, .int u.2.2.2.2.2.2.2.1, .int u.2.2.2.2.2.2.2.2])), (sa, .inl (G.2 0, 4, .inl u.2.1)), (a_tk, .inl (G.2 1, 64, .inl u.2.2.1)), (a_ow, .inl (G.2 0, 64, .inl u.2.2.2.1)), (a_be, .inl (G.2 0, 64, .inl u.2.2.2.2.1)), (a_ne, .inl (G.2 0, 64, .inl u.2.2.2.2.2.1)), (a_ol, .inl (G.2 0, 64, .inl u.2.2.2.2.2.2.1))] (fun w : sg_pairs => v = w) (fun w => [(h, .inr (7, [.int d, .ref sa, .int w.1, .ref a_tk, .ref a_ow, .ref a_be, .ref a_ne, .ref a_ol, .int w.2.2.2.2.2.2.2.1, .int w.2.2.2.2.2.2.2.2])), (sa, .inl (G.2 0, 4, .inl w.2.1)), (a_tk, .inl (G.2 1, 64, .inl w.2.2.1)), (a_ow, .inl (G.2 0, 64, .inl w.2.2.2.1)), (a_be, .inl (G.2 0, 64, .inl w.2.2.2.2.1)), (a_ne, .inl (G.2 0, 64, .inl w.2.2.2.2.2.1)), (a_ol, .inl (G.2 0, 64, .inl w.2.2.2.2.2.2.1))]) 0 0 := by
  refine CtV.of (by decide) (Nat.le_of_ble_eq_true rfl) [(0, .ref h), (1, .int p0), (2, .int p1)] rfl ?_
  intro p e s m args below meth c A ls Q hQ S hr hlocks hin F w hl
  have S : CallFix p m c b_Pairs_learn 4 s args kx_T "PrefetchRules$Pairs" := S
  obtain ⟨hx, hb, hml, hown, hts⟩ := id S
  have w : kx_W G A s ([(h, .inr (7, [.int d, .ref sa, .int u.1, .ref a_tk, .ref a_ow, .ref a_be, .ref a_ne, .ref a_ol, .int u.2.2.2.2.2.2.2.1, .int u.2.2.2.2.2.2.2.2])), (sa, .inl (G.2 0, 4, .inl u.2.1)), (a_tk, .inl (G.2 1, 64, .inl u.2.2.1)), (a_ow, .inl (G.2 0, 64, .inl u.2.2.2.1)), (a_be, .inl (G.2 0, 64, .inl u.2.2.2.2.1)), (a_ne, .inl (G.2 0, 64, .inl u.2.2.2.2.2.1)), (a_ol, .inl (G.2 0, 64, .inl u.2.2.2.2.2.2.1))] ++ []) s.heap [] := w
  unfold f_Pairs_learn at hF
  refine lv_aload_n hx hb d_Pairs_learn_0 rfl (lv_at hl 0 rfl) ?_
  refine kx_get S F w kc_Pairs 0 rfl 8 (by decide) kw_a85f2771a1 rfl d_Pairs_learn_1 ?_
  have L16 : ∀ (x1 : Int32) (x2 : Int32) (u16 : sg_pairs), jn_Pairs_learn_16 d x1 x2 u16 = some v → ∀ (H : Heap) (locs : List Loc) (ls : Array Slot), kx_W G A s ([(h, .inr (7, [.int d, .ref sa, .int u16.1, .ref a_tk, .ref a_ow, .ref a_be, .ref a_ne, .ref a_ol, .int u16.2.2.2.2.2.2.2.1, .int u16.2.2.2.2.2.2.2.2])), (sa, .inl (G.2 0, 4, .inl u16.2.1)), (a_tk, .inl (G.2 1, 64, .inl u16.2.2.1)), (a_ow, .inl (G.2 0, 64, .inl u16.2.2.2.1)), (a_be, .inl (G.2 0, 64, .inl u16.2.2.2.2.1)), (a_ne, .inl (G.2 0, 64, .inl u16.2.2.2.2.2.1)), (a_ol, .inl (G.2 0, 64, .inl u16.2.2.2.2.2.2.1))] ++ []) H locs → lv_has ls 4 [(0, .ref h), (1, .int x1), (2, .int x2)] → W p l e rm_Pairs_learn s m args below meth c H locs 0 0 Q (F0 m 16 ls []) := by
    intro x1 x2 u16 hF H locs ls w hl
    unfold jn_Pairs_learn_16 at hF
    refine lv_aload_n hx hb d_Pairs_learn_16 rfl (lv_at hl 0 rfl) ?_
    refine lv_iconst (v := (1 : Int32)) hx hb d_Pairs_learn_17 (by decide) ?_
    refine kx_put S F w kc_Pairs 0 rfl 8 (by decide) kw_a85f2771a1 rfl rfl rfl (Nat.le_of_ble_eq_true rfl) d_Pairs_learn_18 (fun H locs w => ?_)
    have w : kx_W G A s ([(h, .inr (7, [.int d, .ref sa, .int u16.1, .ref a_tk, .ref a_ow, .ref a_be, .ref a_ne, .ref a_ol, .int (1 : Int32), .int u16.2.2.2.2.2.2.2.2])), (sa, .inl (G.2 0, 4, .inl u16.2.1)), (a_tk, .inl (G.2 1, 64, .inl u16.2.2.1)), (a_ow, .inl (G.2 0, 64, .inl u16.2.2.2.1)), (a_be, .inl (G.2 0, 64, .inl u16.2.2.2.2.1)), (a_ne, .inl (G.2 0, 64, .inl u16.2.2.2.2.2.1)), (a_ol, .inl (G.2 0, 64, .inl u16.2.2.2.2.2.2.1))] ++ []) H locs := w
    refine lv_aload_n hx hb d_Pairs_learn_21 rfl (lv_at hl 0 rfl) ?_
    refine lv_iload_n hx hb d_Pairs_learn_22 rfl (lv_at hl 2 rfl) ?_
    refine kx_put S F w kc_Pairs 0 rfl 9 (by decide) kw_c1658f77c6 rfl rfl rfl (Nat.le_of_ble_eq_true rfl) d_Pairs_learn_23 (fun H locs w => ?_)
    have w : kx_W G A s ([(h, .inr (7, [.int d, .ref sa, .int u16.1, .ref a_tk, .ref a_ow, .ref a_be, .ref a_ne, .ref a_ol, .int (1 : Int32), .int x2])), (sa, .inl (G.2 0, 4, .inl u16.2.1)), (a_tk, .inl (G.2 1, 64, .inl u16.2.2.1)), (a_ow, .inl (G.2 0, 64, .inl u16.2.2.2.1)), (a_be, .inl (G.2 0, 64, .inl u16.2.2.2.2.1)), (a_ne, .inl (G.2 0, 64, .inl u16.2.2.2.2.2.1)), (a_ol, .inl (G.2 0, 64, .inl u16.2.2.2.2.2.2.1))] ++ []) H locs := w
    refine lv_aload_n hx hb d_Pairs_learn_26 rfl (lv_at hl 0 rfl) ?_
    refine lv_iload_n hx hb d_Pairs_learn_27 rfl (lv_at hl 2 rfl) ?_
    obtain ⟨q28, hq28, hF⟩ := kx_bd hF
    refine kx_ci (cx := [(h, .inr (7, [.int d, .ref sa, .int u16.1, .ref a_tk, .ref a_ow, .ref a_be, .ref a_ne, .ref a_ol, .int (1 : Int32), .int x2])), (sa, .inl (G.2 0, 4, .inl u16.2.1)), (a_tk, .inl (G.2 1, 64, .inl u16.2.2.1)), (a_ow, .inl (G.2 0, 64, .inl u16.2.2.2.1)), (a_be, .inl (G.2 0, 64, .inl u16.2.2.2.2.1)), (a_ne, .inl (G.2 0, 64, .inl u16.2.2.2.2.2.1)), (a_ol, .inl (G.2 0, 64, .inl u16.2.2.2.2.2.2.1))]) (wr := []) F w [0, 1, 2, 3, 4, 5, 6] [] rfl rfl rfl (by decide) (va_runV (As := [.int x2]) (rest := []) S (c_Pairs_behindCount l G h sa d a_tk a_ow a_be a_ne a_ol (u16.1, u16.2.1, u16.2.2.1, u16.2.2.2.1, u16.2.2.2.2.1, u16.2.2.2.2.2.1, u16.2.2.2.2.2.2.1, (1 : Int32), x2) x2 q28 hq28 _) (kx_cwV S mv_Pairs_behindCount kw_c14408605c ⟨rfl, rfl, Nat.le_of_ble_eq_true rfl, Nat.le_of_ble_eq_true rfl⟩) ⟨kx_blind _ _ _ _, va_recv (q0 := 0) F.1.1 w.1 kc_Pairs.1 rfl, kx_pre F w [0, 1, 2, 3, 4, 5, 6] rfl rfl⟩ rfl rfl hl.1 rfl (lv_room (Nat.le_of_ble_eq_true rfl)) d_Pairs_learn_28 ⟨Nat.le_of_ble_eq_true rfl, Nat.le_of_ble_eq_true rfl⟩) (fun r28 w28 H locs hp w => ?_)
    subst hp
    have w : kx_W G A s ([(h, .inr (7, [.int d, .ref sa, .int u16.1, .ref a_tk, .ref a_ow, .ref a_be, .ref a_ne, .ref a_ol, .int (1 : Int32), .int x2])), (sa, .inl (G.2 0, 4, .inl u16.2.1)), (a_tk, .inl (G.2 1, 64, .inl u16.2.2.1)), (a_ow, .inl (G.2 0, 64, .inl u16.2.2.2.1)), (a_be, .inl (G.2 0, 64, .inl u16.2.2.2.2.1)), (a_ne, .inl (G.2 0, 64, .inl u16.2.2.2.2.2.1)), (a_ol, .inl (G.2 0, 64, .inl u16.2.2.2.2.2.2.1))] ++ []) H locs := w
    refine lv_istore_n (lv' := [(3, .int q28), (0, .ref h), (1, .int x1), (2, .int x2)]) hx hb d_Pairs_learn_31 rfl hl (by decide) rfl (fun ls hl => ?_)
    refine lv_iload_n hx hb d_Pairs_learn_32 rfl (lv_at hl 0 rfl) ?_
    have L49 : ∀ (x1 : Int32) (x2 : Int32) (x3 : Int32) (u49 : sg_pairs), jn_Pairs_learn_49 d x1 x2 x3 u49 = some v → ∀ (H : Heap) (locs : List Loc) (ls : Array Slot), kx_W G A s ([(h, .inr (7, [.int d, .ref sa, .int u49.1, .ref a_tk, .ref a_ow, .ref a_be, .ref a_ne, .ref a_ol, .int u49.2.2.2.2.2.2.2.1, .int u49.2.2.2.2.2.2.2.2])), (sa, .inl (G.2 0, 4, .inl u49.2.1)), (a_tk, .inl (G.2 1, 64, .inl u49.2.2.1)), (a_ow, .inl (G.2 0, 64, .inl u49.2.2.2.1)), (a_be, .inl (G.2 0, 64, .inl u49.2.2.2.2.1)), (a_ne, .inl (G.2 0, 64, .inl u49.2.2.2.2.2.1)), (a_ol, .inl (G.2 0, 64, .inl u49.2.2.2.2.2.2.1))] ++ []) H locs → lv_has ls 4 [(0, .ref h), (1, .int x1), (2, .int x2), (3, .int x3)] → W p l e rm_Pairs_learn s m args below meth c H locs 0 0 Q (F0 m 49 ls []) := by
      intro x1 x2 x3 u49 hF H locs ls w hl
      unfold jn_Pairs_learn_49 at hF
      refine lv_iload_n hx hb d_Pairs_learn_49 rfl (lv_at hl 3 rfl) ?_
      refine lv_iconst (v := (1 : Int32)) hx hb d_Pairs_learn_50 (by decide) ?_
      refine lv_icmp_le (tgt := 75) hx hb d_Pairs_learn_51 (by decide) (fun c51 => ?_) (fun c51 => ?_)
      · have hF := kx_t c51 hF
        obtain rfl := Option.some.inj hF
        exact kx_vret hQ S hr hlocks w (xo := [(h, .inr (7, [.int d, .ref sa, .int u49.1, .ref a_tk, .ref a_ow, .ref a_be, .ref a_ne, .ref a_ol, .int u49.2.2.2.2.2.2.2.1, .int u49.2.2.2.2.2.2.2.2])), (sa, .inl (G.2 0, 4, .inl u49.2.1)), (a_tk, .inl (G.2 1, 64, .inl u49.2.2.1)), (a_ow, .inl (G.2 0, 64, .inl u49.2.2.2.1)), (a_be, .inl (G.2 0, 64, .inl u49.2.2.2.2.1)), (a_ne, .inl (G.2 0, 64, .inl u49.2.2.2.2.2.1)), (a_ol, .inl (G.2 0, 64, .inl u49.2.2.2.2.2.2.1))]) [0, 1, 2, 3, 4, 5, 6] rfl rfl u49 rfl rfl d_Pairs_learn_75
      · have hF := kx_f c51 hF
        refine lv_aload_n hx hb d_Pairs_learn_54 rfl (lv_at hl 0 rfl) ?_
        obtain ⟨q55, hq55, hF⟩ := kx_bd hF
        refine kx_ci (cx := [(h, .inr (7, [.int d, .ref sa, .int u49.1, .ref a_tk, .ref a_ow, .ref a_be, .ref a_ne, .ref a_ol, .int u49.2.2.2.2.2.2.2.1, .int u49.2.2.2.2.2.2.2.2])), (sa, .inl (G.2 0, 4, .inl u49.2.1))]) (wr := [(a_tk, .inl (G.2 1, 64, .inl u49.2.2.1)), (a_ow, .inl (G.2 0, 64, .inl u49.2.2.2.1)), (a_be, .inl (G.2 0, 64, .inl u49.2.2.2.2.1)), (a_ne, .inl (G.2 0, 64, .inl u49.2.2.2.2.2.1)), (a_ol, .inl (G.2 0, 64, .inl u49.2.2.2.2.2.2.1))]) F w [0, 1] [2, 3, 4, 5, 6] rfl rfl rfl (by decide) (va_runU (As := []) (rest := []) S (c_Rule_degree l G 7 ("PrefetchRules$Pairs") F_Pairs 10 t_Pairs h sa d ([.ref a_tk, .ref a_ow, .ref a_be, .ref a_ne, .ref a_ol, .int u49.2.2.2.2.2.2.2.1, .int u49.2.2.2.2.2.2.2.2]) kr_Pairs (u49.1, u49.2.1) q55 hq55 _) (kx_cwU (n := 0) (x := ⟨"PrefetchRules$Pairs", "degree", "()I"⟩) S kw_072fa3b2e3 kw_bb9b0308b1 kw_e864a19c17 kw_3fe61a5471 kw_34077ca2e6 kw_d0941c2f9e rfl (by decide +kernel) ⟨rfl, rfl, Nat.le_of_ble_eq_true rfl, Nat.le_of_ble_eq_true rfl⟩) ⟨kx_blind _ _ _ _, va_recv (q0 := 0) F.1.1 w.1 kc_Pairs.1 rfl, kx_pre F w [0, 1] rfl rfl⟩ rfl rfl hl.1 rfl (lv_room (Nat.le_of_ble_eq_true rfl)) d_Pairs_learn_55 ⟨Nat.le_of_ble_eq_true rfl, Nat.le_of_ble_eq_true rfl⟩) (fun r55 w55 H locs hp w => ?_)
        subst hp
        have w : kx_W G A s ([(a_tk, .inl (G.2 1, 64, .inl u49.2.2.1)), (a_ow, .inl (G.2 0, 64, .inl u49.2.2.2.1)), (a_be, .inl (G.2 0, 64, .inl u49.2.2.2.2.1)), (a_ne, .inl (G.2 0, 64, .inl u49.2.2.2.2.2.1)), (a_ol, .inl (G.2 0, 64, .inl u49.2.2.2.2.2.2.1)), (h, .inr (7, [.int d, .ref sa, .int u49.1, .ref a_tk, .ref a_ow, .ref a_be, .ref a_ne, .ref a_ol, .int u49.2.2.2.2.2.2.2.1, .int u49.2.2.2.2.2.2.2.2])), (sa, .inl (G.2 0, 4, .inl u49.2.1))] ++ []) H locs := w
        refine lv_iconst (v := (1 : Int32)) hx hb d_Pairs_learn_58 (by decide) ?_
        refine lv_icmp_le (tgt := 75) hx hb d_Pairs_learn_59 (by decide) (fun c59 => ?_) (fun c59 => ?_)
        · have hF := kx_t c59 hF
          obtain rfl := Option.some.inj hF
          exact kx_vret hQ S hr hlocks w (xo := [(h, .inr (7, [.int d, .ref sa, .int u49.1, .ref a_tk, .ref a_ow, .ref a_be, .ref a_ne, .ref a_ol, .int u49.2.2.2.2.2.2.2.1, .int u49.2.2.2.2.2.2.2.2])), (sa, .inl (G.2 0, 4, .inl u49.2.1)), (a_tk, .inl (G.2 1, 64, .inl u49.2.2.1)), (a_ow, .inl (G.2 0, 64, .inl u49.2.2.2.1)), (a_be, .inl (G.2 0, 64, .inl u49.2.2.2.2.1)), (a_ne, .inl (G.2 0, 64, .inl u49.2.2.2.2.2.1)), (a_ol, .inl (G.2 0, 64, .inl u49.2.2.2.2.2.2.1))]) [5, 6, 0, 1, 2, 3, 4] rfl rfl u49 rfl rfl d_Pairs_learn_75
        · have hF := kx_f c59 hF
          refine lv_aload_n hx hb d_Pairs_learn_62 rfl (lv_at hl 0 rfl) ?_
          refine lv_aload_n hx hb d_Pairs_learn_63 rfl (lv_at hl 0 rfl) ?_
          refine kx_get S F w kc_Pairs 5 rfl 7 (by decide) kw_696e2a9f7e rfl d_Pairs_learn_64 ?_
          refine lv_iload_n hx hb d_Pairs_learn_67 rfl (lv_at hl 2 rfl) ?_
          obtain ⟨q68, hq68, hF⟩ := kx_bd hF
          refine kx_ci (cx := []) (wr := [(a_tk, .inl (G.2 1, 64, .inl u49.2.2.1)), (a_ow, .inl (G.2 0, 64, .inl u49.2.2.2.1)), (a_be, .inl (G.2 0, 64, .inl u49.2.2.2.2.1)), (a_ne, .inl (G.2 0, 64, .inl u49.2.2.2.2.2.1)), (a_ol, .inl (G.2 0, 64, .inl u49.2.2.2.2.2.2.1)), (h, .inr (7, [.int d, .ref sa, .int u49.1, .ref a_tk, .ref a_ow, .ref a_be, .ref a_ne, .ref a_ol, .int u49.2.2.2.2.2.2.2.1, .int u49.2.2.2.2.2.2.2.2])), (sa, .inl (G.2 0, 4, .inl u49.2.1))]) F w [] [0, 1, 2, 3, 4, 5, 6] rfl rfl rfl (by decide) (va_runS (As := [.int x2]) (rest := [.ref a_ol, .ref h]) S (c_Pairs_rowOf l G x2 q68 hq68 _) (kx_cwS S ms_Pairs_rowOf kw_2d7741eb9f ⟨rfl, rfl, Nat.le_of_ble_eq_true rfl, Nat.le_of_ble_eq_true rfl⟩) ⟨kx_blind _ _ _ _, kx_pre F w [] rfl rfl⟩ rfl rfl hl.1 rfl (lv_room (Nat.le_of_ble_eq_true rfl)) d_Pairs_learn_68 ⟨Nat.le_of_ble_eq_true rfl, Nat.le_of_ble_eq_true rfl⟩) (fun r68 w68 H locs hp w => ?_)
          subst hp
          have w : kx_W G A s ([(a_tk, .inl (G.2 1, 64, .inl u49.2.2.1)), (a_ow, .inl (G.2 0, 64, .inl u49.2.2.2.1)), (a_be, .inl (G.2 0, 64, .inl u49.2.2.2.2.1)), (a_ne, .inl (G.2 0, 64, .inl u49.2.2.2.2.2.1)), (a_ol, .inl (G.2 0, 64, .inl u49.2.2.2.2.2.2.1)), (h, .inr (7, [.int d, .ref sa, .int u49.1, .ref a_tk, .ref a_ow, .ref a_be, .ref a_ne, .ref a_ol, .int u49.2.2.2.2.2.2.2.1, .int u49.2.2.2.2.2.2.2.2])), (sa, .inl (G.2 0, 4, .inl u49.2.1))] ++ []) H locs := w
          obtain ⟨hi71, hF⟩ := kx_ar hF
          refine kx_iald S F w 4 rfl hi71 d_Pairs_learn_71 ?_
          obtain ⟨q72, hq72, hF⟩ := kx_bd hF
          refine kx_cv (cx := [(h, .inr (7, [.int d, .ref sa, .int u49.1, .ref a_tk, .ref a_ow, .ref a_be, .ref a_ne, .ref a_ol, .int u49.2.2.2.2.2.2.2.1, .int u49.2.2.2.2.2.2.2.2])), (sa, .inl (G.2 0, 4, .inl u49.2.1))]) (wr := [(a_tk, .inl (G.2 1, 64, .inl u49.2.2.1)), (a_ow, .inl (G.2 0, 64, .inl u49.2.2.2.1)), (a_be, .inl (G.2 0, 64, .inl u49.2.2.2.2.1)), (a_ne, .inl (G.2 0, 64, .inl u49.2.2.2.2.2.1)), (a_ol, .inl (G.2 0, 64, .inl u49.2.2.2.2.2.2.1))]) F w [5, 6] [0, 1, 2, 3, 4] rfl rfl rfl (by decide) (va_runU (As := [.int (u49.2.2.2.2.2.2.1 q68.toNatClampNeg)]) (rest := []) S (c_Rule_say l G 7 ("PrefetchRules$Pairs") F_Pairs 10 t_Pairs h sa d ([.ref a_tk, .ref a_ow, .ref a_be, .ref a_ne, .ref a_ol, .int u49.2.2.2.2.2.2.2.1, .int u49.2.2.2.2.2.2.2.2]) kr_Pairs (u49.1, u49.2.1) (u49.2.2.2.2.2.2.1 q68.toNatClampNeg) q72 hq72 _) (kx_cwU (n := 1) (x := ⟨"PrefetchRules$Pairs", "say", "(I)V"⟩) S kw_59ba9e4594 kw_5af4a32e21 kw_43ce3e3568 kw_b060f7e212 kw_5b1999295c kw_d0941c2f9e rfl (by decide +kernel) ⟨rfl, rfl, Nat.le_of_ble_eq_true rfl, Nat.le_of_ble_eq_true rfl⟩) ⟨kx_blind _ _ _ _, va_recv (q0 := 5) F.1.1 w.1 kc_Pairs.1 rfl, kx_pre F w [5, 6] rfl rfl⟩ rfl rfl hl.1 rfl (lv_room (Nat.le_of_ble_eq_true rfl)) d_Pairs_learn_72 ⟨Nat.le_of_ble_eq_true rfl, Nat.le_of_ble_eq_true rfl⟩) (fun w72 H locs hp w => ?_)
          subst hp
          have w : kx_W G A s ([(a_tk, .inl (G.2 1, 64, .inl u49.2.2.1)), (a_ow, .inl (G.2 0, 64, .inl u49.2.2.2.1)), (a_be, .inl (G.2 0, 64, .inl u49.2.2.2.2.1)), (a_ne, .inl (G.2 0, 64, .inl u49.2.2.2.2.2.1)), (a_ol, .inl (G.2 0, 64, .inl u49.2.2.2.2.2.2.1)), (h, .inr (7, [.int d, .ref sa, .int q72.1, .ref a_tk, .ref a_ow, .ref a_be, .ref a_ne, .ref a_ol, .int u49.2.2.2.2.2.2.2.1, .int u49.2.2.2.2.2.2.2.2])), (sa, .inl (G.2 0, 4, .inl q72.2))] ++ []) H locs := w
          obtain rfl := Option.some.inj hF
          exact kx_vret hQ S hr hlocks w (xo := [(h, .inr (7, [.int d, .ref sa, .int q72.1, .ref a_tk, .ref a_ow, .ref a_be, .ref a_ne, .ref a_ol, .int u49.2.2.2.2.2.2.2.1, .int u49.2.2.2.2.2.2.2.2])), (sa, .inl (G.2 0, 4, .inl q72.2)), (a_tk, .inl (G.2 1, 64, .inl u49.2.2.1)), (a_ow, .inl (G.2 0, 64, .inl u49.2.2.2.1)), (a_be, .inl (G.2 0, 64, .inl u49.2.2.2.2.1)), (a_ne, .inl (G.2 0, 64, .inl u49.2.2.2.2.2.1)), (a_ol, .inl (G.2 0, 64, .inl u49.2.2.2.2.2.2.1))]) [5, 6, 0, 1, 2, 3, 4] rfl rfl (q72.1, q72.2, u49.2.2) rfl rfl d_Pairs_learn_75
    refine lv_if_le (tgt := 49) hx hb d_Pairs_learn_33 (by decide) (fun c33 => ?_) (fun c33 => ?_)
    · have hF := kx_t c33 hF
      exact L49 x1 x2 q28 (u16.1, u16.2.1, u16.2.2.1, u16.2.2.2.1, u16.2.2.2.2.1, u16.2.2.2.2.2.1, u16.2.2.2.2.2.2.1, (1 : Int32), x2) hF H locs ls (w.perm [0, 1, 2, 3, 4, 5, 6] rfl rfl) (lv_sub hl [1, 2, 3, 0] rfl)
    · have hF := kx_f c33 hF
      refine lv_aload_n hx hb d_Pairs_learn_36 rfl (lv_at hl 1 rfl) ?_
      refine lv_aload_n hx hb d_Pairs_learn_37 rfl (lv_at hl 1 rfl) ?_
      refine kx_get S F w kc_Pairs 0 rfl 6 (by decide) kw_202a0387b3 rfl d_Pairs_learn_38 ?_
      refine lv_iload_n hx hb d_Pairs_learn_41 rfl (lv_at hl 3 rfl) ?_
      obtain ⟨q42, hq42, hF⟩ := kx_bd hF
      refine kx_ci (cx := []) (wr := [(h, .inr (7, [.int d, .ref sa, .int u16.1, .ref a_tk, .ref a_ow, .ref a_be, .ref a_ne, .ref a_ol, .int (1 : Int32), .int x2])), (sa, .inl (G.2 0, 4, .inl u16.2.1)), (a_tk, .inl (G.2 1, 64, .inl u16.2.2.1)), (a_ow, .inl (G.2 0, 64, .inl u16.2.2.2.1)), (a_be, .inl (G.2 0, 64, .inl u16.2.2.2.2.1)), (a_ne, .inl (G.2 0, 64, .inl u16.2.2.2.2.2.1)), (a_ol, .inl (G.2 0, 64, .inl u16.2.2.2.2.2.2.1))]) F w [] [0, 1, 2, 3, 4, 5, 6] rfl rfl rfl (by decide) (va_runS (As := [.int x2]) (rest := [.ref a_ne, .ref h]) S (c_Pairs_rowOf l G x2 q42 hq42 _) (kx_cwS S ms_Pairs_rowOf kw_2d7741eb9f ⟨rfl, rfl, Nat.le_of_ble_eq_true rfl, Nat.le_of_ble_eq_true rfl⟩) ⟨kx_blind _ _ _ _, kx_pre F w [] rfl rfl⟩ rfl rfl hl.1 rfl (lv_room (Nat.le_of_ble_eq_true rfl)) d_Pairs_learn_42 ⟨Nat.le_of_ble_eq_true rfl, Nat.le_of_ble_eq_true rfl⟩) (fun r42 w42 H locs hp w => ?_)
      subst hp
      have w : kx_W G A s ([(h, .inr (7, [.int d, .ref sa, .int u16.1, .ref a_tk, .ref a_ow, .ref a_be, .ref a_ne, .ref a_ol, .int (1 : Int32), .int x2])), (sa, .inl (G.2 0, 4, .inl u16.2.1)), (a_tk, .inl (G.2 1, 64, .inl u16.2.2.1)), (a_ow, .inl (G.2 0, 64, .inl u16.2.2.2.1)), (a_be, .inl (G.2 0, 64, .inl u16.2.2.2.2.1)), (a_ne, .inl (G.2 0, 64, .inl u16.2.2.2.2.2.1)), (a_ol, .inl (G.2 0, 64, .inl u16.2.2.2.2.2.2.1))] ++ []) H locs := w
      obtain ⟨hi45, hF⟩ := kx_ar hF
      refine kx_iald S F w 5 rfl hi45 d_Pairs_learn_45 ?_
      obtain ⟨q46, hq46, hF⟩ := kx_bd hF
      refine kx_cv (cx := [(h, .inr (7, [.int d, .ref sa, .int u16.1, .ref a_tk, .ref a_ow, .ref a_be, .ref a_ne, .ref a_ol, .int (1 : Int32), .int x2])), (sa, .inl (G.2 0, 4, .inl u16.2.1))]) (wr := [(a_tk, .inl (G.2 1, 64, .inl u16.2.2.1)), (a_ow, .inl (G.2 0, 64, .inl u16.2.2.2.1)), (a_be, .inl (G.2 0, 64, .inl u16.2.2.2.2.1)), (a_ne, .inl (G.2 0, 64, .inl u16.2.2.2.2.2.1)), (a_ol, .inl (G.2 0, 64, .inl u16.2.2.2.2.2.2.1))]) F w [0, 1] [2, 3, 4, 5, 6] rfl rfl rfl (by decide) (va_runU (As := [.int (u16.2.2.2.2.2.1 q42.toNatClampNeg)]) (rest := []) S (c_Rule_say l G 7 ("PrefetchRules$Pairs") F_Pairs 10 t_Pairs h sa d ([.ref a_tk, .ref a_ow, .ref a_be, .ref a_ne, .ref a_ol, .int (1 : Int32), .int x2]) kr_Pairs (u16.1, u16.2.1) (u16.2.2.2.2.2.1 q42.toNatClampNeg) q46 hq46 _) (kx_cwU (n := 1) (x := ⟨"PrefetchRules$Pairs", "say", "(I)V"⟩) S kw_59ba9e4594 kw_5af4a32e21 kw_43ce3e3568 kw_b060f7e212 kw_5b1999295c kw_d0941c2f9e rfl (by decide +kernel) ⟨rfl, rfl, Nat.le_of_ble_eq_true rfl, Nat.le_of_ble_eq_true rfl⟩) ⟨kx_blind _ _ _ _, va_recv (q0 := 0) F.1.1 w.1 kc_Pairs.1 rfl, kx_pre F w [0, 1] rfl rfl⟩ rfl rfl hl.1 rfl (lv_room (Nat.le_of_ble_eq_true rfl)) d_Pairs_learn_46 ⟨Nat.le_of_ble_eq_true rfl, Nat.le_of_ble_eq_true rfl⟩) (fun w46 H locs hp w => ?_)
      subst hp
      have w : kx_W G A s ([(a_tk, .inl (G.2 1, 64, .inl u16.2.2.1)), (a_ow, .inl (G.2 0, 64, .inl u16.2.2.2.1)), (a_be, .inl (G.2 0, 64, .inl u16.2.2.2.2.1)), (a_ne, .inl (G.2 0, 64, .inl u16.2.2.2.2.2.1)), (a_ol, .inl (G.2 0, 64, .inl u16.2.2.2.2.2.2.1)), (h, .inr (7, [.int d, .ref sa, .int q46.1, .ref a_tk, .ref a_ow, .ref a_be, .ref a_ne, .ref a_ol, .int (1 : Int32), .int x2])), (sa, .inl (G.2 0, 4, .inl q46.2))] ++ []) H locs := w
      exact L49 x1 x2 q28 (q46.1, q46.2, u16.2.2.1, u16.2.2.2.1, u16.2.2.2.2.1, u16.2.2.2.2.2.1, u16.2.2.2.2.2.2.1, (1 : Int32), x2) hF H locs ls (w.perm [5, 6, 0, 1, 2, 3, 4] rfl rfl) (lv_sub hl [1, 2, 3, 0] rfl)
  refine lv_if_eq (tgt := 16) hx hb d_Pairs_learn_4 (by decide) (fun c4 => ?_) (fun c4 => ?_)
  · have hF := kx_t c4 hF
    exact L16 p0 p1 u hF s.heap [] ls (w.perm [0, 1, 2, 3, 4, 5, 6] rfl rfl) (lv_sub hl [0, 1, 2] rfl)
  · have hF := kx_f c4 hF
    refine lv_aload_n hx hb d_Pairs_learn_7 rfl (lv_at hl 0 rfl) ?_
    refine lv_aload_n hx hb d_Pairs_learn_8 rfl (lv_at hl 0 rfl) ?_
    refine kx_get S F w kc_Pairs 0 rfl 9 (by decide) kw_c1658f77c6 rfl d_Pairs_learn_9 ?_
    refine lv_iload_n hx hb d_Pairs_learn_12 rfl (lv_at hl 2 rfl) ?_
    obtain ⟨q13, hq13, hF⟩ := kx_bd hF
    refine kx_cv (cx := [(h, .inr (7, [.int d, .ref sa, .int u.1, .ref a_tk, .ref a_ow, .ref a_be, .ref a_ne, .ref a_ol, .int u.2.2.2.2.2.2.2.1, .int u.2.2.2.2.2.2.2.2])), (sa, .inl (G.2 0, 4, .inl u.2.1)), (a_tk, .inl (G.2 1, 64, .inl u.2.2.1)), (a_ow, .inl (G.2 0, 64, .inl u.2.2.2.1)), (a_be, .inl (G.2 0, 64, .inl u.2.2.2.2.1)), (a_ne, .inl (G.2 0, 64, .inl u.2.2.2.2.2.1)), (a_ol, .inl (G.2 0, 64, .inl u.2.2.2.2.2.2.1))]) (wr := []) F w [0, 1, 2, 3, 4, 5, 6] [] rfl rfl rfl (by decide) (va_runV (As := [.int u.2.2.2.2.2.2.2.2, .int p1]) (rest := []) S (c_Pairs_follow l G h sa d a_tk a_ow a_be a_ne a_ol u u.2.2.2.2.2.2.2.2 p1 q13 hq13 _) (kx_cwV S mv_Pairs_follow kw_f0f3c8eddd ⟨rfl, rfl, Nat.le_of_ble_eq_true rfl, Nat.le_of_ble_eq_true rfl⟩) ⟨kx_blind _ _ _ _, va_recv (q0 := 0) F.1.1 w.1 kc_Pairs.1 rfl, kx_pre F w [0, 1, 2, 3, 4, 5, 6] rfl rfl⟩ rfl rfl hl.1 rfl (lv_room (Nat.le_of_ble_eq_true rfl)) d_Pairs_learn_13 ⟨Nat.le_of_ble_eq_true rfl, Nat.le_of_ble_eq_true rfl⟩) (fun w13 H locs hp w => ?_)
    subst hp
    have w : kx_W G A s ([(h, .inr (7, [.int d, .ref sa, .int q13.1, .ref a_tk, .ref a_ow, .ref a_be, .ref a_ne, .ref a_ol, .int q13.2.2.2.2.2.2.2.1, .int q13.2.2.2.2.2.2.2.2])), (sa, .inl (G.2 0, 4, .inl q13.2.1)), (a_tk, .inl (G.2 1, 64, .inl q13.2.2.1)), (a_ow, .inl (G.2 0, 64, .inl q13.2.2.2.1)), (a_be, .inl (G.2 0, 64, .inl q13.2.2.2.2.1)), (a_ne, .inl (G.2 0, 64, .inl q13.2.2.2.2.2.1)), (a_ol, .inl (G.2 0, 64, .inl q13.2.2.2.2.2.2.1))] ++ []) H locs := w
    exact L16 p0 p1 q13 hF H locs ls (w.perm [0, 1, 2, 3, 4, 5, 6] rfl rfl) (lv_sub hl [0, 1, 2] rfl)
/-! Pairs_knowledge -/
def f_Pairs_knowledge (d : Int32) (u : sg_pairs) (p0 : Int32) : Option (Int32) := (f_Pairs_behindCount d u p0).bind (fun q2 => (if q2 ≤ 0 then some (-1 : Int32) else (f_Pairs_rowOf p0).bind (fun q13 => (if (q13 < 0 ∨ 64 ≤ q13.toNatClampNeg) then none else some (u.2.2.2.2.2.1 q13.toNatClampNeg)))))
def rm_Pairs_knowledge : Room := { frames := 2, cells := 0, slots := 0, locals := 44 }
set_option maxRecDepth 100000 in
set_option maxHeartbeats 4000000 in
theorem c_Pairs_knowledge (l : Launch) (G : kx_G) (h : Nat) (sa : Nat) (d : Int32) (a_tk : Nat) (a_ow : Nat) (a_be : Nat) (a_ne : Nat) (a_ol : Nat) (u : sg_pairs) (p0 : Int32) (v : Int32) (hF : f_Pairs_knowledge d u p0 = some v) : CtI l y_Pairs_knowledge b_Pairs_knowledge 2 (some .int) rm_Pairs_knowledge G [.ref h, .int p0] [(h, .inr (7, [.int d, .ref sa, .int u.1, .ref a_tk, .ref a_ow, .ref a_be, .ref a_ne, .ref a_ol, .int u.2.2.2.2.2.2.2.1, .int u.2.2.2.2.2.2.2.2])), (sa, .inl (G.2 0, 4, .inl u.2.1)), (a_tk, .inl (G.2 1, 64, .inl u.2.2.1)), (a_ow, .inl (G.2 0, 64, .inl u.2.2.2.1)), (a_be, .inl (G.2 0, 64, .inl u.2.2.2.2.1)), (a_ne, .inl (G.2 0, 64, .inl u.2.2.2.2.2.1)), (a_ol, .inl (G.2 0, 64, .inl u.2.2.2.2.2.2.1))] (fun (r : Int32) (_ : Unit) => v = r) (fun _ => [(h, .inr (7, [.int d, .ref sa, .int u.1, .ref a_tk, .ref a_ow, .ref a_be, .ref a_ne, .ref a_ol, .int u.2.2.2.2.2.2.2.1, .int u.2.2.2.2.2.2.2.2])), (sa, .inl (G.2 0, 4, .inl u.2.1)), (a_tk, .inl (G.2 1, 64, .inl u.2.2.1)), (a_ow, .inl (G.2 0, 64, .inl u.2.2.2.1)), (a_be, .inl (G.2 0, 64, .inl u.2.2.2.2.1)), (a_ne, .inl (G.2 0, 64, .inl u.2.2.2.2.2.1)), (a_ol, .inl (G.2 0, 64, .inl u.2.2.2.2.2.2.1))]) 0 0 := by
  refine CtI.of (by decide) (Nat.le_of_ble_eq_true rfl) [(0, .ref h), (1, .int p0)] rfl ?_
  intro p e s m args below meth c A ls Q hQ S hr hlocks F w hl
  have S : CallFix p m c b_Pairs_knowledge 2 s args kx_T "PrefetchRules$Pairs" := S
  obtain ⟨hx, hb, hml, hown, hts⟩ := id S
  have w : kx_W G A s ([(h, .inr (7, [.int d, .ref sa, .int u.1, .ref a_tk, .ref a_ow, .ref a_be, .ref a_ne, .ref a_ol, .int u.2.2.2.2.2.2.2.1, .int u.2.2.2.2.2.2.2.2])), (sa, .inl (G.2 0, 4, .inl u.2.1)), (a_tk, .inl (G.2 1, 64, .inl u.2.2.1)), (a_ow, .inl (G.2 0, 64, .inl u.2.2.2.1)), (a_be, .inl (G.2 0, 64, .inl u.2.2.2.2.1)), (a_ne, .inl (G.2 0, 64, .inl u.2.2.2.2.2.1)), (a_ol, .inl (G.2 0, 64, .inl u.2.2.2.2.2.2.1))] ++ []) s.heap [] := w
  unfold f_Pairs_knowledge at hF
  refine lv_aload_n hx hb d_Pairs_knowledge_0 rfl (lv_at hl 0 rfl) ?_
  refine lv_iload_n hx hb d_Pairs_knowledge_1 rfl (lv_at hl 1 rfl) ?_
  obtain ⟨q2, hq2, hF⟩ := kx_bd hF
  refine kx_ci (cx := [(h, .inr (7, [.int d, .ref sa, .int u.1, .ref a_tk, .ref a_ow, .ref a_be, .ref a_ne, .ref a_ol, .int u.2.2.2.2.2.2.2.1, .int u.2.2.2.2.2.2.2.2])), (sa, .inl (G.2 0, 4, .inl u.2.1)), (a_tk, .inl (G.2 1, 64, .inl u.2.2.1)), (a_ow, .inl (G.2 0, 64, .inl u.2.2.2.1)), (a_be, .inl (G.2 0, 64, .inl u.2.2.2.2.1)), (a_ne, .inl (G.2 0, 64, .inl u.2.2.2.2.2.1)), (a_ol, .inl (G.2 0, 64, .inl u.2.2.2.2.2.2.1))]) (wr := []) F w [0, 1, 2, 3, 4, 5, 6] [] rfl rfl rfl (by decide) (va_runV (As := [.int p0]) (rest := []) S (c_Pairs_behindCount l G h sa d a_tk a_ow a_be a_ne a_ol u p0 q2 hq2 _) (kx_cwV S mv_Pairs_behindCount kw_c14408605c ⟨rfl, rfl, Nat.le_of_ble_eq_true rfl, Nat.le_of_ble_eq_true rfl⟩) ⟨kx_blind _ _ _ _, va_recv (q0 := 0) F.1.1 w.1 kc_Pairs.1 rfl, kx_pre F w [0, 1, 2, 3, 4, 5, 6] rfl rfl⟩ rfl rfl hl.1 rfl (lv_room (Nat.le_of_ble_eq_true rfl)) d_Pairs_knowledge_2 ⟨Nat.le_of_ble_eq_true rfl, Nat.le_of_ble_eq_true rfl⟩) (fun r2 w2 H locs hp w => ?_)
  subst hp
  have w : kx_W G A s ([(h, .inr (7, [.int d, .ref sa, .int u.1, .ref a_tk, .ref a_ow, .ref a_be, .ref a_ne, .ref a_ol, .int u.2.2.2.2.2.2.2.1, .int u.2.2.2.2.2.2.2.2])), (sa, .inl (G.2 0, 4, .inl u.2.1)), (a_tk, .inl (G.2 1, 64, .inl u.2.2.1)), (a_ow, .inl (G.2 0, 64, .inl u.2.2.2.1)), (a_be, .inl (G.2 0, 64, .inl u.2.2.2.2.1)), (a_ne, .inl (G.2 0, 64, .inl u.2.2.2.2.2.1)), (a_ol, .inl (G.2 0, 64, .inl u.2.2.2.2.2.2.1))] ++ []) H locs := w
  refine lv_if_le (tgt := 20) hx hb d_Pairs_knowledge_5 (by decide) (fun c5 => ?_) (fun c5 => ?_)
  · have hF := kx_t c5 hF
    refine lv_iconst (v := (-1 : Int32)) hx hb d_Pairs_knowledge_20 (by decide) ?_
    obtain rfl := Option.some.inj hF
    exact kx_iret hQ S hr hlocks w (xo := [(h, .inr (7, [.int d, .ref sa, .int u.1, .ref a_tk, .ref a_ow, .ref a_be, .ref a_ne, .ref a_ol, .int u.2.2.2.2.2.2.2.1, .int u.2.2.2.2.2.2.2.2])), (sa, .inl (G.2 0, 4, .inl u.2.1)), (a_tk, .inl (G.2 1, 64, .inl u.2.2.1)), (a_ow, .inl (G.2 0, 64, .inl u.2.2.2.1)), (a_be, .inl (G.2 0, 64, .inl u.2.2.2.2.1)), (a_ne, .inl (G.2 0, 64, .inl u.2.2.2.2.2.1)), (a_ol, .inl (G.2 0, 64, .inl u.2.2.2.2.2.2.1))]) [0, 1, 2, 3, 4, 5, 6] rfl rfl () rfl rfl d_Pairs_knowledge_21
  · have hF := kx_f c5 hF
    refine lv_aload_n hx hb d_Pairs_knowledge_8 rfl (lv_at hl 0 rfl) ?_
    refine kx_get S F w kc_Pairs 0 rfl 6 (by decide) kw_202a0387b3 rfl d_Pairs_knowledge_9 ?_
    refine lv_iload_n hx hb d_Pairs_knowledge_12 rfl (lv_at hl 1 rfl) ?_
    obtain ⟨q13, hq13, hF⟩ := kx_bd hF
    refine kx_ci (cx := []) (wr := [(h, .inr (7, [.int d, .ref sa, .int u.1, .ref a_tk, .ref a_ow, .ref a_be, .ref a_ne, .ref a_ol, .int u.2.2.2.2.2.2.2.1, .int u.2.2.2.2.2.2.2.2])), (sa, .inl (G.2 0, 4, .inl u.2.1)), (a_tk, .inl (G.2 1, 64, .inl u.2.2.1)), (a_ow, .inl (G.2 0, 64, .inl u.2.2.2.1)), (a_be, .inl (G.2 0, 64, .inl u.2.2.2.2.1)), (a_ne, .inl (G.2 0, 64, .inl u.2.2.2.2.2.1)), (a_ol, .inl (G.2 0, 64, .inl u.2.2.2.2.2.2.1))]) F w [] [0, 1, 2, 3, 4, 5, 6] rfl rfl rfl (by decide) (va_runS (As := [.int p0]) (rest := [.ref a_ne]) S (c_Pairs_rowOf l G p0 q13 hq13 _) (kx_cwS S ms_Pairs_rowOf kw_2d7741eb9f ⟨rfl, rfl, Nat.le_of_ble_eq_true rfl, Nat.le_of_ble_eq_true rfl⟩) ⟨kx_blind _ _ _ _, kx_pre F w [] rfl rfl⟩ rfl rfl hl.1 rfl (lv_room (Nat.le_of_ble_eq_true rfl)) d_Pairs_knowledge_13 ⟨Nat.le_of_ble_eq_true rfl, Nat.le_of_ble_eq_true rfl⟩) (fun r13 w13 H locs hp w => ?_)
    subst hp
    have w : kx_W G A s ([(h, .inr (7, [.int d, .ref sa, .int u.1, .ref a_tk, .ref a_ow, .ref a_be, .ref a_ne, .ref a_ol, .int u.2.2.2.2.2.2.2.1, .int u.2.2.2.2.2.2.2.2])), (sa, .inl (G.2 0, 4, .inl u.2.1)), (a_tk, .inl (G.2 1, 64, .inl u.2.2.1)), (a_ow, .inl (G.2 0, 64, .inl u.2.2.2.1)), (a_be, .inl (G.2 0, 64, .inl u.2.2.2.2.1)), (a_ne, .inl (G.2 0, 64, .inl u.2.2.2.2.2.1)), (a_ol, .inl (G.2 0, 64, .inl u.2.2.2.2.2.2.1))] ++ []) H locs := w
    obtain ⟨hi16, hF⟩ := kx_ar hF
    refine kx_iald S F w 5 rfl hi16 d_Pairs_knowledge_16 ?_
    refine lv_goto (tgt := 21) hx hb d_Pairs_knowledge_17 (by decide) ?_
    obtain rfl := Option.some.inj hF
    exact kx_iret hQ S hr hlocks w (xo := [(h, .inr (7, [.int d, .ref sa, .int u.1, .ref a_tk, .ref a_ow, .ref a_be, .ref a_ne, .ref a_ol, .int u.2.2.2.2.2.2.2.1, .int u.2.2.2.2.2.2.2.2])), (sa, .inl (G.2 0, 4, .inl u.2.1)), (a_tk, .inl (G.2 1, 64, .inl u.2.2.1)), (a_ow, .inl (G.2 0, 64, .inl u.2.2.2.1)), (a_be, .inl (G.2 0, 64, .inl u.2.2.2.2.1)), (a_ne, .inl (G.2 0, 64, .inl u.2.2.2.2.2.1)), (a_ol, .inl (G.2 0, 64, .inl u.2.2.2.2.2.2.1))]) [0, 1, 2, 3, 4, 5, 6] rfl rfl () rfl rfl d_Pairs_knowledge_21
/-! Pairs_confidence -/
def f_Pairs_confidence (d : Int32) (u : sg_pairs) (p0 : Int32) : Option (Int32) := (f_Pairs_behindCount d u p0).bind (fun q2 => (if q2 ≤ (1 : Int32) then some (-1 : Int32) else (f_Pairs_rowOf p0).bind (fun q14 => (if (q14 < 0 ∨ 64 ≤ q14.toNatClampNeg) then none else some (u.2.2.2.2.2.2.1 q14.toNatClampNeg)))))
def rm_Pairs_confidence : Room := { frames := 2, cells := 0, slots := 0, locals := 44 }
set_option maxRecDepth 100000 in
set_option maxHeartbeats 4000000 in
theorem c_Pairs_confidence (l : Launch) (G : kx_G) (h : Nat) (sa : Nat) (d : Int32) (a_tk : Nat) (a_ow : Nat) (a_be : Nat) (a_ne : Nat) (a_ol : Nat) (u : sg_pairs) (p0 : Int32) (v : Int32) (hF : f_Pairs_confidence d u p0 = some v) : CtI l y_Pairs_confidence b_Pairs_confidence 2 (some .int) rm_Pairs_confidence G [.ref h, .int p0] [(h, .inr (7, [.int d, .ref sa, .int u.1, .ref a_tk, .ref a_ow, .ref a_be, .ref a_ne, .ref a_ol, .int u.2.2.2.2.2.2.2.1, .int u.2.2.2.2.2.2.2.2])), (sa, .inl (G.2 0, 4, .inl u.2.1)), (a_tk, .inl (G.2 1, 64, .inl u.2.2.1)), (a_ow, .inl (G.2 0, 64, .inl u.2.2.2.1)), (a_be, .inl (G.2 0, 64, .inl u.2.2.2.2.1)), (a_ne, .inl (G.2 0, 64, .inl u.2.2.2.2.2.1)), (a_ol, .inl (G.2 0, 64, .inl u.2.2.2.2.2.2.1))] (fun (r : Int32) (_ : Unit) => v = r) (fun _ => [(h, .inr (7, [.int d, .ref sa, .int u.1, .ref a_tk, .ref a_ow, .ref a_be, .ref a_ne, .ref a_ol, .int u.2.2.2.2.2.2.2.1, .int u.2.2.2.2.2.2.2.2])), (sa, .inl (G.2 0, 4, .inl u.2.1)), (a_tk, .inl (G.2 1, 64, .inl u.2.2.1)), (a_ow, .inl (G.2 0, 64, .inl u.2.2.2.1)), (a_be, .inl (G.2 0, 64, .inl u.2.2.2.2.1)), (a_ne, .inl (G.2 0, 64, .inl u.2.2.2.2.2.1)), (a_ol, .inl (G.2 0, 64, .inl u.2.2.2.2.2.2.1))]) 0 0 := by
  refine CtI.of (by decide) (Nat.le_of_ble_eq_true rfl) [(0, .ref h), (1, .int p0)] rfl ?_
  intro p e s m args below meth c A ls Q hQ S hr hlocks F w hl
  have S : CallFix p m c b_Pairs_confidence 2 s args kx_T "PrefetchRules$Pairs" := S
  obtain ⟨hx, hb, hml, hown, hts⟩ := id S
  have w : kx_W G A s ([(h, .inr (7, [.int d, .ref sa, .int u.1, .ref a_tk, .ref a_ow, .ref a_be, .ref a_ne, .ref a_ol, .int u.2.2.2.2.2.2.2.1, .int u.2.2.2.2.2.2.2.2])), (sa, .inl (G.2 0, 4, .inl u.2.1)), (a_tk, .inl (G.2 1, 64, .inl u.2.2.1)), (a_ow, .inl (G.2 0, 64, .inl u.2.2.2.1)), (a_be, .inl (G.2 0, 64, .inl u.2.2.2.2.1)), (a_ne, .inl (G.2 0, 64, .inl u.2.2.2.2.2.1)), (a_ol, .inl (G.2 0, 64, .inl u.2.2.2.2.2.2.1))] ++ []) s.heap [] := w
  unfold f_Pairs_confidence at hF
  refine lv_aload_n hx hb d_Pairs_confidence_0 rfl (lv_at hl 0 rfl) ?_
  refine lv_iload_n hx hb d_Pairs_confidence_1 rfl (lv_at hl 1 rfl) ?_
  obtain ⟨q2, hq2, hF⟩ := kx_bd hF
  refine kx_ci (cx := [(h, .inr (7, [.int d, .ref sa, .int u.1, .ref a_tk, .ref a_ow, .ref a_be, .ref a_ne, .ref a_ol, .int u.2.2.2.2.2.2.2.1, .int u.2.2.2.2.2.2.2.2])), (sa, .inl (G.2 0, 4, .inl u.2.1)), (a_tk, .inl (G.2 1, 64, .inl u.2.2.1)), (a_ow, .inl (G.2 0, 64, .inl u.2.2.2.1)), (a_be, .inl (G.2 0, 64, .inl u.2.2.2.2.1)), (a_ne, .inl (G.2 0, 64, .inl u.2.2.2.2.2.1)), (a_ol, .inl (G.2 0, 64, .inl u.2.2.2.2.2.2.1))]) (wr := []) F w [0, 1, 2, 3, 4, 5, 6] [] rfl rfl rfl (by decide) (va_runV (As := [.int p0]) (rest := []) S (c_Pairs_behindCount l G h sa d a_tk a_ow a_be a_ne a_ol u p0 q2 hq2 _) (kx_cwV S mv_Pairs_behindCount kw_c14408605c ⟨rfl, rfl, Nat.le_of_ble_eq_true rfl, Nat.le_of_ble_eq_true rfl⟩) ⟨kx_blind _ _ _ _, va_recv (q0 := 0) F.1.1 w.1 kc_Pairs.1 rfl, kx_pre F w [0, 1, 2, 3, 4, 5, 6] rfl rfl⟩ rfl rfl hl.1 rfl (lv_room (Nat.le_of_ble_eq_true rfl)) d_Pairs_confidence_2 ⟨Nat.le_of_ble_eq_true rfl, Nat.le_of_ble_eq_true rfl⟩) (fun r2 w2 H locs hp w => ?_)
  subst hp
  have w : kx_W G A s ([(h, .inr (7, [.int d, .ref sa, .int u.1, .ref a_tk, .ref a_ow, .ref a_be, .ref a_ne, .ref a_ol, .int u.2.2.2.2.2.2.2.1, .int u.2.2.2.2.2.2.2.2])), (sa, .inl (G.2 0, 4, .inl u.2.1)), (a_tk, .inl (G.2 1, 64, .inl u.2.2.1)), (a_ow, .inl (G.2 0, 64, .inl u.2.2.2.1)), (a_be, .inl (G.2 0, 64, .inl u.2.2.2.2.1)), (a_ne, .inl (G.2 0, 64, .inl u.2.2.2.2.2.1)), (a_ol, .inl (G.2 0, 64, .inl u.2.2.2.2.2.2.1))] ++ []) H locs := w
  refine lv_iconst (v := (1 : Int32)) hx hb d_Pairs_confidence_5 (by decide) ?_
  refine lv_icmp_le (tgt := 21) hx hb d_Pairs_confidence_6 (by decide) (fun c6 => ?_) (fun c6 => ?_)
  · have hF := kx_t c6 hF
    refine lv_iconst (v := (-1 : Int32)) hx hb d_Pairs_confidence_21 (by decide) ?_
    obtain rfl := Option.some.inj hF
    exact kx_iret hQ S hr hlocks w (xo := [(h, .inr (7, [.int d, .ref sa, .int u.1, .ref a_tk, .ref a_ow, .ref a_be, .ref a_ne, .ref a_ol, .int u.2.2.2.2.2.2.2.1, .int u.2.2.2.2.2.2.2.2])), (sa, .inl (G.2 0, 4, .inl u.2.1)), (a_tk, .inl (G.2 1, 64, .inl u.2.2.1)), (a_ow, .inl (G.2 0, 64, .inl u.2.2.2.1)), (a_be, .inl (G.2 0, 64, .inl u.2.2.2.2.1)), (a_ne, .inl (G.2 0, 64, .inl u.2.2.2.2.2.1)), (a_ol, .inl (G.2 0, 64, .inl u.2.2.2.2.2.2.1))]) [0, 1, 2, 3, 4, 5, 6] rfl rfl () rfl rfl d_Pairs_confidence_22
  · have hF := kx_f c6 hF
    refine lv_aload_n hx hb d_Pairs_confidence_9 rfl (lv_at hl 0 rfl) ?_
    refine kx_get S F w kc_Pairs 0 rfl 7 (by decide) kw_696e2a9f7e rfl d_Pairs_confidence_10 ?_
    refine lv_iload_n hx hb d_Pairs_confidence_13 rfl (lv_at hl 1 rfl) ?_
    obtain ⟨q14, hq14, hF⟩ := kx_bd hF
    refine kx_ci (cx := []) (wr := [(h, .inr (7, [.int d, .ref sa, .int u.1, .ref a_tk, .ref a_ow, .ref a_be, .ref a_ne, .ref a_ol, .int u.2.2.2.2.2.2.2.1, .int u.2.2.2.2.2.2.2.2])), (sa, .inl (G.2 0, 4, .inl u.2.1)), (a_tk, .inl (G.2 1, 64, .inl u.2.2.1)), (a_ow, .inl (G.2 0, 64, .inl u.2.2.2.1)), (a_be, .inl (G.2 0, 64, .inl u.2.2.2.2.1)), (a_ne, .inl (G.2 0, 64, .inl u.2.2.2.2.2.1)), (a_ol, .inl (G.2 0, 64, .inl u.2.2.2.2.2.2.1))]) F w [] [0, 1, 2, 3, 4, 5, 6] rfl rfl rfl (by decide) (va_runS (As := [.int p0]) (rest := [.ref a_ol]) S (c_Pairs_rowOf l G p0 q14 hq14 _) (kx_cwS S ms_Pairs_rowOf kw_2d7741eb9f ⟨rfl, rfl, Nat.le_of_ble_eq_true rfl, Nat.le_of_ble_eq_true rfl⟩) ⟨kx_blind _ _ _ _, kx_pre F w [] rfl rfl⟩ rfl rfl hl.1 rfl (lv_room (Nat.le_of_ble_eq_true rfl)) d_Pairs_confidence_14 ⟨Nat.le_of_ble_eq_true rfl, Nat.le_of_ble_eq_true rfl⟩) (fun r14 w14 H locs hp w => ?_)
    subst hp
    have w : kx_W G A s ([(h, .inr (7, [.int d, .ref sa, .int u.1, .ref a_tk, .ref a_ow, .ref a_be, .ref a_ne, .ref a_ol, .int u.2.2.2.2.2.2.2.1, .int u.2.2.2.2.2.2.2.2])), (sa, .inl (G.2 0, 4, .inl u.2.1)), (a_tk, .inl (G.2 1, 64, .inl u.2.2.1)), (a_ow, .inl (G.2 0, 64, .inl u.2.2.2.1)), (a_be, .inl (G.2 0, 64, .inl u.2.2.2.2.1)), (a_ne, .inl (G.2 0, 64, .inl u.2.2.2.2.2.1)), (a_ol, .inl (G.2 0, 64, .inl u.2.2.2.2.2.2.1))] ++ []) H locs := w
    obtain ⟨hi17, hF⟩ := kx_ar hF
    refine kx_iald S F w 6 rfl hi17 d_Pairs_confidence_17 ?_
    refine lv_goto (tgt := 22) hx hb d_Pairs_confidence_18 (by decide) ?_
    obtain rfl := Option.some.inj hF
    exact kx_iret hQ S hr hlocks w (xo := [(h, .inr (7, [.int d, .ref sa, .int u.1, .ref a_tk, .ref a_ow, .ref a_be, .ref a_ne, .ref a_ol, .int u.2.2.2.2.2.2.2.1, .int u.2.2.2.2.2.2.2.2])), (sa, .inl (G.2 0, 4, .inl u.2.1)), (a_tk, .inl (G.2 1, 64, .inl u.2.2.1)), (a_ow, .inl (G.2 0, 64, .inl u.2.2.2.1)), (a_be, .inl (G.2 0, 64, .inl u.2.2.2.2.1)), (a_ne, .inl (G.2 0, 64, .inl u.2.2.2.2.2.1)), (a_ol, .inl (G.2 0, 64, .inl u.2.2.2.2.2.2.1))]) [0, 1, 2, 3, 4, 5, 6] rfl rfl () rfl rfl d_Pairs_confidence_22
/-! Pairs_hear -/
def f_Pairs_hear (d : Int32) (u : sg_pairs) (p0 : Int32) (p1 : Int32) : Option (sg_pairs) := (f_Pairs_learn d ((0 : Int32), u.2) p0 p1).bind (fun q8 => some q8)
def rm_Pairs_hear : Room := { frames := 4, cells := 0, slots := 0, locals := 90 }
set_option maxRecDepth 100000 in
set_option maxHeartbeats 4000000 in
theorem c_Pairs_hear (l : Launch) (G : kx_G) (h : Nat) (sa : Nat) (d : Int32) (a_tk : Nat) (a_ow : Nat) (a_be : Nat) (a_ne : Nat) (a_ol : Nat) (u : sg_pairs) (p0 : Int32) (p1 : Int32) (v : sg_pairs) (hF : f_Pairs_hear d u p0 p1 = some v) : CtV l y_Rule_hear b_Rule_hear 3 rm_Pairs_hear G [.ref h, .int p0, .int p1] [(h, .inr (7, [.int d, .ref sa, .int u.1, .ref a_tk, .ref a_ow, .ref a_be, .ref a_ne, .ref a_ol, .int u.2.2.2.2.2.2.2.1, .int u.2.2.2.2.2.2.2.2])), (sa, .inl (G.2 0, 4, .inl u.2.1)), (a_tk, .inl (G.2 1, 64, .inl u.2.2.1)), (a_ow, .inl (G.2 0, 64, .inl u.2.2.2.1)), (a_be, .inl (G.2 0, 64, .inl u.2.2.2.2.1)), (a_ne, .inl (G.2 0, 64, .inl u.2.2.2.2.2.1)), (a_ol, .inl (G.2 0, 64, .inl u.2.2.2.2.2.2.1))] (fun w : sg_pairs => v = w) (fun w => [(h, .inr (7, [.int d, .ref sa, .int w.1, .ref a_tk, .ref a_ow, .ref a_be, .ref a_ne, .ref a_ol, .int w.2.2.2.2.2.2.2.1, .int w.2.2.2.2.2.2.2.2])), (sa, .inl (G.2 0, 4, .inl w.2.1)), (a_tk, .inl (G.2 1, 64, .inl w.2.2.1)), (a_ow, .inl (G.2 0, 64, .inl w.2.2.2.1)), (a_be, .inl (G.2 0, 64, .inl w.2.2.2.2.1)), (a_ne, .inl (G.2 0, 64, .inl w.2.2.2.2.2.1)), (a_ol, .inl (G.2 0, 64, .inl w.2.2.2.2.2.2.1))]) 0 0 := by
  refine CtV.of (by decide) (Nat.le_of_ble_eq_true rfl) [(0, .ref h), (1, .int p0), (2, .int p1)] rfl ?_
  intro p e s m args below meth c A ls Q hQ S hr hlocks hin F w hl
  have S : CallFix p m c b_Rule_hear 3 s args kx_T "PrefetchRules$Rule" := S
  obtain ⟨hx, hb, hml, hown, hts⟩ := id S
  have w : kx_W G A s ([(h, .inr (7, [.int d, .ref sa, .int u.1, .ref a_tk, .ref a_ow, .ref a_be, .ref a_ne, .ref a_ol, .int u.2.2.2.2.2.2.2.1, .int u.2.2.2.2.2.2.2.2])), (sa, .inl (G.2 0, 4, .inl u.2.1)), (a_tk, .inl (G.2 1, 64, .inl u.2.2.1)), (a_ow, .inl (G.2 0, 64, .inl u.2.2.2.1)), (a_be, .inl (G.2 0, 64, .inl u.2.2.2.2.1)), (a_ne, .inl (G.2 0, 64, .inl u.2.2.2.2.2.1)), (a_ol, .inl (G.2 0, 64, .inl u.2.2.2.2.2.2.1))] ++ []) s.heap [] := w
  unfold f_Pairs_hear at hF
  refine lv_aload_n hx hb d_Rule_hear_0 rfl (lv_at hl 0 rfl) ?_
  refine lv_iconst (v := (0 : Int32)) hx hb d_Rule_hear_1 (by decide) ?_
  refine kx_put S F w kc_Pairs 0 rfl 2 (by decide) kw_f28b66b365 rfl rfl rfl (Nat.le_of_ble_eq_true rfl) d_Rule_hear_2 (fun H locs w => ?_)
  have w : kx_W G A s ([(h, .inr (7, [.int d, .ref sa, .int (0 : Int32), .ref a_tk, .ref a_ow, .ref a_be, .ref a_ne, .ref a_ol, .int u.2.2.2.2.2.2.2.1, .int u.2.2.2.2.2.2.2.2])), (sa, .inl (G.2 0, 4, .inl u.2.1)), (a_tk, .inl (G.2 1, 64, .inl u.2.2.1)), (a_ow, .inl (G.2 0, 64, .inl u.2.2.2.1)), (a_be, .inl (G.2 0, 64, .inl u.2.2.2.2.1)), (a_ne, .inl (G.2 0, 64, .inl u.2.2.2.2.2.1)), (a_ol, .inl (G.2 0, 64, .inl u.2.2.2.2.2.2.1))] ++ []) H locs := w
  refine lv_aload_n hx hb d_Rule_hear_5 rfl (lv_at hl 0 rfl) ?_
  refine lv_iload_n hx hb d_Rule_hear_6 rfl (lv_at hl 1 rfl) ?_
  refine lv_iload_n hx hb d_Rule_hear_7 rfl (lv_at hl 2 rfl) ?_
  obtain ⟨q8, hq8, hF⟩ := kx_bd hF
  refine kx_cv (cx := [(h, .inr (7, [.int d, .ref sa, .int (0 : Int32), .ref a_tk, .ref a_ow, .ref a_be, .ref a_ne, .ref a_ol, .int u.2.2.2.2.2.2.2.1, .int u.2.2.2.2.2.2.2.2])), (sa, .inl (G.2 0, 4, .inl u.2.1)), (a_tk, .inl (G.2 1, 64, .inl u.2.2.1)), (a_ow, .inl (G.2 0, 64, .inl u.2.2.2.1)), (a_be, .inl (G.2 0, 64, .inl u.2.2.2.2.1)), (a_ne, .inl (G.2 0, 64, .inl u.2.2.2.2.2.1)), (a_ol, .inl (G.2 0, 64, .inl u.2.2.2.2.2.2.1))]) (wr := []) F w [0, 1, 2, 3, 4, 5, 6] [] rfl rfl rfl (by decide) (va_runU (As := [.int p0, .int p1]) (rest := []) S (c_Pairs_learn l G h sa d a_tk a_ow a_be a_ne a_ol ((0 : Int32), u.2) p0 p1 q8 hq8 _) (kx_cwA (n := 2) (x := ⟨"PrefetchRules$Rule", "learn", "(II)V"⟩) S F kw_85c47163e5 kw_812921046e kw_4987ac2f73 kw_49158061f9 kw_ee314cc40c kw_0ac9bf647e kw_498ee79c2d (by decide +kernel) ⟨rfl, rfl, Nat.le_of_ble_eq_true rfl, Nat.le_of_ble_eq_true rfl⟩) ⟨kx_blind _ _ _ _, va_recv (q0 := 0) F.1.1 w.1 kc_Pairs.1 rfl, kx_pre F w [0, 1, 2, 3, 4, 5, 6] rfl rfl⟩ rfl rfl hl.1 rfl (lv_room (Nat.le_of_ble_eq_true rfl)) d_Rule_hear_8 ⟨Nat.le_of_ble_eq_true rfl, Nat.le_of_ble_eq_true rfl⟩) (fun w8 H locs hp w => ?_)
  subst hp
  have w : kx_W G A s ([(h, .inr (7, [.int d, .ref sa, .int q8.1, .ref a_tk, .ref a_ow, .ref a_be, .ref a_ne, .ref a_ol, .int q8.2.2.2.2.2.2.2.1, .int q8.2.2.2.2.2.2.2.2])), (sa, .inl (G.2 0, 4, .inl q8.2.1)), (a_tk, .inl (G.2 1, 64, .inl q8.2.2.1)), (a_ow, .inl (G.2 0, 64, .inl q8.2.2.2.1)), (a_be, .inl (G.2 0, 64, .inl q8.2.2.2.2.1)), (a_ne, .inl (G.2 0, 64, .inl q8.2.2.2.2.2.1)), (a_ol, .inl (G.2 0, 64, .inl q8.2.2.2.2.2.2.1))] ++ []) H locs := w
  obtain rfl := Option.some.inj hF
  exact kx_vret hQ S hr hlocks w (xo := [(h, .inr (7, [.int d, .ref sa, .int q8.1, .ref a_tk, .ref a_ow, .ref a_be, .ref a_ne, .ref a_ol, .int q8.2.2.2.2.2.2.2.1, .int q8.2.2.2.2.2.2.2.2])), (sa, .inl (G.2 0, 4, .inl q8.2.1)), (a_tk, .inl (G.2 1, 64, .inl q8.2.2.1)), (a_ow, .inl (G.2 0, 64, .inl q8.2.2.2.1)), (a_be, .inl (G.2 0, 64, .inl q8.2.2.2.2.1)), (a_ne, .inl (G.2 0, 64, .inl q8.2.2.2.2.2.1)), (a_ol, .inl (G.2 0, 64, .inl q8.2.2.2.2.2.2.1))]) [0, 1, 2, 3, 4, 5, 6] rfl rfl q8 rfl rfl d_Rule_hear_11
/-! Pairs_saidCount -/
def f_Pairs_saidCount (d : Int32) (u : sg_pairs) : Option (Int32) := some u.1
def rm_Pairs_saidCount : Room := { frames := 0, cells := 0, slots := 0, locals := 0 }
set_option maxRecDepth 100000 in
set_option maxHeartbeats 4000000 in
theorem c_Pairs_saidCount (l : Launch) (G : kx_G) (h : Nat) (sa : Nat) (d : Int32) (a_tk : Nat) (a_ow : Nat) (a_be : Nat) (a_ne : Nat) (a_ol : Nat) (u : sg_pairs) (v : Int32) (hF : f_Pairs_saidCount d u = some v) : CtI l y_Rule_saidCount b_Rule_saidCount 1 (some .int) rm_Pairs_saidCount G [.ref h] [(h, .inr (7, [.int d, .ref sa, .int u.1, .ref a_tk, .ref a_ow, .ref a_be, .ref a_ne, .ref a_ol, .int u.2.2.2.2.2.2.2.1, .int u.2.2.2.2.2.2.2.2])), (sa, .inl (G.2 0, 4, .inl u.2.1)), (a_tk, .inl (G.2 1, 64, .inl u.2.2.1)), (a_ow, .inl (G.2 0, 64, .inl u.2.2.2.1)), (a_be, .inl (G.2 0, 64, .inl u.2.2.2.2.1)), (a_ne, .inl (G.2 0, 64, .inl u.2.2.2.2.2.1)), (a_ol, .inl (G.2 0, 64, .inl u.2.2.2.2.2.2.1))] (fun (r : Int32) (_ : Unit) => v = r) (fun _ => [(h, .inr (7, [.int d, .ref sa, .int u.1, .ref a_tk, .ref a_ow, .ref a_be, .ref a_ne, .ref a_ol, .int u.2.2.2.2.2.2.2.1, .int u.2.2.2.2.2.2.2.2])), (sa, .inl (G.2 0, 4, .inl u.2.1)), (a_tk, .inl (G.2 1, 64, .inl u.2.2.1)), (a_ow, .inl (G.2 0, 64, .inl u.2.2.2.1)), (a_be, .inl (G.2 0, 64, .inl u.2.2.2.2.1)), (a_ne, .inl (G.2 0, 64, .inl u.2.2.2.2.2.1)), (a_ol, .inl (G.2 0, 64, .inl u.2.2.2.2.2.2.1))]) 0 0 := by
  refine CtI.of (by decide) (Nat.le_of_ble_eq_true rfl) [(0, .ref h)] rfl ?_
  intro p e s m args below meth c A ls Q hQ S hr hlocks F w hl
  have S : CallFix p m c b_Rule_saidCount 1 s args kx_T "PrefetchRules$Rule" := S
  obtain ⟨hx, hb, hml, hown, hts⟩ := id S
  have w : kx_W G A s ([(h, .inr (7, [.int d, .ref sa, .int u.1, .ref a_tk, .ref a_ow, .ref a_be, .ref a_ne, .ref a_ol, .int u.2.2.2.2.2.2.2.1, .int u.2.2.2.2.2.2.2.2])), (sa, .inl (G.2 0, 4, .inl u.2.1)), (a_tk, .inl (G.2 1, 64, .inl u.2.2.1)), (a_ow, .inl (G.2 0, 64, .inl u.2.2.2.1)), (a_be, .inl (G.2 0, 64, .inl u.2.2.2.2.1)), (a_ne, .inl (G.2 0, 64, .inl u.2.2.2.2.2.1)), (a_ol, .inl (G.2 0, 64, .inl u.2.2.2.2.2.2.1))] ++ []) s.heap [] := w
  unfold f_Pairs_saidCount at hF
  refine lv_aload_n hx hb d_Rule_saidCount_0 rfl (lv_at hl 0 rfl) ?_
  refine kx_get S F w kc_Pairs 0 rfl 2 (by decide) kw_f28b66b365 rfl d_Rule_saidCount_1 ?_
  obtain rfl := Option.some.inj hF
  exact kx_iret hQ S hr hlocks w (xo := [(h, .inr (7, [.int d, .ref sa, .int u.1, .ref a_tk, .ref a_ow, .ref a_be, .ref a_ne, .ref a_ol, .int u.2.2.2.2.2.2.2.1, .int u.2.2.2.2.2.2.2.2])), (sa, .inl (G.2 0, 4, .inl u.2.1)), (a_tk, .inl (G.2 1, 64, .inl u.2.2.1)), (a_ow, .inl (G.2 0, 64, .inl u.2.2.2.1)), (a_be, .inl (G.2 0, 64, .inl u.2.2.2.2.1)), (a_ne, .inl (G.2 0, 64, .inl u.2.2.2.2.2.1)), (a_ol, .inl (G.2 0, 64, .inl u.2.2.2.2.2.2.1))]) [0, 1, 2, 3, 4, 5, 6] rfl rfl () rfl rfl d_Rule_saidCount_4
/-! Pairs_saidLine -/
def f_Pairs_saidLine (d : Int32) (u : sg_pairs) (p0 : Int32) : Option (Int32) := (if p0 < 0 then some (-1 : Int32) else (if u.1 ≤ p0 then some (-1 : Int32) else (if (nI 4) ≤ p0 then some (-1 : Int32) else (if (p0 < 0 ∨ 4 ≤ p0.toNatClampNeg) then none else some (u.2.1 p0.toNatClampNeg)))))
def rm_Pairs_saidLine : Room := { frames := 0, cells := 0, slots := 0, locals := 0 }
set_option maxRecDepth 100000 in
set_option maxHeartbeats 4000000 in
theorem c_Pairs_saidLine (l : Launch) (G : kx_G) (h : Nat) (sa : Nat) (d : Int32) (a_tk : Nat) (a_ow : Nat) (a_be : Nat) (a_ne : Nat) (a_ol : Nat) (u : sg_pairs) (p0 : Int32) (v : Int32) (hF : f_Pairs_saidLine d u p0 = some v) : CtI l y_Rule_saidLine b_Rule_saidLine 2 (some .int) rm_Pairs_saidLine G [.ref h, .int p0] [(h, .inr (7, [.int d, .ref sa, .int u.1, .ref a_tk, .ref a_ow, .ref a_be, .ref a_ne, .ref a_ol, .int u.2.2.2.2.2.2.2.1, .int u.2.2.2.2.2.2.2.2])), (sa, .inl (G.2 0, 4, .inl u.2.1)), (a_tk, .inl (G.2 1, 64, .inl u.2.2.1)), (a_ow, .inl (G.2 0, 64, .inl u.2.2.2.1)), (a_be, .inl (G.2 0, 64, .inl u.2.2.2.2.1)), (a_ne, .inl (G.2 0, 64, .inl u.2.2.2.2.2.1)), (a_ol, .inl (G.2 0, 64, .inl u.2.2.2.2.2.2.1))] (fun (r : Int32) (_ : Unit) => v = r) (fun _ => [(h, .inr (7, [.int d, .ref sa, .int u.1, .ref a_tk, .ref a_ow, .ref a_be, .ref a_ne, .ref a_ol, .int u.2.2.2.2.2.2.2.1, .int u.2.2.2.2.2.2.2.2])), (sa, .inl (G.2 0, 4, .inl u.2.1)), (a_tk, .inl (G.2 1, 64, .inl u.2.2.1)), (a_ow, .inl (G.2 0, 64, .inl u.2.2.2.1)), (a_be, .inl (G.2 0, 64, .inl u.2.2.2.2.1)), (a_ne, .inl (G.2 0, 64, .inl u.2.2.2.2.2.1)), (a_ol, .inl (G.2 0, 64, .inl u.2.2.2.2.2.2.1))]) 0 0 := by
  refine CtI.of (by decide) (Nat.le_of_ble_eq_true rfl) [(0, .ref h), (1, .int p0)] rfl ?_
  intro p e s m args below meth c A ls Q hQ S hr hlocks F w hl
  have S : CallFix p m c b_Rule_saidLine 2 s args kx_T "PrefetchRules$Rule" := S
  obtain ⟨hx, hb, hml, hown, hts⟩ := id S
  have w : kx_W G A s ([(h, .inr (7, [.int d, .ref sa, .int u.1, .ref a_tk, .ref a_ow, .ref a_be, .ref a_ne, .ref a_ol, .int u.2.2.2.2.2.2.2.1, .int u.2.2.2.2.2.2.2.2])), (sa, .inl (G.2 0, 4, .inl u.2.1)), (a_tk, .inl (G.2 1, 64, .inl u.2.2.1)), (a_ow, .inl (G.2 0, 64, .inl u.2.2.2.1)), (a_be, .inl (G.2 0, 64, .inl u.2.2.2.2.1)), (a_ne, .inl (G.2 0, 64, .inl u.2.2.2.2.2.1)), (a_ol, .inl (G.2 0, 64, .inl u.2.2.2.2.2.2.1))] ++ []) s.heap [] := w
  unfold f_Pairs_saidLine at hF
  refine lv_iload_n hx hb d_Rule_saidLine_0 rfl (lv_at hl 1 rfl) ?_
  refine lv_if_lt (tgt := 30) hx hb d_Rule_saidLine_1 (by decide) (fun c1 => ?_) (fun c1 => ?_)
  · have hF := kx_t c1 hF
    refine lv_iconst (v := (-1 : Int32)) hx hb d_Rule_saidLine_30 (by decide) ?_
    obtain rfl := Option.some.inj hF
    exact kx_iret hQ S hr hlocks w (xo := [(h, .inr (7, [.int d, .ref sa, .int u.1, .ref a_tk, .ref a_ow, .ref a_be, .ref a_ne, .ref a_ol, .int u.2.2.2.2.2.2.2.1, .int u.2.2.2.2.2.2.2.2])), (sa, .inl (G.2 0, 4, .inl u.2.1)), (a_tk, .inl (G.2 1, 64, .inl u.2.2.1)), (a_ow, .inl (G.2 0, 64, .inl u.2.2.2.1)), (a_be, .inl (G.2 0, 64, .inl u.2.2.2.2.1)), (a_ne, .inl (G.2 0, 64, .inl u.2.2.2.2.2.1)), (a_ol, .inl (G.2 0, 64, .inl u.2.2.2.2.2.2.1))]) [0, 1, 2, 3, 4, 5, 6] rfl rfl () rfl rfl d_Rule_saidLine_31
  · have hF := kx_f c1 hF
    refine lv_iload_n hx hb d_Rule_saidLine_4 rfl (lv_at hl 1 rfl) ?_
    refine lv_aload_n hx hb d_Rule_saidLine_5 rfl (lv_at hl 0 rfl) ?_
    refine kx_get S F w kc_Pairs 0 rfl 2 (by decide) kw_f28b66b365 rfl d_Rule_saidLine_6 ?_
    refine lv_icmp_ge (tgt := 30) hx hb d_Rule_saidLine_9 (by decide) (fun c9 => ?_) (fun c9 => ?_)
    · have hF := kx_t c9 hF
      refine lv_iconst (v := (-1 : Int32)) hx hb d_Rule_saidLine_30 (by decide) ?_
      obtain rfl := Option.some.inj hF
      exact kx_iret hQ S hr hlocks w (xo := [(h, .inr (7, [.int d, .ref sa, .int u.1, .ref a_tk, .ref a_ow, .ref a_be, .ref a_ne, .ref a_ol, .int u.2.2.2.2.2.2.2.1, .int u.2.2.2.2.2.2.2.2])), (sa, .inl (G.2 0, 4, .inl u.2.1)), (a_tk, .inl (G.2 1, 64, .inl u.2.2.1)), (a_ow, .inl (G.2 0, 64, .inl u.2.2.2.1)), (a_be, .inl (G.2 0, 64, .inl u.2.2.2.2.1)), (a_ne, .inl (G.2 0, 64, .inl u.2.2.2.2.2.1)), (a_ol, .inl (G.2 0, 64, .inl u.2.2.2.2.2.2.1))]) [0, 1, 2, 3, 4, 5, 6] rfl rfl () rfl rfl d_Rule_saidLine_31
    · have hF := kx_f c9 hF
      refine lv_iload_n hx hb d_Rule_saidLine_12 rfl (lv_at hl 1 rfl) ?_
      refine lv_aload_n hx hb d_Rule_saidLine_13 rfl (lv_at hl 0 rfl) ?_
      refine kx_get S F w kc_Pairs 0 rfl 1 (by decide) kw_266785f3c2 rfl d_Rule_saidLine_14 ?_
      refine kx_alen S F w 1 0 rfl rfl d_Rule_saidLine_17 ?_
      refine lv_icmp_ge (tgt := 30) hx hb d_Rule_saidLine_18 (by decide) (fun c18 => ?_) (fun c18 => ?_)
      · have hF := kx_t c18 hF
        refine lv_iconst (v := (-1 : Int32)) hx hb d_Rule_saidLine_30 (by decide) ?_
        obtain rfl := Option.some.inj hF
        exact kx_iret hQ S hr hlocks w (xo := [(h, .inr (7, [.int d, .ref sa, .int u.1, .ref a_tk, .ref a_ow, .ref a_be, .ref a_ne, .ref a_ol, .int u.2.2.2.2.2.2.2.1, .int u.2.2.2.2.2.2.2.2])), (sa, .inl (G.2 0, 4, .inl u.2.1)), (a_tk, .inl (G.2 1, 64, .inl u.2.2.1)), (a_ow, .inl (G.2 0, 64, .inl u.2.2.2.1)), (a_be, .inl (G.2 0, 64, .inl u.2.2.2.2.1)), (a_ne, .inl (G.2 0, 64, .inl u.2.2.2.2.2.1)), (a_ol, .inl (G.2 0, 64, .inl u.2.2.2.2.2.2.1))]) [0, 1, 2, 3, 4, 5, 6] rfl rfl () rfl rfl d_Rule_saidLine_31
      · have hF := kx_f c18 hF
        refine lv_aload_n hx hb d_Rule_saidLine_21 rfl (lv_at hl 0 rfl) ?_
        refine kx_get S F w kc_Pairs 0 rfl 1 (by decide) kw_266785f3c2 rfl d_Rule_saidLine_22 ?_
        refine lv_iload_n hx hb d_Rule_saidLine_25 rfl (lv_at hl 1 rfl) ?_
        obtain ⟨hi26, hF⟩ := kx_ar hF
        refine kx_iald S F w 1 rfl hi26 d_Rule_saidLine_26 ?_
        refine lv_goto (tgt := 31) hx hb d_Rule_saidLine_27 (by decide) ?_
        obtain rfl := Option.some.inj hF
        exact kx_iret hQ S hr hlocks w (xo := [(h, .inr (7, [.int d, .ref sa, .int u.1, .ref a_tk, .ref a_ow, .ref a_be, .ref a_ne, .ref a_ol, .int u.2.2.2.2.2.2.2.1, .int u.2.2.2.2.2.2.2.2])), (sa, .inl (G.2 0, 4, .inl u.2.1)), (a_tk, .inl (G.2 1, 64, .inl u.2.2.1)), (a_ow, .inl (G.2 0, 64, .inl u.2.2.2.1)), (a_be, .inl (G.2 0, 64, .inl u.2.2.2.2.1)), (a_ne, .inl (G.2 0, 64, .inl u.2.2.2.2.2.1)), (a_ol, .inl (G.2 0, 64, .inl u.2.2.2.2.2.2.1))]) [0, 1, 2, 3, 4, 5, 6] rfl rfl () rfl rfl d_Rule_saidLine_31
/-! Pairs_roundCount -/
def f_Pairs_roundCount (d : Int32) (u : sg_pairs) : Option (Int32) := some (0 : Int32)
def rm_Pairs_roundCount : Room := { frames := 0, cells := 0, slots := 0, locals := 0 }
set_option maxRecDepth 100000 in
set_option maxHeartbeats 4000000 in
theorem c_Pairs_roundCount (l : Launch) (G : kx_G) (h : Nat) (sa : Nat) (d : Int32) (a_tk : Nat) (a_ow : Nat) (a_be : Nat) (a_ne : Nat) (a_ol : Nat) (u : sg_pairs) (v : Int32) (hF : f_Pairs_roundCount d u = some v) : CtI l y_Rule_roundCount b_Rule_roundCount 1 (some .int) rm_Pairs_roundCount G [.ref h] [(h, .inr (7, [.int d, .ref sa, .int u.1, .ref a_tk, .ref a_ow, .ref a_be, .ref a_ne, .ref a_ol, .int u.2.2.2.2.2.2.2.1, .int u.2.2.2.2.2.2.2.2])), (sa, .inl (G.2 0, 4, .inl u.2.1)), (a_tk, .inl (G.2 1, 64, .inl u.2.2.1)), (a_ow, .inl (G.2 0, 64, .inl u.2.2.2.1)), (a_be, .inl (G.2 0, 64, .inl u.2.2.2.2.1)), (a_ne, .inl (G.2 0, 64, .inl u.2.2.2.2.2.1)), (a_ol, .inl (G.2 0, 64, .inl u.2.2.2.2.2.2.1))] (fun (r : Int32) (_ : Unit) => v = r) (fun _ => [(h, .inr (7, [.int d, .ref sa, .int u.1, .ref a_tk, .ref a_ow, .ref a_be, .ref a_ne, .ref a_ol, .int u.2.2.2.2.2.2.2.1, .int u.2.2.2.2.2.2.2.2])), (sa, .inl (G.2 0, 4, .inl u.2.1)), (a_tk, .inl (G.2 1, 64, .inl u.2.2.1)), (a_ow, .inl (G.2 0, 64, .inl u.2.2.2.1)), (a_be, .inl (G.2 0, 64, .inl u.2.2.2.2.1)), (a_ne, .inl (G.2 0, 64, .inl u.2.2.2.2.2.1)), (a_ol, .inl (G.2 0, 64, .inl u.2.2.2.2.2.2.1))]) 0 0 := by
  refine CtI.of (by decide) (Nat.le_of_ble_eq_true rfl) [(0, .ref h)] rfl ?_
  intro p e s m args below meth c A ls Q hQ S hr hlocks F w hl
  have S : CallFix p m c b_Rule_roundCount 1 s args kx_T "PrefetchRules$Rule" := S
  obtain ⟨hx, hb, hml, hown, hts⟩ := id S
  have w : kx_W G A s ([(h, .inr (7, [.int d, .ref sa, .int u.1, .ref a_tk, .ref a_ow, .ref a_be, .ref a_ne, .ref a_ol, .int u.2.2.2.2.2.2.2.1, .int u.2.2.2.2.2.2.2.2])), (sa, .inl (G.2 0, 4, .inl u.2.1)), (a_tk, .inl (G.2 1, 64, .inl u.2.2.1)), (a_ow, .inl (G.2 0, 64, .inl u.2.2.2.1)), (a_be, .inl (G.2 0, 64, .inl u.2.2.2.2.1)), (a_ne, .inl (G.2 0, 64, .inl u.2.2.2.2.2.1)), (a_ol, .inl (G.2 0, 64, .inl u.2.2.2.2.2.2.1))] ++ []) s.heap [] := w
  unfold f_Pairs_roundCount at hF
  refine lv_iconst (v := (0 : Int32)) hx hb d_Rule_roundCount_0 (by decide) ?_
  obtain rfl := Option.some.inj hF
  exact kx_iret hQ S hr hlocks w (xo := [(h, .inr (7, [.int d, .ref sa, .int u.1, .ref a_tk, .ref a_ow, .ref a_be, .ref a_ne, .ref a_ol, .int u.2.2.2.2.2.2.2.1, .int u.2.2.2.2.2.2.2.2])), (sa, .inl (G.2 0, 4, .inl u.2.1)), (a_tk, .inl (G.2 1, 64, .inl u.2.2.1)), (a_ow, .inl (G.2 0, 64, .inl u.2.2.2.1)), (a_be, .inl (G.2 0, 64, .inl u.2.2.2.2.1)), (a_ne, .inl (G.2 0, 64, .inl u.2.2.2.2.2.1)), (a_ol, .inl (G.2 0, 64, .inl u.2.2.2.2.2.2.1))]) [0, 1, 2, 3, 4, 5, 6] rfl rfl () rfl rfl d_Rule_roundCount_1
/-! Pairs_init -/
def rm_Pairs_init : Room := { frames := 2, cells := 6, slots := 324, locals := 41 }
set_option maxRecDepth 100000 in
set_option maxHeartbeats 4000000 in
theorem c_Pairs_init (l : Launch) (G : kx_G) (h : Nat) (p0 : Int32) : CtV l y_Pairs_init b_Pairs_init 2 rm_Pairs_init G [.ref h, .int p0] [(h, .inr (7, [.int 0, .null, .int 0, .null, .null, .null, .null, .null, .int 0, .int 0]))] (fun (_ : Nat × Nat × Nat × Nat × Nat × Nat) => True) (fun w => [(h, .inr (7, [.int p0, .ref w.1, .int 0, .ref w.2.1, .ref w.2.2.1, .ref w.2.2.2.1, .ref w.2.2.2.2.1, .ref w.2.2.2.2.2, .int 0, .int 0])), (w.1, .inl (G.2 0, 4, .inl (fun _ => 0))), (w.2.1, .inl (G.2 1, 64, .inl (fun _ => 0))), (w.2.2.1, .inl (G.2 0, 64, .inl (fun _ => 0))), (w.2.2.2.1, .inl (G.2 0, 64, .inl (fun _ => 0))), (w.2.2.2.2.1, .inl (G.2 0, 64, .inl (fun _ => 0))), (w.2.2.2.2.2, .inl (G.2 0, 64, .inl (fun _ => 0)))]) 6 324 := by
  refine CtV.of (by decide) (Nat.le_of_ble_eq_true rfl) [(0, .ref h), (1, .int p0)] rfl ?_
  intro p e s m args below meth c A ls Q hQ S hr hlocks hin F w hl
  have S : CallFix p m c b_Pairs_init 2 s args kx_T "PrefetchRules$Pairs" := S
  obtain ⟨hx, hb, hml, hown, hts⟩ := id S
  have w : kx_W G A s ([(h, .inr (7, [.int 0, .null, .int 0, .null, .null, .null, .null, .null, .int 0, .int 0]))] ++ []) s.heap [] := w
  refine lv_aload_n hx hb d_Pairs_init_0 rfl (lv_at hl 0 rfl) ?_
  refine lv_iload_n hx hb d_Pairs_init_1 rfl (lv_at hl 1 rfl) ?_
  refine kx_cv (cx := [(h, .inr (7, [.int 0, .null, .int 0, .null, .null, .null, .null, .null, .int 0, .int 0]))]) (wr := []) F w [0] [] rfl rfl rfl (by decide) (va_runI (As := [.int p0]) (rest := []) S (c_Rule_init l G 7 ("PrefetchRules$Pairs") F_Pairs 10 t_Pairs h ([.null, .null, .null, .null, .null, .int 0, .int 0]) kr_Pairs p0 _) (kx_cwI S mi_Rule_init kw_dc5edc7658 ⟨rfl, rfl, Nat.le_of_ble_eq_true rfl, Nat.le_of_ble_eq_true rfl⟩) ⟨kx_blind _ _ _ _, kx_pre F w [0] rfl rfl⟩ rfl rfl hl.1 rfl (lv_room (Nat.le_of_ble_eq_true rfl)) d_Pairs_init_2 ⟨Nat.le_of_ble_eq_true rfl, Nat.le_of_ble_eq_true rfl⟩) (fun w2 H locs hp w => ?_)
  have w : kx_W G A s ([(h, .inr (7, [.int p0, .ref w2, .int 0, .null, .null, .null, .null, .null, .int 0, .int 0])), (w2, .inl (G.2 0, 4, .inl (fun _ => 0)))] ++ []) H locs := w
  refine lv_aload_n hx hb d_Pairs_init_5 rfl (lv_at hl 0 rfl) ?_
  refine lv_bipush (v := (64 : Int32)) hx hb d_Pairs_init_6 (by decide) ?_
  refine kx_newz S F w kw_3c893b368c (N' := 64) (by decide) (by decide) (by decide) (Nat.le_of_ble_eq_true rfl) (Nat.le_of_ble_eq_true rfl) d_Pairs_init_8 (fun b8 H w => ?_)
  have w : kx_W G A s ([(h, .inr (7, [.int p0, .ref w2, .int 0, .null, .null, .null, .null, .null, .int 0, .int 0])), (w2, .inl (G.2 0, 4, .inl (fun _ => 0))), (b8, .inl (G.2 1, 64, .inl (fun _ => 0)))] ++ []) H locs := w
  refine kx_putF S F w kc_Pairs 0 rfl 3 (by decide) kw_1f8f065a79 rfl hin rfl rfl rfl (Nat.le_of_ble_eq_true rfl) d_Pairs_init_10 (fun H locs w => ?_)
  have w : kx_W G A s ([(h, .inr (7, [.int p0, .ref w2, .int 0, .ref b8, .null, .null, .null, .null, .int 0, .int 0])), (w2, .inl (G.2 0, 4, .inl (fun _ => 0))), (b8, .inl (G.2 1, 64, .inl (fun _ => 0)))] ++ []) H locs := w
  refine lv_aload_n hx hb d_Pairs_init_13 rfl (lv_at hl 0 rfl) ?_
  refine lv_bipush (v := (64 : Int32)) hx hb d_Pairs_init_14 (by decide) ?_
  refine kx_newi S F w kw_32e41f54b3 (N' := 64) (by decide) (by decide) (by decide) (Nat.le_of_ble_eq_true rfl) (Nat.le_of_ble_eq_true rfl) d_Pairs_init_16 (fun b16 H w => ?_)
  have w : kx_W G A s ([(h, .inr (7, [.int p0, .ref w2, .int 0, .ref b8, .null, .null, .null, .null, .int 0, .int 0])), (w2, .inl (G.2 0, 4, .inl (fun _ => 0))), (b8, .inl (G.2 1, 64, .inl (fun _ => 0))), (b16, .inl (G.2 0, 64, .inl (fun _ => 0)))] ++ []) H locs := w
  refine kx_putF S F w kc_Pairs 0 rfl 4 (by decide) kw_a89b35cae7 rfl hin rfl rfl rfl (Nat.le_of_ble_eq_true rfl) d_Pairs_init_18 (fun H locs w => ?_)
  have w : kx_W G A s ([(h, .inr (7, [.int p0, .ref w2, .int 0, .ref b8, .ref b16, .null, .null, .null, .int 0, .int 0])), (w2, .inl (G.2 0, 4, .inl (fun _ => 0))), (b8, .inl (G.2 1, 64, .inl (fun _ => 0))), (b16, .inl (G.2 0, 64, .inl (fun _ => 0)))] ++ []) H locs := w
  refine lv_aload_n hx hb d_Pairs_init_21 rfl (lv_at hl 0 rfl) ?_
  refine lv_bipush (v := (64 : Int32)) hx hb d_Pairs_init_22 (by decide) ?_
  refine kx_newi S F w kw_32e41f54b3 (N' := 64) (by decide) (by decide) (by decide) (Nat.le_of_ble_eq_true rfl) (Nat.le_of_ble_eq_true rfl) d_Pairs_init_24 (fun b24 H w => ?_)
  have w : kx_W G A s ([(h, .inr (7, [.int p0, .ref w2, .int 0, .ref b8, .ref b16, .null, .null, .null, .int 0, .int 0])), (w2, .inl (G.2 0, 4, .inl (fun _ => 0))), (b8, .inl (G.2 1, 64, .inl (fun _ => 0))), (b16, .inl (G.2 0, 64, .inl (fun _ => 0))), (b24, .inl (G.2 0, 64, .inl (fun _ => 0)))] ++ []) H locs := w
  refine kx_putF S F w kc_Pairs 0 rfl 5 (by decide) kw_97e607a90d rfl hin rfl rfl rfl (Nat.le_of_ble_eq_true rfl) d_Pairs_init_26 (fun H locs w => ?_)
  have w : kx_W G A s ([(h, .inr (7, [.int p0, .ref w2, .int 0, .ref b8, .ref b16, .ref b24, .null, .null, .int 0, .int 0])), (w2, .inl (G.2 0, 4, .inl (fun _ => 0))), (b8, .inl (G.2 1, 64, .inl (fun _ => 0))), (b16, .inl (G.2 0, 64, .inl (fun _ => 0))), (b24, .inl (G.2 0, 64, .inl (fun _ => 0)))] ++ []) H locs := w
  refine lv_aload_n hx hb d_Pairs_init_29 rfl (lv_at hl 0 rfl) ?_
  refine lv_bipush (v := (64 : Int32)) hx hb d_Pairs_init_30 (by decide) ?_
  refine kx_newi S F w kw_32e41f54b3 (N' := 64) (by decide) (by decide) (by decide) (Nat.le_of_ble_eq_true rfl) (Nat.le_of_ble_eq_true rfl) d_Pairs_init_32 (fun b32 H w => ?_)
  have w : kx_W G A s ([(h, .inr (7, [.int p0, .ref w2, .int 0, .ref b8, .ref b16, .ref b24, .null, .null, .int 0, .int 0])), (w2, .inl (G.2 0, 4, .inl (fun _ => 0))), (b8, .inl (G.2 1, 64, .inl (fun _ => 0))), (b16, .inl (G.2 0, 64, .inl (fun _ => 0))), (b24, .inl (G.2 0, 64, .inl (fun _ => 0))), (b32, .inl (G.2 0, 64, .inl (fun _ => 0)))] ++ []) H locs := w
  refine kx_putF S F w kc_Pairs 0 rfl 6 (by decide) kw_202a0387b3 rfl hin rfl rfl rfl (Nat.le_of_ble_eq_true rfl) d_Pairs_init_34 (fun H locs w => ?_)
  have w : kx_W G A s ([(h, .inr (7, [.int p0, .ref w2, .int 0, .ref b8, .ref b16, .ref b24, .ref b32, .null, .int 0, .int 0])), (w2, .inl (G.2 0, 4, .inl (fun _ => 0))), (b8, .inl (G.2 1, 64, .inl (fun _ => 0))), (b16, .inl (G.2 0, 64, .inl (fun _ => 0))), (b24, .inl (G.2 0, 64, .inl (fun _ => 0))), (b32, .inl (G.2 0, 64, .inl (fun _ => 0)))] ++ []) H locs := w
  refine lv_aload_n hx hb d_Pairs_init_37 rfl (lv_at hl 0 rfl) ?_
  refine lv_bipush (v := (64 : Int32)) hx hb d_Pairs_init_38 (by decide) ?_
  refine kx_newi S F w kw_32e41f54b3 (N' := 64) (by decide) (by decide) (by decide) (Nat.le_of_ble_eq_true rfl) (Nat.le_of_ble_eq_true rfl) d_Pairs_init_40 (fun b40 H w => ?_)
  have w : kx_W G A s ([(h, .inr (7, [.int p0, .ref w2, .int 0, .ref b8, .ref b16, .ref b24, .ref b32, .null, .int 0, .int 0])), (w2, .inl (G.2 0, 4, .inl (fun _ => 0))), (b8, .inl (G.2 1, 64, .inl (fun _ => 0))), (b16, .inl (G.2 0, 64, .inl (fun _ => 0))), (b24, .inl (G.2 0, 64, .inl (fun _ => 0))), (b32, .inl (G.2 0, 64, .inl (fun _ => 0))), (b40, .inl (G.2 0, 64, .inl (fun _ => 0)))] ++ []) H locs := w
  refine kx_putF S F w kc_Pairs 0 rfl 7 (by decide) kw_696e2a9f7e rfl hin rfl rfl rfl (Nat.le_of_ble_eq_true rfl) d_Pairs_init_42 (fun H locs w => ?_)
  have w : kx_W G A s ([(h, .inr (7, [.int p0, .ref w2, .int 0, .ref b8, .ref b16, .ref b24, .ref b32, .ref b40, .int 0, .int 0])), (w2, .inl (G.2 0, 4, .inl (fun _ => 0))), (b8, .inl (G.2 1, 64, .inl (fun _ => 0))), (b16, .inl (G.2 0, 64, .inl (fun _ => 0))), (b24, .inl (G.2 0, 64, .inl (fun _ => 0))), (b32, .inl (G.2 0, 64, .inl (fun _ => 0))), (b40, .inl (G.2 0, 64, .inl (fun _ => 0)))] ++ []) H locs := w
  refine W.widen (k := 6) (n := 324) (Nat.le_of_ble_eq_true rfl) (Nat.le_of_ble_eq_true rfl) ?_
  exact kx_vret hQ S hr hlocks w (xo := [(h, .inr (7, [.int p0, .ref w2, .int 0, .ref b8, .ref b16, .ref b24, .ref b32, .ref b40, .int 0, .int 0])), (w2, .inl (G.2 0, 4, .inl (fun _ => 0))), (b8, .inl (G.2 1, 64, .inl (fun _ => 0))), (b16, .inl (G.2 0, 64, .inl (fun _ => 0))), (b24, .inl (G.2 0, 64, .inl (fun _ => 0))), (b32, .inl (G.2 0, 64, .inl (fun _ => 0))), (b40, .inl (G.2 0, 64, .inl (fun _ => 0)))]) [0, 1, 2, 3, 4, 5, 6] rfl rfl (w2, b8, b16, b24, b32, b40) rfl trivial d_Pairs_init_45
