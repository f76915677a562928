/-! Rule_degree -/
def f_Rule_degree (d : Int32) (u : sg_rule) : Option (Int32) := some d
def rm_Rule_degree : Room := { frames := 0, cells := 0, slots := 0, locals := 0 }
set_option maxRecDepth 100000 in
set_option maxHeartbeats 4000000 in
theorem c_Rule_degree (l : Launch) (G : kx_G) (ki : Nat) (KC : String) (KT : u_T) (KN : Nat) (kt : Nat → FieldType) (h : Nat) (sa : Nat) (d : Int32) (fr : List Value) (hK : kx_rule ki KC KT KN kt) (u : sg_rule) (v : Int32) (hF : f_Rule_degree d u = some v) : CtI l y_Rule_degree b_Rule_degree 1 (some .int) rm_Rule_degree G [.ref h] [(h, .inr (ki, .int d :: .ref sa :: .int u.1 :: fr)), (sa, .inl (G.2 0, 4, .inl u.2))] (fun (r : Int32) (_ : Unit) => v = r) (fun _ => [(h, .inr (ki, .int d :: .ref sa :: .int u.1 :: fr)), (sa, .inl (G.2 0, 4, .inl u.2))]) 0 0 := by
  refine CtI.of (by decide) (Nat.le_of_ble_eq_true rfl) [(0, .ref h)] rfl ?_
  intro p e s m args below meth c A ls Q hQ S hr hlocks F w hl
  have S : CallFix p m c b_Rule_degree 1 s args kx_T "PrefetchRules$Rule" := S
  obtain ⟨hx, hb, hml, hown, hts⟩ := id S
  have w : kx_W G A s ([(h, .inr (ki, .int d :: .ref sa :: .int u.1 :: fr)), (sa, .inl (G.2 0, 4, .inl u.2))] ++ []) s.heap [] := w
  unfold f_Rule_degree at hF
  refine lv_aload_n hx hb d_Rule_degree_0 rfl (lv_at hl 0 rfl) ?_
  refine kx_get S F w hK.1 0 rfl 0 (hK.lt (by decide)) (by rw [hK.t0]; exact kw_fc111a5aaa) rfl d_Rule_degree_1 ?_
  obtain rfl := Option.some.inj hF
  exact kx_iret hQ S hr hlocks w (xo := [(h, .inr (ki, .int d :: .ref sa :: .int u.1 :: fr)), (sa, .inl (G.2 0, 4, .inl u.2))]) [0, 1] rfl rfl () rfl rfl d_Rule_degree_4
/-! Rule_say -/
def f_Rule_say (d : Int32) (u : sg_rule) (p0 : Int32) : Option (sg_rule) := (if u.1 < 0 then some u else (if (nI 4) ≤ u.1 then some u else (if (u.1 < 0 ∨ 4 ≤ u.1.toNatClampNeg) then none else some (u.1 + (1 : Int32), upd u.2 u.1.toNatClampNeg p0))))
def rm_Rule_say : Room := { frames := 0, cells := 0, slots := 0, locals := 0 }
set_option maxRecDepth 100000 in
set_option maxHeartbeats 4000000 in
theorem c_Rule_say (l : Launch) (G : kx_G) (ki : Nat) (KC : String) (KT : u_T) (KN : Nat) (kt : Nat → FieldType) (h : Nat) (sa : Nat) (d : Int32) (fr : List Value) (hK : kx_rule ki KC KT KN kt) (u : sg_rule) (p0 : Int32) (v : sg_rule) (hF : f_Rule_say d u p0 = some v) : CtV l y_Rule_say b_Rule_say 2 rm_Rule_say G [.ref h, .int p0] [(h, .inr (ki, .int d :: .ref sa :: .int u.1 :: fr)), (sa, .inl (G.2 0, 4, .inl u.2))] (fun w : sg_rule => v = w) (fun w => [(h, .inr (ki, .int d :: .ref sa :: .int w.1 :: fr)), (sa, .inl (G.2 0, 4, .inl w.2))]) 0 0 := by
  refine CtV.of (by decide) (Nat.le_of_ble_eq_true rfl) [(0, .ref h), (1, .int p0)] rfl ?_
  intro p e s m args below meth c A ls Q hQ S hr hlocks hin F w hl
  have S : CallFix p m c b_Rule_say 2 s args kx_T "PrefetchRules$Rule" := S
  obtain ⟨hx, hb, hml, hown, hts⟩ := id S
  have w : kx_W G A s ([(h, .inr (ki, .int d :: .ref sa :: .int u.1 :: fr)), (sa, .inl (G.2 0, 4, .inl u.2))] ++ []) s.heap [] := w
  unfold f_Rule_say at hF
  refine lv_aload_n hx hb d_Rule_say_0 rfl (lv_at hl 0 rfl) ?_
  refine kx_get S F w hK.1 0 rfl 2 (hK.lt (by decide)) (by rw [hK.t2]; exact kw_f28b66b365) rfl d_Rule_say_1 ?_
  refine lv_if_lt (tgt := 39) hx hb d_Rule_say_4 (by decide) (fun c4 => ?_) (fun c4 => ?_)
  · have hF := kx_t c4 hF
    obtain rfl := Option.some.inj hF
    exact kx_vret hQ S hr hlocks w (xo := [(h, .inr (ki, .int d :: .ref sa :: .int u.1 :: fr)), (sa, .inl (G.2 0, 4, .inl u.2))]) [0, 1] rfl rfl u rfl rfl d_Rule_say_39
  · have hF := kx_f c4 hF
    refine lv_aload_n hx hb d_Rule_say_7 rfl (lv_at hl 0 rfl) ?_
    refine kx_get S F w hK.1 0 rfl 2 (hK.lt (by decide)) (by rw [hK.t2]; exact kw_f28b66b365) rfl d_Rule_say_8 ?_
    refine lv_aload_n hx hb d_Rule_say_11 rfl (lv_at hl 0 rfl) ?_
    refine kx_get S F w hK.1 0 rfl 1 (hK.lt (by decide)) (by rw [hK.t1]; exact kw_266785f3c2) rfl d_Rule_say_12 ?_
    refine kx_alen S F w 1 0 rfl rfl d_Rule_say_15 ?_
    refine lv_icmp_ge (tgt := 39) hx hb d_Rule_say_16 (by decide) (fun c16 => ?_) (fun c16 => ?_)
    · have hF := kx_t c16 hF
      obtain rfl := Option.some.inj hF
      exact kx_vret hQ S hr hlocks w (xo := [(h, .inr (ki, .int d :: .ref sa :: .int u.1 :: fr)), (sa, .inl (G.2 0, 4, .inl u.2))]) [0, 1] rfl rfl u rfl rfl d_Rule_say_39
    · have hF := kx_f c16 hF
      refine lv_aload_n hx hb d_Rule_say_19 rfl (lv_at hl 0 rfl) ?_
      refine kx_get S F w hK.1 0 rfl 1 (hK.lt (by decide)) (by rw [hK.t1]; exact kw_266785f3c2) rfl d_Rule_say_20 ?_
      refine lv_aload_n hx hb d_Rule_say_23 rfl (lv_at hl 0 rfl) ?_
      refine kx_get S F w hK.1 0 rfl 2 (hK.lt (by decide)) (by rw [hK.t2]; exact kw_f28b66b365) rfl d_Rule_say_24 ?_
      refine lv_iload_n hx hb d_Rule_say_27 rfl (lv_at hl 1 rfl) ?_
      obtain ⟨hi28, hF⟩ := kx_ar hF
      refine kx_iast S F w 1 rfl hi28 d_Rule_say_28 (fun H locs w => ?_)
      have w : kx_W G A s ([(h, .inr (ki, .int d :: .ref sa :: .int u.1 :: fr)), (sa, .inl (G.2 0, 4, .inl (upd u.2 u.1.toNatClampNeg p0)))] ++ []) H locs := w
      refine lv_aload_n hx hb d_Rule_say_29 rfl (lv_at hl 0 rfl) ?_
      refine lv_dup hx hb d_Rule_say_30 rfl ?_
      refine kx_get S F w hK.1 0 rfl 2 (hK.lt (by decide)) (by rw [hK.t2]; exact kw_f28b66b365) rfl d_Rule_say_31 ?_
      refine lv_iconst (v := (1 : Int32)) hx hb d_Rule_say_34 (by decide) ?_
      refine lv_iadd hx hb d_Rule_say_35 ?_
      refine kx_put S F w hK.1 0 rfl 2 (hK.lt (by decide)) (by rw [hK.t2]; exact kw_f28b66b365) (by rw [hK.t2]) (by rw [hK.y2]; rfl) (by rw [hK.y2]; rfl) (by simp) d_Rule_say_36 (fun H locs w => ?_)
      have w : kx_W G A s ([(h, .inr (ki, .int d :: .ref sa :: .int (u.1 + (1 : Int32)) :: fr)), (sa, .inl (G.2 0, 4, .inl (upd u.2 u.1.toNatClampNeg p0)))] ++ []) H locs := w
      obtain rfl := Option.some.inj hF
      exact kx_vret hQ S hr hlocks w (xo := [(h, .inr (ki, .int d :: .ref sa :: .int (u.1 + (1 : Int32)) :: fr)), (sa, .inl (G.2 0, 4, .inl (upd u.2 u.1.toNatClampNeg p0)))]) [0, 1] rfl rfl (u.1 + (1 : Int32), upd u.2 u.1.toNatClampNeg p0) rfl rfl d_Rule_say_39
/-! Rule_sayInSteps -/
def lp_Rule_sayInSteps_2 (d : Int32) : Nat → Int32 → Int32 → Int32 → sg_rule → Option (sg_rule)
  | 0, _, _, _, _ => none
  | n2 + 1, x1, x2, x3, u2 => (if d < x3 then some u2 else (f_Rule_say d u2 (x1 + (x3 * x2))).bind (fun q16 => lp_Rule_sayInSteps_2 d n2 x1 x2 (x3 + 1) q16))
def f_Rule_sayInSteps (d : Int32) (u : sg_rule) (p0 : Int32) (p1 : Int32) : Option (sg_rule) := lp_Rule_sayInSteps_2 d 1000 p0 p1 (1 : Int32) u
def rm_Rule_sayInSteps : Room := { frames := 1, cells := 0, slots := 0, locals := 21 }
set_option maxRecDepth 100000 in
set_option maxHeartbeats 4000000 in
theorem c_Rule_sayInSteps (l : Launch) (G : kx_G) (ki : Nat) (KC : String) (KT : u_T) (KN : Nat) (kt : Nat → FieldType) (h : Nat) (sa : Nat) (d : Int32) (fr : List Value) (hK : kx_rule ki KC KT KN kt) (u : sg_rule) (p0 : Int32) (p1 : Int32) (v : sg_rule) (hF : f_Rule_sayInSteps d u p0 p1 = some v) : CtV l y_Rule_sayInSteps b_Rule_sayInSteps 4 rm_Rule_sayInSteps G [.ref h, .int p0, .int p1] [(h, .inr (ki, .int d :: .ref sa :: .int u.1 :: fr)), (sa, .inl (G.2 0, 4, .inl u.2))] (fun w : sg_rule => v = w) (fun w => [(h, .inr (ki, .int d :: .ref sa :: .int w.1 :: fr)), (sa, .inl (G.2 0, 4, .inl w.2))]) 0 0 := by
  refine CtV.of (by decide) (Nat.le_of_ble_eq_true rfl) [(0, .ref h), (1, .int p0), (2, .int p1)] rfl ?_
  intro p e s m args below meth c A ls Q hQ S hr hlocks hin F w hl
  have S : CallFix p m c b_Rule_sayInSteps 4 s args kx_T "PrefetchRules$Rule" := S
  obtain ⟨hx, hb, hml, hown, hts⟩ := id S
  have w : kx_W G A s ([(h, .inr (ki, .int d :: .ref sa :: .int u.1 :: fr)), (sa, .inl (G.2 0, 4, .inl u.2))] ++ []) s.heap [] := w
  unfold f_Rule_sayInSteps at hF
  refine lv_iconst (v := (1 : Int32)) hx hb d_Rule_sayInSteps_0 (by decide) ?_
  refine lv_istore_n (lv' := [(3, .int (1 : Int32)), (0, .ref h), (1, .int p0), (2, .int p1)]) hx hb d_Rule_sayInSteps_1 rfl hl (by decide) rfl (fun ls hl => ?_)
  have L2 : ∀ (n2 : Nat) (x1 : Int32) (x2 : Int32) (x3 : Int32) (u2 : sg_rule), lp_Rule_sayInSteps_2 d n2 x1 x2 x3 u2 = some v → ∀ (H : Heap) (locs : List Loc) (ls : Array Slot), kx_W G A s ([(h, .inr (ki, .int d :: .ref sa :: .int u2.1 :: fr)), (sa, .inl (G.2 0, 4, .inl u2.2))] ++ []) H locs → lv_has ls 4 [(0, .ref h), (1, .int x1), (2, .int x2), (3, .int x3)] → W p l e rm_Rule_sayInSteps s m args below meth c H locs 0 0 Q (F0 m 2 ls []) := by
    intro n2
    induction n2 with
    | zero =>
      intro x1 x2 x3 u2 hF
      rw [lp_Rule_sayInSteps_2] at hF
      cases hF
    | succ n2 ih2 =>
      intro x1 x2 x3 u2 hF H locs ls w hl
      rw [lp_Rule_sayInSteps_2] at hF
      refine lv_iload_n hx hb d_Rule_sayInSteps_2 rfl (lv_at hl 3 rfl) ?_
      refine lv_aload_n hx hb d_Rule_sayInSteps_3 rfl (lv_at hl 0 rfl) ?_
      refine kx_get S F w hK.1 0 rfl 0 (hK.lt (by decide)) (by rw [hK.t0]; exact kw_fc111a5aaa) rfl d_Rule_sayInSteps_4 ?_
      refine lv_icmp_gt (tgt := 25) hx hb d_Rule_sayInSteps_7 (by decide) (fun c7 => ?_) (fun c7 => ?_)
      · have hF := kx_t c7 hF
        obtain rfl := Option.some.inj hF
        exact kx_vret hQ S hr hlocks w (xo := [(h, .inr (ki, .int d :: .ref sa :: .int u2.1 :: fr)), (sa, .inl (G.2 0, 4, .inl u2.2))]) [0, 1] rfl rfl u2 rfl rfl d_Rule_sayInSteps_25
      · have hF := kx_f c7 hF
        refine lv_aload_n hx hb d_Rule_sayInSteps_10 rfl (lv_at hl 0 rfl) ?_
        refine lv_iload_n hx hb d_Rule_sayInSteps_11 rfl (lv_at hl 1 rfl) ?_
        refine lv_iload_n hx hb d_Rule_sayInSteps_12 rfl (lv_at hl 3 rfl) ?_
        refine lv_iload_n hx hb d_Rule_sayInSteps_13 rfl (lv_at hl 2 rfl) ?_
        refine lv_imul hx hb d_Rule_sayInSteps_14 ?_
        refine lv_iadd hx hb d_Rule_sayInSteps_15 ?_
        obtain ⟨q16, hq16, hF⟩ := kx_bd hF
        refine kx_cv (cx := [(h, .inr (ki, .int d :: .ref sa :: .int u2.1 :: fr)), (sa, .inl (G.2 0, 4, .inl u2.2))]) (wr := []) F w [0, 1] [] rfl rfl rfl (by decide) (va_runU (As := [.int (x1 + (x3 * x2))]) (rest := []) S (c_Rule_say l G ki KC KT KN kt h sa d fr hK u2 (x1 + (x3 * x2)) q16 hq16 _) (kx_cwU (n := 1) (x := ⟨"PrefetchRules$Rule", "say", "(I)V"⟩) S kw_59ba9e4594 kw_1b7a732a65 kw_5f8162aab9 (hK.s_say) kw_5b1999295c kw_d0941c2f9e rfl (by decide +kernel) ⟨rfl, rfl, Nat.le_of_ble_eq_true rfl, Nat.le_of_ble_eq_true rfl⟩) ⟨kx_blind _ _ _ _, va_recv (q0 := 0) F.1.1 w.1 hK.1.1 rfl, kx_pre F w [0, 1] rfl rfl⟩ rfl rfl hl.1 rfl (lv_room (Nat.le_of_ble_eq_true rfl)) d_Rule_sayInSteps_16 ⟨Nat.le_of_ble_eq_true rfl, Nat.le_of_ble_eq_true rfl⟩) (fun w16 H locs hp w => ?_)
        subst hp
        have w : kx_W G A s ([(h, .inr (ki, .int d :: .ref sa :: .int q16.1 :: fr)), (sa, .inl (G.2 0, 4, .inl q16.2))] ++ []) H locs := w
        refine lv_iinc (v := x3 + 1) (lv' := [(3, .int (x3 + 1)), (0, .ref h), (1, .int x1), (2, .int x2)]) hx hb d_Rule_sayInSteps_19 hl (k := 3) rfl (by rfl) (by decide) rfl (fun ls hl => ?_)
        refine lv_goto (tgt := 2) hx hb d_Rule_sayInSteps_22 (by decide) ?_
        exact ih2 x1 x2 (x3 + 1) q16 hF H locs ls (w.perm [0, 1] rfl rfl) (lv_sub hl [1, 2, 3, 0] rfl)
  exact L2 1000 p0 p1 (1 : Int32) u hF s.heap [] ls (w.perm [0, 1] rfl rfl) (lv_sub hl [1, 2, 3, 0] rfl)
/-! Next_learn -/
def f_Next_learn (d : Int32) (u : sg_next) (p0 : Int32) (p1 : Int32) : Option (sg_next) := (f_Rule_sayInSteps d u p1 (1 : Int32)).bind (fun q3 => some q3)
def rm_Next_learn : Room := { frames := 2, cells := 0, slots := 0, locals := 44 }
set_option maxRecDepth 100000 in
set_option maxHeartbeats 4000000 in
theorem c_Next_learn (l : Launch) (G : kx_G) (h : Nat) (sa : Nat) (d : Int32) (u : sg_next) (p0 : Int32) (p1 : Int32) (v : sg_next) (hF : f_Next_learn d u p0 p1 = some v) : CtV l y_Next_learn b_Next_learn 3 rm_Next_learn G [.ref h, .int p0, .int p1] [(h, .inr (3, [.int d, .ref sa, .int u.1])), (sa, .inl (G.2 0, 4, .inl u.2))] (fun w : sg_next => v = w) (fun w => [(h, .inr (3, [.int d, .ref sa, .int w.1])), (sa, .inl (G.2 0, 4, .inl w.2))]) 0 0 := by
  refine CtV.of (by decide) (Nat.le_of_ble_eq_true rfl) [(0, .ref h), (1, .int p0), (2, .int p1)] rfl ?_
  intro p e s m args below meth c A ls Q hQ S hr hlocks hin F w hl
  have S : CallFix p m c b_Next_learn 3 s args kx_T "PrefetchRules$Next" := S
  obtain ⟨hx, hb, hml, hown, hts⟩ := id S
  have w : kx_W G A s ([(h, .inr (3, [.int d, .ref sa, .int u.1])), (sa, .inl (G.2 0, 4, .inl u.2))] ++ []) s.heap [] := w
  unfold f_Next_learn at hF
  refine lv_aload_n hx hb d_Next_learn_0 rfl (lv_at hl 0 rfl) ?_
  refine lv_iload_n hx hb d_Next_learn_1 rfl (lv_at hl 2 rfl) ?_
  refine lv_iconst (v := (1 : Int32)) hx hb d_Next_learn_2 (by decide) ?_
  obtain ⟨q3, hq3, hF⟩ := kx_bd hF
  refine kx_cv (cx := [(h, .inr (3, [.int d, .ref sa, .int u.1])), (sa, .inl (G.2 0, 4, .inl u.2))]) (wr := []) F w [0, 1] [] rfl rfl rfl (by decide) (va_runU (As := [.int p1, .int (1 : Int32)]) (rest := []) S (c_Rule_sayInSteps l G 3 ("PrefetchRules$Next") F_Next 3 t_Next h sa d ([]) kr_Next u p1 (1 : Int32) q3 hq3 _) (kx_cwU (n := 2) (x := ⟨"PrefetchRules$Next", "sayInSteps", "(II)V"⟩) S kw_115e75369b kw_e53d3549d6 kw_17cf360cc3 kw_d27163579f kw_9597fba511 kw_d0941c2f9e rfl (by decide +kernel) ⟨rfl, rfl, Nat.le_of_ble_eq_true rfl, Nat.le_of_ble_eq_true rfl⟩) ⟨kx_blind _ _ _ _, va_recv (q0 := 0) F.1.1 w.1 kc_Next.1 rfl, kx_pre F w [0, 1] rfl rfl⟩ rfl rfl hl.1 rfl (lv_room (Nat.le_of_ble_eq_true rfl)) d_Next_learn_3 ⟨Nat.le_of_ble_eq_true rfl, Nat.le_of_ble_eq_true rfl⟩) (fun w3 H locs hp w => ?_)
  subst hp
  have w : kx_W G A s ([(h, .inr (3, [.int d, .ref sa, .int q3.1])), (sa, .inl (G.2 0, 4, .inl q3.2))] ++ []) H locs := w
  obtain rfl := Option.some.inj hF
  exact kx_vret hQ S hr hlocks w (xo := [(h, .inr (3, [.int d, .ref sa, .int q3.1])), (sa, .inl (G.2 0, 4, .inl q3.2))]) [0, 1] rfl rfl q3 rfl rfl d_Next_learn_6
/-! Next_knowledge -/
def f_Next_knowledge (d : Int32) (u : sg_next) (p0 : Int32) : Option (Int32) := some (0 : Int32)
def rm_Next_knowledge : Room := { frames := 2, cells := 0, slots := 0, locals := 44 }
set_option maxRecDepth 100000 in
set_option maxHeartbeats 4000000 in
theorem c_Next_knowledge (l : Launch) (G : kx_G) (h : Nat) (sa : Nat) (d : Int32) (u : sg_next) (p0 : Int32) (v : Int32) (hF : f_Next_knowledge d u p0 = some v) : CtI l y_Next_knowledge b_Next_knowledge 2 (some .int) rm_Next_knowledge G [.ref h, .int p0] [(h, .inr (3, [.int d, .ref sa, .int u.1])), (sa, .inl (G.2 0, 4, .inl u.2))] (fun (r : Int32) (_ : Unit) => v = r) (fun _ => [(h, .inr (3, [.int d, .ref sa, .int u.1])), (sa, .inl (G.2 0, 4, .inl u.2))]) 0 0 := by
  refine CtI.of (by decide) (Nat.le_of_ble_eq_true rfl) [(0, .ref h), (1, .int p0)] rfl ?_
  intro p e s m args below meth c A ls Q hQ S hr hlocks F w hl
  have S : CallFix p m c b_Next_knowledge 2 s args kx_T "PrefetchRules$Next" := S
  obtain ⟨hx, hb, hml, hown, hts⟩ := id S
  have w : kx_W G A s ([(h, .inr (3, [.int d, .ref sa, .int u.1])), (sa, .inl (G.2 0, 4, .inl u.2))] ++ []) s.heap [] := w
  unfold f_Next_knowledge at hF
  refine lv_iconst (v := (0 : Int32)) hx hb d_Next_knowledge_0 (by decide) ?_
  obtain rfl := Option.some.inj hF
  exact kx_iret hQ S hr hlocks w (xo := [(h, .inr (3, [.int d, .ref sa, .int u.1])), (sa, .inl (G.2 0, 4, .inl u.2))]) [0, 1] rfl rfl () rfl rfl d_Next_knowledge_1
/-! Next_confidence -/
def f_Next_confidence (d : Int32) (u : sg_next) (p0 : Int32) : Option (Int32) := some (0 : Int32)
def rm_Next_confidence : Room := { frames := 2, cells := 0, slots := 0, locals := 44 }
set_option maxRecDepth 100000 in
set_option maxHeartbeats 4000000 in
theorem c_Next_confidence (l : Launch) (G : kx_G) (h : Nat) (sa : Nat) (d : Int32) (u : sg_next) (p0 : Int32) (v : Int32) (hF : f_Next_confidence d u p0 = some v) : CtI l y_Next_confidence b_Next_confidence 2 (some .int) rm_Next_confidence G [.ref h, .int p0] [(h, .inr (3, [.int d, .ref sa, .int u.1])), (sa, .inl (G.2 0, 4, .inl u.2))] (fun (r : Int32) (_ : Unit) => v = r) (fun _ => [(h, .inr (3, [.int d, .ref sa, .int u.1])), (sa, .inl (G.2 0, 4, .inl u.2))]) 0 0 := by
  refine CtI.of (by decide) (Nat.le_of_ble_eq_true rfl) [(0, .ref h), (1, .int p0)] rfl ?_
  intro p e s m args below meth c A ls Q hQ S hr hlocks F w hl
  have S : CallFix p m c b_Next_confidence 2 s args kx_T "PrefetchRules$Next" := S
  obtain ⟨hx, hb, hml, hown, hts⟩ := id S
  have w : kx_W G A s ([(h, .inr (3, [.int d, .ref sa, .int u.1])), (sa, .inl (G.2 0, 4, .inl u.2))] ++ []) s.heap [] := w
  unfold f_Next_confidence at hF
  refine lv_iconst (v := (0 : Int32)) hx hb d_Next_confidence_0 (by decide) ?_
  obtain rfl := Option.some.inj hF
  exact kx_iret hQ S hr hlocks w (xo := [(h, .inr (3, [.int d, .ref sa, .int u.1])), (sa, .inl (G.2 0, 4, .inl u.2))]) [0, 1] rfl rfl () rfl rfl d_Next_confidence_1
/-! Next_hear -/
def f_Next_hear (d : Int32) (u : sg_next) (p0 : Int32) (p1 : Int32) : Option (sg_next) := (f_Next_learn d ((0 : Int32), u.2) p0 p1).bind (fun q8 => some q8)
def rm_Next_hear : Room := { frames := 4, cells := 0, slots := 0, locals := 90 }
set_option maxRecDepth 100000 in
set_option maxHeartbeats 4000000 in
theorem c_Next_hear (l : Launch) (G : kx_G) (h : Nat) (sa : Nat) (d : Int32) (u : sg_next) (p0 : Int32) (p1 : Int32) (v : sg_next) (hF : f_Next_hear d u p0 p1 = some v) : CtV l y_Rule_hear b_Rule_hear 3 rm_Next_hear G [.ref h, .int p0, .int p1] [(h, .inr (3, [.int d, .ref sa, .int u.1])), (sa, .inl (G.2 0, 4, .inl u.2))] (fun w : sg_next => v = w) (fun w => [(h, .inr (3, [.int d, .ref sa, .int w.1])), (sa, .inl (G.2 0, 4, .inl w.2))]) 0 0 := by
  refine CtV.of (by decide) (Nat.le_of_ble_eq_true rfl) [(0, .ref h), (1, .int p0), (2, .int p1)] rfl ?_
  intro p e s m args below meth c A ls Q hQ S hr hlocks hin F w hl
  have S : CallFix p m c b_Rule_hear 3 s args kx_T "PrefetchRules$Rule" := S
  obtain ⟨hx, hb, hml, hown, hts⟩ := id S
  have w : kx_W G A s ([(h, .inr (3, [.int d, .ref sa, .int u.1])), (sa, .inl (G.2 0, 4, .inl u.2))] ++ []) s.heap [] := w
  unfold f_Next_hear at hF
  refine lv_aload_n hx hb d_Rule_hear_0 rfl (lv_at hl 0 rfl) ?_
  refine lv_iconst (v := (0 : Int32)) hx hb d_Rule_hear_1 (by decide) ?_
  refine kx_put S F w kc_Next 0 rfl 2 (by decide) kw_f28b66b365 rfl rfl rfl (Nat.le_of_ble_eq_true rfl) d_Rule_hear_2 (fun H locs w => ?_)
  have w : kx_W G A s ([(h, .inr (3, [.int d, .ref sa, .int (0 : Int32)])), (sa, .inl (G.2 0, 4, .inl u.2))] ++ []) H locs := w
  refine lv_aload_n hx hb d_Rule_hear_5 rfl (lv_at hl 0 rfl) ?_
  refine lv_iload_n hx hb d_Rule_hear_6 rfl (lv_at hl 1 rfl) ?_
  refine lv_iload_n hx hb d_Rule_hear_7 rfl (lv_at hl 2 rfl) ?_
  obtain ⟨q8, hq8, hF⟩ := kx_bd hF
  refine kx_cv (cx := [(h, .inr (3, [.int d, .ref sa, .int (0 : Int32)])), (sa, .inl (G.2 0, 4, .inl u.2))]) (wr := []) F w [0, 1] [] rfl rfl rfl (by decide) (va_runU (As := [.int p0, .int p1]) (rest := []) S (c_Next_learn l G h sa d ((0 : Int32), u.2) p0 p1 q8 hq8 _) (kx_cwA (n := 2) (x := ⟨"PrefetchRules$Rule", "learn", "(II)V"⟩) S F kw_01d469405e kw_812921046e kw_4987ac2f73 kw_a0ab85cb1e kw_26d8652b0f kw_85a09a4797 kw_498ee79c2d (by decide +kernel) ⟨rfl, rfl, Nat.le_of_ble_eq_true rfl, Nat.le_of_ble_eq_true rfl⟩) ⟨kx_blind _ _ _ _, va_recv (q0 := 0) F.1.1 w.1 kc_Next.1 rfl, kx_pre F w [0, 1] rfl rfl⟩ rfl rfl hl.1 rfl (lv_room (Nat.le_of_ble_eq_true rfl)) d_Rule_hear_8 ⟨Nat.le_of_ble_eq_true rfl, Nat.le_of_ble_eq_true rfl⟩) (fun w8 H locs hp w => ?_)
  subst hp
  have w : kx_W G A s ([(h, .inr (3, [.int d, .ref sa, .int q8.1])), (sa, .inl (G.2 0, 4, .inl q8.2))] ++ []) H locs := w
  obtain rfl := Option.some.inj hF
  exact kx_vret hQ S hr hlocks w (xo := [(h, .inr (3, [.int d, .ref sa, .int q8.1])), (sa, .inl (G.2 0, 4, .inl q8.2))]) [0, 1] rfl rfl q8 rfl rfl d_Rule_hear_11
/-! Next_saidCount -/
def f_Next_saidCount (d : Int32) (u : sg_next) : Option (Int32) := some u.1
def rm_Next_saidCount : Room := { frames := 0, cells := 0, slots := 0, locals := 0 }
set_option maxRecDepth 100000 in
set_option maxHeartbeats 4000000 in
theorem c_Next_saidCount (l : Launch) (G : kx_G) (h : Nat) (sa : Nat) (d : Int32) (u : sg_next) (v : Int32) (hF : f_Next_saidCount d u = some v) : CtI l y_Rule_saidCount b_Rule_saidCount 1 (some .int) rm_Next_saidCount G [.ref h] [(h, .inr (3, [.int d, .ref sa, .int u.1])), (sa, .inl (G.2 0, 4, .inl u.2))] (fun (r : Int32) (_ : Unit) => v = r) (fun _ => [(h, .inr (3, [.int d, .ref sa, .int u.1])), (sa, .inl (G.2 0, 4, .inl u.2))]) 0 0 := by
  refine CtI.of (by decide) (Nat.le_of_ble_eq_true rfl) [(0, .ref h)] rfl ?_
  intro p e s m args below meth c A ls Q hQ S hr hlocks F w hl
  have S : CallFix p m c b_Rule_saidCount 1 s args kx_T "PrefetchRules$Rule" := S
  obtain ⟨hx, hb, hml, hown, hts⟩ := id S
  have w : kx_W G A s ([(h, .inr (3, [.int d, .ref sa, .int u.1])), (sa, .inl (G.2 0, 4, .inl u.2))] ++ []) s.heap [] := w
  unfold f_Next_saidCount at hF
  refine lv_aload_n hx hb d_Rule_saidCount_0 rfl (lv_at hl 0 rfl) ?_
  refine kx_get S F w kc_Next 0 rfl 2 (by decide) kw_f28b66b365 rfl d_Rule_saidCount_1 ?_
  obtain rfl := Option.some.inj hF
  exact kx_iret hQ S hr hlocks w (xo := [(h, .inr (3, [.int d, .ref sa, .int u.1])), (sa, .inl (G.2 0, 4, .inl u.2))]) [0, 1] rfl rfl () rfl rfl d_Rule_saidCount_4
/-! Next_saidLine -/
def f_Next_saidLine (d : Int32) (u : sg_next) (p0 : Int32) : Option (Int32) := (if p0 < 0 then some (-1 : Int32) else (if u.1 ≤ p0 then some (-1 : Int32) else (if (nI 4) ≤ p0 then some (-1 : Int32) else (if (p0 < 0 ∨ 4 ≤ p0.toNatClampNeg) then none else some (u.2 p0.toNatClampNeg)))))
def rm_Next_saidLine : Room := { frames := 0, cells := 0, slots := 0, locals := 0 }
set_option maxRecDepth 100000 in
set_option maxHeartbeats 4000000 in
theorem c_Next_saidLine (l : Launch) (G : kx_G) (h : Nat) (sa : Nat) (d : Int32) (u : sg_next) (p0 : Int32) (v : Int32) (hF : f_Next_saidLine d u p0 = some v) : CtI l y_Rule_saidLine b_Rule_saidLine 2 (some .int) rm_Next_saidLine G [.ref h, .int p0] [(h, .inr (3, [.int d, .ref sa, .int u.1])), (sa, .inl (G.2 0, 4, .inl u.2))] (fun (r : Int32) (_ : Unit) => v = r) (fun _ => [(h, .inr (3, [.int d, .ref sa, .int u.1])), (sa, .inl (G.2 0, 4, .inl u.2))]) 0 0 := by
  refine CtI.of (by decide) (Nat.le_of_ble_eq_true rfl) [(0, .ref h), (1, .int p0)] rfl ?_
  intro p e s m args below meth c A ls Q hQ S hr hlocks F w hl
  have S : CallFix p m c b_Rule_saidLine 2 s args kx_T "PrefetchRules$Rule" := S
  obtain ⟨hx, hb, hml, hown, hts⟩ := id S
  have w : kx_W G A s ([(h, .inr (3, [.int d, .ref sa, .int u.1])), (sa, .inl (G.2 0, 4, .inl u.2))] ++ []) s.heap [] := w
  unfold f_Next_saidLine at hF
  refine lv_iload_n hx hb d_Rule_saidLine_0 rfl (lv_at hl 1 rfl) ?_
  refine lv_if_lt (tgt := 30) hx hb d_Rule_saidLine_1 (by decide) (fun c1 => ?_) (fun c1 => ?_)
  · have hF := kx_t c1 hF
    refine lv_iconst (v := (-1 : Int32)) hx hb d_Rule_saidLine_30 (by decide) ?_
    obtain rfl := Option.some.inj hF
    exact kx_iret hQ S hr hlocks w (xo := [(h, .inr (3, [.int d, .ref sa, .int u.1])), (sa, .inl (G.2 0, 4, .inl u.2))]) [0, 1] rfl rfl () rfl rfl d_Rule_saidLine_31
  · have hF := kx_f c1 hF
    refine lv_iload_n hx hb d_Rule_saidLine_4 rfl (lv_at hl 1 rfl) ?_
    refine lv_aload_n hx hb d_Rule_saidLine_5 rfl (lv_at hl 0 rfl) ?_
    refine kx_get S F w kc_Next 0 rfl 2 (by decide) kw_f28b66b365 rfl d_Rule_saidLine_6 ?_
    refine lv_icmp_ge (tgt := 30) hx hb d_Rule_saidLine_9 (by decide) (fun c9 => ?_) (fun c9 => ?_)
    · have hF := kx_t c9 hF
      refine lv_iconst (v := (-1 : Int32)) hx hb d_Rule_saidLine_30 (by decide) ?_
      obtain rfl := Option.some.inj hF
      exact kx_iret hQ S hr hlocks w (xo := [(h, .inr (3, [.int d, .ref sa, .int u.1])), (sa, .inl (G.2 0, 4, .inl u.2))]) [0, 1] rfl rfl () rfl rfl d_Rule_saidLine_31
    · have hF := kx_f c9 hF
      refine lv_iload_n hx hb d_Rule_saidLine_12 rfl (lv_at hl 1 rfl) ?_
      refine lv_aload_n hx hb d_Rule_saidLine_13 rfl (lv_at hl 0 rfl) ?_
      refine kx_get S F w kc_Next 0 rfl 1 (by decide) kw_266785f3c2 rfl d_Rule_saidLine_14 ?_
      refine kx_alen S F w 1 0 rfl rfl d_Rule_saidLine_17 ?_
      refine lv_icmp_ge (tgt := 30) hx hb d_Rule_saidLine_18 (by decide) (fun c18 => ?_) (fun c18 => ?_)
      · have hF := kx_t c18 hF
        refine lv_iconst (v := (-1 : Int32)) hx hb d_Rule_saidLine_30 (by decide) ?_
        obtain rfl := Option.some.inj hF
        exact kx_iret hQ S hr hlocks w (xo := [(h, .inr (3, [.int d, .ref sa, .int u.1])), (sa, .inl (G.2 0, 4, .inl u.2))]) [0, 1] rfl rfl () rfl rfl d_Rule_saidLine_31
      · have hF := kx_f c18 hF
        refine lv_aload_n hx hb d_Rule_saidLine_21 rfl (lv_at hl 0 rfl) ?_
        refine kx_get S F w kc_Next 0 rfl 1 (by decide) kw_266785f3c2 rfl d_Rule_saidLine_22 ?_
        refine lv_iload_n hx hb d_Rule_saidLine_25 rfl (lv_at hl 1 rfl) ?_
        obtain ⟨hi26, hF⟩ := kx_ar hF
        refine kx_iald S F w 1 rfl hi26 d_Rule_saidLine_26 ?_
        refine lv_goto (tgt := 31) hx hb d_Rule_saidLine_27 (by decide) ?_
        obtain rfl := Option.some.inj hF
        exact kx_iret hQ S hr hlocks w (xo := [(h, .inr (3, [.int d, .ref sa, .int u.1])), (sa, .inl (G.2 0, 4, .inl u.2))]) [0, 1] rfl rfl () rfl rfl d_Rule_saidLine_31
/-! Next_roundCount -/
def f_Next_roundCount (d : Int32) (u : sg_next) : Option (Int32) := some (0 : Int32)
def rm_Next_roundCount : Room := { frames := 0, cells := 0, slots := 0, locals := 0 }
set_option maxRecDepth 100000 in
set_option maxHeartbeats 4000000 in
theorem c_Next_roundCount (l : Launch) (G : kx_G) (h : Nat) (sa : Nat) (d : Int32) (u : sg_next) (v : Int32) (hF : f_Next_roundCount d u = some v) : CtI l y_Rule_roundCount b_Rule_roundCount 1 (some .int) rm_Next_roundCount G [.ref h] [(h, .inr (3, [.int d, .ref sa, .int u.1])), (sa, .inl (G.2 0, 4, .inl u.2))] (fun (r : Int32) (_ : Unit) => v = r) (fun _ => [(h, .inr (3, [.int d, .ref sa, .int u.1])), (sa, .inl (G.2 0, 4, .inl u.2))]) 0 0 := by
  refine CtI.of (by decide) (Nat.le_of_ble_eq_true rfl) [(0, .ref h)] rfl ?_
  intro p e s m args below meth c A ls Q hQ S hr hlocks F w hl
  have S : CallFix p m c b_Rule_roundCount 1 s args kx_T "PrefetchRules$Rule" := S
  obtain ⟨hx, hb, hml, hown, hts⟩ := id S
  have w : kx_W G A s ([(h, .inr (3, [.int d, .ref sa, .int u.1])), (sa, .inl (G.2 0, 4, .inl u.2))] ++ []) s.heap [] := w
  unfold f_Next_roundCount at hF
  refine lv_iconst (v := (0 : Int32)) hx hb d_Rule_roundCount_0 (by decide) ?_
  obtain rfl := Option.some.inj hF
  exact kx_iret hQ S hr hlocks w (xo := [(h, .inr (3, [.int d, .ref sa, .int u.1])), (sa, .inl (G.2 0, 4, .inl u.2))]) [0, 1] rfl rfl () rfl rfl d_Rule_roundCount_1
/-! Rule_init -/
def rm_Rule_init : Room := { frames := 1, cells := 1, slots := 4, locals := 20 }
set_option maxRecDepth 100000 in
set_option maxHeartbeats 4000000 in
theorem c_Rule_init (l : Launch) (G : kx_G) (ki : Nat) (KC : String) (KT : u_T) (KN : Nat) (kt : Nat → FieldType) (h : Nat) (fr : List Value) (hK : kx_rule ki KC KT KN kt) (p0 : Int32) : CtV l y_Rule_init b_Rule_init 2 rm_Rule_init G [.ref h, .int p0] [(h, .inr (ki, .int 0 :: .null :: .int 0 :: fr))] (fun (_ : Nat) => True) (fun w => [(h, .inr (ki, .int p0 :: .ref w :: .int 0 :: fr)), (w, .inl (G.2 0, 4, .inl (fun _ => 0)))]) 1 4 := by
  refine CtV.of (by decide) (Nat.le_of_ble_eq_true rfl) [(0, .ref h), (1, .int p0)] rfl ?_
  intro p e s m args below meth c A ls Q hQ S hr hlocks hin F w hl
  have S : CallFix p m c b_Rule_init 2 s args kx_T "PrefetchRules$Rule" := S
  obtain ⟨hx, hb, hml, hown, hts⟩ := id S
  have w : kx_W G A s ([(h, .inr (ki, .int 0 :: .null :: .int 0 :: fr))] ++ []) s.heap [] := w
  refine lv_aload_n hx hb d_Rule_init_0 rfl (lv_at hl 0 rfl) ?_
  refine kx_obj S kw_b4e3e88940 kw_6c8d69b229 kw_dced44411a hl.1 d_Rule_init_1 (Nat.le_of_ble_eq_true rfl) (Nat.le_of_ble_eq_true rfl) ?_
  refine lv_aload_n hx hb d_Rule_init_4 rfl (lv_at hl 0 rfl) ?_
  refine lv_iconst (v := (4 : Int32)) hx hb d_Rule_init_5 (by decide) ?_
  refine kx_newi S F w kw_32e41f54b3 (N' := 4) (by decide) (by decide) (by decide) (Nat.le_of_ble_eq_true rfl) (Nat.le_of_ble_eq_true rfl) d_Rule_init_6 (fun b6 H w => ?_)
  have w : kx_W G A s ([(h, .inr (ki, .int 0 :: .null :: .int 0 :: fr)), (b6, .inl (G.2 0, 4, .inl (fun _ => 0)))] ++ []) H [] := w
  refine kx_putF S F w hK.1 0 rfl 1 (hK.lt (by decide)) (by rw [hK.t1]; exact kw_266785f3c2) (by rw [hK.t1]) hin (by rw [hK.t1]) (by rw [hK.y1]; rfl) (by rw [hK.y1]; rfl) (by simp) d_Rule_init_8 (fun H locs w => ?_)
  have w : kx_W G A s ([(h, .inr (ki, .int 0 :: .ref b6 :: .int 0 :: fr)), (b6, .inl (G.2 0, 4, .inl (fun _ => 0)))] ++ []) H locs := w
  refine lv_aload_n hx hb d_Rule_init_11 rfl (lv_at hl 0 rfl) ?_
  refine lv_iload_n hx hb d_Rule_init_12 rfl (lv_at hl 1 rfl) ?_
  refine kx_putF S F w hK.1 0 rfl 0 (hK.lt (by decide)) (by rw [hK.t0]; exact kw_fc111a5aaa) (by rw [hK.t0]) hin (by rw [hK.t0]) (by rw [hK.y0]; rfl) (by rw [hK.y0]; rfl) (by simp) d_Rule_init_13 (fun H locs w => ?_)
  have w : kx_W G A s ([(h, .inr (ki, .int p0 :: .ref b6 :: .int 0 :: fr)), (b6, .inl (G.2 0, 4, .inl (fun _ => 0)))] ++ []) H locs := w
  refine W.widen (k := 1) (n := 4) (Nat.le_of_ble_eq_true rfl) (Nat.le_of_ble_eq_true rfl) ?_
  exact kx_vret hQ S hr hlocks w (xo := [(h, .inr (ki, .int p0 :: .ref b6 :: .int 0 :: fr)), (b6, .inl (G.2 0, 4, .inl (fun _ => 0)))]) [0, 1] rfl rfl b6 rfl trivial d_Rule_init_16
/-! Next_init -/
def rm_Next_init : Room := { frames := 2, cells := 1, slots := 4, locals := 41 }
set_option maxRecDepth 100000 in
set_option maxHeartbeats 4000000 in
theorem c_Next_init (l : Launch) (G : kx_G) (h : Nat) (p0 : Int32) : CtV l y_Next_init b_Next_init 2 rm_Next_init G [.ref h, .int p0] [(h, .inr (3, [.int 0, .null, .int 0]))] (fun (_ : Nat) => True) (fun w => [(h, .inr (3, [.int p0, .ref w, .int 0])), (w, .inl (G.2 0, 4, .inl (fun _ => 0)))]) 1 4 := by
  refine CtV.of (by decide) (Nat.le_of_ble_eq_true rfl) [(0, .ref h), (1, .int p0)] rfl ?_
  intro p e s m args below meth c A ls Q hQ S hr hlocks hin F w hl
  have S : CallFix p m c b_Next_init 2 s args kx_T "PrefetchRules$Next" := S
  obtain ⟨hx, hb, hml, hown, hts⟩ := id S
  have w : kx_W G A s ([(h, .inr (3, [.int 0, .null, .int 0]))] ++ []) s.heap [] := w
  refine lv_aload_n hx hb d_Next_init_0 rfl (lv_at hl 0 rfl) ?_
  refine lv_iload_n hx hb d_Next_init_1 rfl (lv_at hl 1 rfl) ?_
  refine kx_cv (cx := [(h, .inr (3, [.int 0, .null, .int 0]))]) (wr := []) F w [0] [] rfl rfl rfl (by decide) (va_runI (As := [.int p0]) (rest := []) S (c_Rule_init l G 3 ("PrefetchRules$Next") F_Next 3 t_Next h ([]) kr_Next p0 _) (kx_cwI S mi_Rule_init kw_01fd981b7b ⟨rfl, rfl, Nat.le_of_ble_eq_true rfl, Nat.le_of_ble_eq_true rfl⟩) ⟨kx_blind _ _ _ _, kx_pre F w [0] rfl rfl⟩ rfl rfl hl.1 rfl (lv_room (Nat.le_of_ble_eq_true rfl)) d_Next_init_2 ⟨Nat.le_of_ble_eq_true rfl, Nat.le_of_ble_eq_true rfl⟩) (fun w2 H locs hp w => ?_)
  have w : kx_W G A s ([(h, .inr (3, [.int p0, .ref w2, .int 0])), (w2, .inl (G.2 0, 4, .inl (fun _ => 0)))] ++ []) H locs := w
  refine W.widen (k := 1) (n := 4) (Nat.le_of_ble_eq_true rfl) (Nat.le_of_ble_eq_true rfl) ?_
  exact kx_vret hQ S hr hlocks w (xo := [(h, .inr (3, [.int p0, .ref w2, .int 0])), (w2, .inl (G.2 0, 4, .inl (fun _ => 0)))]) [0, 1] rfl rfl w2 rfl trivial d_Next_init_5
