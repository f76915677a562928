/-! Math_floorMod -/
def f_Math_floorMod (p0 : Int32) (p1 : Int32) : Option (Int32) := (if p1 = 0 then none else (if 0 ≤ (p0 ^^^ p1) then some (p0 - p0 / p1 * p1) else (if (p0 - p0 / p1 * p1) = 0 then some (p0 - p0 / p1 * p1) else some ((p0 - p0 / p1 * p1) + p1))))
def rm_Math_floorMod : Room := { frames := 0, cells := 0, slots := 0, locals := 0 }
set_option maxRecDepth 100000 in
set_option maxHeartbeats 4000000 in
theorem c_Math_floorMod (l : Launch) (G : kx_G) (p0 : Int32) (p1 : Int32) (v : Int32) (hF : f_Math_floorMod p0 p1 = some v) : CtI l y_Math_floorMod b_Math_floorMod 3 (some .int) rm_Math_floorMod G [.int p0, .int p1] [] (fun (r : Int32) (_ : Unit) => v = r) (fun _ => []) 0 0 := by
  refine CtI.ofF (by decide +kernel) (Nat.le_of_ble_eq_true rfl) [(0, .int p0), (1, .int p1)] rfl ?_
  intro p e s m args below meth c A ls Q hQ S hr hlocks F w hl
  have S : CallFix p m c b_Math_floorMod 3 s args kx_T "java/lang/Math" := S
  obtain ⟨hx, hb, hml, hown, hts⟩ := id S
  have w : kx_W G A s ([] ++ []) s.heap [] := w
  unfold f_Math_floorMod at hF
  refine lv_iload_n hx hb d_Math_floorMod_0 rfl (lv_at hl 0 rfl) ?_
  refine lv_iload_n hx hb d_Math_floorMod_1 rfl (lv_at hl 1 rfl) ?_
  obtain ⟨hz2, hF⟩ := kx_nz hF
  refine lv_irem hx hb d_Math_floorMod_2 hz2 ?_
  refine lv_istore_n (lv' := [(2, .int (p0 - p0 / p1 * p1)), (0, .int p0), (1, .int p1)]) hx hb d_Math_floorMod_3 rfl hl (by decide) rfl (fun ls hl => ?_)
  refine lv_iload_n hx hb d_Math_floorMod_4 rfl (lv_at hl 1 rfl) ?_
  refine lv_iload_n hx hb d_Math_floorMod_5 rfl (lv_at hl 2 rfl) ?_
  refine lv_ixor hx hb d_Math_floorMod_6 ?_
  refine lv_if_ge (tgt := 18) hx hb d_Math_floorMod_7 (by decide) (fun c7 => ?_) (fun c7 => ?_)
  · have hF := kx_t c7 hF
    refine lv_iload_n hx hb d_Math_floorMod_18 rfl (lv_at hl 0 rfl) ?_
    obtain rfl := Option.some.inj hF
    exact kx_iret hQ S hr hlocks w (xo := []) [] rfl rfl () rfl rfl d_Math_floorMod_19
  · have hF := kx_f c7 hF
    refine lv_iload_n hx hb d_Math_floorMod_10 rfl (lv_at hl 0 rfl) ?_
    refine lv_if_eq (tgt := 18) hx hb d_Math_floorMod_11 (by decide) (fun c11 => ?_) (fun c11 => ?_)
    · have hF := kx_t c11 hF
      refine lv_iload_n hx hb d_Math_floorMod_18 rfl (lv_at hl 0 rfl) ?_
      obtain rfl := Option.some.inj hF
      exact kx_iret hQ S hr hlocks w (xo := []) [] rfl rfl () rfl rfl d_Math_floorMod_19
    · have hF := kx_f c11 hF
      refine lv_iload_n hx hb d_Math_floorMod_14 rfl (lv_at hl 0 rfl) ?_
      refine lv_iload_n hx hb d_Math_floorMod_15 rfl (lv_at hl 2 rfl) ?_
      refine lv_iadd hx hb d_Math_floorMod_16 ?_
      obtain rfl := Option.some.inj hF
      exact kx_iret hQ S hr hlocks w (xo := []) [] rfl rfl () rfl rfl d_Math_floorMod_17
/-! Main_oneTo -/
def f_Main_oneTo (p0 : Int32) (p1 : Int32) : Option (Int32) := (f_Math_floorMod (p1 - (1 : Int32)) p0).bind (fun q5 => some ((1 : Int32) + q5))
def rm_Main_oneTo : Room := { frames := 1, cells := 0, slots := 0, locals := 22 }
set_option maxRecDepth 100000 in
set_option maxHeartbeats 4000000 in
theorem c_Main_oneTo (l : Launch) (G : kx_G) (p0 : Int32) (p1 : Int32) (v : Int32) (hF : f_Main_oneTo p0 p1 = some v) : CtI l y_Main_oneTo b_Main_oneTo 2 (some .int) rm_Main_oneTo G [.int p0, .int p1] [] (fun (r : Int32) (_ : Unit) => v = r) (fun _ => []) 0 0 := by
  refine CtI.of (by decide) (Nat.le_of_ble_eq_true rfl) [(0, .int p0), (1, .int p1)] rfl ?_
  intro p e s m args below meth c A ls Q hQ S hr hlocks F w hl
  have S : CallFix p m c b_Main_oneTo 2 s args kx_T "PrefetchRules" := S
  obtain ⟨hx, hb, hml, hown, hts⟩ := id S
  have w : kx_W G A s ([] ++ []) s.heap [] := w
  unfold f_Main_oneTo at hF
  refine lv_iconst (v := (1 : Int32)) hx hb d_Main_oneTo_0 (by decide) ?_
  refine lv_iload_n hx hb d_Main_oneTo_1 rfl (lv_at hl 1 rfl) ?_
  refine lv_iconst (v := (1 : Int32)) hx hb d_Main_oneTo_2 (by decide) ?_
  refine lv_isub hx hb d_Main_oneTo_3 ?_
  refine lv_iload_n hx hb d_Main_oneTo_4 rfl (lv_at hl 0 rfl) ?_
  obtain ⟨q5, hq5, hF⟩ := kx_bd hF
  refine kx_ci (cx := []) (wr := []) F w [] [] rfl rfl rfl (by decide) (va_runS (As := [.int (p1 - (1 : Int32)), .int p0]) (rest := [.int (1 : Int32)]) S (c_Math_floorMod l G (p1 - (1 : Int32)) p0 q5 hq5 _) (kx_cwS S ms_Math_floorMod kw_8a505f9f61 ⟨rfl, rfl, Nat.le_of_ble_eq_true rfl, Nat.le_of_ble_eq_true rfl⟩) ⟨kx_blind _ _ _ _, kx_pre F w [] rfl rfl⟩ rfl rfl hl.1 rfl (lv_room (Nat.le_of_ble_eq_true rfl)) d_Main_oneTo_5 ⟨Nat.le_of_ble_eq_true rfl, Nat.le_of_ble_eq_true rfl⟩) (fun r5 w5 H locs hp w => ?_)
  subst hp
  have w : kx_W G A s ([] ++ []) H locs := w
  refine lv_iadd hx hb d_Main_oneTo_8 ?_
  obtain rfl := Option.some.inj hF
  exact kx_iret hQ S hr hlocks w (xo := []) [] rfl rfl () rfl rfl d_Main_oneTo_9
/-! Main_indexOf -/
def lp_Main_indexOf_2 (n : Nat) (u : sg_arr) : Nat → Int32 → Int32 → Int32 → Option (Int32)
  | 0, _, _, _ => none
  | n2 + 1, x0, x2, x3 => (if x2 ≤ x3 then some (-1 : Int32) else (if (nI n) ≤ x3 then some (-1 : Int32) else (if (x3 < 0 ∨ n ≤ x3.toNatClampNeg) then none else (if (u x3.toNatClampNeg) = x0 then some x3 else lp_Main_indexOf_2 n u n2 x0 x2 (x3 + 1)))))
def f_Main_indexOf (n : Nat) (u : sg_arr) (p0 : Int32) (p2 : Int32) : Option (Int32) := lp_Main_indexOf_2 n u 1000 p0 p2 (0 : Int32)
def rm_Main_indexOf : Room := { frames := 0, cells := 0, slots := 0, locals := 0 }
set_option maxRecDepth 100000 in
set_option maxHeartbeats 4000000 in
theorem c_Main_indexOf (l : Launch) (G : kx_G) (a : Nat) (n : Nat) (u : sg_arr) (p0 : Int32) (p2 : Int32) (v : Int32) (hF : f_Main_indexOf n u p0 p2 = some v) : CtI l y_Main_indexOf b_Main_indexOf 4 (some .int) rm_Main_indexOf G [.int p0, .ref a, .int p2] [(a, .inl (G.2 0, n, .inl u))] (fun (r : Int32) (_ : Unit) => v = r) (fun _ => [(a, .inl (G.2 0, n, .inl u))]) 0 0 := by
  refine CtI.of (by decide) (Nat.le_of_ble_eq_true rfl) [(0, .int p0), (1, .ref a), (2, .int p2)] rfl ?_
  intro p e s m args below meth c A ls Q hQ S hr hlocks F w hl
  have S : CallFix p m c b_Main_indexOf 4 s args kx_T "PrefetchRules" := S
  obtain ⟨hx, hb, hml, hown, hts⟩ := id S
  have w : kx_W G A s ([(a, .inl (G.2 0, n, .inl u))] ++ []) s.heap [] := w
  unfold f_Main_indexOf at hF
  refine lv_iconst (v := (0 : Int32)) hx hb d_Main_indexOf_0 (by decide) ?_
  refine lv_istore_n (lv' := [(3, .int (0 : Int32)), (0, .int p0), (1, .ref a), (2, .int p2)]) hx hb d_Main_indexOf_1 rfl hl (by decide) rfl (fun ls hl => ?_)
  have L2 : ∀ (n2 : Nat) (x0 : Int32) (x2 : Int32) (x3 : Int32), lp_Main_indexOf_2 n u n2 x0 x2 x3 = some v → ∀ (H : Heap) (locs : List Loc) (ls : Array Slot), kx_W G A s ([(a, .inl (G.2 0, n, .inl u))] ++ []) H locs → lv_has ls 4 [(0, .int x0), (1, .ref a), (2, .int x2), (3, .int x3)] → W p l e rm_Main_indexOf s m args below meth c H locs 0 0 Q (F0 m 2 ls []) := by
    intro n2
    induction n2 with
    | zero =>
      intro x0 x2 x3 hF
      rw [lp_Main_indexOf_2] at hF
      cases hF
    | succ n2 ih2 =>
      intro x0 x2 x3 hF H locs ls w hl
      rw [lp_Main_indexOf_2] at hF
      refine lv_iload_n hx hb d_Main_indexOf_2 rfl (lv_at hl 3 rfl) ?_
      refine lv_iload_n hx hb d_Main_indexOf_3 rfl (lv_at hl 2 rfl) ?_
      refine lv_icmp_ge (tgt := 28) hx hb d_Main_indexOf_4 (by decide) (fun c4 => ?_) (fun c4 => ?_)
      · have hF := kx_t c4 hF
        refine lv_iconst (v := (-1 : Int32)) hx hb d_Main_indexOf_28 (by decide) ?_
        obtain rfl := Option.some.inj hF
        exact kx_iret hQ S hr hlocks w (xo := [(a, .inl (G.2 0, n, .inl u))]) [0] rfl rfl () rfl rfl d_Main_indexOf_29
      · have hF := kx_f c4 hF
        refine lv_iload_n hx hb d_Main_indexOf_7 rfl (lv_at hl 3 rfl) ?_
        refine lv_aload_n hx hb d_Main_indexOf_8 rfl (lv_at hl 1 rfl) ?_
        refine kx_alen S F w 0 0 rfl rfl d_Main_indexOf_9 ?_
        refine lv_icmp_ge (tgt := 28) hx hb d_Main_indexOf_10 (by decide) (fun c10 => ?_) (fun c10 => ?_)
        · have hF := kx_t c10 hF
          refine lv_iconst (v := (-1 : Int32)) hx hb d_Main_indexOf_28 (by decide) ?_
          obtain rfl := Option.some.inj hF
          exact kx_iret hQ S hr hlocks w (xo := [(a, .inl (G.2 0, n, .inl u))]) [0] rfl rfl () rfl rfl d_Main_indexOf_29
        · have hF := kx_f c10 hF
          refine lv_aload_n hx hb d_Main_indexOf_13 rfl (lv_at hl 1 rfl) ?_
          refine lv_iload_n hx hb d_Main_indexOf_14 rfl (lv_at hl 3 rfl) ?_
          obtain ⟨hi15, hF⟩ := kx_ar hF
          refine kx_iald S F w 0 rfl hi15 d_Main_indexOf_15 ?_
          refine lv_iload_n hx hb d_Main_indexOf_16 rfl (lv_at hl 0 rfl) ?_
          refine lv_icmp_ne (tgt := 22) hx hb d_Main_indexOf_17 (by decide) (fun c17 => ?_) (fun c17 => ?_)
          · have hF := kx_f c17 hF
            refine lv_iinc (v := x3 + 1) (lv' := [(3, .int (x3 + 1)), (0, .int x0), (1, .ref a), (2, .int x2)]) hx hb d_Main_indexOf_22 hl (k := 3) rfl (by rfl) (by decide) rfl (fun ls hl => ?_)
            refine lv_goto (tgt := 2) hx hb d_Main_indexOf_25 (by decide) ?_
            exact ih2 x0 x2 (x3 + 1) hF H locs ls (w.perm [0] rfl rfl) (lv_sub hl [1, 2, 3, 0] rfl)
          · have hF := kx_t c17 hF
            refine lv_iload_n hx hb d_Main_indexOf_20 rfl (lv_at hl 3 rfl) ?_
            obtain rfl := Option.some.inj hF
            exact kx_iret hQ S hr hlocks w (xo := [(a, .inl (G.2 0, n, .inl u))]) [0] rfl rfl () rfl rfl d_Main_indexOf_21
  exact L2 1000 p0 p2 (0 : Int32) hF s.heap [] ls (w.perm [0] rfl rfl) (lv_sub hl [1, 2, 3, 0] rfl)
/-! Store_has -/
def f_Store_has (N : Nat) (u : sg_store) (p0 : Int32) : Option (Int32) := (if p0 < 0 then some (0 : Int32) else (if u.1 ≤ p0 then some (0 : Int32) else (if (nI N) ≤ p0 then some (0 : Int32) else some (1 : Int32))))
def rm_Store_has : Room := { frames := 0, cells := 0, slots := 0, locals := 0 }
set_option maxRecDepth 100000 in
set_option maxHeartbeats 4000000 in
theorem c_Store_has (l : Launch) (G : kx_G) (h : Nat) (a1 : Nat) (a2 : Nat) (N : Nat) (u : sg_store) (p0 : Int32) (v : Int32) (hF : f_Store_has N u p0 = some v) : CtI l y_Store_has b_Store_has 2 (some .boolean) rm_Store_has G [.ref h, .int p0] [(h, .inr (1, [.ref a1, .ref a2, .int u.1])), (a1, .inl (G.2 0, N, .inl u.2.1)), (a2, .inl (G.2 1, N, .inl u.2.2))] (fun (r : Int32) (_ : Unit) => v = r) (fun _ => [(h, .inr (1, [.ref a1, .ref a2, .int u.1])), (a1, .inl (G.2 0, N, .inl u.2.1)), (a2, .inl (G.2 1, N, .inl u.2.2))]) 0 0 := by
  refine CtI.of (by decide) (Nat.le_of_ble_eq_true rfl) [(0, .ref h), (1, .int p0)] rfl ?_
  intro p e s m args below meth c A ls Q hQ S hr hlocks F w hl
  have S : CallFix p m c b_Store_has 2 s args kx_T "PrefetchRules$Store" := S
  obtain ⟨hx, hb, hml, hown, hts⟩ := id S
  have w : kx_W G A s ([(h, .inr (1, [.ref a1, .ref a2, .int u.1])), (a1, .inl (G.2 0, N, .inl u.2.1)), (a2, .inl (G.2 1, N, .inl u.2.2))] ++ []) s.heap [] := w
  unfold f_Store_has at hF
  refine lv_iload_n hx hb d_Store_has_0 rfl (lv_at hl 1 rfl) ?_
  refine lv_if_lt (tgt := 25) hx hb d_Store_has_1 (by decide) (fun c1 => ?_) (fun c1 => ?_)
  · have hF := kx_t c1 hF
    refine lv_iconst (v := (0 : Int32)) hx hb d_Store_has_25 (by decide) ?_
    obtain rfl := Option.some.inj hF
    exact kx_zret hQ S hr hlocks (by decide) w (xo := [(h, .inr (1, [.ref a1, .ref a2, .int u.1])), (a1, .inl (G.2 0, N, .inl u.2.1)), (a2, .inl (G.2 1, N, .inl u.2.2))]) [0, 1, 2] rfl rfl () rfl rfl d_Store_has_26
  · have hF := kx_f c1 hF
    refine lv_iload_n hx hb d_Store_has_4 rfl (lv_at hl 1 rfl) ?_
    refine lv_aload_n hx hb d_Store_has_5 rfl (lv_at hl 0 rfl) ?_
    refine kx_get S F w kc_Store 0 rfl 2 (by decide) kw_80905d0669 rfl d_Store_has_6 ?_
    refine lv_icmp_ge (tgt := 25) hx hb d_Store_has_9 (by decide) (fun c9 => ?_) (fun c9 => ?_)
    · have hF := kx_t c9 hF
      refine lv_iconst (v := (0 : Int32)) hx hb d_Store_has_25 (by decide) ?_
      obtain rfl := Option.some.inj hF
      exact kx_zret hQ S hr hlocks (by decide) w (xo := [(h, .inr (1, [.ref a1, .ref a2, .int u.1])), (a1, .inl (G.2 0, N, .inl u.2.1)), (a2, .inl (G.2 1, N, .inl u.2.2))]) [0, 1, 2] rfl rfl () rfl rfl d_Store_has_26
    · have hF := kx_f c9 hF
      refine lv_iload_n hx hb d_Store_has_12 rfl (lv_at hl 1 rfl) ?_
      refine lv_aload_n hx hb d_Store_has_13 rfl (lv_at hl 0 rfl) ?_
      refine kx_get S F w kc_Store 0 rfl 0 (by decide) kw_1b54281d93 rfl d_Store_has_14 ?_
      refine kx_alen S F w 1 0 rfl rfl d_Store_has_17 ?_
      refine lv_icmp_ge (tgt := 25) hx hb d_Store_has_18 (by decide) (fun c18 => ?_) (fun c18 => ?_)
      · have hF := kx_t c18 hF
        refine lv_iconst (v := (0 : Int32)) hx hb d_Store_has_25 (by decide) ?_
        obtain rfl := Option.some.inj hF
        exact kx_zret hQ S hr hlocks (by decide) w (xo := [(h, .inr (1, [.ref a1, .ref a2, .int u.1])), (a1, .inl (G.2 0, N, .inl u.2.1)), (a2, .inl (G.2 1, N, .inl u.2.2))]) [0, 1, 2] rfl rfl () rfl rfl d_Store_has_26
      · have hF := kx_f c18 hF
        refine lv_iconst (v := (1 : Int32)) hx hb d_Store_has_21 (by decide) ?_
        refine lv_goto (tgt := 26) hx hb d_Store_has_22 (by decide) ?_
        obtain rfl := Option.some.inj hF
        exact kx_zret hQ S hr hlocks (by decide) w (xo := [(h, .inr (1, [.ref a1, .ref a2, .int u.1])), (a1, .inl (G.2 0, N, .inl u.2.1)), (a2, .inl (G.2 1, N, .inl u.2.2))]) [0, 1, 2] rfl rfl () rfl rfl d_Store_has_26
/-! Store_size -/
def f_Store_size (N : Nat) (u : sg_store) : Option (Int32) := some u.1
def rm_Store_size : Room := { frames := 0, cells := 0, slots := 0, locals := 0 }
set_option maxRecDepth 100000 in
set_option maxHeartbeats 4000000 in
theorem c_Store_size (l : Launch) (G : kx_G) (h : Nat) (a1 : Nat) (a2 : Nat) (N : Nat) (u : sg_store) (v : Int32) (hF : f_Store_size N u = some v) : CtI l y_Store_size b_Store_size 1 (some .int) rm_Store_size G [.ref h] [(h, .inr (1, [.ref a1, .ref a2, .int u.1])), (a1, .inl (G.2 0, N, .inl u.2.1)), (a2, .inl (G.2 1, N, .inl u.2.2))] (fun (r : Int32) (_ : Unit) => v = r) (fun _ => [(h, .inr (1, [.ref a1, .ref a2, .int u.1])), (a1, .inl (G.2 0, N, .inl u.2.1)), (a2, .inl (G.2 1, N, .inl u.2.2))]) 0 0 := by
  refine CtI.of (by decide) (Nat.le_of_ble_eq_true rfl) [(0, .ref h)] rfl ?_
  intro p e s m args below meth c A ls Q hQ S hr hlocks F w hl
  have S : CallFix p m c b_Store_size 1 s args kx_T "PrefetchRules$Store" := S
  obtain ⟨hx, hb, hml, hown, hts⟩ := id S
  have w : kx_W G A s ([(h, .inr (1, [.ref a1, .ref a2, .int u.1])), (a1, .inl (G.2 0, N, .inl u.2.1)), (a2, .inl (G.2 1, N, .inl u.2.2))] ++ []) s.heap [] := w
  unfold f_Store_size at hF
  refine lv_aload_n hx hb d_Store_size_0 rfl (lv_at hl 0 rfl) ?_
  refine kx_get S F w kc_Store 0 rfl 2 (by decide) kw_80905d0669 rfl d_Store_size_1 ?_
  obtain rfl := Option.some.inj hF
  exact kx_iret hQ S hr hlocks w (xo := [(h, .inr (1, [.ref a1, .ref a2, .int u.1])), (a1, .inl (G.2 0, N, .inl u.2.1)), (a2, .inl (G.2 1, N, .inl u.2.2))]) [0, 1, 2] rfl rfl () rfl rfl d_Store_size_4
/-! Store_isFull -/
def f_Store_isFull (N : Nat) (u : sg_store) : Option (Int32) := (if u.1 < (nI N) then some (0 : Int32) else some (1 : Int32))
def rm_Store_isFull : Room := { frames := 0, cells := 0, slots := 0, locals := 0 }
set_option maxRecDepth 100000 in
set_option maxHeartbeats 4000000 in
theorem c_Store_isFull (l : Launch) (G : kx_G) (h : Nat) (a1 : Nat) (a2 : Nat) (N : Nat) (u : sg_store) (v : Int32) (hF : f_Store_isFull N u = some v) : CtI l y_Store_isFull b_Store_isFull 1 (some .boolean) rm_Store_isFull G [.ref h] [(h, .inr (1, [.ref a1, .ref a2, .int u.1])), (a1, .inl (G.2 0, N, .inl u.2.1)), (a2, .inl (G.2 1, N, .inl u.2.2))] (fun (r : Int32) (_ : Unit) => v = r) (fun _ => [(h, .inr (1, [.ref a1, .ref a2, .int u.1])), (a1, .inl (G.2 0, N, .inl u.2.1)), (a2, .inl (G.2 1, N, .inl u.2.2))]) 0 0 := by
  refine CtI.of (by decide) (Nat.le_of_ble_eq_true rfl) [(0, .ref h)] rfl ?_
  intro p e s m args below meth c A ls Q hQ S hr hlocks F w hl
  have S : CallFix p m c b_Store_isFull 1 s args kx_T "PrefetchRules$Store" := S
  obtain ⟨hx, hb, hml, hown, hts⟩ := id S
  have w : kx_W G A s ([(h, .inr (1, [.ref a1, .ref a2, .int u.1])), (a1, .inl (G.2 0, N, .inl u.2.1)), (a2, .inl (G.2 1, N, .inl u.2.2))] ++ []) s.heap [] := w
  unfold f_Store_isFull at hF
  refine lv_aload_n hx hb d_Store_isFull_0 rfl (lv_at hl 0 rfl) ?_
  refine kx_get S F w kc_Store 0 rfl 2 (by decide) kw_80905d0669 rfl d_Store_isFull_1 ?_
  refine lv_aload_n hx hb d_Store_isFull_4 rfl (lv_at hl 0 rfl) ?_
  refine kx_get S F w kc_Store 0 rfl 0 (by decide) kw_1b54281d93 rfl d_Store_isFull_5 ?_
  refine kx_alen S F w 1 0 rfl rfl d_Store_isFull_8 ?_
  refine lv_icmp_lt (tgt := 16) hx hb d_Store_isFull_9 (by decide) (fun c9 => ?_) (fun c9 => ?_)
  · have hF := kx_t c9 hF
    refine lv_iconst (v := (0 : Int32)) hx hb d_Store_isFull_16 (by decide) ?_
    obtain rfl := Option.some.inj hF
    exact kx_zret hQ S hr hlocks (by decide) w (xo := [(h, .inr (1, [.ref a1, .ref a2, .int u.1])), (a1, .inl (G.2 0, N, .inl u.2.1)), (a2, .inl (G.2 1, N, .inl u.2.2))]) [0, 1, 2] rfl rfl () rfl rfl d_Store_isFull_17
  · have hF := kx_f c9 hF
    refine lv_iconst (v := (1 : Int32)) hx hb d_Store_isFull_12 (by decide) ?_
    refine lv_goto (tgt := 17) hx hb d_Store_isFull_13 (by decide) ?_
    obtain rfl := Option.some.inj hF
    exact kx_zret hQ S hr hlocks (by decide) w (xo := [(h, .inr (1, [.ref a1, .ref a2, .int u.1])), (a1, .inl (G.2 0, N, .inl u.2.1)), (a2, .inl (G.2 1, N, .inl u.2.2))]) [0, 1, 2] rfl rfl () rfl rfl d_Store_isFull_17
/-! Store_lineAt -/
def f_Store_lineAt (N : Nat) (u : sg_store) (p0 : Int32) : Option (Int32) := (f_Store_has N u p0).bind (fun q2 => (if q2 = 0 then some (-1 : Int32) else (if (p0 < 0 ∨ N ≤ p0.toNatClampNeg) then none else some (u.2.1 p0.toNatClampNeg))))
def rm_Store_lineAt : Room := { frames := 1, cells := 0, slots := 0, locals := 21 }
set_option maxRecDepth 100000 in
set_option maxHeartbeats 4000000 in
theorem c_Store_lineAt (l : Launch) (G : kx_G) (h : Nat) (a1 : Nat) (a2 : Nat) (N : Nat) (u : sg_store) (p0 : Int32) (v : Int32) (hF : f_Store_lineAt N u p0 = some v) : CtI l y_Store_lineAt b_Store_lineAt 2 (some .int) rm_Store_lineAt G [.ref h, .int p0] [(h, .inr (1, [.ref a1, .ref a2, .int u.1])), (a1, .inl (G.2 0, N, .inl u.2.1)), (a2, .inl (G.2 1, N, .inl u.2.2))] (fun (r : Int32) (_ : Unit) => v = r) (fun _ => [(h, .inr (1, [.ref a1, .ref a2, .int u.1])), (a1, .inl (G.2 0, N, .inl u.2.1)), (a2, .inl (G.2 1, N, .inl u.2.2))]) 0 0 := by
  refine CtI.of (by decide) (Nat.le_of_ble_eq_true rfl) [(0, .ref h), (1, .int p0)] rfl ?_
  intro p e s m args below meth c A ls Q hQ S hr hlocks F w hl
  have S : CallFix p m c b_Store_lineAt 2 s args kx_T "PrefetchRules$Store" := S
  obtain ⟨hx, hb, hml, hown, hts⟩ := id S
  have w : kx_W G A s ([(h, .inr (1, [.ref a1, .ref a2, .int u.1])), (a1, .inl (G.2 0, N, .inl u.2.1)), (a2, .inl (G.2 1, N, .inl u.2.2))] ++ []) s.heap [] := w
  unfold f_Store_lineAt at hF
  refine lv_aload_n hx hb d_Store_lineAt_0 rfl (lv_at hl 0 rfl) ?_
  refine lv_iload_n hx hb d_Store_lineAt_1 rfl (lv_at hl 1 rfl) ?_
  obtain ⟨q2, hq2, hF⟩ := kx_bd hF
  refine kx_ci (cx := [(h, .inr (1, [.ref a1, .ref a2, .int u.1])), (a1, .inl (G.2 0, N, .inl u.2.1)), (a2, .inl (G.2 1, N, .inl u.2.2))]) (wr := []) F w [0, 1, 2] [] rfl rfl rfl (by decide) (va_runV (As := [.int p0]) (rest := []) S (c_Store_has l G h a1 a2 N u p0 q2 hq2 _) (kx_cwV S mv_Store_has kw_5baba7e2a3 ⟨rfl, rfl, Nat.le_of_ble_eq_true rfl, Nat.le_of_ble_eq_true rfl⟩) ⟨kx_blind _ _ _ _, va_recv (q0 := 0) F.1.1 w.1 kc_Store.1 rfl, kx_pre F w [0, 1, 2] rfl rfl⟩ rfl rfl hl.1 rfl (lv_room (Nat.le_of_ble_eq_true rfl)) d_Store_lineAt_2 ⟨Nat.le_of_ble_eq_true rfl, Nat.le_of_ble_eq_true rfl⟩) (fun r2 w2 H locs hp w => ?_)
  subst hp
  have w : kx_W G A s ([(h, .inr (1, [.ref a1, .ref a2, .int u.1])), (a1, .inl (G.2 0, N, .inl u.2.1)), (a2, .inl (G.2 1, N, .inl u.2.2))] ++ []) H locs := w
  refine lv_if_eq (tgt := 17) hx hb d_Store_lineAt_5 (by decide) (fun c5 => ?_) (fun c5 => ?_)
  · have hF := kx_t c5 hF
    refine lv_iconst (v := (-1 : Int32)) hx hb d_Store_lineAt_17 (by decide) ?_
    obtain rfl := Option.some.inj hF
    exact kx_iret hQ S hr hlocks w (xo := [(h, .inr (1, [.ref a1, .ref a2, .int u.1])), (a1, .inl (G.2 0, N, .inl u.2.1)), (a2, .inl (G.2 1, N, .inl u.2.2))]) [0, 1, 2] rfl rfl () rfl rfl d_Store_lineAt_18
  · have hF := kx_f c5 hF
    refine lv_aload_n hx hb d_Store_lineAt_8 rfl (lv_at hl 0 rfl) ?_
    refine kx_get S F w kc_Store 0 rfl 0 (by decide) kw_1b54281d93 rfl d_Store_lineAt_9 ?_
    refine lv_iload_n hx hb d_Store_lineAt_12 rfl (lv_at hl 1 rfl) ?_
    obtain ⟨hi13, hF⟩ := kx_ar hF
    refine kx_iald S F w 1 rfl hi13 d_Store_lineAt_13 ?_
    refine lv_goto (tgt := 18) hx hb d_Store_lineAt_14 (by decide) ?_
    obtain rfl := Option.some.inj hF
    exact kx_iret hQ S hr hlocks w (xo := [(h, .inr (1, [.ref a1, .ref a2, .int u.1])), (a1, .inl (G.2 0, N, .inl u.2.1)), (a2, .inl (G.2 1, N, .inl u.2.2))]) [0, 1, 2] rfl rfl () rfl rfl d_Store_lineAt_18
/-! Store_isMarked -/
def f_Store_isMarked (N : Nat) (u : sg_store) (p0 : Int32) : Option (Int32) := (f_Store_has N u p0).bind (fun q2 => (if q2 = 0 then some (0 : Int32) else (if (p0 < 0 ∨ N ≤ p0.toNatClampNeg) then none else (if (u.2.2 p0.toNatClampNeg) = 0 then some (0 : Int32) else some (1 : Int32)))))
def rm_Store_isMarked : Room := { frames := 1, cells := 0, slots := 0, locals := 21 }
set_option maxRecDepth 100000 in
set_option maxHeartbeats 4000000 in
theorem c_Store_isMarked (l : Launch) (G : kx_G) (h : Nat) (a1 : Nat) (a2 : Nat) (N : Nat) (u : sg_store) (p0 : Int32) (v : Int32) (hF : f_Store_isMarked N u p0 = some v) : CtI l y_Store_isMarked b_Store_isMarked 2 (some .boolean) rm_Store_isMarked G [.ref h, .int p0] [(h, .inr (1, [.ref a1, .ref a2, .int u.1])), (a1, .inl (G.2 0, N, .inl u.2.1)), (a2, .inl (G.2 1, N, .inl u.2.2))] (fun (r : Int32) (_ : Unit) => v = r) (fun _ => [(h, .inr (1, [.ref a1, .ref a2, .int u.1])), (a1, .inl (G.2 0, N, .inl u.2.1)), (a2, .inl (G.2 1, N, .inl u.2.2))]) 0 0 := by
  refine CtI.of (by decide) (Nat.le_of_ble_eq_true rfl) [(0, .ref h), (1, .int p0)] rfl ?_
  intro p e s m args below meth c A ls Q hQ S hr hlocks F w hl
  have S : CallFix p m c b_Store_isMarked 2 s args kx_T "PrefetchRules$Store" := S
  obtain ⟨hx, hb, hml, hown, hts⟩ := id S
  have w : kx_W G A s ([(h, .inr (1, [.ref a1, .ref a2, .int u.1])), (a1, .inl (G.2 0, N, .inl u.2.1)), (a2, .inl (G.2 1, N, .inl u.2.2))] ++ []) s.heap [] := w
  unfold f_Store_isMarked at hF
  refine lv_aload_n hx hb d_Store_isMarked_0 rfl (lv_at hl 0 rfl) ?_
  refine lv_iload_n hx hb d_Store_isMarked_1 rfl (lv_at hl 1 rfl) ?_
  obtain ⟨q2, hq2, hF⟩ := kx_bd hF
  refine kx_ci (cx := [(h, .inr (1, [.ref a1, .ref a2, .int u.1])), (a1, .inl (G.2 0, N, .inl u.2.1)), (a2, .inl (G.2 1, N, .inl u.2.2))]) (wr := []) F w [0, 1, 2] [] rfl rfl rfl (by decide) (va_runV (As := [.int p0]) (rest := []) S (c_Store_has l G h a1 a2 N u p0 q2 hq2 _) (kx_cwV S mv_Store_has kw_5baba7e2a3 ⟨rfl, rfl, Nat.le_of_ble_eq_true rfl, Nat.le_of_ble_eq_true rfl⟩) ⟨kx_blind _ _ _ _, va_recv (q0 := 0) F.1.1 w.1 kc_Store.1 rfl, kx_pre F w [0, 1, 2] rfl rfl⟩ rfl rfl hl.1 rfl (lv_room (Nat.le_of_ble_eq_true rfl)) d_Store_isMarked_2 ⟨Nat.le_of_ble_eq_true rfl, Nat.le_of_ble_eq_true rfl⟩) (fun r2 w2 H locs hp w => ?_)
  subst hp
  have w : kx_W G A s ([(h, .inr (1, [.ref a1, .ref a2, .int u.1])), (a1, .inl (G.2 0, N, .inl u.2.1)), (a2, .inl (G.2 1, N, .inl u.2.2))] ++ []) H locs := w
  refine lv_if_eq (tgt := 21) hx hb d_Store_isMarked_5 (by decide) (fun c5 => ?_) (fun c5 => ?_)
  · have hF := kx_t c5 hF
    refine lv_iconst (v := (0 : Int32)) hx hb d_Store_isMarked_21 (by decide) ?_
    obtain rfl := Option.some.inj hF
    exact kx_zret hQ S hr hlocks (by decide) w (xo := [(h, .inr (1, [.ref a1, .ref a2, .int u.1])), (a1, .inl (G.2 0, N, .inl u.2.1)), (a2, .inl (G.2 1, N, .inl u.2.2))]) [0, 1, 2] rfl rfl () rfl rfl d_Store_isMarked_22
  · have hF := kx_f c5 hF
    refine lv_aload_n hx hb d_Store_isMarked_8 rfl (lv_at hl 0 rfl) ?_
    refine kx_get S F w kc_Store 0 rfl 1 (by decide) kw_b2824bc22d rfl d_Store_isMarked_9 ?_
    refine lv_iload_n hx hb d_Store_isMarked_12 rfl (lv_at hl 1 rfl) ?_
    obtain ⟨hi13, hF⟩ := kx_ar hF
    refine kx_zald S F w 2 rfl hi13 d_Store_isMarked_13 ?_
    refine lv_if_eq (tgt := 21) hx hb d_Store_isMarked_14 (by decide) (fun c14 => ?_) (fun c14 => ?_)
    · have hF := kx_t c14 hF
      refine lv_iconst (v := (0 : Int32)) hx hb d_Store_isMarked_21 (by decide) ?_
      obtain rfl := Option.some.inj hF
      exact kx_zret hQ S hr hlocks (by decide) w (xo := [(h, .inr (1, [.ref a1, .ref a2, .int u.1])), (a1, .inl (G.2 0, N, .inl u.2.1)), (a2, .inl (G.2 1, N, .inl u.2.2))]) [0, 1, 2] rfl rfl () rfl rfl d_Store_isMarked_22
    · have hF := kx_f c14 hF
      refine lv_iconst (v := (1 : Int32)) hx hb d_Store_isMarked_17 (by decide) ?_
      refine lv_goto (tgt := 22) hx hb d_Store_isMarked_18 (by decide) ?_
      obtain rfl := Option.some.inj hF
      exact kx_zret hQ S hr hlocks (by decide) w (xo := [(h, .inr (1, [.ref a1, .ref a2, .int u.1])), (a1, .inl (G.2 0, N, .inl u.2.1)), (a2, .inl (G.2 1, N, .inl u.2.2))]) [0, 1, 2] rfl rfl () rfl rfl d_Store_isMarked_22
/-! Store_find -/
def f_Store_find (N : Nat) (u : sg_store) (p0 : Int32) : Option (Int32) := (f_Main_indexOf N u.2.1 p0 u.1).bind (fun q9 => some q9)
def rm_Store_find : Room := { frames := 1, cells := 0, slots := 0, locals := 23 }
set_option maxRecDepth 100000 in
set_option maxHeartbeats 4000000 in
theorem c_Store_find (l : Launch) (G : kx_G) (h : Nat) (a1 : Nat) (a2 : Nat) (N : Nat) (u : sg_store) (p0 : Int32) (v : Int32) (hF : f_Store_find N u p0 = some v) : CtI l y_Store_find b_Store_find 2 (some .int) rm_Store_find G [.ref h, .int p0] [(h, .inr (1, [.ref a1, .ref a2, .int u.1])), (a1, .inl (G.2 0, N, .inl u.2.1)), (a2, .inl (G.2 1, N, .inl u.2.2))] (fun (r : Int32) (_ : Unit) => v = r) (fun _ => [(h, .inr (1, [.ref a1, .ref a2, .int u.1])), (a1, .inl (G.2 0, N, .inl u.2.1)), (a2, .inl (G.2 1, N, .inl u.2.2))]) 0 0 := by
  refine CtI.of (by decide) (Nat.le_of_ble_eq_true rfl) [(0, .ref h), (1, .int p0)] rfl ?_
  intro p e s m args below meth c A ls Q hQ S hr hlocks F w hl
  have S : CallFix p m c b_Store_find 2 s args kx_T "PrefetchRules$Store" := S
  obtain ⟨hx, hb, hml, hown, hts⟩ := id S
  have w : kx_W G A s ([(h, .inr (1, [.ref a1, .ref a2, .int u.1])), (a1, .inl (G.2 0, N, .inl u.2.1)), (a2, .inl (G.2 1, N, .inl u.2.2))] ++ []) s.heap [] := w
  unfold f_Store_find at hF
  refine lv_iload_n hx hb d_Store_find_0 rfl (lv_at hl 1 rfl) ?_
  refine lv_aload_n hx hb d_Store_find_1 rfl (lv_at hl 0 rfl) ?_
  refine kx_get S F w kc_Store 0 rfl 0 (by decide) kw_1b54281d93 rfl d_Store_find_2 ?_
  refine lv_aload_n hx hb d_Store_find_5 rfl (lv_at hl 0 rfl) ?_
  refine kx_get S F w kc_Store 0 rfl 2 (by decide) kw_80905d0669 rfl d_Store_find_6 ?_
  obtain ⟨q9, hq9, hF⟩ := kx_bd hF
  refine kx_ci (cx := [(a1, .inl (G.2 0, N, .inl u.2.1))]) (wr := [(h, .inr (1, [.ref a1, .ref a2, .int u.1])), (a2, .inl (G.2 1, N, .inl u.2.2))]) F w [1] [0, 2] rfl rfl rfl (by decide) (va_runSN (As := [.int p0, .ref a1, .int u.1]) (rest := []) S (c_Main_indexOf l G a1 N u.2.1 p0 u.1 q9 hq9 _) (kx_cwSN S F ms_Main_indexOf kw_f63c1b5245 ⟨rfl, rfl, Nat.le_of_ble_eq_true rfl, Nat.le_of_ble_eq_true rfl⟩) ⟨kx_blind _ _ _ _, kx_pre F w [1] rfl rfl⟩ rfl rfl hl.1 rfl (lv_room (Nat.le_of_ble_eq_true rfl)) d_Store_find_9 ⟨Nat.le_of_ble_eq_true rfl, Nat.le_of_ble_eq_true rfl⟩) (fun r9 w9 H locs hp w => ?_)
  subst hp
  have w : kx_W G A s ([(h, .inr (1, [.ref a1, .ref a2, .int u.1])), (a2, .inl (G.2 1, N, .inl u.2.2)), (a1, .inl (G.2 0, N, .inl u.2.1))] ++ []) H locs := w
  obtain rfl := Option.some.inj hF
  exact kx_iret hQ S hr hlocks w (xo := [(h, .inr (1, [.ref a1, .ref a2, .int u.1])), (a1, .inl (G.2 0, N, .inl u.2.1)), (a2, .inl (G.2 1, N, .inl u.2.2))]) [0, 2, 1] rfl rfl () rfl rfl d_Store_find_12
/-! Store_markCount -/
def lp_Store_markCount_4 (N : Nat) (u : sg_store) : Nat → Int32 → Int32 → Option (Int32)
  | 0, _, _ => none
  | n4 + 1, x1, x2 => (if u.1 ≤ x2 then some x1 else (if (nI N) ≤ x2 then some x1 else (if (x2 < 0 ∨ N ≤ x2.toNatClampNeg) then none else (if (u.2.2 x2.toNatClampNeg) = 0 then lp_Store_markCount_4 N u n4 x1 (x2 + 1) else lp_Store_markCount_4 N u n4 (x1 + 1) (x2 + 1)))))
def f_Store_markCount (N : Nat) (u : sg_store) : Option (Int32) := lp_Store_markCount_4 N u 1000 (0 : Int32) (0 : Int32)
def rm_Store_markCount : Room := { frames := 0, cells := 0, slots := 0, locals := 0 }
set_option maxRecDepth 100000 in
set_option maxHeartbeats 4000000 in
theorem c_Store_markCount (l : Launch) (G : kx_G) (h : Nat) (a1 : Nat) (a2 : Nat) (N : Nat) (u : sg_store) (v : Int32) (hF : f_Store_markCount N u = some v) : CtI l y_Store_markCount b_Store_markCount 3 (some .int) rm_Store_markCount G [.ref h] [(h, .inr (1, [.ref a1, .ref a2, .int u.1])), (a1, .inl (G.2 0, N, .inl u.2.1)), (a2, .inl (G.2 1, N, .inl u.2.2))] (fun (r : Int32) (_ : Unit) => v = r) (fun _ => [(h, .inr (1, [.ref a1, .ref a2, .int u.1])), (a1, .inl (G.2 0, N, .inl u.2.1)), (a2, .inl (G.2 1, N, .inl u.2.2))]) 0 0 := by
  refine CtI.of (by decide) (Nat.le_of_ble_eq_true rfl) [(0, .ref h)] rfl ?_
  intro p e s m args below meth c A ls Q hQ S hr hlocks F w hl
  have S : CallFix p m c b_Store_markCount 3 s args kx_T "PrefetchRules$Store" := S
  obtain ⟨hx, hb, hml, hown, hts⟩ := id S
  have w : kx_W G A s ([(h, .inr (1, [.ref a1, .ref a2, .int u.1])), (a1, .inl (G.2 0, N, .inl u.2.1)), (a2, .inl (G.2 1, N, .inl u.2.2))] ++ []) s.heap [] := w
  unfold f_Store_markCount at hF
  refine lv_iconst (v := (0 : Int32)) hx hb d_Store_markCount_0 (by decide) ?_
  refine lv_istore_n (lv' := [(1, .int (0 : Int32)), (0, .ref h)]) hx hb d_Store_markCount_1 rfl hl (by decide) rfl (fun ls hl => ?_)
  refine lv_iconst (v := (0 : Int32)) hx hb d_Store_markCount_2 (by decide) ?_
  refine lv_istore_n (lv' := [(2, .int (0 : Int32)), (1, .int (0 : Int32)), (0, .ref h)]) hx hb d_Store_markCount_3 rfl hl (by decide) rfl (fun ls hl => ?_)
  have L4 : ∀ (n4 : Nat) (x1 : Int32) (x2 : Int32), lp_Store_markCount_4 N u n4 x1 x2 = some v → ∀ (H : Heap) (locs : List Loc) (ls : Array Slot), kx_W G A s ([(h, .inr (1, [.ref a1, .ref a2, .int u.1])), (a1, .inl (G.2 0, N, .inl u.2.1)), (a2, .inl (G.2 1, N, .inl u.2.2))] ++ []) H locs → lv_has ls 3 [(0, .ref h), (1, .int x1), (2, .int x2)] → W p l e rm_Store_markCount s m args below meth c H locs 0 0 Q (F0 m 4 ls []) := by
    intro n4
    induction n4 with
    | zero =>
      intro x1 x2 hF
      rw [lp_Store_markCount_4] at hF
      cases hF
    | succ n4 ih4 =>
      intro x1 x2 hF H locs ls w hl
      rw [lp_Store_markCount_4] at hF
      refine lv_iload_n hx hb d_Store_markCount_4 rfl (lv_at hl 2 rfl) ?_
      refine lv_aload_n hx hb d_Store_markCount_5 rfl (lv_at hl 0 rfl) ?_
      refine kx_get S F w kc_Store 0 rfl 2 (by decide) kw_80905d0669 rfl d_Store_markCount_6 ?_
      refine lv_icmp_ge (tgt := 39) hx hb d_Store_markCount_9 (by decide) (fun c9 => ?_) (fun c9 => ?_)
      · have hF := kx_t c9 hF
        refine lv_iload_n hx hb d_Store_markCount_39 rfl (lv_at hl 1 rfl) ?_
        obtain rfl := Option.some.inj hF
        exact kx_iret hQ S hr hlocks w (xo := [(h, .inr (1, [.ref a1, .ref a2, .int u.1])), (a1, .inl (G.2 0, N, .inl u.2.1)), (a2, .inl (G.2 1, N, .inl u.2.2))]) [0, 1, 2] rfl rfl () rfl rfl d_Store_markCount_40
      · have hF := kx_f c9 hF
        refine lv_iload_n hx hb d_Store_markCount_12 rfl (lv_at hl 2 rfl) ?_
        refine lv_aload_n hx hb d_Store_markCount_13 rfl (lv_at hl 0 rfl) ?_
        refine kx_get S F w kc_Store 0 rfl 1 (by decide) kw_b2824bc22d rfl d_Store_markCount_14 ?_
        refine kx_alen S F w 2 1 rfl rfl d_Store_markCount_17 ?_
        refine lv_icmp_ge (tgt := 39) hx hb d_Store_markCount_18 (by decide) (fun c18 => ?_) (fun c18 => ?_)
        · have hF := kx_t c18 hF
          refine lv_iload_n hx hb d_Store_markCount_39 rfl (lv_at hl 1 rfl) ?_
          obtain rfl := Option.some.inj hF
          exact kx_iret hQ S hr hlocks w (xo := [(h, .inr (1, [.ref a1, .ref a2, .int u.1])), (a1, .inl (G.2 0, N, .inl u.2.1)), (a2, .inl (G.2 1, N, .inl u.2.2))]) [0, 1, 2] rfl rfl () rfl rfl d_Store_markCount_40
        · have hF := kx_f c18 hF
          refine lv_aload_n hx hb d_Store_markCount_21 rfl (lv_at hl 0 rfl) ?_
          refine kx_get S F w kc_Store 0 rfl 1 (by decide) kw_b2824bc22d rfl d_Store_markCount_22 ?_
          refine lv_iload_n hx hb d_Store_markCount_25 rfl (lv_at hl 2 rfl) ?_
          obtain ⟨hi26, hF⟩ := kx_ar hF
          refine kx_zald S F w 2 rfl hi26 d_Store_markCount_26 ?_
          refine lv_if_eq (tgt := 33) hx hb d_Store_markCount_27 (by decide) (fun c27 => ?_) (fun c27 => ?_)
          · have hF := kx_t c27 hF
            refine lv_iinc (v := x2 + 1) (lv' := [(2, .int (x2 + 1)), (0, .ref h), (1, .int x1)]) hx hb d_Store_markCount_33 hl (k := 2) rfl (by rfl) (by decide) rfl (fun ls hl => ?_)
            refine lv_goto (tgt := 4) hx hb d_Store_markCount_36 (by decide) ?_
            exact ih4 x1 (x2 + 1) hF H locs ls (w.perm [0, 1, 2] rfl rfl) (lv_sub hl [1, 2, 0] rfl)
          · have hF := kx_f c27 hF
            refine lv_iinc (v := x1 + 1) (lv' := [(1, .int (x1 + 1)), (0, .ref h), (2, .int x2)]) hx hb d_Store_markCount_30 hl (k := 1) rfl (by rfl) (by decide) rfl (fun ls hl => ?_)
            refine lv_iinc (v := x2 + 1) (lv' := [(2, .int (x2 + 1)), (1, .int (x1 + 1)), (0, .ref h)]) hx hb d_Store_markCount_33 hl (k := 2) rfl (by rfl) (by decide) rfl (fun ls hl => ?_)
            refine lv_goto (tgt := 4) hx hb d_Store_markCount_36 (by decide) ?_
            exact ih4 (x1 + 1) (x2 + 1) hF H locs ls (w.perm [0, 1, 2] rfl rfl) (lv_sub hl [2, 1, 0] rfl)
  exact L4 1000 (0 : Int32) (0 : Int32) hF s.heap [] ls (w.perm [0, 1, 2] rfl rfl) (lv_sub hl [2, 1, 0] rfl)
/-! Store_clearMarks -/
def lp_Store_clearMarks_2 (N : Nat) : Nat → Int32 → sg_store → Option (sg_store)
  | 0, _, _ => none
  | n2 + 1, x1, u2 => (if u2.1 ≤ x1 then some u2 else (if (nI N) ≤ x1 then some u2 else (if (x1 < 0 ∨ N ≤ x1.toNatClampNeg) then none else lp_Store_clearMarks_2 N n2 (x1 + 1) (u2.1, u2.2.1, upd u2.2.2 x1.toNatClampNeg (vp_nar .boolean (0 : Int32))))))
def f_Store_clearMarks (N : Nat) (u : sg_store) : Option (sg_store) := lp_Store_clearMarks_2 N 1000 (0 : Int32) u
def rm_Store_clearMarks : Room := { frames := 0, cells := 0, slots := 0, locals := 0 }
set_option maxRecDepth 100000 in
set_option maxHeartbeats 4000000 in
theorem c_Store_clearMarks (l : Launch) (G : kx_G) (h : Nat) (a1 : Nat) (a2 : Nat) (N : Nat) (u : sg_store) (v : sg_store) (hF : f_Store_clearMarks N u = some v) : CtV l y_Store_clearMarks b_Store_clearMarks 2 rm_Store_clearMarks G [.ref h] [(h, .inr (1, [.ref a1, .ref a2, .int u.1])), (a1, .inl (G.2 0, N, .inl u.2.1)), (a2, .inl (G.2 1, N, .inl u.2.2))] (fun w : sg_store => v = w) (fun w => [(h, .inr (1, [.ref a1, .ref a2, .int w.1])), (a1, .inl (G.2 0, N, .inl w.2.1)), (a2, .inl (G.2 1, N, .inl w.2.2))]) 0 0 := by
  refine CtV.of (by decide) (Nat.le_of_ble_eq_true rfl) [(0, .ref h)] rfl ?_
  intro p e s m args below meth c A ls Q hQ S hr hlocks hin F w hl
  have S : CallFix p m c b_Store_clearMarks 2 s args kx_T "PrefetchRules$Store" := S
  obtain ⟨hx, hb, hml, hown, hts⟩ := id S
  have w : kx_W G A s ([(h, .inr (1, [.ref a1, .ref a2, .int u.1])), (a1, .inl (G.2 0, N, .inl u.2.1)), (a2, .inl (G.2 1, N, .inl u.2.2))] ++ []) s.heap [] := w
  unfold f_Store_clearMarks at hF
  refine lv_iconst (v := (0 : Int32)) hx hb d_Store_clearMarks_0 (by decide) ?_
  refine lv_istore_n (lv' := [(1, .int (0 : Int32)), (0, .ref h)]) hx hb d_Store_clearMarks_1 rfl hl (by decide) rfl (fun ls hl => ?_)
  have L2 : ∀ (n2 : Nat) (x1 : Int32) (u2 : sg_store), lp_Store_clearMarks_2 N n2 x1 u2 = some v → ∀ (H : Heap) (locs : List Loc) (ls : Array Slot), kx_W G A s ([(h, .inr (1, [.ref a1, .ref a2, .int u2.1])), (a1, .inl (G.2 0, N, .inl u2.2.1)), (a2, .inl (G.2 1, N, .inl u2.2.2))] ++ []) H locs → lv_has ls 2 [(0, .ref h), (1, .int x1)] → W p l e rm_Store_clearMarks s m args below meth c H locs 0 0 Q (F0 m 2 ls []) := by
    intro n2
    induction n2 with
    | zero =>
      intro x1 u2 hF
      rw [lp_Store_clearMarks_2] at hF
      cases hF
    | succ n2 ih2 =>
      intro x1 u2 hF H locs ls w hl
      rw [lp_Store_clearMarks_2] at hF
      refine lv_iload_n hx hb d_Store_clearMarks_2 rfl (lv_at hl 1 rfl) ?_
      refine lv_aload_n hx hb d_Store_clearMarks_3 rfl (lv_at hl 0 rfl) ?_
      refine kx_get S F w kc_Store 0 rfl 2 (by decide) kw_80905d0669 rfl d_Store_clearMarks_4 ?_
      refine lv_icmp_ge (tgt := 32) hx hb d_Store_clearMarks_7 (by decide) (fun c7 => ?_) (fun c7 => ?_)
      · have hF := kx_t c7 hF
        obtain rfl := Option.some.inj hF
        exact kx_vret hQ S hr hlocks w (xo := [(h, .inr (1, [.ref a1, .ref a2, .int u2.1])), (a1, .inl (G.2 0, N, .inl u2.2.1)), (a2, .inl (G.2 1, N, .inl u2.2.2))]) [0, 1, 2] rfl rfl u2 rfl rfl d_Store_clearMarks_32
      · have hF := kx_f c7 hF
        refine lv_iload_n hx hb d_Store_clearMarks_10 rfl (lv_at hl 1 rfl) ?_
        refine lv_aload_n hx hb d_Store_clearMarks_11 rfl (lv_at hl 0 rfl) ?_
        refine kx_get S F w kc_Store 0 rfl 1 (by decide) kw_b2824bc22d rfl d_Store_clearMarks_12 ?_
        refine kx_alen S F w 2 1 rfl rfl d_Store_clearMarks_15 ?_
        refine lv_icmp_ge (tgt := 32) hx hb d_Store_clearMarks_16 (by decide) (fun c16 => ?_) (fun c16 => ?_)
        · have hF := kx_t c16 hF
          obtain rfl := Option.some.inj hF
          exact kx_vret hQ S hr hlocks w (xo := [(h, .inr (1, [.ref a1, .ref a2, .int u2.1])), (a1, .inl (G.2 0, N, .inl u2.2.1)), (a2, .inl (G.2 1, N, .inl u2.2.2))]) [0, 1, 2] rfl rfl u2 rfl rfl d_Store_clearMarks_32
        · have hF := kx_f c16 hF
          refine lv_aload_n hx hb d_Store_clearMarks_19 rfl (lv_at hl 0 rfl) ?_
          refine kx_get S F w kc_Store 0 rfl 1 (by decide) kw_b2824bc22d rfl d_Store_clearMarks_20 ?_
          refine lv_iload_n hx hb d_Store_clearMarks_23 rfl (lv_at hl 1 rfl) ?_
          refine lv_iconst (v := (0 : Int32)) hx hb d_Store_clearMarks_24 (by decide) ?_
          obtain ⟨hi25, hF⟩ := kx_ar hF
          refine kx_zast S F w 2 rfl hi25 d_Store_clearMarks_25 (fun H locs w => ?_)
          have w : kx_W G A s ([(h, .inr (1, [.ref a1, .ref a2, .int u2.1])), (a1, .inl (G.2 0, N, .inl u2.2.1)), (a2, .inl (G.2 1, N, .inl (upd u2.2.2 x1.toNatClampNeg (vp_nar .boolean (0 : Int32)))))] ++ []) H locs := w
          refine lv_iinc (v := x1 + 1) (lv' := [(1, .int (x1 + 1)), (0, .ref h)]) hx hb d_Store_clearMarks_26 hl (k := 1) rfl (by rfl) (by decide) rfl (fun ls hl => ?_)
          refine lv_goto (tgt := 2) hx hb d_Store_clearMarks_29 (by decide) ?_
          exact ih2 (x1 + 1) (u2.1, u2.2.1, upd u2.2.2 x1.toNatClampNeg (vp_nar .boolean (0 : Int32))) hF H locs ls (w.perm [0, 1, 2] rfl rfl) (lv_sub hl [1, 0] rfl)
  exact L2 1000 (0 : Int32) u hF s.heap [] ls (w.perm [0, 1, 2] rfl rfl) (lv_sub hl [1, 0] rfl)
/-! Store_dropLast -/
def f_Store_dropLast (N : Nat) (u : sg_store) : Option (Int32 × sg_store) := (f_Store_has N u (u.1 - (1 : Int32))).bind (fun q9 => (if q9 = 0 then some ((0 : Int32), u) else (if ((u.1 - (1 : Int32)) < 0 ∨ N ≤ (u.1 - (1 : Int32)).toNatClampNeg) then none else (if (u.2.2 (u.1 - (1 : Int32)).toNatClampNeg = 0 ∨ u.2.2 (u.1 - (1 : Int32)).toNatClampNeg = 1) then some (u.2.2 (u.1 - (1 : Int32)).toNatClampNeg, u.1 - (1 : Int32), u.2) else none))))
def rm_Store_dropLast : Room := { frames := 1, cells := 0, slots := 0, locals := 21 }
set_option maxRecDepth 100000 in
set_option maxHeartbeats 4000000 in
theorem c_Store_dropLast (l : Launch) (G : kx_G) (h : Nat) (a1 : Nat) (a2 : Nat) (N : Nat) (u : sg_store) (v : Int32 × sg_store) (hF : f_Store_dropLast N u = some v) : CtI l y_Store_dropLast b_Store_dropLast 2 (some .boolean) rm_Store_dropLast G [.ref h] [(h, .inr (1, [.ref a1, .ref a2, .int u.1])), (a1, .inl (G.2 0, N, .inl u.2.1)), (a2, .inl (G.2 1, N, .inl u.2.2))] (fun (r : Int32) (w : sg_store) => v.1 = r ∧ v.2 = w) (fun w => [(h, .inr (1, [.ref a1, .ref a2, .int w.1])), (a1, .inl (G.2 0, N, .inl w.2.1)), (a2, .inl (G.2 1, N, .inl w.2.2))]) 0 0 := by
  refine CtI.of (by decide) (Nat.le_of_ble_eq_true rfl) [(0, .ref h)] rfl ?_
  intro p e s m args below meth c A ls Q hQ S hr hlocks F w hl
  have S : CallFix p m c b_Store_dropLast 2 s args kx_T "PrefetchRules$Store" := S
  obtain ⟨hx, hb, hml, hown, hts⟩ := id S
  have w : kx_W G A s ([(h, .inr (1, [.ref a1, .ref a2, .int u.1])), (a1, .inl (G.2 0, N, .inl u.2.1)), (a2, .inl (G.2 1, N, .inl u.2.2))] ++ []) s.heap [] := w
  unfold f_Store_dropLast at hF
  refine lv_aload_n hx hb d_Store_dropLast_0 rfl (lv_at hl 0 rfl) ?_
  refine kx_get S F w kc_Store 0 rfl 2 (by decide) kw_80905d0669 rfl d_Store_dropLast_1 ?_
  refine lv_iconst (v := (1 : Int32)) hx hb d_Store_dropLast_4 (by decide) ?_
  refine lv_isub hx hb d_Store_dropLast_5 ?_
  refine lv_istore_n (lv' := [(1, .int (u.1 - (1 : Int32))), (0, .ref h)]) hx hb d_Store_dropLast_6 rfl hl (by decide) rfl (fun ls hl => ?_)
  refine lv_aload_n hx hb d_Store_dropLast_7 rfl (lv_at hl 1 rfl) ?_
  refine lv_iload_n hx hb d_Store_dropLast_8 rfl (lv_at hl 0 rfl) ?_
  obtain ⟨q9, hq9, hF⟩ := kx_bd hF
  refine kx_ci (cx := [(h, .inr (1, [.ref a1, .ref a2, .int u.1])), (a1, .inl (G.2 0, N, .inl u.2.1)), (a2, .inl (G.2 1, N, .inl u.2.2))]) (wr := []) F w [0, 1, 2] [] rfl rfl rfl (by decide) (va_runV (As := [.int (u.1 - (1 : Int32))]) (rest := []) S (c_Store_has l G h a1 a2 N u (u.1 - (1 : Int32)) q9 hq9 _) (kx_cwV S mv_Store_has kw_5baba7e2a3 ⟨rfl, rfl, Nat.le_of_ble_eq_true rfl, Nat.le_of_ble_eq_true rfl⟩) ⟨kx_blind _ _ _ _, va_recv (q0 := 0) F.1.1 w.1 kc_Store.1 rfl, kx_pre F w [0, 1, 2] rfl rfl⟩ rfl rfl hl.1 rfl (lv_room (Nat.le_of_ble_eq_true rfl)) d_Store_dropLast_9 ⟨Nat.le_of_ble_eq_true rfl, Nat.le_of_ble_eq_true rfl⟩) (fun r9 w9 H locs hp w => ?_)
  subst hp
  have w : kx_W G A s ([(h, .inr (1, [.ref a1, .ref a2, .int u.1])), (a1, .inl (G.2 0, N, .inl u.2.1)), (a2, .inl (G.2 1, N, .inl u.2.2))] ++ []) H locs := w
  refine lv_if_ne (tgt := 17) hx hb d_Store_dropLast_12 (by decide) (fun c12 => ?_) (fun c12 => ?_)
  · have hF := kx_f c12 hF
    refine lv_aload_n hx hb d_Store_dropLast_17 rfl (lv_at hl 1 rfl) ?_
    refine lv_iload_n hx hb d_Store_dropLast_18 rfl (lv_at hl 0 rfl) ?_
    refine kx_put S F w kc_Store 0 rfl 2 (by decide) kw_80905d0669 rfl rfl rfl (Nat.le_of_ble_eq_true rfl) d_Store_dropLast_19 (fun H locs w => ?_)
    have w : kx_W G A s ([(h, .inr (1, [.ref a1, .ref a2, .int (u.1 - (1 : Int32))])), (a1, .inl (G.2 0, N, .inl u.2.1)), (a2, .inl (G.2 1, N, .inl u.2.2))] ++ []) H locs := w
    refine lv_aload_n hx hb d_Store_dropLast_22 rfl (lv_at hl 1 rfl) ?_
    refine kx_get S F w kc_Store 0 rfl 1 (by decide) kw_b2824bc22d rfl d_Store_dropLast_23 ?_
    refine lv_iload_n hx hb d_Store_dropLast_26 rfl (lv_at hl 0 rfl) ?_
    obtain ⟨hi27, hF⟩ := kx_ar hF
    refine kx_zald S F w 2 rfl hi27 d_Store_dropLast_27 ?_
    obtain ⟨hz28, hF⟩ := kx_ck hF
    obtain rfl := Option.some.inj hF
    exact kx_zret hQ S hr hlocks hz28 w (xo := [(h, .inr (1, [.ref a1, .ref a2, .int (u.1 - (1 : Int32))])), (a1, .inl (G.2 0, N, .inl u.2.1)), (a2, .inl (G.2 1, N, .inl u.2.2))]) [0, 1, 2] rfl rfl (u.1 - (1 : Int32), u.2) rfl ⟨rfl, rfl⟩ d_Store_dropLast_28
  · have hF := kx_t c12 hF
    refine lv_iconst (v := (0 : Int32)) hx hb d_Store_dropLast_15 (by decide) ?_
    obtain rfl := Option.some.inj hF
    exact kx_zret hQ S hr hlocks (by decide) w (xo := [(h, .inr (1, [.ref a1, .ref a2, .int u.1])), (a1, .inl (G.2 0, N, .inl u.2.1)), (a2, .inl (G.2 1, N, .inl u.2.2))]) [0, 1, 2] rfl rfl u rfl ⟨rfl, rfl⟩ d_Store_dropLast_16
/-! Store_moveInFront -/
def lp_Store_moveInFront_13 (N : Nat) : Nat → Int32 → Int32 → Int32 → Int32 → sg_store → Option (sg_store)
  | 0, _, _, _, _, _ => none
  | n13 + 1, x1, x2, x3, x4, u13 => (if x4 ≤ 0 then (if ((0 : Int32) < 0 ∨ N ≤ (0 : Int32).toNatClampNeg) then none else (if ((0 : Int32) < 0 ∨ N ≤ (0 : Int32).toNatClampNeg) then none else some (u13.1, upd u13.2.1 (0 : Int32).toNatClampNeg x2, upd u13.2.2 (0 : Int32).toNatClampNeg (vp_nar .boolean x3)))) else (if ((x4 - (1 : Int32)) < 0 ∨ N ≤ (x4 - (1 : Int32)).toNatClampNeg) then none else (if (x4 < 0 ∨ N ≤ x4.toNatClampNeg) then none else (if ((x4 - (1 : Int32)) < 0 ∨ N ≤ (x4 - (1 : Int32)).toNatClampNeg) then none else (if (x4 < 0 ∨ N ≤ x4.toNatClampNeg) then none else lp_Store_moveInFront_13 N n13 x1 x2 x3 (x4 + (-1)) (u13.1, upd u13.2.1 x4.toNatClampNeg (u13.2.1 (x4 - (1 : Int32)).toNatClampNeg), upd u13.2.2 x4.toNatClampNeg (vp_nar .boolean (u13.2.2 (x4 - (1 : Int32)).toNatClampNeg))))))))
def f_Store_moveInFront (N : Nat) (u : sg_store) (p0 : Int32) (p1 : Int32) (p2 : Int32) : Option (sg_store) := lp_Store_moveInFront_13 N 1000 p0 p1 p2 (if ((nI N) - (1 : Int32)) < p0 then ((nI N) - (1 : Int32)) else p0) u
def rm_Store_moveInFront : Room := { frames := 1, cells := 0, slots := 0, locals := 21 }
set_option maxRecDepth 100000 in
set_option maxHeartbeats 4000000 in
theorem c_Store_moveInFront (l : Launch) (G : kx_G) (h : Nat) (a1 : Nat) (a2 : Nat) (N : Nat) (u : sg_store) (p0 : Int32) (p1 : Int32) (p2 : Int32) (v : sg_store) (hF : f_Store_moveInFront N u p0 p1 p2 = some v) : CtV l y_Store_moveInFront b_Store_moveInFront 5 rm_Store_moveInFront G [.ref h, .int p0, .int p1, .int p2] [(h, .inr (1, [.ref a1, .ref a2, .int u.1])), (a1, .inl (G.2 0, N, .inl u.2.1)), (a2, .inl (G.2 1, N, .inl u.2.2))] (fun w : sg_store => v = w) (fun w => [(h, .inr (1, [.ref a1, .ref a2, .int w.1])), (a1, .inl (G.2 0, N, .inl w.2.1)), (a2, .inl (G.2 1, N, .inl w.2.2))]) 0 0 := by
  refine CtV.of (by decide) (Nat.le_of_ble_eq_true rfl) [(0, .ref h), (1, .int p0), (2, .int p1), (3, .int p2)] rfl ?_
  intro p e s m args below meth c A ls Q hQ S hr hlocks hin F w hl
  have S : CallFix p m c b_Store_moveInFront 5 s args kx_T "PrefetchRules$Store" := S
  obtain ⟨hx, hb, hml, hown, hts⟩ := id S
  have w : kx_W G A s ([(h, .inr (1, [.ref a1, .ref a2, .int u.1])), (a1, .inl (G.2 0, N, .inl u.2.1)), (a2, .inl (G.2 1, N, .inl u.2.2))] ++ []) s.heap [] := w
  unfold f_Store_moveInFront at hF
  refine lv_iload_n hx hb d_Store_moveInFront_0 rfl (lv_at hl 1 rfl) ?_
  refine lv_aload_n hx hb d_Store_moveInFront_1 rfl (lv_at hl 0 rfl) ?_
  refine kx_get S F w kc_Store 0 rfl 0 (by decide) kw_1b54281d93 rfl d_Store_moveInFront_2 ?_
  refine kx_alen S F w 1 0 rfl rfl d_Store_moveInFront_5 ?_
  refine lv_iconst (v := (1 : Int32)) hx hb d_Store_moveInFront_6 (by decide) ?_
  refine lv_isub hx hb d_Store_moveInFront_7 ?_
  refine va_mmin hx hb (by rw [hml]; exact hl.1.symm) hown (hts _ kw_8eed14fe12) (hts _ kw_86f19dd951) (hts _ kw_ae09fe6d2e) (hts _ kw_45c1916403) (Nat.le_of_ble_eq_true rfl) (Nat.le_of_ble_eq_true rfl) (Nat.zero_le _) (Nat.zero_le _) d_Store_moveInFront_8 ?_
  refine lv_istore (lv' := [(4, .int (if ((nI N) - (1 : Int32)) < p0 then ((nI N) - (1 : Int32)) else p0)), (0, .ref h), (1, .int p0), (2, .int p1), (3, .int p2)]) hx hb d_Store_moveInFront_11 hl (by decide) rfl (fun ls hl => ?_)
  have L13 : ∀ (n13 : Nat) (x1 : Int32) (x2 : Int32) (x3 : Int32) (x4 : Int32) (u13 : sg_store), lp_Store_moveInFront_13 N n13 x1 x2 x3 x4 u13 = some v → ∀ (H : Heap) (locs : List Loc) (ls : Array Slot), kx_W G A s ([(h, .inr (1, [.ref a1, .ref a2, .int u13.1])), (a1, .inl (G.2 0, N, .inl u13.2.1)), (a2, .inl (G.2 1, N, .inl u13.2.2))] ++ []) H locs → lv_has ls 5 [(0, .ref h), (1, .int x1), (2, .int x2), (3, .int x3), (4, .int x4)] → W p l e rm_Store_moveInFront s m args below meth c H locs 0 0 Q (F0 m 13 ls []) := by
    intro n13
    induction n13 with
    | zero =>
      intro x1 x2 x3 x4 u13 hF
      rw [lp_Store_moveInFront_13] at hF
      cases hF
    | succ n13 ih13 =>
      intro x1 x2 x3 x4 u13 hF H locs ls w hl
      rw [lp_Store_moveInFront_13] at hF
      refine lv_iload hx hb d_Store_moveInFront_13 (lv_at hl 4 rfl) ?_
      refine lv_if_le (tgt := 56) hx hb d_Store_moveInFront_15 (by decide) (fun c15 => ?_) (fun c15 => ?_)
      · have hF := kx_t c15 hF
        refine lv_aload_n hx hb d_Store_moveInFront_56 rfl (lv_at hl 0 rfl) ?_
        refine kx_get S F w kc_Store 0 rfl 0 (by decide) kw_1b54281d93 rfl d_Store_moveInFront_57 ?_
        refine lv_iconst (v := (0 : Int32)) hx hb d_Store_moveInFront_60 (by decide) ?_
        refine lv_iload_n hx hb d_Store_moveInFront_61 rfl (lv_at hl 2 rfl) ?_
        obtain ⟨hi62, hF⟩ := kx_ar hF
        refine kx_iast S F w 1 rfl hi62 d_Store_moveInFront_62 (fun H locs w => ?_)
        have w : kx_W G A s ([(h, .inr (1, [.ref a1, .ref a2, .int u13.1])), (a1, .inl (G.2 0, N, .inl (upd u13.2.1 (0 : Int32).toNatClampNeg x2))), (a2, .inl (G.2 1, N, .inl u13.2.2))] ++ []) H locs := w
        refine lv_aload_n hx hb d_Store_moveInFront_63 rfl (lv_at hl 0 rfl) ?_
        refine kx_get S F w kc_Store 0 rfl 1 (by decide) kw_b2824bc22d rfl d_Store_moveInFront_64 ?_
        refine lv_iconst (v := (0 : Int32)) hx hb d_Store_moveInFront_67 (by decide) ?_
        refine lv_iload_n hx hb d_Store_moveInFront_68 rfl (lv_at hl 3 rfl) ?_
        obtain ⟨hi69, hF⟩ := kx_ar hF
        refine kx_zast S F w 2 rfl hi69 d_Store_moveInFront_69 (fun H locs w => ?_)
        have w : kx_W G A s ([(h, .inr (1, [.ref a1, .ref a2, .int u13.1])), (a1, .inl (G.2 0, N, .inl (upd u13.2.1 (0 : Int32).toNatClampNeg x2))), (a2, .inl (G.2 1, N, .inl (upd u13.2.2 (0 : Int32).toNatClampNeg (vp_nar .boolean x3))))] ++ []) H locs := w
        obtain rfl := Option.some.inj hF
        exact kx_vret hQ S hr hlocks w (xo := [(h, .inr (1, [.ref a1, .ref a2, .int u13.1])), (a1, .inl (G.2 0, N, .inl (upd u13.2.1 (0 : Int32).toNatClampNeg x2))), (a2, .inl (G.2 1, N, .inl (upd u13.2.2 (0 : Int32).toNatClampNeg (vp_nar .boolean x3))))]) [0, 1, 2] rfl rfl (u13.1, upd u13.2.1 (0 : Int32).toNatClampNeg x2, upd u13.2.2 (0 : Int32).toNatClampNeg (vp_nar .boolean x3)) rfl rfl d_Store_moveInFront_70
      · have hF := kx_f c15 hF
        refine lv_aload_n hx hb d_Store_moveInFront_18 rfl (lv_at hl 0 rfl) ?_
        refine kx_get S F w kc_Store 0 rfl 0 (by decide) kw_1b54281d93 rfl d_Store_moveInFront_19 ?_
        refine lv_iload hx hb d_Store_moveInFront_22 (lv_at hl 4 rfl) ?_
        refine lv_aload_n hx hb d_Store_moveInFront_24 rfl (lv_at hl 0 rfl) ?_
        refine kx_get S F w kc_Store 0 rfl 0 (by decide) kw_1b54281d93 rfl d_Store_moveInFront_25 ?_
        refine lv_iload hx hb d_Store_moveInFront_28 (lv_at hl 4 rfl) ?_
        refine lv_iconst (v := (1 : Int32)) hx hb d_Store_moveInFront_30 (by decide) ?_
        refine lv_isub hx hb d_Store_moveInFront_31 ?_
        obtain ⟨hi32, hF⟩ := kx_ar hF
        refine kx_iald S F w 1 rfl hi32 d_Store_moveInFront_32 ?_
        obtain ⟨hi33, hF⟩ := kx_ar hF
        refine kx_iast S F w 1 rfl hi33 d_Store_moveInFront_33 (fun H locs w => ?_)
        have w : kx_W G A s ([(h, .inr (1, [.ref a1, .ref a2, .int u13.1])), (a1, .inl (G.2 0, N, .inl (upd u13.2.1 x4.toNatClampNeg (u13.2.1 (x4 - (1 : Int32)).toNatClampNeg)))), (a2, .inl (G.2 1, N, .inl u13.2.2))] ++ []) H locs := w
        refine lv_aload_n hx hb d_Store_moveInFront_34 rfl (lv_at hl 0 rfl) ?_
        refine kx_get S F w kc_Store 0 rfl 1 (by decide) kw_b2824bc22d rfl d_Store_moveInFront_35 ?_
        refine lv_iload hx hb d_Store_moveInFront_38 (lv_at hl 4 rfl) ?_
        refine lv_aload_n hx hb d_Store_moveInFront_40 rfl (lv_at hl 0 rfl) ?_
        refine kx_get S F w kc_Store 0 rfl 1 (by decide) kw_b2824bc22d rfl d_Store_moveInFront_41 ?_
        refine lv_iload hx hb d_Store_moveInFront_44 (lv_at hl 4 rfl) ?_
        refine lv_iconst (v := (1 : Int32)) hx hb d_Store_moveInFront_46 (by decide) ?_
        refine lv_isub hx hb d_Store_moveInFront_47 ?_
        obtain ⟨hi48, hF⟩ := kx_ar hF
        refine kx_zald S F w 2 rfl hi48 d_Store_moveInFront_48 ?_
        obtain ⟨hi49, hF⟩ := kx_ar hF
        refine kx_zast S F w 2 rfl hi49 d_Store_moveInFront_49 (fun H locs w => ?_)
        have w : kx_W G A s ([(h, .inr (1, [.ref a1, .ref a2, .int u13.1])), (a1, .inl (G.2 0, N, .inl (upd u13.2.1 x4.toNatClampNeg (u13.2.1 (x4 - (1 : Int32)).toNatClampNeg)))), (a2, .inl (G.2 1, N, .inl (upd u13.2.2 x4.toNatClampNeg (vp_nar .boolean (u13.2.2 (x4 - (1 : Int32)).toNatClampNeg)))))] ++ []) H locs := w
        refine lv_iinc (v := x4 + (-1)) (lv' := [(4, .int (x4 + (-1))), (0, .ref h), (1, .int x1), (2, .int x2), (3, .int x3)]) hx hb d_Store_moveInFront_50 hl (k := 4) rfl (by rfl) (by decide) rfl (fun ls hl => ?_)
        refine lv_goto (tgt := 13) hx hb d_Store_moveInFront_53 (by decide) ?_
        exact ih13 x1 x2 x3 (x4 + (-1)) (u13.1, upd u13.2.1 x4.toNatClampNeg (u13.2.1 (x4 - (1 : Int32)).toNatClampNeg), upd u13.2.2 x4.toNatClampNeg (vp_nar .boolean (u13.2.2 (x4 - (1 : Int32)).toNatClampNeg))) hF H locs ls (w.perm [0, 1, 2] rfl rfl) (lv_sub hl [1, 2, 3, 4, 0] rfl)
  exact L13 1000 p0 p1 p2 (if ((nI N) - (1 : Int32)) < p0 then ((nI N) - (1 : Int32)) else p0) u hF s.heap [] ls (w.perm [0, 1, 2] rfl rfl) (lv_sub hl [1, 2, 3, 4, 0] rfl)
/-! Store_putFirst -/
def f_Store_putFirst (N : Nat) (u : sg_store) (p0 : Int32) (p1 : Int32) : Option (sg_store) := (if (nI N) ≤ u.1 then some u else (f_Store_moveInFront N (u.1 + (1 : Int32), u.2) ((u.1 + (1 : Int32)) - (1 : Int32)) p0 p1).bind (fun q31 => some q31))
def rm_Store_putFirst : Room := { frames := 2, cells := 0, slots := 0, locals := 45 }
set_option maxRecDepth 100000 in
set_option maxHeartbeats 4000000 in
theorem c_Store_putFirst (l : Launch) (G : kx_G) (h : Nat) (a1 : Nat) (a2 : Nat) (N : Nat) (u : sg_store) (p0 : Int32) (p1 : Int32) (v : sg_store) (hF : f_Store_putFirst N u p0 p1 = some v) : CtV l y_Store_putFirst b_Store_putFirst 3 rm_Store_putFirst G [.ref h, .int p0, .int p1] [(h, .inr (1, [.ref a1, .ref a2, .int u.1])), (a1, .inl (G.2 0, N, .inl u.2.1)), (a2, .inl (G.2 1, N, .inl u.2.2))] (fun w : sg_store => v = w) (fun w => [(h, .inr (1, [.ref a1, .ref a2, .int w.1])), (a1, .inl (G.2 0, N, .inl w.2.1)), (a2, .inl (G.2 1, N, .inl w.2.2))]) 0 0 := by
  refine CtV.of (by decide) (Nat.le_of_ble_eq_true rfl) [(0, .ref h), (1, .int p0), (2, .int p1)] rfl ?_
  intro p e s m args below meth c A ls Q hQ S hr hlocks hin F w hl
  have S : CallFix p m c b_Store_putFirst 3 s args kx_T "PrefetchRules$Store" := S
  obtain ⟨hx, hb, hml, hown, hts⟩ := id S
  have w : kx_W G A s ([(h, .inr (1, [.ref a1, .ref a2, .int u.1])), (a1, .inl (G.2 0, N, .inl u.2.1)), (a2, .inl (G.2 1, N, .inl u.2.2))] ++ []) s.heap [] := w
  unfold f_Store_putFirst at hF
  refine lv_aload_n hx hb d_Store_putFirst_0 rfl (lv_at hl 0 rfl) ?_
  refine kx_get S F w kc_Store 0 rfl 2 (by decide) kw_80905d0669 rfl d_Store_putFirst_1 ?_
  refine lv_aload_n hx hb d_Store_putFirst_4 rfl (lv_at hl 0 rfl) ?_
  refine kx_get S F w kc_Store 0 rfl 0 (by decide) kw_1b54281d93 rfl d_Store_putFirst_5 ?_
  refine kx_alen S F w 1 0 rfl rfl d_Store_putFirst_8 ?_
  refine lv_icmp_ge (tgt := 34) hx hb d_Store_putFirst_9 (by decide) (fun c9 => ?_) (fun c9 => ?_)
  · have hF := kx_t c9 hF
    obtain rfl := Option.some.inj hF
    exact kx_vret hQ S hr hlocks w (xo := [(h, .inr (1, [.ref a1, .ref a2, .int u.1])), (a1, .inl (G.2 0, N, .inl u.2.1)), (a2, .inl (G.2 1, N, .inl u.2.2))]) [0, 1, 2] rfl rfl u rfl rfl d_Store_putFirst_34
  · have hF := kx_f c9 hF
    refine lv_aload_n hx hb d_Store_putFirst_12 rfl (lv_at hl 0 rfl) ?_
    refine lv_dup hx hb d_Store_putFirst_13 rfl ?_
    refine kx_get S F w kc_Store 0 rfl 2 (by decide) kw_80905d0669 rfl d_Store_putFirst_14 ?_
    refine lv_iconst (v := (1 : Int32)) hx hb d_Store_putFirst_17 (by decide) ?_
    refine lv_iadd hx hb d_Store_putFirst_18 ?_
    refine kx_put S F w kc_Store 0 rfl 2 (by decide) kw_80905d0669 rfl rfl rfl (Nat.le_of_ble_eq_true rfl) d_Store_putFirst_19 (fun H locs w => ?_)
    have w : kx_W G A s ([(h, .inr (1, [.ref a1, .ref a2, .int (u.1 + (1 : Int32))])), (a1, .inl (G.2 0, N, .inl u.2.1)), (a2, .inl (G.2 1, N, .inl u.2.2))] ++ []) H locs := w
    refine lv_aload_n hx hb d_Store_putFirst_22 rfl (lv_at hl 0 rfl) ?_
    refine lv_aload_n hx hb d_Store_putFirst_23 rfl (lv_at hl 0 rfl) ?_
    refine kx_get S F w kc_Store 0 rfl 2 (by decide) kw_80905d0669 rfl d_Store_putFirst_24 ?_
    refine lv_iconst (v := (1 : Int32)) hx hb d_Store_putFirst_27 (by decide) ?_
    refine lv_isub hx hb d_Store_putFirst_28 ?_
    refine lv_iload_n hx hb d_Store_putFirst_29 rfl (lv_at hl 1 rfl) ?_
    refine lv_iload_n hx hb d_Store_putFirst_30 rfl (lv_at hl 2 rfl) ?_
    obtain ⟨q31, hq31, hF⟩ := kx_bd hF
    refine kx_cv (cx := [(h, .inr (1, [.ref a1, .ref a2, .int (u.1 + (1 : Int32))])), (a1, .inl (G.2 0, N, .inl u.2.1)), (a2, .inl (G.2 1, N, .inl u.2.2))]) (wr := []) F w [0, 1, 2] [] rfl rfl rfl (by decide) (va_runV (As := [.int ((u.1 + (1 : Int32)) - (1 : Int32)), .int p0, .int p1]) (rest := []) S (c_Store_moveInFront l G h a1 a2 N (u.1 + (1 : Int32), u.2) ((u.1 + (1 : Int32)) - (1 : Int32)) p0 p1 q31 hq31 _) (kx_cwV S mv_Store_moveInFront kw_43396a1095 ⟨rfl, rfl, Nat.le_of_ble_eq_true rfl, Nat.le_of_ble_eq_true rfl⟩) ⟨kx_blind _ _ _ _, va_recv (q0 := 0) F.1.1 w.1 kc_Store.1 rfl, kx_pre F w [0, 1, 2] rfl rfl⟩ rfl rfl hl.1 rfl (lv_room (Nat.le_of_ble_eq_true rfl)) d_Store_putFirst_31 ⟨Nat.le_of_ble_eq_true rfl, Nat.le_of_ble_eq_true rfl⟩) (fun w31 H locs hp w => ?_)
    subst hp
    have w : kx_W G A s ([(h, .inr (1, [.ref a1, .ref a2, .int q31.1])), (a1, .inl (G.2 0, N, .inl q31.2.1)), (a2, .inl (G.2 1, N, .inl q31.2.2))] ++ []) H locs := w
    obtain rfl := Option.some.inj hF
    exact kx_vret hQ S hr hlocks w (xo := [(h, .inr (1, [.ref a1, .ref a2, .int q31.1])), (a1, .inl (G.2 0, N, .inl q31.2.1)), (a2, .inl (G.2 1, N, .inl q31.2.2))]) [0, 1, 2] rfl rfl q31 rfl rfl d_Store_putFirst_34
/-! Store_use -/
def f_Store_use (N : Nat) (u : sg_store) (p0 : Int32) : Option (sg_store) := (f_Store_has N u p0).bind (fun q2 => (if q2 = 0 then some u else (if (p0 < 0 ∨ N ≤ p0.toNatClampNeg) then none else (f_Store_moveInFront N u p0 (u.2.1 p0.toNatClampNeg) (0 : Int32)).bind (fun q17 => some q17))))
def rm_Store_use : Room := { frames := 2, cells := 0, slots := 0, locals := 45 }
set_option maxRecDepth 100000 in
set_option maxHeartbeats 4000000 in
theorem c_Store_use (l : Launch) (G : kx_G) (h : Nat) (a1 : Nat) (a2 : Nat) (N : Nat) (u : sg_store) (p0 : Int32) (v : sg_store) (hF : f_Store_use N u p0 = some v) : CtV l y_Store_use b_Store_use 2 rm_Store_use G [.ref h, .int p0] [(h, .inr (1, [.ref a1, .ref a2, .int u.1])), (a1, .inl (G.2 0, N, .inl u.2.1)), (a2, .inl (G.2 1, N, .inl u.2.2))] (fun w : sg_store => v = w) (fun w => [(h, .inr (1, [.ref a1, .ref a2, .int w.1])), (a1, .inl (G.2 0, N, .inl w.2.1)), (a2, .inl (G.2 1, N, .inl w.2.2))]) 0 0 := by
  refine CtV.of (by decide) (Nat.le_of_ble_eq_true rfl) [(0, .ref h), (1, .int p0)] rfl ?_
  intro p e s m args below meth c A ls Q hQ S hr hlocks hin F w hl
  have S : CallFix p m c b_Store_use 2 s args kx_T "PrefetchRules$Store" := S
  obtain ⟨hx, hb, hml, hown, hts⟩ := id S
  have w : kx_W G A s ([(h, .inr (1, [.ref a1, .ref a2, .int u.1])), (a1, .inl (G.2 0, N, .inl u.2.1)), (a2, .inl (G.2 1, N, .inl u.2.2))] ++ []) s.heap [] := w
  unfold f_Store_use at hF
  refine lv_aload_n hx hb d_Store_use_0 rfl (lv_at hl 0 rfl) ?_
  refine lv_iload_n hx hb d_Store_use_1 rfl (lv_at hl 1 rfl) ?_
  obtain ⟨q2, hq2, hF⟩ := kx_bd hF
  refine kx_ci (cx := [(h, .inr (1, [.ref a1, .ref a2, .int u.1])), (a1, .inl (G.2 0, N, .inl u.2.1)), (a2, .inl (G.2 1, N, .inl u.2.2))]) (wr := []) F w [0, 1, 2] [] rfl rfl rfl (by decide) (va_runV (As := [.int p0]) (rest := []) S (c_Store_has l G h a1 a2 N u p0 q2 hq2 _) (kx_cwV S mv_Store_has kw_5baba7e2a3 ⟨rfl, rfl, Nat.le_of_ble_eq_true rfl, Nat.le_of_ble_eq_true rfl⟩) ⟨kx_blind _ _ _ _, va_recv (q0 := 0) F.1.1 w.1 kc_Store.1 rfl, kx_pre F w [0, 1, 2] rfl rfl⟩ rfl rfl hl.1 rfl (lv_room (Nat.le_of_ble_eq_true rfl)) d_Store_use_2 ⟨Nat.le_of_ble_eq_true rfl, Nat.le_of_ble_eq_true rfl⟩) (fun r2 w2 H locs hp w => ?_)
  subst hp
  have w : kx_W G A s ([(h, .inr (1, [.ref a1, .ref a2, .int u.1])), (a1, .inl (G.2 0, N, .inl u.2.1)), (a2, .inl (G.2 1, N, .inl u.2.2))] ++ []) H locs := w
  refine lv_if_eq (tgt := 20) hx hb d_Store_use_5 (by decide) (fun c5 => ?_) (fun c5 => ?_)
  · have hF := kx_t c5 hF
    obtain rfl := Option.some.inj hF
    exact kx_vret hQ S hr hlocks w (xo := [(h, .inr (1, [.ref a1, .ref a2, .int u.1])), (a1, .inl (G.2 0, N, .inl u.2.1)), (a2, .inl (G.2 1, N, .inl u.2.2))]) [0, 1, 2] rfl rfl u rfl rfl d_Store_use_20
  · have hF := kx_f c5 hF
    refine lv_aload_n hx hb d_Store_use_8 rfl (lv_at hl 0 rfl) ?_
    refine lv_iload_n hx hb d_Store_use_9 rfl (lv_at hl 1 rfl) ?_
    refine lv_aload_n hx hb d_Store_use_10 rfl (lv_at hl 0 rfl) ?_
    refine kx_get S F w kc_Store 0 rfl 0 (by decide) kw_1b54281d93 rfl d_Store_use_11 ?_
    refine lv_iload_n hx hb d_Store_use_14 rfl (lv_at hl 1 rfl) ?_
    obtain ⟨hi15, hF⟩ := kx_ar hF
    refine kx_iald S F w 1 rfl hi15 d_Store_use_15 ?_
    refine lv_iconst (v := (0 : Int32)) hx hb d_Store_use_16 (by decide) ?_
    obtain ⟨q17, hq17, hF⟩ := kx_bd hF
    refine kx_cv (cx := [(h, .inr (1, [.ref a1, .ref a2, .int u.1])), (a1, .inl (G.2 0, N, .inl u.2.1)), (a2, .inl (G.2 1, N, .inl u.2.2))]) (wr := []) F w [0, 1, 2] [] rfl rfl rfl (by decide) (va_runV (As := [.int p0, .int (u.2.1 p0.toNatClampNeg), .int (0 : Int32)]) (rest := []) S (c_Store_moveInFront l G h a1 a2 N u p0 (u.2.1 p0.toNatClampNeg) (0 : Int32) q17 hq17 _) (kx_cwV S mv_Store_moveInFront kw_43396a1095 ⟨rfl, rfl, Nat.le_of_ble_eq_true rfl, Nat.le_of_ble_eq_true rfl⟩) ⟨kx_blind _ _ _ _, va_recv (q0 := 0) F.1.1 w.1 kc_Store.1 rfl, kx_pre F w [0, 1, 2] rfl rfl⟩ rfl rfl hl.1 rfl (lv_room (Nat.le_of_ble_eq_true rfl)) d_Store_use_17 ⟨Nat.le_of_ble_eq_true rfl, Nat.le_of_ble_eq_true rfl⟩) (fun w17 H locs hp w => ?_)
    subst hp
    have w : kx_W G A s ([(h, .inr (1, [.ref a1, .ref a2, .int q17.1])), (a1, .inl (G.2 0, N, .inl q17.2.1)), (a2, .inl (G.2 1, N, .inl q17.2.2))] ++ []) H locs := w
    obtain rfl := Option.some.inj hF
    exact kx_vret hQ S hr hlocks w (xo := [(h, .inr (1, [.ref a1, .ref a2, .int q17.1])), (a1, .inl (G.2 0, N, .inl q17.2.1)), (a2, .inl (G.2 1, N, .inl q17.2.2))]) [0, 1, 2] rfl rfl q17 rfl rfl d_Store_use_20
/-! Queue_has -/
def f_Queue_has (u : sg_queue) (p0 : Int32) : Option (Int32) := (if p0 < 0 then some (0 : Int32) else (if u.1 ≤ p0 then some (0 : Int32) else (if (8 : Int32) ≤ p0 then some (0 : Int32) else some (1 : Int32))))
def rm_Queue_has : Room := { frames := 0, cells := 0, slots := 0, locals := 0 }
set_option maxRecDepth 100000 in
set_option maxHeartbeats 4000000 in
theorem c_Queue_has (l : Launch) (G : kx_G) (h : Nat) (a1 : Nat) (a2 : Nat) (u : sg_queue) (p0 : Int32) (v : Int32) (hF : f_Queue_has u p0 = some v) : CtI l y_Queue_has b_Queue_has 2 (some .boolean) rm_Queue_has G [.ref h, .int p0] [(h, .inr (2, [.ref a1, .ref a2, .int u.1])), (a1, .inl (G.2 0, 8, .inl u.2.1)), (a2, .inl (G.2 0, 8, .inl u.2.2))] (fun (r : Int32) (_ : Unit) => v = r) (fun _ => [(h, .inr (2, [.ref a1, .ref a2, .int u.1])), (a1, .inl (G.2 0, 8, .inl u.2.1)), (a2, .inl (G.2 0, 8, .inl u.2.2))]) 0 0 := by
  refine CtI.of (by decide) (Nat.le_of_ble_eq_true rfl) [(0, .ref h), (1, .int p0)] rfl ?_
  intro p e s m args below meth c A ls Q hQ S hr hlocks F w hl
  have S : CallFix p m c b_Queue_has 2 s args kx_T "PrefetchRules$Queue" := S
  obtain ⟨hx, hb, hml, hown, hts⟩ := id S
  have w : kx_W G A s ([(h, .inr (2, [.ref a1, .ref a2, .int u.1])), (a1, .inl (G.2 0, 8, .inl u.2.1)), (a2, .inl (G.2 0, 8, .inl u.2.2))] ++ []) s.heap [] := w
  unfold f_Queue_has at hF
  refine lv_iload_n hx hb d_Queue_has_0 rfl (lv_at hl 1 rfl) ?_
  refine lv_if_lt (tgt := 22) hx hb d_Queue_has_1 (by decide) (fun c1 => ?_) (fun c1 => ?_)
  · have hF := kx_t c1 hF
    refine lv_iconst (v := (0 : Int32)) hx hb d_Queue_has_22 (by decide) ?_
    obtain rfl := Option.some.inj hF
    exact kx_zret hQ S hr hlocks (by decide) w (xo := [(h, .inr (2, [.ref a1, .ref a2, .int u.1])), (a1, .inl (G.2 0, 8, .inl u.2.1)), (a2, .inl (G.2 0, 8, .inl u.2.2))]) [0, 1, 2] rfl rfl () rfl rfl d_Queue_has_23
  · have hF := kx_f c1 hF
    refine lv_iload_n hx hb d_Queue_has_4 rfl (lv_at hl 1 rfl) ?_
    refine lv_aload_n hx hb d_Queue_has_5 rfl (lv_at hl 0 rfl) ?_
    refine kx_get S F w kc_Queue 0 rfl 2 (by decide) kw_680432f967 rfl d_Queue_has_6 ?_
    refine lv_icmp_ge (tgt := 22) hx hb d_Queue_has_9 (by decide) (fun c9 => ?_) (fun c9 => ?_)
    · have hF := kx_t c9 hF
      refine lv_iconst (v := (0 : Int32)) hx hb d_Queue_has_22 (by decide) ?_
      obtain rfl := Option.some.inj hF
      exact kx_zret hQ S hr hlocks (by decide) w (xo := [(h, .inr (2, [.ref a1, .ref a2, .int u.1])), (a1, .inl (G.2 0, 8, .inl u.2.1)), (a2, .inl (G.2 0, 8, .inl u.2.2))]) [0, 1, 2] rfl rfl () rfl rfl d_Queue_has_23
    · have hF := kx_f c9 hF
      refine lv_iload_n hx hb d_Queue_has_12 rfl (lv_at hl 1 rfl) ?_
      refine lv_bipush (v := (8 : Int32)) hx hb d_Queue_has_13 (by decide) ?_
      refine lv_icmp_ge (tgt := 22) hx hb d_Queue_has_15 (by decide) (fun c15 => ?_) (fun c15 => ?_)
      · have hF := kx_t c15 hF
        refine lv_iconst (v := (0 : Int32)) hx hb d_Queue_has_22 (by decide) ?_
        obtain rfl := Option.some.inj hF
        exact kx_zret hQ S hr hlocks (by decide) w (xo := [(h, .inr (2, [.ref a1, .ref a2, .int u.1])), (a1, .inl (G.2 0, 8, .inl u.2.1)), (a2, .inl (G.2 0, 8, .inl u.2.2))]) [0, 1, 2] rfl rfl () rfl rfl d_Queue_has_23
      · have hF := kx_f c15 hF
        refine lv_iconst (v := (1 : Int32)) hx hb d_Queue_has_18 (by decide) ?_
        refine lv_goto (tgt := 23) hx hb d_Queue_has_19 (by decide) ?_
        obtain rfl := Option.some.inj hF
        exact kx_zret hQ S hr hlocks (by decide) w (xo := [(h, .inr (2, [.ref a1, .ref a2, .int u.1])), (a1, .inl (G.2 0, 8, .inl u.2.1)), (a2, .inl (G.2 0, 8, .inl u.2.2))]) [0, 1, 2] rfl rfl () rfl rfl d_Queue_has_23
/-! Queue_size -/
def f_Queue_size (u : sg_queue) : Option (Int32) := some u.1
def rm_Queue_size : Room := { frames := 0, cells := 0, slots := 0, locals := 0 }
set_option maxRecDepth 100000 in
set_option maxHeartbeats 4000000 in
theorem c_Queue_size (l : Launch) (G : kx_G) (h : Nat) (a1 : Nat) (a2 : Nat) (u : sg_queue) (v : Int32) (hF : f_Queue_size u = some v) : CtI l y_Queue_size b_Queue_size 1 (some .int) rm_Queue_size G [.ref h] [(h, .inr (2, [.ref a1, .ref a2, .int u.1])), (a1, .inl (G.2 0, 8, .inl u.2.1)), (a2, .inl (G.2 0, 8, .inl u.2.2))] (fun (r : Int32) (_ : Unit) => v = r) (fun _ => [(h, .inr (2, [.ref a1, .ref a2, .int u.1])), (a1, .inl (G.2 0, 8, .inl u.2.1)), (a2, .inl (G.2 0, 8, .inl u.2.2))]) 0 0 := by
  refine CtI.of (by decide) (Nat.le_of_ble_eq_true rfl) [(0, .ref h)] rfl ?_
  intro p e s m args below meth c A ls Q hQ S hr hlocks F w hl
  have S : CallFix p m c b_Queue_size 1 s args kx_T "PrefetchRules$Queue" := S
  obtain ⟨hx, hb, hml, hown, hts⟩ := id S
  have w : kx_W G A s ([(h, .inr (2, [.ref a1, .ref a2, .int u.1])), (a1, .inl (G.2 0, 8, .inl u.2.1)), (a2, .inl (G.2 0, 8, .inl u.2.2))] ++ []) s.heap [] := w
  unfold f_Queue_size at hF
  refine lv_aload_n hx hb d_Queue_size_0 rfl (lv_at hl 0 rfl) ?_
  refine kx_get S F w kc_Queue 0 rfl 2 (by decide) kw_680432f967 rfl d_Queue_size_1 ?_
  obtain rfl := Option.some.inj hF
  exact kx_iret hQ S hr hlocks w (xo := [(h, .inr (2, [.ref a1, .ref a2, .int u.1])), (a1, .inl (G.2 0, 8, .inl u.2.1)), (a2, .inl (G.2 0, 8, .inl u.2.2))]) [0, 1, 2] rfl rfl () rfl rfl d_Queue_size_4
/-! Queue_isFull -/
def f_Queue_isFull (u : sg_queue) : Option (Int32) := (if u.1 < (8 : Int32) then some (0 : Int32) else some (1 : Int32))
def rm_Queue_isFull : Room := { frames := 0, cells := 0, slots := 0, locals := 0 }
set_option maxRecDepth 100000 in
set_option maxHeartbeats 4000000 in
theorem c_Queue_isFull (l : Launch) (G : kx_G) (h : Nat) (a1 : Nat) (a2 : Nat) (u : sg_queue) (v : Int32) (hF : f_Queue_isFull u = some v) : CtI l y_Queue_isFull b_Queue_isFull 1 (some .boolean) rm_Queue_isFull G [.ref h] [(h, .inr (2, [.ref a1, .ref a2, .int u.1])), (a1, .inl (G.2 0, 8, .inl u.2.1)), (a2, .inl (G.2 0, 8, .inl u.2.2))] (fun (r : Int32) (_ : Unit) => v = r) (fun _ => [(h, .inr (2, [.ref a1, .ref a2, .int u.1])), (a1, .inl (G.2 0, 8, .inl u.2.1)), (a2, .inl (G.2 0, 8, .inl u.2.2))]) 0 0 := by
  refine CtI.of (by decide) (Nat.le_of_ble_eq_true rfl) [(0, .ref h)] rfl ?_
  intro p e s m args below meth c A ls Q hQ S hr hlocks F w hl
  have S : CallFix p m c b_Queue_isFull 1 s args kx_T "PrefetchRules$Queue" := S
  obtain ⟨hx, hb, hml, hown, hts⟩ := id S
  have w : kx_W G A s ([(h, .inr (2, [.ref a1, .ref a2, .int u.1])), (a1, .inl (G.2 0, 8, .inl u.2.1)), (a2, .inl (G.2 0, 8, .inl u.2.2))] ++ []) s.heap [] := w
  unfold f_Queue_isFull at hF
  refine lv_aload_n hx hb d_Queue_isFull_0 rfl (lv_at hl 0 rfl) ?_
  refine kx_get S F w kc_Queue 0 rfl 2 (by decide) kw_680432f967 rfl d_Queue_isFull_1 ?_
  refine lv_bipush (v := (8 : Int32)) hx hb d_Queue_isFull_4 (by decide) ?_
  refine lv_icmp_lt (tgt := 13) hx hb d_Queue_isFull_6 (by decide) (fun c6 => ?_) (fun c6 => ?_)
  · have hF := kx_t c6 hF
    refine lv_iconst (v := (0 : Int32)) hx hb d_Queue_isFull_13 (by decide) ?_
    obtain rfl := Option.some.inj hF
    exact kx_zret hQ S hr hlocks (by decide) w (xo := [(h, .inr (2, [.ref a1, .ref a2, .int u.1])), (a1, .inl (G.2 0, 8, .inl u.2.1)), (a2, .inl (G.2 0, 8, .inl u.2.2))]) [0, 1, 2] rfl rfl () rfl rfl d_Queue_isFull_14
  · have hF := kx_f c6 hF
    refine lv_iconst (v := (1 : Int32)) hx hb d_Queue_isFull_9 (by decide) ?_
    refine lv_goto (tgt := 14) hx hb d_Queue_isFull_10 (by decide) ?_
    obtain rfl := Option.some.inj hF
    exact kx_zret hQ S hr hlocks (by decide) w (xo := [(h, .inr (2, [.ref a1, .ref a2, .int u.1])), (a1, .inl (G.2 0, 8, .inl u.2.1)), (a2, .inl (G.2 0, 8, .inl u.2.2))]) [0, 1, 2] rfl rfl () rfl rfl d_Queue_isFull_14
/-! Queue_lineAt -/
def f_Queue_lineAt (u : sg_queue) (p0 : Int32) : Option (Int32) := (f_Queue_has u p0).bind (fun q2 => (if q2 = 0 then some (-1 : Int32) else (if (p0 < 0 ∨ 8 ≤ p0.toNatClampNeg) then none else some (u.2.1 p0.toNatClampNeg))))
def rm_Queue_lineAt : Room := { frames := 1, cells := 0, slots := 0, locals := 21 }
set_option maxRecDepth 100000 in
set_option maxHeartbeats 4000000 in
theorem c_Queue_lineAt (l : Launch) (G : kx_G) (h : Nat) (a1 : Nat) (a2 : Nat) (u : sg_queue) (p0 : Int32) (v : Int32) (hF : f_Queue_lineAt u p0 = some v) : CtI l y_Queue_lineAt b_Queue_lineAt 2 (some .int) rm_Queue_lineAt G [.ref h, .int p0] [(h, .inr (2, [.ref a1, .ref a2, .int u.1])), (a1, .inl (G.2 0, 8, .inl u.2.1)), (a2, .inl (G.2 0, 8, .inl u.2.2))] (fun (r : Int32) (_ : Unit) => v = r) (fun _ => [(h, .inr (2, [.ref a1, .ref a2, .int u.1])), (a1, .inl (G.2 0, 8, .inl u.2.1)), (a2, .inl (G.2 0, 8, .inl u.2.2))]) 0 0 := by
  refine CtI.of (by decide) (Nat.le_of_ble_eq_true rfl) [(0, .ref h), (1, .int p0)] rfl ?_
  intro p e s m args below meth c A ls Q hQ S hr hlocks F w hl
  have S : CallFix p m c b_Queue_lineAt 2 s args kx_T "PrefetchRules$Queue" := S
  obtain ⟨hx, hb, hml, hown, hts⟩ := id S
  have w : kx_W G A s ([(h, .inr (2, [.ref a1, .ref a2, .int u.1])), (a1, .inl (G.2 0, 8, .inl u.2.1)), (a2, .inl (G.2 0, 8, .inl u.2.2))] ++ []) s.heap [] := w
  unfold f_Queue_lineAt at hF
  refine lv_aload_n hx hb d_Queue_lineAt_0 rfl (lv_at hl 0 rfl) ?_
  refine lv_iload_n hx hb d_Queue_lineAt_1 rfl (lv_at hl 1 rfl) ?_
  obtain ⟨q2, hq2, hF⟩ := kx_bd hF
  refine kx_ci (cx := [(h, .inr (2, [.ref a1, .ref a2, .int u.1])), (a1, .inl (G.2 0, 8, .inl u.2.1)), (a2, .inl (G.2 0, 8, .inl u.2.2))]) (wr := []) F w [0, 1, 2] [] rfl rfl rfl (by decide) (va_runV (As := [.int p0]) (rest := []) S (c_Queue_has l G h a1 a2 u p0 q2 hq2 _) (kx_cwV S mv_Queue_has kw_79672ef02c ⟨rfl, rfl, Nat.le_of_ble_eq_true rfl, Nat.le_of_ble_eq_true rfl⟩) ⟨kx_blind _ _ _ _, va_recv (q0 := 0) F.1.1 w.1 kc_Queue.1 rfl, kx_pre F w [0, 1, 2] rfl rfl⟩ rfl rfl hl.1 rfl (lv_room (Nat.le_of_ble_eq_true rfl)) d_Queue_lineAt_2 ⟨Nat.le_of_ble_eq_true rfl, Nat.le_of_ble_eq_true rfl⟩) (fun r2 w2 H locs hp w => ?_)
  subst hp
  have w : kx_W G A s ([(h, .inr (2, [.ref a1, .ref a2, .int u.1])), (a1, .inl (G.2 0, 8, .inl u.2.1)), (a2, .inl (G.2 0, 8, .inl u.2.2))] ++ []) H locs := w
  refine lv_if_eq (tgt := 17) hx hb d_Queue_lineAt_5 (by decide) (fun c5 => ?_) (fun c5 => ?_)
  · have hF := kx_t c5 hF
    refine lv_iconst (v := (-1 : Int32)) hx hb d_Queue_lineAt_17 (by decide) ?_
    obtain rfl := Option.some.inj hF
    exact kx_iret hQ S hr hlocks w (xo := [(h, .inr (2, [.ref a1, .ref a2, .int u.1])), (a1, .inl (G.2 0, 8, .inl u.2.1)), (a2, .inl (G.2 0, 8, .inl u.2.2))]) [0, 1, 2] rfl rfl () rfl rfl d_Queue_lineAt_18
  · have hF := kx_f c5 hF
    refine lv_aload_n hx hb d_Queue_lineAt_8 rfl (lv_at hl 0 rfl) ?_
    refine kx_get S F w kc_Queue 0 rfl 0 (by decide) kw_c9e06f3283 rfl d_Queue_lineAt_9 ?_
    refine lv_iload_n hx hb d_Queue_lineAt_12 rfl (lv_at hl 1 rfl) ?_
    obtain ⟨hi13, hF⟩ := kx_ar hF
    refine kx_iald S F w 1 rfl hi13 d_Queue_lineAt_13 ?_
    refine lv_goto (tgt := 18) hx hb d_Queue_lineAt_14 (by decide) ?_
    obtain rfl := Option.some.inj hF
    exact kx_iret hQ S hr hlocks w (xo := [(h, .inr (2, [.ref a1, .ref a2, .int u.1])), (a1, .inl (G.2 0, 8, .inl u.2.1)), (a2, .inl (G.2 0, 8, .inl u.2.2))]) [0, 1, 2] rfl rfl () rfl rfl d_Queue_lineAt_18
/-! Queue_cycleAt -/
def f_Queue_cycleAt (u : sg_queue) (p0 : Int32) : Option (Int32) := (f_Queue_has u p0).bind (fun q2 => (if q2 = 0 then some (-1 : Int32) else (if (p0 < 0 ∨ 8 ≤ p0.toNatClampNeg) then none else some (u.2.2 p0.toNatClampNeg))))
def rm_Queue_cycleAt : Room := { frames := 1, cells := 0, slots := 0, locals := 21 }
set_option maxRecDepth 100000 in
set_option maxHeartbeats 4000000 in
theorem c_Queue_cycleAt (l : Launch) (G : kx_G) (h : Nat) (a1 : Nat) (a2 : Nat) (u : sg_queue) (p0 : Int32) (v : Int32) (hF : f_Queue_cycleAt u p0 = some v) : CtI l y_Queue_cycleAt b_Queue_cycleAt 2 (some .int) rm_Queue_cycleAt G [.ref h, .int p0] [(h, .inr (2, [.ref a1, .ref a2, .int u.1])), (a1, .inl (G.2 0, 8, .inl u.2.1)), (a2, .inl (G.2 0, 8, .inl u.2.2))] (fun (r : Int32) (_ : Unit) => v = r) (fun _ => [(h, .inr (2, [.ref a1, .ref a2, .int u.1])), (a1, .inl (G.2 0, 8, .inl u.2.1)), (a2, .inl (G.2 0, 8, .inl u.2.2))]) 0 0 := by
  refine CtI.of (by decide) (Nat.le_of_ble_eq_true rfl) [(0, .ref h), (1, .int p0)] rfl ?_
  intro p e s m args below meth c A ls Q hQ S hr hlocks F w hl
  have S : CallFix p m c b_Queue_cycleAt 2 s args kx_T "PrefetchRules$Queue" := S
  obtain ⟨hx, hb, hml, hown, hts⟩ := id S
  have w : kx_W G A s ([(h, .inr (2, [.ref a1, .ref a2, .int u.1])), (a1, .inl (G.2 0, 8, .inl u.2.1)), (a2, .inl (G.2 0, 8, .inl u.2.2))] ++ []) s.heap [] := w
  unfold f_Queue_cycleAt at hF
  refine lv_aload_n hx hb d_Queue_cycleAt_0 rfl (lv_at hl 0 rfl) ?_
  refine lv_iload_n hx hb d_Queue_cycleAt_1 rfl (lv_at hl 1 rfl) ?_
  obtain ⟨q2, hq2, hF⟩ := kx_bd hF
  refine kx_ci (cx := [(h, .inr (2, [.ref a1, .ref a2, .int u.1])), (a1, .inl (G.2 0, 8, .inl u.2.1)), (a2, .inl (G.2 0, 8, .inl u.2.2))]) (wr := []) F w [0, 1, 2] [] rfl rfl rfl (by decide) (va_runV (As := [.int p0]) (rest := []) S (c_Queue_has l G h a1 a2 u p0 q2 hq2 _) (kx_cwV S mv_Queue_has kw_79672ef02c ⟨rfl, rfl, Nat.le_of_ble_eq_true rfl, Nat.le_of_ble_eq_true rfl⟩) ⟨kx_blind _ _ _ _, va_recv (q0 := 0) F.1.1 w.1 kc_Queue.1 rfl, kx_pre F w [0, 1, 2] rfl rfl⟩ rfl rfl hl.1 rfl (lv_room (Nat.le_of_ble_eq_true rfl)) d_Queue_cycleAt_2 ⟨Nat.le_of_ble_eq_true rfl, Nat.le_of_ble_eq_true rfl⟩) (fun r2 w2 H locs hp w => ?_)
  subst hp
  have w : kx_W G A s ([(h, .inr (2, [.ref a1, .ref a2, .int u.1])), (a1, .inl (G.2 0, 8, .inl u.2.1)), (a2, .inl (G.2 0, 8, .inl u.2.2))] ++ []) H locs := w
  refine lv_if_eq (tgt := 17) hx hb d_Queue_cycleAt_5 (by decide) (fun c5 => ?_) (fun c5 => ?_)
  · have hF := kx_t c5 hF
    refine lv_iconst (v := (-1 : Int32)) hx hb d_Queue_cycleAt_17 (by decide) ?_
    obtain rfl := Option.some.inj hF
    exact kx_iret hQ S hr hlocks w (xo := [(h, .inr (2, [.ref a1, .ref a2, .int u.1])), (a1, .inl (G.2 0, 8, .inl u.2.1)), (a2, .inl (G.2 0, 8, .inl u.2.2))]) [0, 1, 2] rfl rfl () rfl rfl d_Queue_cycleAt_18
  · have hF := kx_f c5 hF
    refine lv_aload_n hx hb d_Queue_cycleAt_8 rfl (lv_at hl 0 rfl) ?_
    refine kx_get S F w kc_Queue 0 rfl 1 (by decide) kw_e09f5e5fbc rfl d_Queue_cycleAt_9 ?_
    refine lv_iload_n hx hb d_Queue_cycleAt_12 rfl (lv_at hl 1 rfl) ?_
    obtain ⟨hi13, hF⟩ := kx_ar hF
    refine kx_iald S F w 2 rfl hi13 d_Queue_cycleAt_13 ?_
    refine lv_goto (tgt := 18) hx hb d_Queue_cycleAt_14 (by decide) ?_
    obtain rfl := Option.some.inj hF
    exact kx_iret hQ S hr hlocks w (xo := [(h, .inr (2, [.ref a1, .ref a2, .int u.1])), (a1, .inl (G.2 0, 8, .inl u.2.1)), (a2, .inl (G.2 0, 8, .inl u.2.2))]) [0, 1, 2] rfl rfl () rfl rfl d_Queue_cycleAt_18
/-! Queue_firstIsDue -/
def f_Queue_firstIsDue (u : sg_queue) (p0 : Int32) : Option (Int32) := (if u.1 ≤ 0 then some (0 : Int32) else (if ((0 : Int32) < 0 ∨ 8 ≤ (0 : Int32).toNatClampNeg) then none else (if p0 < (u.2.2 (0 : Int32).toNatClampNeg) then some (0 : Int32) else some (1 : Int32))))
def rm_Queue_firstIsDue : Room := { frames := 0, cells := 0, slots := 0, locals := 0 }
set_option maxRecDepth 100000 in
set_option maxHeartbeats 4000000 in
theorem c_Queue_firstIsDue (l : Launch) (G : kx_G) (h : Nat) (a1 : Nat) (a2 : Nat) (u : sg_queue) (p0 : Int32) (v : Int32) (hF : f_Queue_firstIsDue u p0 = some v) : CtI l y_Queue_firstIsDue b_Queue_firstIsDue 2 (some .boolean) rm_Queue_firstIsDue G [.ref h, .int p0] [(h, .inr (2, [.ref a1, .ref a2, .int u.1])), (a1, .inl (G.2 0, 8, .inl u.2.1)), (a2, .inl (G.2 0, 8, .inl u.2.2))] (fun (r : Int32) (_ : Unit) => v = r) (fun _ => [(h, .inr (2, [.ref a1, .ref a2, .int u.1])), (a1, .inl (G.2 0, 8, .inl u.2.1)), (a2, .inl (G.2 0, 8, .inl u.2.2))]) 0 0 := by
  refine CtI.of (by decide) (Nat.le_of_ble_eq_true rfl) [(0, .ref h), (1, .int p0)] rfl ?_
  intro p e s m args below meth c A ls Q hQ S hr hlocks F w hl
  have S : CallFix p m c b_Queue_firstIsDue 2 s args kx_T "PrefetchRules$Queue" := S
  obtain ⟨hx, hb, hml, hown, hts⟩ := id S
  have w : kx_W G A s ([(h, .inr (2, [.ref a1, .ref a2, .int u.1])), (a1, .inl (G.2 0, 8, .inl u.2.1)), (a2, .inl (G.2 0, 8, .inl u.2.2))] ++ []) s.heap [] := w
  unfold f_Queue_firstIsDue at hF
  refine lv_aload_n hx hb d_Queue_firstIsDue_0 rfl (lv_at hl 0 rfl) ?_
  refine kx_get S F w kc_Queue 0 rfl 2 (by decide) kw_680432f967 rfl d_Queue_firstIsDue_1 ?_
  refine lv_if_le (tgt := 21) hx hb d_Queue_firstIsDue_4 (by decide) (fun c4 => ?_) (fun c4 => ?_)
  · have hF := kx_t c4 hF
    refine lv_iconst (v := (0 : Int32)) hx hb d_Queue_firstIsDue_21 (by decide) ?_
    obtain rfl := Option.some.inj hF
    exact kx_zret hQ S hr hlocks (by decide) w (xo := [(h, .inr (2, [.ref a1, .ref a2, .int u.1])), (a1, .inl (G.2 0, 8, .inl u.2.1)), (a2, .inl (G.2 0, 8, .inl u.2.2))]) [0, 1, 2] rfl rfl () rfl rfl d_Queue_firstIsDue_22
  · have hF := kx_f c4 hF
    refine lv_aload_n hx hb d_Queue_firstIsDue_7 rfl (lv_at hl 0 rfl) ?_
    refine kx_get S F w kc_Queue 0 rfl 1 (by decide) kw_e09f5e5fbc rfl d_Queue_firstIsDue_8 ?_
    refine lv_iconst (v := (0 : Int32)) hx hb d_Queue_firstIsDue_11 (by decide) ?_
    obtain ⟨hi12, hF⟩ := kx_ar hF
    refine kx_iald S F w 2 rfl hi12 d_Queue_firstIsDue_12 ?_
    refine lv_iload_n hx hb d_Queue_firstIsDue_13 rfl (lv_at hl 1 rfl) ?_
    refine lv_icmp_gt (tgt := 21) hx hb d_Queue_firstIsDue_14 (by decide) (fun c14 => ?_) (fun c14 => ?_)
    · have hF := kx_t c14 hF
      refine lv_iconst (v := (0 : Int32)) hx hb d_Queue_firstIsDue_21 (by decide) ?_
      obtain rfl := Option.some.inj hF
      exact kx_zret hQ S hr hlocks (by decide) w (xo := [(h, .inr (2, [.ref a1, .ref a2, .int u.1])), (a1, .inl (G.2 0, 8, .inl u.2.1)), (a2, .inl (G.2 0, 8, .inl u.2.2))]) [0, 1, 2] rfl rfl () rfl rfl d_Queue_firstIsDue_22
    · have hF := kx_f c14 hF
      refine lv_iconst (v := (1 : Int32)) hx hb d_Queue_firstIsDue_17 (by decide) ?_
      refine lv_goto (tgt := 22) hx hb d_Queue_firstIsDue_18 (by decide) ?_
      obtain rfl := Option.some.inj hF
      exact kx_zret hQ S hr hlocks (by decide) w (xo := [(h, .inr (2, [.ref a1, .ref a2, .int u.1])), (a1, .inl (G.2 0, 8, .inl u.2.1)), (a2, .inl (G.2 0, 8, .inl u.2.2))]) [0, 1, 2] rfl rfl () rfl rfl d_Queue_firstIsDue_22
/-! Queue_find -/
def f_Queue_find (u : sg_queue) (p0 : Int32) : Option (Int32) := (f_Main_indexOf 8 u.2.1 p0 u.1).bind (fun q9 => some q9)
def rm_Queue_find : Room := { frames := 1, cells := 0, slots := 0, locals := 23 }
set_option maxRecDepth 100000 in
set_option maxHeartbeats 4000000 in
theorem c_Queue_find (l : Launch) (G : kx_G) (h : Nat) (a1 : Nat) (a2 : Nat) (u : sg_queue) (p0 : Int32) (v : Int32) (hF : f_Queue_find u p0 = some v) : CtI l y_Queue_find b_Queue_find 2 (some .int) rm_Queue_find G [.ref h, .int p0] [(h, .inr (2, [.ref a1, .ref a2, .int u.1])), (a1, .inl (G.2 0, 8, .inl u.2.1)), (a2, .inl (G.2 0, 8, .inl u.2.2))] (fun (r : Int32) (_ : Unit) => v = r) (fun _ => [(h, .inr (2, [.ref a1, .ref a2, .int u.1])), (a1, .inl (G.2 0, 8, .inl u.2.1)), (a2, .inl (G.2 0, 8, .inl u.2.2))]) 0 0 := by
  refine CtI.of (by decide) (Nat.le_of_ble_eq_true rfl) [(0, .ref h), (1, .int p0)] rfl ?_
  intro p e s m args below meth c A ls Q hQ S hr hlocks F w hl
  have S : CallFix p m c b_Queue_find 2 s args kx_T "PrefetchRules$Queue" := S
  obtain ⟨hx, hb, hml, hown, hts⟩ := id S
  have w : kx_W G A s ([(h, .inr (2, [.ref a1, .ref a2, .int u.1])), (a1, .inl (G.2 0, 8, .inl u.2.1)), (a2, .inl (G.2 0, 8, .inl u.2.2))] ++ []) s.heap [] := w
  unfold f_Queue_find at hF
  refine lv_iload_n hx hb d_Queue_find_0 rfl (lv_at hl 1 rfl) ?_
  refine lv_aload_n hx hb d_Queue_find_1 rfl (lv_at hl 0 rfl) ?_
  refine kx_get S F w kc_Queue 0 rfl 0 (by decide) kw_c9e06f3283 rfl d_Queue_find_2 ?_
  refine lv_aload_n hx hb d_Queue_find_5 rfl (lv_at hl 0 rfl) ?_
  refine kx_get S F w kc_Queue 0 rfl 2 (by decide) kw_680432f967 rfl d_Queue_find_6 ?_
  obtain ⟨q9, hq9, hF⟩ := kx_bd hF
  refine kx_ci (cx := [(a1, .inl (G.2 0, 8, .inl u.2.1))]) (wr := [(h, .inr (2, [.ref a1, .ref a2, .int u.1])), (a2, .inl (G.2 0, 8, .inl u.2.2))]) F w [1] [0, 2] rfl rfl rfl (by decide) (va_runSN (As := [.int p0, .ref a1, .int u.1]) (rest := []) S (c_Main_indexOf l G a1 8 u.2.1 p0 u.1 q9 hq9 _) (kx_cwSN S F ms_Main_indexOf kw_a1c021d217 ⟨rfl, rfl, Nat.le_of_ble_eq_true rfl, Nat.le_of_ble_eq_true rfl⟩) ⟨kx_blind _ _ _ _, kx_pre F w [1] rfl rfl⟩ rfl rfl hl.1 rfl (lv_room (Nat.le_of_ble_eq_true rfl)) d_Queue_find_9 ⟨Nat.le_of_ble_eq_true rfl, Nat.le_of_ble_eq_true rfl⟩) (fun r9 w9 H locs hp w => ?_)
  subst hp
  have w : kx_W G A s ([(h, .inr (2, [.ref a1, .ref a2, .int u.1])), (a2, .inl (G.2 0, 8, .inl u.2.2)), (a1, .inl (G.2 0, 8, .inl u.2.1))] ++ []) H locs := w
  obtain rfl := Option.some.inj hF
  exact kx_iret hQ S hr hlocks w (xo := [(h, .inr (2, [.ref a1, .ref a2, .int u.1])), (a1, .inl (G.2 0, 8, .inl u.2.1)), (a2, .inl (G.2 0, 8, .inl u.2.2))]) [0, 2, 1] rfl rfl () rfl rfl d_Queue_find_12
/-! Queue_add -/
def f_Queue_add (u : sg_queue) (p0 : Int32) (p1 : Int32) : Option (sg_queue) := (if u.1 < 0 then some u else (if (8 : Int32) ≤ u.1 then some u else (if (u.1 < 0 ∨ 8 ≤ u.1.toNatClampNeg) then none else (if (u.1 < 0 ∨ 8 ≤ u.1.toNatClampNeg) then none else some (u.1 + (1 : Int32), upd u.2.1 u.1.toNatClampNeg p0, upd u.2.2 u.1.toNatClampNeg p1)))))
def rm_Queue_add : Room := { frames := 0, cells := 0, slots := 0, locals := 0 }
set_option maxRecDepth 100000 in
set_option maxHeartbeats 4000000 in
theorem c_Queue_add (l : Launch) (G : kx_G) (h : Nat) (a1 : Nat) (a2 : Nat) (u : sg_queue) (p0 : Int32) (p1 : Int32) (v : sg_queue) (hF : f_Queue_add u p0 p1 = some v) : CtV l y_Queue_add b_Queue_add 3 rm_Queue_add G [.ref h, .int p0, .int p1] [(h, .inr (2, [.ref a1, .ref a2, .int u.1])), (a1, .inl (G.2 0, 8, .inl u.2.1)), (a2, .inl (G.2 0, 8, .inl u.2.2))] (fun w : sg_queue => v = w) (fun w => [(h, .inr (2, [.ref a1, .ref a2, .int w.1])), (a1, .inl (G.2 0, 8, .inl w.2.1)), (a2, .inl (G.2 0, 8, .inl w.2.2))]) 0 0 := by
  refine CtV.of (by decide) (Nat.le_of_ble_eq_true rfl) [(0, .ref h), (1, .int p0), (2, .int p1)] rfl ?_
  intro p e s m args below meth c A ls Q hQ S hr hlocks hin F w hl
  have S : CallFix p m c b_Queue_add 3 s args kx_T "PrefetchRules$Queue" := S
  obtain ⟨hx, hb, hml, hown, hts⟩ := id S
  have w : kx_W G A s ([(h, .inr (2, [.ref a1, .ref a2, .int u.1])), (a1, .inl (G.2 0, 8, .inl u.2.1)), (a2, .inl (G.2 0, 8, .inl u.2.2))] ++ []) s.heap [] := w
  unfold f_Queue_add at hF
  refine lv_aload_n hx hb d_Queue_add_0 rfl (lv_at hl 0 rfl) ?_
  refine kx_get S F w kc_Queue 0 rfl 2 (by decide) kw_680432f967 rfl d_Queue_add_1 ?_
  refine lv_if_lt (tgt := 46) hx hb d_Queue_add_4 (by decide) (fun c4 => ?_) (fun c4 => ?_)
  · have hF := kx_t c4 hF
    obtain rfl := Option.some.inj hF
    exact kx_vret hQ S hr hlocks w (xo := [(h, .inr (2, [.ref a1, .ref a2, .int u.1])), (a1, .inl (G.2 0, 8, .inl u.2.1)), (a2, .inl (G.2 0, 8, .inl u.2.2))]) [0, 1, 2] rfl rfl u rfl rfl d_Queue_add_46
  · have hF := kx_f c4 hF
    refine lv_aload_n hx hb d_Queue_add_7 rfl (lv_at hl 0 rfl) ?_
    refine kx_get S F w kc_Queue 0 rfl 2 (by decide) kw_680432f967 rfl d_Queue_add_8 ?_
    refine lv_bipush (v := (8 : Int32)) hx hb d_Queue_add_11 (by decide) ?_
    refine lv_icmp_ge (tgt := 46) hx hb d_Queue_add_13 (by decide) (fun c13 => ?_) (fun c13 => ?_)
    · have hF := kx_t c13 hF
      obtain rfl := Option.some.inj hF
      exact kx_vret hQ S hr hlocks w (xo := [(h, .inr (2, [.ref a1, .ref a2, .int u.1])), (a1, .inl (G.2 0, 8, .inl u.2.1)), (a2, .inl (G.2 0, 8, .inl u.2.2))]) [0, 1, 2] rfl rfl u rfl rfl d_Queue_add_46
    · have hF := kx_f c13 hF
      refine lv_aload_n hx hb d_Queue_add_16 rfl (lv_at hl 0 rfl) ?_
      refine kx_get S F w kc_Queue 0 rfl 0 (by decide) kw_c9e06f3283 rfl d_Queue_add_17 ?_
      refine lv_aload_n hx hb d_Queue_add_20 rfl (lv_at hl 0 rfl) ?_
      refine kx_get S F w kc_Queue 0 rfl 2 (by decide) kw_680432f967 rfl d_Queue_add_21 ?_
      refine lv_iload_n hx hb d_Queue_add_24 rfl (lv_at hl 1 rfl) ?_
      obtain ⟨hi25, hF⟩ := kx_ar hF
      refine kx_iast S F w 1 rfl hi25 d_Queue_add_25 (fun H locs w => ?_)
      have w : kx_W G A s ([(h, .inr (2, [.ref a1, .ref a2, .int u.1])), (a1, .inl (G.2 0, 8, .inl (upd u.2.1 u.1.toNatClampNeg p0))), (a2, .inl (G.2 0, 8, .inl u.2.2))] ++ []) H locs := w
      refine lv_aload_n hx hb d_Queue_add_26 rfl (lv_at hl 0 rfl) ?_
      refine kx_get S F w kc_Queue 0 rfl 1 (by decide) kw_e09f5e5fbc rfl d_Queue_add_27 ?_
      refine lv_aload_n hx hb d_Queue_add_30 rfl (lv_at hl 0 rfl) ?_
      refine kx_get S F w kc_Queue 0 rfl 2 (by decide) kw_680432f967 rfl d_Queue_add_31 ?_
      refine lv_iload_n hx hb d_Queue_add_34 rfl (lv_at hl 2 rfl) ?_
      obtain ⟨hi35, hF⟩ := kx_ar hF
      refine kx_iast S F w 2 rfl hi35 d_Queue_add_35 (fun H locs w => ?_)
      have w : kx_W G A s ([(h, .inr (2, [.ref a1, .ref a2, .int u.1])), (a1, .inl (G.2 0, 8, .inl (upd u.2.1 u.1.toNatClampNeg p0))), (a2, .inl (G.2 0, 8, .inl (upd u.2.2 u.1.toNatClampNeg p1)))] ++ []) H locs := w
      refine lv_aload_n hx hb d_Queue_add_36 rfl (lv_at hl 0 rfl) ?_
      refine lv_dup hx hb d_Queue_add_37 rfl ?_
      refine kx_get S F w kc_Queue 0 rfl 2 (by decide) kw_680432f967 rfl d_Queue_add_38 ?_
      refine lv_iconst (v := (1 : Int32)) hx hb d_Queue_add_41 (by decide) ?_
      refine lv_iadd hx hb d_Queue_add_42 ?_
      refine kx_put S F w kc_Queue 0 rfl 2 (by decide) kw_680432f967 rfl rfl rfl (Nat.le_of_ble_eq_true rfl) d_Queue_add_43 (fun H locs w => ?_)
      have w : kx_W G A s ([(h, .inr (2, [.ref a1, .ref a2, .int (u.1 + (1 : Int32))])), (a1, .inl (G.2 0, 8, .inl (upd u.2.1 u.1.toNatClampNeg p0))), (a2, .inl (G.2 0, 8, .inl (upd u.2.2 u.1.toNatClampNeg p1)))] ++ []) H locs := w
      obtain rfl := Option.some.inj hF
      exact kx_vret hQ S hr hlocks w (xo := [(h, .inr (2, [.ref a1, .ref a2, .int (u.1 + (1 : Int32))])), (a1, .inl (G.2 0, 8, .inl (upd u.2.1 u.1.toNatClampNeg p0))), (a2, .inl (G.2 0, 8, .inl (upd u.2.2 u.1.toNatClampNeg p1)))]) [0, 1, 2] rfl rfl (u.1 + (1 : Int32), upd u.2.1 u.1.toNatClampNeg p0, upd u.2.2 u.1.toNatClampNeg p1) rfl rfl d_Queue_add_46
/-! Queue_remove -/
def lp_Queue_remove_21 : Nat → Int32 → Int32 → sg_queue → Option (sg_queue)
  | 0, _, _, _ => none
  | n21 + 1, x1, x2, u21 => (if u21.1 ≤ x2 then some u21 else (if (8 : Int32) ≤ (x2 + (1 : Int32)) then some u21 else (if ((x2 + (1 : Int32)) < 0 ∨ 8 ≤ (x2 + (1 : Int32)).toNatClampNeg) then none else (if (x2 < 0 ∨ 8 ≤ x2.toNatClampNeg) then none else (if ((x2 + (1 : Int32)) < 0 ∨ 8 ≤ (x2 + (1 : Int32)).toNatClampNeg) then none else (if (x2 < 0 ∨ 8 ≤ x2.toNatClampNeg) then none else lp_Queue_remove_21 n21 x1 (x2 + 1) (u21.1, upd u21.2.1 x2.toNatClampNeg (u21.2.1 (x2 + (1 : Int32)).toNatClampNeg), upd u21.2.2 x2.toNatClampNeg (u21.2.2 (x2 + (1 : Int32)).toNatClampNeg))))))))
def f_Queue_remove (u : sg_queue) (p0 : Int32) : Option (sg_queue) := (f_Queue_has u p0).bind (fun q2 => (if q2 = 0 then some u else lp_Queue_remove_21 1000 p0 p0 (u.1 - (1 : Int32), u.2)))
def rm_Queue_remove : Room := { frames := 1, cells := 0, slots := 0, locals := 21 }
set_option maxRecDepth 100000 in
set_option maxHeartbeats 4000000 in
theorem c_Queue_remove (l : Launch) (G : kx_G) (h : Nat) (a1 : Nat) (a2 : Nat) (u : sg_queue) (p0 : Int32) (v : sg_queue) (hF : f_Queue_remove u p0 = some v) : CtV l y_Queue_remove b_Queue_remove 3 rm_Queue_remove G [.ref h, .int p0] [(h, .inr (2, [.ref a1, .ref a2, .int u.1])), (a1, .inl (G.2 0, 8, .inl u.2.1)), (a2, .inl (G.2 0, 8, .inl u.2.2))] (fun w : sg_queue => v = w) (fun w => [(h, .inr (2, [.ref a1, .ref a2, .int w.1])), (a1, .inl (G.2 0, 8, .inl w.2.1)), (a2, .inl (G.2 0, 8, .inl w.2.2))]) 0 0 := by
  refine CtV.of (by decide) (Nat.le_of_ble_eq_true rfl) [(0, .ref h), (1, .int p0)] rfl ?_
  intro p e s m args below meth c A ls Q hQ S hr hlocks hin F w hl
  have S : CallFix p m c b_Queue_remove 3 s args kx_T "PrefetchRules$Queue" := S
  obtain ⟨hx, hb, hml, hown, hts⟩ := id S
  have w : kx_W G A s ([(h, .inr (2, [.ref a1, .ref a2, .int u.1])), (a1, .inl (G.2 0, 8, .inl u.2.1)), (a2, .inl (G.2 0, 8, .inl u.2.2))] ++ []) s.heap [] := w
  unfold f_Queue_remove at hF
  refine lv_aload_n hx hb d_Queue_remove_0 rfl (lv_at hl 0 rfl) ?_
  refine lv_iload_n hx hb d_Queue_remove_1 rfl (lv_at hl 1 rfl) ?_
  obtain ⟨q2, hq2, hF⟩ := kx_bd hF
  refine kx_ci (cx := [(h, .inr (2, [.ref a1, .ref a2, .int u.1])), (a1, .inl (G.2 0, 8, .inl u.2.1)), (a2, .inl (G.2 0, 8, .inl u.2.2))]) (wr := []) F w [0, 1, 2] [] rfl rfl rfl (by decide) (va_runV (As := [.int p0]) (rest := []) S (c_Queue_has l G h a1 a2 u p0 q2 hq2 _) (kx_cwV S mv_Queue_has kw_79672ef02c ⟨rfl, rfl, Nat.le_of_ble_eq_true rfl, Nat.le_of_ble_eq_true rfl⟩) ⟨kx_blind _ _ _ _, va_recv (q0 := 0) F.1.1 w.1 kc_Queue.1 rfl, kx_pre F w [0, 1, 2] rfl rfl⟩ rfl rfl hl.1 rfl (lv_room (Nat.le_of_ble_eq_true rfl)) d_Queue_remove_2 ⟨Nat.le_of_ble_eq_true rfl, Nat.le_of_ble_eq_true rfl⟩) (fun r2 w2 H locs hp w => ?_)
  subst hp
  have w : kx_W G A s ([(h, .inr (2, [.ref a1, .ref a2, .int u.1])), (a1, .inl (G.2 0, 8, .inl u.2.1)), (a2, .inl (G.2 0, 8, .inl u.2.2))] ++ []) H locs := w
  refine lv_if_ne (tgt := 9) hx hb d_Queue_remove_5 (by decide) (fun c5 => ?_) (fun c5 => ?_)
  · have hF := kx_f c5 hF
    refine lv_aload_n hx hb d_Queue_remove_9 rfl (lv_at hl 0 rfl) ?_
    refine lv_dup hx hb d_Queue_remove_10 rfl ?_
    refine kx_get S F w kc_Queue 0 rfl 2 (by decide) kw_680432f967 rfl d_Queue_remove_11 ?_
    refine lv_iconst (v := (1 : Int32)) hx hb d_Queue_remove_14 (by decide) ?_
    refine lv_isub hx hb d_Queue_remove_15 ?_
    refine kx_put S F w kc_Queue 0 rfl 2 (by decide) kw_680432f967 rfl rfl rfl (Nat.le_of_ble_eq_true rfl) d_Queue_remove_16 (fun H locs w => ?_)
    have w : kx_W G A s ([(h, .inr (2, [.ref a1, .ref a2, .int (u.1 - (1 : Int32))])), (a1, .inl (G.2 0, 8, .inl u.2.1)), (a2, .inl (G.2 0, 8, .inl u.2.2))] ++ []) H locs := w
    refine lv_iload_n hx hb d_Queue_remove_19 rfl (lv_at hl 1 rfl) ?_
    refine lv_istore_n (lv' := [(2, .int p0), (0, .ref h), (1, .int p0)]) hx hb d_Queue_remove_20 rfl hl (by decide) rfl (fun ls hl => ?_)
    have L21 : ∀ (n21 : Nat) (x1 : Int32) (x2 : Int32) (u21 : sg_queue), lp_Queue_remove_21 n21 x1 x2 u21 = some v → ∀ (H : Heap) (locs : List Loc) (ls : Array Slot), kx_W G A s ([(h, .inr (2, [.ref a1, .ref a2, .int u21.1])), (a1, .inl (G.2 0, 8, .inl u21.2.1)), (a2, .inl (G.2 0, 8, .inl u21.2.2))] ++ []) H locs → lv_has ls 3 [(0, .ref h), (1, .int x1), (2, .int x2)] → W p l e rm_Queue_remove s m args below meth c H locs 0 0 Q (F0 m 21 ls []) := by
      intro n21
      induction n21 with
      | zero =>
        intro x1 x2 u21 hF
        rw [lp_Queue_remove_21] at hF
        cases hF
      | succ n21 ih21 =>
        intro x1 x2 u21 hF H locs ls w hl
        rw [lp_Queue_remove_21] at hF
        refine lv_iload_n hx hb d_Queue_remove_21 rfl (lv_at hl 2 rfl) ?_
        refine lv_aload_n hx hb d_Queue_remove_22 rfl (lv_at hl 0 rfl) ?_
        refine kx_get S F w kc_Queue 0 rfl 2 (by decide) kw_680432f967 rfl d_Queue_remove_23 ?_
        refine lv_icmp_ge (tgt := 71) hx hb d_Queue_remove_26 (by decide) (fun c26 => ?_) (fun c26 => ?_)
        · have hF := kx_t c26 hF
          obtain rfl := Option.some.inj hF
          exact kx_vret hQ S hr hlocks w (xo := [(h, .inr (2, [.ref a1, .ref a2, .int u21.1])), (a1, .inl (G.2 0, 8, .inl u21.2.1)), (a2, .inl (G.2 0, 8, .inl u21.2.2))]) [0, 1, 2] rfl rfl u21 rfl rfl d_Queue_remove_71
        · have hF := kx_f c26 hF
          refine lv_iload_n hx hb d_Queue_remove_29 rfl (lv_at hl 2 rfl) ?_
          refine lv_iconst (v := (1 : Int32)) hx hb d_Queue_remove_30 (by decide) ?_
          refine lv_iadd hx hb d_Queue_remove_31 ?_
          refine lv_bipush (v := (8 : Int32)) hx hb d_Queue_remove_32 (by decide) ?_
          refine lv_icmp_ge (tgt := 71) hx hb d_Queue_remove_34 (by decide) (fun c34 => ?_) (fun c34 => ?_)
          · have hF := kx_t c34 hF
            obtain rfl := Option.some.inj hF
            exact kx_vret hQ S hr hlocks w (xo := [(h, .inr (2, [.ref a1, .ref a2, .int u21.1])), (a1, .inl (G.2 0, 8, .inl u21.2.1)), (a2, .inl (G.2 0, 8, .inl u21.2.2))]) [0, 1, 2] rfl rfl u21 rfl rfl d_Queue_remove_71
          · have hF := kx_f c34 hF
            refine lv_aload_n hx hb d_Queue_remove_37 rfl (lv_at hl 0 rfl) ?_
            refine kx_get S F w kc_Queue 0 rfl 0 (by decide) kw_c9e06f3283 rfl d_Queue_remove_38 ?_
            refine lv_iload_n hx hb d_Queue_remove_41 rfl (lv_at hl 2 rfl) ?_
            refine lv_aload_n hx hb d_Queue_remove_42 rfl (lv_at hl 0 rfl) ?_
            refine kx_get S F w kc_Queue 0 rfl 0 (by decide) kw_c9e06f3283 rfl d_Queue_remove_43 ?_
            refine lv_iload_n hx hb d_Queue_remove_46 rfl (lv_at hl 2 rfl) ?_
            refine lv_iconst (v := (1 : Int32)) hx hb d_Queue_remove_47 (by decide) ?_
            refine lv_iadd hx hb d_Queue_remove_48 ?_
            obtain ⟨hi49, hF⟩ := kx_ar hF
            refine kx_iald S F w 1 rfl hi49 d_Queue_remove_49 ?_
            obtain ⟨hi50, hF⟩ := kx_ar hF
            refine kx_iast S F w 1 rfl hi50 d_Queue_remove_50 (fun H locs w => ?_)
            have w : kx_W G A s ([(h, .inr (2, [.ref a1, .ref a2, .int u21.1])), (a1, .inl (G.2 0, 8, .inl (upd u21.2.1 x2.toNatClampNeg (u21.2.1 (x2 + (1 : Int32)).toNatClampNeg)))), (a2, .inl (G.2 0, 8, .inl u21.2.2))] ++ []) H locs := w
            refine lv_aload_n hx hb d_Queue_remove_51 rfl (lv_at hl 0 rfl) ?_
            refine kx_get S F w kc_Queue 0 rfl 1 (by decide) kw_e09f5e5fbc rfl d_Queue_remove_52 ?_
            refine lv_iload_n hx hb d_Queue_remove_55 rfl (lv_at hl 2 rfl) ?_
            refine lv_aload_n hx hb d_Queue_remove_56 rfl (lv_at hl 0 rfl) ?_
            refine kx_get S F w kc_Queue 0 rfl 1 (by decide) kw_e09f5e5fbc rfl d_Queue_remove_57 ?_
            refine lv_iload_n hx hb d_Queue_remove_60 rfl (lv_at hl 2 rfl) ?_
            refine lv_iconst (v := (1 : Int32)) hx hb d_Queue_remove_61 (by decide) ?_
            refine lv_iadd hx hb d_Queue_remove_62 ?_
            obtain ⟨hi63, hF⟩ := kx_ar hF
            refine kx_iald S F w 2 rfl hi63 d_Queue_remove_63 ?_
            obtain ⟨hi64, hF⟩ := kx_ar hF
            refine kx_iast S F w 2 rfl hi64 d_Queue_remove_64 (fun H locs w => ?_)
            have w : kx_W G A s ([(h, .inr (2, [.ref a1, .ref a2, .int u21.1])), (a1, .inl (G.2 0, 8, .inl (upd u21.2.1 x2.toNatClampNeg (u21.2.1 (x2 + (1 : Int32)).toNatClampNeg)))), (a2, .inl (G.2 0, 8, .inl (upd u21.2.2 x2.toNatClampNeg (u21.2.2 (x2 + (1 : Int32)).toNatClampNeg))))] ++ []) H locs := w
            refine lv_iinc (v := x2 + 1) (lv' := [(2, .int (x2 + 1)), (0, .ref h), (1, .int x1)]) hx hb d_Queue_remove_65 hl (k := 2) rfl (by rfl) (by decide) rfl (fun ls hl => ?_)
            refine lv_goto (tgt := 21) hx hb d_Queue_remove_68 (by decide) ?_
            exact ih21 x1 (x2 + 1) (u21.1, upd u21.2.1 x2.toNatClampNeg (u21.2.1 (x2 + (1 : Int32)).toNatClampNeg), upd u21.2.2 x2.toNatClampNeg (u21.2.2 (x2 + (1 : Int32)).toNatClampNeg)) hF H locs ls (w.perm [0, 1, 2] rfl rfl) (lv_sub hl [1, 2, 0] rfl)
    exact L21 1000 p0 p0 (u.1 - (1 : Int32), u.2) hF H locs ls (w.perm [0, 1, 2] rfl rfl) (lv_sub hl [1, 2, 0] rfl)
  · have hF := kx_t c5 hF
    obtain rfl := Option.some.inj hF
    exact kx_vret hQ S hr hlocks w (xo := [(h, .inr (2, [.ref a1, .ref a2, .int u.1])), (a1, .inl (G.2 0, 8, .inl u.2.1)), (a2, .inl (G.2 0, 8, .inl u.2.2))]) [0, 1, 2] rfl rfl u rfl rfl d_Queue_remove_8
/-! Queue_clear -/
def f_Queue_clear (u : sg_queue) : Option (sg_queue) := some ((0 : Int32), u.2)
def rm_Queue_clear : Room := { frames := 0, cells := 0, slots := 0, locals := 0 }
set_option maxRecDepth 100000 in
set_option maxHeartbeats 4000000 in
theorem c_Queue_clear (l : Launch) (G : kx_G) (h : Nat) (a1 : Nat) (a2 : Nat) (u : sg_queue) (v : sg_queue) (hF : f_Queue_clear u = some v) : CtV l y_Queue_clear b_Queue_clear 1 rm_Queue_clear G [.ref h] [(h, .inr (2, [.ref a1, .ref a2, .int u.1])), (a1, .inl (G.2 0, 8, .inl u.2.1)), (a2, .inl (G.2 0, 8, .inl u.2.2))] (fun w : sg_queue => v = w) (fun w => [(h, .inr (2, [.ref a1, .ref a2, .int w.1])), (a1, .inl (G.2 0, 8, .inl w.2.1)), (a2, .inl (G.2 0, 8, .inl w.2.2))]) 0 0 := by
  refine CtV.of (by decide) (Nat.le_of_ble_eq_true rfl) [(0, .ref h)] rfl ?_
  intro p e s m args below meth c A ls Q hQ S hr hlocks hin F w hl
  have S : CallFix p m c b_Queue_clear 1 s args kx_T "PrefetchRules$Queue" := S
  obtain ⟨hx, hb, hml, hown, hts⟩ := id S
  have w : kx_W G A s ([(h, .inr (2, [.ref a1, .ref a2, .int u.1])), (a1, .inl (G.2 0, 8, .inl u.2.1)), (a2, .inl (G.2 0, 8, .inl u.2.2))] ++ []) s.heap [] := w
  unfold f_Queue_clear at hF
  refine lv_aload_n hx hb d_Queue_clear_0 rfl (lv_at hl 0 rfl) ?_
  refine lv_iconst (v := (0 : Int32)) hx hb d_Queue_clear_1 (by decide) ?_
  refine kx_put S F w kc_Queue 0 rfl 2 (by decide) kw_680432f967 rfl rfl rfl (Nat.le_of_ble_eq_true rfl) d_Queue_clear_2 (fun H locs w => ?_)
  have w : kx_W G A s ([(h, .inr (2, [.ref a1, .ref a2, .int (0 : Int32)])), (a1, .inl (G.2 0, 8, .inl u.2.1)), (a2, .inl (G.2 0, 8, .inl u.2.2))] ++ []) H locs := w
  obtain rfl := Option.some.inj hF
  exact kx_vret hQ S hr hlocks w (xo := [(h, .inr (2, [.ref a1, .ref a2, .int (0 : Int32)])), (a1, .inl (G.2 0, 8, .inl u.2.1)), (a2, .inl (G.2 0, 8, .inl u.2.2))]) [0, 1, 2] rfl rfl ((0 : Int32), u.2) rfl rfl d_Queue_clear_5
/-! Store_init -/
def rm_Store_init : Room := { frames := 1, cells := 2, slots := 128, locals := 21 }
set_option maxRecDepth 100000 in
set_option maxHeartbeats 4000000 in
theorem c_Store_init (l : Launch) (G : kx_G) (h : Nat) (N : Nat) (p0 : Int32) (hn : ¬ (if (1 : Int32) < p0 then p0 else (1 : Int32)) < 0) (hN : (if (1 : Int32) < p0 then p0 else (1 : Int32)).toNatClampNeg = N) (h64 : N ≤ 64) : CtV l y_Store_init b_Store_init 3 rm_Store_init G [.ref h, .int p0] [(h, .inr (1, [.null, .null, .int 0]))] (fun (_ : Nat × Nat) => True) (fun w => [(h, .inr (1, [.ref w.1, .ref w.2, .int 0])), (w.1, .inl (G.2 0, N, .inl (fun _ => 0))), (w.2, .inl (G.2 1, N, .inl (fun _ => 0)))]) 2 128 := by
  refine CtV.of (by decide) (Nat.le_of_ble_eq_true rfl) [(0, .ref h), (1, .int p0)] rfl ?_
  intro p e s m args below meth c A ls Q hQ S hr hlocks hin F w hl
  have S : CallFix p m c b_Store_init 3 s args kx_T "PrefetchRules$Store" := S
  obtain ⟨hx, hb, hml, hown, hts⟩ := id S
  have w : kx_W G A s ([(h, .inr (1, [.null, .null, .int 0]))] ++ []) s.heap [] := w
  refine lv_aload_n hx hb d_Store_init_0 rfl (lv_at hl 0 rfl) ?_
  refine kx_obj S kw_7e208d66fb kw_6c8d69b229 kw_dced44411a hl.1 d_Store_init_1 (Nat.le_of_ble_eq_true rfl) (Nat.le_of_ble_eq_true rfl) ?_
  refine lv_iconst (v := (1 : Int32)) hx hb d_Store_init_4 (by decide) ?_
  refine lv_iload_n hx hb d_Store_init_5 rfl (lv_at hl 1 rfl) ?_
  refine va_mmax hx hb (by rw [hml]; exact hl.1.symm) hown (hts _ kw_3b6566fe77) (hts _ kw_2b433c7848) (hts _ kw_ae09fe6d2e) (hts _ kw_da94741060) (Nat.le_of_ble_eq_true rfl) (Nat.le_of_ble_eq_true rfl) (Nat.zero_le _) (Nat.zero_le _) d_Store_init_6 ?_
  refine lv_istore_n (lv' := [(2, .int (if (1 : Int32) < p0 then p0 else (1 : Int32))), (0, .ref h), (1, .int p0)]) hx hb d_Store_init_9 rfl hl (by decide) rfl (fun ls hl => ?_)
  refine lv_aload_n hx hb d_Store_init_10 rfl (lv_at hl 1 rfl) ?_
  refine lv_iload_n hx hb d_Store_init_11 rfl (lv_at hl 0 rfl) ?_
  refine kx_newi S F w kw_32e41f54b3 (N' := N) hn hN (by omega) (Nat.le_of_ble_eq_true rfl) (by show _ ≤ 128; omega) d_Store_init_12 (fun b12 H w => ?_)
  have w : kx_W G A s ([(h, .inr (1, [.null, .null, .int 0])), (b12, .inl (G.2 0, N, .inl (fun _ => 0)))] ++ []) H [] := w
  refine kx_putF S F w kc_Store 0 rfl 0 (by decide) kw_1b54281d93 rfl hin rfl rfl rfl (Nat.le_of_ble_eq_true rfl) d_Store_init_14 (fun H locs w => ?_)
  have w : kx_W G A s ([(h, .inr (1, [.ref b12, .null, .int 0])), (b12, .inl (G.2 0, N, .inl (fun _ => 0)))] ++ []) H locs := w
  refine lv_aload_n hx hb d_Store_init_17 rfl (lv_at hl 1 rfl) ?_
  refine lv_iload_n hx hb d_Store_init_18 rfl (lv_at hl 0 rfl) ?_
  refine kx_newz S F w kw_3c893b368c (N' := N) hn hN (by omega) (Nat.le_of_ble_eq_true rfl) (by show _ ≤ 128; omega) d_Store_init_19 (fun b19 H w => ?_)
  have w : kx_W G A s ([(h, .inr (1, [.ref b12, .null, .int 0])), (b12, .inl (G.2 0, N, .inl (fun _ => 0))), (b19, .inl (G.2 1, N, .inl (fun _ => 0)))] ++ []) H locs := w
  refine kx_putF S F w kc_Store 0 rfl 1 (by decide) kw_b2824bc22d rfl hin rfl rfl rfl (Nat.le_of_ble_eq_true rfl) d_Store_init_21 (fun H locs w => ?_)
  have w : kx_W G A s ([(h, .inr (1, [.ref b12, .ref b19, .int 0])), (b12, .inl (G.2 0, N, .inl (fun _ => 0))), (b19, .inl (G.2 1, N, .inl (fun _ => 0)))] ++ []) H locs := w
  refine W.widen (k := 2) (n := 128) (Nat.le_of_ble_eq_true rfl) (by omega) ?_
  exact kx_vret hQ S hr hlocks w (xo := [(h, .inr (1, [.ref b12, .ref b19, .int 0])), (b12, .inl (G.2 0, N, .inl (fun _ => 0))), (b19, .inl (G.2 1, N, .inl (fun _ => 0)))]) [0, 1, 2] rfl rfl (b12, b19) rfl trivial d_Store_init_24
/-! Queue_init -/
def rm_Queue_init : Room := { frames := 1, cells := 2, slots := 16, locals := 20 }
set_option maxRecDepth 100000 in
set_option maxHeartbeats 4000000 in
theorem c_Queue_init (l : Launch) (G : kx_G) (h : Nat) : CtV l y_Queue_init b_Queue_init 1 rm_Queue_init G [.ref h] [(h, .inr (2, [.null, .null, .int 0]))] (fun (_ : Nat × Nat) => True) (fun w => [(h, .inr (2, [.ref w.1, .ref w.2, .int 0])), (w.1, .inl (G.2 0, 8, .inl (fun _ => 0))), (w.2, .inl (G.2 0, 8, .inl (fun _ => 0)))]) 2 16 := by
  refine CtV.of (by decide) (Nat.le_of_ble_eq_true rfl) [(0, .ref h)] rfl ?_
  intro p e s m args below meth c A ls Q hQ S hr hlocks hin F w hl
  have S : CallFix p m c b_Queue_init 1 s args kx_T "PrefetchRules$Queue" := S
  obtain ⟨hx, hb, hml, hown, hts⟩ := id S
  have w : kx_W G A s ([(h, .inr (2, [.null, .null, .int 0]))] ++ []) s.heap [] := w
  refine lv_aload_n hx hb d_Queue_init_0 rfl (lv_at hl 0 rfl) ?_
  refine kx_obj S kw_5877fee5b0 kw_6c8d69b229 kw_dced44411a hl.1 d_Queue_init_1 (Nat.le_of_ble_eq_true rfl) (Nat.le_of_ble_eq_true rfl) ?_
  refine lv_aload_n hx hb d_Queue_init_4 rfl (lv_at hl 0 rfl) ?_
  refine lv_bipush (v := (8 : Int32)) hx hb d_Queue_init_5 (by decide) ?_
  refine kx_newi S F w kw_32e41f54b3 (N' := 8) (by decide) (by decide) (by decide) (Nat.le_of_ble_eq_true rfl) (Nat.le_of_ble_eq_true rfl) d_Queue_init_7 (fun b7 H w => ?_)
  have w : kx_W G A s ([(h, .inr (2, [.null, .null, .int 0])), (b7, .inl (G.2 0, 8, .inl (fun _ => 0)))] ++ []) H [] := w
  refine kx_putF S F w kc_Queue 0 rfl 0 (by decide) kw_c9e06f3283 rfl hin rfl rfl rfl (Nat.le_of_ble_eq_true rfl) d_Queue_init_9 (fun H locs w => ?_)
  have w : kx_W G A s ([(h, .inr (2, [.ref b7, .null, .int 0])), (b7, .inl (G.2 0, 8, .inl (fun _ => 0)))] ++ []) H locs := w
  refine lv_aload_n hx hb d_Queue_init_12 rfl (lv_at hl 0 rfl) ?_
  refine lv_bipush (v := (8 : Int32)) hx hb d_Queue_init_13 (by decide) ?_
  refine kx_newi S F w kw_32e41f54b3 (N' := 8) (by decide) (by decide) (by decide) (Nat.le_of_ble_eq_true rfl) (Nat.le_of_ble_eq_true rfl) d_Queue_init_15 (fun b15 H w => ?_)
  have w : kx_W G A s ([(h, .inr (2, [.ref b7, .null, .int 0])), (b7, .inl (G.2 0, 8, .inl (fun _ => 0))), (b15, .inl (G.2 0, 8, .inl (fun _ => 0)))] ++ []) H locs := w
  refine kx_putF S F w kc_Queue 0 rfl 1 (by decide) kw_e09f5e5fbc rfl hin rfl rfl rfl (Nat.le_of_ble_eq_true rfl) d_Queue_init_17 (fun H locs w => ?_)
  have w : kx_W G A s ([(h, .inr (2, [.ref b7, .ref b15, .int 0])), (b7, .inl (G.2 0, 8, .inl (fun _ => 0))), (b15, .inl (G.2 0, 8, .inl (fun _ => 0)))] ++ []) H locs := w
  refine W.widen (k := 2) (n := 16) (Nat.le_of_ble_eq_true rfl) (Nat.le_of_ble_eq_true rfl) ?_
  exact kx_vret hQ S hr hlocks w (xo := [(h, .inr (2, [.ref b7, .ref b15, .int 0])), (b7, .inl (G.2 0, 8, .inl (fun _ => 0))), (b15, .inl (G.2 0, 8, .inl (fun _ => 0)))]) [0, 1, 2] rfl rfl (b7, b15) rfl trivial d_Queue_init_20
