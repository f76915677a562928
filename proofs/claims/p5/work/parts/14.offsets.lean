/-! Offsets_isRecent -/
def f_Offsets_isRecent (d : Int32) (u : sg_offsets) (p0 : Int32) : Option (Int32) := (f_Main_indexOf 32 u.2.2.1 p0 (if u.2.2.2.1 < (32 : Int32) then u.2.2.2.1 else (32 : Int32))).bind (fun q14 => (if q14 = (-1 : Int32) then some (0 : Int32) else some (1 : Int32)))
def rm_Offsets_isRecent : Room := { frames := 1, cells := 0, slots := 0, locals := 23 }
set_option maxRecDepth 100000 in
set_option maxHeartbeats 4000000 in
theorem c_Offsets_isRecent (l : Launch) (G : kx_G) (h : Nat) (sa : Nat) (d : Int32) (a_re : Nat) (a_sc_ : Nat) (u : sg_offsets) (p0 : Int32) (v : Int32) (hF : f_Offsets_isRecent d u p0 = some v) : CtI l y_Offsets_isRecent b_Offsets_isRecent 2 (some .boolean) rm_Offsets_isRecent G [.ref h, .int p0] [(h, .inr (6, [.int d, .ref sa, .int u.1, .ref a_re, .int u.2.2.2.1, .ref a_sc_, .int u.2.2.2.2.2.1, .int u.2.2.2.2.2.2.1, .int u.2.2.2.2.2.2.2])), (sa, .inl (G.2 0, 4, .inl u.2.1)), (a_re, .inl (G.2 0, 32, .inl u.2.2.1)), (a_sc_, .inl (G.2 0, 12, .inl u.2.2.2.2.1))] (fun (r : Int32) (_ : Unit) => v = r) (fun _ => [(h, .inr (6, [.int d, .ref sa, .int u.1, .ref a_re, .int u.2.2.2.1, .ref a_sc_, .int u.2.2.2.2.2.1, .int u.2.2.2.2.2.2.1, .int u.2.2.2.2.2.2.2])), (sa, .inl (G.2 0, 4, .inl u.2.1)), (a_re, .inl (G.2 0, 32, .inl u.2.2.1)), (a_sc_, .inl (G.2 0, 12, .inl u.2.2.2.2.1))]) 0 0 := by
  refine CtI.of (by decide) (Nat.le_of_ble_eq_true rfl) [(0, .ref h), (1, .int p0)] rfl ?_
  intro p e s m args below meth c A ls Q hQ S hr hlocks F w hl
  have S : CallFix p m c b_Offsets_isRecent 2 s args kx_T "PrefetchRules$Offsets" := S
  obtain ⟨hx, hb, hml, hown, hts⟩ := id S
  have w : kx_W G A s ([(h, .inr (6, [.int d, .ref sa, .int u.1, .ref a_re, .int u.2.2.2.1, .ref a_sc_, .int u.2.2.2.2.2.1, .int u.2.2.2.2.2.2.1, .int u.2.2.2.2.2.2.2])), (sa, .inl (G.2 0, 4, .inl u.2.1)), (a_re, .inl (G.2 0, 32, .inl u.2.2.1)), (a_sc_, .inl (G.2 0, 12, .inl u.2.2.2.2.1))] ++ []) s.heap [] := w
  unfold f_Offsets_isRecent at hF
  refine lv_iload_n hx hb d_Offsets_isRecent_0 rfl (lv_at hl 1 rfl) ?_
  refine lv_aload_n hx hb d_Offsets_isRecent_1 rfl (lv_at hl 0 rfl) ?_
  refine kx_get S F w kc_Offsets 0 rfl 3 (by decide) kw_9b8d86ec1b rfl d_Offsets_isRecent_2 ?_
  refine lv_bipush (v := (32 : Int32)) hx hb d_Offsets_isRecent_5 (by decide) ?_
  refine lv_aload_n hx hb d_Offsets_isRecent_7 rfl (lv_at hl 0 rfl) ?_
  refine kx_get S F w kc_Offsets 0 rfl 4 (by decide) kw_0d61a6baf2 rfl d_Offsets_isRecent_8 ?_
  refine va_mmin hx hb (by rw [hml]; exact hl.1.symm) hown (hts _ kw_34e6d61c4c) (hts _ kw_86f19dd951) (hts _ kw_ae09fe6d2e) (hts _ kw_45c1916403) (Nat.le_of_ble_eq_true rfl) (Nat.le_of_ble_eq_true rfl) (Nat.zero_le _) (Nat.zero_le _) d_Offsets_isRecent_11 ?_
  obtain ⟨q14, hq14, hF⟩ := kx_bd hF
  refine kx_ci (cx := [(a_re, .inl (G.2 0, 32, .inl u.2.2.1))]) (wr := [(h, .inr (6, [.int d, .ref sa, .int u.1, .ref a_re, .int u.2.2.2.1, .ref a_sc_, .int u.2.2.2.2.2.1, .int u.2.2.2.2.2.2.1, .int u.2.2.2.2.2.2.2])), (sa, .inl (G.2 0, 4, .inl u.2.1)), (a_sc_, .inl (G.2 0, 12, .inl u.2.2.2.2.1))]) F w [2] [0, 1, 3] rfl rfl rfl (by decide) (va_runSN (As := [.int p0, .ref a_re, .int (if u.2.2.2.1 < (32 : Int32) then u.2.2.2.1 else (32 : Int32))]) (rest := []) S (c_Main_indexOf l G a_re 32 u.2.2.1 p0 (if u.2.2.2.1 < (32 : Int32) then u.2.2.2.1 else (32 : Int32)) q14 hq14 _) (kx_cwSN S F ms_Main_indexOf kw_b619f094de ⟨rfl, rfl, Nat.le_of_ble_eq_true rfl, Nat.le_of_ble_eq_true rfl⟩) ⟨kx_blind _ _ _ _, kx_pre F w [2] rfl rfl⟩ rfl rfl hl.1 rfl (lv_room (Nat.le_of_ble_eq_true rfl)) d_Offsets_isRecent_14 ⟨Nat.le_of_ble_eq_true rfl, Nat.le_of_ble_eq_true rfl⟩) (fun r14 w14 H locs hp w => ?_)
  subst hp
  have w : kx_W G A s ([(h, .inr (6, [.int d, .ref sa, .int u.1, .ref a_re, .int u.2.2.2.1, .ref a_sc_, .int u.2.2.2.2.2.1, .int u.2.2.2.2.2.2.1, .int u.2.2.2.2.2.2.2])), (sa, .inl (G.2 0, 4, .inl u.2.1)), (a_sc_, .inl (G.2 0, 12, .inl u.2.2.2.2.1)), (a_re, .inl (G.2 0, 32, .inl u.2.2.1))] ++ []) H locs := w
  refine lv_iconst (v := (-1 : Int32)) hx hb d_Offsets_isRecent_17 (by decide) ?_
  refine lv_icmp_eq (tgt := 25) hx hb d_Offsets_isRecent_18 (by decide) (fun c18 => ?_) (fun c18 => ?_)
  · have hF := kx_t c18 hF
    refine lv_iconst (v := (0 : Int32)) hx hb d_Offsets_isRecent_25 (by decide) ?_
    obtain rfl := Option.some.inj hF
    exact kx_zret hQ S hr hlocks (by decide) w (xo := [(h, .inr (6, [.int d, .ref sa, .int u.1, .ref a_re, .int u.2.2.2.1, .ref a_sc_, .int u.2.2.2.2.2.1, .int u.2.2.2.2.2.2.1, .int u.2.2.2.2.2.2.2])), (sa, .inl (G.2 0, 4, .inl u.2.1)), (a_re, .inl (G.2 0, 32, .inl u.2.2.1)), (a_sc_, .inl (G.2 0, 12, .inl u.2.2.2.2.1))]) [0, 1, 3, 2] rfl rfl () rfl rfl d_Offsets_isRecent_26
  · have hF := kx_f c18 hF
    refine lv_iconst (v := (1 : Int32)) hx hb d_Offsets_isRecent_21 (by decide) ?_
    refine lv_goto (tgt := 26) hx hb d_Offsets_isRecent_22 (by decide) ?_
    obtain rfl := Option.some.inj hF
    exact kx_zret hQ S hr hlocks (by decide) w (xo := [(h, .inr (6, [.int d, .ref sa, .int u.1, .ref a_re, .int u.2.2.2.1, .ref a_sc_, .int u.2.2.2.2.2.1, .int u.2.2.2.2.2.2.1, .int u.2.2.2.2.2.2.2])), (sa, .inl (G.2 0, 4, .inl u.2.1)), (a_re, .inl (G.2 0, 32, .inl u.2.2.1)), (a_sc_, .inl (G.2 0, 12, .inl u.2.2.2.2.1))]) [0, 1, 3, 2] rfl rfl () rfl rfl d_Offsets_isRecent_26
/-! Offsets_endRound -/
def lp_Offsets_endRound_58 (d : Int32) : Nat → Int32 → Int32 → sg_offsets → Option (sg_offsets)
  | 0, _, _, _ => none
  | n58 + 1, x1, x2, u58 => (if (12 : Int32) ≤ x2 then some (u58.1, u58.2.1, u58.2.2.1, u58.2.2.2.1, u58.2.2.2.2.1, (0 : Int32), u58.2.2.2.2.2.2.1, u58.2.2.2.2.2.2.2 + (1 : Int32)) else (if (x2 < 0 ∨ 12 ≤ x2.toNatClampNeg) then none else lp_Offsets_endRound_58 d n58 x1 (x2 + 1) (u58.1, u58.2.1, u58.2.2.1, u58.2.2.2.1, upd u58.2.2.2.2.1 x2.toNatClampNeg (0 : Int32), u58.2.2.2.2.2)))
def lp_Offsets_endRound_4 (d : Int32) : Nat → Int32 → Int32 → sg_offsets → Option (sg_offsets)
  | 0, _, _, _ => none
  | n4 + 1, x1, x2, u4 => (if (12 : Int32) ≤ x2 then (if (x1 < 0 ∨ 12 ≤ x1.toNatClampNeg) then none else (if (u4.2.2.2.2.1 x1.toNatClampNeg) < (4 : Int32) then lp_Offsets_endRound_58 d 1000 x1 (0 : Int32) (u4.1, u4.2.1, u4.2.2.1, u4.2.2.2.1, u4.2.2.2.2.1, u4.2.2.2.2.2.1, (0 : Int32), u4.2.2.2.2.2.2.2) else (if (x1 < 0 ∨ 12 ≤ x1.toNatClampNeg) then none else lp_Offsets_endRound_58 d 1000 x1 (0 : Int32) (u4.1, u4.2.1, u4.2.2.1, u4.2.2.2.1, u4.2.2.2.2.1, u4.2.2.2.2.2.1, kx_cand x1.toNatClampNeg, u4.2.2.2.2.2.2.2)))) else (if (x2 < 0 ∨ 12 ≤ x2.toNatClampNeg) then none else (if (x1 < 0 ∨ 12 ≤ x1.toNatClampNeg) then none else (if (u4.2.2.2.2.1 x2.toNatClampNeg) ≤ (u4.2.2.2.2.1 x1.toNatClampNeg) then lp_Offsets_endRound_4 d n4 x1 (x2 + 1) u4 else lp_Offsets_endRound_4 d n4 x2 (x2 + 1) u4))))
def f_Offsets_endRound (d : Int32) (u : sg_offsets) : Option (sg_offsets) := lp_Offsets_endRound_4 d 1000 (0 : Int32) (1 : Int32) u
def rm_Offsets_endRound : Room := { frames := 0, cells := 0, slots := 0, locals := 0 }
set_option maxRecDepth 100000 in
set_option maxHeartbeats 4000000 in
theorem c_Offsets_endRound (l : Launch) (G : kx_G) (h : Nat) (sa : Nat) (d : Int32) (a_re : Nat) (a_sc_ : Nat) (u : sg_offsets) (v : sg_offsets) (hF : f_Offsets_endRound d u = some v) : CtV l y_Offsets_endRound b_Offsets_endRound 3 rm_Offsets_endRound G [.ref h] [(h, .inr (6, [.int d, .ref sa, .int u.1, .ref a_re, .int u.2.2.2.1, .ref a_sc_, .int u.2.2.2.2.2.1, .int u.2.2.2.2.2.2.1, .int u.2.2.2.2.2.2.2])), (sa, .inl (G.2 0, 4, .inl u.2.1)), (a_re, .inl (G.2 0, 32, .inl u.2.2.1)), (a_sc_, .inl (G.2 0, 12, .inl u.2.2.2.2.1))] (fun w : sg_offsets => v = w) (fun w => [(h, .inr (6, [.int d, .ref sa, .int w.1, .ref a_re, .int w.2.2.2.1, .ref a_sc_, .int w.2.2.2.2.2.1, .int w.2.2.2.2.2.2.1, .int w.2.2.2.2.2.2.2])), (sa, .inl (G.2 0, 4, .inl w.2.1)), (a_re, .inl (G.2 0, 32, .inl w.2.2.1)), (a_sc_, .inl (G.2 0, 12, .inl w.2.2.2.2.1))]) 0 0 := by
  refine CtV.of (by decide) (Nat.le_of_ble_eq_true rfl) [(0, .ref h)] rfl ?_
  intro p e s m args below meth c A ls Q hQ S hr hlocks hin F w hl
  have S : CallFix p m c b_Offsets_endRound 3 s args kx_T "PrefetchRules$Offsets" := S
  obtain ⟨hx, hb, hml, hown, hts⟩ := id S
  have w : kx_W G A s ([(h, .inr (6, [.int d, .ref sa, .int u.1, .ref a_re, .int u.2.2.2.1, .ref a_sc_, .int u.2.2.2.2.2.1, .int u.2.2.2.2.2.2.1, .int u.2.2.2.2.2.2.2])), (sa, .inl (G.2 0, 4, .inl u.2.1)), (a_re, .inl (G.2 0, 32, .inl u.2.2.1)), (a_sc_, .inl (G.2 0, 12, .inl u.2.2.2.2.1))] ++ []) s.heap [] := w
  unfold f_Offsets_endRound at hF
  refine lv_iconst (v := (0 : Int32)) hx hb d_Offsets_endRound_0 (by decide) ?_
  refine lv_istore_n (lv' := [(1, .int (0 : Int32)), (0, .ref h)]) hx hb d_Offsets_endRound_1 rfl hl (by decide) rfl (fun ls hl => ?_)
  refine lv_iconst (v := (1 : Int32)) hx hb d_Offsets_endRound_2 (by decide) ?_
  refine lv_istore_n (lv' := [(2, .int (1 : Int32)), (1, .int (0 : Int32)), (0, .ref h)]) hx hb d_Offsets_endRound_3 rfl hl (by decide) rfl (fun ls hl => ?_)
  have L4 : ∀ (n4 : Nat) (x1 : Int32) (x2 : Int32) (u4 : sg_offsets), lp_Offsets_endRound_4 d n4 x1 x2 u4 = some v → ∀ (H : Heap) (locs : List Loc) (ls : Array Slot), kx_W G A s ([(h, .inr (6, [.int d, .ref sa, .int u4.1, .ref a_re, .int u4.2.2.2.1, .ref a_sc_, .int u4.2.2.2.2.2.1, .int u4.2.2.2.2.2.2.1, .int u4.2.2.2.2.2.2.2])), (sa, .inl (G.2 0, 4, .inl u4.2.1)), (a_re, .inl (G.2 0, 32, .inl u4.2.2.1)), (a_sc_, .inl (G.2 0, 12, .inl u4.2.2.2.2.1))] ++ []) H locs → lv_has ls 3 [(0, .ref h), (1, .int x1), (2, .int x2)] → W p l e rm_Offsets_endRound s m args below meth c H locs 0 0 Q (F0 m 4 ls []) := by
    intro n4
    induction n4 with
    | zero =>
      intro x1 x2 u4 hF
      rw [lp_Offsets_endRound_4] at hF
      cases hF
    | succ n4 ih4 =>
      intro x1 x2 u4 hF H locs ls w hl
      rw [lp_Offsets_endRound_4] at hF
      refine lv_iload_n hx hb d_Offsets_endRound_4 rfl (lv_at hl 2 rfl) ?_
      refine lv_bipush (v := (12 : Int32)) hx hb d_Offsets_endRound_5 (by decide) ?_
      refine lv_icmp_ge (tgt := 33) hx hb d_Offsets_endRound_7 (by decide) (fun c7 => ?_) (fun c7 => ?_)
      · have hF := kx_t c7 hF
        refine lv_aload_n hx hb d_Offsets_endRound_33 rfl (lv_at hl 0 rfl) ?_
        refine lv_aload_n hx hb d_Offsets_endRound_34 rfl (lv_at hl 0 rfl) ?_
        refine kx_get S F w kc_Offsets 0 rfl 5 (by decide) kw_475ebff9be rfl d_Offsets_endRound_35 ?_
        refine lv_iload_n hx hb d_Offsets_endRound_38 rfl (lv_at hl 1 rfl) ?_
        obtain ⟨hi39, hF⟩ := kx_ar hF
        refine kx_iald S F w 3 rfl hi39 d_Offsets_endRound_39 ?_
        refine lv_iconst (v := (4 : Int32)) hx hb d_Offsets_endRound_40 (by decide) ?_
        refine lv_icmp_lt (tgt := 52) hx hb d_Offsets_endRound_41 (by decide) (fun c41 => ?_) (fun c41 => ?_)
        · have hF := kx_t c41 hF
          refine lv_iconst (v := (0 : Int32)) hx hb d_Offsets_endRound_52 (by decide) ?_
          refine kx_put S F w kc_Offsets 0 rfl 7 (by decide) kw_d6fea5b7b4 rfl rfl rfl (Nat.le_of_ble_eq_true rfl) d_Offsets_endRound_53 (fun H locs w => ?_)
          have w : kx_W G A s ([(h, .inr (6, [.int d, .ref sa, .int u4.1, .ref a_re, .int u4.2.2.2.1, .ref a_sc_, .int u4.2.2.2.2.2.1, .int (0 : Int32), .int u4.2.2.2.2.2.2.2])), (sa, .inl (G.2 0, 4, .inl u4.2.1)), (a_re, .inl (G.2 0, 32, .inl u4.2.2.1)), (a_sc_, .inl (G.2 0, 12, .inl u4.2.2.2.2.1))] ++ []) H locs := w
          refine lv_iconst (v := (0 : Int32)) hx hb d_Offsets_endRound_56 (by decide) ?_
          refine lv_istore_n (lv' := [(2, .int (0 : Int32)), (0, .ref h), (1, .int x1)]) hx hb d_Offsets_endRound_57 rfl hl (by decide) rfl (fun ls hl => ?_)
          have L58 : ∀ (n58 : Nat) (x1 : Int32) (x2 : Int32) (u58 : sg_offsets), lp_Offsets_endRound_58 d n58 x1 x2 u58 = some v → ∀ (H : Heap) (locs : List Loc) (ls : Array Slot), kx_W G A s ([(h, .inr (6, [.int d, .ref sa, .int u58.1, .ref a_re, .int u58.2.2.2.1, .ref a_sc_, .int u58.2.2.2.2.2.1, .int u58.2.2.2.2.2.2.1, .int u58.2.2.2.2.2.2.2])), (sa, .inl (G.2 0, 4, .inl u58.2.1)), (a_re, .inl (G.2 0, 32, .inl u58.2.2.1)), (a_sc_, .inl (G.2 0, 12, .inl u58.2.2.2.2.1))] ++ []) H locs → lv_has ls 3 [(0, .ref h), (1, .int x1), (2, .int x2)] → W p l e rm_Offsets_endRound s m args below meth c H locs 0 0 Q (F0 m 58 ls []) := by
            intro n58
            induction n58 with
            | zero =>
              intro x1 x2 u58 hF
              rw [lp_Offsets_endRound_58] at hF
              cases hF
            | succ n58 ih58 =>
              intro x1 x2 u58 hF H locs ls w hl
              rw [lp_Offsets_endRound_58] at hF
              refine lv_iload_n hx hb d_Offsets_endRound_58 rfl (lv_at hl 2 rfl) ?_
              refine lv_bipush (v := (12 : Int32)) hx hb d_Offsets_endRound_59 (by decide) ?_
              refine lv_icmp_ge (tgt := 77) hx hb d_Offsets_endRound_61 (by decide) (fun c61 => ?_) (fun c61 => ?_)
              · have hF := kx_t c61 hF
                refine lv_aload_n hx hb d_Offsets_endRound_77 rfl (lv_at hl 0 rfl) ?_
                refine lv_iconst (v := (0 : Int32)) hx hb d_Offsets_endRound_78 (by decide) ?_
                refine kx_put S F w kc_Offsets 0 rfl 6 (by decide) kw_77ac35ec3e rfl rfl rfl (Nat.le_of_ble_eq_true rfl) d_Offsets_endRound_79 (fun H locs w => ?_)
                have w : kx_W G A s ([(h, .inr (6, [.int d, .ref sa, .int u58.1, .ref a_re, .int u58.2.2.2.1, .ref a_sc_, .int (0 : Int32), .int u58.2.2.2.2.2.2.1, .int u58.2.2.2.2.2.2.2])), (sa, .inl (G.2 0, 4, .inl u58.2.1)), (a_re, .inl (G.2 0, 32, .inl u58.2.2.1)), (a_sc_, .inl (G.2 0, 12, .inl u58.2.2.2.2.1))] ++ []) H locs := w
                refine lv_aload_n hx hb d_Offsets_endRound_82 rfl (lv_at hl 0 rfl) ?_
                refine lv_dup hx hb d_Offsets_endRound_83 rfl ?_
                refine kx_get S F w kc_Offsets 0 rfl 8 (by decide) kw_613fb059bc rfl d_Offsets_endRound_84 ?_
                refine lv_iconst (v := (1 : Int32)) hx hb d_Offsets_endRound_87 (by decide) ?_
                refine lv_iadd hx hb d_Offsets_endRound_88 ?_
                refine kx_put S F w kc_Offsets 0 rfl 8 (by decide) kw_613fb059bc rfl rfl rfl (Nat.le_of_ble_eq_true rfl) d_Offsets_endRound_89 (fun H locs w => ?_)
                have w : kx_W G A s ([(h, .inr (6, [.int d, .ref sa, .int u58.1, .ref a_re, .int u58.2.2.2.1, .ref a_sc_, .int (0 : Int32), .int u58.2.2.2.2.2.2.1, .int (u58.2.2.2.2.2.2.2 + (1 : Int32))])), (sa, .inl (G.2 0, 4, .inl u58.2.1)), (a_re, .inl (G.2 0, 32, .inl u58.2.2.1)), (a_sc_, .inl (G.2 0, 12, .inl u58.2.2.2.2.1))] ++ []) H locs := w
                obtain rfl := Option.some.inj hF
                exact kx_vret hQ S hr hlocks w (xo := [(h, .inr (6, [.int d, .ref sa, .int u58.1, .ref a_re, .int u58.2.2.2.1, .ref a_sc_, .int (0 : Int32), .int u58.2.2.2.2.2.2.1, .int (u58.2.2.2.2.2.2.2 + (1 : Int32))])), (sa, .inl (G.2 0, 4, .inl u58.2.1)), (a_re, .inl (G.2 0, 32, .inl u58.2.2.1)), (a_sc_, .inl (G.2 0, 12, .inl u58.2.2.2.2.1))]) [0, 1, 2, 3] rfl rfl (u58.1, u58.2.1, u58.2.2.1, u58.2.2.2.1, u58.2.2.2.2.1, (0 : Int32), u58.2.2.2.2.2.2.1, u58.2.2.2.2.2.2.2 + (1 : Int32)) rfl rfl d_Offsets_endRound_92
              · have hF := kx_f c61 hF
                refine lv_aload_n hx hb d_Offsets_endRound_64 rfl (lv_at hl 0 rfl) ?_
                refine kx_get S F w kc_Offsets 0 rfl 5 (by decide) kw_475ebff9be rfl d_Offsets_endRound_65 ?_
                refine lv_iload_n hx hb d_Offsets_endRound_68 rfl (lv_at hl 2 rfl) ?_
                refine lv_iconst (v := (0 : Int32)) hx hb d_Offsets_endRound_69 (by decide) ?_
                obtain ⟨hi70, hF⟩ := kx_ar hF
                refine kx_iast S F w 3 rfl hi70 d_Offsets_endRound_70 (fun H locs w => ?_)
                have w : kx_W G A s ([(h, .inr (6, [.int d, .ref sa, .int u58.1, .ref a_re, .int u58.2.2.2.1, .ref a_sc_, .int u58.2.2.2.2.2.1, .int u58.2.2.2.2.2.2.1, .int u58.2.2.2.2.2.2.2])), (sa, .inl (G.2 0, 4, .inl u58.2.1)), (a_re, .inl (G.2 0, 32, .inl u58.2.2.1)), (a_sc_, .inl (G.2 0, 12, .inl (upd u58.2.2.2.2.1 x2.toNatClampNeg (0 : Int32))))] ++ []) H locs := w
                refine lv_iinc (v := x2 + 1) (lv' := [(2, .int (x2 + 1)), (0, .ref h), (1, .int x1)]) hx hb d_Offsets_endRound_71 hl (k := 2) rfl (by rfl) (by decide) rfl (fun ls hl => ?_)
                refine lv_goto (tgt := 58) hx hb d_Offsets_endRound_74 (by decide) ?_
                exact ih58 x1 (x2 + 1) (u58.1, u58.2.1, u58.2.2.1, u58.2.2.2.1, upd u58.2.2.2.2.1 x2.toNatClampNeg (0 : Int32), u58.2.2.2.2.2) hF H locs ls (w.perm [0, 1, 2, 3] rfl rfl) (lv_sub hl [1, 2, 0] rfl)
          exact L58 1000 x1 (0 : Int32) (u4.1, u4.2.1, u4.2.2.1, u4.2.2.2.1, u4.2.2.2.2.1, u4.2.2.2.2.2.1, (0 : Int32), u4.2.2.2.2.2.2.2) hF H locs ls (w.perm [0, 1, 2, 3] rfl rfl) (lv_sub hl [1, 2, 0] rfl)
        · have hF := kx_f c41 hF
          refine va_gets hx hb (kx_Zz F.1.2.2.1) w.2.2 hown (hts _ kw_bd19748f85) (fun _ h => h) d_Offsets_endRound_44 ?_
          refine lv_iload_n hx hb d_Offsets_endRound_47 rfl (lv_at hl 1 rfl) ?_
          obtain ⟨hi48, hF⟩ := kx_ar hF
          refine va_ti hx hb (kx_Zt F.1.2.2.1) w.2.2 hi48 rfl d_Offsets_endRound_48 ?_
          refine lv_goto (tgt := 53) hx hb d_Offsets_endRound_49 (by decide) ?_
          refine kx_put S F w kc_Offsets 0 rfl 7 (by decide) kw_d6fea5b7b4 rfl rfl rfl (Nat.le_of_ble_eq_true rfl) d_Offsets_endRound_53 (fun H locs w => ?_)
          have w : kx_W G A s ([(h, .inr (6, [.int d, .ref sa, .int u4.1, .ref a_re, .int u4.2.2.2.1, .ref a_sc_, .int u4.2.2.2.2.2.1, .int (kx_cand x1.toNatClampNeg), .int u4.2.2.2.2.2.2.2])), (sa, .inl (G.2 0, 4, .inl u4.2.1)), (a_re, .inl (G.2 0, 32, .inl u4.2.2.1)), (a_sc_, .inl (G.2 0, 12, .inl u4.2.2.2.2.1))] ++ []) H locs := w
          refine lv_iconst (v := (0 : Int32)) hx hb d_Offsets_endRound_56 (by decide) ?_
          refine lv_istore_n (lv' := [(2, .int (0 : Int32)), (0, .ref h), (1, .int x1)]) hx hb d_Offsets_endRound_57 rfl hl (by decide) rfl (fun ls hl => ?_)
          have L58 : ∀ (n58 : Nat) (x1 : Int32) (x2 : Int32) (u58 : sg_offsets), lp_Offsets_endRound_58 d n58 x1 x2 u58 = some v → ∀ (H : Heap) (locs : List Loc) (ls : Array Slot), kx_W G A s ([(h, .inr (6, [.int d, .ref sa, .int u58.1, .ref a_re, .int u58.2.2.2.1, .ref a_sc_, .int u58.2.2.2.2.2.1, .int u58.2.2.2.2.2.2.1, .int u58.2.2.2.2.2.2.2])), (sa, .inl (G.2 0, 4, .inl u58.2.1)), (a_re, .inl (G.2 0, 32, .inl u58.2.2.1)), (a_sc_, .inl (G.2 0, 12, .inl u58.2.2.2.2.1))] ++ []) H locs → lv_has ls 3 [(0, .ref h), (1, .int x1), (2, .int x2)] → W p l e rm_Offsets_endRound s m args below meth c H locs 0 0 Q (F0 m 58 ls []) := by
            intro n58
            induction n58 with
            | zero =>
              intro x1 x2 u58 hF
              rw [lp_Offsets_endRound_58] at hF
              cases hF
            | succ n58 ih58 =>
              intro x1 x2 u58 hF H locs ls w hl
              rw [lp_Offsets_endRound_58] at hF
              refine lv_iload_n hx hb d_Offsets_endRound_58 rfl (lv_at hl 2 rfl) ?_
              refine lv_bipush (v := (12 : Int32)) hx hb d_Offsets_endRound_59 (by decide) ?_
              refine lv_icmp_ge (tgt := 77) hx hb d_Offsets_endRound_61 (by decide) (fun c61 => ?_) (fun c61 => ?_)
              · have hF := kx_t c61 hF
                refine lv_aload_n hx hb d_Offsets_endRound_77 rfl (lv_at hl 0 rfl) ?_
                refine lv_iconst (v := (0 : Int32)) hx hb d_Offsets_endRound_78 (by decide) ?_
                refine kx_put S F w kc_Offsets 0 rfl 6 (by decide) kw_77ac35ec3e rfl rfl rfl (Nat.le_of_ble_eq_true rfl) d_Offsets_endRound_79 (fun H locs w => ?_)
                have w : kx_W G A s ([(h, .inr (6, [.int d, .ref sa, .int u58.1, .ref a_re, .int u58.2.2.2.1, .ref a_sc_, .int (0 : Int32), .int u58.2.2.2.2.2.2.1, .int u58.2.2.2.2.2.2.2])), (sa, .inl (G.2 0, 4, .inl u58.2.1)), (a_re, .inl (G.2 0, 32, .inl u58.2.2.1)), (a_sc_, .inl (G.2 0, 12, .inl u58.2.2.2.2.1))] ++ []) H locs := w
                refine lv_aload_n hx hb d_Offsets_endRound_82 rfl (lv_at hl 0 rfl) ?_
                refine lv_dup hx hb d_Offsets_endRound_83 rfl ?_
                refine kx_get S F w kc_Offsets 0 rfl 8 (by decide) kw_613fb059bc rfl d_Offsets_endRound_84 ?_
                refine lv_iconst (v := (1 : Int32)) hx hb d_Offsets_endRound_87 (by decide) ?_
                refine lv_iadd hx hb d_Offsets_endRound_88 ?_
                refine kx_put S F w kc_Offsets 0 rfl 8 (by decide) kw_613fb059bc rfl rfl rfl (Nat.le_of_ble_eq_true rfl) d_Offsets_endRound_89 (fun H locs w => ?_)
                have w : kx_W G A s ([(h, .inr (6, [.int d, .ref sa, .int u58.1, .ref a_re, .int u58.2.2.2.1, .ref a_sc_, .int (0 : Int32), .int u58.2.2.2.2.2.2.1, .int (u58.2.2.2.2.2.2.2 + (1 : Int32))])), (sa, .inl (G.2 0, 4, .inl u58.2.1)), (a_re, .inl (G.2 0, 32, .inl u58.2.2.1)), (a_sc_, .inl (G.2 0, 12, .inl u58.2.2.2.2.1))] ++ []) H locs := w
                obtain rfl := Option.some.inj hF
                exact kx_vret hQ S hr hlocks w (xo := [(h, .inr (6, [.int d, .ref sa, .int u58.1, .ref a_re, .int u58.2.2.2.1, .ref a_sc_, .int (0 : Int32), .int u58.2.2.2.2.2.2.1, .int (u58.2.2.2.2.2.2.2 + (1 : Int32))])), (sa, .inl (G.2 0, 4, .inl u58.2.1)), (a_re, .inl (G.2 0, 32, .inl u58.2.2.1)), (a_sc_, .inl (G.2 0, 12, .inl u58.2.2.2.2.1))]) [0, 1, 2, 3] rfl rfl (u58.1, u58.2.1, u58.2.2.1, u58.2.2.2.1, u58.2.2.2.2.1, (0 : Int32), u58.2.2.2.2.2.2.1, u58.2.2.2.2.2.2.2 + (1 : Int32)) rfl rfl d_Offsets_endRound_92
              · have hF := kx_f c61 hF
                refine lv_aload_n hx hb d_Offsets_endRound_64 rfl (lv_at hl 0 rfl) ?_
                refine kx_get S F w kc_Offsets 0 rfl 5 (by decide) kw_475ebff9be rfl d_Offsets_endRound_65 ?_
                refine lv_iload_n hx hb d_Offsets_endRound_68 rfl (lv_at hl 2 rfl) ?_
                refine lv_iconst (v := (0 : Int32)) hx hb d_Offsets_endRound_69 (by decide) ?_
                obtain ⟨hi70, hF⟩ := kx_ar hF
                refine kx_iast S F w 3 rfl hi70 d_Offsets_endRound_70 (fun H locs w => ?_)
                have w : kx_W G A s ([(h, .inr (6, [.int d, .ref sa, .int u58.1, .ref a_re, .int u58.2.2.2.1, .ref a_sc_, .int u58.2.2.2.2.2.1, .int u58.2.2.2.2.2.2.1, .int u58.2.2.2.2.2.2.2])), (sa, .inl (G.2 0, 4, .inl u58.2.1)), (a_re, .inl (G.2 0, 32, .inl u58.2.2.1)), (a_sc_, .inl (G.2 0, 12, .inl (upd u58.2.2.2.2.1 x2.toNatClampNeg (0 : Int32))))] ++ []) H locs := w
                refine lv_iinc (v := x2 + 1) (lv' := [(2, .int (x2 + 1)), (0, .ref h), (1, .int x1)]) hx hb d_Offsets_endRound_71 hl (k := 2) rfl (by rfl) (by decide) rfl (fun ls hl => ?_)
                refine lv_goto (tgt := 58) hx hb d_Offsets_endRound_74 (by decide) ?_
                exact ih58 x1 (x2 + 1) (u58.1, u58.2.1, u58.2.2.1, u58.2.2.2.1, upd u58.2.2.2.2.1 x2.toNatClampNeg (0 : Int32), u58.2.2.2.2.2) hF H locs ls (w.perm [0, 1, 2, 3] rfl rfl) (lv_sub hl [1, 2, 0] rfl)
          exact L58 1000 x1 (0 : Int32) (u4.1, u4.2.1, u4.2.2.1, u4.2.2.2.1, u4.2.2.2.2.1, u4.2.2.2.2.2.1, kx_cand x1.toNatClampNeg, u4.2.2.2.2.2.2.2) hF H locs ls (w.perm [0, 1, 2, 3] rfl rfl) (lv_sub hl [1, 2, 0] rfl)
      · have hF := kx_f c7 hF
        refine lv_aload_n hx hb d_Offsets_endRound_10 rfl (lv_at hl 0 rfl) ?_
        refine kx_get S F w kc_Offsets 0 rfl 5 (by decide) kw_475ebff9be rfl d_Offsets_endRound_11 ?_
        refine lv_iload_n hx hb d_Offsets_endRound_14 rfl (lv_at hl 2 rfl) ?_
        obtain ⟨hi15, hF⟩ := kx_ar hF
        refine kx_iald S F w 3 rfl hi15 d_Offsets_endRound_15 ?_
        refine lv_aload_n hx hb d_Offsets_endRound_16 rfl (lv_at hl 0 rfl) ?_
        refine kx_get S F w kc_Offsets 0 rfl 5 (by decide) kw_475ebff9be rfl d_Offsets_endRound_17 ?_
        refine lv_iload_n hx hb d_Offsets_endRound_20 rfl (lv_at hl 1 rfl) ?_
        obtain ⟨hi21, hF⟩ := kx_ar hF
        refine kx_iald S F w 3 rfl hi21 d_Offsets_endRound_21 ?_
        refine lv_icmp_le (tgt := 27) hx hb d_Offsets_endRound_22 (by decide) (fun c22 => ?_) (fun c22 => ?_)
        · have hF := kx_t c22 hF
          refine lv_iinc (v := x2 + 1) (lv' := [(2, .int (x2 + 1)), (0, .ref h), (1, .int x1)]) hx hb d_Offsets_endRound_27 hl (k := 2) rfl (by rfl) (by decide) rfl (fun ls hl => ?_)
          refine lv_goto (tgt := 4) hx hb d_Offsets_endRound_30 (by decide) ?_
          exact ih4 x1 (x2 + 1) u4 hF H locs ls (w.perm [0, 1, 2, 3] rfl rfl) (lv_sub hl [1, 2, 0] rfl)
        · have hF := kx_f c22 hF
          refine lv_iload_n hx hb d_Offsets_endRound_25 rfl (lv_at hl 2 rfl) ?_
          refine lv_istore_n (lv' := [(1, .int x2), (0, .ref h), (2, .int x2)]) hx hb d_Offsets_endRound_26 rfl hl (by decide) rfl (fun ls hl => ?_)
          refine lv_iinc (v := x2 + 1) (lv' := [(2, .int (x2 + 1)), (1, .int x2), (0, .ref h)]) hx hb d_Offsets_endRound_27 hl (k := 2) rfl (by rfl) (by decide) rfl (fun ls hl => ?_)
          refine lv_goto (tgt := 4) hx hb d_Offsets_endRound_30 (by decide) ?_
          exact ih4 x2 (x2 + 1) u4 hF H locs ls (w.perm [0, 1, 2, 3] rfl rfl) (lv_sub hl [2, 1, 0] rfl)
  exact L4 1000 (0 : Int32) (1 : Int32) u hF s.heap [] ls (w.perm [0, 1, 2, 3] rfl rfl) (lv_sub hl [2, 1, 0] rfl)
/-! Offsets_tryCandidate -/
def jn_Offsets_tryCandidate_34 (d : Int32) (x1 : Int32) (x2 : Int32) (u34 : sg_offsets) : Option (sg_offsets) := (if (x2 < 0 ∨ 12 ≤ x2.toNatClampNeg) then none else (if (15 : Int32) ≤ (u34.2.2.2.2.1 x2.toNatClampNeg) then (f_Offsets_endRound d (u34.1, u34.2.1, u34.2.2.1, u34.2.2.2.1, u34.2.2.2.2.1, u34.2.2.2.2.2.1 + (1 : Int32), u34.2.2.2.2.2.2)).bind (fun q66 => some q66) else (if (u34.2.2.2.2.2.1 + (1 : Int32)) < (240 : Int32) then some (u34.1, u34.2.1, u34.2.2.1, u34.2.2.2.1, u34.2.2.2.2.1, u34.2.2.2.2.2.1 + (1 : Int32), u34.2.2.2.2.2.2) else (f_Offsets_endRound d (u34.1, u34.2.1, u34.2.2.1, u34.2.2.2.1, u34.2.2.2.2.1, u34.2.2.2.2.2.1 + (1 : Int32), u34.2.2.2.2.2.2)).bind (fun q66 => some q66))))
def f_Offsets_tryCandidate (d : Int32) (u : sg_offsets) (p0 : Int32) : Option (sg_offsets) := (f_Math_floorMod u.2.2.2.2.2.1 (12 : Int32)).bind (fun q6 => (if (q6 < 0 ∨ 12 ≤ q6.toNatClampNeg) then none else (f_Offsets_isRecent d u (p0 - (kx_cand q6.toNatClampNeg))).bind (fun q18 => (if q18 = 0 then jn_Offsets_tryCandidate_34 d p0 q6 u else (if (q6 < 0 ∨ 12 ≤ q6.toNatClampNeg) then none else (if (q6 < 0 ∨ 12 ≤ q6.toNatClampNeg) then none else jn_Offsets_tryCandidate_34 d p0 q6 (u.1, u.2.1, u.2.2.1, u.2.2.2.1, upd u.2.2.2.2.1 q6.toNatClampNeg ((u.2.2.2.2.1 q6.toNatClampNeg) + (1 : Int32)), u.2.2.2.2.2)))))))
def rm_Offsets_tryCandidate : Room := { frames := 2, cells := 0, slots := 0, locals := 44 }
set_option maxRecDepth 100000 in
set_option maxHeartbeats 4000000 in
theorem c_Offsets_tryCandidate (l : Launch) (G : kx_G) (h : Nat) (sa : Nat) (d : Int32) (a_re : Nat) (a_sc_ : Nat) (u : sg_offsets) (p0 : Int32) (v : sg_offsets) (hF : f_Offsets_tryCandidate d u p0 = some v) : CtV l y_Offsets_tryCandidate b_Offsets_tryCandidate 3 rm_Offsets_tryCandidate G [.ref h, .int p0] [(h, .inr (6, [.int d, .ref sa, .int u.1, .ref a_re, .int u.2.2.2.1, .ref a_sc_, .int u.2.2.2.2.2.1, .int u.2.2.2.2.2.2.1, .int u.2.2.2.2.2.2.2])), (sa, .inl (G.2 0, 4, .inl u.2.1)), (a_re, .inl (G.2 0, 32, .inl u.2.2.1)), (a_sc_, .inl (G.2 0, 12, .inl u.2.2.2.2.1))] (fun w : sg_offsets => v = w) (fun w => [(h, .inr (6, [.int d, .ref sa, .int w.1, .ref a_re, .int w.2.2.2.1, .ref a_sc_, .int w.2.2.2.2.2.1, .int w.2.2.2.2.2.2.1, .int w.2.2.2.2.2.2.2])), (sa, .inl (G.2 0, 4, .inl w.2.1)), (a_re, .inl (G.2 0, 32, .inl w.2.2.1)), (a_sc_, .inl (G.2 0, 12, .inl w.2.2.2.2.1))]) 0 0 := by
  refine CtV.of (by decide) (Nat.le_of_ble_eq_true rfl) [(0, .ref h), (1, .int p0)] rfl ?_
  intro p e s m args below meth c A ls Q hQ S hr hlocks hin F w hl
  have S : CallFix p m c b_Offsets_tryCandidate 3 s args kx_T "PrefetchRules$Offsets" := S
  obtain ⟨hx, hb, hml, hown, hts⟩ := id S
  have w : kx_W G A s ([(h, .inr (6, [.int d, .ref sa, .int u.1, .ref a_re, .int u.2.2.2.1, .ref a_sc_, .int u.2.2.2.2.2.1, .int u.2.2.2.2.2.2.1, .int u.2.2.2.2.2.2.2])), (sa, .inl (G.2 0, 4, .inl u.2.1)), (a_re, .inl (G.2 0, 32, .inl u.2.2.1)), (a_sc_, .inl (G.2 0, 12, .inl u.2.2.2.2.1))] ++ []) s.heap [] := w
  unfold f_Offsets_tryCandidate at hF
  refine lv_aload_n hx hb d_Offsets_tryCandidate_0 rfl (lv_at hl 0 rfl) ?_
  refine kx_get S F w kc_Offsets 0 rfl 6 (by decide) kw_77ac35ec3e rfl d_Offsets_tryCandidate_1 ?_
  refine lv_bipush (v := (12 : Int32)) hx hb d_Offsets_tryCandidate_4 (by decide) ?_
  obtain ⟨q6, hq6, hF⟩ := kx_bd hF
  refine kx_ci (cx := []) (wr := [(h, .inr (6, [.int d, .ref sa, .int u.1, .ref a_re, .int u.2.2.2.1, .ref a_sc_, .int u.2.2.2.2.2.1, .int u.2.2.2.2.2.2.1, .int u.2.2.2.2.2.2.2])), (sa, .inl (G.2 0, 4, .inl u.2.1)), (a_re, .inl (G.2 0, 32, .inl u.2.2.1)), (a_sc_, .inl (G.2 0, 12, .inl u.2.2.2.2.1))]) F w [] [0, 1, 2, 3] rfl rfl rfl (by decide) (va_runS (As := [.int u.2.2.2.2.2.1, .int (12 : Int32)]) (rest := []) S (c_Math_floorMod l G u.2.2.2.2.2.1 (12 : Int32) q6 hq6 _) (kx_cwS S ms_Math_floorMod kw_9c504fba95 ⟨rfl, rfl, Nat.le_of_ble_eq_true rfl, Nat.le_of_ble_eq_true rfl⟩) ⟨kx_blind _ _ _ _, kx_pre F w [] rfl rfl⟩ rfl rfl hl.1 rfl (lv_room (Nat.le_of_ble_eq_true rfl)) d_Offsets_tryCandidate_6 ⟨Nat.le_of_ble_eq_true rfl, Nat.le_of_ble_eq_true rfl⟩) (fun r6 w6 H locs hp w => ?_)
  subst hp
  have w : kx_W G A s ([(h, .inr (6, [.int d, .ref sa, .int u.1, .ref a_re, .int u.2.2.2.1, .ref a_sc_, .int u.2.2.2.2.2.1, .int u.2.2.2.2.2.2.1, .int u.2.2.2.2.2.2.2])), (sa, .inl (G.2 0, 4, .inl u.2.1)), (a_re, .inl (G.2 0, 32, .inl u.2.2.1)), (a_sc_, .inl (G.2 0, 12, .inl u.2.2.2.2.1))] ++ []) H locs := w
  refine lv_istore_n (lv' := [(2, .int q6), (0, .ref h), (1, .int p0)]) hx hb d_Offsets_tryCandidate_9 rfl hl (by decide) rfl (fun ls hl => ?_)
  refine lv_aload_n hx hb d_Offsets_tryCandidate_10 rfl (lv_at hl 1 rfl) ?_
  refine lv_iload_n hx hb d_Offsets_tryCandidate_11 rfl (lv_at hl 2 rfl) ?_
  refine va_gets hx hb (kx_Zz F.1.2.2.1) w.2.2 hown (hts _ kw_bd19748f85) (fun _ h => h) d_Offsets_tryCandidate_12 ?_
  refine lv_iload_n hx hb d_Offsets_tryCandidate_15 rfl (lv_at hl 0 rfl) ?_
  obtain ⟨hi16, hF⟩ := kx_ar hF
  refine va_ti hx hb (kx_Zt F.1.2.2.1) w.2.2 hi16 rfl d_Offsets_tryCandidate_16 ?_
  refine lv_isub hx hb d_Offsets_tryCandidate_17 ?_
  obtain ⟨q18, hq18, hF⟩ := kx_bd hF
  refine kx_ci (cx := [(h, .inr (6, [.int d, .ref sa, .int u.1, .ref a_re, .int u.2.2.2.1, .ref a_sc_, .int u.2.2.2.2.2.1, .int u.2.2.2.2.2.2.1, .int u.2.2.2.2.2.2.2])), (sa, .inl (G.2 0, 4, .inl u.2.1)), (a_re, .inl (G.2 0, 32, .inl u.2.2.1)), (a_sc_, .inl (G.2 0, 12, .inl u.2.2.2.2.1))]) (wr := []) F w [0, 1, 2, 3] [] rfl rfl rfl (by decide) (va_runV (As := [.int (p0 - (kx_cand q6.toNatClampNeg))]) (rest := []) S (c_Offsets_isRecent l G h sa d a_re a_sc_ u (p0 - (kx_cand q6.toNatClampNeg)) q18 hq18 _) (kx_cwV S mv_Offsets_isRecent kw_2efbdd2e64 ⟨rfl, rfl, Nat.le_of_ble_eq_true rfl, Nat.le_of_ble_eq_true rfl⟩) ⟨kx_blind _ _ _ _, va_recv (q0 := 0) F.1.1 w.1 kc_Offsets.1 rfl, kx_pre F w [0, 1, 2, 3] rfl rfl⟩ rfl rfl hl.1 rfl (lv_room (Nat.le_of_ble_eq_true rfl)) d_Offsets_tryCandidate_18 ⟨Nat.le_of_ble_eq_true rfl, Nat.le_of_ble_eq_true rfl⟩) (fun r18 w18 H locs hp w => ?_)
  subst hp
  have w : kx_W G A s ([(h, .inr (6, [.int d, .ref sa, .int u.1, .ref a_re, .int u.2.2.2.1, .ref a_sc_, .int u.2.2.2.2.2.1, .int u.2.2.2.2.2.2.1, .int u.2.2.2.2.2.2.2])), (sa, .inl (G.2 0, 4, .inl u.2.1)), (a_re, .inl (G.2 0, 32, .inl u.2.2.1)), (a_sc_, .inl (G.2 0, 12, .inl u.2.2.2.2.1))] ++ []) H locs := w
  have L34 : ∀ (x1 : Int32) (x2 : Int32) (u34 : sg_offsets), jn_Offsets_tryCandidate_34 d x1 x2 u34 = some v → ∀ (H : Heap) (locs : List Loc) (ls : Array Slot), kx_W G A s ([(h, .inr (6, [.int d, .ref sa, .int u34.1, .ref a_re, .int u34.2.2.2.1, .ref a_sc_, .int u34.2.2.2.2.2.1, .int u34.2.2.2.2.2.2.1, .int u34.2.2.2.2.2.2.2])), (sa, .inl (G.2 0, 4, .inl u34.2.1)), (a_re, .inl (G.2 0, 32, .inl u34.2.2.1)), (a_sc_, .inl (G.2 0, 12, .inl u34.2.2.2.2.1))] ++ []) H locs → lv_has ls 3 [(0, .ref h), (1, .int x1), (2, .int x2)] → W p l e rm_Offsets_tryCandidate s m args below meth c H locs 0 0 Q (F0 m 34 ls []) := by
    intro x1 x2 u34 hF H locs ls w hl
    unfold jn_Offsets_tryCandidate_34 at hF
    refine lv_aload_n hx hb d_Offsets_tryCandidate_34 rfl (lv_at hl 0 rfl) ?_
    refine lv_dup hx hb d_Offsets_tryCandidate_35 rfl ?_
    refine kx_get S F w kc_Offsets 0 rfl 6 (by decide) kw_77ac35ec3e rfl d_Offsets_tryCandidate_36 ?_
    refine lv_iconst (v := (1 : Int32)) hx hb d_Offsets_tryCandidate_39 (by decide) ?_
    refine lv_iadd hx hb d_Offsets_tryCandidate_40 ?_
    refine kx_put S F w kc_Offsets 0 rfl 6 (by decide) kw_77ac35ec3e rfl rfl rfl (Nat.le_of_ble_eq_true rfl) d_Offsets_tryCandidate_41 (fun H locs w => ?_)
    have w : kx_W G A s ([(h, .inr (6, [.int d, .ref sa, .int u34.1, .ref a_re, .int u34.2.2.2.1, .ref a_sc_, .int (u34.2.2.2.2.2.1 + (1 : Int32)), .int u34.2.2.2.2.2.2.1, .int u34.2.2.2.2.2.2.2])), (sa, .inl (G.2 0, 4, .inl u34.2.1)), (a_re, .inl (G.2 0, 32, .inl u34.2.2.1)), (a_sc_, .inl (G.2 0, 12, .inl u34.2.2.2.2.1))] ++ []) H locs := w
    refine lv_aload_n hx hb d_Offsets_tryCandidate_44 rfl (lv_at hl 0 rfl) ?_
    refine kx_get S F w kc_Offsets 0 rfl 5 (by decide) kw_475ebff9be rfl d_Offsets_tryCandidate_45 ?_
    refine lv_iload_n hx hb d_Offsets_tryCandidate_48 rfl (lv_at hl 2 rfl) ?_
    obtain ⟨hi49, hF⟩ := kx_ar hF
    refine kx_iald S F w 3 rfl hi49 d_Offsets_tryCandidate_49 ?_
    refine lv_bipush (v := (15 : Int32)) hx hb d_Offsets_tryCandidate_50 (by decide) ?_
    refine lv_icmp_ge (tgt := 65) hx hb d_Offsets_tryCandidate_52 (by decide) (fun c52 => ?_) (fun c52 => ?_)
    · have hF := kx_t c52 hF
      refine lv_aload_n hx hb d_Offsets_tryCandidate_65 rfl (lv_at hl 0 rfl) ?_
      obtain ⟨q66, hq66, hF⟩ := kx_bd hF
      refine kx_cv (cx := [(h, .inr (6, [.int d, .ref sa, .int u34.1, .ref a_re, .int u34.2.2.2.1, .ref a_sc_, .int (u34.2.2.2.2.2.1 + (1 : Int32)), .int u34.2.2.2.2.2.2.1, .int u34.2.2.2.2.2.2.2])), (sa, .inl (G.2 0, 4, .inl u34.2.1)), (a_re, .inl (G.2 0, 32, .inl u34.2.2.1)), (a_sc_, .inl (G.2 0, 12, .inl u34.2.2.2.2.1))]) (wr := []) F w [0, 1, 2, 3] [] rfl rfl rfl (by decide) (va_runV (As := []) (rest := []) S (c_Offsets_endRound l G h sa d a_re a_sc_ (u34.1, u34.2.1, u34.2.2.1, u34.2.2.2.1, u34.2.2.2.2.1, u34.2.2.2.2.2.1 + (1 : Int32), u34.2.2.2.2.2.2) q66 hq66 _) (kx_cwV S mv_Offsets_endRound kw_aeaa5bfb74 ⟨rfl, rfl, Nat.le_of_ble_eq_true rfl, Nat.le_of_ble_eq_true rfl⟩) ⟨kx_blind _ _ _ _, va_recv (q0 := 0) F.1.1 w.1 kc_Offsets.1 rfl, kx_pre F w [0, 1, 2, 3] rfl rfl⟩ rfl rfl hl.1 rfl (lv_room (Nat.le_of_ble_eq_true rfl)) d_Offsets_tryCandidate_66 ⟨Nat.le_of_ble_eq_true rfl, Nat.le_of_ble_eq_true rfl⟩) (fun w66 H locs hp w => ?_)
      subst hp
      have w : kx_W G A s ([(h, .inr (6, [.int d, .ref sa, .int q66.1, .ref a_re, .int q66.2.2.2.1, .ref a_sc_, .int q66.2.2.2.2.2.1, .int q66.2.2.2.2.2.2.1, .int q66.2.2.2.2.2.2.2])), (sa, .inl (G.2 0, 4, .inl q66.2.1)), (a_re, .inl (G.2 0, 32, .inl q66.2.2.1)), (a_sc_, .inl (G.2 0, 12, .inl q66.2.2.2.2.1))] ++ []) H locs := w
      obtain rfl := Option.some.inj hF
      exact kx_vret hQ S hr hlocks w (xo := [(h, .inr (6, [.int d, .ref sa, .int q66.1, .ref a_re, .int q66.2.2.2.1, .ref a_sc_, .int q66.2.2.2.2.2.1, .int q66.2.2.2.2.2.2.1, .int q66.2.2.2.2.2.2.2])), (sa, .inl (G.2 0, 4, .inl q66.2.1)), (a_re, .inl (G.2 0, 32, .inl q66.2.2.1)), (a_sc_, .inl (G.2 0, 12, .inl q66.2.2.2.2.1))]) [0, 1, 2, 3] rfl rfl q66 rfl rfl d_Offsets_tryCandidate_69
    · have hF := kx_f c52 hF
      refine lv_aload_n hx hb d_Offsets_tryCandidate_55 rfl (lv_at hl 0 rfl) ?_
      refine kx_get S F w kc_Offsets 0 rfl 6 (by decide) kw_77ac35ec3e rfl d_Offsets_tryCandidate_56 ?_
      refine lv_sipush (v := (240 : Int32)) hx hb d_Offsets_tryCandidate_59 (by decide) ?_
      refine lv_icmp_lt (tgt := 69) hx hb d_Offsets_tryCandidate_62 (by decide) (fun c62 => ?_) (fun c62 => ?_)
      · have hF := kx_t c62 hF
        obtain rfl := Option.some.inj hF
        exact kx_vret hQ S hr hlocks w (xo := [(h, .inr (6, [.int d, .ref sa, .int u34.1, .ref a_re, .int u34.2.2.2.1, .ref a_sc_, .int (u34.2.2.2.2.2.1 + (1 : Int32)), .int u34.2.2.2.2.2.2.1, .int u34.2.2.2.2.2.2.2])), (sa, .inl (G.2 0, 4, .inl u34.2.1)), (a_re, .inl (G.2 0, 32, .inl u34.2.2.1)), (a_sc_, .inl (G.2 0, 12, .inl u34.2.2.2.2.1))]) [0, 1, 2, 3] rfl rfl (u34.1, u34.2.1, u34.2.2.1, u34.2.2.2.1, u34.2.2.2.2.1, u34.2.2.2.2.2.1 + (1 : Int32), u34.2.2.2.2.2.2) rfl rfl d_Offsets_tryCandidate_69
      · have hF := kx_f c62 hF
        refine lv_aload_n hx hb d_Offsets_tryCandidate_65 rfl (lv_at hl 0 rfl) ?_
        obtain ⟨q66, hq66, hF⟩ := kx_bd hF
        refine kx_cv (cx := [(h, .inr (6, [.int d, .ref sa, .int u34.1, .ref a_re, .int u34.2.2.2.1, .ref a_sc_, .int (u34.2.2.2.2.2.1 + (1 : Int32)), .int u34.2.2.2.2.2.2.1, .int u34.2.2.2.2.2.2.2])), (sa, .inl (G.2 0, 4, .inl u34.2.1)), (a_re, .inl (G.2 0, 32, .inl u34.2.2.1)), (a_sc_, .inl (G.2 0, 12, .inl u34.2.2.2.2.1))]) (wr := []) F w [0, 1, 2, 3] [] rfl rfl rfl (by decide) (va_runV (As := []) (rest := []) S (c_Offsets_endRound l G h sa d a_re a_sc_ (u34.1, u34.2.1, u34.2.2.1, u34.2.2.2.1, u34.2.2.2.2.1, u34.2.2.2.2.2.1 + (1 : Int32), u34.2.2.2.2.2.2) q66 hq66 _) (kx_cwV S mv_Offsets_endRound kw_aeaa5bfb74 ⟨rfl, rfl, Nat.le_of_ble_eq_true rfl, Nat.le_of_ble_eq_true rfl⟩) ⟨kx_blind _ _ _ _, va_recv (q0 := 0) F.1.1 w.1 kc_Offsets.1 rfl, kx_pre F w [0, 1, 2, 3] rfl rfl⟩ rfl rfl hl.1 rfl (lv_room (Nat.le_of_ble_eq_true rfl)) d_Offsets_tryCandidate_66 ⟨Nat.le_of_ble_eq_true rfl, Nat.le_of_ble_eq_true rfl⟩) (fun w66 H locs hp w => ?_)
        subst hp
        have w : kx_W G A s ([(h, .inr (6, [.int d, .ref sa, .int q66.1, .ref a_re, .int q66.2.2.2.1, .ref a_sc_, .int q66.2.2.2.2.2.1, .int q66.2.2.2.2.2.2.1, .int q66.2.2.2.2.2.2.2])), (sa, .inl (G.2 0, 4, .inl q66.2.1)), (a_re, .inl (G.2 0, 32, .inl q66.2.2.1)), (a_sc_, .inl (G.2 0, 12, .inl q66.2.2.2.2.1))] ++ []) H locs := w
        obtain rfl := Option.some.inj hF
        exact kx_vret hQ S hr hlocks w (xo := [(h, .inr (6, [.int d, .ref sa, .int q66.1, .ref a_re, .int q66.2.2.2.1, .ref a_sc_, .int q66.2.2.2.2.2.1, .int q66.2.2.2.2.2.2.1, .int q66.2.2.2.2.2.2.2])), (sa, .inl (G.2 0, 4, .inl q66.2.1)), (a_re, .inl (G.2 0, 32, .inl q66.2.2.1)), (a_sc_, .inl (G.2 0, 12, .inl q66.2.2.2.2.1))]) [0, 1, 2, 3] rfl rfl q66 rfl rfl d_Offsets_tryCandidate_69
  refine lv_if_eq (tgt := 34) hx hb d_Offsets_tryCandidate_21 (by decide) (fun c21 => ?_) (fun c21 => ?_)
  · have hF := kx_t c21 hF
    exact L34 p0 q6 u hF H locs ls (w.perm [0, 1, 2, 3] rfl rfl) (lv_sub hl [1, 2, 0] rfl)
  · have hF := kx_f c21 hF
    refine lv_aload_n hx hb d_Offsets_tryCandidate_24 rfl (lv_at hl 1 rfl) ?_
    refine kx_get S F w kc_Offsets 0 rfl 5 (by decide) kw_475ebff9be rfl d_Offsets_tryCandidate_25 ?_
    refine lv_iload_n hx hb d_Offsets_tryCandidate_28 rfl (lv_at hl 0 rfl) ?_
    refine lv_dup2_11 hx hb d_Offsets_tryCandidate_29 rfl rfl ?_
    obtain ⟨hi30, hF⟩ := kx_ar hF
    refine kx_iald S F w 3 rfl hi30 d_Offsets_tryCandidate_30 ?_
    refine lv_iconst (v := (1 : Int32)) hx hb d_Offsets_tryCandidate_31 (by decide) ?_
    refine lv_iadd hx hb d_Offsets_tryCandidate_32 ?_
    obtain ⟨hi33, hF⟩ := kx_ar hF
    refine kx_iast S F w 3 rfl hi33 d_Offsets_tryCandidate_33 (fun H locs w => ?_)
    have w : kx_W G A s ([(h, .inr (6, [.int d, .ref sa, .int u.1, .ref a_re, .int u.2.2.2.1, .ref a_sc_, .int u.2.2.2.2.2.1, .int u.2.2.2.2.2.2.1, .int u.2.2.2.2.2.2.2])), (sa, .inl (G.2 0, 4, .inl u.2.1)), (a_re, .inl (G.2 0, 32, .inl u.2.2.1)), (a_sc_, .inl (G.2 0, 12, .inl (upd u.2.2.2.2.1 q6.toNatClampNeg ((u.2.2.2.2.1 q6.toNatClampNeg) + (1 : Int32)))))] ++ []) H locs := w
    exact L34 p0 q6 (u.1, u.2.1, u.2.2.1, u.2.2.2.1, upd u.2.2.2.2.1 q6.toNatClampNeg ((u.2.2.2.2.1 q6.toNatClampNeg) + (1 : Int32)), u.2.2.2.2.2) hF H locs ls (w.perm [0, 1, 2, 3] rfl rfl) (lv_sub hl [1, 2, 0] rfl)
/-! Offsets_remember -/
def f_Offsets_remember (d : Int32) (u : sg_offsets) (p0 : Int32) : Option (sg_offsets) := (f_Math_floorMod u.2.2.2.1 (32 : Int32)).bind (fun q10 => (if (q10 < 0 ∨ 32 ≤ q10.toNatClampNeg) then none else some (u.1, u.2.1, upd u.2.2.1 q10.toNatClampNeg p0, u.2.2.2.1 + (1 : Int32), u.2.2.2.2)))
def rm_Offsets_remember : Room := { frames := 1, cells := 0, slots := 0, locals := 22 }
set_option maxRecDepth 100000 in
set_option maxHeartbeats 4000000 in
theorem c_Offsets_remember (l : Launch) (G : kx_G) (h : Nat) (sa : Nat) (d : Int32) (a_re : Nat) (a_sc_ : Nat) (u : sg_offsets) (p0 : Int32) (v : sg_offsets) (hF : f_Offsets_remember d u p0 = some v) : CtV l y_Offsets_remember b_Offsets_remember 2 rm_Offsets_remember G [.ref h, .int p0] [(h, .inr (6, [.int d, .ref sa, .int u.1, .ref a_re, .int u.2.2.2.1, .ref a_sc_, .int u.2.2.2.2.2.1, .int u.2.2.2.2.2.2.1, .int u.2.2.2.2.2.2.2])), (sa, .inl (G.2 0, 4, .inl u.2.1)), (a_re, .inl (G.2 0, 32, .inl u.2.2.1)), (a_sc_, .inl (G.2 0, 12, .inl u.2.2.2.2.1))] (fun w : sg_offsets => v = w) (fun w => [(h, .inr (6, [.int d, .ref sa, .int w.1, .ref a_re, .int w.2.2.2.1, .ref a_sc_, .int w.2.2.2.2.2.1, .int w.2.2.2.2.2.2.1, .int w.2.2.2.2.2.2.2])), (sa, .inl (G.2 0, 4, .inl w.2.1)), (a_re, .inl (G.2 0, 32, .inl w.2.2.1)), (a_sc_, .inl (G.2 0, 12, .inl w.2.2.2.2.1))]) 0 0 := by
  refine CtV.of (by decide) (Nat.le_of_ble_eq_true rfl) [(0, .ref h), (1, .int p0)] rfl ?_
  intro p e s m args below meth c A ls Q hQ S hr hlocks hin F w hl
  have S : CallFix p m c b_Offsets_remember 2 s args kx_T "PrefetchRules$Offsets" := S
  obtain ⟨hx, hb, hml, hown, hts⟩ := id S
  have w : kx_W G A s ([(h, .inr (6, [.int d, .ref sa, .int u.1, .ref a_re, .int u.2.2.2.1, .ref a_sc_, .int u.2.2.2.2.2.1, .int u.2.2.2.2.2.2.1, .int u.2.2.2.2.2.2.2])), (sa, .inl (G.2 0, 4, .inl u.2.1)), (a_re, .inl (G.2 0, 32, .inl u.2.2.1)), (a_sc_, .inl (G.2 0, 12, .inl u.2.2.2.2.1))] ++ []) s.heap [] := w
  unfold f_Offsets_remember at hF
  refine lv_aload_n hx hb d_Offsets_remember_0 rfl (lv_at hl 0 rfl) ?_
  refine kx_get S F w kc_Offsets 0 rfl 3 (by decide) kw_9b8d86ec1b rfl d_Offsets_remember_1 ?_
  refine lv_aload_n hx hb d_Offsets_remember_4 rfl (lv_at hl 0 rfl) ?_
  refine kx_get S F w kc_Offsets 0 rfl 4 (by decide) kw_0d61a6baf2 rfl d_Offsets_remember_5 ?_
  refine lv_bipush (v := (32 : Int32)) hx hb d_Offsets_remember_8 (by decide) ?_
  obtain ⟨q10, hq10, hF⟩ := kx_bd hF
  refine kx_ci (cx := []) (wr := [(h, .inr (6, [.int d, .ref sa, .int u.1, .ref a_re, .int u.2.2.2.1, .ref a_sc_, .int u.2.2.2.2.2.1, .int u.2.2.2.2.2.2.1, .int u.2.2.2.2.2.2.2])), (sa, .inl (G.2 0, 4, .inl u.2.1)), (a_re, .inl (G.2 0, 32, .inl u.2.2.1)), (a_sc_, .inl (G.2 0, 12, .inl u.2.2.2.2.1))]) F w [] [0, 1, 2, 3] rfl rfl rfl (by decide) (va_runS (As := [.int u.2.2.2.1, .int (32 : Int32)]) (rest := [.ref a_re]) S (c_Math_floorMod l G u.2.2.2.1 (32 : Int32) q10 hq10 _) (kx_cwS S ms_Math_floorMod kw_9c504fba95 ⟨rfl, rfl, Nat.le_of_ble_eq_true rfl, Nat.le_of_ble_eq_true rfl⟩) ⟨kx_blind _ _ _ _, kx_pre F w [] rfl rfl⟩ rfl rfl hl.1 rfl (lv_room (Nat.le_of_ble_eq_true rfl)) d_Offsets_remember_10 ⟨Nat.le_of_ble_eq_true rfl, Nat.le_of_ble_eq_true rfl⟩) (fun r10 w10 H locs hp w => ?_)
  subst hp
  have w : kx_W G A s ([(h, .inr (6, [.int d, .ref sa, .int u.1, .ref a_re, .int u.2.2.2.1, .ref a_sc_, .int u.2.2.2.2.2.1, .int u.2.2.2.2.2.2.1, .int u.2.2.2.2.2.2.2])), (sa, .inl (G.2 0, 4, .inl u.2.1)), (a_re, .inl (G.2 0, 32, .inl u.2.2.1)), (a_sc_, .inl (G.2 0, 12, .inl u.2.2.2.2.1))] ++ []) H locs := w
  refine lv_iload_n hx hb d_Offsets_remember_13 rfl (lv_at hl 1 rfl) ?_
  obtain ⟨hi14, hF⟩ := kx_ar hF
  refine kx_iast S F w 2 rfl hi14 d_Offsets_remember_14 (fun H locs w => ?_)
  have w : kx_W G A s ([(h, .inr (6, [.int d, .ref sa, .int u.1, .ref a_re, .int u.2.2.2.1, .ref a_sc_, .int u.2.2.2.2.2.1, .int u.2.2.2.2.2.2.1, .int u.2.2.2.2.2.2.2])), (sa, .inl (G.2 0, 4, .inl u.2.1)), (a_re, .inl (G.2 0, 32, .inl (upd u.2.2.1 q10.toNatClampNeg p0))), (a_sc_, .inl (G.2 0, 12, .inl u.2.2.2.2.1))] ++ []) H locs := w
  refine lv_aload_n hx hb d_Offsets_remember_15 rfl (lv_at hl 0 rfl) ?_
  refine lv_dup hx hb d_Offsets_remember_16 rfl ?_
  refine kx_get S F w kc_Offsets 0 rfl 4 (by decide) kw_0d61a6baf2 rfl d_Offsets_remember_17 ?_
  refine lv_iconst (v := (1 : Int32)) hx hb d_Offsets_remember_20 (by decide) ?_
  refine lv_iadd hx hb d_Offsets_remember_21 ?_
  refine kx_put S F w kc_Offsets 0 rfl 4 (by decide) kw_0d61a6baf2 rfl rfl rfl (Nat.le_of_ble_eq_true rfl) d_Offsets_remember_22 (fun H locs w => ?_)
  have w : kx_W G A s ([(h, .inr (6, [.int d, .ref sa, .int u.1, .ref a_re, .int (u.2.2.2.1 + (1 : Int32)), .ref a_sc_, .int u.2.2.2.2.2.1, .int u.2.2.2.2.2.2.1, .int u.2.2.2.2.2.2.2])), (sa, .inl (G.2 0, 4, .inl u.2.1)), (a_re, .inl (G.2 0, 32, .inl (upd u.2.2.1 q10.toNatClampNeg p0))), (a_sc_, .inl (G.2 0, 12, .inl u.2.2.2.2.1))] ++ []) H locs := w
  obtain rfl := Option.some.inj hF
  exact kx_vret hQ S hr hlocks w (xo := [(h, .inr (6, [.int d, .ref sa, .int u.1, .ref a_re, .int (u.2.2.2.1 + (1 : Int32)), .ref a_sc_, .int u.2.2.2.2.2.1, .int u.2.2.2.2.2.2.1, .int u.2.2.2.2.2.2.2])), (sa, .inl (G.2 0, 4, .inl u.2.1)), (a_re, .inl (G.2 0, 32, .inl (upd u.2.2.1 q10.toNatClampNeg p0))), (a_sc_, .inl (G.2 0, 12, .inl u.2.2.2.2.1))]) [0, 1, 2, 3] rfl rfl (u.1, u.2.1, upd u.2.2.1 q10.toNatClampNeg p0, u.2.2.2.1 + (1 : Int32), u.2.2.2.2) rfl rfl d_Offsets_remember_25
/-! Offsets_learn -/
def f_Offsets_learn (d : Int32) (u : sg_offsets) (p0 : Int32) (p1 : Int32) : Option (sg_offsets) := (f_Offsets_tryCandidate d u p1).bind (fun q2 => (if q2.2.2.2.2.2.2.1 = 0 then (f_Offsets_remember d q2 p1).bind (fun q23 => some q23) else (f_Rule_sayInSteps d (q2.1, q2.2.1) p1 q2.2.2.2.2.2.2.1).bind (fun q18 => (f_Offsets_remember d (q18.1, q18.2, q2.2.2) p1).bind (fun q23 => some q23))))
def rm_Offsets_learn : Room := { frames := 3, cells := 0, slots := 0, locals := 66 }
set_option maxRecDepth 100000 in
set_option maxHeartbeats 4000000 in
theorem c_Offsets_learn (l : Launch) (G : kx_G) (h : Nat) (sa : Nat) (d : Int32) (a_re : Nat) (a_sc_ : Nat) (u : sg_offsets) (p0 : Int32) (p1 : Int32) (v : sg_offsets) (hF : f_Offsets_learn d u p0 p1 = some v) : CtV l y_Offsets_learn b_Offsets_learn 3 rm_Offsets_learn G [.ref h, .int p0, .int p1] [(h, .inr (6, [.int d, .ref sa, .int u.1, .ref a_re, .int u.2.2.2.1, .ref a_sc_, .int u.2.2.2.2.2.1, .int u.2.2.2.2.2.2.1, .int u.2.2.2.2.2.2.2])), (sa, .inl (G.2 0, 4, .inl u.2.1)), (a_re, .inl (G.2 0, 32, .inl u.2.2.1)), (a_sc_, .inl (G.2 0, 12, .inl u.2.2.2.2.1))] (fun w : sg_offsets => v = w) (fun w => [(h, .inr (6, [.int d, .ref sa, .int w.1, .ref a_re, .int w.2.2.2.1, .ref a_sc_, .int w.2.2.2.2.2.1, .int w.2.2.2.2.2.2.1, .int w.2.2.2.2.2.2.2])), (sa, .inl (G.2 0, 4, .inl w.2.1)), (a_re, .inl (G.2 0, 32, .inl w.2.2.1)), (a_sc_, .inl (G.2 0, 12, .inl w.2.2.2.2.1))]) 0 0 := by
  refine CtV.of (by decide) (Nat.le_of_ble_eq_true rfl) [(0, .ref h), (1, .int p0), (2, .int p1)] rfl ?_
  intro p e s m args below meth c A ls Q hQ S hr hlocks hin F w hl
  have S : CallFix p m c b_Offsets_learn 3 s args kx_T "PrefetchRules$Offsets" := S
  obtain ⟨hx, hb, hml, hown, hts⟩ := id S
  have w : kx_W G A s ([(h, .inr (6, [.int d, .ref sa, .int u.1, .ref a_re, .int u.2.2.2.1, .ref a_sc_, .int u.2.2.2.2.2.1, .int u.2.2.2.2.2.2.1, .int u.2.2.2.2.2.2.2])), (sa, .inl (G.2 0, 4, .inl u.2.1)), (a_re, .inl (G.2 0, 32, .inl u.2.2.1)), (a_sc_, .inl (G.2 0, 12, .inl u.2.2.2.2.1))] ++ []) s.heap [] := w
  unfold f_Offsets_learn at hF
  refine lv_aload_n hx hb d_Offsets_learn_0 rfl (lv_at hl 0 rfl) ?_
  refine lv_iload_n hx hb d_Offsets_learn_1 rfl (lv_at hl 2 rfl) ?_
  obtain ⟨q2, hq2, hF⟩ := kx_bd hF
  refine kx_cv (cx := [(h, .inr (6, [.int d, .ref sa, .int u.1, .ref a_re, .int u.2.2.2.1, .ref a_sc_, .int u.2.2.2.2.2.1, .int u.2.2.2.2.2.2.1, .int u.2.2.2.2.2.2.2])), (sa, .inl (G.2 0, 4, .inl u.2.1)), (a_re, .inl (G.2 0, 32, .inl u.2.2.1)), (a_sc_, .inl (G.2 0, 12, .inl u.2.2.2.2.1))]) (wr := []) F w [0, 1, 2, 3] [] rfl rfl rfl (by decide) (va_runV (As := [.int p1]) (rest := []) S (c_Offsets_tryCandidate l G h sa d a_re a_sc_ u p1 q2 hq2 _) (kx_cwV S mv_Offsets_tryCandidate kw_a7d8ad1986 ⟨rfl, rfl, Nat.le_of_ble_eq_true rfl, Nat.le_of_ble_eq_true rfl⟩) ⟨kx_blind _ _ _ _, va_recv (q0 := 0) F.1.1 w.1 kc_Offsets.1 rfl, kx_pre F w [0, 1, 2, 3] rfl rfl⟩ rfl rfl hl.1 rfl (lv_room (Nat.le_of_ble_eq_true rfl)) d_Offsets_learn_2 ⟨Nat.le_of_ble_eq_true rfl, Nat.le_of_ble_eq_true rfl⟩) (fun w2 H locs hp w => ?_)
  subst hp
  have w : kx_W G A s ([(h, .inr (6, [.int d, .ref sa, .int q2.1, .ref a_re, .int q2.2.2.2.1, .ref a_sc_, .int q2.2.2.2.2.2.1, .int q2.2.2.2.2.2.2.1, .int q2.2.2.2.2.2.2.2])), (sa, .inl (G.2 0, 4, .inl q2.2.1)), (a_re, .inl (G.2 0, 32, .inl q2.2.2.1)), (a_sc_, .inl (G.2 0, 12, .inl q2.2.2.2.2.1))] ++ []) H locs := w
  refine lv_aload_n hx hb d_Offsets_learn_5 rfl (lv_at hl 0 rfl) ?_
  refine kx_get S F w kc_Offsets 0 rfl 7 (by decide) kw_d6fea5b7b4 rfl d_Offsets_learn_6 ?_
  refine lv_if_eq (tgt := 21) hx hb d_Offsets_learn_9 (by decide) (fun c9 => ?_) (fun c9 => ?_)
  · have hF := kx_t c9 hF
    refine lv_aload_n hx hb d_Offsets_learn_21 rfl (lv_at hl 0 rfl) ?_
    refine lv_iload_n hx hb d_Offsets_learn_22 rfl (lv_at hl 2 rfl) ?_
    obtain ⟨q23, hq23, hF⟩ := kx_bd hF
    refine kx_cv (cx := [(h, .inr (6, [.int d, .ref sa, .int q2.1, .ref a_re, .int q2.2.2.2.1, .ref a_sc_, .int q2.2.2.2.2.2.1, .int q2.2.2.2.2.2.2.1, .int q2.2.2.2.2.2.2.2])), (sa, .inl (G.2 0, 4, .inl q2.2.1)), (a_re, .inl (G.2 0, 32, .inl q2.2.2.1)), (a_sc_, .inl (G.2 0, 12, .inl q2.2.2.2.2.1))]) (wr := []) F w [0, 1, 2, 3] [] rfl rfl rfl (by decide) (va_runV (As := [.int p1]) (rest := []) S (c_Offsets_remember l G h sa d a_re a_sc_ q2 p1 q23 hq23 _) (kx_cwV S mv_Offsets_remember kw_74fdce4033 ⟨rfl, rfl, Nat.le_of_ble_eq_true rfl, Nat.le_of_ble_eq_true rfl⟩) ⟨kx_blind _ _ _ _, va_recv (q0 := 0) F.1.1 w.1 kc_Offsets.1 rfl, kx_pre F w [0, 1, 2, 3] rfl rfl⟩ rfl rfl hl.1 rfl (lv_room (Nat.le_of_ble_eq_true rfl)) d_Offsets_learn_23 ⟨Nat.le_of_ble_eq_true rfl, Nat.le_of_ble_eq_true rfl⟩) (fun w23 H locs hp w => ?_)
    subst hp
    have w : kx_W G A s ([(h, .inr (6, [.int d, .ref sa, .int q23.1, .ref a_re, .int q23.2.2.2.1, .ref a_sc_, .int q23.2.2.2.2.2.1, .int q23.2.2.2.2.2.2.1, .int q23.2.2.2.2.2.2.2])), (sa, .inl (G.2 0, 4, .inl q23.2.1)), (a_re, .inl (G.2 0, 32, .inl q23.2.2.1)), (a_sc_, .inl (G.2 0, 12, .inl q23.2.2.2.2.1))] ++ []) H locs := w
    obtain rfl := Option.some.inj hF
    exact kx_vret hQ S hr hlocks w (xo := [(h, .inr (6, [.int d, .ref sa, .int q23.1, .ref a_re, .int q23.2.2.2.1, .ref a_sc_, .int q23.2.2.2.2.2.1, .int q23.2.2.2.2.2.2.1, .int q23.2.2.2.2.2.2.2])), (sa, .inl (G.2 0, 4, .inl q23.2.1)), (a_re, .inl (G.2 0, 32, .inl q23.2.2.1)), (a_sc_, .inl (G.2 0, 12, .inl q23.2.2.2.2.1))]) [0, 1, 2, 3] rfl rfl q23 rfl rfl d_Offsets_learn_26
  · have hF := kx_f c9 hF
    refine lv_aload_n hx hb d_Offsets_learn_12 rfl (lv_at hl 0 rfl) ?_
    refine lv_iload_n hx hb d_Offsets_learn_13 rfl (lv_at hl 2 rfl) ?_
    refine lv_aload_n hx hb d_Offsets_learn_14 rfl (lv_at hl 0 rfl) ?_
    refine kx_get S F w kc_Offsets 0 rfl 7 (by decide) kw_d6fea5b7b4 rfl d_Offsets_learn_15 ?_
    obtain ⟨q18, hq18, hF⟩ := kx_bd hF
    refine kx_cv (cx := [(h, .inr (6, [.int d, .ref sa, .int q2.1, .ref a_re, .int q2.2.2.2.1, .ref a_sc_, .int q2.2.2.2.2.2.1, .int q2.2.2.2.2.2.2.1, .int q2.2.2.2.2.2.2.2])), (sa, .inl (G.2 0, 4, .inl q2.2.1))]) (wr := [(a_re, .inl (G.2 0, 32, .inl q2.2.2.1)), (a_sc_, .inl (G.2 0, 12, .inl q2.2.2.2.2.1))]) F w [0, 1] [2, 3] rfl rfl rfl (by decide) (va_runU (As := [.int p1, .int q2.2.2.2.2.2.2.1]) (rest := []) S (c_Rule_sayInSteps l G 6 ("PrefetchRules$Offsets") F_Offsets 9 t_Offsets h sa d ([.ref a_re, .int q2.2.2.2.1, .ref a_sc_, .int q2.2.2.2.2.2.1, .int q2.2.2.2.2.2.2.1, .int q2.2.2.2.2.2.2.2]) kr_Offsets (q2.1, q2.2.1) p1 q2.2.2.2.2.2.2.1 q18 hq18 _) (kx_cwU (n := 2) (x := ⟨"PrefetchRules$Offsets", "sayInSteps", "(II)V"⟩) S kw_115e75369b kw_d9085ad823 kw_b71057d6ca kw_3d3258c295 kw_9597fba511 kw_d0941c2f9e rfl (by decide +kernel) ⟨rfl, rfl, Nat.le_of_ble_eq_true rfl, Nat.le_of_ble_eq_true rfl⟩) ⟨kx_blind _ _ _ _, va_recv (q0 := 0) F.1.1 w.1 kc_Offsets.1 rfl, kx_pre F w [0, 1] rfl rfl⟩ rfl rfl hl.1 rfl (lv_room (Nat.le_of_ble_eq_true rfl)) d_Offsets_learn_18 ⟨Nat.le_of_ble_eq_true rfl, Nat.le_of_ble_eq_true rfl⟩) (fun w18 H locs hp w => ?_)
    subst hp
    have w : kx_W G A s ([(a_re, .inl (G.2 0, 32, .inl q2.2.2.1)), (a_sc_, .inl (G.2 0, 12, .inl q2.2.2.2.2.1)), (h, .inr (6, [.int d, .ref sa, .int q18.1, .ref a_re, .int q2.2.2.2.1, .ref a_sc_, .int q2.2.2.2.2.2.1, .int q2.2.2.2.2.2.2.1, .int q2.2.2.2.2.2.2.2])), (sa, .inl (G.2 0, 4, .inl q18.2))] ++ []) H locs := w
    refine lv_aload_n hx hb d_Offsets_learn_21 rfl (lv_at hl 0 rfl) ?_
    refine lv_iload_n hx hb d_Offsets_learn_22 rfl (lv_at hl 2 rfl) ?_
    obtain ⟨q23, hq23, hF⟩ := kx_bd hF
    refine kx_cv (cx := [(h, .inr (6, [.int d, .ref sa, .int q18.1, .ref a_re, .int q2.2.2.2.1, .ref a_sc_, .int q2.2.2.2.2.2.1, .int q2.2.2.2.2.2.2.1, .int q2.2.2.2.2.2.2.2])), (sa, .inl (G.2 0, 4, .inl q18.2)), (a_re, .inl (G.2 0, 32, .inl q2.2.2.1)), (a_sc_, .inl (G.2 0, 12, .inl q2.2.2.2.2.1))]) (wr := []) F w [2, 3, 0, 1] [] rfl rfl rfl (by decide) (va_runV (As := [.int p1]) (rest := []) S (c_Offsets_remember l G h sa d a_re a_sc_ (q18.1, q18.2, q2.2.2) p1 q23 hq23 _) (kx_cwV S mv_Offsets_remember kw_74fdce4033 ⟨rfl, rfl, Nat.le_of_ble_eq_true rfl, Nat.le_of_ble_eq_true rfl⟩) ⟨kx_blind _ _ _ _, va_recv (q0 := 2) F.1.1 w.1 kc_Offsets.1 rfl, kx_pre F w [2, 3, 0, 1] rfl rfl⟩ rfl rfl hl.1 rfl (lv_room (Nat.le_of_ble_eq_true rfl)) d_Offsets_learn_23 ⟨Nat.le_of_ble_eq_true rfl, Nat.le_of_ble_eq_true rfl⟩) (fun w23 H locs hp w => ?_)
    subst hp
    have w : kx_W G A s ([(h, .inr (6, [.int d, .ref sa, .int q23.1, .ref a_re, .int q23.2.2.2.1, .ref a_sc_, .int q23.2.2.2.2.2.1, .int q23.2.2.2.2.2.2.1, .int q23.2.2.2.2.2.2.2])), (sa, .inl (G.2 0, 4, .inl q23.2.1)), (a_re, .inl (G.2 0, 32, .inl q23.2.2.1)), (a_sc_, .inl (G.2 0, 12, .inl q23.2.2.2.2.1))] ++ []) H locs := w
    obtain rfl := Option.some.inj hF
    exact kx_vret hQ S hr hlocks w (xo := [(h, .inr (6, [.int d, .ref sa, .int q23.1, .ref a_re, .int q23.2.2.2.1, .ref a_sc_, .int q23.2.2.2.2.2.1, .int q23.2.2.2.2.2.2.1, .int q23.2.2.2.2.2.2.2])), (sa, .inl (G.2 0, 4, .inl q23.2.1)), (a_re, .inl (G.2 0, 32, .inl q23.2.2.1)), (a_sc_, .inl (G.2 0, 12, .inl q23.2.2.2.2.1))]) [0, 1, 2, 3] rfl rfl q23 rfl rfl d_Offsets_learn_26
/-! Offsets_knowledge -/
def f_Offsets_knowledge (d : Int32) (u : sg_offsets) (p0 : Int32) : Option (Int32) := some u.2.2.2.2.2.2.1
def rm_Offsets_knowledge : Room := { frames := 2, cells := 0, slots := 0, locals := 44 }
set_option maxRecDepth 100000 in
set_option maxHeartbeats 4000000 in
theorem c_Offsets_knowledge (l : Launch) (G : kx_G) (h : Nat) (sa : Nat) (d : Int32) (a_re : Nat) (a_sc_ : Nat) (u : sg_offsets) (p0 : Int32) (v : Int32) (hF : f_Offsets_knowledge d u p0 = some v) : CtI l y_Offsets_knowledge b_Offsets_knowledge 2 (some .int) rm_Offsets_knowledge G [.ref h, .int p0] [(h, .inr (6, [.int d, .ref sa, .int u.1, .ref a_re, .int u.2.2.2.1, .ref a_sc_, .int u.2.2.2.2.2.1, .int u.2.2.2.2.2.2.1, .int u.2.2.2.2.2.2.2])), (sa, .inl (G.2 0, 4, .inl u.2.1)), (a_re, .inl (G.2 0, 32, .inl u.2.2.1)), (a_sc_, .inl (G.2 0, 12, .inl u.2.2.2.2.1))] (fun (r : Int32) (_ : Unit) => v = r) (fun _ => [(h, .inr (6, [.int d, .ref sa, .int u.1, .ref a_re, .int u.2.2.2.1, .ref a_sc_, .int u.2.2.2.2.2.1, .int u.2.2.2.2.2.2.1, .int u.2.2.2.2.2.2.2])), (sa, .inl (G.2 0, 4, .inl u.2.1)), (a_re, .inl (G.2 0, 32, .inl u.2.2.1)), (a_sc_, .inl (G.2 0, 12, .inl u.2.2.2.2.1))]) 0 0 := by
  refine CtI.of (by decide) (Nat.le_of_ble_eq_true rfl) [(0, .ref h), (1, .int p0)] rfl ?_
  intro p e s m args below meth c A ls Q hQ S hr hlocks F w hl
  have S : CallFix p m c b_Offsets_knowledge 2 s args kx_T "PrefetchRules$Offsets" := S
  obtain ⟨hx, hb, hml, hown, hts⟩ := id S
  have w : kx_W G A s ([(h, .inr (6, [.int d, .ref sa, .int u.1, .ref a_re, .int u.2.2.2.1, .ref a_sc_, .int u.2.2.2.2.2.1, .int u.2.2.2.2.2.2.1, .int u.2.2.2.2.2.2.2])), (sa, .inl (G.2 0, 4, .inl u.2.1)), (a_re, .inl (G.2 0, 32, .inl u.2.2.1)), (a_sc_, .inl (G.2 0, 12, .inl u.2.2.2.2.1))] ++ []) s.heap [] := w
  unfold f_Offsets_knowledge at hF
  refine lv_aload_n hx hb d_Offsets_knowledge_0 rfl (lv_at hl 0 rfl) ?_
  refine kx_get S F w kc_Offsets 0 rfl 7 (by decide) kw_d6fea5b7b4 rfl d_Offsets_knowledge_1 ?_
  obtain rfl := Option.some.inj hF
  exact kx_iret hQ S hr hlocks w (xo := [(h, .inr (6, [.int d, .ref sa, .int u.1, .ref a_re, .int u.2.2.2.1, .ref a_sc_, .int u.2.2.2.2.2.1, .int u.2.2.2.2.2.2.1, .int u.2.2.2.2.2.2.2])), (sa, .inl (G.2 0, 4, .inl u.2.1)), (a_re, .inl (G.2 0, 32, .inl u.2.2.1)), (a_sc_, .inl (G.2 0, 12, .inl u.2.2.2.2.1))]) [0, 1, 2, 3] rfl rfl () rfl rfl d_Offsets_knowledge_4
/-! Offsets_confidence -/
def f_Offsets_confidence (d : Int32) (u : sg_offsets) (p0 : Int32) : Option (Int32) := (if p0 < 0 then some (0 : Int32) else (if (12 : Int32) ≤ p0 then some (0 : Int32) else (if (p0 < 0 ∨ 12 ≤ p0.toNatClampNeg) then none else some (u.2.2.2.2.1 p0.toNatClampNeg))))
def rm_Offsets_confidence : Room := { frames := 2, cells := 0, slots := 0, locals := 44 }
set_option maxRecDepth 100000 in
set_option maxHeartbeats 4000000 in
theorem c_Offsets_confidence (l : Launch) (G : kx_G) (h : Nat) (sa : Nat) (d : Int32) (a_re : Nat) (a_sc_ : Nat) (u : sg_offsets) (p0 : Int32) (v : Int32) (hF : f_Offsets_confidence d u p0 = some v) : CtI l y_Offsets_confidence b_Offsets_confidence 2 (some .int) rm_Offsets_confidence G [.ref h, .int p0] [(h, .inr (6, [.int d, .ref sa, .int u.1, .ref a_re, .int u.2.2.2.1, .ref a_sc_, .int u.2.2.2.2.2.1, .int u.2.2.2.2.2.2.1, .int u.2.2.2.2.2.2.2])), (sa, .inl (G.2 0, 4, .inl u.2.1)), (a_re, .inl (G.2 0, 32, .inl u.2.2.1)), (a_sc_, .inl (G.2 0, 12, .inl u.2.2.2.2.1))] (fun (r : Int32) (_ : Unit) => v = r) (fun _ => [(h, .inr (6, [.int d, .ref sa, .int u.1, .ref a_re, .int u.2.2.2.1, .ref a_sc_, .int u.2.2.2.2.2.1, .int u.2.2.2.2.2.2.1, .int u.2.2.2.2.2.2.2])), (sa, .inl (G.2 0, 4, .inl u.2.1)), (a_re, .inl (G.2 0, 32, .inl u.2.2.1)), (a_sc_, .inl (G.2 0, 12, .inl u.2.2.2.2.1))]) 0 0 := by
  refine CtI.of (by decide) (Nat.le_of_ble_eq_true rfl) [(0, .ref h), (1, .int p0)] rfl ?_
  intro p e s m args below meth c A ls Q hQ S hr hlocks F w hl
  have S : CallFix p m c b_Offsets_confidence 2 s args kx_T "PrefetchRules$Offsets" := S
  obtain ⟨hx, hb, hml, hown, hts⟩ := id S
  have w : kx_W G A s ([(h, .inr (6, [.int d, .ref sa, .int u.1, .ref a_re, .int u.2.2.2.1, .ref a_sc_, .int u.2.2.2.2.2.1, .int u.2.2.2.2.2.2.1, .int u.2.2.2.2.2.2.2])), (sa, .inl (G.2 0, 4, .inl u.2.1)), (a_re, .inl (G.2 0, 32, .inl u.2.2.1)), (a_sc_, .inl (G.2 0, 12, .inl u.2.2.2.2.1))] ++ []) s.heap [] := w
  unfold f_Offsets_confidence at hF
  refine lv_iload_n hx hb d_Offsets_confidence_0 rfl (lv_at hl 1 rfl) ?_
  refine lv_if_lt (tgt := 19) hx hb d_Offsets_confidence_1 (by decide) (fun c1 => ?_) (fun c1 => ?_)
  · have hF := kx_t c1 hF
    refine lv_iconst (v := (0 : Int32)) hx hb d_Offsets_confidence_19 (by decide) ?_
    obtain rfl := Option.some.inj hF
    exact kx_iret hQ S hr hlocks w (xo := [(h, .inr (6, [.int d, .ref sa, .int u.1, .ref a_re, .int u.2.2.2.1, .ref a_sc_, .int u.2.2.2.2.2.1, .int u.2.2.2.2.2.2.1, .int u.2.2.2.2.2.2.2])), (sa, .inl (G.2 0, 4, .inl u.2.1)), (a_re, .inl (G.2 0, 32, .inl u.2.2.1)), (a_sc_, .inl (G.2 0, 12, .inl u.2.2.2.2.1))]) [0, 1, 2, 3] rfl rfl () rfl rfl d_Offsets_confidence_20
  · have hF := kx_f c1 hF
    refine lv_iload_n hx hb d_Offsets_confidence_4 rfl (lv_at hl 1 rfl) ?_
    refine lv_bipush (v := (12 : Int32)) hx hb d_Offsets_confidence_5 (by decide) ?_
    refine lv_icmp_ge (tgt := 19) hx hb d_Offsets_confidence_7 (by decide) (fun c7 => ?_) (fun c7 => ?_)
    · have hF := kx_t c7 hF
      refine lv_iconst (v := (0 : Int32)) hx hb d_Offsets_confidence_19 (by decide) ?_
      obtain rfl := Option.some.inj hF
      exact kx_iret hQ S hr hlocks w (xo := [(h, .inr (6, [.int d, .ref sa, .int u.1, .ref a_re, .int u.2.2.2.1, .ref a_sc_, .int u.2.2.2.2.2.1, .int u.2.2.2.2.2.2.1, .int u.2.2.2.2.2.2.2])), (sa, .inl (G.2 0, 4, .inl u.2.1)), (a_re, .inl (G.2 0, 32, .inl u.2.2.1)), (a_sc_, .inl (G.2 0, 12, .inl u.2.2.2.2.1))]) [0, 1, 2, 3] rfl rfl () rfl rfl d_Offsets_confidence_20
    · have hF := kx_f c7 hF
      refine lv_aload_n hx hb d_Offsets_confidence_10 rfl (lv_at hl 0 rfl) ?_
      refine kx_get S F w kc_Offsets 0 rfl 5 (by decide) kw_475ebff9be rfl d_Offsets_confidence_11 ?_
      refine lv_iload_n hx hb d_Offsets_confidence_14 rfl (lv_at hl 1 rfl) ?_
      obtain ⟨hi15, hF⟩ := kx_ar hF
      refine kx_iald S F w 3 rfl hi15 d_Offsets_confidence_15 ?_
      refine lv_goto (tgt := 20) hx hb d_Offsets_confidence_16 (by decide) ?_
      obtain rfl := Option.some.inj hF
      exact kx_iret hQ S hr hlocks w (xo := [(h, .inr (6, [.int d, .ref sa, .int u.1, .ref a_re, .int u.2.2.2.1, .ref a_sc_, .int u.2.2.2.2.2.1, .int u.2.2.2.2.2.2.1, .int u.2.2.2.2.2.2.2])), (sa, .inl (G.2 0, 4, .inl u.2.1)), (a_re, .inl (G.2 0, 32, .inl u.2.2.1)), (a_sc_, .inl (G.2 0, 12, .inl u.2.2.2.2.1))]) [0, 1, 2, 3] rfl rfl () rfl rfl d_Offsets_confidence_20
/-! Offsets_roundCount -/
def f_Offsets_roundCount (d : Int32) (u : sg_offsets) : Option (Int32) := some u.2.2.2.2.2.2.2
def rm_Offsets_roundCount : Room := { frames := 0, cells := 0, slots := 0, locals := 0 }
set_option maxRecDepth 100000 in
set_option maxHeartbeats 4000000 in
theorem c_Offsets_roundCount (l : Launch) (G : kx_G) (h : Nat) (sa : Nat) (d : Int32) (a_re : Nat) (a_sc_ : Nat) (u : sg_offsets) (v : Int32) (hF : f_Offsets_roundCount d u = some v) : CtI l y_Offsets_roundCount b_Offsets_roundCount 1 (some .int) rm_Offsets_roundCount G [.ref h] [(h, .inr (6, [.int d, .ref sa, .int u.1, .ref a_re, .int u.2.2.2.1, .ref a_sc_, .int u.2.2.2.2.2.1, .int u.2.2.2.2.2.2.1, .int u.2.2.2.2.2.2.2])), (sa, .inl (G.2 0, 4, .inl u.2.1)), (a_re, .inl (G.2 0, 32, .inl u.2.2.1)), (a_sc_, .inl (G.2 0, 12, .inl u.2.2.2.2.1))] (fun (r : Int32) (_ : Unit) => v = r) (fun _ => [(h, .inr (6, [.int d, .ref sa, .int u.1, .ref a_re, .int u.2.2.2.1, .ref a_sc_, .int u.2.2.2.2.2.1, .int u.2.2.2.2.2.2.1, .int u.2.2.2.2.2.2.2])), (sa, .inl (G.2 0, 4, .inl u.2.1)), (a_re, .inl (G.2 0, 32, .inl u.2.2.1)), (a_sc_, .inl (G.2 0, 12, .inl u.2.2.2.2.1))]) 0 0 := by
  refine CtI.of (by decide) (Nat.le_of_ble_eq_true rfl) [(0, .ref h)] rfl ?_
  intro p e s m args below meth c A ls Q hQ S hr hlocks F w hl
  have S : CallFix p m c b_Offsets_roundCount 1 s args kx_T "PrefetchRules$Offsets" := S
  obtain ⟨hx, hb, hml, hown, hts⟩ := id S
  have w : kx_W G A s ([(h, .inr (6, [.int d, .ref sa, .int u.1, .ref a_re, .int u.2.2.2.1, .ref a_sc_, .int u.2.2.2.2.2.1, .int u.2.2.2.2.2.2.1, .int u.2.2.2.2.2.2.2])), (sa, .inl (G.2 0, 4, .inl u.2.1)), (a_re, .inl (G.2 0, 32, .inl u.2.2.1)), (a_sc_, .inl (G.2 0, 12, .inl u.2.2.2.2.1))] ++ []) s.heap [] := w
  unfold f_Offsets_roundCount at hF
  refine lv_aload_n hx hb d_Offsets_roundCount_0 rfl (lv_at hl 0 rfl) ?_
  refine kx_get S F w kc_Offsets 0 rfl 8 (by decide) kw_613fb059bc rfl d_Offsets_roundCount_1 ?_
  obtain rfl := Option.some.inj hF
  exact kx_iret hQ S hr hlocks w (xo := [(h, .inr (6, [.int d, .ref sa, .int u.1, .ref a_re, .int u.2.2.2.1, .ref a_sc_, .int u.2.2.2.2.2.1, .int u.2.2.2.2.2.2.1, .int u.2.2.2.2.2.2.2])), (sa, .inl (G.2 0, 4, .inl u.2.1)), (a_re, .inl (G.2 0, 32, .inl u.2.2.1)), (a_sc_, .inl (G.2 0, 12, .inl u.2.2.2.2.1))]) [0, 1, 2, 3] rfl rfl () rfl rfl d_Offsets_roundCount_4
/-! Offsets_hear -/
def f_Offsets_hear (d : Int32) (u : sg_offsets) (p0 : Int32) (p1 : Int32) : Option (sg_offsets) := (f_Offsets_learn d ((0 : Int32), u.2) p0 p1).bind (fun q8 => some q8)
def rm_Offsets_hear : Room := { frames := 4, cells := 0, slots := 0, locals := 90 }
set_option maxRecDepth 100000 in
set_option maxHeartbeats 4000000 in
theorem c_Offsets_hear (l : Launch) (G : kx_G) (h : Nat) (sa : Nat) (d : Int32) (a_re : Nat) (a_sc_ : Nat) (u : sg_offsets) (p0 : Int32) (p1 : Int32) (v : sg_offsets) (hF : f_Offsets_hear d u p0 p1 = some v) : CtV l y_Rule_hear b_Rule_hear 3 rm_Offsets_hear G [.ref h, .int p0, .int p1] [(h, .inr (6, [.int d, .ref sa, .int u.1, .ref a_re, .int u.2.2.2.1, .ref a_sc_, .int u.2.2.2.2.2.1, .int u.2.2.2.2.2.2.1, .int u.2.2.2.2.2.2.2])), (sa, .inl (G.2 0, 4, .inl u.2.1)), (a_re, .inl (G.2 0, 32, .inl u.2.2.1)), (a_sc_, .inl (G.2 0, 12, .inl u.2.2.2.2.1))] (fun w : sg_offsets => v = w) (fun w => [(h, .inr (6, [.int d, .ref sa, .int w.1, .ref a_re, .int w.2.2.2.1, .ref a_sc_, .int w.2.2.2.2.2.1, .int w.2.2.2.2.2.2.1, .int w.2.2.2.2.2.2.2])), (sa, .inl (G.2 0, 4, .inl w.2.1)), (a_re, .inl (G.2 0, 32, .inl w.2.2.1)), (a_sc_, .inl (G.2 0, 12, .inl w.2.2.2.2.1))]) 0 0 := by
  refine CtV.of (by decide) (Nat.le_of_ble_eq_true rfl) [(0, .ref h), (1, .int p0), (2, .int p1)] rfl ?_
  intro p e s m args below meth c A ls Q hQ S hr hlocks hin F w hl
  have S : CallFix p m c b_Rule_hear 3 s args kx_T "PrefetchRules$Rule" := S
  obtain ⟨hx, hb, hml, hown, hts⟩ := id S
  have w : kx_W G A s ([(h, .inr (6, [.int d, .ref sa, .int u.1, .ref a_re, .int u.2.2.2.1, .ref a_sc_, .int u.2.2.2.2.2.1, .int u.2.2.2.2.2.2.1, .int u.2.2.2.2.2.2.2])), (sa, .inl (G.2 0, 4, .inl u.2.1)), (a_re, .inl (G.2 0, 32, .inl u.2.2.1)), (a_sc_, .inl (G.2 0, 12, .inl u.2.2.2.2.1))] ++ []) s.heap [] := w
  unfold f_Offsets_hear at hF
  refine lv_aload_n hx hb d_Rule_hear_0 rfl (lv_at hl 0 rfl) ?_
  refine lv_iconst (v := (0 : Int32)) hx hb d_Rule_hear_1 (by decide) ?_
  refine kx_put S F w kc_Offsets 0 rfl 2 (by decide) kw_f28b66b365 rfl rfl rfl (Nat.le_of_ble_eq_true rfl) d_Rule_hear_2 (fun H locs w => ?_)
  have w : kx_W G A s ([(h, .inr (6, [.int d, .ref sa, .int (0 : Int32), .ref a_re, .int u.2.2.2.1, .ref a_sc_, .int u.2.2.2.2.2.1, .int u.2.2.2.2.2.2.1, .int u.2.2.2.2.2.2.2])), (sa, .inl (G.2 0, 4, .inl u.2.1)), (a_re, .inl (G.2 0, 32, .inl u.2.2.1)), (a_sc_, .inl (G.2 0, 12, .inl u.2.2.2.2.1))] ++ []) H locs := w
  refine lv_aload_n hx hb d_Rule_hear_5 rfl (lv_at hl 0 rfl) ?_
  refine lv_iload_n hx hb d_Rule_hear_6 rfl (lv_at hl 1 rfl) ?_
  refine lv_iload_n hx hb d_Rule_hear_7 rfl (lv_at hl 2 rfl) ?_
  obtain ⟨q8, hq8, hF⟩ := kx_bd hF
  refine kx_cv (cx := [(h, .inr (6, [.int d, .ref sa, .int (0 : Int32), .ref a_re, .int u.2.2.2.1, .ref a_sc_, .int u.2.2.2.2.2.1, .int u.2.2.2.2.2.2.1, .int u.2.2.2.2.2.2.2])), (sa, .inl (G.2 0, 4, .inl u.2.1)), (a_re, .inl (G.2 0, 32, .inl u.2.2.1)), (a_sc_, .inl (G.2 0, 12, .inl u.2.2.2.2.1))]) (wr := []) F w [0, 1, 2, 3] [] rfl rfl rfl (by decide) (va_runU (As := [.int p0, .int p1]) (rest := []) S (c_Offsets_learn l G h sa d a_re a_sc_ ((0 : Int32), u.2) p0 p1 q8 hq8 _) (kx_cwA (n := 2) (x := ⟨"PrefetchRules$Rule", "learn", "(II)V"⟩) S F kw_8bab490cda kw_812921046e kw_4987ac2f73 kw_6f5ca0bbe0 kw_8742040c40 kw_f5f3fdc6db kw_498ee79c2d (by decide +kernel) ⟨rfl, rfl, Nat.le_of_ble_eq_true rfl, Nat.le_of_ble_eq_true rfl⟩) ⟨kx_blind _ _ _ _, va_recv (q0 := 0) F.1.1 w.1 kc_Offsets.1 rfl, kx_pre F w [0, 1, 2, 3] rfl rfl⟩ rfl rfl hl.1 rfl (lv_room (Nat.le_of_ble_eq_true rfl)) d_Rule_hear_8 ⟨Nat.le_of_ble_eq_true rfl, Nat.le_of_ble_eq_true rfl⟩) (fun w8 H locs hp w => ?_)
  subst hp
  have w : kx_W G A s ([(h, .inr (6, [.int d, .ref sa, .int q8.1, .ref a_re, .int q8.2.2.2.1, .ref a_sc_, .int q8.2.2.2.2.2.1, .int q8.2.2.2.2.2.2.1, .int q8.2.2.2.2.2.2.2])), (sa, .inl (G.2 0, 4, .inl q8.2.1)), (a_re, .inl (G.2 0, 32, .inl q8.2.2.1)), (a_sc_, .inl (G.2 0, 12, .inl q8.2.2.2.2.1))] ++ []) H locs := w
  obtain rfl := Option.some.inj hF
  exact kx_vret hQ S hr hlocks w (xo := [(h, .inr (6, [.int d, .ref sa, .int q8.1, .ref a_re, .int q8.2.2.2.1, .ref a_sc_, .int q8.2.2.2.2.2.1, .int q8.2.2.2.2.2.2.1, .int q8.2.2.2.2.2.2.2])), (sa, .inl (G.2 0, 4, .inl q8.2.1)), (a_re, .inl (G.2 0, 32, .inl q8.2.2.1)), (a_sc_, .inl (G.2 0, 12, .inl q8.2.2.2.2.1))]) [0, 1, 2, 3] rfl rfl q8 rfl rfl d_Rule_hear_11
/-! Offsets_saidCount -/
def f_Offsets_saidCount (d : Int32) (u : sg_offsets) : Option (Int32) := some u.1
def rm_Offsets_saidCount : Room := { frames := 0, cells := 0, slots := 0, locals := 0 }
set_option maxRecDepth 100000 in
set_option maxHeartbeats 4000000 in
theorem c_Offsets_saidCount (l : Launch) (G : kx_G) (h : Nat) (sa : Nat) (d : Int32) (a_re : Nat) (a_sc_ : Nat) (u : sg_offsets) (v : Int32) (hF : f_Offsets_saidCount d u = some v) : CtI l y_Rule_saidCount b_Rule_saidCount 1 (some .int) rm_Offsets_saidCount G [.ref h] [(h, .inr (6, [.int d, .ref sa, .int u.1, .ref a_re, .int u.2.2.2.1, .ref a_sc_, .int u.2.2.2.2.2.1, .int u.2.2.2.2.2.2.1, .int u.2.2.2.2.2.2.2])), (sa, .inl (G.2 0, 4, .inl u.2.1)), (a_re, .inl (G.2 0, 32, .inl u.2.2.1)), (a_sc_, .inl (G.2 0, 12, .inl u.2.2.2.2.1))] (fun (r : Int32) (_ : Unit) => v = r) (fun _ => [(h, .inr (6, [.int d, .ref sa, .int u.1, .ref a_re, .int u.2.2.2.1, .ref a_sc_, .int u.2.2.2.2.2.1, .int u.2.2.2.2.2.2.1, .int u.2.2.2.2.2.2.2])), (sa, .inl (G.2 0, 4, .inl u.2.1)), (a_re, .inl (G.2 0, 32, .inl u.2.2.1)), (a_sc_, .inl (G.2 0, 12, .inl u.2.2.2.2.1))]) 0 0 := by
  refine CtI.of (by decide) (Nat.le_of_ble_eq_true rfl) [(0, .ref h)] rfl ?_
  intro p e s m args below meth c A ls Q hQ S hr hlocks F w hl
  have S : CallFix p m c b_Rule_saidCount 1 s args kx_T "PrefetchRules$Rule" := S
  obtain ⟨hx, hb, hml, hown, hts⟩ := id S
  have w : kx_W G A s ([(h, .inr (6, [.int d, .ref sa, .int u.1, .ref a_re, .int u.2.2.2.1, .ref a_sc_, .int u.2.2.2.2.2.1, .int u.2.2.2.2.2.2.1, .int u.2.2.2.2.2.2.2])), (sa, .inl (G.2 0, 4, .inl u.2.1)), (a_re, .inl (G.2 0, 32, .inl u.2.2.1)), (a_sc_, .inl (G.2 0, 12, .inl u.2.2.2.2.1))] ++ []) s.heap [] := w
  unfold f_Offsets_saidCount at hF
  refine lv_aload_n hx hb d_Rule_saidCount_0 rfl (lv_at hl 0 rfl) ?_
  refine kx_get S F w kc_Offsets 0 rfl 2 (by decide) kw_f28b66b365 rfl d_Rule_saidCount_1 ?_
  obtain rfl := Option.some.inj hF
  exact kx_iret hQ S hr hlocks w (xo := [(h, .inr (6, [.int d, .ref sa, .int u.1, .ref a_re, .int u.2.2.2.1, .ref a_sc_, .int u.2.2.2.2.2.1, .int u.2.2.2.2.2.2.1, .int u.2.2.2.2.2.2.2])), (sa, .inl (G.2 0, 4, .inl u.2.1)), (a_re, .inl (G.2 0, 32, .inl u.2.2.1)), (a_sc_, .inl (G.2 0, 12, .inl u.2.2.2.2.1))]) [0, 1, 2, 3] rfl rfl () rfl rfl d_Rule_saidCount_4
/-! Offsets_saidLine -/
def f_Offsets_saidLine (d : Int32) (u : sg_offsets) (p0 : Int32) : Option (Int32) := (if p0 < 0 then some (-1 : Int32) else (if u.1 ≤ p0 then some (-1 : Int32) else (if (nI 4) ≤ p0 then some (-1 : Int32) else (if (p0 < 0 ∨ 4 ≤ p0.toNatClampNeg) then none else some (u.2.1 p0.toNatClampNeg)))))
def rm_Offsets_saidLine : Room := { frames := 0, cells := 0, slots := 0, locals := 0 }
set_option maxRecDepth 100000 in
set_option maxHeartbeats 4000000 in
theorem c_Offsets_saidLine (l : Launch) (G : kx_G) (h : Nat) (sa : Nat) (d : Int32) (a_re : Nat) (a_sc_ : Nat) (u : sg_offsets) (p0 : Int32) (v : Int32) (hF : f_Offsets_saidLine d u p0 = some v) : CtI l y_Rule_saidLine b_Rule_saidLine 2 (some .int) rm_Offsets_saidLine G [.ref h, .int p0] [(h, .inr (6, [.int d, .ref sa, .int u.1, .ref a_re, .int u.2.2.2.1, .ref a_sc_, .int u.2.2.2.2.2.1, .int u.2.2.2.2.2.2.1, .int u.2.2.2.2.2.2.2])), (sa, .inl (G.2 0, 4, .inl u.2.1)), (a_re, .inl (G.2 0, 32, .inl u.2.2.1)), (a_sc_, .inl (G.2 0, 12, .inl u.2.2.2.2.1))] (fun (r : Int32) (_ : Unit) => v = r) (fun _ => [(h, .inr (6, [.int d, .ref sa, .int u.1, .ref a_re, .int u.2.2.2.1, .ref a_sc_, .int u.2.2.2.2.2.1, .int u.2.2.2.2.2.2.1, .int u.2.2.2.2.2.2.2])), (sa, .inl (G.2 0, 4, .inl u.2.1)), (a_re, .inl (G.2 0, 32, .inl u.2.2.1)), (a_sc_, .inl (G.2 0, 12, .inl u.2.2.2.2.1))]) 0 0 := by
  refine CtI.of (by decide) (Nat.le_of_ble_eq_true rfl) [(0, .ref h), (1, .int p0)] rfl ?_
  intro p e s m args below meth c A ls Q hQ S hr hlocks F w hl
  have S : CallFix p m c b_Rule_saidLine 2 s args kx_T "PrefetchRules$Rule" := S
  obtain ⟨hx, hb, hml, hown, hts⟩ := id S
  have w : kx_W G A s ([(h, .inr (6, [.int d, .ref sa, .int u.1, .ref a_re, .int u.2.2.2.1, .ref a_sc_, .int u.2.2.2.2.2.1, .int u.2.2.2.2.2.2.1, .int u.2.2.2.2.2.2.2])), (sa, .inl (G.2 0, 4, .inl u.2.1)), (a_re, .inl (G.2 0, 32, .inl u.2.2.1)), (a_sc_, .inl (G.2 0, 12, .inl u.2.2.2.2.1))] ++ []) s.heap [] := w
  unfold f_Offsets_saidLine at hF
  refine lv_iload_n hx hb d_Rule_saidLine_0 rfl (lv_at hl 1 rfl) ?_
  refine lv_if_lt (tgt := 30) hx hb d_Rule_saidLine_1 (by decide) (fun c1 => ?_) (fun c1 => ?_)
  · have hF := kx_t c1 hF
    refine lv_iconst (v := (-1 : Int32)) hx hb d_Rule_saidLine_30 (by decide) ?_
    obtain rfl := Option.some.inj hF
    exact kx_iret hQ S hr hlocks w (xo := [(h, .inr (6, [.int d, .ref sa, .int u.1, .ref a_re, .int u.2.2.2.1, .ref a_sc_, .int u.2.2.2.2.2.1, .int u.2.2.2.2.2.2.1, .int u.2.2.2.2.2.2.2])), (sa, .inl (G.2 0, 4, .inl u.2.1)), (a_re, .inl (G.2 0, 32, .inl u.2.2.1)), (a_sc_, .inl (G.2 0, 12, .inl u.2.2.2.2.1))]) [0, 1, 2, 3] rfl rfl () rfl rfl d_Rule_saidLine_31
  · have hF := kx_f c1 hF
    refine lv_iload_n hx hb d_Rule_saidLine_4 rfl (lv_at hl 1 rfl) ?_
    refine lv_aload_n hx hb d_Rule_saidLine_5 rfl (lv_at hl 0 rfl) ?_
    refine kx_get S F w kc_Offsets 0 rfl 2 (by decide) kw_f28b66b365 rfl d_Rule_saidLine_6 ?_
    refine lv_icmp_ge (tgt := 30) hx hb d_Rule_saidLine_9 (by decide) (fun c9 => ?_) (fun c9 => ?_)
    · have hF := kx_t c9 hF
      refine lv_iconst (v := (-1 : Int32)) hx hb d_Rule_saidLine_30 (by decide) ?_
      obtain rfl := Option.some.inj hF
      exact kx_iret hQ S hr hlocks w (xo := [(h, .inr (6, [.int d, .ref sa, .int u.1, .ref a_re, .int u.2.2.2.1, .ref a_sc_, .int u.2.2.2.2.2.1, .int u.2.2.2.2.2.2.1, .int u.2.2.2.2.2.2.2])), (sa, .inl (G.2 0, 4, .inl u.2.1)), (a_re, .inl (G.2 0, 32, .inl u.2.2.1)), (a_sc_, .inl (G.2 0, 12, .inl u.2.2.2.2.1))]) [0, 1, 2, 3] rfl rfl () rfl rfl d_Rule_saidLine_31
    · have hF := kx_f c9 hF
      refine lv_iload_n hx hb d_Rule_saidLine_12 rfl (lv_at hl 1 rfl) ?_
      refine lv_aload_n hx hb d_Rule_saidLine_13 rfl (lv_at hl 0 rfl) ?_
      refine kx_get S F w kc_Offsets 0 rfl 1 (by decide) kw_266785f3c2 rfl d_Rule_saidLine_14 ?_
      refine kx_alen S F w 1 0 rfl rfl d_Rule_saidLine_17 ?_
      refine lv_icmp_ge (tgt := 30) hx hb d_Rule_saidLine_18 (by decide) (fun c18 => ?_) (fun c18 => ?_)
      · have hF := kx_t c18 hF
        refine lv_iconst (v := (-1 : Int32)) hx hb d_Rule_saidLine_30 (by decide) ?_
        obtain rfl := Option.some.inj hF
        exact kx_iret hQ S hr hlocks w (xo := [(h, .inr (6, [.int d, .ref sa, .int u.1, .ref a_re, .int u.2.2.2.1, .ref a_sc_, .int u.2.2.2.2.2.1, .int u.2.2.2.2.2.2.1, .int u.2.2.2.2.2.2.2])), (sa, .inl (G.2 0, 4, .inl u.2.1)), (a_re, .inl (G.2 0, 32, .inl u.2.2.1)), (a_sc_, .inl (G.2 0, 12, .inl u.2.2.2.2.1))]) [0, 1, 2, 3] rfl rfl () rfl rfl d_Rule_saidLine_31
      · have hF := kx_f c18 hF
        refine lv_aload_n hx hb d_Rule_saidLine_21 rfl (lv_at hl 0 rfl) ?_
        refine kx_get S F w kc_Offsets 0 rfl 1 (by decide) kw_266785f3c2 rfl d_Rule_saidLine_22 ?_
        refine lv_iload_n hx hb d_Rule_saidLine_25 rfl (lv_at hl 1 rfl) ?_
        obtain ⟨hi26, hF⟩ := kx_ar hF
        refine kx_iald S F w 1 rfl hi26 d_Rule_saidLine_26 ?_
        refine lv_goto (tgt := 31) hx hb d_Rule_saidLine_27 (by decide) ?_
        obtain rfl := Option.some.inj hF
        exact kx_iret hQ S hr hlocks w (xo := [(h, .inr (6, [.int d, .ref sa, .int u.1, .ref a_re, .int u.2.2.2.1, .ref a_sc_, .int u.2.2.2.2.2.1, .int u.2.2.2.2.2.2.1, .int u.2.2.2.2.2.2.2])), (sa, .inl (G.2 0, 4, .inl u.2.1)), (a_re, .inl (G.2 0, 32, .inl u.2.2.1)), (a_sc_, .inl (G.2 0, 12, .inl u.2.2.2.2.1))]) [0, 1, 2, 3] rfl rfl () rfl rfl d_Rule_saidLine_31
/-! Offsets_init -/
def rm_Offsets_init : Room := { frames := 2, cells := 3, slots := 48, locals := 41 }
set_option maxRecDepth 100000 in
set_option maxHeartbeats 4000000 in
theorem c_Offsets_init (l : Launch) (G : kx_G) (h : Nat) (p0 : Int32) : CtV l y_Offsets_init b_Offsets_init 2 rm_Offsets_init G [.ref h, .int p0] [(h, .inr (6, [.int 0, .null, .int 0, .null, .int 0, .null, .int 0, .int 0, .int 0]))] (fun (_ : Nat × Nat × Nat) => True) (fun w => [(h, .inr (6, [.int p0, .ref w.1, .int 0, .ref w.2.1, .int 0, .ref w.2.2, .int 0, .int (1 : Int32), .int 0])), (w.1, .inl (G.2 0, 4, .inl (fun _ => 0))), (w.2.1, .inl (G.2 0, 32, .inl (fun _ => 0))), (w.2.2, .inl (G.2 0, 12, .inl (fun _ => 0)))]) 3 48 := by
  refine CtV.of (by decide) (Nat.le_of_ble_eq_true rfl) [(0, .ref h), (1, .int p0)] rfl ?_
  intro p e s m args below meth c A ls Q hQ S hr hlocks hin F w hl
  have S : CallFix p m c b_Offsets_init 2 s args kx_T "PrefetchRules$Offsets" := S
  obtain ⟨hx, hb, hml, hown, hts⟩ := id S
  have w : kx_W G A s ([(h, .inr (6, [.int 0, .null, .int 0, .null, .int 0, .null, .int 0, .int 0, .int 0]))] ++ []) s.heap [] := w
  refine lv_aload_n hx hb d_Offsets_init_0 rfl (lv_at hl 0 rfl) ?_
  refine lv_iload_n hx hb d_Offsets_init_1 rfl (lv_at hl 1 rfl) ?_
  refine kx_cv (cx := [(h, .inr (6, [.int 0, .null, .int 0, .null, .int 0, .null, .int 0, .int 0, .int 0]))]) (wr := []) F w [0] [] rfl rfl rfl (by decide) (va_runI (As := [.int p0]) (rest := []) S (c_Rule_init l G 6 ("PrefetchRules$Offsets") F_Offsets 9 t_Offsets h ([.null, .int 0, .null, .int 0, .int 0, .int 0]) kr_Offsets p0 _) (kx_cwI S mi_Rule_init kw_1bee552ed2 ⟨rfl, rfl, Nat.le_of_ble_eq_true rfl, Nat.le_of_ble_eq_true rfl⟩) ⟨kx_blind _ _ _ _, kx_pre F w [0] rfl rfl⟩ rfl rfl hl.1 rfl (lv_room (Nat.le_of_ble_eq_true rfl)) d_Offsets_init_2 ⟨Nat.le_of_ble_eq_true rfl, Nat.le_of_ble_eq_true rfl⟩) (fun w2 H locs hp w => ?_)
  have w : kx_W G A s ([(h, .inr (6, [.int p0, .ref w2, .int 0, .null, .int 0, .null, .int 0, .int 0, .int 0])), (w2, .inl (G.2 0, 4, .inl (fun _ => 0)))] ++ []) H locs := w
  refine lv_aload_n hx hb d_Offsets_init_5 rfl (lv_at hl 0 rfl) ?_
  refine lv_bipush (v := (32 : Int32)) hx hb d_Offsets_init_6 (by decide) ?_
  refine kx_newi S F w kw_32e41f54b3 (N' := 32) (by decide) (by decide) (by decide) (Nat.le_of_ble_eq_true rfl) (Nat.le_of_ble_eq_true rfl) d_Offsets_init_8 (fun b8 H w => ?_)
  have w : kx_W G A s ([(h, .inr (6, [.int p0, .ref w2, .int 0, .null, .int 0, .null, .int 0, .int 0, .int 0])), (w2, .inl (G.2 0, 4, .inl (fun _ => 0))), (b8, .inl (G.2 0, 32, .inl (fun _ => 0)))] ++ []) H locs := w
  refine kx_putF S F w kc_Offsets 0 rfl 3 (by decide) kw_9b8d86ec1b rfl hin rfl rfl rfl (Nat.le_of_ble_eq_true rfl) d_Offsets_init_10 (fun H locs w => ?_)
  have w : kx_W G A s ([(h, .inr (6, [.int p0, .ref w2, .int 0, .ref b8, .int 0, .null, .int 0, .int 0, .int 0])), (w2, .inl (G.2 0, 4, .inl (fun _ => 0))), (b8, .inl (G.2 0, 32, .inl (fun _ => 0)))] ++ []) H locs := w
  refine lv_aload_n hx hb d_Offsets_init_13 rfl (lv_at hl 0 rfl) ?_
  refine lv_bipush (v := (12 : Int32)) hx hb d_Offsets_init_14 (by decide) ?_
  refine kx_newi S F w kw_32e41f54b3 (N' := 12) (by decide) (by decide) (by decide) (Nat.le_of_ble_eq_true rfl) (Nat.le_of_ble_eq_true rfl) d_Offsets_init_16 (fun b16 H w => ?_)
  have w : kx_W G A s ([(h, .inr (6, [.int p0, .ref w2, .int 0, .ref b8, .int 0, .null, .int 0, .int 0, .int 0])), (w2, .inl (G.2 0, 4, .inl (fun _ => 0))), (b8, .inl (G.2 0, 32, .inl (fun _ => 0))), (b16, .inl (G.2 0, 12, .inl (fun _ => 0)))] ++ []) H locs := w
  refine kx_putF S F w kc_Offsets 0 rfl 5 (by decide) kw_475ebff9be rfl hin rfl rfl rfl (Nat.le_of_ble_eq_true rfl) d_Offsets_init_18 (fun H locs w => ?_)
  have w : kx_W G A s ([(h, .inr (6, [.int p0, .ref w2, .int 0, .ref b8, .int 0, .ref b16, .int 0, .int 0, .int 0])), (w2, .inl (G.2 0, 4, .inl (fun _ => 0))), (b8, .inl (G.2 0, 32, .inl (fun _ => 0))), (b16, .inl (G.2 0, 12, .inl (fun _ => 0)))] ++ []) H locs := w
  refine lv_aload_n hx hb d_Offsets_init_21 rfl (lv_at hl 0 rfl) ?_
  refine lv_iconst (v := (1 : Int32)) hx hb d_Offsets_init_22 (by decide) ?_
  refine kx_put S F w kc_Offsets 0 rfl 7 (by decide) kw_d6fea5b7b4 rfl rfl rfl (Nat.le_of_ble_eq_true rfl) d_Offsets_init_23 (fun H locs w => ?_)
  have w : kx_W G A s ([(h, .inr (6, [.int p0, .ref w2, .int 0, .ref b8, .int 0, .ref b16, .int 0, .int (1 : Int32), .int 0])), (w2, .inl (G.2 0, 4, .inl (fun _ => 0))), (b8, .inl (G.2 0, 32, .inl (fun _ => 0))), (b16, .inl (G.2 0, 12, .inl (fun _ => 0)))] ++ []) H locs := w
  refine W.widen (k := 3) (n := 48) (Nat.le_of_ble_eq_true rfl) (Nat.le_of_ble_eq_true rfl) ?_
  exact kx_vret hQ S hr hlocks w (xo := [(h, .inr (6, [.int p0, .ref w2, .int 0, .ref b8, .int 0, .ref b16, .int 0, .int (1 : Int32), .int 0])), (w2, .inl (G.2 0, 4, .inl (fun _ => 0))), (b8, .inl (G.2 0, 32, .inl (fun _ => 0))), (b16, .inl (G.2 0, 12, .inl (fun _ => 0)))]) [0, 1, 2, 3] rfl rfl (w2, b8, b16) rfl trivial d_Offsets_init_26
