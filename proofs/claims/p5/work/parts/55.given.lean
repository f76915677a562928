theorem kx_L.of {args : Array Value} {s : State} {C n d : String} {A : Nat → Prop} (hl : (Cond.laysStatic C n d).before args s = true) (h : (Cond.isRef (.static C n d)).before args s = true) (hA : ∀ a : Nat, a < s.heap.size → ¬ A a) : kx_L C n d A s s.heap := by
  obtain ⟨c, k, i, f, a, cell, hc, hi, hst, ha, hcell, hs, hcls, hlt, hty⟩ := Cond.laysStatic_spec hl
  cases hv : (Term.static C n d).eval args s none [] s with
  | none => simp [Cond.before, Cond.holds, Cond.value, hv] at h
  | some w =>
    simp only [Cond.before, Cond.holds, Cond.value, hv] at h
    obtain ⟨hst', a', cell', ha', hcell', -, hslot⟩ := Term.static_spec hi hv
    cases ha.symm.trans ha'
    cases hcell.symm.trans hcell'
    refine ⟨c, k, i, f, a, cell, w, hc, hi, hst, ha, hty, hcell, hs, hcls, hlt, hslot, ?_, hA a (Array.getElem?_eq_some_iff.mp hcell).1⟩
    cases w <;> first | rfl | (simp at h)
theorem kx_str {args : Array Value} {s : State} {own tx : String} {k cur : Nat} (hc : s.vm.findClass own = some cur) (h : (Cond.stringRef own k tx).before args s = true) : ∃ a, vk_R own k tx a s := by
  obtain ⟨-, -, -, a, -, -, -, -, -, h1⟩ := Cond.stringRef_spec hc h
  exact ⟨a, vk_R.of h h1⟩
theorem lw_arr {args : Array Value} {s : State} {ty : FieldType} (h : (Cond.arrayClass ty).before args s = true) (hp : ∀ cA : ClassId, va_RA s cA ty = (s.vm.findClass ("[" ++ ty.toString) = some cA)) : ∃ cA : ClassId, ArrOfT s cA ty ∧ va_RA s cA ty := by
  obtain ⟨cA, kA, comp, h1, h2, h3⟩ := Cond.arrayClass_spec h
  exact ⟨cA, fun n z => ⟨fun k h => (by cases h), kA, h2, comp, h3⟩, by rw [hp]; exact h1⟩
theorem kx_nest_any {w : Cond} (h : kx_nest w = true) {a a' : Array Value} {u : State} (hw : w.before a u = true) : w.before a' u = true := by
  cases w <;> first | exact hw | (simp [kx_nest] at h)
def lw_c9 {α : Type} (x0 x1 x2 x3 x4 x5 x6 x7 x8 : α) : Nat → α
  | 0 => x0
  | 1 => x1
  | 2 => x2
  | 3 => x3
  | 4 => x4
  | 5 => x5
  | 6 => x6
  | 7 => x7
  | _ => x8
set_option maxRecDepth 100000 in
set_option maxHeartbeats 4000000 in
theorem lw_F {p : Program} {s : State} {m : MethodId} {meth : Method} {c : Code} {b L : Nat} {xs : Nat → Int32} (C0 : lw_At p s m meth c b L xs) : ∃ G : kx_G, kx_F G (fun q : Nat => s.heap.size ≤ q) s := by
  obtain ⟨hx, hb, hr, hml, hown, hts, hX, hbl, hlocks, hgv⟩ := C0
  have hA : ∀ a : Nat, a < s.heap.size → ¬ (fun q : Nat => s.heap.size ≤ q) a := fun a h => Nat.not_le.mpr h
  have hT : ∀ w ∈ kx_T, w.before #[Value.ref b] s = true := fun w h => hts w (kx_lw h)
  have hq := flat_of_before _ hgv
  obtain ⟨c0, i0, K0⟩ := u_known hT kc_Main.2.1 (hT _ kw_4af2c24e81)
  obtain ⟨c1, i1, K1⟩ := u_known hT kc_Store.2.1 (hT _ kw_13571f0aee)
  obtain ⟨c2, i2, K2⟩ := u_known hT kc_Queue.2.1 (hT _ kw_4238c4a196)
  obtain ⟨c3, i3, K3⟩ := u_known hT kc_Next.2.1 (hT _ kw_39205ab7dc)
  obtain ⟨c4, i4, K4⟩ := u_known hT kc_Strides.2.1 (hT _ kw_913d1294ac)
  obtain ⟨c5, i5, K5⟩ := u_known hT kc_Streams.2.1 (hT _ kw_c644693935)
  obtain ⟨c6, i6, K6⟩ := u_known hT kc_Offsets.2.1 (hT _ kw_4d4cc736e5)
  obtain ⟨c7, i7, K7⟩ := u_known hT kc_Pairs.2.1 (hT _ kw_cd0fab9fd5)
  obtain ⟨c8, i8, K8⟩ := u_known hT kc_Mod.2.1 (hT _ kw_a804a8236a)
  obtain ⟨a0, r0, s0⟩ := lw_arr (ty := .int) (hT _ kw_32e41f54b3) (fun _ => rfl)
  obtain ⟨a1, r1, s1⟩ := lw_arr (ty := .boolean) (hT _ kw_3c893b368c) (fun _ => rfl)
  obtain ⟨a2, r2, s2⟩ := lw_arr (ty := .long) (hT _ kw_93731f458b) (fun _ => rfl)
  obtain ⟨t3, ht3, hT3⟩ := va_Tof (tm := .static "PrefetchRules$Offsets" "CANDIDATES" "[I") (ty := .int) (N := 12) (f := fun j => .int (kx_cand j)) (A := fun q : Nat => s.heap.size ≤ q) (by decide) (hq (.arrayOf (.static "PrefetchRules$Offsets" "CANDIDATES" "[I") .int) (by decide +kernel)) (va_eqt (hq (.eq (.length (.static "PrefetchRules$Offsets" "CANDIDATES" "[I")) (.int 12)) (by decide +kernel))) (fun j hj => by
    rcases (show j = 0 ∨ j = 1 ∨ j = 2 ∨ j = 3 ∨ j = 4 ∨ j = 5 ∨ j = 6 ∨ j = 7 ∨ j = 8 ∨ j = 9 ∨ j = 10 ∨ j = 11 by omega) with rfl | rfl | rfl | rfl | rfl | rfl | rfl | rfl | rfl | rfl | rfl | rfl
    · exact va_eqt (hq (.eq (.elem (.static "PrefetchRules$Offsets" "CANDIDATES" "[I") (.int 0)) (.int 1)) (by decide +kernel))
    · exact va_eqt (hq (.eq (.elem (.static "PrefetchRules$Offsets" "CANDIDATES" "[I") (.int 1)) (.int 2)) (by decide +kernel))
    · exact va_eqt (hq (.eq (.elem (.static "PrefetchRules$Offsets" "CANDIDATES" "[I") (.int 2)) (.int 3)) (by decide +kernel))
    · exact va_eqt (hq (.eq (.elem (.static "PrefetchRules$Offsets" "CANDIDATES" "[I") (.int 3)) (.int 4)) (by decide +kernel))
    · exact va_eqt (hq (.eq (.elem (.static "PrefetchRules$Offsets" "CANDIDATES" "[I") (.int 4)) (.int 5)) (by decide +kernel))
    · exact va_eqt (hq (.eq (.elem (.static "PrefetchRules$Offsets" "CANDIDATES" "[I") (.int 5)) (.int 6)) (by decide +kernel))
    · exact va_eqt (hq (.eq (.elem (.static "PrefetchRules$Offsets" "CANDIDATES" "[I") (.int 6)) (.int 8)) (by decide +kernel))
    · exact va_eqt (hq (.eq (.elem (.static "PrefetchRules$Offsets" "CANDIDATES" "[I") (.int 7)) (.int 9)) (by decide +kernel))
    · exact va_eqt (hq (.eq (.elem (.static "PrefetchRules$Offsets" "CANDIDATES" "[I") (.int 8)) (.int 10)) (by decide +kernel))
    · exact va_eqt (hq (.eq (.elem (.static "PrefetchRules$Offsets" "CANDIDATES" "[I") (.int 9)) (.int 12)) (by decide +kernel))
    · exact va_eqt (hq (.eq (.elem (.static "PrefetchRules$Offsets" "CANDIDATES" "[I") (.int 10)) (.int 15)) (by decide +kernel))
    · exact va_eqt (hq (.eq (.elem (.static "PrefetchRules$Offsets" "CANDIDATES" "[I") (.int 11)) (.int 16)) (by decide +kernel))) hA
  obtain ⟨cur, -, hcur, -⟩ := Cond.instantiable_spec (hT _ kw_4af2c24e81)
  obtain ⟨t4, h4⟩ := kx_str hcur (hts (Cond.stringRef "PrefetchRules" 74 "the cycles are none of 1 to 100") (List.mem_of_getElem? (i := 646) (by decide +kernel)))
  obtain ⟨t5, h5⟩ := kx_str hcur (hts (Cond.stringRef "PrefetchRules" 105 "the store has no such line") (List.mem_of_getElem? (i := 690) (by decide +kernel)))
  obtain ⟨t6, h6⟩ := kx_str hcur (hts (Cond.stringRef "PrefetchRules" 111 "the queue has no such fetch") (List.mem_of_getElem? (i := 708) (by decide +kernel)))
  obtain ⟨t7, h7⟩ := kx_str hcur (hts (Cond.stringRef "PrefetchRules" 113 "a fetch has no such number") (List.mem_of_getElem? (i := 709) (by decide +kernel)))
  refine ⟨((lw_c9 c0 c1 c2 c3 c4 c5 c6 c7 c8, lw_c9 i0 i1 i2 i3 i4 i5 i6 i7 i8), lw_c9 a0 a1 a2 t3 t4 t5 t6 t7 0), ⟨⟨fun k q h => ?_, fun k q h => ?_⟩, fun w hw => kx_nest_any (List.mem_filter.mp hw).2 (hts w (List.mem_filter.mp hw).1), ⟨?_, hT3⟩, ⟨fun w hw => kx_face_any (List.mem_filter.mp hw).2 rfl (hts w (List.mem_filter.mp hw).1), ?_, ?_, h4, h5, h6, h7⟩⟩, fun q h => h⟩
  · match k, h with
    | 0, h => cases h; exact K0
    | 1, h => cases h; exact K1
    | 2, h => cases h; exact K2
    | 3, h => cases h; exact K3
    | 4, h => cases h; exact K4
    | 5, h => cases h; exact K5
    | 6, h => cases h; exact K6
    | 7, h => cases h; exact K7
    | 8, h => cases h; exact K8
    | k + 9, h => simp [vwCl] at h
  · match k, h with
    | 0, h => cases h; exact ⟨r0, s0⟩
    | 1, h => cases h; exact ⟨r1, s1⟩
    | 2, h => cases h; exact ⟨r2, s2⟩
    | k + 3, h => simp [kx_tys] at h
  · exact va_Zref (hts (Cond.laysStatic "PrefetchRules$Offsets" "CANDIDATES" "[I") (List.mem_of_getElem? (i := 391) (by decide +kernel))) (hts (Cond.initialized "PrefetchRules$Offsets") (List.mem_of_getElem? (i := 45) (by decide +kernel))) ht3 hA
  · exact kx_L.of (hts (.laysStatic Bundle.tN "UNASSIGNED_STACK" Bundle.steD) (List.mem_of_getElem? (i := 633) (by decide +kernel))) (hq (.isRef (.static Bundle.tN "UNASSIGNED_STACK" Bundle.steD)) (by decide +kernel)) hA
  · exact kx_L.of (hts (.laysStatic Bundle.tN "SUPPRESSED_SENTINEL" Bundle.listD) (List.mem_of_getElem? (i := 635) (by decide +kernel))) (hq (.isRef (.static Bundle.tN "SUPPRESSED_SENTINEL" Bundle.listD)) (by decide +kernel)) hA
