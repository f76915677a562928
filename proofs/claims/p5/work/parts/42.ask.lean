/-! known, trust, count: class and reference alike -/
section PXD
variable {lat kr kd kl : Int32} {N L D c : Nat} {U : sg_mainp} {t : sg_model}
theorem px_sown {d sc : Int32} {fs tk pl li st tr : Nat → Int32} {i y : Int32} (hi : ¬ (i < 0 ∨ 16 ≤ i.toNatClampNeg)) : ((¬ tk i.toNatClampNeg = 0 ∧ pl i.toNatClampNeg = y) ∧ f_Strides_isOwn d (sc, fs, tk, pl, li, st, tr) i y = some 1) ∨ (¬ (¬ tk i.toNatClampNeg = 0 ∧ pl i.toNatClampNeg = y) ∧ f_Strides_isOwn d (sc, fs, tk, pl, li, st, tr) i y = some 0) := by
  unfold f_Strides_isOwn
  dsimp only
  rw [if_neg hi]
  by_cases o1 : tk i.toNatClampNeg = 0
  · exact Or.inr ⟨fun z => z.1 o1, by rw [if_pos o1]⟩
  · rw [if_neg o1, if_neg hi]
    by_cases o2 : pl i.toNatClampNeg = y
    · exact Or.inl ⟨⟨o1, o2⟩, by rw [if_pos o2]⟩
    · exact Or.inr ⟨fun z => o2 z.2, by rw [if_neg o2]⟩
theorem AI.known (A : AI N L D kr c U t) (x : Int32) : ∃ v : Int32, f_Main_known lat N (nI D) U x = some v ∧ f_Mod_known kr kd kl (nI N) t x = some (v, ((0 : Int32), t.1.2), t.2) := by
  obtain ⟨a, n, q, B, R, C⟩ := A
  obtain ⟨k1, k2, k3, r⟩ := U
  obtain ⟨b, s, w, ρa, ρs, ρo, ρp⟩ := t
  unfold f_Main_known f_Mod_known
  dsimp only
  rcases R with ⟨rfl, u, h⟩ | ⟨rfl, u, h, h1, h2⟩ | ⟨rfl, u, m, h, h1, h2, h3⟩ | ⟨rfl, sc, of, rd, fs, rc, lt, ss, cd, l, T, h, h1, h2, h3, h4⟩ | ⟨rfl, sc, bg, bf, fs, tk, ow, bh, nw, od, h, h1, h2⟩
  · have h : r = _ := h
    subst h
    exact ⟨0, rfl, rfl⟩
  · have h : r = _ := h
    subst h
    obtain ⟨sc, fs, tk, pl, li, st, tr⟩ := u
    have h1 : ρa = (tk, pl, li, st, tr) := h1
    subst h1
    have hi : ¬ ((x &&& (15 : Int32)) < 0 ∨ 16 ≤ (x &&& (15 : Int32)).toNatClampNeg) := pk_andIn x 4 (by decide) (by decide)
    generalize hI : x &&& (15 : Int32) = i at hi
    have hrow : f_Strides_rowOf x = some i := by unfold f_Strides_rowOf; rw [hI]
    rw [if_pos rfl, if_neg hi]
    show ∃ v, ((f_Strides_knowledge (nI D) (sc, fs, tk, pl, li, st, tr) x).bind _ = some v) ∧ _
    unfold f_Strides_knowledge
    rw [hrow, Option.bind_some]
    rcases px_sown (d := nI D) (sc := sc) (fs := fs) (tk := tk) (pl := pl) (li := li) (st := st) (tr := tr) (y := x) hi with ⟨⟨o1, o2⟩, e⟩ | ⟨o, e⟩
    · rw [e, Option.bind_some, if_neg (by decide), if_neg hi, if_neg o1, if_neg hi, if_pos o2, if_neg hi]
      exact ⟨_, rfl, rfl⟩
    · rw [e, Option.bind_some, if_pos rfl]
      refine ⟨0, rfl, ?_⟩
      by_cases o1 : tk i.toNatClampNeg = 0
      · rw [if_pos o1]
      · rw [if_neg o1, if_neg hi, if_neg (fun o2 => o ⟨o1, o2⟩)]
  · have h : r = _ := h
    subst h
    obtain ⟨sc, fs, li, wy, sz⟩ := u
    have h2 : sz = nI m := h2
    have h3 : ρs = (nI m, li, wy) := h3
    subst h2 h3
    rw [if_neg (by decide), if_pos rfl]
    exact ⟨nI m, rfl, rfl⟩
  · have h : r = _ := h
    subst h
    have h1 : ρo = _ := h1
    subst h1
    rw [if_neg (by decide), if_neg (by decide), if_pos rfl]
    exact ⟨of, rfl, rfl⟩
  · have h : r = _ := h
    subst h
    have h1 : ρp = _ := h1
    subst h1
    have hi : ¬ ((x &&& (63 : Int32)) < 0 ∨ 64 ≤ (x &&& (63 : Int32)).toNatClampNeg) := pk_andIn x 6 (by decide) (by decide)
    generalize hI : x &&& (63 : Int32) = i at hi
    have hrow : f_Pairs_rowOf x = some i := by unfold f_Pairs_rowOf; rw [hI]
    rw [if_neg (by decide), if_neg (by decide), if_neg (by decide), if_neg (by decide), if_neg hi]
    show ∃ v, ((f_Pairs_knowledge (nI D) (sc, fs, tk, ow, bh, nw, od, bg, bf) x).bind _ = some v) ∧ _
    unfold f_Pairs_knowledge f_Pairs_behindCount
    rw [hrow, Option.bind_some]
    rcases px_pown (d := nI D) (sc := sc) (fs := fs) (tk := tk) (ow := ow) (bh := bh) (nw := nw) (od := od) (bg' := bg) (bf' := bf) (y := x) hi with ⟨⟨o1, o2⟩, e⟩ | ⟨o, e⟩
    · rw [e, Option.bind_some, if_neg (by decide), if_neg hi, Option.bind_some, if_neg o1, if_neg hi, if_pos o2, if_neg hi]
      dsimp only
      by_cases g : bh i.toNatClampNeg ≤ 0
      · rw [if_pos g, if_pos g]; exact ⟨_, rfl, rfl⟩
      · rw [if_neg g, if_neg g, Option.bind_some, if_neg hi, if_neg hi]; exact ⟨_, rfl, rfl⟩
    · rw [e, Option.bind_some, if_pos rfl, Option.bind_some, if_pos (by decide)]
      refine ⟨(-1 : Int32), rfl, ?_⟩
      by_cases o1 : tk i.toNatClampNeg = 0
      · rw [if_pos o1]
      · rw [if_neg o1, if_neg hi, if_neg (fun o2 => o ⟨o1, o2⟩)]
/-- trust: alike but for rule 4 and a line without a row of its own, where the class answers -1 and the reference 0 -/
theorem AI.trust (A : AI N L D kr c U t) (x : Int32) : ∃ v v' : Int32, f_Main_trust lat N (nI D) U x = some v ∧ f_Mod_trust kr kd kl (nI N) t x = some (v', ((0 : Int32), t.1.2), t.2) ∧ (v = v' ∨ (kr = 4 ∧ v = (-1 : Int32) ∧ v' = 0)) := by
  obtain ⟨a, n, q, B, R, C⟩ := A
  obtain ⟨k1, k2, k3, r⟩ := U
  obtain ⟨b, s, w, ρa, ρs, ρo, ρp⟩ := t
  unfold f_Main_trust f_Mod_trust
  dsimp only
  rcases R with ⟨rfl, u, h⟩ | ⟨rfl, u, h, h1, h2⟩ | ⟨rfl, u, m, h, h1, h2, h3⟩ | ⟨rfl, sc, of, rd, fs, rc, lt, ss, cd, l, T, h, h1, h2, h3, h4⟩ | ⟨rfl, sc, bg, bf, fs, tk, ow, bh, nw, od, h, h1, h2⟩
  · have h : r = _ := h
    subst h
    exact ⟨0, 0, rfl, rfl, Or.inl rfl⟩
  · have h : r = _ := h
    subst h
    obtain ⟨sc, fs, tk, pl, li, st, tr⟩ := u
    have h1 : ρa = (tk, pl, li, st, tr) := h1
    subst h1
    have hi : ¬ ((x &&& (15 : Int32)) < 0 ∨ 16 ≤ (x &&& (15 : Int32)).toNatClampNeg) := pk_andIn x 4 (by decide) (by decide)
    generalize hI : x &&& (15 : Int32) = i at hi
    have hrow : f_Strides_rowOf x = some i := by unfold f_Strides_rowOf; rw [hI]
    rw [if_pos rfl, if_neg hi]
    show ∃ v v', ((f_Strides_confidence (nI D) (sc, fs, tk, pl, li, st, tr) x).bind _ = some v) ∧ _
    unfold f_Strides_confidence
    rw [hrow, Option.bind_some]
    rcases px_sown (d := nI D) (sc := sc) (fs := fs) (tk := tk) (pl := pl) (li := li) (st := st) (tr := tr) (y := x) hi with ⟨⟨o1, o2⟩, e⟩ | ⟨o, e⟩
    · rw [e, Option.bind_some, if_neg (by decide), if_neg hi, if_neg o1, if_neg hi, if_pos o2, if_neg hi]
      exact ⟨_, _, rfl, rfl, Or.inl rfl⟩
    · rw [e, Option.bind_some, if_pos rfl]
      refine ⟨0, 0, rfl, ?_, Or.inl rfl⟩
      by_cases o1 : tk i.toNatClampNeg = 0
      · rw [if_pos o1]
      · rw [if_neg o1, if_neg hi, if_neg (fun o2 => o ⟨o1, o2⟩)]
  · have h : r = _ := h
    subst h
    obtain ⟨sc, fs, li, wy, sz⟩ := u
    have h2 : sz = nI m := h2
    have h3 : ρs = (nI m, li, wy) := h3
    subst h2 h3
    rw [if_neg (by decide), if_pos rfl]
    show ∃ v v', ((f_Streams_confidence (nI D) (sc, fs, li, wy, nI m) x).bind _ = some v) ∧ _
    unfold f_Streams_confidence
    dsimp only
    obtain ⟨w1, w2⟩ := px_within (p := x) (m := m) (by omega)
    by_cases g1 : x < 0
    · rw [if_pos g1, w2 (Or.inl g1), Option.bind_some, Option.bind_some, if_pos rfl]
      exact ⟨0, 0, rfl, rfl, Or.inl rfl⟩
    · by_cases g2 : x < nI m
      · obtain ⟨k, z1, rfl⟩ := px_nat g1
        have z2 : k < m := (nI_ltI z1 (by omega)).1 g2
        rw [if_neg g1, if_neg (px_pF m k z2 (by omega)), if_neg (show ¬ (8 : Int32) ≤ nI k from px_pF 8 k (by omega) (by decide)), w1 g1 g2, Option.bind_some, if_neg (px_iN k 8 (by omega) (by decide)), if_neg (show ¬ (1 : Int32) = 0 by decide), if_neg (px_iN k 8 (by omega) (by decide))]
        exact ⟨_, _, rfl, rfl, Or.inl rfl⟩
      · rw [if_neg g1, if_pos (Int32.not_lt.1 g2), w2 (Or.inr g2), Option.bind_some, Option.bind_some, if_pos rfl]
        exact ⟨0, 0, rfl, rfl, Or.inl rfl⟩
  · have h : r = _ := h
    subst h
    have h1 : ρo = _ := h1
    subst h1
    rw [if_neg (by decide), if_neg (by decide), if_pos rfl]
    show ∃ v v', ((f_Offsets_confidence (nI D) (sc, fs, rc, nI l, ss, nI T, of, rd) x).bind _ = some v) ∧ _
    unfold f_Offsets_confidence
    dsimp only
    obtain ⟨w1, w2⟩ := px_within (p := x) (m := 12) (by omega)
    have e12 : nI 12 - (1 : Int32) = 11 := rfl
    rw [e12] at w1 w2
    by_cases g1 : x < 0
    · rw [if_pos g1, w2 (Or.inl g1), Option.bind_some, Option.bind_some, if_pos rfl]
      exact ⟨0, 0, rfl, rfl, Or.inl rfl⟩
    · by_cases g2 : x < nI 12
      · obtain ⟨k, z1, rfl⟩ := px_nat g1
        have z2 : k < 12 := (nI_ltI z1 (by omega)).1 g2
        rw [if_neg g1, if_neg (show ¬ (12 : Int32) ≤ nI k from px_pF 12 k z2 (by omega)), w1 g1 g2, Option.bind_some, if_neg (px_iN k 12 (by omega) (by decide)), if_neg (show ¬ (1 : Int32) = 0 by decide), if_neg (px_iN k 12 (by omega) (by decide))]
        exact ⟨_, _, rfl, rfl, Or.inl rfl⟩
      · rw [if_neg g1, if_pos (show (12 : Int32) ≤ x from Int32.not_lt.1 g2), w2 (Or.inr g2), Option.bind_some, Option.bind_some, if_pos rfl]
        exact ⟨0, 0, rfl, rfl, Or.inl rfl⟩
  · have h : r = _ := h
    subst h
    have h1 : ρp = _ := h1
    subst h1
    have hi : ¬ ((x &&& (63 : Int32)) < 0 ∨ 64 ≤ (x &&& (63 : Int32)).toNatClampNeg) := pk_andIn x 6 (by decide) (by decide)
    generalize hI : x &&& (63 : Int32) = i at hi
    have hrow : f_Pairs_rowOf x = some i := by unfold f_Pairs_rowOf; rw [hI]
    rw [if_neg (by decide), if_neg (by decide), if_neg (by decide), if_neg (by decide), if_neg hi]
    show ∃ v v', ((f_Pairs_confidence (nI D) (sc, fs, tk, ow, bh, nw, od, bg, bf) x).bind _ = some v) ∧ _
    unfold f_Pairs_confidence f_Pairs_behindCount
    rw [hrow, Option.bind_some]
    rcases px_pown (d := nI D) (sc := sc) (fs := fs) (tk := tk) (ow := ow) (bh := bh) (nw := nw) (od := od) (bg' := bg) (bf' := bf) (y := x) hi with ⟨⟨o1, o2⟩, e⟩ | ⟨o, e⟩
    · rw [e, Option.bind_some, if_neg (by decide), if_neg hi, Option.bind_some, if_neg o1, if_neg hi, if_pos o2, if_neg hi]
      dsimp only
      by_cases g : bh i.toNatClampNeg ≤ (1 : Int32)
      · rw [if_pos g, if_pos g]; exact ⟨_, _, rfl, rfl, Or.inl rfl⟩
      · rw [if_neg g, if_neg g, Option.bind_some, if_neg hi, if_neg hi]; exact ⟨_, _, rfl, rfl, Or.inl rfl⟩
    · rw [e, Option.bind_some, if_pos rfl, Option.bind_some, if_pos (by decide)]
      refine ⟨(-1 : Int32), 0, rfl, ?_, Or.inr ⟨rfl, rfl, rfl⟩⟩
      by_cases o1 : tk i.toNatClampNeg = 0
      · rw [if_pos o1]
      · rw [if_neg o1, if_neg hi, if_neg (fun o2 => o ⟨o1, o2⟩)]
theorem px_cases14 {x : Int32} (h1 : ¬ x < 0) (h2 : x < nI 14) : x = 0 ∨ x = 1 ∨ x = 2 ∨ x = 3 ∨ x = 4 ∨ x = 5 ∨ x = 6 ∨ x = 7 ∨ x = 8 ∨ x = 9 ∨ x = 10 ∨ x = 11 ∨ x = 12 ∨ x = 13 := by
  obtain ⟨k, z1, rfl⟩ := px_nat h1
  have z2 : k < 14 := (nI_ltI z1 (by omega)).1 h2
  clear h1 h2 z1
  revert k
  decide
theorem AI.count (A : AI N L D kr c U t) (x : Int32) : ∃ v : Int32, f_Main_count lat N (nI D) U x = some v ∧ f_Mod_count kr kd kl (nI N) t x = some (v, ((0 : Int32), t.1.2), t.2) := by
  obtain ⟨a, n, q, ⟨⟨hN1, hN⟩, ⟨c1, c2, c3, ⟨h0, h0'⟩, h1, h2, h3, h4, h5, h6, h7, h8⟩, ⟨hn, s1, s2, s3, s4, s5, s6, s7⟩, ⟨q1, q2, q3, -⟩, hd⟩, R, C⟩ := A
  obtain ⟨w1, w2⟩ := px_within (p := x) (m := 14) (by omega)
  have e14 : nI 14 - (1 : Int32) = 13 := rfl
  rw [e14] at w1 w2
  by_cases g : x < 0 ∨ ¬ x < nI 14
  · refine ⟨(-1 : Int32), ?_, ?_⟩
    · have ne : ∀ k : Nat, k < 14 → ¬ x = nI k := fun k hk z => by
        subst z
        exact g.elim (px_0F k (by omega)) (fun y => y (px_lT k 14 hk (by decide)))
      unfold f_Main_count
      rw [if_neg (show ¬ x = (0 : Int32) from ne 0 (by omega)), if_neg (show ¬ x = (1 : Int32) from ne 1 (by omega)), if_neg (show ¬ x = (2 : Int32) from ne 2 (by omega)), if_neg (show ¬ x = (3 : Int32) from ne 3 (by omega)), if_neg (show ¬ x = (4 : Int32) from ne 4 (by omega)), if_neg (show ¬ x = (5 : Int32) from ne 5 (by omega)), if_neg (show ¬ x = (6 : Int32) from ne 6 (by omega)), if_neg (show ¬ x = (7 : Int32) from ne 7 (by omega)), if_neg (show ¬ x = (8 : Int32) from ne 8 (by omega)), if_neg (show ¬ x = (9 : Int32) from ne 9 (by omega)), if_neg (show ¬ x = (10 : Int32) from ne 10 (by omega)), if_neg (show ¬ x = (11 : Int32) from ne 11 (by omega)), if_neg (show ¬ x = (12 : Int32) from ne 12 (by omega)), if_neg (show ¬ x = (13 : Int32) from ne 13 (by omega))]
    · unfold f_Mod_count
      rw [w2 g, Option.bind_some, if_pos rfl]
  · have g1 : ¬ x < 0 := fun z => g (Or.inl z)
    have g2 : x < nI 14 := Decidable.byContradiction fun z => g (Or.inr z)
    have wm := w1 g1 g2
    obtain ⟨v, v1, v2⟩ := px_marks (kr := kr) (kd := kd) (kl := kl) (s := U.2.1) (t := (((0 : Int32), t.1.2), t.2)) hn hN s1 s2 s4 1000 0 (0 : Int32) (by omega) (by omega)
    have v1 : f_Store_markCount N U.2.1 = some v := v1
    have v2 : f_Mod_marks kr kd kl (nI N) (((0 : Int32), t.1.2), t.2) = some v := v2
    have c2 : U.1.1 = t.1.2.1 := c2.trans c3.symm
    have s1 : U.2.1.1 = t.2.1.1 := s1.trans s2.symm
    have q2 : U.2.2.1.1 = t.2.2.1.1 := q2.trans q3.symm
    rcases px_cases14 g1 g2 with rfl | rfl | rfl | rfl | rfl | rfl | rfl | rfl | rfl | rfl | rfl | rfl | rfl | rfl
    · exact ⟨t.1.2.2 0, congrArg some (h0'.trans h0.symm), rfl⟩
    · exact ⟨t.1.2.2 1, congrArg some h1.symm, rfl⟩
    · exact ⟨t.1.2.2 2, congrArg some h2.symm, rfl⟩
    · exact ⟨t.1.2.2 3, congrArg some h3.symm, rfl⟩
    · exact ⟨t.1.2.2 4, congrArg some h4.symm, rfl⟩
    · exact ⟨t.1.2.2 5, congrArg some h5.symm, rfl⟩
    · exact ⟨t.1.2.2 6, congrArg some h6.symm, rfl⟩
    · exact ⟨t.1.2.2 7, congrArg some h7.symm, rfl⟩
    · exact ⟨t.1.2.2 8, congrArg some h8.symm, rfl⟩
    · exact ⟨t.1.2.1, congrArg some c2, rfl⟩
    · exact ⟨t.2.1.1, congrArg some s1, rfl⟩
    · exact ⟨t.2.2.1.1, congrArg some q2, rfl⟩
    · refine ⟨v, ?_, ?_⟩
      · exact congrArg (fun o => Option.bind o (fun z => some z)) v1
      · exact congrArg (fun o => Option.bind o (fun z => some (z, ((0 : Int32), t.1.2), t.2))) v2
    · refine ⟨t.1.2.2 13, ?_, rfl⟩
      exact congrArg (fun o => Option.bind o (fun z => some z)) C
end PXD
