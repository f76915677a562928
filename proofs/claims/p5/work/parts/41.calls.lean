/-! pass, finish, state, stored, queued: class and reference alike -/
theorem px_nat {p : Int32} (h : ¬ p < 0) : ∃ k : Nat, k < 2 ^ 31 ∧ p = nI k := by
  have h0 : ¬ p.toInt < 0 := fun z => h (Int32.lt_iff_toInt_lt.2 z)
  have h1 := Int32.toInt_lt p
  refine ⟨p.toInt.toNat, by omega, Int32.toInt_inj.1 ?_⟩
  rw [nI_toInt (by omega)]
  omega
section PXC
variable {lat kr kd kl a e : Int32} {N L D c n q : Nat} {u : sg_main} {U : sg_mainp} {t : sg_model}
theorem px_passes (hL : L ≤ 32) {K : Nat} (hK : K ≤ 100) : ∀ (d k fu fm : Nat) {c n q : Nat} {u : sg_main} {t : sg_model} (x : Int32), BR N L a e c n q u t → c + d ≤ 100000 → k + d = K → d < fu → d < fm →
    ∃ (v : Int32) (n' q' : Nat) (u' : sg_main) (t' : sg_model), lp_Main_pass_25 lat N fu (nI K) x (nI k) u = some (v, u') ∧ lp_Mod_pass_25 kr kd kl (nI N) fm (nI K) x (nI k) t = some (v, t') ∧ BR N L a e (c + d) n' q' u' t' ∧ px_keep t t' := by
  intro d
  induction d with
  | zero =>
    intro k fu fm c n q u t x B hc hk h1 h2
    obtain ⟨fu, rfl⟩ : ∃ f, fu = f + 1 := ⟨fu - 1, by omega⟩
    obtain ⟨fm, rfl⟩ : ∃ f, fm = f + 1 := ⟨fm - 1, by omega⟩
    refine ⟨x, n, q, u, t, ?_, ?_, B, rfl, rfl, rfl⟩
    · rw [lp_Main_pass_25, if_pos (px_pT K k (by omega) (by omega))]
    · rw [lp_Mod_pass_25, if_pos (px_pT K k (by omega) (by omega))]
  | succ d ih =>
    intro k fu fm c n q u t x B hc hk h1 h2
    obtain ⟨fu, rfl⟩ : ∃ f, fu = f + 1 := ⟨fu - 1, by omega⟩
    obtain ⟨fm, rfl⟩ : ∃ f, fm = f + 1 := ⟨fm - 1, by omega⟩
    obtain ⟨r, n1, q1, u1, t1, r1, r2, r3, r4⟩ := BR.tick (lat := lat) (kr := kr) (kd := kd) (kl := kl) hL B (by omega)
    obtain ⟨v, n2, q2, u2, t2, s1, s2, s3, s4⟩ := ih (k + 1) fu fm (x + r) r3 (by omega) (by omega) (by omega) (by omega)
    refine ⟨v, n2, q2, u2, t2, ?_, ?_, by rw [show c + (d + 1) = c + 1 + d by omega]; exact s3, s4.1.trans r4.1, s4.2.1.trans r4.2.1, s4.2.2.trans r4.2.2⟩
    · rw [lp_Main_pass_25, if_neg (px_pF K k (by omega) (by omega)), r1, Option.bind_some, px_s1 k]
      exact s1
    · rw [lp_Mod_pass_25, if_neg (px_pF K k (by omega) (by omega)), r2, Option.bind_some, px_s1 k]
      exact s2
theorem AI.pass (hL : L ≤ 32) (A : AI N L D kr c U t) {K : Nat} (hK1 : 1 ≤ K) (hK : K ≤ 100) (hc : c + K ≤ 100000) : ∃ (v : Int32) (u' : sg_main) (t' : sg_model), f_Main_pass lat N (U.1, U.2.1, U.2.2.1) (nI K) = some (v, u') ∧ f_Mod_pass kr kd kl (nI N) t (nI K) = some (v, t') ∧ AI N L D kr (c + K) (u'.1, u'.2.1, u'.2.2, U.2.2.2) t' ∧ t'.1.1 = 0 := by
  obtain ⟨a, n, q, B, R, C⟩ := A
  have B1 : BR N L a a c n q (U.1, U.2.1, U.2.2.1) (((0 : Int32), t.1.2), t.2) := B
  obtain ⟨v, n', q', u', t', h1, h2, h3, h4⟩ := px_passes (lat := lat) (kr := kr) (kd := kd) (kl := kl) hL hK K 0 1000 1000 (0 : Int32) B1 hc (by omega) (by omega) (by omega)
  refine ⟨v, u', t', ?_, ?_, ⟨a, n', q', h3, by rw [h4.2.1]; exact R.mono (by omega), by rw [h4.2.2]; exact C⟩, h4.1⟩
  · unfold f_Main_pass
    rw [if_neg (show ¬ nI K < (1 : Int32) from px_lF K 1 hK1 (by omega)), if_pos (show nI K ≤ (100 : Int32) from px_pT K 100 hK (by decide))]
    exact h1
  · unfold f_Mod_pass f_Mod_within
    rw [if_neg (show ¬ nI K < (1 : Int32) from px_lF K 1 hK1 (by omega)), if_neg (show ¬ (100 : Int32) < nI K from px_lF 100 K hK (by decide)), Option.bind_some, if_neg (by decide)]
    exact h2
theorem px_passF {p : Int32} (hp : p < (1 : Int32) ∨ ¬ p ≤ (100 : Int32)) : f_Mod_pass kr kd kl (nI N) t p = some ((0 : Int32), ((1 : Int32), t.1.2), t.2) := by
  unfold f_Mod_pass f_Mod_within
  by_cases h : p < (1 : Int32)
  · rw [if_pos h, Option.bind_some, if_pos rfl]; rfl
  · rw [if_neg h, if_pos (Int32.not_le.1 (hp.resolve_left h)), Option.bind_some, if_pos rfl]; rfl
/-- what a refused call leaves -/
theorem AI.thrown (A : AI N L D kr c U t) (v : Int32) : AI N L D kr c U ((v, t.1.2), t.2) := A
/-- the marks are counted alike -/
theorem px_marks {s : sg_store} (hn : n ≤ N) (hN : N ≤ 64) (h1 : s.1 = nI n) (h2 : t.2.1.1 = nI n) (h3 : px_eq n s.2.2 t.2.1.2.2) : ∀ (fu i : Nat) (x : Int32), i ≤ n → n - i < fu → ∃ v : Int32, lp_Store_markCount_4 N s fu x (nI i) = some v ∧ lp_Mod_marks_4 kr kd kl (nI N) t fu x (nI i) = some v := by
  intro fu
  induction fu with
  | zero => intro i x g1 g2; omega
  | succ fu ih =>
    intro i x g1 g2
    rw [lp_Store_markCount_4, lp_Mod_marks_4, h1, h2]
    by_cases h : i = n
    · rw [if_pos (px_pT n i (by omega) (by omega)), if_pos (px_pT n i (by omega) (by omega))]
      exact ⟨x, rfl, rfl⟩
    · rw [if_neg (px_pF n i (by omega) (by omega)), if_neg (px_pF N i (by omega) (by omega)), if_neg (px_pF n i (by omega) (by omega)), if_neg (px_iN i N (by omega) (by omega)), if_neg (px_iN i 64 (by omega) (by omega)), px_cl i (by omega), ← h3 i (by omega), px_s1 i]
      by_cases g : s.2.2 i = 0
      · rw [if_pos g, if_pos g, Int32.add_zero]
        exact ih (i + 1) x (by omega) (by omega)
      · rw [if_neg g, if_neg g]
        exact ih (i + 1) (x + 1) (by omega) (by omega)
theorem px_clear (hn : n ≤ N) (hN : N ≤ 64) {li : Nat → Int32} : ∀ (fu i : Nat) (mk : Nat → Int32), i ≤ n → n - i < fu → lp_Store_clearMarks_2 N fu (nI i) (nI n, li, mk) = some (nI n, li, px_zr (n - i) i mk) := by
  intro fu
  induction fu with
  | zero => intro i mk g1 g2; omega
  | succ fu ih =>
    intro i mk g1 g2
    rw [lp_Store_clearMarks_2]
    dsimp only
    by_cases h : i = n
    · rw [if_pos (px_pT n i (by omega) (by omega)), h, Nat.sub_self]
      rfl
    · obtain ⟨j, hj⟩ : ∃ j, n - i = j + 1 := ⟨n - i - 1, by omega⟩
      rw [if_neg (px_pF n i (by omega) (by omega)), if_neg (px_pF N i (by omega) (by omega)), if_neg (px_iN i N (by omega) (by omega)), px_cl i (by omega), px_s1 i, px_nar (Or.inl rfl), ih (i + 1) _ (by omega) (by omega), hj, px_zr, show n - (i + 1) = j by omega]
theorem px_mclear (hn : n ≤ N) (hN : N ≤ 64) {b : Int32 × Int32 × (Nat → Int32)} {li : Nat → Int32} {ω : sg_queue × RP} {x : Int32} : ∀ (fu i : Nat) (mk : Nat → Int32), i ≤ n → n - i < fu → lp_Mod_finish_22 kr kd kl (nI N) fu x (nI i) (b, (nI n, li, mk), ω) = some (x, (b.1, b.2.1, upd b.2.2 5 (b.2.2 5 + x)), (nI n, li, px_zr (n - i) i mk), ω) := by
  intro fu
  induction fu with
  | zero => intro i mk g1 g2; omega
  | succ fu ih =>
    intro i mk g1 g2
    rw [lp_Mod_finish_22]
    dsimp only
    by_cases h : i = n
    · rw [if_pos (px_pT n i (by omega) (by omega)), h, Nat.sub_self, if_neg (by decide), if_neg (by decide)]
      rfl
    · obtain ⟨j, hj⟩ : ∃ j, n - i = j + 1 := ⟨n - i - 1, by omega⟩
      rw [if_neg (px_pF n i (by omega) (by omega)), if_neg (px_iN i 64 (by omega) (by omega)), px_cl i (by omega), px_s1 i, px_nar (Or.inl rfl), ih (i + 1) _ (by omega) (by omega), hj, px_zr, show n - (i + 1) = j by omega]
theorem px_zr_01 : ∀ (d i : Nat) {f : Nat → Int32}, px_01 f → px_01 (px_zr d i f)
  | 0, _, _, h => h
  | d + 1, i, _, h => px_zr_01 d (i + 1) (px_01_upd h (Or.inl rfl))
theorem AI.finish (A : AI N L D kr c U t) : ∃ (v : Int32) (u' : sg_main) (t' : sg_model), f_Main_finish lat N (U.1, U.2.1, U.2.2.1) = some (v, u') ∧ f_Mod_finish kr kd kl (nI N) t = some (v, t') ∧ AI N L D kr c (u'.1, u'.2.1, u'.2.2, U.2.2.2) t' ∧ t'.1.1 = 0 := by
  obtain ⟨a, n, q, B, R, C⟩ := A
  obtain ⟨k1, ⟨k2, k3⟩, ⟨k4, k5⟩, r⟩ := U
  obtain ⟨⟨b1, b2, b3⟩, ⟨t1, t2, t3⟩, ⟨t4, t5⟩, ρ⟩ := t
  obtain ⟨⟨hN1, hN⟩, ⟨c1, c2, c3, hct⟩, ⟨hn, s1, s2, s3, s4, s5, s6, s7⟩, ⟨q1, q2, q3, q4, q5, q6, -⟩, hd⟩ := B
  have s1 : k2 = nI n := s1
  have s2 : t1 = nI n := s2
  have q2 : k4 = nI q := q2
  have q3 : t4 = nI q := q3
  subst s1 s2 q2 q3
  obtain ⟨v, v1, v2⟩ := px_marks (kr := kr) (kd := kd) (kl := kl) (s := (nI n, k3)) (t := (((0 : Int32), b2, b3), (nI n, t2, t3), (nI q, t5), ρ)) hn hN rfl rfl s4 1000 0 (0 : Int32) (by omega) (by omega)
  have m1 := px_clear hn hN (li := k3.1) 1000 0 k3.2 (by omega) (by omega)
  have m2 := px_mclear (kr := kr) (kd := kd) (kl := kl) hn hN (b := ((0 : Int32), b2, b3)) (li := t2) (ω := (((0 : Int32), t5), ρ)) (x := nI q + v) 1000 0 t3 (by omega) (by omega)
  refine ⟨nI q + v, ((k1.1, k1.2.1, k1.2.2.1, k1.2.2.2.1, k1.2.2.2.2.1, k1.2.2.2.2.2.1, k1.2.2.2.2.2.2.1 + (nI q + v), k1.2.2.2.2.2.2.2), (nI n, k3.1, px_zr (n - 0) 0 k3.2), ((0 : Int32), k5)), (((0 : Int32), b2, upd b3 5 (b3 5 + (nI q + v))), (nI n, t2, px_zr (n - 0) 0 t3), ((0 : Int32), t5), ρ), ?_, ?_, ⟨a, n, 0, ⟨⟨hN1, hN⟩, ⟨c1, c2, c3, ?_⟩, ⟨hn, rfl, rfl, s3, fun j hj => ?_, px_zr_01 _ _ s5, px_zr_01 _ _ s6, s7⟩, ⟨by omega, rfl, rfl, fun j hj => by omega, fun j hj => by omega, fun i j hi hj => by omega, fun _ => 0, fun j hj => by omega, fun i j h1 h2 => by omega⟩, fun j hj => by omega⟩, R, C⟩, rfl⟩
  · show (some (nI q)).bind _ = _
    rw [Option.bind_some]
    show (lp_Store_markCount_4 N (nI n, k3) 1000 (0 : Int32) (nI 0)).bind _ = _
    rw [v1, Option.bind_some]
    show (lp_Store_clearMarks_2 N 1000 (nI 0) (nI n, k3.1, k3.2)).bind _ = _
    rw [m1]
    rfl
  · show (lp_Mod_marks_4 kr kd kl (nI N) (((0 : Int32), b2, b3), (nI n, t2, t3), (nI q, t5), ρ) 1000 (0 : Int32) (nI 0)).bind _ = _
    rw [v2, Option.bind_some]
    exact m2
  · obtain ⟨h0, h1, h2, h3, h4, h5, h6, h7, h8⟩ := hct
    exact ⟨h0, h1, h2, h3, h4, congrArg (· + (nI q + v)) h5, h6, h7, h8⟩
  · show px_zr (n - 0) 0 k3.2 j = px_zr (n - 0) 0 t3 j
    rw [(px_zr_at (n - 0) 0 k3.2 j).2 (by omega) (by omega), (px_zr_at (n - 0) 0 t3 j).2 (by omega) (by omega)]
theorem AI.state (A : AI N L D kr c U t) (x : Int32) : ∃ v : Int32, f_Main_state lat N (U.1, U.2.1, U.2.2.1) x = some v ∧ f_Mod_state kr kd kl (nI N) t x = some (v, ((0 : Int32), t.1.2), t.2) := by
  obtain ⟨a, n, q, B, R, C⟩ := A
  obtain ⟨⟨hN1, hN⟩, -, ⟨hn, s1, s2, s3, s4, s5, s6, s7⟩, ⟨q1, q2, q3, q4, q5, q6, -⟩, hd⟩ := B
  have f1 := px_find (x := x) (show N < 1000 by omega) hn s1
  have g1 := px_placeOf (kr := kr) (kd := kd) (kl := kl) (km := nI N) (u := (((0 : Int32), t.1.2), t.2)) (x := x) (show n ≤ 64 by omega) s2 (px_dist_eq s3 s7)
  have f2 := px_qfind (x := x) q1 q2
  have g2 := px_queueOf (kr := kr) (kd := kd) (kl := kl) (km := nI N) (u := (((0 : Int32), t.1.2), t.2)) (x := x) q1 q3 (px_dist_eq q4 q6)
  have g1 : f_Mod_placeOf kr kd kl (nI N) (((0 : Int32), t.1.2), t.2) x = some (px_fd U.2.1.2.1 x 0 n) := by rw [g1]; exact congrArg some (px_fd_eq s3 n 0 (by omega)).symm
  have g2 : f_Mod_queueOf kr kd kl (nI N) (((0 : Int32), t.1.2), t.2) x = some (px_fd U.2.2.1.2.1 x 0 q) := by rw [g2]; exact congrArg some (px_fd_eq q4 q 0 (by omega)).symm
  unfold f_Main_state f_Mod_state
  rw [f1, g1, Option.bind_some, Option.bind_some]
  dsimp only
  by_cases hs : px_fd U.2.1.2.1 x 0 n = (-1 : Int32)
  · rw [if_pos hs, if_pos (show px_fd U.2.1.2.1 x 0 n < 0 by rw [hs]; decide)]
    dsimp only at f2
    rw [f2, g2, Option.bind_some, Option.bind_some]
    by_cases hq : px_fd U.2.2.1.2.1 x 0 q = (-1 : Int32)
    · rw [if_pos hq, if_pos (show px_fd U.2.2.1.2.1 x 0 q < 0 by rw [hq]; decide)]
      exact ⟨_, rfl, rfl⟩
    · obtain ⟨j, j1, j2, j3⟩ := px_fd_in hq
      rw [if_neg hq, if_neg (show ¬ px_fd U.2.2.1.2.1 x 0 q < 0 by rw [j3]; exact px_0F j (by omega))]
      exact ⟨_, rfl, rfl⟩
  · obtain ⟨i, i1, i2, i3⟩ := px_fd_in hs
    rw [if_neg hs, if_neg (show ¬ px_fd U.2.1.2.1 x 0 n < 0 by rw [i3]; exact px_0F i (by omega)), i3, px_isMarked s1 hn hN i1 s5, Option.bind_some, if_neg (px_iN i 64 (by omega) (by omega)), px_cl i (by omega)]
    have hm : t.2.1.2.2 i = U.2.1.2.2 i := (s4 i i1).symm
    rw [hm]
    dsimp only
    by_cases g : U.2.1.2.2 i = 0
    · rw [if_pos g, if_pos g]; exact ⟨_, rfl, rfl⟩
    · rw [if_neg g, if_neg g]; exact ⟨_, rfl, rfl⟩
theorem px_within {p : Int32} {m : Nat} (hm : m ≤ 100) : (¬ p < 0 → p < nI m → f_Mod_within p (0 : Int32) (nI m - (1 : Int32)) = some 1) ∧ (p < 0 ∨ ¬ p < nI m → f_Mod_within p (0 : Int32) (nI m - (1 : Int32)) = some 0) := by
  have e : (nI m - (1 : Int32)).toInt = (m : Int) - 1 := by
    by_cases h : m = 0
    · subst h; rfl
    · rw [px_m1 (by omega), nI_toInt (by omega)]; omega
  have h2 : nI m - (1 : Int32) < p ↔ ¬ p < nI m := by
    rw [Int32.lt_iff_toInt_lt, Int32.lt_iff_toInt_lt, e, nI_toInt (by omega)]; omega
  unfold f_Mod_within
  refine ⟨fun h3 h4 => ?_, fun h3 => ?_⟩
  · rw [if_neg h3, if_neg (fun z => h2.1 z h4)]
  · by_cases h4 : p < 0
    · rw [if_pos h4]
    · rw [if_neg h4, if_pos (h2.2 (h3.resolve_left h4))]
/-- the class's stored refuses where the reference fails -/
theorem AI.stored (A : AI N L D kr c U t) (p : Int32) : (∃ v : Int32, f_Main_stored lat N (U.1, U.2.1, U.2.2.1) p = some v ∧ f_Mod_stored kr kd kl (nI N) t p = some (v, ((0 : Int32), t.1.2), t.2)) ∨ ((p < 0 ∨ ¬ p < U.2.1.1) ∧ f_Mod_stored kr kd kl (nI N) t p = some ((0 : Int32), ((1 : Int32), t.1.2), t.2)) := by
  obtain ⟨a, n, q, B, R, C⟩ := A
  obtain ⟨⟨hN1, hN⟩, -, ⟨hn, s1, s2, s3, s4, s5, s6, s7⟩, -⟩ := B
  have s1 : U.2.1.1 = nI n := s1
  obtain ⟨w1, w2⟩ := px_within (p := p) (m := n) (by omega)
  rw [s1]
  by_cases h : p < 0 ∨ ¬ p < nI n
  · refine Or.inr ⟨h, ?_⟩
    unfold f_Mod_stored
    rw [s2, w2 h, Option.bind_some, if_pos rfl]
    rfl
  · have h1 : ¬ p < 0 := fun z => h (Or.inl z)
    have h2 : p < nI n := Decidable.byContradiction fun z => h (Or.inr z)
    obtain ⟨k, k1, rfl⟩ := px_nat h1
    have k2 : k < n := (nI_ltI k1 (by omega)).1 h2
    refine Or.inl ⟨U.2.1.2.1 k, ?_, ?_⟩
    · have hh : f_Store_has N U.2.1 (nI k) = some 1 := px_Shas (by omega) hn s1 k2
      unfold f_Main_stored f_Store_size f_Store_lineAt
      dsimp only
      rw [if_neg h1, Option.bind_some, s1, if_pos h2, hh, Option.bind_some, if_neg (by decide), if_neg (px_iN k N (by omega) (by omega)), px_cl k k1]
      rfl
    · unfold f_Mod_stored
      rw [s2, w1 h1 h2, Option.bind_some, if_neg (by decide), if_neg (px_iN k 64 (by omega) (by omega)), px_cl k k1, ← s3 k k2]
theorem AI.queued (A : AI N L D kr c U t) (p w : Int32) : (∃ v : Int32, f_Main_queued lat N (U.1, U.2.1, U.2.2.1) p w = some v ∧ f_Mod_queued kr kd kl (nI N) t p w = some (v, ((0 : Int32), t.1.2), t.2)) ∨ ((p < 0 ∨ ¬ p < U.2.2.1.1 ∨ (¬ w = 0 ∧ ¬ w = 1)) ∧ f_Mod_queued kr kd kl (nI N) t p w = some ((0 : Int32), ((1 : Int32), t.1.2), t.2)) := by
  obtain ⟨a, n, q, B, R, C⟩ := A
  obtain ⟨-, ⟨-, c2, c3, -⟩, -, ⟨q1, q2, q3, q4, q5, q6, -⟩, -⟩ := B
  have q2 : U.2.2.1.1 = nI q := q2
  have c2 : U.1.1 = nI c := c2
  obtain ⟨w1, w2⟩ := px_within (p := p) (m := q) (by omega)
  obtain ⟨x1, x2⟩ := px_within (p := w) (m := 2) (by omega)
  have e2 : nI 2 - (1 : Int32) = 1 := rfl
  rw [e2] at x1 x2
  have hw : (¬ w < 0 ∧ w < nI 2) ↔ (w = 0 ∨ w = 1) := by
    constructor
    · rintro ⟨z1, z2⟩
      obtain ⟨k, k1, rfl⟩ := px_nat z1
      have k2 : k < 2 := (nI_ltI k1 (by omega)).1 z2
      have : k = 0 ∨ k = 1 := by omega
      rcases this with rfl | rfl
      · exact Or.inl rfl
      · exact Or.inr rfl
    · rintro (rfl | rfl) <;> decide
  rw [q2]
  by_cases h : p < 0 ∨ ¬ p < nI q
  · refine Or.inr ⟨h.imp id Or.inl, ?_⟩
    unfold f_Mod_queued
    rw [q3, w2 h, Option.bind_some, if_pos rfl]
    rfl
  · have h1 : ¬ p < 0 := fun z => h (Or.inl z)
    have h2 : p < nI q := Decidable.byContradiction fun z => h (Or.inr z)
    by_cases g : w = 0 ∨ w = 1
    · obtain ⟨k, k1, rfl⟩ := px_nat h1
      have k2 : k < q := (nI_ltI k1 (by omega)).1 h2
      have hx := hw.2 g
      rcases g with rfl | rfl
      · refine Or.inl ⟨U.2.2.1.2.1 k, ?_, ?_⟩
        · have hh : f_Queue_has U.2.2.1 (nI k) = some 1 := px_Qhas q1 q2 k2
          unfold f_Main_queued f_Queue_size jn_Main_queued_44 f_Queue_lineAt
          dsimp only
          rw [if_neg h1, Option.bind_some, q2, if_pos h2, if_pos rfl, if_pos rfl, hh, Option.bind_some, if_neg (by decide), if_neg (px_iN k 8 (by omega) (by omega)), px_cl k k1]
          rfl
        · unfold f_Mod_queued
          rw [q3, w1 h1 h2, Option.bind_some, if_neg (by decide), x1 hx.1 hx.2, Option.bind_some, if_neg (by decide), if_pos rfl, if_neg (px_iN k 8 (by omega) (by omega)), px_cl k k1, ← q4 k k2]
      · refine Or.inl ⟨U.2.2.1.2.2 k - nI c, ?_, ?_⟩
        · have hh : f_Queue_has U.2.2.1 (nI k) = some 1 := px_Qhas q1 q2 k2
          unfold f_Main_queued f_Queue_size jn_Main_queued_44 f_Queue_cycleAt
          dsimp only
          rw [if_neg h1, Option.bind_some, q2, if_pos h2, if_neg (by decide), if_pos rfl, if_neg (by decide), hh, Option.bind_some, if_neg (by decide), if_neg (px_iN k 8 (by omega) (by omega)), px_cl k k1, c2]
          rfl
        · unfold f_Mod_queued
          rw [q3, w1 h1 h2, Option.bind_some, if_neg (by decide), x1 hx.1 hx.2, Option.bind_some, if_neg (by decide), if_neg (by decide), if_neg (px_iN k 8 (by omega) (by omega)), px_cl k k1, ← q5 k k2, c3]
    · refine Or.inr ⟨Or.inr (Or.inr ⟨fun z => g (Or.inl z), fun z => g (Or.inr z)⟩), ?_⟩
      have hx : w < 0 ∨ ¬ w < nI 2 := by
        by_cases z1 : w < 0
        · exact Or.inl z1
        · exact Or.inr (fun z2 => g (hw.1 ⟨z1, z2⟩))
      unfold f_Mod_queued
      rw [q3, w1 h1 h2, Option.bind_some, if_neg (by decide), x2 hx, Option.bind_some, if_pos rfl]
      rfl
end PXC
