/-! A cycle, and the line asked for: hit, late, miss -/
theorem px_Q.mono {L c c' q : Nat} {s w : sg_queue} (h : px_Q L c q s w) (hc : c ≤ c') : px_Q L c' q s w := by
  obtain ⟨h1, h2, h3, h4, h5, h6, d, h7, h8⟩ := h
  exact ⟨h1, h2, h3, h4, h5, h6, d, fun j hj => ⟨(h7 j hj).1, Nat.le_trans (h7 j hj).2 (by omega)⟩, h8⟩
section PXA
variable {lat kr kd kl a e : Int32} {N L c n q : Nat} {u : sg_main} {t : sg_model}
/-- one cycle -/
theorem BR.tick (hL : L ≤ 32) (B : BR N L a e c n q u t) (hc : c + 1 ≤ 100000) :
    ∃ (r : Int32) (n' q' : Nat) (u' : sg_main) (t' : sg_model), f_Main_nextCycle lat N u = some (r, u') ∧ f_Mod_arrive kr kd kl (nI N) t = some (r, t') ∧ BR N L a e (c + 1) n' q' u' t' ∧ px_keep t t' := by
  obtain ⟨hN, ⟨h1, h2, h3, h4⟩, hS, hQ, hd⟩ := B
  have B1 : BR N L a e (c + 1) n q ((u.1.1 + (1 : Int32), u.1.2), u.2) ((t.1.1, t.1.2.1 + (1 : Int32), t.1.2.2), t.2) :=
    ⟨hN, ⟨hc, by rw [h2]; exact px_s1 c, by rw [h3]; exact px_s1 c, h4⟩, hS, hQ.mono (by omega), hd⟩
  obtain ⟨r, n', q', u', t', r1, r2, r3, r4⟩ := BR.arrive (lat := lat) (kr := kr) (kd := kd) (kl := kl) hL q B1 0 1000 1000 (0 : Int32) (by have := hQ.1; omega) (by have := hQ.1; omega) (by have := hQ.1; omega)
  exact ⟨r, n', q', u', t', r1, r2, r3, r4⟩
theorem BR.c0m (B : BR N L a e c n q u t) : BR N L a (e + (1 : Int32)) c n q u ((t.1.1, t.1.2.1, upd t.1.2.2 0 (t.1.2.2 0 + (1 : Int32))), t.2) := by
  obtain ⟨b1, ⟨b2, b3, b4, hc⟩, b5⟩ := B
  have hc' : px_cnt a (e + (1 : Int32)) u.1 (upd t.1.2.2 0 (t.1.2.2 0 + (1 : Int32))) := by
    obtain ⟨⟨h0, h0'⟩, h1, h2, h3, h4, h5, h6, h7, h8⟩ := hc
    exact ⟨⟨by rw [pk_us, h0], h0'⟩, (pk_un (by decide)).trans h1, (pk_un (by decide)).trans h2, (pk_un (by decide)).trans h3, (pk_un (by decide)).trans h4, (pk_un (by decide)).trans h5, (pk_un (by decide)).trans h6, (pk_un (by decide)).trans h7, (pk_un (by decide)).trans h8⟩
  exact ⟨b1, ⟨b2, b3, b4, hc'⟩, b5⟩
theorem BR.c0u (B : BR N L a e c n q u t) : BR N L (a + (1 : Int32)) e c n q (px_k0 u.1, u.2) t := by
  obtain ⟨b1, ⟨b2, b3, b4, hc⟩, b5⟩ := B
  have hc' : px_cnt (a + (1 : Int32)) e (px_k0 u.1) t.1.2.2 := by
    obtain ⟨⟨h0, h0'⟩, h1⟩ := hc
    exact ⟨⟨h0, by rw [← h0']; rfl⟩, h1⟩
  exact ⟨b1, ⟨b2, b3, b4, hc'⟩, b5⟩
theorem BR.c1 (B : BR N L a e c n q u t) : BR N L a e c n q (px_k1 u.1, u.2) ((t.1.1, t.1.2.1, upd t.1.2.2 1 (t.1.2.2 1 + (1 : Int32))), t.2) := ⟨B.1, ⟨B.2.1.1, B.2.1.2.1, B.2.1.2.2.1, px_cnt1 B.2.1.2.2.2⟩, B.2.2⟩
theorem BR.c2 (B : BR N L a e c n q u t) : BR N L a e c n q (px_k2 u.1, u.2) ((t.1.1, t.1.2.1, upd t.1.2.2 2 (t.1.2.2 2 + (1 : Int32))), t.2) := ⟨B.1, ⟨B.2.1.1, B.2.1.2.1, B.2.1.2.2.1, px_cnt2 B.2.1.2.2.2⟩, B.2.2⟩
theorem BR.c3 (B : BR N L a e c n q u t) : BR N L a e c n q (px_k3 u.1, u.2) ((t.1.1, t.1.2.1, upd t.1.2.2 3 (t.1.2.2 3 + (1 : Int32))), t.2) := ⟨B.1, ⟨B.2.1.1, B.2.1.2.1, B.2.1.2.2.1, px_cnt3 B.2.1.2.2.2⟩, B.2.2⟩
theorem BR.c4 (B : BR N L a e c n q u t) : BR N L a e c n q (px_k4 u.1, u.2) ((t.1.1, t.1.2.1, upd t.1.2.2 4 (t.1.2.2 4 + (1 : Int32))), t.2) := ⟨B.1, ⟨B.2.1.1, B.2.1.2.1, B.2.1.2.2.1, px_cnt4 B.2.1.2.2.2⟩, B.2.2⟩
/-- the reference's access behind its cycle and its first count -/
def px_mrest (kr kd kl km p0 p1 : Int32) (t : sg_model) : Option (Int32 × sg_model) :=
  (f_Mod_placeOf kr kd kl km t p1).bind (fun q24 => (f_Mod_queueOf kr kd kl km t p1).bind (fun q31 => (if q24 < 0 then (if q31 < 0 then jn_Mod_access_93 kr kd kl km (jn_Mod_access_110 kr kd kl km) p0 p1 (0 : Int32) q24 q31 t else jn_Mod_access_93 kr kd kl km (jn_Mod_access_110 kr kd kl km) p0 p1 (2 : Int32) q24 q31 t)
    else (f_Mod_use kr kd kl km t q24).bind (fun q46 => (if ((4 : Int32) < 0 ∨ 14 ≤ (4 : Int32).toNatClampNeg) then none else (if ((0 : Int32) < 0 ∨ 64 ≤ (0 : Int32).toNatClampNeg) then none else (if (q46.2.1.2.2 (0 : Int32).toNatClampNeg) = 0 then (if ((4 : Int32) < 0 ∨ 14 ≤ (4 : Int32).toNatClampNeg) then none else jn_Mod_access_72 kr kd kl km (jn_Mod_access_110 kr kd kl km) p0 p1 (1 : Int32) q24 q31 ((q46.1.1, q46.1.2.1, upd q46.1.2.2 (4 : Int32).toNatClampNeg ((q46.1.2.2 (4 : Int32).toNatClampNeg) + (0 : Int32))), q46.2)) else (if ((4 : Int32) < 0 ∨ 14 ≤ (4 : Int32).toNatClampNeg) then none else jn_Mod_access_72 kr kd kl km (jn_Mod_access_110 kr kd kl km) p0 p1 (1 : Int32) q24 q31 ((q46.1.1, q46.1.2.1, upd q46.1.2.2 (4 : Int32).toNatClampNeg ((q46.1.2.2 (4 : Int32).toNatClampNeg) + (1 : Int32))), q46.2)))))))))
theorem px_maccess {km p0 p1 : Int32} : f_Mod_access kr kd kl km t p0 p1 = (f_Mod_arrive kr kd kl km (((0 : Int32), t.1.2), t.2)).bind (fun q6 => px_mrest kr kd kl km p0 p1 ((q6.2.1.1, q6.2.1.2.1, upd q6.2.1.2.2 0 (q6.2.1.2.2 0 + (1 : Int32))), q6.2.2)) := rfl
theorem px_j110 {km p0 p1 a b : Int32} (i : Int32) (k : Nat) (hi : (i = 1 ∧ k = 1) ∨ (i = 2 ∧ k = 2) ∨ (i = 0 ∧ k = 3)) : jn_Mod_access_110 kr kd kl km p0 p1 i a b t = jn_Mod_access_138 kr kd kl km p0 p1 i a b ((t.1.1, t.1.2.1, upd t.1.2.2 k (t.1.2.2 k + (1 : Int32))), t.2) := by
  unfold jn_Mod_access_110
  rcases hi with ⟨rfl, rfl⟩ | ⟨rfl, rfl⟩ | ⟨rfl, rfl⟩
  · rw [if_pos rfl, if_neg (by decide), if_neg (by decide)]; rfl
  · rw [if_neg (by decide), if_pos rfl, if_neg (by decide), if_neg (by decide)]; rfl
  · rw [if_neg (by decide), if_neg (by decide), if_neg (by decide), if_neg (by decide)]; rfl
/-- a line that is there moves in front -/
theorem px_ins_of {f : Nat → Int32} {i j : Nat} : ∃ a, px_ins f i (f i) j = f a ∧ (j < n → i < n → a < n) ∧ ((j = 0 ∧ a = i) ∨ (0 < j ∧ j ≤ i ∧ a = j - 1) ∨ (i < j ∧ a = j)) := by
  unfold px_ins
  by_cases h0 : j = 0
  · exact ⟨i, by rw [if_pos h0], fun _ h => h, Or.inl ⟨h0, rfl⟩⟩
  · by_cases h1 : j ≤ i
    · exact ⟨j - 1, by rw [if_neg h0, if_pos h1], fun h _ => by omega, Or.inr (Or.inl ⟨by omega, h1, rfl⟩)⟩
    · exact ⟨j, by rw [if_neg h0, if_neg h1], fun h _ => h, Or.inr (Or.inr ⟨by omega, rfl⟩)⟩
theorem px_mv_dist {f : Nat → Int32} {i : Nat} (h : px_dist f n) (hi : i < n) : px_dist (px_ins f i (f i)) n := by
  intro a b ha hb e
  obtain ⟨a', x1, x2, x3⟩ := px_ins_of (n := n) (f := f) (i := i) (j := a)
  obtain ⟨b', y1, y2, y3⟩ := px_ins_of (n := n) (f := f) (i := i) (j := b)
  have := h a' b' (x2 ha hi) (y2 hb hi) (by rw [← x1, ← y1]; exact e)
  omega
theorem px_mv_eq {f g : Nat → Int32} {x y : Int32} {i : Nat} (h : px_eq n f g) (hxy : x = y) (hi : i < n) : px_eq n (px_ins f i x) (px_ins g i y) := by
  intro j hj
  unfold px_ins
  by_cases h0 : j = 0
  · rw [if_pos h0, if_pos h0, hxy]
  · rw [if_neg h0, if_neg h0]
    by_cases h1 : j ≤ i
    · rw [if_pos h1, if_pos h1]; exact h _ (by omega)
    · rw [if_neg h1, if_neg h1]; exact h _ hj
theorem px_upd0 (f : Nat → Int32) (k : Nat) (x y : Int32) : upd (px_ins f k x) 0 y = px_ins f k y := by
  funext j
  simp only [px_ins, upd]
  by_cases h0 : j = 0
  · simp [h0]
  · simp [h0]
theorem px_isMarked {s : sg_store} {i : Nat} (hs : s.1 = nI n) (hn : n ≤ N) (hN : N ≤ 64) (hi : i < n) (h01 : px_01 s.2.2) : f_Store_isMarked N s (nI i) = some (s.2.2 i) := by
  unfold f_Store_isMarked
  rw [px_Shas (by omega) hn hs hi, Option.bind_some, if_neg (by decide), if_neg (px_iN i N (by omega) (by omega)), px_cl i (by omega)]
  rcases h01 i with h | h
  · rw [h, if_pos rfl]
  · rw [h, if_neg (by decide)]
theorem px_suse {s : sg_store} {i : Nat} (hs : s.1 = nI n) (hn : n ≤ N) (hN : N ≤ 64) (hi : i < n) (h01 : px_01 s.2.2) : f_Store_use N s (nI i) = some (s.1, px_ins s.2.1 i (s.2.1 i), px_ins s.2.2 i 0) := by
  unfold f_Store_use
  rw [px_Shas (by omega) hn hs hi, Option.bind_some, if_neg (by decide), if_neg (px_iN i N (by omega) (by omega)), px_cl i (by omega), px_Smove (u := s) (by omega) (Or.inl rfl) (by omega) h01]
  rfl
/-- the line asked for -/
theorem BR.ask (hL : L ≤ 32) (B : BR N L a e c n q u t) (p x : Int32) :
    ∃ (how y z : Int32) (n' q' : Nat) (u' : sg_main) (t' : sg_model), f_Main_ask lat N u x = some (how, u') ∧ px_mrest kr kd kl (nI N) p x t = jn_Mod_access_138 kr kd kl (nI N) p x how y z t' ∧ BR N L a e c n' q' u' t' ∧ px_keep t t' := by
  obtain ⟨⟨hN1, hN⟩, hC, hS, hQ, hd⟩ := id B
  obtain ⟨hn, s1, s2, s3, s4, s5, s6, s7⟩ := id hS
  obtain ⟨q1, q2, q3, q4, q5, q6, -⟩ := id hQ
  have f1 := px_find (x := x) (show N < 1000 by omega) hn s1
  have g1 := px_placeOf (kr := kr) (kd := kd) (kl := kl) (km := nI N) (x := x) (show n ≤ 64 by omega) s2 (px_dist_eq s3 s7)
  rw [← px_fd_eq s3 n 0 (by omega)] at g1
  have f2 := px_qfind (x := x) q1 q2
  have g2 := px_queueOf (kr := kr) (kd := kd) (kl := kl) (km := nI N) (x := x) q1 q3 (px_dist_eq q4 q6)
  rw [← px_fd_eq q4 q 0 (by omega)] at g2
  unfold f_Main_ask px_mrest
  rw [f1, g1, g2, Option.bind_some, Option.bind_some, Option.bind_some]
  by_cases hs : px_fd u.2.1.2.1 x 0 n = (-1 : Int32)
  · have hout := px_fd_out hs (by omega)
    rw [if_pos hs, if_pos (show px_fd u.2.1.2.1 x 0 n < 0 by rw [hs]; decide), f2, Option.bind_some]
    by_cases hq : px_fd u.2.2.2.1 x 0 q = (-1 : Int32)
    · have hoq := px_fd_out hq (by omega)
      obtain ⟨a1, t', a2, a3, a4⟩ := BR.come (lat := lat) (kr := kr) (kd := kd) (kl := kl) B (x := x) (m := 0) (Or.inl rfl) hout hoq
      rw [if_pos hq, if_pos (show px_fd u.2.2.2.1 x 0 q < 0 by rw [hq]; decide)]
      have e1 : f_Main_come lat N (px_k3 u.1, u.2) x (0 : Int32) = some (px_k3 (px_uc N n u x 0).1, (px_uc N n u x 0).2) := px_come (u := (px_k3 u.1, u.2)) hN1 hN hn s1 s5 (Or.inl rfl)
      have e2 : jn_Mod_access_93 kr kd kl (nI N) (jn_Mod_access_110 kr kd kl (nI N)) p x (0 : Int32) (px_fd u.2.1.2.1 x 0 n) (px_fd u.2.2.2.1 x 0 q) t = jn_Mod_access_138 kr kd kl (nI N) p x (0 : Int32) (px_fd u.2.1.2.1 x 0 n) (px_fd u.2.2.2.1 x 0 q) ((t'.1.1, t'.1.2.1, upd t'.1.2.2 3 (t'.1.2.2 3 + (1 : Int32))), t'.2) := by
        unfold jn_Mod_access_93 jn_Mod_access_104
        rw [if_pos (show px_fd u.2.2.2.1 x 0 q < 0 by rw [hq]; decide), a2, Option.bind_some]
        exact px_j110 0 3 (Or.inr (Or.inr ⟨rfl, rfl⟩))
      refine ⟨0, _, _, px_n n N, q, _, _, ?_, e2, BR.c3 a3, a4.1, a4.2.1, (pk_un (f := t'.1.2.2) (x := t'.1.2.2 3 + (1 : Int32)) (show (13 : Nat) ≠ 3 by decide)).trans a4.2.2⟩
      exact (congrArg (fun o => Option.bind o (fun q74 => some ((0 : Int32), q74))) e1)
    · obtain ⟨j, j1, j2, j3⟩ := px_fd_in hq
      have e0 : q - 1 + 1 = q := by omega
      have hQ1 := px_Q.del (i := j) hQ j1
      have B1 : BR N L a e c n (q - 1) (u.1, u.2.1, (nI (q - 1), px_del u.2.2.2.1 j (q - 1), px_del u.2.2.2.2 j (q - 1))) (t.1, t.2.1, (nI (q - 1), px_del t.2.2.1.2.1 j (q - 1), px_del t.2.2.1.2.2 j (q - 1)), t.2.2.2) := by
        refine ⟨⟨hN1, hN⟩, hC, hS, hQ1, fun i hi => ?_⟩
        obtain ⟨b, x1, x2, x3, -⟩ := px_del_of (f := u.2.2.2.1) (i := j) hi
        show px_out n u.2.1.2.1 (px_del u.2.2.2.1 j (q - 1) i)
        rw [x3]
        exact hd b (by omega)
      obtain ⟨a1, t', a2, a3, a4⟩ := BR.come (lat := lat) (kr := kr) (kd := kd) (kl := kl) B1 (x := x) (m := 0) (Or.inl rfl) hout (fun i hi z => by
        obtain ⟨b, x1, x2, x3, -⟩ := px_del_of (f := u.2.2.2.1) (i := j) hi
        have z : px_del u.2.2.2.1 j (q - 1) i = x := z
        rw [x3] at z
        exact x2 (q6 b j (by omega) j1 (z.trans j2.symm)))
      rw [if_neg hq, if_neg (show ¬ px_fd u.2.2.2.1 x 0 q < 0 by rw [j3]; exact px_0F j (by omega)), j3, px_remove q1 j1 q2, Option.bind_some]
      have e1 : f_Main_come lat N (px_k2 u.1, u.2.1, (nI (q - 1), px_del u.2.2.2.1 j (q - 1), px_del u.2.2.2.2 j (q - 1))) x (0 : Int32) = some (px_k2 (px_uc N n (u.1, u.2.1, (nI (q - 1), px_del u.2.2.2.1 j (q - 1), px_del u.2.2.2.2 j (q - 1))) x 0).1, (px_uc N n (u.1, u.2.1, (nI (q - 1), px_del u.2.2.2.1 j (q - 1), px_del u.2.2.2.2 j (q - 1))) x 0).2) := px_come (u := (px_k2 u.1, u.2.1, (nI (q - 1), px_del u.2.2.2.1 j (q - 1), px_del u.2.2.2.2 j (q - 1)))) hN1 hN hn s1 s5 (Or.inl rfl)
      have e2 : jn_Mod_access_93 kr kd kl (nI N) (jn_Mod_access_110 kr kd kl (nI N)) p x (2 : Int32) (px_fd u.2.1.2.1 x 0 n) (nI j) t = jn_Mod_access_138 kr kd kl (nI N) p x (2 : Int32) (px_fd u.2.1.2.1 x 0 n) (nI j) ((t'.1.1, t'.1.2.1, upd t'.1.2.2 2 (t'.1.2.2 2 + (1 : Int32))), t'.2) := by
        unfold jn_Mod_access_93 jn_Mod_access_104
        rw [if_neg (px_0F j (by omega)), px_takeOut q1 j1 q3, Option.bind_some, a2, Option.bind_some]
        exact px_j110 2 2 (Or.inr (Or.inl ⟨rfl, rfl⟩))
      refine ⟨2, _, _, px_n n N, q - 1, _, _, ?_, e2, BR.c2 a3, a4.1, a4.2.1, (pk_un (f := t'.1.2.2) (x := t'.1.2.2 2 + (1 : Int32)) (show (13 : Nat) ≠ 2 by decide)).trans a4.2.2⟩
      exact (congrArg (fun o => Option.bind o (fun q56 => some ((2 : Int32), q56))) e1)
  · obtain ⟨i, i1, i2, i3⟩ := px_fd_in hs
    rw [if_neg hs, if_neg (show ¬ px_fd u.2.1.2.1 x 0 n < 0 by rw [i3]; exact px_0F i (by omega)), i3, px_use (show i < 64 by omega) s6, Option.bind_some, if_neg (by decide), if_neg (by decide)]
    have hm : t.2.1.2.2 i = u.2.1.2.2 i := (s4 i i1).symm
    have h00 : px_ins t.2.1.2.2 i (t.2.1.2.2 i) (0 : Int32).toNatClampNeg = u.2.1.2.2 i := by rw [← hm]; rfl
    have hBR : ∀ (k : Int32 × Int32 × Int32 × Int32 × Int32 × Int32 × Int32 × Int32 × Int32 × Int32) (f : Nat → Int32), k.1 = u.1.1 → px_cnt a e k f → BR N L a e c n q (k, (u.2.1.1, px_ins u.2.1.2.1 i (u.2.1.2.1 i), px_ins u.2.1.2.2 i 0), u.2.2) ((t.1.1, t.1.2.1, f), (t.2.1.1, px_ins t.2.1.2.1 i (t.2.1.2.1 i), px_ins t.2.1.2.2 i 0), t.2.2) := by
      intro k f hk hkf
      refine ⟨⟨hN1, hN⟩, ⟨hC.1, hk.trans hC.2.1, hC.2.2.1, hkf⟩, ⟨hn, s1, s2, px_mv_eq s3 (s3 i i1) i1, px_mv_eq s4 rfl i1, px_01_ins s5 (Or.inl rfl), px_01_ins s6 (Or.inl rfl), px_mv_dist s7 i1⟩, hQ, fun j hj b hb eb => ?_⟩
      obtain ⟨a', x1, x2, -⟩ := px_ins_of (n := n) (f := u.2.1.2.1) (i := i) (j := b)
      have eb : px_ins u.2.1.2.1 i (u.2.1.2.1 i) b = u.2.2.2.1 j := eb
      rw [x1] at eb
      exact hd j hj a' (x2 hb i1) eb
    have e72 : ∀ (f : Nat → Int32), jn_Mod_access_72 kr kd kl (nI N) (jn_Mod_access_110 kr kd kl (nI N)) p x (1 : Int32) (nI i) (px_fd u.2.2.2.1 x 0 q) ((t.1.1, t.1.2.1, f), (t.2.1.1, px_ins t.2.1.2.1 i (t.2.1.2.1 i), px_ins t.2.1.2.2 i (t.2.1.2.2 i)), t.2.2) = jn_Mod_access_138 kr kd kl (nI N) p x (1 : Int32) (nI i) (px_fd u.2.2.2.1 x 0 q) ((t.1.1, t.1.2.1, upd f 1 (f 1 + (1 : Int32))), (t.2.1.1, px_ins t.2.1.2.1 i (t.2.1.2.1 i), px_ins t.2.1.2.2 i 0), t.2.2) := by
      intro f
      unfold jn_Mod_access_72
      rw [if_neg (by decide), px_nar (Or.inl rfl), show (0 : Int32).toNatClampNeg = 0 from rfl]
      dsimp only
      rw [px_upd0]
      exact px_j110 1 1 (Or.inl ⟨rfl, rfl⟩)
    dsimp only
    have c4 : (4 : Int32).toNatClampNeg = 4 := rfl
    rcases s5 i with hz | hz
    · rw [if_pos (h00.trans hz), if_neg (by decide), c4]
      refine ⟨1, _, _, n, q, (px_k1 u.1, (u.2.1.1, px_ins u.2.1.2.1 i (u.2.1.2.1 i), px_ins u.2.1.2.2 i 0), u.2.2), _, ?_, e72 _, hBR _ _ rfl ?_, rfl, rfl, rfl⟩
      · unfold f_Main_hit
        rw [px_isMarked s1 hn hN i1 s5, hz, Option.bind_some, if_pos rfl, px_suse s1 hn hN i1 s5]
        rfl
      · have : upd t.1.2.2 4 (t.1.2.2 4 + (0 : Int32)) = t.1.2.2 := by
          funext j
          by_cases ej : j = 4
          · rw [ej, pk_us, Int32.add_zero]
          · rw [pk_un ej]
        rw [this]
        exact px_cnt1 hC.2.2.2
    · rw [if_neg (show ¬ px_ins t.2.1.2.2 i (t.2.1.2.2 i) (0 : Int32).toNatClampNeg = 0 by rw [h00, hz]; decide), if_neg (by decide), c4]
      refine ⟨1, _, _, n, q, (px_k4 (px_k1 u.1), (u.2.1.1, px_ins u.2.1.2.1 i (u.2.1.2.1 i), px_ins u.2.1.2.2 i 0), u.2.2), _, ?_, e72 _, hBR _ _ rfl ?_, rfl, rfl, rfl⟩
      · unfold f_Main_hit
        rw [px_isMarked s1 hn hN i1 s5, hz, Option.bind_some, if_neg (by decide), px_suse s1 hn hN i1 s5]
        rfl
      · exact px_cnt1 (px_cnt4 hC.2.2.2)
end PXA
