/-! The counts, one by one; a line is said; a line is used; the calls -/
def px_k0 (k : Int32 × Int32 × Int32 × Int32 × Int32 × Int32 × Int32 × Int32 × Int32 × Int32) : Int32 × Int32 × Int32 × Int32 × Int32 × Int32 × Int32 × Int32 × Int32 × Int32 := (k.1, k.2.1 + (1 : Int32), k.2.2.1, k.2.2.2.1, k.2.2.2.2.1, k.2.2.2.2.2.1, k.2.2.2.2.2.2.1, k.2.2.2.2.2.2.2.1, k.2.2.2.2.2.2.2.2.1, k.2.2.2.2.2.2.2.2.2)
theorem px_cnt0 {a e : Int32} {k : Int32 × Int32 × Int32 × Int32 × Int32 × Int32 × Int32 × Int32 × Int32 × Int32} {f : Nat → Int32} (h : px_cnt a e k f) : px_cnt (a + (1 : Int32)) (e + (1 : Int32)) (px_k0 k) (upd f 0 (f 0 + (1 : Int32))) := by
  obtain ⟨h0, h1, h2, h3, h4, h5, h6, h7, h8⟩ := h
  exact ⟨⟨pk_us.trans (by rw [h0.1]), by rw [← h0.2]; rfl⟩, (pk_un (by decide)).trans h1, (pk_un (by decide)).trans h2, (pk_un (by decide)).trans h3, (pk_un (by decide)).trans h4, (pk_un (by decide)).trans h5, (pk_un (by decide)).trans h6, (pk_un (by decide)).trans h7, (pk_un (by decide)).trans h8⟩
def px_k1 (k : Int32 × Int32 × Int32 × Int32 × Int32 × Int32 × Int32 × Int32 × Int32 × Int32) : Int32 × Int32 × Int32 × Int32 × Int32 × Int32 × Int32 × Int32 × Int32 × Int32 := (k.1, k.2.1, k.2.2.1 + (1 : Int32), k.2.2.2.1, k.2.2.2.2.1, k.2.2.2.2.2.1, k.2.2.2.2.2.2.1, k.2.2.2.2.2.2.2.1, k.2.2.2.2.2.2.2.2.1, k.2.2.2.2.2.2.2.2.2)
theorem px_cnt1 {a e : Int32} {k : Int32 × Int32 × Int32 × Int32 × Int32 × Int32 × Int32 × Int32 × Int32 × Int32} {f : Nat → Int32} (h : px_cnt a e k f) : px_cnt (a) (e) (px_k1 k) (upd f 1 (f 1 + (1 : Int32))) := by
  obtain ⟨h0, h1, h2, h3, h4, h5, h6, h7, h8⟩ := h
  exact ⟨⟨(pk_un (by decide)).trans h0.1, h0.2⟩, pk_us.trans (by rw [h1]; rfl), (pk_un (by decide)).trans h2, (pk_un (by decide)).trans h3, (pk_un (by decide)).trans h4, (pk_un (by decide)).trans h5, (pk_un (by decide)).trans h6, (pk_un (by decide)).trans h7, (pk_un (by decide)).trans h8⟩
def px_k2 (k : Int32 × Int32 × Int32 × Int32 × Int32 × Int32 × Int32 × Int32 × Int32 × Int32) : Int32 × Int32 × Int32 × Int32 × Int32 × Int32 × Int32 × Int32 × Int32 × Int32 := (k.1, k.2.1, k.2.2.1, k.2.2.2.1 + (1 : Int32), k.2.2.2.2.1, k.2.2.2.2.2.1, k.2.2.2.2.2.2.1, k.2.2.2.2.2.2.2.1, k.2.2.2.2.2.2.2.2.1, k.2.2.2.2.2.2.2.2.2)
theorem px_cnt2 {a e : Int32} {k : Int32 × Int32 × Int32 × Int32 × Int32 × Int32 × Int32 × Int32 × Int32 × Int32} {f : Nat → Int32} (h : px_cnt a e k f) : px_cnt (a) (e) (px_k2 k) (upd f 2 (f 2 + (1 : Int32))) := by
  obtain ⟨h0, h1, h2, h3, h4, h5, h6, h7, h8⟩ := h
  exact ⟨⟨(pk_un (by decide)).trans h0.1, h0.2⟩, (pk_un (by decide)).trans h1, pk_us.trans (by rw [h2]; rfl), (pk_un (by decide)).trans h3, (pk_un (by decide)).trans h4, (pk_un (by decide)).trans h5, (pk_un (by decide)).trans h6, (pk_un (by decide)).trans h7, (pk_un (by decide)).trans h8⟩
def px_k3 (k : Int32 × Int32 × Int32 × Int32 × Int32 × Int32 × Int32 × Int32 × Int32 × Int32) : Int32 × Int32 × Int32 × Int32 × Int32 × Int32 × Int32 × Int32 × Int32 × Int32 := (k.1, k.2.1, k.2.2.1, k.2.2.2.1, k.2.2.2.2.1 + (1 : Int32), k.2.2.2.2.2.1, k.2.2.2.2.2.2.1, k.2.2.2.2.2.2.2.1, k.2.2.2.2.2.2.2.2.1, k.2.2.2.2.2.2.2.2.2)
theorem px_cnt3 {a e : Int32} {k : Int32 × Int32 × Int32 × Int32 × Int32 × Int32 × Int32 × Int32 × Int32 × Int32} {f : Nat → Int32} (h : px_cnt a e k f) : px_cnt (a) (e) (px_k3 k) (upd f 3 (f 3 + (1 : Int32))) := by
  obtain ⟨h0, h1, h2, h3, h4, h5, h6, h7, h8⟩ := h
  exact ⟨⟨(pk_un (by decide)).trans h0.1, h0.2⟩, (pk_un (by decide)).trans h1, (pk_un (by decide)).trans h2, pk_us.trans (by rw [h3]; rfl), (pk_un (by decide)).trans h4, (pk_un (by decide)).trans h5, (pk_un (by decide)).trans h6, (pk_un (by decide)).trans h7, (pk_un (by decide)).trans h8⟩
def px_k4 (k : Int32 × Int32 × Int32 × Int32 × Int32 × Int32 × Int32 × Int32 × Int32 × Int32) : Int32 × Int32 × Int32 × Int32 × Int32 × Int32 × Int32 × Int32 × Int32 × Int32 := (k.1, k.2.1, k.2.2.1, k.2.2.2.1, k.2.2.2.2.1, k.2.2.2.2.2.1 + (1 : Int32), k.2.2.2.2.2.2.1, k.2.2.2.2.2.2.2.1, k.2.2.2.2.2.2.2.2.1, k.2.2.2.2.2.2.2.2.2)
theorem px_cnt4 {a e : Int32} {k : Int32 × Int32 × Int32 × Int32 × Int32 × Int32 × Int32 × Int32 × Int32 × Int32} {f : Nat → Int32} (h : px_cnt a e k f) : px_cnt (a) (e) (px_k4 k) (upd f 4 (f 4 + (1 : Int32))) := by
  obtain ⟨h0, h1, h2, h3, h4, h5, h6, h7, h8⟩ := h
  exact ⟨⟨(pk_un (by decide)).trans h0.1, h0.2⟩, (pk_un (by decide)).trans h1, (pk_un (by decide)).trans h2, (pk_un (by decide)).trans h3, pk_us.trans (by rw [h4]; rfl), (pk_un (by decide)).trans h5, (pk_un (by decide)).trans h6, (pk_un (by decide)).trans h7, (pk_un (by decide)).trans h8⟩
def px_k5 (k : Int32 × Int32 × Int32 × Int32 × Int32 × Int32 × Int32 × Int32 × Int32 × Int32) : Int32 × Int32 × Int32 × Int32 × Int32 × Int32 × Int32 × Int32 × Int32 × Int32 := (k.1, k.2.1, k.2.2.1, k.2.2.2.1, k.2.2.2.2.1, k.2.2.2.2.2.1, k.2.2.2.2.2.2.1 + (1 : Int32), k.2.2.2.2.2.2.2.1, k.2.2.2.2.2.2.2.2.1, k.2.2.2.2.2.2.2.2.2)
theorem px_cnt5 {a e : Int32} {k : Int32 × Int32 × Int32 × Int32 × Int32 × Int32 × Int32 × Int32 × Int32 × Int32} {f : Nat → Int32} (h : px_cnt a e k f) : px_cnt (a) (e) (px_k5 k) (upd f 5 (f 5 + (1 : Int32))) := by
  obtain ⟨h0, h1, h2, h3, h4, h5, h6, h7, h8⟩ := h
  exact ⟨⟨(pk_un (by decide)).trans h0.1, h0.2⟩, (pk_un (by decide)).trans h1, (pk_un (by decide)).trans h2, (pk_un (by decide)).trans h3, (pk_un (by decide)).trans h4, pk_us.trans (by rw [h5]; rfl), (pk_un (by decide)).trans h6, (pk_un (by decide)).trans h7, (pk_un (by decide)).trans h8⟩
def px_k6 (k : Int32 × Int32 × Int32 × Int32 × Int32 × Int32 × Int32 × Int32 × Int32 × Int32) : Int32 × Int32 × Int32 × Int32 × Int32 × Int32 × Int32 × Int32 × Int32 × Int32 := (k.1, k.2.1, k.2.2.1, k.2.2.2.1, k.2.2.2.2.1, k.2.2.2.2.2.1, k.2.2.2.2.2.2.1, k.2.2.2.2.2.2.2.1 + (1 : Int32), k.2.2.2.2.2.2.2.2.1, k.2.2.2.2.2.2.2.2.2)
theorem px_cnt6 {a e : Int32} {k : Int32 × Int32 × Int32 × Int32 × Int32 × Int32 × Int32 × Int32 × Int32 × Int32} {f : Nat → Int32} (h : px_cnt a e k f) : px_cnt (a) (e) (px_k6 k) (upd f 6 (f 6 + (1 : Int32))) := by
  obtain ⟨h0, h1, h2, h3, h4, h5, h6, h7, h8⟩ := h
  exact ⟨⟨(pk_un (by decide)).trans h0.1, h0.2⟩, (pk_un (by decide)).trans h1, (pk_un (by decide)).trans h2, (pk_un (by decide)).trans h3, (pk_un (by decide)).trans h4, (pk_un (by decide)).trans h5, pk_us.trans (by rw [h6]; rfl), (pk_un (by decide)).trans h7, (pk_un (by decide)).trans h8⟩
def px_k7 (k : Int32 × Int32 × Int32 × Int32 × Int32 × Int32 × Int32 × Int32 × Int32 × Int32) : Int32 × Int32 × Int32 × Int32 × Int32 × Int32 × Int32 × Int32 × Int32 × Int32 := (k.1, k.2.1, k.2.2.1, k.2.2.2.1, k.2.2.2.2.1, k.2.2.2.2.2.1, k.2.2.2.2.2.2.1, k.2.2.2.2.2.2.2.1, k.2.2.2.2.2.2.2.2.1 + (1 : Int32), k.2.2.2.2.2.2.2.2.2)
theorem px_cnt7 {a e : Int32} {k : Int32 × Int32 × Int32 × Int32 × Int32 × Int32 × Int32 × Int32 × Int32 × Int32} {f : Nat → Int32} (h : px_cnt a e k f) : px_cnt (a) (e) (px_k7 k) (upd f 7 (f 7 + (1 : Int32))) := by
  obtain ⟨h0, h1, h2, h3, h4, h5, h6, h7, h8⟩ := h
  exact ⟨⟨(pk_un (by decide)).trans h0.1, h0.2⟩, (pk_un (by decide)).trans h1, (pk_un (by decide)).trans h2, (pk_un (by decide)).trans h3, (pk_un (by decide)).trans h4, (pk_un (by decide)).trans h5, (pk_un (by decide)).trans h6, pk_us.trans (by rw [h7]; rfl), (pk_un (by decide)).trans h8⟩
def px_k8 (k : Int32 × Int32 × Int32 × Int32 × Int32 × Int32 × Int32 × Int32 × Int32 × Int32) : Int32 × Int32 × Int32 × Int32 × Int32 × Int32 × Int32 × Int32 × Int32 × Int32 := (k.1, k.2.1, k.2.2.1, k.2.2.2.1, k.2.2.2.2.1, k.2.2.2.2.2.1, k.2.2.2.2.2.2.1, k.2.2.2.2.2.2.2.1, k.2.2.2.2.2.2.2.2.1, k.2.2.2.2.2.2.2.2.2 + (1 : Int32))
theorem px_cnt8 {a e : Int32} {k : Int32 × Int32 × Int32 × Int32 × Int32 × Int32 × Int32 × Int32 × Int32 × Int32} {f : Nat → Int32} (h : px_cnt a e k f) : px_cnt (a) (e) (px_k8 k) (upd f 8 (f 8 + (1 : Int32))) := by
  obtain ⟨h0, h1, h2, h3, h4, h5, h6, h7, h8⟩ := h
  exact ⟨⟨(pk_un (by decide)).trans h0.1, h0.2⟩, (pk_un (by decide)).trans h1, (pk_un (by decide)).trans h2, (pk_un (by decide)).trans h3, (pk_un (by decide)).trans h4, (pk_un (by decide)).trans h5, (pk_un (by decide)).trans h6, (pk_un (by decide)).trans h7, pk_us.trans (by rw [h8]; rfl)⟩
theorem px_cnt5v {a e : Int32} {k : Int32 × Int32 × Int32 × Int32 × Int32 × Int32 × Int32 × Int32 × Int32 × Int32} {f g : Nat → Int32} {d : Int32} (h : px_cnt a e k f) (h5 : g 5 = f 5 + d) (hn : ∀ j, j ≠ 5 → g j = f j) : px_cnt a e (px_cU k d) g := by
  obtain ⟨h0, h1, h2, h3, h4, h6, h7, h8, h9⟩ := h
  exact ⟨⟨(hn 0 (by decide)).trans h0.1, h0.2⟩, (hn 1 (by decide)).trans h1, (hn 2 (by decide)).trans h2, (hn 3 (by decide)).trans h3, (hn 4 (by decide)).trans h4, h5.trans (by rw [h6]; rfl), (hn 6 (by decide)).trans h7, (hn 7 (by decide)).trans h8, (hn 8 (by decide)).trans h9⟩
section PXS
variable {lat kr kd a e : Int32} {N L c n q : Nat} {u : sg_main} {t : sg_model}
theorem px_qfull {s : sg_queue} (hs : s.1 = nI q) (hq : q ≤ 8) : f_Queue_isFull s = some (if q = 8 then (1 : Int32) else (0 : Int32)) := by
  unfold f_Queue_isFull
  rw [hs]
  by_cases h : q = 8
  · rw [if_neg (show ¬ nI q < (8 : Int32) from px_lF q 8 (by omega) (by omega)), if_pos h]
  · rw [if_pos (show nI q < (8 : Int32) from px_lT q 8 (by omega) (by decide)), if_neg h]
theorem px_add {s : sg_queue} {x y : Int32} (hs : s.1 = nI q) (hq : q < 8) : f_Queue_add s x y = some (nI (q + 1), upd s.2.1 q x, upd s.2.2 q y) := by
  unfold f_Queue_add
  rw [hs, if_neg (px_0F q (by omega)), if_neg (show ¬ (8 : Int32) ≤ nI q from px_pF 8 q hq (by decide)), if_neg (px_iN q 8 hq (by omega)), if_neg (px_iN q 8 hq (by omega)), px_cl q (by omega), px_s1 q]
/-- a fetch more -/
theorem px_Q.add {s w : sg_queue} (h : px_Q L c q s w) (hL : L ≤ 32) (hq : q < 8) {x : Int32} (hx : ∀ j, j < q → ¬ s.2.1 j = x) : px_Q L c (q + 1) (nI (q + 1), upd s.2.1 q x, upd s.2.2 q (nI c + nI L)) (nI (q + 1), upd w.2.1 q x, upd w.2.2 q (nI c + nI L)) := by
  obtain ⟨h1, h2, h3, h4, h5, h6, d, h7, h8⟩ := h
  have eq1 : ∀ {f g : Nat → Int32} {y : Int32}, px_eq q f g → px_eq (q + 1) (upd f q y) (upd g q y) := fun {f g y} hf j hj => by
    by_cases ej : j = q
    · rw [ej, pk_us, pk_us]
    · rw [pk_un ej, pk_un ej]; exact hf j (by omega)
  refine ⟨by omega, rfl, rfl, eq1 h4, eq1 h5, ?_, fun j => if j = q then c + L else d j, ?_, ?_⟩
  · intro i j hi hj e
    dsimp only at e
    by_cases p1 : i = q <;> by_cases p2 : j = q
    · omega
    · rw [p1, pk_us, pk_un p2] at e
      exact absurd e.symm (hx j (by omega))
    · rw [p2, pk_us, pk_un p1] at e
      exact absurd e (hx i (by omega))
    · rw [pk_un p1, pk_un p2] at e
      exact h6 i j (by omega) (by omega) e
  · intro j hj
    dsimp only
    by_cases p : j = q
    · rw [p, pk_us, if_pos rfl]; exact ⟨nI_add c L, Nat.le_refl _⟩
    · rw [pk_un p, if_neg p]; exact h7 j (by omega)
  · intro i j hij hj
    dsimp only
    by_cases p1 : i = q <;> by_cases p2 : j = q
    · rw [if_pos p1, if_pos p2]; exact Nat.le_refl _
    · omega
    · rw [if_neg p1, if_pos p2]; exact (h7 i (by omega)).2
    · rw [if_neg p1, if_neg p2]; exact h8 i j hij (by omega)
/-- the rule says a line -/
theorem BR.say (hL : L ≤ 32) (B : BR N L a e c n q u t) (x : Int32) :
    ∃ q' u' t', f_Main_fetch (nI L) N u x = some u' ∧ f_Mod_say kr kd (nI L) (nI N) t x = some t' ∧ BR N L a e c n q' u' t' ∧ px_keep t t' := by
  obtain ⟨⟨hN1, hN⟩, ⟨hc, hc1, hc2, hct⟩, hS, hQ, hd⟩ := id B
  obtain ⟨hn, s1, s2, s3, s4, s5, s6, s7⟩ := id hS
  obtain ⟨q1, q2, q3, q4, q5, q6, -⟩ := id hQ
  have f1 := px_find (x := x) (show N < 1000 by omega) hn s1
  have g1 := px_placeOf (kr := kr) (kd := kd) (kl := nI L) (km := nI N) (x := x) (show n ≤ 64 by omega) s2 (px_dist_eq s3 s7)
  rw [← px_fd_eq s3 n 0 (by omega)] at g1
  have f2 := px_qfind (x := x) q1 q2
  have g2 := px_queueOf (kr := kr) (kd := kd) (kl := nI L) (km := nI N) (x := x) q1 q3 (px_dist_eq q4 q6)
  rw [← px_fd_eq q4 q 0 (by omega)] at g2
  unfold f_Main_fetch f_Mod_say
  rw [f1, g1, Option.bind_some, Option.bind_some]
  by_cases hs : px_fd u.2.1.2.1 x 0 n = (-1 : Int32)
  · rw [if_pos hs, if_neg (show ¬ (0 : Int32) ≤ px_fd u.2.1.2.1 x 0 n by rw [hs]; decide), f2, g2, Option.bind_some, Option.bind_some]
    by_cases hq : px_fd u.2.2.2.1 x 0 q = (-1 : Int32)
    · rw [if_pos hq, if_pos (show px_fd u.2.2.2.1 x 0 q < 0 by rw [hq]; decide), px_qfull q2 q1, Option.bind_some, q3]
      by_cases h8 : q = 8
      · rw [if_pos h8, if_neg (by decide), if_pos (show nI q = (8 : Int32) by rw [h8]; rfl), if_neg (by decide), if_neg (by decide)]
        exact ⟨q, _, _, rfl, rfl, ⟨⟨hN1, hN⟩, ⟨hc, hc1, hc2, px_cnt7 hct⟩, hS, hQ, hd⟩, rfl, rfl, pk_un (f := t.1.2.2) (x := t.1.2.2 7 + (1 : Int32)) (show (13 : Nat) ≠ 7 by decide)⟩
      · have hlt : q < 8 := by omega
        rw [if_neg h8, if_pos rfl, if_neg (show ¬ nI q = (8 : Int32) from fun z => h8 ((nI_eq (by omega) (by decide)).mp z)), if_neg (px_iN q 8 hlt (by omega)), if_neg (px_iN q 8 hlt (by omega)), if_neg (by decide), if_neg (by decide), px_add q2 hlt, Option.bind_some, px_cl q (by omega), hc1, hc2, px_s1 q]
        refine ⟨q + 1, _, _, rfl, rfl, ⟨⟨hN1, hN⟩, ⟨hc, rfl, rfl, ?_⟩, hS, px_Q.add hQ hL hlt (px_fd_out hq (by omega)), ?_⟩, rfl, rfl, pk_un (f := t.1.2.2) (x := t.1.2.2 8 + (1 : Int32)) (show (13 : Nat) ≠ 8 by decide)⟩
        · have := px_cnt8 hct
          exact this
        · intro j hj
          show px_out n u.2.1.2.1 (upd u.2.2.2.1 q x j)
          by_cases p : j = q
          · rw [p, pk_us]; exact px_fd_out hs (by omega)
          · rw [pk_un p]; exact hd j (by omega)
    · obtain ⟨j, j1, j2, j3⟩ := px_fd_in hq
      rw [if_neg hq, if_neg (show ¬ px_fd u.2.2.2.1 x 0 q < 0 by rw [j3]; exact nI_pos (by omega)), if_neg (by decide), if_neg (by decide)]
      exact ⟨q, _, _, rfl, rfl, ⟨⟨hN1, hN⟩, ⟨hc, hc1, hc2, px_cnt6 hct⟩, hS, hQ, hd⟩, rfl, rfl, pk_un (f := t.1.2.2) (x := t.1.2.2 6 + (1 : Int32)) (show (13 : Nat) ≠ 6 by decide)⟩
  · obtain ⟨j, j1, j2, j3⟩ := px_fd_in hs
    rw [if_neg hs, if_pos (show (0 : Int32) ≤ px_fd u.2.1.2.1 x 0 n by rw [j3]; exact nI_pos' (by omega)), if_neg (by decide), if_neg (by decide)]
    exact ⟨q, _, _, rfl, rfl, ⟨⟨hN1, hN⟩, ⟨hc, hc1, hc2, px_cnt6 hct⟩, hS, hQ, hd⟩, rfl, rfl, pk_un (f := t.1.2.2) (x := t.1.2.2 6 + (1 : Int32)) (show (13 : Nat) ≠ 6 by decide)⟩
end PXS
