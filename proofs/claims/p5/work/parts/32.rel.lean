/-! What holds between the class and the reference: counts, store, queue -/
def px_cnt (a e : Int32) (k : Int32 × Int32 × Int32 × Int32 × Int32 × Int32 × Int32 × Int32 × Int32 × Int32) (f : Nat → Int32) : Prop :=
  (f 0 = e ∧ k.2.1 = a) ∧ f 1 = k.2.2.1 ∧ f 2 = k.2.2.2.1 ∧ f 3 = k.2.2.2.2.1 ∧ f 4 = k.2.2.2.2.2.1 ∧ f 5 = k.2.2.2.2.2.2.1 ∧ f 6 = k.2.2.2.2.2.2.2.1 ∧ f 7 = k.2.2.2.2.2.2.2.2.1 ∧ f 8 = k.2.2.2.2.2.2.2.2.2
def px_eq (n : Nat) (f g : Nat → Int32) : Prop := ∀ j, j < n → f j = g j
def px_out (n : Nat) (f : Nat → Int32) (x : Int32) : Prop := ∀ j, j < n → ¬ f j = x
def px_S (N n : Nat) (s t : sg_store) : Prop := n ≤ N ∧ s.1 = nI n ∧ t.1 = nI n ∧ px_eq n s.2.1 t.2.1 ∧ px_eq n s.2.2 t.2.2 ∧ px_01 s.2.2 ∧ px_01 t.2.2 ∧ px_dist s.2.1 n
def px_Q (L c q : Nat) (s t : sg_queue) : Prop := q ≤ 8 ∧ s.1 = nI q ∧ t.1 = nI q ∧ px_eq q s.2.1 t.2.1 ∧ px_eq q s.2.2 t.2.2 ∧ px_dist s.2.1 q ∧ ∃ d : Nat → Nat, (∀ j, j < q → s.2.2 j = nI (d j) ∧ d j ≤ c + L) ∧ ∀ i j, i ≤ j → j < q → d i ≤ d j
def px_C (a e : Int32) (c : Nat) (u : sg_main) (t : sg_model) : Prop := c ≤ 100000 ∧ u.1.1 = nI c ∧ t.1.2.1 = nI c ∧ px_cnt a e u.1 t.1.2.2
/-- class and reference: N places, a latency of L, the c-th cycle, n lines stored, q fetches -/
def BR (N L : Nat) (a e : Int32) (c n q : Nat) (u : sg_main) (t : sg_model) : Prop := (1 ≤ N ∧ N ≤ 64) ∧ px_C a e c u t ∧ px_S N n u.2.1 t.2.1 ∧ px_Q L c q u.2.2 t.2.2.1 ∧ ∀ j, j < q → px_out n u.2.1.2.1 (u.2.2.2.1 j)
/-- the reference's own parts of the rules, and what was thrown, stay -/
def px_keep (t t' : sg_model) : Prop := t'.1.1 = t.1.1 ∧ t'.2.2.2 = t.2.2.2 ∧ t'.1.2.2 13 = t.1.2.2 13
theorem px_fd_eq {n : Nat} {f g : Nat → Int32} {x : Int32} (h : px_eq n f g) : ∀ (d i : Nat), i + d ≤ n → px_fd f x i d = px_fd g x i d
  | 0, i, _ => rfl
  | d + 1, i, hd => by rw [px_fd, px_fd, h i (by omega), px_fd_eq h d (i + 1) (by omega)]
theorem px_dist_eq {n : Nat} {f g : Nat → Int32} (h : px_eq n f g) (hd : px_dist f n) : px_dist g n := fun i j hi hj e => hd i j hi hj ((h i hi).trans (e.trans (h j hj).symm))
theorem px_fd_out {n : Nat} {f : Nat → Int32} {x : Int32} (h : px_fd f x 0 n = (-1 : Int32)) (hn : n < 2 ^ 31) : px_out n f x := by
  rcases px_fd_some (f := f) (x := x) n 0 with ⟨j, h1, h2, h3, h4, -⟩ | ⟨-, h2⟩
  · rw [h] at h4
    exact absurd h4.symm (px_nn (by omega))
  · exact fun j hj => h2 j (Nat.zero_le j) (by omega)
theorem px_fd_in {n : Nat} {f : Nat → Int32} {x : Int32} (h : ¬ px_fd f x 0 n = (-1 : Int32)) : ∃ j, j < n ∧ f j = x ∧ px_fd f x 0 n = nI j := by
  rcases px_fd_some (f := f) (x := x) n 0 with ⟨j, h1, h2, h3, h4, -⟩ | ⟨h1, -⟩
  · exact ⟨j, by omega, h3, h4⟩
  · exact absurd h1 h
theorem px_n_le {n N : Nat} (h : n ≤ N) (h1 : 1 ≤ N) : px_n n N ≤ N ∧ px_n n N - 1 ≤ n ∧ 1 ≤ px_n n N ∧ px_n n N ≤ n + 1 := by
  unfold px_n
  by_cases e : n = N
  · rw [if_pos e]; omega
  · rw [if_neg e]; omega
theorem px_ins_eq {n k : Nat} {f g : Nat → Int32} {x : Int32} (h : px_eq n f g) (hk : k ≤ n) : px_eq (k + 1) (px_ins f k x) (px_ins g k x) := by
  intro j hj
  unfold px_ins
  by_cases h0 : j = 0
  · rw [if_pos h0, if_pos h0]
  · rw [if_neg h0, if_neg h0, if_pos (by omega), if_pos (by omega)]
    exact h (j - 1) (by omega)
theorem px_ins_at {k j : Nat} {f : Nat → Int32} {x : Int32} (hj : j < k + 1) : (j = 0 ∧ px_ins f k x j = x) ∨ (0 < j ∧ px_ins f k x j = f (j - 1)) := by
  unfold px_ins
  by_cases h0 : j = 0
  · exact Or.inl ⟨h0, by rw [if_pos h0]⟩
  · exact Or.inr ⟨by omega, by rw [if_neg h0, if_pos (by omega)]⟩
theorem px_ins_dist {n k : Nat} {f : Nat → Int32} {x : Int32} (h : px_dist f n) (hx : px_out n f x) (hk : k ≤ n) : px_dist (px_ins f k x) (k + 1) := by
  intro i j hi hj e
  rcases px_ins_at (f := f) (x := x) hi with ⟨a, b⟩ | ⟨a, b⟩ <;> rcases px_ins_at (f := f) (x := x) hj with ⟨a2, b2⟩ | ⟨a2, b2⟩
  · omega
  · rw [b, b2] at e
    exact absurd e.symm (hx _ (by omega))
  · rw [b, b2] at e
    exact absurd e (hx _ (by omega))
  · rw [b, b2] at e
    have := h (i - 1) (j - 1) (by omega) (by omega) e
    omega
theorem px_ins_out {n k : Nat} {f : Nat → Int32} {x y : Int32} (h : px_out n f y) (hxy : ¬ x = y) (hk : k ≤ n) : px_out (k + 1) (px_ins f k x) y := by
  intro j hj e
  rcases px_ins_at (f := f) (x := x) hj with ⟨a, b⟩ | ⟨a, b⟩
  · rw [b] at e; exact hxy e
  · rw [b] at e; exact h _ (by omega) e
/-- the class's cells when the line x has come with the mark m -/
def px_uc (N n : Nat) (u : sg_main) (x m : Int32) : sg_main := (px_cU u.1 (px_du n N u.2.1.2.2), (nI (px_n n N), px_ins u.2.1.2.1 (px_n n N - 1) x, px_ins u.2.1.2.2 (px_n n N - 1) m), u.2.2)
section PXR
variable {lat kr kd kl a e : Int32} {N L c n q : Nat} {u : sg_main} {t : sg_model}
/-- a line comes -/
theorem BR.come (B : BR N L a e c n q u t) {x m : Int32} (hm : m = 0 ∨ m = 1) (hx : px_out n u.2.1.2.1 x) (hq : ∀ j, j < q → ¬ u.2.2.2.1 j = x) :
    f_Main_come lat N u x m = some (px_uc N n u x m) ∧ ∃ t', f_Mod_come kr kd kl (nI N) t x m = some t' ∧ BR N L a e c (px_n n N) q (px_uc N n u x m) t' ∧ px_keep t t' := by
  obtain ⟨⟨hN1, hN⟩, ⟨hc, hc1, hc2, hct⟩, ⟨hn, s1, s2, s3, s4, s5, s6, s7⟩, hQ, hd⟩ := B
  obtain ⟨k1, k2, k3, k4⟩ := px_n_le hn hN1
  have a1 := px_come (lat := lat) (x := x) hN1 hN hn s1 s5 hm
  obtain ⟨cc, b1, b2, b3⟩ := px_mcome (kr := kr) (kd := kd) (kl := kl) (x := x) hN1 hN hn rfl s2 s6 hm
  have en : px_n n N - 1 + 1 = px_n n N := by omega
  have hdu : px_du n N t.2.1.2.2 = px_du n N u.2.1.2.2 := by
    unfold px_du
    by_cases h : n = N
    · rw [if_pos h, if_pos h]; exact (s4 _ (by omega)).symm
    · rw [if_neg h, if_neg h]
  refine ⟨a1, _, b1, ⟨⟨hN1, hN⟩, ⟨hc, hc1, hc2, ?_⟩, ⟨k1, rfl, rfl, ?_, ?_, px_01_ins s5 hm, px_01_ins s6 hm, ?_⟩, hQ, ?_⟩, ⟨rfl, rfl, b3 13 (by decide)⟩⟩
  · obtain ⟨h0, h1, h2, h3, h4, h5, h6, h7, h8⟩ := hct
    refine ⟨?_, ?_, ?_, ?_, ?_, ?_, ?_, ?_, ?_⟩
    · exact ⟨(b3 0 (by decide)).trans h0.1, h0.2⟩
    · exact (b3 1 (by decide)).trans h1
    · exact (b3 2 (by decide)).trans h2
    · exact (b3 3 (by decide)).trans h3
    · exact (b3 4 (by decide)).trans h4
    · exact b2.trans (by rw [hdu, h5]; rfl)
    · exact (b3 6 (by decide)).trans h6
    · exact (b3 7 (by decide)).trans h7
    · exact (b3 8 (by decide)).trans h8
  · have := px_ins_eq (k := px_n n N - 1) (x := x) s3 k2
    rw [en] at this; exact this
  · have := px_ins_eq (k := px_n n N - 1) (x := m) s4 k2
    rw [en] at this; exact this
  · have := px_ins_dist (k := px_n n N - 1) s7 hx k2
    rw [en] at this; exact this
  · intro j hj
    have := px_ins_out (k := px_n n N - 1) (hd j hj) (fun z => hq j hj z.symm) k2
    rw [en] at this; exact this
theorem px_del_at {f : Nat → Int32} {i n j : Nat} (hj : j < n) : px_del f i n j = if j < i then f j else f (j + 1) := by
  unfold px_del
  by_cases h : j < i
  · rw [if_neg (by omega), if_pos h]
  · rw [if_pos (by omega), if_neg h]
theorem px_del_eq {f g : Nat → Int32} {i n : Nat} (h : px_eq (n + 1) f g) : px_eq n (px_del f i n) (px_del g i n) := by
  intro j hj
  rw [px_del_at hj, px_del_at hj]
  by_cases e : j < i
  · rw [if_pos e, if_pos e]; exact h j (by omega)
  · rw [if_neg e, if_neg e]; exact h (j + 1) (by omega)
theorem px_del_of {f : Nat → Int32} {i n j : Nat} (hj : j < n) : ∃ a, a < n + 1 ∧ a ≠ i ∧ px_del f i n j = f a ∧ (j < i → a = j) ∧ (i ≤ j → a = j + 1) := by
  rw [px_del_at hj]
  by_cases e : j < i
  · exact ⟨j, by omega, by omega, by rw [if_pos e], fun _ => rfl, fun h => by omega⟩
  · exact ⟨j + 1, by omega, by omega, by rw [if_neg e], fun h => absurd h e, fun _ => rfl⟩
/-- a fetch leaves the queue -/
theorem px_Q.del {s w : sg_queue} (h : px_Q L c q s w) {i : Nat} (hi : i < q) : px_Q L c (q - 1) (nI (q - 1), px_del s.2.1 i (q - 1), px_del s.2.2 i (q - 1)) (nI (q - 1), px_del w.2.1 i (q - 1), px_del w.2.2 i (q - 1)) := by
  obtain ⟨h1, h2, h3, h4, h5, h6, d, h7, h8⟩ := h
  have e : q - 1 + 1 = q := by omega
  refine ⟨by omega, rfl, rfl, px_del_eq (by rw [e]; exact h4), px_del_eq (by rw [e]; exact h5), ?_, fun j => if j < i then d j else d (j + 1), ?_, ?_⟩
  · intro a b ha hb hab
    obtain ⟨a', x1, x2, x3, x4, x5⟩ := px_del_of (f := s.2.1) (i := i) ha
    obtain ⟨b', y1, y2, y3, y4, y5⟩ := px_del_of (f := s.2.1) (i := i) hb
    have := h6 a' b' (by omega) (by omega) (by rw [← x3, ← y3]; exact hab)
    by_cases p1 : a < i <;> by_cases p2 : b < i
    · have := x4 p1; have := y4 p2; omega
    · have := x4 p1; have := y5 (by omega); omega
    · have := x5 (by omega); have := y4 p2; omega
    · have := x5 (by omega); have := y5 (by omega); omega
  · intro j hj
    dsimp only
    rw [px_del_at hj]
    by_cases p : j < i
    · rw [if_pos p, if_pos p]; exact h7 j (by omega)
    · rw [if_neg p, if_neg p]; exact h7 (j + 1) (by omega)
  · intro a b hab hb
    dsimp only
    by_cases p1 : a < i <;> by_cases p2 : b < i
    · rw [if_pos p1, if_pos p2]; exact h8 a b hab (by omega)
    · rw [if_pos p1, if_neg p2]; exact h8 a (b + 1) (by omega) (by omega)
    · omega
    · rw [if_neg p1, if_neg p2]; exact h8 (a + 1) (b + 1) (by omega) (by omega)
theorem px_due {s : sg_queue} {x : Int32} (hs : s.1 = nI q) (hq : q ≤ 8) : f_Queue_firstIsDue s x = some (if q = 0 then (0 : Int32) else if x < s.2.2 0 then (0 : Int32) else (1 : Int32)) := by
  unfold f_Queue_firstIsDue
  rw [hs, if_neg (show ¬ ((0 : Int32) < 0 ∨ 8 ≤ (0 : Int32).toNatClampNeg) by decide), show (0 : Int32).toNatClampNeg = 0 from rfl]
  by_cases h : q = 0
  · rw [if_pos (px_zT q h), if_pos h]
  · rw [if_neg (px_zF q (by omega) (by omega)), if_neg h]
    by_cases e : x < s.2.2 0
    · rw [if_pos e, if_pos e]
    · rw [if_neg e, if_neg e]
theorem px_line0 {s : sg_queue} (hs : s.1 = nI q) (hq : q ≤ 8) (h0 : 0 < q) : f_Queue_lineAt s (0 : Int32) = some (s.2.1 0) := by
  unfold f_Queue_lineAt
  rw [show f_Queue_has s (0 : Int32) = some 1 from px_Qhas (i := 0) hq hs h0, Option.bind_some, if_neg (by decide), if_neg (show ¬ ((0 : Int32) < 0 ∨ 8 ≤ (0 : Int32).toNatClampNeg) by decide)]
  rfl
/-- the reference looks at the rest of the queue: nothing is due -/
theorem px_scan {q : Nat} {t : sg_model} {x : Int32} (hq : q ≤ 8) (hs : t.2.2.1.1 = nI q) (hd : ∀ j, j < q → t.1.2.1 < t.2.2.1.2.2 j) : ∀ (fu i : Nat), i ≤ q → q - i < fu → lp_Mod_arrive_14 kr kd kl (nI N) fu x (nI i) t = some (x, t) := by
  intro fu
  induction fu with
  | zero => intro i h1 h2; omega
  | succ fu ih =>
    intro i h1 h2
    rw [lp_Mod_arrive_14, hs]
    by_cases h : q ≤ i
    · rw [if_pos (px_pT q i h (by omega))]
    · rw [if_neg (px_pF q i (by omega) (by omega)), if_neg (px_iN i 8 (by omega) (by omega)), px_cl i (by omega), if_pos (hd i (by omega)), px_s1 i]
      exact ih (i + 1) (by omega) (by omega)
/-- what is due comes -/
theorem BR.arrive (hL : L ≤ 32) : ∀ (q : Nat) {n : Nat} {u : sg_main} {t : sg_model}, BR N L a e c n q u t → ∀ (k fu fm : Nat) (x : Int32), k + q ≤ 8 → q < fu → q < fm → 
    ∃ (r : Int32) (n' q' : Nat) (u' : sg_main) (t' : sg_model), lp_Main_nextCycle_14 lat N fu x (nI k) u = some (r, u') ∧ lp_Mod_arrive_14 kr kd kl (nI N) fm x (0 : Int32) t = some (r, t') ∧ BR N L a e c n' q' u' t' ∧ px_keep t t' := by
  intro q
  induction q with
  | zero =>
    intro n u t B k fu fm x hk hf hm
    obtain ⟨fu, rfl⟩ : ∃ f, fu = f + 1 := ⟨fu - 1, by omega⟩
    obtain ⟨fm, rfl⟩ : ∃ f, fm = f + 1 := ⟨fm - 1, by omega⟩
    have hQ := B.2.2.2.1
    refine ⟨x, n, 0, u, t, ?_, ?_, B, rfl, rfl, rfl⟩
    · rw [lp_Main_nextCycle_14]
      by_cases h : (8 : Int32) ≤ nI k
      · rw [if_pos h]
      · rw [if_neg h, px_due hQ.2.1 (by omega), if_pos rfl, Option.bind_some, if_pos rfl]
    · exact px_scan (by omega) hQ.2.2.1 (fun j hj => by omega) (fm + 1) 0 (by omega) (by omega)
  | succ q ih =>
    intro n u t B k fu fm x hk hf hm
    obtain ⟨fu, rfl⟩ : ∃ f, fu = f + 1 := ⟨fu - 1, by omega⟩
    obtain ⟨hN, hC, hS, hQ, hd⟩ := id B
    obtain ⟨q1, q2, q3, q4, q5, q6, d, q7, q8⟩ := id hQ
    have hk8 : ¬ (8 : Int32) ≤ nI k := px_pF 8 k (by omega) (by decide)
    have hc := hC.2.1
    have hc2 := hC.2.2.1
    have hcb := hC.1
    have hcmp : ∀ j, j < q + 1 → (nI c < u.2.2.2.2 j ↔ c < d j) := fun j hj => by
      rw [(q7 j hj).1]; exact nI_ltI (by omega) (by have := (q7 j hj).2; omega)
    by_cases hdue : c < d 0
    · refine ⟨x, n, q + 1, u, t, ?_, ?_, B, rfl, rfl, rfl⟩
      · rw [lp_Main_nextCycle_14, if_neg hk8, px_due q2 q1, if_neg (by omega), hc, if_pos ((hcmp 0 (by omega)).mpr hdue), Option.bind_some, if_pos rfl]
      · refine px_scan q1 q3 (fun j hj => ?_) fm 0 (by omega) (by omega)
        rw [hc2, ← q5 j hj]
        exact (hcmp j hj).mpr (Nat.lt_of_lt_of_le hdue (q8 0 j (by omega) hj))
    · obtain ⟨fm, rfl⟩ : ∃ f, fm = f + 1 := ⟨fm - 1, by omega⟩
      have hnd : ¬ nI c < u.2.2.2.2 0 := fun z => hdue ((hcmp 0 (by omega)).mp z)
      have hQ1 := px_Q.del (i := 0) hQ (by omega)
      have e1 : q + 1 - 1 = q := by omega
      rw [e1] at hQ1
      have hto := px_takeOut (kr := kr) (kd := kd) (kl := kl) (km := nI N) (u := t) (i := 0) q1 (by omega) q3
      rw [e1] at hto
      have hB1 : BR N L a e c n q (u.1, u.2.1, (nI q, px_del u.2.2.2.1 0 q, px_del u.2.2.2.2 0 q)) (t.1, t.2.1, (nI q, px_del t.2.2.1.2.1 0 q, px_del t.2.2.1.2.2 0 q), t.2.2.2) := by
        refine ⟨hN, hC, hS, hQ1, fun j hj => ?_⟩
        show px_out n u.2.1.2.1 (px_del u.2.2.2.1 0 q j)
        rw [px_del_at hj, if_neg (by omega)]
        exact hd (j + 1) (by omega)
      obtain ⟨-, t2, c2, B2, K2⟩ := BR.come (lat := lat) (kr := kr) (kd := kd) (kl := kl) hB1 (x := u.2.2.2.1 0) (m := 1) (Or.inr rfl) (hd 0 (by omega)) (fun j hj z => by
        have z : px_del u.2.2.2.1 0 q j = u.2.2.2.1 0 := z
        rw [px_del_at hj, if_neg (by omega)] at z
        have := q6 (j + 1) 0 (by omega) (by omega) z
        omega)
      obtain ⟨hcome, -⟩ := BR.come (lat := lat) (kr := kr) (kd := kd) (kl := kl) (u := (u.1, u.2.1, (nI q, px_del u.2.2.2.1 0 q, px_del u.2.2.2.2 0 q))) hB1 (x := u.2.2.2.1 0) (m := 1) (Or.inr rfl) (hd 0 (by omega)) (fun j hj z => by
        have z : px_del u.2.2.2.1 0 q j = u.2.2.2.1 0 := z
        rw [px_del_at hj, if_neg (by omega)] at z
        have := q6 (j + 1) 0 (by omega) (by omega) z
        omega)
      have hcomeU : f_Main_come lat N u (u.2.2.2.1 0) (1 : Int32) = some (px_uc N n u (u.2.2.2.1 0) 1) := px_come hN.1 hN.2 hS.1 hS.2.1 hS.2.2.2.2.2.1 (Or.inr rfl)
      have hrm := px_remove (i := 0) q1 (by omega) q2
      rw [e1] at hrm
      obtain ⟨r, n', q', u', t', r1, r2, r3, r4⟩ := ih B2 (k + 1) fu fm (x + 1) (by omega) (by omega) (by omega)
      refine ⟨r, n', q', u', t', ?_, ?_, r3, r4.1.trans K2.1, r4.2.1.trans K2.2.1, r4.2.2.trans K2.2.2⟩
      · rw [lp_Main_nextCycle_14, if_neg hk8, px_due q2 q1, if_neg (by omega), hc, if_neg hnd, Option.bind_some, if_neg (by decide), px_line0 q2 q1 (by omega), Option.bind_some, hcomeU, Option.bind_some]
        have hrm' : f_Queue_remove (px_uc N n u (u.2.2.2.1 0) 1).2.2 (0 : Int32) = some (nI q, px_del u.2.2.2.1 0 q, px_del u.2.2.2.2 0 q) := hrm
        rw [hrm', Option.bind_some, px_s1 k]
        exact r1
      · rw [lp_Mod_arrive_14, q3, if_neg (px_zF (q + 1) (by omega) (by omega)), if_neg (by decide), show (0 : Int32).toNatClampNeg = 0 from rfl, hc2, ← q5 0 (by omega), if_neg hnd, if_neg (by decide)]
        have hto' : f_Mod_takeOut kr kd kl (nI N) t (0 : Int32) = some (t.1, t.2.1, (nI q, px_del t.2.2.1.2.1 0 q, px_del t.2.2.1.2.2 0 q), t.2.2.2) := hto
        rw [hto', Option.bind_some, ← q4 0 (by omega), c2, Option.bind_some]
        exact r2
end PXR
