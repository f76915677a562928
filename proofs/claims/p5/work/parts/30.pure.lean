/-! Pure rows: the class's loops in closed form -/
theorem px_pT (a b : Nat) (h : a ≤ b) (hb : b < 2 ^ 31) : nI a ≤ nI b := nI_le h hb
theorem px_pF (a b : Nat) (h : b < a) (ha : a < 2 ^ 31) : ¬ nI a ≤ nI b := nI_ge h ha
theorem px_lT (a b : Nat) (h : a < b) (hb : b < 2 ^ 31) : nI a < nI b := nI_lt h hb
theorem px_lF (a b : Nat) (h : b ≤ a) (ha : a < 2 ^ 31) : ¬ nI a < nI b := nI_nlt h ha
theorem px_iN (i n : Nat) (h : i < n) (hn : n < 2 ^ 31) : ¬ (nI i < 0 ∨ n ≤ (nI i).toNatClampNeg) := nI_in h hn
theorem px_cl (i : Nat) (h : i < 2 ^ 31) : (nI i).toNatClampNeg = i := nI_clamp h
theorem px_zT (i : Nat) (h : i = 0) : nI i ≤ 0 := by rw [h]; decide
theorem px_zF (i : Nat) (h : 0 < i) (hi : i < 2 ^ 31) : ¬ nI i ≤ 0 := nI_nle h hi
theorem px_0T (i : Nat) (hi : i < 2 ^ 31) : (0 : Int32) ≤ nI i := nI_pos' hi
theorem px_0F (i : Nat) (hi : i < 2 ^ 31) : ¬ nI i < 0 := nI_pos hi
theorem px_s1 (i : Nat) : nI i + (1 : Int32) = nI (i + 1) := nI_1 i
theorem px_p1 (i : Nat) : nI (i + 1) - (1 : Int32) = nI i := nI_pred i
theorem px_le {a b : Nat} (ha : a < 2 ^ 31) (hb : b < 2 ^ 31) : (nI a ≤ nI b) = (a ≤ b) := propext (nI_leI ha hb)
theorem px_lt {a b : Nat} (ha : a < 2 ^ 31) (hb : b < 2 ^ 31) : (nI a < nI b) = (a < b) := propext (nI_ltI ha hb)
theorem px_neg {a : Nat} (ha : a < 2 ^ 31) : (nI a < 0) = False := eq_false (nI_pos ha)
theorem px_ge0 {a : Nat} (ha : a < 2 ^ 31) : (0 ≤ nI a) = True := eq_true (nI_pos' ha)
theorem px_le0 {a : Nat} (ha : a < 2 ^ 31) : (nI a ≤ 0) = (a = 0) := by
  rw [show (0 : Int32) = nI 0 from rfl, px_le ha (by decide)]; exact propext ⟨fun h => by omega, fun h => by omega⟩
theorem px_m1 {a : Nat} (h : 0 < a) : nI a - (1 : Int32) = nI (a - 1) := by
  obtain ⟨b, rfl⟩ : ∃ b, a = b + 1 := ⟨a - 1, by omega⟩
  exact nI_pred b
theorem px_a1 {a : Nat} (h : 0 < a) : nI a + (-1) = nI (a - 1) := by
  obtain ⟨b, rfl⟩ : ∃ b, a = b + 1 := ⟨a - 1, by omega⟩
  exact pk_m1 b
theorem px_nn {a : Nat} (ha : a < 2 ^ 31) : ¬ nI a = (-1 : Int32) := fun h => by
  have := nI_pos ha
  rw [h] at this
  exact this (by decide)
/-- the first place from i on, of d places, that holds x; -1 without one -/
def px_fd (f : Nat → Int32) (x : Int32) : Nat → Nat → Int32
  | _, 0 => (-1 : Int32)
  | i, d + 1 => if f i = x then nI i else px_fd f x (i + 1) d
theorem px_fd_some {f : Nat → Int32} {x : Int32} : ∀ (d i : Nat), (∃ j, i ≤ j ∧ j < i + d ∧ f j = x ∧ px_fd f x i d = nI j ∧ ∀ a, i ≤ a → a < j → ¬ f a = x) ∨ (px_fd f x i d = (-1 : Int32) ∧ ∀ a, i ≤ a → a < i + d → ¬ f a = x)
  | 0, i => Or.inr ⟨rfl, fun a h1 h2 => by omega⟩
  | d + 1, i => by
    by_cases h : f i = x
    · exact Or.inl ⟨i, Nat.le_refl i, by omega, h, by rw [px_fd, if_pos h], fun a h1 h2 => by omega⟩
    · rcases px_fd_some d (i + 1) with ⟨j, h1, h2, h3, h4, h5⟩ | ⟨h1, h2⟩
      · refine Or.inl ⟨j, by omega, by omega, h3, by rw [px_fd, if_neg h, h4], fun a h6 h7 => ?_⟩
        by_cases e : a = i
        · rw [e]; exact h
        · exact h5 a (by omega) h7
      · refine Or.inr ⟨by rw [px_fd, if_neg h, h1], fun a h6 h7 => ?_⟩
        by_cases e : a = i
        · rw [e]; exact h
        · exact h2 a (by omega) (by omega)
theorem px_idx {n : Nat} {f : Nat → Int32} {x : Int32} {k : Nat} (hk : k ≤ n) (hn : n < 2 ^ 31) : ∀ (fu i : Nat), i ≤ k → k - i < fu → lp_Main_indexOf_2 n f fu x (nI k) (nI i) = some (px_fd f x i (k - i)) := by
  intro fu
  induction fu with
  | zero => intro i h1 h2; omega
  | succ fu ih =>
    intro i h1 h2
    rw [lp_Main_indexOf_2]
    by_cases h : k ≤ i
    · rw [if_pos (px_pT k i h (by omega)), show k - i = 0 by omega, px_fd]
    · rw [if_neg (px_pF k i (by omega) (by omega)), if_neg (px_pF n i (by omega) (by omega)), if_neg (px_iN i n (by omega) (by omega)), px_cl i (by omega)]
      obtain ⟨d, hd⟩ : ∃ d, k - i = d + 1 := ⟨k - i - 1, by omega⟩
      rw [hd, px_fd]
      by_cases hx : f i = x
      · rw [if_pos hx, if_pos hx]
      · rw [if_neg hx, if_neg hx, px_s1 i, ih (i + 1) (by omega) (by omega), show k - (i + 1) = d by omega]
theorem px_indexOf {n : Nat} {f : Nat → Int32} {x : Int32} {k : Nat} (hk : k ≤ n) (hn : n < 1000) : f_Main_indexOf n f x (nI k) = some (px_fd f x 0 k) := by
  have := px_idx (x := x) (f := f) hk (show n < 2 ^ 31 by omega) 1000 0 (by omega) (by omega)
  rw [Nat.sub_zero] at this
  exact this
/-- x in front, the k ahead of place k one place on -/
def px_ins (f : Nat → Int32) (k : Nat) (x : Int32) : Nat → Int32 := fun j => if j = 0 then x else if j ≤ k then f (j - 1) else f j
theorem px_ins_step (f : Nat → Int32) (i : Nat) (x : Int32) (hi : 0 < i) : px_ins (upd f i (f (i - 1))) (i - 1) x = px_ins f i x := by
  funext j
  simp only [px_ins, upd]
  by_cases h0 : j = 0
  · simp [h0]
  · by_cases h1 : j ≤ i - 1
    · simp [h0, h1, show j ≤ i by omega, show ¬ (j - 1 = i) by omega]
    · by_cases h3 : j = i
      · subst h3; simp [h0, h1]
      · simp [h0, h1, show ¬ j ≤ i by omega, h3]
theorem px_ins_0 (f : Nat → Int32) (x : Int32) : upd f 0 x = px_ins f 0 x := by
  funext j
  simp only [px_ins, upd]
  by_cases h0 : j = 0
  · simp [h0]
  · simp [h0]
def px_01 (f : Nat → Int32) : Prop := ∀ j, f j = 0 ∨ f j = 1
theorem px_nar {x : Int32} (h : x = 0 ∨ x = 1) : vp_nar .boolean x = x := by rcases h with rfl | rfl <;> decide
theorem px_01_upd {f : Nat → Int32} {k : Nat} {x : Int32} (h : px_01 f) (hx : x = 0 ∨ x = 1) : px_01 (upd f k x) := fun j => by
  by_cases e : j = k
  · rw [e, pk_us]; exact hx
  · rw [pk_un e]; exact h j
theorem px_01_ins {f : Nat → Int32} {k : Nat} {x : Int32} (h : px_01 f) (hx : x = 0 ∨ x = 1) : px_01 (px_ins f k x) := fun j => by
  unfold px_ins
  by_cases h0 : j = 0
  · rw [if_pos h0]; exact hx
  · rw [if_neg h0]
    by_cases h1 : j ≤ k
    · rw [if_pos h1]; exact h _
    · rw [if_neg h1]; exact h _
theorem px_Smv {N : Nat} (hN : N < 2 ^ 31) {x1 x2 x3 : Int32} (h3 : x3 = 0 ∨ x3 = 1) : ∀ (fu i : Nat) (u : sg_store), i < N → i < fu → px_01 u.2.2 → lp_Store_moveInFront_13 N fu x1 x2 x3 (nI i) u = some (u.1, px_ins u.2.1 i x2, px_ins u.2.2 i x3) := by
  intro fu
  induction fu with
  | zero => intro i u h1 h2; omega
  | succ fu ih =>
    intro i u h1 h2 hu
    have z : ¬ ((0 : Int32) < 0 ∨ N ≤ (0 : Int32).toNatClampNeg) := nI_in (c := 0) (by omega) hN
    rw [lp_Store_moveInFront_13]
    by_cases h : i = 0
    · rw [if_pos (px_zT i h), if_neg z, if_neg z, px_nar h3, h, show (0 : Int32).toNatClampNeg = 0 from rfl, px_ins_0, px_ins_0]
    · rw [if_neg (px_zF i (by omega) (by omega)), px_m1 (a := i) (by omega), if_neg (px_iN (i - 1) N (by omega) hN), if_neg (px_iN i N h1 hN), if_neg (px_iN (i - 1) N (by omega) hN), if_neg (px_iN i N h1 hN), px_cl (i - 1) (by omega), px_cl i (by omega), px_a1 (a := i) (by omega), px_nar (hu _)]
      rw [ih (i - 1) _ (by omega) (by omega) (px_01_upd hu (hu _))]
      dsimp only
      rw [px_ins_step _ i _ (by omega), px_ins_step _ i _ (by omega)]
theorem px_mx {n : Nat} (h1 : 1 ≤ n) (h2 : n < 2 ^ 31) : (if (1 : Int32) < nI n then nI n else (1 : Int32)) = nI n := by
  by_cases h : n = 1
  · subst h
    rw [if_neg (show ¬ (1 : Int32) < nI 1 by decide)]
    rfl
  · rw [if_pos (show (1 : Int32) < nI n from px_lT 1 n (by omega) h2)]
theorem px_mxp {n : Nat} (h1 : 1 ≤ n) (h2 : n < 2 ^ 31) : ¬ (if (1 : Int32) < nI n then nI n else (1 : Int32)) < 0 := by
  rw [px_mx h1 h2]; exact nI_pos h2
theorem px_mxc {n : Nat} (h1 : 1 ≤ n) (h2 : n < 2 ^ 31) : (if (1 : Int32) < nI n then nI n else (1 : Int32)).toNatClampNeg = n := by
  rw [px_mx h1 h2]; exact nI_clamp h2
theorem px_Shas {N n i : Nat} {s : sg_store} (hN : N < 2 ^ 31) (hn : n ≤ N) (hs : s.1 = nI n) (hi : i < n) : f_Store_has N s (nI i) = some 1 := by
  unfold f_Store_has
  rw [if_neg (px_0F i (by omega)), hs, if_neg (px_pF n i hi (by omega)), if_neg (px_pF N i (by omega) hN)]
theorem px_Qhas {n i : Nat} {s : sg_queue} (hn : n ≤ 8) (hs : s.1 = nI n) (hi : i < n) : f_Queue_has s (nI i) = some 1 := by
  unfold f_Queue_has
  rw [if_neg (px_0F i (by omega)), hs, if_neg (px_pF n i hi (by omega)), if_neg (show ¬ (8 : Int32) ≤ nI i from px_pF 8 i (by omega) (by decide))]
theorem px_Smove {N i : Nat} (hN : N < 1000) {x2 x3 : Int32} (h3 : x3 = 0 ∨ x3 = 1) {u : sg_store} (h1 : i < N) (hu : px_01 u.2.2) : f_Store_moveInFront N u (nI i) x2 x3 = some (u.1, px_ins u.2.1 i x2, px_ins u.2.2 i x3) := by
  unfold f_Store_moveInFront
  rw [px_m1 (a := N) (by omega), if_neg (px_lF (N - 1) i (by omega) (by omega))]
  exact px_Smv (by omega) h3 1000 i u h1 (by omega) hu
/-- place k goes; n places are left -/
def px_del (f : Nat → Int32) (k n : Nat) : Nat → Int32 := fun j => if k ≤ j ∧ j < n then f (j + 1) else f j
theorem px_del_step (f : Nat → Int32) (i n : Nat) (h : i < n) : px_del (upd f i (f (i + 1))) (i + 1) n = px_del f i n := by
  funext j
  simp only [px_del, upd]
  by_cases h1 : i + 1 ≤ j ∧ j < n
  · simp [h1, show i ≤ j ∧ j < n by omega, show ¬ (j + 1 = i) by omega]
  · by_cases h2 : j = i
    · subst h2; simp [h1, h]
    · simp [h1, show ¬ (i ≤ j ∧ j < n) by omega, h2]
theorem px_del_end (f : Nat → Int32) (i n : Nat) (h : n ≤ i) : px_del f i n = f := by
  funext j
  simp only [px_del]
  rw [if_neg (by omega)]
theorem px_Qrm {n : Nat} (hn : n < 8) {x1 : Int32} : ∀ (fu i : Nat) (u : sg_queue), u.1 = nI n → i ≤ n → n - i < fu → lp_Queue_remove_21 fu x1 (nI i) u = some (nI n, px_del u.2.1 i n, px_del u.2.2 i n) := by
  intro fu
  induction fu with
  | zero => intro i u h0 h1 h2; omega
  | succ fu ih =>
    intro i u h0 h1 h2
    rw [lp_Queue_remove_21, h0]
    by_cases h : n ≤ i
    · rw [if_pos (px_pT n i h (by omega)), px_del_end _ _ _ h, px_del_end _ _ _ h, ← h0]
    · rw [if_neg (px_pF n i (by omega) (by omega)), px_s1 i, if_neg (show ¬ (8 : Int32) ≤ nI (i + 1) from px_pF 8 (i + 1) (by omega) (by decide)), if_neg (px_iN (i + 1) 8 (by omega) (by omega)), if_neg (px_iN i 8 (by omega) (by omega)), if_neg (px_iN (i + 1) 8 (by omega) (by omega)), if_neg (px_iN i 8 (by omega) (by omega)), px_cl (i + 1) (by omega), px_cl i (by omega)]
      rw [ih (i + 1) _ rfl (by omega) (by omega)]
      dsimp only
      rw [px_del_step _ i n (by omega), px_del_step _ i n (by omega)]
theorem px_1le {n : Nat} (h : 1 ≤ n) (hn : n < 2 ^ 31) : (1 : Int32) ≤ nI n := by
  exact px_pT 1 n h hn
theorem px_remove {n i : Nat} (hn : n ≤ 8) (hi : i < n) {u : sg_queue} (h0 : u.1 = nI n) : f_Queue_remove u (nI i) = some (nI (n - 1), px_del u.2.1 i (n - 1), px_del u.2.2 i (n - 1)) := by
  unfold f_Queue_remove
  rw [px_Qhas hn h0 hi, Option.bind_some, if_neg (by decide), h0, px_m1 (a := n) (by omega)]
  exact px_Qrm (by omega) 1000 i _ rfl (by omega) (by omega)
theorem px_isFull {N n : Nat} {s : sg_store} (hN : N < 2 ^ 31) (hn : n ≤ N) (hs : s.1 = nI n) : f_Store_isFull N s = some (if n = N then (1 : Int32) else (0 : Int32)) := by
  unfold f_Store_isFull
  rw [hs]
  by_cases h : n = N
  · rw [if_neg (px_lF n N (by omega) (by omega)), if_pos h]
  · rw [if_pos (px_lT n N (by omega) (by omega)), if_neg h]
theorem px_dropLast {N n : Nat} {s : sg_store} (hN : N < 2 ^ 31) (h0 : 1 ≤ n) (hn : n ≤ N) (hs : s.1 = nI n) (h01 : px_01 s.2.2) : f_Store_dropLast N s = some (s.2.2 (n - 1), nI (n - 1), s.2) := by
  unfold f_Store_dropLast
  rw [hs, px_m1 h0, px_Shas hN hn hs (by omega), Option.bind_some, if_neg (by decide), if_neg (px_iN (n - 1) N (by omega) hN), px_cl (n - 1) (by omega), if_pos (h01 _)]
theorem px_putFirst {N n : Nat} {s : sg_store} {x m : Int32} (hN : N < 1000) (hn : n < N) (hs : s.1 = nI n) (h01 : px_01 s.2.2) (hm : m = 0 ∨ m = 1) : f_Store_putFirst N s x m = some (nI (n + 1), px_ins s.2.1 n x, px_ins s.2.2 n m) := by
  unfold f_Store_putFirst
  rw [hs, if_neg (px_pF N n hn (by omega)), px_s1 n, px_p1 n, px_Smove (u := (nI (n + 1), s.2)) hN hm hn h01]
  rfl
def px_n (n N : Nat) : Nat := if n = N then N else n + 1
/-- the counts with d more useless -/
def px_cU (k : Int32 × Int32 × Int32 × Int32 × Int32 × Int32 × Int32 × Int32 × Int32 × Int32) (d : Int32) : Int32 × Int32 × Int32 × Int32 × Int32 × Int32 × Int32 × Int32 × Int32 × Int32 := (k.1, k.2.1, k.2.2.1, k.2.2.2.1, k.2.2.2.2.1, k.2.2.2.2.2.1, k.2.2.2.2.2.2.1 + d, k.2.2.2.2.2.2.2)
theorem px_cU0 (k : Int32 × Int32 × Int32 × Int32 × Int32 × Int32 × Int32 × Int32 × Int32 × Int32) : px_cU k 0 = k := by
  unfold px_cU
  rw [Int32.add_zero]
/-- how much a line that comes makes useless -/
def px_du (n N : Nat) (f : Nat → Int32) : Int32 := if n = N then f (N - 1) else 0
theorem px_come {lat : Int32} {N n : Nat} {u : sg_main} {x m : Int32} (h1 : 1 ≤ N) (hN : N ≤ 64) (hn : n ≤ N) (hs : u.2.1.1 = nI n) (h01 : px_01 u.2.1.2.2) (hm : m = 0 ∨ m = 1) :
    f_Main_come lat N u x m = some (px_cU u.1 (px_du n N u.2.1.2.2), (nI (px_n n N), px_ins u.2.1.2.1 (px_n n N - 1) x, px_ins u.2.1.2.2 (px_n n N - 1) m), u.2.2) := by
  unfold f_Main_come px_du px_n
  rw [px_isFull (by omega) hn hs]
  by_cases h : n = N
  · subst h
    rw [if_pos rfl, if_pos rfl, if_pos rfl, Option.bind_some, if_neg (by decide), px_dropLast (by omega) h1 (Nat.le_refl _) hs h01, Option.bind_some]
    have e : ∀ y, f_Store_putFirst n (nI (n - 1), u.2.1.2) y m = some (nI n, px_ins u.2.1.2.1 (n - 1) y, px_ins u.2.1.2.2 (n - 1) m) := fun y => by
      have := px_putFirst (N := n) (n := n - 1) (s := (nI (n - 1), u.2.1.2)) (x := y) (by omega) (by omega) rfl h01 hm
      rw [show n - 1 + 1 = n by omega] at this
      exact this
    rcases h01 (n - 1) with q | q
    · rw [q, if_pos rfl, e, px_cU0]; rfl
    · rw [q, if_neg (show ¬ ((1 : Int32), nI (n - 1), u.2.1.2).1 = 0 from (by decide : ¬ (1 : Int32) = 0)), e]; rfl
  · rw [if_neg h, if_neg h, if_neg h, Option.bind_some, if_pos rfl, px_putFirst (n := n) (by omega) (by omega) hs h01 hm, px_cU0, show n + 1 - 1 = n by omega]
    rfl
theorem px_find {N n : Nat} {s : sg_store} {x : Int32} (hN : N < 1000) (hn : n ≤ N) (hs : s.1 = nI n) : f_Store_find N s x = some (px_fd s.2.1 x 0 n) := by
  unfold f_Store_find
  rw [hs, px_indexOf hn hN]; rfl
theorem px_qfind {n : Nat} {s : sg_queue} {x : Int32} (hn : n ≤ 8) (hs : s.1 = nI n) : f_Queue_find s x = some (px_fd s.2.1 x 0 n) := by
  unfold f_Queue_find
  rw [hs, px_indexOf hn (by decide)]; rfl
