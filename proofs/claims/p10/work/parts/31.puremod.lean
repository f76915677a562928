/-! Pure rows: the reference's loops in closed form -/
/-- the last place from i on, of d places, that holds x; a without one -/
def px_ls (f : Nat → Int32) (x : Int32) : Nat → Nat → Int32 → Int32
  | _, 0, a => a
  | i, d + 1, a => px_ls f x (i + 1) d (if f i = x then nI i else a)
/-- n places that all hold different lines -/
def px_dist (f : Nat → Int32) (n : Nat) : Prop := ∀ i j, i < n → j < n → f i = f j → i = j
theorem px_ls_fd {f : Nat → Int32} {x : Int32} {n : Nat} (hn : n < 2 ^ 31) (hd : px_dist f n) : ∀ (d i : Nat) (a : Int32), i + d ≤ n → px_ls f x i d a = if px_fd f x i d = (-1 : Int32) then a else px_fd f x i d
  | 0, i, a, _ => by rw [px_ls, px_fd, if_pos rfl]
  | d + 1, i, a, h => by
    rw [px_ls, px_ls_fd hn hd d (i + 1) _ (by omega), px_fd]
    by_cases hx : f i = x
    · rw [if_pos hx, if_pos hx]
      rcases px_fd_some (f := f) (x := x) d (i + 1) with ⟨j, h1, h2, h3, h4, -⟩ | ⟨h1, -⟩
      · exact absurd (hd i j (by omega) (by omega) (hx.trans h3.symm)) (by omega)
      · rw [h1, if_pos rfl, if_neg (px_nn (by omega))]
    · rw [if_neg hx, if_neg hx]
section PXM
variable {kr kd kl km : Int32}
theorem px_mpl {n : Nat} {u : sg_model} {x : Int32} (hn : n ≤ 64) (hs : u.2.1.1 = nI n) : ∀ (fu i : Nat) (a : Int32), i ≤ n → n - i < fu → lp_Mod_placeOf_4 kr kd kl km u fu x a (nI i) = some (px_ls u.2.1.2.1 x i (n - i) a) := by
  intro fu
  induction fu with
  | zero => intro i a h1 h2; omega
  | succ fu ih =>
    intro i a h1 h2
    rw [lp_Mod_placeOf_4, hs]
    by_cases h : n ≤ i
    · rw [if_pos (px_pT n i h (by omega)), show n - i = 0 by omega, px_ls]
    · rw [if_neg (px_pF n i (by omega) (by omega)), if_neg (px_iN i 64 (by omega) (by omega)), px_cl i (by omega), px_s1 i]
      obtain ⟨d, hd⟩ : ∃ d, n - i = d + 1 := ⟨n - i - 1, by omega⟩
      rw [hd, px_ls]
      by_cases hx : u.2.1.2.1 i = x
      · rw [if_pos hx, if_pos hx, ih (i + 1) _ (by omega) (by omega), show n - (i + 1) = d by omega]
      · rw [if_neg hx, if_neg hx, ih (i + 1) _ (by omega) (by omega), show n - (i + 1) = d by omega]
theorem px_placeOf {n : Nat} {u : sg_model} {x : Int32} (hn : n ≤ 64) (hs : u.2.1.1 = nI n) (hd : px_dist u.2.1.2.1 n) : f_Mod_placeOf kr kd kl km u x = some (px_fd u.2.1.2.1 x 0 n) := by
  have h := px_mpl (kr := kr) (kd := kd) (kl := kl) (km := km) (x := x) hn hs 1000 0 (-1 : Int32) (by omega) (by omega)
  rw [Nat.sub_zero, px_ls_fd (by omega) hd n 0 _ (by omega)] at h
  refine h.trans (congrArg some ?_)
  by_cases e : px_fd u.2.1.2.1 x 0 n = (-1 : Int32)
  · rw [if_pos e, e]
  · rw [if_neg e]
theorem px_mqu {n : Nat} {u : sg_model} {x : Int32} (hn : n ≤ 8) (hs : u.2.2.1.1 = nI n) : ∀ (fu i : Nat) (a : Int32), i ≤ n → n - i < fu → lp_Mod_queueOf_4 kr kd kl km u fu x a (nI i) = some (px_ls u.2.2.1.2.1 x i (n - i) a) := by
  intro fu
  induction fu with
  | zero => intro i a h1 h2; omega
  | succ fu ih =>
    intro i a h1 h2
    rw [lp_Mod_queueOf_4, hs]
    by_cases h : n ≤ i
    · rw [if_pos (px_pT n i h (by omega)), show n - i = 0 by omega, px_ls]
    · rw [if_neg (px_pF n i (by omega) (by omega)), if_neg (px_iN i 8 (by omega) (by omega)), px_cl i (by omega), px_s1 i]
      obtain ⟨d, hd⟩ : ∃ d, n - i = d + 1 := ⟨n - i - 1, by omega⟩
      rw [hd, px_ls]
      by_cases hx : u.2.2.1.2.1 i = x
      · rw [if_pos hx, if_pos hx, ih (i + 1) _ (by omega) (by omega), show n - (i + 1) = d by omega]
      · rw [if_neg hx, if_neg hx, ih (i + 1) _ (by omega) (by omega), show n - (i + 1) = d by omega]
theorem px_queueOf {n : Nat} {u : sg_model} {x : Int32} (hn : n ≤ 8) (hs : u.2.2.1.1 = nI n) (hd : px_dist u.2.2.1.2.1 n) : f_Mod_queueOf kr kd kl km u x = some (px_fd u.2.2.1.2.1 x 0 n) := by
  have h := px_mqu (kr := kr) (kd := kd) (kl := kl) (km := km) (x := x) hn hs 1000 0 (-1 : Int32) (by omega) (by omega)
  rw [Nat.sub_zero, px_ls_fd (by omega) hd n 0 _ (by omega)] at h
  refine h.trans (congrArg some ?_)
  by_cases e : px_fd u.2.2.1.2.1 x 0 n = (-1 : Int32)
  · rw [if_pos e, e]
  · rw [if_neg e]
theorem px_mus {x1 x2 x3 : Int32} (h3 : x3 = 0 ∨ x3 = 1) : ∀ (fu i : Nat) (u : sg_model), i < 64 → i < fu → px_01 u.2.1.2.2 → lp_Mod_use_17 kr kd kl km fu x1 x2 x3 (nI i) u = some (u.1, (u.2.1.1, px_ins u.2.1.2.1 i x2, px_ins u.2.1.2.2 i x3), u.2.2) := by
  intro fu
  induction fu with
  | zero => intro i u h1 h2; omega
  | succ fu ih =>
    intro i u h1 h2 hu
    rw [lp_Mod_use_17]
    by_cases h : i = 0
    · rw [if_pos (px_zT i h), if_neg (by decide), if_neg (by decide), px_nar h3, h, show (0 : Int32).toNatClampNeg = 0 from rfl, px_ins_0, px_ins_0]
    · rw [if_neg (px_zF i (by omega) (by omega)), px_m1 (a := i) (by omega), if_neg (px_iN (i - 1) 64 (by omega) (by omega)), if_neg (px_iN i 64 h1 (by omega)), if_neg (px_iN (i - 1) 64 (by omega) (by omega)), if_neg (px_iN i 64 h1 (by omega)), px_cl (i - 1) (by omega), px_cl i (by omega), px_a1 (a := i) (by omega), px_nar (hu _)]
      rw [ih (i - 1) _ (by omega) (by omega) (px_01_upd hu (hu _))]
      dsimp only
      rw [px_ins_step _ i _ (by omega), px_ins_step _ i _ (by omega)]
theorem px_use {i : Nat} {u : sg_model} (hi : i < 64) (hu : px_01 u.2.1.2.2) : f_Mod_use kr kd kl km u (nI i) = some (u.1, (u.2.1.1, px_ins u.2.1.2.1 i (u.2.1.2.1 i), px_ins u.2.1.2.2 i (u.2.1.2.2 i)), u.2.2) := by
  unfold f_Mod_use
  rw [if_neg (px_iN i 64 hi (by omega)), if_neg (px_iN i 64 hi (by omega)), px_cl i (by omega)]
  exact px_mus (hu i) 1000 i u hi (by omega) hu
theorem px_ins_upd (f : Nat → Int32) (k : Nat) (x : Int32) : px_ins (upd f k x) k x = px_ins f k x := by
  funext j
  simp only [px_ins, upd]
  by_cases h0 : j = 0
  · simp [h0]
  · by_cases h1 : j ≤ k
    · simp [h0, h1, show ¬ (j - 1 = k) by omega]
    · simp [h0, h1, show ¬ (j = k) by omega]
theorem px_mjn {n : Nat} {u : sg_model} {x m : Int32} (hn : n < 64) (hs : u.2.1.1 = nI n) (h01 : px_01 u.2.1.2.2) (hm : m = 0 ∨ m = 1) :
    jn_Mod_come_47 kr kd kl km x m u = some (u.1, (nI (n + 1), px_ins u.2.1.2.1 n x, px_ins u.2.1.2.2 n m), u.2.2) := by
  unfold jn_Mod_come_47
  rw [hs, if_neg (px_iN n 64 hn (by omega)), if_neg (px_iN n 64 hn (by omega)), px_s1 n, px_p1 n, px_cl n (by omega), px_nar hm, px_use hn (px_01_upd h01 hm), Option.bind_some]
  dsimp only
  rw [pk_us, pk_us, px_ins_upd, px_ins_upd]
/-- the counts of the reference with d more at place k -/
theorem px_mcome {N n : Nat} {u : sg_model} {x m : Int32} (h1 : 1 ≤ N) (hN : N ≤ 64) (hn : n ≤ N) (hr : km = nI N) (hs : u.2.1.1 = nI n) (h01 : px_01 u.2.1.2.2) (hm : m = 0 ∨ m = 1) :
    ∃ c : Nat → Int32, f_Mod_come kr kd kl km u x m = some ((u.1.1, u.1.2.1, c), (nI (px_n n N), px_ins u.2.1.2.1 (px_n n N - 1) x, px_ins u.2.1.2.2 (px_n n N - 1) m), u.2.2) ∧ c 5 = u.1.2.2 5 + px_du n N u.2.1.2.2 ∧ ∀ j, j ≠ 5 → c j = u.1.2.2 j := by
  unfold f_Mod_come px_du px_n
  rw [hs, hr]
  by_cases h : n = N
  · subst h
    rw [if_pos rfl, if_pos rfl, if_pos rfl, if_neg (by decide), px_m1 h1, if_neg (px_iN (n - 1) 64 (by omega) (by omega)), px_cl (n - 1) (by omega), show (5 : Int32).toNatClampNeg = 5 from rfl]
    have e : ∀ c : Nat → Int32, jn_Mod_come_47 kr kd kl (nI n) x m ((u.1.1, u.1.2.1, c), (nI (n - 1), u.2.1.2), u.2.2) = some ((u.1.1, u.1.2.1, c), (nI n, px_ins u.2.1.2.1 (n - 1) x, px_ins u.2.1.2.2 (n - 1) m), u.2.2) := fun c => by
      have := px_mjn (kr := kr) (kd := kd) (kl := kl) (km := nI n) (n := n - 1) (u := ((u.1.1, u.1.2.1, c), (nI (n - 1), u.2.1.2), u.2.2)) (x := x) (m := m) (by omega) rfl h01 hm
      rw [show n - 1 + 1 = n by omega] at this
      exact this
    rcases h01 (n - 1) with q | q
    · rw [q, if_pos rfl, if_neg (by decide)]
      exact ⟨_, e _, pk_us, fun j hj => pk_un hj⟩
    · rw [q, if_neg (by decide), if_neg (by decide)]
      exact ⟨_, e _, pk_us, fun j hj => pk_un hj⟩
  · have hne : ¬ nI n = nI N := fun q => h ((nI_eq (by omega) (by omega)).mp q)
    rw [if_neg hne, if_neg h, if_neg h, px_mjn (by omega) hs h01 hm, show n + 1 - 1 = n by omega]
    exact ⟨_, rfl, (Int32.add_zero _).symm, fun j _ => rfl⟩
theorem px_mto {n : Nat} (hn : n < 8) {x1 : Int32} : ∀ (fu i : Nat) (u : sg_model), u.2.2.1.1 = nI n → i ≤ n → n - i < fu → lp_Mod_takeOut_12 kr kd kl km fu x1 (nI i) u = some (u.1, u.2.1, (nI n, px_del u.2.2.1.2.1 i n, px_del u.2.2.1.2.2 i n), u.2.2.2) := by
  intro fu
  induction fu with
  | zero => intro i u h0 h1 h2; omega
  | succ fu ih =>
    intro i u h0 h1 h2
    rw [lp_Mod_takeOut_12, h0]
    by_cases h : n ≤ i
    · rw [if_pos (px_pT n i h (by omega)), px_del_end _ _ _ h, px_del_end _ _ _ h, ← h0]
    · rw [if_neg (px_pF n i (by omega) (by omega)), px_s1 i, if_neg (px_iN (i + 1) 8 (by omega) (by omega)), if_neg (px_iN i 8 (by omega) (by omega)), if_neg (px_iN (i + 1) 8 (by omega) (by omega)), if_neg (px_iN i 8 (by omega) (by omega)), px_cl (i + 1) (by omega), px_cl i (by omega)]
      rw [ih (i + 1) _ rfl (by omega) (by omega)]
      dsimp only
      rw [px_del_step _ i n (by omega), px_del_step _ i n (by omega)]
theorem px_takeOut {n i : Nat} {u : sg_model} (hn : n ≤ 8) (hi : i < n) (h0 : u.2.2.1.1 = nI n) : f_Mod_takeOut kr kd kl km u (nI i) = some (u.1, u.2.1, (nI (n - 1), px_del u.2.2.1.2.1 i (n - 1), px_del u.2.2.1.2.2 i (n - 1)), u.2.2.2) := by
  unfold f_Mod_takeOut
  rw [h0, px_m1 (a := n) (by omega)]
  exact px_mto (by omega) 1000 i _ rfl (by omega) (by omega)
end PXM
