/-! What a rule says, as a list: the class fetches it when the rule has spoken, the reference line by line -/
def px_fs (lat : Int32) (N : Nat) : List Int32 → sg_main → Option sg_main
  | [], u => some u
  | x :: l, u => (f_Main_fetch lat N u x).bind (px_fs lat N l)
def px_ms (kr kd kl km : Int32) : List Int32 → sg_model → Option sg_model
  | [], t => some t
  | x :: l, t => (f_Mod_say kr kd kl km t x).bind (px_ms kr kd kl km l)
/-- f k, f (k + 1) .., d of them -/
def px_tl (f : Nat → Int32) : Nat → Nat → List Int32
  | _, 0 => []
  | k, d + 1 => f k :: px_tl f (k + 1) d
theorem px_tl_eq {f g : Nat → Int32} : ∀ (d k : Nat), (∀ j, k ≤ j → j < k + d → f j = g j) → px_tl f k d = px_tl g k d
  | 0, _, _ => rfl
  | d + 1, k, h => by rw [px_tl, px_tl, h k (Nat.le_refl _) (by omega), px_tl_eq d (k + 1) (fun j h1 h2 => h j (by omega) (by omega))]
section PXL
variable {lat kr kd kl km a e : Int32} {N L c n q : Nat} {u : sg_main} {t : sg_model}
theorem BR.says (hL : L ≤ 32) : ∀ (l : List Int32) {q : Nat} {u : sg_main} {t : sg_model}, BR N L a e c n q u t → ∃ q' u' t', px_fs (nI L) N l u = some u' ∧ px_ms kr kd (nI L) (nI N) l t = some t' ∧ BR N L a e c n q' u' t' ∧ px_keep t t'
  | [], q, u, t, B => ⟨q, u, t, rfl, rfl, B, rfl, rfl, rfl⟩
  | x :: l, q, u, t, B => by
    obtain ⟨q1, u1, t1, h1, h2, h3, h4⟩ := BR.say (kr := kr) (kd := kd) hL B x
    obtain ⟨q2, u2, t2, g1, g2, g3, g4⟩ := BR.says hL l h3
    exact ⟨q2, u2, t2, by rw [px_fs, h1, Option.bind_some]; exact g1, by rw [px_ms, h2, Option.bind_some]; exact g2, g3, g4.1.trans h4.1, g4.2.1.trans h4.2.1, g4.2.2.trans h4.2.2⟩
/-- the class's loop over what was said -/
theorem px_loop {dg p x ans : Int32} {r : RS} {m : Nat} {f : Nat → Int32} (hm : m ≤ 4) (hl : ∀ k, k < m → F_saidLine dg r (nI k) = some (f k)) : ∀ (fu k : Nat) (u : sg_main), k ≤ m → m - k < fu →
    lp_Main_access_42 lat N dg fu p x ans (nI m) (nI k) (u.1, u.2.1, u.2.2, r) = (px_fs lat N (px_tl f k (m - k)) u).bind (fun u' => some (ans, u'.1, u'.2.1, u'.2.2, r)) := by
  intro fu
  induction fu with
  | zero => intro k u h1 h2; omega
  | succ fu ih =>
    intro k u h1 h2
    rw [lp_Main_access_42]
    dsimp only
    by_cases h : m ≤ k
    · rw [if_pos (px_pT m k h (by omega)), show m - k = 0 by omega]
      rfl
    · rw [if_neg (px_pF m k (by omega) (by omega)), hl k (by omega), Option.bind_some]
      obtain ⟨d, hd⟩ : ∃ d, m - k = d + 1 := ⟨m - k - 1, by omega⟩
      rw [hd, px_tl, px_fs]
      show (f_Main_fetch lat N u (f k)).bind _ = _
      cases hf : f_Main_fetch lat N u (f k) with
      | none => rfl
      | some u1 =>
        rw [Option.bind_some, Option.bind_some, px_s1 k, ih (k + 1) u1 (by omega) (by omega), show m - (k + 1) = d by omega]
theorem px_rsay {s : sg_rule} {k : Nat} {d v : Int32} (hs : s.1 = nI k) (hk : k < 4) : f_Rule_say d s v = some (nI (k + 1), upd s.2 k v) := by
  unfold f_Rule_say
  rw [hs, if_neg (px_0F k (by omega)), if_neg (px_pF 4 k hk (by decide)), if_neg (px_iN k 4 hk (by decide)), px_cl k (by omega), px_s1 k]
/-- the lines of a row: x + by, x + 2 * by .. -/
def px_row (x y : Int32) (j : Nat) : Int32 := x + nI (j + 1) * y
theorem px_steps {D : Nat} (hD : D ≤ 4) {x y : Int32} : ∀ (fu k : Nat) (s : sg_rule), k ≤ D → s.1 = nI k → D - k < fu → ∃ g : Nat → Int32, lp_Rule_sayInSteps_2 (nI D) fu x y (nI (k + 1)) s = some (nI D, g) ∧ (∀ j, j < k → g j = s.2 j) ∧ ∀ j, k ≤ j → j < D → g j = px_row x y j := by
  intro fu
  induction fu with
  | zero => intro k s h1 h2 h3; omega
  | succ fu ih =>
    intro k s h1 h2 h3
    rw [lp_Rule_sayInSteps_2]
    by_cases h : D = k
    · rw [if_pos (px_lT D (k + 1) (by omega) (by omega))]
      exact ⟨s.2, by rw [h, ← h2], fun _ _ => rfl, fun j h4 h5 => by omega⟩
    · rw [if_neg (px_lF D (k + 1) (by omega) (by omega)), px_rsay h2 (by omega), Option.bind_some, px_s1 (k + 1)]
      obtain ⟨g, g1, g2, g3⟩ := ih (k + 1) (nI (k + 1), upd s.2 k (x + nI (k + 1) * y)) (by omega) rfl (by omega)
      refine ⟨g, g1, fun j hj => (g2 j (by omega)).trans (pk_un (by omega)), fun j h4 h5 => ?_⟩
      by_cases e : j = k
      · rw [e, g2 k (by omega)]
        exact pk_us
      · exact g3 j (by omega) h5
theorem px_inSteps {D : Nat} (hD : D ≤ 4) {x y : Int32} {f : Nat → Int32} : ∃ g : Nat → Int32, f_Rule_sayInSteps (nI D) ((0 : Int32), f) x y = some (nI D, g) ∧ ∀ j, j < D → g j = px_row x y j := by
  obtain ⟨g, g1, -, g3⟩ := px_steps hD (x := x) (y := y) 1000 0 ((0 : Int32), f) (by omega) rfl (by omega)
  exact ⟨g, g1, fun j hj => g3 j (by omega) hj⟩
theorem px_msteps {D : Nat} (hD : D ≤ 4) {x y : Int32} : ∀ (fu k : Nat) (t : sg_model), k ≤ D → D - k < fu → lp_Mod_sayRow_2 kr (nI D) kl km fu x y (nI (k + 1)) t = px_ms kr (nI D) kl km (px_tl (px_row x y) k (D - k)) t := by
  intro fu
  induction fu with
  | zero => intro k t h1 h2; omega
  | succ fu ih =>
    intro k t h1 h2
    rw [lp_Mod_sayRow_2]
    by_cases h : D = k
    · rw [if_pos (px_lT D (k + 1) (by omega) (by omega)), show D - k = 0 by omega]
      rfl
    · rw [if_neg (px_lF D (k + 1) (by omega) (by omega))]
      obtain ⟨d, hd⟩ : ∃ d, D - k = d + 1 := ⟨D - k - 1, by omega⟩
      rw [hd, px_tl, px_ms]
      show (f_Mod_say kr (nI D) kl km t (px_row x y k)).bind _ = _
      cases hf : f_Mod_say kr (nI D) kl km t (px_row x y k) with
      | none => rfl
      | some t1 =>
        rw [Option.bind_some, Option.bind_some, px_s1 (k + 1), ih (k + 1) t1 (by omega) (by omega), show D - (k + 1) = d by omega]
theorem px_sayRow {D : Nat} (hD : D ≤ 4) {x y : Int32} : f_Mod_sayRow kr (nI D) kl km t x y = px_ms kr (nI D) kl km (px_tl (px_row x y) 0 D) t :=
  px_msteps hD 1000 0 t (by omega) (by omega)
end PXL
