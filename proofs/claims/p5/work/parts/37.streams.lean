/-! Rule 2: the first stream that the line goes on, moved in front -/
def px_sh : Nat → (Nat → Int32) → (Nat → Int32)
  | 0, f => f
  | k + 1, f => px_sh k (upd f (k + 1) (f k))
def px_w (d : Int32) : Int32 := if d = 1 ∨ d = 2 then 1 else if d = (-1 : Int32) ∨ d = (-2 : Int32) then (-1 : Int32) else 0
def px_way (d w : Int32) : Int32 := if d = 1 ∨ d = 2 then (if w = (-1 : Int32) then 0 else 1) else if d = (-1 : Int32) ∨ d = (-2 : Int32) then (if w = 1 then 0 else (-1 : Int32)) else 0
theorem px_cwayTo (d : Int32) : f_Streams_wayTo d = some (px_w d) := by
  unfold f_Streams_wayTo px_w
  by_cases h1 : d = 1
  · subst h1; rfl
  by_cases h2 : d = 2
  · subst h2; rfl
  by_cases h3 : d = (-1 : Int32)
  · subst h3; rfl
  by_cases h4 : d = (-2 : Int32)
  · subst h4; rfl
  rw [if_neg (show ¬ (d = 1 ∨ d = 2) from fun h => h.elim h1 h2), if_neg (show ¬ (d = (-1 : Int32) ∨ d = (-2 : Int32)) from fun h => h.elim h3 h4)]
  have e1 : d.toInt ≠ 1 := fun h => h1 (Int32.toInt_inj.1 h)
  have e2 : d.toInt ≠ 2 := fun h => h2 (Int32.toInt_inj.1 h)
  have e3 : d.toInt ≠ -1 := fun h => h3 (Int32.toInt_inj.1 h)
  have e4 : d.toInt ≠ -2 := fun h => h4 (Int32.toInt_inj.1 h)
  have z1 : (1 : Int32).toInt = 1 := rfl
  have z2 : (2 : Int32).toInt = 2 := rfl
  have z3 : (-1 : Int32).toInt = -1 := rfl
  have z4 : (-2 : Int32).toInt = -2 := rfl
  simp only [Int32.lt_iff_toInt_lt, z1, z2, z3, z4]
  by_cases c1 : d.toInt < 1
  · rw [if_pos c1]
    by_cases c2 : -1 < d.toInt
    · rw [if_pos c2]
    · rw [if_neg c2, if_pos (by omega)]
  · rw [if_neg c1, if_pos (show (2 : Int) < d.toInt by omega), if_pos (show (-1 : Int) < d.toInt by omega)]
section PXST
variable {kr kl km : Int32} {D : Nat}
theorem px_mwayTo {kd x : Int32} {t : sg_model} {k : Nat} (hk : k < 8) : f_Mod_wayTo kr kd kl km t (nI k) x = some (px_way (x - t.2.2.2.2.1.2.1 k) (t.2.2.2.2.1.2.2 k)) := by
  have hi := px_iN k 8 hk (by decide)
  unfold f_Mod_wayTo px_way
  simp only [if_neg hi]
  rw [px_cl k (by omega)]
  generalize x - t.2.2.2.2.1.2.1 k = d
  generalize t.2.2.2.2.1.2.2 k = w
  by_cases h1 : d = 1
  · subst h1
    by_cases c : w = (-1 : Int32)
    · subst c; rfl
    · rw [if_pos rfl, if_neg c, if_pos (Or.inl rfl), if_neg c]
  by_cases h2 : d = 2
  · subst h2
    by_cases c : w = (-1 : Int32)
    · subst c; rfl
    · rw [if_neg (by decide), if_pos rfl, if_neg c, if_pos (Or.inr rfl), if_neg c]
  rw [if_neg h1, if_neg h2, if_neg (show ¬ (d = 1 ∨ d = 2) from fun h => h.elim h1 h2)]
  by_cases h3 : d = (-1 : Int32)
  · subst h3
    by_cases c : w = 1
    · subst c; rfl
    · rw [if_pos rfl, if_neg c, if_pos (Or.inl rfl), if_neg c]
  by_cases h4 : d = (-2 : Int32)
  · subst h4
    by_cases c : w = 1
    · subst c; rfl
    · rw [if_neg (by decide), if_pos rfl, if_neg c, if_pos (Or.inr rfl), if_neg c]
  rw [if_neg h3, if_neg h4, if_neg (show ¬ (d = (-1 : Int32) ∨ d = (-2 : Int32)) from fun h => h.elim h3 h4)]
theorem px_way_w (d w : Int32) : (px_w d = 0 ∧ px_way d w = 0) ∨ (¬ px_w d = 0 ∧ w = -px_w d ∧ px_way d w = 0) ∨ (¬ px_w d = 0 ∧ ¬ w = -px_w d ∧ px_way d w = px_w d) := by
  unfold px_w px_way
  by_cases h1 : d = 1 ∨ d = 2
  · rw [if_pos h1, if_pos h1]
    by_cases c : w = (-1 : Int32)
    · rw [if_pos c]; exact Or.inr (Or.inl ⟨by decide, c, rfl⟩)
    · rw [if_neg c]; exact Or.inr (Or.inr ⟨by decide, c, rfl⟩)
  · rw [if_neg h1, if_neg h1]
    by_cases h2 : d = (-1 : Int32) ∨ d = (-2 : Int32)
    · rw [if_pos h2, if_pos h2]
      by_cases c : w = 1
      · rw [if_pos c]; exact Or.inr (Or.inl ⟨by decide, c, rfl⟩)
      · rw [if_neg c]; exact Or.inr (Or.inr ⟨by decide, c, rfl⟩)
    · rw [if_neg h2, if_neg h2]; exact Or.inl ⟨rfl, rfl⟩
theorem px_mif {d x1 x2 x3 : Int32} : ∀ (fu k : Nat) (u : sg_streams), k < 8 → k < fu → lp_Streams_moveInFront_8 d fu x1 x2 x3 (nI k) u = some (u.1, u.2.1, upd (px_sh k u.2.2.1) 0 x2, upd (px_sh k u.2.2.2.1) 0 x3, u.2.2.2.2) := by
  intro fu
  induction fu with
  | zero => intro k u h1 h2; omega
  | succ fu ih =>
    intro k u h1 h2
    rw [lp_Streams_moveInFront_8]
    by_cases h : k = 0
    · subst h
      rw [if_pos (px_zT 0 rfl), if_neg (by decide), if_neg (by decide)]
      rfl
    · obtain ⟨j, rfl⟩ : ∃ j, k = j + 1 := ⟨k - 1, by omega⟩
      rw [if_neg (px_zF (j + 1) (by omega) (by omega)), px_p1 j, if_neg (px_iN j 8 (by omega) (by decide)), if_neg (px_iN (j + 1) 8 (by omega) (by decide)), if_neg (px_iN j 8 (by omega) (by decide)), if_neg (px_iN (j + 1) 8 (by omega) (by decide)), px_cl j (by omega), px_cl (j + 1) (by omega), pk_m1 j, ih j _ (by omega) (by omega)]
      rfl
theorem px_smf {d x2 x3 : Int32} {k : Nat} {u : sg_streams} (hk : k < 8) : f_Streams_moveInFront d u (nI k) x2 x3 = some (u.1, u.2.1, upd (px_sh k u.2.2.1) 0 x2, upd (px_sh k u.2.2.2.1) 0 x3, u.2.2.2.2) := by
  unfold f_Streams_moveInFront
  rw [if_neg (show ¬ (7 : Int32) < nI k from px_lF 7 k (by omega) (by decide))]
  exact px_mif 1000 k u hk (by omega)
theorem px_m81 {kd x y v nn : Int32} {b : Int32 × Int32 × (Nat → Int32)} {s : sg_store} {w : sg_queue} {ρa : (Nat → Int32) × (Nat → Int32) × (Nat → Int32) × (Nat → Int32) × (Nat → Int32)} {ρb : (Int32 × Int32 × Int32 × (Nat → Int32) × (Nat → Int32) × (Nat → Int32)) × (Int32 × Int32 × (Nat → Int32) × (Nat → Int32) × (Nat → Int32) × (Nat → Int32) × (Nat → Int32))} :
    ∀ (fu k : Nat) (li wy : Nat → Int32), k < 8 → k < fu → lp_Mod_follow_81 kr kd kl km fu x y v (nI k) (b, s, w, ρa, (nn, li, wy), ρb) = (if v = 0 then some (b, s, w, ρa, (nn, upd (px_sh k li) 0 x, upd (px_sh k wy) 0 v), ρb) else f_Mod_sayRow kr kd kl km (b, s, w, ρa, (nn, upd (px_sh k li) 0 x, upd (px_sh k wy) 0 v), ρb) x v) := by
  intro fu
  induction fu with
  | zero => intro k li wy h1 h2; omega
  | succ fu ih =>
    intro k li wy h1 h2
    rw [lp_Mod_follow_81]
    dsimp only
    by_cases h : k = 0
    · subst h
      rw [if_pos (px_zT 0 rfl), if_neg (by decide), if_neg (by decide)]
      by_cases c : v = 0
      · rw [if_pos c, if_pos c]; rfl
      · rw [if_neg c, if_neg c]; exact px_bs _
    · obtain ⟨j, rfl⟩ : ∃ j, k = j + 1 := ⟨k - 1, by omega⟩
      rw [if_neg (px_zF (j + 1) (by omega) (by omega)), px_p1 j, if_neg (px_iN j 8 (by omega) (by decide)), if_neg (px_iN (j + 1) 8 (by omega) (by decide)), if_neg (px_iN j 8 (by omega) (by decide)), if_neg (px_iN (j + 1) 8 (by omega) (by decide)), px_cl j (by omega), px_cl (j + 1) (by omega), pk_m1 j, ih j _ _ (by omega) (by omega)]
      rfl
theorem px_fol (hD : D ≤ 4) {p x : Int32} {fs li wy : Nat → Int32} {n : Nat} (hn : n ≤ 8) : ∀ (fu i : Nat), i ≤ n → n - i < fu → ∃ (u' : sg_streams) (m : Nat) (f li' wy' : Nat → Int32) (n' : Nat), n' ≤ 8 ∧ lp_Streams_learn_2 (nI D) fu p x (nI i) ((0 : Int32), fs, li, wy, nI n) = some u' ∧ u'.1 = nI m ∧ m ≤ 4 ∧ (∀ k, k < m → u'.2.1 k = f k) ∧ u'.2.2 = (li', wy', nI n') ∧
    ∀ (b : Int32 × Int32 × (Nat → Int32)) (s : sg_store) (w : sg_queue) (ρa : (Nat → Int32) × (Nat → Int32) × (Nat → Int32) × (Nat → Int32) × (Nat → Int32)) (ρb : (Int32 × Int32 × Int32 × (Nat → Int32) × (Nat → Int32) × (Nat → Int32)) × (Int32 × Int32 × (Nat → Int32) × (Nat → Int32) × (Nat → Int32) × (Nat → Int32) × (Nat → Int32))), lp_Mod_follow_2 kr (nI D) kl km fu x (nI i) (b, s, w, ρa, (nI n, li, wy), ρb) = px_ms kr (nI D) kl km (px_tl f 0 m) (b, s, w, ρa, (nI n', li', wy'), ρb) := by
  intro fu
  induction fu with
  | zero => intro i h1 h2; omega
  | succ fu ih =>
    intro i h1 h2
    by_cases h : n ≤ i
    · -- a new stream
      have hin : i = n := by omega
      subst hin
      have le := px_pT i i (Nat.le_refl i) (by omega)
      by_cases h8 : i = 8
      · refine ⟨((0 : Int32), fs, upd (px_sh 7 li) 0 x, upd (px_sh 7 wy) 0 0, nI i), 0, fs, upd (px_sh 7 li) 0 x, upd (px_sh 7 wy) 0 0, i, by omega, ?_, rfl, by omega, fun k hk => by omega, rfl, fun b s w ρa ρb => ?_⟩
        · rw [lp_Streams_learn_2]
          dsimp only
          rw [if_pos le]
          unfold f_Streams_begin
          dsimp only
          rw [if_pos (show (8 : Int32) ≤ nI i from px_pT 8 i (by omega) (by omega)), px_m1 (by omega), show i - 1 = 7 by omega, px_smf (by omega)]
          rfl
        · rw [lp_Mod_follow_2]
          dsimp only
          rw [if_pos le, if_pos le]
          unfold jn_Mod_follow_44
          dsimp only
          rw [if_pos rfl, if_pos (show (8 : Int32) ≤ nI i from px_pT 8 i (by omega) (by omega)), px_m1 (by omega), show i - 1 = 7 by omega, px_m81 1000 7 _ _ (by omega) (by omega), if_pos rfl]
          rfl
      · refine ⟨((0 : Int32), fs, upd (px_sh i li) 0 x, upd (px_sh i wy) 0 0, nI (i + 1)), 0, fs, upd (px_sh i li) 0 x, upd (px_sh i wy) 0 0, i + 1, by omega, ?_, rfl, by omega, fun k hk => by omega, rfl, fun b s w ρa ρb => ?_⟩
        · rw [lp_Streams_learn_2]
          dsimp only
          rw [if_pos le]
          unfold f_Streams_begin
          dsimp only
          rw [if_neg (show ¬ (8 : Int32) ≤ nI i from px_pF 8 i (by omega) (by omega)), px_s1 i, px_p1 i, px_smf (by omega)]
          rfl
        · rw [lp_Mod_follow_2]
          dsimp only
          rw [if_pos le, if_pos le]
          unfold jn_Mod_follow_44
          dsimp only
          rw [if_pos rfl, if_neg (show ¬ (8 : Int32) ≤ nI i from px_pF 8 i (by omega) (by omega)), px_s1 i, px_p1 i, px_m81 1000 i _ _ (by omega) (by omega), if_pos rfl]
          rfl
    · have nle := px_pF n i (by omega) (by omega)
      have n8 : ¬ (8 : Int32) ≤ nI i := px_pF 8 i (by omega) (by decide)
      have hi := px_iN i 8 (by omega) (by decide)
      have hi' : ¬ (nI i < 0 ∨ 8 ≤ i) := fun h => h.elim (px_0F i (by omega)) (fun h => by omega)
      rcases px_way_w (x - li i) (wy i) with ⟨a1, a2⟩ | ⟨a1, a2, a3⟩ | ⟨a1, a2, a3⟩
      · obtain ⟨u', m, f, li', wy', n', g0, g1, g2⟩ := ih (i + 1) (by omega) (by omega)
        refine ⟨u', m, f, li', wy', n', g0, ?_, g2.1, g2.2.1, g2.2.2.1, g2.2.2.2.1, fun b s w ρa ρb => ?_⟩
        · rw [lp_Streams_learn_2]
          dsimp only
          rw [if_neg nle, if_neg n8, if_neg hi, px_cl i (by omega), px_cwayTo, Option.bind_some, if_pos a1, px_s1 i]
          exact g1
        · rw [lp_Mod_follow_2]
          dsimp only
          rw [if_neg nle, px_mwayTo (by omega), Option.bind_some]
          dsimp only
          rw [if_pos a2, px_s1 i]
          exact g2.2.2.2.2 b s w ρa ρb
      · obtain ⟨u', m, f, li', wy', n', g0, g1, g2⟩ := ih (i + 1) (by omega) (by omega)
        refine ⟨u', m, f, li', wy', n', g0, ?_, g2.1, g2.2.1, g2.2.2.1, g2.2.2.2.1, fun b s w ρa ρb => ?_⟩
        · rw [lp_Streams_learn_2]
          dsimp only
          rw [if_neg nle, if_neg n8, if_neg hi, px_cl i (by omega), px_cwayTo, Option.bind_some, if_neg a1, if_neg hi', if_pos a2, px_s1 i]
          exact g1
        · rw [lp_Mod_follow_2]
          dsimp only
          rw [if_neg nle, px_mwayTo (by omega), Option.bind_some]
          dsimp only
          rw [if_pos a3, px_s1 i]
          exact g2.2.2.2.2 b s w ρa ρb
      · obtain ⟨g, s1, s2⟩ := px_inSteps hD (x := x) (y := px_w (x - li i)) (f := fs)
        refine ⟨(nI D, g, upd (px_sh i li) 0 x, upd (px_sh i wy) 0 (px_w (x - li i)), nI n), D, px_row x (px_w (x - li i)), upd (px_sh i li) 0 x, upd (px_sh i wy) 0 (px_w (x - li i)), n, hn, ?_, rfl, hD, fun k hk => s2 k hk, rfl, fun b s w ρa ρb => ?_⟩
        · rw [lp_Streams_learn_2]
          dsimp only
          rw [if_neg nle, if_neg n8, if_neg hi, px_cl i (by omega), px_cwayTo, Option.bind_some, if_neg a1, if_neg hi', if_neg a2]
          rw [px_smf (by omega), Option.bind_some]
          dsimp only
          rw [s1]
          rfl
        · rw [lp_Mod_follow_2]
          dsimp only
          rw [if_neg nle, px_mwayTo (by omega), Option.bind_some]
          dsimp only
          rw [a3, if_neg a1, if_neg nle, Option.bind_some]
          unfold jn_Mod_follow_44
          dsimp only
          rw [if_neg (fun e => nle (by rw [e]; exact px_pT n n (Nat.le_refl n) (by omega))), px_m81 1000 i _ _ (by omega) (by omega), if_neg a1, px_sayRow hD]
/-- rule 2: the same streams -/
def RR2 (r : RS) (ρ : RP) : Prop := ∃ (u : sg_streams) (n : Nat), r = .inr (.inr (.inl u)) ∧ n ≤ 8 ∧ u.2.2.2.2 = nI n ∧ ρ.2.1 = (nI n, u.2.2.1, u.2.2.2.1)
theorem px_sl2 {m k : Nat} {d : Int32} {u : sg_streams} (hu : u.1 = nI m) (hk : k < m) (hm : m ≤ 4) : F_saidLine d (.inr (.inr (.inl u))) (nI k) = some (u.2.1 k) := by
  show f_Streams_saidLine d u (nI k) = _
  unfold f_Streams_saidLine
  rw [if_neg (px_0F k (by omega)), hu, if_neg (px_pF m k hk (by omega)), if_neg (px_pF 4 k (by omega) (by decide)), if_neg (px_iN k 4 (by omega) (by decide)), px_cl k (by omega)]
theorem px_step2 (hD : D ≤ 4) {r : RS} {ρ : RP} (h : RR2 r ρ) (p x : Int32) : px_Step kr (nI D) kl km RR2 (fun t => f_Mod_follow kr (nI D) kl km t x) r ρ p x := by
  obtain ⟨⟨sc, fs, li, wy, sz⟩, n, rfl, hn, h1, h2⟩ := h
  obtain ⟨ρa, ρ1, ρb⟩ := ρ
  have h1 : sz = nI n := h1
  have h2 : ρ1 = (nI n, li, wy) := h2
  subst h1 h2
  obtain ⟨u', m, f, li', wy', n', g0, g1, g2, g3, g4, g5, g6⟩ := px_fol (kr := kr) (kl := kl) (km := km) hD (p := p) (x := x) (fs := fs) (li := li) (wy := wy) hn 1000 0 (by omega) (by omega)
  refine ⟨.inr (.inr (.inl u')), m, f, (ρa, (nI n', li', wy'), ρb), (ρa, (nI n', li', wy'), ρb), false, ?_, ?_, g3, fun k hk => ?_, fun b s w t' e1 e2 => ?_, ⟨u', n', rfl, g0, by rw [g5], by rw [g5]⟩, fun v h => h⟩
  · show (f_Streams_hear (nI D) (sc, fs, li, wy, nI n) p x).bind _ = _
    unfold f_Streams_hear f_Streams_learn
    dsimp only
    rw [show (0 : Int32) = nI 0 from rfl] at *
    rw [g1]
    rfl
  · show some u'.1 = _
    rw [g2]
  · rw [px_sl2 g2 hk g3, g4 k hk]
  · show f_Mod_follow kr (nI D) kl km (b, s, w, ρa, (nI n, li, wy), ρb) x = _
    unfold f_Mod_follow
    rw [show lp_Mod_follow_2 kr (nI D) kl km 1000 x (0 : Int32) = lp_Mod_follow_2 kr (nI D) kl km 1000 x (nI 0) from rfl, g6]
    exact px_fin e1 e2
end PXST
