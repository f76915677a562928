/-! Rule 3: the ring of recent lines and the shifted row, tries and turns, the round's end -/
def px_zr : Nat → Nat → (Nat → Int32) → (Nat → Int32)
  | 0, _, f => f
  | d + 1, k, f => px_zr d (k + 1) (upd f k (0 : Int32))
theorem px_zr_at : ∀ (d k : Nat) (f : Nat → Int32) (j : Nat), (j < k → px_zr d k f j = f j) ∧ (k ≤ j → j < k + d → px_zr d k f j = 0)
  | 0, k, f, j => ⟨fun _ => rfl, fun h1 h2 => by omega⟩
  | d + 1, k, f, j => by
    obtain ⟨h1, h2⟩ := px_zr_at d (k + 1) (upd f k (0 : Int32)) j
    refine ⟨fun h => ?_, fun h3 h4 => ?_⟩
    · rw [px_zr, h1 (by omega), pk_un (by omega)]
    · by_cases e : j = k
      · rw [px_zr, h1 (by omega), e, pk_us]
      · rw [px_zr, h2 (by omega) (by omega)]
theorem px_sh_at : ∀ (k : Nat) (f : Nat → Int32) (j : Nat), px_sh k f j = if 1 ≤ j ∧ j ≤ k then f (j - 1) else f j
  | 0, f, j => by rw [px_sh, if_neg (by omega)]
  | k + 1, f, j => by
    rw [px_sh, px_sh_at k]
    by_cases h1 : 1 ≤ j ∧ j ≤ k
    · rw [if_pos h1, if_pos (by omega), pk_un (by omega)]
    · rw [if_neg h1]
      by_cases h2 : j = k + 1
      · rw [if_pos (by omega), h2, pk_us]; rfl
      · rw [if_neg (by omega), pk_un h2]
/-- the place in the ring of the line that came k lines ago -/
def px_ri (l o k : Nat) : Nat := if k < o then o - 1 - k else o + l - 1 - k
def px_ring (l o : Nat) (rc lt : Nat → Int32) : Prop := l ≤ 32 ∧ o < 32 ∧ (l < 32 → o = 0) ∧ ∀ k, k < l → lt k = rc (px_ri l o k)
theorem px_ring_fd {l o : Nat} {rc lt : Nat → Int32} (h : px_ring l o rc lt) (y : Int32) : px_fd lt y 0 l = (-1 : Int32) ↔ px_fd rc y 0 l = (-1 : Int32) := by
  obtain ⟨h1, h2, h3, h4⟩ := h
  have in1 : ∀ k, k < l → px_ri l o k < l := fun k hk => by
    unfold px_ri
    by_cases c : k < o
    · rw [if_pos c]; by_cases e : l < 32
      · have := h3 e; omega
      · omega
    · rw [if_neg c]; by_cases e : l < 32
      · have := h3 e; omega
      · omega
  have in2 : ∀ k, k < l → px_ri l o (px_ri l o k) = k := fun k hk => by
    unfold px_ri
    by_cases e : l < 32
    · have := h3 e
      subst this
      rw [if_neg (by omega), if_neg (by omega)]; omega
    · by_cases c : k < o
      · rw [if_pos c, if_pos (by omega)]; omega
      · rw [if_neg c, if_neg (by omega)]; omega
  constructor
  · intro a
    by_cases b : px_fd rc y 0 l = (-1 : Int32)
    · exact b
    · obtain ⟨j, j1, j2, -⟩ := px_fd_in b
      refine absurd ?_ (px_fd_out a (by omega) (px_ri l o j) (in1 j j1))
      rw [h4 _ (in1 j j1), in2 j j1, j2]
  · intro a
    by_cases b : px_fd lt y 0 l = (-1 : Int32)
    · exact b
    · obtain ⟨j, j1, j2, -⟩ := px_fd_in b
      refine absurd ?_ (px_fd_out a (by omega) (px_ri l o j) (in1 j j1))
      rw [← h4 j j1, j2]
theorem px_ring_new {l o : Nat} {rc lt : Nat → Int32} (h : px_ring l o rc lt) (x : Int32) (hl : l < 32) : px_ring (l + 1) o (upd rc l x) (upd (px_sh l lt) 0 x) := by
  obtain ⟨h1, h2, h3, h4⟩ := h
  have ho := h3 hl
  subst ho
  refine ⟨by omega, by omega, fun _ => rfl, fun k hk => ?_⟩
  have e1 : px_ri (l + 1) 0 k = l - k := by unfold px_ri; rw [if_neg (by omega)]; omega
  rw [e1]
  by_cases h0 : k = 0
  · subst h0; rw [pk_us, Nat.sub_zero, pk_us]
  · rw [pk_un h0, px_sh_at, if_pos (by omega), pk_un (by omega), h4 (k - 1) (by omega)]
    unfold px_ri
    rw [if_neg (by omega)]
    congr 1
    omega
theorem px_ring_old {o : Nat} {rc lt : Nat → Int32} (h : px_ring 32 o rc lt) (x : Int32) : px_ring 32 (if o + 1 = 32 then 0 else o + 1) (upd rc o x) (upd (px_sh 31 lt) 0 x) := by
  obtain ⟨h1, h2, h3, h4⟩ := h
  refine ⟨by omega, by split <;> omega, fun z => by omega, fun k hk => ?_⟩
  have e1 : px_ri 32 (if o + 1 = 32 then 0 else o + 1) k = if k = 0 then o else px_ri 32 o (k - 1) := by
    unfold px_ri
    by_cases c : o + 1 = 32
    · rw [if_pos c, if_neg (by omega)]
      by_cases h0 : k = 0
      · rw [if_pos h0]; omega
      · rw [if_neg h0, if_pos (by omega)]; omega
    · rw [if_neg c]
      by_cases h0 : k = 0
      · rw [if_pos h0, if_pos (by omega)]; omega
      · rw [if_neg h0]
        by_cases h5 : k < o + 1
        · rw [if_pos h5, if_pos (by omega)]; omega
        · rw [if_neg h5, if_neg (by omega)]; omega
  rw [e1]
  by_cases h0 : k = 0
  · subst h0; rw [pk_us, if_pos rfl, pk_us]
  · have e2 : px_ri 32 o (k - 1) ≠ o := by
      unfold px_ri
      by_cases c : k - 1 < o
      · rw [if_pos c]; omega
      · rw [if_neg c]; omega
    rw [pk_un h0, px_sh_at, if_pos (by omega), if_neg h0, pk_un e2, h4 (k - 1) (by omega)]
theorem px_xs {x y : Int32} (hy : 0 ≤ y) : 0 ≤ (x ^^^ y) ↔ 0 ≤ x := by
  have m : ∀ z : Int32, (0 ≤ z ↔ z.toBitVec.msb = false) := fun z => by
    rw [Int32.le_iff_toInt_le, BitVec.msb_eq_toInt, Int32.toInt_zero]
    show 0 ≤ z.toBitVec.toInt ↔ _
    simp
  rw [m, m, Int32.toBitVec_xor, BitVec.msb_xor, (m y).mp hy]
  simp
/-- the rest of a number that isn't below 0 -/
theorem px_fm {a d : Nat} (ha : a < 2 ^ 31) (h0 : 0 < d) (hd : d < 2 ^ 31) : f_Math_floorMod (nI a) (nI d) = some (nI (a % d)) := by
  have hz : ¬ nI d = 0 := fun h => by
    have := (nI_eq hd (show 0 < 2 ^ 31 by omega)).1 h
    omega
  unfold f_Math_floorMod
  rw [if_neg hz, if_pos ((px_xs (px_0T d hd)).2 (px_0T a ha)), pk_rem ha h0 hd]
/-- how many lines the class knows when it was asked A times, and the place of the oldest -/
def px_rl (A : Nat) : Nat := if A < 32 then A else 32
def px_ro (A : Nat) : Nat := if A < 32 then 0 else A % 32
theorem px_rlI {A : Nat} (hA : A < 2 ^ 31) : (if nI A < (32 : Int32) then nI A else (32 : Int32)) = nI (px_rl A) := by
  unfold px_rl
  by_cases h : A < 32
  · rw [if_pos (show nI A < (32 : Int32) from px_lT A 32 h (by decide)), if_pos h]
  · rw [if_neg (show ¬ nI A < (32 : Int32) from px_lF A 32 (by omega) hA), if_neg h]
    rfl
section PXOF
variable {kr kd kl km : Int32} {D : Nat} {d sc cn tr of rd tu la x : Int32} {fs rc ss lt cd : Nat → Int32} {b : Int32 × Int32 × (Nat → Int32)} {s : sg_store} {w : sg_queue} {ρa : (Nat → Int32) × (Nat → Int32) × (Nat → Int32) × (Nat → Int32) × (Nat → Int32)} {ρs : Int32 × (Nat → Int32) × (Nat → Int32)} {ρp : Int32 × Int32 × (Nat → Int32) × (Nat → Int32) × (Nat → Int32) × (Nat → Int32) × (Nat → Int32)}
theorem px_z58 {x1 : Int32} : ∀ (fu k : Nat) (ss : Nat → Int32), k ≤ 12 → 12 - k < fu → lp_Offsets_endRound_58 d fu x1 (nI k) (sc, fs, rc, cn, ss, tr, of, rd) = some (sc, fs, rc, cn, px_zr (12 - k) k ss, (0 : Int32), of, rd + (1 : Int32)) := by
  intro fu
  induction fu with
  | zero => intro k ss h1 h2; omega
  | succ fu ih =>
    intro k ss h1 h2
    rw [lp_Offsets_endRound_58]
    dsimp only
    by_cases h : k = 12
    · subst h
      rw [if_pos (show (12 : Int32) ≤ nI 12 by decide)]
      rfl
    · obtain ⟨j, hj⟩ : ∃ j, 12 - k = j + 1 := ⟨12 - k - 1, by omega⟩
      rw [if_neg (show ¬ (12 : Int32) ≤ nI k from px_pF 12 k (by omega) (by decide)), if_neg (px_iN k 12 (by omega) (by decide)), px_cl k (by omega), px_s1 k, ih (k + 1) _ (by omega) (by omega), hj, px_zr, show 12 - (k + 1) = j by omega]
theorem px_z63 {x1 : Int32} : ∀ (fu k : Nat) (ss : Nat → Int32), k ≤ 12 → 12 - k < fu → lp_Mod_endRound_63 kr kd kl km fu x1 (nI k) (b, s, w, ρa, ρs, (of, tu, la, lt, cd, ss), ρp) = some (px_be true b, s, w, ρa, ρs, (of, (0 : Int32), la, lt, cd, px_zr (12 - k) k ss), ρp) := by
  intro fu
  induction fu with
  | zero => intro k ss h1 h2; omega
  | succ fu ih =>
    intro k ss h1 h2
    rw [lp_Mod_endRound_63]
    dsimp only
    by_cases h : k = 12
    · subst h
      rw [if_pos (show (12 : Int32) ≤ nI 12 by decide), if_neg (by decide), if_neg (by decide)]
      rfl
    · obtain ⟨j, hj⟩ : ∃ j, 12 - k = j + 1 := ⟨12 - k - 1, by omega⟩
      rw [if_neg (show ¬ (12 : Int32) ≤ nI k from px_pF 12 k (by omega) (by decide)), if_neg (px_iN k 12 (by omega) (by decide)), px_cl k (by omega), px_s1 k, ih (k + 1) _ (by omega) (by omega), hj, px_zr, show 12 - (k + 1) = j by omega]
theorem px_endR (hcd : ∀ j, j < 12 → cd j = kx_cand j) : ∀ (fu k bt : Nat), bt < 12 → k ≤ 12 → 12 - k < fu → ∃ of' : Int32, lp_Offsets_endRound_4 d fu (nI bt) (nI k) (sc, fs, rc, cn, ss, tr, of, rd) = some (sc, fs, rc, cn, px_zr 12 0 ss, (0 : Int32), of', rd + (1 : Int32)) ∧
    ∀ (b : Int32 × Int32 × (Nat → Int32)) (s : sg_store) (w : sg_queue), lp_Mod_endRound_4 kr kd kl km fu (nI bt) (nI k) (b, s, w, ρa, ρs, (of, tu, la, lt, cd, ss), ρp) = some (px_be true b, s, w, ρa, ρs, (of', (0 : Int32), la, lt, cd, px_zr 12 0 ss), ρp) := by
  intro fu
  induction fu with
  | zero => intro k bt h0 h1 h2; omega
  | succ fu ih =>
    intro k bt h0 h1 h2
    have hb := px_iN bt 12 h0 (by decide)
    by_cases h : k = 12
    · subst h
      have le : (12 : Int32) ≤ nI 12 := by decide
      by_cases c : ss bt < (4 : Int32)
      · refine ⟨0, ?_, fun b s w => ?_⟩
        · rw [lp_Offsets_endRound_4]
          dsimp only
          rw [if_pos le, if_neg hb, px_cl bt (by omega), if_pos c]
          exact px_z58 1000 0 ss (by omega) (by omega)
        · rw [lp_Mod_endRound_4]
          dsimp only
          rw [if_pos le, if_neg hb, px_cl bt (by omega), if_neg (Int32.not_le.2 c)]
          exact px_z63 1000 0 ss (by omega) (by omega)
      · refine ⟨kx_cand bt, ?_, fun b s w => ?_⟩
        · rw [lp_Offsets_endRound_4]
          dsimp only
          rw [if_pos le, if_neg hb, px_cl bt (by omega), if_neg c, if_neg (show ¬ (nI bt < 0 ∨ 12 ≤ bt) from fun z => z.elim (px_0F bt (by omega)) (fun z => by omega))]
          exact px_z58 1000 0 ss (by omega) (by omega)
        · rw [lp_Mod_endRound_4]
          dsimp only
          rw [if_pos le, if_neg hb, px_cl bt (by omega), if_pos (Int32.not_lt.1 c), if_neg (show ¬ (nI bt < 0 ∨ 12 ≤ bt) from fun z => z.elim (px_0F bt (by omega)) (fun z => by omega)), hcd bt h0]
          exact px_z63 1000 0 ss (by omega) (by omega)
    · have nle : ¬ (12 : Int32) ≤ nI k := px_pF 12 k (by omega) (by decide)
      have hk := px_iN k 12 (by omega) (by decide)
      by_cases c : ss k ≤ ss bt
      · obtain ⟨of', g1, g2⟩ := ih (k + 1) bt h0 (by omega) (by omega)
        refine ⟨of', ?_, fun b s w => ?_⟩
        · rw [lp_Offsets_endRound_4]
          dsimp only
          rw [if_neg nle, if_neg hk, if_neg hb, px_cl bt (by omega), px_cl k (by omega), if_pos c, px_s1 k]
          exact g1
        · rw [lp_Mod_endRound_4]
          dsimp only
          rw [if_neg nle, if_neg hk, if_neg hb, px_cl bt (by omega), px_cl k (by omega), if_pos c, px_s1 k]
          exact g2 b s w
      · obtain ⟨of', g1, g2⟩ := ih (k + 1) k (by omega) (by omega) (by omega)
        refine ⟨of', ?_, fun b s w => ?_⟩
        · rw [lp_Offsets_endRound_4]
          dsimp only
          rw [if_neg nle, if_neg hk, if_neg hb, px_cl bt (by omega), px_cl k (by omega), if_neg c, px_s1 k]
          exact g1
        · rw [lp_Mod_endRound_4]
          dsimp only
          rw [if_neg nle, if_neg hk, if_neg hb, px_cl bt (by omega), px_cl k (by omega), if_neg c, px_s1 k]
          exact g2 b s w
theorem px_m148 {x2 x3 : Int32} : ∀ (fu k : Nat) (lt : Nat → Int32), k < 32 → k < fu → lp_Mod_offsets_148 kr kd kl km fu x x2 x3 (nI k) (b, s, w, ρa, ρs, (of, tu, la, lt, cd, ss), ρp) = some (b, s, w, ρa, ρs, (of, tu, la, upd (px_sh k lt) 0 x, cd, ss), ρp) := by
  intro fu
  induction fu with
  | zero => intro k lt h1 h2; omega
  | succ fu ih =>
    intro k lt h1 h2
    rw [lp_Mod_offsets_148]
    dsimp only
    by_cases h : k = 0
    · subst h
      rw [if_pos (px_zT 0 rfl), if_neg (by decide)]
      rfl
    · obtain ⟨j, rfl⟩ : ∃ j, k = j + 1 := ⟨k - 1, by omega⟩
      rw [if_neg (px_zF (j + 1) (by omega) (by omega)), px_p1 j, if_neg (px_iN j 32 (by omega) (by decide)), if_neg (px_iN (j + 1) 32 (by omega) (by decide)), px_cl j (by omega), px_cl (j + 1) (by omega), pk_m1 j, ih j _ (by omega) (by omega)]
      rfl
/-- the line is remembered -/
theorem px_rem {A : Nat} (hA : A ≤ 100000) (h : px_ring (px_rl A) (px_ro A) rc lt) : ∃ (rc' lt' : Nat → Int32), px_ring (px_rl (A + 1)) (px_ro (A + 1)) rc' lt' ∧ (∀ (sc : Int32) (fs : Nat → Int32), f_Offsets_remember d (sc, fs, rc, nI A, ss, tr, of, rd) x = some (sc, fs, rc', nI (A + 1), ss, tr, of, rd)) ∧
    ∀ (b : Int32 × Int32 × (Nat → Int32)) (s : sg_store) (w : sg_queue) (x2 x3 x4 : Int32), jn_Mod_offsets_121 kr kd kl km x x2 x3 x4 (b, s, w, ρa, ρs, (of, tu, nI (px_rl A), lt, cd, ss), ρp) = some (b, s, w, ρa, ρs, (of, tu, nI (px_rl (A + 1)), lt', cd, ss), ρp) := by
  have hf : f_Math_floorMod (nI A) (32 : Int32) = some (nI (A % 32)) := px_fm (d := 32) (by omega) (by decide) (by decide)
  have hi := px_iN (A % 32) 32 (by omega) (by decide)
  by_cases c : A < 32
  · have e1 : px_rl A = A := if_pos c
    have e2 : px_ro A = 0 := if_pos c
    have e3 : px_rl (A + 1) = A + 1 := by
      unfold px_rl
      by_cases q : A + 1 < 32
      · rw [if_pos q]
      · rw [if_neg q]; omega
    have e4 : px_ro (A + 1) = 0 := by
      unfold px_ro
      by_cases q : A + 1 < 32
      · rw [if_pos q]
      · rw [if_neg q]; omega
    have e5 : A % 32 = A := by omega
    have nle : ¬ (32 : Int32) ≤ nI A := px_pF 32 A (by omega) (by decide)
    rw [e1, e2] at h
    rw [e1, e3, e4]
    refine ⟨upd rc A x, upd (px_sh A lt) 0 x, px_ring_new h x c, fun sc fs => ?_, fun b s w x2 x3 x4 => ?_⟩
    · unfold f_Offsets_remember
      dsimp only
      rw [hf, Option.bind_some, if_neg hi, px_cl (A % 32) (by omega), px_s1 A, e5]
    · unfold jn_Mod_offsets_121
      dsimp only
      rw [if_neg nle, px_s1 A, px_p1 A]
      exact px_m148 1000 A lt (by omega) (by omega)
  · have e1 : px_rl A = 32 := if_neg c
    have e2 : px_ro A = A % 32 := if_neg c
    have e3 : px_rl (A + 1) = 32 := if_neg (by omega)
    have e4 : px_ro (A + 1) = (A + 1) % 32 := if_neg (by omega)
    have e5 : (if A % 32 + 1 = 32 then 0 else A % 32 + 1) = (A + 1) % 32 := by
      by_cases q : A % 32 + 1 = 32
      · rw [if_pos q]; omega
      · rw [if_neg q]; omega
    have le : (32 : Int32) ≤ nI 32 := by decide
    rw [e1, e2] at h
    have hr := px_ring_old h x
    rw [e5] at hr
    rw [e1, e3, e4]
    refine ⟨upd rc (A % 32) x, upd (px_sh 31 lt) 0 x, hr, fun sc fs => ?_, fun b s w x2 x3 x4 => ?_⟩
    · unfold f_Offsets_remember
      dsimp only
      rw [hf, Option.bind_some, if_neg hi, px_cl (A % 32) (by omega), px_s1 A]
    · unfold jn_Mod_offsets_121
      dsimp only
      rw [if_pos le, px_p1 31]
      exact px_m148 1000 31 lt (by omega) (by omega)
theorem px_13a {c l : Nat} (hc : c < 12) : ∀ (fu k : Nat), k ≤ l → l ≤ 32 → l - k < fu → lp_Mod_offsets_13 kr kd kl km fu x (nI c) (1 : Int32) (nI k) (b, s, w, ρa, ρs, (of, tu, nI l, lt, cd, ss), ρp) = jn_Mod_offsets_70 kr kd kl km x (nI c) (1 : Int32) (nI l) (b, s, w, ρa, ρs, (of, tu, nI l, lt, cd, upd ss c (ss c + (1 : Int32))), ρp) := by
  intro fu
  induction fu with
  | zero => intro k h1 h3 h2; omega
  | succ fu ih =>
    intro k h1 h3 h2
    rw [lp_Mod_offsets_13]
    dsimp only
    by_cases h : k = l
    · subst h
      rw [if_pos (px_pT k k (Nat.le_refl k) (by omega)), if_neg (by decide), if_neg (px_iN c 12 hc (by decide)), if_neg (px_iN c 12 hc (by decide)), px_cl c (by omega)]
    · rw [if_neg (px_pF l k (by omega) (by omega)), if_neg (by decide), px_s1 k]
      exact ih (k + 1) (by omega) h3 (by omega)
theorem px_13 {c l : Nat} (hc : c < 12) : ∀ (fu k : Nat), k ≤ l → l ≤ 32 → l - k < fu → lp_Mod_offsets_13 kr kd kl km fu x (nI c) (0 : Int32) (nI k) (b, s, w, ρa, ρs, (of, tu, nI l, lt, cd, ss), ρp) = (if px_fd lt (x - cd c) k (l - k) = (-1 : Int32) then jn_Mod_offsets_70 kr kd kl km x (nI c) (0 : Int32) (nI l) (b, s, w, ρa, ρs, (of, tu, nI l, lt, cd, ss), ρp) else jn_Mod_offsets_70 kr kd kl km x (nI c) (1 : Int32) (nI l) (b, s, w, ρa, ρs, (of, tu, nI l, lt, cd, upd ss c (ss c + (1 : Int32))), ρp)) := by
  intro fu
  induction fu with
  | zero => intro k h1 h3 h2; omega
  | succ fu ih =>
    intro k h1 h3 h2
    rw [lp_Mod_offsets_13]
    dsimp only
    by_cases h : k = l
    · subst h
      rw [if_pos (px_pT k k (Nat.le_refl k) (by omega)), if_pos rfl, Nat.sub_self, px_fd, if_pos rfl]
    · obtain ⟨j, hj⟩ : ∃ j, l - k = j + 1 := ⟨l - k - 1, by omega⟩
      rw [if_neg (px_pF l k (by omega) (by omega)), if_pos rfl, if_neg (px_iN k 32 (by omega) (by decide)), if_neg (px_iN c 12 hc (by decide)), px_cl c (by omega), px_cl k (by omega), hj, px_fd, px_s1 k]
      by_cases e : lt k = x - cd c
      · rw [if_pos e, if_pos e, if_neg (px_nn (by omega))]
        exact px_13a hc fu (k + 1) (by omega) h3 (by omega)
      · rw [if_neg e, if_neg e, ih (k + 1) (by omega) h3 (by omega), show l - (k + 1) = j by omega]
/-- scores below 15 -/
def px_s15 (ss : Nat → Int32) : Prop := ∀ j, j < 12 → ∃ k, k < 15 ∧ ss j = nI k
theorem px_s15_z (ss : Nat → Int32) : px_s15 (px_zr 12 0 ss) := fun j hj => ⟨0, by omega, by rw [(px_zr_at 12 0 ss j).2 (by omega) (by omega)]; rfl⟩
/-- behind the score: the round ends, or the next candidate's turn comes -/
theorem px_j34 (hcd : ∀ j, j < 12 → cd j = kx_cand j) {T v : Nat} (hT : T < 240) (hv : ss (T % 12) = nI v) (hv15 : v ≤ 15) (hs : v < 15 → px_s15 ss) :
    ∃ (ss' : Nat → Int32) (T' : Nat) (of' : Int32) (e : Bool), jn_Offsets_tryCandidate_34 d x (nI (T % 12)) (sc, fs, rc, cn, ss, nI T, of, rd) = some (sc, fs, rc, cn, ss', nI T', of', px_ae e rd) ∧ T' < 240 ∧ px_s15 ss' ∧
      ∀ (b : Int32 × Int32 × (Nat → Int32)) (s : sg_store) (w : sg_queue) (x3 x4 : Int32), jn_Mod_offsets_70 kr kd kl km x (nI (T % 12)) x3 x4 (b, s, w, ρa, ρs, (of, nI T, la, lt, cd, ss), ρp) = jn_Mod_offsets_105 kr kd kl km x (nI (T % 12)) x3 x4 (px_be e b, s, w, ρa, ρs, (of', nI T', la, lt, cd, ss'), ρp) := by
  have hc : T % 12 < 12 := by omega
  have hi := px_iN (T % 12) 12 hc (by decide)
  obtain ⟨of', g1, g2⟩ := px_endR (kr := kr) (kd := kd) (kl := kl) (km := km) (d := d) (sc := sc) (fs := fs) (rc := rc) (cn := cn) (ss := ss) (tr := nI (T + 1)) (of := of) (rd := rd) (tu := nI (T + 1)) (la := la) (lt := lt) (ρa := ρa) (ρs := ρs) (ρp := ρp) hcd 1000 1 0 (by omega) (by omega) (by omega)
  have g1' : f_Offsets_endRound d (sc, fs, rc, cn, ss, nI (T + 1), of, rd) = some (sc, fs, rc, cn, px_zr 12 0 ss, (0 : Int32), of', rd + (1 : Int32)) := g1
  have g2' : ∀ (b : Int32 × Int32 × (Nat → Int32)) (s : sg_store) (w : sg_queue), f_Mod_endRound kr kd kl km (b, s, w, ρa, ρs, (of, nI (T + 1), la, lt, cd, ss), ρp) = some (px_be true b, s, w, ρa, ρs, (of', (0 : Int32), la, lt, cd, px_zr 12 0 ss), ρp) := g2
  by_cases h15 : v = 15
  · subst h15
    refine ⟨px_zr 12 0 ss, 0, of', true, ?_, by omega, px_s15_z ss, fun b s w x3 x4 => ?_⟩
    · unfold jn_Offsets_tryCandidate_34
      dsimp only
      rw [if_neg hi, px_cl (T % 12) (by omega), if_pos (show (15 : Int32) ≤ ss (T % 12) by rw [hv]; decide), px_s1 T, g1']
      rfl
    · unfold jn_Mod_offsets_70
      dsimp only
      rw [if_neg hi, px_cl (T % 12) (by omega), if_pos (show ss (T % 12) = (15 : Int32) by rw [hv]; rfl), px_s1 T, g2']
      rfl
  · have n15 : ¬ (15 : Int32) ≤ ss (T % 12) := by rw [hv]; exact px_pF 15 v (by omega) (by decide)
    have m15 : ¬ ss (T % 12) = (15 : Int32) := fun z => h15 ((nI_eq (by omega) (by decide)).1 (hv.symm.trans z))
    by_cases h240 : T + 1 = 240
    · refine ⟨px_zr 12 0 ss, 0, of', true, ?_, by omega, px_s15_z ss, fun b s w x3 x4 => ?_⟩
      · unfold jn_Offsets_tryCandidate_34
        dsimp only
        rw [if_neg hi, px_cl (T % 12) (by omega), if_neg n15, if_neg (show ¬ nI T + (1 : Int32) < (240 : Int32) by rw [px_s1 T]; exact px_lF (T + 1) 240 (by omega) (by omega)), px_s1 T, g1']
        rfl
      · unfold jn_Mod_offsets_70
        dsimp only
        rw [if_neg hi, px_cl (T % 12) (by omega), if_neg m15, if_pos (show nI T + (1 : Int32) = (240 : Int32) by rw [px_s1 T, h240]; rfl), px_s1 T, g2']
        rfl
    · refine ⟨ss, T + 1, of, false, ?_, by omega, hs (by omega), fun b s w x3 x4 => ?_⟩
      · unfold jn_Offsets_tryCandidate_34
        dsimp only
        rw [if_neg hi, px_cl (T % 12) (by omega), if_neg n15, if_pos (show nI T + (1 : Int32) < (240 : Int32) by rw [px_s1 T]; exact px_lT (T + 1) 240 (by omega) (by omega)), px_s1 T]
        rfl
      · unfold jn_Mod_offsets_70
        dsimp only
        rw [if_neg hi, px_cl (T % 12) (by omega), if_neg m15, if_neg (show ¬ nI T + (1 : Int32) = (240 : Int32) from fun z => h240 ((nI_eq (by omega) (by decide)).1 ((px_s1 T).symm.trans z))), px_s1 T]
        rfl
theorem px_isRec {A : Nat} (hA : A ≤ 100000) {y : Int32} : f_Offsets_isRecent d (sc, fs, rc, nI A, ss, tr, of, rd) y = some (if px_fd rc y 0 (px_rl A) = (-1 : Int32) then (0 : Int32) else 1) := by
  have hl : px_rl A ≤ 32 := by
    unfold px_rl
    by_cases q : A < 32
    · rw [if_pos q]; omega
    · rw [if_neg q]; omega
  have h : f_Main_indexOf 32 rc y (nI (px_rl A)) = some (px_fd rc y 0 (px_rl A)) := px_idx (n := 32) (f := rc) (x := y) (k := px_rl A) hl (by decide) 1000 0 (by omega) (by omega)
  unfold f_Offsets_isRecent
  dsimp only
  rw [px_rlI (by omega), h, Option.bind_some]
  by_cases c : px_fd rc y 0 (px_rl A) = (-1 : Int32)
  · rw [if_pos c, if_pos c]
  · rw [if_neg c, if_neg c]
/-- a candidate is tried -/
theorem px_try (hcd : ∀ j, j < 12 → cd j = kx_cand j) {T A : Nat} (hT : T < 240) (hA : A ≤ 100000) (hs : px_s15 ss) (hr : px_ring (px_rl A) (px_ro A) rc lt) :
    ∃ (ss' : Nat → Int32) (T' : Nat) (of' : Int32) (e : Bool), f_Offsets_tryCandidate d (sc, fs, rc, nI A, ss, nI T, of, rd) x = some (sc, fs, rc, nI A, ss', nI T', of', px_ae e rd) ∧ T' < 240 ∧ px_s15 ss' ∧
      ∃ x3 x4 : Int32, ∀ (b : Int32 × Int32 × (Nat → Int32)) (s : sg_store) (w : sg_queue), f_Mod_offsets kr kd kl km (b, s, w, ρa, ρs, (of, nI T, nI (px_rl A), lt, cd, ss), ρp) x = jn_Mod_offsets_105 kr kd kl km x (nI (T % 12)) x3 x4 (px_be e b, s, w, ρa, ρs, (of', nI T', nI (px_rl A), lt, cd, ss'), ρp) := by
  have hc : T % 12 < 12 := by omega
  have hi := px_iN (T % 12) 12 hc (by decide)
  have hi' : ¬ (nI (T % 12) < 0 ∨ 12 ≤ T % 12) := fun z => z.elim (px_0F _ (by omega)) (fun z => by omega)
  have hl := hr.1
  have hf : f_Math_floorMod (nI T) (12 : Int32) = some (nI (T % 12)) := px_fm (d := 12) (by omega) (by decide) (by decide)
  have hrem : nI T - nI T / (12 : Int32) * (12 : Int32) = nI (T % 12) := pk_rem (d := 12) (by omega) (by decide) (by decide)
  have hy := px_ring_fd hr (x - cd (T % 12))
  have hrec : ∀ y : Int32, f_Offsets_isRecent d (sc, fs, rc, nI A, ss, nI T, of, rd) y = some (if px_fd rc y 0 (px_rl A) = (-1 : Int32) then (0 : Int32) else 1) := fun y => px_isRec hA
  generalize px_rl A = l at hl hy hrec ⊢
  have hm : ∀ (b : Int32 × Int32 × (Nat → Int32)) (s : sg_store) (w : sg_queue), f_Mod_offsets kr kd kl km (b, s, w, ρa, ρs, (of, nI T, nI l, lt, cd, ss), ρp) x = (if px_fd lt (x - cd (T % 12)) 0 l = (-1 : Int32) then jn_Mod_offsets_70 kr kd kl km x (nI (T % 12)) (0 : Int32) (nI l) (b, s, w, ρa, ρs, (of, nI T, nI l, lt, cd, ss), ρp) else jn_Mod_offsets_70 kr kd kl km x (nI (T % 12)) (1 : Int32) (nI l) (b, s, w, ρa, ρs, (of, nI T, nI l, lt, cd, upd ss (T % 12) (ss (T % 12) + (1 : Int32))), ρp)) := fun b s w => by
    unfold f_Mod_offsets
    dsimp only
    rw [if_neg (show ¬ (12 : Int32) = 0 by decide), hrem]
    exact px_13 hc 1000 0 (by omega) hl (by omega)
  obtain ⟨v, v1, v2⟩ := hs (T % 12) hc
  unfold f_Offsets_tryCandidate
  dsimp only
  rw [hf, Option.bind_some, if_neg hi, px_cl (T % 12) (by omega), ← hcd (T % 12) hc, hrec, Option.bind_some]
  by_cases c : px_fd rc (x - cd (T % 12)) 0 l = (-1 : Int32)
  · obtain ⟨ss', T', of', e, g1, g2, g3, g4⟩ := px_j34 (kr := kr) (kd := kd) (kl := kl) (km := km) (d := d) (x := x) (sc := sc) (fs := fs) (rc := rc) (cn := nI A) (of := of) (rd := rd) (la := nI l) (lt := lt) (ρa := ρa) (ρs := ρs) (ρp := ρp) hcd hT v2 (by omega) (fun _ => hs)
    refine ⟨ss', T', of', e, ?_, g2, g3, 0, nI l, fun b s w => ?_⟩
    · rw [if_pos c, if_pos rfl]; exact g1
    · rw [hm, if_pos (hy.2 c), g4]
  · have hu : ∀ j, j < 12 → upd ss (T % 12) (ss (T % 12) + (1 : Int32)) j = if j = T % 12 then nI (v + 1) else ss j := fun j hj => by
      by_cases ej : j = T % 12
      · rw [if_pos ej, ej, pk_us, v2, px_s1 v]
      · rw [if_neg ej, pk_un ej]
    obtain ⟨ss', T', of', e, g1, g2, g3, g4⟩ := px_j34 (kr := kr) (kd := kd) (kl := kl) (km := km) (d := d) (x := x) (sc := sc) (fs := fs) (rc := rc) (cn := nI A) (of := of) (rd := rd) (la := nI l) (lt := lt) (ρa := ρa) (ρs := ρs) (ρp := ρp) (ss := upd ss (T % 12) (ss (T % 12) + (1 : Int32))) hcd hT (v := v + 1) (by rw [hu _ hc, if_pos rfl]) (by omega) (fun hv j hj => by
      rw [hu j hj]
      by_cases ej : j = T % 12
      · rw [if_pos ej]; exact ⟨v + 1, hv, rfl⟩
      · rw [if_neg ej]; exact hs j hj)
    refine ⟨ss', T', of', e, ?_, g2, g3, 1, nI l, fun b s w => ?_⟩
    · rw [if_neg c, if_neg (by decide), if_neg hi', if_neg hi']; exact g1
    · rw [hm, if_neg (fun z => c (hy.1 z)), g4]
/-- rule 3: asked at most c times -/
def RR3 (c : Nat) (r : RS) (ρ : RP) : Prop := ∃ (sc of rd : Int32) (fs rc lt ss cd : Nat → Int32) (A T : Nat), r = .inr (.inr (.inr (.inl (sc, fs, rc, nI A, ss, nI T, of, rd)))) ∧ ρ.2.2.1 = (of, nI T, nI (px_rl A), lt, cd, ss) ∧ T < 240 ∧ (∀ j, j < 12 → cd j = kx_cand j) ∧ px_s15 ss ∧ px_ring (px_rl A) (px_ro A) rc lt ∧ A ≤ c
theorem RR3.mono {c c' : Nat} {r : RS} {ρ : RP} (h : RR3 c r ρ) (hc : c ≤ c') : RR3 c' r ρ := by
  obtain ⟨sc, of, rd, fs, rc, lt, ss, cd, A, T, h1, h2, h3, h4, h5, h6, h7⟩ := h
  exact ⟨sc, of, rd, fs, rc, lt, ss, cd, A, T, h1, h2, h3, h4, h5, h6, Nat.le_trans h7 hc⟩
theorem px_sl3 {m k : Nat} {d : Int32} {u : sg_offsets} (hu : u.1 = nI m) (hk : k < m) (hm : m ≤ 4) : F_saidLine d (.inr (.inr (.inr (.inl u)))) (nI k) = some (u.2.1 k) := by
  show f_Offsets_saidLine d u (nI k) = _
  unfold f_Offsets_saidLine
  rw [if_neg (px_0F k (by omega)), hu, if_neg (px_pF m k hk (by omega)), if_neg (px_pF 4 k (by omega) (by decide)), if_neg (px_iN k 4 (by omega) (by decide)), px_cl k (by omega)]
theorem px_step3 (hD : D ≤ 4) {c : Nat} (hc : c + 1 ≤ 100000) {r : RS} {ρ : RP} (h : RR3 c r ρ) (p x : Int32) : px_Step kr (nI D) kl km (RR3 (c + 1)) (fun t => f_Mod_offsets kr (nI D) kl km t x) r ρ p x := by
  obtain ⟨sc, of, rd, fs, rc, lt, ss, cd, A, T, rfl, hρ, hT, hcd, hs, hr, hA⟩ := h
  obtain ⟨ρa, ρs, ρo, ρp⟩ := ρ
  have hρ : ρo = (of, nI T, nI (px_rl A), lt, cd, ss) := hρ
  subst hρ
  obtain ⟨ss', T', of', e, g1, g2, g3, x3, x4, g4⟩ := px_try (kr := kr) (kd := nI D) (kl := kl) (km := km) (d := nI D) (sc := (0 : Int32)) (fs := fs) (of := of) (rd := rd) (x := x) (ρa := ρa) (ρs := ρs) (ρp := ρp) hcd hT (A := A) (by omega) hs hr
  obtain ⟨rc', lt', r1, r2, r3⟩ := px_rem (kr := kr) (kd := nI D) (kl := kl) (km := km) (d := nI D) (ss := ss') (tr := nI T') (of := of') (rd := px_ae e rd) (tu := nI T') (cd := cd) (x := x) (ρa := ρa) (ρs := ρs) (ρp := ρp) (A := A) (by omega) hr
  have hh : ∀ u' : sg_offsets, f_Offsets_learn (nI D) ((0 : Int32), fs, rc, nI A, ss, nI T, of, rd) p x = some u' → F_hear (nI D) (.inr (.inr (.inr (.inl (sc, fs, rc, nI A, ss, nI T, of, rd))))) p x = some (.inr (.inr (.inr (.inl u')))) := fun u' z => by
    show (f_Offsets_hear (nI D) (sc, fs, rc, nI A, ss, nI T, of, rd) p x).bind _ = _
    unfold f_Offsets_hear
    dsimp only
    rw [z]; rfl
  have hrd : ∀ (sc' : Int32) (fs' : Nat → Int32), ∀ v, F_roundCount (nI D) (.inr (.inr (.inr (.inl (sc, fs, rc, nI A, ss, nI T, of, rd))))) = some v → F_roundCount (nI D) (.inr (.inr (.inr (.inl (sc', fs', rc', nI (A + 1), ss', nI T', of', px_ae e rd))))) = some (px_ae e v) := fun sc' fs' v hv => by
    have hv : some rd = some v := hv
    cases hv
    rfl
  by_cases h0 : of' = 0
  · refine ⟨.inr (.inr (.inr (.inl ((0 : Int32), fs, rc', nI (A + 1), ss', nI T', of', px_ae e rd)))), 0, fs, (ρa, ρs, (of', nI T', nI (px_rl A), lt, cd, ss'), ρp), (ρa, ρs, (of', nI T', nI (px_rl (A + 1)), lt', cd, ss'), ρp), e, hh _ ?_, rfl, by omega, fun k hk => by omega, fun b s w t' e1 e2 => ?_, ⟨_, _, _, _, _, _, _, _, A + 1, T', rfl, rfl, g2, hcd, g3, r1, by omega⟩, hrd _ _⟩
    · unfold f_Offsets_learn
      rw [g1, Option.bind_some]
      dsimp only
      rw [if_pos h0, r2]
      rfl
    · show f_Mod_offsets kr (nI D) kl km (b, s, w, ρa, ρs, (of, nI T, nI (px_rl A), lt, cd, ss), ρp) x = _
      rw [g4]
      unfold jn_Mod_offsets_105
      dsimp only
      rw [if_pos h0, r3]
      have e1 : some (px_be e b, s, w, ρa, ρs, (of', nI T', nI (px_rl A), lt, cd, ss'), ρp) = some t' := e1
      cases e1
      rfl
  · obtain ⟨g, s1, s2⟩ := px_inSteps hD (x := x) (y := of') (f := fs)
    refine ⟨.inr (.inr (.inr (.inl (nI D, g, rc', nI (A + 1), ss', nI T', of', px_ae e rd)))), D, px_row x of', (ρa, ρs, (of', nI T', nI (px_rl A), lt, cd, ss'), ρp), (ρa, ρs, (of', nI T', nI (px_rl (A + 1)), lt', cd, ss'), ρp), e, hh _ ?_, rfl, hD, fun k hk => ?_, fun b s w t' e1 e2 => ?_, ⟨_, _, _, _, _, _, _, _, A + 1, T', rfl, rfl, g2, hcd, g3, r1, by omega⟩, hrd _ _⟩
    · unfold f_Offsets_learn
      rw [g1, Option.bind_some]
      dsimp only
      rw [if_neg h0, s1, Option.bind_some]
      dsimp only
      rw [r2]
      rfl
    · rw [px_sl3 rfl hk hD]
      exact congrArg some (s2 k hk)
    · show f_Mod_offsets kr (nI D) kl km (b, s, w, ρa, ρs, (of, nI T, nI (px_rl A), lt, cd, ss), ρp) x = _
      rw [g4]
      unfold jn_Mod_offsets_105
      dsimp only
      rw [if_neg h0, px_sayRow hD, e1, Option.bind_some]
      obtain ⟨t1, t2, t3, t4⟩ := t'
      have e2 : t4 = (ρa, ρs, (of', nI T', nI (px_rl A), lt, cd, ss'), ρp) := e2
      subst e2
      rw [r3]
end PXOF
