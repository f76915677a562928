/-! Rule 4: the lines that came behind a line -/
def px_b2 (f : Nat → Int32) : Prop := ∀ j, f j = 0 ∨ f j = 1 ∨ f j = 2
theorem px_b2_upd {f : Nat → Int32} {i : Nat} {v : Int32} (h : px_b2 f) (hv : v = 0 ∨ v = 1 ∨ v = 2) : px_b2 (upd f i v) := fun j => by
  by_cases e : j = i
  · rw [e, pk_us]; exact hv
  · rw [pk_un e]; exact h j
section PXPA
variable {kr kd kl km : Int32} {D : Nat} {d sc bg bf x : Int32} {fs tk ow bh nw od : Nat → Int32} {t t1 : sg_model} {ρa : (Nat → Int32) × (Nat → Int32) × (Nat → Int32) × (Nat → Int32) × (Nat → Int32)} {ρs : Int32 × (Nat → Int32) × (Nat → Int32)} {ρo : Int32 × Int32 × Int32 × (Nat → Int32) × (Nat → Int32) × (Nat → Int32)}
theorem px_say_keep (h : f_Mod_say kr kd kl km t x = some t1) : t1.2.2.2 = t.2.2.2 := by
  unfold f_Mod_say at h
  cases h1 : f_Mod_placeOf kr kd kl km t x with
  | none => rw [h1] at h; cases h
  | some a =>
    rw [h1, Option.bind_some] at h
    by_cases c1 : 0 ≤ a
    · rw [if_pos c1, if_neg (by decide), if_neg (by decide)] at h
      cases h; rfl
    · rw [if_neg c1] at h
      cases h2 : f_Mod_queueOf kr kd kl km t x with
      | none => rw [h2] at h; cases h
      | some b =>
        rw [h2, Option.bind_some] at h
        by_cases c2 : b < 0
        · rw [if_pos c2] at h
          by_cases c3 : t.2.2.1.1 = (8 : Int32)
          · rw [if_pos c3, if_neg (by decide), if_neg (by decide)] at h
            cases h; rfl
          · rw [if_neg c3] at h
            by_cases c4 : t.2.2.1.1 < 0 ∨ 8 ≤ t.2.2.1.1.toNatClampNeg
            · rw [if_pos c4] at h; cases h
            · rw [if_neg c4, if_neg c4, if_neg (by decide), if_neg (by decide)] at h
              cases h; rfl
        · rw [if_neg c2, if_neg (by decide), if_neg (by decide)] at h
          cases h; rfl
/-- the line comes behind the row's -/
theorem px_f35 {x1 i : Int32} (hi : ¬ (i < 0 ∨ 64 ≤ i.toNatClampNeg)) (hb : px_b2 bh) : ∃ bh' nw' od' : Nat → Int32, px_b2 bh' ∧ jn_Pairs_follow_35 d x1 x i (sc, fs, tk, ow, bh, nw, od, bg, bf) = some (sc, fs, tk, ow, bh', nw', od', bg, bf) ∧
    ∀ (K : Int32 → Int32 → sg_model → Option sg_model) (b : Int32 × Int32 × (Nat → Int32)) (s : sg_store) (w : sg_queue), jn_Mod_pairs_61 kr kd kl km K x i (b, s, w, ρa, ρs, ρo, (bg, bf, tk, ow, bh, nw, od)) = K x i (b, s, w, ρa, ρs, ρo, (bg, bf, tk, ow, bh', nw', od')) := by
  unfold jn_Pairs_follow_35 jn_Mod_pairs_61
  dsimp only
  rw [if_neg hi]
  rcases hb i.toNatClampNeg with z | z | z
  · refine ⟨upd bh i.toNatClampNeg 1, upd nw i.toNatClampNeg x, upd od i.toNatClampNeg (nw i.toNatClampNeg), px_b2_upd hb (Or.inr (Or.inl rfl)), ?_, fun K b s w => ?_⟩
    · rw [if_pos (show bh i.toNatClampNeg ≤ 0 by rw [z]; decide), if_neg hi, if_neg hi, if_neg hi, if_neg hi, if_neg hi, if_pos (show bh i.toNatClampNeg + (1 : Int32) < (2 : Int32) by rw [z]; decide), z]
      rfl
    · rw [if_neg hi, if_pos z, if_neg hi, if_neg hi, if_neg hi, if_neg hi, if_neg (show ¬ (2 : Int32) ≤ bh i.toNatClampNeg by rw [z]; decide), if_neg hi, if_neg hi, z]
      rfl
  · by_cases c : nw i.toNatClampNeg = x
    · refine ⟨bh, nw, od, hb, ?_, fun K b s w => ?_⟩
      · rw [if_neg (show ¬ bh i.toNatClampNeg ≤ 0 by rw [z]; decide), if_neg hi, if_pos c]
      · rw [if_neg hi, if_neg (show ¬ bh i.toNatClampNeg = 0 by rw [z]; decide), if_neg hi, if_pos c]
    · refine ⟨upd bh i.toNatClampNeg 2, upd nw i.toNatClampNeg x, upd od i.toNatClampNeg (nw i.toNatClampNeg), px_b2_upd hb (Or.inr (Or.inr rfl)), ?_, fun K b s w => ?_⟩
      · rw [if_neg (show ¬ bh i.toNatClampNeg ≤ 0 by rw [z]; decide), if_neg hi, if_neg c, if_neg hi, if_neg hi, if_neg hi, if_neg hi, if_neg hi, if_neg (show ¬ bh i.toNatClampNeg + (1 : Int32) < (2 : Int32) by rw [z]; decide)]
      · rw [if_neg hi, if_neg (show ¬ bh i.toNatClampNeg = 0 by rw [z]; decide), if_neg hi, if_neg c, if_neg hi, if_neg hi, if_neg hi, if_neg hi, if_neg (show ¬ (2 : Int32) ≤ bh i.toNatClampNeg by rw [z]; decide), if_neg hi, if_neg hi, z]
        rfl
  · by_cases c : nw i.toNatClampNeg = x
    · refine ⟨bh, nw, od, hb, ?_, fun K b s w => ?_⟩
      · rw [if_neg (show ¬ bh i.toNatClampNeg ≤ 0 by rw [z]; decide), if_neg hi, if_pos c]
      · rw [if_neg hi, if_neg (show ¬ bh i.toNatClampNeg = 0 by rw [z]; decide), if_neg hi, if_pos c]
    · refine ⟨upd bh i.toNatClampNeg 2, upd nw i.toNatClampNeg x, upd od i.toNatClampNeg (nw i.toNatClampNeg), px_b2_upd hb (Or.inr (Or.inr rfl)), ?_, fun K b s w => ?_⟩
      · rw [if_neg (show ¬ bh i.toNatClampNeg ≤ 0 by rw [z]; decide), if_neg hi, if_neg c, if_neg hi, if_neg hi, if_neg hi, if_neg hi, if_neg hi, if_neg (show ¬ bh i.toNatClampNeg + (1 : Int32) < (2 : Int32) by rw [z]; decide)]
      · rw [if_neg hi, if_neg (show ¬ bh i.toNatClampNeg = 0 by rw [z]; decide), if_neg hi, if_neg c, if_neg hi, if_neg hi, if_neg hi, if_neg hi, if_pos (show (2 : Int32) ≤ bh i.toNatClampNeg by rw [z]; decide), if_neg hi]
theorem px_pown {i y : Int32} {bg' bf' : Int32} (hi : ¬ (i < 0 ∨ 64 ≤ i.toNatClampNeg)) : ((¬ tk i.toNatClampNeg = 0 ∧ ow i.toNatClampNeg = y) ∧ f_Pairs_isOwn d (sc, fs, tk, ow, bh, nw, od, bg', bf') i y = some 1) ∨ (¬ (¬ tk i.toNatClampNeg = 0 ∧ ow i.toNatClampNeg = y) ∧ f_Pairs_isOwn d (sc, fs, tk, ow, bh, nw, od, bg', bf') i y = some 0) := by
  unfold f_Pairs_isOwn
  dsimp only
  rw [if_neg hi]
  by_cases o1 : tk i.toNatClampNeg = 0
  · exact Or.inr ⟨fun z => z.1 o1, by rw [if_pos o1]⟩
  · rw [if_neg o1, if_neg hi]
    by_cases o2 : ow i.toNatClampNeg = y
    · exact Or.inl ⟨⟨o1, o2⟩, by rw [if_pos o2]⟩
    · exact Or.inr ⟨fun z => o2 z.2, by rw [if_neg o2]⟩
/-- the row of the line before -/
theorem px_pfol (hb : px_b2 bh) (hg : ¬ bg = 0) : ∃ tk' ow' bh' nw' od' : Nat → Int32, px_b2 bh' ∧ f_Pairs_follow d (sc, fs, tk, ow, bh, nw, od, bg, bf) bf x = some (sc, fs, tk', ow', bh', nw', od', bg, bf) ∧
    ∀ (b : Int32 × Int32 × (Nat → Int32)) (s : sg_store) (w : sg_queue), f_Mod_pairs kr kd kl km (b, s, w, ρa, ρs, ρo, (bg, bf, tk, ow, bh, nw, od)) x = jn_Mod_pairs_127 kr kd kl km x (bf &&& (63 : Int32)) (b, s, w, ρa, ρs, ρo, (bg, bf, tk', ow', bh', nw', od')) := by
  have hi : ¬ ((bf &&& (63 : Int32)) < 0 ∨ 64 ≤ (bf &&& (63 : Int32)).toNatClampNeg) := pk_andIn bf 6 (by decide) (by decide)
  generalize hI : bf &&& (63 : Int32) = i at hi
  have hrow : f_Pairs_rowOf bf = some i := by unfold f_Pairs_rowOf; rw [hI]
  rcases px_pown (d := d) (sc := sc) (fs := fs) (tk := tk) (ow := ow) (bh := bh) (nw := nw) (od := od) (bg' := bg) (bf' := bf) (y := bf) hi with ⟨⟨o1, o2⟩, h1⟩ | ⟨h0, h1⟩
  · obtain ⟨bh', nw', od', g1, g2, g3⟩ := px_f35 (kr := kr) (kd := kd) (kl := kl) (km := km) (d := d) (sc := sc) (fs := fs) (tk := tk) (ow := ow) (nw := nw) (od := od) (bg := bg) (bf := bf) (x := x) (x1 := bf) (ρa := ρa) (ρs := ρs) (ρo := ρo) hi hb
    refine ⟨tk, ow, bh', nw', od', g1, ?_, fun b s w => ?_⟩
    · unfold f_Pairs_follow
      rw [hrow, Option.bind_some, h1, Option.bind_some, if_neg (by decide)]
      exact g2
    · unfold f_Mod_pairs
      dsimp only
      rw [hI, if_neg hg, if_neg hi, if_neg o1, if_neg hi, if_pos o2]
      exact g3 _ b s w
  · obtain ⟨bh', nw', od', g1, g2, g3⟩ := px_f35 (kr := kr) (kd := kd) (kl := kl) (km := km) (d := d) (sc := sc) (fs := fs) (tk := upd tk i.toNatClampNeg (vp_nar .boolean (1 : Int32))) (ow := upd ow i.toNatClampNeg bf) (bh := upd bh i.toNatClampNeg (0 : Int32)) (nw := nw) (od := od) (bg := bg) (bf := bf) (x := x) (x1 := bf) (ρa := ρa) (ρs := ρs) (ρo := ρo) hi (px_b2_upd hb (Or.inl rfl))
    refine ⟨upd tk i.toNatClampNeg (vp_nar .boolean (1 : Int32)), upd ow i.toNatClampNeg bf, bh', nw', od', g1, ?_, fun b s w => ?_⟩
    · unfold f_Pairs_follow
      rw [hrow, Option.bind_some, h1, Option.bind_some, if_pos rfl, if_neg hi, if_neg hi, if_neg hi]
      exact g2
    · unfold f_Mod_pairs
      dsimp only
      rw [hI, if_neg hg, if_neg hi]
      by_cases o1 : tk i.toNatClampNeg = 0
      · rw [if_pos o1, if_neg hi, if_neg hi, if_neg hi]
        exact g3 _ b s w
      · rw [if_neg o1, if_neg hi, if_neg (fun o2 => h0 ⟨o1, o2⟩), if_neg hi, if_neg hi, if_neg hi]
        exact g3 _ b s w
/-- what the row of the line itself says -/
theorem px_p16 (hD : D ≤ 4) (p : Int32) (hb : px_b2 bh) : ∃ (m : Nat) (fs' f : Nat → Int32), m ≤ 4 ∧ jn_Pairs_learn_16 (nI D) p x ((0 : Int32), fs, tk, ow, bh, nw, od, bg, bf) = some (nI m, fs', tk, ow, bh, nw, od, (1 : Int32), x) ∧ (∀ k, k < m → fs' k = f k) ∧
    ∀ (b : Int32 × Int32 × (Nat → Int32)) (s : sg_store) (w : sg_queue) (i : Int32) (t' : sg_model), px_ms kr (nI D) kl km (px_tl f 0 m) (b, s, w, ρa, ρs, ρo, ((1 : Int32), x, tk, ow, bh, nw, od)) = some t' → jn_Mod_pairs_127 kr (nI D) kl km x i (b, s, w, ρa, ρs, ρo, (bg, bf, tk, ow, bh, nw, od)) = some t' := by
  have hi : ¬ ((x &&& (63 : Int32)) < 0 ∨ 64 ≤ (x &&& (63 : Int32)).toNatClampNeg) := pk_andIn x 6 (by decide) (by decide)
  unfold jn_Mod_pairs_127 jn_Pairs_learn_16 f_Pairs_behindCount
  dsimp only
  generalize hI : x &&& (63 : Int32) = j at hi
  have hrow : f_Pairs_rowOf x = some j := by unfold f_Pairs_rowOf; rw [hI]
  rw [hrow, Option.bind_some]
  have s0 : ∀ v : Int32, f_Rule_say (nI D) ((0 : Int32), fs) v = some (nI 1, upd fs 0 v) := fun v => px_rsay (s := ((0 : Int32), fs)) (k := 0) rfl (by omega)
  have s1 : ∀ v v' : Int32, f_Rule_say (nI D) (nI 1, upd fs 0 v) v' = some (nI 2, upd (upd fs 0 v) 1 v') := fun v v' => px_rsay (s := (nI 1, upd fs 0 v)) (k := 1) rfl (by omega)
  rcases px_pown (d := nI D) (sc := (0 : Int32)) (fs := fs) (tk := tk) (ow := ow) (bh := bh) (nw := nw) (od := od) (bg' := (1 : Int32)) (bf' := x) (y := x) hi with ⟨⟨o1, o2⟩, h1⟩ | ⟨h0, h1⟩
  · rw [h1, Option.bind_some, if_neg (by decide), if_neg hi, Option.bind_some]
    rcases hb j.toNatClampNeg with z | z | z
    · refine ⟨0, fs, fs, by omega, ?_, fun k hk => by omega, fun b s w i t' e1 => ?_⟩
      · rw [if_pos (show bh j.toNatClampNeg ≤ 0 by rw [z]; decide)]
        unfold jn_Pairs_learn_49
        rw [if_pos (show bh j.toNatClampNeg ≤ (1 : Int32) by rw [z]; decide)]
        rfl
      · rw [if_neg hi, if_neg o1, if_neg hi, if_pos o2, if_neg hi, if_neg hi, if_neg hi, if_pos (show bh j.toNatClampNeg ≤ 0 by rw [z]; decide)]
        unfold jn_Mod_pairs_191
        dsimp only
        rw [if_neg hi, if_pos (show bh j.toNatClampNeg ≤ (1 : Int32) by rw [z]; decide)]
        exact e1
    · refine ⟨1, upd fs 0 (nw j.toNatClampNeg), fun _ => nw j.toNatClampNeg, by omega, ?_, fun k hk => by rw [show k = 0 by omega, pk_us], fun b s w i t' e1 => ?_⟩
      · rw [if_neg (show ¬ bh j.toNatClampNeg ≤ 0 by rw [z]; decide), Option.bind_some, if_neg hi, s0, Option.bind_some]
        unfold jn_Pairs_learn_49
        dsimp only
        rw [if_pos (show bh j.toNatClampNeg ≤ (1 : Int32) by rw [z]; decide)]
      · rw [if_neg hi, if_neg o1, if_neg hi, if_pos o2, if_neg hi, if_neg hi, if_neg hi, if_neg (show ¬ bh j.toNatClampNeg ≤ 0 by rw [z]; decide)]
        cases h2 : f_Mod_say kr (nI D) kl km (b, s, w, ρa, ρs, ρo, ((1 : Int32), x, tk, ow, bh, nw, od)) (nw j.toNatClampNeg) with
        | none =>
          have e1 : (f_Mod_say kr (nI D) kl km (b, s, w, ρa, ρs, ρo, ((1 : Int32), x, tk, ow, bh, nw, od)) (nw j.toNatClampNeg)).bind _ = some t' := e1
          rw [h2] at e1; cases e1
        | some t1 =>
          have e1 : (f_Mod_say kr (nI D) kl km (b, s, w, ρa, ρs, ρo, ((1 : Int32), x, tk, ow, bh, nw, od)) (nw j.toNatClampNeg)).bind _ = some t' := e1
          rw [h2, Option.bind_some] at e1
          have k1 := px_say_keep h2
          rw [Option.bind_some]
          unfold jn_Mod_pairs_191
          rw [if_neg hi, k1]
          dsimp only
          rw [if_pos (show bh j.toNatClampNeg ≤ (1 : Int32) by rw [z]; decide)]
          exact e1
    · by_cases hd1 : D ≤ 1
      · refine ⟨1, upd fs 0 (nw j.toNatClampNeg), fun _ => nw j.toNatClampNeg, by omega, ?_, fun k hk => by rw [show k = 0 by omega, pk_us], fun b s w i t' e1 => ?_⟩
        · rw [if_neg (show ¬ bh j.toNatClampNeg ≤ 0 by rw [z]; decide), Option.bind_some, if_neg hi, s0, Option.bind_some]
          unfold jn_Pairs_learn_49 f_Rule_degree
          dsimp only
          rw [if_neg (show ¬ bh j.toNatClampNeg ≤ (1 : Int32) by rw [z]; decide), Option.bind_some, if_pos (show nI D ≤ (1 : Int32) from px_pT D 1 hd1 (by decide))]
        · rw [if_neg hi, if_neg o1, if_neg hi, if_pos o2, if_neg hi, if_neg hi, if_neg hi, if_neg (show ¬ bh j.toNatClampNeg ≤ 0 by rw [z]; decide)]
          have e1 : (f_Mod_say kr (nI D) kl km (b, s, w, ρa, ρs, ρo, ((1 : Int32), x, tk, ow, bh, nw, od)) (nw j.toNatClampNeg)).bind _ = some t' := e1
          cases h2 : f_Mod_say kr (nI D) kl km (b, s, w, ρa, ρs, ρo, ((1 : Int32), x, tk, ow, bh, nw, od)) (nw j.toNatClampNeg) with
          | none => rw [h2] at e1; cases e1
          | some t1 =>
            rw [h2, Option.bind_some] at e1
            have k1 := px_say_keep h2
            rw [Option.bind_some]
            unfold jn_Mod_pairs_191
            rw [if_neg hi, k1]
            dsimp only
            rw [if_neg (show ¬ bh j.toNatClampNeg ≤ (1 : Int32) by rw [z]; decide), if_pos (show nI D ≤ (1 : Int32) from px_pT D 1 hd1 (by decide))]
            exact e1
      · refine ⟨2, upd (upd fs 0 (nw j.toNatClampNeg)) 1 (od j.toNatClampNeg), upd (upd fs 0 (nw j.toNatClampNeg)) 1 (od j.toNatClampNeg), by omega, ?_, fun k hk => rfl, fun b s w i t' e1 => ?_⟩
        · rw [if_neg (show ¬ bh j.toNatClampNeg ≤ 0 by rw [z]; decide), Option.bind_some, if_neg hi, s0, Option.bind_some]
          unfold jn_Pairs_learn_49 f_Rule_degree
          dsimp only
          rw [if_neg (show ¬ bh j.toNatClampNeg ≤ (1 : Int32) by rw [z]; decide), Option.bind_some, if_neg (show ¬ nI D ≤ (1 : Int32) from px_pF D 1 (by omega) (by omega)), hrow, Option.bind_some, if_neg hi, s1]
          rfl
        · rw [if_neg hi, if_neg o1, if_neg hi, if_pos o2, if_neg hi, if_neg hi, if_neg hi, if_neg (show ¬ bh j.toNatClampNeg ≤ 0 by rw [z]; decide)]
          have e1 : (f_Mod_say kr (nI D) kl km (b, s, w, ρa, ρs, ρo, ((1 : Int32), x, tk, ow, bh, nw, od)) (nw j.toNatClampNeg)).bind (fun t1 => (f_Mod_say kr (nI D) kl km t1 (od j.toNatClampNeg)).bind (fun t2 => some t2)) = some t' := e1
          cases h2 : f_Mod_say kr (nI D) kl km (b, s, w, ρa, ρs, ρo, ((1 : Int32), x, tk, ow, bh, nw, od)) (nw j.toNatClampNeg) with
          | none => rw [h2] at e1; cases e1
          | some t1 =>
            rw [h2, Option.bind_some] at e1
            have k1 := px_say_keep h2
            rw [Option.bind_some]
            unfold jn_Mod_pairs_191
            rw [if_neg hi, k1]
            dsimp only
            rw [if_neg (show ¬ bh j.toNatClampNeg ≤ (1 : Int32) by rw [z]; decide), if_neg (show ¬ nI D ≤ (1 : Int32) from px_pF D 1 (by omega) (by omega))]
            exact e1
  · rw [h1, Option.bind_some, if_pos rfl, Option.bind_some]
    refine ⟨0, fs, fs, by omega, ?_, fun k hk => by omega, fun b s w i t' e1 => ?_⟩
    · rw [if_pos (by decide)]
      unfold jn_Pairs_learn_49
      rw [if_pos (by decide)]
      rfl
    · rw [if_neg hi]
      by_cases o1 : tk j.toNatClampNeg = 0
      · rw [if_pos o1]; exact e1
      · rw [if_neg o1, if_neg hi, if_neg (fun o2 => h0 ⟨o1, o2⟩)]; exact e1
/-- rule 4 -/
def RR4 (r : RS) (ρ : RP) : Prop := ∃ (sc bg bf : Int32) (fs tk ow bh nw od : Nat → Int32), r = .inr (.inr (.inr (.inr (sc, fs, tk, ow, bh, nw, od, bg, bf)))) ∧ ρ.2.2.2 = (bg, bf, tk, ow, bh, nw, od) ∧ px_b2 bh
theorem px_sl4 {m k : Nat} {d : Int32} {u : sg_pairs} (hu : u.1 = nI m) (hk : k < m) (hm : m ≤ 4) : F_saidLine d (.inr (.inr (.inr (.inr u)))) (nI k) = some (u.2.1 k) := by
  show f_Pairs_saidLine d u (nI k) = _
  unfold f_Pairs_saidLine
  rw [if_neg (px_0F k (by omega)), hu, if_neg (px_pF m k hk (by omega)), if_neg (px_pF 4 k (by omega) (by decide)), if_neg (px_iN k 4 (by omega) (by decide)), px_cl k (by omega)]
theorem px_step4 (hD : D ≤ 4) {r : RS} {ρ : RP} (h : RR4 r ρ) (p x : Int32) : px_Step kr (nI D) kl km RR4 (fun t => f_Mod_pairs kr (nI D) kl km t x) r ρ p x := by
  obtain ⟨sc, bg, bf, fs, tk, ow, bh, nw, od, rfl, hρ, hb⟩ := h
  obtain ⟨ρa, ρs, ρo, ρp⟩ := ρ
  have hρ : ρp = (bg, bf, tk, ow, bh, nw, od) := hρ
  subst hρ
  have hh : ∀ u' : sg_pairs, f_Pairs_learn (nI D) ((0 : Int32), fs, tk, ow, bh, nw, od, bg, bf) p x = some u' → F_hear (nI D) (.inr (.inr (.inr (.inr (sc, fs, tk, ow, bh, nw, od, bg, bf))))) p x = some (.inr (.inr (.inr (.inr u')))) := fun u' z => by
    show (f_Pairs_hear (nI D) (sc, fs, tk, ow, bh, nw, od, bg, bf) p x).bind _ = _
    unfold f_Pairs_hear
    dsimp only
    rw [z]; rfl
  by_cases hg : bg = 0
  · obtain ⟨m, fs', f, g1, g2, g3, g4⟩ := px_p16 (kr := kr) (kl := kl) (km := km) (fs := fs) (tk := tk) (ow := ow) (nw := nw) (od := od) (bg := bg) (bf := bf) (x := x) (ρa := ρa) (ρs := ρs) (ρo := ρo) hD p hb
    refine ⟨.inr (.inr (.inr (.inr (nI m, fs', tk, ow, bh, nw, od, (1 : Int32), x)))), m, f, (ρa, ρs, ρo, ((1 : Int32), x, tk, ow, bh, nw, od)), (ρa, ρs, ρo, ((1 : Int32), x, tk, ow, bh, nw, od)), false, hh _ ?_, rfl, g1, fun k hk => ?_, fun b s w t' e1 e2 => ?_, ⟨_, _, _, _, _, _, _, _, _, rfl, rfl, hb⟩, fun v hv => hv⟩
    · unfold f_Pairs_learn
      dsimp only
      rw [if_pos hg]
      exact g2
    · rw [px_sl4 rfl hk g1]
      exact congrArg some (g3 k hk)
    · refine px_fin ?_ e2
      show f_Mod_pairs kr (nI D) kl km (b, s, w, ρa, ρs, ρo, (bg, bf, tk, ow, bh, nw, od)) x = _
      unfold f_Mod_pairs
      dsimp only
      rw [if_pos hg]
      exact g4 b s w _ t' e1
  · obtain ⟨tk', ow', bh', nw', od', f1, f2, f3⟩ := px_pfol (kr := kr) (kd := nI D) (kl := kl) (km := km) (d := nI D) (sc := (0 : Int32)) (fs := fs) (tk := tk) (ow := ow) (nw := nw) (od := od) (bf := bf) (x := x) (ρa := ρa) (ρs := ρs) (ρo := ρo) hb hg
    obtain ⟨m, fs', f, g1, g2, g3, g4⟩ := px_p16 (kr := kr) (kl := kl) (km := km) (fs := fs) (tk := tk') (ow := ow') (nw := nw') (od := od') (bg := bg) (bf := bf) (x := x) (ρa := ρa) (ρs := ρs) (ρo := ρo) hD p f1
    refine ⟨.inr (.inr (.inr (.inr (nI m, fs', tk', ow', bh', nw', od', (1 : Int32), x)))), m, f, (ρa, ρs, ρo, ((1 : Int32), x, tk', ow', bh', nw', od')), (ρa, ρs, ρo, ((1 : Int32), x, tk', ow', bh', nw', od')), false, hh _ ?_, rfl, g1, fun k hk => ?_, fun b s w t' e1 e2 => ?_, ⟨_, _, _, _, _, _, _, _, _, rfl, rfl, f1⟩, fun v hv => hv⟩
    · unfold f_Pairs_learn
      dsimp only
      rw [if_neg hg, f2, Option.bind_some]
      exact g2
    · rw [px_sl4 rfl hk g1]
      exact congrArg some (g3 k hk)
    · refine px_fin ?_ e2
      show f_Mod_pairs kr (nI D) kl km (b, s, w, ρa, ρs, ρo, (bg, bf, tk, ow, bh, nw, od)) x = _
      rw [f3]
      exact g4 b s w _ t' e1
end PXPA
