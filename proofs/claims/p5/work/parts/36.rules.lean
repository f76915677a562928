/-! The rules, one by one: what the class hears and says, what the reference does -/
abbrev RP : Type := ((Nat → Int32) × (Nat → Int32) × (Nat → Int32) × (Nat → Int32) × (Nat → Int32)) × (Int32 × (Nat → Int32) × (Nat → Int32)) × (Int32 × Int32 × Int32 × (Nat → Int32) × (Nat → Int32) × (Nat → Int32)) × (Int32 × Int32 × (Nat → Int32) × (Nat → Int32) × (Nat → Int32) × (Nat → Int32) × (Nat → Int32))
/-- a round of rule 3 has ended, or not -/
def px_be (e : Bool) (b : Int32 × Int32 × (Nat → Int32)) : Int32 × Int32 × (Nat → Int32) := match e with
  | false => b
  | true => (b.1, b.2.1, upd b.2.2 13 (b.2.2 13 + (1 : Int32)))
def px_ae (e : Bool) (v : Int32) : Int32 := match e with
  | false => v
  | true => v + (1 : Int32)
/-- the rule r and the reference's part ρ go on alike: the same lines are said, the relation RR holds again -/
def px_Step (kr kd kl km : Int32) (RR : RS → RP → Prop) (mf : sg_model → Option sg_model) (r : RS) (ρ : RP) (p x : Int32) : Prop :=
  ∃ (r' : RS) (m : Nat) (f : Nat → Int32) (ρ1 ρ2 : RP) (e : Bool), F_hear kd r p x = some r' ∧ F_saidCount kd r' = some (nI m) ∧ m ≤ 4 ∧ (∀ k, k < m → F_saidLine kd r' (nI k) = some (f k)) ∧
    (∀ (b : Int32 × Int32 × (Nat → Int32)) (s : sg_store) (w : sg_queue) (t' : sg_model), px_ms kr kd kl km (px_tl f 0 m) (px_be e b, s, w, ρ1) = some t' → t'.2.2.2 = ρ1 → mf (b, s, w, ρ) = some (t'.1, t'.2.1, t'.2.2.1, ρ2)) ∧ RR r' ρ2 ∧ ∀ v, F_roundCount kd r = some v → F_roundCount kd r' = some (px_ae e v)
theorem px_fin {o : Option sg_model} {t' : sg_model} {ρ1 : RP} (h1 : o = some t') (h2 : t'.2.2.2 = ρ1) : o = some (t'.1, t'.2.1, t'.2.2.1, ρ1) := by rw [h1, ← h2]
theorem px_bs {α : Type} (o : Option α) : o.bind (fun x => some x) = o := by cases o <;> rfl
section PXRU
variable {kr kl km : Int32} {D : Nat}
/-- rule 0 -/
def RR0 (r : RS) (_ : RP) : Prop := ∃ u : sg_next, r = .inl u
theorem px_step0 (hD : D ≤ 4) {r : RS} {ρ : RP} (h : RR0 r ρ) (p x : Int32) : px_Step kr (nI D) kl km RR0 (fun t => f_Mod_sayRow kr (nI D) kl km t x (1 : Int32)) r ρ p x := by
  obtain ⟨u, rfl⟩ := h
  obtain ⟨g, g1, g2⟩ := px_inSteps hD (x := x) (y := (1 : Int32)) (f := u.2)
  refine ⟨.inl (nI D, g), D, px_row x 1, ρ, ρ, false, ?_, rfl, hD, ?_, ?_, ⟨_, rfl⟩, fun v h => h⟩
  · show (f_Next_hear (nI D) u p x).bind _ = _
    unfold f_Next_hear f_Next_learn
    rw [g1]; rfl
  · intro k hk
    show f_Next_saidLine (nI D) (nI D, g) (nI k) = _
    unfold f_Next_saidLine
    rw [if_neg (px_0F k (by omega)), if_neg (px_pF D k hk (by omega)), if_neg (px_pF 4 k (by omega) (by decide)), if_neg (px_iN k 4 (by omega) (by decide)), px_cl k (by omega), ← g2 k hk]
  · intro b s w t' e1 e2
    show f_Mod_sayRow kr (nI D) kl km (b, s, w, ρ) x (1 : Int32) = _
    rw [px_sayRow hD]
    exact px_fin e1 e2
/-- rule 1: the same tables; trust is 0 to 3 -/
def RR1 (r : RS) (ρ : RP) : Prop := ∃ u : sg_strides, r = .inr (.inl u) ∧ ρ.1 = u.2.2 ∧ ∀ j, u.2.2.2.2.2.2 j = 0 ∨ u.2.2.2.2.2.2 j = 1 ∨ u.2.2.2.2.2.2 j = 2 ∨ u.2.2.2.2.2.2 j = 3
def px_t3 (f : Nat → Int32) : Prop := ∀ j, f j = 0 ∨ f j = 1 ∨ f j = 2 ∨ f j = 3
theorem px_t3_upd {f : Nat → Int32} {i : Nat} {v : Int32} (h : px_t3 f) (hv : v = 0 ∨ v = 1 ∨ v = 2 ∨ v = 3) : px_t3 (upd f i v) := fun j => by
  by_cases e : j = i
  · rw [e, pk_us]; exact hv
  · rw [pk_un e]; exact h j
def px_ct (d x q1 : Int32) (q32 : sg_strides) : Option sg_strides := (if (q1 < 0 ∨ 16 ≤ q1.toNatClampNeg) then none else (if (q1 < 0 ∨ 16 ≤ q1.toNatClampNeg) then none else (if (q32.2.2.2.2.2.2 q1.toNatClampNeg) < (2 : Int32) then some (q32.1, q32.2.1, q32.2.2.1, q32.2.2.2.1, upd q32.2.2.2.2.1 q1.toNatClampNeg x, q32.2.2.2.2.2) else (if (q1 < 0 ∨ 16 ≤ q1.toNatClampNeg) then none else (if (q32.2.2.2.2.2.1 q1.toNatClampNeg) = 0 then some (q32.1, q32.2.1, q32.2.2.1, q32.2.2.2.1, upd q32.2.2.2.2.1 q1.toNatClampNeg x, q32.2.2.2.2.2) else (if (q1 < 0 ∨ 16 ≤ q1.toNatClampNeg) then none else (f_Rule_sayInSteps d (q32.1, q32.2.1) x (q32.2.2.2.2.2.1 q1.toNatClampNeg)).bind (fun q69 => some (q69.1, q69.2, q32.2.2.1, q32.2.2.2.1, upd q32.2.2.2.2.1 q1.toNatClampNeg x, q32.2.2.2.2.2))))))))
theorem px_learn1 (d : Int32) (u : sg_strides) (p x : Int32) : f_Strides_learn d u p x = (f_Strides_rowOf p).bind (fun q1 => (f_Strides_isOwn d u q1 p).bind (fun q8 => (if q8 = 0 then (f_Strides_begin d u q1 p x).bind (fun q18 => some q18) else (if (q1 < 0 ∨ 16 ≤ q1.toNatClampNeg) then none else (f_Strides_compare d u q1 (x - (u.2.2.2.2.1 q1.toNatClampNeg))).bind (px_ct d x q1))))) := rfl
theorem px_sl1 {m k : Nat} {d : Int32} {u : sg_strides} (hu : u.1 = nI m) (hk : k < m) (hm : m ≤ 4) : F_saidLine d (.inr (.inl u)) (nI k) = some (u.2.1 k) := by
  show f_Strides_saidLine d u (nI k) = _
  unfold f_Strides_saidLine
  rw [if_neg (px_0F k (by omega)), hu, if_neg (px_pF m k hk (by omega)), if_neg (px_pF 4 k (by omega) (by decide)), if_neg (px_iN k 4 (by omega) (by decide)), px_cl k (by omega)]
/-- behind the comparison -/
theorem px_tail1 (hD : D ≤ 4) (p x : Int32) {i : Int32} (hi : ¬ (i < 0 ∨ 16 ≤ i.toNatClampNeg)) {y4 : Int32} {fs tk pl li st tr : Nat → Int32} {ρ2 : (Int32 × (Nat → Int32) × (Nat → Int32)) × (Int32 × Int32 × Int32 × (Nat → Int32) × (Nat → Int32) × (Nat → Int32)) × (Int32 × Int32 × (Nat → Int32) × (Nat → Int32) × (Nat → Int32) × (Nat → Int32) × (Nat → Int32))} (ht : px_t3 tr) :
    ∃ (u' : sg_strides) (m : Nat) (f : Nat → Int32), px_ct (nI D) x i ((0 : Int32), fs, tk, pl, li, st, tr) = some u' ∧ u'.1 = nI m ∧ m ≤ 4 ∧ (∀ k, k < m → u'.2.1 k = f k) ∧ u'.2.2 = (tk, pl, upd li i.toNatClampNeg x, st, tr) ∧
      ∀ (b : Int32 × Int32 × (Nat → Int32)) (s : sg_store) (w : sg_queue), jn_Mod_strides_142 kr (nI D) kl km p x i y4 (b, s, w, (tk, pl, li, st, tr), ρ2) = px_ms kr (nI D) kl km (px_tl f 0 m) (b, s, w, (tk, pl, upd li i.toNatClampNeg x, st, tr), ρ2) := by
  unfold px_ct jn_Mod_strides_142
  dsimp only
  rw [if_neg hi, if_neg hi]
  by_cases h1 : tr i.toNatClampNeg < (2 : Int32)
  · rw [if_pos h1]
    exact ⟨_, 0, fs, rfl, rfl, by omega, fun k hk => by omega, rfl, fun b s w => by rw [if_neg hi, if_neg hi, if_pos h1]; rfl⟩
  · rw [if_neg h1, if_neg hi]
    by_cases h2 : st i.toNatClampNeg = 0
    · rw [if_pos h2]
      exact ⟨_, 0, fs, rfl, rfl, by omega, fun k hk => by omega, rfl, fun b s w => by rw [if_neg hi, if_neg hi, if_neg h1, if_neg hi, if_pos h2]; rfl⟩
    · rw [if_neg h2, if_neg hi]
      obtain ⟨g, g1, g2⟩ := px_inSteps hD (x := x) (y := st i.toNatClampNeg) (f := fs)
      rw [g1, Option.bind_some]
      exact ⟨_, D, px_row x (st i.toNatClampNeg), rfl, rfl, hD, fun k hk => g2 k hk, rfl, fun b s w => by rw [if_neg hi, if_neg hi, if_neg h1, if_neg hi, if_neg h2, if_neg hi, px_sayRow hD]; exact px_bs _⟩
theorem px_step1 (hD : D ≤ 4) {r : RS} {ρ : RP} (h : RR1 r ρ) (p x : Int32) : px_Step kr (nI D) kl km RR1 (fun t => f_Mod_strides kr (nI D) kl km t p x) r ρ p x := by
  obtain ⟨⟨sc, fs, tk, pl, li, st, tr⟩, rfl, h1, ht⟩ := h
  obtain ⟨ρ1, ρ2⟩ := ρ
  have h1 : ρ1 = (tk, pl, li, st, tr) := h1
  subst h1
  have ht : px_t3 tr := ht
  have hi : ¬ ((p &&& (15 : Int32)) < 0 ∨ 16 ≤ (p &&& (15 : Int32)).toNatClampNeg) := pk_andIn p 4 (by decide) (by decide)
  have hh : ∀ u' : sg_strides, f_Strides_learn (nI D) ((0 : Int32), fs, tk, pl, li, st, tr) p x = some u' → F_hear (nI D) (.inr (.inl (sc, fs, tk, pl, li, st, tr))) p x = some (.inr (.inl u')) := fun u' e => by
    show (f_Strides_hear (nI D) (sc, fs, tk, pl, li, st, tr) p x).bind _ = _
    unfold f_Strides_hear
    dsimp only
    rw [e]; rfl
  generalize hI : p &&& (15 : Int32) = i at hi
  have hrow : f_Strides_rowOf p = some i := by unfold f_Strides_rowOf; rw [hI]
  by_cases own : ¬ tk i.toNatClampNeg = 0 ∧ pl i.toNatClampNeg = p
  · obtain ⟨o1, o2⟩ := own
    have hown : f_Strides_isOwn (nI D) ((0 : Int32), fs, tk, pl, li, st, tr) i p = some 1 := by
      unfold f_Strides_isOwn
      dsimp only
      rw [if_neg hi, if_neg o1, if_neg hi, if_pos o2]
    -- the tables behind the comparison
    have key : ∃ st' tr', px_t3 tr' ∧ f_Strides_compare (nI D) ((0 : Int32), fs, tk, pl, li, st, tr) i (x - li i.toNatClampNeg) = some ((0 : Int32), fs, tk, pl, li, st', tr') ∧ ∀ (b : Int32 × Int32 × (Nat → Int32)) (s : sg_store) (w : sg_queue), f_Mod_strides kr (nI D) kl km (b, s, w, (tk, pl, li, st, tr), ρ2) p x = jn_Mod_strides_142 kr (nI D) kl km p x i (x - li i.toNatClampNeg) (b, s, w, (tk, pl, li, st', tr'), ρ2) := by
      unfold f_Strides_compare f_Mod_strides
      dsimp only
      rw [hI, if_neg hi]
      by_cases c1 : x - li i.toNatClampNeg = st i.toNatClampNeg
      · rw [if_pos c1, if_neg hi, if_neg hi]
        have e3 : (if (tr i.toNatClampNeg + (1 : Int32)) < (3 : Int32) then (tr i.toNatClampNeg + (1 : Int32)) else (3 : Int32)) = (if (3 : Int32) ≤ tr i.toNatClampNeg then (3 : Int32) else tr i.toNatClampNeg + (1 : Int32)) ∧ ((if (3 : Int32) ≤ tr i.toNatClampNeg then (3 : Int32) else tr i.toNatClampNeg + (1 : Int32)) = 0 ∨ (if (3 : Int32) ≤ tr i.toNatClampNeg then (3 : Int32) else tr i.toNatClampNeg + (1 : Int32)) = 1 ∨ (if (3 : Int32) ≤ tr i.toNatClampNeg then (3 : Int32) else tr i.toNatClampNeg + (1 : Int32)) = 2 ∨ (if (3 : Int32) ≤ tr i.toNatClampNeg then (3 : Int32) else tr i.toNatClampNeg + (1 : Int32)) = 3) := by
          rcases ht i.toNatClampNeg with z | z | z | z <;> rw [z] <;> decide
        refine ⟨st, upd tr i.toNatClampNeg (if (3 : Int32) ≤ tr i.toNatClampNeg then (3 : Int32) else tr i.toNatClampNeg + (1 : Int32)), px_t3_upd ht e3.2, by rw [e3.1], fun b s w => ?_⟩
        rw [if_neg hi, if_neg o1, if_neg hi, if_pos o2, if_neg hi, if_neg hi, if_pos c1, if_neg hi]
        by_cases c2 : (3 : Int32) ≤ tr i.toNatClampNeg
        · rw [if_pos c2, if_neg hi, if_pos c2]; rfl
        · rw [if_neg c2, if_neg hi, if_neg hi, if_neg c2]; rfl
      · rw [if_neg c1, if_neg hi]
        by_cases c2 : tr i.toNatClampNeg ≤ 0
        · rw [if_pos c2, if_neg hi]
          exact ⟨_, _, ht, rfl, fun b s w => by rw [if_neg hi, if_neg o1, if_neg hi, if_pos o2, if_neg hi, if_neg hi, if_neg c1, if_neg hi, if_pos c2, if_neg hi]⟩
        · rw [if_neg c2, if_neg hi, if_neg hi]
          refine ⟨_, _, px_t3_upd ht ?_, rfl, fun b s w => by rw [if_neg hi, if_neg o1, if_neg hi, if_pos o2, if_neg hi, if_neg hi, if_neg c1, if_neg hi, if_neg c2, if_neg hi, if_neg hi]⟩
          rcases ht i.toNatClampNeg with z | z | z | z
          · exact absurd (by rw [z]; decide) c2
          · rw [z]; decide
          · rw [z]; decide
          · rw [z]; decide
    obtain ⟨st', tr', k1, k2, k3⟩ := key
    obtain ⟨u', m, f, t1, t2, t3, t4, t5, t6⟩ := px_tail1 (kr := kr) (kl := kl) (km := km) hD p x hi (y4 := x - li i.toNatClampNeg) (fs := fs) (tk := tk) (pl := pl) (li := li) (st := st') (tr := tr') (ρ2 := ρ2) k1
    refine ⟨.inr (.inl u'), m, f, ((tk, pl, upd li i.toNatClampNeg x, st', tr'), ρ2), ((tk, pl, upd li i.toNatClampNeg x, st', tr'), ρ2), false, hh u' ?_, ?_, t3, fun k hk => ?_, fun b s w t' e1 e2 => ?_, ⟨u', rfl, t5.symm, ?_⟩, fun v h => h⟩
    · rw [px_learn1, hrow, Option.bind_some, hown, Option.bind_some, if_neg (by decide), if_neg hi]
      dsimp only
      rw [k2, Option.bind_some]
      exact t1
    · show some u'.1 = _
      rw [t2]
    · rw [px_sl1 t2 hk t3, t4 k hk]
    · show f_Mod_strides kr (nI D) kl km (b, s, w, (tk, pl, li, st, tr), ρ2) p x = _
      rw [k3, t6]
      exact px_fin e1 e2
    · rw [t5]; exact k1
  · have hown : f_Strides_isOwn (nI D) ((0 : Int32), fs, tk, pl, li, st, tr) i p = some 0 := by
      unfold f_Strides_isOwn
      dsimp only
      rw [if_neg hi]
      by_cases o1 : tk i.toNatClampNeg = 0
      · rw [if_pos o1]
      · rw [if_neg o1, if_neg hi, if_neg (fun o2 => own ⟨o1, o2⟩)]
    refine ⟨.inr (.inl ((0 : Int32), fs, upd tk i.toNatClampNeg (vp_nar .boolean (1 : Int32)), upd pl i.toNatClampNeg p, upd li i.toNatClampNeg x, upd st i.toNatClampNeg (0 : Int32), upd tr i.toNatClampNeg (0 : Int32))), 0, fs, ((upd tk i.toNatClampNeg (vp_nar .boolean (1 : Int32)), upd pl i.toNatClampNeg p, upd li i.toNatClampNeg x, upd st i.toNatClampNeg (0 : Int32), upd tr i.toNatClampNeg (0 : Int32)), ρ2), ((upd tk i.toNatClampNeg (vp_nar .boolean (1 : Int32)), upd pl i.toNatClampNeg p, upd li i.toNatClampNeg x, upd st i.toNatClampNeg (0 : Int32), upd tr i.toNatClampNeg (0 : Int32)), ρ2), false, hh _ ?_, rfl, by omega, fun k hk => by omega, fun b s w t' e1 e2 => ?_, ⟨_, rfl, rfl, px_t3_upd ht (Or.inl rfl)⟩, fun v h => h⟩
    · rw [px_learn1, hrow, Option.bind_some, hown, Option.bind_some, if_pos rfl]
      unfold f_Strides_begin
      rw [if_neg hi, if_neg hi, if_neg hi, if_neg hi, if_neg hi]
      rfl
    · refine px_fin (Eq.trans ?_ e1) e2
      show f_Mod_strides kr (nI D) kl km (b, s, w, (tk, pl, li, st, tr), ρ2) p x = _
      unfold f_Mod_strides
      dsimp only
      rw [hI, if_neg hi]
      by_cases o1 : tk i.toNatClampNeg = 0
      · rw [if_pos o1, if_neg hi, if_neg hi, if_neg hi, if_neg hi, if_neg hi]; rfl
      · rw [if_neg o1, if_neg hi, if_neg (fun o2 => own ⟨o1, o2⟩), if_neg hi, if_neg hi, if_neg hi, if_neg hi, if_neg hi]; rfl
end PXRU
