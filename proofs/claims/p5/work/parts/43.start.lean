/-! The start: how the four numbers are read, and class and reference stand alike when both are new -/
theorem px_bm {x : Int} (h1 : -2147483648 ≤ x) (h2 : x < 2147483648) : x.bmod (2 ^ 32) = x := by
  rw [Int.bmod_def]; omega
theorem px_rng (p : Int32) : -2147483648 ≤ p.toInt ∧ p.toInt < 2147483648 := ⟨by have := Int32.minValue_le_toInt p; simpa using this, by have := Int32.toInt_lt p; simpa using this⟩
theorem px_tdiv {a : Int} {d : Nat} (hd : 1 ≤ d) : (0 ≤ a → 0 ≤ a.tdiv d ∧ a.tdiv d * d ≤ a ∧ a < a.tdiv d * d + d) ∧ (a < 0 → a.tdiv d ≤ 0 ∧ a ≤ a.tdiv d * d ∧ a.tdiv d * d < a + d) := by
  have e := Int.tmod_add_mul_tdiv a d
  have e2 : (d : Int) * a.tdiv d = a.tdiv d * d := Int.mul_comm _ _
  rw [e2] at e
  refine ⟨fun h => ?_, fun h => ?_⟩
  · have h1 := Int.tmod_nonneg d h
    have h2 := Int.tmod_lt_of_pos a (show (0 : Int) < d by omega)
    exact ⟨Int.tdiv_nonneg h (by omega), by omega, by omega⟩
  · have e3 : a.tdiv d = -((-a).tdiv d) := by rw [Int.neg_tdiv]; omega
    have h1 := Int.tmod_nonneg d (show 0 ≤ -a by omega)
    have h2 := Int.tmod_lt_of_pos (-a) (show (0 : Int) < d by omega)
    have h3 : 0 ≤ (-a).tdiv d := Int.tdiv_nonneg (by omega) (by omega)
    rw [Int.neg_tmod] at h1 h2
    exact ⟨by omega, by omega, by omega⟩
theorem px_irem (p : Int32) {d : Nat} (h1 : 2 ≤ d) (h2 : d ≤ 64) : (p - p / nI d * nI d).toInt = p.toInt - p.toInt.tdiv d * d := by
  obtain ⟨b1, b2⟩ := px_rng p
  have hd : (nI d).toInt = (d : Int) := nI_toInt (by omega)
  obtain ⟨t1, t2⟩ := px_tdiv (a := p.toInt) (d := d) (by omega)
  have hq : -2147483648 ≤ p.toInt.tdiv d * d ∧ p.toInt.tdiv d * d < 2147483648 := by
    rcases Int.lt_or_le p.toInt 0 with h | h
    · have := t2 h; omega
    · have := t1 h; 
      have : 0 ≤ p.toInt.tdiv d * d := Int.mul_nonneg this.1 (by omega)
      omega
  have hq1 : -2147483648 ≤ p.toInt.tdiv d ∧ p.toInt.tdiv d < 2147483648 := by
    rcases Int.lt_or_le p.toInt 0 with h | h
    · obtain ⟨c1, c2, c3⟩ := t2 h
      have : p.toInt.tdiv d * d ≤ p.toInt.tdiv d * 1 := Int.mul_le_mul_of_nonpos_left c1 (by omega)
      omega
    · obtain ⟨c1, c2, c3⟩ := t1 h
      have : p.toInt.tdiv d * 1 ≤ p.toInt.tdiv d * d := Int.mul_le_mul_of_nonneg_left (by omega) c1
      omega
  rw [Int32.toInt_sub, Int32.toInt_mul, Int32.toInt_div, hd, px_bm hq1.1 hq1.2, px_bm hq.1 hq.2]
  refine px_bm ?_ ?_
  · rcases Int.lt_or_le p.toInt 0 with h | h
    · have := t2 h; omega
    · have := t1 h; omega
  · rcases Int.lt_or_le p.toInt 0 with h | h
    · have := t2 h; omega
    · have := t1 h; omega
/-- class and reference: the rest that isn't below 0 -/
theorem px_mod (p : Int32) {d : Nat} (h1 : 2 ≤ d) (h2 : d ≤ 64) : ∃ r : Nat, r < d ∧ f_Math_floorMod p (nI d) = some (nI r) ∧ f_Mod_modulo p (nI d) = some (nI r) := by
  have hd : (nI d).toInt = (d : Int) := nI_toInt (by omega)
  have hd0 : ¬ nI d = 0 := fun h => by rw [h] at hd; simp at hd; omega
  have hdp : 0 ≤ nI d := by rw [Int32.le_iff_toInt_le, hd, Int32.toInt_zero]; omega
  have e := px_irem p h1 h2
  obtain ⟨t1, t2⟩ := px_tdiv (a := p.toInt) (d := d) (by omega)
  generalize hm : p - p / nI d * nI d = m at e
  generalize p.toInt.tdiv d * d = w at e t1 t2
  have hx := px_xs (x := p) hdp
  have hp : 0 ≤ p ↔ 0 ≤ p.toInt := by rw [Int32.le_iff_toInt_le, Int32.toInt_zero]
  have hs : (m + nI d).toInt = m.toInt + d := by
    rw [Int32.toInt_add, hd]
    refine px_bm ?_ ?_
    · rcases Int.lt_or_le p.toInt 0 with h | h
      · have := t2 h; omega
      · have := t1 h; omega
    · rcases Int.lt_or_le p.toInt 0 with h | h
      · have := t2 h; omega
      · have := t1 h; omega
  have e2 := px_irem (m + nI d) h1 h2
  rw [hs] at e2
  have fin : ∀ {z : Int32} {r : Nat}, r < d → z.toInt = (r : Int) → z = nI r := fun hr hz => Int32.toInt_inj.1 (by rw [hz, nI_toInt (by omega)])
  have fm : ∀ r : Nat, r < d → (m.toInt = (r : Int) ∨ m.toInt = (r : Int) - d) → f_Mod_modulo p (nI d) = some (nI r) := by
    intro r hr h
    unfold f_Mod_modulo
    rw [if_neg hd0, if_neg hd0, hm]
    congr 1
    refine fin hr ?_
    rw [e2]
    rcases h with h | h
    · rw [h]
      obtain ⟨c1, -⟩ := px_tdiv (a := (r : Int) + d) (d := d) (by omega)
      obtain ⟨c2, c3, c4⟩ := c1 (by omega)
      have k1 : ((r : Int) + d).tdiv d = 1 := by
        have a1 : 1 ≤ ((r : Int) + d).tdiv d := by
          rcases Int.lt_or_le (((r : Int) + d).tdiv d) 1 with z | z
          · have z0 : ((r : Int) + d).tdiv d = 0 := by omega
            rw [z0] at c4; omega
          · exact z
        have a2 : ((r : Int) + d).tdiv d < 2 := by
          rcases Int.lt_or_le (((r : Int) + d).tdiv d) 2 with z | z
          · exact z
          · have : 2 * (d : Int) ≤ ((r : Int) + d).tdiv d * d := Int.mul_le_mul_of_nonneg_right z (by omega)
            omega
        omega
      rw [k1]; omega
    · rw [h]
      have k0 : ((r : Int) - d + d) = r := by omega
      rw [k0, Int.tdiv_eq_zero_of_lt (by omega) (by omega)]; omega
  unfold f_Math_floorMod
  rw [if_neg hd0, hm]
  rcases Int.lt_or_le p.toInt 0 with h | h
  · obtain ⟨c1, c2, c3⟩ := t2 h
    rw [if_neg (by rw [hx, hp]; omega)]
    by_cases hz : m = 0
    · have hz' : m.toInt = 0 := by rw [hz, Int32.toInt_zero]
      rw [if_pos hz]
      exact ⟨0, by omega, by rw [hz]; rfl, fm 0 (by omega) (Or.inl (by omega))⟩
    · have hz' : m.toInt ≠ 0 := fun q => hz (Int32.toInt_inj.1 (by rw [q, Int32.toInt_zero]))
      rw [if_neg hz]
      refine ⟨(m.toInt + d).toNat, by omega, ?_, fm _ (by omega) (Or.inr (by omega))⟩
      congr 1
      exact fin (by omega) (by rw [hs]; omega)
  · obtain ⟨c1, c2, c3⟩ := t1 h
    rw [if_pos (by rw [hx, hp]; exact h)]
    refine ⟨m.toInt.toNat, by omega, ?_, fm _ (by omega) (Or.inl (by omega))⟩
    congr 1
    exact fin (by omega) (by omega)
theorem px_one {p : Int32} {d : Nat} (h1 : 2 ≤ d) (h2 : d ≤ 64) : ∃ r : Nat, 1 ≤ r ∧ r ≤ d ∧ f_Main_oneTo (nI d) p = some (nI r) ∧ ∃ q : Int32, f_Mod_modulo (p - (1 : Int32)) (nI d) = some q ∧ (1 : Int32) + q = nI r := by
  obtain ⟨r, hr, e1, e2⟩ := px_mod (p - (1 : Int32)) h1 h2
  have e3 : (1 : Int32) + nI r = nI (r + 1) := by rw [Int32.add_comm]; exact (nI_succ r).symm
  refine ⟨r + 1, by omega, by omega, ?_, nI r, e2, e3⟩
  unfold f_Main_oneTo
  rw [e1, Option.bind_some, e3]
def px_z : Nat → Int32 := fun _ => 0
def px_cd : Nat → Int32 := (upd (upd (upd (upd (upd (upd (upd (upd (upd (upd (upd (upd (fun _ => 0) (0 : Int32).toNatClampNeg (1 : Int32)) (1 : Int32).toNatClampNeg (2 : Int32)) (2 : Int32).toNatClampNeg (3 : Int32)) (3 : Int32).toNatClampNeg (4 : Int32)) (4 : Int32).toNatClampNeg (5 : Int32)) (5 : Int32).toNatClampNeg (6 : Int32)) (6 : Int32).toNatClampNeg (8 : Int32)) (7 : Int32).toNatClampNeg (9 : Int32)) (8 : Int32).toNatClampNeg (10 : Int32)) (9 : Int32).toNatClampNeg (12 : Int32)) (10 : Int32).toNatClampNeg (15 : Int32)) (11 : Int32).toNatClampNeg (16 : Int32))
theorem px_cd_ok : ∀ j, j < 12 → px_cd j = kx_cand j := by decide +kernel
/-- the class's first state, the reference's -/
def px_U0 (k : Int32) : sg_mainp := ((0, 0, 0, 0, 0, 0, 0, 0, 0, 0), (0, fun _ => 0, fun _ => 0), (0, fun _ => 0, fun _ => 0), rs_init k)
def px_t0 : sg_model := ((0, 0, fun _ => 0), (0, fun _ => 0, fun _ => 0), (0, fun _ => 0, fun _ => 0), (fun _ => 0, fun _ => 0, fun _ => 0, fun _ => 0, fun _ => 0), (0, fun _ => 0, fun _ => 0), (1, 0, 0, fun _ => 0, px_cd, fun _ => 0), (0, 0, fun _ => 0, fun _ => 0, fun _ => 0, fun _ => 0, fun _ => 0))
theorem AI.start {N L D k : Nat} (hN : 1 ≤ N ∧ N ≤ 64) (hk : k < 5) : AI N L D (nI k) 0 (px_U0 (nI k)) px_t0 := by
  refine ⟨0, 0, 0, ⟨hN, ⟨by omega, rfl, rfl, ⟨rfl, rfl⟩, rfl, rfl, rfl, rfl, rfl, rfl, rfl, rfl⟩, ⟨Nat.zero_le _, rfl, rfl, fun j h => absurd h (Nat.not_lt_zero j), fun j h => absurd h (Nat.not_lt_zero j), fun j => Or.inl rfl, fun j => Or.inl rfl, fun i j h => absurd h (Nat.not_lt_zero i)⟩, ⟨Nat.zero_le _, rfl, rfl, fun j h => absurd h (Nat.not_lt_zero j), fun j h => absurd h (Nat.not_lt_zero j), fun i j h => absurd h (Nat.not_lt_zero i), fun _ => 0, fun j h => absurd h (Nat.not_lt_zero j), fun i j _ h => absurd h (Nat.not_lt_zero j)⟩, fun j h => absurd h (Nat.not_lt_zero j)⟩, ?_, ?_⟩
  · show px_RR (nI k) 0 (rs_init (nI k)) px_t0.2.2.2
    rcases (show k = 0 ∨ k = 1 ∨ k = 2 ∨ k = 3 ∨ k = 4 by omega) with rfl | rfl | rfl | rfl | rfl
    · exact Or.inl ⟨rfl, _, rfl⟩
    · exact Or.inr (Or.inl ⟨rfl, _, rfl, rfl, fun j => Or.inl rfl⟩)
    · exact Or.inr (Or.inr (Or.inl ⟨rfl, _, 0, rfl, by omega, rfl, rfl⟩))
    · exact Or.inr (Or.inr (Or.inr (Or.inl ⟨rfl, 0, 1, 0, fun _ => 0, fun _ => 0, fun _ => 0, fun _ => 0, px_cd, 0, 0, rfl, rfl, by omega, px_cd_ok, fun j _ => ⟨0, by omega, rfl⟩, ⟨by decide, by decide, fun _ => rfl, fun j h => absurd h (Nat.not_lt_zero j)⟩, Nat.le_refl 0⟩)))
    · exact Or.inr (Or.inr (Or.inr (Or.inr ⟨rfl, 0, 0, 0, fun _ => 0, fun _ => 0, fun _ => 0, fun _ => 0, fun _ => 0, fun _ => 0, rfl, rfl, fun j => Or.inl rfl⟩)))
  · show F_roundCount (nI D) (rs_init (nI k)) = some 0
    rcases (show k = 0 ∨ k = 1 ∨ k = 2 ∨ k = 3 ∨ k = 4 by omega) with rfl | rfl | rfl | rfl | rfl <;> rfl
