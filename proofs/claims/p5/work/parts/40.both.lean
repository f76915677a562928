/-! access as a whole: class and reference answer the same, and stand alike again -/
def px_RR (kr : Int32) (c : Nat) (r : RS) (ρ : RP) : Prop := (kr = 0 ∧ RR0 r ρ) ∨ (kr = 1 ∧ RR1 r ρ) ∨ (kr = 2 ∧ RR2 r ρ) ∨ (kr = 3 ∧ RR3 c r ρ) ∨ (kr = 4 ∧ RR4 r ρ)
theorem px_RR.mono {kr : Int32} {c c' : Nat} {r : RS} {ρ : RP} (h : px_RR kr c r ρ) (hc : c ≤ c') : px_RR kr c' r ρ := by
  rcases h with h | h | h | ⟨h0, h⟩ | h
  · exact Or.inl h
  · exact Or.inr (Or.inl h)
  · exact Or.inr (Or.inr (Or.inl h))
  · exact Or.inr (Or.inr (Or.inr (Or.inl ⟨h0, h.mono hc⟩)))
  · exact Or.inr (Or.inr (Or.inr (Or.inr h)))
/-- N places, latency L, degree D, rule kr; c cycles so far -/
def AI (N L D : Nat) (kr : Int32) (c : Nat) (U : sg_mainp) (t : sg_model) : Prop := ∃ (a : Int32) (n q : Nat), BR N L a a c n q (U.1, U.2.1, U.2.2.1) t ∧ px_RR kr c U.2.2.2 t.2.2.2 ∧ F_roundCount (nI D) U.2.2.2 = some (t.1.2.2 13)
section PXB
variable {kr kl km : Int32} {N L D c : Nat} {U : sg_mainp} {t : sg_model}
theorem px_disp (hD : D ≤ 4) (hc : c + 1 ≤ 100000) {r : RS} {ρ : RP} (h : px_RR kr c r ρ) (p x : Int32) : ∃ (RR : RS → RP → Prop) (mf : sg_model → Option sg_model), (∀ r' ρ', RR r' ρ' → px_RR kr (c + 1) r' ρ') ∧ (∀ (how y z : Int32) (t : sg_model), jn_Mod_access_138 kr (nI D) kl km p x how y z t = (mf t).bind (fun v => some (how, v))) ∧ px_Step kr (nI D) kl km RR mf r ρ p x := by
  rcases h with ⟨rfl, h⟩ | ⟨rfl, h⟩ | ⟨rfl, h⟩ | ⟨rfl, h⟩ | ⟨rfl, h⟩
  · refine ⟨RR0, _, fun r' ρ' h => Or.inl ⟨rfl, h⟩, fun how y z t => ?_, px_step0 hD h p x⟩
    unfold jn_Mod_access_138
    rw [if_pos rfl]
  · refine ⟨RR1, _, fun r' ρ' h => Or.inr (Or.inl ⟨rfl, h⟩), fun how y z t => ?_, px_step1 hD h p x⟩
    unfold jn_Mod_access_138
    rw [if_neg (by decide), if_pos rfl]
  · refine ⟨RR2, _, fun r' ρ' h => Or.inr (Or.inr (Or.inl ⟨rfl, h⟩)), fun how y z t => ?_, px_step2 hD h p x⟩
    unfold jn_Mod_access_138
    rw [if_neg (by decide), if_neg (by decide), if_pos rfl]
  · refine ⟨RR3 (c + 1), _, fun r' ρ' h => Or.inr (Or.inr (Or.inr (Or.inl ⟨rfl, h⟩))), fun how y z t => ?_, px_step3 hD hc h p x⟩
    unfold jn_Mod_access_138
    rw [if_neg (by decide), if_neg (by decide), if_neg (by decide), if_pos rfl]
  · refine ⟨RR4, _, fun r' ρ' h => Or.inr (Or.inr (Or.inr (Or.inr ⟨rfl, h⟩))), fun how y z t => ?_, px_step4 hD h p x⟩
    unfold jn_Mod_access_138
    rw [if_neg (by decide), if_neg (by decide), if_neg (by decide), if_neg (by decide)]
theorem BR.be {a e : Int32} {n q : Nat} {u : sg_main} (B : BR N L a e c n q u t) (f : Bool) (ρ : RP) : BR N L a e c n q u (px_be f t.1, t.2.1, t.2.2.1, ρ) := by
  cases f
  · exact B
  · exact B
theorem AI.access (hL : L ≤ 32) (hD : D ≤ 4) (A : AI N L D kr c U t) (hc : c + 1 ≤ 100000) (p x : Int32) : ∃ (how : Int32) (U' : sg_mainp) (t' : sg_model), f_Main_access (nI L) N (nI D) U p x = some (how, U') ∧ f_Mod_access kr (nI D) (nI L) (nI N) t p x = some (how, t') ∧ AI N L D kr (c + 1) U' t' ∧ t'.1.1 = 0 := by
  obtain ⟨a, n, q, B, R, C⟩ := A
  have B1 : BR N L (a + (1 : Int32)) a c n q (px_k0 U.1, U.2.1, U.2.2.1) (((0 : Int32), t.1.2), t.2) := BR.c0u B
  obtain ⟨r, n1, q1, u1, t1, e1, e2, B2, K1⟩ := BR.tick (lat := nI L) (kr := kr) (kd := nI D) (kl := nI L) hL B1 hc
  have B3 := BR.c0m B2
  obtain ⟨how, y, z, n2, q2, u2, t2, e3, e4, B4, K2⟩ := BR.ask (lat := nI L) (kr := kr) (kd := nI D) (kl := nI L) hL B3 p x
  have hρ : t2.2.2.2 = t.2.2.2 := K2.2.1.trans K1.2.1
  obtain ⟨RR, mf, d1, d2, r', m, f, ρ1, ρ2, e, s1, s2, s3, s4, s5, s6, s7⟩ := px_disp (kl := nI L) (km := nI N) hD hc R p x
  obtain ⟨q3, u3, t3, e5, e6, B6, K3⟩ := BR.says (kr := kr) (kd := nI D) hL (px_tl f 0 m) (BR.be B4 e ρ1)
  have hmf := s5 t2.1 t2.2.1 t2.2.2.1 t3 e6 K3.2.1
  have h13 : t3.1.2.2 13 = px_ae e (t.1.2.2 13) := by
    have k2 : t2.1.2.2 13 = t.1.2.2 13 := K2.2.2.trans K1.2.2
    rw [K3.2.2, ← k2]
    cases e <;> rfl
  have h11 : t3.1.1 = 0 := by
    have k2 : t2.1.1 = 0 := K2.1.trans K1.1
    rw [K3.1, ← k2]
    cases e <;> rfl
  refine ⟨how, (u3.1, u3.2.1, u3.2.2, r'), (t3.1, t3.2.1, t3.2.2.1, ρ2), ?_, ?_, ⟨a + (1 : Int32), n2, q3, B6, d1 _ _ s6, ?_⟩, h11⟩
  · unfold f_Main_access
    have e1 : f_Main_nextCycle (nI L) N ((U.1.1, U.1.2.1 + (1 : Int32), U.1.2.2), U.2.1, U.2.2.1) = some (r, u1) := e1
    rw [e1, Option.bind_some]
    dsimp only
    rw [e3, Option.bind_some, s1, Option.bind_some, s2, Option.bind_some]
    have := px_loop (lat := nI L) (N := N) (p := p) (x := x) (ans := how) s3 s4 1000 0 u2 (by omega) (by omega)
    rw [Nat.sub_zero, e5] at this
    exact this
  · rw [px_maccess, e2, Option.bind_some]
    dsimp only
    rw [e4, d2]
    have : (t2 : sg_model) = (t2.1, t2.2.1, t2.2.2.1, t.2.2.2) := by rw [← hρ]
    rw [this, hmf]
    rfl
  · rw [s7 _ C, ← h13]
end PXB
