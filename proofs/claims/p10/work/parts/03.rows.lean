/-! My own rows over the kit's: one table of words for all methods (kx_T), one bundle of what stays (kx_F), one of the cells (kx_W), a line an instruction. -/
def kx_arrC (w : Cond) : Bool := match w with
  | .arrayClass _ => true
  | _ => false
def kx_good (w : Cond) : Bool := (w.onTables && w.keeps) || kx_arrC w
def kx_T : List Cond := lw_tbl.filter kx_good
theorem kx_arrC_ok {w : Cond} (h : kx_arrC w = true) : ∃ ty, w = .arrayClass ty := by
  cases w <;> first | exact ⟨_, rfl⟩ | (simp [kx_arrC] at h)
theorem kx_ok {w : Cond} (h : kx_good w = true) : (w.onTables && w.keeps) = true ∨ ∃ ty, w = .arrayClass ty := by
  unfold kx_good at h
  cases h1 : (w.onTables && w.keeps) with
  | true => exact Or.inl rfl
  | false =>
    rw [h1, Bool.false_or] at h
    exact Or.inr (kx_arrC_ok h)
theorem kx_mem {w : Cond} (h1 : w ∈ lw_tbl) (h2 : kx_good w = true) : w ∈ kx_T := List.mem_filter.mpr ⟨h1, h2⟩
theorem kx_lw {w : Cond} (h : w ∈ kx_T) : w ∈ lw_tbl := (List.mem_filter.mp h).1
theorem kx_goodIn {ws : List Cond} (h : ∀ w ∈ ws, w ∈ kx_T) : GoodIn kx_T ws := fun w hw => ⟨h w hw, kx_ok (List.mem_filter.mp (h w hw)).2⟩
theorem kx_cons {w0 : Cond} {ws : List Cond} (h : w0 ∈ kx_T) (h2 : ∀ w ∈ ws, w ∈ kx_T) : ∀ w ∈ w0 :: ws, w ∈ kx_T := fun w hw => by
  rcases List.mem_cons.mp hw with h1 | h1
  · rw [h1]; exact h
  · exact h2 w h1
theorem kx_all : ∀ w ∈ kx_T, w ∈ kx_T := fun _ h => h
def kx_nest (w : Cond) : Bool := match w with
  | .methodLinkNest _ _ _ _ => true
  | .fieldLinkNest _ _ _ _ _ _ => true
  | .declares _ => true
  | _ => false
def kx_N : List Cond := lw_tbl.filter kx_nest
theorem kx_memN {w : Cond} (h1 : w ∈ lw_tbl) (h2 : kx_nest w = true) : w ∈ kx_N := List.mem_filter.mpr ⟨h1, h2⟩
theorem kx_warm {w : Cond} (hw : kx_nest w = true) {s U : State} (hW : s.WarmedH U.vm) (h : va_Nw w s) : va_Nw w U := by
  cases w <;> first | exact va_Nw.warmM hW h | exact va_Nw.warmF hW h | exact va_Nw.warmD hW h | (simp [kx_nest] at hw)
theorem kx_same {w : Cond} (hw : kx_nest w = true) {s U : State} (hv : s.vm = U.vm) (h : va_Nw w s) : va_Nw w U := by
  cases w <;> first | (exact va_Nw.same rfl hv h) | (simp [kx_nest] at hw)
/-- the classes' numbers and slots; then the array classes (0 int, 1 boolean, 2 long), then the addresses of what statics hold -/
abbrev kx_G : Type := va_G × (Nat → Nat)
def kx_tys (G : kx_G) : List (ClassId × FieldType) := [(G.2 0, .int), (G.2 1, .boolean), (G.2 2, .long)]
section KXY
/-! The throws: what stays of the throwables' statics and words, the end of a method by 'throw new X(text)' -/
/-- words of the class tables that are kept by their face -/
def kx_face (w : Cond) : Bool := match w with
  | .declares _ => true
  | .castable .. => true
  | _ => false
def kx_D : List Cond := lw_tbl.filter kx_face
theorem kx_face_any {w : Cond} (h : kx_face w = true) {a a' : Array Value} {u U : State} (hv : U.vm = u.vm) (hw : w.before a u = true) : w.before a' U = true := by
  cases w <;> first | (simp [kx_face] at h) | skip
  all_goals
    simp only [Cond.before, Cond.holds, Cond.value, State.methodNamed?, hv] at hw ⊢
    exact hw
theorem kx_face_warm {w : Cond} (h : kx_face w = true) {a a' : Array Value} {s U : State} (hW : s.WarmedH U.vm) (hw : w.before a s = true) : w.before a' U = true := by
  have h1 : w.before a (s.setVm U.vm) = true := Cond.faceAtom_setVm hW.alike w (by cases w <;> first | rfl | (simp [kx_face] at h)) hw
  exact kx_face_any h (u := s.setVm U.vm) rfl h1
/-- a static of the JDK's that holds a reference or null, outside what may change -/
def kx_L (C n d : String) (A : Nat → Prop) (U : State) (H : Heap) : Prop := ∃ (c : ClassId) (k : Class) (i : Nat) (f : Field) (a : Nat) (cell : Cell) (v : Value), U.vm.findClass C = some c ∧ U.fieldFound? C n d = some (c, k, i, f) ∧ f.isStatic = true ∧ k.statics = some a ∧ k.staticTypes[f.slot]? = some f.type ∧ H[a]? = some cell ∧ cell.vm.isStatics = true ∧ cell.cls = c ∧ f.slot < cell.slots.size ∧ cell.slots[f.slot]? = some v ∧ v.isRef = true ∧ ¬ A a
theorem kx_L.moved {C n d : String} {A : Nat → Prop} {u U : State} {H : Heap} (hvm : u.vm.Alike U.vm) (h : kx_L C n d A u H) : kx_L C n d A U H := by
  obtain ⟨c, k, i, f, a, cell, v, h0, h1, h2, h3, h4, h5⟩ := h
  obtain ⟨k', hi', he⟩ := State.fieldFound?_setVm hvm h1
  exact ⟨c, k', i, f, a, cell, v, by rw [hvm.findClass]; exact h0, hi', h2, by rw [he]; exact h3, by rw [he]; exact h4, h5⟩
theorem kx_L.kept {C n d : String} {A : Nat → Prop} {U : State} {H H1 : Heap} (h : kx_L C n d A U H) (hq : ∀ a : Nat, a < H.size → ¬ A a → H1[a]? = H[a]?) : kx_L C n d A U H1 := by
  obtain ⟨c, k, i, f, a, cell, v, h0, h1, h2, h3, h4, h5, h6, h7, h8, h9, h10, h11⟩ := h
  exact ⟨c, k, i, f, a, cell, v, h0, h1, h2, h3, h4, by rw [hq a (Array.getElem?_eq_some_iff.mp h5).1 h11]; exact h5, h6, h7, h8, h9, h10, h11⟩
theorem kx_L.narrow {C n d : String} {A B : Nat → Prop} {U : State} {H : Heap} (h : kx_L C n d A U H) (hAB : ∀ q, B q → A q) : kx_L C n d B U H := by
  obtain ⟨c, k, i, f, a, cell, v, h0, h1, h2, h3, h4, h5, h6, h7, h8, h9, h10, h11⟩ := h
  exact ⟨c, k, i, f, a, cell, v, h0, h1, h2, h3, h4, h5, h6, h7, h8, h9, h10, fun z => h11 (hAB a z)⟩
theorem kx_L.lays {C n d : String} {A : Nat → Prop} {s : State} {args : Array Value} (h : kx_L C n d A s s.heap) : (Cond.laysStatic C n d).before args s = true := by
  obtain ⟨c, k, i, f, a, cell, v, h0, h1, h2, h3, h4, h5, h6, h7, h8, h9, h10, h11⟩ := h
  simp [Cond.before, Cond.holds, Cond.value, h0, h1, h2, h3, h4, h5, h6, h7, h8]
theorem kx_L.isRef {C n d : String} {A : Nat → Prop} {s : State} {args : Array Value} (h : kx_L C n d A s s.heap) : (Cond.isRef (.static C n d)).before args s = true := by
  obtain ⟨c, k, i, f, a, cell, v, h0, h1, h2, h3, h4, h5, h6, h7, h8, h9, h10, h11⟩ := h
  have hv : (Term.static C n d).eval args s none [] s = some v := by
    simp [Term.eval, State.fieldNamed?, h1, h2, h3, h5, h6, h9]
  simp only [Cond.before, Cond.holds, Cond.value, hv]
  cases v <;> first | rfl | (simp [Value.isRef] at h10)
/-- what stays for the throws: words kept by their face, two statics of Throwable, the texts -/
def kx_Y (g : Nat → Nat) (A : Nat → Prop) (U : State) : Prop := (∀ w ∈ kx_D, w.before #[] U = true) ∧ kx_L Bundle.tN "UNASSIGNED_STACK" Bundle.steD A U U.heap ∧ kx_L Bundle.tN "SUPPRESSED_SENTINEL" Bundle.listD A U U.heap ∧
  vk_R "PrefetchRules" 74 "the cycles are none of 1 to 100" (g 4) U ∧ vk_R "PrefetchRules" 105 "the store has no such line" (g 5) U ∧ vk_R "PrefetchRules" 111 "the queue has no such fetch" (g 6) U ∧ vk_R "PrefetchRules" 113 "a fetch has no such number" (g 7) U
theorem kx_Y.call {g : Nat → Nat} {A0 A1 : Nat → Prop} {s U : State} {H : Heap} {locs : List Loc} (h : kx_Y g A0 s) (hS : va_S A0 s.heap H locs) (hA : ∀ q, A1 q → A0 q) (hU : U.heap = H) (hW : s.WarmedH U.vm) : kx_Y g A1 U := by
  subst hU
  obtain ⟨h1, h2, h3, h4, h5, h6, h7⟩ := h
  exact ⟨fun w hw => kx_face_warm (List.mem_filter.mp hw).2 hW (h1 w hw), ((h2.kept hS.2.1).moved hW.alike).narrow hA, ((h3.kept hS.2.1).moved hW.alike).narrow hA, h4.warm hW, h5.warm hW, h6.warm hW, h7.warm hW⟩
theorem kx_Y.blind {g : Nat → Nat} {A : Nat → Prop} {U V : State} (h : kx_Y g A U) (hh : V.heap = U.heap) (hv : V.vm = U.vm) : kx_Y g A V := by
  obtain ⟨h1, h2, h3, h4, h5, h6, h7⟩ := h
  have al : U.vm.Alike V.vm := by rw [hv]; exact Vm.Alike.refl U.vm
  exact ⟨fun w hw => kx_face_any (List.mem_filter.mp hw).2 hv (h1 w hw), by rw [hh]; exact h2.moved al, by rw [hh]; exact h3.moved al, h4.same hv, h5.same hv, h6.same hv, h7.same hv⟩
end KXY
/-- what stays over the whole run: classes, array classes, nest links, statics -/
def kx_Q (G : kx_G) (A : Nat → Prop) (U : State) : Prop := va_K G.1 vwCl (kx_tys G) U ∧ (∀ w ∈ kx_N, va_Nw w U) ∧ kx_Z G.2 A U ∧ kx_Y G.2 A U
theorem kx_Q.call {G : kx_G} {A0 A1 : Nat → Prop} {s U : State} {H : Heap} {locs : List Loc} (h : kx_Q G A0 s) (hS : va_S A0 s.heap H locs) (hA : ∀ q, A1 q → A0 q) (hU : U.heap = H) (hW : s.WarmedH U.vm) : kx_Q G A1 U :=
  ⟨va_K.moved hW.alike h.1, fun w hw => kx_warm (List.mem_filter.mp hw).2 hW (h.2.1 w hw), kx_Z.call h.2.2.1 hS hA hU hW.alike, kx_Y.call h.2.2.2 hS hA hU hW⟩
theorem kx_Q.blind {G : kx_G} {A : Nat → Prop} {U V : State} (h : kx_Q G A U) (hh : V.heap = U.heap) (hv : V.vm = U.vm) : kx_Q G A V :=
  ⟨va_K.moved (by rw [hv]; exact Vm.Alike.refl U.vm) h.1, fun w hw => kx_same (List.mem_filter.mp hw).2 hv.symm (h.2.1 w hw), kx_Z.call (locs := []) h.2.2.1 va_S.rf (fun _ h => h) hh (by rw [hv]; exact Vm.Alike.refl U.vm), kx_Y.blind h.2.2.2 hh hv⟩
def kx_Pre (G : kx_G) (wc : va_W) (sz : Nat) (U : State) : Prop := U.heap.size = sz ∧ va_P G.1 vwCl wc U.heap ∧ va_D (fun _ => True) wc ∧ kx_Q G (va_A wc sz) U
theorem kx_blind (G : kx_G) (as : List Value) (wc : va_W) (sz : Nat) : FrameBlind (va_Pc as (kx_Pre G wc sz)) := fun a U g mk q => by
  obtain ⟨q0, q1, q2, q3, q4⟩ := q
  exact ⟨q0, q1, q2, q3, kx_Q.blind q4 rfl rfl⟩
def kx_B {S : Type} (G : kx_G) (A : Nat → Prop) (wo : S → va_W) : S → State → Prop := fun u t => va_P G.1 vwCl (wo u) t.heap ∧ va_D A (wo u)
/-- the contracts: an int (or boolean) comes back; nothing; a reference -/
def CtI {S : Type} (l : Launch) (y : MethodName) (cc : ByteArray) (maxL : Nat) (ret : Option FieldType) (rm : Room) (G : kx_G) (as : List Value) (wc : va_W) (post : Int32 → S → Prop) (wo : S → va_W) (mc ms : Nat) : Prop :=
  ∀ sz : Nat, Met l y (Cond.code y cc maxL ret :: kx_T) rm (va_Pc as (kx_Pre G wc sz)) (va_Qi post (kx_B G (va_A wc sz) wo) (va_A wc sz)) mc ms (va_A wc sz)
def CtV {S : Type} (l : Launch) (y : MethodName) (cc : ByteArray) (maxL : Nat) (rm : Room) (G : kx_G) (as : List Value) (wc : va_W) (post : S → Prop) (wo : S → va_W) (mc ms : Nat) : Prop :=
  ∀ sz : Nat, Met l y (Cond.code y cc maxL none :: kx_T) rm (va_Pc as (kx_Pre G wc sz)) (va_Qv post (kx_B G (va_A wc sz) wo) (va_A wc sz)) mc ms (va_A wc sz)
def CtR {S : Type} (l : Launch) (y : MethodName) (cc : ByteArray) (maxL : Nat) (ret : Option FieldType) (rm : Room) (G : kx_G) (as : List Value) (wc : va_W) (post : S → Prop) (wo : S → Nat → va_W) (mc ms : Nat) : Prop :=
  ∀ sz : Nat, Met l y (Cond.code y cc maxL ret :: kx_T) rm (va_Pc as (kx_Pre G wc sz)) (va_Qr post (fun u a t => va_P G.1 vwCl (wo u a) t.heap ∧ va_D (va_A wc sz) (wo u a)) (va_A wc sz)) mc ms (va_A wc sz)
/-- what stays inside a method; its cells -/
def kx_F (G : kx_G) (A : Nat → Prop) (s : State) : Prop := kx_Q G A s ∧ ∀ q : Nat, s.heap.size ≤ q → A q
def kx_W (G : kx_G) (A : Nat → Prop) (s : State) (ws : va_W) (H : Heap) (locs : List Loc) : Prop := va_P G.1 vwCl ws H ∧ va_D A ws ∧ va_S A s.heap H locs
theorem kx_lift {X pl cx : va_W} (is : List Nat) (h : is.map (fun i => X[i]?) = cx.map some) : is.map (fun i => (X ++ pl)[i]?) = cx.map some := by
  rw [← h]
  refine List.map_congr_left (fun i hi => ?_)
  have h1 : X[i]? ∈ is.map (fun i => X[i]?) := List.mem_map.mpr ⟨i, hi, rfl⟩
  rw [h] at h1
  obtain ⟨q, -, hq⟩ := List.mem_map.mp h1
  exact List.getElem?_append_left (List.getElem?_eq_some_iff.mp hq.symm).1
theorem kx_filt {X cx : va_W} (is : List Nat) (h : is.map (fun i => X[i]?) = cx.map some) : is.filterMap (fun i => X[i]?) = cx := by
  have h1 : is.filterMap (fun i => X[i]?) = (is.map (fun i => X[i]?)).filterMap id := by
    rw [List.filterMap_map]; rfl
  rw [h1, h, List.filterMap_map]
  exact List.filterMap_some
theorem kx_W.perm {G : kx_G} {A : Nat → Prop} {s : State} {X X' pl : va_W} {H : Heap} {locs : List Loc} (w : kx_W G A s (X ++ pl) H locs) (is : List Nat) (hn : va_nd is = true) (hs : is.map (fun i => X[i]?) = X'.map some) : kx_W G A s (X' ++ pl) H locs :=
  ⟨w.1.part is hs, w.2.1.part is hn hs, w.2.2⟩
/-- the end of a case of an 'if', of an access, of a call -/
theorem kx_t {α : Type} {c : Prop} [Decidable c] {a b x : α} (h : c) (e : (if c then a else b) = x) : a = x := by rw [if_pos h] at e; exact e
theorem kx_f {α : Type} {c : Prop} [Decidable c] {a b x : α} (h : ¬ c) (e : (if c then a else b) = x) : b = x := by rw [if_neg h] at e; exact e
theorem kx_ar {α : Type} {i : Int32} {n : Nat} {a : Option α} {x : α} (e : (if (i < 0 ∨ n ≤ i.toNatClampNeg) then none else a) = some x) : vp_in i n ∧ a = some x := by
  by_cases h : (i < 0 ∨ n ≤ i.toNatClampNeg)
  · rw [if_pos h] at e; cases e
  · rw [if_neg h] at e; exact ⟨h, e⟩
theorem kx_nz {α : Type} {y : Int32} {a : Option α} {x : α} (e : (if y = 0 then none else a) = some x) : ¬ y = 0 ∧ a = some x := by
  by_cases h : y = 0
  · rw [if_pos h] at e; cases e
  · rw [if_neg h] at e; exact ⟨h, e⟩
theorem kx_ck {α : Type} {y : Int32} {a : Option α} {x : α} (e : (if (y = 0 ∨ y = 1) then a else none) = some x) : (y = 0 ∨ y = 1) ∧ a = some x := by
  by_cases h : (y = 0 ∨ y = 1)
  · rw [if_pos h] at e; exact ⟨h, e⟩
  · rw [if_neg h] at e; cases e
theorem kx_bd {α β : Type} {o : Option α} {f : α → Option β} {x : β} (e : o.bind f = some x) : ∃ q, o = some q ∧ f q = some x := by
  cases o with
  | none => cases e
  | some q => exact ⟨q, rfl, e⟩
/-- a class as the rows need it: its place, its fields' words, their types, their names -/
def kx_cls (ci : Nat) (C : String) (T : u_T) (N : Nat) (ty : Nat → FieldType) : Prop := vwCl[ci]? = some (C, T, N) ∧ (∀ w ∈ u_ws C T N, w ∈ kx_T) ∧ (∀ k, k < N → parseFieldDescriptor (T k).2.2.1 = some (ty k)) ∧ ∀ a, a < N → ∀ b, b < N → a ≠ b → (T a).2.1 ≠ (T b).2.1
section KXR
variable {p : Program} {l : Launch} {e : Env} {R : Room} {s : State} {m : MethodId} {args : Array Value} {below : List Frame} {meth : Method} {c : Code} {H : Heap} {locs : List Loc} {cells slots : Nat} {Q : State → Prop}
variable {cc : ByteArray} {nL pc : Nat} {own : String} {G : kx_G} {A : Nat → Prop} {X pl : va_W} {ls : Array Slot} {rest : List Value}
theorem kx_get (S : CallFix p m c cc nL s args kx_T own) (F : kx_F G A s) (w : kx_W G A s (X ++ pl) H locs) {ci N : Nat} {C : String} {T : u_T} {ty : Nat → FieldType} (hc : kx_cls ci C T N ty) (q0 : Nat) {a : Nat} {fs : List Value} (he : X[q0]? = some (a, .inr (ci, fs))) (k : Nat) (hk : k < N) {index : Nat} (hlink : Cond.fieldLink own index (T k).1 (T k).2.1 (T k).2.2.1 ∈ kx_T) {v : Value} (hv : fs[k]? = some v) (hdg : decode cc pc = .ok (.getfield index, 3))
    (kk : W p l e R s m args below meth c H locs cells slots Q (F0 m (pc + 3) ls (v :: rest))) : W p l e R s m args below meth c H locs cells slots Q (F0 m pc ls (.ref a :: rest)) := by
  obtain ⟨hx, hb, hml, hown, hts⟩ := S
  exact va_get hx hb hts hc.2.1 hown F.1.1 w.1 q0 (by rw [List.getElem?_append_left (List.getElem?_eq_some_iff.mp he).1]; exact he) hc.1 k hk (hts _ hlink) (fun _ h => h) hv hdg kk
theorem kx_getN (S : CallFix p m c cc nL s args kx_T own) (F : kx_F G A s) (w : kx_W G A s (X ++ pl) H locs) {ci N : Nat} {C : String} {T : u_T} {ty : Nat → FieldType} (hc : kx_cls ci C T N ty) (q0 : Nat) {a : Nat} {fs : List Value} (he : X[q0]? = some (a, .inr (ci, fs))) (k : Nat) (hk : k < N) {index : Nat} {host : String} (hlink : Cond.fieldLinkNest own index (T k).1 (T k).2.1 (T k).2.2.1 host ∈ kx_N) {v : Value} (hv : fs[k]? = some v) (hdg : decode cc pc = .ok (.getfield index, 3))
    (kk : W p l e R s m args below meth c H locs cells slots Q (F0 m (pc + 3) ls (v :: rest))) : W p l e R s m args below meth c H locs cells slots Q (F0 m pc ls (.ref a :: rest)) := by
  obtain ⟨hx, hb, hml, hown, hts⟩ := S
  exact va_getN hx hb hts hc.2.1 hown F.1.1 w.1 q0 (by rw [List.getElem?_append_left (List.getElem?_eq_some_iff.mp he).1]; exact he) hc.1 k hk (va_Nw.use rfl (F.1.2.1 _ hlink)) (fun _ h => h) hv hdg kk
theorem kx_put (S : CallFix p m c cc nL s args kx_T own) (F : kx_F G A s) (w : kx_W G A s (X ++ pl) H locs) {ci N : Nat} {C : String} {T : u_T} {ty : Nat → FieldType} (hc : kx_cls ci C T N ty) (q0 : Nat) {a : Nat} {fs : List Value} (he : X[q0]? = some (a, .inr (ci, fs))) (k : Nat) (hk : k < N) {index : Nat} (hlink : Cond.fieldLink own index (T k).1 (T k).2.1 (T k).2.2.1 ∈ kx_T) (hfin : (T k).2.2.2 = false) {v : Value} (hn : narrow (ty k) v = v) (hfit : fits (ty k) v = true) (hl : k < fs.length) (hdg : decode cc pc = .ok (.putfield index, 3))
    (kk : ∀ (H1 : Heap) (locs1 : List Loc), kx_W G A s (X.set q0 (a, .inr (ci, fs.set k v)) ++ pl) H1 locs1 → W p l e R s m args below meth c H1 locs1 cells slots Q (F0 m (pc + 3) ls rest)) : W p l e R s m args below meth c H locs cells slots Q (F0 m pc ls (v :: .ref a :: rest)) := by
  obtain ⟨hx, hb, hml, hown, hts⟩ := S
  have hlt := (List.getElem?_eq_some_iff.mp he).1
  refine va_put hx hb hts hc.2.1 ty hc.2.2.1 hc.2.2.2 hown F.1.1 w.1 w.2.1 w.2.2 q0 (by rw [List.getElem?_append_left hlt]; exact he) hc.1 k hk (hts _ hlink) (fun _ h => h) hfin (hc.2.2.1 k hk) hn hfit hl hdg (fun H1 locs1 hP hD hS => kk H1 locs1 ⟨?_, ?_, hS⟩)
  · rw [List.set_append_left _ _ hlt] at hP; exact hP
  · rw [List.set_append_left _ _ hlt] at hD; exact hD
theorem kx_putF (S : CallFix p m c cc nL s args kx_T own) (F : kx_F G A s) (w : kx_W G A s (X ++ pl) H locs) {ci N : Nat} {C : String} {T : u_T} {ty : Nat → FieldType} (hc : kx_cls ci C T N ty) (q0 : Nat) {a : Nat} {fs : List Value} (he : X[q0]? = some (a, .inr (ci, fs))) (k : Nat) (hk : k < N) {index : Nat} (hlink : Cond.fieldLink own index (T k).1 (T k).2.1 (T k).2.2.1 ∈ kx_T) (hfin : (T k).2.2.2 = true) (hin : meth.name = "<init>") (hdecl : (T k).1 = own) {v : Value} (hn : narrow (ty k) v = v) (hfit : fits (ty k) v = true) (hl : k < fs.length) (hdg : decode cc pc = .ok (.putfield index, 3))
    (kk : ∀ (H1 : Heap) (locs1 : List Loc), kx_W G A s (X.set q0 (a, .inr (ci, fs.set k v)) ++ pl) H1 locs1 → W p l e R s m args below meth c H1 locs1 cells slots Q (F0 m (pc + 3) ls rest)) : W p l e R s m args below meth c H locs cells slots Q (F0 m pc ls (v :: .ref a :: rest)) := by
  obtain ⟨hx, hb, hml, hown, hts⟩ := S
  have hlt := (List.getElem?_eq_some_iff.mp he).1
  refine va_putF hx hb hts hc.2.1 ty hc.2.2.1 hc.2.2.2 hown F.1.1 w.1 w.2.1 w.2.2 q0 (by rw [List.getElem?_append_left hlt]; exact he) hc.1 k hk (hts _ hlink) (fun _ h => h) hfin hin hdecl (hc.2.2.1 k hk) hn hfit hl hdg (fun H1 locs1 hP hD hS => kk H1 locs1 ⟨?_, ?_, hS⟩)
  · rw [List.set_append_left _ _ hlt] at hP; exact hP
  · rw [List.set_append_left _ _ hlt] at hD; exact hD
theorem kx_iald (S : CallFix p m c cc nL s args kx_T own) (F : kx_F G A s) (w : kx_W G A s (X ++ pl) H locs) (q0 : Nat) {a n : Nat} {f : Nat → Int32} (he : X[q0]? = some (a, .inl (G.2 0, n, .inl f))) {i : Int32} (hin : vp_in i n) (hdg : decode cc pc = .ok (.iaload, 1))
    (kk : W p l e R s m args below meth c H locs cells slots Q (F0 m (pc + 1) ls (.int (f i.toNatClampNeg) :: rest))) : W p l e R s m args below meth c H locs cells slots Q (F0 m pc ls (.int i :: .ref a :: rest)) := by
  obtain ⟨hx, hb, hml, hown, hts⟩ := S
  exact va_iald hx hb F.1.1 w.1 q0 0 (by rw [List.getElem?_append_left (List.getElem?_eq_some_iff.mp he).1]; exact he) rfl hin hdg kk
theorem kx_zald (S : CallFix p m c cc nL s args kx_T own) (F : kx_F G A s) (w : kx_W G A s (X ++ pl) H locs) (q0 : Nat) {a n : Nat} {f : Nat → Int32} (he : X[q0]? = some (a, .inl (G.2 1, n, .inl f))) {i : Int32} (hin : vp_in i n) (hdg : decode cc pc = .ok (.baload, 1))
    (kk : W p l e R s m args below meth c H locs cells slots Q (F0 m (pc + 1) ls (.int (f i.toNatClampNeg) :: rest))) : W p l e R s m args below meth c H locs cells slots Q (F0 m pc ls (.int i :: .ref a :: rest)) := by
  obtain ⟨hx, hb, hml, hown, hts⟩ := S
  exact va_zald hx hb F.1.1 w.1 q0 1 (by rw [List.getElem?_append_left (List.getElem?_eq_some_iff.mp he).1]; exact he) rfl hin hdg kk
theorem kx_iast (S : CallFix p m c cc nL s args kx_T own) (F : kx_F G A s) (w : kx_W G A s (X ++ pl) H locs) (q0 : Nat) {a n : Nat} {f : Nat → Int32} (he : X[q0]? = some (a, .inl (G.2 0, n, .inl f))) {i x : Int32} (hin : vp_in i n) (hdg : decode cc pc = .ok (.iastore, 1))
    (kk : ∀ (H1 : Heap) (locs1 : List Loc), kx_W G A s (X.set q0 (a, .inl (G.2 0, n, .inl (upd f i.toNatClampNeg x))) ++ pl) H1 locs1 → W p l e R s m args below meth c H1 locs1 cells slots Q (F0 m (pc + 1) ls rest)) : W p l e R s m args below meth c H locs cells slots Q (F0 m pc ls (.int x :: .int i :: .ref a :: rest)) := by
  obtain ⟨hx, hb, hml, hown, hts⟩ := S
  have hlt := (List.getElem?_eq_some_iff.mp he).1
  refine va_iast hx hb F.1.1 w.1 w.2.1 w.2.2 q0 0 (by rw [List.getElem?_append_left hlt]; exact he) rfl hin hdg (fun H1 locs1 hP hD hS => kk H1 locs1 ⟨?_, ?_, hS⟩)
  · rw [List.set_append_left _ _ hlt] at hP; exact hP
  · rw [List.set_append_left _ _ hlt] at hD; exact hD
theorem kx_zast (S : CallFix p m c cc nL s args kx_T own) (F : kx_F G A s) (w : kx_W G A s (X ++ pl) H locs) (q0 : Nat) {a n : Nat} {f : Nat → Int32} (he : X[q0]? = some (a, .inl (G.2 1, n, .inl f))) {i x : Int32} (hin : vp_in i n) (hdg : decode cc pc = .ok (.bastore, 1))
    (kk : ∀ (H1 : Heap) (locs1 : List Loc), kx_W G A s (X.set q0 (a, .inl (G.2 1, n, .inl (upd f i.toNatClampNeg (vp_nar .boolean x)))) ++ pl) H1 locs1 → W p l e R s m args below meth c H1 locs1 cells slots Q (F0 m (pc + 1) ls rest)) : W p l e R s m args below meth c H locs cells slots Q (F0 m pc ls (.int x :: .int i :: .ref a :: rest)) := by
  obtain ⟨hx, hb, hml, hown, hts⟩ := S
  have hlt := (List.getElem?_eq_some_iff.mp he).1
  refine va_zast hx hb F.1.1 w.1 w.2.1 w.2.2 q0 1 (by rw [List.getElem?_append_left hlt]; exact he) rfl hin hdg (fun H1 locs1 hP hD hS => kk H1 locs1 ⟨?_, ?_, hS⟩)
  · rw [List.set_append_left _ _ hlt] at hP; exact hP
  · rw [List.set_append_left _ _ hlt] at hD; exact hD
theorem kx_alen (S : CallFix p m c cc nL s args kx_T own) (F : kx_F G A s) (w : kx_W G A s (X ++ pl) H locs) (q0 t0 : Nat) {a : Nat} {x : vp_A} {cA : ClassId} (he : X[q0]? = some (a, .inl (cA, x))) {ty : FieldType} (ht : (kx_tys G)[t0]? = some (cA, ty)) (hdg : decode cc pc = .ok (.arraylength, 1))
    (kk : W p l e R s m args below meth c H locs cells slots Q (F0 m (pc + 1) ls (.int (nI x.1) :: rest))) : W p l e R s m args below meth c H locs cells slots Q (F0 m pc ls (.ref a :: rest)) := by
  obtain ⟨hx, hb, hml, hown, hts⟩ := S
  exact va_alen hx hb F.1.1 w.1 q0 t0 (by rw [List.getElem?_append_left (List.getElem?_eq_some_iff.mp he).1]; exact he) ht rfl hdg kk
theorem kx_newa0 {ty : FieldType} (t0 : Nat) {cG : ClassId} (F : kx_F G A s) (ht : (kx_tys G)[t0]? = some (cG, ty)) (hprim : ∀ cA : ClassId, va_RA s cA ty = (s.vm.findClass ("[" ++ ty.toString) = some cA)) {cA : ClassId} (hK : va_K G.1 vwCl (kx_tys G ++ [(cA, ty)]) s) : cA = cG := by
  have h1 := (hK.2 (kx_tys G).length (cA, ty) (by rw [List.getElem?_append_right (Nat.le_refl _), Nat.sub_self]; rfl)).2
  have h2 := (F.1.1.2 t0 (cG, ty) ht).2
  rw [hprim] at h1
  rw [hprim] at h2
  exact Option.some.inj (h1.symm.trans h2)
theorem kx_newi (S : CallFix p m c cc nL s args kx_T own) (F : kx_F G A s) (w : kx_W G A s (X ++ pl) H locs) (harr : Cond.arrayClass .int ∈ kx_T) {n : Int32} {N' : Nat} (hn : ¬ n < 0) (hN : n.toNatClampNeg = N') (hbytes : N' * 4 ≤ 536870912) (hcells : cells + 1 ≤ R.cells) (hslots : slots + N' ≤ R.slots) (hdg : decode cc pc = .ok (.newarray .int, 2))
    (kk : ∀ (q : Nat) (H1 : Heap), kx_W G A s ((X ++ [(q, .inl (G.2 0, N', .inl (fun _ => 0)))]) ++ pl) H1 locs → W p l e R s m args below meth c H1 locs (cells + 1) (slots + N') Q (F0 m (pc + 2) ls (.ref q :: rest))) : W p l e R s m args below meth c H locs cells slots Q (F0 m pc ls (.int n :: rest)) := by
  obtain ⟨hx, hb, hml, hown, hts⟩ := S
  refine va_newa (atype := .int) (ty := .int) (a0 := (N', .inl (fun _ => 0))) hx hb (hts _ harr) rfl F.1.1 w.1 w.2.1 w.2.2 F.2 (fun cA => rfl) hn hN hbytes hcells hslots hdg (fun q cA H1 hK hP hD hS => ?_)
  have e := kx_newa0 0 F rfl (fun _ => rfl) hK
  subst e
  exact kk q H1 ⟨hP.swap, hD.swap, hS⟩
theorem kx_newz (S : CallFix p m c cc nL s args kx_T own) (F : kx_F G A s) (w : kx_W G A s (X ++ pl) H locs) (harr : Cond.arrayClass .boolean ∈ kx_T) {n : Int32} {N' : Nat} (hn : ¬ n < 0) (hN : n.toNatClampNeg = N') (hbytes : N' * 1 ≤ 536870912) (hcells : cells + 1 ≤ R.cells) (hslots : slots + N' ≤ R.slots) (hdg : decode cc pc = .ok (.newarray .boolean, 2))
    (kk : ∀ (q : Nat) (H1 : Heap), kx_W G A s ((X ++ [(q, .inl (G.2 1, N', .inl (fun _ => 0)))]) ++ pl) H1 locs → W p l e R s m args below meth c H1 locs (cells + 1) (slots + N') Q (F0 m (pc + 2) ls (.ref q :: rest))) : W p l e R s m args below meth c H locs cells slots Q (F0 m pc ls (.int n :: rest)) := by
  obtain ⟨hx, hb, hml, hown, hts⟩ := S
  refine va_newa (atype := .boolean) (ty := .boolean) (a0 := (N', .inl (fun _ => 0))) hx hb (hts _ harr) rfl F.1.1 w.1 w.2.1 w.2.2 F.2 (fun cA => rfl) hn hN hbytes hcells hslots hdg (fun q cA H1 hK hP hD hS => ?_)
  have e := kx_newa0 1 F rfl (fun _ => rfl) hK
  subst e
  exact kk q H1 ⟨hP.swap, hD.swap, hS⟩
theorem kx_new (S : CallFix p m c cc nL s args kx_T own) (F : kx_F G A s) (w : kx_W G A s (X ++ pl) H locs) {ci N : Nat} {C : String} {T : u_T} {ty : Nat → FieldType} (hc : kx_cls ci C T N ty) {index : Nat} (hcl : Cond.classLink own index C ∈ kx_T) (hinst : Cond.instantiable C N ∈ kx_T) (hini : Cond.initialized C ∈ kx_T) {fs : List Value} (hfs : ∀ j, j < N → defaultValue (ty j) = vp_V fs j) (hcells : cells + 1 ≤ R.cells) (hslots : slots + N ≤ R.slots) (hdg : decode cc pc = .ok (.new index, 3))
    (kk : ∀ (q : Nat) (H1 : Heap), kx_W G A s ((X ++ [(q, .inr (ci, fs))]) ++ pl) H1 locs → W p l e R s m args below meth c H1 locs (cells + 1) (slots + N) Q (F0 m (pc + 3) ls (.ref q :: rest))) : W p l e R s m args below meth c H locs cells slots Q (F0 m pc ls rest) := by
  obtain ⟨hx, hb, hml, hown, hts⟩ := S
  refine va_new hx hb hts hc.2.1 ty hc.2.2.1 hown (hts _ hcl) (hts _ hinst) (hts _ hini) F.1.1 w.1 w.2.1 w.2.2 F.2 hc.1 hfs hcells hslots hdg (fun q H1 hP hD hS => ?_)
  exact kk q H1 ⟨hP.swap, hD.swap, hS⟩
theorem kx_obj (S : CallFix p m c cc nL s args kx_T own) {idx : Nat} (h1 : Cond.methodLink own idx Lib.objectInit ∈ kx_T) (h2 : Cond.instanceMethod Lib.objectInit ∈ kx_T) (h3 : Cond.code Lib.objectInit ⟨#[0xb1]⟩ 1 none ∈ kx_T) {a : Nat} (hsz : ls.size = nL) (hdg : decode cc pc = .ok (.invokespecial idx, 3)) (hfr : 1 ≤ R.frames) (hlo : 2 * (F0 m pc ls (.ref a :: rest)).monitorRoom + (rest.map fun v => v.category).sum + 12 ≤ R.locals)
    (kk : W p l e R s m args below meth c H locs cells slots Q (F0 m (pc + 3) ls rest)) : W p l e R s m args below meth c H locs cells slots Q (F0 m pc ls (.ref a :: rest)) := by
  obtain ⟨hx, hb, hml, hown, hts⟩ := S
  exact W.objInit hx hb hown (hts _ h1) (hts _ h2) (hts _ h3) rfl (by rw [hml]; exact hsz) rfl hdg hfr hlo kk
/-- a method as its callers need it: virtual, static, constructor; host: of a nest mate -/
def kx_mV (y : MethodName) (cc : ByteArray) (maxL : Nat) (ret : Option FieldType) (n : Nat) : Prop := Cond.code y cc maxL ret ∈ kx_T ∧ Cond.instanceMethod y ∈ kx_T ∧ Cond.selects y.cls y y ∈ kx_T ∧ Cond.initialized y.cls ∈ kx_T ∧ (y.cls ≠ "java/lang/invoke/MethodHandle" ∧ y.cls ≠ "java/lang/invoke/VarHandle" ∧ (parseMethodDescriptor y.desc).map (fun d => d.parameters.length) = some n)
def kx_mS (y : MethodName) (cc : ByteArray) (maxL : Nat) (ret : Option FieldType) (n : Nat) : Prop := Cond.code y cc maxL ret ∈ kx_T ∧ Cond.static y ∈ kx_T ∧ Cond.initialized y.cls ∈ kx_T ∧ (y.cls ≠ "java/lang/invoke/MethodHandle" ∧ y.cls ≠ "java/lang/invoke/VarHandle" ∧ (parseMethodDescriptor y.desc).map (fun d => d.parameters.length) = some n)
def kx_mI (y : MethodName) (cc : ByteArray) (maxL : Nat) (n : Nat) : Prop := Cond.code y cc maxL none ∈ kx_T ∧ Cond.instanceMethod y ∈ kx_T ∧ Cond.initialized y.cls ∈ kx_T ∧ y.name = "<init>" ∧ (y.cls ≠ "java/lang/invoke/MethodHandle" ∧ y.cls ≠ "java/lang/invoke/VarHandle" ∧ (parseMethodDescriptor y.desc).map (fun d => d.parameters.length) = some n)
def kx_rm (rm R : Room) (maxL mc ms : Nat) : Prop := rm.cells = mc ∧ rm.slots = ms ∧ rm.frames + 1 ≤ R.frames ∧ 8 + (maxL + 11) + rm.locals ≤ R.locals
theorem kx_cwV {y : MethodName} {bytes : ByteArray} {maxL n mc ms index : Nat} {ret : Option FieldType} {rm : Room} (S : CallFix p m c cc nL s args kx_T own) (mv : kx_mV y bytes maxL ret n) (hl : Cond.methodLink own index y ∈ kx_T) (hr : kx_rm rm R maxL mc ms) : CallW R s args own y.cls index y bytes maxL ret (Cond.code y bytes maxL ret :: kx_T) rm mc ms n := by
  obtain ⟨h1, h2, h3, h4, h5⟩ := mv
  obtain ⟨hx, hb, hml, hown, hts⟩ := S
  exact ⟨callB_of n hts (kx_goodIn (kx_cons h1 kx_all)) rfl hr.1 hr.2.1 (hts _ h4) (hts _ hl) h5 hr.2.2, hts _ h2, hts _ h3⟩
theorem kx_cwS {y : MethodName} {bytes : ByteArray} {maxL n mc ms index : Nat} {ret : Option FieldType} {rm : Room} (S : CallFix p m c cc nL s args kx_T own) (mv : kx_mS y bytes maxL ret n) (hl : Cond.methodLink own index y ∈ kx_T) (hr : kx_rm rm R maxL mc ms) : CallB R s args own index y bytes maxL ret (Cond.code y bytes maxL ret :: kx_T) rm mc ms n ∧ (Cond.static y).before args s = true := by
  obtain ⟨h1, h2, h4, h5⟩ := mv
  obtain ⟨hx, hb, hml, hown, hts⟩ := S
  exact ⟨callB_of n hts (kx_goodIn (kx_cons h1 kx_all)) rfl hr.1 hr.2.1 (hts _ h4) (hts _ hl) h5 hr.2.2, hts _ h2⟩
theorem kx_cwI {y : MethodName} {bytes : ByteArray} {maxL n mc ms index : Nat} {rm : Room} (S : CallFix p m c cc nL s args kx_T own) (mv : kx_mI y bytes maxL n) (hl : Cond.methodLink own index y ∈ kx_T) (hr : kx_rm rm R maxL mc ms) : CallB R s args own index y bytes maxL none (Cond.code y bytes maxL none :: kx_T) rm mc ms n ∧ y.name = "<init>" ∧ (Cond.instanceMethod y).before args s = true := by
  obtain ⟨h1, h2, h4, h6, h5⟩ := mv
  obtain ⟨hx, hb, hml, hown, hts⟩ := S
  exact ⟨callB_of n hts (kx_goodIn (kx_cons h1 kx_all)) rfl hr.1 hr.2.1 (hts _ h4) (hts _ hl) h5 hr.2.2, h6, hts _ h2⟩
theorem kx_cwSN {y : MethodName} {bytes : ByteArray} {maxL n mc ms index : Nat} {ret : Option FieldType} {rm : Room} {host : String} (S : CallFix p m c cc nL s args kx_T own) (F : kx_F G A s) (mv : kx_mS y bytes maxL ret n) (hl : Cond.methodLinkNest own index y host ∈ kx_N) (hr : kx_rm rm R maxL mc ms) : va_CN R s args own index y host bytes maxL ret (Cond.code y bytes maxL ret :: kx_T) rm mc ms n ∧ (Cond.static y).before args s = true ∧ True := by
  obtain ⟨h1, h2, h4, h5⟩ := mv
  obtain ⟨hx, hb, hml, hown, hts⟩ := S
  exact ⟨va_cnB n hts (kx_goodIn (kx_cons h1 kx_all)) rfl hr.1 hr.2.1 (F.1.2.1 _ hl) (hts _ h4) h5 hr.2.2, hts _ h2, trivial⟩
theorem kx_cwIN {y : MethodName} {bytes : ByteArray} {maxL n mc ms index : Nat} {rm : Room} {host : String} (S : CallFix p m c cc nL s args kx_T own) (F : kx_F G A s) (mv : kx_mI y bytes maxL n) (hl : Cond.methodLinkNest own index y host ∈ kx_N) (hr : kx_rm rm R maxL mc ms) : va_CN R s args own index y host bytes maxL none (Cond.code y bytes maxL none :: kx_T) rm mc ms n ∧ y.name = "<init>" ∧ (Cond.instanceMethod y).before args s = true := by
  obtain ⟨h1, h2, h4, h6, h5⟩ := mv
  obtain ⟨hx, hb, hml, hown, hts⟩ := S
  exact ⟨va_cnB n hts (kx_goodIn (kx_cons h1 kx_all)) rfl hr.1 hr.2.1 (F.1.2.1 _ hl) (hts _ h4) h5 hr.2.2, h6, hts _ h2⟩
theorem kx_cwU {x y : MethodName} {bytes : ByteArray} {maxL n mc ms index : Nat} {ret : Option FieldType} {rm : Room} {C owner : String} (S : CallFix p m c cc nL s args kx_T own) (hco : Cond.code y bytes maxL ret ∈ kx_T) (hl : Cond.methodLink own index x ∈ kx_T) (hsm : Cond.sameMethod x.cls owner x.name x.desc ∈ kx_T) (hse : Cond.selects C x y ∈ kx_T) (hin : Cond.instanceMethod y ∈ kx_T) (hini : Cond.initialized y.cls ∈ kx_T) (hyx : y = ⟨owner, x.name, x.desc⟩)
    (hd : owner ≠ "java/lang/invoke/MethodHandle" ∧ owner ≠ "java/lang/invoke/VarHandle" ∧ (parseMethodDescriptor x.desc).map (fun d => d.parameters.length) = some n) (hr : kx_rm rm R maxL mc ms) : va_CU R s args own C owner index x y bytes maxL ret (Cond.code y bytes maxL ret :: kx_T) rm mc ms n :=
  va_cwU n S.2.2.2.2 (kx_goodIn (kx_cons hl (kx_cons hsm (kx_cons hse (kx_cons hin (kx_cons hini (kx_cons hco kx_all))))))) rfl hr.1 hr.2.1 hyx hd hr.2.2
theorem kx_cwA {x y : MethodName} {bytes : ByteArray} {maxL n mc ms index : Nat} {ret : Option FieldType} {rm : Room} {C owner : String} (S : CallFix p m c cc nL s args kx_T own) (F : kx_F G A s) (hco : Cond.code y bytes maxL ret ∈ kx_T) (hl : Cond.methodLink own index x ∈ kx_T) (hsm : Cond.sameMethod x.cls owner x.name x.desc ∈ kx_T) (hse : Cond.selects C x y ∈ kx_T) (hin : Cond.instanceMethod y ∈ kx_T) (hini : Cond.initialized y.cls ∈ kx_T) (hz : Cond.declares ⟨owner, x.name, x.desc⟩ ∈ kx_N)
    (hd : owner ≠ "java/lang/invoke/MethodHandle" ∧ owner ≠ "java/lang/invoke/VarHandle" ∧ (parseMethodDescriptor x.desc).map (fun d => d.parameters.length) = some n) (hr : kx_rm rm R maxL mc ms) : va_CU R s args own C owner index x y bytes maxL ret (Cond.code y bytes maxL ret :: kx_T) rm mc ms n :=
  va_cwA n S.2.2.2.2 (kx_goodIn (kx_cons hl (kx_cons hsm (kx_cons hse (kx_cons hin (kx_cons hini (kx_cons hco kx_all))))))) rfl hr.1 hr.2.1 (F.1.2.1 _ hz) hd hr.2.2
theorem kx_cwO {x y : MethodName} {bytes : ByteArray} {maxL n mc ms index : Nat} {ret : Option FieldType} {rm : Room} {C owner : String} (S : CallFix p m c cc nL s args kx_T own) (hco : Cond.code y bytes maxL ret ∈ kx_T) (hl : Cond.methodLink own index x ∈ kx_T) (hsm : Cond.sameMethod x.cls owner x.name x.desc ∈ kx_T) (hi0 : Cond.instanceMethod ⟨owner, x.name, x.desc⟩ ∈ kx_T) (hse : Cond.selects C x y ∈ kx_T) (hin : Cond.instanceMethod y ∈ kx_T) (hini : Cond.initialized y.cls ∈ kx_T)
    {b0 : ByteArray} {m0 : Nat} {r0 : Option FieldType} (h0 : Cond.code ⟨owner, x.name, x.desc⟩ b0 m0 r0 ∈ kx_T) (hd : owner ≠ "java/lang/invoke/MethodHandle" ∧ owner ≠ "java/lang/invoke/VarHandle" ∧ (parseMethodDescriptor x.desc).map (fun d => d.parameters.length) = some n) (hr : kx_rm rm R maxL mc ms) : va_CU R s args own C owner index x y bytes maxL ret (Cond.code y bytes maxL ret :: kx_T) rm mc ms n :=
  va_cwO n S.2.2.2.2 (kx_goodIn (kx_cons hl (kx_cons hsm (kx_cons hi0 (kx_cons hse (kx_cons hin (kx_cons hini (kx_cons hco kx_all)))))))) rfl hr.1 hr.2.1 h0 hd hr.2.2
/-- what a callee finds: the cells cx of X -/
theorem kx_pre {cx : va_W} (F : kx_F G A s) (w : kx_W G A s (X ++ pl) H locs) (isC : List Nat) (hnC : va_nd isC = true) (hC : isC.map (fun i => X[i]?) = cx.map some) {As : List Value} : ∀ U : State, U.heap = H → s.WarmedH U.vm → va_Pc As (kx_Pre G cx H.size) As.toArray U := by
  intro U hU hW
  have hC' := kx_lift (pl := pl) isC hC
  refine ⟨rfl, by rw [hU], by rw [hU]; exact w.1.sub isC (kx_filt isC hC'), (w.2.1.sub isC hnC hC').weaken (fun _ _ _ _ => trivial), F.1.call w.2.2 (va_free w.2.1 w.2.2 F.2 isC hC') hU hW⟩
/-- what a callee finds: the cells cx of X, and the pool -/
theorem kx_preP {cx : va_W} (F : kx_F G A s) (w : kx_W G A s (X ++ pl) H locs) (isC : List Nat) (hnC : va_nd isC = true) (hC : isC.map (fun i => X[i]?) = cx.map some) {As : List Value} : ∀ U : State, U.heap = H → s.WarmedH U.vm → va_Pc As (kx_Pre G (cx ++ pl) H.size) As.toArray U := by
  intro U hU hW
  refine ⟨rfl, by rw [hU], by rw [hU]; exact w.1.part isC hC, (w.2.1.part isC hnC hC).weaken (fun _ _ _ _ => trivial), F.1.call w.2.2 (va_freeP w.2.1 w.2.2 F.2 isC hC) hU hW⟩
variable {S : Type} {mc ms : Nat} {cx wr : va_W} {st0 : List Value} {a : Array Value}
/-- behind a call that got the cells cx: an int, nothing, a reference -/
theorem kx_ci {post : Int32 → S → Prop} {wo : S → va_W} (F : kx_F G A s) (w : kx_W G A s (X ++ pl) H locs) (isC isR : List Nat) (hC : isC.map (fun i => X[i]?) = cx.map some) (hR : isR.map (fun i => X[i]?) = wr.map some) (hn : va_nd isR = true) (hdis : ∀ i ∈ isR, i ∉ isC)
    (hr : va_Run p l e R s m args below meth c H locs cells slots mc ms (F0 m pc ls st0) rest (va_Qi post (kx_B G (va_A cx H.size) wo) (va_A cx H.size) a) (va_A cx H.size))
    (kk : ∀ (r : Int32) (u : S) (H1 : Heap) (locs1 : List Loc), post r u → kx_W G A s ((wr ++ wo u) ++ pl) H1 locs1 → W p l e R s m args below meth c H1 locs1 (cells + mc) (slots + ms) Q (F0 m (pc + 3) ls (.int r :: rest))) : W p l e R s m args below meth c H locs cells slots Q (F0 m pc ls st0) := by
  have hFc := va_free w.2.1 w.2.2 F.2 isC (kx_lift (pl := pl) isC hC)
  refine va_calli hr w.2.2 (fun q _ h => hFc q h) hFc (fun r u t H1 locs1 ht hvm hw hB hz1 hk1 hS1 => ?_)
  obtain ⟨hP1, hD1⟩ := hB
  rw [ht] at hP1
  obtain ⟨hP2, hD2⟩ := va_joinQ w.1 w.2.1 isC isR hC hR hn hdis hk1 hFc hP1 hD1
  exact kk r u H1 locs1 hw ⟨hP2, hD2, hS1⟩
theorem kx_cv {post : S → Prop} {wo : S → va_W} (F : kx_F G A s) (w : kx_W G A s (X ++ pl) H locs) (isC isR : List Nat) (hC : isC.map (fun i => X[i]?) = cx.map some) (hR : isR.map (fun i => X[i]?) = wr.map some) (hn : va_nd isR = true) (hdis : ∀ i ∈ isR, i ∉ isC)
    (hr : va_Run p l e R s m args below meth c H locs cells slots mc ms (F0 m pc ls st0) rest (va_Qv post (kx_B G (va_A cx H.size) wo) (va_A cx H.size) a) (va_A cx H.size))
    (kk : ∀ (u : S) (H1 : Heap) (locs1 : List Loc), post u → kx_W G A s ((wr ++ wo u) ++ pl) H1 locs1 → W p l e R s m args below meth c H1 locs1 (cells + mc) (slots + ms) Q (F0 m (pc + 3) ls rest)) : W p l e R s m args below meth c H locs cells slots Q (F0 m pc ls st0) := by
  have hFc := va_free w.2.1 w.2.2 F.2 isC (kx_lift (pl := pl) isC hC)
  refine va_callv hr w.2.2 (fun q _ h => hFc q h) hFc (fun u t H1 locs1 ht hvm hw hB hz1 hk1 hS1 => ?_)
  obtain ⟨hP1, hD1⟩ := hB
  rw [ht] at hP1
  obtain ⟨hP2, hD2⟩ := va_joinQ w.1 w.2.1 isC isR hC hR hn hdis hk1 hFc hP1 hD1
  exact kk u H1 locs1 hw ⟨hP2, hD2, hS1⟩
theorem kx_cr {post : S → Prop} {wo : S → Nat → va_W} (F : kx_F G A s) (w : kx_W G A s (X ++ pl) H locs) (isC isR : List Nat) (hC : isC.map (fun i => X[i]?) = cx.map some) (hR : isR.map (fun i => X[i]?) = wr.map some) (hn : va_nd isR = true) (hdis : ∀ i ∈ isR, i ∉ isC)
    (hr : va_Run p l e R s m args below meth c H locs cells slots mc ms (F0 m pc ls st0) rest (va_Qr post (fun u a t => va_P G.1 vwCl (wo u a) t.heap ∧ va_D (va_A cx H.size) (wo u a)) (va_A cx H.size) a) (va_A cx H.size))
    (kk : ∀ (u : S) (ra : Nat) (H1 : Heap) (locs1 : List Loc), post u → kx_W G A s ((wr ++ wo u ra) ++ pl) H1 locs1 → W p l e R s m args below meth c H1 locs1 (cells + mc) (slots + ms) Q (F0 m (pc + 3) ls (.ref ra :: rest))) : W p l e R s m args below meth c H locs cells slots Q (F0 m pc ls st0) := by
  have hFc := va_free w.2.1 w.2.2 F.2 isC (kx_lift (pl := pl) isC hC)
  refine va_callr hr w.2.2 (fun q _ h => hFc q h) hFc (fun u ra t H1 locs1 ht hvm hw hB hz1 hk1 hS1 => ?_)
  obtain ⟨hP1, hD1⟩ := hB
  rw [ht] at hP1
  obtain ⟨hP2, hD2⟩ := va_joinQ w.1 w.2.1 isC isR hC hR hn hdis hk1 hFc hP1 hD1
  exact kk u ra H1 locs1 hw ⟨hP2, hD2, hS1⟩
/-- behind a call that got the cells cx and the pool -/
theorem kx_ciP {post : Int32 → S → Prop} {ro po : S → va_W} (F : kx_F G A s) (w : kx_W G A s (X ++ pl) H locs) (isC isR : List Nat) (hC : isC.map (fun i => X[i]?) = cx.map some) (hR : isR.map (fun i => X[i]?) = wr.map some) (hn : va_nd isR = true) (hdis : ∀ i ∈ isR, i ∉ isC)
    (hr : va_Run p l e R s m args below meth c H locs cells slots mc ms (F0 m pc ls st0) rest (va_Qi post (kx_B G (va_A (cx ++ pl) H.size) (fun u => ro u ++ po u)) (va_A (cx ++ pl) H.size) a) (va_A (cx ++ pl) H.size))
    (kk : ∀ (r : Int32) (u : S) (H1 : Heap) (locs1 : List Loc), post r u → kx_W G A s ((wr ++ ro u) ++ po u) H1 locs1 → W p l e R s m args below meth c H1 locs1 (cells + mc) (slots + ms) Q (F0 m (pc + 3) ls (.int r :: rest))) : W p l e R s m args below meth c H locs cells slots Q (F0 m pc ls st0) := by
  have hFc := va_freeP w.2.1 w.2.2 F.2 isC hC
  refine va_calli hr w.2.2 (fun q _ h => hFc q h) hFc (fun r u t H1 locs1 ht hvm hw hB hz1 hk1 hS1 => ?_)
  obtain ⟨hP1, hD1⟩ := hB
  rw [ht] at hP1
  obtain ⟨hP2, hD2⟩ := va_joinP w.1 w.2.1 isC isR hC hR hn hdis hk1 hFc hP1 hD1
  exact kk r u H1 locs1 hw ⟨hP2, hD2, hS1⟩
theorem kx_cvP {post : S → Prop} {ro po : S → va_W} (F : kx_F G A s) (w : kx_W G A s (X ++ pl) H locs) (isC isR : List Nat) (hC : isC.map (fun i => X[i]?) = cx.map some) (hR : isR.map (fun i => X[i]?) = wr.map some) (hn : va_nd isR = true) (hdis : ∀ i ∈ isR, i ∉ isC)
    (hr : va_Run p l e R s m args below meth c H locs cells slots mc ms (F0 m pc ls st0) rest (va_Qv post (kx_B G (va_A (cx ++ pl) H.size) (fun u => ro u ++ po u)) (va_A (cx ++ pl) H.size) a) (va_A (cx ++ pl) H.size))
    (kk : ∀ (u : S) (H1 : Heap) (locs1 : List Loc), post u → kx_W G A s ((wr ++ ro u) ++ po u) H1 locs1 → W p l e R s m args below meth c H1 locs1 (cells + mc) (slots + ms) Q (F0 m (pc + 3) ls rest)) : W p l e R s m args below meth c H locs cells slots Q (F0 m pc ls st0) := by
  have hFc := va_freeP w.2.1 w.2.2 F.2 isC hC
  refine va_callv hr w.2.2 (fun q _ h => hFc q h) hFc (fun u t H1 locs1 ht hvm hw hB hz1 hk1 hS1 => ?_)
  obtain ⟨hP1, hD1⟩ := hB
  rw [ht] at hP1
  obtain ⟨hP2, hD2⟩ := va_joinP w.1 w.2.1 isC isR hC hR hn hdis hk1 hFc hP1 hD1
  exact kk u H1 locs1 hw ⟨hP2, hD2, hS1⟩
/-- a method's end: its cells as the contract has them, 'is' their places -/
theorem kx_iret {post : Int32 → S → Prop} {wo : S → va_W} {v : Int32} (hQ : MQ below (va_Qi post (kx_B G A wo) A) args s cells slots A = Q) (S0 : CallFix p m c cc nL s args kx_T own) (hr : meth.sig.returnType = some .int) (hlocks : meth.locks = false) (w : kx_W G A s (X ++ pl) H locs) (is : List Nat) (hn : va_nd is = true) {xo : va_W} (hs : is.map (fun i => X[i]?) = xo.map some) (u : S) (hwo : xo ++ pl = wo u) (hp : post v u) (hdg : decode cc pc = .ok (.ireturn, 1)) :
    W p l e R s m args below meth c H locs cells slots Q (F0 m pc ls [.int v]) := by
  subst hQ
  exact W.iret S0.1 S0.2.1 hr (fun t ht hW => ⟨⟨v, u, rfl, hp, by rw [ht, ← hwo]; exact w.1.part is hs, by rw [← hwo]; exact w.2.1.part is hn hs⟩, w.2.2.F ht⟩) w.2.2.2.2 hdg hlocks
theorem kx_zret {post : Int32 → S → Prop} {wo : S → va_W} {v : Int32} (hQ : MQ below (va_Qi post (kx_B G A wo) A) args s cells slots A = Q) (S0 : CallFix p m c cc nL s args kx_T own) (hr : meth.sig.returnType = some .boolean) (hlocks : meth.locks = false) (hv : v = 0 ∨ v = 1) (w : kx_W G A s (X ++ pl) H locs) (is : List Nat) (hn : va_nd is = true) {xo : va_W} (hs : is.map (fun i => X[i]?) = xo.map some) (u : S) (hwo : xo ++ pl = wo u) (hp : post v u) (hdg : decode cc pc = .ok (.ireturn, 1)) :
    W p l e R s m args below meth c H locs cells slots Q (F0 m pc ls [.int v]) := by
  subst hQ
  exact W.zret S0.1 S0.2.1 hr (by rcases hv with rfl | rfl <;> decide) (fun t ht hW => ⟨⟨v, u, rfl, hp, by rw [ht, ← hwo]; exact w.1.part is hs, by rw [← hwo]; exact w.2.1.part is hn hs⟩, w.2.2.F ht⟩) w.2.2.2.2 hdg hlocks
theorem kx_vret {post : S → Prop} {wo : S → va_W} (hQ : MQ below (va_Qv post (kx_B G A wo) A) args s cells slots A = Q) (S0 : CallFix p m c cc nL s args kx_T own) (hr : meth.sig.returnType = none) (hlocks : meth.locks = false) (w : kx_W G A s (X ++ pl) H locs) (is : List Nat) (hn : va_nd is = true) {xo : va_W} (hs : is.map (fun i => X[i]?) = xo.map some) (u : S) (hwo : xo ++ pl = wo u) (hp : post u) (hdg : decode cc pc = .ok (.return_, 1)) :
    W p l e R s m args below meth c H locs cells slots Q (F0 m pc ls []) := by
  subst hQ
  exact W.vret S0.1 S0.2.1 hr (fun t ht hW => ⟨⟨u, rfl, hp, by rw [ht, ← hwo]; exact w.1.part is hs, by rw [← hwo]; exact w.2.1.part is hn hs⟩, w.2.2.F ht⟩) w.2.2.2.2 hdg hlocks
theorem kx_aret {post : S → Prop} {wo : S → Nat → va_W} {ra : Nat} {rn : String} (hQ : MQ below (va_Qr post (fun u a t => va_P G.1 vwCl (wo u a) t.heap ∧ va_D A (wo u a)) A) args s cells slots A = Q) (S0 : CallFix p m c cc nL s args kx_T own) (hr : meth.sig.returnType = some (.object rn)) (hlocks : meth.locks = false) (w : kx_W G A s (X ++ pl) H locs) (is : List Nat) (hn : va_nd is = true) {xo : va_W} (hs : is.map (fun i => X[i]?) = xo.map some) (u : S) (hwo : xo ++ pl = wo u ra) (hp : post u) (hdg : decode cc pc = .ok (.areturn, 1)) :
    W p l e R s m args below meth c H locs cells slots Q (F0 m pc ls [.ref ra]) := by
  subst hQ
  exact W.aret S0.1 S0.2.1 hr (Or.inl ⟨_, rfl⟩) (Or.inr ⟨_, rfl⟩) (fun t ht hW => ⟨⟨u, ra, rfl, hp, by rw [ht, ← hwo]; exact w.1.part is hs, by rw [← hwo]; exact w.2.1.part is hn hs⟩, w.2.2.F ht⟩) w.2.2.2.2 hdg hlocks
end KXR
/-- a method's start -/
theorem CtI.of {S : Type} {l : Launch} {y : MethodName} {cc : ByteArray} {maxL : Nat} {ret : Option FieldType} {rm : Room} {G : kx_G} {as : List Value} {wc : va_W} {post : Int32 → S → Prop} {wo : S → va_W} {mc ms : Nat} (hy : plainName y.cls = true) (has : (lg_sl as).length ≤ maxL) (lv : List (Nat × Value)) (hlv : lv_args 0 as = lv)
    (body : ∀ (p : Program) (e : Env) (s : State) (m : MethodId) (args : Array Value) (below : List Frame) (meth : Method) (c : Code) (A : Nat → Prop) (ls : Array Slot) (Q : State → Prop), MQ below (va_Qi post (kx_B G A wo) A) args s mc ms A = Q → CallFix p m c cc maxL s args kx_T y.cls → meth.sig.returnType = ret → meth.locks = false → kx_F G A s → kx_W G A s (wc ++ []) s.heap [] → lv_has ls maxL lv →
      W p l e rm s m args below meth c s.heap [] 0 0 Q (F0 m 0 ls [])) : CtI l y cc maxL ret rm G as wc post wo mc ms := by
  intro sz
  refine Met.ofW (cc := cc) (maxL := maxL) (ret := ret) hy rfl ?_
  intro p e s m args below meth c s₁ B hml hv
  obtain ⟨rfl, hsz, hP, hD0, hQ⟩ := hv
  have hts := atoms_spec (ws := Cond.code y cc maxL ret :: kx_T) B.pre
  have hown : s.vm.findClass y.cls = some m.cls := findClass_of_methodNamed B.named
  subst hsz
  have hD := hD0.self (sz := s.heap.size)
  have hl := lv_entry as (n := maxL) has
  rw [lg_entry_eq]
  subst hlv
  have hA : ∀ q : Nat, s.heap.size ≤ q → va_A wc s.heap.size q := fun q h => Or.inr h
  have hw : kx_W G (va_A wc s.heap.size) s (wc ++ []) s.heap [] := ⟨by rw [List.append_nil]; exact hP, by rw [List.append_nil]; exact hD, va_S.rf⟩
  exact body p e s m _ below meth c _ _ _ rfl ⟨B.exec, B.bytes, hml, hown, fun w h => hts w (List.mem_cons_of_mem _ h)⟩ B.returns B.notSynchronized ⟨hQ, hA⟩ hw hl
theorem CtI.ofF {S : Type} {l : Launch} {y : MethodName} {cc : ByteArray} {maxL : Nat} {ret : Option FieldType} {rm : Room} {G : kx_G} {as : List Value} {wc : va_W} {post : Int32 → S → Prop} {wo : S → va_W} {mc ms : Nat} (hy : plainFor y = true) (has : (lg_sl as).length ≤ maxL) (lv : List (Nat × Value)) (hlv : lv_args 0 as = lv)
    (body : ∀ (p : Program) (e : Env) (s : State) (m : MethodId) (args : Array Value) (below : List Frame) (meth : Method) (c : Code) (A : Nat → Prop) (ls : Array Slot) (Q : State → Prop), MQ below (va_Qi post (kx_B G A wo) A) args s mc ms A = Q → CallFix p m c cc maxL s args kx_T y.cls → meth.sig.returnType = ret → meth.locks = false → kx_F G A s → kx_W G A s (wc ++ []) s.heap [] → lv_has ls maxL lv →
      W p l e rm s m args below meth c s.heap [] 0 0 Q (F0 m 0 ls [])) : CtI l y cc maxL ret rm G as wc post wo mc ms := by
  intro sz
  refine va_MetF (cc := cc) (maxL := maxL) (ret := ret) hy rfl ?_
  intro p e s m args below meth c s₁ B hml hv
  obtain ⟨rfl, hsz, hP, hD0, hQ⟩ := hv
  have hts := atoms_spec (ws := Cond.code y cc maxL ret :: kx_T) B.pre
  have hown : s.vm.findClass y.cls = some m.cls := findClass_of_methodNamed B.named
  subst hsz
  have hD := hD0.self (sz := s.heap.size)
  have hl := lv_entry as (n := maxL) has
  rw [lg_entry_eq]
  subst hlv
  have hA : ∀ q : Nat, s.heap.size ≤ q → va_A wc s.heap.size q := fun q h => Or.inr h
  have hw : kx_W G (va_A wc s.heap.size) s (wc ++ []) s.heap [] := ⟨by rw [List.append_nil]; exact hP, by rw [List.append_nil]; exact hD, va_S.rf⟩
  exact body p e s m _ below meth c _ _ _ rfl ⟨B.exec, B.bytes, hml, hown, fun w h => hts w (List.mem_cons_of_mem _ h)⟩ B.returns B.notSynchronized ⟨hQ, hA⟩ hw hl
theorem CtV.of {S : Type} {l : Launch} {y : MethodName} {cc : ByteArray} {maxL : Nat} {rm : Room} {G : kx_G} {as : List Value} {wc : va_W} {post : S → Prop} {wo : S → va_W} {mc ms : Nat} (hy : plainName y.cls = true) (has : (lg_sl as).length ≤ maxL) (lv : List (Nat × Value)) (hlv : lv_args 0 as = lv)
    (body : ∀ (p : Program) (e : Env) (s : State) (m : MethodId) (args : Array Value) (below : List Frame) (meth : Method) (c : Code) (A : Nat → Prop) (ls : Array Slot) (Q : State → Prop), MQ below (va_Qv post (kx_B G A wo) A) args s mc ms A = Q → CallFix p m c cc maxL s args kx_T y.cls → meth.sig.returnType = none → meth.locks = false → meth.name = y.name → kx_F G A s → kx_W G A s (wc ++ []) s.heap [] → lv_has ls maxL lv →
      W p l e rm s m args below meth c s.heap [] 0 0 Q (F0 m 0 ls [])) : CtV l y cc maxL rm G as wc post wo mc ms := by
  intro sz
  refine Met.ofW (cc := cc) (maxL := maxL) (ret := none) hy rfl ?_
  intro p e s m args below meth c s₁ B hml hv
  obtain ⟨rfl, hsz, hP, hD0, hQ⟩ := hv
  have hts := atoms_spec (ws := Cond.code y cc maxL none :: kx_T) B.pre
  have hown : s.vm.findClass y.cls = some m.cls := findClass_of_methodNamed B.named
  have hin : meth.name = y.name := (name_of_methodNamed B.named B.method).1
  subst hsz
  have hD := hD0.self (sz := s.heap.size)
  have hl := lv_entry as (n := maxL) has
  rw [lg_entry_eq]
  subst hlv
  have hA : ∀ q : Nat, s.heap.size ≤ q → va_A wc s.heap.size q := fun q h => Or.inr h
  have hw : kx_W G (va_A wc s.heap.size) s (wc ++ []) s.heap [] := ⟨by rw [List.append_nil]; exact hP, by rw [List.append_nil]; exact hD, va_S.rf⟩
  exact body p e s m _ below meth c _ _ _ rfl ⟨B.exec, B.bytes, hml, hown, fun w h => hts w (List.mem_cons_of_mem _ h)⟩ B.returns B.notSynchronized hin ⟨hQ, hA⟩ hw hl
theorem CtR.of {S : Type} {l : Launch} {y : MethodName} {cc : ByteArray} {maxL : Nat} {ret : Option FieldType} {rm : Room} {G : kx_G} {as : List Value} {wc : va_W} {post : S → Prop} {wo : S → Nat → va_W} {mc ms : Nat} (hy : plainName y.cls = true) (has : (lg_sl as).length ≤ maxL) (lv : List (Nat × Value)) (hlv : lv_args 0 as = lv)
    (body : ∀ (p : Program) (e : Env) (s : State) (m : MethodId) (args : Array Value) (below : List Frame) (meth : Method) (c : Code) (A : Nat → Prop) (ls : Array Slot) (Q : State → Prop), MQ below (va_Qr post (fun u a t => va_P G.1 vwCl (wo u a) t.heap ∧ va_D A (wo u a)) A) args s mc ms A = Q → CallFix p m c cc maxL s args kx_T y.cls → meth.sig.returnType = ret → meth.locks = false → kx_F G A s → kx_W G A s (wc ++ []) s.heap [] → lv_has ls maxL lv →
      W p l e rm s m args below meth c s.heap [] 0 0 Q (F0 m 0 ls [])) : CtR l y cc maxL ret rm G as wc post wo mc ms := by
  intro sz
  refine Met.ofW (cc := cc) (maxL := maxL) (ret := ret) hy rfl ?_
  intro p e s m args below meth c s₁ B hml hv
  obtain ⟨rfl, hsz, hP, hD0, hQ⟩ := hv
  have hts := atoms_spec (ws := Cond.code y cc maxL ret :: kx_T) B.pre
  have hown : s.vm.findClass y.cls = some m.cls := findClass_of_methodNamed B.named
  subst hsz
  have hD := hD0.self (sz := s.heap.size)
  have hl := lv_entry as (n := maxL) has
  rw [lg_entry_eq]
  subst hlv
  have hA : ∀ q : Nat, s.heap.size ≤ q → va_A wc s.heap.size q := fun q h => Or.inr h
  have hw : kx_W G (va_A wc s.heap.size) s (wc ++ []) s.heap [] := ⟨by rw [List.append_nil]; exact hP, by rw [List.append_nil]; exact hD, va_S.rf⟩
  exact body p e s m _ below meth c _ _ _ rfl ⟨B.exec, B.bytes, hml, hown, fun w h => hts w (List.mem_cons_of_mem _ h)⟩ B.returns B.notSynchronized ⟨hQ, hA⟩ hw hl
theorem CtV.inj {S S' : Type} {l : Launch} {y : MethodName} {cc : ByteArray} {maxL : Nat} {rm : Room} {G : kx_G} {as : List Value} {wc : va_W} {post : S → Prop} {wo : S → va_W} {post' : S' → Prop} {wo' : S' → va_W} {mc ms : Nat} (h : CtV l y cc maxL rm G as wc post wo mc ms) (g : S → S') (hp : ∀ u, post u → post' (g u)) (hw : ∀ u, wo' (g u) = wo u) : CtV l y cc maxL rm G as wc post' wo' mc ms := by
  intro sz p e ha hc hk s m args below hf happ hP hK
  obtain ⟨n, o, h1, h2, h3, ⟨⟨u, e1, e2, e3⟩, e4⟩, e5⟩ := h sz p e ha hc hk s m args below hf happ hP hK
  refine ⟨n, o, h1, h2, h3, ⟨⟨g u, e1, hp u e2, ?_⟩, e4⟩, e5⟩
  unfold kx_B at e3 ⊢
  rw [hw]
  exact e3
theorem CtI.inj {S S' : Type} {l : Launch} {y : MethodName} {cc : ByteArray} {maxL : Nat} {ret : Option FieldType} {rm : Room} {G : kx_G} {as : List Value} {wc : va_W} {post : Int32 → S → Prop} {wo : S → va_W} {post' : Int32 → S' → Prop} {wo' : S' → va_W} {mc ms : Nat} (h : CtI l y cc maxL ret rm G as wc post wo mc ms) (g : S → S') (hp : ∀ r u, post r u → post' r (g u)) (hw : ∀ u, wo' (g u) = wo u) : CtI l y cc maxL ret rm G as wc post' wo' mc ms := by
  intro sz p e ha hc hk s m args below hf happ hP hK
  obtain ⟨n, o, h1, h2, h3, ⟨⟨r, u, e1, e2, e3⟩, e4⟩, e5⟩ := h sz p e ha hc hk s m args below hf happ hP hK
  refine ⟨n, o, h1, h2, h3, ⟨⟨r, g u, e1, hp r u e2, ?_⟩, e4⟩, e5⟩
  unfold kx_B at e3 ⊢
  rw [hw]
  exact e3
/-- an object of one of the rules, as Rule's own methods see it -/
def kx_rule (ki : Nat) (KC : String) (KT : u_T) (KN : Nat) (kt : Nat → FieldType) : Prop := kx_cls ki KC KT KN kt ∧ 3 ≤ KN ∧ KT 0 = ("PrefetchRules$Rule", "degree", "I", true) ∧ KT 1 = ("PrefetchRules$Rule", "said", "[I", true) ∧ KT 2 = ("PrefetchRules$Rule", "saidCount", "I", false) ∧ kt 0 = .int ∧ kt 2 = .int ∧ kt 1 = .array .int ∧ Cond.selects KC ⟨"PrefetchRules$Rule", "say", "(I)V"⟩ ⟨"PrefetchRules$Rule", "say", "(I)V"⟩ ∈ kx_T
section KXRU
variable {ki : Nat} {KC : String} {KT : u_T} {KN : Nat} {kt : Nat → FieldType}
theorem kx_rule.lt (h : kx_rule ki KC KT KN kt) {k : Nat} (hk : k < 3) : k < KN := Nat.lt_of_lt_of_le hk h.2.1
theorem kx_rule.t0 (h : kx_rule ki KC KT KN kt) : KT 0 = ("PrefetchRules$Rule", "degree", "I", true) := h.2.2.1
theorem kx_rule.t1 (h : kx_rule ki KC KT KN kt) : KT 1 = ("PrefetchRules$Rule", "said", "[I", true) := h.2.2.2.1
theorem kx_rule.t2 (h : kx_rule ki KC KT KN kt) : KT 2 = ("PrefetchRules$Rule", "saidCount", "I", false) := h.2.2.2.2.1
theorem kx_rule.y0 (h : kx_rule ki KC KT KN kt) : kt 0 = .int := h.2.2.2.2.2.1
theorem kx_rule.y2 (h : kx_rule ki KC KT KN kt) : kt 2 = .int := h.2.2.2.2.2.2.1
theorem kx_rule.s_say (h : kx_rule ki KC KT KN kt) : Cond.selects KC ⟨"PrefetchRules$Rule", "say", "(I)V"⟩ ⟨"PrefetchRules$Rule", "say", "(I)V"⟩ ∈ kx_T := h.2.2.2.2.2.2.2.2
theorem kx_rule.y1 (h : kx_rule ki KC KT KN kt) : kt 1 = .array .int := h.2.2.2.2.2.2.2.1
end KXRU
section KXZ
/-- the method has ended by the throw of a new X -/
def kx_TQ (below : List Frame) (X : String) (s : State) (locs : List Loc) (mc ms : Nat) : State → Prop := fun t => ∃ (ae : Addr) (ce : Cell), t.status = .running ∧ Ended t below (.threw ae) ∧ s.WarmedH t.vm ∧ s.sameButNew ({ t with vm := s.vm } : State) locs mc ms ∧ s.heap.size ≤ ae ∧ t.heap[ae]? = some ce ∧ s.vm.findClass X = some ce.cls ∧ ce.vm = .none
section KXT
variable {p : Program} {l : Launch} {e : Env} {R : Room} {s : State} {m : MethodId} {args : Array Value} {below : List Frame} {meth : Method} {c : Code} {H : Heap} {locs : List Loc} {cells slots : Nat} {cc : ByteArray} {nL : Nat} {own : String}
theorem kx_throw {X text : String} {names : List String} {ic ix it sa pc : Nat} {ls : Array Slot} (S : CallFix p m c cc nL s args kx_T own) (htr : e.platform.stackTraces = false)
    (hlocs : ∀ x ∈ locs, ∀ cell, s.heap[x.base]? = some cell → cell.vm.isStatics = false) (hX : Bundle.fit X = true) (hnames : ∀ n ∈ names, Bundle.fit n = true) (hat : ∀ a ∈ Bundle.ownAtoms own ic X names, a.before args s = true)
    (hcl : (Cond.classLink own ix X).before args s = true) (hini : (Cond.initialized X).before args s = true) (hstr : vk_R own it text sa s)
    (d0 : decode cc pc = .ok (.new ix, 3)) (d3 : decode cc (pc + 3) = .ok (.dup, 1)) (d4 : decode cc (pc + 4) = .ok (.ldc it, 2)) (d6 : decode cc (pc + 6) = .ok (.invokespecial ic, 3)) (d9 : decode cc (pc + 9) = .ok (.athrow, 1))
    (hout : c.exceptionTable.toList = []) (hsz : ls.size = nL) (hH : s.heap.size ≤ H.size) (hfr : names.length + 3 < R.frames) (hlo : 13 * (names.length + 1) + 43 ≤ R.locals) (hce : cells + 1 ≤ R.cells) (hsl : slots + 6 ≤ R.slots) (hlocks : meth.locks = false) :
    W p l e R s m args below meth c H locs cells slots (kx_TQ below X s locs (cells + 1) (slots + 6)) (F0 m pc ls []) := by
  obtain ⟨hexec, hb, hml, hown, -⟩ := S
  intro T hT Z
  subst hb
  obtain ⟨vm₁, cX, kX, hfX, hkX, -, -, Z₁, st1⟩ := Z.newCold hexec (own := own) (C := X) (index := ix) (n := 6) hown hcl (hat (.instantiable X 6) (by simp [Bundle.ownAtoms])) hini (g := F0 m pc ls []) rfl d0 hce hsl
  generalize hT1 : (T.setVm vm₁).pushCell { cls := cX, slots := kX.instanceTypes.map defaultValue, vm := .none } = T1 at Z₁ st1
  have hcellA : T1.heap[T.heap.size]? = some (freshCell cX kX) := by rw [← hT1]; exact State.heap_pushCell_size _ _
  obtain ⟨U, hsteps, hrun, hend, hW, hsame, ce, hce1, K⟩ := Z₁.ctorThrowS hexec htr (own := own) (cls := X) (names := names) (ic := ic) hown hX hnames hat hlocs hfX hkX hcellA (by rw [hT]; exact hH) (msg := .ref sa) rfl
    (g := F0 m (pc + 6) ls [.ref sa, .ref T.heap.size, .ref T.heap.size]) rfl (by rw [hml]; exact hsz) rfl rfl (rest := []) rfl d6 d9 (fun y hy => by rw [hout] at hy; cases hy) hfr (by simp [JFrame.monitorRoom, Value.category]; omega) hlocks
  refine ⟨U, ?_, T.heap.size, ce, hrun, hend, hW, hsame, by rw [hT]; exact hH, hce1, K.cls, K.vm⟩
  refine st1 _ ?_
  show Steps p.tables e below (T1.setTop (F0 m (pc + 3) ls [.ref T.heap.size])) _
  jvm_step Z₁.here [Z₁.here.top, hexec, d3, Value.category]
  exact Z₁.ldcString hexec (own := own) (text := text) (index := it) (a := sa) hown hstr.1 hstr.2 (g := F0 m (pc + 4) ls [.ref T.heap.size, .ref T.heap.size]) rfl d4 _ hsteps
end KXT
end KXZ

