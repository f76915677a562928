/-! The contract of a method that ends by a throw -/
def CtT (l : Launch) (y : MethodName) (cc : ByteArray) (maxL : Nat) (ret : Option FieldType) (rm : Room) (G : kx_G) (as : List Value) (wc : va_W) (X : String) (mc ms : Nat) : Prop :=
  ∀ sz : Nat, MetFree l y (headSpec (Cond.code y cc maxL ret :: kx_T) rm) (va_Pc as (kx_Pre G wc sz)) (fun _ _ _ _ _ => True) (fun a st o t => ∃ (ae : Addr) (ce : Cell), o = .threw ae ∧ st.WarmedH t.vm ∧ st.sameButNew ({ t with vm := st.vm } : State) [] mc ms ∧ st.heap.size ≤ ae ∧ t.heap[ae]? = some ce ∧ st.vm.findClass X = some ce.cls ∧ ce.vm = .none)
theorem CtT.of {l : Launch} {y : MethodName} {cc : ByteArray} {maxL : Nat} {ret : Option FieldType} {rm : Room} {G : kx_G} {as : List Value} {wc : va_W} {X : String} {mc ms : Nat} (hl0 : l.stackTraces = false) (hy : plainName y.cls = true) (has : (lg_sl as).length ≤ maxL) (lv : List (Nat × Value)) (hlv : lv_args 0 as = lv)
    (body : ∀ (p : Program) (e : Env) (s : State) (m : MethodId) (args : Array Value) (below : List Frame) (meth : Method) (c : Code) (A : Nat → Prop) (ls : Array Slot), CallFix p m c cc maxL s args kx_T y.cls → meth.sig.returnType = ret → meth.locks = false → c.exceptionTable.toList = [] → (∀ T : State, Stand p l e rm s m args below meth c T [] 0 0 → e.platform.stackTraces = false) → kx_F G A s → kx_W G A s (wc ++ []) s.heap [] → lv_has ls maxL lv →
      W p l e rm s m args below meth c s.heap [] 0 0 (kx_TQ below X s [] mc ms) (F0 m 0 ls [])) : CtT l y cc maxL ret rm G as wc X mc ms := by
  intro sz
  refine MetFree.of_bodyS (code := cc) (maxLocals := maxL) (ret := ret) hy ?_ ?_
  · intro args s m h hn
    obtain ⟨meth, c, h1, h2, h3, h4, h5, h6, -, -⟩ := Cond.code_spec hn (atoms_spec (ws := Cond.code y cc maxL ret :: kx_T) h _ List.mem_cons_self)
    exact ⟨meth, c, h1, h2, h3, h4, h5, h6⟩
  · intro p e s m args below meth c s₁ B hml hP _
    obtain ⟨rfl, hsz, hP1, hD0, hQ⟩ := hP
    have hh0 : s₁.heap = s.heap := by rw [B.state]; rfl
    have hts := atoms_spec (ws := Cond.code y cc maxL ret :: kx_T) B.pre
    have hown : s.vm.findClass y.cls = some m.cls := findClass_of_methodNamed B.named
    subst hsz
    have hD := hD0.self (sz := s.heap.size)
    have hl := lv_entry as (n := maxL) has
    subst hlv
    have hA : ∀ q : Nat, s.heap.size ≤ q → va_A wc s.heap.size q := fun q h => Or.inr h
    have hw : kx_W G (va_A wc s.heap.size) s (wc ++ []) s.heap [] := ⟨by rw [List.append_nil]; exact hP1, by rw [List.append_nil]; exact hD, va_S.rf⟩
    have htab : c.exceptionTable.toList = [] := by
      have h0 := B.noHandlers (hts _ List.mem_cons_self)
      simpa using h0
    have hbody := body p e s m _ below meth c _ _ ⟨B.exec, B.bytes, hml, hown, fun w h => hts w (List.mem_cons_of_mem _ h)⟩ B.returns B.notSynchronized htab (fun T X => by rw [Example.NoTraceControls.admits_follows X.admits]; exact hl0) ⟨hQ, hA⟩ hw hl
    rw [← lg_entry_eq] at hbody
    obtain ⟨t, a1, ae, ce, b1, b2, b3, b4, b5, b6, b7, b8⟩ := hbody s₁ hh0 (Stand.of_body B)
    exact ⟨t, .threw ae, a1, b1, b2, ⟨ae, ce, rfl, b3, b4, b5, b6, b7, b8⟩⟩
/-! A call that throws, and the one handler that takes it -/
theorem kx_find1 {e : Env} {s : State} {f : JFrame} {a : Addr} {meth : Method} {code : Code} {x : ExceptionTableEntry} {c : ClassId} {cell : Cell} (hm : s.vm.method? f.method = some meth) (hc : meth.code = some code) (htab : code.exceptionTable.toList = [x]) (hx : covers x f.pc = true) (h0 : x.catchType ≠ 0)
    (hl : s.vm.ClassLinks e.platform f.method.cls x.catchType c) (hcell : s.heap[a]? = some cell) (hobj : ∀ k, cell.vm ≠ .statics k) (hk : ∃ k, s.vm.classes[cell.cls]? = some k) (hcl : ∃ k, s.vm.classes[c]? = some k) (hfit : s.vm.assignable cell.cls c = true)
    (Q : Handler → Pre) (E : CtlPost) (d : Bool) (acts : List Action) : wp (findHandler f a) Q E e d acts s ↔ Q (.found x.handlerPc) d acts (s.setVm (s.vm.noted f.method.cls x.catchType (.cls c))) := by
  rw [Jvm.W.findHandler_eq hm hc, htab]
  have al : s.vm.Alike (s.vm.noted f.method.cls x.catchType (.cls c)) := (Vm.Alike.refl s.vm).noted _ _ _
  obtain ⟨r1, r2⟩ := (resolveClass_links e.toSetting hl).op (op := VmOp.resolveClass f.method.cls x.catchType) rfl
  obtain ⟨ka, ha⟩ := hk
  obtain ⟨kb, hb⟩ := hcl
  obtain ⟨ka', ha', -⟩ := al.2.2 _ _ ha
  obtain ⟨kb', hb', -⟩ := al.2.2 _ _ hb
  have fit2 : (s.vm.noted f.method.cls x.catchType (.cls c)).assignable cell.cls c = true := by rw [al.assignable]; exact hfit
  simp only [covers] at hx
  simp [findHandler.go, hx, h0, r1, r2, hcell, hobj, ha', hb', fit2, VmOp.dirties, VmOp.acts]
theorem kx_step1 {e : Env} {s : State} {a : Addr} {f : JFrame} {r : List Frame} {pc : Nat} {vm' : Vm} (hfind : ∀ (Q : Handler → Pre) (E : CtlPost) (d : Bool) (acts : List Action), wp (findHandler f a) Q E e d acts s ↔ Q (.found pc) d acts (s.setVm vm')) :
    (stepThrowing e s a (.java f :: r)).Is ((s.setVm vm').setFrames (.java { f with pc := pc, stack := [.ref a] } :: r)) [] := by
  simp only [stepThrowing, searchFrame, vmDo]
  generalize hr : Sem.go _ e false [] s = res
  obtain ⟨as, rfl, ha⟩ := Sem.eq_ok_of hr (a := Handler.found pc) (s' := s.setVm vm') (acts' := []) (by simp [hfind _ _ _ _])
  exact ⟨rfl, ha⟩
section KXC
variable {p : Program} {l : Launch} {e : Env} {R : Room} {s : State} {m : MethodId} {args : Array Value} {below : List Frame} {meth : Method} {c : Code} {H : Heap} {locs : List Loc} {cells slots : Nat} {Q : State → Prop} {T : State}
theorem kx_caught (X : Stand p l e R s m args below meth c T locs cells slots) {g : JFrame} (hg : g.method = m) {a : Addr} {own name : String} (hown : s.vm.findClass own = some m.cls) {x : ExceptionTableEntry} (htab : c.exceptionTable.toList = [x]) (hx : covers x g.pc = true) (h0 : x.catchType ≠ 0)
    (hlink : (Cond.classLink own x.catchType name).before args s = true) {cell : Cell} (hcT : s.vm.findClass name = some cell.cls) (hcell : T.heap[a]? = some cell) (hobj : cell.vm = .none) (hself : s.vm.assignable cell.cls cell.cls = true) :
    ∃ vm', Stand p l e R s m args below meth c (T.setVm vm') locs cells slots ∧ ∀ target, Steps p.tables e below ((T.setVm vm').setTop { g with pc := x.handlerPc, stack := [.ref a] }) target → Steps p.tables e below ((T.setTop g).pushFrame (.throwing a)) target := by
  subst hg
  have hpl : e.platform.magicAccessors = ({} : Platform).magicAccessors := by rw [X.admits.platform]
  obtain ⟨c', hc', hcl⟩ := Cond.classLink_spec hown hlink e.platform hpl
  cases hcT.symm.trans hc'
  obtain ⟨dk, _, _, kt, hd, _, _, _, _, hkt, _, hopn⟩ := hcl.here
  have hW' : s.WarmedH (T.vm.noted g.method.cls x.catchType (.cls cell.cls)) := X.warmed.noted hd hopn (State.rightAt_cls hcl)
  obtain ⟨kt', hkt', -⟩ := X.warmed.alike.2.2 _ _ hkt
  have fit1 : T.vm.assignable cell.cls cell.cls = true := by rw [X.warmed.alike.assignable]; exact hself
  refine ⟨_, X.noted hW', fun target hrest => ?_⟩
  have hfind := kx_find1 (e := e) (s := (T.setTop g).pushFrame (.throwing a)) (f := g) (a := a) (meth := meth) (code := c) (x := x) (c := cell.cls) (cell := cell) X.method' X.code htab hx h0 (X.warmed.classLinks hcl) hcell (fun k z => by rw [hobj] at z; cases z) ⟨kt', hkt'⟩ ⟨kt', hkt'⟩ fit1
  obtain ⟨hgo, hw⟩ := X.here.throwing a
  refine Steps.head hgo hw ?_
  rw [stepThread_throwing (frames_entered X.here.top _), (kx_step1 (s := (T.setTop g).pushFrame (.throwing a)) hfind).1]
  obtain ⟨g₀, hg0⟩ := Option.isSome_iff_exists.mp X.here.top
  obtain ⟨r, hr⟩ := State.topJava?_eq_some.mp hg0
  have hr' : (T.setVm (T.vm.noted g.method.cls x.catchType (.cls cell.cls))).frames = .java g₀ :: r := hr
  rw [State.setTop_of_frames _ hr'] at hrest
  have e1 : ∀ (u : State) (vm' : Vm) (F K : List Frame), ((u.setFrames F).setVm vm').setFrames K = (u.setVm vm').setFrames K := fun u vm' F K => by
    rw [show (u.setFrames F).setVm vm' = (u.setVm vm').setFrames F from rfl, State.setFrames_setFrames]
  rw [hr, List.tail_cons, State.pushFrame, e1, State.setTop_of_frames _ hr, e1]
  exact hrest
end KXC
section KXU
variable {p : Program} {l : Launch} {e : Env} {R : Room} {s : State} {m : MethodId} {args : Array Value} {below : List Frame} {meth : Method} {c : Code} {H : Heap} {locs : List Loc} {cells slots : Nat} {Q : State → Prop}
variable {y : MethodName} {bytes cc : ByteArray} {maxL nL n index pc : Nat} {ret : Option FieldType} {rm : Room} {own C : String} {b : Nat} {As rest : List Value} {G : kx_G} {cx : va_W} {ls : Array Slot}
/-- the call throws a new Xn, and the caller's one handler takes it -/
theorem kx_ct {Xn : String} {x : ExceptionTableEntry} (S : CallFix p m c cc nL s args kx_T own) (hM : CtT l y bytes maxL ret rm G (.ref b :: As) cx Xn 1 6) (cw : CallW R s args own C index y bytes maxL ret (Cond.code y bytes maxL ret :: kx_T) rm 1 6 n) (hp : PreV s H C b (va_Pc (.ref b :: As) (kx_Pre G cx H.size)) As)
    (hn : As.length = n) (hsize : ls.size = nL) (hW : (rest.map fun v => v.category).sum ≤ 8) (hdg : decode cc pc = .ok (.invokevirtual index, 3)) (hf : cells + 1 ≤ R.cells ∧ slots + 6 ≤ R.slots)
    (htab : c.exceptionTable.toList = [x]) (hcov : covers x pc = true) (h0 : x.catchType ≠ 0) (hlk : (Cond.classLink own x.catchType Xn).before args s = true) (hcast : (Cond.castable Xn Xn).before args s = true)
    (kk : ∀ (ae : Nat) (H1 : Heap), H.size ≤ H1.size → (∀ q : Nat, q < H.size → H1[q]? = H[q]?) → W p l e R s m args below meth c H1 locs (cells + 1) (slots + 6) Q (F0 m x.handlerPc ls [.ref ae])) :
    W p l e R s m args below meth c H locs cells slots Q (F0 m pc ls (As.reverse ++ .ref b :: rest)) := by
  obtain ⟨⟨hrc, hrs, hfr, hlo, hws, hcw, hcode, hini, hy, hlen, hl⟩, hin, hse⟩ := cw
  obtain ⟨hx, hb, hml, ho, hts⟩ := S
  obtain ⟨hbl, ⟨cellB, hcB, hoB, hclB⟩, hPc⟩ := hp
  intro T hT X
  subst hb
  obtain ⟨mk, methM, hnamed, hmethM, hstM, habM⟩ := Cond.instanceMethod_spec hin
  obtain ⟨methM', cM, hmethM', -, -, -, -, -, -, hsigM⟩ := Cond.code_spec hnamed hcode
  cases hmethM.symm.trans hmethM'
  obtain ⟨c2, r2, m2, q1, q2, q3, q4, kP, hkP, hkPi⟩ := Cond.selects_spec hse
  cases hclB.symm.trans q1
  cases (State.methodFound?_of_named hnamed hy).symm.trans q2
  cases hnamed.symm.trans q3
  have hselP : selectMethod e.platform s.vm cellB.cls mk = .method mk := by rw [Launch.admits_selectMethod X.admits]; exact q4
  obtain ⟨vm₁, X₁, hstep₁⟩ := X.invokevirtual hx ho hl hnamed hmethM hstM hkP hkPi hy (a := b) (cell := cellB) (by rw [hT]; exact hcB)
    (fun z h => by rw [h] at hoB; cases hoB) hselP hmethM habM hkP hkPi (g := F0 m pc ls (As.reverse ++ .ref b :: rest)) rfl (argsL := As) (rest := rest) (hn.trans (hlen _ hsigM)) rfl hdg
  have hn1 := X₁.named hnamed
  obtain ⟨methY, cY, hmY, hcY, -, hlY, -, -, -, -⟩ := Cond.code_spec hn1 (hws _ hcw args (T.setVm vm₁) X₁.warmed)
  obtain ⟨kY, hkY, -⟩ := className_of_methodNamed hn1
  have hinitY : kY.init = .initialized := Cond.initialized_spec (args := args) (findClass_of_methodNamed hn1) hkY (word_at X₁.warmed (Or.inl (by first | rfl | simp [Cond.onTables, Cond.keeps, Cond.steady])) hini)
  have happ : (headSpec (Cond.code y bytes maxL ret :: kx_T) rm).appliesLoose y e.platform ((T.setVm vm₁).calling (F0 m pc ls rest) mk (Value.ref b :: As).toArray) = true :=
    Spec.appliesLoose_calling (g := F0 m pc ls rest) X₁.here hdg hn1 hkY hinitY
      (X₁.room_calling (g := F0 m pc ls rest) (R' := rm) (hsize.trans hml.symm) hmY hcY hfr (by rw [hlY]; simp [JFrame.monitorRoom]; omega) (by rw [hrc]; exact hf.1) (by rw [hrs]; exact hf.2)) (atoms_intro fun w hw => hws w hw _ _ X₁.warmed)
  have hfr1 : ((T.setVm vm₁).setTop (F0 m pc ls rest)).frames = [.java (F0 m pc ls rest)] ++ below := by rw [State.frames_setTop' _ X₁.here.top, X₁.tail]; rfl
  obtain ⟨o, s₂, hsteps, -, hend, hq⟩ := Steps.callFree (hM H.size) p X₁.admits X₁.cas X₁.clock (acts := []) hfr1 happ (hbl _ _ _ _ (hPc (T.setVm vm₁) hT X₁.warmed)) trivial
  obtain ⟨ae, ce, rfl, w1, w2, w3, w4, w5, w6⟩ := hq
  rw [hfr1] at hend
  obtain ⟨T', X', wW, hsame, ht⟩ := X₁.outOfThrown (g := F0 m pc ls rest) rfl (mk := mk) (a := (Value.ref b :: As).toArray) (t := s₂) (x := ae) (L := []) (k := 1) (n := 6) hend w1 w2
  rw [List.append_nil] at X'
  have w4' : T'.heap[ae]? = some ce := by rw [ht] at w4; exact w4
  have w5' : s.vm.findClass Xn = some ce.cls := by rw [← X₁.warmed.alike.findClass]; exact w5
  obtain ⟨cc1, cc2, z1, z2, z3⟩ := Cond.castable_spec hcast
  cases w5'.symm.trans z1
  cases z1.symm.trans z2
  obtain ⟨vm', X'', st2⟩ := kx_caught X' (g := F0 m pc ls rest) rfl (a := ae) ho htab hcov h0 hlk (cell := ce) w5' w4' w6 z3
  obtain ⟨t2, a1, b1⟩ := kk ae T'.heap (by rw [← hT]; exact hsame.2.1) (fun q hq => by
    rw [← hT] at hq ⊢
    obtain ⟨cq, hcq⟩ : ∃ cq, T.heap[q]? = some cq := ⟨T.heap[q], Array.getElem?_eq_getElem hq⟩
    rw [hcq]
    exact State.sameButNew.old_cell hsame hcq) (T'.setVm vm') rfl X''
  refine ⟨t2, hstep₁ _ (fun acts => ?_), b1⟩
  rw [doInvoke_state]
  refine hsteps.trans ?_
  rw [ht]
  exact st2 t2 a1
end KXU
/-- the words of a throw: in the tables, or kept as kx_Y has them -/
def kx_okA (a : Cond) : Bool := (kx_good a && lw_tbl.contains a) || (kx_face a && lw_tbl.contains a) || decide (a = .laysStatic Bundle.tN "UNASSIGNED_STACK" Bundle.steD) || decide (a = .laysStatic Bundle.tN "SUPPRESSED_SENTINEL" Bundle.listD) || decide (a = .isRef (.static Bundle.tN "UNASSIGNED_STACK" Bundle.steD)) || decide (a = .isRef (.static Bundle.tN "SUPPRESSED_SENTINEL" Bundle.listD))
theorem kx_own {p : Program} {m : MethodId} {c : Code} {cc : ByteArray} {nL : Nat} {s : State} {args : Array Value} {own : String} {g : Nat → Nat} {A : Nat → Prop} {L : List Cond} (S : CallFix p m c cc nL s args kx_T own) (hY : kx_Y g A s) (h : L.all kx_okA = true) : ∀ a ∈ L, a.before args s = true := by
  intro a ha
  have h1 := List.all_eq_true.mp h a ha
  simp only [kx_okA, Bool.or_eq_true, Bool.and_eq_true, decide_eq_true_eq, List.contains_iff_mem] at h1
  rcases h1 with ((((⟨h2, h3⟩ | ⟨h2, h3⟩) | rfl) | rfl) | rfl) | rfl
  · exact S.2.2.2.2 _ (kx_mem h3 h2)
  · exact kx_face_any h2 rfl (hY.1 _ (List.mem_filter.mpr ⟨h3, h2⟩))
  · exact hY.2.1.lays
  · exact hY.2.2.1.lays
  · exact hY.2.1.isRef
  · exact hY.2.2.1.isRef
def kx_up : List String := ["java/lang/RuntimeException", "java/lang/Exception"]
theorem kx_own76 : (Bundle.ownAtoms "PrefetchRules" 76 "java/lang/IllegalArgumentException" kx_up).all kx_okA = true := by decide +kernel
theorem kx_own107 : (Bundle.ownAtoms "PrefetchRules" 107 "java/lang/IndexOutOfBoundsException" kx_up).all kx_okA = true := by decide +kernel
theorem kx_w72 : Cond.classLink "PrefetchRules" 72 "java/lang/IllegalArgumentException" ∈ kx_T := kx_mem (List.contains_iff_mem.mp (by decide +kernel)) (by decide +kernel)
theorem kx_w103 : Cond.classLink "PrefetchRules" 103 "java/lang/IndexOutOfBoundsException" ∈ kx_T := kx_mem (List.contains_iff_mem.mp (by decide +kernel)) (by decide +kernel)
theorem kx_wi1 : Cond.initialized "java/lang/IllegalArgumentException" ∈ kx_T := kx_mem (List.contains_iff_mem.mp (by decide +kernel)) (by decide +kernel)
theorem kx_wi2 : Cond.initialized "java/lang/IndexOutOfBoundsException" ∈ kx_T := kx_mem (List.contains_iff_mem.mp (by decide +kernel)) (by decide +kernel)
def rm_T : Room := { frames := 6, cells := 1, slots := 6, locals := 100 }
theorem c_Main_passT (l : Launch) (hl0 : l.stackTraces = false) (G : kx_G) (h : Nat) (wc : va_W) (p0 : Int32) (hp : p0 < (1 : Int32) ∨ ¬ p0 ≤ (100 : Int32)) : CtT l y_Main_pass b_Main_pass 4 (some .int) rm_T G [.ref h, .int p0] wc "java/lang/IllegalArgumentException" 1 6 := by
  refine CtT.of hl0 (by decide) (Nat.le_of_ble_eq_true rfl) [(0, .ref h), (1, .int p0)] rfl ?_
  intro p e s m args below meth c A ls S hr hlocks htab htr F w hl
  have S : CallFix p m c b_Main_pass 4 s args kx_T "PrefetchRules" := S
  obtain ⟨hx, hb, hml, hown, hts⟩ := id S
  have thr : W p l e rm_T s m args below meth c s.heap [] 0 0 (kx_TQ below "java/lang/IllegalArgumentException" s [] 1 6) (F0 m 11 ls []) := fun T0 hT0 Z0 =>
    kx_throw (names := kx_up) (text := "the cycles are none of 1 to 100") S (htr T0 Z0) (fun x hx => by cases hx) (by decide +kernel) (by decide +kernel) (kx_own S F.1.2.2.2 kx_own76) (hts _ kx_w72) (hts _ kx_wi1) F.1.2.2.2.2.2.2.1
      d_Main_pass_11 d_Main_pass_14 d_Main_pass_15 d_Main_pass_17 d_Main_pass_20 htab hl.1 (Nat.le_refl _) (by decide) (by decide) (by decide) (by decide) hlocks T0 hT0 Z0
  refine lv_iload_n hx hb d_Main_pass_0 rfl (lv_at hl 1 rfl) ?_
  refine lv_iconst (v := (1 : Int32)) hx hb d_Main_pass_1 (by decide) ?_
  refine lv_icmp_lt (tgt := 11) hx hb d_Main_pass_2 (by decide) (fun c2 => thr) (fun c2 => ?_)
  refine lv_iload_n hx hb d_Main_pass_5 rfl (lv_at hl 1 rfl) ?_
  refine lv_bipush (v := (100 : Int32)) hx hb d_Main_pass_6 (by decide) ?_
  exact lv_icmp_le (tgt := 21) hx hb d_Main_pass_8 (by decide) (fun c8 => absurd c8 (hp.resolve_left c2)) (fun c8 => thr)
/-! Getters: nothing at all changes -/
def CtG (l : Launch) (y : MethodName) (cc : ByteArray) (maxL : Nat) (rm : Room) (G : kx_G) (as : List Value) (wc : va_W) (x : Int32) : Prop :=
  ∀ sz : Nat, Met l y (Cond.code y cc maxL (some .int) :: kx_T) rm (va_Pc as (kx_Pre G wc sz)) (va_Qi (fun (r : Int32) (_ : Unit) => x = r) (fun _ _ => True) (fun _ => False)) 0 0 (fun _ => False)
theorem CtG.of {l : Launch} {y : MethodName} {cc : ByteArray} {maxL : Nat} {rm : Room} {G : kx_G} {as : List Value} {wc : va_W} {x : Int32} (hy : plainName y.cls = true) (has : (lg_sl as).length ≤ maxL) (lv : List (Nat × Value)) (hlv : lv_args 0 as = lv)
    (body : ∀ (p : Program) (e : Env) (s : State) (m : MethodId) (args : Array Value) (below : List Frame) (meth : Method) (c : Code) (A : Nat → Prop) (ls : Array Slot), CallFix p m c cc maxL s args kx_T y.cls → meth.sig.returnType = some .int → meth.locks = false → kx_F G A s → kx_W G A s (wc ++ []) s.heap [] → lv_has ls maxL lv →
      W p l e rm s m args below meth c s.heap [] 0 0 (MQ below (va_Qi (fun (r : Int32) (_ : Unit) => x = r) (fun _ _ => True) (fun _ => False)) args s 0 0 (fun _ => False)) (F0 m 0 ls [])) : CtG l y cc maxL rm G as wc x := by
  intro sz
  refine Met.ofW (cc := cc) (maxL := maxL) (ret := some .int) hy rfl ?_
  intro p e s m args below meth c s₁ B hml hv
  obtain ⟨rfl, hsz, hP, hD0, hQ⟩ := hv
  have hts := atoms_spec (ws := Cond.code y cc maxL (some .int) :: kx_T) B.pre
  have hown : s.vm.findClass y.cls = some m.cls := findClass_of_methodNamed B.named
  subst hsz
  have hD := hD0.self (sz := s.heap.size)
  have hl := lv_entry as (n := maxL) has
  rw [lg_entry_eq]
  subst hlv
  have hA : ∀ q : Nat, s.heap.size ≤ q → va_A wc s.heap.size q := fun q h => Or.inr h
  have hw : kx_W G (va_A wc s.heap.size) s (wc ++ []) s.heap [] := ⟨by rw [List.append_nil]; exact hP, by rw [List.append_nil]; exact hD, va_S.rf⟩
  exact body p e s m _ below meth c _ _ ⟨B.exec, B.bytes, hml, hown, fun w h => hts w (List.mem_cons_of_mem _ h)⟩ B.returns B.notSynchronized ⟨hQ, hA⟩ hw hl
section KXG
variable {p : Program} {l : Launch} {e : Env} {R : Room} {s : State} {m : MethodId} {args : Array Value} {below : List Frame} {meth : Method} {c : Code} {H : Heap} {locs : List Loc} {cells slots : Nat} {Q : State → Prop} {cc : ByteArray} {pc : Nat} {ls : Array Slot} {st0 rest : List Value} {a : Array Value} {x : Int32}
theorem kx_gret {own : String} {nL : Nat} (S : CallFix p m c cc nL s args kx_T own) (hr : meth.sig.returnType = some .int) (hlocks : meth.locks = false) (hdg : decode cc pc = .ok (.ireturn, 1)) :
    W p l e R s m args below meth c s.heap [] 0 0 (MQ below (va_Qi (fun (r : Int32) (_ : Unit) => x = r) (fun _ _ => True) (fun _ => False)) args s 0 0 (fun _ => False)) (F0 m pc ls [.int x]) :=
  W.iret S.1 S.2.1 hr (fun t ht hW => ⟨⟨x, (), rfl, rfl, trivial⟩, by rw [ht]; exact Nat.le_refl _, fun q _ _ => by rw [ht]⟩) (fun q hq => by cases hq) hdg hlocks
theorem kx_cg (hr : va_Run p l e R s m args below meth c H locs cells slots 0 0 (F0 m pc ls st0) rest (va_Qi (fun (r : Int32) (_ : Unit) => x = r) (fun _ _ => True) (fun _ => False) a) (fun _ => False))
    (kk : ∀ H1 : Heap, H.size ≤ H1.size → (∀ q : Nat, q < H.size → H1[q]? = H[q]?) → W p l e R s m args below meth c H1 locs cells slots Q (F0 m (pc + 3) ls (.int x :: rest))) : W p l e R s m args below meth c H locs cells slots Q (F0 m pc ls st0) := by
  intro T hT X
  obtain ⟨v, st₀, t, T', L, h0, X', hL, e1, e2, ⟨⟨r, u, hv, hp, hb⟩, hz, hk⟩, st⟩ := hr T hT X
  cases hv
  subst hp
  have hL0 : L = [] := by
    cases L with
    | nil => rfl
    | cons q L => exact (hL q List.mem_cons_self).elim
  subst hL0
  rw [List.append_nil] at X'
  rw [h0] at hz hk
  obtain ⟨t2, a1, b1⟩ := kk T'.heap (by rw [e1]; exact hz) (fun q h1 => by rw [e1]; exact hk q h1 (fun z => z)) T' rfl X'
  exact ⟨t2, st t2 a1, b1⟩
end KXG
theorem c_Store_sizeG (l : Launch) (G : kx_G) (h : Nat) (a1 : Nat) (a2 : Nat) (N : Nat) (u : sg_store) : CtG l y_Store_size b_Store_size 1 rm_Store_size G [.ref h] [(h, .inr (1, [.ref a1, .ref a2, .int u.1])), (a1, .inl (G.2 0, N, .inl u.2.1)), (a2, .inl (G.2 1, N, .inl u.2.2))] u.1 := by
  refine CtG.of (by decide) (Nat.le_of_ble_eq_true rfl) [(0, .ref h)] rfl ?_
  intro p e s m args below meth c A ls S hr hlocks F w hl
  have S : CallFix p m c b_Store_size 1 s args kx_T "PrefetchRules$Store" := S
  obtain ⟨hx, hb, hml, hown, hts⟩ := id S
  have w : kx_W G A s ([(h, .inr (1, [.ref a1, .ref a2, .int u.1])), (a1, .inl (G.2 0, N, .inl u.2.1)), (a2, .inl (G.2 1, N, .inl u.2.2))] ++ []) s.heap [] := w
  refine lv_aload_n hx hb d_Store_size_0 rfl (lv_at hl 0 rfl) ?_
  refine kx_get S F w kc_Store 0 rfl 2 (by decide) kw_80905d0669 rfl d_Store_size_1 ?_
  exact kx_gret S hr hlocks d_Store_size_4
theorem c_Queue_sizeG (l : Launch) (G : kx_G) (h : Nat) (a1 : Nat) (a2 : Nat) (u : sg_queue) : CtG l y_Queue_size b_Queue_size 1 rm_Queue_size G [.ref h] [(h, .inr (2, [.ref a1, .ref a2, .int u.1])), (a1, .inl (G.2 0, 8, .inl u.2.1)), (a2, .inl (G.2 0, 8, .inl u.2.2))] u.1 := by
  refine CtG.of (by decide) (Nat.le_of_ble_eq_true rfl) [(0, .ref h)] rfl ?_
  intro p e s m args below meth c A ls S hr hlocks F w hl
  have S : CallFix p m c b_Queue_size 1 s args kx_T "PrefetchRules$Queue" := S
  obtain ⟨hx, hb, hml, hown, hts⟩ := id S
  have w : kx_W G A s ([(h, .inr (2, [.ref a1, .ref a2, .int u.1])), (a1, .inl (G.2 0, 8, .inl u.2.1)), (a2, .inl (G.2 0, 8, .inl u.2.2))] ++ []) s.heap [] := w
  refine lv_aload_n hx hb d_Queue_size_0 rfl (lv_at hl 0 rfl) ?_
  refine kx_get S F w kc_Queue 0 rfl 2 (by decide) kw_680432f967 rfl d_Queue_size_1 ?_
  exact kx_gret S hr hlocks d_Queue_size_4
theorem c_Main_storedT (l : Launch) (hl0 : l.stackTraces = false) (G : kx_G) (h hs hq hru sa1 sa2 qa1 qa2 : Nat) (lat : Int32) (N : Nat) (u : sg_main) (p0 : Int32) (hp : p0 < 0 ∨ ¬ p0 < u.2.1.1) : CtT l y_Main_stored b_Main_stored 2 (some .int) rm_T G [.ref h, .int p0] [(h, .inr (0, [.int lat, .ref hs, .ref hq, .ref hru, .int u.1.1, .int u.1.2.1, .int u.1.2.2.1, .int u.1.2.2.2.1, .int u.1.2.2.2.2.1, .int u.1.2.2.2.2.2.1, .int u.1.2.2.2.2.2.2.1, .int u.1.2.2.2.2.2.2.2.1, .int u.1.2.2.2.2.2.2.2.2.1, .int u.1.2.2.2.2.2.2.2.2.2])), (hs, .inr (1, [.ref sa1, .ref sa2, .int u.2.1.1])), (sa1, .inl (G.2 0, N, .inl u.2.1.2.1)), (sa2, .inl (G.2 1, N, .inl u.2.1.2.2)), (hq, .inr (2, [.ref qa1, .ref qa2, .int u.2.2.1])), (qa1, .inl (G.2 0, 8, .inl u.2.2.2.1)), (qa2, .inl (G.2 0, 8, .inl u.2.2.2.2))] "java/lang/IndexOutOfBoundsException" 1 6 := by
  refine CtT.of hl0 (by decide) (Nat.le_of_ble_eq_true rfl) [(0, .ref h), (1, .int p0)] rfl ?_
  intro p e s m args below meth c A ls S hr hlocks htab htr0 F w hl
  have S : CallFix p m c b_Main_stored 2 s args kx_T "PrefetchRules" := S
  obtain ⟨hx, hb, hml, hown, hts⟩ := id S
  have w : kx_W G A s ([(h, .inr (0, [.int lat, .ref hs, .ref hq, .ref hru, .int u.1.1, .int u.1.2.1, .int u.1.2.2.1, .int u.1.2.2.2.1, .int u.1.2.2.2.2.1, .int u.1.2.2.2.2.2.1, .int u.1.2.2.2.2.2.2.1, .int u.1.2.2.2.2.2.2.2.1, .int u.1.2.2.2.2.2.2.2.2.1, .int u.1.2.2.2.2.2.2.2.2.2])), (hs, .inr (1, [.ref sa1, .ref sa2, .int u.2.1.1])), (sa1, .inl (G.2 0, N, .inl u.2.1.2.1)), (sa2, .inl (G.2 1, N, .inl u.2.1.2.2)), (hq, .inr (2, [.ref qa1, .ref qa2, .int u.2.2.1])), (qa1, .inl (G.2 0, 8, .inl u.2.2.2.1)), (qa2, .inl (G.2 0, 8, .inl u.2.2.2.2))] ++ []) s.heap [] := w
  have htr : ∀ T : State, Stand p l e rm_T s m args below meth c T [] 0 0 → e.platform.stackTraces = false := htr0
  have thr : ∀ H : Heap, s.heap.size ≤ H.size → W p l e rm_T s m args below meth c H [] 0 0 (kx_TQ below "java/lang/IndexOutOfBoundsException" s [] 1 6) (F0 m 15 ls []) := fun H hH T0 hT0 Z0 =>
    kx_throw (names := kx_up) (text := "the store has no such line") S (htr T0 Z0) (fun x hx => by cases hx) (by decide +kernel) (by decide +kernel) (kx_own S F.1.2.2.2 kx_own107) (hts _ kx_w103) (hts _ kx_wi2) F.1.2.2.2.2.2.2.2.1
      d_Main_stored_15 d_Main_stored_18 d_Main_stored_19 d_Main_stored_21 d_Main_stored_24 htab hl.1 hH (by decide) (by decide) (by decide) (by decide) hlocks T0 hT0 Z0
  refine lv_iload_n hx hb d_Main_stored_0 rfl (lv_at hl 1 rfl) ?_
  refine lv_if_lt (tgt := 15) hx hb d_Main_stored_1 (by decide) (fun c1 => thr _ (Nat.le_refl _)) (fun c1 => ?_)
  refine lv_iload_n hx hb d_Main_stored_4 rfl (lv_at hl 1 rfl) ?_
  refine lv_aload_n hx hb d_Main_stored_5 rfl (lv_at hl 0 rfl) ?_
  refine kx_get S F w kc_Main 0 rfl 1 (by decide) kw_ab48c44da5 rfl d_Main_stored_6 ?_
  refine kx_cg (va_runV (As := []) (rest := [.int p0]) S (c_Store_sizeG l G hs sa1 sa2 N u.2.1 _) (kx_cwV S mv_Store_size kw_e34ce4d0ab ⟨rfl, rfl, Nat.le_of_ble_eq_true rfl, Nat.le_of_ble_eq_true rfl⟩) ⟨kx_blind _ _ _ _, va_recv (q0 := 1) F.1.1 w.1 kc_Store.1 rfl, kx_pre F w [1, 2, 3] rfl rfl⟩ rfl rfl hl.1 rfl (lv_room (Nat.le_of_ble_eq_true rfl)) d_Main_stored_9 ⟨Nat.le_of_ble_eq_true rfl, Nat.le_of_ble_eq_true rfl⟩) (fun H1 g1 g2 => ?_)
  exact lv_icmp_lt (tgt := 25) hx hb d_Main_stored_12 (by decide) (fun c12 => absurd c12 (hp.resolve_left c1)) (fun c12 => thr _ g1)
theorem c_Main_queuedT (l : Launch) (hl0 : l.stackTraces = false) (G : kx_G) (h hs hq hru sa1 sa2 qa1 qa2 : Nat) (lat : Int32) (N : Nat) (u : sg_main) (p0 p1 : Int32) (hp : p0 < 0 ∨ ¬ p0 < u.2.2.1 ∨ (¬ p1 = 0 ∧ ¬ p1 = 1)) : CtT l y_Main_queued b_Main_queued 3 (some .int) rm_T G [.ref h, .int p0, .int p1] [(h, .inr (0, [.int lat, .ref hs, .ref hq, .ref hru, .int u.1.1, .int u.1.2.1, .int u.1.2.2.1, .int u.1.2.2.2.1, .int u.1.2.2.2.2.1, .int u.1.2.2.2.2.2.1, .int u.1.2.2.2.2.2.2.1, .int u.1.2.2.2.2.2.2.2.1, .int u.1.2.2.2.2.2.2.2.2.1, .int u.1.2.2.2.2.2.2.2.2.2])), (hs, .inr (1, [.ref sa1, .ref sa2, .int u.2.1.1])), (sa1, .inl (G.2 0, N, .inl u.2.1.2.1)), (sa2, .inl (G.2 1, N, .inl u.2.1.2.2)), (hq, .inr (2, [.ref qa1, .ref qa2, .int u.2.2.1])), (qa1, .inl (G.2 0, 8, .inl u.2.2.2.1)), (qa2, .inl (G.2 0, 8, .inl u.2.2.2.2))] "java/lang/IndexOutOfBoundsException" 1 6 := by
  refine CtT.of hl0 (by decide) (Nat.le_of_ble_eq_true rfl) [(0, .ref h), (1, .int p0), (2, .int p1)] rfl ?_
  intro p e s m args below meth c A ls S hr hlocks htab htr0 F w hl
  have S : CallFix p m c b_Main_queued 3 s args kx_T "PrefetchRules" := S
  obtain ⟨hx, hb, hml, hown, hts⟩ := id S
  have w : kx_W G A s ([(h, .inr (0, [.int lat, .ref hs, .ref hq, .ref hru, .int u.1.1, .int u.1.2.1, .int u.1.2.2.1, .int u.1.2.2.2.1, .int u.1.2.2.2.2.1, .int u.1.2.2.2.2.2.1, .int u.1.2.2.2.2.2.2.1, .int u.1.2.2.2.2.2.2.2.1, .int u.1.2.2.2.2.2.2.2.2.1, .int u.1.2.2.2.2.2.2.2.2.2])), (hs, .inr (1, [.ref sa1, .ref sa2, .int u.2.1.1])), (sa1, .inl (G.2 0, N, .inl u.2.1.2.1)), (sa2, .inl (G.2 1, N, .inl u.2.1.2.2)), (hq, .inr (2, [.ref qa1, .ref qa2, .int u.2.2.1])), (qa1, .inl (G.2 0, 8, .inl u.2.2.2.1)), (qa2, .inl (G.2 0, 8, .inl u.2.2.2.2))] ++ []) s.heap [] := w
  have htr : ∀ T : State, Stand p l e rm_T s m args below meth c T [] 0 0 → e.platform.stackTraces = false := htr0
  have thr : ∀ H : Heap, s.heap.size ≤ H.size → W p l e rm_T s m args below meth c H [] 0 0 (kx_TQ below "java/lang/IndexOutOfBoundsException" s [] 1 6) (F0 m 15 ls []) := fun H hH T0 hT0 Z0 =>
    kx_throw (names := kx_up) (text := "the queue has no such fetch") S (htr T0 Z0) (fun x hx => by cases hx) (by decide +kernel) (by decide +kernel) (kx_own S F.1.2.2.2 kx_own107) (hts _ kx_w103) (hts _ kx_wi2) F.1.2.2.2.2.2.2.2.2.1
      d_Main_queued_15 d_Main_queued_18 d_Main_queued_19 d_Main_queued_21 d_Main_queued_24 htab hl.1 hH (by decide) (by decide) (by decide) (by decide) hlocks T0 hT0 Z0
  have thr2 : ∀ H : Heap, s.heap.size ≤ H.size → W p l e rm_T s m args below meth c H [] 0 0 (kx_TQ below "java/lang/IndexOutOfBoundsException" s [] 1 6) (F0 m 34 ls []) := fun H hH T0 hT0 Z0 =>
    kx_throw (names := kx_up) (text := "a fetch has no such number") S (htr T0 Z0) (fun x hx => by cases hx) (by decide +kernel) (by decide +kernel) (kx_own S F.1.2.2.2 kx_own107) (hts _ kx_w103) (hts _ kx_wi2) F.1.2.2.2.2.2.2.2.2.2
      d_Main_queued_34 d_Main_queued_37 d_Main_queued_38 d_Main_queued_40 d_Main_queued_43 htab hl.1 hH (by decide) (by decide) (by decide) (by decide) hlocks T0 hT0 Z0
  refine lv_iload_n hx hb d_Main_queued_0 rfl (lv_at hl 1 rfl) ?_
  refine lv_if_lt (tgt := 15) hx hb d_Main_queued_1 (by decide) (fun c1 => thr _ (Nat.le_refl _)) (fun c1 => ?_)
  refine lv_iload_n hx hb d_Main_queued_4 rfl (lv_at hl 1 rfl) ?_
  refine lv_aload_n hx hb d_Main_queued_5 rfl (lv_at hl 0 rfl) ?_
  refine kx_get S F w kc_Main 0 rfl 2 (by decide) kw_94a1845cd0 rfl d_Main_queued_6 ?_
  refine kx_cg (va_runV (As := []) (rest := [.int p0]) S (c_Queue_sizeG l G hq qa1 qa2 u.2.2 _) (kx_cwV S mv_Queue_size kw_1adf9da908 ⟨rfl, rfl, Nat.le_of_ble_eq_true rfl, Nat.le_of_ble_eq_true rfl⟩) ⟨kx_blind _ _ _ _, va_recv (q0 := 4) F.1.1 w.1 kc_Queue.1 rfl, kx_pre F w [4, 5, 6] rfl rfl⟩ rfl rfl hl.1 rfl (lv_room (Nat.le_of_ble_eq_true rfl)) d_Main_queued_9 ⟨Nat.le_of_ble_eq_true rfl, Nat.le_of_ble_eq_true rfl⟩) (fun H1 g1 g2 => ?_)
  refine lv_icmp_lt (tgt := 25) hx hb d_Main_queued_12 (by decide) (fun c12 => ?_) (fun c12 => thr _ g1)
  have hp2 : ¬ p1 = 0 ∧ ¬ p1 = 1 := (hp.resolve_left c1).resolve_left (fun z => z c12)
  refine lv_iload_n hx hb d_Main_queued_25 rfl (lv_at hl 2 rfl) ?_
  refine lv_if_eq (tgt := 44) hx hb d_Main_queued_26 (by decide) (fun c26 => absurd c26 hp2.1) (fun c26 => ?_)
  refine lv_iload_n hx hb d_Main_queued_29 rfl (lv_at hl 2 rfl) ?_
  refine lv_iconst (v := (1 : Int32)) hx hb d_Main_queued_30 (by decide) ?_
  exact lv_icmp_eq (tgt := 44) hx hb d_Main_queued_31 (by decide) (fun c31 => absurd c31 hp2.2) (fun c31 => thr2 _ g1)
/-! A method with one handler: its start -/
def CtH {S : Type} (l : Launch) (y : MethodName) (cc : ByteArray) (maxL : Nat) (ret : Option FieldType) (hs : List (Nat × Nat × Nat × Nat)) (rm : Room) (G : kx_G) (as : List Value) (wc : va_W) (post : Int32 → S → Prop) (wo : S → va_W) (mc ms : Nat) : Prop :=
  ∀ sz : Nat, Met l y (Cond.codeWith y cc maxL ret hs :: kx_T) rm (va_Pc as (kx_Pre G wc sz)) (va_Qi post (kx_B G (va_A wc sz) wo) (va_A wc sz)) mc ms (va_A wc sz)
theorem CtH.of {S : Type} {l : Launch} {y : MethodName} {cc : ByteArray} {maxL : Nat} {ret : Option FieldType} {h1 h2 h3 h4 : Nat} {rm : Room} {G : kx_G} {as : List Value} {wc : va_W} {post : Int32 → S → Prop} {wo : S → va_W} {mc ms : Nat} (hy : plainName y.cls = true) (has : (lg_sl as).length ≤ maxL) (lv : List (Nat × Value)) (hlv : lv_args 0 as = lv)
    (body : ∀ (p : Program) (e : Env) (s : State) (m : MethodId) (args : Array Value) (below : List Frame) (meth : Method) (c : Code) (A : Nat → Prop) (ls : Array Slot) (Q : State → Prop) (x : ExceptionTableEntry), MQ below (va_Qi post (kx_B G A wo) A) args s mc ms A = Q → CallFix p m c cc maxL s args kx_T y.cls → meth.sig.returnType = ret → meth.locks = false → c.exceptionTable.toList = [x] → x.startPc = h1 → x.endPc = h2 → x.handlerPc = h3 → x.catchType = h4 → kx_F G A s → kx_W G A s (wc ++ []) s.heap [] → lv_has ls maxL lv →
      W p l e rm s m args below meth c s.heap [] 0 0 Q (F0 m 0 ls [])) : CtH l y cc maxL ret [(h1, h2, h3, h4)] rm G as wc post wo mc ms := by
  intro sz
  refine MetFree.of_bodyS (code := cc) (maxLocals := maxL) (ret := ret) hy ?_ ?_
  · intro args s m h hn
    obtain ⟨m', meth, c, e0, e1, e2, e3, e4, -, e5, e6, -⟩ := Cond.codeWith_spec (atoms_spec (ws := Cond.codeWith y cc maxL ret [(h1, h2, h3, h4)] :: kx_T) h _ List.mem_cons_self)
    cases hn.symm.trans e0
    exact ⟨meth, c, e1, e2, e3, e4, e5, e6⟩
  · intro p e s m args below meth c s₁ B hml hP _
    obtain ⟨rfl, hsz, hP1, hD0, hQ⟩ := hP
    have hh0 : s₁.heap = s.heap := by rw [B.state]; rfl
    have hts := atoms_spec (ws := Cond.codeWith y cc maxL ret [(h1, h2, h3, h4)] :: kx_T) B.pre
    have hown : s.vm.findClass y.cls = some m.cls := findClass_of_methodNamed B.named
    have X0 := Stand.of_body B
    obtain ⟨m', meth', c', e0, e1, e2, -, -, e7, -, -, -⟩ := Cond.codeWith_spec (hts _ List.mem_cons_self)
    cases B.named.symm.trans e0
    cases X0.method.symm.trans e1
    cases X0.code.symm.trans e2
    obtain ⟨x, hx, g1, g2, g3, g4⟩ : ∃ x, c.exceptionTable.toList = [x] ∧ x.startPc = h1 ∧ x.endPc = h2 ∧ x.handlerPc = h3 ∧ x.catchType = h4 := by
      cases hc : c.exceptionTable.toList with
      | nil => rw [hc] at e7; cases e7
      | cons x r =>
        rw [hc] at e7
        cases r with
        | nil =>
          simp only [List.map_cons, List.map_nil, List.cons.injEq, Prod.mk.injEq, and_true] at e7
          exact ⟨x, rfl, e7.1, e7.2.1, e7.2.2.1, e7.2.2.2⟩
        | cons z r => simp at e7
    subst hsz
    have hD := hD0.self (sz := s.heap.size)
    have hl := lv_entry as (n := maxL) has
    subst hlv
    have hA : ∀ q : Nat, s.heap.size ≤ q → va_A wc s.heap.size q := fun q h => Or.inr h
    have hw : kx_W G (va_A wc s.heap.size) s (wc ++ []) s.heap [] := ⟨by rw [List.append_nil]; exact hP1, by rw [List.append_nil]; exact hD, va_S.rf⟩
    have hbody := body p e s m _ below meth c _ _ _ x rfl ⟨B.exec, B.bytes, hml, hown, fun w h => hts w (List.mem_cons_of_mem _ h)⟩ B.returns B.notSynchronized hx g1 g2 g3 g4 ⟨hQ, hA⟩ hw hl
    rw [← lg_entry_eq] at hbody
    obtain ⟨t, a1, o, b1, b2, b3, b4⟩ := hbody s₁ hh0 X0
    exact ⟨t, o, a1, b1, b2, ⟨b3, b4⟩⟩
