def rc (G : kx_G) (hr : Nat) (ad : Nat → Nat) (dg : Int32) : RS → va_W
  | .inl u => [(hr, .inr (3, [.int dg, .ref (ad 0), .int u.1])), ((ad 0), .inl (G.2 0, 4, .inl u.2))]
  | .inr (.inl u) => [(hr, .inr (4, [.int dg, .ref (ad 0), .int u.1, .ref (ad 1), .ref (ad 2), .ref (ad 3), .ref (ad 4), .ref (ad 5)])), ((ad 0), .inl (G.2 0, 4, .inl u.2.1)), ((ad 1), .inl (G.2 1, 16, .inl u.2.2.1)), ((ad 2), .inl (G.2 0, 16, .inl u.2.2.2.1)), ((ad 3), .inl (G.2 0, 16, .inl u.2.2.2.2.1)), ((ad 4), .inl (G.2 0, 16, .inl u.2.2.2.2.2.1)), ((ad 5), .inl (G.2 0, 16, .inl u.2.2.2.2.2.2))]
  | .inr (.inr (.inl u)) => [(hr, .inr (5, [.int dg, .ref (ad 0), .int u.1, .ref (ad 1), .ref (ad 2), .int u.2.2.2.2])), ((ad 0), .inl (G.2 0, 4, .inl u.2.1)), ((ad 1), .inl (G.2 0, 8, .inl u.2.2.1)), ((ad 2), .inl (G.2 0, 8, .inl u.2.2.2.1))]
  | .inr (.inr (.inr (.inl u))) => [(hr, .inr (6, [.int dg, .ref (ad 0), .int u.1, .ref (ad 1), .int u.2.2.2.1, .ref (ad 2), .int u.2.2.2.2.2.1, .int u.2.2.2.2.2.2.1, .int u.2.2.2.2.2.2.2])), ((ad 0), .inl (G.2 0, 4, .inl u.2.1)), ((ad 1), .inl (G.2 0, 32, .inl u.2.2.1)), ((ad 2), .inl (G.2 0, 12, .inl u.2.2.2.2.1))]
  | .inr (.inr (.inr (.inr u))) => [(hr, .inr (7, [.int dg, .ref (ad 0), .int u.1, .ref (ad 1), .ref (ad 2), .ref (ad 3), .ref (ad 4), .ref (ad 5), .int u.2.2.2.2.2.2.2.1, .int u.2.2.2.2.2.2.2.2])), ((ad 0), .inl (G.2 0, 4, .inl u.2.1)), ((ad 1), .inl (G.2 1, 64, .inl u.2.2.1)), ((ad 2), .inl (G.2 0, 64, .inl u.2.2.2.1)), ((ad 3), .inl (G.2 0, 64, .inl u.2.2.2.2.1)), ((ad 4), .inl (G.2 0, 64, .inl u.2.2.2.2.2.1)), ((ad 5), .inl (G.2 0, 64, .inl u.2.2.2.2.2.2.1))]
def rcC : RS → String
  | .inl _ => "PrefetchRules$Next"
  | .inr (.inl _) => "PrefetchRules$Strides"
  | .inr (.inr (.inl _)) => "PrefetchRules$Streams"
  | .inr (.inr (.inr (.inl _))) => "PrefetchRules$Offsets"
  | .inr (.inr (.inr (.inr _))) => "PrefetchRules$Pairs"
theorem rc_recv {G : kx_G} {A : Nat → Prop} {s : State} {X : va_W} {H : Heap} {locs : List Loc} {hr : Nat} {ad : Nat → Nat} {dg : Int32} {r : RS} (F : kx_F G A s) (w : kx_W G A s (X ++ rc G hr ad dg r) H locs) : ∃ cell : Cell, H[hr]? = some cell ∧ cell.vm.isStatics = false ∧ s.vm.findClass (rcC r) = some cell.cls := by
  have w' : va_P G.1 vwCl (rc G hr ad dg r) H := fun k q hk => w.1 (X.length + k) q (by rw [List.getElem?_append_right (by omega), Nat.add_sub_cancel_left]; exact hk)
  rcases r with u | u | u | u | u
  · exact va_recv (q0 := 0) F.1.1 w' kc_Next.1 rfl
  · exact va_recv (q0 := 0) F.1.1 w' kc_Strides.1 rfl
  · exact va_recv (q0 := 0) F.1.1 w' kc_Streams.1 rfl
  · exact va_recv (q0 := 0) F.1.1 w' kc_Offsets.1 rfl
  · exact va_recv (q0 := 0) F.1.1 w' kc_Pairs.1 rfl
def F_hear (dg : Int32) : RS → Int32 → Int32 → Option RS
  | .inl u, p0, p1 => (f_Next_hear dg u p0 p1).bind (fun q => some (.inl q))
  | .inr (.inl u), p0, p1 => (f_Strides_hear dg u p0 p1).bind (fun q => some (.inr (.inl q)))
  | .inr (.inr (.inl u)), p0, p1 => (f_Streams_hear dg u p0 p1).bind (fun q => some (.inr (.inr (.inl q))))
  | .inr (.inr (.inr (.inl u))), p0, p1 => (f_Offsets_hear dg u p0 p1).bind (fun q => some (.inr (.inr (.inr (.inl q)))))
  | .inr (.inr (.inr (.inr u))), p0, p1 => (f_Pairs_hear dg u p0 p1).bind (fun q => some (.inr (.inr (.inr (.inr q)))))
def F_knowledge (dg : Int32) : RS → Int32 → Option Int32
  | .inl u, p0 => f_Next_knowledge dg u p0
  | .inr (.inl u), p0 => f_Strides_knowledge dg u p0
  | .inr (.inr (.inl u)), p0 => f_Streams_knowledge dg u p0
  | .inr (.inr (.inr (.inl u))), p0 => f_Offsets_knowledge dg u p0
  | .inr (.inr (.inr (.inr u))), p0 => f_Pairs_knowledge dg u p0
def F_confidence (dg : Int32) : RS → Int32 → Option Int32
  | .inl u, p0 => f_Next_confidence dg u p0
  | .inr (.inl u), p0 => f_Strides_confidence dg u p0
  | .inr (.inr (.inl u)), p0 => f_Streams_confidence dg u p0
  | .inr (.inr (.inr (.inl u))), p0 => f_Offsets_confidence dg u p0
  | .inr (.inr (.inr (.inr u))), p0 => f_Pairs_confidence dg u p0
def F_roundCount (dg : Int32) : RS → Option Int32
  | .inl u => f_Next_roundCount dg u
  | .inr (.inl u) => f_Strides_roundCount dg u
  | .inr (.inr (.inl u)) => f_Streams_roundCount dg u
  | .inr (.inr (.inr (.inl u))) => f_Offsets_roundCount dg u
  | .inr (.inr (.inr (.inr u))) => f_Pairs_roundCount dg u
def F_saidCount (dg : Int32) : RS → Option Int32
  | .inl u => f_Next_saidCount dg u
  | .inr (.inl u) => f_Strides_saidCount dg u
  | .inr (.inr (.inl u)) => f_Streams_saidCount dg u
  | .inr (.inr (.inr (.inl u))) => f_Offsets_saidCount dg u
  | .inr (.inr (.inr (.inr u))) => f_Pairs_saidCount dg u
def F_saidLine (dg : Int32) : RS → Int32 → Option Int32
  | .inl u, p0 => f_Next_saidLine dg u p0
  | .inr (.inl u), p0 => f_Strides_saidLine dg u p0
  | .inr (.inr (.inl u)), p0 => f_Streams_saidLine dg u p0
  | .inr (.inr (.inr (.inl u))), p0 => f_Offsets_saidLine dg u p0
  | .inr (.inr (.inr (.inr u))), p0 => f_Pairs_saidLine dg u p0
def rm_I_hear : Room := { frames := 4, cells := 0, slots := 0, locals := 90 }
def rm_I_knowledge : Room := { frames := 2, cells := 0, slots := 0, locals := 44 }
def rm_I_confidence : Room := { frames := 2, cells := 0, slots := 0, locals := 44 }
def rm_I_roundCount : Room := { frames := 0, cells := 0, slots := 0, locals := 0 }
def rm_I_saidCount : Room := { frames := 0, cells := 0, slots := 0, locals := 0 }
def rm_I_saidLine : Room := { frames := 0, cells := 0, slots := 0, locals := 0 }
set_option maxRecDepth 100000 in
set_option maxHeartbeats 4000000 in
theorem c_I_hear (l : Launch) (G : kx_G) (hr : Nat) (ad : Nat → Nat) (dg : Int32) (r : RS) (p0 : Int32) (p1 : Int32) (v : RS) (hF : F_hear dg r p0 p1 = some v) : CtV l y_Rule_hear b_Rule_hear 3 rm_I_hear G [.ref hr, .int p0, .int p1] (rc G hr ad dg r) (fun w : RS => v = w) (fun w => rc G hr ad dg w) 0 0 := by
  rcases r with u | u | u | u | u
  · have hF : (f_Next_hear dg u p0 p1).bind (fun q => some (.inl q : RS)) = some v := hF
    obtain ⟨q, hq, hv⟩ := kx_bd hF
    obtain rfl := Option.some.inj hv
    exact CtV.inj (c_Next_hear l G hr (ad 0) dg u p0 p1 q hq) (fun z => (.inl z : RS)) (fun z h => congrArg (fun z => (.inl z : RS)) h) (fun z => rfl)
  · have hF : (f_Strides_hear dg u p0 p1).bind (fun q => some (.inr (.inl q) : RS)) = some v := hF
    obtain ⟨q, hq, hv⟩ := kx_bd hF
    obtain rfl := Option.some.inj hv
    exact CtV.inj (c_Strides_hear l G hr (ad 0) dg (ad 1) (ad 2) (ad 3) (ad 4) (ad 5) u p0 p1 q hq) (fun z => (.inr (.inl z) : RS)) (fun z h => congrArg (fun z => (.inr (.inl z) : RS)) h) (fun z => rfl)
  · have hF : (f_Streams_hear dg u p0 p1).bind (fun q => some (.inr (.inr (.inl q)) : RS)) = some v := hF
    obtain ⟨q, hq, hv⟩ := kx_bd hF
    obtain rfl := Option.some.inj hv
    exact CtV.inj (c_Streams_hear l G hr (ad 0) dg (ad 1) (ad 2) u p0 p1 q hq) (fun z => (.inr (.inr (.inl z)) : RS)) (fun z h => congrArg (fun z => (.inr (.inr (.inl z)) : RS)) h) (fun z => rfl)
  · have hF : (f_Offsets_hear dg u p0 p1).bind (fun q => some (.inr (.inr (.inr (.inl q))) : RS)) = some v := hF
    obtain ⟨q, hq, hv⟩ := kx_bd hF
    obtain rfl := Option.some.inj hv
    exact CtV.inj (c_Offsets_hear l G hr (ad 0) dg (ad 1) (ad 2) u p0 p1 q hq) (fun z => (.inr (.inr (.inr (.inl z))) : RS)) (fun z h => congrArg (fun z => (.inr (.inr (.inr (.inl z))) : RS)) h) (fun z => rfl)
  · have hF : (f_Pairs_hear dg u p0 p1).bind (fun q => some (.inr (.inr (.inr (.inr q))) : RS)) = some v := hF
    obtain ⟨q, hq, hv⟩ := kx_bd hF
    obtain rfl := Option.some.inj hv
    exact CtV.inj (c_Pairs_hear l G hr (ad 0) dg (ad 1) (ad 2) (ad 3) (ad 4) (ad 5) u p0 p1 q hq) (fun z => (.inr (.inr (.inr (.inr z))) : RS)) (fun z h => congrArg (fun z => (.inr (.inr (.inr (.inr z))) : RS)) h) (fun z => rfl)
def I_knowledge_y : RS → MethodName
  | .inl _ => y_Next_knowledge
  | .inr (.inl _) => y_Strides_knowledge
  | .inr (.inr (.inl _)) => y_Streams_knowledge
  | .inr (.inr (.inr (.inl _))) => y_Offsets_knowledge
  | .inr (.inr (.inr (.inr _))) => y_Pairs_knowledge
def I_knowledge_b : RS → ByteArray
  | .inl _ => b_Next_knowledge
  | .inr (.inl _) => b_Strides_knowledge
  | .inr (.inr (.inl _)) => b_Streams_knowledge
  | .inr (.inr (.inr (.inl _))) => b_Offsets_knowledge
  | .inr (.inr (.inr (.inr _))) => b_Pairs_knowledge
def I_knowledge_m : RS → Nat
  | .inl _ => 2
  | .inr (.inl _) => 3
  | .inr (.inr (.inl _)) => 2
  | .inr (.inr (.inr (.inl _))) => 2
  | .inr (.inr (.inr (.inr _))) => 2
set_option maxRecDepth 100000 in
set_option maxHeartbeats 4000000 in
theorem c_I_knowledge (l : Launch) (G : kx_G) (hr : Nat) (ad : Nat → Nat) (dg : Int32) (r : RS) (p0 : Int32) (v : Int32) (hF : F_knowledge dg r p0 = some v) : CtI l (I_knowledge_y r) (I_knowledge_b r) (I_knowledge_m r) (some .int) rm_I_knowledge G [.ref hr, .int p0] (rc G hr ad dg r) (fun (x : Int32) (_ : Unit) => v = x) (fun _ => rc G hr ad dg r) 0 0 := by
  rcases r with u | u | u | u | u
  · exact c_Next_knowledge l G hr (ad 0) dg u p0 v hF
  · exact c_Strides_knowledge l G hr (ad 0) dg (ad 1) (ad 2) (ad 3) (ad 4) (ad 5) u p0 v hF
  · exact c_Streams_knowledge l G hr (ad 0) dg (ad 1) (ad 2) u p0 v hF
  · exact c_Offsets_knowledge l G hr (ad 0) dg (ad 1) (ad 2) u p0 v hF
  · exact c_Pairs_knowledge l G hr (ad 0) dg (ad 1) (ad 2) (ad 3) (ad 4) (ad 5) u p0 v hF
def I_confidence_y : RS → MethodName
  | .inl _ => y_Next_confidence
  | .inr (.inl _) => y_Strides_confidence
  | .inr (.inr (.inl _)) => y_Streams_confidence
  | .inr (.inr (.inr (.inl _))) => y_Offsets_confidence
  | .inr (.inr (.inr (.inr _))) => y_Pairs_confidence
def I_confidence_b : RS → ByteArray
  | .inl _ => b_Next_confidence
  | .inr (.inl _) => b_Strides_confidence
  | .inr (.inr (.inl _)) => b_Streams_confidence
  | .inr (.inr (.inr (.inl _))) => b_Offsets_confidence
  | .inr (.inr (.inr (.inr _))) => b_Pairs_confidence
def I_confidence_m : RS → Nat
  | .inl _ => 2
  | .inr (.inl _) => 3
  | .inr (.inr (.inl _)) => 2
  | .inr (.inr (.inr (.inl _))) => 2
  | .inr (.inr (.inr (.inr _))) => 2
set_option maxRecDepth 100000 in
set_option maxHeartbeats 4000000 in
theorem c_I_confidence (l : Launch) (G : kx_G) (hr : Nat) (ad : Nat → Nat) (dg : Int32) (r : RS) (p0 : Int32) (v : Int32) (hF : F_confidence dg r p0 = some v) : CtI l (I_confidence_y r) (I_confidence_b r) (I_confidence_m r) (some .int) rm_I_confidence G [.ref hr, .int p0] (rc G hr ad dg r) (fun (x : Int32) (_ : Unit) => v = x) (fun _ => rc G hr ad dg r) 0 0 := by
  rcases r with u | u | u | u | u
  · exact c_Next_confidence l G hr (ad 0) dg u p0 v hF
  · exact c_Strides_confidence l G hr (ad 0) dg (ad 1) (ad 2) (ad 3) (ad 4) (ad 5) u p0 v hF
  · exact c_Streams_confidence l G hr (ad 0) dg (ad 1) (ad 2) u p0 v hF
  · exact c_Offsets_confidence l G hr (ad 0) dg (ad 1) (ad 2) u p0 v hF
  · exact c_Pairs_confidence l G hr (ad 0) dg (ad 1) (ad 2) (ad 3) (ad 4) (ad 5) u p0 v hF
def I_roundCount_y : RS → MethodName
  | .inl _ => y_Rule_roundCount
  | .inr (.inl _) => y_Rule_roundCount
  | .inr (.inr (.inl _)) => y_Rule_roundCount
  | .inr (.inr (.inr (.inl _))) => y_Offsets_roundCount
  | .inr (.inr (.inr (.inr _))) => y_Rule_roundCount
def I_roundCount_b : RS → ByteArray
  | .inl _ => b_Rule_roundCount
  | .inr (.inl _) => b_Rule_roundCount
  | .inr (.inr (.inl _)) => b_Rule_roundCount
  | .inr (.inr (.inr (.inl _))) => b_Offsets_roundCount
  | .inr (.inr (.inr (.inr _))) => b_Rule_roundCount
def I_roundCount_m : RS → Nat
  | .inl _ => 1
  | .inr (.inl _) => 1
  | .inr (.inr (.inl _)) => 1
  | .inr (.inr (.inr (.inl _))) => 1
  | .inr (.inr (.inr (.inr _))) => 1
set_option maxRecDepth 100000 in
set_option maxHeartbeats 4000000 in
theorem c_I_roundCount (l : Launch) (G : kx_G) (hr : Nat) (ad : Nat → Nat) (dg : Int32) (r : RS) (v : Int32) (hF : F_roundCount dg r = some v) : CtI l (I_roundCount_y r) (I_roundCount_b r) (I_roundCount_m r) (some .int) rm_I_roundCount G [.ref hr] (rc G hr ad dg r) (fun (x : Int32) (_ : Unit) => v = x) (fun _ => rc G hr ad dg r) 0 0 := by
  rcases r with u | u | u | u | u
  · exact c_Next_roundCount l G hr (ad 0) dg u v hF
  · exact c_Strides_roundCount l G hr (ad 0) dg (ad 1) (ad 2) (ad 3) (ad 4) (ad 5) u v hF
  · exact c_Streams_roundCount l G hr (ad 0) dg (ad 1) (ad 2) u v hF
  · exact c_Offsets_roundCount l G hr (ad 0) dg (ad 1) (ad 2) u v hF
  · exact c_Pairs_roundCount l G hr (ad 0) dg (ad 1) (ad 2) (ad 3) (ad 4) (ad 5) u v hF
set_option maxRecDepth 100000 in
set_option maxHeartbeats 4000000 in
theorem c_I_saidCount (l : Launch) (G : kx_G) (hr : Nat) (ad : Nat → Nat) (dg : Int32) (r : RS) (v : Int32) (hF : F_saidCount dg r = some v) : CtI l y_Rule_saidCount b_Rule_saidCount 1 (some .int) rm_I_saidCount G [.ref hr] (rc G hr ad dg r) (fun (x : Int32) (_ : Unit) => v = x) (fun _ => rc G hr ad dg r) 0 0 := by
  rcases r with u | u | u | u | u
  · exact c_Next_saidCount l G hr (ad 0) dg u v hF
  · exact c_Strides_saidCount l G hr (ad 0) dg (ad 1) (ad 2) (ad 3) (ad 4) (ad 5) u v hF
  · exact c_Streams_saidCount l G hr (ad 0) dg (ad 1) (ad 2) u v hF
  · exact c_Offsets_saidCount l G hr (ad 0) dg (ad 1) (ad 2) u v hF
  · exact c_Pairs_saidCount l G hr (ad 0) dg (ad 1) (ad 2) (ad 3) (ad 4) (ad 5) u v hF
set_option maxRecDepth 100000 in
set_option maxHeartbeats 4000000 in
theorem c_I_saidLine (l : Launch) (G : kx_G) (hr : Nat) (ad : Nat → Nat) (dg : Int32) (r : RS) (p0 : Int32) (v : Int32) (hF : F_saidLine dg r p0 = some v) : CtI l y_Rule_saidLine b_Rule_saidLine 2 (some .int) rm_I_saidLine G [.ref hr, .int p0] (rc G hr ad dg r) (fun (x : Int32) (_ : Unit) => v = x) (fun _ => rc G hr ad dg r) 0 0 := by
  rcases r with u | u | u | u | u
  · exact c_Next_saidLine l G hr (ad 0) dg u p0 v hF
  · exact c_Strides_saidLine l G hr (ad 0) dg (ad 1) (ad 2) (ad 3) (ad 4) (ad 5) u p0 v hF
  · exact c_Streams_saidLine l G hr (ad 0) dg (ad 1) (ad 2) u p0 v hF
  · exact c_Offsets_saidLine l G hr (ad 0) dg (ad 1) (ad 2) u p0 v hF
  · exact c_Pairs_saidLine l G hr (ad 0) dg (ad 1) (ad 2) (ad 3) (ad 4) (ad 5) u p0 v hF
theorem cu_access_hear {p : Program} {R : Room} {s : State} {m : MethodId} {args : Array Value} {c : Code} {cc : ByteArray} {nL mc ms : Nat} {rm : Room} {G : kx_G} {A : Nat → Prop} (S : CallFix p m c cc nL s args kx_T "PrefetchRules") (F : kx_F G A s) (r : RS) (hr : kx_rm rm R 3 mc ms) : va_CU R s args "PrefetchRules" (rcC r) "PrefetchRules$Rule" 57 ⟨"PrefetchRules$Rule", "hear", "(II)V"⟩ y_Rule_hear b_Rule_hear 3 none (Cond.code y_Rule_hear b_Rule_hear 3 none :: kx_T) rm mc ms 2 := by
  rcases r with u | u | u | u | u
  · exact kx_cwU (x := ⟨"PrefetchRules$Rule", "hear", "(II)V"⟩) S kw_5801932083 kw_d36d426919 kw_add0265530 kw_95e72b3807 kw_c4502e9de1 kw_d0941c2f9e rfl (by decide +kernel) ⟨hr.1, hr.2.1, hr.2.2.1, Nat.le_trans (show 8 + (3 + 11) + rm.locals ≤ 8 + (3 + 11) + rm.locals by omega) hr.2.2.2⟩
  · exact kx_cwU (x := ⟨"PrefetchRules$Rule", "hear", "(II)V"⟩) S kw_5801932083 kw_d36d426919 kw_add0265530 kw_e151ed3c8d kw_c4502e9de1 kw_d0941c2f9e rfl (by decide +kernel) ⟨hr.1, hr.2.1, hr.2.2.1, Nat.le_trans (show 8 + (3 + 11) + rm.locals ≤ 8 + (3 + 11) + rm.locals by omega) hr.2.2.2⟩
  · exact kx_cwU (x := ⟨"PrefetchRules$Rule", "hear", "(II)V"⟩) S kw_5801932083 kw_d36d426919 kw_add0265530 kw_d92ddbd6f7 kw_c4502e9de1 kw_d0941c2f9e rfl (by decide +kernel) ⟨hr.1, hr.2.1, hr.2.2.1, Nat.le_trans (show 8 + (3 + 11) + rm.locals ≤ 8 + (3 + 11) + rm.locals by omega) hr.2.2.2⟩
  · exact kx_cwU (x := ⟨"PrefetchRules$Rule", "hear", "(II)V"⟩) S kw_5801932083 kw_d36d426919 kw_add0265530 kw_e4667279af kw_c4502e9de1 kw_d0941c2f9e rfl (by decide +kernel) ⟨hr.1, hr.2.1, hr.2.2.1, Nat.le_trans (show 8 + (3 + 11) + rm.locals ≤ 8 + (3 + 11) + rm.locals by omega) hr.2.2.2⟩
  · exact kx_cwU (x := ⟨"PrefetchRules$Rule", "hear", "(II)V"⟩) S kw_5801932083 kw_d36d426919 kw_add0265530 kw_40456ab9c6 kw_c4502e9de1 kw_d0941c2f9e rfl (by decide +kernel) ⟨hr.1, hr.2.1, hr.2.2.1, Nat.le_trans (show 8 + (3 + 11) + rm.locals ≤ 8 + (3 + 11) + rm.locals by omega) hr.2.2.2⟩
theorem cu_access_saidCount {p : Program} {R : Room} {s : State} {m : MethodId} {args : Array Value} {c : Code} {cc : ByteArray} {nL mc ms : Nat} {rm : Room} {G : kx_G} {A : Nat → Prop} (S : CallFix p m c cc nL s args kx_T "PrefetchRules") (F : kx_F G A s) (r : RS) (hr : kx_rm rm R 1 mc ms) : va_CU R s args "PrefetchRules" (rcC r) "PrefetchRules$Rule" 63 ⟨"PrefetchRules$Rule", "saidCount", "()I"⟩ y_Rule_saidCount b_Rule_saidCount 1 (some .int) (Cond.code y_Rule_saidCount b_Rule_saidCount 1 (some .int) :: kx_T) rm mc ms 0 := by
  rcases r with u | u | u | u | u
  · exact kx_cwU (x := ⟨"PrefetchRules$Rule", "saidCount", "()I"⟩) S kw_c15cdd342e kw_07d6123586 kw_730cc2df8c kw_5ec008d848 kw_529f00aad7 kw_d0941c2f9e rfl (by decide +kernel) ⟨hr.1, hr.2.1, hr.2.2.1, Nat.le_trans (show 8 + (1 + 11) + rm.locals ≤ 8 + (1 + 11) + rm.locals by omega) hr.2.2.2⟩
  · exact kx_cwU (x := ⟨"PrefetchRules$Rule", "saidCount", "()I"⟩) S kw_c15cdd342e kw_07d6123586 kw_730cc2df8c kw_a6e9831725 kw_529f00aad7 kw_d0941c2f9e rfl (by decide +kernel) ⟨hr.1, hr.2.1, hr.2.2.1, Nat.le_trans (show 8 + (1 + 11) + rm.locals ≤ 8 + (1 + 11) + rm.locals by omega) hr.2.2.2⟩
  · exact kx_cwU (x := ⟨"PrefetchRules$Rule", "saidCount", "()I"⟩) S kw_c15cdd342e kw_07d6123586 kw_730cc2df8c kw_5f107b41b8 kw_529f00aad7 kw_d0941c2f9e rfl (by decide +kernel) ⟨hr.1, hr.2.1, hr.2.2.1, Nat.le_trans (show 8 + (1 + 11) + rm.locals ≤ 8 + (1 + 11) + rm.locals by omega) hr.2.2.2⟩
  · exact kx_cwU (x := ⟨"PrefetchRules$Rule", "saidCount", "()I"⟩) S kw_c15cdd342e kw_07d6123586 kw_730cc2df8c kw_660435a8b2 kw_529f00aad7 kw_d0941c2f9e rfl (by decide +kernel) ⟨hr.1, hr.2.1, hr.2.2.1, Nat.le_trans (show 8 + (1 + 11) + rm.locals ≤ 8 + (1 + 11) + rm.locals by omega) hr.2.2.2⟩
  · exact kx_cwU (x := ⟨"PrefetchRules$Rule", "saidCount", "()I"⟩) S kw_c15cdd342e kw_07d6123586 kw_730cc2df8c kw_1887470615 kw_529f00aad7 kw_d0941c2f9e rfl (by decide +kernel) ⟨hr.1, hr.2.1, hr.2.2.1, Nat.le_trans (show 8 + (1 + 11) + rm.locals ≤ 8 + (1 + 11) + rm.locals by omega) hr.2.2.2⟩
theorem cu_access_saidLine {p : Program} {R : Room} {s : State} {m : MethodId} {args : Array Value} {c : Code} {cc : ByteArray} {nL mc ms : Nat} {rm : Room} {G : kx_G} {A : Nat → Prop} (S : CallFix p m c cc nL s args kx_T "PrefetchRules") (F : kx_F G A s) (r : RS) (hr : kx_rm rm R 2 mc ms) : va_CU R s args "PrefetchRules" (rcC r) "PrefetchRules$Rule" 66 ⟨"PrefetchRules$Rule", "saidLine", "(I)I"⟩ y_Rule_saidLine b_Rule_saidLine 2 (some .int) (Cond.code y_Rule_saidLine b_Rule_saidLine 2 (some .int) :: kx_T) rm mc ms 1 := by
  rcases r with u | u | u | u | u
  · exact kx_cwU (x := ⟨"PrefetchRules$Rule", "saidLine", "(I)I"⟩) S kw_addbeef1c5 kw_5b17acf0c9 kw_b391950695 kw_56aa819fd1 kw_16e8b63ac1 kw_d0941c2f9e rfl (by decide +kernel) ⟨hr.1, hr.2.1, hr.2.2.1, Nat.le_trans (show 8 + (2 + 11) + rm.locals ≤ 8 + (2 + 11) + rm.locals by omega) hr.2.2.2⟩
  · exact kx_cwU (x := ⟨"PrefetchRules$Rule", "saidLine", "(I)I"⟩) S kw_addbeef1c5 kw_5b17acf0c9 kw_b391950695 kw_c2f0f754fd kw_16e8b63ac1 kw_d0941c2f9e rfl (by decide +kernel) ⟨hr.1, hr.2.1, hr.2.2.1, Nat.le_trans (show 8 + (2 + 11) + rm.locals ≤ 8 + (2 + 11) + rm.locals by omega) hr.2.2.2⟩
  · exact kx_cwU (x := ⟨"PrefetchRules$Rule", "saidLine", "(I)I"⟩) S kw_addbeef1c5 kw_5b17acf0c9 kw_b391950695 kw_1bc7c4ed64 kw_16e8b63ac1 kw_d0941c2f9e rfl (by decide +kernel) ⟨hr.1, hr.2.1, hr.2.2.1, Nat.le_trans (show 8 + (2 + 11) + rm.locals ≤ 8 + (2 + 11) + rm.locals by omega) hr.2.2.2⟩
  · exact kx_cwU (x := ⟨"PrefetchRules$Rule", "saidLine", "(I)I"⟩) S kw_addbeef1c5 kw_5b17acf0c9 kw_b391950695 kw_91f414499e kw_16e8b63ac1 kw_d0941c2f9e rfl (by decide +kernel) ⟨hr.1, hr.2.1, hr.2.2.1, Nat.le_trans (show 8 + (2 + 11) + rm.locals ≤ 8 + (2 + 11) + rm.locals by omega) hr.2.2.2⟩
  · exact kx_cwU (x := ⟨"PrefetchRules$Rule", "saidLine", "(I)I"⟩) S kw_addbeef1c5 kw_5b17acf0c9 kw_b391950695 kw_ffc54bf06b kw_16e8b63ac1 kw_d0941c2f9e rfl (by decide +kernel) ⟨hr.1, hr.2.1, hr.2.2.1, Nat.le_trans (show 8 + (2 + 11) + rm.locals ≤ 8 + (2 + 11) + rm.locals by omega) hr.2.2.2⟩
theorem cu_known_knowledge {p : Program} {R : Room} {s : State} {m : MethodId} {args : Array Value} {c : Code} {cc : ByteArray} {nL mc ms : Nat} {rm : Room} {G : kx_G} {A : Nat → Prop} (S : CallFix p m c cc nL s args kx_T "PrefetchRules") (F : kx_F G A s) (r : RS) (hr : kx_rm rm R 3 mc ms) : va_CU R s args "PrefetchRules" (rcC r) "PrefetchRules$Rule" 122 ⟨"PrefetchRules$Rule", "knowledge", "(I)I"⟩ (I_knowledge_y r) (I_knowledge_b r) (I_knowledge_m r) (some .int) (Cond.code (I_knowledge_y r) (I_knowledge_b r) (I_knowledge_m r) (some .int) :: kx_T) rm mc ms 1 := by
  rcases r with u | u | u | u | u
  · exact kx_cwA (x := ⟨"PrefetchRules$Rule", "knowledge", "(I)I"⟩) S F kw_07273e7618 kw_b773726d46 kw_10ae939f31 kw_3479eedaea kw_35af122afa kw_85a09a4797 kw_ca2b347570 (by decide +kernel) ⟨hr.1, hr.2.1, hr.2.2.1, Nat.le_trans (show 8 + (2 + 11) + rm.locals ≤ 8 + (3 + 11) + rm.locals by omega) hr.2.2.2⟩
  · exact kx_cwA (x := ⟨"PrefetchRules$Rule", "knowledge", "(I)I"⟩) S F kw_0c0e29d7f8 kw_b773726d46 kw_10ae939f31 kw_05dbf0ceee kw_de01bb7e7e kw_a3458301cd kw_ca2b347570 (by decide +kernel) ⟨hr.1, hr.2.1, hr.2.2.1, Nat.le_trans (show 8 + (3 + 11) + rm.locals ≤ 8 + (3 + 11) + rm.locals by omega) hr.2.2.2⟩
  · exact kx_cwA (x := ⟨"PrefetchRules$Rule", "knowledge", "(I)I"⟩) S F kw_afd3936d31 kw_b773726d46 kw_10ae939f31 kw_807f12edd7 kw_80c7bccd0d kw_9205f02653 kw_ca2b347570 (by decide +kernel) ⟨hr.1, hr.2.1, hr.2.2.1, Nat.le_trans (show 8 + (2 + 11) + rm.locals ≤ 8 + (3 + 11) + rm.locals by omega) hr.2.2.2⟩
  · exact kx_cwA (x := ⟨"PrefetchRules$Rule", "knowledge", "(I)I"⟩) S F kw_f3fd71495e kw_b773726d46 kw_10ae939f31 kw_27e189ac75 kw_1f80e649da kw_f5f3fdc6db kw_ca2b347570 (by decide +kernel) ⟨hr.1, hr.2.1, hr.2.2.1, Nat.le_trans (show 8 + (2 + 11) + rm.locals ≤ 8 + (3 + 11) + rm.locals by omega) hr.2.2.2⟩
  · exact kx_cwA (x := ⟨"PrefetchRules$Rule", "knowledge", "(I)I"⟩) S F kw_cc21cb8b47 kw_b773726d46 kw_10ae939f31 kw_be14fcb575 kw_fd13744dcb kw_0ac9bf647e kw_ca2b347570 (by decide +kernel) ⟨hr.1, hr.2.1, hr.2.2.1, Nat.le_trans (show 8 + (2 + 11) + rm.locals ≤ 8 + (3 + 11) + rm.locals by omega) hr.2.2.2⟩
theorem cu_trust_confidence {p : Program} {R : Room} {s : State} {m : MethodId} {args : Array Value} {c : Code} {cc : ByteArray} {nL mc ms : Nat} {rm : Room} {G : kx_G} {A : Nat → Prop} (S : CallFix p m c cc nL s args kx_T "PrefetchRules") (F : kx_F G A s) (r : RS) (hr : kx_rm rm R 3 mc ms) : va_CU R s args "PrefetchRules" (rcC r) "PrefetchRules$Rule" 125 ⟨"PrefetchRules$Rule", "confidence", "(I)I"⟩ (I_confidence_y r) (I_confidence_b r) (I_confidence_m r) (some .int) (Cond.code (I_confidence_y r) (I_confidence_b r) (I_confidence_m r) (some .int) :: kx_T) rm mc ms 1 := by
  rcases r with u | u | u | u | u
  · exact kx_cwA (x := ⟨"PrefetchRules$Rule", "confidence", "(I)I"⟩) S F kw_500d3cdb67 kw_0915b879ff kw_b07bfcc372 kw_c6f34bf2f1 kw_22bac1bb73 kw_85a09a4797 kw_f08a92d8ca (by decide +kernel) ⟨hr.1, hr.2.1, hr.2.2.1, Nat.le_trans (show 8 + (2 + 11) + rm.locals ≤ 8 + (3 + 11) + rm.locals by omega) hr.2.2.2⟩
  · exact kx_cwA (x := ⟨"PrefetchRules$Rule", "confidence", "(I)I"⟩) S F kw_79ffbe75dc kw_0915b879ff kw_b07bfcc372 kw_d2bfba6497 kw_e55d1f4bc7 kw_a3458301cd kw_f08a92d8ca (by decide +kernel) ⟨hr.1, hr.2.1, hr.2.2.1, Nat.le_trans (show 8 + (3 + 11) + rm.locals ≤ 8 + (3 + 11) + rm.locals by omega) hr.2.2.2⟩
  · exact kx_cwA (x := ⟨"PrefetchRules$Rule", "confidence", "(I)I"⟩) S F kw_9c7169d336 kw_0915b879ff kw_b07bfcc372 kw_998c67bf30 kw_fd67af43c8 kw_9205f02653 kw_f08a92d8ca (by decide +kernel) ⟨hr.1, hr.2.1, hr.2.2.1, Nat.le_trans (show 8 + (2 + 11) + rm.locals ≤ 8 + (3 + 11) + rm.locals by omega) hr.2.2.2⟩
  · exact kx_cwA (x := ⟨"PrefetchRules$Rule", "confidence", "(I)I"⟩) S F kw_1203c19340 kw_0915b879ff kw_b07bfcc372 kw_436b89a140 kw_267792abc7 kw_f5f3fdc6db kw_f08a92d8ca (by decide +kernel) ⟨hr.1, hr.2.1, hr.2.2.1, Nat.le_trans (show 8 + (2 + 11) + rm.locals ≤ 8 + (3 + 11) + rm.locals by omega) hr.2.2.2⟩
  · exact kx_cwA (x := ⟨"PrefetchRules$Rule", "confidence", "(I)I"⟩) S F kw_4129967a92 kw_0915b879ff kw_b07bfcc372 kw_14489692af kw_576460a555 kw_0ac9bf647e kw_f08a92d8ca (by decide +kernel) ⟨hr.1, hr.2.1, hr.2.2.1, Nat.le_trans (show 8 + (2 + 11) + rm.locals ≤ 8 + (3 + 11) + rm.locals by omega) hr.2.2.2⟩
theorem cu_count_roundCount {p : Program} {R : Room} {s : State} {m : MethodId} {args : Array Value} {c : Code} {cc : ByteArray} {nL mc ms : Nat} {rm : Room} {G : kx_G} {A : Nat → Prop} (S : CallFix p m c cc nL s args kx_T "PrefetchRules") (F : kx_F G A s) (r : RS) (hr : kx_rm rm R 1 mc ms) : va_CU R s args "PrefetchRules" (rcC r) "PrefetchRules$Rule" 149 ⟨"PrefetchRules$Rule", "roundCount", "()I"⟩ (I_roundCount_y r) (I_roundCount_b r) (I_roundCount_m r) (some .int) (Cond.code (I_roundCount_y r) (I_roundCount_b r) (I_roundCount_m r) (some .int) :: kx_T) rm mc ms 0 := by
  rcases r with u | u | u | u | u
  · exact kx_cwU (x := ⟨"PrefetchRules$Rule", "roundCount", "()I"⟩) S kw_d5911dc581 kw_440e1433dd kw_e37cadfb92 kw_cdcb7c63d1 kw_ba8f5d9963 kw_d0941c2f9e rfl (by decide +kernel) ⟨hr.1, hr.2.1, hr.2.2.1, Nat.le_trans (show 8 + (1 + 11) + rm.locals ≤ 8 + (1 + 11) + rm.locals by omega) hr.2.2.2⟩
  · exact kx_cwU (x := ⟨"PrefetchRules$Rule", "roundCount", "()I"⟩) S kw_d5911dc581 kw_440e1433dd kw_e37cadfb92 kw_f2a6c04a8f kw_ba8f5d9963 kw_d0941c2f9e rfl (by decide +kernel) ⟨hr.1, hr.2.1, hr.2.2.1, Nat.le_trans (show 8 + (1 + 11) + rm.locals ≤ 8 + (1 + 11) + rm.locals by omega) hr.2.2.2⟩
  · exact kx_cwU (x := ⟨"PrefetchRules$Rule", "roundCount", "()I"⟩) S kw_d5911dc581 kw_440e1433dd kw_e37cadfb92 kw_4ab77ff0ba kw_ba8f5d9963 kw_d0941c2f9e rfl (by decide +kernel) ⟨hr.1, hr.2.1, hr.2.2.1, Nat.le_trans (show 8 + (1 + 11) + rm.locals ≤ 8 + (1 + 11) + rm.locals by omega) hr.2.2.2⟩
  · exact kx_cwO (x := ⟨"PrefetchRules$Rule", "roundCount", "()I"⟩) S kw_6b97fba1a1 kw_440e1433dd kw_e37cadfb92 kw_ba8f5d9963 kw_e96ba09a9f kw_b52e155e77 kw_f5f3fdc6db kw_d5911dc581 (by decide +kernel) ⟨hr.1, hr.2.1, hr.2.2.1, Nat.le_trans (show 8 + (1 + 11) + rm.locals ≤ 8 + (1 + 11) + rm.locals by omega) hr.2.2.2⟩
  · exact kx_cwU (x := ⟨"PrefetchRules$Rule", "roundCount", "()I"⟩) S kw_d5911dc581 kw_440e1433dd kw_e37cadfb92 kw_5b39518aaf kw_ba8f5d9963 kw_d0941c2f9e rfl (by decide +kernel) ⟨hr.1, hr.2.1, hr.2.2.1, Nat.le_trans (show 8 + (1 + 11) + rm.locals ≤ 8 + (1 + 11) + rm.locals by omega) hr.2.2.2⟩
