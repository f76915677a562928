section
-- ===== PART A: goes FIRST, ahead of the names: the tables' words, and 'selects' of the private methods out of them =====
/-- a private method of a class that the tables say can be made, by its rows of tables_1 -/
def lw_okq (q : MethodName × Nat) : Prop := (q.1.cls ≠ "java/lang/invoke/MethodHandle" ∧ q.1.cls ≠ "java/lang/invoke/VarHandle") ∧ Cond.instantiable q.1.cls q.2 ∈ tables_1 ∧ Cond.privateMethod q.1 ∈ tables_1 ∧ Cond.instanceMethod q.1 ∈ tables_1
theorem lw_p0 : lw_okq (⟨"PrefetchRules", "nextCycle", "()I"⟩, 14) := ⟨⟨by decide +kernel, by decide +kernel⟩, List.mem_of_getElem? (i := 18) (by decide +kernel), List.mem_of_getElem? (i := 244) (by decide +kernel), List.mem_of_getElem? (i := 245) (by decide +kernel)⟩
theorem lw_p1 : lw_okq (⟨"PrefetchRules", "come", "(IZ)V"⟩, 14) := ⟨⟨by decide +kernel, by decide +kernel⟩, List.mem_of_getElem? (i := 18) (by decide +kernel), List.mem_of_getElem? (i := 256) (by decide +kernel), List.mem_of_getElem? (i := 257) (by decide +kernel)⟩
theorem lw_p2 : lw_okq (⟨"PrefetchRules$Store", "moveInFront", "(IIZ)V"⟩, 3) := ⟨⟨by decide +kernel, by decide +kernel⟩, List.mem_of_getElem? (i := 32) (by decide +kernel), List.mem_of_getElem? (i := 272) (by decide +kernel), List.mem_of_getElem? (i := 273) (by decide +kernel)⟩
theorem lw_p3 : lw_okq (⟨"PrefetchRules", "ask", "(I)I"⟩, 14) := ⟨⟨by decide +kernel, by decide +kernel⟩, List.mem_of_getElem? (i := 18) (by decide +kernel), List.mem_of_getElem? (i := 280) (by decide +kernel), List.mem_of_getElem? (i := 281) (by decide +kernel)⟩
theorem lw_p4 : lw_okq (⟨"PrefetchRules", "hit", "(I)V"⟩, 14) := ⟨⟨by decide +kernel, by decide +kernel⟩, List.mem_of_getElem? (i := 18) (by decide +kernel), List.mem_of_getElem? (i := 291) (by decide +kernel), List.mem_of_getElem? (i := 292) (by decide +kernel)⟩
theorem lw_p5 : lw_okq (⟨"PrefetchRules$Offsets", "tryCandidate", "(I)V"⟩, 11) := ⟨⟨by decide +kernel, by decide +kernel⟩, List.mem_of_getElem? (i := 122) (by decide +kernel), List.mem_of_getElem? (i := 341) (by decide +kernel), List.mem_of_getElem? (i := 342) (by decide +kernel)⟩
theorem lw_p6 : lw_okq (⟨"PrefetchRules$Offsets", "isRecent", "(I)Z"⟩, 11) := ⟨⟨by decide +kernel, by decide +kernel⟩, List.mem_of_getElem? (i := 122) (by decide +kernel), List.mem_of_getElem? (i := 347) (by decide +kernel), List.mem_of_getElem? (i := 348) (by decide +kernel)⟩
theorem lw_p7 : lw_okq (⟨"PrefetchRules$Offsets", "endRound", "()V"⟩, 11) := ⟨⟨by decide +kernel, by decide +kernel⟩, List.mem_of_getElem? (i := 122) (by decide +kernel), List.mem_of_getElem? (i := 352) (by decide +kernel), List.mem_of_getElem? (i := 353) (by decide +kernel)⟩
theorem lw_p8 : lw_okq (⟨"PrefetchRules$Offsets", "remember", "(I)V"⟩, 11) := ⟨⟨by decide +kernel, by decide +kernel⟩, List.mem_of_getElem? (i := 122) (by decide +kernel), List.mem_of_getElem? (i := 359) (by decide +kernel), List.mem_of_getElem? (i := 360) (by decide +kernel)⟩
theorem lw_p9 : lw_okq (⟨"PrefetchRules$Pairs", "follow", "(II)V"⟩, 10) := ⟨⟨by decide +kernel, by decide +kernel⟩, List.mem_of_getElem? (i := 156) (by decide +kernel), List.mem_of_getElem? (i := 366) (by decide +kernel), List.mem_of_getElem? (i := 367) (by decide +kernel)⟩
theorem lw_p10 : lw_okq (⟨"PrefetchRules$Pairs", "isOwn", "(II)Z"⟩, 10) := ⟨⟨by decide +kernel, by decide +kernel⟩, List.mem_of_getElem? (i := 156) (by decide +kernel), List.mem_of_getElem? (i := 373) (by decide +kernel), List.mem_of_getElem? (i := 374) (by decide +kernel)⟩
theorem lw_p11 : lw_okq (⟨"PrefetchRules$Pairs", "behindCount", "(I)I"⟩, 10) := ⟨⟨by decide +kernel, by decide +kernel⟩, List.mem_of_getElem? (i := 156) (by decide +kernel), List.mem_of_getElem? (i := 380) (by decide +kernel), List.mem_of_getElem? (i := 381) (by decide +kernel)⟩
theorem lw_p12 : lw_okq (⟨"PrefetchRules$Streams", "moveInFront", "(III)V"⟩, 6) := ⟨⟨by decide +kernel, by decide +kernel⟩, List.mem_of_getElem? (i := 103) (by decide +kernel), List.mem_of_getElem? (i := 400) (by decide +kernel), List.mem_of_getElem? (i := 401) (by decide +kernel)⟩
theorem lw_p13 : lw_okq (⟨"PrefetchRules$Streams", "begin", "(I)V"⟩, 6) := ⟨⟨by decide +kernel, by decide +kernel⟩, List.mem_of_getElem? (i := 103) (by decide +kernel), List.mem_of_getElem? (i := 407) (by decide +kernel), List.mem_of_getElem? (i := 408) (by decide +kernel)⟩
theorem lw_p14 : lw_okq (⟨"PrefetchRules$Strides", "isOwn", "(II)Z"⟩, 8) := ⟨⟨by decide +kernel, by decide +kernel⟩, List.mem_of_getElem? (i := 69) (by decide +kernel), List.mem_of_getElem? (i := 417) (by decide +kernel), List.mem_of_getElem? (i := 418) (by decide +kernel)⟩
theorem lw_p15 : lw_okq (⟨"PrefetchRules$Strides", "begin", "(III)V"⟩, 8) := ⟨⟨by decide +kernel, by decide +kernel⟩, List.mem_of_getElem? (i := 69) (by decide +kernel), List.mem_of_getElem? (i := 421) (by decide +kernel), List.mem_of_getElem? (i := 422) (by decide +kernel)⟩
def lw_privs_1 : List (MethodName × Nat) := [(⟨"PrefetchRules", "nextCycle", "()I"⟩, 14), (⟨"PrefetchRules", "come", "(IZ)V"⟩, 14), (⟨"PrefetchRules$Store", "moveInFront", "(IIZ)V"⟩, 3), (⟨"PrefetchRules", "ask", "(I)I"⟩, 14), (⟨"PrefetchRules", "hit", "(I)V"⟩, 14), (⟨"PrefetchRules$Offsets", "tryCandidate", "(I)V"⟩, 11), (⟨"PrefetchRules$Offsets", "isRecent", "(I)Z"⟩, 11), (⟨"PrefetchRules$Offsets", "endRound", "()V"⟩, 11), (⟨"PrefetchRules$Offsets", "remember", "(I)V"⟩, 11), (⟨"PrefetchRules$Pairs", "follow", "(II)V"⟩, 10), (⟨"PrefetchRules$Pairs", "isOwn", "(II)Z"⟩, 10), (⟨"PrefetchRules$Pairs", "behindCount", "(I)I"⟩, 10), (⟨"PrefetchRules$Streams", "moveInFront", "(III)V"⟩, 6), (⟨"PrefetchRules$Streams", "begin", "(I)V"⟩, 6), (⟨"PrefetchRules$Strides", "isOwn", "(II)Z"⟩, 8), (⟨"PrefetchRules$Strides", "begin", "(III)V"⟩, 8)]
theorem lw_r1 : ∀ q ∈ lw_privs_1, lw_okq q := List.forall_mem_cons.mpr ⟨lw_p0, List.forall_mem_cons.mpr ⟨lw_p1, List.forall_mem_cons.mpr ⟨lw_p2, List.forall_mem_cons.mpr ⟨lw_p3, List.forall_mem_cons.mpr ⟨lw_p4, List.forall_mem_cons.mpr ⟨lw_p5, List.forall_mem_cons.mpr ⟨lw_p6, List.forall_mem_cons.mpr ⟨lw_p7, List.forall_mem_cons.mpr ⟨lw_p8, List.forall_mem_cons.mpr ⟨lw_p9, List.forall_mem_cons.mpr ⟨lw_p10, List.forall_mem_cons.mpr ⟨lw_p11, List.forall_mem_cons.mpr ⟨lw_p12, List.forall_mem_cons.mpr ⟨lw_p13, List.forall_mem_cons.mpr ⟨lw_p14, List.forall_mem_cons.mpr ⟨lw_p15, fun _ h => absurd h List.not_mem_nil⟩⟩⟩⟩⟩⟩⟩⟩⟩⟩⟩⟩⟩⟩⟩⟩
theorem lw_p16 : lw_okq (⟨"PrefetchRules$Strides", "compare", "(II)V"⟩, 8) := ⟨⟨by decide +kernel, by decide +kernel⟩, List.mem_of_getElem? (i := 69) (by decide +kernel), List.mem_of_getElem? (i := 425) (by decide +kernel), List.mem_of_getElem? (i := 426) (by decide +kernel)⟩
theorem lw_p17 : lw_okq (⟨"PrefetchRules", "fetch", "(I)V"⟩, 14) := ⟨⟨by decide +kernel, by decide +kernel⟩, List.mem_of_getElem? (i := 18) (by decide +kernel), List.mem_of_getElem? (i := 451) (by decide +kernel), List.mem_of_getElem? (i := 452) (by decide +kernel)⟩
theorem lw_p18 : lw_okq (⟨"java/lang/Throwable", "fillInStackTrace", "(I)Ljava/lang/Throwable;"⟩, 6) := ⟨⟨by decide +kernel, by decide +kernel⟩, List.mem_of_getElem? (i := 598) (by decide +kernel), List.mem_of_getElem? (i := 596) (by decide +kernel), List.mem_of_getElem? (i := 597) (by decide +kernel)⟩
theorem lw_p19 : lw_okq (⟨"PrefetchRulesModel", "arrive", "()I"⟩, 34) := ⟨⟨by decide +kernel, by decide +kernel⟩, List.mem_of_getElem? (i := 669) (by decide +kernel), List.mem_of_getElem? (i := 785) (by decide +kernel), List.mem_of_getElem? (i := 786) (by decide +kernel)⟩
theorem lw_p20 : lw_okq (⟨"PrefetchRulesModel", "takeOut", "(I)V"⟩, 34) := ⟨⟨by decide +kernel, by decide +kernel⟩, List.mem_of_getElem? (i := 669) (by decide +kernel), List.mem_of_getElem? (i := 789) (by decide +kernel), List.mem_of_getElem? (i := 790) (by decide +kernel)⟩
theorem lw_p21 : lw_okq (⟨"PrefetchRulesModel", "come", "(IZ)V"⟩, 34) := ⟨⟨by decide +kernel, by decide +kernel⟩, List.mem_of_getElem? (i := 669) (by decide +kernel), List.mem_of_getElem? (i := 793) (by decide +kernel), List.mem_of_getElem? (i := 794) (by decide +kernel)⟩
theorem lw_p22 : lw_okq (⟨"PrefetchRulesModel", "use", "(I)V"⟩, 34) := ⟨⟨by decide +kernel, by decide +kernel⟩, List.mem_of_getElem? (i := 669) (by decide +kernel), List.mem_of_getElem? (i := 797) (by decide +kernel), List.mem_of_getElem? (i := 798) (by decide +kernel)⟩
theorem lw_p23 : lw_okq (⟨"PrefetchRulesModel", "placeOf", "(I)I"⟩, 34) := ⟨⟨by decide +kernel, by decide +kernel⟩, List.mem_of_getElem? (i := 669) (by decide +kernel), List.mem_of_getElem? (i := 801) (by decide +kernel), List.mem_of_getElem? (i := 802) (by decide +kernel)⟩
theorem lw_p24 : lw_okq (⟨"PrefetchRulesModel", "queueOf", "(I)I"⟩, 34) := ⟨⟨by decide +kernel, by decide +kernel⟩, List.mem_of_getElem? (i := 669) (by decide +kernel), List.mem_of_getElem? (i := 805) (by decide +kernel), List.mem_of_getElem? (i := 806) (by decide +kernel)⟩
theorem lw_p25 : lw_okq (⟨"PrefetchRulesModel", "sayRow", "(II)V"⟩, 34) := ⟨⟨by decide +kernel, by decide +kernel⟩, List.mem_of_getElem? (i := 669) (by decide +kernel), List.mem_of_getElem? (i := 809) (by decide +kernel), List.mem_of_getElem? (i := 810) (by decide +kernel)⟩
theorem lw_p26 : lw_okq (⟨"PrefetchRulesModel", "say", "(I)V"⟩, 34) := ⟨⟨by decide +kernel, by decide +kernel⟩, List.mem_of_getElem? (i := 669) (by decide +kernel), List.mem_of_getElem? (i := 813) (by decide +kernel), List.mem_of_getElem? (i := 814) (by decide +kernel)⟩
theorem lw_p27 : lw_okq (⟨"PrefetchRulesModel", "strides", "(II)V"⟩, 34) := ⟨⟨by decide +kernel, by decide +kernel⟩, List.mem_of_getElem? (i := 669) (by decide +kernel), List.mem_of_getElem? (i := 817) (by decide +kernel), List.mem_of_getElem? (i := 818) (by decide +kernel)⟩
theorem lw_p28 : lw_okq (⟨"PrefetchRulesModel", "follow", "(I)V"⟩, 34) := ⟨⟨by decide +kernel, by decide +kernel⟩, List.mem_of_getElem? (i := 669) (by decide +kernel), List.mem_of_getElem? (i := 821) (by decide +kernel), List.mem_of_getElem? (i := 822) (by decide +kernel)⟩
theorem lw_p29 : lw_okq (⟨"PrefetchRulesModel", "wayTo", "(II)I"⟩, 34) := ⟨⟨by decide +kernel, by decide +kernel⟩, List.mem_of_getElem? (i := 669) (by decide +kernel), List.mem_of_getElem? (i := 825) (by decide +kernel), List.mem_of_getElem? (i := 826) (by decide +kernel)⟩
theorem lw_p30 : lw_okq (⟨"PrefetchRulesModel", "offsets", "(I)V"⟩, 34) := ⟨⟨by decide +kernel, by decide +kernel⟩, List.mem_of_getElem? (i := 669) (by decide +kernel), List.mem_of_getElem? (i := 829) (by decide +kernel), List.mem_of_getElem? (i := 830) (by decide +kernel)⟩
theorem lw_p31 : lw_okq (⟨"PrefetchRulesModel", "endRound", "()V"⟩, 34) := ⟨⟨by decide +kernel, by decide +kernel⟩, List.mem_of_getElem? (i := 669) (by decide +kernel), List.mem_of_getElem? (i := 833) (by decide +kernel), List.mem_of_getElem? (i := 834) (by decide +kernel)⟩
def lw_privs_2 : List (MethodName × Nat) := [(⟨"PrefetchRules$Strides", "compare", "(II)V"⟩, 8), (⟨"PrefetchRules", "fetch", "(I)V"⟩, 14), (⟨"java/lang/Throwable", "fillInStackTrace", "(I)Ljava/lang/Throwable;"⟩, 6), (⟨"PrefetchRulesModel", "arrive", "()I"⟩, 34), (⟨"PrefetchRulesModel", "takeOut", "(I)V"⟩, 34), (⟨"PrefetchRulesModel", "come", "(IZ)V"⟩, 34), (⟨"PrefetchRulesModel", "use", "(I)V"⟩, 34), (⟨"PrefetchRulesModel", "placeOf", "(I)I"⟩, 34), (⟨"PrefetchRulesModel", "queueOf", "(I)I"⟩, 34), (⟨"PrefetchRulesModel", "sayRow", "(II)V"⟩, 34), (⟨"PrefetchRulesModel", "say", "(I)V"⟩, 34), (⟨"PrefetchRulesModel", "strides", "(II)V"⟩, 34), (⟨"PrefetchRulesModel", "follow", "(I)V"⟩, 34), (⟨"PrefetchRulesModel", "wayTo", "(II)I"⟩, 34), (⟨"PrefetchRulesModel", "offsets", "(I)V"⟩, 34), (⟨"PrefetchRulesModel", "endRound", "()V"⟩, 34)]
theorem lw_r2 : ∀ q ∈ lw_privs_2, lw_okq q := List.forall_mem_cons.mpr ⟨lw_p16, List.forall_mem_cons.mpr ⟨lw_p17, List.forall_mem_cons.mpr ⟨lw_p18, List.forall_mem_cons.mpr ⟨lw_p19, List.forall_mem_cons.mpr ⟨lw_p20, List.forall_mem_cons.mpr ⟨lw_p21, List.forall_mem_cons.mpr ⟨lw_p22, List.forall_mem_cons.mpr ⟨lw_p23, List.forall_mem_cons.mpr ⟨lw_p24, List.forall_mem_cons.mpr ⟨lw_p25, List.forall_mem_cons.mpr ⟨lw_p26, List.forall_mem_cons.mpr ⟨lw_p27, List.forall_mem_cons.mpr ⟨lw_p28, List.forall_mem_cons.mpr ⟨lw_p29, List.forall_mem_cons.mpr ⟨lw_p30, List.forall_mem_cons.mpr ⟨lw_p31, fun _ h => absurd h List.not_mem_nil⟩⟩⟩⟩⟩⟩⟩⟩⟩⟩⟩⟩⟩⟩⟩⟩
theorem lw_p32 : lw_okq (⟨"PrefetchRulesModel", "pairs", "(I)V"⟩, 34) := ⟨⟨by decide +kernel, by decide +kernel⟩, List.mem_of_getElem? (i := 669) (by decide +kernel), List.mem_of_getElem? (i := 837) (by decide +kernel), List.mem_of_getElem? (i := 838) (by decide +kernel)⟩
theorem lw_p33 : lw_okq (⟨"PrefetchRulesModel", "fail", "(I)I"⟩, 34) := ⟨⟨by decide +kernel, by decide +kernel⟩, List.mem_of_getElem? (i := 669) (by decide +kernel), List.mem_of_getElem? (i := 848) (by decide +kernel), List.mem_of_getElem? (i := 849) (by decide +kernel)⟩
theorem lw_p34 : lw_okq (⟨"PrefetchRulesModel", "marks", "()I"⟩, 34) := ⟨⟨by decide +kernel, by decide +kernel⟩, List.mem_of_getElem? (i := 669) (by decide +kernel), List.mem_of_getElem? (i := 856) (by decide +kernel), List.mem_of_getElem? (i := 857) (by decide +kernel)⟩
def lw_privs_3 : List (MethodName × Nat) := [(⟨"PrefetchRulesModel", "pairs", "(I)V"⟩, 34), (⟨"PrefetchRulesModel", "fail", "(I)I"⟩, 34), (⟨"PrefetchRulesModel", "marks", "()I"⟩, 34)]
theorem lw_r3 : ∀ q ∈ lw_privs_3, lw_okq q := List.forall_mem_cons.mpr ⟨lw_p32, List.forall_mem_cons.mpr ⟨lw_p33, List.forall_mem_cons.mpr ⟨lw_p34, fun _ h => absurd h List.not_mem_nil⟩⟩⟩
def lw_privs : List (MethodName × Nat) := lw_privs_1 ++ (lw_privs_2 ++ (lw_privs_3))
def lw_tbl : List Cond := k2_sels lw_privs ++ tables_1
theorem lw_privs_ok : ∀ q ∈ lw_privs, lw_okq q := by
  show ∀ q ∈ lw_privs_1 ++ (lw_privs_2 ++ (lw_privs_3)), lw_okq q
  exact List.forall_mem_append.mpr ⟨lw_r1, List.forall_mem_append.mpr ⟨lw_r2, lw_r3⟩⟩
end
section
def F_Main : u_T := fun k => match k with
  | 0 => ("PrefetchRules", "latency", "I", true)
  | 1 => ("PrefetchRules", "store", "LPrefetchRules$Store;", true)
  | 2 => ("PrefetchRules", "queue", "LPrefetchRules$Queue;", true)
  | 3 => ("PrefetchRules", "rule", "LPrefetchRules$Rule;", true)
  | 4 => ("PrefetchRules", "cycles", "I", false)
  | 5 => ("PrefetchRules", "accesses", "I", false)
  | 6 => ("PrefetchRules", "hits", "I", false)
  | 7 => ("PrefetchRules", "late", "I", false)
  | 8 => ("PrefetchRules", "misses", "I", false)
  | 9 => ("PrefetchRules", "useful", "I", false)
  | 10 => ("PrefetchRules", "useless", "I", false)
  | 11 => ("PrefetchRules", "filtered", "I", false)
  | 12 => ("PrefetchRules", "dropped", "I", false)
  | _ => ("PrefetchRules", "fetches", "I", false)
def t_Main : Nat → FieldType := fun k => match k with
  | 0 => .int
  | 1 => .object "PrefetchRules$Store"
  | 2 => .object "PrefetchRules$Queue"
  | 3 => .object "PrefetchRules$Rule"
  | 4 => .int
  | 5 => .int
  | 6 => .int
  | 7 => .int
  | 8 => .int
  | 9 => .int
  | 10 => .int
  | 11 => .int
  | 12 => .int
  | _ => .int
def F_Store : u_T := fun k => match k with
  | 0 => ("PrefetchRules$Store", "lines", "[I", true)
  | 1 => ("PrefetchRules$Store", "marks", "[Z", true)
  | _ => ("PrefetchRules$Store", "size", "I", false)
def t_Store : Nat → FieldType := fun k => match k with
  | 0 => .array .int
  | 1 => .array .boolean
  | _ => .int
def F_Queue : u_T := fun k => match k with
  | 0 => ("PrefetchRules$Queue", "lines", "[I", true)
  | 1 => ("PrefetchRules$Queue", "cycles", "[I", true)
  | _ => ("PrefetchRules$Queue", "size", "I", false)
def t_Queue : Nat → FieldType := fun k => match k with
  | 0 => .array .int
  | 1 => .array .int
  | _ => .int
def F_Next : u_T := fun k => match k with
  | 0 => ("PrefetchRules$Rule", "degree", "I", true)
  | 1 => ("PrefetchRules$Rule", "said", "[I", true)
  | _ => ("PrefetchRules$Rule", "saidCount", "I", false)
def t_Next : Nat → FieldType := fun k => match k with
  | 0 => .int
  | 1 => .array .int
  | _ => .int
def F_Strides : u_T := fun k => match k with
  | 0 => ("PrefetchRules$Rule", "degree", "I", true)
  | 1 => ("PrefetchRules$Rule", "said", "[I", true)
  | 2 => ("PrefetchRules$Rule", "saidCount", "I", false)
  | 3 => ("PrefetchRules$Strides", "taken", "[Z", true)
  | 4 => ("PrefetchRules$Strides", "places", "[I", true)
  | 5 => ("PrefetchRules$Strides", "lines", "[I", true)
  | 6 => ("PrefetchRules$Strides", "strides", "[I", true)
  | _ => ("PrefetchRules$Strides", "trusts", "[I", true)
def t_Strides : Nat → FieldType := fun k => match k with
  | 0 => .int
  | 1 => .array .int
  | 2 => .int
  | 3 => .array .boolean
  | 4 => .array .int
  | 5 => .array .int
  | 6 => .array .int
  | _ => .array .int
def F_Streams : u_T := fun k => match k with
  | 0 => ("PrefetchRules$Rule", "degree", "I", true)
  | 1 => ("PrefetchRules$Rule", "said", "[I", true)
  | 2 => ("PrefetchRules$Rule", "saidCount", "I", false)
  | 3 => ("PrefetchRules$Streams", "lines", "[I", true)
  | 4 => ("PrefetchRules$Streams", "ways", "[I", true)
  | _ => ("PrefetchRules$Streams", "size", "I", false)
def t_Streams : Nat → FieldType := fun k => match k with
  | 0 => .int
  | 1 => .array .int
  | 2 => .int
  | 3 => .array .int
  | 4 => .array .int
  | _ => .int
def F_Offsets : u_T := fun k => match k with
  | 0 => ("PrefetchRules$Rule", "degree", "I", true)
  | 1 => ("PrefetchRules$Rule", "said", "[I", true)
  | 2 => ("PrefetchRules$Rule", "saidCount", "I", false)
  | 3 => ("PrefetchRules$Offsets", "recent", "[I", true)
  | 4 => ("PrefetchRules$Offsets", "recentCount", "I", false)
  | 5 => ("PrefetchRules$Offsets", "oldest", "I", false)
  | 6 => ("PrefetchRules$Offsets", "scores", "[I", true)
  | 7 => ("PrefetchRules$Offsets", "turn", "I", false)
  | 8 => ("PrefetchRules$Offsets", "tries", "I", false)
  | 9 => ("PrefetchRules$Offsets", "offset", "I", false)
  | _ => ("PrefetchRules$Offsets", "rounds", "I", false)
def t_Offsets : Nat → FieldType := fun k => match k with
  | 0 => .int
  | 1 => .array .int
  | 2 => .int
  | 3 => .array .int
  | 4 => .int
  | 5 => .int
  | 6 => .array .int
  | 7 => .int
  | 8 => .int
  | 9 => .int
  | _ => .int
def F_Pairs : u_T := fun k => match k with
  | 0 => ("PrefetchRules$Rule", "degree", "I", true)
  | 1 => ("PrefetchRules$Rule", "said", "[I", true)
  | 2 => ("PrefetchRules$Rule", "saidCount", "I", false)
  | 3 => ("PrefetchRules$Pairs", "taken", "[Z", true)
  | 4 => ("PrefetchRules$Pairs", "owners", "[I", true)
  | 5 => ("PrefetchRules$Pairs", "behind", "[I", true)
  | 6 => ("PrefetchRules$Pairs", "newer", "[I", true)
  | 7 => ("PrefetchRules$Pairs", "older", "[I", true)
  | 8 => ("PrefetchRules$Pairs", "begun", "Z", false)
  | _ => ("PrefetchRules$Pairs", "before", "I", false)
def t_Pairs : Nat → FieldType := fun k => match k with
  | 0 => .int
  | 1 => .array .int
  | 2 => .int
  | 3 => .array .boolean
  | 4 => .array .int
  | 5 => .array .int
  | 6 => .array .int
  | 7 => .array .int
  | 8 => .boolean
  | _ => .int
def vwCl : List vw_C := [("PrefetchRules", F_Main, 14), ("PrefetchRules$Store", F_Store, 3), ("PrefetchRules$Queue", F_Queue, 3), ("PrefetchRules$Next", F_Next, 3), ("PrefetchRules$Strides", F_Strides, 8), ("PrefetchRules$Streams", F_Streams, 6), ("PrefetchRules$Offsets", F_Offsets, 11), ("PrefetchRules$Pairs", F_Pairs, 10)]
def y_Next_init : MethodName := ⟨"PrefetchRules$Next", "<init>", "(I)V"⟩
abbrev b_Next_init : ByteArray := prog_2_method_1_code
def y_Next_confidence : MethodName := ⟨"PrefetchRules$Next", "confidence", "(I)I"⟩
abbrev b_Next_confidence : ByteArray := prog_2_method_4_code
def y_Next_knowledge : MethodName := ⟨"PrefetchRules$Next", "knowledge", "(I)I"⟩
abbrev b_Next_knowledge : ByteArray := prog_2_method_3_code
def y_Next_learn : MethodName := ⟨"PrefetchRules$Next", "learn", "(II)V"⟩
abbrev b_Next_learn : ByteArray := prog_2_method_2_code
def y_Offsets_init : MethodName := ⟨"PrefetchRules$Offsets", "<init>", "(I)V"⟩
abbrev b_Offsets_init : ByteArray := prog_3_method_1_code
def y_Offsets_confidence : MethodName := ⟨"PrefetchRules$Offsets", "confidence", "(I)I"⟩
abbrev b_Offsets_confidence : ByteArray := prog_3_method_4_code
def y_Offsets_endRound : MethodName := ⟨"PrefetchRules$Offsets", "endRound", "()V"⟩
abbrev b_Offsets_endRound : ByteArray := prog_3_method_7_code
def y_Offsets_isRecent : MethodName := ⟨"PrefetchRules$Offsets", "isRecent", "(I)Z"⟩
abbrev b_Offsets_isRecent : ByteArray := prog_3_method_8_code
def y_Offsets_knowledge : MethodName := ⟨"PrefetchRules$Offsets", "knowledge", "(I)I"⟩
abbrev b_Offsets_knowledge : ByteArray := prog_3_method_3_code
def y_Offsets_learn : MethodName := ⟨"PrefetchRules$Offsets", "learn", "(II)V"⟩
abbrev b_Offsets_learn : ByteArray := prog_3_method_2_code
def y_Offsets_remember : MethodName := ⟨"PrefetchRules$Offsets", "remember", "(I)V"⟩
abbrev b_Offsets_remember : ByteArray := prog_3_method_9_code
def y_Offsets_roundCount : MethodName := ⟨"PrefetchRules$Offsets", "roundCount", "()I"⟩
abbrev b_Offsets_roundCount : ByteArray := prog_3_method_5_code
def y_Offsets_tryCandidate : MethodName := ⟨"PrefetchRules$Offsets", "tryCandidate", "(I)V"⟩
abbrev b_Offsets_tryCandidate : ByteArray := prog_3_method_6_code
def y_Pairs_init : MethodName := ⟨"PrefetchRules$Pairs", "<init>", "(I)V"⟩
abbrev b_Pairs_init : ByteArray := prog_4_method_1_code
def y_Pairs_behindCount : MethodName := ⟨"PrefetchRules$Pairs", "behindCount", "(I)I"⟩
abbrev b_Pairs_behindCount : ByteArray := prog_4_method_7_code
def y_Pairs_confidence : MethodName := ⟨"PrefetchRules$Pairs", "confidence", "(I)I"⟩
abbrev b_Pairs_confidence : ByteArray := prog_4_method_4_code
def y_Pairs_follow : MethodName := ⟨"PrefetchRules$Pairs", "follow", "(II)V"⟩
abbrev b_Pairs_follow : ByteArray := prog_4_method_8_code
def y_Pairs_isOwn : MethodName := ⟨"PrefetchRules$Pairs", "isOwn", "(II)Z"⟩
abbrev b_Pairs_isOwn : ByteArray := prog_4_method_6_code
def y_Pairs_knowledge : MethodName := ⟨"PrefetchRules$Pairs", "knowledge", "(I)I"⟩
abbrev b_Pairs_knowledge : ByteArray := prog_4_method_3_code
def y_Pairs_learn : MethodName := ⟨"PrefetchRules$Pairs", "learn", "(II)V"⟩
abbrev b_Pairs_learn : ByteArray := prog_4_method_2_code
def y_Pairs_rowOf : MethodName := ⟨"PrefetchRules$Pairs", "rowOf", "(I)I"⟩
abbrev b_Pairs_rowOf : ByteArray := prog_4_method_5_code
def y_Queue_init : MethodName := ⟨"PrefetchRules$Queue", "<init>", "()V"⟩
abbrev b_Queue_init : ByteArray := prog_5_method_1_code
def y_Queue_add : MethodName := ⟨"PrefetchRules$Queue", "add", "(II)V"⟩
abbrev b_Queue_add : ByteArray := prog_5_method_8_code
def y_Queue_clear : MethodName := ⟨"PrefetchRules$Queue", "clear", "()V"⟩
abbrev b_Queue_clear : ByteArray := prog_5_method_10_code
def y_Queue_cycleAt : MethodName := ⟨"PrefetchRules$Queue", "cycleAt", "(I)I"⟩
abbrev b_Queue_cycleAt : ByteArray := prog_5_method_5_code
def y_Queue_find : MethodName := ⟨"PrefetchRules$Queue", "find", "(I)I"⟩
abbrev b_Queue_find : ByteArray := prog_5_method_7_code
def y_Queue_firstIsDue : MethodName := ⟨"PrefetchRules$Queue", "firstIsDue", "(I)Z"⟩
abbrev b_Queue_firstIsDue : ByteArray := prog_5_method_6_code
def y_Queue_isFull : MethodName := ⟨"PrefetchRules$Queue", "isFull", "()Z"⟩
abbrev b_Queue_isFull : ByteArray := prog_5_method_3_code
def y_Queue_lineAt : MethodName := ⟨"PrefetchRules$Queue", "lineAt", "(I)I"⟩
abbrev b_Queue_lineAt : ByteArray := prog_5_method_4_code
def y_Queue_remove : MethodName := ⟨"PrefetchRules$Queue", "remove", "(I)V"⟩
abbrev b_Queue_remove : ByteArray := prog_5_method_9_code
def y_Queue_size : MethodName := ⟨"PrefetchRules$Queue", "size", "()I"⟩
abbrev b_Queue_size : ByteArray := prog_5_method_2_code
def y_Rule_init : MethodName := ⟨"PrefetchRules$Rule", "<init>", "(I)V"⟩
abbrev b_Rule_init : ByteArray := prog_6_method_1_code
def y_Rule_degree : MethodName := ⟨"PrefetchRules$Rule", "degree", "()I"⟩
abbrev b_Rule_degree : ByteArray := prog_6_method_7_code
def y_Rule_hear : MethodName := ⟨"PrefetchRules$Rule", "hear", "(II)V"⟩
abbrev b_Rule_hear : ByteArray := prog_6_method_6_code
def y_Rule_roundCount : MethodName := ⟨"PrefetchRules$Rule", "roundCount", "()I"⟩
abbrev b_Rule_roundCount : ByteArray := prog_6_method_5_code
def y_Rule_saidCount : MethodName := ⟨"PrefetchRules$Rule", "saidCount", "()I"⟩
abbrev b_Rule_saidCount : ByteArray := prog_6_method_8_code
def y_Rule_saidLine : MethodName := ⟨"PrefetchRules$Rule", "saidLine", "(I)I"⟩
abbrev b_Rule_saidLine : ByteArray := prog_6_method_9_code
def y_Rule_say : MethodName := ⟨"PrefetchRules$Rule", "say", "(I)V"⟩
abbrev b_Rule_say : ByteArray := prog_6_method_10_code
def y_Rule_sayInSteps : MethodName := ⟨"PrefetchRules$Rule", "sayInSteps", "(II)V"⟩
abbrev b_Rule_sayInSteps : ByteArray := prog_6_method_11_code
def y_Store_init : MethodName := ⟨"PrefetchRules$Store", "<init>", "(I)V"⟩
abbrev b_Store_init : ByteArray := prog_7_method_1_code
def y_Store_clearMarks : MethodName := ⟨"PrefetchRules$Store", "clearMarks", "()V"⟩
abbrev b_Store_clearMarks : ByteArray := prog_7_method_8_code
def y_Store_dropLast : MethodName := ⟨"PrefetchRules$Store", "dropLast", "()Z"⟩
abbrev b_Store_dropLast : ByteArray := prog_7_method_9_code
def y_Store_find : MethodName := ⟨"PrefetchRules$Store", "find", "(I)I"⟩
abbrev b_Store_find : ByteArray := prog_7_method_6_code
def y_Store_isFull : MethodName := ⟨"PrefetchRules$Store", "isFull", "()Z"⟩
abbrev b_Store_isFull : ByteArray := prog_7_method_3_code
def y_Store_isMarked : MethodName := ⟨"PrefetchRules$Store", "isMarked", "(I)Z"⟩
abbrev b_Store_isMarked : ByteArray := prog_7_method_5_code
def y_Store_lineAt : MethodName := ⟨"PrefetchRules$Store", "lineAt", "(I)I"⟩
abbrev b_Store_lineAt : ByteArray := prog_7_method_4_code
def y_Store_markCount : MethodName := ⟨"PrefetchRules$Store", "markCount", "()I"⟩
abbrev b_Store_markCount : ByteArray := prog_7_method_7_code
def y_Store_moveInFront : MethodName := ⟨"PrefetchRules$Store", "moveInFront", "(IIZ)V"⟩
abbrev b_Store_moveInFront : ByteArray := prog_7_method_12_code
def y_Store_putFirst : MethodName := ⟨"PrefetchRules$Store", "putFirst", "(IZ)V"⟩
abbrev b_Store_putFirst : ByteArray := prog_7_method_10_code
def y_Store_size : MethodName := ⟨"PrefetchRules$Store", "size", "()I"⟩
abbrev b_Store_size : ByteArray := prog_7_method_2_code
def y_Store_use : MethodName := ⟨"PrefetchRules$Store", "use", "(I)V"⟩
abbrev b_Store_use : ByteArray := prog_7_method_11_code
def y_Streams_init : MethodName := ⟨"PrefetchRules$Streams", "<init>", "(I)V"⟩
abbrev b_Streams_init : ByteArray := prog_8_method_1_code
def y_Streams_begin : MethodName := ⟨"PrefetchRules$Streams", "begin", "(I)V"⟩
abbrev b_Streams_begin : ByteArray := prog_8_method_6_code
def y_Streams_confidence : MethodName := ⟨"PrefetchRules$Streams", "confidence", "(I)I"⟩
abbrev b_Streams_confidence : ByteArray := prog_8_method_4_code
def y_Streams_knowledge : MethodName := ⟨"PrefetchRules$Streams", "knowledge", "(I)I"⟩
abbrev b_Streams_knowledge : ByteArray := prog_8_method_3_code
def y_Streams_learn : MethodName := ⟨"PrefetchRules$Streams", "learn", "(II)V"⟩
abbrev b_Streams_learn : ByteArray := prog_8_method_2_code
def y_Streams_moveInFront : MethodName := ⟨"PrefetchRules$Streams", "moveInFront", "(III)V"⟩
abbrev b_Streams_moveInFront : ByteArray := prog_8_method_7_code
def y_Streams_wayTo : MethodName := ⟨"PrefetchRules$Streams", "wayTo", "(I)I"⟩
abbrev b_Streams_wayTo : ByteArray := prog_8_method_5_code
def y_Strides_init : MethodName := ⟨"PrefetchRules$Strides", "<init>", "(I)V"⟩
abbrev b_Strides_init : ByteArray := prog_9_method_1_code
def y_Strides_begin : MethodName := ⟨"PrefetchRules$Strides", "begin", "(III)V"⟩
abbrev b_Strides_begin : ByteArray := prog_9_method_7_code
def y_Strides_compare : MethodName := ⟨"PrefetchRules$Strides", "compare", "(II)V"⟩
abbrev b_Strides_compare : ByteArray := prog_9_method_8_code
def y_Strides_confidence : MethodName := ⟨"PrefetchRules$Strides", "confidence", "(I)I"⟩
abbrev b_Strides_confidence : ByteArray := prog_9_method_4_code
def y_Strides_isOwn : MethodName := ⟨"PrefetchRules$Strides", "isOwn", "(II)Z"⟩
abbrev b_Strides_isOwn : ByteArray := prog_9_method_6_code
def y_Strides_knowledge : MethodName := ⟨"PrefetchRules$Strides", "knowledge", "(I)I"⟩
abbrev b_Strides_knowledge : ByteArray := prog_9_method_3_code
def y_Strides_learn : MethodName := ⟨"PrefetchRules$Strides", "learn", "(II)V"⟩
abbrev b_Strides_learn : ByteArray := prog_9_method_2_code
def y_Strides_rowOf : MethodName := ⟨"PrefetchRules$Strides", "rowOf", "(I)I"⟩
abbrev b_Strides_rowOf : ByteArray := prog_9_method_5_code
def y_Main_init : MethodName := ⟨"PrefetchRules", "<init>", "(IIII)V"⟩
abbrev b_Main_init : ByteArray := prog_1_method_1_code
def y_Main_access : MethodName := ⟨"PrefetchRules", "access", "(II)I"⟩
abbrev b_Main_access : ByteArray := prog_1_method_2_code
def y_Main_ask : MethodName := ⟨"PrefetchRules", "ask", "(I)I"⟩
abbrev b_Main_ask : ByteArray := prog_1_method_16_code
def y_Main_come : MethodName := ⟨"PrefetchRules", "come", "(IZ)V"⟩
abbrev b_Main_come : ByteArray := prog_1_method_15_code
def y_Main_count : MethodName := ⟨"PrefetchRules", "count", "(I)I"⟩
abbrev b_Main_count : ByteArray := prog_1_method_10_code
def y_Main_fetch : MethodName := ⟨"PrefetchRules", "fetch", "(I)V"⟩
abbrev b_Main_fetch : ByteArray := prog_1_method_18_code
def y_Main_finish : MethodName := ⟨"PrefetchRules", "finish", "()I"⟩
abbrev b_Main_finish : ByteArray := prog_1_method_4_code
def y_Main_hit : MethodName := ⟨"PrefetchRules", "hit", "(I)V"⟩
abbrev b_Main_hit : ByteArray := prog_1_method_17_code
def y_Main_indexOf : MethodName := ⟨"PrefetchRules", "indexOf", "(I[II)I"⟩
abbrev b_Main_indexOf : ByteArray := prog_1_method_12_code
def y_Main_known : MethodName := ⟨"PrefetchRules", "known", "(I)I"⟩
abbrev b_Main_known : ByteArray := prog_1_method_8_code
def y_Main_nextCycle : MethodName := ⟨"PrefetchRules", "nextCycle", "()I"⟩
abbrev b_Main_nextCycle : ByteArray := prog_1_method_14_code
def y_Main_oneTo : MethodName := ⟨"PrefetchRules", "oneTo", "(II)I"⟩
abbrev b_Main_oneTo : ByteArray := prog_1_method_11_code
def y_Main_pass : MethodName := ⟨"PrefetchRules", "pass", "(I)I"⟩
abbrev b_Main_pass : ByteArray := prog_1_method_3_code
def y_Main_queued : MethodName := ⟨"PrefetchRules", "queued", "(II)I"⟩
abbrev b_Main_queued : ByteArray := prog_1_method_7_code
def y_Main_ruleOf : MethodName := ⟨"PrefetchRules", "ruleOf", "(II)LPrefetchRules$Rule;"⟩
abbrev b_Main_ruleOf : ByteArray := prog_1_method_13_code
def y_Main_state : MethodName := ⟨"PrefetchRules", "state", "(I)I"⟩
abbrev b_Main_state : ByteArray := prog_1_method_5_code
def y_Main_stored : MethodName := ⟨"PrefetchRules", "stored", "(I)I"⟩
abbrev b_Main_stored : ByteArray := prog_1_method_6_code
def y_Main_trust : MethodName := ⟨"PrefetchRules", "trust", "(I)I"⟩
abbrev b_Main_trust : ByteArray := prog_1_method_9_code
def y_Math_floorMod : MethodName := ⟨"java/lang/Math", "floorMod", "(II)I"⟩
abbrev b_Math_floorMod : ByteArray := prog_15_method_50_code
/-- what the table of candidates holds -/
def kx_cand (j : Nat) : Int32 := ([1, 2, 3, 4, 5, 6, 8, 9, 10, 12, 15, 16] : List Int32).getD j 0
/-- what the statics hold: the table of candidates at g 3 -/
def kx_Z (g : Nat → Nat) (A : Nat → Prop) (U : State) : Prop := va_Z "PrefetchRules$Offsets" "CANDIDATES" "[I" (.ref (g 3)) A U U.heap ∧ va_T .int (g 3) 12 (fun j => .int (kx_cand j)) A U U.heap
theorem kx_Z.call {g : Nat → Nat} {A0 A1 : Nat → Prop} {s U : State} {H : Heap} {locs : List Loc} (h : kx_Z g A0 s) (hS : va_S A0 s.heap H locs) (hA : ∀ q, A1 q → A0 q) (hU : U.heap = H) (hvm : s.vm.Alike U.vm) : kx_Z g A1 U := by
  subst hU
  exact ⟨((h.1.kept hS.2.1).moved hvm).narrow hA, ((h.2.kept hS.2.1).moved hvm).narrow hA⟩
theorem kx_Zz {g : Nat → Nat} {A : Nat → Prop} {s : State} (h : kx_Z g A s) : va_Z "PrefetchRules$Offsets" "CANDIDATES" "[I" (.ref (g 3)) A s s.heap := h.1
theorem kx_Zt {g : Nat → Nat} {A : Nat → Prop} {s : State} (h : kx_Z g A s) : va_T .int (g 3) 12 (fun j => .int (kx_cand j)) A s s.heap := h.2
end
section
/-! My own rows over the kit's: one table of words for all methods (kx_T), one bundle of what stays (kx_F), one of the cells (kx_W), a line an instruction. -/
def kx_arrC (w : Cond) : Bool := match w with
  | .arrayClass _ => true
  | _ => false
def kx_good (w : Cond) : Bool := (w.onTables && w.keeps) || kx_arrC w
def kx_T : List Cond := lw_tbl.filter kx_good
theorem kx_arrC_ok {w : Cond} (h : kx_arrC w = true) : ∃ ty, w = .arrayClass ty := by
  cases w <;> first | exact ⟨_, rfl⟩ | (simp [kx_arrC] at h)
theorem kx_ok {w : Cond} (h : kx_good w = true) : (w.onTables && w.keeps) = true ∨ ∃ ty, w = .arrayClass ty := by
  unfold kx_good at h
  cases h1 : (w.onTables && w.keeps) with
  | true => exact Or.inl rfl
  | false =>
    rw [h1, Bool.false_or] at h
    exact Or.inr (kx_arrC_ok h)
theorem kx_mem {w : Cond} (h1 : w ∈ lw_tbl) (h2 : kx_good w = true) : w ∈ kx_T := List.mem_filter.mpr ⟨h1, h2⟩
theorem kx_lw {w : Cond} (h : w ∈ kx_T) : w ∈ lw_tbl := (List.mem_filter.mp h).1
theorem kx_goodIn {ws : List Cond} (h : ∀ w ∈ ws, w ∈ kx_T) : GoodIn kx_T ws := fun w hw => ⟨h w hw, kx_ok (List.mem_filter.mp (h w hw)).2⟩
theorem kx_cons {w0 : Cond} {ws : List Cond} (h : w0 ∈ kx_T) (h2 : ∀ w ∈ ws, w ∈ kx_T) : ∀ w ∈ w0 :: ws, w ∈ kx_T := fun w hw => by
  rcases List.mem_cons.mp hw with h1 | h1
  · rw [h1]; exact h
  · exact h2 w h1
theorem kx_all : ∀ w ∈ kx_T, w ∈ kx_T := fun _ h => h
def kx_nest (w : Cond) : Bool := match w with
  | .methodLinkNest _ _ _ _ => true
  | .fieldLinkNest _ _ _ _ _ _ => true
  | .declares _ => true
  | _ => false
def kx_N : List Cond := lw_tbl.filter kx_nest
theorem kx_memN {w : Cond} (h1 : w ∈ lw_tbl) (h2 : kx_nest w = true) : w ∈ kx_N := List.mem_filter.mpr ⟨h1, h2⟩
theorem kx_warm {w : Cond} (hw : kx_nest w = true) {s U : State} (hW : s.WarmedH U.vm) (h : va_Nw w s) : va_Nw w U := by
  cases w <;> first | exact va_Nw.warmM hW h | exact va_Nw.warmF hW h | exact va_Nw.warmD hW h | (simp [kx_nest] at hw)
theorem kx_same {w : Cond} (hw : kx_nest w = true) {s U : State} (hv : s.vm = U.vm) (h : va_Nw w s) : va_Nw w U := by
  cases w <;> first | (exact va_Nw.same rfl hv h) | (simp [kx_nest] at hw)
/-- the classes' numbers and slots; then the array classes (0 int, 1 boolean, 2 long), then the addresses of what statics hold -/
abbrev kx_G : Type := va_G × (Nat → Nat)
def kx_tys (G : kx_G) : List (ClassId × FieldType) := [(G.2 0, .int), (G.2 1, .boolean), (G.2 2, .long)]
/-- what stays over the whole run: classes, array classes, nest links, statics -/
def kx_Q (G : kx_G) (A : Nat → Prop) (U : State) : Prop := va_K G.1 vwCl (kx_tys G) U ∧ (∀ w ∈ kx_N, va_Nw w U) ∧ kx_Z G.2 A U
theorem kx_Q.call {G : kx_G} {A0 A1 : Nat → Prop} {s U : State} {H : Heap} {locs : List Loc} (h : kx_Q G A0 s) (hS : va_S A0 s.heap H locs) (hA : ∀ q, A1 q → A0 q) (hU : U.heap = H) (hW : s.WarmedH U.vm) : kx_Q G A1 U :=
  ⟨va_K.moved hW.alike h.1, fun w hw => kx_warm (List.mem_filter.mp hw).2 hW (h.2.1 w hw), kx_Z.call h.2.2 hS hA hU hW.alike⟩
theorem kx_Q.blind {G : kx_G} {A : Nat → Prop} {U V : State} (h : kx_Q G A U) (hh : V.heap = U.heap) (hv : V.vm = U.vm) : kx_Q G A V :=
  ⟨va_K.moved (by rw [hv]; exact Vm.Alike.refl U.vm) h.1, fun w hw => kx_same (List.mem_filter.mp hw).2 hv.symm (h.2.1 w hw), kx_Z.call (locs := []) h.2.2 va_S.rf (fun _ h => h) hh (by rw [hv]; exact Vm.Alike.refl U.vm)⟩
def kx_Pre (G : kx_G) (wc : va_W) (sz : Nat) (U : State) : Prop := U.heap.size = sz ∧ va_P G.1 vwCl wc U.heap ∧ va_D (fun _ => True) wc ∧ kx_Q G (va_A wc sz) U
theorem kx_blind (G : kx_G) (as : List Value) (wc : va_W) (sz : Nat) : FrameBlind (va_Pc as (kx_Pre G wc sz)) := fun a U g mk q => by
  obtain ⟨q0, q1, q2, q3, q4⟩ := q
  exact ⟨q0, q1, q2, q3, kx_Q.blind q4 rfl rfl⟩
def kx_B {S : Type} (G : kx_G) (A : Nat → Prop) (wo : S → va_W) : S → State → Prop := fun u t => va_P G.1 vwCl (wo u) t.heap ∧ va_D A (wo u)
/-- the contracts: an int (or boolean) comes back; nothing; a reference -/
def CtI {S : Type} (l : Launch) (y : MethodName) (cc : ByteArray) (maxL : Nat) (ret : Option FieldType) (rm : Room) (G : kx_G) (as : List Value) (wc : va_W) (post : Int32 → S → Prop) (wo : S → va_W) (mc ms : Nat) : Prop :=
  ∀ sz : Nat, Met l y (Cond.code y cc maxL ret :: kx_T) rm (va_Pc as (kx_Pre G wc sz)) (va_Qi post (kx_B G (va_A wc sz) wo) (va_A wc sz)) mc ms (va_A wc sz)
def CtV {S : Type} (l : Launch) (y : MethodName) (cc : ByteArray) (maxL : Nat) (rm : Room) (G : kx_G) (as : List Value) (wc : va_W) (post : S → Prop) (wo : S → va_W) (mc ms : Nat) : Prop :=
  ∀ sz : Nat, Met l y (Cond.code y cc maxL none :: kx_T) rm (va_Pc as (kx_Pre G wc sz)) (va_Qv post (kx_B G (va_A wc sz) wo) (va_A wc sz)) mc ms (va_A wc sz)
def CtR {S : Type} (l : Launch) (y : MethodName) (cc : ByteArray) (maxL : Nat) (ret : Option FieldType) (rm : Room) (G : kx_G) (as : List Value) (wc : va_W) (post : S → Prop) (wo : S → Nat → va_W) (mc ms : Nat) : Prop :=
  ∀ sz : Nat, Met l y (Cond.code y cc maxL ret :: kx_T) rm (va_Pc as (kx_Pre G wc sz)) (va_Qr post (fun u a t => va_P G.1 vwCl (wo u a) t.heap ∧ va_D (va_A wc sz) (wo u a)) (va_A wc sz)) mc ms (va_A wc sz)
/-- what stays inside a method; its cells -/
def kx_F (G : kx_G) (A : Nat → Prop) (s : State) : Prop := kx_Q G A s ∧ ∀ q : Nat, s.heap.size ≤ q → A q
def kx_W (G : kx_G) (A : Nat → Prop) (s : State) (ws : va_W) (H : Heap) (locs : List Loc) : Prop := va_P G.1 vwCl ws H ∧ va_D A ws ∧ va_S A s.heap H locs
theorem kx_lift {X pl cx : va_W} (is : List Nat) (h : is.map (fun i => X[i]?) = cx.map some) : is.map (fun i => (X ++ pl)[i]?) = cx.map some := by
  rw [← h]
  refine List.map_congr_left (fun i hi => ?_)
  have h1 : X[i]? ∈ is.map (fun i => X[i]?) := List.mem_map.mpr ⟨i, hi, rfl⟩
  rw [h] at h1
  obtain ⟨q, -, hq⟩ := List.mem_map.mp h1
  exact List.getElem?_append_left (List.getElem?_eq_some_iff.mp hq.symm).1
theorem kx_filt {X cx : va_W} (is : List Nat) (h : is.map (fun i => X[i]?) = cx.map some) : is.filterMap (fun i => X[i]?) = cx := by
  have h1 : is.filterMap (fun i => X[i]?) = (is.map (fun i => X[i]?)).filterMap id := by
    rw [List.filterMap_map]; rfl
  rw [h1, h, List.filterMap_map]
  exact List.filterMap_some
theorem kx_W.perm {G : kx_G} {A : Nat → Prop} {s : State} {X X' pl : va_W} {H : Heap} {locs : List Loc} (w : kx_W G A s (X ++ pl) H locs) (is : List Nat) (hn : va_nd is = true) (hs : is.map (fun i => X[i]?) = X'.map some) : kx_W G A s (X' ++ pl) H locs :=
  ⟨w.1.part is hs, w.2.1.part is hn hs, w.2.2⟩
/-- the end of a case of an 'if', of an access, of a call -/
theorem kx_t {α : Type} {c : Prop} [Decidable c] {a b x : α} (h : c) (e : (if c then a else b) = x) : a = x := by rw [if_pos h] at e; exact e
theorem kx_f {α : Type} {c : Prop} [Decidable c] {a b x : α} (h : ¬ c) (e : (if c then a else b) = x) : b = x := by rw [if_neg h] at e; exact e
theorem kx_ar {α : Type} {i : Int32} {n : Nat} {a : Option α} {x : α} (e : (if (i < 0 ∨ n ≤ i.toNatClampNeg) then none else a) = some x) : vp_in i n ∧ a = some x := by
  by_cases h : (i < 0 ∨ n ≤ i.toNatClampNeg)
  · rw [if_pos h] at e; cases e
  · rw [if_neg h] at e; exact ⟨h, e⟩
theorem kx_nz {α : Type} {y : Int32} {a : Option α} {x : α} (e : (if y = 0 then none else a) = some x) : ¬ y = 0 ∧ a = some x := by
  by_cases h : y = 0
  · rw [if_pos h] at e; cases e
  · rw [if_neg h] at e; exact ⟨h, e⟩
theorem kx_ck {α : Type} {y : Int32} {a : Option α} {x : α} (e : (if (y = 0 ∨ y = 1) then a else none) = some x) : (y = 0 ∨ y = 1) ∧ a = some x := by
  by_cases h : (y = 0 ∨ y = 1)
  · rw [if_pos h] at e; exact ⟨h, e⟩
  · rw [if_neg h] at e; cases e
theorem kx_bd {α β : Type} {o : Option α} {f : α → Option β} {x : β} (e : o.bind f = some x) : ∃ q, o = some q ∧ f q = some x := by
  cases o with
  | none => cases e
  | some q => exact ⟨q, rfl, e⟩
/-- a class as the rows need it: its place, its fields' words, their types, their names -/
def kx_cls (ci : Nat) (C : String) (T : u_T) (N : Nat) (ty : Nat → FieldType) : Prop := vwCl[ci]? = some (C, T, N) ∧ (∀ w ∈ u_ws C T N, w ∈ kx_T) ∧ (∀ k, k < N → parseFieldDescriptor (T k).2.2.1 = some (ty k)) ∧ ∀ a, a < N → ∀ b, b < N → a ≠ b → (T a).2.1 ≠ (T b).2.1
section KXR
variable {p : Program} {l : Launch} {e : Env} {R : Room} {s : State} {m : MethodId} {args : Array Value} {below : List Frame} {meth : Method} {c : Code} {H : Heap} {locs : List Loc} {cells slots : Nat} {Q : State → Prop}
variable {cc : ByteArray} {nL pc : Nat} {own : String} {G : kx_G} {A : Nat → Prop} {X pl : va_W} {ls : Array Slot} {rest : List Value}
theorem kx_get (S : CallFix p m c cc nL s args kx_T own) (F : kx_F G A s) (w : kx_W G A s (X ++ pl) H locs) {ci N : Nat} {C : String} {T : u_T} {ty : Nat → FieldType} (hc : kx_cls ci C T N ty) (q0 : Nat) {a : Nat} {fs : List Value} (he : X[q0]? = some (a, .inr (ci, fs))) (k : Nat) (hk : k < N) {index : Nat} (hlink : Cond.fieldLink own index (T k).1 (T k).2.1 (T k).2.2.1 ∈ kx_T) {v : Value} (hv : fs[k]? = some v) (hdg : decode cc pc = .ok (.getfield index, 3))
    (kk : W p l e R s m args below meth c H locs cells slots Q (F0 m (pc + 3) ls (v :: rest))) : W p l e R s m args below meth c H locs cells slots Q (F0 m pc ls (.ref a :: rest)) := by
  obtain ⟨hx, hb, hml, hown, hts⟩ := S
  exact va_get hx hb hts hc.2.1 hown F.1.1 w.1 q0 (by rw [List.getElem?_append_left (List.getElem?_eq_some_iff.mp he).1]; exact he) hc.1 k hk (hts _ hlink) (fun _ h => h) hv hdg kk
theorem kx_getN (S : CallFix p m c cc nL s args kx_T own) (F : kx_F G A s) (w : kx_W G A s (X ++ pl) H locs) {ci N : Nat} {C : String} {T : u_T} {ty : Nat → FieldType} (hc : kx_cls ci C T N ty) (q0 : Nat) {a : Nat} {fs : List Value} (he : X[q0]? = some (a, .inr (ci, fs))) (k : Nat) (hk : k < N) {index : Nat} {host : String} (hlink : Cond.fieldLinkNest own index (T k).1 (T k).2.1 (T k).2.2.1 host ∈ kx_N) {v : Value} (hv : fs[k]? = some v) (hdg : decode cc pc = .ok (.getfield index, 3))
    (kk : W p l e R s m args below meth c H locs cells slots Q (F0 m (pc + 3) ls (v :: rest))) : W p l e R s m args below meth c H locs cells slots Q (F0 m pc ls (.ref a :: rest)) := by
  obtain ⟨hx, hb, hml, hown, hts⟩ := S
  exact va_getN hx hb hts hc.2.1 hown F.1.1 w.1 q0 (by rw [List.getElem?_append_left (List.getElem?_eq_some_iff.mp he).1]; exact he) hc.1 k hk (va_Nw.use rfl (F.1.2.1 _ hlink)) (fun _ h => h) hv hdg kk
theorem kx_put (S : CallFix p m c cc nL s args kx_T own) (F : kx_F G A s) (w : kx_W G A s (X ++ pl) H locs) {ci N : Nat} {C : String} {T : u_T} {ty : Nat → FieldType} (hc : kx_cls ci C T N ty) (q0 : Nat) {a : Nat} {fs : List Value} (he : X[q0]? = some (a, .inr (ci, fs))) (k : Nat) (hk : k < N) {index : Nat} (hlink : Cond.fieldLink own index (T k).1 (T k).2.1 (T k).2.2.1 ∈ kx_T) (hfin : (T k).2.2.2 = false) {v : Value} (hn : narrow (ty k) v = v) (hfit : fits (ty k) v = true) (hl : k < fs.length) (hdg : decode cc pc = .ok (.putfield index, 3))
    (kk : ∀ (H1 : Heap) (locs1 : List Loc), kx_W G A s (X.set q0 (a, .inr (ci, fs.set k v)) ++ pl) H1 locs1 → W p l e R s m args below meth c H1 locs1 cells slots Q (F0 m (pc + 3) ls rest)) : W p l e R s m args below meth c H locs cells slots Q (F0 m pc ls (v :: .ref a :: rest)) := by
  obtain ⟨hx, hb, hml, hown, hts⟩ := S
  have hlt := (List.getElem?_eq_some_iff.mp he).1
  refine va_put hx hb hts hc.2.1 ty hc.2.2.1 hc.2.2.2 hown F.1.1 w.1 w.2.1 w.2.2 q0 (by rw [List.getElem?_append_left hlt]; exact he) hc.1 k hk (hts _ hlink) (fun _ h => h) hfin (hc.2.2.1 k hk) hn hfit hl hdg (fun H1 locs1 hP hD hS => kk H1 locs1 ⟨?_, ?_, hS⟩)
  · rw [List.set_append_left _ _ hlt] at hP; exact hP
  · rw [List.set_append_left _ _ hlt] at hD; exact hD
theorem kx_putF (S : CallFix p m c cc nL s args kx_T own) (F : kx_F G A s) (w : kx_W G A s (X ++ pl) H locs) {ci N : Nat} {C : String} {T : u_T} {ty : Nat → FieldType} (hc : kx_cls ci C T N ty) (q0 : Nat) {a : Nat} {fs : List Value} (he : X[q0]? = some (a, .inr (ci, fs))) (k : Nat) (hk : k < N) {index : Nat} (hlink : Cond.fieldLink own index (T k).1 (T k).2.1 (T k).2.2.1 ∈ kx_T) (hfin : (T k).2.2.2 = true) (hin : meth.name = "<init>") (hdecl : (T k).1 = own) {v : Value} (hn : narrow (ty k) v = v) (hfit : fits (ty k) v = true) (hl : k < fs.length) (hdg : decode cc pc = .ok (.putfield index, 3))
    (kk : ∀ (H1 : Heap) (locs1 : List Loc), kx_W G A s (X.set q0 (a, .inr (ci, fs.set k v)) ++ pl) H1 locs1 → W p l e R s m args below meth c H1 locs1 cells slots Q (F0 m (pc + 3) ls rest)) : W p l e R s m args below meth c H locs cells slots Q (F0 m pc ls (v :: .ref a :: rest)) := by
  obtain ⟨hx, hb, hml, hown, hts⟩ := S
  have hlt := (List.getElem?_eq_some_iff.mp he).1
  refine va_putF hx hb hts hc.2.1 ty hc.2.2.1 hc.2.2.2 hown F.1.1 w.1 w.2.1 w.2.2 q0 (by rw [List.getElem?_append_left hlt]; exact he) hc.1 k hk (hts _ hlink) (fun _ h => h) hfin hin hdecl (hc.2.2.1 k hk) hn hfit hl hdg (fun H1 locs1 hP hD hS => kk H1 locs1 ⟨?_, ?_, hS⟩)
  · rw [List.set_append_left _ _ hlt] at hP; exact hP
  · rw [List.set_append_left _ _ hlt] at hD; exact hD
theorem kx_iald (S : CallFix p m c cc nL s args kx_T own) (F : kx_F G A s) (w : kx_W G A s (X ++ pl) H locs) (q0 : Nat) {a n : Nat} {f : Nat → Int32} (he : X[q0]? = some (a, .inl (G.2 0, n, .inl f))) {i : Int32} (hin : vp_in i n) (hdg : decode cc pc = .ok (.iaload, 1))
    (kk : W p l e R s m args below meth c H locs cells slots Q (F0 m (pc + 1) ls (.int (f i.toNatClampNeg) :: rest))) : W p l e R s m args below meth c H locs cells slots Q (F0 m pc ls (.int i :: .ref a :: rest)) := by
  obtain ⟨hx, hb, hml, hown, hts⟩ := S
  exact va_iald hx hb F.1.1 w.1 q0 0 (by rw [List.getElem?_append_left (List.getElem?_eq_some_iff.mp he).1]; exact he) rfl hin hdg kk
theorem kx_zald (S : CallFix p m c cc nL s args kx_T own) (F : kx_F G A s) (w : kx_W G A s (X ++ pl) H locs) (q0 : Nat) {a n : Nat} {f : Nat → Int32} (he : X[q0]? = some (a, .inl (G.2 1, n, .inl f))) {i : Int32} (hin : vp_in i n) (hdg : decode cc pc = .ok (.baload, 1))
    (kk : W p l e R s m args below meth c H locs cells slots Q (F0 m (pc + 1) ls (.int (f i.toNatClampNeg) :: rest))) : W p l e R s m args below meth c H locs cells slots Q (F0 m pc ls (.int i :: .ref a :: rest)) := by
  obtain ⟨hx, hb, hml, hown, hts⟩ := S
  exact va_zald hx hb F.1.1 w.1 q0 1 (by rw [List.getElem?_append_left (List.getElem?_eq_some_iff.mp he).1]; exact he) rfl hin hdg kk
theorem kx_iast (S : CallFix p m c cc nL s args kx_T own) (F : kx_F G A s) (w : kx_W G A s (X ++ pl) H locs) (q0 : Nat) {a n : Nat} {f : Nat → Int32} (he : X[q0]? = some (a, .inl (G.2 0, n, .inl f))) {i x : Int32} (hin : vp_in i n) (hdg : decode cc pc = .ok (.iastore, 1))
    (kk : ∀ (H1 : Heap) (locs1 : List Loc), kx_W G A s (X.set q0 (a, .inl (G.2 0, n, .inl (upd f i.toNatClampNeg x))) ++ pl) H1 locs1 → W p l e R s m args below meth c H1 locs1 cells slots Q (F0 m (pc + 1) ls rest)) : W p l e R s m args below meth c H locs cells slots Q (F0 m pc ls (.int x :: .int i :: .ref a :: rest)) := by
  obtain ⟨hx, hb, hml, hown, hts⟩ := S
  have hlt := (List.getElem?_eq_some_iff.mp he).1
  refine va_iast hx hb F.1.1 w.1 w.2.1 w.2.2 q0 0 (by rw [List.getElem?_append_left hlt]; exact he) rfl hin hdg (fun H1 locs1 hP hD hS => kk H1 locs1 ⟨?_, ?_, hS⟩)
  · rw [List.set_append_left _ _ hlt] at hP; exact hP
  · rw [List.set_append_left _ _ hlt] at hD; exact hD
theorem kx_zast (S : CallFix p m c cc nL s args kx_T own) (F : kx_F G A s) (w : kx_W G A s (X ++ pl) H locs) (q0 : Nat) {a n : Nat} {f : Nat → Int32} (he : X[q0]? = some (a, .inl (G.2 1, n, .inl f))) {i x : Int32} (hin : vp_in i n) (hdg : decode cc pc = .ok (.bastore, 1))
    (kk : ∀ (H1 : Heap) (locs1 : List Loc), kx_W G A s (X.set q0 (a, .inl (G.2 1, n, .inl (upd f i.toNatClampNeg (vp_nar .boolean x)))) ++ pl) H1 locs1 → W p l e R s m args below meth c H1 locs1 cells slots Q (F0 m (pc + 1) ls rest)) : W p l e R s m args below meth c H locs cells slots Q (F0 m pc ls (.int x :: .int i :: .ref a :: rest)) := by
  obtain ⟨hx, hb, hml, hown, hts⟩ := S
  have hlt := (List.getElem?_eq_some_iff.mp he).1
  refine va_zast hx hb F.1.1 w.1 w.2.1 w.2.2 q0 1 (by rw [List.getElem?_append_left hlt]; exact he) rfl hin hdg (fun H1 locs1 hP hD hS => kk H1 locs1 ⟨?_, ?_, hS⟩)
  · rw [List.set_append_left _ _ hlt] at hP; exact hP
  · rw [List.set_append_left _ _ hlt] at hD; exact hD
theorem kx_alen (S : CallFix p m c cc nL s args kx_T own) (F : kx_F G A s) (w : kx_W G A s (X ++ pl) H locs) (q0 t0 : Nat) {a : Nat} {x : vp_A} {cA : ClassId} (he : X[q0]? = some (a, .inl (cA, x))) {ty : FieldType} (ht : (kx_tys G)[t0]? = some (cA, ty)) (hdg : decode cc pc = .ok (.arraylength, 1))
    (kk : W p l e R s m args below meth c H locs cells slots Q (F0 m (pc + 1) ls (.int (nI x.1) :: rest))) : W p l e R s m args below meth c H locs cells slots Q (F0 m pc ls (.ref a :: rest)) := by
  obtain ⟨hx, hb, hml, hown, hts⟩ := S
  exact va_alen hx hb F.1.1 w.1 q0 t0 (by rw [List.getElem?_append_left (List.getElem?_eq_some_iff.mp he).1]; exact he) ht rfl hdg kk
theorem kx_newa0 {ty : FieldType} (t0 : Nat) {cG : ClassId} (F : kx_F G A s) (ht : (kx_tys G)[t0]? = some (cG, ty)) (hprim : ∀ cA : ClassId, va_RA s cA ty = (s.vm.findClass ("[" ++ ty.toString) = some cA)) {cA : ClassId} (hK : va_K G.1 vwCl (kx_tys G ++ [(cA, ty)]) s) : cA = cG := by
  have h1 := (hK.2 (kx_tys G).length (cA, ty) (by rw [List.getElem?_append_right (Nat.le_refl _), Nat.sub_self]; rfl)).2
  have h2 := (F.1.1.2 t0 (cG, ty) ht).2
  rw [hprim] at h1
  rw [hprim] at h2
  exact Option.some.inj (h1.symm.trans h2)
theorem kx_newi (S : CallFix p m c cc nL s args kx_T own) (F : kx_F G A s) (w : kx_W G A s (X ++ pl) H locs) (harr : Cond.arrayClass .int ∈ kx_T) {n : Int32} {N' : Nat} (hn : ¬ n < 0) (hN : n.toNatClampNeg = N') (hbytes : N' * 4 ≤ 536870912) (hcells : cells + 1 ≤ R.cells) (hslots : slots + N' ≤ R.slots) (hdg : decode cc pc = .ok (.newarray .int, 2))
    (kk : ∀ (q : Nat) (H1 : Heap), kx_W G A s ((X ++ [(q, .inl (G.2 0, N', .inl (fun _ => 0)))]) ++ pl) H1 locs → W p l e R s m args below meth c H1 locs (cells + 1) (slots + N') Q (F0 m (pc + 2) ls (.ref q :: rest))) : W p l e R s m args below meth c H locs cells slots Q (F0 m pc ls (.int n :: rest)) := by
  obtain ⟨hx, hb, hml, hown, hts⟩ := S
  refine va_newa (atype := .int) (ty := .int) (a0 := (N', .inl (fun _ => 0))) hx hb (hts _ harr) rfl F.1.1 w.1 w.2.1 w.2.2 F.2 (fun cA => rfl) hn hN hbytes hcells hslots hdg (fun q cA H1 hK hP hD hS => ?_)
  have e := kx_newa0 0 F rfl (fun _ => rfl) hK
  subst e
  exact kk q H1 ⟨hP.swap, hD.swap, hS⟩
theorem kx_newz (S : CallFix p m c cc nL s args kx_T own) (F : kx_F G A s) (w : kx_W G A s (X ++ pl) H locs) (harr : Cond.arrayClass .boolean ∈ kx_T) {n : Int32} {N' : Nat} (hn : ¬ n < 0) (hN : n.toNatClampNeg = N') (hbytes : N' * 1 ≤ 536870912) (hcells : cells + 1 ≤ R.cells) (hslots : slots + N' ≤ R.slots) (hdg : decode cc pc = .ok (.newarray .boolean, 2))
    (kk : ∀ (q : Nat) (H1 : Heap), kx_W G A s ((X ++ [(q, .inl (G.2 1, N', .inl (fun _ => 0)))]) ++ pl) H1 locs → W p l e R s m args below meth c H1 locs (cells + 1) (slots + N') Q (F0 m (pc + 2) ls (.ref q :: rest))) : W p l e R s m args below meth c H locs cells slots Q (F0 m pc ls (.int n :: rest)) := by
  obtain ⟨hx, hb, hml, hown, hts⟩ := S
  refine va_newa (atype := .boolean) (ty := .boolean) (a0 := (N', .inl (fun _ => 0))) hx hb (hts _ harr) rfl F.1.1 w.1 w.2.1 w.2.2 F.2 (fun cA => rfl) hn hN hbytes hcells hslots hdg (fun q cA H1 hK hP hD hS => ?_)
  have e := kx_newa0 1 F rfl (fun _ => rfl) hK
  subst e
  exact kk q H1 ⟨hP.swap, hD.swap, hS⟩
theorem kx_new (S : CallFix p m c cc nL s args kx_T own) (F : kx_F G A s) (w : kx_W G A s (X ++ pl) H locs) {ci N : Nat} {C : String} {T : u_T} {ty : Nat → FieldType} (hc : kx_cls ci C T N ty) {index : Nat} (hcl : Cond.classLink own index C ∈ kx_T) (hinst : Cond.instantiable C N ∈ kx_T) (hini : Cond.initialized C ∈ kx_T) {fs : List Value} (hfs : ∀ j, j < N → defaultValue (ty j) = vp_V fs j) (hcells : cells + 1 ≤ R.cells) (hslots : slots + N ≤ R.slots) (hdg : decode cc pc = .ok (.new index, 3))
    (kk : ∀ (q : Nat) (H1 : Heap), kx_W G A s ((X ++ [(q, .inr (ci, fs))]) ++ pl) H1 locs → W p l e R s m args below meth c H1 locs (cells + 1) (slots + N) Q (F0 m (pc + 3) ls (.ref q :: rest))) : W p l e R s m args below meth c H locs cells slots Q (F0 m pc ls rest) := by
  obtain ⟨hx, hb, hml, hown, hts⟩ := S
  refine va_new hx hb hts hc.2.1 ty hc.2.2.1 hown (hts _ hcl) (hts _ hinst) (hts _ hini) F.1.1 w.1 w.2.1 w.2.2 F.2 hc.1 hfs hcells hslots hdg (fun q H1 hP hD hS => ?_)
  exact kk q H1 ⟨hP.swap, hD.swap, hS⟩
theorem kx_obj (S : CallFix p m c cc nL s args kx_T own) {idx : Nat} (h1 : Cond.methodLink own idx Lib.objectInit ∈ kx_T) (h2 : Cond.instanceMethod Lib.objectInit ∈ kx_T) (h3 : Cond.code Lib.objectInit ⟨#[0xb1]⟩ 1 none ∈ kx_T) {a : Nat} (hsz : ls.size = nL) (hdg : decode cc pc = .ok (.invokespecial idx, 3)) (hfr : 1 ≤ R.frames) (hlo : 2 * (F0 m pc ls (.ref a :: rest)).monitorRoom + (rest.map fun v => v.category).sum + 12 ≤ R.locals)
    (kk : W p l e R s m args below meth c H locs cells slots Q (F0 m (pc + 3) ls rest)) : W p l e R s m args below meth c H locs cells slots Q (F0 m pc ls (.ref a :: rest)) := by
  obtain ⟨hx, hb, hml, hown, hts⟩ := S
  exact W.objInit hx hb hown (hts _ h1) (hts _ h2) (hts _ h3) rfl (by rw [hml]; exact hsz) rfl hdg hfr hlo kk
/-- a method as its callers need it: virtual, static, constructor; host: of a nest mate -/
def kx_mV (y : MethodName) (cc : ByteArray) (maxL : Nat) (ret : Option FieldType) (n : Nat) : Prop := Cond.code y cc maxL ret ∈ kx_T ∧ Cond.instanceMethod y ∈ kx_T ∧ Cond.selects y.cls y y ∈ kx_T ∧ Cond.initialized y.cls ∈ kx_T ∧ (y.cls ≠ "java/lang/invoke/MethodHandle" ∧ y.cls ≠ "java/lang/invoke/VarHandle" ∧ (parseMethodDescriptor y.desc).map (fun d => d.parameters.length) = some n)
def kx_mS (y : MethodName) (cc : ByteArray) (maxL : Nat) (ret : Option FieldType) (n : Nat) : Prop := Cond.code y cc maxL ret ∈ kx_T ∧ Cond.static y ∈ kx_T ∧ Cond.initialized y.cls ∈ kx_T ∧ (y.cls ≠ "java/lang/invoke/MethodHandle" ∧ y.cls ≠ "java/lang/invoke/VarHandle" ∧ (parseMethodDescriptor y.desc).map (fun d => d.parameters.length) = some n)
def kx_mI (y : MethodName) (cc : ByteArray) (maxL : Nat) (n : Nat) : Prop := Cond.code y cc maxL none ∈ kx_T ∧ Cond.instanceMethod y ∈ kx_T ∧ Cond.initialized y.cls ∈ kx_T ∧ y.name = "<init>" ∧ (y.cls ≠ "java/lang/invoke/MethodHandle" ∧ y.cls ≠ "java/lang/invoke/VarHandle" ∧ (parseMethodDescriptor y.desc).map (fun d => d.parameters.length) = some n)
def kx_rm (rm R : Room) (maxL mc ms : Nat) : Prop := rm.cells = mc ∧ rm.slots = ms ∧ rm.frames + 1 ≤ R.frames ∧ 8 + (maxL + 11) + rm.locals ≤ R.locals
theorem kx_cwV {y : MethodName} {bytes : ByteArray} {maxL n mc ms index : Nat} {ret : Option FieldType} {rm : Room} (S : CallFix p m c cc nL s args kx_T own) (mv : kx_mV y bytes maxL ret n) (hl : Cond.methodLink own index y ∈ kx_T) (hr : kx_rm rm R maxL mc ms) : CallW R s args own y.cls index y bytes maxL ret (Cond.code y bytes maxL ret :: kx_T) rm mc ms n := by
  obtain ⟨h1, h2, h3, h4, h5⟩ := mv
  obtain ⟨hx, hb, hml, hown, hts⟩ := S
  exact ⟨callB_of n hts (kx_goodIn (kx_cons h1 kx_all)) rfl hr.1 hr.2.1 (hts _ h4) (hts _ hl) h5 hr.2.2, hts _ h2, hts _ h3⟩
theorem kx_cwS {y : MethodName} {bytes : ByteArray} {maxL n mc ms index : Nat} {ret : Option FieldType} {rm : Room} (S : CallFix p m c cc nL s args kx_T own) (mv : kx_mS y bytes maxL ret n) (hl : Cond.methodLink own index y ∈ kx_T) (hr : kx_rm rm R maxL mc ms) : CallB R s args own index y bytes maxL ret (Cond.code y bytes maxL ret :: kx_T) rm mc ms n ∧ (Cond.static y).before args s = true := by
  obtain ⟨h1, h2, h4, h5⟩ := mv
  obtain ⟨hx, hb, hml, hown, hts⟩ := S
  exact ⟨callB_of n hts (kx_goodIn (kx_cons h1 kx_all)) rfl hr.1 hr.2.1 (hts _ h4) (hts _ hl) h5 hr.2.2, hts _ h2⟩
theorem kx_cwI {y : MethodName} {bytes : ByteArray} {maxL n mc ms index : Nat} {rm : Room} (S : CallFix p m c cc nL s args kx_T own) (mv : kx_mI y bytes maxL n) (hl : Cond.methodLink own index y ∈ kx_T) (hr : kx_rm rm R maxL mc ms) : CallB R s args own index y bytes maxL none (Cond.code y bytes maxL none :: kx_T) rm mc ms n ∧ y.name = "<init>" ∧ (Cond.instanceMethod y).before args s = true := by
  obtain ⟨h1, h2, h4, h6, h5⟩ := mv
  obtain ⟨hx, hb, hml, hown, hts⟩ := S
  exact ⟨callB_of n hts (kx_goodIn (kx_cons h1 kx_all)) rfl hr.1 hr.2.1 (hts _ h4) (hts _ hl) h5 hr.2.2, h6, hts _ h2⟩
theorem kx_cwSN {y : MethodName} {bytes : ByteArray} {maxL n mc ms index : Nat} {ret : Option FieldType} {rm : Room} {host : String} (S : CallFix p m c cc nL s args kx_T own) (F : kx_F G A s) (mv : kx_mS y bytes maxL ret n) (hl : Cond.methodLinkNest own index y host ∈ kx_N) (hr : kx_rm rm R maxL mc ms) : va_CN R s args own index y host bytes maxL ret (Cond.code y bytes maxL ret :: kx_T) rm mc ms n ∧ (Cond.static y).before args s = true ∧ True := by
  obtain ⟨h1, h2, h4, h5⟩ := mv
  obtain ⟨hx, hb, hml, hown, hts⟩ := S
  exact ⟨va_cnB n hts (kx_goodIn (kx_cons h1 kx_all)) rfl hr.1 hr.2.1 (F.1.2.1 _ hl) (hts _ h4) h5 hr.2.2, hts _ h2, trivial⟩
theorem kx_cwIN {y : MethodName} {bytes : ByteArray} {maxL n mc ms index : Nat} {rm : Room} {host : String} (S : CallFix p m c cc nL s args kx_T own) (F : kx_F G A s) (mv : kx_mI y bytes maxL n) (hl : Cond.methodLinkNest own index y host ∈ kx_N) (hr : kx_rm rm R maxL mc ms) : va_CN R s args own index y host bytes maxL none (Cond.code y bytes maxL none :: kx_T) rm mc ms n ∧ y.name = "<init>" ∧ (Cond.instanceMethod y).before args s = true := by
  obtain ⟨h1, h2, h4, h6, h5⟩ := mv
  obtain ⟨hx, hb, hml, hown, hts⟩ := S
  exact ⟨va_cnB n hts (kx_goodIn (kx_cons h1 kx_all)) rfl hr.1 hr.2.1 (F.1.2.1 _ hl) (hts _ h4) h5 hr.2.2, h6, hts _ h2⟩
theorem kx_cwU {x y : MethodName} {bytes : ByteArray} {maxL n mc ms index : Nat} {ret : Option FieldType} {rm : Room} {C owner : String} (S : CallFix p m c cc nL s args kx_T own) (hco : Cond.code y bytes maxL ret ∈ kx_T) (hl : Cond.methodLink own index x ∈ kx_T) (hsm : Cond.sameMethod x.cls owner x.name x.desc ∈ kx_T) (hse : Cond.selects C x y ∈ kx_T) (hin : Cond.instanceMethod y ∈ kx_T) (hini : Cond.initialized y.cls ∈ kx_T) (hyx : y = ⟨owner, x.name, x.desc⟩)
    (hd : owner ≠ "java/lang/invoke/MethodHandle" ∧ owner ≠ "java/lang/invoke/VarHandle" ∧ (parseMethodDescriptor x.desc).map (fun d => d.parameters.length) = some n) (hr : kx_rm rm R maxL mc ms) : va_CU R s args own C owner index x y bytes maxL ret (Cond.code y bytes maxL ret :: kx_T) rm mc ms n :=
  va_cwU n S.2.2.2.2 (kx_goodIn (kx_cons hl (kx_cons hsm (kx_cons hse (kx_cons hin (kx_cons hini (kx_cons hco kx_all))))))) rfl hr.1 hr.2.1 hyx hd hr.2.2
theorem kx_cwA {x y : MethodName} {bytes : ByteArray} {maxL n mc ms index : Nat} {ret : Option FieldType} {rm : Room} {C owner : String} (S : CallFix p m c cc nL s args kx_T own) (F : kx_F G A s) (hco : Cond.code y bytes maxL ret ∈ kx_T) (hl : Cond.methodLink own index x ∈ kx_T) (hsm : Cond.sameMethod x.cls owner x.name x.desc ∈ kx_T) (hse : Cond.selects C x y ∈ kx_T) (hin : Cond.instanceMethod y ∈ kx_T) (hini : Cond.initialized y.cls ∈ kx_T) (hz : Cond.declares ⟨owner, x.name, x.desc⟩ ∈ kx_N)
    (hd : owner ≠ "java/lang/invoke/MethodHandle" ∧ owner ≠ "java/lang/invoke/VarHandle" ∧ (parseMethodDescriptor x.desc).map (fun d => d.parameters.length) = some n) (hr : kx_rm rm R maxL mc ms) : va_CU R s args own C owner index x y bytes maxL ret (Cond.code y bytes maxL ret :: kx_T) rm mc ms n :=
  va_cwA n S.2.2.2.2 (kx_goodIn (kx_cons hl (kx_cons hsm (kx_cons hse (kx_cons hin (kx_cons hini (kx_cons hco kx_all))))))) rfl hr.1 hr.2.1 (F.1.2.1 _ hz) hd hr.2.2
theorem kx_cwO {x y : MethodName} {bytes : ByteArray} {maxL n mc ms index : Nat} {ret : Option FieldType} {rm : Room} {C owner : String} (S : CallFix p m c cc nL s args kx_T own) (hco : Cond.code y bytes maxL ret ∈ kx_T) (hl : Cond.methodLink own index x ∈ kx_T) (hsm : Cond.sameMethod x.cls owner x.name x.desc ∈ kx_T) (hi0 : Cond.instanceMethod ⟨owner, x.name, x.desc⟩ ∈ kx_T) (hse : Cond.selects C x y ∈ kx_T) (hin : Cond.instanceMethod y ∈ kx_T) (hini : Cond.initialized y.cls ∈ kx_T)
    {b0 : ByteArray} {m0 : Nat} {r0 : Option FieldType} (h0 : Cond.code ⟨owner, x.name, x.desc⟩ b0 m0 r0 ∈ kx_T) (hd : owner ≠ "java/lang/invoke/MethodHandle" ∧ owner ≠ "java/lang/invoke/VarHandle" ∧ (parseMethodDescriptor x.desc).map (fun d => d.parameters.length) = some n) (hr : kx_rm rm R maxL mc ms) : va_CU R s args own C owner index x y bytes maxL ret (Cond.code y bytes maxL ret :: kx_T) rm mc ms n :=
  va_cwO n S.2.2.2.2 (kx_goodIn (kx_cons hl (kx_cons hsm (kx_cons hi0 (kx_cons hse (kx_cons hin (kx_cons hini (kx_cons hco kx_all)))))))) rfl hr.1 hr.2.1 h0 hd hr.2.2
/-- what a callee finds: the cells cx of X -/
theorem kx_pre {cx : va_W} (F : kx_F G A s) (w : kx_W G A s (X ++ pl) H locs) (isC : List Nat) (hnC : va_nd isC = true) (hC : isC.map (fun i => X[i]?) = cx.map some) {As : List Value} : ∀ U : State, U.heap = H → s.WarmedH U.vm → va_Pc As (kx_Pre G cx H.size) As.toArray U := by
  intro U hU hW
  have hC' := kx_lift (pl := pl) isC hC
  refine ⟨rfl, by rw [hU], by rw [hU]; exact w.1.sub isC (kx_filt isC hC'), (w.2.1.sub isC hnC hC').weaken (fun _ _ _ _ => trivial), F.1.call w.2.2 (va_free w.2.1 w.2.2 F.2 isC hC') hU hW⟩
/-- what a callee finds: the cells cx of X, and the pool -/
theorem kx_preP {cx : va_W} (F : kx_F G A s) (w : kx_W G A s (X ++ pl) H locs) (isC : List Nat) (hnC : va_nd isC = true) (hC : isC.map (fun i => X[i]?) = cx.map some) {As : List Value} : ∀ U : State, U.heap = H → s.WarmedH U.vm → va_Pc As (kx_Pre G (cx ++ pl) H.size) As.toArray U := by
  intro U hU hW
  refine ⟨rfl, by rw [hU], by rw [hU]; exact w.1.part isC hC, (w.2.1.part isC hnC hC).weaken (fun _ _ _ _ => trivial), F.1.call w.2.2 (va_freeP w.2.1 w.2.2 F.2 isC hC) hU hW⟩
variable {S : Type} {mc ms : Nat} {cx wr : va_W} {st0 : List Value} {a : Array Value}
/-- behind a call that got the cells cx: an int, nothing, a reference -/
theorem kx_ci {post : Int32 → S → Prop} {wo : S → va_W} (F : kx_F G A s) (w : kx_W G A s (X ++ pl) H locs) (isC isR : List Nat) (hC : isC.map (fun i => X[i]?) = cx.map some) (hR : isR.map (fun i => X[i]?) = wr.map some) (hn : va_nd isR = true) (hdis : ∀ i ∈ isR, i ∉ isC)
    (hr : va_Run p l e R s m args below meth c H locs cells slots mc ms (F0 m pc ls st0) rest (va_Qi post (kx_B G (va_A cx H.size) wo) (va_A cx H.size) a) (va_A cx H.size))
    (kk : ∀ (r : Int32) (u : S) (H1 : Heap) (locs1 : List Loc), post r u → kx_W G A s ((wr ++ wo u) ++ pl) H1 locs1 → W p l e R s m args below meth c H1 locs1 (cells + mc) (slots + ms) Q (F0 m (pc + 3) ls (.int r :: rest))) : W p l e R s m args below meth c H locs cells slots Q (F0 m pc ls st0) := by
  have hFc := va_free w.2.1 w.2.2 F.2 isC (kx_lift (pl := pl) isC hC)
  refine va_calli hr w.2.2 (fun q _ h => hFc q h) hFc (fun r u t H1 locs1 ht hvm hw hB hz1 hk1 hS1 => ?_)
  obtain ⟨hP1, hD1⟩ := hB
  rw [ht] at hP1
  obtain ⟨hP2, hD2⟩ := va_joinQ w.1 w.2.1 isC isR hC hR hn hdis hk1 hFc hP1 hD1
  exact kk r u H1 locs1 hw ⟨hP2, hD2, hS1⟩
theorem kx_cv {post : S → Prop} {wo : S → va_W} (F : kx_F G A s) (w : kx_W G A s (X ++ pl) H locs) (isC isR : List Nat) (hC : isC.map (fun i => X[i]?) = cx.map some) (hR : isR.map (fun i => X[i]?) = wr.map some) (hn : va_nd isR = true) (hdis : ∀ i ∈ isR, i ∉ isC)
    (hr : va_Run p l e R s m args below meth c H locs cells slots mc ms (F0 m pc ls st0) rest (va_Qv post (kx_B G (va_A cx H.size) wo) (va_A cx H.size) a) (va_A cx H.size))
    (kk : ∀ (u : S) (H1 : Heap) (locs1 : List Loc), post u → kx_W G A s ((wr ++ wo u) ++ pl) H1 locs1 → W p l e R s m args below meth c H1 locs1 (cells + mc) (slots + ms) Q (F0 m (pc + 3) ls rest)) : W p l e R s m args below meth c H locs cells slots Q (F0 m pc ls st0) := by
  have hFc := va_free w.2.1 w.2.2 F.2 isC (kx_lift (pl := pl) isC hC)
  refine va_callv hr w.2.2 (fun q _ h => hFc q h) hFc (fun u t H1 locs1 ht hvm hw hB hz1 hk1 hS1 => ?_)
  obtain ⟨hP1, hD1⟩ := hB
  rw [ht] at hP1
  obtain ⟨hP2, hD2⟩ := va_joinQ w.1 w.2.1 isC isR hC hR hn hdis hk1 hFc hP1 hD1
  exact kk u H1 locs1 hw ⟨hP2, hD2, hS1⟩
theorem kx_cr {post : S → Prop} {wo : S → Nat → va_W} (F : kx_F G A s) (w : kx_W G A s (X ++ pl) H locs) (isC isR : List Nat) (hC : isC.map (fun i => X[i]?) = cx.map some) (hR : isR.map (fun i => X[i]?) = wr.map some) (hn : va_nd isR = true) (hdis : ∀ i ∈ isR, i ∉ isC)
    (hr : va_Run p l e R s m args below meth c H locs cells slots mc ms (F0 m pc ls st0) rest (va_Qr post (fun u a t => va_P G.1 vwCl (wo u a) t.heap ∧ va_D (va_A cx H.size) (wo u a)) (va_A cx H.size) a) (va_A cx H.size))
    (kk : ∀ (u : S) (ra : Nat) (H1 : Heap) (locs1 : List Loc), post u → kx_W G A s ((wr ++ wo u ra) ++ pl) H1 locs1 → W p l e R s m args below meth c H1 locs1 (cells + mc) (slots + ms) Q (F0 m (pc + 3) ls (.ref ra :: rest))) : W p l e R s m args below meth c H locs cells slots Q (F0 m pc ls st0) := by
  have hFc := va_free w.2.1 w.2.2 F.2 isC (kx_lift (pl := pl) isC hC)
  refine va_callr hr w.2.2 (fun q _ h => hFc q h) hFc (fun u ra t H1 locs1 ht hvm hw hB hz1 hk1 hS1 => ?_)
  obtain ⟨hP1, hD1⟩ := hB
  rw [ht] at hP1
  obtain ⟨hP2, hD2⟩ := va_joinQ w.1 w.2.1 isC isR hC hR hn hdis hk1 hFc hP1 hD1
  exact kk u ra H1 locs1 hw ⟨hP2, hD2, hS1⟩
/-- behind a call that got the cells cx and the pool -/
theorem kx_ciP {post : Int32 → S → Prop} {ro po : S → va_W} (F : kx_F G A s) (w : kx_W G A s (X ++ pl) H locs) (isC isR : List Nat) (hC : isC.map (fun i => X[i]?) = cx.map some) (hR : isR.map (fun i => X[i]?) = wr.map some) (hn : va_nd isR = true) (hdis : ∀ i ∈ isR, i ∉ isC)
    (hr : va_Run p l e R s m args below meth c H locs cells slots mc ms (F0 m pc ls st0) rest (va_Qi post (kx_B G (va_A (cx ++ pl) H.size) (fun u => ro u ++ po u)) (va_A (cx ++ pl) H.size) a) (va_A (cx ++ pl) H.size))
    (kk : ∀ (r : Int32) (u : S) (H1 : Heap) (locs1 : List Loc), post r u → kx_W G A s ((wr ++ ro u) ++ po u) H1 locs1 → W p l e R s m args below meth c H1 locs1 (cells + mc) (slots + ms) Q (F0 m (pc + 3) ls (.int r :: rest))) : W p l e R s m args below meth c H locs cells slots Q (F0 m pc ls st0) := by
  have hFc := va_freeP w.2.1 w.2.2 F.2 isC hC
  refine va_calli hr w.2.2 (fun q _ h => hFc q h) hFc (fun r u t H1 locs1 ht hvm hw hB hz1 hk1 hS1 => ?_)
  obtain ⟨hP1, hD1⟩ := hB
  rw [ht] at hP1
  obtain ⟨hP2, hD2⟩ := va_joinP w.1 w.2.1 isC isR hC hR hn hdis hk1 hFc hP1 hD1
  exact kk r u H1 locs1 hw ⟨hP2, hD2, hS1⟩
theorem kx_cvP {post : S → Prop} {ro po : S → va_W} (F : kx_F G A s) (w : kx_W G A s (X ++ pl) H locs) (isC isR : List Nat) (hC : isC.map (fun i => X[i]?) = cx.map some) (hR : isR.map (fun i => X[i]?) = wr.map some) (hn : va_nd isR = true) (hdis : ∀ i ∈ isR, i ∉ isC)
    (hr : va_Run p l e R s m args below meth c H locs cells slots mc ms (F0 m pc ls st0) rest (va_Qv post (kx_B G (va_A (cx ++ pl) H.size) (fun u => ro u ++ po u)) (va_A (cx ++ pl) H.size) a) (va_A (cx ++ pl) H.size))
    (kk : ∀ (u : S) (H1 : Heap) (locs1 : List Loc), post u → kx_W G A s ((wr ++ ro u) ++ po u) H1 locs1 → W p l e R s m args below meth c H1 locs1 (cells + mc) (slots + ms) Q (F0 m (pc + 3) ls rest)) : W p l e R s m args below meth c H locs cells slots Q (F0 m pc ls st0) := by
  have hFc := va_freeP w.2.1 w.2.2 F.2 isC hC
  refine va_callv hr w.2.2 (fun q _ h => hFc q h) hFc (fun u t H1 locs1 ht hvm hw hB hz1 hk1 hS1 => ?_)
  obtain ⟨hP1, hD1⟩ := hB
  rw [ht] at hP1
  obtain ⟨hP2, hD2⟩ := va_joinP w.1 w.2.1 isC isR hC hR hn hdis hk1 hFc hP1 hD1
  exact kk u H1 locs1 hw ⟨hP2, hD2, hS1⟩
/-- a method's end: its cells as the contract has them, 'is' their places -/
theorem kx_iret {post : Int32 → S → Prop} {wo : S → va_W} {v : Int32} (hQ : MQ below (va_Qi post (kx_B G A wo) A) args s cells slots A = Q) (S0 : CallFix p m c cc nL s args kx_T own) (hr : meth.sig.returnType = some .int) (hlocks : meth.locks = false) (w : kx_W G A s (X ++ pl) H locs) (is : List Nat) (hn : va_nd is = true) {xo : va_W} (hs : is.map (fun i => X[i]?) = xo.map some) (u : S) (hwo : xo ++ pl = wo u) (hp : post v u) (hdg : decode cc pc = .ok (.ireturn, 1)) :
    W p l e R s m args below meth c H locs cells slots Q (F0 m pc ls [.int v]) := by
  subst hQ
  exact W.iret S0.1 S0.2.1 hr (fun t ht hW => ⟨⟨v, u, rfl, hp, by rw [ht, ← hwo]; exact w.1.part is hs, by rw [← hwo]; exact w.2.1.part is hn hs⟩, w.2.2.F ht⟩) w.2.2.2.2 hdg hlocks
theorem kx_zret {post : Int32 → S → Prop} {wo : S → va_W} {v : Int32} (hQ : MQ below (va_Qi post (kx_B G A wo) A) args s cells slots A = Q) (S0 : CallFix p m c cc nL s args kx_T own) (hr : meth.sig.returnType = some .boolean) (hlocks : meth.locks = false) (hv : v = 0 ∨ v = 1) (w : kx_W G A s (X ++ pl) H locs) (is : List Nat) (hn : va_nd is = true) {xo : va_W} (hs : is.map (fun i => X[i]?) = xo.map some) (u : S) (hwo : xo ++ pl = wo u) (hp : post v u) (hdg : decode cc pc = .ok (.ireturn, 1)) :
    W p l e R s m args below meth c H locs cells slots Q (F0 m pc ls [.int v]) := by
  subst hQ
  exact W.zret S0.1 S0.2.1 hr (by rcases hv with rfl | rfl <;> decide) (fun t ht hW => ⟨⟨v, u, rfl, hp, by rw [ht, ← hwo]; exact w.1.part is hs, by rw [← hwo]; exact w.2.1.part is hn hs⟩, w.2.2.F ht⟩) w.2.2.2.2 hdg hlocks
theorem kx_vret {post : S → Prop} {wo : S → va_W} (hQ : MQ below (va_Qv post (kx_B G A wo) A) args s cells slots A = Q) (S0 : CallFix p m c cc nL s args kx_T own) (hr : meth.sig.returnType = none) (hlocks : meth.locks = false) (w : kx_W G A s (X ++ pl) H locs) (is : List Nat) (hn : va_nd is = true) {xo : va_W} (hs : is.map (fun i => X[i]?) = xo.map some) (u : S) (hwo : xo ++ pl = wo u) (hp : post u) (hdg : decode cc pc = .ok (.return_, 1)) :
    W p l e R s m args below meth c H locs cells slots Q (F0 m pc ls []) := by
  subst hQ
  exact W.vret S0.1 S0.2.1 hr (fun t ht hW => ⟨⟨u, rfl, hp, by rw [ht, ← hwo]; exact w.1.part is hs, by rw [← hwo]; exact w.2.1.part is hn hs⟩, w.2.2.F ht⟩) w.2.2.2.2 hdg hlocks
theorem kx_aret {post : S → Prop} {wo : S → Nat → va_W} {ra : Nat} {rn : String} (hQ : MQ below (va_Qr post (fun u a t => va_P G.1 vwCl (wo u a) t.heap ∧ va_D A (wo u a)) A) args s cells slots A = Q) (S0 : CallFix p m c cc nL s args kx_T own) (hr : meth.sig.returnType = some (.object rn)) (hlocks : meth.locks = false) (w : kx_W G A s (X ++ pl) H locs) (is : List Nat) (hn : va_nd is = true) {xo : va_W} (hs : is.map (fun i => X[i]?) = xo.map some) (u : S) (hwo : xo ++ pl = wo u ra) (hp : post u) (hdg : decode cc pc = .ok (.areturn, 1)) :
    W p l e R s m args below meth c H locs cells slots Q (F0 m pc ls [.ref ra]) := by
  subst hQ
  exact W.aret S0.1 S0.2.1 hr (Or.inl ⟨_, rfl⟩) (Or.inr ⟨_, rfl⟩) (fun t ht hW => ⟨⟨u, ra, rfl, hp, by rw [ht, ← hwo]; exact w.1.part is hs, by rw [← hwo]; exact w.2.1.part is hn hs⟩, w.2.2.F ht⟩) w.2.2.2.2 hdg hlocks
end KXR
/-- a method's start -/
theorem CtI.of {S : Type} {l : Launch} {y : MethodName} {cc : ByteArray} {maxL : Nat} {ret : Option FieldType} {rm : Room} {G : kx_G} {as : List Value} {wc : va_W} {post : Int32 → S → Prop} {wo : S → va_W} {mc ms : Nat} (hy : plainName y.cls = true) (has : (lg_sl as).length ≤ maxL) (lv : List (Nat × Value)) (hlv : lv_args 0 as = lv)
    (body : ∀ (p : Program) (e : Env) (s : State) (m : MethodId) (args : Array Value) (below : List Frame) (meth : Method) (c : Code) (A : Nat → Prop) (ls : Array Slot) (Q : State → Prop), MQ below (va_Qi post (kx_B G A wo) A) args s mc ms A = Q → CallFix p m c cc maxL s args kx_T y.cls → meth.sig.returnType = ret → meth.locks = false → kx_F G A s → kx_W G A s (wc ++ []) s.heap [] → lv_has ls maxL lv →
      W p l e rm s m args below meth c s.heap [] 0 0 Q (F0 m 0 ls [])) : CtI l y cc maxL ret rm G as wc post wo mc ms := by
  intro sz
  refine Met.ofW (cc := cc) (maxL := maxL) (ret := ret) hy rfl ?_
  intro p e s m args below meth c s₁ B hml hv
  obtain ⟨rfl, hsz, hP, hD0, hQ⟩ := hv
  have hts := atoms_spec (ws := Cond.code y cc maxL ret :: kx_T) B.pre
  have hown : s.vm.findClass y.cls = some m.cls := findClass_of_methodNamed B.named
  subst hsz
  have hD := hD0.self (sz := s.heap.size)
  have hl := lv_entry as (n := maxL) has
  rw [lg_entry_eq]
  subst hlv
  have hA : ∀ q : Nat, s.heap.size ≤ q → va_A wc s.heap.size q := fun q h => Or.inr h
  have hw : kx_W G (va_A wc s.heap.size) s (wc ++ []) s.heap [] := ⟨by rw [List.append_nil]; exact hP, by rw [List.append_nil]; exact hD, va_S.rf⟩
  exact body p e s m _ below meth c _ _ _ rfl ⟨B.exec, B.bytes, hml, hown, fun w h => hts w (List.mem_cons_of_mem _ h)⟩ B.returns B.notSynchronized ⟨hQ, hA⟩ hw hl
theorem CtV.of {S : Type} {l : Launch} {y : MethodName} {cc : ByteArray} {maxL : Nat} {rm : Room} {G : kx_G} {as : List Value} {wc : va_W} {post : S → Prop} {wo : S → va_W} {mc ms : Nat} (hy : plainName y.cls = true) (has : (lg_sl as).length ≤ maxL) (lv : List (Nat × Value)) (hlv : lv_args 0 as = lv)
    (body : ∀ (p : Program) (e : Env) (s : State) (m : MethodId) (args : Array Value) (below : List Frame) (meth : Method) (c : Code) (A : Nat → Prop) (ls : Array Slot) (Q : State → Prop), MQ below (va_Qv post (kx_B G A wo) A) args s mc ms A = Q → CallFix p m c cc maxL s args kx_T y.cls → meth.sig.returnType = none → meth.locks = false → meth.name = y.name → kx_F G A s → kx_W G A s (wc ++ []) s.heap [] → lv_has ls maxL lv →
      W p l e rm s m args below meth c s.heap [] 0 0 Q (F0 m 0 ls [])) : CtV l y cc maxL rm G as wc post wo mc ms := by
  intro sz
  refine Met.ofW (cc := cc) (maxL := maxL) (ret := none) hy rfl ?_
  intro p e s m args below meth c s₁ B hml hv
  obtain ⟨rfl, hsz, hP, hD0, hQ⟩ := hv
  have hts := atoms_spec (ws := Cond.code y cc maxL none :: kx_T) B.pre
  have hown : s.vm.findClass y.cls = some m.cls := findClass_of_methodNamed B.named
  have hin : meth.name = y.name := (name_of_methodNamed B.named B.method).1
  subst hsz
  have hD := hD0.self (sz := s.heap.size)
  have hl := lv_entry as (n := maxL) has
  rw [lg_entry_eq]
  subst hlv
  have hA : ∀ q : Nat, s.heap.size ≤ q → va_A wc s.heap.size q := fun q h => Or.inr h
  have hw : kx_W G (va_A wc s.heap.size) s (wc ++ []) s.heap [] := ⟨by rw [List.append_nil]; exact hP, by rw [List.append_nil]; exact hD, va_S.rf⟩
  exact body p e s m _ below meth c _ _ _ rfl ⟨B.exec, B.bytes, hml, hown, fun w h => hts w (List.mem_cons_of_mem _ h)⟩ B.returns B.notSynchronized hin ⟨hQ, hA⟩ hw hl
theorem CtR.of {S : Type} {l : Launch} {y : MethodName} {cc : ByteArray} {maxL : Nat} {ret : Option FieldType} {rm : Room} {G : kx_G} {as : List Value} {wc : va_W} {post : S → Prop} {wo : S → Nat → va_W} {mc ms : Nat} (hy : plainName y.cls = true) (has : (lg_sl as).length ≤ maxL) (lv : List (Nat × Value)) (hlv : lv_args 0 as = lv)
    (body : ∀ (p : Program) (e : Env) (s : State) (m : MethodId) (args : Array Value) (below : List Frame) (meth : Method) (c : Code) (A : Nat → Prop) (ls : Array Slot) (Q : State → Prop), MQ below (va_Qr post (fun u a t => va_P G.1 vwCl (wo u a) t.heap ∧ va_D A (wo u a)) A) args s mc ms A = Q → CallFix p m c cc maxL s args kx_T y.cls → meth.sig.returnType = ret → meth.locks = false → kx_F G A s → kx_W G A s (wc ++ []) s.heap [] → lv_has ls maxL lv →
      W p l e rm s m args below meth c s.heap [] 0 0 Q (F0 m 0 ls [])) : CtR l y cc maxL ret rm G as wc post wo mc ms := by
  intro sz
  refine Met.ofW (cc := cc) (maxL := maxL) (ret := ret) hy rfl ?_
  intro p e s m args below meth c s₁ B hml hv
  obtain ⟨rfl, hsz, hP, hD0, hQ⟩ := hv
  have hts := atoms_spec (ws := Cond.code y cc maxL ret :: kx_T) B.pre
  have hown : s.vm.findClass y.cls = some m.cls := findClass_of_methodNamed B.named
  subst hsz
  have hD := hD0.self (sz := s.heap.size)
  have hl := lv_entry as (n := maxL) has
  rw [lg_entry_eq]
  subst hlv
  have hA : ∀ q : Nat, s.heap.size ≤ q → va_A wc s.heap.size q := fun q h => Or.inr h
  have hw : kx_W G (va_A wc s.heap.size) s (wc ++ []) s.heap [] := ⟨by rw [List.append_nil]; exact hP, by rw [List.append_nil]; exact hD, va_S.rf⟩
  exact body p e s m _ below meth c _ _ _ rfl ⟨B.exec, B.bytes, hml, hown, fun w h => hts w (List.mem_cons_of_mem _ h)⟩ B.returns B.notSynchronized ⟨hQ, hA⟩ hw hl
theorem CtV.inj {S S' : Type} {l : Launch} {y : MethodName} {cc : ByteArray} {maxL : Nat} {rm : Room} {G : kx_G} {as : List Value} {wc : va_W} {post : S → Prop} {wo : S → va_W} {post' : S' → Prop} {wo' : S' → va_W} {mc ms : Nat} (h : CtV l y cc maxL rm G as wc post wo mc ms) (g : S → S') (hp : ∀ u, post u → post' (g u)) (hw : ∀ u, wo' (g u) = wo u) : CtV l y cc maxL rm G as wc post' wo' mc ms := by
  intro sz p e ha hc hk s m args below hf happ hP hK
  obtain ⟨n, o, h1, h2, h3, ⟨⟨u, e1, e2, e3⟩, e4⟩, e5⟩ := h sz p e ha hc hk s m args below hf happ hP hK
  refine ⟨n, o, h1, h2, h3, ⟨⟨g u, e1, hp u e2, ?_⟩, e4⟩, e5⟩
  unfold kx_B at e3 ⊢
  rw [hw]
  exact e3
theorem CtI.inj {S S' : Type} {l : Launch} {y : MethodName} {cc : ByteArray} {maxL : Nat} {ret : Option FieldType} {rm : Room} {G : kx_G} {as : List Value} {wc : va_W} {post : Int32 → S → Prop} {wo : S → va_W} {post' : Int32 → S' → Prop} {wo' : S' → va_W} {mc ms : Nat} (h : CtI l y cc maxL ret rm G as wc post wo mc ms) (g : S → S') (hp : ∀ r u, post r u → post' r (g u)) (hw : ∀ u, wo' (g u) = wo u) : CtI l y cc maxL ret rm G as wc post' wo' mc ms := by
  intro sz p e ha hc hk s m args below hf happ hP hK
  obtain ⟨n, o, h1, h2, h3, ⟨⟨r, u, e1, e2, e3⟩, e4⟩, e5⟩ := h sz p e ha hc hk s m args below hf happ hP hK
  refine ⟨n, o, h1, h2, h3, ⟨⟨r, g u, e1, hp r u e2, ?_⟩, e4⟩, e5⟩
  unfold kx_B at e3 ⊢
  rw [hw]
  exact e3
/-- an object of one of the rules, as Rule's own methods see it -/
def kx_rule (ki : Nat) (KC : String) (KT : u_T) (KN : Nat) (kt : Nat → FieldType) : Prop := kx_cls ki KC KT KN kt ∧ 3 ≤ KN ∧ KT 0 = ("PrefetchRules$Rule", "degree", "I", true) ∧ KT 1 = ("PrefetchRules$Rule", "said", "[I", true) ∧ KT 2 = ("PrefetchRules$Rule", "saidCount", "I", false) ∧ kt 0 = .int ∧ kt 2 = .int ∧ kt 1 = .array .int ∧ Cond.selects KC ⟨"PrefetchRules$Rule", "say", "(I)V"⟩ ⟨"PrefetchRules$Rule", "say", "(I)V"⟩ ∈ kx_T
section KXRU
variable {ki : Nat} {KC : String} {KT : u_T} {KN : Nat} {kt : Nat → FieldType}
theorem kx_rule.lt (h : kx_rule ki KC KT KN kt) {k : Nat} (hk : k < 3) : k < KN := Nat.lt_of_lt_of_le hk h.2.1
theorem kx_rule.t0 (h : kx_rule ki KC KT KN kt) : KT 0 = ("PrefetchRules$Rule", "degree", "I", true) := h.2.2.1
theorem kx_rule.t1 (h : kx_rule ki KC KT KN kt) : KT 1 = ("PrefetchRules$Rule", "said", "[I", true) := h.2.2.2.1
theorem kx_rule.t2 (h : kx_rule ki KC KT KN kt) : KT 2 = ("PrefetchRules$Rule", "saidCount", "I", false) := h.2.2.2.2.1
theorem kx_rule.y0 (h : kx_rule ki KC KT KN kt) : kt 0 = .int := h.2.2.2.2.2.1
theorem kx_rule.y2 (h : kx_rule ki KC KT KN kt) : kt 2 = .int := h.2.2.2.2.2.2.1
theorem kx_rule.s_say (h : kx_rule ki KC KT KN kt) : Cond.selects KC ⟨"PrefetchRules$Rule", "say", "(I)V"⟩ ⟨"PrefetchRules$Rule", "say", "(I)V"⟩ ∈ kx_T := h.2.2.2.2.2.2.2.2
theorem kx_rule.y1 (h : kx_rule ki KC KT KN kt) : kt 1 = .array .int := h.2.2.2.2.2.2.2.1
end KXRU
end
section
theorem kw_0 : Cond.methodLink "PrefetchRules" 33 y_Math_floorMod ∈ kx_T := kx_mem (List.mem_of_getElem? (i := 63) (by decide +kernel)) (by decide +kernel)
theorem kw_1 : Cond.fieldLink "PrefetchRules$Store" 19 "PrefetchRules$Store" "size" "I" ∈ kx_T := kx_mem (List.mem_of_getElem? (i := 74) (by decide +kernel)) (by decide +kernel)
theorem kw_2 : Cond.fieldLink "PrefetchRules$Store" 9 "PrefetchRules$Store" "lines" "[I" ∈ kx_T := kx_mem (List.mem_of_getElem? (i := 72) (by decide +kernel)) (by decide +kernel)
theorem kw_3 : Cond.fieldLink "PrefetchRules$Store" 15 "PrefetchRules$Store" "marks" "[Z" ∈ kx_T := kx_mem (List.mem_of_getElem? (i := 73) (by decide +kernel)) (by decide +kernel)
theorem kw_4 : Cond.methodLinkNest "PrefetchRules$Store" 23 y_Main_indexOf "PrefetchRules" ∈ kx_N := kx_memN (List.mem_of_getElem? (i := 322) (by decide +kernel)) (by decide +kernel)
theorem kw_5 : Cond.methodLink "PrefetchRules$Store" 27 y_Store_moveInFront ∈ kx_T := kx_mem (List.mem_of_getElem? (i := 306) (by decide +kernel)) (by decide +kernel)
theorem kw_6 : Cond.fieldLink "PrefetchRules$Queue" 18 "PrefetchRules$Queue" "size" "I" ∈ kx_T := kx_mem (List.mem_of_getElem? (i := 92) (by decide +kernel)) (by decide +kernel)
theorem kw_7 : Cond.fieldLink "PrefetchRules$Queue" 11 "PrefetchRules$Queue" "lines" "[I" ∈ kx_T := kx_mem (List.mem_of_getElem? (i := 90) (by decide +kernel)) (by decide +kernel)
theorem kw_8 : Cond.fieldLink "PrefetchRules$Queue" 15 "PrefetchRules$Queue" "cycles" "[I" ∈ kx_T := kx_mem (List.mem_of_getElem? (i := 91) (by decide +kernel)) (by decide +kernel)
theorem kw_9 : Cond.methodLinkNest "PrefetchRules$Queue" 22 y_Main_indexOf "PrefetchRules" ∈ kx_N := kx_memN (List.mem_of_getElem? (i := 341) (by decide +kernel)) (by decide +kernel)
theorem kw_10 : Cond.fieldLink "PrefetchRules$Rule" 15 "PrefetchRules$Rule" "degree" "I" ∈ kx_T := kx_mem (List.mem_of_getElem? (i := 117) (by decide +kernel)) (by decide +kernel)
theorem kw_11 : Cond.fieldLink "PrefetchRules$Rule" 19 "PrefetchRules$Rule" "saidCount" "I" ∈ kx_T := kx_mem (List.mem_of_getElem? (i := 119) (by decide +kernel)) (by decide +kernel)
theorem kw_12 : Cond.fieldLink "PrefetchRules$Rule" 9 "PrefetchRules$Rule" "said" "[I" ∈ kx_T := kx_mem (List.mem_of_getElem? (i := 118) (by decide +kernel)) (by decide +kernel)
theorem kw_13 : Cond.code y_Rule_say b_Rule_say 2 none ∈ kx_T := kx_mem (List.mem_of_getElem? (i := 371) (by decide +kernel)) (by decide +kernel)
theorem kw_14 : Cond.methodLink "PrefetchRules$Rule" 26 ⟨"PrefetchRules$Rule", "say", "(I)V"⟩ ∈ kx_T := kx_mem (List.mem_of_getElem? (i := 363) (by decide +kernel)) (by decide +kernel)
theorem kw_15 : Cond.sameMethod "PrefetchRules$Rule" "PrefetchRules$Rule" "say" "(I)V" ∈ kx_T := kx_mem (List.mem_of_getElem? (i := 365) (by decide +kernel)) (by decide +kernel)
theorem kw_16 : Cond.instanceMethod y_Rule_say ∈ kx_T := kx_mem (List.mem_of_getElem? (i := 364) (by decide +kernel)) (by decide +kernel)
theorem kw_17 : Cond.initialized "PrefetchRules$Rule" ∈ kx_T := kx_mem (List.mem_of_getElem? (i := 40) (by decide +kernel)) (by decide +kernel)
theorem kw_18 : Cond.code y_Rule_sayInSteps b_Rule_sayInSteps 4 none ∈ kx_T := kx_mem (List.mem_of_getElem? (i := 362) (by decide +kernel)) (by decide +kernel)
theorem kw_19 : Cond.methodLink "PrefetchRules$Next" 7 ⟨"PrefetchRules$Next", "sayInSteps", "(II)V"⟩ ∈ kx_T := kx_mem (List.mem_of_getElem? (i := 357) (by decide +kernel)) (by decide +kernel)
theorem kw_20 : Cond.sameMethod "PrefetchRules$Next" "PrefetchRules$Rule" "sayInSteps" "(II)V" ∈ kx_T := kx_mem (List.mem_of_getElem? (i := 358) (by decide +kernel)) (by decide +kernel)
theorem kw_21 : Cond.selects "PrefetchRules$Next" ⟨"PrefetchRules$Next", "sayInSteps", "(II)V"⟩ y_Rule_sayInSteps ∈ kx_T := kx_mem (List.mem_of_getElem? (i := 360) (by decide +kernel)) (by decide +kernel)
theorem kw_22 : Cond.instanceMethod y_Rule_sayInSteps ∈ kx_T := kx_mem (List.mem_of_getElem? (i := 361) (by decide +kernel)) (by decide +kernel)
theorem kw_23 : Cond.fieldLink "PrefetchRules$Strides" 9 "PrefetchRules$Strides" "taken" "[Z" ∈ kx_T := kx_mem (List.mem_of_getElem? (i := 112) (by decide +kernel)) (by decide +kernel)
theorem kw_24 : Cond.fieldLink "PrefetchRules$Strides" 13 "PrefetchRules$Strides" "places" "[I" ∈ kx_T := kx_mem (List.mem_of_getElem? (i := 113) (by decide +kernel)) (by decide +kernel)
theorem kw_25 : Cond.fieldLink "PrefetchRules$Strides" 17 "PrefetchRules$Strides" "lines" "[I" ∈ kx_T := kx_mem (List.mem_of_getElem? (i := 114) (by decide +kernel)) (by decide +kernel)
theorem kw_26 : Cond.fieldLink "PrefetchRules$Strides" 20 "PrefetchRules$Strides" "strides" "[I" ∈ kx_T := kx_mem (List.mem_of_getElem? (i := 115) (by decide +kernel)) (by decide +kernel)
theorem kw_27 : Cond.fieldLink "PrefetchRules$Strides" 23 "PrefetchRules$Strides" "trusts" "[I" ∈ kx_T := kx_mem (List.mem_of_getElem? (i := 116) (by decide +kernel)) (by decide +kernel)
theorem kw_28 : Cond.methodLink "PrefetchRules$Strides" 45 Lib.Math.min.name ∈ kx_T := kx_mem (List.mem_of_getElem? (i := 463) (by decide +kernel)) (by decide +kernel)
theorem kw_29 : Cond.static Lib.Math.min.name ∈ kx_T := kx_mem (List.mem_of_getElem? (i := 412) (by decide +kernel)) (by decide +kernel)
theorem kw_30 : Cond.initialized "java/lang/Math" ∈ kx_T := kx_mem (List.mem_of_getElem? (i := 37) (by decide +kernel)) (by decide +kernel)
theorem kw_31 : Cond.code Lib.Math.min.name Lib.Math.min.code 2 (some .int) ∈ kx_T := kx_mem (List.mem_of_getElem? (i := 413) (by decide +kernel)) (by decide +kernel)
theorem kw_32 : Cond.methodLink "PrefetchRules$Strides" 26 y_Strides_rowOf ∈ kx_T := kx_mem (List.mem_of_getElem? (i := 448) (by decide +kernel)) (by decide +kernel)
theorem kw_33 : Cond.methodLink "PrefetchRules$Strides" 30 y_Strides_isOwn ∈ kx_T := kx_mem (List.mem_of_getElem? (i := 451) (by decide +kernel)) (by decide +kernel)
theorem kw_34 : Cond.methodLink "PrefetchRules$Strides" 38 y_Strides_compare ∈ kx_T := kx_mem (List.mem_of_getElem? (i := 459) (by decide +kernel)) (by decide +kernel)
theorem kw_35 : Cond.methodLink "PrefetchRules$Strides" 42 ⟨"PrefetchRules$Strides", "sayInSteps", "(II)V"⟩ ∈ kx_T := kx_mem (List.mem_of_getElem? (i := 464) (by decide +kernel)) (by decide +kernel)
theorem kw_36 : Cond.sameMethod "PrefetchRules$Strides" "PrefetchRules$Rule" "sayInSteps" "(II)V" ∈ kx_T := kx_mem (List.mem_of_getElem? (i := 465) (by decide +kernel)) (by decide +kernel)
theorem kw_37 : Cond.selects "PrefetchRules$Strides" ⟨"PrefetchRules$Strides", "sayInSteps", "(II)V"⟩ y_Rule_sayInSteps ∈ kx_T := kx_mem (List.mem_of_getElem? (i := 466) (by decide +kernel)) (by decide +kernel)
theorem kw_38 : Cond.methodLink "PrefetchRules$Strides" 34 y_Strides_begin ∈ kx_T := kx_mem (List.mem_of_getElem? (i := 455) (by decide +kernel)) (by decide +kernel)
theorem kw_39 : Cond.fieldLink "PrefetchRules$Streams" 9 "PrefetchRules$Streams" "lines" "[I" ∈ kx_T := kx_mem (List.mem_of_getElem? (i := 143) (by decide +kernel)) (by decide +kernel)
theorem kw_40 : Cond.fieldLink "PrefetchRules$Streams" 13 "PrefetchRules$Streams" "ways" "[I" ∈ kx_T := kx_mem (List.mem_of_getElem? (i := 144) (by decide +kernel)) (by decide +kernel)
theorem kw_41 : Cond.fieldLink "PrefetchRules$Streams" 16 "PrefetchRules$Streams" "size" "I" ∈ kx_T := kx_mem (List.mem_of_getElem? (i := 145) (by decide +kernel)) (by decide +kernel)
theorem kw_42 : Cond.methodLink "PrefetchRules$Streams" 24 y_Streams_moveInFront ∈ kx_T := kx_mem (List.mem_of_getElem? (i := 434) (by decide +kernel)) (by decide +kernel)
theorem kw_43 : Cond.methodLink "PrefetchRules$Streams" 32 y_Streams_begin ∈ kx_T := kx_mem (List.mem_of_getElem? (i := 441) (by decide +kernel)) (by decide +kernel)
theorem kw_44 : Cond.methodLink "PrefetchRules$Streams" 20 y_Streams_wayTo ∈ kx_T := kx_mem (List.mem_of_getElem? (i := 431) (by decide +kernel)) (by decide +kernel)
theorem kw_45 : Cond.methodLink "PrefetchRules$Streams" 28 ⟨"PrefetchRules$Streams", "sayInSteps", "(II)V"⟩ ∈ kx_T := kx_mem (List.mem_of_getElem? (i := 438) (by decide +kernel)) (by decide +kernel)
theorem kw_46 : Cond.sameMethod "PrefetchRules$Streams" "PrefetchRules$Rule" "sayInSteps" "(II)V" ∈ kx_T := kx_mem (List.mem_of_getElem? (i := 439) (by decide +kernel)) (by decide +kernel)
theorem kw_47 : Cond.selects "PrefetchRules$Streams" ⟨"PrefetchRules$Streams", "sayInSteps", "(II)V"⟩ y_Rule_sayInSteps ∈ kx_T := kx_mem (List.mem_of_getElem? (i := 440) (by decide +kernel)) (by decide +kernel)
theorem kw_48 : Cond.fieldLink "PrefetchRules$Offsets" 11 "PrefetchRules$Offsets" "recent" "[I" ∈ kx_T := kx_mem (List.mem_of_getElem? (i := 162) (by decide +kernel)) (by decide +kernel)
theorem kw_49 : Cond.fieldLink "PrefetchRules$Offsets" 52 "PrefetchRules$Offsets" "recentCount" "I" ∈ kx_T := kx_mem (List.mem_of_getElem? (i := 163) (by decide +kernel)) (by decide +kernel)
theorem kw_50 : Cond.methodLinkNest "PrefetchRules$Offsets" 55 y_Main_indexOf "PrefetchRules" ∈ kx_N := kx_memN (List.mem_of_getElem? (i := 385) (by decide +kernel)) (by decide +kernel)
theorem kw_51 : Cond.fieldLink "PrefetchRules$Offsets" 15 "PrefetchRules$Offsets" "scores" "[I" ∈ kx_T := kx_mem (List.mem_of_getElem? (i := 165) (by decide +kernel)) (by decide +kernel)
theorem kw_52 : Cond.fieldLink "PrefetchRules$Offsets" 18 "PrefetchRules$Offsets" "offset" "I" ∈ kx_T := kx_mem (List.mem_of_getElem? (i := 168) (by decide +kernel)) (by decide +kernel)
theorem kw_53 : Cond.fieldLink "PrefetchRules$Offsets" 38 "PrefetchRules$Offsets" "turn" "I" ∈ kx_T := kx_mem (List.mem_of_getElem? (i := 166) (by decide +kernel)) (by decide +kernel)
theorem kw_54 : Cond.fieldLink "PrefetchRules$Offsets" 45 "PrefetchRules$Offsets" "tries" "I" ∈ kx_T := kx_mem (List.mem_of_getElem? (i := 167) (by decide +kernel)) (by decide +kernel)
theorem kw_55 : Cond.fieldLink "PrefetchRules$Offsets" 32 "PrefetchRules$Offsets" "rounds" "I" ∈ kx_T := kx_mem (List.mem_of_getElem? (i := 169) (by decide +kernel)) (by decide +kernel)
theorem kw_56 : Cond.fieldLink "PrefetchRules$Offsets" 35 "PrefetchRules$Offsets" "CANDIDATES" "[I" ∈ kx_T := kx_mem (List.mem_of_getElem? (i := 379) (by decide +kernel)) (by decide +kernel)
theorem kw_57 : Cond.methodLink "PrefetchRules$Offsets" 41 y_Offsets_isRecent ∈ kx_T := kx_mem (List.mem_of_getElem? (i := 381) (by decide +kernel)) (by decide +kernel)
theorem kw_58 : Cond.methodLink "PrefetchRules$Offsets" 48 y_Offsets_endRound ∈ kx_T := kx_mem (List.mem_of_getElem? (i := 386) (by decide +kernel)) (by decide +kernel)
theorem kw_59 : Cond.fieldLink "PrefetchRules$Offsets" 59 "PrefetchRules$Offsets" "oldest" "I" ∈ kx_T := kx_mem (List.mem_of_getElem? (i := 164) (by decide +kernel)) (by decide +kernel)
theorem kw_60 : Cond.methodLink "PrefetchRules$Offsets" 22 y_Offsets_tryCandidate ∈ kx_T := kx_mem (List.mem_of_getElem? (i := 375) (by decide +kernel)) (by decide +kernel)
theorem kw_61 : Cond.methodLink "PrefetchRules$Offsets" 29 y_Offsets_remember ∈ kx_T := kx_mem (List.mem_of_getElem? (i := 393) (by decide +kernel)) (by decide +kernel)
theorem kw_62 : Cond.methodLink "PrefetchRules$Offsets" 25 ⟨"PrefetchRules$Offsets", "sayInSteps", "(II)V"⟩ ∈ kx_T := kx_mem (List.mem_of_getElem? (i := 390) (by decide +kernel)) (by decide +kernel)
theorem kw_63 : Cond.sameMethod "PrefetchRules$Offsets" "PrefetchRules$Rule" "sayInSteps" "(II)V" ∈ kx_T := kx_mem (List.mem_of_getElem? (i := 391) (by decide +kernel)) (by decide +kernel)
theorem kw_64 : Cond.selects "PrefetchRules$Offsets" ⟨"PrefetchRules$Offsets", "sayInSteps", "(II)V"⟩ y_Rule_sayInSteps ∈ kx_T := kx_mem (List.mem_of_getElem? (i := 392) (by decide +kernel)) (by decide +kernel)
theorem kw_65 : Cond.fieldLink "PrefetchRules$Pairs" 11 "PrefetchRules$Pairs" "taken" "[Z" ∈ kx_T := kx_mem (List.mem_of_getElem? (i := 196) (by decide +kernel)) (by decide +kernel)
theorem kw_66 : Cond.fieldLink "PrefetchRules$Pairs" 15 "PrefetchRules$Pairs" "owners" "[I" ∈ kx_T := kx_mem (List.mem_of_getElem? (i := 197) (by decide +kernel)) (by decide +kernel)
theorem kw_67 : Cond.methodLink "PrefetchRules$Pairs" 44 y_Pairs_rowOf ∈ kx_T := kx_mem (List.mem_of_getElem? (i := 404) (by decide +kernel)) (by decide +kernel)
theorem kw_68 : Cond.methodLink "PrefetchRules$Pairs" 54 y_Pairs_isOwn ∈ kx_T := kx_mem (List.mem_of_getElem? (i := 407) (by decide +kernel)) (by decide +kernel)
theorem kw_69 : Cond.fieldLink "PrefetchRules$Pairs" 19 "PrefetchRules$Pairs" "behind" "[I" ∈ kx_T := kx_mem (List.mem_of_getElem? (i := 198) (by decide +kernel)) (by decide +kernel)
theorem kw_70 : Cond.fieldLink "PrefetchRules$Pairs" 25 "PrefetchRules$Pairs" "older" "[I" ∈ kx_T := kx_mem (List.mem_of_getElem? (i := 200) (by decide +kernel)) (by decide +kernel)
theorem kw_71 : Cond.fieldLink "PrefetchRules$Pairs" 22 "PrefetchRules$Pairs" "newer" "[I" ∈ kx_T := kx_mem (List.mem_of_getElem? (i := 199) (by decide +kernel)) (by decide +kernel)
theorem kw_72 : Cond.methodLink "PrefetchRules$Pairs" 58 Lib.Math.min.name ∈ kx_T := kx_mem (List.mem_of_getElem? (i := 411) (by decide +kernel)) (by decide +kernel)
theorem kw_73 : Cond.fieldLink "PrefetchRules$Pairs" 28 "PrefetchRules$Pairs" "begun" "Z" ∈ kx_T := kx_mem (List.mem_of_getElem? (i := 201) (by decide +kernel)) (by decide +kernel)
theorem kw_74 : Cond.fieldLink "PrefetchRules$Pairs" 32 "PrefetchRules$Pairs" "before" "I" ∈ kx_T := kx_mem (List.mem_of_getElem? (i := 202) (by decide +kernel)) (by decide +kernel)
theorem kw_75 : Cond.methodLink "PrefetchRules$Pairs" 40 y_Pairs_behindCount ∈ kx_T := kx_mem (List.mem_of_getElem? (i := 414) (by decide +kernel)) (by decide +kernel)
theorem kw_76 : Cond.code y_Rule_degree b_Rule_degree 1 (some .int) ∈ kx_T := kx_mem (List.mem_of_getElem? (i := 427) (by decide +kernel)) (by decide +kernel)
theorem kw_77 : Cond.methodLink "PrefetchRules$Pairs" 50 ⟨"PrefetchRules$Pairs", "degree", "()I"⟩ ∈ kx_T := kx_mem (List.mem_of_getElem? (i := 422) (by decide +kernel)) (by decide +kernel)
theorem kw_78 : Cond.sameMethod "PrefetchRules$Pairs" "PrefetchRules$Rule" "degree" "()I" ∈ kx_T := kx_mem (List.mem_of_getElem? (i := 423) (by decide +kernel)) (by decide +kernel)
theorem kw_79 : Cond.selects "PrefetchRules$Pairs" ⟨"PrefetchRules$Pairs", "degree", "()I"⟩ y_Rule_degree ∈ kx_T := kx_mem (List.mem_of_getElem? (i := 425) (by decide +kernel)) (by decide +kernel)
theorem kw_80 : Cond.instanceMethod y_Rule_degree ∈ kx_T := kx_mem (List.mem_of_getElem? (i := 426) (by decide +kernel)) (by decide +kernel)
theorem kw_81 : Cond.methodLink "PrefetchRules$Pairs" 47 ⟨"PrefetchRules$Pairs", "say", "(I)V"⟩ ∈ kx_T := kx_mem (List.mem_of_getElem? (i := 418) (by decide +kernel)) (by decide +kernel)
theorem kw_82 : Cond.sameMethod "PrefetchRules$Pairs" "PrefetchRules$Rule" "say" "(I)V" ∈ kx_T := kx_mem (List.mem_of_getElem? (i := 419) (by decide +kernel)) (by decide +kernel)
theorem kw_83 : Cond.selects "PrefetchRules$Pairs" ⟨"PrefetchRules$Pairs", "say", "(I)V"⟩ y_Rule_say ∈ kx_T := kx_mem (List.mem_of_getElem? (i := 421) (by decide +kernel)) (by decide +kernel)
theorem kw_84 : Cond.methodLink "PrefetchRules$Pairs" 36 y_Pairs_follow ∈ kx_T := kx_mem (List.mem_of_getElem? (i := 400) (by decide +kernel)) (by decide +kernel)
theorem kw_85 : Cond.code y_Next_learn b_Next_learn 3 none ∈ kx_T := kx_mem (List.mem_of_getElem? (i := 356) (by decide +kernel)) (by decide +kernel)
theorem kw_86 : Cond.methodLink "PrefetchRules$Rule" 22 ⟨"PrefetchRules$Rule", "learn", "(II)V"⟩ ∈ kx_T := kx_mem (List.mem_of_getElem? (i := 351) (by decide +kernel)) (by decide +kernel)
theorem kw_87 : Cond.sameMethod "PrefetchRules$Rule" "PrefetchRules$Rule" "learn" "(II)V" ∈ kx_T := kx_mem (List.mem_of_getElem? (i := 353) (by decide +kernel)) (by decide +kernel)
theorem kw_88 : Cond.selects "PrefetchRules$Next" ⟨"PrefetchRules$Rule", "learn", "(II)V"⟩ y_Next_learn ∈ kx_T := kx_mem (List.mem_of_getElem? (i := 354) (by decide +kernel)) (by decide +kernel)
theorem kw_89 : Cond.instanceMethod y_Next_learn ∈ kx_T := kx_mem (List.mem_of_getElem? (i := 355) (by decide +kernel)) (by decide +kernel)
theorem kw_90 : Cond.initialized "PrefetchRules$Next" ∈ kx_T := kx_mem (List.mem_of_getElem? (i := 45) (by decide +kernel)) (by decide +kernel)
theorem kw_91 : Cond.declares ⟨"PrefetchRules$Rule", "learn", "(II)V"⟩ ∈ kx_N := kx_memN (List.mem_of_getElem? (i := 352) (by decide +kernel)) (by decide +kernel)
theorem kw_92 : Cond.code y_Strides_learn b_Strides_learn 4 none ∈ kx_T := kx_mem (List.mem_of_getElem? (i := 447) (by decide +kernel)) (by decide +kernel)
theorem kw_93 : Cond.selects "PrefetchRules$Strides" ⟨"PrefetchRules$Rule", "learn", "(II)V"⟩ y_Strides_learn ∈ kx_T := kx_mem (List.mem_of_getElem? (i := 445) (by decide +kernel)) (by decide +kernel)
theorem kw_94 : Cond.instanceMethod y_Strides_learn ∈ kx_T := kx_mem (List.mem_of_getElem? (i := 446) (by decide +kernel)) (by decide +kernel)
theorem kw_95 : Cond.initialized "PrefetchRules$Strides" ∈ kx_T := kx_mem (List.mem_of_getElem? (i := 41) (by decide +kernel)) (by decide +kernel)
theorem kw_96 : Cond.code y_Streams_learn b_Streams_learn 5 none ∈ kx_T := kx_mem (List.mem_of_getElem? (i := 430) (by decide +kernel)) (by decide +kernel)
theorem kw_97 : Cond.selects "PrefetchRules$Streams" ⟨"PrefetchRules$Rule", "learn", "(II)V"⟩ y_Streams_learn ∈ kx_T := kx_mem (List.mem_of_getElem? (i := 428) (by decide +kernel)) (by decide +kernel)
theorem kw_98 : Cond.instanceMethod y_Streams_learn ∈ kx_T := kx_mem (List.mem_of_getElem? (i := 429) (by decide +kernel)) (by decide +kernel)
theorem kw_99 : Cond.initialized "PrefetchRules$Streams" ∈ kx_T := kx_mem (List.mem_of_getElem? (i := 42) (by decide +kernel)) (by decide +kernel)
theorem kw_100 : Cond.code y_Offsets_learn b_Offsets_learn 3 none ∈ kx_T := kx_mem (List.mem_of_getElem? (i := 374) (by decide +kernel)) (by decide +kernel)
theorem kw_101 : Cond.selects "PrefetchRules$Offsets" ⟨"PrefetchRules$Rule", "learn", "(II)V"⟩ y_Offsets_learn ∈ kx_T := kx_mem (List.mem_of_getElem? (i := 372) (by decide +kernel)) (by decide +kernel)
theorem kw_102 : Cond.instanceMethod y_Offsets_learn ∈ kx_T := kx_mem (List.mem_of_getElem? (i := 373) (by decide +kernel)) (by decide +kernel)
theorem kw_103 : Cond.initialized "PrefetchRules$Offsets" ∈ kx_T := kx_mem (List.mem_of_getElem? (i := 43) (by decide +kernel)) (by decide +kernel)
theorem kw_104 : Cond.code y_Pairs_learn b_Pairs_learn 4 none ∈ kx_T := kx_mem (List.mem_of_getElem? (i := 399) (by decide +kernel)) (by decide +kernel)
theorem kw_105 : Cond.selects "PrefetchRules$Pairs" ⟨"PrefetchRules$Rule", "learn", "(II)V"⟩ y_Pairs_learn ∈ kx_T := kx_mem (List.mem_of_getElem? (i := 397) (by decide +kernel)) (by decide +kernel)
theorem kw_106 : Cond.instanceMethod y_Pairs_learn ∈ kx_T := kx_mem (List.mem_of_getElem? (i := 398) (by decide +kernel)) (by decide +kernel)
theorem kw_107 : Cond.initialized "PrefetchRules$Pairs" ∈ kx_T := kx_mem (List.mem_of_getElem? (i := 44) (by decide +kernel)) (by decide +kernel)
theorem kw_108 : Cond.methodLink "PrefetchRules$Store" 3 Lib.objectInit ∈ kx_T := kx_mem (List.mem_of_getElem? (i := 71) (by decide +kernel)) (by decide +kernel)
theorem kw_109 : Cond.instanceMethod Lib.objectInit ∈ kx_T := kx_mem (List.mem_of_getElem? (i := 58) (by decide +kernel)) (by decide +kernel)
theorem kw_110 : Cond.code Lib.objectInit ⟨#[0xb1]⟩ 1 none ∈ kx_T := kx_mem (List.mem_of_getElem? (i := 59) (by decide +kernel)) (by decide +kernel)
theorem kw_111 : Cond.arrayClass .int ∈ kx_T := kx_mem (List.mem_of_getElem? (i := 82) (by decide +kernel)) (by decide +kernel)
theorem kw_112 : Cond.arrayClass .boolean ∈ kx_T := kx_mem (List.mem_of_getElem? (i := 83) (by decide +kernel)) (by decide +kernel)
theorem kw_113 : Cond.methodLink "PrefetchRules$Queue" 3 Lib.objectInit ∈ kx_T := kx_mem (List.mem_of_getElem? (i := 89) (by decide +kernel)) (by decide +kernel)
theorem kw_114 : Cond.methodLink "PrefetchRules$Rule" 3 Lib.objectInit ∈ kx_T := kx_mem (List.mem_of_getElem? (i := 111) (by decide +kernel)) (by decide +kernel)
theorem kw_115 : Cond.methodLink "PrefetchRules$Next" 1 y_Rule_init ∈ kx_T := kx_mem (List.mem_of_getElem? (i := 226) (by decide +kernel)) (by decide +kernel)
theorem kw_116 : Cond.methodLink "PrefetchRules$Strides" 1 y_Rule_init ∈ kx_T := kx_mem (List.mem_of_getElem? (i := 108) (by decide +kernel)) (by decide +kernel)
theorem kw_117 : Cond.methodLink "PrefetchRules$Streams" 1 y_Rule_init ∈ kx_T := kx_mem (List.mem_of_getElem? (i := 142) (by decide +kernel)) (by decide +kernel)
theorem kw_118 : Cond.methodLink "PrefetchRules$Offsets" 5 y_Rule_init ∈ kx_T := kx_mem (List.mem_of_getElem? (i := 161) (by decide +kernel)) (by decide +kernel)
theorem kw_119 : Cond.methodLink "PrefetchRules$Pairs" 3 y_Rule_init ∈ kx_T := kx_mem (List.mem_of_getElem? (i := 195) (by decide +kernel)) (by decide +kernel)
theorem kw_120 : Cond.fieldLink "PrefetchRules" 22 "PrefetchRules" "store" "LPrefetchRules$Store;" ∈ kx_T := kx_mem (List.mem_of_getElem? (i := 232) (by decide +kernel)) (by decide +kernel)
theorem kw_121 : Cond.methodLink "PrefetchRules" 177 y_Store_isFull ∈ kx_T := kx_mem (List.mem_of_getElem? (i := 294) (by decide +kernel)) (by decide +kernel)
theorem kw_122 : Cond.methodLink "PrefetchRules" 184 y_Store_putFirst ∈ kx_T := kx_mem (List.mem_of_getElem? (i := 302) (by decide +kernel)) (by decide +kernel)
theorem kw_123 : Cond.methodLink "PrefetchRules" 181 y_Store_dropLast ∈ kx_T := kx_mem (List.mem_of_getElem? (i := 298) (by decide +kernel)) (by decide +kernel)
theorem kw_124 : Cond.fieldLink "PrefetchRules" 91 "PrefetchRules" "useless" "I" ∈ kx_T := kx_mem (List.mem_of_getElem? (i := 241) (by decide +kernel)) (by decide +kernel)
theorem kw_125 : Cond.fieldLink "PrefetchRules" 128 "PrefetchRules" "hits" "I" ∈ kx_T := kx_mem (List.mem_of_getElem? (i := 237) (by decide +kernel)) (by decide +kernel)
theorem kw_126 : Cond.methodLink "PrefetchRules" 97 y_Store_isMarked ∈ kx_T := kx_mem (List.mem_of_getElem? (i := 329) (by decide +kernel)) (by decide +kernel)
theorem kw_127 : Cond.methodLink "PrefetchRules" 190 y_Store_use ∈ kx_T := kx_mem (List.mem_of_getElem? (i := 333) (by decide +kernel)) (by decide +kernel)
theorem kw_128 : Cond.fieldLink "PrefetchRules" 137 "PrefetchRules" "useful" "I" ∈ kx_T := kx_mem (List.mem_of_getElem? (i := 240) (by decide +kernel)) (by decide +kernel)
theorem kw_129 : Cond.methodLink "PrefetchRules" 94 y_Store_find ∈ kx_T := kx_mem (List.mem_of_getElem? (i := 318) (by decide +kernel)) (by decide +kernel)
theorem kw_130 : Cond.fieldLink "PrefetchRules" 140 "PrefetchRules" "filtered" "I" ∈ kx_T := kx_mem (List.mem_of_getElem? (i := 242) (by decide +kernel)) (by decide +kernel)
theorem kw_131 : Cond.fieldLink "PrefetchRules" 29 "PrefetchRules" "queue" "LPrefetchRules$Queue;" ∈ kx_T := kx_mem (List.mem_of_getElem? (i := 233) (by decide +kernel)) (by decide +kernel)
theorem kw_132 : Cond.methodLink "PrefetchRules" 101 y_Queue_find ∈ kx_T := kx_mem (List.mem_of_getElem? (i := 337) (by decide +kernel)) (by decide +kernel)
theorem kw_133 : Cond.methodLink "PrefetchRules" 193 y_Queue_isFull ∈ kx_T := kx_mem (List.mem_of_getElem? (i := 489) (by decide +kernel)) (by decide +kernel)
theorem kw_134 : Cond.fieldLink "PrefetchRules" 119 "PrefetchRules" "cycles" "I" ∈ kx_T := kx_mem (List.mem_of_getElem? (i := 235) (by decide +kernel)) (by decide +kernel)
theorem kw_135 : Cond.fieldLink "PrefetchRules" 13 "PrefetchRules" "latency" "I" ∈ kx_T := kx_mem (List.mem_of_getElem? (i := 231) (by decide +kernel)) (by decide +kernel)
theorem kw_136 : Cond.methodLink "PrefetchRules" 194 y_Queue_add ∈ kx_T := kx_mem (List.mem_of_getElem? (i := 493) (by decide +kernel)) (by decide +kernel)
theorem kw_137 : Cond.fieldLink "PrefetchRules" 146 "PrefetchRules" "fetches" "I" ∈ kx_T := kx_mem (List.mem_of_getElem? (i := 244) (by decide +kernel)) (by decide +kernel)
theorem kw_138 : Cond.fieldLink "PrefetchRules" 143 "PrefetchRules" "dropped" "I" ∈ kx_T := kx_mem (List.mem_of_getElem? (i := 243) (by decide +kernel)) (by decide +kernel)
theorem kw_139 : Cond.methodLink "PrefetchRules" 167 y_Queue_firstIsDue ∈ kx_T := kx_mem (List.mem_of_getElem? (i := 282) (by decide +kernel)) (by decide +kernel)
theorem kw_140 : Cond.methodLink "PrefetchRules" 115 y_Queue_lineAt ∈ kx_T := kx_mem (List.mem_of_getElem? (i := 286) (by decide +kernel)) (by decide +kernel)
theorem kw_141 : Cond.methodLink "PrefetchRules" 170 y_Main_come ∈ kx_T := kx_mem (List.mem_of_getElem? (i := 290) (by decide +kernel)) (by decide +kernel)
theorem kw_142 : Cond.methodLink "PrefetchRules" 174 y_Queue_remove ∈ kx_T := kx_mem (List.mem_of_getElem? (i := 310) (by decide +kernel)) (by decide +kernel)
theorem kw_143 : Cond.fieldLink "PrefetchRules" 134 "PrefetchRules" "misses" "I" ∈ kx_T := kx_mem (List.mem_of_getElem? (i := 239) (by decide +kernel)) (by decide +kernel)
theorem kw_144 : Cond.fieldLink "PrefetchRules" 131 "PrefetchRules" "late" "I" ∈ kx_T := kx_mem (List.mem_of_getElem? (i := 238) (by decide +kernel)) (by decide +kernel)
theorem kw_145 : Cond.methodLink "PrefetchRules" 187 y_Main_hit ∈ kx_T := kx_mem (List.mem_of_getElem? (i := 325) (by decide +kernel)) (by decide +kernel)
theorem kw_146 : Cond.methodLink "PrefetchRules" 49 y_Main_nextCycle ∈ kx_T := kx_mem (List.mem_of_getElem? (i := 278) (by decide +kernel)) (by decide +kernel)
theorem kw_147 : Cond.methodLink "PrefetchRules" 79 y_Queue_size ∈ kx_T := kx_mem (List.mem_of_getElem? (i := 501) (by decide +kernel)) (by decide +kernel)
theorem kw_148 : Cond.methodLink "PrefetchRules" 82 y_Store_markCount ∈ kx_T := kx_mem (List.mem_of_getElem? (i := 505) (by decide +kernel)) (by decide +kernel)
theorem kw_149 : Cond.methodLink "PrefetchRules" 85 y_Queue_clear ∈ kx_T := kx_mem (List.mem_of_getElem? (i := 509) (by decide +kernel)) (by decide +kernel)
theorem kw_150 : Cond.methodLink "PrefetchRules" 88 y_Store_clearMarks ∈ kx_T := kx_mem (List.mem_of_getElem? (i := 513) (by decide +kernel)) (by decide +kernel)
theorem kw_151 : Cond.methodLink "PrefetchRules" 102 y_Store_size ∈ kx_T := kx_mem (List.mem_of_getElem? (i := 569) (by decide +kernel)) (by decide +kernel)
theorem kw_152 : Cond.methodLink "PrefetchRules" 108 y_Store_lineAt ∈ kx_T := kx_mem (List.mem_of_getElem? (i := 686) (by decide +kernel)) (by decide +kernel)
theorem kw_153 : Cond.methodLink "PrefetchRules" 116 y_Queue_cycleAt ∈ kx_T := kx_mem (List.mem_of_getElem? (i := 699) (by decide +kernel)) (by decide +kernel)
theorem kw_154 : Cond.fieldLink "PrefetchRules" 46 "PrefetchRules" "accesses" "I" ∈ kx_T := kx_mem (List.mem_of_getElem? (i := 236) (by decide +kernel)) (by decide +kernel)
theorem kw_155 : Cond.methodLink "PrefetchRules" 53 y_Main_ask ∈ kx_T := kx_mem (List.mem_of_getElem? (i := 314) (by decide +kernel)) (by decide +kernel)
theorem kw_156 : Cond.fieldLink "PrefetchRules" 42 "PrefetchRules" "rule" "LPrefetchRules$Rule;" ∈ kx_T := kx_mem (List.mem_of_getElem? (i := 234) (by decide +kernel)) (by decide +kernel)
theorem kw_157 : Cond.methodLink "PrefetchRules" 69 y_Main_fetch ∈ kx_T := kx_mem (List.mem_of_getElem? (i := 485) (by decide +kernel)) (by decide +kernel)
theorem kw_158 : Cond.classLink "PrefetchRules" 152 "PrefetchRules$Strides" ∈ kx_T := kx_mem (List.mem_of_getElem? (i := 103) (by decide +kernel)) (by decide +kernel)
theorem kw_159 : Cond.instantiable "PrefetchRules$Strides" 8 ∈ kx_T := kx_mem (List.mem_of_getElem? (i := 104) (by decide +kernel)) (by decide +kernel)
theorem kw_160 : Cond.methodLink "PrefetchRules" 154 y_Strides_init ∈ kx_T := kx_mem (List.mem_of_getElem? (i := 105) (by decide +kernel)) (by decide +kernel)
theorem kw_161 : Cond.classLink "PrefetchRules" 155 "PrefetchRules$Streams" ∈ kx_T := kx_mem (List.mem_of_getElem? (i := 137) (by decide +kernel)) (by decide +kernel)
theorem kw_162 : Cond.instantiable "PrefetchRules$Streams" 6 ∈ kx_T := kx_mem (List.mem_of_getElem? (i := 138) (by decide +kernel)) (by decide +kernel)
theorem kw_163 : Cond.methodLink "PrefetchRules" 157 y_Streams_init ∈ kx_T := kx_mem (List.mem_of_getElem? (i := 139) (by decide +kernel)) (by decide +kernel)
theorem kw_164 : Cond.classLink "PrefetchRules" 158 "PrefetchRules$Offsets" ∈ kx_T := kx_mem (List.mem_of_getElem? (i := 156) (by decide +kernel)) (by decide +kernel)
theorem kw_165 : Cond.instantiable "PrefetchRules$Offsets" 11 ∈ kx_T := kx_mem (List.mem_of_getElem? (i := 157) (by decide +kernel)) (by decide +kernel)
theorem kw_166 : Cond.methodLink "PrefetchRules" 160 y_Offsets_init ∈ kx_T := kx_mem (List.mem_of_getElem? (i := 158) (by decide +kernel)) (by decide +kernel)
theorem kw_167 : Cond.classLink "PrefetchRules" 161 "PrefetchRules$Pairs" ∈ kx_T := kx_mem (List.mem_of_getElem? (i := 190) (by decide +kernel)) (by decide +kernel)
theorem kw_168 : Cond.instantiable "PrefetchRules$Pairs" 10 ∈ kx_T := kx_mem (List.mem_of_getElem? (i := 191) (by decide +kernel)) (by decide +kernel)
theorem kw_169 : Cond.methodLink "PrefetchRules" 163 y_Pairs_init ∈ kx_T := kx_mem (List.mem_of_getElem? (i := 192) (by decide +kernel)) (by decide +kernel)
theorem kw_170 : Cond.classLink "PrefetchRules" 164 "PrefetchRules$Next" ∈ kx_T := kx_mem (List.mem_of_getElem? (i := 221) (by decide +kernel)) (by decide +kernel)
theorem kw_171 : Cond.instantiable "PrefetchRules$Next" 3 ∈ kx_T := kx_mem (List.mem_of_getElem? (i := 222) (by decide +kernel)) (by decide +kernel)
theorem kw_172 : Cond.methodLink "PrefetchRules" 166 y_Next_init ∈ kx_T := kx_mem (List.mem_of_getElem? (i := 223) (by decide +kernel)) (by decide +kernel)
theorem kw_173 : Cond.methodLink "PrefetchRules" 1 Lib.objectInit ∈ kx_T := kx_mem (List.mem_of_getElem? (i := 57) (by decide +kernel)) (by decide +kernel)
theorem kw_174 : Cond.methodLink "PrefetchRules" 9 y_Main_oneTo ∈ kx_T := kx_mem (List.mem_of_getElem? (i := 60) (by decide +kernel)) (by decide +kernel)
theorem kw_175 : Cond.classLink "PrefetchRules" 17 "PrefetchRules$Store" ∈ kx_T := kx_mem (List.mem_of_getElem? (i := 66) (by decide +kernel)) (by decide +kernel)
theorem kw_176 : Cond.instantiable "PrefetchRules$Store" 3 ∈ kx_T := kx_mem (List.mem_of_getElem? (i := 67) (by decide +kernel)) (by decide +kernel)
theorem kw_177 : Cond.initialized "PrefetchRules$Store" ∈ kx_T := kx_mem (List.mem_of_getElem? (i := 38) (by decide +kernel)) (by decide +kernel)
theorem kw_178 : Cond.methodLink "PrefetchRules" 19 y_Store_init ∈ kx_T := kx_mem (List.mem_of_getElem? (i := 68) (by decide +kernel)) (by decide +kernel)
theorem kw_179 : Cond.classLink "PrefetchRules" 26 "PrefetchRules$Queue" ∈ kx_T := kx_mem (List.mem_of_getElem? (i := 84) (by decide +kernel)) (by decide +kernel)
theorem kw_180 : Cond.instantiable "PrefetchRules$Queue" 3 ∈ kx_T := kx_mem (List.mem_of_getElem? (i := 85) (by decide +kernel)) (by decide +kernel)
theorem kw_181 : Cond.initialized "PrefetchRules$Queue" ∈ kx_T := kx_mem (List.mem_of_getElem? (i := 39) (by decide +kernel)) (by decide +kernel)
theorem kw_182 : Cond.methodLinkNest "PrefetchRules" 28 y_Queue_init "PrefetchRules" ∈ kx_N := kx_memN (List.mem_of_getElem? (i := 86) (by decide +kernel)) (by decide +kernel)
theorem kw_183 : Cond.methodLink "PrefetchRules" 38 y_Main_ruleOf ∈ kx_T := kx_mem (List.mem_of_getElem? (i := 100) (by decide +kernel)) (by decide +kernel)
theorem kw_184 : Cond.code y_Rule_hear b_Rule_hear 3 none ∈ kx_T := kx_mem (List.mem_of_getElem? (i := 350) (by decide +kernel)) (by decide +kernel)
theorem kw_185 : Cond.methodLink "PrefetchRules" 57 ⟨"PrefetchRules$Rule", "hear", "(II)V"⟩ ∈ kx_T := kx_mem (List.mem_of_getElem? (i := 342) (by decide +kernel)) (by decide +kernel)
theorem kw_186 : Cond.sameMethod "PrefetchRules$Rule" "PrefetchRules$Rule" "hear" "(II)V" ∈ kx_T := kx_mem (List.mem_of_getElem? (i := 344) (by decide +kernel)) (by decide +kernel)
theorem kw_187 : Cond.selects "PrefetchRules$Next" ⟨"PrefetchRules$Rule", "hear", "(II)V"⟩ y_Rule_hear ∈ kx_T := kx_mem (List.mem_of_getElem? (i := 345) (by decide +kernel)) (by decide +kernel)
theorem kw_188 : Cond.instanceMethod y_Rule_hear ∈ kx_T := kx_mem (List.mem_of_getElem? (i := 343) (by decide +kernel)) (by decide +kernel)
theorem kw_189 : Cond.selects "PrefetchRules$Strides" ⟨"PrefetchRules$Rule", "hear", "(II)V"⟩ y_Rule_hear ∈ kx_T := kx_mem (List.mem_of_getElem? (i := 349) (by decide +kernel)) (by decide +kernel)
theorem kw_190 : Cond.selects "PrefetchRules$Streams" ⟨"PrefetchRules$Rule", "hear", "(II)V"⟩ y_Rule_hear ∈ kx_T := kx_mem (List.mem_of_getElem? (i := 348) (by decide +kernel)) (by decide +kernel)
theorem kw_191 : Cond.selects "PrefetchRules$Offsets" ⟨"PrefetchRules$Rule", "hear", "(II)V"⟩ y_Rule_hear ∈ kx_T := kx_mem (List.mem_of_getElem? (i := 346) (by decide +kernel)) (by decide +kernel)
theorem kw_192 : Cond.selects "PrefetchRules$Pairs" ⟨"PrefetchRules$Rule", "hear", "(II)V"⟩ y_Rule_hear ∈ kx_T := kx_mem (List.mem_of_getElem? (i := 347) (by decide +kernel)) (by decide +kernel)
theorem kw_193 : Cond.code y_Rule_saidCount b_Rule_saidCount 1 (some .int) ∈ kx_T := kx_mem (List.mem_of_getElem? (i := 475) (by decide +kernel)) (by decide +kernel)
theorem kw_194 : Cond.methodLink "PrefetchRules" 63 ⟨"PrefetchRules$Rule", "saidCount", "()I"⟩ ∈ kx_T := kx_mem (List.mem_of_getElem? (i := 467) (by decide +kernel)) (by decide +kernel)
theorem kw_195 : Cond.sameMethod "PrefetchRules$Rule" "PrefetchRules$Rule" "saidCount" "()I" ∈ kx_T := kx_mem (List.mem_of_getElem? (i := 469) (by decide +kernel)) (by decide +kernel)
theorem kw_196 : Cond.selects "PrefetchRules$Next" ⟨"PrefetchRules$Rule", "saidCount", "()I"⟩ y_Rule_saidCount ∈ kx_T := kx_mem (List.mem_of_getElem? (i := 470) (by decide +kernel)) (by decide +kernel)
theorem kw_197 : Cond.instanceMethod y_Rule_saidCount ∈ kx_T := kx_mem (List.mem_of_getElem? (i := 468) (by decide +kernel)) (by decide +kernel)
theorem kw_198 : Cond.selects "PrefetchRules$Strides" ⟨"PrefetchRules$Rule", "saidCount", "()I"⟩ y_Rule_saidCount ∈ kx_T := kx_mem (List.mem_of_getElem? (i := 474) (by decide +kernel)) (by decide +kernel)
theorem kw_199 : Cond.selects "PrefetchRules$Streams" ⟨"PrefetchRules$Rule", "saidCount", "()I"⟩ y_Rule_saidCount ∈ kx_T := kx_mem (List.mem_of_getElem? (i := 473) (by decide +kernel)) (by decide +kernel)
theorem kw_200 : Cond.selects "PrefetchRules$Offsets" ⟨"PrefetchRules$Rule", "saidCount", "()I"⟩ y_Rule_saidCount ∈ kx_T := kx_mem (List.mem_of_getElem? (i := 471) (by decide +kernel)) (by decide +kernel)
theorem kw_201 : Cond.selects "PrefetchRules$Pairs" ⟨"PrefetchRules$Rule", "saidCount", "()I"⟩ y_Rule_saidCount ∈ kx_T := kx_mem (List.mem_of_getElem? (i := 472) (by decide +kernel)) (by decide +kernel)
theorem kw_202 : Cond.code y_Rule_saidLine b_Rule_saidLine 2 (some .int) ∈ kx_T := kx_mem (List.mem_of_getElem? (i := 484) (by decide +kernel)) (by decide +kernel)
theorem kw_203 : Cond.methodLink "PrefetchRules" 66 ⟨"PrefetchRules$Rule", "saidLine", "(I)I"⟩ ∈ kx_T := kx_mem (List.mem_of_getElem? (i := 476) (by decide +kernel)) (by decide +kernel)
theorem kw_204 : Cond.sameMethod "PrefetchRules$Rule" "PrefetchRules$Rule" "saidLine" "(I)I" ∈ kx_T := kx_mem (List.mem_of_getElem? (i := 478) (by decide +kernel)) (by decide +kernel)
theorem kw_205 : Cond.selects "PrefetchRules$Next" ⟨"PrefetchRules$Rule", "saidLine", "(I)I"⟩ y_Rule_saidLine ∈ kx_T := kx_mem (List.mem_of_getElem? (i := 479) (by decide +kernel)) (by decide +kernel)
theorem kw_206 : Cond.instanceMethod y_Rule_saidLine ∈ kx_T := kx_mem (List.mem_of_getElem? (i := 477) (by decide +kernel)) (by decide +kernel)
theorem kw_207 : Cond.selects "PrefetchRules$Strides" ⟨"PrefetchRules$Rule", "saidLine", "(I)I"⟩ y_Rule_saidLine ∈ kx_T := kx_mem (List.mem_of_getElem? (i := 483) (by decide +kernel)) (by decide +kernel)
theorem kw_208 : Cond.selects "PrefetchRules$Streams" ⟨"PrefetchRules$Rule", "saidLine", "(I)I"⟩ y_Rule_saidLine ∈ kx_T := kx_mem (List.mem_of_getElem? (i := 482) (by decide +kernel)) (by decide +kernel)
theorem kw_209 : Cond.selects "PrefetchRules$Offsets" ⟨"PrefetchRules$Rule", "saidLine", "(I)I"⟩ y_Rule_saidLine ∈ kx_T := kx_mem (List.mem_of_getElem? (i := 480) (by decide +kernel)) (by decide +kernel)
theorem kw_210 : Cond.selects "PrefetchRules$Pairs" ⟨"PrefetchRules$Rule", "saidLine", "(I)I"⟩ y_Rule_saidLine ∈ kx_T := kx_mem (List.mem_of_getElem? (i := 481) (by decide +kernel)) (by decide +kernel)
theorem kw_211 : Cond.code y_Next_knowledge b_Next_knowledge 2 (some .int) ∈ kx_T := kx_mem (List.mem_of_getElem? (i := 530) (by decide +kernel)) (by decide +kernel)
theorem kw_212 : Cond.methodLink "PrefetchRules" 122 ⟨"PrefetchRules$Rule", "knowledge", "(I)I"⟩ ∈ kx_T := kx_mem (List.mem_of_getElem? (i := 525) (by decide +kernel)) (by decide +kernel)
theorem kw_213 : Cond.sameMethod "PrefetchRules$Rule" "PrefetchRules$Rule" "knowledge" "(I)I" ∈ kx_T := kx_mem (List.mem_of_getElem? (i := 527) (by decide +kernel)) (by decide +kernel)
theorem kw_214 : Cond.selects "PrefetchRules$Next" ⟨"PrefetchRules$Rule", "knowledge", "(I)I"⟩ y_Next_knowledge ∈ kx_T := kx_mem (List.mem_of_getElem? (i := 528) (by decide +kernel)) (by decide +kernel)
theorem kw_215 : Cond.instanceMethod y_Next_knowledge ∈ kx_T := kx_mem (List.mem_of_getElem? (i := 529) (by decide +kernel)) (by decide +kernel)
theorem kw_216 : Cond.declares ⟨"PrefetchRules$Rule", "knowledge", "(I)I"⟩ ∈ kx_N := kx_memN (List.mem_of_getElem? (i := 526) (by decide +kernel)) (by decide +kernel)
theorem kw_217 : Cond.code y_Strides_knowledge b_Strides_knowledge 3 (some .int) ∈ kx_T := kx_mem (List.mem_of_getElem? (i := 542) (by decide +kernel)) (by decide +kernel)
theorem kw_218 : Cond.selects "PrefetchRules$Strides" ⟨"PrefetchRules$Rule", "knowledge", "(I)I"⟩ y_Strides_knowledge ∈ kx_T := kx_mem (List.mem_of_getElem? (i := 540) (by decide +kernel)) (by decide +kernel)
theorem kw_219 : Cond.instanceMethod y_Strides_knowledge ∈ kx_T := kx_mem (List.mem_of_getElem? (i := 541) (by decide +kernel)) (by decide +kernel)
theorem kw_220 : Cond.code y_Streams_knowledge b_Streams_knowledge 2 (some .int) ∈ kx_T := kx_mem (List.mem_of_getElem? (i := 539) (by decide +kernel)) (by decide +kernel)
theorem kw_221 : Cond.selects "PrefetchRules$Streams" ⟨"PrefetchRules$Rule", "knowledge", "(I)I"⟩ y_Streams_knowledge ∈ kx_T := kx_mem (List.mem_of_getElem? (i := 537) (by decide +kernel)) (by decide +kernel)
theorem kw_222 : Cond.instanceMethod y_Streams_knowledge ∈ kx_T := kx_mem (List.mem_of_getElem? (i := 538) (by decide +kernel)) (by decide +kernel)
theorem kw_223 : Cond.code y_Offsets_knowledge b_Offsets_knowledge 2 (some .int) ∈ kx_T := kx_mem (List.mem_of_getElem? (i := 533) (by decide +kernel)) (by decide +kernel)
theorem kw_224 : Cond.selects "PrefetchRules$Offsets" ⟨"PrefetchRules$Rule", "knowledge", "(I)I"⟩ y_Offsets_knowledge ∈ kx_T := kx_mem (List.mem_of_getElem? (i := 531) (by decide +kernel)) (by decide +kernel)
theorem kw_225 : Cond.instanceMethod y_Offsets_knowledge ∈ kx_T := kx_mem (List.mem_of_getElem? (i := 532) (by decide +kernel)) (by decide +kernel)
theorem kw_226 : Cond.code y_Pairs_knowledge b_Pairs_knowledge 2 (some .int) ∈ kx_T := kx_mem (List.mem_of_getElem? (i := 536) (by decide +kernel)) (by decide +kernel)
theorem kw_227 : Cond.selects "PrefetchRules$Pairs" ⟨"PrefetchRules$Rule", "knowledge", "(I)I"⟩ y_Pairs_knowledge ∈ kx_T := kx_mem (List.mem_of_getElem? (i := 534) (by decide +kernel)) (by decide +kernel)
theorem kw_228 : Cond.instanceMethod y_Pairs_knowledge ∈ kx_T := kx_mem (List.mem_of_getElem? (i := 535) (by decide +kernel)) (by decide +kernel)
theorem kw_229 : Cond.code y_Next_confidence b_Next_confidence 2 (some .int) ∈ kx_T := kx_mem (List.mem_of_getElem? (i := 552) (by decide +kernel)) (by decide +kernel)
theorem kw_230 : Cond.methodLink "PrefetchRules" 125 ⟨"PrefetchRules$Rule", "confidence", "(I)I"⟩ ∈ kx_T := kx_mem (List.mem_of_getElem? (i := 547) (by decide +kernel)) (by decide +kernel)
theorem kw_231 : Cond.sameMethod "PrefetchRules$Rule" "PrefetchRules$Rule" "confidence" "(I)I" ∈ kx_T := kx_mem (List.mem_of_getElem? (i := 549) (by decide +kernel)) (by decide +kernel)
theorem kw_232 : Cond.selects "PrefetchRules$Next" ⟨"PrefetchRules$Rule", "confidence", "(I)I"⟩ y_Next_confidence ∈ kx_T := kx_mem (List.mem_of_getElem? (i := 550) (by decide +kernel)) (by decide +kernel)
theorem kw_233 : Cond.instanceMethod y_Next_confidence ∈ kx_T := kx_mem (List.mem_of_getElem? (i := 551) (by decide +kernel)) (by decide +kernel)
theorem kw_234 : Cond.declares ⟨"PrefetchRules$Rule", "confidence", "(I)I"⟩ ∈ kx_N := kx_memN (List.mem_of_getElem? (i := 548) (by decide +kernel)) (by decide +kernel)
theorem kw_235 : Cond.code y_Strides_confidence b_Strides_confidence 3 (some .int) ∈ kx_T := kx_mem (List.mem_of_getElem? (i := 564) (by decide +kernel)) (by decide +kernel)
theorem kw_236 : Cond.selects "PrefetchRules$Strides" ⟨"PrefetchRules$Rule", "confidence", "(I)I"⟩ y_Strides_confidence ∈ kx_T := kx_mem (List.mem_of_getElem? (i := 562) (by decide +kernel)) (by decide +kernel)
theorem kw_237 : Cond.instanceMethod y_Strides_confidence ∈ kx_T := kx_mem (List.mem_of_getElem? (i := 563) (by decide +kernel)) (by decide +kernel)
theorem kw_238 : Cond.code y_Streams_confidence b_Streams_confidence 2 (some .int) ∈ kx_T := kx_mem (List.mem_of_getElem? (i := 561) (by decide +kernel)) (by decide +kernel)
theorem kw_239 : Cond.selects "PrefetchRules$Streams" ⟨"PrefetchRules$Rule", "confidence", "(I)I"⟩ y_Streams_confidence ∈ kx_T := kx_mem (List.mem_of_getElem? (i := 559) (by decide +kernel)) (by decide +kernel)
theorem kw_240 : Cond.instanceMethod y_Streams_confidence ∈ kx_T := kx_mem (List.mem_of_getElem? (i := 560) (by decide +kernel)) (by decide +kernel)
theorem kw_241 : Cond.code y_Offsets_confidence b_Offsets_confidence 2 (some .int) ∈ kx_T := kx_mem (List.mem_of_getElem? (i := 555) (by decide +kernel)) (by decide +kernel)
theorem kw_242 : Cond.selects "PrefetchRules$Offsets" ⟨"PrefetchRules$Rule", "confidence", "(I)I"⟩ y_Offsets_confidence ∈ kx_T := kx_mem (List.mem_of_getElem? (i := 553) (by decide +kernel)) (by decide +kernel)
theorem kw_243 : Cond.instanceMethod y_Offsets_confidence ∈ kx_T := kx_mem (List.mem_of_getElem? (i := 554) (by decide +kernel)) (by decide +kernel)
theorem kw_244 : Cond.code y_Pairs_confidence b_Pairs_confidence 2 (some .int) ∈ kx_T := kx_mem (List.mem_of_getElem? (i := 558) (by decide +kernel)) (by decide +kernel)
theorem kw_245 : Cond.selects "PrefetchRules$Pairs" ⟨"PrefetchRules$Rule", "confidence", "(I)I"⟩ y_Pairs_confidence ∈ kx_T := kx_mem (List.mem_of_getElem? (i := 556) (by decide +kernel)) (by decide +kernel)
theorem kw_246 : Cond.instanceMethod y_Pairs_confidence ∈ kx_T := kx_mem (List.mem_of_getElem? (i := 557) (by decide +kernel)) (by decide +kernel)
theorem kw_247 : Cond.code y_Rule_roundCount b_Rule_roundCount 1 (some .int) ∈ kx_T := kx_mem (List.mem_of_getElem? (i := 583) (by decide +kernel)) (by decide +kernel)
theorem kw_248 : Cond.methodLink "PrefetchRules" 149 ⟨"PrefetchRules$Rule", "roundCount", "()I"⟩ ∈ kx_T := kx_mem (List.mem_of_getElem? (i := 573) (by decide +kernel)) (by decide +kernel)
theorem kw_249 : Cond.sameMethod "PrefetchRules$Rule" "PrefetchRules$Rule" "roundCount" "()I" ∈ kx_T := kx_mem (List.mem_of_getElem? (i := 575) (by decide +kernel)) (by decide +kernel)
theorem kw_250 : Cond.selects "PrefetchRules$Next" ⟨"PrefetchRules$Rule", "roundCount", "()I"⟩ y_Rule_roundCount ∈ kx_T := kx_mem (List.mem_of_getElem? (i := 576) (by decide +kernel)) (by decide +kernel)
theorem kw_251 : Cond.instanceMethod y_Rule_roundCount ∈ kx_T := kx_mem (List.mem_of_getElem? (i := 574) (by decide +kernel)) (by decide +kernel)
theorem kw_252 : Cond.selects "PrefetchRules$Strides" ⟨"PrefetchRules$Rule", "roundCount", "()I"⟩ y_Rule_roundCount ∈ kx_T := kx_mem (List.mem_of_getElem? (i := 582) (by decide +kernel)) (by decide +kernel)
theorem kw_253 : Cond.selects "PrefetchRules$Streams" ⟨"PrefetchRules$Rule", "roundCount", "()I"⟩ y_Rule_roundCount ∈ kx_T := kx_mem (List.mem_of_getElem? (i := 581) (by decide +kernel)) (by decide +kernel)
theorem kw_254 : Cond.code y_Offsets_roundCount b_Offsets_roundCount 1 (some .int) ∈ kx_T := kx_mem (List.mem_of_getElem? (i := 579) (by decide +kernel)) (by decide +kernel)
theorem kw_255 : Cond.selects "PrefetchRules$Offsets" ⟨"PrefetchRules$Rule", "roundCount", "()I"⟩ y_Offsets_roundCount ∈ kx_T := kx_mem (List.mem_of_getElem? (i := 577) (by decide +kernel)) (by decide +kernel)
theorem kw_256 : Cond.instanceMethod y_Offsets_roundCount ∈ kx_T := kx_mem (List.mem_of_getElem? (i := 578) (by decide +kernel)) (by decide +kernel)
theorem kw_257 : Cond.selects "PrefetchRules$Pairs" ⟨"PrefetchRules$Rule", "roundCount", "()I"⟩ y_Rule_roundCount ∈ kx_T := kx_mem (List.mem_of_getElem? (i := 580) (by decide +kernel)) (by decide +kernel)
theorem kw_258 : Cond.code y_Next_init b_Next_init 2 none ∈ kx_T := kx_mem (List.mem_of_getElem? (i := 225) (by decide +kernel)) (by decide +kernel)
theorem kw_259 : Cond.instanceMethod y_Next_init ∈ kx_T := kx_mem (List.mem_of_getElem? (i := 224) (by decide +kernel)) (by decide +kernel)
theorem kw_260 : Cond.code y_Offsets_init b_Offsets_init 2 none ∈ kx_T := kx_mem (List.mem_of_getElem? (i := 160) (by decide +kernel)) (by decide +kernel)
theorem kw_261 : Cond.instanceMethod y_Offsets_init ∈ kx_T := kx_mem (List.mem_of_getElem? (i := 159) (by decide +kernel)) (by decide +kernel)
theorem kw_262 : Cond.code y_Pairs_init b_Pairs_init 2 none ∈ kx_T := kx_mem (List.mem_of_getElem? (i := 194) (by decide +kernel)) (by decide +kernel)
theorem kw_263 : Cond.instanceMethod y_Pairs_init ∈ kx_T := kx_mem (List.mem_of_getElem? (i := 193) (by decide +kernel)) (by decide +kernel)
theorem kw_264 : Cond.code y_Queue_init b_Queue_init 1 none ∈ kx_T := kx_mem (List.mem_of_getElem? (i := 88) (by decide +kernel)) (by decide +kernel)
theorem kw_265 : Cond.instanceMethod y_Queue_init ∈ kx_T := kx_mem (List.mem_of_getElem? (i := 87) (by decide +kernel)) (by decide +kernel)
theorem kw_266 : Cond.code y_Rule_init b_Rule_init 2 none ∈ kx_T := kx_mem (List.mem_of_getElem? (i := 110) (by decide +kernel)) (by decide +kernel)
theorem kw_267 : Cond.instanceMethod y_Rule_init ∈ kx_T := kx_mem (List.mem_of_getElem? (i := 109) (by decide +kernel)) (by decide +kernel)
theorem kw_268 : Cond.code y_Store_init b_Store_init 2 none ∈ kx_T := kx_mem (List.mem_of_getElem? (i := 70) (by decide +kernel)) (by decide +kernel)
theorem kw_269 : Cond.instanceMethod y_Store_init ∈ kx_T := kx_mem (List.mem_of_getElem? (i := 69) (by decide +kernel)) (by decide +kernel)
theorem kw_270 : Cond.code y_Streams_init b_Streams_init 2 none ∈ kx_T := kx_mem (List.mem_of_getElem? (i := 141) (by decide +kernel)) (by decide +kernel)
theorem kw_271 : Cond.instanceMethod y_Streams_init ∈ kx_T := kx_mem (List.mem_of_getElem? (i := 140) (by decide +kernel)) (by decide +kernel)
theorem kw_272 : Cond.code y_Strides_init b_Strides_init 2 none ∈ kx_T := kx_mem (List.mem_of_getElem? (i := 107) (by decide +kernel)) (by decide +kernel)
theorem kw_273 : Cond.instanceMethod y_Strides_init ∈ kx_T := kx_mem (List.mem_of_getElem? (i := 106) (by decide +kernel)) (by decide +kernel)
theorem kw_274 : Cond.code y_Main_indexOf b_Main_indexOf 4 (some .int) ∈ kx_T := kx_mem (List.mem_of_getElem? (i := 324) (by decide +kernel)) (by decide +kernel)
theorem kw_275 : Cond.initialized "PrefetchRules" ∈ kx_T := kx_mem (List.mem_of_getElem? (i := 36) (by decide +kernel)) (by decide +kernel)
theorem kw_276 : Cond.static y_Main_indexOf ∈ kx_T := kx_mem (List.mem_of_getElem? (i := 323) (by decide +kernel)) (by decide +kernel)
theorem kw_277 : Cond.code y_Main_oneTo b_Main_oneTo 2 (some .int) ∈ kx_T := kx_mem (List.mem_of_getElem? (i := 62) (by decide +kernel)) (by decide +kernel)
theorem kw_278 : Cond.static y_Main_oneTo ∈ kx_T := kx_mem (List.mem_of_getElem? (i := 61) (by decide +kernel)) (by decide +kernel)
theorem kw_279 : Cond.code y_Main_ruleOf b_Main_ruleOf 2 (some (.object "PrefetchRules$Rule")) ∈ kx_T := kx_mem (List.mem_of_getElem? (i := 102) (by decide +kernel)) (by decide +kernel)
theorem kw_280 : Cond.static y_Main_ruleOf ∈ kx_T := kx_mem (List.mem_of_getElem? (i := 101) (by decide +kernel)) (by decide +kernel)
theorem kw_281 : Cond.code y_Math_floorMod b_Math_floorMod 3 (some .int) ∈ kx_T := kx_mem (List.mem_of_getElem? (i := 65) (by decide +kernel)) (by decide +kernel)
theorem kw_282 : Cond.static y_Math_floorMod ∈ kx_T := kx_mem (List.mem_of_getElem? (i := 64) (by decide +kernel)) (by decide +kernel)
theorem kw_283 : Cond.code y_Pairs_rowOf b_Pairs_rowOf 1 (some .int) ∈ kx_T := kx_mem (List.mem_of_getElem? (i := 406) (by decide +kernel)) (by decide +kernel)
theorem kw_284 : Cond.static y_Pairs_rowOf ∈ kx_T := kx_mem (List.mem_of_getElem? (i := 405) (by decide +kernel)) (by decide +kernel)
theorem kw_285 : Cond.code y_Streams_wayTo b_Streams_wayTo 1 (some .int) ∈ kx_T := kx_mem (List.mem_of_getElem? (i := 433) (by decide +kernel)) (by decide +kernel)
theorem kw_286 : Cond.static y_Streams_wayTo ∈ kx_T := kx_mem (List.mem_of_getElem? (i := 432) (by decide +kernel)) (by decide +kernel)
theorem kw_287 : Cond.code y_Strides_rowOf b_Strides_rowOf 1 (some .int) ∈ kx_T := kx_mem (List.mem_of_getElem? (i := 450) (by decide +kernel)) (by decide +kernel)
theorem kw_288 : Cond.static y_Strides_rowOf ∈ kx_T := kx_mem (List.mem_of_getElem? (i := 449) (by decide +kernel)) (by decide +kernel)
theorem kw_289 : Cond.code y_Main_ask b_Main_ask 4 (some .int) ∈ kx_T := kx_mem (List.mem_of_getElem? (i := 317) (by decide +kernel)) (by decide +kernel)
theorem kw_290 : Cond.instanceMethod y_Main_ask ∈ kx_T := kx_mem (List.mem_of_getElem? (i := 316) (by decide +kernel)) (by decide +kernel)
theorem kw_291 : Cond.selects "PrefetchRules" y_Main_ask y_Main_ask ∈ kx_T := kx_mem (List.mem_of_getElem? (i := 3) (by decide +kernel)) (by decide +kernel)
theorem kw_292 : Cond.code y_Main_come b_Main_come 3 none ∈ kx_T := kx_mem (List.mem_of_getElem? (i := 293) (by decide +kernel)) (by decide +kernel)
theorem kw_293 : Cond.instanceMethod y_Main_come ∈ kx_T := kx_mem (List.mem_of_getElem? (i := 292) (by decide +kernel)) (by decide +kernel)
theorem kw_294 : Cond.selects "PrefetchRules" y_Main_come y_Main_come ∈ kx_T := kx_mem (List.mem_of_getElem? (i := 1) (by decide +kernel)) (by decide +kernel)
theorem kw_295 : Cond.code y_Main_fetch b_Main_fetch 2 none ∈ kx_T := kx_mem (List.mem_of_getElem? (i := 488) (by decide +kernel)) (by decide +kernel)
theorem kw_296 : Cond.instanceMethod y_Main_fetch ∈ kx_T := kx_mem (List.mem_of_getElem? (i := 487) (by decide +kernel)) (by decide +kernel)
theorem kw_297 : Cond.selects "PrefetchRules" y_Main_fetch y_Main_fetch ∈ kx_T := kx_mem (List.mem_of_getElem? (i := 17) (by decide +kernel)) (by decide +kernel)
theorem kw_298 : Cond.code y_Main_hit b_Main_hit 2 none ∈ kx_T := kx_mem (List.mem_of_getElem? (i := 328) (by decide +kernel)) (by decide +kernel)
theorem kw_299 : Cond.instanceMethod y_Main_hit ∈ kx_T := kx_mem (List.mem_of_getElem? (i := 327) (by decide +kernel)) (by decide +kernel)
theorem kw_300 : Cond.selects "PrefetchRules" y_Main_hit y_Main_hit ∈ kx_T := kx_mem (List.mem_of_getElem? (i := 4) (by decide +kernel)) (by decide +kernel)
theorem kw_301 : Cond.code y_Main_nextCycle b_Main_nextCycle 3 (some .int) ∈ kx_T := kx_mem (List.mem_of_getElem? (i := 281) (by decide +kernel)) (by decide +kernel)
theorem kw_302 : Cond.instanceMethod y_Main_nextCycle ∈ kx_T := kx_mem (List.mem_of_getElem? (i := 280) (by decide +kernel)) (by decide +kernel)
theorem kw_303 : Cond.selects "PrefetchRules" y_Main_nextCycle y_Main_nextCycle ∈ kx_T := kx_mem (List.mem_of_getElem? (i := 0) (by decide +kernel)) (by decide +kernel)
theorem kw_304 : Cond.code y_Offsets_endRound b_Offsets_endRound 3 none ∈ kx_T := kx_mem (List.mem_of_getElem? (i := 389) (by decide +kernel)) (by decide +kernel)
theorem kw_305 : Cond.instanceMethod y_Offsets_endRound ∈ kx_T := kx_mem (List.mem_of_getElem? (i := 388) (by decide +kernel)) (by decide +kernel)
theorem kw_306 : Cond.selects "PrefetchRules$Offsets" y_Offsets_endRound y_Offsets_endRound ∈ kx_T := kx_mem (List.mem_of_getElem? (i := 7) (by decide +kernel)) (by decide +kernel)
theorem kw_307 : Cond.code y_Offsets_isRecent b_Offsets_isRecent 2 (some .boolean) ∈ kx_T := kx_mem (List.mem_of_getElem? (i := 384) (by decide +kernel)) (by decide +kernel)
theorem kw_308 : Cond.instanceMethod y_Offsets_isRecent ∈ kx_T := kx_mem (List.mem_of_getElem? (i := 383) (by decide +kernel)) (by decide +kernel)
theorem kw_309 : Cond.selects "PrefetchRules$Offsets" y_Offsets_isRecent y_Offsets_isRecent ∈ kx_T := kx_mem (List.mem_of_getElem? (i := 6) (by decide +kernel)) (by decide +kernel)
theorem kw_310 : Cond.code y_Offsets_remember b_Offsets_remember 2 none ∈ kx_T := kx_mem (List.mem_of_getElem? (i := 396) (by decide +kernel)) (by decide +kernel)
theorem kw_311 : Cond.instanceMethod y_Offsets_remember ∈ kx_T := kx_mem (List.mem_of_getElem? (i := 395) (by decide +kernel)) (by decide +kernel)
theorem kw_312 : Cond.selects "PrefetchRules$Offsets" y_Offsets_remember y_Offsets_remember ∈ kx_T := kx_mem (List.mem_of_getElem? (i := 8) (by decide +kernel)) (by decide +kernel)
theorem kw_313 : Cond.code y_Offsets_tryCandidate b_Offsets_tryCandidate 2 none ∈ kx_T := kx_mem (List.mem_of_getElem? (i := 378) (by decide +kernel)) (by decide +kernel)
theorem kw_314 : Cond.instanceMethod y_Offsets_tryCandidate ∈ kx_T := kx_mem (List.mem_of_getElem? (i := 377) (by decide +kernel)) (by decide +kernel)
theorem kw_315 : Cond.selects "PrefetchRules$Offsets" y_Offsets_tryCandidate y_Offsets_tryCandidate ∈ kx_T := kx_mem (List.mem_of_getElem? (i := 5) (by decide +kernel)) (by decide +kernel)
theorem kw_316 : Cond.code y_Pairs_behindCount b_Pairs_behindCount 3 (some .int) ∈ kx_T := kx_mem (List.mem_of_getElem? (i := 417) (by decide +kernel)) (by decide +kernel)
theorem kw_317 : Cond.instanceMethod y_Pairs_behindCount ∈ kx_T := kx_mem (List.mem_of_getElem? (i := 416) (by decide +kernel)) (by decide +kernel)
theorem kw_318 : Cond.selects "PrefetchRules$Pairs" y_Pairs_behindCount y_Pairs_behindCount ∈ kx_T := kx_mem (List.mem_of_getElem? (i := 11) (by decide +kernel)) (by decide +kernel)
theorem kw_319 : Cond.code y_Pairs_follow b_Pairs_follow 4 none ∈ kx_T := kx_mem (List.mem_of_getElem? (i := 403) (by decide +kernel)) (by decide +kernel)
theorem kw_320 : Cond.instanceMethod y_Pairs_follow ∈ kx_T := kx_mem (List.mem_of_getElem? (i := 402) (by decide +kernel)) (by decide +kernel)
theorem kw_321 : Cond.selects "PrefetchRules$Pairs" y_Pairs_follow y_Pairs_follow ∈ kx_T := kx_mem (List.mem_of_getElem? (i := 9) (by decide +kernel)) (by decide +kernel)
theorem kw_322 : Cond.code y_Pairs_isOwn b_Pairs_isOwn 3 (some .boolean) ∈ kx_T := kx_mem (List.mem_of_getElem? (i := 410) (by decide +kernel)) (by decide +kernel)
theorem kw_323 : Cond.instanceMethod y_Pairs_isOwn ∈ kx_T := kx_mem (List.mem_of_getElem? (i := 409) (by decide +kernel)) (by decide +kernel)
theorem kw_324 : Cond.selects "PrefetchRules$Pairs" y_Pairs_isOwn y_Pairs_isOwn ∈ kx_T := kx_mem (List.mem_of_getElem? (i := 10) (by decide +kernel)) (by decide +kernel)
theorem kw_325 : Cond.code y_Queue_add b_Queue_add 3 none ∈ kx_T := kx_mem (List.mem_of_getElem? (i := 496) (by decide +kernel)) (by decide +kernel)
theorem kw_326 : Cond.instanceMethod y_Queue_add ∈ kx_T := kx_mem (List.mem_of_getElem? (i := 494) (by decide +kernel)) (by decide +kernel)
theorem kw_327 : Cond.selects "PrefetchRules$Queue" y_Queue_add y_Queue_add ∈ kx_T := kx_mem (List.mem_of_getElem? (i := 495) (by decide +kernel)) (by decide +kernel)
theorem kw_328 : Cond.code y_Queue_clear b_Queue_clear 1 none ∈ kx_T := kx_mem (List.mem_of_getElem? (i := 512) (by decide +kernel)) (by decide +kernel)
theorem kw_329 : Cond.instanceMethod y_Queue_clear ∈ kx_T := kx_mem (List.mem_of_getElem? (i := 510) (by decide +kernel)) (by decide +kernel)
theorem kw_330 : Cond.selects "PrefetchRules$Queue" y_Queue_clear y_Queue_clear ∈ kx_T := kx_mem (List.mem_of_getElem? (i := 511) (by decide +kernel)) (by decide +kernel)
theorem kw_331 : Cond.code y_Queue_cycleAt b_Queue_cycleAt 2 (some .int) ∈ kx_T := kx_mem (List.mem_of_getElem? (i := 702) (by decide +kernel)) (by decide +kernel)
theorem kw_332 : Cond.instanceMethod y_Queue_cycleAt ∈ kx_T := kx_mem (List.mem_of_getElem? (i := 700) (by decide +kernel)) (by decide +kernel)
theorem kw_333 : Cond.selects "PrefetchRules$Queue" y_Queue_cycleAt y_Queue_cycleAt ∈ kx_T := kx_mem (List.mem_of_getElem? (i := 701) (by decide +kernel)) (by decide +kernel)
theorem kw_334 : Cond.code y_Queue_find b_Queue_find 2 (some .int) ∈ kx_T := kx_mem (List.mem_of_getElem? (i := 340) (by decide +kernel)) (by decide +kernel)
theorem kw_335 : Cond.instanceMethod y_Queue_find ∈ kx_T := kx_mem (List.mem_of_getElem? (i := 338) (by decide +kernel)) (by decide +kernel)
theorem kw_336 : Cond.selects "PrefetchRules$Queue" y_Queue_find y_Queue_find ∈ kx_T := kx_mem (List.mem_of_getElem? (i := 339) (by decide +kernel)) (by decide +kernel)
theorem kw_337 : Cond.code y_Queue_firstIsDue b_Queue_firstIsDue 2 (some .boolean) ∈ kx_T := kx_mem (List.mem_of_getElem? (i := 285) (by decide +kernel)) (by decide +kernel)
theorem kw_338 : Cond.instanceMethod y_Queue_firstIsDue ∈ kx_T := kx_mem (List.mem_of_getElem? (i := 283) (by decide +kernel)) (by decide +kernel)
theorem kw_339 : Cond.selects "PrefetchRules$Queue" y_Queue_firstIsDue y_Queue_firstIsDue ∈ kx_T := kx_mem (List.mem_of_getElem? (i := 284) (by decide +kernel)) (by decide +kernel)
theorem kw_340 : Cond.code y_Queue_isFull b_Queue_isFull 1 (some .boolean) ∈ kx_T := kx_mem (List.mem_of_getElem? (i := 492) (by decide +kernel)) (by decide +kernel)
theorem kw_341 : Cond.instanceMethod y_Queue_isFull ∈ kx_T := kx_mem (List.mem_of_getElem? (i := 490) (by decide +kernel)) (by decide +kernel)
theorem kw_342 : Cond.selects "PrefetchRules$Queue" y_Queue_isFull y_Queue_isFull ∈ kx_T := kx_mem (List.mem_of_getElem? (i := 491) (by decide +kernel)) (by decide +kernel)
theorem kw_343 : Cond.code y_Queue_lineAt b_Queue_lineAt 2 (some .int) ∈ kx_T := kx_mem (List.mem_of_getElem? (i := 289) (by decide +kernel)) (by decide +kernel)
theorem kw_344 : Cond.instanceMethod y_Queue_lineAt ∈ kx_T := kx_mem (List.mem_of_getElem? (i := 287) (by decide +kernel)) (by decide +kernel)
theorem kw_345 : Cond.selects "PrefetchRules$Queue" y_Queue_lineAt y_Queue_lineAt ∈ kx_T := kx_mem (List.mem_of_getElem? (i := 288) (by decide +kernel)) (by decide +kernel)
theorem kw_346 : Cond.code y_Queue_remove b_Queue_remove 3 none ∈ kx_T := kx_mem (List.mem_of_getElem? (i := 313) (by decide +kernel)) (by decide +kernel)
theorem kw_347 : Cond.instanceMethod y_Queue_remove ∈ kx_T := kx_mem (List.mem_of_getElem? (i := 311) (by decide +kernel)) (by decide +kernel)
theorem kw_348 : Cond.selects "PrefetchRules$Queue" y_Queue_remove y_Queue_remove ∈ kx_T := kx_mem (List.mem_of_getElem? (i := 312) (by decide +kernel)) (by decide +kernel)
theorem kw_349 : Cond.code y_Queue_size b_Queue_size 1 (some .int) ∈ kx_T := kx_mem (List.mem_of_getElem? (i := 504) (by decide +kernel)) (by decide +kernel)
theorem kw_350 : Cond.instanceMethod y_Queue_size ∈ kx_T := kx_mem (List.mem_of_getElem? (i := 502) (by decide +kernel)) (by decide +kernel)
theorem kw_351 : Cond.selects "PrefetchRules$Queue" y_Queue_size y_Queue_size ∈ kx_T := kx_mem (List.mem_of_getElem? (i := 503) (by decide +kernel)) (by decide +kernel)
theorem kw_352 : Cond.code y_Store_clearMarks b_Store_clearMarks 2 none ∈ kx_T := kx_mem (List.mem_of_getElem? (i := 516) (by decide +kernel)) (by decide +kernel)
theorem kw_353 : Cond.instanceMethod y_Store_clearMarks ∈ kx_T := kx_mem (List.mem_of_getElem? (i := 514) (by decide +kernel)) (by decide +kernel)
theorem kw_354 : Cond.selects "PrefetchRules$Store" y_Store_clearMarks y_Store_clearMarks ∈ kx_T := kx_mem (List.mem_of_getElem? (i := 515) (by decide +kernel)) (by decide +kernel)
theorem kw_355 : Cond.code y_Store_dropLast b_Store_dropLast 1 (some .boolean) ∈ kx_T := kx_mem (List.mem_of_getElem? (i := 301) (by decide +kernel)) (by decide +kernel)
theorem kw_356 : Cond.instanceMethod y_Store_dropLast ∈ kx_T := kx_mem (List.mem_of_getElem? (i := 299) (by decide +kernel)) (by decide +kernel)
theorem kw_357 : Cond.selects "PrefetchRules$Store" y_Store_dropLast y_Store_dropLast ∈ kx_T := kx_mem (List.mem_of_getElem? (i := 300) (by decide +kernel)) (by decide +kernel)
theorem kw_358 : Cond.code y_Store_find b_Store_find 2 (some .int) ∈ kx_T := kx_mem (List.mem_of_getElem? (i := 321) (by decide +kernel)) (by decide +kernel)
theorem kw_359 : Cond.instanceMethod y_Store_find ∈ kx_T := kx_mem (List.mem_of_getElem? (i := 319) (by decide +kernel)) (by decide +kernel)
theorem kw_360 : Cond.selects "PrefetchRules$Store" y_Store_find y_Store_find ∈ kx_T := kx_mem (List.mem_of_getElem? (i := 320) (by decide +kernel)) (by decide +kernel)
theorem kw_361 : Cond.code y_Store_isFull b_Store_isFull 1 (some .boolean) ∈ kx_T := kx_mem (List.mem_of_getElem? (i := 297) (by decide +kernel)) (by decide +kernel)
theorem kw_362 : Cond.instanceMethod y_Store_isFull ∈ kx_T := kx_mem (List.mem_of_getElem? (i := 295) (by decide +kernel)) (by decide +kernel)
theorem kw_363 : Cond.selects "PrefetchRules$Store" y_Store_isFull y_Store_isFull ∈ kx_T := kx_mem (List.mem_of_getElem? (i := 296) (by decide +kernel)) (by decide +kernel)
theorem kw_364 : Cond.code y_Store_isMarked b_Store_isMarked 2 (some .boolean) ∈ kx_T := kx_mem (List.mem_of_getElem? (i := 332) (by decide +kernel)) (by decide +kernel)
theorem kw_365 : Cond.instanceMethod y_Store_isMarked ∈ kx_T := kx_mem (List.mem_of_getElem? (i := 330) (by decide +kernel)) (by decide +kernel)
theorem kw_366 : Cond.selects "PrefetchRules$Store" y_Store_isMarked y_Store_isMarked ∈ kx_T := kx_mem (List.mem_of_getElem? (i := 331) (by decide +kernel)) (by decide +kernel)
theorem kw_367 : Cond.code y_Store_lineAt b_Store_lineAt 2 (some .int) ∈ kx_T := kx_mem (List.mem_of_getElem? (i := 689) (by decide +kernel)) (by decide +kernel)
theorem kw_368 : Cond.instanceMethod y_Store_lineAt ∈ kx_T := kx_mem (List.mem_of_getElem? (i := 687) (by decide +kernel)) (by decide +kernel)
theorem kw_369 : Cond.selects "PrefetchRules$Store" y_Store_lineAt y_Store_lineAt ∈ kx_T := kx_mem (List.mem_of_getElem? (i := 688) (by decide +kernel)) (by decide +kernel)
theorem kw_370 : Cond.code y_Store_markCount b_Store_markCount 3 (some .int) ∈ kx_T := kx_mem (List.mem_of_getElem? (i := 508) (by decide +kernel)) (by decide +kernel)
theorem kw_371 : Cond.instanceMethod y_Store_markCount ∈ kx_T := kx_mem (List.mem_of_getElem? (i := 506) (by decide +kernel)) (by decide +kernel)
theorem kw_372 : Cond.selects "PrefetchRules$Store" y_Store_markCount y_Store_markCount ∈ kx_T := kx_mem (List.mem_of_getElem? (i := 507) (by decide +kernel)) (by decide +kernel)
theorem kw_373 : Cond.code y_Store_moveInFront b_Store_moveInFront 5 none ∈ kx_T := kx_mem (List.mem_of_getElem? (i := 309) (by decide +kernel)) (by decide +kernel)
theorem kw_374 : Cond.instanceMethod y_Store_moveInFront ∈ kx_T := kx_mem (List.mem_of_getElem? (i := 308) (by decide +kernel)) (by decide +kernel)
theorem kw_375 : Cond.selects "PrefetchRules$Store" y_Store_moveInFront y_Store_moveInFront ∈ kx_T := kx_mem (List.mem_of_getElem? (i := 2) (by decide +kernel)) (by decide +kernel)
theorem kw_376 : Cond.code y_Store_putFirst b_Store_putFirst 3 none ∈ kx_T := kx_mem (List.mem_of_getElem? (i := 305) (by decide +kernel)) (by decide +kernel)
theorem kw_377 : Cond.instanceMethod y_Store_putFirst ∈ kx_T := kx_mem (List.mem_of_getElem? (i := 303) (by decide +kernel)) (by decide +kernel)
theorem kw_378 : Cond.selects "PrefetchRules$Store" y_Store_putFirst y_Store_putFirst ∈ kx_T := kx_mem (List.mem_of_getElem? (i := 304) (by decide +kernel)) (by decide +kernel)
theorem kw_379 : Cond.code y_Store_size b_Store_size 1 (some .int) ∈ kx_T := kx_mem (List.mem_of_getElem? (i := 572) (by decide +kernel)) (by decide +kernel)
theorem kw_380 : Cond.instanceMethod y_Store_size ∈ kx_T := kx_mem (List.mem_of_getElem? (i := 570) (by decide +kernel)) (by decide +kernel)
theorem kw_381 : Cond.selects "PrefetchRules$Store" y_Store_size y_Store_size ∈ kx_T := kx_mem (List.mem_of_getElem? (i := 571) (by decide +kernel)) (by decide +kernel)
theorem kw_382 : Cond.code y_Store_use b_Store_use 2 none ∈ kx_T := kx_mem (List.mem_of_getElem? (i := 336) (by decide +kernel)) (by decide +kernel)
theorem kw_383 : Cond.instanceMethod y_Store_use ∈ kx_T := kx_mem (List.mem_of_getElem? (i := 334) (by decide +kernel)) (by decide +kernel)
theorem kw_384 : Cond.selects "PrefetchRules$Store" y_Store_use y_Store_use ∈ kx_T := kx_mem (List.mem_of_getElem? (i := 335) (by decide +kernel)) (by decide +kernel)
theorem kw_385 : Cond.code y_Streams_begin b_Streams_begin 2 none ∈ kx_T := kx_mem (List.mem_of_getElem? (i := 444) (by decide +kernel)) (by decide +kernel)
theorem kw_386 : Cond.instanceMethod y_Streams_begin ∈ kx_T := kx_mem (List.mem_of_getElem? (i := 443) (by decide +kernel)) (by decide +kernel)
theorem kw_387 : Cond.selects "PrefetchRules$Streams" y_Streams_begin y_Streams_begin ∈ kx_T := kx_mem (List.mem_of_getElem? (i := 13) (by decide +kernel)) (by decide +kernel)
theorem kw_388 : Cond.code y_Streams_moveInFront b_Streams_moveInFront 5 none ∈ kx_T := kx_mem (List.mem_of_getElem? (i := 437) (by decide +kernel)) (by decide +kernel)
theorem kw_389 : Cond.instanceMethod y_Streams_moveInFront ∈ kx_T := kx_mem (List.mem_of_getElem? (i := 436) (by decide +kernel)) (by decide +kernel)
theorem kw_390 : Cond.selects "PrefetchRules$Streams" y_Streams_moveInFront y_Streams_moveInFront ∈ kx_T := kx_mem (List.mem_of_getElem? (i := 12) (by decide +kernel)) (by decide +kernel)
theorem kw_391 : Cond.code y_Strides_begin b_Strides_begin 4 none ∈ kx_T := kx_mem (List.mem_of_getElem? (i := 458) (by decide +kernel)) (by decide +kernel)
theorem kw_392 : Cond.instanceMethod y_Strides_begin ∈ kx_T := kx_mem (List.mem_of_getElem? (i := 457) (by decide +kernel)) (by decide +kernel)
theorem kw_393 : Cond.selects "PrefetchRules$Strides" y_Strides_begin y_Strides_begin ∈ kx_T := kx_mem (List.mem_of_getElem? (i := 15) (by decide +kernel)) (by decide +kernel)
theorem kw_394 : Cond.code y_Strides_compare b_Strides_compare 3 none ∈ kx_T := kx_mem (List.mem_of_getElem? (i := 462) (by decide +kernel)) (by decide +kernel)
theorem kw_395 : Cond.instanceMethod y_Strides_compare ∈ kx_T := kx_mem (List.mem_of_getElem? (i := 461) (by decide +kernel)) (by decide +kernel)
theorem kw_396 : Cond.selects "PrefetchRules$Strides" y_Strides_compare y_Strides_compare ∈ kx_T := kx_mem (List.mem_of_getElem? (i := 16) (by decide +kernel)) (by decide +kernel)
theorem kw_397 : Cond.code y_Strides_isOwn b_Strides_isOwn 3 (some .boolean) ∈ kx_T := kx_mem (List.mem_of_getElem? (i := 454) (by decide +kernel)) (by decide +kernel)
theorem kw_398 : Cond.instanceMethod y_Strides_isOwn ∈ kx_T := kx_mem (List.mem_of_getElem? (i := 453) (by decide +kernel)) (by decide +kernel)
theorem kw_399 : Cond.selects "PrefetchRules$Strides" y_Strides_isOwn y_Strides_isOwn ∈ kx_T := kx_mem (List.mem_of_getElem? (i := 14) (by decide +kernel)) (by decide +kernel)
theorem kw_400 : Cond.laysFinal "PrefetchRules" "PrefetchRules" "latency" "I" ∈ kx_T := kx_mem (List.mem_of_getElem? (i := 245) (by decide +kernel)) (by decide +kernel)
theorem kw_401 : Cond.laysFinal "PrefetchRules" "PrefetchRules" "store" "LPrefetchRules$Store;" ∈ kx_T := kx_mem (List.mem_of_getElem? (i := 247) (by decide +kernel)) (by decide +kernel)
theorem kw_402 : Cond.laysFinal "PrefetchRules" "PrefetchRules" "queue" "LPrefetchRules$Queue;" ∈ kx_T := kx_mem (List.mem_of_getElem? (i := 249) (by decide +kernel)) (by decide +kernel)
theorem kw_403 : Cond.laysFinal "PrefetchRules" "PrefetchRules" "rule" "LPrefetchRules$Rule;" ∈ kx_T := kx_mem (List.mem_of_getElem? (i := 251) (by decide +kernel)) (by decide +kernel)
theorem kw_404 : Cond.lays "PrefetchRules" "PrefetchRules" "cycles" "I" ∈ kx_T := kx_mem (List.mem_of_getElem? (i := 253) (by decide +kernel)) (by decide +kernel)
theorem kw_405 : Cond.lays "PrefetchRules" "PrefetchRules" "accesses" "I" ∈ kx_T := kx_mem (List.mem_of_getElem? (i := 255) (by decide +kernel)) (by decide +kernel)
theorem kw_406 : Cond.lays "PrefetchRules" "PrefetchRules" "hits" "I" ∈ kx_T := kx_mem (List.mem_of_getElem? (i := 257) (by decide +kernel)) (by decide +kernel)
theorem kw_407 : Cond.lays "PrefetchRules" "PrefetchRules" "late" "I" ∈ kx_T := kx_mem (List.mem_of_getElem? (i := 259) (by decide +kernel)) (by decide +kernel)
theorem kw_408 : Cond.lays "PrefetchRules" "PrefetchRules" "misses" "I" ∈ kx_T := kx_mem (List.mem_of_getElem? (i := 261) (by decide +kernel)) (by decide +kernel)
theorem kw_409 : Cond.lays "PrefetchRules" "PrefetchRules" "useful" "I" ∈ kx_T := kx_mem (List.mem_of_getElem? (i := 263) (by decide +kernel)) (by decide +kernel)
theorem kw_410 : Cond.lays "PrefetchRules" "PrefetchRules" "useless" "I" ∈ kx_T := kx_mem (List.mem_of_getElem? (i := 265) (by decide +kernel)) (by decide +kernel)
theorem kw_411 : Cond.lays "PrefetchRules" "PrefetchRules" "filtered" "I" ∈ kx_T := kx_mem (List.mem_of_getElem? (i := 267) (by decide +kernel)) (by decide +kernel)
theorem kw_412 : Cond.lays "PrefetchRules" "PrefetchRules" "dropped" "I" ∈ kx_T := kx_mem (List.mem_of_getElem? (i := 269) (by decide +kernel)) (by decide +kernel)
theorem kw_413 : Cond.lays "PrefetchRules" "PrefetchRules" "fetches" "I" ∈ kx_T := kx_mem (List.mem_of_getElem? (i := 271) (by decide +kernel)) (by decide +kernel)
theorem kw_414 : Cond.laysFinal "PrefetchRules$Store" "PrefetchRules$Store" "lines" "[I" ∈ kx_T := kx_mem (List.mem_of_getElem? (i := 75) (by decide +kernel)) (by decide +kernel)
theorem kw_415 : Cond.laysFinal "PrefetchRules$Store" "PrefetchRules$Store" "marks" "[Z" ∈ kx_T := kx_mem (List.mem_of_getElem? (i := 77) (by decide +kernel)) (by decide +kernel)
theorem kw_416 : Cond.lays "PrefetchRules$Store" "PrefetchRules$Store" "size" "I" ∈ kx_T := kx_mem (List.mem_of_getElem? (i := 79) (by decide +kernel)) (by decide +kernel)
theorem kw_417 : Cond.laysFinal "PrefetchRules$Queue" "PrefetchRules$Queue" "lines" "[I" ∈ kx_T := kx_mem (List.mem_of_getElem? (i := 93) (by decide +kernel)) (by decide +kernel)
theorem kw_418 : Cond.laysFinal "PrefetchRules$Queue" "PrefetchRules$Queue" "cycles" "[I" ∈ kx_T := kx_mem (List.mem_of_getElem? (i := 95) (by decide +kernel)) (by decide +kernel)
theorem kw_419 : Cond.lays "PrefetchRules$Queue" "PrefetchRules$Queue" "size" "I" ∈ kx_T := kx_mem (List.mem_of_getElem? (i := 97) (by decide +kernel)) (by decide +kernel)
theorem kw_420 : Cond.laysFinal "PrefetchRules$Next" "PrefetchRules$Rule" "degree" "I" ∈ kx_T := kx_mem (List.mem_of_getElem? (i := 227) (by decide +kernel)) (by decide +kernel)
theorem kw_421 : Cond.laysFinal "PrefetchRules$Next" "PrefetchRules$Rule" "said" "[I" ∈ kx_T := kx_mem (List.mem_of_getElem? (i := 228) (by decide +kernel)) (by decide +kernel)
theorem kw_422 : Cond.lays "PrefetchRules$Next" "PrefetchRules$Rule" "saidCount" "I" ∈ kx_T := kx_mem (List.mem_of_getElem? (i := 229) (by decide +kernel)) (by decide +kernel)
theorem kw_423 : Cond.selects "PrefetchRules$Next" ⟨"PrefetchRules$Rule", "say", "(I)V"⟩ ⟨"PrefetchRules$Rule", "say", "(I)V"⟩ ∈ kx_T := kx_mem (List.mem_of_getElem? (i := 366) (by decide +kernel)) (by decide +kernel)
theorem kw_424 : Cond.laysFinal "PrefetchRules$Strides" "PrefetchRules$Rule" "degree" "I" ∈ kx_T := kx_mem (List.mem_of_getElem? (i := 130) (by decide +kernel)) (by decide +kernel)
theorem kw_425 : Cond.laysFinal "PrefetchRules$Strides" "PrefetchRules$Rule" "said" "[I" ∈ kx_T := kx_mem (List.mem_of_getElem? (i := 132) (by decide +kernel)) (by decide +kernel)
theorem kw_426 : Cond.lays "PrefetchRules$Strides" "PrefetchRules$Rule" "saidCount" "I" ∈ kx_T := kx_mem (List.mem_of_getElem? (i := 134) (by decide +kernel)) (by decide +kernel)
theorem kw_427 : Cond.laysFinal "PrefetchRules$Strides" "PrefetchRules$Strides" "taken" "[Z" ∈ kx_T := kx_mem (List.mem_of_getElem? (i := 120) (by decide +kernel)) (by decide +kernel)
theorem kw_428 : Cond.laysFinal "PrefetchRules$Strides" "PrefetchRules$Strides" "places" "[I" ∈ kx_T := kx_mem (List.mem_of_getElem? (i := 122) (by decide +kernel)) (by decide +kernel)
theorem kw_429 : Cond.laysFinal "PrefetchRules$Strides" "PrefetchRules$Strides" "lines" "[I" ∈ kx_T := kx_mem (List.mem_of_getElem? (i := 124) (by decide +kernel)) (by decide +kernel)
theorem kw_430 : Cond.laysFinal "PrefetchRules$Strides" "PrefetchRules$Strides" "strides" "[I" ∈ kx_T := kx_mem (List.mem_of_getElem? (i := 126) (by decide +kernel)) (by decide +kernel)
theorem kw_431 : Cond.laysFinal "PrefetchRules$Strides" "PrefetchRules$Strides" "trusts" "[I" ∈ kx_T := kx_mem (List.mem_of_getElem? (i := 128) (by decide +kernel)) (by decide +kernel)
theorem kw_432 : Cond.selects "PrefetchRules$Strides" ⟨"PrefetchRules$Rule", "say", "(I)V"⟩ ⟨"PrefetchRules$Rule", "say", "(I)V"⟩ ∈ kx_T := kx_mem (List.mem_of_getElem? (i := 370) (by decide +kernel)) (by decide +kernel)
theorem kw_433 : Cond.laysFinal "PrefetchRules$Streams" "PrefetchRules$Rule" "degree" "I" ∈ kx_T := kx_mem (List.mem_of_getElem? (i := 152) (by decide +kernel)) (by decide +kernel)
theorem kw_434 : Cond.laysFinal "PrefetchRules$Streams" "PrefetchRules$Rule" "said" "[I" ∈ kx_T := kx_mem (List.mem_of_getElem? (i := 153) (by decide +kernel)) (by decide +kernel)
theorem kw_435 : Cond.lays "PrefetchRules$Streams" "PrefetchRules$Rule" "saidCount" "I" ∈ kx_T := kx_mem (List.mem_of_getElem? (i := 154) (by decide +kernel)) (by decide +kernel)
theorem kw_436 : Cond.laysFinal "PrefetchRules$Streams" "PrefetchRules$Streams" "lines" "[I" ∈ kx_T := kx_mem (List.mem_of_getElem? (i := 146) (by decide +kernel)) (by decide +kernel)
theorem kw_437 : Cond.laysFinal "PrefetchRules$Streams" "PrefetchRules$Streams" "ways" "[I" ∈ kx_T := kx_mem (List.mem_of_getElem? (i := 148) (by decide +kernel)) (by decide +kernel)
theorem kw_438 : Cond.lays "PrefetchRules$Streams" "PrefetchRules$Streams" "size" "I" ∈ kx_T := kx_mem (List.mem_of_getElem? (i := 150) (by decide +kernel)) (by decide +kernel)
theorem kw_439 : Cond.selects "PrefetchRules$Streams" ⟨"PrefetchRules$Rule", "say", "(I)V"⟩ ⟨"PrefetchRules$Rule", "say", "(I)V"⟩ ∈ kx_T := kx_mem (List.mem_of_getElem? (i := 369) (by decide +kernel)) (by decide +kernel)
theorem kw_440 : Cond.laysFinal "PrefetchRules$Offsets" "PrefetchRules$Rule" "degree" "I" ∈ kx_T := kx_mem (List.mem_of_getElem? (i := 186) (by decide +kernel)) (by decide +kernel)
theorem kw_441 : Cond.laysFinal "PrefetchRules$Offsets" "PrefetchRules$Rule" "said" "[I" ∈ kx_T := kx_mem (List.mem_of_getElem? (i := 187) (by decide +kernel)) (by decide +kernel)
theorem kw_442 : Cond.lays "PrefetchRules$Offsets" "PrefetchRules$Rule" "saidCount" "I" ∈ kx_T := kx_mem (List.mem_of_getElem? (i := 188) (by decide +kernel)) (by decide +kernel)
theorem kw_443 : Cond.laysFinal "PrefetchRules$Offsets" "PrefetchRules$Offsets" "recent" "[I" ∈ kx_T := kx_mem (List.mem_of_getElem? (i := 170) (by decide +kernel)) (by decide +kernel)
theorem kw_444 : Cond.lays "PrefetchRules$Offsets" "PrefetchRules$Offsets" "recentCount" "I" ∈ kx_T := kx_mem (List.mem_of_getElem? (i := 172) (by decide +kernel)) (by decide +kernel)
theorem kw_445 : Cond.lays "PrefetchRules$Offsets" "PrefetchRules$Offsets" "oldest" "I" ∈ kx_T := kx_mem (List.mem_of_getElem? (i := 174) (by decide +kernel)) (by decide +kernel)
theorem kw_446 : Cond.laysFinal "PrefetchRules$Offsets" "PrefetchRules$Offsets" "scores" "[I" ∈ kx_T := kx_mem (List.mem_of_getElem? (i := 176) (by decide +kernel)) (by decide +kernel)
theorem kw_447 : Cond.lays "PrefetchRules$Offsets" "PrefetchRules$Offsets" "turn" "I" ∈ kx_T := kx_mem (List.mem_of_getElem? (i := 178) (by decide +kernel)) (by decide +kernel)
theorem kw_448 : Cond.lays "PrefetchRules$Offsets" "PrefetchRules$Offsets" "tries" "I" ∈ kx_T := kx_mem (List.mem_of_getElem? (i := 180) (by decide +kernel)) (by decide +kernel)
theorem kw_449 : Cond.lays "PrefetchRules$Offsets" "PrefetchRules$Offsets" "offset" "I" ∈ kx_T := kx_mem (List.mem_of_getElem? (i := 182) (by decide +kernel)) (by decide +kernel)
theorem kw_450 : Cond.lays "PrefetchRules$Offsets" "PrefetchRules$Offsets" "rounds" "I" ∈ kx_T := kx_mem (List.mem_of_getElem? (i := 184) (by decide +kernel)) (by decide +kernel)
theorem kw_451 : Cond.selects "PrefetchRules$Offsets" ⟨"PrefetchRules$Rule", "say", "(I)V"⟩ ⟨"PrefetchRules$Rule", "say", "(I)V"⟩ ∈ kx_T := kx_mem (List.mem_of_getElem? (i := 367) (by decide +kernel)) (by decide +kernel)
theorem kw_452 : Cond.laysFinal "PrefetchRules$Pairs" "PrefetchRules$Rule" "degree" "I" ∈ kx_T := kx_mem (List.mem_of_getElem? (i := 217) (by decide +kernel)) (by decide +kernel)
theorem kw_453 : Cond.laysFinal "PrefetchRules$Pairs" "PrefetchRules$Rule" "said" "[I" ∈ kx_T := kx_mem (List.mem_of_getElem? (i := 218) (by decide +kernel)) (by decide +kernel)
theorem kw_454 : Cond.lays "PrefetchRules$Pairs" "PrefetchRules$Rule" "saidCount" "I" ∈ kx_T := kx_mem (List.mem_of_getElem? (i := 219) (by decide +kernel)) (by decide +kernel)
theorem kw_455 : Cond.laysFinal "PrefetchRules$Pairs" "PrefetchRules$Pairs" "taken" "[Z" ∈ kx_T := kx_mem (List.mem_of_getElem? (i := 203) (by decide +kernel)) (by decide +kernel)
theorem kw_456 : Cond.laysFinal "PrefetchRules$Pairs" "PrefetchRules$Pairs" "owners" "[I" ∈ kx_T := kx_mem (List.mem_of_getElem? (i := 205) (by decide +kernel)) (by decide +kernel)
theorem kw_457 : Cond.laysFinal "PrefetchRules$Pairs" "PrefetchRules$Pairs" "behind" "[I" ∈ kx_T := kx_mem (List.mem_of_getElem? (i := 207) (by decide +kernel)) (by decide +kernel)
theorem kw_458 : Cond.laysFinal "PrefetchRules$Pairs" "PrefetchRules$Pairs" "newer" "[I" ∈ kx_T := kx_mem (List.mem_of_getElem? (i := 209) (by decide +kernel)) (by decide +kernel)
theorem kw_459 : Cond.laysFinal "PrefetchRules$Pairs" "PrefetchRules$Pairs" "older" "[I" ∈ kx_T := kx_mem (List.mem_of_getElem? (i := 211) (by decide +kernel)) (by decide +kernel)
theorem kw_460 : Cond.lays "PrefetchRules$Pairs" "PrefetchRules$Pairs" "begun" "Z" ∈ kx_T := kx_mem (List.mem_of_getElem? (i := 213) (by decide +kernel)) (by decide +kernel)
theorem kw_461 : Cond.lays "PrefetchRules$Pairs" "PrefetchRules$Pairs" "before" "I" ∈ kx_T := kx_mem (List.mem_of_getElem? (i := 215) (by decide +kernel)) (by decide +kernel)
theorem kw_462 : Cond.selects "PrefetchRules$Pairs" ⟨"PrefetchRules$Rule", "say", "(I)V"⟩ ⟨"PrefetchRules$Rule", "say", "(I)V"⟩ ∈ kx_T := kx_mem (List.mem_of_getElem? (i := 368) (by decide +kernel)) (by decide +kernel)
theorem mi_Next_init : kx_mI y_Next_init b_Next_init 2 1 := ⟨kw_258, kw_259, kw_90, rfl, by decide +kernel⟩
theorem mi_Offsets_init : kx_mI y_Offsets_init b_Offsets_init 2 1 := ⟨kw_260, kw_261, kw_103, rfl, by decide +kernel⟩
theorem mi_Pairs_init : kx_mI y_Pairs_init b_Pairs_init 2 1 := ⟨kw_262, kw_263, kw_107, rfl, by decide +kernel⟩
theorem mi_Queue_init : kx_mI y_Queue_init b_Queue_init 1 0 := ⟨kw_264, kw_265, kw_181, rfl, by decide +kernel⟩
theorem mi_Rule_init : kx_mI y_Rule_init b_Rule_init 2 1 := ⟨kw_266, kw_267, kw_17, rfl, by decide +kernel⟩
theorem mi_Store_init : kx_mI y_Store_init b_Store_init 2 1 := ⟨kw_268, kw_269, kw_177, rfl, by decide +kernel⟩
theorem mi_Streams_init : kx_mI y_Streams_init b_Streams_init 2 1 := ⟨kw_270, kw_271, kw_99, rfl, by decide +kernel⟩
theorem mi_Strides_init : kx_mI y_Strides_init b_Strides_init 2 1 := ⟨kw_272, kw_273, kw_95, rfl, by decide +kernel⟩
theorem ms_Main_indexOf : kx_mS y_Main_indexOf b_Main_indexOf 4 (some .int) 3 := ⟨kw_274, kw_276, kw_275, by decide +kernel⟩
theorem ms_Main_oneTo : kx_mS y_Main_oneTo b_Main_oneTo 2 (some .int) 2 := ⟨kw_277, kw_278, kw_275, by decide +kernel⟩
theorem ms_Main_ruleOf : kx_mS y_Main_ruleOf b_Main_ruleOf 2 (some (.object "PrefetchRules$Rule")) 2 := ⟨kw_279, kw_280, kw_275, by decide +kernel⟩
theorem ms_Math_floorMod : kx_mS y_Math_floorMod b_Math_floorMod 3 (some .int) 2 := ⟨kw_281, kw_282, kw_30, by decide +kernel⟩
theorem ms_Pairs_rowOf : kx_mS y_Pairs_rowOf b_Pairs_rowOf 1 (some .int) 1 := ⟨kw_283, kw_284, kw_107, by decide +kernel⟩
theorem ms_Streams_wayTo : kx_mS y_Streams_wayTo b_Streams_wayTo 1 (some .int) 1 := ⟨kw_285, kw_286, kw_99, by decide +kernel⟩
theorem ms_Strides_rowOf : kx_mS y_Strides_rowOf b_Strides_rowOf 1 (some .int) 1 := ⟨kw_287, kw_288, kw_95, by decide +kernel⟩
theorem mv_Main_ask : kx_mV y_Main_ask b_Main_ask 4 (some .int) 1 := ⟨kw_289, kw_290, kw_291, kw_275, by decide +kernel⟩
theorem mv_Main_come : kx_mV y_Main_come b_Main_come 3 none 2 := ⟨kw_292, kw_293, kw_294, kw_275, by decide +kernel⟩
theorem mv_Main_fetch : kx_mV y_Main_fetch b_Main_fetch 2 none 1 := ⟨kw_295, kw_296, kw_297, kw_275, by decide +kernel⟩
theorem mv_Main_hit : kx_mV y_Main_hit b_Main_hit 2 none 1 := ⟨kw_298, kw_299, kw_300, kw_275, by decide +kernel⟩
theorem mv_Main_nextCycle : kx_mV y_Main_nextCycle b_Main_nextCycle 3 (some .int) 0 := ⟨kw_301, kw_302, kw_303, kw_275, by decide +kernel⟩
theorem mv_Offsets_endRound : kx_mV y_Offsets_endRound b_Offsets_endRound 3 none 0 := ⟨kw_304, kw_305, kw_306, kw_103, by decide +kernel⟩
theorem mv_Offsets_isRecent : kx_mV y_Offsets_isRecent b_Offsets_isRecent 2 (some .boolean) 1 := ⟨kw_307, kw_308, kw_309, kw_103, by decide +kernel⟩
theorem mv_Offsets_remember : kx_mV y_Offsets_remember b_Offsets_remember 2 none 1 := ⟨kw_310, kw_311, kw_312, kw_103, by decide +kernel⟩
theorem mv_Offsets_tryCandidate : kx_mV y_Offsets_tryCandidate b_Offsets_tryCandidate 2 none 1 := ⟨kw_313, kw_314, kw_315, kw_103, by decide +kernel⟩
theorem mv_Pairs_behindCount : kx_mV y_Pairs_behindCount b_Pairs_behindCount 3 (some .int) 1 := ⟨kw_316, kw_317, kw_318, kw_107, by decide +kernel⟩
theorem mv_Pairs_follow : kx_mV y_Pairs_follow b_Pairs_follow 4 none 2 := ⟨kw_319, kw_320, kw_321, kw_107, by decide +kernel⟩
theorem mv_Pairs_isOwn : kx_mV y_Pairs_isOwn b_Pairs_isOwn 3 (some .boolean) 2 := ⟨kw_322, kw_323, kw_324, kw_107, by decide +kernel⟩
theorem mv_Queue_add : kx_mV y_Queue_add b_Queue_add 3 none 2 := ⟨kw_325, kw_326, kw_327, kw_181, by decide +kernel⟩
theorem mv_Queue_clear : kx_mV y_Queue_clear b_Queue_clear 1 none 0 := ⟨kw_328, kw_329, kw_330, kw_181, by decide +kernel⟩
theorem mv_Queue_cycleAt : kx_mV y_Queue_cycleAt b_Queue_cycleAt 2 (some .int) 1 := ⟨kw_331, kw_332, kw_333, kw_181, by decide +kernel⟩
theorem mv_Queue_find : kx_mV y_Queue_find b_Queue_find 2 (some .int) 1 := ⟨kw_334, kw_335, kw_336, kw_181, by decide +kernel⟩
theorem mv_Queue_firstIsDue : kx_mV y_Queue_firstIsDue b_Queue_firstIsDue 2 (some .boolean) 1 := ⟨kw_337, kw_338, kw_339, kw_181, by decide +kernel⟩
theorem mv_Queue_isFull : kx_mV y_Queue_isFull b_Queue_isFull 1 (some .boolean) 0 := ⟨kw_340, kw_341, kw_342, kw_181, by decide +kernel⟩
theorem mv_Queue_lineAt : kx_mV y_Queue_lineAt b_Queue_lineAt 2 (some .int) 1 := ⟨kw_343, kw_344, kw_345, kw_181, by decide +kernel⟩
theorem mv_Queue_remove : kx_mV y_Queue_remove b_Queue_remove 3 none 1 := ⟨kw_346, kw_347, kw_348, kw_181, by decide +kernel⟩
theorem mv_Queue_size : kx_mV y_Queue_size b_Queue_size 1 (some .int) 0 := ⟨kw_349, kw_350, kw_351, kw_181, by decide +kernel⟩
theorem mv_Store_clearMarks : kx_mV y_Store_clearMarks b_Store_clearMarks 2 none 0 := ⟨kw_352, kw_353, kw_354, kw_177, by decide +kernel⟩
theorem mv_Store_dropLast : kx_mV y_Store_dropLast b_Store_dropLast 1 (some .boolean) 0 := ⟨kw_355, kw_356, kw_357, kw_177, by decide +kernel⟩
theorem mv_Store_find : kx_mV y_Store_find b_Store_find 2 (some .int) 1 := ⟨kw_358, kw_359, kw_360, kw_177, by decide +kernel⟩
theorem mv_Store_isFull : kx_mV y_Store_isFull b_Store_isFull 1 (some .boolean) 0 := ⟨kw_361, kw_362, kw_363, kw_177, by decide +kernel⟩
theorem mv_Store_isMarked : kx_mV y_Store_isMarked b_Store_isMarked 2 (some .boolean) 1 := ⟨kw_364, kw_365, kw_366, kw_177, by decide +kernel⟩
theorem mv_Store_lineAt : kx_mV y_Store_lineAt b_Store_lineAt 2 (some .int) 1 := ⟨kw_367, kw_368, kw_369, kw_177, by decide +kernel⟩
theorem mv_Store_markCount : kx_mV y_Store_markCount b_Store_markCount 3 (some .int) 0 := ⟨kw_370, kw_371, kw_372, kw_177, by decide +kernel⟩
theorem mv_Store_moveInFront : kx_mV y_Store_moveInFront b_Store_moveInFront 5 none 3 := ⟨kw_373, kw_374, kw_375, kw_177, by decide +kernel⟩
theorem mv_Store_putFirst : kx_mV y_Store_putFirst b_Store_putFirst 3 none 2 := ⟨kw_376, kw_377, kw_378, kw_177, by decide +kernel⟩
theorem mv_Store_size : kx_mV y_Store_size b_Store_size 1 (some .int) 0 := ⟨kw_379, kw_380, kw_381, kw_177, by decide +kernel⟩
theorem mv_Store_use : kx_mV y_Store_use b_Store_use 2 none 1 := ⟨kw_382, kw_383, kw_384, kw_177, by decide +kernel⟩
theorem mv_Streams_begin : kx_mV y_Streams_begin b_Streams_begin 2 none 1 := ⟨kw_385, kw_386, kw_387, kw_99, by decide +kernel⟩
theorem mv_Streams_moveInFront : kx_mV y_Streams_moveInFront b_Streams_moveInFront 5 none 3 := ⟨kw_388, kw_389, kw_390, kw_99, by decide +kernel⟩
theorem mv_Strides_begin : kx_mV y_Strides_begin b_Strides_begin 4 none 3 := ⟨kw_391, kw_392, kw_393, kw_95, by decide +kernel⟩
theorem mv_Strides_compare : kx_mV y_Strides_compare b_Strides_compare 3 none 2 := ⟨kw_394, kw_395, kw_396, kw_95, by decide +kernel⟩
theorem mv_Strides_isOwn : kx_mV y_Strides_isOwn b_Strides_isOwn 3 (some .boolean) 2 := ⟨kw_397, kw_398, kw_399, kw_95, by decide +kernel⟩
theorem iw_Main : ∀ w ∈ u_ws "PrefetchRules" F_Main 14, w ∈ kx_T := by
  show ∀ w ∈ ([Cond.laysFinal "PrefetchRules" "PrefetchRules" "latency" "I", Cond.laysFinal "PrefetchRules" "PrefetchRules" "store" "LPrefetchRules$Store;", Cond.laysFinal "PrefetchRules" "PrefetchRules" "queue" "LPrefetchRules$Queue;", Cond.laysFinal "PrefetchRules" "PrefetchRules" "rule" "LPrefetchRules$Rule;", Cond.lays "PrefetchRules" "PrefetchRules" "cycles" "I", Cond.lays "PrefetchRules" "PrefetchRules" "accesses" "I", Cond.lays "PrefetchRules" "PrefetchRules" "hits" "I", Cond.lays "PrefetchRules" "PrefetchRules" "late" "I", Cond.lays "PrefetchRules" "PrefetchRules" "misses" "I", Cond.lays "PrefetchRules" "PrefetchRules" "useful" "I", Cond.lays "PrefetchRules" "PrefetchRules" "useless" "I", Cond.lays "PrefetchRules" "PrefetchRules" "filtered" "I", Cond.lays "PrefetchRules" "PrefetchRules" "dropped" "I", Cond.lays "PrefetchRules" "PrefetchRules" "fetches" "I"] : List Cond), w ∈ kx_T
  exact kx_cons kw_400 (kx_cons kw_401 (kx_cons kw_402 (kx_cons kw_403 (kx_cons kw_404 (kx_cons kw_405 (kx_cons kw_406 (kx_cons kw_407 (kx_cons kw_408 (kx_cons kw_409 (kx_cons kw_410 (kx_cons kw_411 (kx_cons kw_412 (kx_cons kw_413 (fun _ h => absurd h List.not_mem_nil))))))))))))))
theorem kc_Main : kx_cls 0 "PrefetchRules" F_Main 14 t_Main := ⟨rfl, iw_Main, by decide +kernel, by decide +kernel⟩
theorem df_Main : ∀ j, j < 14 → defaultValue (t_Main j) = vp_V [.int 0, .null, .null, .null, .int 0, .int 0, .int 0, .int 0, .int 0, .int 0, .int 0, .int 0, .int 0, .int 0] j := fun j hj => by
  rcases (show j = 0 ∨ j = 1 ∨ j = 2 ∨ j = 3 ∨ j = 4 ∨ j = 5 ∨ j = 6 ∨ j = 7 ∨ j = 8 ∨ j = 9 ∨ j = 10 ∨ j = 11 ∨ j = 12 ∨ j = 13 by omega) with rfl | rfl | rfl | rfl | rfl | rfl | rfl | rfl | rfl | rfl | rfl | rfl | rfl | rfl <;> rfl
theorem iw_Store : ∀ w ∈ u_ws "PrefetchRules$Store" F_Store 3, w ∈ kx_T := by
  show ∀ w ∈ ([Cond.laysFinal "PrefetchRules$Store" "PrefetchRules$Store" "lines" "[I", Cond.laysFinal "PrefetchRules$Store" "PrefetchRules$Store" "marks" "[Z", Cond.lays "PrefetchRules$Store" "PrefetchRules$Store" "size" "I"] : List Cond), w ∈ kx_T
  exact kx_cons kw_414 (kx_cons kw_415 (kx_cons kw_416 (fun _ h => absurd h List.not_mem_nil)))
theorem kc_Store : kx_cls 1 "PrefetchRules$Store" F_Store 3 t_Store := ⟨rfl, iw_Store, by decide +kernel, by decide +kernel⟩
theorem df_Store : ∀ j, j < 3 → defaultValue (t_Store j) = vp_V [.null, .null, .int 0] j := fun j hj => by
  rcases (show j = 0 ∨ j = 1 ∨ j = 2 by omega) with rfl | rfl | rfl <;> rfl
theorem iw_Queue : ∀ w ∈ u_ws "PrefetchRules$Queue" F_Queue 3, w ∈ kx_T := by
  show ∀ w ∈ ([Cond.laysFinal "PrefetchRules$Queue" "PrefetchRules$Queue" "lines" "[I", Cond.laysFinal "PrefetchRules$Queue" "PrefetchRules$Queue" "cycles" "[I", Cond.lays "PrefetchRules$Queue" "PrefetchRules$Queue" "size" "I"] : List Cond), w ∈ kx_T
  exact kx_cons kw_417 (kx_cons kw_418 (kx_cons kw_419 (fun _ h => absurd h List.not_mem_nil)))
theorem kc_Queue : kx_cls 2 "PrefetchRules$Queue" F_Queue 3 t_Queue := ⟨rfl, iw_Queue, by decide +kernel, by decide +kernel⟩
theorem df_Queue : ∀ j, j < 3 → defaultValue (t_Queue j) = vp_V [.null, .null, .int 0] j := fun j hj => by
  rcases (show j = 0 ∨ j = 1 ∨ j = 2 by omega) with rfl | rfl | rfl <;> rfl
theorem iw_Next : ∀ w ∈ u_ws "PrefetchRules$Next" F_Next 3, w ∈ kx_T := by
  show ∀ w ∈ ([Cond.laysFinal "PrefetchRules$Next" "PrefetchRules$Rule" "degree" "I", Cond.laysFinal "PrefetchRules$Next" "PrefetchRules$Rule" "said" "[I", Cond.lays "PrefetchRules$Next" "PrefetchRules$Rule" "saidCount" "I"] : List Cond), w ∈ kx_T
  exact kx_cons kw_420 (kx_cons kw_421 (kx_cons kw_422 (fun _ h => absurd h List.not_mem_nil)))
theorem kc_Next : kx_cls 3 "PrefetchRules$Next" F_Next 3 t_Next := ⟨rfl, iw_Next, by decide +kernel, by decide +kernel⟩
theorem df_Next : ∀ j, j < 3 → defaultValue (t_Next j) = vp_V [.int 0, .null, .int 0] j := fun j hj => by
  rcases (show j = 0 ∨ j = 1 ∨ j = 2 by omega) with rfl | rfl | rfl <;> rfl
theorem kr_Next : kx_rule 3 "PrefetchRules$Next" F_Next 3 t_Next := ⟨kc_Next, by decide, rfl, rfl, rfl, rfl, rfl, rfl, kw_423⟩
theorem iw_Strides : ∀ w ∈ u_ws "PrefetchRules$Strides" F_Strides 8, w ∈ kx_T := by
  show ∀ w ∈ ([Cond.laysFinal "PrefetchRules$Strides" "PrefetchRules$Rule" "degree" "I", Cond.laysFinal "PrefetchRules$Strides" "PrefetchRules$Rule" "said" "[I", Cond.lays "PrefetchRules$Strides" "PrefetchRules$Rule" "saidCount" "I", Cond.laysFinal "PrefetchRules$Strides" "PrefetchRules$Strides" "taken" "[Z", Cond.laysFinal "PrefetchRules$Strides" "PrefetchRules$Strides" "places" "[I", Cond.laysFinal "PrefetchRules$Strides" "PrefetchRules$Strides" "lines" "[I", Cond.laysFinal "PrefetchRules$Strides" "PrefetchRules$Strides" "strides" "[I", Cond.laysFinal "PrefetchRules$Strides" "PrefetchRules$Strides" "trusts" "[I"] : List Cond), w ∈ kx_T
  exact kx_cons kw_424 (kx_cons kw_425 (kx_cons kw_426 (kx_cons kw_427 (kx_cons kw_428 (kx_cons kw_429 (kx_cons kw_430 (kx_cons kw_431 (fun _ h => absurd h List.not_mem_nil))))))))
theorem kc_Strides : kx_cls 4 "PrefetchRules$Strides" F_Strides 8 t_Strides := ⟨rfl, iw_Strides, by decide +kernel, by decide +kernel⟩
theorem df_Strides : ∀ j, j < 8 → defaultValue (t_Strides j) = vp_V [.int 0, .null, .int 0, .null, .null, .null, .null, .null] j := fun j hj => by
  rcases (show j = 0 ∨ j = 1 ∨ j = 2 ∨ j = 3 ∨ j = 4 ∨ j = 5 ∨ j = 6 ∨ j = 7 by omega) with rfl | rfl | rfl | rfl | rfl | rfl | rfl | rfl <;> rfl
theorem kr_Strides : kx_rule 4 "PrefetchRules$Strides" F_Strides 8 t_Strides := ⟨kc_Strides, by decide, rfl, rfl, rfl, rfl, rfl, rfl, kw_432⟩
theorem iw_Streams : ∀ w ∈ u_ws "PrefetchRules$Streams" F_Streams 6, w ∈ kx_T := by
  show ∀ w ∈ ([Cond.laysFinal "PrefetchRules$Streams" "PrefetchRules$Rule" "degree" "I", Cond.laysFinal "PrefetchRules$Streams" "PrefetchRules$Rule" "said" "[I", Cond.lays "PrefetchRules$Streams" "PrefetchRules$Rule" "saidCount" "I", Cond.laysFinal "PrefetchRules$Streams" "PrefetchRules$Streams" "lines" "[I", Cond.laysFinal "PrefetchRules$Streams" "PrefetchRules$Streams" "ways" "[I", Cond.lays "PrefetchRules$Streams" "PrefetchRules$Streams" "size" "I"] : List Cond), w ∈ kx_T
  exact kx_cons kw_433 (kx_cons kw_434 (kx_cons kw_435 (kx_cons kw_436 (kx_cons kw_437 (kx_cons kw_438 (fun _ h => absurd h List.not_mem_nil))))))
theorem kc_Streams : kx_cls 5 "PrefetchRules$Streams" F_Streams 6 t_Streams := ⟨rfl, iw_Streams, by decide +kernel, by decide +kernel⟩
theorem df_Streams : ∀ j, j < 6 → defaultValue (t_Streams j) = vp_V [.int 0, .null, .int 0, .null, .null, .int 0] j := fun j hj => by
  rcases (show j = 0 ∨ j = 1 ∨ j = 2 ∨ j = 3 ∨ j = 4 ∨ j = 5 by omega) with rfl | rfl | rfl | rfl | rfl | rfl <;> rfl
theorem kr_Streams : kx_rule 5 "PrefetchRules$Streams" F_Streams 6 t_Streams := ⟨kc_Streams, by decide, rfl, rfl, rfl, rfl, rfl, rfl, kw_439⟩
theorem iw_Offsets : ∀ w ∈ u_ws "PrefetchRules$Offsets" F_Offsets 11, w ∈ kx_T := by
  show ∀ w ∈ ([Cond.laysFinal "PrefetchRules$Offsets" "PrefetchRules$Rule" "degree" "I", Cond.laysFinal "PrefetchRules$Offsets" "PrefetchRules$Rule" "said" "[I", Cond.lays "PrefetchRules$Offsets" "PrefetchRules$Rule" "saidCount" "I", Cond.laysFinal "PrefetchRules$Offsets" "PrefetchRules$Offsets" "recent" "[I", Cond.lays "PrefetchRules$Offsets" "PrefetchRules$Offsets" "recentCount" "I", Cond.lays "PrefetchRules$Offsets" "PrefetchRules$Offsets" "oldest" "I", Cond.laysFinal "PrefetchRules$Offsets" "PrefetchRules$Offsets" "scores" "[I", Cond.lays "PrefetchRules$Offsets" "PrefetchRules$Offsets" "turn" "I", Cond.lays "PrefetchRules$Offsets" "PrefetchRules$Offsets" "tries" "I", Cond.lays "PrefetchRules$Offsets" "PrefetchRules$Offsets" "offset" "I", Cond.lays "PrefetchRules$Offsets" "PrefetchRules$Offsets" "rounds" "I"] : List Cond), w ∈ kx_T
  exact kx_cons kw_440 (kx_cons kw_441 (kx_cons kw_442 (kx_cons kw_443 (kx_cons kw_444 (kx_cons kw_445 (kx_cons kw_446 (kx_cons kw_447 (kx_cons kw_448 (kx_cons kw_449 (kx_cons kw_450 (fun _ h => absurd h List.not_mem_nil)))))))))))
theorem kc_Offsets : kx_cls 6 "PrefetchRules$Offsets" F_Offsets 11 t_Offsets := ⟨rfl, iw_Offsets, by decide +kernel, by decide +kernel⟩
theorem df_Offsets : ∀ j, j < 11 → defaultValue (t_Offsets j) = vp_V [.int 0, .null, .int 0, .null, .int 0, .int 0, .null, .int 0, .int 0, .int 0, .int 0] j := fun j hj => by
  rcases (show j = 0 ∨ j = 1 ∨ j = 2 ∨ j = 3 ∨ j = 4 ∨ j = 5 ∨ j = 6 ∨ j = 7 ∨ j = 8 ∨ j = 9 ∨ j = 10 by omega) with rfl | rfl | rfl | rfl | rfl | rfl | rfl | rfl | rfl | rfl | rfl <;> rfl
theorem kr_Offsets : kx_rule 6 "PrefetchRules$Offsets" F_Offsets 11 t_Offsets := ⟨kc_Offsets, by decide, rfl, rfl, rfl, rfl, rfl, rfl, kw_451⟩
theorem iw_Pairs : ∀ w ∈ u_ws "PrefetchRules$Pairs" F_Pairs 10, w ∈ kx_T := by
  show ∀ w ∈ ([Cond.laysFinal "PrefetchRules$Pairs" "PrefetchRules$Rule" "degree" "I", Cond.laysFinal "PrefetchRules$Pairs" "PrefetchRules$Rule" "said" "[I", Cond.lays "PrefetchRules$Pairs" "PrefetchRules$Rule" "saidCount" "I", Cond.laysFinal "PrefetchRules$Pairs" "PrefetchRules$Pairs" "taken" "[Z", Cond.laysFinal "PrefetchRules$Pairs" "PrefetchRules$Pairs" "owners" "[I", Cond.laysFinal "PrefetchRules$Pairs" "PrefetchRules$Pairs" "behind" "[I", Cond.laysFinal "PrefetchRules$Pairs" "PrefetchRules$Pairs" "newer" "[I", Cond.laysFinal "PrefetchRules$Pairs" "PrefetchRules$Pairs" "older" "[I", Cond.lays "PrefetchRules$Pairs" "PrefetchRules$Pairs" "begun" "Z", Cond.lays "PrefetchRules$Pairs" "PrefetchRules$Pairs" "before" "I"] : List Cond), w ∈ kx_T
  exact kx_cons kw_452 (kx_cons kw_453 (kx_cons kw_454 (kx_cons kw_455 (kx_cons kw_456 (kx_cons kw_457 (kx_cons kw_458 (kx_cons kw_459 (kx_cons kw_460 (kx_cons kw_461 (fun _ h => absurd h List.not_mem_nil))))))))))
theorem kc_Pairs : kx_cls 7 "PrefetchRules$Pairs" F_Pairs 10 t_Pairs := ⟨rfl, iw_Pairs, by decide +kernel, by decide +kernel⟩
theorem df_Pairs : ∀ j, j < 10 → defaultValue (t_Pairs j) = vp_V [.int 0, .null, .int 0, .null, .null, .null, .null, .null, .int 0, .int 0] j := fun j hj => by
  rcases (show j = 0 ∨ j = 1 ∨ j = 2 ∨ j = 3 ∨ j = 4 ∨ j = 5 ∨ j = 6 ∨ j = 7 ∨ j = 8 ∨ j = 9 by omega) with rfl | rfl | rfl | rfl | rfl | rfl | rfl | rfl | rfl | rfl <;> rfl
theorem kr_Pairs : kx_rule 7 "PrefetchRules$Pairs" F_Pairs 10 t_Pairs := ⟨kc_Pairs, by decide, rfl, rfl, rfl, rfl, rfl, rfl, kw_462⟩
end
section
theorem d_Store_init_0 : decode b_Store_init 0 = .ok (.aload_n 0, 1) := by decide +kernel
theorem d_Store_init_1 : decode b_Store_init 1 = .ok (.invokespecial 3, 3) := by decide +kernel
theorem d_Store_init_4 : decode b_Store_init 4 = .ok (.aload_n 0, 1) := by decide +kernel
theorem d_Store_init_5 : decode b_Store_init 5 = .ok (.iload_n 1, 1) := by decide +kernel
theorem d_Store_init_6 : decode b_Store_init 6 = .ok (.newarray .int, 2) := by decide +kernel
theorem d_Store_init_8 : decode b_Store_init 8 = .ok (.putfield 9, 3) := by decide +kernel
theorem d_Store_init_11 : decode b_Store_init 11 = .ok (.aload_n 0, 1) := by decide +kernel
theorem d_Store_init_12 : decode b_Store_init 12 = .ok (.iload_n 1, 1) := by decide +kernel
theorem d_Store_init_13 : decode b_Store_init 13 = .ok (.newarray .boolean, 2) := by decide +kernel
theorem d_Store_init_15 : decode b_Store_init 15 = .ok (.putfield 15, 3) := by decide +kernel
theorem d_Store_init_18 : decode b_Store_init 18 = .ok (.return_, 1) := by decide +kernel
theorem d_Store_clearMarks_0 : decode b_Store_clearMarks 0 = .ok (.iconst 0, 1) := by decide +kernel
theorem d_Store_clearMarks_1 : decode b_Store_clearMarks 1 = .ok (.istore_n 1, 1) := by decide +kernel
theorem d_Store_clearMarks_2 : decode b_Store_clearMarks 2 = .ok (.iload_n 1, 1) := by decide +kernel
theorem d_Store_clearMarks_3 : decode b_Store_clearMarks 3 = .ok (.aload_n 0, 1) := by decide +kernel
theorem d_Store_clearMarks_4 : decode b_Store_clearMarks 4 = .ok (.getfield 19, 3) := by decide +kernel
theorem d_Store_clearMarks_7 : decode b_Store_clearMarks 7 = .ok (.if_icmp .ge 16, 3) := by decide +kernel
theorem d_Store_clearMarks_10 : decode b_Store_clearMarks 10 = .ok (.aload_n 0, 1) := by decide +kernel
theorem d_Store_clearMarks_11 : decode b_Store_clearMarks 11 = .ok (.getfield 15, 3) := by decide +kernel
theorem d_Store_clearMarks_14 : decode b_Store_clearMarks 14 = .ok (.iload_n 1, 1) := by decide +kernel
theorem d_Store_clearMarks_15 : decode b_Store_clearMarks 15 = .ok (.iconst 0, 1) := by decide +kernel
theorem d_Store_clearMarks_16 : decode b_Store_clearMarks 16 = .ok (.bastore, 1) := by decide +kernel
theorem d_Store_clearMarks_17 : decode b_Store_clearMarks 17 = .ok (.iinc 1 1, 3) := by decide +kernel
theorem d_Store_clearMarks_20 : decode b_Store_clearMarks 20 = .ok (.goto (-18), 3) := by decide +kernel
theorem d_Store_clearMarks_23 : decode b_Store_clearMarks 23 = .ok (.return_, 1) := by decide +kernel
theorem d_Store_dropLast_0 : decode b_Store_dropLast 0 = .ok (.aload_n 0, 1) := by decide +kernel
theorem d_Store_dropLast_1 : decode b_Store_dropLast 1 = .ok (.getfield 19, 3) := by decide +kernel
theorem d_Store_dropLast_4 : decode b_Store_dropLast 4 = .ok (.iconst 1, 1) := by decide +kernel
theorem d_Store_dropLast_5 : decode b_Store_dropLast 5 = .ok (.if_icmp .ge 5, 3) := by decide +kernel
theorem d_Store_dropLast_8 : decode b_Store_dropLast 8 = .ok (.iconst 0, 1) := by decide +kernel
theorem d_Store_dropLast_9 : decode b_Store_dropLast 9 = .ok (.ireturn, 1) := by decide +kernel
theorem d_Store_dropLast_10 : decode b_Store_dropLast 10 = .ok (.aload_n 0, 1) := by decide +kernel
theorem d_Store_dropLast_11 : decode b_Store_dropLast 11 = .ok (.dup, 1) := by decide +kernel
theorem d_Store_dropLast_12 : decode b_Store_dropLast 12 = .ok (.getfield 19, 3) := by decide +kernel
theorem d_Store_dropLast_15 : decode b_Store_dropLast 15 = .ok (.iconst 1, 1) := by decide +kernel
theorem d_Store_dropLast_16 : decode b_Store_dropLast 16 = .ok (.isub, 1) := by decide +kernel
theorem d_Store_dropLast_17 : decode b_Store_dropLast 17 = .ok (.putfield 19, 3) := by decide +kernel
theorem d_Store_dropLast_20 : decode b_Store_dropLast 20 = .ok (.aload_n 0, 1) := by decide +kernel
theorem d_Store_dropLast_21 : decode b_Store_dropLast 21 = .ok (.getfield 15, 3) := by decide +kernel
theorem d_Store_dropLast_24 : decode b_Store_dropLast 24 = .ok (.aload_n 0, 1) := by decide +kernel
theorem d_Store_dropLast_25 : decode b_Store_dropLast 25 = .ok (.getfield 19, 3) := by decide +kernel
theorem d_Store_dropLast_28 : decode b_Store_dropLast 28 = .ok (.baload, 1) := by decide +kernel
theorem d_Store_dropLast_29 : decode b_Store_dropLast 29 = .ok (.ireturn, 1) := by decide +kernel
theorem d_Store_find_0 : decode b_Store_find 0 = .ok (.iload_n 1, 1) := by decide +kernel
theorem d_Store_find_1 : decode b_Store_find 1 = .ok (.aload_n 0, 1) := by decide +kernel
theorem d_Store_find_2 : decode b_Store_find 2 = .ok (.getfield 9, 3) := by decide +kernel
theorem d_Store_find_5 : decode b_Store_find 5 = .ok (.aload_n 0, 1) := by decide +kernel
theorem d_Store_find_6 : decode b_Store_find 6 = .ok (.getfield 19, 3) := by decide +kernel
theorem d_Store_find_9 : decode b_Store_find 9 = .ok (.invokestatic 23, 3) := by decide +kernel
theorem d_Store_find_12 : decode b_Store_find 12 = .ok (.ireturn, 1) := by decide +kernel
theorem d_Store_isFull_0 : decode b_Store_isFull 0 = .ok (.aload_n 0, 1) := by decide +kernel
theorem d_Store_isFull_1 : decode b_Store_isFull 1 = .ok (.getfield 19, 3) := by decide +kernel
theorem d_Store_isFull_4 : decode b_Store_isFull 4 = .ok (.aload_n 0, 1) := by decide +kernel
theorem d_Store_isFull_5 : decode b_Store_isFull 5 = .ok (.getfield 9, 3) := by decide +kernel
theorem d_Store_isFull_8 : decode b_Store_isFull 8 = .ok (.arraylength, 1) := by decide +kernel
theorem d_Store_isFull_9 : decode b_Store_isFull 9 = .ok (.if_icmp .lt 7, 3) := by decide +kernel
theorem d_Store_isFull_12 : decode b_Store_isFull 12 = .ok (.iconst 1, 1) := by decide +kernel
theorem d_Store_isFull_13 : decode b_Store_isFull 13 = .ok (.goto 4, 3) := by decide +kernel
theorem d_Store_isFull_16 : decode b_Store_isFull 16 = .ok (.iconst 0, 1) := by decide +kernel
theorem d_Store_isFull_17 : decode b_Store_isFull 17 = .ok (.ireturn, 1) := by decide +kernel
theorem d_Store_isMarked_0 : decode b_Store_isMarked 0 = .ok (.iload_n 1, 1) := by decide +kernel
theorem d_Store_isMarked_1 : decode b_Store_isMarked 1 = .ok (.ifCond .lt 24, 3) := by decide +kernel
theorem d_Store_isMarked_4 : decode b_Store_isMarked 4 = .ok (.iload_n 1, 1) := by decide +kernel
theorem d_Store_isMarked_5 : decode b_Store_isMarked 5 = .ok (.aload_n 0, 1) := by decide +kernel
theorem d_Store_isMarked_6 : decode b_Store_isMarked 6 = .ok (.getfield 19, 3) := by decide +kernel
theorem d_Store_isMarked_9 : decode b_Store_isMarked 9 = .ok (.if_icmp .ge 16, 3) := by decide +kernel
theorem d_Store_isMarked_12 : decode b_Store_isMarked 12 = .ok (.aload_n 0, 1) := by decide +kernel
theorem d_Store_isMarked_13 : decode b_Store_isMarked 13 = .ok (.getfield 15, 3) := by decide +kernel
theorem d_Store_isMarked_16 : decode b_Store_isMarked 16 = .ok (.iload_n 1, 1) := by decide +kernel
theorem d_Store_isMarked_17 : decode b_Store_isMarked 17 = .ok (.baload, 1) := by decide +kernel
theorem d_Store_isMarked_18 : decode b_Store_isMarked 18 = .ok (.ifCond .eq 7, 3) := by decide +kernel
theorem d_Store_isMarked_21 : decode b_Store_isMarked 21 = .ok (.iconst 1, 1) := by decide +kernel
theorem d_Store_isMarked_22 : decode b_Store_isMarked 22 = .ok (.goto 4, 3) := by decide +kernel
theorem d_Store_isMarked_25 : decode b_Store_isMarked 25 = .ok (.iconst 0, 1) := by decide +kernel
theorem d_Store_isMarked_26 : decode b_Store_isMarked 26 = .ok (.ireturn, 1) := by decide +kernel
theorem d_Store_lineAt_0 : decode b_Store_lineAt 0 = .ok (.iload_n 1, 1) := by decide +kernel
theorem d_Store_lineAt_1 : decode b_Store_lineAt 1 = .ok (.ifCond .lt 20, 3) := by decide +kernel
theorem d_Store_lineAt_4 : decode b_Store_lineAt 4 = .ok (.iload_n 1, 1) := by decide +kernel
theorem d_Store_lineAt_5 : decode b_Store_lineAt 5 = .ok (.aload_n 0, 1) := by decide +kernel
theorem d_Store_lineAt_6 : decode b_Store_lineAt 6 = .ok (.getfield 19, 3) := by decide +kernel
theorem d_Store_lineAt_9 : decode b_Store_lineAt 9 = .ok (.if_icmp .ge 12, 3) := by decide +kernel
theorem d_Store_lineAt_12 : decode b_Store_lineAt 12 = .ok (.aload_n 0, 1) := by decide +kernel
theorem d_Store_lineAt_13 : decode b_Store_lineAt 13 = .ok (.getfield 9, 3) := by decide +kernel
theorem d_Store_lineAt_16 : decode b_Store_lineAt 16 = .ok (.iload_n 1, 1) := by decide +kernel
theorem d_Store_lineAt_17 : decode b_Store_lineAt 17 = .ok (.iaload, 1) := by decide +kernel
theorem d_Store_lineAt_18 : decode b_Store_lineAt 18 = .ok (.goto 4, 3) := by decide +kernel
theorem d_Store_lineAt_21 : decode b_Store_lineAt 21 = .ok (.iconst (-1), 1) := by decide +kernel
theorem d_Store_lineAt_22 : decode b_Store_lineAt 22 = .ok (.ireturn, 1) := by decide +kernel
theorem d_Store_markCount_0 : decode b_Store_markCount 0 = .ok (.iconst 0, 1) := by decide +kernel
theorem d_Store_markCount_1 : decode b_Store_markCount 1 = .ok (.istore_n 1, 1) := by decide +kernel
theorem d_Store_markCount_2 : decode b_Store_markCount 2 = .ok (.iconst 0, 1) := by decide +kernel
theorem d_Store_markCount_3 : decode b_Store_markCount 3 = .ok (.istore_n 2, 1) := by decide +kernel
theorem d_Store_markCount_4 : decode b_Store_markCount 4 = .ok (.iload_n 2, 1) := by decide +kernel
theorem d_Store_markCount_5 : decode b_Store_markCount 5 = .ok (.aload_n 0, 1) := by decide +kernel
theorem d_Store_markCount_6 : decode b_Store_markCount 6 = .ok (.getfield 19, 3) := by decide +kernel
theorem d_Store_markCount_9 : decode b_Store_markCount 9 = .ok (.if_icmp .ge 21, 3) := by decide +kernel
theorem d_Store_markCount_12 : decode b_Store_markCount 12 = .ok (.aload_n 0, 1) := by decide +kernel
theorem d_Store_markCount_13 : decode b_Store_markCount 13 = .ok (.getfield 15, 3) := by decide +kernel
theorem d_Store_markCount_16 : decode b_Store_markCount 16 = .ok (.iload_n 2, 1) := by decide +kernel
theorem d_Store_markCount_17 : decode b_Store_markCount 17 = .ok (.baload, 1) := by decide +kernel
theorem d_Store_markCount_18 : decode b_Store_markCount 18 = .ok (.ifCond .eq 6, 3) := by decide +kernel
theorem d_Store_markCount_21 : decode b_Store_markCount 21 = .ok (.iinc 1 1, 3) := by decide +kernel
theorem d_Store_markCount_24 : decode b_Store_markCount 24 = .ok (.iinc 2 1, 3) := by decide +kernel
theorem d_Store_markCount_27 : decode b_Store_markCount 27 = .ok (.goto (-23), 3) := by decide +kernel
theorem d_Store_markCount_30 : decode b_Store_markCount 30 = .ok (.iload_n 1, 1) := by decide +kernel
theorem d_Store_markCount_31 : decode b_Store_markCount 31 = .ok (.ireturn, 1) := by decide +kernel
theorem d_Store_moveInFront_0 : decode b_Store_moveInFront 0 = .ok (.iload_n 1, 1) := by decide +kernel
theorem d_Store_moveInFront_1 : decode b_Store_moveInFront 1 = .ok (.istore 4, 2) := by decide +kernel
theorem d_Store_moveInFront_3 : decode b_Store_moveInFront 3 = .ok (.iload 4, 2) := by decide +kernel
theorem d_Store_moveInFront_5 : decode b_Store_moveInFront 5 = .ok (.ifCond .le 41, 3) := by decide +kernel
theorem d_Store_moveInFront_8 : decode b_Store_moveInFront 8 = .ok (.aload_n 0, 1) := by decide +kernel
theorem d_Store_moveInFront_9 : decode b_Store_moveInFront 9 = .ok (.getfield 9, 3) := by decide +kernel
theorem d_Store_moveInFront_12 : decode b_Store_moveInFront 12 = .ok (.iload 4, 2) := by decide +kernel
theorem d_Store_moveInFront_14 : decode b_Store_moveInFront 14 = .ok (.aload_n 0, 1) := by decide +kernel
theorem d_Store_moveInFront_15 : decode b_Store_moveInFront 15 = .ok (.getfield 9, 3) := by decide +kernel
theorem d_Store_moveInFront_18 : decode b_Store_moveInFront 18 = .ok (.iload 4, 2) := by decide +kernel
theorem d_Store_moveInFront_20 : decode b_Store_moveInFront 20 = .ok (.iconst 1, 1) := by decide +kernel
theorem d_Store_moveInFront_21 : decode b_Store_moveInFront 21 = .ok (.isub, 1) := by decide +kernel
theorem d_Store_moveInFront_22 : decode b_Store_moveInFront 22 = .ok (.iaload, 1) := by decide +kernel
theorem d_Store_moveInFront_23 : decode b_Store_moveInFront 23 = .ok (.iastore, 1) := by decide +kernel
theorem d_Store_moveInFront_24 : decode b_Store_moveInFront 24 = .ok (.aload_n 0, 1) := by decide +kernel
theorem d_Store_moveInFront_25 : decode b_Store_moveInFront 25 = .ok (.getfield 15, 3) := by decide +kernel
theorem d_Store_moveInFront_28 : decode b_Store_moveInFront 28 = .ok (.iload 4, 2) := by decide +kernel
theorem d_Store_moveInFront_30 : decode b_Store_moveInFront 30 = .ok (.aload_n 0, 1) := by decide +kernel
theorem d_Store_moveInFront_31 : decode b_Store_moveInFront 31 = .ok (.getfield 15, 3) := by decide +kernel
theorem d_Store_moveInFront_34 : decode b_Store_moveInFront 34 = .ok (.iload 4, 2) := by decide +kernel
theorem d_Store_moveInFront_36 : decode b_Store_moveInFront 36 = .ok (.iconst 1, 1) := by decide +kernel
theorem d_Store_moveInFront_37 : decode b_Store_moveInFront 37 = .ok (.isub, 1) := by decide +kernel
theorem d_Store_moveInFront_38 : decode b_Store_moveInFront 38 = .ok (.baload, 1) := by decide +kernel
theorem d_Store_moveInFront_39 : decode b_Store_moveInFront 39 = .ok (.bastore, 1) := by decide +kernel
theorem d_Store_moveInFront_40 : decode b_Store_moveInFront 40 = .ok (.iinc 4 (-1), 3) := by decide +kernel
theorem d_Store_moveInFront_43 : decode b_Store_moveInFront 43 = .ok (.goto (-40), 3) := by decide +kernel
theorem d_Store_moveInFront_46 : decode b_Store_moveInFront 46 = .ok (.aload_n 0, 1) := by decide +kernel
theorem d_Store_moveInFront_47 : decode b_Store_moveInFront 47 = .ok (.getfield 9, 3) := by decide +kernel
theorem d_Store_moveInFront_50 : decode b_Store_moveInFront 50 = .ok (.iconst 0, 1) := by decide +kernel
theorem d_Store_moveInFront_51 : decode b_Store_moveInFront 51 = .ok (.iload_n 2, 1) := by decide +kernel
theorem d_Store_moveInFront_52 : decode b_Store_moveInFront 52 = .ok (.iastore, 1) := by decide +kernel
theorem d_Store_moveInFront_53 : decode b_Store_moveInFront 53 = .ok (.aload_n 0, 1) := by decide +kernel
theorem d_Store_moveInFront_54 : decode b_Store_moveInFront 54 = .ok (.getfield 15, 3) := by decide +kernel
theorem d_Store_moveInFront_57 : decode b_Store_moveInFront 57 = .ok (.iconst 0, 1) := by decide +kernel
theorem d_Store_moveInFront_58 : decode b_Store_moveInFront 58 = .ok (.iload_n 3, 1) := by decide +kernel
theorem d_Store_moveInFront_59 : decode b_Store_moveInFront 59 = .ok (.bastore, 1) := by decide +kernel
theorem d_Store_moveInFront_60 : decode b_Store_moveInFront 60 = .ok (.return_, 1) := by decide +kernel
theorem d_Store_putFirst_0 : decode b_Store_putFirst 0 = .ok (.aload_n 0, 1) := by decide +kernel
theorem d_Store_putFirst_1 : decode b_Store_putFirst 1 = .ok (.getfield 19, 3) := by decide +kernel
theorem d_Store_putFirst_4 : decode b_Store_putFirst 4 = .ok (.aload_n 0, 1) := by decide +kernel
theorem d_Store_putFirst_5 : decode b_Store_putFirst 5 = .ok (.getfield 9, 3) := by decide +kernel
theorem d_Store_putFirst_8 : decode b_Store_putFirst 8 = .ok (.arraylength, 1) := by decide +kernel
theorem d_Store_putFirst_9 : decode b_Store_putFirst 9 = .ok (.if_icmp .ge 25, 3) := by decide +kernel
theorem d_Store_putFirst_12 : decode b_Store_putFirst 12 = .ok (.aload_n 0, 1) := by decide +kernel
theorem d_Store_putFirst_13 : decode b_Store_putFirst 13 = .ok (.dup, 1) := by decide +kernel
theorem d_Store_putFirst_14 : decode b_Store_putFirst 14 = .ok (.getfield 19, 3) := by decide +kernel
theorem d_Store_putFirst_17 : decode b_Store_putFirst 17 = .ok (.iconst 1, 1) := by decide +kernel
theorem d_Store_putFirst_18 : decode b_Store_putFirst 18 = .ok (.iadd, 1) := by decide +kernel
theorem d_Store_putFirst_19 : decode b_Store_putFirst 19 = .ok (.putfield 19, 3) := by decide +kernel
theorem d_Store_putFirst_22 : decode b_Store_putFirst 22 = .ok (.aload_n 0, 1) := by decide +kernel
theorem d_Store_putFirst_23 : decode b_Store_putFirst 23 = .ok (.aload_n 0, 1) := by decide +kernel
theorem d_Store_putFirst_24 : decode b_Store_putFirst 24 = .ok (.getfield 19, 3) := by decide +kernel
theorem d_Store_putFirst_27 : decode b_Store_putFirst 27 = .ok (.iconst 1, 1) := by decide +kernel
theorem d_Store_putFirst_28 : decode b_Store_putFirst 28 = .ok (.isub, 1) := by decide +kernel
theorem d_Store_putFirst_29 : decode b_Store_putFirst 29 = .ok (.iload_n 1, 1) := by decide +kernel
theorem d_Store_putFirst_30 : decode b_Store_putFirst 30 = .ok (.iload_n 2, 1) := by decide +kernel
theorem d_Store_putFirst_31 : decode b_Store_putFirst 31 = .ok (.invokevirtual 27, 3) := by decide +kernel
theorem d_Store_putFirst_34 : decode b_Store_putFirst 34 = .ok (.return_, 1) := by decide +kernel
theorem d_Store_size_0 : decode b_Store_size 0 = .ok (.aload_n 0, 1) := by decide +kernel
theorem d_Store_size_1 : decode b_Store_size 1 = .ok (.getfield 19, 3) := by decide +kernel
theorem d_Store_size_4 : decode b_Store_size 4 = .ok (.ireturn, 1) := by decide +kernel
theorem d_Store_use_0 : decode b_Store_use 0 = .ok (.iload_n 1, 1) := by decide +kernel
theorem d_Store_use_1 : decode b_Store_use 1 = .ok (.ifCond .lt 23, 3) := by decide +kernel
theorem d_Store_use_4 : decode b_Store_use 4 = .ok (.iload_n 1, 1) := by decide +kernel
theorem d_Store_use_5 : decode b_Store_use 5 = .ok (.aload_n 0, 1) := by decide +kernel
theorem d_Store_use_6 : decode b_Store_use 6 = .ok (.getfield 19, 3) := by decide +kernel
theorem d_Store_use_9 : decode b_Store_use 9 = .ok (.if_icmp .ge 15, 3) := by decide +kernel
theorem d_Store_use_12 : decode b_Store_use 12 = .ok (.aload_n 0, 1) := by decide +kernel
theorem d_Store_use_13 : decode b_Store_use 13 = .ok (.iload_n 1, 1) := by decide +kernel
theorem d_Store_use_14 : decode b_Store_use 14 = .ok (.aload_n 0, 1) := by decide +kernel
theorem d_Store_use_15 : decode b_Store_use 15 = .ok (.getfield 9, 3) := by decide +kernel
theorem d_Store_use_18 : decode b_Store_use 18 = .ok (.iload_n 1, 1) := by decide +kernel
theorem d_Store_use_19 : decode b_Store_use 19 = .ok (.iaload, 1) := by decide +kernel
theorem d_Store_use_20 : decode b_Store_use 20 = .ok (.iconst 0, 1) := by decide +kernel
theorem d_Store_use_21 : decode b_Store_use 21 = .ok (.invokevirtual 27, 3) := by decide +kernel
theorem d_Store_use_24 : decode b_Store_use 24 = .ok (.return_, 1) := by decide +kernel
theorem d_Queue_init_0 : decode b_Queue_init 0 = .ok (.aload_n 0, 1) := by decide +kernel
theorem d_Queue_init_1 : decode b_Queue_init 1 = .ok (.invokespecial 3, 3) := by decide +kernel
theorem d_Queue_init_4 : decode b_Queue_init 4 = .ok (.aload_n 0, 1) := by decide +kernel
theorem d_Queue_init_5 : decode b_Queue_init 5 = .ok (.bipush 8, 2) := by decide +kernel
theorem d_Queue_init_7 : decode b_Queue_init 7 = .ok (.newarray .int, 2) := by decide +kernel
theorem d_Queue_init_9 : decode b_Queue_init 9 = .ok (.putfield 11, 3) := by decide +kernel
theorem d_Queue_init_12 : decode b_Queue_init 12 = .ok (.aload_n 0, 1) := by decide +kernel
theorem d_Queue_init_13 : decode b_Queue_init 13 = .ok (.bipush 8, 2) := by decide +kernel
theorem d_Queue_init_15 : decode b_Queue_init 15 = .ok (.newarray .int, 2) := by decide +kernel
theorem d_Queue_init_17 : decode b_Queue_init 17 = .ok (.putfield 15, 3) := by decide +kernel
theorem d_Queue_init_20 : decode b_Queue_init 20 = .ok (.return_, 1) := by decide +kernel
theorem d_Queue_add_0 : decode b_Queue_add 0 = .ok (.aload_n 0, 1) := by decide +kernel
theorem d_Queue_add_1 : decode b_Queue_add 1 = .ok (.getfield 18, 3) := by decide +kernel
theorem d_Queue_add_4 : decode b_Queue_add 4 = .ok (.bipush 8, 2) := by decide +kernel
theorem d_Queue_add_6 : decode b_Queue_add 6 = .ok (.if_icmp .ge 33, 3) := by decide +kernel
theorem d_Queue_add_9 : decode b_Queue_add 9 = .ok (.aload_n 0, 1) := by decide +kernel
theorem d_Queue_add_10 : decode b_Queue_add 10 = .ok (.getfield 11, 3) := by decide +kernel
theorem d_Queue_add_13 : decode b_Queue_add 13 = .ok (.aload_n 0, 1) := by decide +kernel
theorem d_Queue_add_14 : decode b_Queue_add 14 = .ok (.getfield 18, 3) := by decide +kernel
theorem d_Queue_add_17 : decode b_Queue_add 17 = .ok (.iload_n 1, 1) := by decide +kernel
theorem d_Queue_add_18 : decode b_Queue_add 18 = .ok (.iastore, 1) := by decide +kernel
theorem d_Queue_add_19 : decode b_Queue_add 19 = .ok (.aload_n 0, 1) := by decide +kernel
theorem d_Queue_add_20 : decode b_Queue_add 20 = .ok (.getfield 15, 3) := by decide +kernel
theorem d_Queue_add_23 : decode b_Queue_add 23 = .ok (.aload_n 0, 1) := by decide +kernel
theorem d_Queue_add_24 : decode b_Queue_add 24 = .ok (.getfield 18, 3) := by decide +kernel
theorem d_Queue_add_27 : decode b_Queue_add 27 = .ok (.iload_n 2, 1) := by decide +kernel
theorem d_Queue_add_28 : decode b_Queue_add 28 = .ok (.iastore, 1) := by decide +kernel
theorem d_Queue_add_29 : decode b_Queue_add 29 = .ok (.aload_n 0, 1) := by decide +kernel
theorem d_Queue_add_30 : decode b_Queue_add 30 = .ok (.dup, 1) := by decide +kernel
theorem d_Queue_add_31 : decode b_Queue_add 31 = .ok (.getfield 18, 3) := by decide +kernel
theorem d_Queue_add_34 : decode b_Queue_add 34 = .ok (.iconst 1, 1) := by decide +kernel
theorem d_Queue_add_35 : decode b_Queue_add 35 = .ok (.iadd, 1) := by decide +kernel
theorem d_Queue_add_36 : decode b_Queue_add 36 = .ok (.putfield 18, 3) := by decide +kernel
theorem d_Queue_add_39 : decode b_Queue_add 39 = .ok (.return_, 1) := by decide +kernel
theorem d_Queue_clear_0 : decode b_Queue_clear 0 = .ok (.aload_n 0, 1) := by decide +kernel
theorem d_Queue_clear_1 : decode b_Queue_clear 1 = .ok (.iconst 0, 1) := by decide +kernel
theorem d_Queue_clear_2 : decode b_Queue_clear 2 = .ok (.putfield 18, 3) := by decide +kernel
theorem d_Queue_clear_5 : decode b_Queue_clear 5 = .ok (.return_, 1) := by decide +kernel
theorem d_Queue_cycleAt_0 : decode b_Queue_cycleAt 0 = .ok (.iload_n 1, 1) := by decide +kernel
theorem d_Queue_cycleAt_1 : decode b_Queue_cycleAt 1 = .ok (.ifCond .lt 20, 3) := by decide +kernel
theorem d_Queue_cycleAt_4 : decode b_Queue_cycleAt 4 = .ok (.iload_n 1, 1) := by decide +kernel
theorem d_Queue_cycleAt_5 : decode b_Queue_cycleAt 5 = .ok (.aload_n 0, 1) := by decide +kernel
theorem d_Queue_cycleAt_6 : decode b_Queue_cycleAt 6 = .ok (.getfield 18, 3) := by decide +kernel
theorem d_Queue_cycleAt_9 : decode b_Queue_cycleAt 9 = .ok (.if_icmp .ge 12, 3) := by decide +kernel
theorem d_Queue_cycleAt_12 : decode b_Queue_cycleAt 12 = .ok (.aload_n 0, 1) := by decide +kernel
theorem d_Queue_cycleAt_13 : decode b_Queue_cycleAt 13 = .ok (.getfield 15, 3) := by decide +kernel
theorem d_Queue_cycleAt_16 : decode b_Queue_cycleAt 16 = .ok (.iload_n 1, 1) := by decide +kernel
theorem d_Queue_cycleAt_17 : decode b_Queue_cycleAt 17 = .ok (.iaload, 1) := by decide +kernel
theorem d_Queue_cycleAt_18 : decode b_Queue_cycleAt 18 = .ok (.goto 4, 3) := by decide +kernel
theorem d_Queue_cycleAt_21 : decode b_Queue_cycleAt 21 = .ok (.iconst (-1), 1) := by decide +kernel
theorem d_Queue_cycleAt_22 : decode b_Queue_cycleAt 22 = .ok (.ireturn, 1) := by decide +kernel
theorem d_Queue_find_0 : decode b_Queue_find 0 = .ok (.iload_n 1, 1) := by decide +kernel
theorem d_Queue_find_1 : decode b_Queue_find 1 = .ok (.aload_n 0, 1) := by decide +kernel
theorem d_Queue_find_2 : decode b_Queue_find 2 = .ok (.getfield 11, 3) := by decide +kernel
theorem d_Queue_find_5 : decode b_Queue_find 5 = .ok (.aload_n 0, 1) := by decide +kernel
theorem d_Queue_find_6 : decode b_Queue_find 6 = .ok (.getfield 18, 3) := by decide +kernel
theorem d_Queue_find_9 : decode b_Queue_find 9 = .ok (.invokestatic 22, 3) := by decide +kernel
theorem d_Queue_find_12 : decode b_Queue_find 12 = .ok (.ireturn, 1) := by decide +kernel
theorem d_Queue_firstIsDue_0 : decode b_Queue_firstIsDue 0 = .ok (.aload_n 0, 1) := by decide +kernel
theorem d_Queue_firstIsDue_1 : decode b_Queue_firstIsDue 1 = .ok (.getfield 18, 3) := by decide +kernel
theorem d_Queue_firstIsDue_4 : decode b_Queue_firstIsDue 4 = .ok (.ifCond .le 17, 3) := by decide +kernel
theorem d_Queue_firstIsDue_7 : decode b_Queue_firstIsDue 7 = .ok (.aload_n 0, 1) := by decide +kernel
theorem d_Queue_firstIsDue_8 : decode b_Queue_firstIsDue 8 = .ok (.getfield 15, 3) := by decide +kernel
theorem d_Queue_firstIsDue_11 : decode b_Queue_firstIsDue 11 = .ok (.iconst 0, 1) := by decide +kernel
theorem d_Queue_firstIsDue_12 : decode b_Queue_firstIsDue 12 = .ok (.iaload, 1) := by decide +kernel
theorem d_Queue_firstIsDue_13 : decode b_Queue_firstIsDue 13 = .ok (.iload_n 1, 1) := by decide +kernel
theorem d_Queue_firstIsDue_14 : decode b_Queue_firstIsDue 14 = .ok (.if_icmp .gt 7, 3) := by decide +kernel
theorem d_Queue_firstIsDue_17 : decode b_Queue_firstIsDue 17 = .ok (.iconst 1, 1) := by decide +kernel
theorem d_Queue_firstIsDue_18 : decode b_Queue_firstIsDue 18 = .ok (.goto 4, 3) := by decide +kernel
theorem d_Queue_firstIsDue_21 : decode b_Queue_firstIsDue 21 = .ok (.iconst 0, 1) := by decide +kernel
theorem d_Queue_firstIsDue_22 : decode b_Queue_firstIsDue 22 = .ok (.ireturn, 1) := by decide +kernel
theorem d_Queue_isFull_0 : decode b_Queue_isFull 0 = .ok (.aload_n 0, 1) := by decide +kernel
theorem d_Queue_isFull_1 : decode b_Queue_isFull 1 = .ok (.getfield 18, 3) := by decide +kernel
theorem d_Queue_isFull_4 : decode b_Queue_isFull 4 = .ok (.bipush 8, 2) := by decide +kernel
theorem d_Queue_isFull_6 : decode b_Queue_isFull 6 = .ok (.if_icmp .lt 7, 3) := by decide +kernel
theorem d_Queue_isFull_9 : decode b_Queue_isFull 9 = .ok (.iconst 1, 1) := by decide +kernel
theorem d_Queue_isFull_10 : decode b_Queue_isFull 10 = .ok (.goto 4, 3) := by decide +kernel
theorem d_Queue_isFull_13 : decode b_Queue_isFull 13 = .ok (.iconst 0, 1) := by decide +kernel
theorem d_Queue_isFull_14 : decode b_Queue_isFull 14 = .ok (.ireturn, 1) := by decide +kernel
theorem d_Queue_lineAt_0 : decode b_Queue_lineAt 0 = .ok (.iload_n 1, 1) := by decide +kernel
theorem d_Queue_lineAt_1 : decode b_Queue_lineAt 1 = .ok (.ifCond .lt 20, 3) := by decide +kernel
theorem d_Queue_lineAt_4 : decode b_Queue_lineAt 4 = .ok (.iload_n 1, 1) := by decide +kernel
theorem d_Queue_lineAt_5 : decode b_Queue_lineAt 5 = .ok (.aload_n 0, 1) := by decide +kernel
theorem d_Queue_lineAt_6 : decode b_Queue_lineAt 6 = .ok (.getfield 18, 3) := by decide +kernel
theorem d_Queue_lineAt_9 : decode b_Queue_lineAt 9 = .ok (.if_icmp .ge 12, 3) := by decide +kernel
theorem d_Queue_lineAt_12 : decode b_Queue_lineAt 12 = .ok (.aload_n 0, 1) := by decide +kernel
theorem d_Queue_lineAt_13 : decode b_Queue_lineAt 13 = .ok (.getfield 11, 3) := by decide +kernel
theorem d_Queue_lineAt_16 : decode b_Queue_lineAt 16 = .ok (.iload_n 1, 1) := by decide +kernel
theorem d_Queue_lineAt_17 : decode b_Queue_lineAt 17 = .ok (.iaload, 1) := by decide +kernel
theorem d_Queue_lineAt_18 : decode b_Queue_lineAt 18 = .ok (.goto 4, 3) := by decide +kernel
theorem d_Queue_lineAt_21 : decode b_Queue_lineAt 21 = .ok (.iconst (-1), 1) := by decide +kernel
theorem d_Queue_lineAt_22 : decode b_Queue_lineAt 22 = .ok (.ireturn, 1) := by decide +kernel
theorem d_Queue_remove_0 : decode b_Queue_remove 0 = .ok (.iload_n 1, 1) := by decide +kernel
theorem d_Queue_remove_1 : decode b_Queue_remove 1 = .ok (.ifCond .lt 11, 3) := by decide +kernel
theorem d_Queue_remove_4 : decode b_Queue_remove 4 = .ok (.iload_n 1, 1) := by decide +kernel
theorem d_Queue_remove_5 : decode b_Queue_remove 5 = .ok (.aload_n 0, 1) := by decide +kernel
theorem d_Queue_remove_6 : decode b_Queue_remove 6 = .ok (.getfield 18, 3) := by decide +kernel
theorem d_Queue_remove_9 : decode b_Queue_remove 9 = .ok (.if_icmp .lt 4, 3) := by decide +kernel
theorem d_Queue_remove_12 : decode b_Queue_remove 12 = .ok (.return_, 1) := by decide +kernel
theorem d_Queue_remove_13 : decode b_Queue_remove 13 = .ok (.aload_n 0, 1) := by decide +kernel
theorem d_Queue_remove_14 : decode b_Queue_remove 14 = .ok (.dup, 1) := by decide +kernel
theorem d_Queue_remove_15 : decode b_Queue_remove 15 = .ok (.getfield 18, 3) := by decide +kernel
theorem d_Queue_remove_18 : decode b_Queue_remove 18 = .ok (.iconst 1, 1) := by decide +kernel
theorem d_Queue_remove_19 : decode b_Queue_remove 19 = .ok (.isub, 1) := by decide +kernel
theorem d_Queue_remove_20 : decode b_Queue_remove 20 = .ok (.putfield 18, 3) := by decide +kernel
theorem d_Queue_remove_23 : decode b_Queue_remove 23 = .ok (.iload_n 1, 1) := by decide +kernel
theorem d_Queue_remove_24 : decode b_Queue_remove 24 = .ok (.istore_n 2, 1) := by decide +kernel
theorem d_Queue_remove_25 : decode b_Queue_remove 25 = .ok (.iload_n 2, 1) := by decide +kernel
theorem d_Queue_remove_26 : decode b_Queue_remove 26 = .ok (.aload_n 0, 1) := by decide +kernel
theorem d_Queue_remove_27 : decode b_Queue_remove 27 = .ok (.getfield 18, 3) := by decide +kernel
theorem d_Queue_remove_30 : decode b_Queue_remove 30 = .ok (.if_icmp .ge 37, 3) := by decide +kernel
theorem d_Queue_remove_33 : decode b_Queue_remove 33 = .ok (.aload_n 0, 1) := by decide +kernel
theorem d_Queue_remove_34 : decode b_Queue_remove 34 = .ok (.getfield 11, 3) := by decide +kernel
theorem d_Queue_remove_37 : decode b_Queue_remove 37 = .ok (.iload_n 2, 1) := by decide +kernel
theorem d_Queue_remove_38 : decode b_Queue_remove 38 = .ok (.aload_n 0, 1) := by decide +kernel
theorem d_Queue_remove_39 : decode b_Queue_remove 39 = .ok (.getfield 11, 3) := by decide +kernel
theorem d_Queue_remove_42 : decode b_Queue_remove 42 = .ok (.iload_n 2, 1) := by decide +kernel
theorem d_Queue_remove_43 : decode b_Queue_remove 43 = .ok (.iconst 1, 1) := by decide +kernel
theorem d_Queue_remove_44 : decode b_Queue_remove 44 = .ok (.iadd, 1) := by decide +kernel
theorem d_Queue_remove_45 : decode b_Queue_remove 45 = .ok (.iaload, 1) := by decide +kernel
theorem d_Queue_remove_46 : decode b_Queue_remove 46 = .ok (.iastore, 1) := by decide +kernel
theorem d_Queue_remove_47 : decode b_Queue_remove 47 = .ok (.aload_n 0, 1) := by decide +kernel
theorem d_Queue_remove_48 : decode b_Queue_remove 48 = .ok (.getfield 15, 3) := by decide +kernel
theorem d_Queue_remove_51 : decode b_Queue_remove 51 = .ok (.iload_n 2, 1) := by decide +kernel
theorem d_Queue_remove_52 : decode b_Queue_remove 52 = .ok (.aload_n 0, 1) := by decide +kernel
theorem d_Queue_remove_53 : decode b_Queue_remove 53 = .ok (.getfield 15, 3) := by decide +kernel
theorem d_Queue_remove_56 : decode b_Queue_remove 56 = .ok (.iload_n 2, 1) := by decide +kernel
theorem d_Queue_remove_57 : decode b_Queue_remove 57 = .ok (.iconst 1, 1) := by decide +kernel
theorem d_Queue_remove_58 : decode b_Queue_remove 58 = .ok (.iadd, 1) := by decide +kernel
theorem d_Queue_remove_59 : decode b_Queue_remove 59 = .ok (.iaload, 1) := by decide +kernel
theorem d_Queue_remove_60 : decode b_Queue_remove 60 = .ok (.iastore, 1) := by decide +kernel
theorem d_Queue_remove_61 : decode b_Queue_remove 61 = .ok (.iinc 2 1, 3) := by decide +kernel
theorem d_Queue_remove_64 : decode b_Queue_remove 64 = .ok (.goto (-39), 3) := by decide +kernel
theorem d_Queue_remove_67 : decode b_Queue_remove 67 = .ok (.return_, 1) := by decide +kernel
theorem d_Queue_size_0 : decode b_Queue_size 0 = .ok (.aload_n 0, 1) := by decide +kernel
theorem d_Queue_size_1 : decode b_Queue_size 1 = .ok (.getfield 18, 3) := by decide +kernel
theorem d_Queue_size_4 : decode b_Queue_size 4 = .ok (.ireturn, 1) := by decide +kernel
theorem d_Rule_init_0 : decode b_Rule_init 0 = .ok (.aload_n 0, 1) := by decide +kernel
theorem d_Rule_init_1 : decode b_Rule_init 1 = .ok (.invokespecial 3, 3) := by decide +kernel
theorem d_Rule_init_4 : decode b_Rule_init 4 = .ok (.aload_n 0, 1) := by decide +kernel
theorem d_Rule_init_5 : decode b_Rule_init 5 = .ok (.iconst 4, 1) := by decide +kernel
theorem d_Rule_init_6 : decode b_Rule_init 6 = .ok (.newarray .int, 2) := by decide +kernel
theorem d_Rule_init_8 : decode b_Rule_init 8 = .ok (.putfield 9, 3) := by decide +kernel
theorem d_Rule_init_11 : decode b_Rule_init 11 = .ok (.aload_n 0, 1) := by decide +kernel
theorem d_Rule_init_12 : decode b_Rule_init 12 = .ok (.iload_n 1, 1) := by decide +kernel
theorem d_Rule_init_13 : decode b_Rule_init 13 = .ok (.putfield 15, 3) := by decide +kernel
theorem d_Rule_init_16 : decode b_Rule_init 16 = .ok (.return_, 1) := by decide +kernel
theorem d_Rule_degree_0 : decode b_Rule_degree 0 = .ok (.aload_n 0, 1) := by decide +kernel
theorem d_Rule_degree_1 : decode b_Rule_degree 1 = .ok (.getfield 15, 3) := by decide +kernel
theorem d_Rule_degree_4 : decode b_Rule_degree 4 = .ok (.ireturn, 1) := by decide +kernel
theorem d_Rule_hear_0 : decode b_Rule_hear 0 = .ok (.aload_n 0, 1) := by decide +kernel
theorem d_Rule_hear_1 : decode b_Rule_hear 1 = .ok (.iconst 0, 1) := by decide +kernel
theorem d_Rule_hear_2 : decode b_Rule_hear 2 = .ok (.putfield 19, 3) := by decide +kernel
theorem d_Rule_hear_5 : decode b_Rule_hear 5 = .ok (.aload_n 0, 1) := by decide +kernel
theorem d_Rule_hear_6 : decode b_Rule_hear 6 = .ok (.iload_n 1, 1) := by decide +kernel
theorem d_Rule_hear_7 : decode b_Rule_hear 7 = .ok (.iload_n 2, 1) := by decide +kernel
theorem d_Rule_hear_8 : decode b_Rule_hear 8 = .ok (.invokevirtual 22, 3) := by decide +kernel
theorem d_Rule_hear_11 : decode b_Rule_hear 11 = .ok (.return_, 1) := by decide +kernel
theorem d_Rule_roundCount_0 : decode b_Rule_roundCount 0 = .ok (.iconst 0, 1) := by decide +kernel
theorem d_Rule_roundCount_1 : decode b_Rule_roundCount 1 = .ok (.ireturn, 1) := by decide +kernel
theorem d_Rule_saidCount_0 : decode b_Rule_saidCount 0 = .ok (.aload_n 0, 1) := by decide +kernel
theorem d_Rule_saidCount_1 : decode b_Rule_saidCount 1 = .ok (.getfield 19, 3) := by decide +kernel
theorem d_Rule_saidCount_4 : decode b_Rule_saidCount 4 = .ok (.ireturn, 1) := by decide +kernel
theorem d_Rule_saidLine_0 : decode b_Rule_saidLine 0 = .ok (.iload_n 1, 1) := by decide +kernel
theorem d_Rule_saidLine_1 : decode b_Rule_saidLine 1 = .ok (.ifCond .lt 20, 3) := by decide +kernel
theorem d_Rule_saidLine_4 : decode b_Rule_saidLine 4 = .ok (.iload_n 1, 1) := by decide +kernel
theorem d_Rule_saidLine_5 : decode b_Rule_saidLine 5 = .ok (.aload_n 0, 1) := by decide +kernel
theorem d_Rule_saidLine_6 : decode b_Rule_saidLine 6 = .ok (.getfield 19, 3) := by decide +kernel
theorem d_Rule_saidLine_9 : decode b_Rule_saidLine 9 = .ok (.if_icmp .ge 12, 3) := by decide +kernel
theorem d_Rule_saidLine_12 : decode b_Rule_saidLine 12 = .ok (.aload_n 0, 1) := by decide +kernel
theorem d_Rule_saidLine_13 : decode b_Rule_saidLine 13 = .ok (.getfield 9, 3) := by decide +kernel
theorem d_Rule_saidLine_16 : decode b_Rule_saidLine 16 = .ok (.iload_n 1, 1) := by decide +kernel
theorem d_Rule_saidLine_17 : decode b_Rule_saidLine 17 = .ok (.iaload, 1) := by decide +kernel
theorem d_Rule_saidLine_18 : decode b_Rule_saidLine 18 = .ok (.goto 4, 3) := by decide +kernel
theorem d_Rule_saidLine_21 : decode b_Rule_saidLine 21 = .ok (.iconst (-1), 1) := by decide +kernel
theorem d_Rule_saidLine_22 : decode b_Rule_saidLine 22 = .ok (.ireturn, 1) := by decide +kernel
theorem d_Rule_say_0 : decode b_Rule_say 0 = .ok (.aload_n 0, 1) := by decide +kernel
theorem d_Rule_say_1 : decode b_Rule_say 1 = .ok (.getfield 19, 3) := by decide +kernel
theorem d_Rule_say_4 : decode b_Rule_say 4 = .ok (.aload_n 0, 1) := by decide +kernel
theorem d_Rule_say_5 : decode b_Rule_say 5 = .ok (.getfield 9, 3) := by decide +kernel
theorem d_Rule_say_8 : decode b_Rule_say 8 = .ok (.arraylength, 1) := by decide +kernel
theorem d_Rule_say_9 : decode b_Rule_say 9 = .ok (.if_icmp .ge 23, 3) := by decide +kernel
theorem d_Rule_say_12 : decode b_Rule_say 12 = .ok (.aload_n 0, 1) := by decide +kernel
theorem d_Rule_say_13 : decode b_Rule_say 13 = .ok (.getfield 9, 3) := by decide +kernel
theorem d_Rule_say_16 : decode b_Rule_say 16 = .ok (.aload_n 0, 1) := by decide +kernel
theorem d_Rule_say_17 : decode b_Rule_say 17 = .ok (.getfield 19, 3) := by decide +kernel
theorem d_Rule_say_20 : decode b_Rule_say 20 = .ok (.iload_n 1, 1) := by decide +kernel
theorem d_Rule_say_21 : decode b_Rule_say 21 = .ok (.iastore, 1) := by decide +kernel
theorem d_Rule_say_22 : decode b_Rule_say 22 = .ok (.aload_n 0, 1) := by decide +kernel
theorem d_Rule_say_23 : decode b_Rule_say 23 = .ok (.dup, 1) := by decide +kernel
theorem d_Rule_say_24 : decode b_Rule_say 24 = .ok (.getfield 19, 3) := by decide +kernel
theorem d_Rule_say_27 : decode b_Rule_say 27 = .ok (.iconst 1, 1) := by decide +kernel
theorem d_Rule_say_28 : decode b_Rule_say 28 = .ok (.iadd, 1) := by decide +kernel
theorem d_Rule_say_29 : decode b_Rule_say 29 = .ok (.putfield 19, 3) := by decide +kernel
theorem d_Rule_say_32 : decode b_Rule_say 32 = .ok (.return_, 1) := by decide +kernel
theorem d_Rule_sayInSteps_0 : decode b_Rule_sayInSteps 0 = .ok (.iconst 1, 1) := by decide +kernel
theorem d_Rule_sayInSteps_1 : decode b_Rule_sayInSteps 1 = .ok (.istore_n 3, 1) := by decide +kernel
theorem d_Rule_sayInSteps_2 : decode b_Rule_sayInSteps 2 = .ok (.iload_n 3, 1) := by decide +kernel
theorem d_Rule_sayInSteps_3 : decode b_Rule_sayInSteps 3 = .ok (.aload_n 0, 1) := by decide +kernel
theorem d_Rule_sayInSteps_4 : decode b_Rule_sayInSteps 4 = .ok (.getfield 15, 3) := by decide +kernel
theorem d_Rule_sayInSteps_7 : decode b_Rule_sayInSteps 7 = .ok (.if_icmp .gt 18, 3) := by decide +kernel
theorem d_Rule_sayInSteps_10 : decode b_Rule_sayInSteps 10 = .ok (.aload_n 0, 1) := by decide +kernel
theorem d_Rule_sayInSteps_11 : decode b_Rule_sayInSteps 11 = .ok (.iload_n 1, 1) := by decide +kernel
theorem d_Rule_sayInSteps_12 : decode b_Rule_sayInSteps 12 = .ok (.iload_n 3, 1) := by decide +kernel
theorem d_Rule_sayInSteps_13 : decode b_Rule_sayInSteps 13 = .ok (.iload_n 2, 1) := by decide +kernel
theorem d_Rule_sayInSteps_14 : decode b_Rule_sayInSteps 14 = .ok (.imul, 1) := by decide +kernel
theorem d_Rule_sayInSteps_15 : decode b_Rule_sayInSteps 15 = .ok (.iadd, 1) := by decide +kernel
theorem d_Rule_sayInSteps_16 : decode b_Rule_sayInSteps 16 = .ok (.invokevirtual 26, 3) := by decide +kernel
theorem d_Rule_sayInSteps_19 : decode b_Rule_sayInSteps 19 = .ok (.iinc 3 1, 3) := by decide +kernel
theorem d_Rule_sayInSteps_22 : decode b_Rule_sayInSteps 22 = .ok (.goto (-20), 3) := by decide +kernel
theorem d_Rule_sayInSteps_25 : decode b_Rule_sayInSteps 25 = .ok (.return_, 1) := by decide +kernel
theorem d_Next_init_0 : decode b_Next_init 0 = .ok (.aload_n 0, 1) := by decide +kernel
theorem d_Next_init_1 : decode b_Next_init 1 = .ok (.iload_n 1, 1) := by decide +kernel
theorem d_Next_init_2 : decode b_Next_init 2 = .ok (.invokespecial 1, 3) := by decide +kernel
theorem d_Next_init_5 : decode b_Next_init 5 = .ok (.return_, 1) := by decide +kernel
theorem d_Next_confidence_0 : decode b_Next_confidence 0 = .ok (.iconst 0, 1) := by decide +kernel
theorem d_Next_confidence_1 : decode b_Next_confidence 1 = .ok (.ireturn, 1) := by decide +kernel
theorem d_Next_knowledge_0 : decode b_Next_knowledge 0 = .ok (.iconst 0, 1) := by decide +kernel
theorem d_Next_knowledge_1 : decode b_Next_knowledge 1 = .ok (.ireturn, 1) := by decide +kernel
theorem d_Next_learn_0 : decode b_Next_learn 0 = .ok (.aload_n 0, 1) := by decide +kernel
theorem d_Next_learn_1 : decode b_Next_learn 1 = .ok (.iload_n 2, 1) := by decide +kernel
theorem d_Next_learn_2 : decode b_Next_learn 2 = .ok (.iconst 1, 1) := by decide +kernel
theorem d_Next_learn_3 : decode b_Next_learn 3 = .ok (.invokevirtual 7, 3) := by decide +kernel
theorem d_Next_learn_6 : decode b_Next_learn 6 = .ok (.return_, 1) := by decide +kernel
theorem d_Strides_init_0 : decode b_Strides_init 0 = .ok (.aload_n 0, 1) := by decide +kernel
theorem d_Strides_init_1 : decode b_Strides_init 1 = .ok (.iload_n 1, 1) := by decide +kernel
theorem d_Strides_init_2 : decode b_Strides_init 2 = .ok (.invokespecial 1, 3) := by decide +kernel
theorem d_Strides_init_5 : decode b_Strides_init 5 = .ok (.aload_n 0, 1) := by decide +kernel
theorem d_Strides_init_6 : decode b_Strides_init 6 = .ok (.bipush 16, 2) := by decide +kernel
theorem d_Strides_init_8 : decode b_Strides_init 8 = .ok (.newarray .boolean, 2) := by decide +kernel
theorem d_Strides_init_10 : decode b_Strides_init 10 = .ok (.putfield 9, 3) := by decide +kernel
theorem d_Strides_init_13 : decode b_Strides_init 13 = .ok (.aload_n 0, 1) := by decide +kernel
theorem d_Strides_init_14 : decode b_Strides_init 14 = .ok (.bipush 16, 2) := by decide +kernel
theorem d_Strides_init_16 : decode b_Strides_init 16 = .ok (.newarray .int, 2) := by decide +kernel
theorem d_Strides_init_18 : decode b_Strides_init 18 = .ok (.putfield 13, 3) := by decide +kernel
theorem d_Strides_init_21 : decode b_Strides_init 21 = .ok (.aload_n 0, 1) := by decide +kernel
theorem d_Strides_init_22 : decode b_Strides_init 22 = .ok (.bipush 16, 2) := by decide +kernel
theorem d_Strides_init_24 : decode b_Strides_init 24 = .ok (.newarray .int, 2) := by decide +kernel
theorem d_Strides_init_26 : decode b_Strides_init 26 = .ok (.putfield 17, 3) := by decide +kernel
theorem d_Strides_init_29 : decode b_Strides_init 29 = .ok (.aload_n 0, 1) := by decide +kernel
theorem d_Strides_init_30 : decode b_Strides_init 30 = .ok (.bipush 16, 2) := by decide +kernel
theorem d_Strides_init_32 : decode b_Strides_init 32 = .ok (.newarray .int, 2) := by decide +kernel
theorem d_Strides_init_34 : decode b_Strides_init 34 = .ok (.putfield 20, 3) := by decide +kernel
theorem d_Strides_init_37 : decode b_Strides_init 37 = .ok (.aload_n 0, 1) := by decide +kernel
theorem d_Strides_init_38 : decode b_Strides_init 38 = .ok (.bipush 16, 2) := by decide +kernel
theorem d_Strides_init_40 : decode b_Strides_init 40 = .ok (.newarray .int, 2) := by decide +kernel
theorem d_Strides_init_42 : decode b_Strides_init 42 = .ok (.putfield 23, 3) := by decide +kernel
theorem d_Strides_init_45 : decode b_Strides_init 45 = .ok (.return_, 1) := by decide +kernel
theorem d_Strides_begin_0 : decode b_Strides_begin 0 = .ok (.aload_n 0, 1) := by decide +kernel
theorem d_Strides_begin_1 : decode b_Strides_begin 1 = .ok (.getfield 9, 3) := by decide +kernel
theorem d_Strides_begin_4 : decode b_Strides_begin 4 = .ok (.iload_n 1, 1) := by decide +kernel
theorem d_Strides_begin_5 : decode b_Strides_begin 5 = .ok (.iconst 1, 1) := by decide +kernel
theorem d_Strides_begin_6 : decode b_Strides_begin 6 = .ok (.bastore, 1) := by decide +kernel
theorem d_Strides_begin_7 : decode b_Strides_begin 7 = .ok (.aload_n 0, 1) := by decide +kernel
theorem d_Strides_begin_8 : decode b_Strides_begin 8 = .ok (.getfield 13, 3) := by decide +kernel
theorem d_Strides_begin_11 : decode b_Strides_begin 11 = .ok (.iload_n 1, 1) := by decide +kernel
theorem d_Strides_begin_12 : decode b_Strides_begin 12 = .ok (.iload_n 2, 1) := by decide +kernel
theorem d_Strides_begin_13 : decode b_Strides_begin 13 = .ok (.iastore, 1) := by decide +kernel
theorem d_Strides_begin_14 : decode b_Strides_begin 14 = .ok (.aload_n 0, 1) := by decide +kernel
theorem d_Strides_begin_15 : decode b_Strides_begin 15 = .ok (.getfield 17, 3) := by decide +kernel
theorem d_Strides_begin_18 : decode b_Strides_begin 18 = .ok (.iload_n 1, 1) := by decide +kernel
theorem d_Strides_begin_19 : decode b_Strides_begin 19 = .ok (.iload_n 3, 1) := by decide +kernel
theorem d_Strides_begin_20 : decode b_Strides_begin 20 = .ok (.iastore, 1) := by decide +kernel
theorem d_Strides_begin_21 : decode b_Strides_begin 21 = .ok (.aload_n 0, 1) := by decide +kernel
theorem d_Strides_begin_22 : decode b_Strides_begin 22 = .ok (.getfield 20, 3) := by decide +kernel
theorem d_Strides_begin_25 : decode b_Strides_begin 25 = .ok (.iload_n 1, 1) := by decide +kernel
theorem d_Strides_begin_26 : decode b_Strides_begin 26 = .ok (.iconst 0, 1) := by decide +kernel
theorem d_Strides_begin_27 : decode b_Strides_begin 27 = .ok (.iastore, 1) := by decide +kernel
theorem d_Strides_begin_28 : decode b_Strides_begin 28 = .ok (.aload_n 0, 1) := by decide +kernel
theorem d_Strides_begin_29 : decode b_Strides_begin 29 = .ok (.getfield 23, 3) := by decide +kernel
theorem d_Strides_begin_32 : decode b_Strides_begin 32 = .ok (.iload_n 1, 1) := by decide +kernel
theorem d_Strides_begin_33 : decode b_Strides_begin 33 = .ok (.iconst 0, 1) := by decide +kernel
theorem d_Strides_begin_34 : decode b_Strides_begin 34 = .ok (.iastore, 1) := by decide +kernel
theorem d_Strides_begin_35 : decode b_Strides_begin 35 = .ok (.return_, 1) := by decide +kernel
theorem d_Strides_compare_0 : decode b_Strides_compare 0 = .ok (.iload_n 2, 1) := by decide +kernel
theorem d_Strides_compare_1 : decode b_Strides_compare 1 = .ok (.aload_n 0, 1) := by decide +kernel
theorem d_Strides_compare_2 : decode b_Strides_compare 2 = .ok (.getfield 20, 3) := by decide +kernel
theorem d_Strides_compare_5 : decode b_Strides_compare 5 = .ok (.iload_n 1, 1) := by decide +kernel
theorem d_Strides_compare_6 : decode b_Strides_compare 6 = .ok (.iaload, 1) := by decide +kernel
theorem d_Strides_compare_7 : decode b_Strides_compare 7 = .ok (.if_icmp .ne 24, 3) := by decide +kernel
theorem d_Strides_compare_10 : decode b_Strides_compare 10 = .ok (.aload_n 0, 1) := by decide +kernel
theorem d_Strides_compare_11 : decode b_Strides_compare 11 = .ok (.getfield 23, 3) := by decide +kernel
theorem d_Strides_compare_14 : decode b_Strides_compare 14 = .ok (.iload_n 1, 1) := by decide +kernel
theorem d_Strides_compare_15 : decode b_Strides_compare 15 = .ok (.iconst 3, 1) := by decide +kernel
theorem d_Strides_compare_16 : decode b_Strides_compare 16 = .ok (.aload_n 0, 1) := by decide +kernel
theorem d_Strides_compare_17 : decode b_Strides_compare 17 = .ok (.getfield 23, 3) := by decide +kernel
theorem d_Strides_compare_20 : decode b_Strides_compare 20 = .ok (.iload_n 1, 1) := by decide +kernel
theorem d_Strides_compare_21 : decode b_Strides_compare 21 = .ok (.iaload, 1) := by decide +kernel
theorem d_Strides_compare_22 : decode b_Strides_compare 22 = .ok (.iconst 1, 1) := by decide +kernel
theorem d_Strides_compare_23 : decode b_Strides_compare 23 = .ok (.iadd, 1) := by decide +kernel
theorem d_Strides_compare_24 : decode b_Strides_compare 24 = .ok (.invokestatic 45, 3) := by decide +kernel
theorem d_Strides_compare_27 : decode b_Strides_compare 27 = .ok (.iastore, 1) := by decide +kernel
theorem d_Strides_compare_28 : decode b_Strides_compare 28 = .ok (.goto 32, 3) := by decide +kernel
theorem d_Strides_compare_31 : decode b_Strides_compare 31 = .ok (.aload_n 0, 1) := by decide +kernel
theorem d_Strides_compare_32 : decode b_Strides_compare 32 = .ok (.getfield 23, 3) := by decide +kernel
theorem d_Strides_compare_35 : decode b_Strides_compare 35 = .ok (.iload_n 1, 1) := by decide +kernel
theorem d_Strides_compare_36 : decode b_Strides_compare 36 = .ok (.iaload, 1) := by decide +kernel
theorem d_Strides_compare_37 : decode b_Strides_compare 37 = .ok (.ifCond .le 16, 3) := by decide +kernel
theorem d_Strides_compare_40 : decode b_Strides_compare 40 = .ok (.aload_n 0, 1) := by decide +kernel
theorem d_Strides_compare_41 : decode b_Strides_compare 41 = .ok (.getfield 23, 3) := by decide +kernel
theorem d_Strides_compare_44 : decode b_Strides_compare 44 = .ok (.iload_n 1, 1) := by decide +kernel
theorem d_Strides_compare_45 : decode b_Strides_compare 45 = .ok (.dup2, 1) := by decide +kernel
theorem d_Strides_compare_46 : decode b_Strides_compare 46 = .ok (.iaload, 1) := by decide +kernel
theorem d_Strides_compare_47 : decode b_Strides_compare 47 = .ok (.iconst 1, 1) := by decide +kernel
theorem d_Strides_compare_48 : decode b_Strides_compare 48 = .ok (.isub, 1) := by decide +kernel
theorem d_Strides_compare_49 : decode b_Strides_compare 49 = .ok (.iastore, 1) := by decide +kernel
theorem d_Strides_compare_50 : decode b_Strides_compare 50 = .ok (.goto 10, 3) := by decide +kernel
theorem d_Strides_compare_53 : decode b_Strides_compare 53 = .ok (.aload_n 0, 1) := by decide +kernel
theorem d_Strides_compare_54 : decode b_Strides_compare 54 = .ok (.getfield 20, 3) := by decide +kernel
theorem d_Strides_compare_57 : decode b_Strides_compare 57 = .ok (.iload_n 1, 1) := by decide +kernel
theorem d_Strides_compare_58 : decode b_Strides_compare 58 = .ok (.iload_n 2, 1) := by decide +kernel
theorem d_Strides_compare_59 : decode b_Strides_compare 59 = .ok (.iastore, 1) := by decide +kernel
theorem d_Strides_compare_60 : decode b_Strides_compare 60 = .ok (.return_, 1) := by decide +kernel
theorem d_Strides_confidence_0 : decode b_Strides_confidence 0 = .ok (.iload_n 1, 1) := by decide +kernel
theorem d_Strides_confidence_1 : decode b_Strides_confidence 1 = .ok (.invokestatic 26, 3) := by decide +kernel
theorem d_Strides_confidence_4 : decode b_Strides_confidence 4 = .ok (.istore_n 2, 1) := by decide +kernel
theorem d_Strides_confidence_5 : decode b_Strides_confidence 5 = .ok (.aload_n 0, 1) := by decide +kernel
theorem d_Strides_confidence_6 : decode b_Strides_confidence 6 = .ok (.iload_n 2, 1) := by decide +kernel
theorem d_Strides_confidence_7 : decode b_Strides_confidence 7 = .ok (.iload_n 1, 1) := by decide +kernel
theorem d_Strides_confidence_8 : decode b_Strides_confidence 8 = .ok (.invokevirtual 30, 3) := by decide +kernel
theorem d_Strides_confidence_11 : decode b_Strides_confidence 11 = .ok (.ifCond .eq 12, 3) := by decide +kernel
theorem d_Strides_confidence_14 : decode b_Strides_confidence 14 = .ok (.aload_n 0, 1) := by decide +kernel
theorem d_Strides_confidence_15 : decode b_Strides_confidence 15 = .ok (.getfield 23, 3) := by decide +kernel
theorem d_Strides_confidence_18 : decode b_Strides_confidence 18 = .ok (.iload_n 2, 1) := by decide +kernel
theorem d_Strides_confidence_19 : decode b_Strides_confidence 19 = .ok (.iaload, 1) := by decide +kernel
theorem d_Strides_confidence_20 : decode b_Strides_confidence 20 = .ok (.goto 4, 3) := by decide +kernel
theorem d_Strides_confidence_23 : decode b_Strides_confidence 23 = .ok (.iconst 0, 1) := by decide +kernel
theorem d_Strides_confidence_24 : decode b_Strides_confidence 24 = .ok (.ireturn, 1) := by decide +kernel
theorem d_Strides_isOwn_0 : decode b_Strides_isOwn 0 = .ok (.aload_n 0, 1) := by decide +kernel
theorem d_Strides_isOwn_1 : decode b_Strides_isOwn 1 = .ok (.getfield 9, 3) := by decide +kernel
theorem d_Strides_isOwn_4 : decode b_Strides_isOwn 4 = .ok (.iload_n 1, 1) := by decide +kernel
theorem d_Strides_isOwn_5 : decode b_Strides_isOwn 5 = .ok (.baload, 1) := by decide +kernel
theorem d_Strides_isOwn_6 : decode b_Strides_isOwn 6 = .ok (.ifCond .eq 17, 3) := by decide +kernel
theorem d_Strides_isOwn_9 : decode b_Strides_isOwn 9 = .ok (.aload_n 0, 1) := by decide +kernel
theorem d_Strides_isOwn_10 : decode b_Strides_isOwn 10 = .ok (.getfield 13, 3) := by decide +kernel
theorem d_Strides_isOwn_13 : decode b_Strides_isOwn 13 = .ok (.iload_n 1, 1) := by decide +kernel
theorem d_Strides_isOwn_14 : decode b_Strides_isOwn 14 = .ok (.iaload, 1) := by decide +kernel
theorem d_Strides_isOwn_15 : decode b_Strides_isOwn 15 = .ok (.iload_n 2, 1) := by decide +kernel
theorem d_Strides_isOwn_16 : decode b_Strides_isOwn 16 = .ok (.if_icmp .ne 7, 3) := by decide +kernel
theorem d_Strides_isOwn_19 : decode b_Strides_isOwn 19 = .ok (.iconst 1, 1) := by decide +kernel
theorem d_Strides_isOwn_20 : decode b_Strides_isOwn 20 = .ok (.goto 4, 3) := by decide +kernel
theorem d_Strides_isOwn_23 : decode b_Strides_isOwn 23 = .ok (.iconst 0, 1) := by decide +kernel
theorem d_Strides_isOwn_24 : decode b_Strides_isOwn 24 = .ok (.ireturn, 1) := by decide +kernel
theorem d_Strides_knowledge_0 : decode b_Strides_knowledge 0 = .ok (.iload_n 1, 1) := by decide +kernel
theorem d_Strides_knowledge_1 : decode b_Strides_knowledge 1 = .ok (.invokestatic 26, 3) := by decide +kernel
theorem d_Strides_knowledge_4 : decode b_Strides_knowledge 4 = .ok (.istore_n 2, 1) := by decide +kernel
theorem d_Strides_knowledge_5 : decode b_Strides_knowledge 5 = .ok (.aload_n 0, 1) := by decide +kernel
theorem d_Strides_knowledge_6 : decode b_Strides_knowledge 6 = .ok (.iload_n 2, 1) := by decide +kernel
theorem d_Strides_knowledge_7 : decode b_Strides_knowledge 7 = .ok (.iload_n 1, 1) := by decide +kernel
theorem d_Strides_knowledge_8 : decode b_Strides_knowledge 8 = .ok (.invokevirtual 30, 3) := by decide +kernel
theorem d_Strides_knowledge_11 : decode b_Strides_knowledge 11 = .ok (.ifCond .eq 12, 3) := by decide +kernel
theorem d_Strides_knowledge_14 : decode b_Strides_knowledge 14 = .ok (.aload_n 0, 1) := by decide +kernel
theorem d_Strides_knowledge_15 : decode b_Strides_knowledge 15 = .ok (.getfield 20, 3) := by decide +kernel
theorem d_Strides_knowledge_18 : decode b_Strides_knowledge 18 = .ok (.iload_n 2, 1) := by decide +kernel
theorem d_Strides_knowledge_19 : decode b_Strides_knowledge 19 = .ok (.iaload, 1) := by decide +kernel
theorem d_Strides_knowledge_20 : decode b_Strides_knowledge 20 = .ok (.goto 4, 3) := by decide +kernel
theorem d_Strides_knowledge_23 : decode b_Strides_knowledge 23 = .ok (.iconst 0, 1) := by decide +kernel
theorem d_Strides_knowledge_24 : decode b_Strides_knowledge 24 = .ok (.ireturn, 1) := by decide +kernel
theorem d_Strides_learn_0 : decode b_Strides_learn 0 = .ok (.iload_n 1, 1) := by decide +kernel
theorem d_Strides_learn_1 : decode b_Strides_learn 1 = .ok (.invokestatic 26, 3) := by decide +kernel
theorem d_Strides_learn_4 : decode b_Strides_learn 4 = .ok (.istore_n 3, 1) := by decide +kernel
theorem d_Strides_learn_5 : decode b_Strides_learn 5 = .ok (.aload_n 0, 1) := by decide +kernel
theorem d_Strides_learn_6 : decode b_Strides_learn 6 = .ok (.iload_n 3, 1) := by decide +kernel
theorem d_Strides_learn_7 : decode b_Strides_learn 7 = .ok (.iload_n 1, 1) := by decide +kernel
theorem d_Strides_learn_8 : decode b_Strides_learn 8 = .ok (.invokevirtual 30, 3) := by decide +kernel
theorem d_Strides_learn_11 : decode b_Strides_learn 11 = .ok (.ifCond .ne 11, 3) := by decide +kernel
theorem d_Strides_learn_14 : decode b_Strides_learn 14 = .ok (.aload_n 0, 1) := by decide +kernel
theorem d_Strides_learn_15 : decode b_Strides_learn 15 = .ok (.iload_n 3, 1) := by decide +kernel
theorem d_Strides_learn_16 : decode b_Strides_learn 16 = .ok (.iload_n 1, 1) := by decide +kernel
theorem d_Strides_learn_17 : decode b_Strides_learn 17 = .ok (.iload_n 2, 1) := by decide +kernel
theorem d_Strides_learn_18 : decode b_Strides_learn 18 = .ok (.invokevirtual 34, 3) := by decide +kernel
theorem d_Strides_learn_21 : decode b_Strides_learn 21 = .ok (.return_, 1) := by decide +kernel
theorem d_Strides_learn_22 : decode b_Strides_learn 22 = .ok (.aload_n 0, 1) := by decide +kernel
theorem d_Strides_learn_23 : decode b_Strides_learn 23 = .ok (.iload_n 3, 1) := by decide +kernel
theorem d_Strides_learn_24 : decode b_Strides_learn 24 = .ok (.iload_n 2, 1) := by decide +kernel
theorem d_Strides_learn_25 : decode b_Strides_learn 25 = .ok (.aload_n 0, 1) := by decide +kernel
theorem d_Strides_learn_26 : decode b_Strides_learn 26 = .ok (.getfield 17, 3) := by decide +kernel
theorem d_Strides_learn_29 : decode b_Strides_learn 29 = .ok (.iload_n 3, 1) := by decide +kernel
theorem d_Strides_learn_30 : decode b_Strides_learn 30 = .ok (.iaload, 1) := by decide +kernel
theorem d_Strides_learn_31 : decode b_Strides_learn 31 = .ok (.isub, 1) := by decide +kernel
theorem d_Strides_learn_32 : decode b_Strides_learn 32 = .ok (.invokevirtual 38, 3) := by decide +kernel
theorem d_Strides_learn_35 : decode b_Strides_learn 35 = .ok (.aload_n 0, 1) := by decide +kernel
theorem d_Strides_learn_36 : decode b_Strides_learn 36 = .ok (.getfield 17, 3) := by decide +kernel
theorem d_Strides_learn_39 : decode b_Strides_learn 39 = .ok (.iload_n 3, 1) := by decide +kernel
theorem d_Strides_learn_40 : decode b_Strides_learn 40 = .ok (.iload_n 2, 1) := by decide +kernel
theorem d_Strides_learn_41 : decode b_Strides_learn 41 = .ok (.iastore, 1) := by decide +kernel
theorem d_Strides_learn_42 : decode b_Strides_learn 42 = .ok (.aload_n 0, 1) := by decide +kernel
theorem d_Strides_learn_43 : decode b_Strides_learn 43 = .ok (.getfield 23, 3) := by decide +kernel
theorem d_Strides_learn_46 : decode b_Strides_learn 46 = .ok (.iload_n 3, 1) := by decide +kernel
theorem d_Strides_learn_47 : decode b_Strides_learn 47 = .ok (.iaload, 1) := by decide +kernel
theorem d_Strides_learn_48 : decode b_Strides_learn 48 = .ok (.iconst 2, 1) := by decide +kernel
theorem d_Strides_learn_49 : decode b_Strides_learn 49 = .ok (.if_icmp .lt 23, 3) := by decide +kernel
theorem d_Strides_learn_52 : decode b_Strides_learn 52 = .ok (.aload_n 0, 1) := by decide +kernel
theorem d_Strides_learn_53 : decode b_Strides_learn 53 = .ok (.getfield 20, 3) := by decide +kernel
theorem d_Strides_learn_56 : decode b_Strides_learn 56 = .ok (.iload_n 3, 1) := by decide +kernel
theorem d_Strides_learn_57 : decode b_Strides_learn 57 = .ok (.iaload, 1) := by decide +kernel
theorem d_Strides_learn_58 : decode b_Strides_learn 58 = .ok (.ifCond .eq 14, 3) := by decide +kernel
theorem d_Strides_learn_61 : decode b_Strides_learn 61 = .ok (.aload_n 0, 1) := by decide +kernel
theorem d_Strides_learn_62 : decode b_Strides_learn 62 = .ok (.iload_n 2, 1) := by decide +kernel
theorem d_Strides_learn_63 : decode b_Strides_learn 63 = .ok (.aload_n 0, 1) := by decide +kernel
theorem d_Strides_learn_64 : decode b_Strides_learn 64 = .ok (.getfield 20, 3) := by decide +kernel
theorem d_Strides_learn_67 : decode b_Strides_learn 67 = .ok (.iload_n 3, 1) := by decide +kernel
theorem d_Strides_learn_68 : decode b_Strides_learn 68 = .ok (.iaload, 1) := by decide +kernel
theorem d_Strides_learn_69 : decode b_Strides_learn 69 = .ok (.invokevirtual 42, 3) := by decide +kernel
theorem d_Strides_learn_72 : decode b_Strides_learn 72 = .ok (.return_, 1) := by decide +kernel
theorem d_Strides_rowOf_0 : decode b_Strides_rowOf 0 = .ok (.iload_n 0, 1) := by decide +kernel
theorem d_Strides_rowOf_1 : decode b_Strides_rowOf 1 = .ok (.bipush 15, 2) := by decide +kernel
theorem d_Strides_rowOf_3 : decode b_Strides_rowOf 3 = .ok (.iand, 1) := by decide +kernel
theorem d_Strides_rowOf_4 : decode b_Strides_rowOf 4 = .ok (.ireturn, 1) := by decide +kernel
theorem d_Math_floorMod_0 : decode b_Math_floorMod 0 = .ok (.iload_n 0, 1) := by decide +kernel
theorem d_Math_floorMod_1 : decode b_Math_floorMod 1 = .ok (.iload_n 1, 1) := by decide +kernel
theorem d_Math_floorMod_2 : decode b_Math_floorMod 2 = .ok (.irem, 1) := by decide +kernel
theorem d_Math_floorMod_3 : decode b_Math_floorMod 3 = .ok (.istore_n 2, 1) := by decide +kernel
theorem d_Math_floorMod_4 : decode b_Math_floorMod 4 = .ok (.iload_n 0, 1) := by decide +kernel
theorem d_Math_floorMod_5 : decode b_Math_floorMod 5 = .ok (.iload_n 1, 1) := by decide +kernel
theorem d_Math_floorMod_6 : decode b_Math_floorMod 6 = .ok (.ixor, 1) := by decide +kernel
theorem d_Math_floorMod_7 : decode b_Math_floorMod 7 = .ok (.ifCond .ge 11, 3) := by decide +kernel
theorem d_Math_floorMod_10 : decode b_Math_floorMod 10 = .ok (.iload_n 2, 1) := by decide +kernel
theorem d_Math_floorMod_11 : decode b_Math_floorMod 11 = .ok (.ifCond .eq 7, 3) := by decide +kernel
theorem d_Math_floorMod_14 : decode b_Math_floorMod 14 = .ok (.iload_n 2, 1) := by decide +kernel
theorem d_Math_floorMod_15 : decode b_Math_floorMod 15 = .ok (.iload_n 1, 1) := by decide +kernel
theorem d_Math_floorMod_16 : decode b_Math_floorMod 16 = .ok (.iadd, 1) := by decide +kernel
theorem d_Math_floorMod_17 : decode b_Math_floorMod 17 = .ok (.ireturn, 1) := by decide +kernel
theorem d_Math_floorMod_18 : decode b_Math_floorMod 18 = .ok (.iload_n 2, 1) := by decide +kernel
theorem d_Math_floorMod_19 : decode b_Math_floorMod 19 = .ok (.ireturn, 1) := by decide +kernel
end
