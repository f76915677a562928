section
-- ===== PART A: goes FIRST, ahead of the names: the tables' words, and 'selects' of the private methods out of them =====
/-- a private method of a class that the tables say can be made, by its rows of tables_1 -/
def lw_okq (q : MethodName × Nat) : Prop := (q.1.cls ≠ "java/lang/invoke/MethodHandle" ∧ q.1.cls ≠ "java/lang/invoke/VarHandle") ∧ Cond.instantiable q.1.cls q.2 ∈ tables_1 ∧ Cond.privateMethod q.1 ∈ tables_1 ∧ Cond.instanceMethod q.1 ∈ tables_1
theorem lw_p0 : lw_okq (⟨"PrefetchRules", "nextCycle", "()I"⟩, 14) := ⟨⟨by decide +kernel, by decide +kernel⟩, List.mem_of_getElem? (i := 18) (by decide +kernel), List.mem_of_getElem? (i := 244) (by decide +kernel), List.mem_of_getElem? (i := 245) (by decide +kernel)⟩
theorem lw_p1 : lw_okq (⟨"PrefetchRules", "come", "(IZ)V"⟩, 14) := ⟨⟨by decide +kernel, by decide +kernel⟩, List.mem_of_getElem? (i := 18) (by decide +kernel), List.mem_of_getElem? (i := 256) (by decide +kernel), List.mem_of_getElem? (i := 257) (by decide +kernel)⟩
theorem lw_p2 : lw_okq (⟨"PrefetchRules$Store", "moveInFront", "(IIZ)V"⟩, 3) := ⟨⟨by decide +kernel, by decide +kernel⟩, List.mem_of_getElem? (i := 32) (by decide +kernel), List.mem_of_getElem? (i := 272) (by decide +kernel), List.mem_of_getElem? (i := 273) (by decide +kernel)⟩
theorem lw_p3 : lw_okq (⟨"PrefetchRules", "ask", "(I)I"⟩, 14) := ⟨⟨by decide +kernel, by decide +kernel⟩, List.mem_of_getElem? (i := 18) (by decide +kernel), List.mem_of_getElem? (i := 280) (by decide +kernel), List.mem_of_getElem? (i := 281) (by decide +kernel)⟩
theorem lw_p4 : lw_okq (⟨"PrefetchRules", "hit", "(I)V"⟩, 14) := ⟨⟨by decide +kernel, by decide +kernel⟩, List.mem_of_getElem? (i := 18) (by decide +kernel), List.mem_of_getElem? (i := 291) (by decide +kernel), List.mem_of_getElem? (i := 292) (by decide +kernel)⟩
theorem lw_p5 : lw_okq (⟨"PrefetchRules$Offsets", "tryCandidate", "(I)V"⟩, 11) := ⟨⟨by decide +kernel, by decide +kernel⟩, List.mem_of_getElem? (i := 122) (by decide +kernel), List.mem_of_getElem? (i := 341) (by decide +kernel), List.mem_of_getElem? (i := 342) (by decide +kernel)⟩
theorem lw_p6 : lw_okq (⟨"PrefetchRules$Offsets", "isRecent", "(I)Z"⟩, 11) := ⟨⟨by decide +kernel, by decide +kernel⟩, List.mem_of_getElem? (i := 122) (by decide +kernel), List.mem_of_getElem? (i := 347) (by decide +kernel), List.mem_of_getElem? (i := 348) (by decide +kernel)⟩
theorem lw_p7 : lw_okq (⟨"PrefetchRules$Offsets", "endRound", "()V"⟩, 11) := ⟨⟨by decide +kernel, by decide +kernel⟩, List.mem_of_getElem? (i := 122) (by decide +kernel), List.mem_of_getElem? (i := 352) (by decide +kernel), List.mem_of_getElem? (i := 353) (by decide +kernel)⟩
theorem lw_p8 : lw_okq (⟨"PrefetchRules$Offsets", "remember", "(I)V"⟩, 11) := ⟨⟨by decide +kernel, by decide +kernel⟩, List.mem_of_getElem? (i := 122) (by decide +kernel), List.mem_of_getElem? (i := 359) (by decide +kernel), List.mem_of_getElem? (i := 360) (by decide +kernel)⟩
theorem lw_p9 : lw_okq (⟨"PrefetchRules$Pairs", "follow", "(II)V"⟩, 10) := ⟨⟨by decide +kernel, by decide +kernel⟩, List.mem_of_getElem? (i := 156) (by decide +kernel), List.mem_of_getElem? (i := 366) (by decide +kernel), List.mem_of_getElem? (i := 367) (by decide +kernel)⟩
theorem lw_p10 : lw_okq (⟨"PrefetchRules$Pairs", "isOwn", "(II)Z"⟩, 10) := ⟨⟨by decide +kernel, by decide +kernel⟩, List.mem_of_getElem? (i := 156) (by decide +kernel), List.mem_of_getElem? (i := 373) (by decide +kernel), List.mem_of_getElem? (i := 374) (by decide +kernel)⟩
theorem lw_p11 : lw_okq (⟨"PrefetchRules$Pairs", "behindCount", "(I)I"⟩, 10) := ⟨⟨by decide +kernel, by decide +kernel⟩, List.mem_of_getElem? (i := 156) (by decide +kernel), List.mem_of_getElem? (i := 380) (by decide +kernel), List.mem_of_getElem? (i := 381) (by decide +kernel)⟩
theorem lw_p12 : lw_okq (⟨"PrefetchRules$Streams", "moveInFront", "(III)V"⟩, 6) := ⟨⟨by decide +kernel, by decide +kernel⟩, List.mem_of_getElem? (i := 103) (by decide +kernel), List.mem_of_getElem? (i := 400) (by decide +kernel), List.mem_of_getElem? (i := 401) (by decide +kernel)⟩
theorem lw_p13 : lw_okq (⟨"PrefetchRules$Streams", "begin", "(I)V"⟩, 6) := ⟨⟨by decide +kernel, by decide +kernel⟩, List.mem_of_getElem? (i := 103) (by decide +kernel), List.mem_of_getElem? (i := 407) (by decide +kernel), List.mem_of_getElem? (i := 408) (by decide +kernel)⟩
theorem lw_p14 : lw_okq (⟨"PrefetchRules$Strides", "isOwn", "(II)Z"⟩, 8) := ⟨⟨by decide +kernel, by decide +kernel⟩, List.mem_of_getElem? (i := 69) (by decide +kernel), List.mem_of_getElem? (i := 417) (by decide +kernel), List.mem_of_getElem? (i := 418) (by decide +kernel)⟩
theorem lw_p15 : lw_okq (⟨"PrefetchRules$Strides", "begin", "(III)V"⟩, 8) := ⟨⟨by decide +kernel, by decide +kernel⟩, List.mem_of_getElem? (i := 69) (by decide +kernel), List.mem_of_getElem? (i := 421) (by decide +kernel), List.mem_of_getElem? (i := 422) (by decide +kernel)⟩
def lw_privs_1 : List (MethodName × Nat) := [(⟨"PrefetchRules", "nextCycle", "()I"⟩, 14), (⟨"PrefetchRules", "come", "(IZ)V"⟩, 14), (⟨"PrefetchRules$Store", "moveInFront", "(IIZ)V"⟩, 3), (⟨"PrefetchRules", "ask", "(I)I"⟩, 14), (⟨"PrefetchRules", "hit", "(I)V"⟩, 14), (⟨"PrefetchRules$Offsets", "tryCandidate", "(I)V"⟩, 11), (⟨"PrefetchRules$Offsets", "isRecent", "(I)Z"⟩, 11), (⟨"PrefetchRules$Offsets", "endRound", "()V"⟩, 11), (⟨"PrefetchRules$Offsets", "remember", "(I)V"⟩, 11), (⟨"PrefetchRules$Pairs", "follow", "(II)V"⟩, 10), (⟨"PrefetchRules$Pairs", "isOwn", "(II)Z"⟩, 10), (⟨"PrefetchRules$Pairs", "behindCount", "(I)I"⟩, 10), (⟨"PrefetchRules$Streams", "moveInFront", "(III)V"⟩, 6), (⟨"PrefetchRules$Streams", "begin", "(I)V"⟩, 6), (⟨"PrefetchRules$Strides", "isOwn", "(II)Z"⟩, 8), (⟨"PrefetchRules$Strides", "begin", "(III)V"⟩, 8)]
theorem lw_r1 : ∀ q ∈ lw_privs_1, lw_okq q := List.forall_mem_cons.mpr ⟨lw_p0, List.forall_mem_cons.mpr ⟨lw_p1, List.forall_mem_cons.mpr ⟨lw_p2, List.forall_mem_cons.mpr ⟨lw_p3, List.forall_mem_cons.mpr ⟨lw_p4, List.forall_mem_cons.mpr ⟨lw_p5, List.forall_mem_cons.mpr ⟨lw_p6, List.forall_mem_cons.mpr ⟨lw_p7, List.forall_mem_cons.mpr ⟨lw_p8, List.forall_mem_cons.mpr ⟨lw_p9, List.forall_mem_cons.mpr ⟨lw_p10, List.forall_mem_cons.mpr ⟨lw_p11, List.forall_mem_cons.mpr ⟨lw_p12, List.forall_mem_cons.mpr ⟨lw_p13, List.forall_mem_cons.mpr ⟨lw_p14, List.forall_mem_cons.mpr ⟨lw_p15, fun _ h => absurd h List.not_mem_nil⟩⟩⟩⟩⟩⟩⟩⟩⟩⟩⟩⟩⟩⟩⟩⟩
theorem lw_p16 : lw_okq (⟨"PrefetchRules$Strides", "compare", "(II)V"⟩, 8) := ⟨⟨by decide +kernel, by decide +kernel⟩, List.mem_of_getElem? (i := 69) (by decide +kernel), List.mem_of_getElem? (i := 425) (by decide +kernel), List.mem_of_getElem? (i := 426) (by decide +kernel)⟩
theorem lw_p17 : lw_okq (⟨"PrefetchRules", "fetch", "(I)V"⟩, 14) := ⟨⟨by decide +kernel, by decide +kernel⟩, List.mem_of_getElem? (i := 18) (by decide +kernel), List.mem_of_getElem? (i := 451) (by decide +kernel), List.mem_of_getElem? (i := 452) (by decide +kernel)⟩
theorem lw_p18 : lw_okq (⟨"java/lang/Throwable", "fillInStackTrace", "(I)Ljava/lang/Throwable;"⟩, 6) := ⟨⟨by decide +kernel, by decide +kernel⟩, List.mem_of_getElem? (i := 598) (by decide +kernel), List.mem_of_getElem? (i := 596) (by decide +kernel), List.mem_of_getElem? (i := 597) (by decide +kernel)⟩
theorem lw_p19 : lw_okq (⟨"PrefetchRulesModel", "arrive", "()I"⟩, 34) := ⟨⟨by decide +kernel, by decide +kernel⟩, List.mem_of_getElem? (i := 669) (by decide +kernel), List.mem_of_getElem? (i := 785) (by decide +kernel), List.mem_of_getElem? (i := 786) (by decide +kernel)⟩
theorem lw_p20 : lw_okq (⟨"PrefetchRulesModel", "takeOut", "(I)V"⟩, 34) := ⟨⟨by decide +kernel, by decide +kernel⟩, List.mem_of_getElem? (i := 669) (by decide +kernel), List.mem_of_getElem? (i := 789) (by decide +kernel), List.mem_of_getElem? (i := 790) (by decide +kernel)⟩
theorem lw_p21 : lw_okq (⟨"PrefetchRulesModel", "come", "(IZ)V"⟩, 34) := ⟨⟨by decide +kernel, by decide +kernel⟩, List.mem_of_getElem? (i := 669) (by decide +kernel), List.mem_of_getElem? (i := 793) (by decide +kernel), List.mem_of_getElem? (i := 794) (by decide +kernel)⟩
theorem lw_p22 : lw_okq (⟨"PrefetchRulesModel", "use", "(I)V"⟩, 34) := ⟨⟨by decide +kernel, by decide +kernel⟩, List.mem_of_getElem? (i := 669) (by decide +kernel), List.mem_of_getElem? (i := 797) (by decide +kernel), List.mem_of_getElem? (i := 798) (by decide +kernel)⟩
theorem lw_p23 : lw_okq (⟨"PrefetchRulesModel", "placeOf", "(I)I"⟩, 34) := ⟨⟨by decide +kernel, by decide +kernel⟩, List.mem_of_getElem? (i := 669) (by decide +kernel), List.mem_of_getElem? (i := 801) (by decide +kernel), List.mem_of_getElem? (i := 802) (by decide +kernel)⟩
theorem lw_p24 : lw_okq (⟨"PrefetchRulesModel", "queueOf", "(I)I"⟩, 34) := ⟨⟨by decide +kernel, by decide +kernel⟩, List.mem_of_getElem? (i := 669) (by decide +kernel), List.mem_of_getElem? (i := 805) (by decide +kernel), List.mem_of_getElem? (i := 806) (by decide +kernel)⟩
theorem lw_p25 : lw_okq (⟨"PrefetchRulesModel", "sayRow", "(II)V"⟩, 34) := ⟨⟨by decide +kernel, by decide +kernel⟩, List.mem_of_getElem? (i := 669) (by decide +kernel), List.mem_of_getElem? (i := 809) (by decide +kernel), List.mem_of_getElem? (i := 810) (by decide +kernel)⟩
theorem lw_p26 : lw_okq (⟨"PrefetchRulesModel", "say", "(I)V"⟩, 34) := ⟨⟨by decide +kernel, by decide +kernel⟩, List.mem_of_getElem? (i := 669) (by decide +kernel), List.mem_of_getElem? (i := 813) (by decide +kernel), List.mem_of_getElem? (i := 814) (by decide +kernel)⟩
theorem lw_p27 : lw_okq (⟨"PrefetchRulesModel", "strides", "(II)V"⟩, 34) := ⟨⟨by decide +kernel, by decide +kernel⟩, List.mem_of_getElem? (i := 669) (by decide +kernel), List.mem_of_getElem? (i := 817) (by decide +kernel), List.mem_of_getElem? (i := 818) (by decide +kernel)⟩
theorem lw_p28 : lw_okq (⟨"PrefetchRulesModel", "follow", "(I)V"⟩, 34) := ⟨⟨by decide +kernel, by decide +kernel⟩, List.mem_of_getElem? (i := 669) (by decide +kernel), List.mem_of_getElem? (i := 821) (by decide +kernel), List.mem_of_getElem? (i := 822) (by decide +kernel)⟩
theorem lw_p29 : lw_okq (⟨"PrefetchRulesModel", "wayTo", "(II)I"⟩, 34) := ⟨⟨by decide +kernel, by decide +kernel⟩, List.mem_of_getElem? (i := 669) (by decide +kernel), List.mem_of_getElem? (i := 825) (by decide +kernel), List.mem_of_getElem? (i := 826) (by decide +kernel)⟩
theorem lw_p30 : lw_okq (⟨"PrefetchRulesModel", "offsets", "(I)V"⟩, 34) := ⟨⟨by decide +kernel, by decide +kernel⟩, List.mem_of_getElem? (i := 669) (by decide +kernel), List.mem_of_getElem? (i := 829) (by decide +kernel), List.mem_of_getElem? (i := 830) (by decide +kernel)⟩
theorem lw_p31 : lw_okq (⟨"PrefetchRulesModel", "endRound", "()V"⟩, 34) := ⟨⟨by decide +kernel, by decide +kernel⟩, List.mem_of_getElem? (i := 669) (by decide +kernel), List.mem_of_getElem? (i := 833) (by decide +kernel), List.mem_of_getElem? (i := 834) (by decide +kernel)⟩
def lw_privs_2 : List (MethodName × Nat) := [(⟨"PrefetchRules$Strides", "compare", "(II)V"⟩, 8), (⟨"PrefetchRules", "fetch", "(I)V"⟩, 14), (⟨"java/lang/Throwable", "fillInStackTrace", "(I)Ljava/lang/Throwable;"⟩, 6), (⟨"PrefetchRulesModel", "arrive", "()I"⟩, 34), (⟨"PrefetchRulesModel", "takeOut", "(I)V"⟩, 34), (⟨"PrefetchRulesModel", "come", "(IZ)V"⟩, 34), (⟨"PrefetchRulesModel", "use", "(I)V"⟩, 34), (⟨"PrefetchRulesModel", "placeOf", "(I)I"⟩, 34), (⟨"PrefetchRulesModel", "queueOf", "(I)I"⟩, 34), (⟨"PrefetchRulesModel", "sayRow", "(II)V"⟩, 34), (⟨"PrefetchRulesModel", "say", "(I)V"⟩, 34), (⟨"PrefetchRulesModel", "strides", "(II)V"⟩, 34), (⟨"PrefetchRulesModel", "follow", "(I)V"⟩, 34), (⟨"PrefetchRulesModel", "wayTo", "(II)I"⟩, 34), (⟨"PrefetchRulesModel", "offsets", "(I)V"⟩, 34), (⟨"PrefetchRulesModel", "endRound", "()V"⟩, 34)]
theorem lw_r2 : ∀ q ∈ lw_privs_2, lw_okq q := List.forall_mem_cons.mpr ⟨lw_p16, List.forall_mem_cons.mpr ⟨lw_p17, List.forall_mem_cons.mpr ⟨lw_p18, List.forall_mem_cons.mpr ⟨lw_p19, List.forall_mem_cons.mpr ⟨lw_p20, List.forall_mem_cons.mpr ⟨lw_p21, List.forall_mem_cons.mpr ⟨lw_p22, List.forall_mem_cons.mpr ⟨lw_p23, List.forall_mem_cons.mpr ⟨lw_p24, List.forall_mem_cons.mpr ⟨lw_p25, List.forall_mem_cons.mpr ⟨lw_p26, List.forall_mem_cons.mpr ⟨lw_p27, List.forall_mem_cons.mpr ⟨lw_p28, List.forall_mem_cons.mpr ⟨lw_p29, List.forall_mem_cons.mpr ⟨lw_p30, List.forall_mem_cons.mpr ⟨lw_p31, fun _ h => absurd h List.not_mem_nil⟩⟩⟩⟩⟩⟩⟩⟩⟩⟩⟩⟩⟩⟩⟩⟩
theorem lw_p32 : lw_okq (⟨"PrefetchRulesModel", "pairs", "(I)V"⟩, 34) := ⟨⟨by decide +kernel, by decide +kernel⟩, List.mem_of_getElem? (i := 669) (by decide +kernel), List.mem_of_getElem? (i := 837) (by decide +kernel), List.mem_of_getElem? (i := 838) (by decide +kernel)⟩
theorem lw_p33 : lw_okq (⟨"PrefetchRulesModel", "fail", "(I)I"⟩, 34) := ⟨⟨by decide +kernel, by decide +kernel⟩, List.mem_of_getElem? (i := 669) (by decide +kernel), List.mem_of_getElem? (i := 848) (by decide +kernel), List.mem_of_getElem? (i := 849) (by decide +kernel)⟩
theorem lw_p34 : lw_okq (⟨"PrefetchRulesModel", "marks", "()I"⟩, 34) := ⟨⟨by decide +kernel, by decide +kernel⟩, List.mem_of_getElem? (i := 669) (by decide +kernel), List.mem_of_getElem? (i := 856) (by decide +kernel), List.mem_of_getElem? (i := 857) (by decide +kernel)⟩
def lw_privs_3 : List (MethodName × Nat) := [(⟨"PrefetchRulesModel", "pairs", "(I)V"⟩, 34), (⟨"PrefetchRulesModel", "fail", "(I)I"⟩, 34), (⟨"PrefetchRulesModel", "marks", "()I"⟩, 34)]
theorem lw_r3 : ∀ q ∈ lw_privs_3, lw_okq q := List.forall_mem_cons.mpr ⟨lw_p32, List.forall_mem_cons.mpr ⟨lw_p33, List.forall_mem_cons.mpr ⟨lw_p34, fun _ h => absurd h List.not_mem_nil⟩⟩⟩
def lw_privs : List (MethodName × Nat) := lw_privs_1 ++ (lw_privs_2 ++ (lw_privs_3))
def lw_tbl : List Cond := k2_sels lw_privs ++ tables_1
theorem lw_privs_ok : ∀ q ∈ lw_privs, lw_okq q := by
  show ∀ q ∈ lw_privs_1 ++ (lw_privs_2 ++ (lw_privs_3)), lw_okq q
  exact List.forall_mem_append.mpr ⟨lw_r1, List.forall_mem_append.mpr ⟨lw_r2, lw_r3⟩⟩
end
section
def F_Main : u_T := fun k => match k with
  | 0 => ("PrefetchRules", "latency", "I", true)
  | 1 => ("PrefetchRules", "store", "LPrefetchRules$Store;", true)
  | 2 => ("PrefetchRules", "queue", "LPrefetchRules$Queue;", true)
  | 3 => ("PrefetchRules", "rule", "LPrefetchRules$Rule;", true)
  | 4 => ("PrefetchRules", "cycles", "I", false)
  | 5 => ("PrefetchRules", "accesses", "I", false)
  | 6 => ("PrefetchRules", "hits", "I", false)
  | 7 => ("PrefetchRules", "late", "I", false)
  | 8 => ("PrefetchRules", "misses", "I", false)
  | 9 => ("PrefetchRules", "useful", "I", false)
  | 10 => ("PrefetchRules", "useless", "I", false)
  | 11 => ("PrefetchRules", "filtered", "I", false)
  | 12 => ("PrefetchRules", "dropped", "I", false)
  | _ => ("PrefetchRules", "fetches", "I", false)
def t_Main : Nat → FieldType := fun k => match k with
  | 0 => .int
  | 1 => .object "PrefetchRules$Store"
  | 2 => .object "PrefetchRules$Queue"
  | 3 => .object "PrefetchRules$Rule"
  | 4 => .int
  | 5 => .int
  | 6 => .int
  | 7 => .int
  | 8 => .int
  | 9 => .int
  | 10 => .int
  | 11 => .int
  | 12 => .int
  | _ => .int
def F_Store : u_T := fun k => match k with
  | 0 => ("PrefetchRules$Store", "lines", "[I", true)
  | 1 => ("PrefetchRules$Store", "marks", "[Z", true)
  | _ => ("PrefetchRules$Store", "size", "I", false)
def t_Store : Nat → FieldType := fun k => match k with
  | 0 => .array .int
  | 1 => .array .boolean
  | _ => .int
def F_Queue : u_T := fun k => match k with
  | 0 => ("PrefetchRules$Queue", "lines", "[I", true)
  | 1 => ("PrefetchRules$Queue", "cycles", "[I", true)
  | _ => ("PrefetchRules$Queue", "size", "I", false)
def t_Queue : Nat → FieldType := fun k => match k with
  | 0 => .array .int
  | 1 => .array .int
  | _ => .int
def F_Next : u_T := fun k => match k with
  | 0 => ("PrefetchRules$Rule", "degree", "I", true)
  | 1 => ("PrefetchRules$Rule", "said", "[I", true)
  | _ => ("PrefetchRules$Rule", "saidCount", "I", false)
def t_Next : Nat → FieldType := fun k => match k with
  | 0 => .int
  | 1 => .array .int
  | _ => .int
def F_Strides : u_T := fun k => match k with
  | 0 => ("PrefetchRules$Rule", "degree", "I", true)
  | 1 => ("PrefetchRules$Rule", "said", "[I", true)
  | 2 => ("PrefetchRules$Rule", "saidCount", "I", false)
  | 3 => ("PrefetchRules$Strides", "taken", "[Z", true)
  | 4 => ("PrefetchRules$Strides", "places", "[I", true)
  | 5 => ("PrefetchRules$Strides", "lines", "[I", true)
  | 6 => ("PrefetchRules$Strides", "strides", "[I", true)
  | _ => ("PrefetchRules$Strides", "trusts", "[I", true)
def t_Strides : Nat → FieldType := fun k => match k with
  | 0 => .int
  | 1 => .array .int
  | 2 => .int
  | 3 => .array .boolean
  | 4 => .array .int
  | 5 => .array .int
  | 6 => .array .int
  | _ => .array .int
def F_Streams : u_T := fun k => match k with
  | 0 => ("PrefetchRules$Rule", "degree", "I", true)
  | 1 => ("PrefetchRules$Rule", "said", "[I", true)
  | 2 => ("PrefetchRules$Rule", "saidCount", "I", false)
  | 3 => ("PrefetchRules$Streams", "lines", "[I", true)
  | 4 => ("PrefetchRules$Streams", "ways", "[I", true)
  | _ => ("PrefetchRules$Streams", "size", "I", false)
def t_Streams : Nat → FieldType := fun k => match k with
  | 0 => .int
  | 1 => .array .int
  | 2 => .int
  | 3 => .array .int
  | 4 => .array .int
  | _ => .int
def F_Offsets : u_T := fun k => match k with
  | 0 => ("PrefetchRules$Rule", "degree", "I", true)
  | 1 => ("PrefetchRules$Rule", "said", "[I", true)
  | 2 => ("PrefetchRules$Rule", "saidCount", "I", false)
  | 3 => ("PrefetchRules$Offsets", "recent", "[I", true)
  | 4 => ("PrefetchRules$Offsets", "recentCount", "I", false)
  | 5 => ("PrefetchRules$Offsets", "oldest", "I", false)
  | 6 => ("PrefetchRules$Offsets", "scores", "[I", true)
  | 7 => ("PrefetchRules$Offsets", "turn", "I", false)
  | 8 => ("PrefetchRules$Offsets", "tries", "I", false)
  | 9 => ("PrefetchRules$Offsets", "offset", "I", false)
  | _ => ("PrefetchRules$Offsets", "rounds", "I", false)
def t_Offsets : Nat → FieldType := fun k => match k with
  | 0 => .int
  | 1 => .array .int
  | 2 => .int
  | 3 => .array .int
  | 4 => .int
  | 5 => .int
  | 6 => .array .int
  | 7 => .int
  | 8 => .int
  | 9 => .int
  | _ => .int
def F_Pairs : u_T := fun k => match k with
  | 0 => ("PrefetchRules$Rule", "degree", "I", true)
  | 1 => ("PrefetchRules$Rule", "said", "[I", true)
  | 2 => ("PrefetchRules$Rule", "saidCount", "I", false)
  | 3 => ("PrefetchRules$Pairs", "taken", "[Z", true)
  | 4 => ("PrefetchRules$Pairs", "owners", "[I", true)
  | 5 => ("PrefetchRules$Pairs", "behind", "[I", true)
  | 6 => ("PrefetchRules$Pairs", "newer", "[I", true)
  | 7 => ("PrefetchRules$Pairs", "older", "[I", true)
  | 8 => ("PrefetchRules$Pairs", "begun", "Z", false)
  | _ => ("PrefetchRules$Pairs", "before", "I", false)
def t_Pairs : Nat → FieldType := fun k => match k with
  | 0 => .int
  | 1 => .array .int
  | 2 => .int
  | 3 => .array .boolean
  | 4 => .array .int
  | 5 => .array .int
  | 6 => .array .int
  | 7 => .array .int
  | 8 => .boolean
  | _ => .int
def vwCl : List vw_C := [("PrefetchRules", F_Main, 14), ("PrefetchRules$Store", F_Store, 3), ("PrefetchRules$Queue", F_Queue, 3), ("PrefetchRules$Next", F_Next, 3), ("PrefetchRules$Strides", F_Strides, 8), ("PrefetchRules$Streams", F_Streams, 6), ("PrefetchRules$Offsets", F_Offsets, 11), ("PrefetchRules$Pairs", F_Pairs, 10)]
def y_Next_init : MethodName := ⟨"PrefetchRules$Next", "<init>", "(I)V"⟩
abbrev b_Next_init : ByteArray := prog_2_method_1_code
def y_Next_confidence : MethodName := ⟨"PrefetchRules$Next", "confidence", "(I)I"⟩
abbrev b_Next_confidence : ByteArray := prog_2_method_4_code
def y_Next_knowledge : MethodName := ⟨"PrefetchRules$Next", "knowledge", "(I)I"⟩
abbrev b_Next_knowledge : ByteArray := prog_2_method_3_code
def y_Next_learn : MethodName := ⟨"PrefetchRules$Next", "learn", "(II)V"⟩
abbrev b_Next_learn : ByteArray := prog_2_method_2_code
def y_Offsets_init : MethodName := ⟨"PrefetchRules$Offsets", "<init>", "(I)V"⟩
abbrev b_Offsets_init : ByteArray := prog_3_method_1_code
def y_Offsets_confidence : MethodName := ⟨"PrefetchRules$Offsets", "confidence", "(I)I"⟩
abbrev b_Offsets_confidence : ByteArray := prog_3_method_4_code
def y_Offsets_endRound : MethodName := ⟨"PrefetchRules$Offsets", "endRound", "()V"⟩
abbrev b_Offsets_endRound : ByteArray := prog_3_method_7_code
def y_Offsets_isRecent : MethodName := ⟨"PrefetchRules$Offsets", "isRecent", "(I)Z"⟩
abbrev b_Offsets_isRecent : ByteArray := prog_3_method_8_code
def y_Offsets_knowledge : MethodName := ⟨"PrefetchRules$Offsets", "knowledge", "(I)I"⟩
abbrev b_Offsets_knowledge : ByteArray := prog_3_method_3_code
def y_Offsets_learn : MethodName := ⟨"PrefetchRules$Offsets", "learn", "(II)V"⟩
abbrev b_Offsets_learn : ByteArray := prog_3_method_2_code
def y_Offsets_remember : MethodName := ⟨"PrefetchRules$Offsets", "remember", "(I)V"⟩
abbrev b_Offsets_remember : ByteArray := prog_3_method_9_code
def y_Offsets_roundCount : MethodName := ⟨"PrefetchRules$Offsets", "roundCount", "()I"⟩
abbrev b_Offsets_roundCount : ByteArray := prog_3_method_5_code
def y_Offsets_tryCandidate : MethodName := ⟨"PrefetchRules$Offsets", "tryCandidate", "(I)V"⟩
abbrev b_Offsets_tryCandidate : ByteArray := prog_3_method_6_code
def y_Pairs_init : MethodName := ⟨"PrefetchRules$Pairs", "<init>", "(I)V"⟩
abbrev b_Pairs_init : ByteArray := prog_4_method_1_code
def y_Pairs_behindCount : MethodName := ⟨"PrefetchRules$Pairs", "behindCount", "(I)I"⟩
abbrev b_Pairs_behindCount : ByteArray := prog_4_method_7_code
def y_Pairs_confidence : MethodName := ⟨"PrefetchRules$Pairs", "confidence", "(I)I"⟩
abbrev b_Pairs_confidence : ByteArray := prog_4_method_4_code
def y_Pairs_follow : MethodName := ⟨"PrefetchRules$Pairs", "follow", "(II)V"⟩
abbrev b_Pairs_follow : ByteArray := prog_4_method_8_code
def y_Pairs_isOwn : MethodName := ⟨"PrefetchRules$Pairs", "isOwn", "(II)Z"⟩
abbrev b_Pairs_isOwn : ByteArray := prog_4_method_6_code
def y_Pairs_knowledge : MethodName := ⟨"PrefetchRules$Pairs", "knowledge", "(I)I"⟩
abbrev b_Pairs_knowledge : ByteArray := prog_4_method_3_code
def y_Pairs_learn : MethodName := ⟨"PrefetchRules$Pairs", "learn", "(II)V"⟩
abbrev b_Pairs_learn : ByteArray := prog_4_method_2_code
def y_Pairs_rowOf : MethodName := ⟨"PrefetchRules$Pairs", "rowOf", "(I)I"⟩
abbrev b_Pairs_rowOf : ByteArray := prog_4_method_5_code
def y_Queue_init : MethodName := ⟨"PrefetchRules$Queue", "<init>", "()V"⟩
abbrev b_Queue_init : ByteArray := prog_5_method_1_code
def y_Queue_add : MethodName := ⟨"PrefetchRules$Queue", "add", "(II)V"⟩
abbrev b_Queue_add : ByteArray := prog_5_method_8_code
def y_Queue_clear : MethodName := ⟨"PrefetchRules$Queue", "clear", "()V"⟩
abbrev b_Queue_clear : ByteArray := prog_5_method_10_code
def y_Queue_cycleAt : MethodName := ⟨"PrefetchRules$Queue", "cycleAt", "(I)I"⟩
abbrev b_Queue_cycleAt : ByteArray := prog_5_method_5_code
def y_Queue_find : MethodName := ⟨"PrefetchRules$Queue", "find", "(I)I"⟩
abbrev b_Queue_find : ByteArray := prog_5_method_7_code
def y_Queue_firstIsDue : MethodName := ⟨"PrefetchRules$Queue", "firstIsDue", "(I)Z"⟩
abbrev b_Queue_firstIsDue : ByteArray := prog_5_method_6_code
def y_Queue_isFull : MethodName := ⟨"PrefetchRules$Queue", "isFull", "()Z"⟩
abbrev b_Queue_isFull : ByteArray := prog_5_method_3_code
def y_Queue_lineAt : MethodName := ⟨"PrefetchRules$Queue", "lineAt", "(I)I"⟩
abbrev b_Queue_lineAt : ByteArray := prog_5_method_4_code
def y_Queue_remove : MethodName := ⟨"PrefetchRules$Queue", "remove", "(I)V"⟩
abbrev b_Queue_remove : ByteArray := prog_5_method_9_code
def y_Queue_size : MethodName := ⟨"PrefetchRules$Queue", "size", "()I"⟩
abbrev b_Queue_size : ByteArray := prog_5_method_2_code
def y_Rule_init : MethodName := ⟨"PrefetchRules$Rule", "<init>", "(I)V"⟩
abbrev b_Rule_init : ByteArray := prog_6_method_1_code
def y_Rule_degree : MethodName := ⟨"PrefetchRules$Rule", "degree", "()I"⟩
abbrev b_Rule_degree : ByteArray := prog_6_method_7_code
def y_Rule_hear : MethodName := ⟨"PrefetchRules$Rule", "hear", "(II)V"⟩
abbrev b_Rule_hear : ByteArray := prog_6_method_6_code
def y_Rule_roundCount : MethodName := ⟨"PrefetchRules$Rule", "roundCount", "()I"⟩
abbrev b_Rule_roundCount : ByteArray := prog_6_method_5_code
def y_Rule_saidCount : MethodName := ⟨"PrefetchRules$Rule", "saidCount", "()I"⟩
abbrev b_Rule_saidCount : ByteArray := prog_6_method_8_code
def y_Rule_saidLine : MethodName := ⟨"PrefetchRules$Rule", "saidLine", "(I)I"⟩
abbrev b_Rule_saidLine : ByteArray := prog_6_method_9_code
def y_Rule_say : MethodName := ⟨"PrefetchRules$Rule", "say", "(I)V"⟩
abbrev b_Rule_say : ByteArray := prog_6_method_10_code
def y_Rule_sayInSteps : MethodName := ⟨"PrefetchRules$Rule", "sayInSteps", "(II)V"⟩
abbrev b_Rule_sayInSteps : ByteArray := prog_6_method_11_code
def y_Store_init : MethodName := ⟨"PrefetchRules$Store", "<init>", "(I)V"⟩
abbrev b_Store_init : ByteArray := prog_7_method_1_code
def y_Store_clearMarks : MethodName := ⟨"PrefetchRules$Store", "clearMarks", "()V"⟩
abbrev b_Store_clearMarks : ByteArray := prog_7_method_8_code
def y_Store_dropLast : MethodName := ⟨"PrefetchRules$Store", "dropLast", "()Z"⟩
abbrev b_Store_dropLast : ByteArray := prog_7_method_9_code
def y_Store_find : MethodName := ⟨"PrefetchRules$Store", "find", "(I)I"⟩
abbrev b_Store_find : ByteArray := prog_7_method_6_code
def y_Store_isFull : MethodName := ⟨"PrefetchRules$Store", "isFull", "()Z"⟩
abbrev b_Store_isFull : ByteArray := prog_7_method_3_code
def y_Store_isMarked : MethodName := ⟨"PrefetchRules$Store", "isMarked", "(I)Z"⟩
abbrev b_Store_isMarked : ByteArray := prog_7_method_5_code
def y_Store_lineAt : MethodName := ⟨"PrefetchRules$Store", "lineAt", "(I)I"⟩
abbrev b_Store_lineAt : ByteArray := prog_7_method_4_code
def y_Store_markCount : MethodName := ⟨"PrefetchRules$Store", "markCount", "()I"⟩
abbrev b_Store_markCount : ByteArray := prog_7_method_7_code
def y_Store_moveInFront : MethodName := ⟨"PrefetchRules$Store", "moveInFront", "(IIZ)V"⟩
abbrev b_Store_moveInFront : ByteArray := prog_7_method_12_code
def y_Store_putFirst : MethodName := ⟨"PrefetchRules$Store", "putFirst", "(IZ)V"⟩
abbrev b_Store_putFirst : ByteArray := prog_7_method_10_code
def y_Store_size : MethodName := ⟨"PrefetchRules$Store", "size", "()I"⟩
abbrev b_Store_size : ByteArray := prog_7_method_2_code
def y_Store_use : MethodName := ⟨"PrefetchRules$Store", "use", "(I)V"⟩
abbrev b_Store_use : ByteArray := prog_7_method_11_code
def y_Streams_init : MethodName := ⟨"PrefetchRules$Streams", "<init>", "(I)V"⟩
abbrev b_Streams_init : ByteArray := prog_8_method_1_code
def y_Streams_begin : MethodName := ⟨"PrefetchRules$Streams", "begin", "(I)V"⟩
abbrev b_Streams_begin : ByteArray := prog_8_method_6_code
def y_Streams_confidence : MethodName := ⟨"PrefetchRules$Streams", "confidence", "(I)I"⟩
abbrev b_Streams_confidence : ByteArray := prog_8_method_4_code
def y_Streams_knowledge : MethodName := ⟨"PrefetchRules$Streams", "knowledge", "(I)I"⟩
abbrev b_Streams_knowledge : ByteArray := prog_8_method_3_code
def y_Streams_learn : MethodName := ⟨"PrefetchRules$Streams", "learn", "(II)V"⟩
abbrev b_Streams_learn : ByteArray := prog_8_method_2_code
def y_Streams_moveInFront : MethodName := ⟨"PrefetchRules$Streams", "moveInFront", "(III)V"⟩
abbrev b_Streams_moveInFront : ByteArray := prog_8_method_7_code
def y_Streams_wayTo : MethodName := ⟨"PrefetchRules$Streams", "wayTo", "(I)I"⟩
abbrev b_Streams_wayTo : ByteArray := prog_8_method_5_code
def y_Strides_init : MethodName := ⟨"PrefetchRules$Strides", "<init>", "(I)V"⟩
abbrev b_Strides_init : ByteArray := prog_9_method_1_code
def y_Strides_begin : MethodName := ⟨"PrefetchRules$Strides", "begin", "(III)V"⟩
abbrev b_Strides_begin : ByteArray := prog_9_method_7_code
def y_Strides_compare : MethodName := ⟨"PrefetchRules$Strides", "compare", "(II)V"⟩
abbrev b_Strides_compare : ByteArray := prog_9_method_8_code
def y_Strides_confidence : MethodName := ⟨"PrefetchRules$Strides", "confidence", "(I)I"⟩
abbrev b_Strides_confidence : ByteArray := prog_9_method_4_code
def y_Strides_isOwn : MethodName := ⟨"PrefetchRules$Strides", "isOwn", "(II)Z"⟩
abbrev b_Strides_isOwn : ByteArray := prog_9_method_6_code
def y_Strides_knowledge : MethodName := ⟨"PrefetchRules$Strides", "knowledge", "(I)I"⟩
abbrev b_Strides_knowledge : ByteArray := prog_9_method_3_code
def y_Strides_learn : MethodName := ⟨"PrefetchRules$Strides", "learn", "(II)V"⟩
abbrev b_Strides_learn : ByteArray := prog_9_method_2_code
def y_Strides_rowOf : MethodName := ⟨"PrefetchRules$Strides", "rowOf", "(I)I"⟩
abbrev b_Strides_rowOf : ByteArray := prog_9_method_5_code
def y_Main_init : MethodName := ⟨"PrefetchRules", "<init>", "(IIII)V"⟩
abbrev b_Main_init : ByteArray := prog_1_method_1_code
def y_Main_access : MethodName := ⟨"PrefetchRules", "access", "(II)I"⟩
abbrev b_Main_access : ByteArray := prog_1_method_2_code
def y_Main_ask : MethodName := ⟨"PrefetchRules", "ask", "(I)I"⟩
abbrev b_Main_ask : ByteArray := prog_1_method_16_code
def y_Main_come : MethodName := ⟨"PrefetchRules", "come", "(IZ)V"⟩
abbrev b_Main_come : ByteArray := prog_1_method_15_code
def y_Main_count : MethodName := ⟨"PrefetchRules", "count", "(I)I"⟩
abbrev b_Main_count : ByteArray := prog_1_method_10_code
def y_Main_fetch : MethodName := ⟨"PrefetchRules", "fetch", "(I)V"⟩
abbrev b_Main_fetch : ByteArray := prog_1_method_18_code
def y_Main_finish : MethodName := ⟨"PrefetchRules", "finish", "()I"⟩
abbrev b_Main_finish : ByteArray := prog_1_method_4_code
def y_Main_hit : MethodName := ⟨"PrefetchRules", "hit", "(I)V"⟩
abbrev b_Main_hit : ByteArray := prog_1_method_17_code
def y_Main_indexOf : MethodName := ⟨"PrefetchRules", "indexOf", "(I[II)I"⟩
abbrev b_Main_indexOf : ByteArray := prog_1_method_12_code
def y_Main_known : MethodName := ⟨"PrefetchRules", "known", "(I)I"⟩
abbrev b_Main_known : ByteArray := prog_1_method_8_code
def y_Main_nextCycle : MethodName := ⟨"PrefetchRules", "nextCycle", "()I"⟩
abbrev b_Main_nextCycle : ByteArray := prog_1_method_14_code
def y_Main_oneTo : MethodName := ⟨"PrefetchRules", "oneTo", "(II)I"⟩
abbrev b_Main_oneTo : ByteArray := prog_1_method_11_code
def y_Main_pass : MethodName := ⟨"PrefetchRules", "pass", "(I)I"⟩
abbrev b_Main_pass : ByteArray := prog_1_method_3_code
def y_Main_queued : MethodName := ⟨"PrefetchRules", "queued", "(II)I"⟩
abbrev b_Main_queued : ByteArray := prog_1_method_7_code
def y_Main_ruleOf : MethodName := ⟨"PrefetchRules", "ruleOf", "(II)LPrefetchRules$Rule;"⟩
abbrev b_Main_ruleOf : ByteArray := prog_1_method_13_code
def y_Main_state : MethodName := ⟨"PrefetchRules", "state", "(I)I"⟩
abbrev b_Main_state : ByteArray := prog_1_method_5_code
def y_Main_stored : MethodName := ⟨"PrefetchRules", "stored", "(I)I"⟩
abbrev b_Main_stored : ByteArray := prog_1_method_6_code
def y_Main_trust : MethodName := ⟨"PrefetchRules", "trust", "(I)I"⟩
abbrev b_Main_trust : ByteArray := prog_1_method_9_code
def y_Math_floorMod : MethodName := ⟨"java/lang/Math", "floorMod", "(II)I"⟩
abbrev b_Math_floorMod : ByteArray := prog_15_method_50_code
/-- what the table of candidates holds -/
def kx_cand (j : Nat) : Int32 := ([1, 2, 3, 4, 5, 6, 8, 9, 10, 12, 15, 16] : List Int32).getD j 0
/-- what the statics hold: the table of candidates at g 3 -/
def kx_Z (g : Nat → Nat) (A : Nat → Prop) (U : State) : Prop := va_Z "PrefetchRules$Offsets" "CANDIDATES" "[I" (.ref (g 3)) A U U.heap ∧ va_T .int (g 3) 12 (fun j => .int (kx_cand j)) A U U.heap
theorem kx_Z.call {g : Nat → Nat} {A0 A1 : Nat → Prop} {s U : State} {H : Heap} {locs : List Loc} (h : kx_Z g A0 s) (hS : va_S A0 s.heap H locs) (hA : ∀ q, A1 q → A0 q) (hU : U.heap = H) (hvm : s.vm.Alike U.vm) : kx_Z g A1 U := by
  subst hU
  exact ⟨((h.1.kept hS.2.1).moved hvm).narrow hA, ((h.2.kept hS.2.1).moved hvm).narrow hA⟩
theorem kx_Zz {g : Nat → Nat} {A : Nat → Prop} {s : State} (h : kx_Z g A s) : va_Z "PrefetchRules$Offsets" "CANDIDATES" "[I" (.ref (g 3)) A s s.heap := h.1
theorem kx_Zt {g : Nat → Nat} {A : Nat → Prop} {s : State} (h : kx_Z g A s) : va_T .int (g 3) 12 (fun j => .int (kx_cand j)) A s s.heap := h.2
end
section
/-! My own rows over the kit's: one table of words for all methods (kx_T), one bundle of what stays (kx_F), one of the cells (kx_W), a line an instruction. -/
def kx_arrC (w : Cond) : Bool := match w with
  | .arrayClass _ => true
  | _ => false
def kx_good (w : Cond) : Bool := (w.onTables && w.keeps) || kx_arrC w
def kx_T : List Cond := lw_tbl.filter kx_good
theorem kx_arrC_ok {w : Cond} (h : kx_arrC w = true) : ∃ ty, w = .arrayClass ty := by
  cases w <;> first | exact ⟨_, rfl⟩ | (simp [kx_arrC] at h)
theorem kx_ok {w : Cond} (h : kx_good w = true) : (w.onTables && w.keeps) = true ∨ ∃ ty, w = .arrayClass ty := by
  unfold kx_good at h
  cases h1 : (w.onTables && w.keeps) with
  | true => exact Or.inl rfl
  | false =>
    rw [h1, Bool.false_or] at h
    exact Or.inr (kx_arrC_ok h)
theorem kx_mem {w : Cond} (h1 : w ∈ lw_tbl) (h2 : kx_good w = true) : w ∈ kx_T := List.mem_filter.mpr ⟨h1, h2⟩
theorem kx_lw {w : Cond} (h : w ∈ kx_T) : w ∈ lw_tbl := (List.mem_filter.mp h).1
theorem kx_goodIn {ws : List Cond} (h : ∀ w ∈ ws, w ∈ kx_T) : GoodIn kx_T ws := fun w hw => ⟨h w hw, kx_ok (List.mem_filter.mp (h w hw)).2⟩
theorem kx_cons {w0 : Cond} {ws : List Cond} (h : w0 ∈ kx_T) (h2 : ∀ w ∈ ws, w ∈ kx_T) : ∀ w ∈ w0 :: ws, w ∈ kx_T := fun w hw => by
  rcases List.mem_cons.mp hw with h1 | h1
  · rw [h1]; exact h
  · exact h2 w h1
theorem kx_all : ∀ w ∈ kx_T, w ∈ kx_T := fun _ h => h
def kx_nest (w : Cond) : Bool := match w with
  | .methodLinkNest _ _ _ _ => true
  | .fieldLinkNest _ _ _ _ _ _ => true
  | .declares _ => true
  | _ => false
def kx_N : List Cond := lw_tbl.filter kx_nest
theorem kx_memN {w : Cond} (h1 : w ∈ lw_tbl) (h2 : kx_nest w = true) : w ∈ kx_N := List.mem_filter.mpr ⟨h1, h2⟩
theorem kx_warm {w : Cond} (hw : kx_nest w = true) {s U : State} (hW : s.WarmedH U.vm) (h : va_Nw w s) : va_Nw w U := by
  cases w <;> first | exact va_Nw.warmM hW h | exact va_Nw.warmF hW h | exact va_Nw.warmD hW h | (simp [kx_nest] at hw)
theorem kx_same {w : Cond} (hw : kx_nest w = true) {s U : State} (hv : s.vm = U.vm) (h : va_Nw w s) : va_Nw w U := by
  cases w <;> first | (exact va_Nw.same rfl hv h) | (simp [kx_nest] at hw)
/-- the classes' numbers and slots; then the array classes (0 int, 1 boolean, 2 long), then the addresses of what statics hold -/
abbrev kx_G : Type := va_G × (Nat → Nat)
def kx_tys (G : kx_G) : List (ClassId × FieldType) := [(G.2 0, .int), (G.2 1, .boolean), (G.2 2, .long)]
/-- what stays over the whole run: classes, array classes, nest links, statics -/
def kx_Q (G : kx_G) (A : Nat → Prop) (U : State) : Prop := va_K G.1 vwCl (kx_tys G) U ∧ (∀ w ∈ kx_N, va_Nw w U) ∧ kx_Z G.2 A U
theorem kx_Q.call {G : kx_G} {A0 A1 : Nat → Prop} {s U : State} {H : Heap} {locs : List Loc} (h : kx_Q G A0 s) (hS : va_S A0 s.heap H locs) (hA : ∀ q, A1 q → A0 q) (hU : U.heap = H) (hW : s.WarmedH U.vm) : kx_Q G A1 U :=
  ⟨va_K.moved hW.alike h.1, fun w hw => kx_warm (List.mem_filter.mp hw).2 hW (h.2.1 w hw), kx_Z.call h.2.2 hS hA hU hW.alike⟩
theorem kx_Q.blind {G : kx_G} {A : Nat → Prop} {U V : State} (h : kx_Q G A U) (hh : V.heap = U.heap) (hv : V.vm = U.vm) : kx_Q G A V :=
  ⟨va_K.moved (by rw [hv]; exact Vm.Alike.refl U.vm) h.1, fun w hw => kx_same (List.mem_filter.mp hw).2 hv.symm (h.2.1 w hw), kx_Z.call (locs := []) h.2.2 va_S.rf (fun _ h => h) hh (by rw [hv]; exact Vm.Alike.refl U.vm)⟩
def kx_Pre (G : kx_G) (wc : va_W) (sz : Nat) (U : State) : Prop := U.heap.size = sz ∧ va_P G.1 vwCl wc U.heap ∧ va_D (fun _ => True) wc ∧ kx_Q G (va_A wc sz) U
theorem kx_blind (G : kx_G) (as : List Value) (wc : va_W) (sz : Nat) : FrameBlind (va_Pc as (kx_Pre G wc sz)) := fun a U g mk q => by
  obtain ⟨q0, q1, q2, q3, q4⟩ := q
  exact ⟨q0, q1, q2, q3, kx_Q.blind q4 rfl rfl⟩
def kx_B {S : Type} (G : kx_G) (A : Nat → Prop) (wo : S → va_W) : S → State → Prop := fun u t => va_P G.1 vwCl (wo u) t.heap ∧ va_D A (wo u)
/-- the contracts: an int (or boolean) comes back; nothing; a reference -/
def CtI {S : Type} (l : Launch) (y : MethodName) (cc : ByteArray) (maxL : Nat) (ret : Option FieldType) (rm : Room) (G : kx_G) (as : List Value) (wc : va_W) (post : Int32 → S → Prop) (wo : S → va_W) (mc ms : Nat) : Prop :=
  ∀ sz : Nat, Met l y (Cond.code y cc maxL ret :: kx_T) rm (va_Pc as (kx_Pre G wc sz)) (va_Qi post (kx_B G (va_A wc sz) wo) (va_A wc sz)) mc ms (va_A wc sz)
def CtV {S : Type} (l : Launch) (y : MethodName) (cc : ByteArray) (maxL : Nat) (rm : Room) (G : kx_G) (as : List Value) (wc : va_W) (post : S → Prop) (wo : S → va_W) (mc ms : Nat) : Prop :=
  ∀ sz : Nat, Met l y (Cond.code y cc maxL none :: kx_T) rm (va_Pc as (kx_Pre G wc sz)) (va_Qv post (kx_B G (va_A wc sz) wo) (va_A wc sz)) mc ms (va_A wc sz)
def CtR {S : Type} (l : Launch) (y : MethodName) (cc : ByteArray) (maxL : Nat) (ret : Option FieldType) (rm : Room) (G : kx_G) (as : List Value) (wc : va_W) (post : S → Prop) (wo : S → Nat → va_W) (mc ms : Nat) : Prop :=
  ∀ sz : Nat, Met l y (Cond.code y cc maxL ret :: kx_T) rm (va_Pc as (kx_Pre G wc sz)) (va_Qr post (fun u a t => va_P G.1 vwCl (wo u a) t.heap ∧ va_D (va_A wc sz) (wo u a)) (va_A wc sz)) mc ms (va_A wc sz)
/-- what stays inside a method; its cells -/
def kx_F (G : kx_G) (A : Nat → Prop) (s : State) : Prop := kx_Q G A s ∧ ∀ q : Nat, s.heap.size ≤ q → A q
def kx_W (G : kx_G) (A : Nat → Prop) (s : State) (ws : va_W) (H : Heap) (locs : List Loc) : Prop := va_P G.1 vwCl ws H ∧ va_D A ws ∧ va_S A s.heap H locs
theorem kx_lift {X pl cx : va_W} (is : List Nat) (h : is.map (fun i => X[i]?) = cx.map some) : is.map (fun i => (X ++ pl)[i]?) = cx.map some := by
  rw [← h]
  refine List.map_congr_left (fun i hi => ?_)
  have h1 : X[i]? ∈ is.map (fun i => X[i]?) := List.mem_map.mpr ⟨i, hi, rfl⟩
  rw [h] at h1
  obtain ⟨q, -, hq⟩ := List.mem_map.mp h1
  exact List.getElem?_append_left (List.getElem?_eq_some_iff.mp hq.symm).1
theorem kx_filt {X cx : va_W} (is : List Nat) (h : is.map (fun i => X[i]?) = cx.map some) : is.filterMap (fun i => X[i]?) = cx := by
  have h1 : is.filterMap (fun i => X[i]?) = (is.map (fun i => X[i]?)).filterMap id := by
    rw [List.filterMap_map]; rfl
  rw [h1, h, List.filterMap_map]
  exact List.filterMap_some
theorem kx_W.perm {G : kx_G} {A : Nat → Prop} {s : State} {X X' pl : va_W} {H : Heap} {locs : List Loc} (w : kx_W G A s (X ++ pl) H locs) (is : List Nat) (hn : va_nd is = true) (hs : is.map (fun i => X[i]?) = X'.map some) : kx_W G A s (X' ++ pl) H locs :=
  ⟨w.1.part is hs, w.2.1.part is hn hs, w.2.2⟩
/-- the end of a case of an 'if', of an access, of a call -/
theorem kx_t {α : Type} {c : Prop} [Decidable c] {a b x : α} (h : c) (e : (if c then a else b) = x) : a = x := by rw [if_pos h] at e; exact e
theorem kx_f {α : Type} {c : Prop} [Decidable c] {a b x : α} (h : ¬ c) (e : (if c then a else b) = x) : b = x := by rw [if_neg h] at e; exact e
theorem kx_ar {α : Type} {i : Int32} {n : Nat} {a : Option α} {x : α} (e : (if (i < 0 ∨ n ≤ i.toNatClampNeg) then none else a) = some x) : vp_in i n ∧ a = some x := by
  by_cases h : (i < 0 ∨ n ≤ i.toNatClampNeg)
  · rw [if_pos h] at e; cases e
  · rw [if_neg h] at e; exact ⟨h, e⟩
theorem kx_nz {α : Type} {y : Int32} {a : Option α} {x : α} (e : (if y = 0 then none else a) = some x) : ¬ y = 0 ∧ a = some x := by
  by_cases h : y = 0
  · rw [if_pos h] at e; cases e
  · rw [if_neg h] at e; exact ⟨h, e⟩
theorem kx_ck {α : Type} {y : Int32} {a : Option α} {x : α} (e : (if (y = 0 ∨ y = 1) then a else none) = some x) : (y = 0 ∨ y = 1) ∧ a = some x := by
  by_cases h : (y = 0 ∨ y = 1)
  · rw [if_pos h] at e; exact ⟨h, e⟩
  · rw [if_neg h] at e; cases e
theorem kx_bd {α β : Type} {o : Option α} {f : α → Option β} {x : β} (e : o.bind f = some x) : ∃ q, o = some q ∧ f q = some x := by
  cases o with
  | none => cases e
  | some q => exact ⟨q, rfl, e⟩
/-- a class as the rows need it: its place, its fields' words, their types, their names -/
def kx_cls (ci : Nat) (C : String) (T : u_T) (N : Nat) (ty : Nat → FieldType) : Prop := vwCl[ci]? = some (C, T, N) ∧ (∀ w ∈ u_ws C T N, w ∈ kx_T) ∧ (∀ k, k < N → parseFieldDescriptor (T k).2.2.1 = some (ty k)) ∧ ∀ a, a < N → ∀ b, b < N → a ≠ b → (T a).2.1 ≠ (T b).2.1
section KXR
variable {p : Program} {l : Launch} {e : Env} {R : Room} {s : State} {m : MethodId} {args : Array Value} {below : List Frame} {meth : Method} {c : Code} {H : Heap} {locs : List Loc} {cells slots : Nat} {Q : State → Prop}
variable {cc : ByteArray} {nL pc : Nat} {own : String} {G : kx_G} {A : Nat → Prop} {X pl : va_W} {ls : Array Slot} {rest : List Value}
theorem kx_get (S : CallFix p m c cc nL s args kx_T own) (F : kx_F G A s) (w : kx_W G A s (X ++ pl) H locs) {ci N : Nat} {C : String} {T : u_T} {ty : Nat → FieldType} (hc : kx_cls ci C T N ty) (q0 : Nat) {a : Nat} {fs : List Value} (he : X[q0]? = some (a, .inr (ci, fs))) (k : Nat) (hk : k < N) {index : Nat} (hlink : Cond.fieldLink own index (T k).1 (T k).2.1 (T k).2.2.1 ∈ kx_T) {v : Value} (hv : fs[k]? = some v) (hdg : decode cc pc = .ok (.getfield index, 3))
    (kk : W p l e R s m args below meth c H locs cells slots Q (F0 m (pc + 3) ls (v :: rest))) : W p l e R s m args below meth c H locs cells slots Q (F0 m pc ls (.ref a :: rest)) := by
  obtain ⟨hx, hb, hml, hown, hts⟩ := S
  exact va_get hx hb hts hc.2.1 hown F.1.1 w.1 q0 (by rw [List.getElem?_append_left (List.getElem?_eq_some_iff.mp he).1]; exact he) hc.1 k hk (hts _ hlink) (fun _ h => h) hv hdg kk
theorem kx_getN (S : CallFix p m c cc nL s args kx_T own) (F : kx_F G A s) (w : kx_W G A s (X ++ pl) H locs) {ci N : Nat} {C : String} {T : u_T} {ty : Nat → FieldType} (hc : kx_cls ci C T N ty) (q0 : Nat) {a : Nat} {fs : List Value} (he : X[q0]? = some (a, .inr (ci, fs))) (k : Nat) (hk : k < N) {index : Nat} {host : String} (hlink : Cond.fieldLinkNest own index (T k).1 (T k).2.1 (T k).2.2.1 host ∈ kx_N) {v : Value} (hv : fs[k]? = some v) (hdg : decode cc pc = .ok (.getfield index, 3))
    (kk : W p l e R s m args below meth c H locs cells slots Q (F0 m (pc + 3) ls (v :: rest))) : W p l e R s m args below meth c H locs cells slots Q (F0 m pc ls (.ref a :: rest)) := by
  obtain ⟨hx, hb, hml, hown, hts⟩ := S
  exact va_getN hx hb hts hc.2.1 hown F.1.1 w.1 q0 (by rw [List.getElem?_append_left (List.getElem?_eq_some_iff.mp he).1]; exact he) hc.1 k hk (va_Nw.use rfl (F.1.2.1 _ hlink)) (fun _ h => h) hv hdg kk
theorem kx_put (S : CallFix p m c cc nL s args kx_T own) (F : kx_F G A s) (w : kx_W G A s (X ++ pl) H locs) {ci N : Nat} {C : String} {T : u_T} {ty : Nat → FieldType} (hc : kx_cls ci C T N ty) (q0 : Nat) {a : Nat} {fs : List Value} (he : X[q0]? = some (a, .inr (ci, fs))) (k : Nat) (hk : k < N) {index : Nat} (hlink : Cond.fieldLink own index (T k).1 (T k).2.1 (T k).2.2.1 ∈ kx_T) (hfin : (T k).2.2.2 = false) {v : Value} (hn : narrow (ty k) v = v) (hfit : fits (ty k) v = true) (hl : k < fs.length) (hdg : decode cc pc = .ok (.putfield index, 3))
    (kk : ∀ (H1 : Heap) (locs1 : List Loc), kx_W G A s (X.set q0 (a, .inr (ci, fs.set k v)) ++ pl) H1 locs1 → W p l e R s m args below meth c H1 locs1 cells slots Q (F0 m (pc + 3) ls rest)) : W p l e R s m args below meth c H locs cells slots Q (F0 m pc ls (v :: .ref a :: rest)) := by
  obtain ⟨hx, hb, hml, hown, hts⟩ := S
  have hlt := (List.getElem?_eq_some_iff.mp he).1
  refine va_put hx hb hts hc.2.1 ty hc.2.2.1 hc.2.2.2 hown F.1.1 w.1 w.2.1 w.2.2 q0 (by rw [List.getElem?_append_left hlt]; exact he) hc.1 k hk (hts _ hlink) (fun _ h => h) hfin (hc.2.2.1 k hk) hn hfit hl hdg (fun H1 locs1 hP hD hS => kk H1 locs1 ⟨?_, ?_, hS⟩)
  · rw [List.set_append_left _ _ hlt] at hP; exact hP
  · rw [List.set_append_left _ _ hlt] at hD; exact hD
theorem kx_putF (S : CallFix p m c cc nL s args kx_T own) (F : kx_F G A s) (w : kx_W G A s (X ++ pl) H locs) {ci N : Nat} {C : String} {T : u_T} {ty : Nat → FieldType} (hc : kx_cls ci C T N ty) (q0 : Nat) {a : Nat} {fs : List Value} (he : X[q0]? = some (a, .inr (ci, fs))) (k : Nat) (hk : k < N) {index : Nat} (hlink : Cond.fieldLink own index (T k).1 (T k).2.1 (T k).2.2.1 ∈ kx_T) (hfin : (T k).2.2.2 = true) (hin : meth.name = "<init>") (hdecl : (T k).1 = own) {v : Value} (hn : narrow (ty k) v = v) (hfit : fits (ty k) v = true) (hl : k < fs.length) (hdg : decode cc pc = .ok (.putfield index, 3))
    (kk : ∀ (H1 : Heap) (locs1 : List Loc), kx_W G A s (X.set q0 (a, .inr (ci, fs.set k v)) ++ pl) H1 locs1 → W p l e R s m args below meth c H1 locs1 cells slots Q (F0 m (pc + 3) ls rest)) : W p l e R s m args below meth c H locs cells slots Q (F0 m pc ls (v :: .ref a :: rest)) := by
  obtain ⟨hx, hb, hml, hown, hts⟩ := S
  have hlt := (List.getElem?_eq_some_iff.mp he).1
  refine va_putF hx hb hts hc.2.1 ty hc.2.2.1 hc.2.2.2 hown F.1.1 w.1 w.2.1 w.2.2 q0 (by rw [List.getElem?_append_left hlt]; exact he) hc.1 k hk (hts _ hlink) (fun _ h => h) hfin hin hdecl (hc.2.2.1 k hk) hn hfit hl hdg (fun H1 locs1 hP hD hS => kk H1 locs1 ⟨?_, ?_, hS⟩)
  · rw [List.set_append_left _ _ hlt] at hP; exact hP
  · rw [List.set_append_left _ _ hlt] at hD; exact hD
theorem kx_iald (S : CallFix p m c cc nL s args kx_T own) (F : kx_F G A s) (w : kx_W G A s (X ++ pl) H locs) (q0 : Nat) {a n : Nat} {f : Nat → Int32} (he : X[q0]? = some (a, .inl (G.2 0, n, .inl f))) {i : Int32} (hin : vp_in i n) (hdg : decode cc pc = .ok (.iaload, 1))
    (kk : W p l e R s m args below meth c H locs cells slots Q (F0 m (pc + 1) ls (.int (f i.toNatClampNeg) :: rest))) : W p l e R s m args below meth c H locs cells slots Q (F0 m pc ls (.int i :: .ref a :: rest)) := by
  obtain ⟨hx, hb, hml, hown, hts⟩ := S
  exact va_iald hx hb F.1.1 w.1 q0 0 (by rw [List.getElem?_append_left (List.getElem?_eq_some_iff.mp he).1]; exact he) rfl hin hdg kk
theorem kx_zald (S : CallFix p m c cc nL s args kx_T own) (F : kx_F G A s) (w : kx_W G A s (X ++ pl) H locs) (q0 : Nat) {a n : Nat} {f : Nat → Int32} (he : X[q0]? = some (a, .inl (G.2 1, n, .inl f))) {i : Int32} (hin : vp_in i n) (hdg : decode cc pc = .ok (.baload, 1))
    (kk : W p l e R s m args below meth c H locs cells slots Q (F0 m (pc + 1) ls (.int (f i.toNatClampNeg) :: rest))) : W p l e R s m args below meth c H locs cells slots Q (F0 m pc ls (.int i :: .ref a :: rest)) := by
  obtain ⟨hx, hb, hml, hown, hts⟩ := S
  exact va_zald hx hb F.1.1 w.1 q0 1 (by rw [List.getElem?_append_left (List.getElem?_eq_some_iff.mp he).1]; exact he) rfl hin hdg kk
theorem kx_iast (S : CallFix p m c cc nL s args kx_T own) (F : kx_F G A s) (w : kx_W G A s (X ++ pl) H locs) (q0 : Nat) {a n : Nat} {f : Nat → Int32} (he : X[q0]? = some (a, .inl (G.2 0, n, .inl f))) {i x : Int32} (hin : vp_in i n) (hdg : decode cc pc = .ok (.iastore, 1))
    (kk : ∀ (H1 : Heap) (locs1 : List Loc), kx_W G A s (X.set q0 (a, .inl (G.2 0, n, .inl (upd f i.toNatClampNeg x))) ++ pl) H1 locs1 → W p l e R s m args below meth c H1 locs1 cells slots Q (F0 m (pc + 1) ls rest)) : W p l e R s m args below meth c H locs cells slots Q (F0 m pc ls (.int x :: .int i :: .ref a :: rest)) := by
  obtain ⟨hx, hb, hml, hown, hts⟩ := S
  have hlt := (List.getElem?_eq_some_iff.mp he).1
  refine va_iast hx hb F.1.1 w.1 w.2.1 w.2.2 q0 0 (by rw [List.getElem?_append_left hlt]; exact he) rfl hin hdg (fun H1 locs1 hP hD hS => kk H1 locs1 ⟨?_, ?_, hS⟩)
  · rw [List.set_append_left _ _ hlt] at hP; exact hP
  · rw [List.set_append_left _ _ hlt] at hD; exact hD
theorem kx_zast (S : CallFix p m c cc nL s args kx_T own) (F : kx_F G A s) (w : kx_W G A s (X ++ pl) H locs) (q0 : Nat) {a n : Nat} {f : Nat → Int32} (he : X[q0]? = some (a, .inl (G.2 1, n, .inl f))) {i x : Int32} (hin : vp_in i n) (hdg : decode cc pc = .ok (.bastore, 1))
    (kk : ∀ (H1 : Heap) (locs1 : List Loc), kx_W G A s (X.set q0 (a, .inl (G.2 1, n, .inl (upd f i.toNatClampNeg (vp_nar .boolean x)))) ++ pl) H1 locs1 → W p l e R s m args below meth c H1 locs1 cells slots Q (F0 m (pc + 1) ls rest)) : W p l e R s m args below meth c H locs cells slots Q (F0 m pc ls (.int x :: .int i :: .ref a :: rest)) := by
  obtain ⟨hx, hb, hml, hown, hts⟩ := S
  have hlt := (List.getElem?_eq_some_iff.mp he).1
  refine va_zast hx hb F.1.1 w.1 w.2.1 w.2.2 q0 1 (by rw [List.getElem?_append_left hlt]; exact he) rfl hin hdg (fun H1 locs1 hP hD hS => kk H1 locs1 ⟨?_, ?_, hS⟩)
  · rw [List.set_append_left _ _ hlt] at hP; exact hP
  · rw [List.set_append_left _ _ hlt] at hD; exact hD
theorem kx_alen (S : CallFix p m c cc nL s args kx_T own) (F : kx_F G A s) (w : kx_W G A s (X ++ pl) H locs) (q0 t0 : Nat) {a : Nat} {x : vp_A} {cA : ClassId} (he : X[q0]? = some (a, .inl (cA, x))) {ty : FieldType} (ht : (kx_tys G)[t0]? = some (cA, ty)) (hdg : decode cc pc = .ok (.arraylength, 1))
    (kk : W p l e R s m args below meth c H locs cells slots Q (F0 m (pc + 1) ls (.int (nI x.1) :: rest))) : W p l e R s m args below meth c H locs cells slots Q (F0 m pc ls (.ref a :: rest)) := by
  obtain ⟨hx, hb, hml, hown, hts⟩ := S
  exact va_alen hx hb F.1.1 w.1 q0 t0 (by rw [List.getElem?_append_left (List.getElem?_eq_some_iff.mp he).1]; exact he) ht rfl hdg kk
theorem kx_newa0 {ty : FieldType} (t0 : Nat) {cG : ClassId} (F : kx_F G A s) (ht : (kx_tys G)[t0]? = some (cG, ty)) (hprim : ∀ cA : ClassId, va_RA s cA ty = (s.vm.findClass ("[" ++ ty.toString) = some cA)) {cA : ClassId} (hK : va_K G.1 vwCl (kx_tys G ++ [(cA, ty)]) s) : cA = cG := by
  have h1 := (hK.2 (kx_tys G).length (cA, ty) (by rw [List.getElem?_append_right (Nat.le_refl _), Nat.sub_self]; rfl)).2
  have h2 := (F.1.1.2 t0 (cG, ty) ht).2
  rw [hprim] at h1
  rw [hprim] at h2
  exact Option.some.inj (h1.symm.trans h2)
theorem kx_newi (S : CallFix p m c cc nL s args kx_T own) (F : kx_F G A s) (w : kx_W G A s (X ++ pl) H locs) (harr : Cond.arrayClass .int ∈ kx_T) {n : Int32} {N' : Nat} (hn : ¬ n < 0) (hN : n.toNatClampNeg = N') (hbytes : N' * 4 ≤ 536870912) (hcells : cells + 1 ≤ R.cells) (hslots : slots + N' ≤ R.slots) (hdg : decode cc pc = .ok (.newarray .int, 2))
    (kk : ∀ (q : Nat) (H1 : Heap), kx_W G A s ((X ++ [(q, .inl (G.2 0, N', .inl (fun _ => 0)))]) ++ pl) H1 locs → W p l e R s m args below meth c H1 locs (cells + 1) (slots + N') Q (F0 m (pc + 2) ls (.ref q :: rest))) : W p l e R s m args below meth c H locs cells slots Q (F0 m pc ls (.int n :: rest)) := by
  obtain ⟨hx, hb, hml, hown, hts⟩ := S
  refine va_newa (atype := .int) (ty := .int) (a0 := (N', .inl (fun _ => 0))) hx hb (hts _ harr) rfl F.1.1 w.1 w.2.1 w.2.2 F.2 (fun cA => rfl) hn hN hbytes hcells hslots hdg (fun q cA H1 hK hP hD hS => ?_)
  have e := kx_newa0 0 F rfl (fun _ => rfl) hK
  subst e
  exact kk q H1 ⟨hP.swap, hD.swap, hS⟩
theorem kx_newz (S : CallFix p m c cc nL s args kx_T own) (F : kx_F G A s) (w : kx_W G A s (X ++ pl) H locs) (harr : Cond.arrayClass .boolean ∈ kx_T) {n : Int32} {N' : Nat} (hn : ¬ n < 0) (hN : n.toNatClampNeg = N') (hbytes : N' * 1 ≤ 536870912) (hcells : cells + 1 ≤ R.cells) (hslots : slots + N' ≤ R.slots) (hdg : decode cc pc = .ok (.newarray .boolean, 2))
    (kk : ∀ (q : Nat) (H1 : Heap), kx_W G A s ((X ++ [(q, .inl (G.2 1, N', .inl (fun _ => 0)))]) ++ pl) H1 locs → W p l e R s m args below meth c H1 locs (cells + 1) (slots + N') Q (F0 m (pc + 2) ls (.ref q :: rest))) : W p l e R s m args below meth c H locs cells slots Q (F0 m pc ls (.int n :: rest)) := by
  obtain ⟨hx, hb, hml, hown, hts⟩ := S
  refine va_newa (atype := .boolean) (ty := .boolean) (a0 := (N', .inl (fun _ => 0))) hx hb (hts _ harr) rfl F.1.1 w.1 w.2.1 w.2.2 F.2 (fun cA => rfl) hn hN hbytes hcells hslots hdg (fun q cA H1 hK hP hD hS => ?_)
  have e := kx_newa0 1 F rfl (fun _ => rfl) hK
  subst e
  exact kk q H1 ⟨hP.swap, hD.swap, hS⟩
theorem kx_new (S : CallFix p m c cc nL s args kx_T own) (F : kx_F G A s) (w : kx_W G A s (X ++ pl) H locs) {ci N : Nat} {C : String} {T : u_T} {ty : Nat → FieldType} (hc : kx_cls ci C T N ty) {index : Nat} (hcl : Cond.classLink own index C ∈ kx_T) (hinst : Cond.instantiable C N ∈ kx_T) (hini : Cond.initialized C ∈ kx_T) {fs : List Value} (hfs : ∀ j, j < N → defaultValue (ty j) = vp_V fs j) (hcells : cells + 1 ≤ R.cells) (hslots : slots + N ≤ R.slots) (hdg : decode cc pc = .ok (.new index, 3))
    (kk : ∀ (q : Nat) (H1 : Heap), kx_W G A s ((X ++ [(q, .inr (ci, fs))]) ++ pl) H1 locs → W p l e R s m args below meth c H1 locs (cells + 1) (slots + N) Q (F0 m (pc + 3) ls (.ref q :: rest))) : W p l e R s m args below meth c H locs cells slots Q (F0 m pc ls rest) := by
  obtain ⟨hx, hb, hml, hown, hts⟩ := S
  refine va_new hx hb hts hc.2.1 ty hc.2.2.1 hown (hts _ hcl) (hts _ hinst) (hts _ hini) F.1.1 w.1 w.2.1 w.2.2 F.2 hc.1 hfs hcells hslots hdg (fun q H1 hP hD hS => ?_)
  exact kk q H1 ⟨hP.swap, hD.swap, hS⟩
theorem kx_obj (S : CallFix p m c cc nL s args kx_T own) {idx : Nat} (h1 : Cond.methodLink own idx Lib.objectInit ∈ kx_T) (h2 : Cond.instanceMethod Lib.objectInit ∈ kx_T) (h3 : Cond.code Lib.objectInit ⟨#[0xb1]⟩ 1 none ∈ kx_T) {a : Nat} (hsz : ls.size = nL) (hdg : decode cc pc = .ok (.invokespecial idx, 3)) (hfr : 1 ≤ R.frames) (hlo : 2 * (F0 m pc ls (.ref a :: rest)).monitorRoom + (rest.map fun v => v.category).sum + 12 ≤ R.locals)
    (kk : W p l e R s m args below meth c H locs cells slots Q (F0 m (pc + 3) ls rest)) : W p l e R s m args below meth c H locs cells slots Q (F0 m pc ls (.ref a :: rest)) := by
  obtain ⟨hx, hb, hml, hown, hts⟩ := S
  exact W.objInit hx hb hown (hts _ h1) (hts _ h2) (hts _ h3) rfl (by rw [hml]; exact hsz) rfl hdg hfr hlo kk
/-- a method as its callers need it: virtual, static, constructor; host: of a nest mate -/
def kx_mV (y : MethodName) (cc : ByteArray) (maxL : Nat) (ret : Option FieldType) (n : Nat) : Prop := Cond.code y cc maxL ret ∈ kx_T ∧ Cond.instanceMethod y ∈ kx_T ∧ Cond.selects y.cls y y ∈ kx_T ∧ Cond.initialized y.cls ∈ kx_T ∧ (y.cls ≠ "java/lang/invoke/MethodHandle" ∧ y.cls ≠ "java/lang/invoke/VarHandle" ∧ (parseMethodDescriptor y.desc).map (fun d => d.parameters.length) = some n)
def kx_mS (y : MethodName) (cc : ByteArray) (maxL : Nat) (ret : Option FieldType) (n : Nat) : Prop := Cond.code y cc maxL ret ∈ kx_T ∧ Cond.static y ∈ kx_T ∧ Cond.initialized y.cls ∈ kx_T ∧ (y.cls ≠ "java/lang/invoke/MethodHandle" ∧ y.cls ≠ "java/lang/invoke/VarHandle" ∧ (parseMethodDescriptor y.desc).map (fun d => d.parameters.length) = some n)
def kx_mI (y : MethodName) (cc : ByteArray) (maxL : Nat) (n : Nat) : Prop := Cond.code y cc maxL none ∈ kx_T ∧ Cond.instanceMethod y ∈ kx_T ∧ Cond.initialized y.cls ∈ kx_T ∧ y.name = "<init>" ∧ (y.cls ≠ "java/lang/invoke/MethodHandle" ∧ y.cls ≠ "java/lang/invoke/VarHandle" ∧ (parseMethodDescriptor y.desc).map (fun d => d.parameters.length) = some n)
def kx_rm (rm R : Room) (maxL mc ms : Nat) : Prop := rm.cells = mc ∧ rm.slots = ms ∧ rm.frames + 1 ≤ R.frames ∧ 8 + (maxL + 11) + rm.locals ≤ R.locals
theorem kx_cwV {y : MethodName} {bytes : ByteArray} {maxL n mc ms index : Nat} {ret : Option FieldType} {rm : Room} (S : CallFix p m c cc nL s args kx_T own) (mv : kx_mV y bytes maxL ret n) (hl : Cond.methodLink own index y ∈ kx_T) (hr : kx_rm rm R maxL mc ms) : CallW R s args own y.cls index y bytes maxL ret (Cond.code y bytes maxL ret :: kx_T) rm mc ms n := by
  obtain ⟨h1, h2, h3, h4, h5⟩ := mv
  obtain ⟨hx, hb, hml, hown, hts⟩ := S
  exact ⟨callB_of n hts (kx_goodIn (kx_cons h1 kx_all)) rfl hr.1 hr.2.1 (hts _ h4) (hts _ hl) h5 hr.2.2, hts _ h2, hts _ h3⟩
theorem kx_cwS {y : MethodName} {bytes : ByteArray} {maxL n mc ms index : Nat} {ret : Option FieldType} {rm : Room} (S : CallFix p m c cc nL s args kx_T own) (mv : kx_mS y bytes maxL ret n) (hl : Cond.methodLink own index y ∈ kx_T) (hr : kx_rm rm R maxL mc ms) : CallB R s args own index y bytes maxL ret (Cond.code y bytes maxL ret :: kx_T) rm mc ms n ∧ (Cond.static y).before args s = true := by
  obtain ⟨h1, h2, h4, h5⟩ := mv
  obtain ⟨hx, hb, hml, hown, hts⟩ := S
  exact ⟨callB_of n hts (kx_goodIn (kx_cons h1 kx_all)) rfl hr.1 hr.2.1 (hts _ h4) (hts _ hl) h5 hr.2.2, hts _ h2⟩
theorem kx_cwI {y : MethodName} {bytes : ByteArray} {maxL n mc ms index : Nat} {rm : Room} (S : CallFix p m c cc nL s args kx_T own) (mv : kx_mI y bytes maxL n) (hl : Cond.methodLink own index y ∈ kx_T) (hr : kx_rm rm R maxL mc ms) : CallB R s args own index y bytes maxL none (Cond.code y bytes maxL none :: kx_T) rm mc ms n ∧ y.name = "<init>" ∧ (Cond.instanceMethod y).before args s = true := by
  obtain ⟨h1, h2, h4, h6, h5⟩ := mv
  obtain ⟨hx, hb, hml, hown, hts⟩ := S
  exact ⟨callB_of n hts (kx_goodIn (kx_cons h1 kx_all)) rfl hr.1 hr.2.1 (hts _ h4) (hts _ hl) h5 hr.2.2, h6, hts _ h2⟩
theorem kx_cwSN {y : MethodName} {bytes : ByteArray} {maxL n mc ms index : Nat} {ret : Option FieldType} {rm : Room} {host : String} (S : CallFix p m c cc nL s args kx_T own) (F : kx_F G A s) (mv : kx_mS y bytes maxL ret n) (hl : Cond.methodLinkNest own index y host ∈ kx_N) (hr : kx_rm rm R maxL mc ms) : va_CN R s args own index y host bytes maxL ret (Cond.code y bytes maxL ret :: kx_T) rm mc ms n ∧ (Cond.static y).before args s = true ∧ True := by
  obtain ⟨h1, h2, h4, h5⟩ := mv
  obtain ⟨hx, hb, hml, hown, hts⟩ := S
  exact ⟨va_cnB n hts (kx_goodIn (kx_cons h1 kx_all)) rfl hr.1 hr.2.1 (F.1.2.1 _ hl) (hts _ h4) h5 hr.2.2, hts _ h2, trivial⟩
theorem kx_cwIN {y : MethodName} {bytes : ByteArray} {maxL n mc ms index : Nat} {rm : Room} {host : String} (S : CallFix p m c cc nL s args kx_T own) (F : kx_F G A s) (mv : kx_mI y bytes maxL n) (hl : Cond.methodLinkNest own index y host ∈ kx_N) (hr : kx_rm rm R maxL mc ms) : va_CN R s args own index y host bytes maxL none (Cond.code y bytes maxL none :: kx_T) rm mc ms n ∧ y.name = "<init>" ∧ (Cond.instanceMethod y).before args s = true := by
  obtain ⟨h1, h2, h4, h6, h5⟩ := mv
  obtain ⟨hx, hb, hml, hown, hts⟩ := S
  exact ⟨va_cnB n hts (kx_goodIn (kx_cons h1 kx_all)) rfl hr.1 hr.2.1 (F.1.2.1 _ hl) (hts _ h4) h5 hr.2.2, h6, hts _ h2⟩
theorem kx_cwU {x y : MethodName} {bytes : ByteArray} {maxL n mc ms index : Nat} {ret : Option FieldType} {rm : Room} {C owner : String} (S : CallFix p m c cc nL s args kx_T own) (hco : Cond.code y bytes maxL ret ∈ kx_T) (hl : Cond.methodLink own index x ∈ kx_T) (hsm : Cond.sameMethod x.cls owner x.name x.desc ∈ kx_T) (hse : Cond.selects C x y ∈ kx_T) (hin : Cond.instanceMethod y ∈ kx_T) (hini : Cond.initialized y.cls ∈ kx_T) (hyx : y = ⟨owner, x.name, x.desc⟩)
    (hd : owner ≠ "java/lang/invoke/MethodHandle" ∧ owner ≠ "java/lang/invoke/VarHandle" ∧ (parseMethodDescriptor x.desc).map (fun d => d.parameters.length) = some n) (hr : kx_rm rm R maxL mc ms) : va_CU R s args own C owner index x y bytes maxL ret (Cond.code y bytes maxL ret :: kx_T) rm mc ms n :=
  va_cwU n S.2.2.2.2 (kx_goodIn (kx_cons hl (kx_cons hsm (kx_cons hse (kx_cons hin (kx_cons hini (kx_cons hco kx_all))))))) rfl hr.1 hr.2.1 hyx hd hr.2.2
theorem kx_cwA {x y : MethodName} {bytes : ByteArray} {maxL n mc ms index : Nat} {ret : Option FieldType} {rm : Room} {C owner : String} (S : CallFix p m c cc nL s args kx_T own) (F : kx_F G A s) (hco : Cond.code y bytes maxL ret ∈ kx_T) (hl : Cond.methodLink own index x ∈ kx_T) (hsm : Cond.sameMethod x.cls owner x.name x.desc ∈ kx_T) (hse : Cond.selects C x y ∈ kx_T) (hin : Cond.instanceMethod y ∈ kx_T) (hini : Cond.initialized y.cls ∈ kx_T) (hz : Cond.declares ⟨owner, x.name, x.desc⟩ ∈ kx_N)
    (hd : owner ≠ "java/lang/invoke/MethodHandle" ∧ owner ≠ "java/lang/invoke/VarHandle" ∧ (parseMethodDescriptor x.desc).map (fun d => d.parameters.length) = some n) (hr : kx_rm rm R maxL mc ms) : va_CU R s args own C owner index x y bytes maxL ret (Cond.code y bytes maxL ret :: kx_T) rm mc ms n :=
  va_cwA n S.2.2.2.2 (kx_goodIn (kx_cons hl (kx_cons hsm (kx_cons hse (kx_cons hin (kx_cons hini (kx_cons hco kx_all))))))) rfl hr.1 hr.2.1 (F.1.2.1 _ hz) hd hr.2.2
theorem kx_cwO {x y : MethodName} {bytes : ByteArray} {maxL n mc ms index : Nat} {ret : Option FieldType} {rm : Room} {C owner : String} (S : CallFix p m c cc nL s args kx_T own) (hco : Cond.code y bytes maxL ret ∈ kx_T) (hl : Cond.methodLink own index x ∈ kx_T) (hsm : Cond.sameMethod x.cls owner x.name x.desc ∈ kx_T) (hi0 : Cond.instanceMethod ⟨owner, x.name, x.desc⟩ ∈ kx_T) (hse : Cond.selects C x y ∈ kx_T) (hin : Cond.instanceMethod y ∈ kx_T) (hini : Cond.initialized y.cls ∈ kx_T)
    {b0 : ByteArray} {m0 : Nat} {r0 : Option FieldType} (h0 : Cond.code ⟨owner, x.name, x.desc⟩ b0 m0 r0 ∈ kx_T) (hd : owner ≠ "java/lang/invoke/MethodHandle" ∧ owner ≠ "java/lang/invoke/VarHandle" ∧ (parseMethodDescriptor x.desc).map (fun d => d.parameters.length) = some n) (hr : kx_rm rm R maxL mc ms) : va_CU R s args own C owner index x y bytes maxL ret (Cond.code y bytes maxL ret :: kx_T) rm mc ms n :=
  va_cwO n S.2.2.2.2 (kx_goodIn (kx_cons hl (kx_cons hsm (kx_cons hi0 (kx_cons hse (kx_cons hin (kx_cons hini (kx_cons hco kx_all)))))))) rfl hr.1 hr.2.1 h0 hd hr.2.2
/-- what a callee finds: the cells cx of X -/
theorem kx_pre {cx : va_W} (F : kx_F G A s) (w : kx_W G A s (X ++ pl) H locs) (isC : List Nat) (hnC : va_nd isC = true) (hC : isC.map (fun i => X[i]?) = cx.map some) {As : List Value} : ∀ U : State, U.heap = H → s.WarmedH U.vm → va_Pc As (kx_Pre G cx H.size) As.toArray U := by
  intro U hU hW
  have hC' := kx_lift (pl := pl) isC hC
  refine ⟨rfl, by rw [hU], by rw [hU]; exact w.1.sub isC (kx_filt isC hC'), (w.2.1.sub isC hnC hC').weaken (fun _ _ _ _ => trivial), F.1.call w.2.2 (va_free w.2.1 w.2.2 F.2 isC hC') hU hW⟩
/-- what a callee finds: the cells cx of X, and the pool -/
theorem kx_preP {cx : va_W} (F : kx_F G A s) (w : kx_W G A s (X ++ pl) H locs) (isC : List Nat) (hnC : va_nd isC = true) (hC : isC.map (fun i => X[i]?) = cx.map some) {As : List Value} : ∀ U : State, U.heap = H → s.WarmedH U.vm → va_Pc As (kx_Pre G (cx ++ pl) H.size) As.toArray U := by
  intro U hU hW
  refine ⟨rfl, by rw [hU], by rw [hU]; exact w.1.part isC hC, (w.2.1.part isC hnC hC).weaken (fun _ _ _ _ => trivial), F.1.call w.2.2 (va_freeP w.2.1 w.2.2 F.2 isC hC) hU hW⟩
variable {S : Type} {mc ms : Nat} {cx wr : va_W} {st0 : List Value} {a : Array Value}
/-- behind a call that got the cells cx: an int, nothing, a reference -/
theorem kx_ci {post : Int32 → S → Prop} {wo : S → va_W} (F : kx_F G A s) (w : kx_W G A s (X ++ pl) H locs) (isC isR : List Nat) (hC : isC.map (fun i => X[i]?) = cx.map some) (hR : isR.map (fun i => X[i]?) = wr.map some) (hn : va_nd isR = true) (hdis : ∀ i ∈ isR, i ∉ isC)
    (hr : va_Run p l e R s m args below meth c H locs cells slots mc ms (F0 m pc ls st0) rest (va_Qi post (kx_B G (va_A cx H.size) wo) (va_A cx H.size) a) (va_A cx H.size))
    (kk : ∀ (r : Int32) (u : S) (H1 : Heap) (locs1 : List Loc), post r u → kx_W G A s ((wr ++ wo u) ++ pl) H1 locs1 → W p l e R s m args below meth c H1 locs1 (cells + mc) (slots + ms) Q (F0 m (pc + 3) ls (.int r :: rest))) : W p l e R s m args below meth c H locs cells slots Q (F0 m pc ls st0) := by
  have hFc := va_free w.2.1 w.2.2 F.2 isC (kx_lift (pl := pl) isC hC)
  refine va_calli hr w.2.2 (fun q _ h => hFc q h) hFc (fun r u t H1 locs1 ht hvm hw hB hz1 hk1 hS1 => ?_)
  obtain ⟨hP1, hD1⟩ := hB
  rw [ht] at hP1
  obtain ⟨hP2, hD2⟩ := va_joinQ w.1 w.2.1 isC isR hC hR hn hdis hk1 hFc hP1 hD1
  exact kk r u H1 locs1 hw ⟨hP2, hD2, hS1⟩
theorem kx_cv {post : S → Prop} {wo : S → va_W} (F : kx_F G A s) (w : kx_W G A s (X ++ pl) H locs) (isC isR : List Nat) (hC : isC.map (fun i => X[i]?) = cx.map some) (hR : isR.map (fun i => X[i]?) = wr.map some) (hn : va_nd isR = true) (hdis : ∀ i ∈ isR, i ∉ isC)
    (hr : va_Run p l e R s m args below meth c H locs cells slots mc ms (F0 m pc ls st0) rest (va_Qv post (kx_B G (va_A cx H.size) wo) (va_A cx H.size) a) (va_A cx H.size))
    (kk : ∀ (u : S) (H1 : Heap) (locs1 : List Loc), post u → kx_W G A s ((wr ++ wo u) ++ pl) H1 locs1 → W p l e R s m args below meth c H1 locs1 (cells + mc) (slots + ms) Q (F0 m (pc + 3) ls rest)) : W p l e R s m args below meth c H locs cells slots Q (F0 m pc ls st0) := by
  have hFc := va_free w.2.1 w.2.2 F.2 isC (kx_lift (pl := pl) isC hC)
  refine va_callv hr w.2.2 (fun q _ h => hFc q h) hFc (fun u t H1 locs1 ht hvm hw hB hz1 hk1 hS1 => ?_)
  obtain ⟨hP1, hD1⟩ := hB
  rw [ht] at hP1
  obtain ⟨hP2, hD2⟩ := va_joinQ w.1 w.2.1 isC isR hC hR hn hdis hk1 hFc hP1 hD1
  exact kk u H1 locs1 hw ⟨hP2, hD2, hS1⟩
theorem kx_cr {post : S → Prop} {wo : S → Nat → va_W} (F : kx_F G A s) (w : kx_W G A s (X ++ pl) H locs) (isC isR : List Nat) (hC : isC.map (fun i => X[i]?) = cx.map some) (hR : isR.map (fun i => X[i]?) = wr.map some) (hn : va_nd isR = true) (hdis : ∀ i ∈ isR, i ∉ isC)
    (hr : va_Run p l e R s m args below meth c H locs cells slots mc ms (F0 m pc ls st0) rest (va_Qr post (fun u a t => va_P G.1 vwCl (wo u a) t.heap ∧ va_D (va_A cx H.size) (wo u a)) (va_A cx H.size) a) (va_A cx H.size))
    (kk : ∀ (u : S) (ra : Nat) (H1 : Heap) (locs1 : List Loc), post u → kx_W G A s ((wr ++ wo u ra) ++ pl) H1 locs1 → W p l e R s m args below meth c H1 locs1 (cells + mc) (slots + ms) Q (F0 m (pc + 3) ls (.ref ra :: rest))) : W p l e R s m args below meth c H locs cells slots Q (F0 m pc ls st0) := by
  have hFc := va_free w.2.1 w.2.2 F.2 isC (kx_lift (pl := pl) isC hC)
  refine va_callr hr w.2.2 (fun q _ h => hFc q h) hFc (fun u ra t H1 locs1 ht hvm hw hB hz1 hk1 hS1 => ?_)
  obtain ⟨hP1, hD1⟩ := hB
  rw [ht] at hP1
  obtain ⟨hP2, hD2⟩ := va_joinQ w.1 w.2.1 isC isR hC hR hn hdis hk1 hFc hP1 hD1
  exact kk u ra H1 locs1 hw ⟨hP2, hD2, hS1⟩
/-- behind a call that got the cells cx and the pool -/
theorem kx_ciP {post : Int32 → S → Prop} {ro po : S → va_W} (F : kx_F G A s) (w : kx_W G A s (X ++ pl) H locs) (isC isR : List Nat) (hC : isC.map (fun i => X[i]?) = cx.map some) (hR : isR.map (fun i => X[i]?) = wr.map some) (hn : va_nd isR = true) (hdis : ∀ i ∈ isR, i ∉ isC)
    (hr : va_Run p l e R s m args below meth c H locs cells slots mc ms (F0 m pc ls st0) rest (va_Qi post (kx_B G (va_A (cx ++ pl) H.size) (fun u => ro u ++ po u)) (va_A (cx ++ pl) H.size) a) (va_A (cx ++ pl) H.size))
    (kk : ∀ (r : Int32) (u : S) (H1 : Heap) (locs1 : List Loc), post r u → kx_W G A s ((wr ++ ro u) ++ po u) H1 locs1 → W p l e R s m args below meth c H1 locs1 (cells + mc) (slots + ms) Q (F0 m (pc + 3) ls (.int r :: rest))) : W p l e R s m args below meth c H locs cells slots Q (F0 m pc ls st0) := by
  have hFc := va_freeP w.2.1 w.2.2 F.2 isC hC
  refine va_calli hr w.2.2 (fun q _ h => hFc q h) hFc (fun r u t H1 locs1 ht hvm hw hB hz1 hk1 hS1 => ?_)
  obtain ⟨hP1, hD1⟩ := hB
  rw [ht] at hP1
  obtain ⟨hP2, hD2⟩ := va_joinP w.1 w.2.1 isC isR hC hR hn hdis hk1 hFc hP1 hD1
  exact kk r u H1 locs1 hw ⟨hP2, hD2, hS1⟩
theorem kx_cvP {post : S → Prop} {ro po : S → va_W} (F : kx_F G A s) (w : kx_W G A s (X ++ pl) H locs) (isC isR : List Nat) (hC : isC.map (fun i => X[i]?) = cx.map some) (hR : isR.map (fun i => X[i]?) = wr.map some) (hn : va_nd isR = true) (hdis : ∀ i ∈ isR, i ∉ isC)
    (hr : va_Run p l e R s m args below meth c H locs cells slots mc ms (F0 m pc ls st0) rest (va_Qv post (kx_B G (va_A (cx ++ pl) H.size) (fun u => ro u ++ po u)) (va_A (cx ++ pl) H.size) a) (va_A (cx ++ pl) H.size))
    (kk : ∀ (u : S) (H1 : Heap) (locs1 : List Loc), post u → kx_W G A s ((wr ++ ro u) ++ po u) H1 locs1 → W p l e R s m args below meth c H1 locs1 (cells + mc) (slots + ms) Q (F0 m (pc + 3) ls rest)) : W p l e R s m args below meth c H locs cells slots Q (F0 m pc ls st0) := by
  have hFc := va_freeP w.2.1 w.2.2 F.2 isC hC
  refine va_callv hr w.2.2 (fun q _ h => hFc q h) hFc (fun u t H1 locs1 ht hvm hw hB hz1 hk1 hS1 => ?_)
  obtain ⟨hP1, hD1⟩ := hB
  rw [ht] at hP1
  obtain ⟨hP2, hD2⟩ := va_joinP w.1 w.2.1 isC isR hC hR hn hdis hk1 hFc hP1 hD1
  exact kk u H1 locs1 hw ⟨hP2, hD2, hS1⟩
/-- a method's end: its cells as the contract has them, 'is' their places -/
theorem kx_iret {post : Int32 → S → Prop} {wo : S → va_W} {v : Int32} (hQ : MQ below (va_Qi post (kx_B G A wo) A) args s cells slots A = Q) (S0 : CallFix p m c cc nL s args kx_T own) (hr : meth.sig.returnType = some .int) (hlocks : meth.locks = false) (w : kx_W G A s (X ++ pl) H locs) (is : List Nat) (hn : va_nd is = true) {xo : va_W} (hs : is.map (fun i => X[i]?) = xo.map some) (u : S) (hwo : xo ++ pl = wo u) (hp : post v u) (hdg : decode cc pc = .ok (.ireturn, 1)) :
    W p l e R s m args below meth c H locs cells slots Q (F0 m pc ls [.int v]) := by
  subst hQ
  exact W.iret S0.1 S0.2.1 hr (fun t ht hW => ⟨⟨v, u, rfl, hp, by rw [ht, ← hwo]; exact w.1.part is hs, by rw [← hwo]; exact w.2.1.part is hn hs⟩, w.2.2.F ht⟩) w.2.2.2.2 hdg hlocks
theorem kx_zret {post : Int32 → S → Prop} {wo : S → va_W} {v : Int32} (hQ : MQ below (va_Qi post (kx_B G A wo) A) args s cells slots A = Q) (S0 : CallFix p m c cc nL s args kx_T own) (hr : meth.sig.returnType = some .boolean) (hlocks : meth.locks = false) (hv : v = 0 ∨ v = 1) (w : kx_W G A s (X ++ pl) H locs) (is : List Nat) (hn : va_nd is = true) {xo : va_W} (hs : is.map (fun i => X[i]?) = xo.map some) (u : S) (hwo : xo ++ pl = wo u) (hp : post v u) (hdg : decode cc pc = .ok (.ireturn, 1)) :
    W p l e R s m args below meth c H locs cells slots Q (F0 m pc ls [.int v]) := by
  subst hQ
  exact W.zret S0.1 S0.2.1 hr (by rcases hv with rfl | rfl <;> decide) (fun t ht hW => ⟨⟨v, u, rfl, hp, by rw [ht, ← hwo]; exact w.1.part is hs, by rw [← hwo]; exact w.2.1.part is hn hs⟩, w.2.2.F ht⟩) w.2.2.2.2 hdg hlocks
theorem kx_vret {post : S → Prop} {wo : S → va_W} (hQ : MQ below (va_Qv post (kx_B G A wo) A) args s cells slots A = Q) (S0 : CallFix p m c cc nL s args kx_T own) (hr : meth.sig.returnType = none) (hlocks : meth.locks = false) (w : kx_W G A s (X ++ pl) H locs) (is : List Nat) (hn : va_nd is = true) {xo : va_W} (hs : is.map (fun i => X[i]?) = xo.map some) (u : S) (hwo : xo ++ pl = wo u) (hp : post u) (hdg : decode cc pc = .ok (.return_, 1)) :
    W p l e R s m args below meth c H locs cells slots Q (F0 m pc ls []) := by
  subst hQ
  exact W.vret S0.1 S0.2.1 hr (fun t ht hW => ⟨⟨u, rfl, hp, by rw [ht, ← hwo]; exact w.1.part is hs, by rw [← hwo]; exact w.2.1.part is hn hs⟩, w.2.2.F ht⟩) w.2.2.2.2 hdg hlocks
theorem kx_aret {post : S → Prop} {wo : S → Nat → va_W} {ra : Nat} {rn : String} (hQ : MQ below (va_Qr post (fun u a t => va_P G.1 vwCl (wo u a) t.heap ∧ va_D A (wo u a)) A) args s cells slots A = Q) (S0 : CallFix p m c cc nL s args kx_T own) (hr : meth.sig.returnType = some (.object rn)) (hlocks : meth.locks = false) (w : kx_W G A s (X ++ pl) H locs) (is : List Nat) (hn : va_nd is = true) {xo : va_W} (hs : is.map (fun i => X[i]?) = xo.map some) (u : S) (hwo : xo ++ pl = wo u ra) (hp : post u) (hdg : decode cc pc = .ok (.areturn, 1)) :
    W p l e R s m args below meth c H locs cells slots Q (F0 m pc ls [.ref ra]) := by
  subst hQ
  exact W.aret S0.1 S0.2.1 hr (Or.inl ⟨_, rfl⟩) (Or.inr ⟨_, rfl⟩) (fun t ht hW => ⟨⟨u, ra, rfl, hp, by rw [ht, ← hwo]; exact w.1.part is hs, by rw [← hwo]; exact w.2.1.part is hn hs⟩, w.2.2.F ht⟩) w.2.2.2.2 hdg hlocks
end KXR
/-- a method's start -/
theorem CtI.of {S : Type} {l : Launch} {y : MethodName} {cc : ByteArray} {maxL : Nat} {ret : Option FieldType} {rm : Room} {G : kx_G} {as : List Value} {wc : va_W} {post : Int32 → S → Prop} {wo : S → va_W} {mc ms : Nat} (hy : plainName y.cls = true) (has : (lg_sl as).length ≤ maxL) (lv : List (Nat × Value)) (hlv : lv_args 0 as = lv)
    (body : ∀ (p : Program) (e : Env) (s : State) (m : MethodId) (args : Array Value) (below : List Frame) (meth : Method) (c : Code) (A : Nat → Prop) (ls : Array Slot) (Q : State → Prop), MQ below (va_Qi post (kx_B G A wo) A) args s mc ms A = Q → CallFix p m c cc maxL s args kx_T y.cls → meth.sig.returnType = ret → meth.locks = false → kx_F G A s → kx_W G A s (wc ++ []) s.heap [] → lv_has ls maxL lv →
      W p l e rm s m args below meth c s.heap [] 0 0 Q (F0 m 0 ls [])) : CtI l y cc maxL ret rm G as wc post wo mc ms := by
  intro sz
  refine Met.ofW (cc := cc) (maxL := maxL) (ret := ret) hy rfl ?_
  intro p e s m args below meth c s₁ B hml hv
  obtain ⟨rfl, hsz, hP, hD0, hQ⟩ := hv
  have hts := atoms_spec (ws := Cond.code y cc maxL ret :: kx_T) B.pre
  have hown : s.vm.findClass y.cls = some m.cls := findClass_of_methodNamed B.named
  subst hsz
  have hD := hD0.self (sz := s.heap.size)
  have hl := lv_entry as (n := maxL) has
  rw [lg_entry_eq]
  subst hlv
  have hA : ∀ q : Nat, s.heap.size ≤ q → va_A wc s.heap.size q := fun q h => Or.inr h
  have hw : kx_W G (va_A wc s.heap.size) s (wc ++ []) s.heap [] := ⟨by rw [List.append_nil]; exact hP, by rw [List.append_nil]; exact hD, va_S.rf⟩
  exact body p e s m _ below meth c _ _ _ rfl ⟨B.exec, B.bytes, hml, hown, fun w h => hts w (List.mem_cons_of_mem _ h)⟩ B.returns B.notSynchronized ⟨hQ, hA⟩ hw hl
theorem CtI.ofF {S : Type} {l : Launch} {y : MethodName} {cc : ByteArray} {maxL : Nat} {ret : Option FieldType} {rm : Room} {G : kx_G} {as : List Value} {wc : va_W} {post : Int32 → S → Prop} {wo : S → va_W} {mc ms : Nat} (hy : plainFor y = true) (has : (lg_sl as).length ≤ maxL) (lv : List (Nat × Value)) (hlv : lv_args 0 as = lv)
    (body : ∀ (p : Program) (e : Env) (s : State) (m : MethodId) (args : Array Value) (below : List Frame) (meth : Method) (c : Code) (A : Nat → Prop) (ls : Array Slot) (Q : State → Prop), MQ below (va_Qi post (kx_B G A wo) A) args s mc ms A = Q → CallFix p m c cc maxL s args kx_T y.cls → meth.sig.returnType = ret → meth.locks = false → kx_F G A s → kx_W G A s (wc ++ []) s.heap [] → lv_has ls maxL lv →
      W p l e rm s m args below meth c s.heap [] 0 0 Q (F0 m 0 ls [])) : CtI l y cc maxL ret rm G as wc post wo mc ms := by
  intro sz
  refine va_MetF (cc := cc) (maxL := maxL) (ret := ret) hy rfl ?_
  intro p e s m args below meth c s₁ B hml hv
  obtain ⟨rfl, hsz, hP, hD0, hQ⟩ := hv
  have hts := atoms_spec (ws := Cond.code y cc maxL ret :: kx_T) B.pre
  have hown : s.vm.findClass y.cls = some m.cls := findClass_of_methodNamed B.named
  subst hsz
  have hD := hD0.self (sz := s.heap.size)
  have hl := lv_entry as (n := maxL) has
  rw [lg_entry_eq]
  subst hlv
  have hA : ∀ q : Nat, s.heap.size ≤ q → va_A wc s.heap.size q := fun q h => Or.inr h
  have hw : kx_W G (va_A wc s.heap.size) s (wc ++ []) s.heap [] := ⟨by rw [List.append_nil]; exact hP, by rw [List.append_nil]; exact hD, va_S.rf⟩
  exact body p e s m _ below meth c _ _ _ rfl ⟨B.exec, B.bytes, hml, hown, fun w h => hts w (List.mem_cons_of_mem _ h)⟩ B.returns B.notSynchronized ⟨hQ, hA⟩ hw hl
theorem CtV.of {S : Type} {l : Launch} {y : MethodName} {cc : ByteArray} {maxL : Nat} {rm : Room} {G : kx_G} {as : List Value} {wc : va_W} {post : S → Prop} {wo : S → va_W} {mc ms : Nat} (hy : plainName y.cls = true) (has : (lg_sl as).length ≤ maxL) (lv : List (Nat × Value)) (hlv : lv_args 0 as = lv)
    (body : ∀ (p : Program) (e : Env) (s : State) (m : MethodId) (args : Array Value) (below : List Frame) (meth : Method) (c : Code) (A : Nat → Prop) (ls : Array Slot) (Q : State → Prop), MQ below (va_Qv post (kx_B G A wo) A) args s mc ms A = Q → CallFix p m c cc maxL s args kx_T y.cls → meth.sig.returnType = none → meth.locks = false → meth.name = y.name → kx_F G A s → kx_W G A s (wc ++ []) s.heap [] → lv_has ls maxL lv →
      W p l e rm s m args below meth c s.heap [] 0 0 Q (F0 m 0 ls [])) : CtV l y cc maxL rm G as wc post wo mc ms := by
  intro sz
  refine Met.ofW (cc := cc) (maxL := maxL) (ret := none) hy rfl ?_
  intro p e s m args below meth c s₁ B hml hv
  obtain ⟨rfl, hsz, hP, hD0, hQ⟩ := hv
  have hts := atoms_spec (ws := Cond.code y cc maxL none :: kx_T) B.pre
  have hown : s.vm.findClass y.cls = some m.cls := findClass_of_methodNamed B.named
  have hin : meth.name = y.name := (name_of_methodNamed B.named B.method).1
  subst hsz
  have hD := hD0.self (sz := s.heap.size)
  have hl := lv_entry as (n := maxL) has
  rw [lg_entry_eq]
  subst hlv
  have hA : ∀ q : Nat, s.heap.size ≤ q → va_A wc s.heap.size q := fun q h => Or.inr h
  have hw : kx_W G (va_A wc s.heap.size) s (wc ++ []) s.heap [] := ⟨by rw [List.append_nil]; exact hP, by rw [List.append_nil]; exact hD, va_S.rf⟩
  exact body p e s m _ below meth c _ _ _ rfl ⟨B.exec, B.bytes, hml, hown, fun w h => hts w (List.mem_cons_of_mem _ h)⟩ B.returns B.notSynchronized hin ⟨hQ, hA⟩ hw hl
theorem CtR.of {S : Type} {l : Launch} {y : MethodName} {cc : ByteArray} {maxL : Nat} {ret : Option FieldType} {rm : Room} {G : kx_G} {as : List Value} {wc : va_W} {post : S → Prop} {wo : S → Nat → va_W} {mc ms : Nat} (hy : plainName y.cls = true) (has : (lg_sl as).length ≤ maxL) (lv : List (Nat × Value)) (hlv : lv_args 0 as = lv)
    (body : ∀ (p : Program) (e : Env) (s : State) (m : MethodId) (args : Array Value) (below : List Frame) (meth : Method) (c : Code) (A : Nat → Prop) (ls : Array Slot) (Q : State → Prop), MQ below (va_Qr post (fun u a t => va_P G.1 vwCl (wo u a) t.heap ∧ va_D A (wo u a)) A) args s mc ms A = Q → CallFix p m c cc maxL s args kx_T y.cls → meth.sig.returnType = ret → meth.locks = false → kx_F G A s → kx_W G A s (wc ++ []) s.heap [] → lv_has ls maxL lv →
      W p l e rm s m args below meth c s.heap [] 0 0 Q (F0 m 0 ls [])) : CtR l y cc maxL ret rm G as wc post wo mc ms := by
  intro sz
  refine Met.ofW (cc := cc) (maxL := maxL) (ret := ret) hy rfl ?_
  intro p e s m args below meth c s₁ B hml hv
  obtain ⟨rfl, hsz, hP, hD0, hQ⟩ := hv
  have hts := atoms_spec (ws := Cond.code y cc maxL ret :: kx_T) B.pre
  have hown : s.vm.findClass y.cls = some m.cls := findClass_of_methodNamed B.named
  subst hsz
  have hD := hD0.self (sz := s.heap.size)
  have hl := lv_entry as (n := maxL) has
  rw [lg_entry_eq]
  subst hlv
  have hA : ∀ q : Nat, s.heap.size ≤ q → va_A wc s.heap.size q := fun q h => Or.inr h
  have hw : kx_W G (va_A wc s.heap.size) s (wc ++ []) s.heap [] := ⟨by rw [List.append_nil]; exact hP, by rw [List.append_nil]; exact hD, va_S.rf⟩
  exact body p e s m _ below meth c _ _ _ rfl ⟨B.exec, B.bytes, hml, hown, fun w h => hts w (List.mem_cons_of_mem _ h)⟩ B.returns B.notSynchronized ⟨hQ, hA⟩ hw hl
theorem CtV.inj {S S' : Type} {l : Launch} {y : MethodName} {cc : ByteArray} {maxL : Nat} {rm : Room} {G : kx_G} {as : List Value} {wc : va_W} {post : S → Prop} {wo : S → va_W} {post' : S' → Prop} {wo' : S' → va_W} {mc ms : Nat} (h : CtV l y cc maxL rm G as wc post wo mc ms) (g : S → S') (hp : ∀ u, post u → post' (g u)) (hw : ∀ u, wo' (g u) = wo u) : CtV l y cc maxL rm G as wc post' wo' mc ms := by
  intro sz p e ha hc hk s m args below hf happ hP hK
  obtain ⟨n, o, h1, h2, h3, ⟨⟨u, e1, e2, e3⟩, e4⟩, e5⟩ := h sz p e ha hc hk s m args below hf happ hP hK
  refine ⟨n, o, h1, h2, h3, ⟨⟨g u, e1, hp u e2, ?_⟩, e4⟩, e5⟩
  unfold kx_B at e3 ⊢
  rw [hw]
  exact e3
theorem CtI.inj {S S' : Type} {l : Launch} {y : MethodName} {cc : ByteArray} {maxL : Nat} {ret : Option FieldType} {rm : Room} {G : kx_G} {as : List Value} {wc : va_W} {post : Int32 → S → Prop} {wo : S → va_W} {post' : Int32 → S' → Prop} {wo' : S' → va_W} {mc ms : Nat} (h : CtI l y cc maxL ret rm G as wc post wo mc ms) (g : S → S') (hp : ∀ r u, post r u → post' r (g u)) (hw : ∀ u, wo' (g u) = wo u) : CtI l y cc maxL ret rm G as wc post' wo' mc ms := by
  intro sz p e ha hc hk s m args below hf happ hP hK
  obtain ⟨n, o, h1, h2, h3, ⟨⟨r, u, e1, e2, e3⟩, e4⟩, e5⟩ := h sz p e ha hc hk s m args below hf happ hP hK
  refine ⟨n, o, h1, h2, h3, ⟨⟨r, g u, e1, hp r u e2, ?_⟩, e4⟩, e5⟩
  unfold kx_B at e3 ⊢
  rw [hw]
  exact e3
/-- an object of one of the rules, as Rule's own methods see it -/
def kx_rule (ki : Nat) (KC : String) (KT : u_T) (KN : Nat) (kt : Nat → FieldType) : Prop := kx_cls ki KC KT KN kt ∧ 3 ≤ KN ∧ KT 0 = ("PrefetchRules$Rule", "degree", "I", true) ∧ KT 1 = ("PrefetchRules$Rule", "said", "[I", true) ∧ KT 2 = ("PrefetchRules$Rule", "saidCount", "I", false) ∧ kt 0 = .int ∧ kt 2 = .int ∧ kt 1 = .array .int ∧ Cond.selects KC ⟨"PrefetchRules$Rule", "say", "(I)V"⟩ ⟨"PrefetchRules$Rule", "say", "(I)V"⟩ ∈ kx_T
section KXRU
variable {ki : Nat} {KC : String} {KT : u_T} {KN : Nat} {kt : Nat → FieldType}
theorem kx_rule.lt (h : kx_rule ki KC KT KN kt) {k : Nat} (hk : k < 3) : k < KN := Nat.lt_of_lt_of_le hk h.2.1
theorem kx_rule.t0 (h : kx_rule ki KC KT KN kt) : KT 0 = ("PrefetchRules$Rule", "degree", "I", true) := h.2.2.1
theorem kx_rule.t1 (h : kx_rule ki KC KT KN kt) : KT 1 = ("PrefetchRules$Rule", "said", "[I", true) := h.2.2.2.1
theorem kx_rule.t2 (h : kx_rule ki KC KT KN kt) : KT 2 = ("PrefetchRules$Rule", "saidCount", "I", false) := h.2.2.2.2.1
theorem kx_rule.y0 (h : kx_rule ki KC KT KN kt) : kt 0 = .int := h.2.2.2.2.2.1
theorem kx_rule.y2 (h : kx_rule ki KC KT KN kt) : kt 2 = .int := h.2.2.2.2.2.2.1
theorem kx_rule.s_say (h : kx_rule ki KC KT KN kt) : Cond.selects KC ⟨"PrefetchRules$Rule", "say", "(I)V"⟩ ⟨"PrefetchRules$Rule", "say", "(I)V"⟩ ∈ kx_T := h.2.2.2.2.2.2.2.2
theorem kx_rule.y1 (h : kx_rule ki KC KT KN kt) : kt 1 = .array .int := h.2.2.2.2.2.2.2.1
end KXRU
end
section
theorem kw_0 : Cond.methodLink "PrefetchRules" 33 y_Math_floorMod ∈ kx_T := kx_mem (List.mem_of_getElem? (i := 63) (by decide +kernel)) (by decide +kernel)
theorem kw_1 : Cond.fieldLink "PrefetchRules$Store" 19 "PrefetchRules$Store" "size" "I" ∈ kx_T := kx_mem (List.mem_of_getElem? (i := 74) (by decide +kernel)) (by decide +kernel)
theorem kw_2 : Cond.fieldLink "PrefetchRules$Store" 9 "PrefetchRules$Store" "lines" "[I" ∈ kx_T := kx_mem (List.mem_of_getElem? (i := 72) (by decide +kernel)) (by decide +kernel)
theorem kw_3 : Cond.fieldLink "PrefetchRules$Store" 15 "PrefetchRules$Store" "marks" "[Z" ∈ kx_T := kx_mem (List.mem_of_getElem? (i := 73) (by decide +kernel)) (by decide +kernel)
theorem kw_4 : Cond.methodLinkNest "PrefetchRules$Store" 23 y_Main_indexOf "PrefetchRules" ∈ kx_N := kx_memN (List.mem_of_getElem? (i := 322) (by decide +kernel)) (by decide +kernel)
theorem kw_5 : Cond.methodLink "PrefetchRules$Store" 27 y_Store_moveInFront ∈ kx_T := kx_mem (List.mem_of_getElem? (i := 306) (by decide +kernel)) (by decide +kernel)
theorem kw_6 : Cond.fieldLink "PrefetchRules$Queue" 18 "PrefetchRules$Queue" "size" "I" ∈ kx_T := kx_mem (List.mem_of_getElem? (i := 92) (by decide +kernel)) (by decide +kernel)
theorem kw_7 : Cond.fieldLink "PrefetchRules$Queue" 11 "PrefetchRules$Queue" "lines" "[I" ∈ kx_T := kx_mem (List.mem_of_getElem? (i := 90) (by decide +kernel)) (by decide +kernel)
theorem kw_8 : Cond.fieldLink "PrefetchRules$Queue" 15 "PrefetchRules$Queue" "cycles" "[I" ∈ kx_T := kx_mem (List.mem_of_getElem? (i := 91) (by decide +kernel)) (by decide +kernel)
theorem kw_9 : Cond.methodLinkNest "PrefetchRules$Queue" 22 y_Main_indexOf "PrefetchRules" ∈ kx_N := kx_memN (List.mem_of_getElem? (i := 341) (by decide +kernel)) (by decide +kernel)
theorem kw_10 : Cond.fieldLink "PrefetchRules$Rule" 15 "PrefetchRules$Rule" "degree" "I" ∈ kx_T := kx_mem (List.mem_of_getElem? (i := 117) (by decide +kernel)) (by decide +kernel)
theorem kw_11 : Cond.fieldLink "PrefetchRules$Rule" 19 "PrefetchRules$Rule" "saidCount" "I" ∈ kx_T := kx_mem (List.mem_of_getElem? (i := 119) (by decide +kernel)) (by decide +kernel)
theorem kw_12 : Cond.fieldLink "PrefetchRules$Rule" 9 "PrefetchRules$Rule" "said" "[I" ∈ kx_T := kx_mem (List.mem_of_getElem? (i := 118) (by decide +kernel)) (by decide +kernel)
theorem kw_13 : Cond.code y_Rule_say b_Rule_say 2 none ∈ kx_T := kx_mem (List.mem_of_getElem? (i := 371) (by decide +kernel)) (by decide +kernel)
theorem kw_14 : Cond.methodLink "PrefetchRules$Rule" 26 ⟨"PrefetchRules$Rule", "say", "(I)V"⟩ ∈ kx_T := kx_mem (List.mem_of_getElem? (i := 363) (by decide +kernel)) (by decide +kernel)
theorem kw_15 : Cond.sameMethod "PrefetchRules$Rule" "PrefetchRules$Rule" "say" "(I)V" ∈ kx_T := kx_mem (List.mem_of_getElem? (i := 365) (by decide +kernel)) (by decide +kernel)
theorem kw_16 : Cond.instanceMethod y_Rule_say ∈ kx_T := kx_mem (List.mem_of_getElem? (i := 364) (by decide +kernel)) (by decide +kernel)
theorem kw_17 : Cond.initialized "PrefetchRules$Rule" ∈ kx_T := kx_mem (List.mem_of_getElem? (i := 40) (by decide +kernel)) (by decide +kernel)
theorem kw_18 : Cond.code y_Rule_sayInSteps b_Rule_sayInSteps 4 none ∈ kx_T := kx_mem (List.mem_of_getElem? (i := 362) (by decide +kernel)) (by decide +kernel)
theorem kw_19 : Cond.methodLink "PrefetchRules$Next" 7 ⟨"PrefetchRules$Next", "sayInSteps", "(II)V"⟩ ∈ kx_T := kx_mem (List.mem_of_getElem? (i := 357) (by decide +kernel)) (by decide +kernel)
theorem kw_20 : Cond.sameMethod "PrefetchRules$Next" "PrefetchRules$Rule" "sayInSteps" "(II)V" ∈ kx_T := kx_mem (List.mem_of_getElem? (i := 358) (by decide +kernel)) (by decide +kernel)
theorem kw_21 : Cond.selects "PrefetchRules$Next" ⟨"PrefetchRules$Next", "sayInSteps", "(II)V"⟩ y_Rule_sayInSteps ∈ kx_T := kx_mem (List.mem_of_getElem? (i := 360) (by decide +kernel)) (by decide +kernel)
theorem kw_22 : Cond.instanceMethod y_Rule_sayInSteps ∈ kx_T := kx_mem (List.mem_of_getElem? (i := 361) (by decide +kernel)) (by decide +kernel)
theorem kw_23 : Cond.fieldLink "PrefetchRules$Strides" 9 "PrefetchRules$Strides" "taken" "[Z" ∈ kx_T := kx_mem (List.mem_of_getElem? (i := 112) (by decide +kernel)) (by decide +kernel)
theorem kw_24 : Cond.fieldLink "PrefetchRules$Strides" 13 "PrefetchRules$Strides" "places" "[I" ∈ kx_T := kx_mem (List.mem_of_getElem? (i := 113) (by decide +kernel)) (by decide +kernel)
theorem kw_25 : Cond.fieldLink "PrefetchRules$Strides" 17 "PrefetchRules$Strides" "lines" "[I" ∈ kx_T := kx_mem (List.mem_of_getElem? (i := 114) (by decide +kernel)) (by decide +kernel)
theorem kw_26 : Cond.fieldLink "PrefetchRules$Strides" 20 "PrefetchRules$Strides" "strides" "[I" ∈ kx_T := kx_mem (List.mem_of_getElem? (i := 115) (by decide +kernel)) (by decide +kernel)
theorem kw_27 : Cond.fieldLink "PrefetchRules$Strides" 23 "PrefetchRules$Strides" "trusts" "[I" ∈ kx_T := kx_mem (List.mem_of_getElem? (i := 116) (by decide +kernel)) (by decide +kernel)
theorem kw_28 : Cond.methodLink "PrefetchRules$Strides" 45 Lib.Math.min.name ∈ kx_T := kx_mem (List.mem_of_getElem? (i := 463) (by decide +kernel)) (by decide +kernel)
theorem kw_29 : Cond.static Lib.Math.min.name ∈ kx_T := kx_mem (List.mem_of_getElem? (i := 412) (by decide +kernel)) (by decide +kernel)
theorem kw_30 : Cond.initialized "java/lang/Math" ∈ kx_T := kx_mem (List.mem_of_getElem? (i := 37) (by decide +kernel)) (by decide +kernel)
theorem kw_31 : Cond.code Lib.Math.min.name Lib.Math.min.code 2 (some .int) ∈ kx_T := kx_mem (List.mem_of_getElem? (i := 413) (by decide +kernel)) (by decide +kernel)
theorem kw_32 : Cond.methodLink "PrefetchRules$Strides" 26 y_Strides_rowOf ∈ kx_T := kx_mem (List.mem_of_getElem? (i := 448) (by decide +kernel)) (by decide +kernel)
theorem kw_33 : Cond.methodLink "PrefetchRules$Strides" 30 y_Strides_isOwn ∈ kx_T := kx_mem (List.mem_of_getElem? (i := 451) (by decide +kernel)) (by decide +kernel)
theorem kw_34 : Cond.methodLink "PrefetchRules$Strides" 38 y_Strides_compare ∈ kx_T := kx_mem (List.mem_of_getElem? (i := 459) (by decide +kernel)) (by decide +kernel)
theorem kw_35 : Cond.methodLink "PrefetchRules$Strides" 42 ⟨"PrefetchRules$Strides", "sayInSteps", "(II)V"⟩ ∈ kx_T := kx_mem (List.mem_of_getElem? (i := 464) (by decide +kernel)) (by decide +kernel)
theorem kw_36 : Cond.sameMethod "PrefetchRules$Strides" "PrefetchRules$Rule" "sayInSteps" "(II)V" ∈ kx_T := kx_mem (List.mem_of_getElem? (i := 465) (by decide +kernel)) (by decide +kernel)
theorem kw_37 : Cond.selects "PrefetchRules$Strides" ⟨"PrefetchRules$Strides", "sayInSteps", "(II)V"⟩ y_Rule_sayInSteps ∈ kx_T := kx_mem (List.mem_of_getElem? (i := 466) (by decide +kernel)) (by decide +kernel)
theorem kw_38 : Cond.methodLink "PrefetchRules$Strides" 34 y_Strides_begin ∈ kx_T := kx_mem (List.mem_of_getElem? (i := 455) (by decide +kernel)) (by decide +kernel)
theorem kw_39 : Cond.fieldLink "PrefetchRules$Streams" 9 "PrefetchRules$Streams" "lines" "[I" ∈ kx_T := kx_mem (List.mem_of_getElem? (i := 143) (by decide +kernel)) (by decide +kernel)
theorem kw_40 : Cond.fieldLink "PrefetchRules$Streams" 13 "PrefetchRules$Streams" "ways" "[I" ∈ kx_T := kx_mem (List.mem_of_getElem? (i := 144) (by decide +kernel)) (by decide +kernel)
theorem kw_41 : Cond.fieldLink "PrefetchRules$Streams" 16 "PrefetchRules$Streams" "size" "I" ∈ kx_T := kx_mem (List.mem_of_getElem? (i := 145) (by decide +kernel)) (by decide +kernel)
theorem kw_42 : Cond.methodLink "PrefetchRules$Streams" 24 y_Streams_moveInFront ∈ kx_T := kx_mem (List.mem_of_getElem? (i := 434) (by decide +kernel)) (by decide +kernel)
theorem kw_43 : Cond.methodLink "PrefetchRules$Streams" 32 y_Streams_begin ∈ kx_T := kx_mem (List.mem_of_getElem? (i := 441) (by decide +kernel)) (by decide +kernel)
theorem kw_44 : Cond.methodLink "PrefetchRules$Streams" 20 y_Streams_wayTo ∈ kx_T := kx_mem (List.mem_of_getElem? (i := 431) (by decide +kernel)) (by decide +kernel)
theorem kw_45 : Cond.methodLink "PrefetchRules$Streams" 28 ⟨"PrefetchRules$Streams", "sayInSteps", "(II)V"⟩ ∈ kx_T := kx_mem (List.mem_of_getElem? (i := 438) (by decide +kernel)) (by decide +kernel)
theorem kw_46 : Cond.sameMethod "PrefetchRules$Streams" "PrefetchRules$Rule" "sayInSteps" "(II)V" ∈ kx_T := kx_mem (List.mem_of_getElem? (i := 439) (by decide +kernel)) (by decide +kernel)
theorem kw_47 : Cond.selects "PrefetchRules$Streams" ⟨"PrefetchRules$Streams", "sayInSteps", "(II)V"⟩ y_Rule_sayInSteps ∈ kx_T := kx_mem (List.mem_of_getElem? (i := 440) (by decide +kernel)) (by decide +kernel)
theorem kw_48 : Cond.fieldLink "PrefetchRules$Offsets" 11 "PrefetchRules$Offsets" "recent" "[I" ∈ kx_T := kx_mem (List.mem_of_getElem? (i := 162) (by decide +kernel)) (by decide +kernel)
theorem kw_49 : Cond.fieldLink "PrefetchRules$Offsets" 52 "PrefetchRules$Offsets" "recentCount" "I" ∈ kx_T := kx_mem (List.mem_of_getElem? (i := 163) (by decide +kernel)) (by decide +kernel)
theorem kw_50 : Cond.methodLinkNest "PrefetchRules$Offsets" 55 y_Main_indexOf "PrefetchRules" ∈ kx_N := kx_memN (List.mem_of_getElem? (i := 385) (by decide +kernel)) (by decide +kernel)
theorem kw_51 : Cond.fieldLink "PrefetchRules$Offsets" 15 "PrefetchRules$Offsets" "scores" "[I" ∈ kx_T := kx_mem (List.mem_of_getElem? (i := 165) (by decide +kernel)) (by decide +kernel)
theorem kw_52 : Cond.fieldLink "PrefetchRules$Offsets" 18 "PrefetchRules$Offsets" "offset" "I" ∈ kx_T := kx_mem (List.mem_of_getElem? (i := 168) (by decide +kernel)) (by decide +kernel)
theorem kw_53 : Cond.fieldLink "PrefetchRules$Offsets" 38 "PrefetchRules$Offsets" "turn" "I" ∈ kx_T := kx_mem (List.mem_of_getElem? (i := 166) (by decide +kernel)) (by decide +kernel)
theorem kw_54 : Cond.fieldLink "PrefetchRules$Offsets" 45 "PrefetchRules$Offsets" "tries" "I" ∈ kx_T := kx_mem (List.mem_of_getElem? (i := 167) (by decide +kernel)) (by decide +kernel)
theorem kw_55 : Cond.fieldLink "PrefetchRules$Offsets" 32 "PrefetchRules$Offsets" "rounds" "I" ∈ kx_T := kx_mem (List.mem_of_getElem? (i := 169) (by decide +kernel)) (by decide +kernel)
theorem kw_56 : Cond.fieldLink "PrefetchRules$Offsets" 35 "PrefetchRules$Offsets" "CANDIDATES" "[I" ∈ kx_T := kx_mem (List.mem_of_getElem? (i := 379) (by decide +kernel)) (by decide +kernel)
theorem kw_57 : Cond.methodLink "PrefetchRules$Offsets" 41 y_Offsets_isRecent ∈ kx_T := kx_mem (List.mem_of_getElem? (i := 381) (by decide +kernel)) (by decide +kernel)
theorem kw_58 : Cond.methodLink "PrefetchRules$Offsets" 48 y_Offsets_endRound ∈ kx_T := kx_mem (List.mem_of_getElem? (i := 386) (by decide +kernel)) (by decide +kernel)
theorem kw_59 : Cond.fieldLink "PrefetchRules$Offsets" 59 "PrefetchRules$Offsets" "oldest" "I" ∈ kx_T := kx_mem (List.mem_of_getElem? (i := 164) (by decide +kernel)) (by decide +kernel)
theorem kw_60 : Cond.methodLink "PrefetchRules$Offsets" 22 y_Offsets_tryCandidate ∈ kx_T := kx_mem (List.mem_of_getElem? (i := 375) (by decide +kernel)) (by decide +kernel)
theorem kw_61 : Cond.methodLink "PrefetchRules$Offsets" 29 y_Offsets_remember ∈ kx_T := kx_mem (List.mem_of_getElem? (i := 393) (by decide +kernel)) (by decide +kernel)
theorem kw_62 : Cond.methodLink "PrefetchRules$Offsets" 25 ⟨"PrefetchRules$Offsets", "sayInSteps", "(II)V"⟩ ∈ kx_T := kx_mem (List.mem_of_getElem? (i := 390) (by decide +kernel)) (by decide +kernel)
theorem kw_63 : Cond.sameMethod "PrefetchRules$Offsets" "PrefetchRules$Rule" "sayInSteps" "(II)V" ∈ kx_T := kx_mem (List.mem_of_getElem? (i := 391) (by decide +kernel)) (by decide +kernel)
theorem kw_64 : Cond.selects "PrefetchRules$Offsets" ⟨"PrefetchRules$Offsets", "sayInSteps", "(II)V"⟩ y_Rule_sayInSteps ∈ kx_T := kx_mem (List.mem_of_getElem? (i := 392) (by decide +kernel)) (by decide +kernel)
theorem kw_65 : Cond.fieldLink "PrefetchRules$Pairs" 11 "PrefetchRules$Pairs" "taken" "[Z" ∈ kx_T := kx_mem (List.mem_of_getElem? (i := 196) (by decide +kernel)) (by decide +kernel)
theorem kw_66 : Cond.fieldLink "PrefetchRules$Pairs" 15 "PrefetchRules$Pairs" "owners" "[I" ∈ kx_T := kx_mem (List.mem_of_getElem? (i := 197) (by decide +kernel)) (by decide +kernel)
theorem kw_67 : Cond.methodLink "PrefetchRules$Pairs" 44 y_Pairs_rowOf ∈ kx_T := kx_mem (List.mem_of_getElem? (i := 404) (by decide +kernel)) (by decide +kernel)
theorem kw_68 : Cond.methodLink "PrefetchRules$Pairs" 54 y_Pairs_isOwn ∈ kx_T := kx_mem (List.mem_of_getElem? (i := 407) (by decide +kernel)) (by decide +kernel)
theorem kw_69 : Cond.fieldLink "PrefetchRules$Pairs" 19 "PrefetchRules$Pairs" "behind" "[I" ∈ kx_T := kx_mem (List.mem_of_getElem? (i := 198) (by decide +kernel)) (by decide +kernel)
theorem kw_70 : Cond.fieldLink "PrefetchRules$Pairs" 25 "PrefetchRules$Pairs" "older" "[I" ∈ kx_T := kx_mem (List.mem_of_getElem? (i := 200) (by decide +kernel)) (by decide +kernel)
theorem kw_71 : Cond.fieldLink "PrefetchRules$Pairs" 22 "PrefetchRules$Pairs" "newer" "[I" ∈ kx_T := kx_mem (List.mem_of_getElem? (i := 199) (by decide +kernel)) (by decide +kernel)
theorem kw_72 : Cond.methodLink "PrefetchRules$Pairs" 58 Lib.Math.min.name ∈ kx_T := kx_mem (List.mem_of_getElem? (i := 411) (by decide +kernel)) (by decide +kernel)
theorem kw_73 : Cond.fieldLink "PrefetchRules$Pairs" 28 "PrefetchRules$Pairs" "begun" "Z" ∈ kx_T := kx_mem (List.mem_of_getElem? (i := 201) (by decide +kernel)) (by decide +kernel)
theorem kw_74 : Cond.fieldLink "PrefetchRules$Pairs" 32 "PrefetchRules$Pairs" "before" "I" ∈ kx_T := kx_mem (List.mem_of_getElem? (i := 202) (by decide +kernel)) (by decide +kernel)
theorem kw_75 : Cond.methodLink "PrefetchRules$Pairs" 40 y_Pairs_behindCount ∈ kx_T := kx_mem (List.mem_of_getElem? (i := 414) (by decide +kernel)) (by decide +kernel)
theorem kw_76 : Cond.code y_Rule_degree b_Rule_degree 1 (some .int) ∈ kx_T := kx_mem (List.mem_of_getElem? (i := 427) (by decide +kernel)) (by decide +kernel)
theorem kw_77 : Cond.methodLink "PrefetchRules$Pairs" 50 ⟨"PrefetchRules$Pairs", "degree", "()I"⟩ ∈ kx_T := kx_mem (List.mem_of_getElem? (i := 422) (by decide +kernel)) (by decide +kernel)
theorem kw_78 : Cond.sameMethod "PrefetchRules$Pairs" "PrefetchRules$Rule" "degree" "()I" ∈ kx_T := kx_mem (List.mem_of_getElem? (i := 423) (by decide +kernel)) (by decide +kernel)
theorem kw_79 : Cond.selects "PrefetchRules$Pairs" ⟨"PrefetchRules$Pairs", "degree", "()I"⟩ y_Rule_degree ∈ kx_T := kx_mem (List.mem_of_getElem? (i := 425) (by decide +kernel)) (by decide +kernel)
theorem kw_80 : Cond.instanceMethod y_Rule_degree ∈ kx_T := kx_mem (List.mem_of_getElem? (i := 426) (by decide +kernel)) (by decide +kernel)
theorem kw_81 : Cond.methodLink "PrefetchRules$Pairs" 47 ⟨"PrefetchRules$Pairs", "say", "(I)V"⟩ ∈ kx_T := kx_mem (List.mem_of_getElem? (i := 418) (by decide +kernel)) (by decide +kernel)
theorem kw_82 : Cond.sameMethod "PrefetchRules$Pairs" "PrefetchRules$Rule" "say" "(I)V" ∈ kx_T := kx_mem (List.mem_of_getElem? (i := 419) (by decide +kernel)) (by decide +kernel)
theorem kw_83 : Cond.selects "PrefetchRules$Pairs" ⟨"PrefetchRules$Pairs", "say", "(I)V"⟩ y_Rule_say ∈ kx_T := kx_mem (List.mem_of_getElem? (i := 421) (by decide +kernel)) (by decide +kernel)
theorem kw_84 : Cond.methodLink "PrefetchRules$Pairs" 36 y_Pairs_follow ∈ kx_T := kx_mem (List.mem_of_getElem? (i := 400) (by decide +kernel)) (by decide +kernel)
theorem kw_85 : Cond.code y_Next_learn b_Next_learn 3 none ∈ kx_T := kx_mem (List.mem_of_getElem? (i := 356) (by decide +kernel)) (by decide +kernel)
theorem kw_86 : Cond.methodLink "PrefetchRules$Rule" 22 ⟨"PrefetchRules$Rule", "learn", "(II)V"⟩ ∈ kx_T := kx_mem (List.mem_of_getElem? (i := 351) (by decide +kernel)) (by decide +kernel)
theorem kw_87 : Cond.sameMethod "PrefetchRules$Rule" "PrefetchRules$Rule" "learn" "(II)V" ∈ kx_T := kx_mem (List.mem_of_getElem? (i := 353) (by decide +kernel)) (by decide +kernel)
theorem kw_88 : Cond.selects "PrefetchRules$Next" ⟨"PrefetchRules$Rule", "learn", "(II)V"⟩ y_Next_learn ∈ kx_T := kx_mem (List.mem_of_getElem? (i := 354) (by decide +kernel)) (by decide +kernel)
theorem kw_89 : Cond.instanceMethod y_Next_learn ∈ kx_T := kx_mem (List.mem_of_getElem? (i := 355) (by decide +kernel)) (by decide +kernel)
theorem kw_90 : Cond.initialized "PrefetchRules$Next" ∈ kx_T := kx_mem (List.mem_of_getElem? (i := 45) (by decide +kernel)) (by decide +kernel)
theorem kw_91 : Cond.declares ⟨"PrefetchRules$Rule", "learn", "(II)V"⟩ ∈ kx_N := kx_memN (List.mem_of_getElem? (i := 352) (by decide +kernel)) (by decide +kernel)
theorem kw_92 : Cond.code y_Strides_learn b_Strides_learn 4 none ∈ kx_T := kx_mem (List.mem_of_getElem? (i := 447) (by decide +kernel)) (by decide +kernel)
theorem kw_93 : Cond.selects "PrefetchRules$Strides" ⟨"PrefetchRules$Rule", "learn", "(II)V"⟩ y_Strides_learn ∈ kx_T := kx_mem (List.mem_of_getElem? (i := 445) (by decide +kernel)) (by decide +kernel)
theorem kw_94 : Cond.instanceMethod y_Strides_learn ∈ kx_T := kx_mem (List.mem_of_getElem? (i := 446) (by decide +kernel)) (by decide +kernel)
theorem kw_95 : Cond.initialized "PrefetchRules$Strides" ∈ kx_T := kx_mem (List.mem_of_getElem? (i := 41) (by decide +kernel)) (by decide +kernel)
theorem kw_96 : Cond.code y_Streams_learn b_Streams_learn 5 none ∈ kx_T := kx_mem (List.mem_of_getElem? (i := 430) (by decide +kernel)) (by decide +kernel)
theorem kw_97 : Cond.selects "PrefetchRules$Streams" ⟨"PrefetchRules$Rule", "learn", "(II)V"⟩ y_Streams_learn ∈ kx_T := kx_mem (List.mem_of_getElem? (i := 428) (by decide +kernel)) (by decide +kernel)
theorem kw_98 : Cond.instanceMethod y_Streams_learn ∈ kx_T := kx_mem (List.mem_of_getElem? (i := 429) (by decide +kernel)) (by decide +kernel)
theorem kw_99 : Cond.initialized "PrefetchRules$Streams" ∈ kx_T := kx_mem (List.mem_of_getElem? (i := 42) (by decide +kernel)) (by decide +kernel)
theorem kw_100 : Cond.code y_Offsets_learn b_Offsets_learn 3 none ∈ kx_T := kx_mem (List.mem_of_getElem? (i := 374) (by decide +kernel)) (by decide +kernel)
theorem kw_101 : Cond.selects "PrefetchRules$Offsets" ⟨"PrefetchRules$Rule", "learn", "(II)V"⟩ y_Offsets_learn ∈ kx_T := kx_mem (List.mem_of_getElem? (i := 372) (by decide +kernel)) (by decide +kernel)
theorem kw_102 : Cond.instanceMethod y_Offsets_learn ∈ kx_T := kx_mem (List.mem_of_getElem? (i := 373) (by decide +kernel)) (by decide +kernel)
theorem kw_103 : Cond.initialized "PrefetchRules$Offsets" ∈ kx_T := kx_mem (List.mem_of_getElem? (i := 43) (by decide +kernel)) (by decide +kernel)
theorem kw_104 : Cond.code y_Pairs_learn b_Pairs_learn 4 none ∈ kx_T := kx_mem (List.mem_of_getElem? (i := 399) (by decide +kernel)) (by decide +kernel)
theorem kw_105 : Cond.selects "PrefetchRules$Pairs" ⟨"PrefetchRules$Rule", "learn", "(II)V"⟩ y_Pairs_learn ∈ kx_T := kx_mem (List.mem_of_getElem? (i := 397) (by decide +kernel)) (by decide +kernel)
theorem kw_106 : Cond.instanceMethod y_Pairs_learn ∈ kx_T := kx_mem (List.mem_of_getElem? (i := 398) (by decide +kernel)) (by decide +kernel)
theorem kw_107 : Cond.initialized "PrefetchRules$Pairs" ∈ kx_T := kx_mem (List.mem_of_getElem? (i := 44) (by decide +kernel)) (by decide +kernel)
theorem kw_108 : Cond.methodLink "PrefetchRules$Store" 3 Lib.objectInit ∈ kx_T := kx_mem (List.mem_of_getElem? (i := 71) (by decide +kernel)) (by decide +kernel)
theorem kw_109 : Cond.instanceMethod Lib.objectInit ∈ kx_T := kx_mem (List.mem_of_getElem? (i := 58) (by decide +kernel)) (by decide +kernel)
theorem kw_110 : Cond.code Lib.objectInit ⟨#[0xb1]⟩ 1 none ∈ kx_T := kx_mem (List.mem_of_getElem? (i := 59) (by decide +kernel)) (by decide +kernel)
theorem kw_111 : Cond.arrayClass .int ∈ kx_T := kx_mem (List.mem_of_getElem? (i := 82) (by decide +kernel)) (by decide +kernel)
theorem kw_112 : Cond.arrayClass .boolean ∈ kx_T := kx_mem (List.mem_of_getElem? (i := 83) (by decide +kernel)) (by decide +kernel)
theorem kw_113 : Cond.methodLink "PrefetchRules$Queue" 3 Lib.objectInit ∈ kx_T := kx_mem (List.mem_of_getElem? (i := 89) (by decide +kernel)) (by decide +kernel)
theorem kw_114 : Cond.methodLink "PrefetchRules$Rule" 3 Lib.objectInit ∈ kx_T := kx_mem (List.mem_of_getElem? (i := 111) (by decide +kernel)) (by decide +kernel)
theorem kw_115 : Cond.methodLink "PrefetchRules$Next" 1 y_Rule_init ∈ kx_T := kx_mem (List.mem_of_getElem? (i := 226) (by decide +kernel)) (by decide +kernel)
theorem kw_116 : Cond.methodLink "PrefetchRules$Strides" 1 y_Rule_init ∈ kx_T := kx_mem (List.mem_of_getElem? (i := 108) (by decide +kernel)) (by decide +kernel)
theorem kw_117 : Cond.methodLink "PrefetchRules$Streams" 1 y_Rule_init ∈ kx_T := kx_mem (List.mem_of_getElem? (i := 142) (by decide +kernel)) (by decide +kernel)
theorem kw_118 : Cond.methodLink "PrefetchRules$Offsets" 5 y_Rule_init ∈ kx_T := kx_mem (List.mem_of_getElem? (i := 161) (by decide +kernel)) (by decide +kernel)
theorem kw_119 : Cond.methodLink "PrefetchRules$Pairs" 3 y_Rule_init ∈ kx_T := kx_mem (List.mem_of_getElem? (i := 195) (by decide +kernel)) (by decide +kernel)
theorem kw_120 : Cond.fieldLink "PrefetchRules" 22 "PrefetchRules" "store" "LPrefetchRules$Store;" ∈ kx_T := kx_mem (List.mem_of_getElem? (i := 232) (by decide +kernel)) (by decide +kernel)
theorem kw_121 : Cond.methodLink "PrefetchRules" 177 y_Store_isFull ∈ kx_T := kx_mem (List.mem_of_getElem? (i := 294) (by decide +kernel)) (by decide +kernel)
theorem kw_122 : Cond.methodLink "PrefetchRules" 184 y_Store_putFirst ∈ kx_T := kx_mem (List.mem_of_getElem? (i := 302) (by decide +kernel)) (by decide +kernel)
theorem kw_123 : Cond.methodLink "PrefetchRules" 181 y_Store_dropLast ∈ kx_T := kx_mem (List.mem_of_getElem? (i := 298) (by decide +kernel)) (by decide +kernel)
theorem kw_124 : Cond.fieldLink "PrefetchRules" 91 "PrefetchRules" "useless" "I" ∈ kx_T := kx_mem (List.mem_of_getElem? (i := 241) (by decide +kernel)) (by decide +kernel)
theorem kw_125 : Cond.fieldLink "PrefetchRules" 128 "PrefetchRules" "hits" "I" ∈ kx_T := kx_mem (List.mem_of_getElem? (i := 237) (by decide +kernel)) (by decide +kernel)
theorem kw_126 : Cond.methodLink "PrefetchRules" 97 y_Store_isMarked ∈ kx_T := kx_mem (List.mem_of_getElem? (i := 329) (by decide +kernel)) (by decide +kernel)
theorem kw_127 : Cond.methodLink "PrefetchRules" 190 y_Store_use ∈ kx_T := kx_mem (List.mem_of_getElem? (i := 333) (by decide +kernel)) (by decide +kernel)
theorem kw_128 : Cond.fieldLink "PrefetchRules" 137 "PrefetchRules" "useful" "I" ∈ kx_T := kx_mem (List.mem_of_getElem? (i := 240) (by decide +kernel)) (by decide +kernel)
theorem kw_129 : Cond.methodLink "PrefetchRules" 94 y_Store_find ∈ kx_T := kx_mem (List.mem_of_getElem? (i := 318) (by decide +kernel)) (by decide +kernel)
theorem kw_130 : Cond.fieldLink "PrefetchRules" 140 "PrefetchRules" "filtered" "I" ∈ kx_T := kx_mem (List.mem_of_getElem? (i := 242) (by decide +kernel)) (by decide +kernel)
theorem kw_131 : Cond.fieldLink "PrefetchRules" 29 "PrefetchRules" "queue" "LPrefetchRules$Queue;" ∈ kx_T := kx_mem (List.mem_of_getElem? (i := 233) (by decide +kernel)) (by decide +kernel)
theorem kw_132 : Cond.methodLink "PrefetchRules" 101 y_Queue_find ∈ kx_T := kx_mem (List.mem_of_getElem? (i := 337) (by decide +kernel)) (by decide +kernel)
theorem kw_133 : Cond.methodLink "PrefetchRules" 193 y_Queue_isFull ∈ kx_T := kx_mem (List.mem_of_getElem? (i := 489) (by decide +kernel)) (by decide +kernel)
theorem kw_134 : Cond.fieldLink "PrefetchRules" 119 "PrefetchRules" "cycles" "I" ∈ kx_T := kx_mem (List.mem_of_getElem? (i := 235) (by decide +kernel)) (by decide +kernel)
theorem kw_135 : Cond.fieldLink "PrefetchRules" 13 "PrefetchRules" "latency" "I" ∈ kx_T := kx_mem (List.mem_of_getElem? (i := 231) (by decide +kernel)) (by decide +kernel)
theorem kw_136 : Cond.methodLink "PrefetchRules" 194 y_Queue_add ∈ kx_T := kx_mem (List.mem_of_getElem? (i := 493) (by decide +kernel)) (by decide +kernel)
theorem kw_137 : Cond.fieldLink "PrefetchRules" 146 "PrefetchRules" "fetches" "I" ∈ kx_T := kx_mem (List.mem_of_getElem? (i := 244) (by decide +kernel)) (by decide +kernel)
theorem kw_138 : Cond.fieldLink "PrefetchRules" 143 "PrefetchRules" "dropped" "I" ∈ kx_T := kx_mem (List.mem_of_getElem? (i := 243) (by decide +kernel)) (by decide +kernel)
theorem kw_139 : Cond.methodLink "PrefetchRules" 167 y_Queue_firstIsDue ∈ kx_T := kx_mem (List.mem_of_getElem? (i := 282) (by decide +kernel)) (by decide +kernel)
theorem kw_140 : Cond.methodLink "PrefetchRules" 115 y_Queue_lineAt ∈ kx_T := kx_mem (List.mem_of_getElem? (i := 286) (by decide +kernel)) (by decide +kernel)
theorem kw_141 : Cond.methodLink "PrefetchRules" 170 y_Main_come ∈ kx_T := kx_mem (List.mem_of_getElem? (i := 290) (by decide +kernel)) (by decide +kernel)
theorem kw_142 : Cond.methodLink "PrefetchRules" 174 y_Queue_remove ∈ kx_T := kx_mem (List.mem_of_getElem? (i := 310) (by decide +kernel)) (by decide +kernel)
theorem kw_143 : Cond.fieldLink "PrefetchRules" 134 "PrefetchRules" "misses" "I" ∈ kx_T := kx_mem (List.mem_of_getElem? (i := 239) (by decide +kernel)) (by decide +kernel)
theorem kw_144 : Cond.fieldLink "PrefetchRules" 131 "PrefetchRules" "late" "I" ∈ kx_T := kx_mem (List.mem_of_getElem? (i := 238) (by decide +kernel)) (by decide +kernel)
theorem kw_145 : Cond.methodLink "PrefetchRules" 187 y_Main_hit ∈ kx_T := kx_mem (List.mem_of_getElem? (i := 325) (by decide +kernel)) (by decide +kernel)
theorem kw_146 : Cond.methodLink "PrefetchRules" 49 y_Main_nextCycle ∈ kx_T := kx_mem (List.mem_of_getElem? (i := 278) (by decide +kernel)) (by decide +kernel)
theorem kw_147 : Cond.methodLink "PrefetchRules" 79 y_Queue_size ∈ kx_T := kx_mem (List.mem_of_getElem? (i := 501) (by decide +kernel)) (by decide +kernel)
theorem kw_148 : Cond.methodLink "PrefetchRules" 82 y_Store_markCount ∈ kx_T := kx_mem (List.mem_of_getElem? (i := 505) (by decide +kernel)) (by decide +kernel)
theorem kw_149 : Cond.methodLink "PrefetchRules" 85 y_Queue_clear ∈ kx_T := kx_mem (List.mem_of_getElem? (i := 509) (by decide +kernel)) (by decide +kernel)
theorem kw_150 : Cond.methodLink "PrefetchRules" 88 y_Store_clearMarks ∈ kx_T := kx_mem (List.mem_of_getElem? (i := 513) (by decide +kernel)) (by decide +kernel)
theorem kw_151 : Cond.methodLink "PrefetchRules" 102 y_Store_size ∈ kx_T := kx_mem (List.mem_of_getElem? (i := 569) (by decide +kernel)) (by decide +kernel)
theorem kw_152 : Cond.methodLink "PrefetchRules" 108 y_Store_lineAt ∈ kx_T := kx_mem (List.mem_of_getElem? (i := 686) (by decide +kernel)) (by decide +kernel)
theorem kw_153 : Cond.methodLink "PrefetchRules" 116 y_Queue_cycleAt ∈ kx_T := kx_mem (List.mem_of_getElem? (i := 699) (by decide +kernel)) (by decide +kernel)
theorem kw_154 : Cond.fieldLink "PrefetchRules" 46 "PrefetchRules" "accesses" "I" ∈ kx_T := kx_mem (List.mem_of_getElem? (i := 236) (by decide +kernel)) (by decide +kernel)
theorem kw_155 : Cond.methodLink "PrefetchRules" 53 y_Main_ask ∈ kx_T := kx_mem (List.mem_of_getElem? (i := 314) (by decide +kernel)) (by decide +kernel)
theorem kw_156 : Cond.fieldLink "PrefetchRules" 42 "PrefetchRules" "rule" "LPrefetchRules$Rule;" ∈ kx_T := kx_mem (List.mem_of_getElem? (i := 234) (by decide +kernel)) (by decide +kernel)
theorem kw_157 : Cond.methodLink "PrefetchRules" 69 y_Main_fetch ∈ kx_T := kx_mem (List.mem_of_getElem? (i := 485) (by decide +kernel)) (by decide +kernel)
theorem kw_158 : Cond.classLink "PrefetchRules" 152 "PrefetchRules$Strides" ∈ kx_T := kx_mem (List.mem_of_getElem? (i := 103) (by decide +kernel)) (by decide +kernel)
theorem kw_159 : Cond.instantiable "PrefetchRules$Strides" 8 ∈ kx_T := kx_mem (List.mem_of_getElem? (i := 104) (by decide +kernel)) (by decide +kernel)
theorem kw_160 : Cond.methodLink "PrefetchRules" 154 y_Strides_init ∈ kx_T := kx_mem (List.mem_of_getElem? (i := 105) (by decide +kernel)) (by decide +kernel)
theorem kw_161 : Cond.classLink "PrefetchRules" 155 "PrefetchRules$Streams" ∈ kx_T := kx_mem (List.mem_of_getElem? (i := 137) (by decide +kernel)) (by decide +kernel)
theorem kw_162 : Cond.instantiable "PrefetchRules$Streams" 6 ∈ kx_T := kx_mem (List.mem_of_getElem? (i := 138) (by decide +kernel)) (by decide +kernel)
theorem kw_163 : Cond.methodLink "PrefetchRules" 157 y_Streams_init ∈ kx_T := kx_mem (List.mem_of_getElem? (i := 139) (by decide +kernel)) (by decide +kernel)
theorem kw_164 : Cond.classLink "PrefetchRules" 158 "PrefetchRules$Offsets" ∈ kx_T := kx_mem (List.mem_of_getElem? (i := 156) (by decide +kernel)) (by decide +kernel)
theorem kw_165 : Cond.instantiable "PrefetchRules$Offsets" 11 ∈ kx_T := kx_mem (List.mem_of_getElem? (i := 157) (by decide +kernel)) (by decide +kernel)
theorem kw_166 : Cond.methodLink "PrefetchRules" 160 y_Offsets_init ∈ kx_T := kx_mem (List.mem_of_getElem? (i := 158) (by decide +kernel)) (by decide +kernel)
theorem kw_167 : Cond.classLink "PrefetchRules" 161 "PrefetchRules$Pairs" ∈ kx_T := kx_mem (List.mem_of_getElem? (i := 190) (by decide +kernel)) (by decide +kernel)
theorem kw_168 : Cond.instantiable "PrefetchRules$Pairs" 10 ∈ kx_T := kx_mem (List.mem_of_getElem? (i := 191) (by decide +kernel)) (by decide +kernel)
theorem kw_169 : Cond.methodLink "PrefetchRules" 163 y_Pairs_init ∈ kx_T := kx_mem (List.mem_of_getElem? (i := 192) (by decide +kernel)) (by decide +kernel)
theorem kw_170 : Cond.classLink "PrefetchRules" 164 "PrefetchRules$Next" ∈ kx_T := kx_mem (List.mem_of_getElem? (i := 221) (by decide +kernel)) (by decide +kernel)
theorem kw_171 : Cond.instantiable "PrefetchRules$Next" 3 ∈ kx_T := kx_mem (List.mem_of_getElem? (i := 222) (by decide +kernel)) (by decide +kernel)
theorem kw_172 : Cond.methodLink "PrefetchRules" 166 y_Next_init ∈ kx_T := kx_mem (List.mem_of_getElem? (i := 223) (by decide +kernel)) (by decide +kernel)
theorem kw_173 : Cond.methodLink "PrefetchRules" 1 Lib.objectInit ∈ kx_T := kx_mem (List.mem_of_getElem? (i := 57) (by decide +kernel)) (by decide +kernel)
theorem kw_174 : Cond.methodLink "PrefetchRules" 9 y_Main_oneTo ∈ kx_T := kx_mem (List.mem_of_getElem? (i := 60) (by decide +kernel)) (by decide +kernel)
theorem kw_175 : Cond.classLink "PrefetchRules" 17 "PrefetchRules$Store" ∈ kx_T := kx_mem (List.mem_of_getElem? (i := 66) (by decide +kernel)) (by decide +kernel)
theorem kw_176 : Cond.instantiable "PrefetchRules$Store" 3 ∈ kx_T := kx_mem (List.mem_of_getElem? (i := 67) (by decide +kernel)) (by decide +kernel)
theorem kw_177 : Cond.initialized "PrefetchRules$Store" ∈ kx_T := kx_mem (List.mem_of_getElem? (i := 38) (by decide +kernel)) (by decide +kernel)
theorem kw_178 : Cond.methodLink "PrefetchRules" 19 y_Store_init ∈ kx_T := kx_mem (List.mem_of_getElem? (i := 68) (by decide +kernel)) (by decide +kernel)
theorem kw_179 : Cond.classLink "PrefetchRules" 26 "PrefetchRules$Queue" ∈ kx_T := kx_mem (List.mem_of_getElem? (i := 84) (by decide +kernel)) (by decide +kernel)
theorem kw_180 : Cond.instantiable "PrefetchRules$Queue" 3 ∈ kx_T := kx_mem (List.mem_of_getElem? (i := 85) (by decide +kernel)) (by decide +kernel)
theorem kw_181 : Cond.initialized "PrefetchRules$Queue" ∈ kx_T := kx_mem (List.mem_of_getElem? (i := 39) (by decide +kernel)) (by decide +kernel)
theorem kw_182 : Cond.methodLinkNest "PrefetchRules" 28 y_Queue_init "PrefetchRules" ∈ kx_N := kx_memN (List.mem_of_getElem? (i := 86) (by decide +kernel)) (by decide +kernel)
theorem kw_183 : Cond.methodLink "PrefetchRules" 38 y_Main_ruleOf ∈ kx_T := kx_mem (List.mem_of_getElem? (i := 100) (by decide +kernel)) (by decide +kernel)
theorem kw_184 : Cond.code y_Rule_hear b_Rule_hear 3 none ∈ kx_T := kx_mem (List.mem_of_getElem? (i := 350) (by decide +kernel)) (by decide +kernel)
theorem kw_185 : Cond.methodLink "PrefetchRules" 57 ⟨"PrefetchRules$Rule", "hear", "(II)V"⟩ ∈ kx_T := kx_mem (List.mem_of_getElem? (i := 342) (by decide +kernel)) (by decide +kernel)
theorem kw_186 : Cond.sameMethod "PrefetchRules$Rule" "PrefetchRules$Rule" "hear" "(II)V" ∈ kx_T := kx_mem (List.mem_of_getElem? (i := 344) (by decide +kernel)) (by decide +kernel)
theorem kw_187 : Cond.selects "PrefetchRules$Next" ⟨"PrefetchRules$Rule", "hear", "(II)V"⟩ y_Rule_hear ∈ kx_T := kx_mem (List.mem_of_getElem? (i := 345) (by decide +kernel)) (by decide +kernel)
theorem kw_188 : Cond.instanceMethod y_Rule_hear ∈ kx_T := kx_mem (List.mem_of_getElem? (i := 343) (by decide +kernel)) (by decide +kernel)
theorem kw_189 : Cond.selects "PrefetchRules$Strides" ⟨"PrefetchRules$Rule", "hear", "(II)V"⟩ y_Rule_hear ∈ kx_T := kx_mem (List.mem_of_getElem? (i := 349) (by decide +kernel)) (by decide +kernel)
theorem kw_190 : Cond.selects "PrefetchRules$Streams" ⟨"PrefetchRules$Rule", "hear", "(II)V"⟩ y_Rule_hear ∈ kx_T := kx_mem (List.mem_of_getElem? (i := 348) (by decide +kernel)) (by decide +kernel)
theorem kw_191 : Cond.selects "PrefetchRules$Offsets" ⟨"PrefetchRules$Rule", "hear", "(II)V"⟩ y_Rule_hear ∈ kx_T := kx_mem (List.mem_of_getElem? (i := 346) (by decide +kernel)) (by decide +kernel)
theorem kw_192 : Cond.selects "PrefetchRules$Pairs" ⟨"PrefetchRules$Rule", "hear", "(II)V"⟩ y_Rule_hear ∈ kx_T := kx_mem (List.mem_of_getElem? (i := 347) (by decide +kernel)) (by decide +kernel)
theorem kw_193 : Cond.code y_Rule_saidCount b_Rule_saidCount 1 (some .int) ∈ kx_T := kx_mem (List.mem_of_getElem? (i := 475) (by decide +kernel)) (by decide +kernel)
theorem kw_194 : Cond.methodLink "PrefetchRules" 63 ⟨"PrefetchRules$Rule", "saidCount", "()I"⟩ ∈ kx_T := kx_mem (List.mem_of_getElem? (i := 467) (by decide +kernel)) (by decide +kernel)
theorem kw_195 : Cond.sameMethod "PrefetchRules$Rule" "PrefetchRules$Rule" "saidCount" "()I" ∈ kx_T := kx_mem (List.mem_of_getElem? (i := 469) (by decide +kernel)) (by decide +kernel)
theorem kw_196 : Cond.selects "PrefetchRules$Next" ⟨"PrefetchRules$Rule", "saidCount", "()I"⟩ y_Rule_saidCount ∈ kx_T := kx_mem (List.mem_of_getElem? (i := 470) (by decide +kernel)) (by decide +kernel)
theorem kw_197 : Cond.instanceMethod y_Rule_saidCount ∈ kx_T := kx_mem (List.mem_of_getElem? (i := 468) (by decide +kernel)) (by decide +kernel)
theorem kw_198 : Cond.selects "PrefetchRules$Strides" ⟨"PrefetchRules$Rule", "saidCount", "()I"⟩ y_Rule_saidCount ∈ kx_T := kx_mem (List.mem_of_getElem? (i := 474) (by decide +kernel)) (by decide +kernel)
theorem kw_199 : Cond.selects "PrefetchRules$Streams" ⟨"PrefetchRules$Rule", "saidCount", "()I"⟩ y_Rule_saidCount ∈ kx_T := kx_mem (List.mem_of_getElem? (i := 473) (by decide +kernel)) (by decide +kernel)
theorem kw_200 : Cond.selects "PrefetchRules$Offsets" ⟨"PrefetchRules$Rule", "saidCount", "()I"⟩ y_Rule_saidCount ∈ kx_T := kx_mem (List.mem_of_getElem? (i := 471) (by decide +kernel)) (by decide +kernel)
theorem kw_201 : Cond.selects "PrefetchRules$Pairs" ⟨"PrefetchRules$Rule", "saidCount", "()I"⟩ y_Rule_saidCount ∈ kx_T := kx_mem (List.mem_of_getElem? (i := 472) (by decide +kernel)) (by decide +kernel)
theorem kw_202 : Cond.code y_Rule_saidLine b_Rule_saidLine 2 (some .int) ∈ kx_T := kx_mem (List.mem_of_getElem? (i := 484) (by decide +kernel)) (by decide +kernel)
theorem kw_203 : Cond.methodLink "PrefetchRules" 66 ⟨"PrefetchRules$Rule", "saidLine", "(I)I"⟩ ∈ kx_T := kx_mem (List.mem_of_getElem? (i := 476) (by decide +kernel)) (by decide +kernel)
theorem kw_204 : Cond.sameMethod "PrefetchRules$Rule" "PrefetchRules$Rule" "saidLine" "(I)I" ∈ kx_T := kx_mem (List.mem_of_getElem? (i := 478) (by decide +kernel)) (by decide +kernel)
theorem kw_205 : Cond.selects "PrefetchRules$Next" ⟨"PrefetchRules$Rule", "saidLine", "(I)I"⟩ y_Rule_saidLine ∈ kx_T := kx_mem (List.mem_of_getElem? (i := 479) (by decide +kernel)) (by decide +kernel)
theorem kw_206 : Cond.instanceMethod y_Rule_saidLine ∈ kx_T := kx_mem (List.mem_of_getElem? (i := 477) (by decide +kernel)) (by decide +kernel)
theorem kw_207 : Cond.selects "PrefetchRules$Strides" ⟨"PrefetchRules$Rule", "saidLine", "(I)I"⟩ y_Rule_saidLine ∈ kx_T := kx_mem (List.mem_of_getElem? (i := 483) (by decide +kernel)) (by decide +kernel)
theorem kw_208 : Cond.selects "PrefetchRules$Streams" ⟨"PrefetchRules$Rule", "saidLine", "(I)I"⟩ y_Rule_saidLine ∈ kx_T := kx_mem (List.mem_of_getElem? (i := 482) (by decide +kernel)) (by decide +kernel)
theorem kw_209 : Cond.selects "PrefetchRules$Offsets" ⟨"PrefetchRules$Rule", "saidLine", "(I)I"⟩ y_Rule_saidLine ∈ kx_T := kx_mem (List.mem_of_getElem? (i := 480) (by decide +kernel)) (by decide +kernel)
theorem kw_210 : Cond.selects "PrefetchRules$Pairs" ⟨"PrefetchRules$Rule", "saidLine", "(I)I"⟩ y_Rule_saidLine ∈ kx_T := kx_mem (List.mem_of_getElem? (i := 481) (by decide +kernel)) (by decide +kernel)
theorem kw_211 : Cond.code y_Next_knowledge b_Next_knowledge 2 (some .int) ∈ kx_T := kx_mem (List.mem_of_getElem? (i := 530) (by decide +kernel)) (by decide +kernel)
theorem kw_212 : Cond.methodLink "PrefetchRules" 122 ⟨"PrefetchRules$Rule", "knowledge", "(I)I"⟩ ∈ kx_T := kx_mem (List.mem_of_getElem? (i := 525) (by decide +kernel)) (by decide +kernel)
theorem kw_213 : Cond.sameMethod "PrefetchRules$Rule" "PrefetchRules$Rule" "knowledge" "(I)I" ∈ kx_T := kx_mem (List.mem_of_getElem? (i := 527) (by decide +kernel)) (by decide +kernel)
theorem kw_214 : Cond.selects "PrefetchRules$Next" ⟨"PrefetchRules$Rule", "knowledge", "(I)I"⟩ y_Next_knowledge ∈ kx_T := kx_mem (List.mem_of_getElem? (i := 528) (by decide +kernel)) (by decide +kernel)
theorem kw_215 : Cond.instanceMethod y_Next_knowledge ∈ kx_T := kx_mem (List.mem_of_getElem? (i := 529) (by decide +kernel)) (by decide +kernel)
theorem kw_216 : Cond.declares ⟨"PrefetchRules$Rule", "knowledge", "(I)I"⟩ ∈ kx_N := kx_memN (List.mem_of_getElem? (i := 526) (by decide +kernel)) (by decide +kernel)
theorem kw_217 : Cond.code y_Strides_knowledge b_Strides_knowledge 3 (some .int) ∈ kx_T := kx_mem (List.mem_of_getElem? (i := 542) (by decide +kernel)) (by decide +kernel)
theorem kw_218 : Cond.selects "PrefetchRules$Strides" ⟨"PrefetchRules$Rule", "knowledge", "(I)I"⟩ y_Strides_knowledge ∈ kx_T := kx_mem (List.mem_of_getElem? (i := 540) (by decide +kernel)) (by decide +kernel)
theorem kw_219 : Cond.instanceMethod y_Strides_knowledge ∈ kx_T := kx_mem (List.mem_of_getElem? (i := 541) (by decide +kernel)) (by decide +kernel)
theorem kw_220 : Cond.code y_Streams_knowledge b_Streams_knowledge 2 (some .int) ∈ kx_T := kx_mem (List.mem_of_getElem? (i := 539) (by decide +kernel)) (by decide +kernel)
theorem kw_221 : Cond.selects "PrefetchRules$Streams" ⟨"PrefetchRules$Rule", "knowledge", "(I)I"⟩ y_Streams_knowledge ∈ kx_T := kx_mem (List.mem_of_getElem? (i := 537) (by decide +kernel)) (by decide +kernel)
theorem kw_222 : Cond.instanceMethod y_Streams_knowledge ∈ kx_T := kx_mem (List.mem_of_getElem? (i := 538) (by decide +kernel)) (by decide +kernel)
theorem kw_223 : Cond.code y_Offsets_knowledge b_Offsets_knowledge 2 (some .int) ∈ kx_T := kx_mem (List.mem_of_getElem? (i := 533) (by decide +kernel)) (by decide +kernel)
theorem kw_224 : Cond.selects "PrefetchRules$Offsets" ⟨"PrefetchRules$Rule", "knowledge", "(I)I"⟩ y_Offsets_knowledge ∈ kx_T := kx_mem (List.mem_of_getElem? (i := 531) (by decide +kernel)) (by decide +kernel)
theorem kw_225 : Cond.instanceMethod y_Offsets_knowledge ∈ kx_T := kx_mem (List.mem_of_getElem? (i := 532) (by decide +kernel)) (by decide +kernel)
theorem kw_226 : Cond.code y_Pairs_knowledge b_Pairs_knowledge 2 (some .int) ∈ kx_T := kx_mem (List.mem_of_getElem? (i := 536) (by decide +kernel)) (by decide +kernel)
theorem kw_227 : Cond.selects "PrefetchRules$Pairs" ⟨"PrefetchRules$Rule", "knowledge", "(I)I"⟩ y_Pairs_knowledge ∈ kx_T := kx_mem (List.mem_of_getElem? (i := 534) (by decide +kernel)) (by decide +kernel)
theorem kw_228 : Cond.instanceMethod y_Pairs_knowledge ∈ kx_T := kx_mem (List.mem_of_getElem? (i := 535) (by decide +kernel)) (by decide +kernel)
theorem kw_229 : Cond.code y_Next_confidence b_Next_confidence 2 (some .int) ∈ kx_T := kx_mem (List.mem_of_getElem? (i := 552) (by decide +kernel)) (by decide +kernel)
theorem kw_230 : Cond.methodLink "PrefetchRules" 125 ⟨"PrefetchRules$Rule", "confidence", "(I)I"⟩ ∈ kx_T := kx_mem (List.mem_of_getElem? (i := 547) (by decide +kernel)) (by decide +kernel)
theorem kw_231 : Cond.sameMethod "PrefetchRules$Rule" "PrefetchRules$Rule" "confidence" "(I)I" ∈ kx_T := kx_mem (List.mem_of_getElem? (i := 549) (by decide +kernel)) (by decide +kernel)
theorem kw_232 : Cond.selects "PrefetchRules$Next" ⟨"PrefetchRules$Rule", "confidence", "(I)I"⟩ y_Next_confidence ∈ kx_T := kx_mem (List.mem_of_getElem? (i := 550) (by decide +kernel)) (by decide +kernel)
theorem kw_233 : Cond.instanceMethod y_Next_confidence ∈ kx_T := kx_mem (List.mem_of_getElem? (i := 551) (by decide +kernel)) (by decide +kernel)
theorem kw_234 : Cond.declares ⟨"PrefetchRules$Rule", "confidence", "(I)I"⟩ ∈ kx_N := kx_memN (List.mem_of_getElem? (i := 548) (by decide +kernel)) (by decide +kernel)
theorem kw_235 : Cond.code y_Strides_confidence b_Strides_confidence 3 (some .int) ∈ kx_T := kx_mem (List.mem_of_getElem? (i := 564) (by decide +kernel)) (by decide +kernel)
theorem kw_236 : Cond.selects "PrefetchRules$Strides" ⟨"PrefetchRules$Rule", "confidence", "(I)I"⟩ y_Strides_confidence ∈ kx_T := kx_mem (List.mem_of_getElem? (i := 562) (by decide +kernel)) (by decide +kernel)
theorem kw_237 : Cond.instanceMethod y_Strides_confidence ∈ kx_T := kx_mem (List.mem_of_getElem? (i := 563) (by decide +kernel)) (by decide +kernel)
theorem kw_238 : Cond.code y_Streams_confidence b_Streams_confidence 2 (some .int) ∈ kx_T := kx_mem (List.mem_of_getElem? (i := 561) (by decide +kernel)) (by decide +kernel)
theorem kw_239 : Cond.selects "PrefetchRules$Streams" ⟨"PrefetchRules$Rule", "confidence", "(I)I"⟩ y_Streams_confidence ∈ kx_T := kx_mem (List.mem_of_getElem? (i := 559) (by decide +kernel)) (by decide +kernel)
theorem kw_240 : Cond.instanceMethod y_Streams_confidence ∈ kx_T := kx_mem (List.mem_of_getElem? (i := 560) (by decide +kernel)) (by decide +kernel)
theorem kw_241 : Cond.code y_Offsets_confidence b_Offsets_confidence 2 (some .int) ∈ kx_T := kx_mem (List.mem_of_getElem? (i := 555) (by decide +kernel)) (by decide +kernel)
theorem kw_242 : Cond.selects "PrefetchRules$Offsets" ⟨"PrefetchRules$Rule", "confidence", "(I)I"⟩ y_Offsets_confidence ∈ kx_T := kx_mem (List.mem_of_getElem? (i := 553) (by decide +kernel)) (by decide +kernel)
theorem kw_243 : Cond.instanceMethod y_Offsets_confidence ∈ kx_T := kx_mem (List.mem_of_getElem? (i := 554) (by decide +kernel)) (by decide +kernel)
theorem kw_244 : Cond.code y_Pairs_confidence b_Pairs_confidence 2 (some .int) ∈ kx_T := kx_mem (List.mem_of_getElem? (i := 558) (by decide +kernel)) (by decide +kernel)
theorem kw_245 : Cond.selects "PrefetchRules$Pairs" ⟨"PrefetchRules$Rule", "confidence", "(I)I"⟩ y_Pairs_confidence ∈ kx_T := kx_mem (List.mem_of_getElem? (i := 556) (by decide +kernel)) (by decide +kernel)
theorem kw_246 : Cond.instanceMethod y_Pairs_confidence ∈ kx_T := kx_mem (List.mem_of_getElem? (i := 557) (by decide +kernel)) (by decide +kernel)
theorem kw_247 : Cond.code y_Rule_roundCount b_Rule_roundCount 1 (some .int) ∈ kx_T := kx_mem (List.mem_of_getElem? (i := 583) (by decide +kernel)) (by decide +kernel)
theorem kw_248 : Cond.methodLink "PrefetchRules" 149 ⟨"PrefetchRules$Rule", "roundCount", "()I"⟩ ∈ kx_T := kx_mem (List.mem_of_getElem? (i := 573) (by decide +kernel)) (by decide +kernel)
theorem kw_249 : Cond.sameMethod "PrefetchRules$Rule" "PrefetchRules$Rule" "roundCount" "()I" ∈ kx_T := kx_mem (List.mem_of_getElem? (i := 575) (by decide +kernel)) (by decide +kernel)
theorem kw_250 : Cond.selects "PrefetchRules$Next" ⟨"PrefetchRules$Rule", "roundCount", "()I"⟩ y_Rule_roundCount ∈ kx_T := kx_mem (List.mem_of_getElem? (i := 576) (by decide +kernel)) (by decide +kernel)
theorem kw_251 : Cond.instanceMethod y_Rule_roundCount ∈ kx_T := kx_mem (List.mem_of_getElem? (i := 574) (by decide +kernel)) (by decide +kernel)
theorem kw_252 : Cond.selects "PrefetchRules$Strides" ⟨"PrefetchRules$Rule", "roundCount", "()I"⟩ y_Rule_roundCount ∈ kx_T := kx_mem (List.mem_of_getElem? (i := 582) (by decide +kernel)) (by decide +kernel)
theorem kw_253 : Cond.selects "PrefetchRules$Streams" ⟨"PrefetchRules$Rule", "roundCount", "()I"⟩ y_Rule_roundCount ∈ kx_T := kx_mem (List.mem_of_getElem? (i := 581) (by decide +kernel)) (by decide +kernel)
theorem kw_254 : Cond.code y_Offsets_roundCount b_Offsets_roundCount 1 (some .int) ∈ kx_T := kx_mem (List.mem_of_getElem? (i := 579) (by decide +kernel)) (by decide +kernel)
theorem kw_255 : Cond.selects "PrefetchRules$Offsets" ⟨"PrefetchRules$Rule", "roundCount", "()I"⟩ y_Offsets_roundCount ∈ kx_T := kx_mem (List.mem_of_getElem? (i := 577) (by decide +kernel)) (by decide +kernel)
theorem kw_256 : Cond.instanceMethod y_Offsets_roundCount ∈ kx_T := kx_mem (List.mem_of_getElem? (i := 578) (by decide +kernel)) (by decide +kernel)
theorem kw_257 : Cond.selects "PrefetchRules$Pairs" ⟨"PrefetchRules$Rule", "roundCount", "()I"⟩ y_Rule_roundCount ∈ kx_T := kx_mem (List.mem_of_getElem? (i := 580) (by decide +kernel)) (by decide +kernel)
theorem kw_258 : Cond.code y_Next_init b_Next_init 2 none ∈ kx_T := kx_mem (List.mem_of_getElem? (i := 225) (by decide +kernel)) (by decide +kernel)
theorem kw_259 : Cond.instanceMethod y_Next_init ∈ kx_T := kx_mem (List.mem_of_getElem? (i := 224) (by decide +kernel)) (by decide +kernel)
theorem kw_260 : Cond.code y_Offsets_init b_Offsets_init 2 none ∈ kx_T := kx_mem (List.mem_of_getElem? (i := 160) (by decide +kernel)) (by decide +kernel)
theorem kw_261 : Cond.instanceMethod y_Offsets_init ∈ kx_T := kx_mem (List.mem_of_getElem? (i := 159) (by decide +kernel)) (by decide +kernel)
theorem kw_262 : Cond.code y_Pairs_init b_Pairs_init 2 none ∈ kx_T := kx_mem (List.mem_of_getElem? (i := 194) (by decide +kernel)) (by decide +kernel)
theorem kw_263 : Cond.instanceMethod y_Pairs_init ∈ kx_T := kx_mem (List.mem_of_getElem? (i := 193) (by decide +kernel)) (by decide +kernel)
theorem kw_264 : Cond.code y_Queue_init b_Queue_init 1 none ∈ kx_T := kx_mem (List.mem_of_getElem? (i := 88) (by decide +kernel)) (by decide +kernel)
theorem kw_265 : Cond.instanceMethod y_Queue_init ∈ kx_T := kx_mem (List.mem_of_getElem? (i := 87) (by decide +kernel)) (by decide +kernel)
theorem kw_266 : Cond.code y_Rule_init b_Rule_init 2 none ∈ kx_T := kx_mem (List.mem_of_getElem? (i := 110) (by decide +kernel)) (by decide +kernel)
theorem kw_267 : Cond.instanceMethod y_Rule_init ∈ kx_T := kx_mem (List.mem_of_getElem? (i := 109) (by decide +kernel)) (by decide +kernel)
theorem kw_268 : Cond.code y_Store_init b_Store_init 2 none ∈ kx_T := kx_mem (List.mem_of_getElem? (i := 70) (by decide +kernel)) (by decide +kernel)
theorem kw_269 : Cond.instanceMethod y_Store_init ∈ kx_T := kx_mem (List.mem_of_getElem? (i := 69) (by decide +kernel)) (by decide +kernel)
theorem kw_270 : Cond.code y_Streams_init b_Streams_init 2 none ∈ kx_T := kx_mem (List.mem_of_getElem? (i := 141) (by decide +kernel)) (by decide +kernel)
theorem kw_271 : Cond.instanceMethod y_Streams_init ∈ kx_T := kx_mem (List.mem_of_getElem? (i := 140) (by decide +kernel)) (by decide +kernel)
theorem kw_272 : Cond.code y_Strides_init b_Strides_init 2 none ∈ kx_T := kx_mem (List.mem_of_getElem? (i := 107) (by decide +kernel)) (by decide +kernel)
theorem kw_273 : Cond.instanceMethod y_Strides_init ∈ kx_T := kx_mem (List.mem_of_getElem? (i := 106) (by decide +kernel)) (by decide +kernel)
theorem kw_274 : Cond.code y_Main_indexOf b_Main_indexOf 4 (some .int) ∈ kx_T := kx_mem (List.mem_of_getElem? (i := 324) (by decide +kernel)) (by decide +kernel)
theorem kw_275 : Cond.initialized "PrefetchRules" ∈ kx_T := kx_mem (List.mem_of_getElem? (i := 36) (by decide +kernel)) (by decide +kernel)
theorem kw_276 : Cond.static y_Main_indexOf ∈ kx_T := kx_mem (List.mem_of_getElem? (i := 323) (by decide +kernel)) (by decide +kernel)
theorem kw_277 : Cond.code y_Main_oneTo b_Main_oneTo 2 (some .int) ∈ kx_T := kx_mem (List.mem_of_getElem? (i := 62) (by decide +kernel)) (by decide +kernel)
theorem kw_278 : Cond.static y_Main_oneTo ∈ kx_T := kx_mem (List.mem_of_getElem? (i := 61) (by decide +kernel)) (by decide +kernel)
theorem kw_279 : Cond.code y_Main_ruleOf b_Main_ruleOf 2 (some (.object "PrefetchRules$Rule")) ∈ kx_T := kx_mem (List.mem_of_getElem? (i := 102) (by decide +kernel)) (by decide +kernel)
theorem kw_280 : Cond.static y_Main_ruleOf ∈ kx_T := kx_mem (List.mem_of_getElem? (i := 101) (by decide +kernel)) (by decide +kernel)
theorem kw_281 : Cond.code y_Math_floorMod b_Math_floorMod 3 (some .int) ∈ kx_T := kx_mem (List.mem_of_getElem? (i := 65) (by decide +kernel)) (by decide +kernel)
theorem kw_282 : Cond.static y_Math_floorMod ∈ kx_T := kx_mem (List.mem_of_getElem? (i := 64) (by decide +kernel)) (by decide +kernel)
theorem kw_283 : Cond.code y_Pairs_rowOf b_Pairs_rowOf 1 (some .int) ∈ kx_T := kx_mem (List.mem_of_getElem? (i := 406) (by decide +kernel)) (by decide +kernel)
theorem kw_284 : Cond.static y_Pairs_rowOf ∈ kx_T := kx_mem (List.mem_of_getElem? (i := 405) (by decide +kernel)) (by decide +kernel)
theorem kw_285 : Cond.code y_Streams_wayTo b_Streams_wayTo 1 (some .int) ∈ kx_T := kx_mem (List.mem_of_getElem? (i := 433) (by decide +kernel)) (by decide +kernel)
theorem kw_286 : Cond.static y_Streams_wayTo ∈ kx_T := kx_mem (List.mem_of_getElem? (i := 432) (by decide +kernel)) (by decide +kernel)
theorem kw_287 : Cond.code y_Strides_rowOf b_Strides_rowOf 1 (some .int) ∈ kx_T := kx_mem (List.mem_of_getElem? (i := 450) (by decide +kernel)) (by decide +kernel)
theorem kw_288 : Cond.static y_Strides_rowOf ∈ kx_T := kx_mem (List.mem_of_getElem? (i := 449) (by decide +kernel)) (by decide +kernel)
theorem kw_289 : Cond.code y_Main_ask b_Main_ask 4 (some .int) ∈ kx_T := kx_mem (List.mem_of_getElem? (i := 317) (by decide +kernel)) (by decide +kernel)
theorem kw_290 : Cond.instanceMethod y_Main_ask ∈ kx_T := kx_mem (List.mem_of_getElem? (i := 316) (by decide +kernel)) (by decide +kernel)
theorem kw_291 : Cond.selects "PrefetchRules" y_Main_ask y_Main_ask ∈ kx_T := kx_mem (List.mem_of_getElem? (i := 3) (by decide +kernel)) (by decide +kernel)
theorem kw_292 : Cond.code y_Main_come b_Main_come 3 none ∈ kx_T := kx_mem (List.mem_of_getElem? (i := 293) (by decide +kernel)) (by decide +kernel)
theorem kw_293 : Cond.instanceMethod y_Main_come ∈ kx_T := kx_mem (List.mem_of_getElem? (i := 292) (by decide +kernel)) (by decide +kernel)
theorem kw_294 : Cond.selects "PrefetchRules" y_Main_come y_Main_come ∈ kx_T := kx_mem (List.mem_of_getElem? (i := 1) (by decide +kernel)) (by decide +kernel)
theorem kw_295 : Cond.code y_Main_fetch b_Main_fetch 2 none ∈ kx_T := kx_mem (List.mem_of_getElem? (i := 488) (by decide +kernel)) (by decide +kernel)
theorem kw_296 : Cond.instanceMethod y_Main_fetch ∈ kx_T := kx_mem (List.mem_of_getElem? (i := 487) (by decide +kernel)) (by decide +kernel)
theorem kw_297 : Cond.selects "PrefetchRules" y_Main_fetch y_Main_fetch ∈ kx_T := kx_mem (List.mem_of_getElem? (i := 17) (by decide +kernel)) (by decide +kernel)
theorem kw_298 : Cond.code y_Main_hit b_Main_hit 2 none ∈ kx_T := kx_mem (List.mem_of_getElem? (i := 328) (by decide +kernel)) (by decide +kernel)
theorem kw_299 : Cond.instanceMethod y_Main_hit ∈ kx_T := kx_mem (List.mem_of_getElem? (i := 327) (by decide +kernel)) (by decide +kernel)
theorem kw_300 : Cond.selects "PrefetchRules" y_Main_hit y_Main_hit ∈ kx_T := kx_mem (List.mem_of_getElem? (i := 4) (by decide +kernel)) (by decide +kernel)
theorem kw_301 : Cond.code y_Main_nextCycle b_Main_nextCycle 3 (some .int) ∈ kx_T := kx_mem (List.mem_of_getElem? (i := 281) (by decide +kernel)) (by decide +kernel)
theorem kw_302 : Cond.instanceMethod y_Main_nextCycle ∈ kx_T := kx_mem (List.mem_of_getElem? (i := 280) (by decide +kernel)) (by decide +kernel)
theorem kw_303 : Cond.selects "PrefetchRules" y_Main_nextCycle y_Main_nextCycle ∈ kx_T := kx_mem (List.mem_of_getElem? (i := 0) (by decide +kernel)) (by decide +kernel)
theorem kw_304 : Cond.code y_Offsets_endRound b_Offsets_endRound 3 none ∈ kx_T := kx_mem (List.mem_of_getElem? (i := 389) (by decide +kernel)) (by decide +kernel)
theorem kw_305 : Cond.instanceMethod y_Offsets_endRound ∈ kx_T := kx_mem (List.mem_of_getElem? (i := 388) (by decide +kernel)) (by decide +kernel)
theorem kw_306 : Cond.selects "PrefetchRules$Offsets" y_Offsets_endRound y_Offsets_endRound ∈ kx_T := kx_mem (List.mem_of_getElem? (i := 7) (by decide +kernel)) (by decide +kernel)
theorem kw_307 : Cond.code y_Offsets_isRecent b_Offsets_isRecent 2 (some .boolean) ∈ kx_T := kx_mem (List.mem_of_getElem? (i := 384) (by decide +kernel)) (by decide +kernel)
theorem kw_308 : Cond.instanceMethod y_Offsets_isRecent ∈ kx_T := kx_mem (List.mem_of_getElem? (i := 383) (by decide +kernel)) (by decide +kernel)
theorem kw_309 : Cond.selects "PrefetchRules$Offsets" y_Offsets_isRecent y_Offsets_isRecent ∈ kx_T := kx_mem (List.mem_of_getElem? (i := 6) (by decide +kernel)) (by decide +kernel)
theorem kw_310 : Cond.code y_Offsets_remember b_Offsets_remember 2 none ∈ kx_T := kx_mem (List.mem_of_getElem? (i := 396) (by decide +kernel)) (by decide +kernel)
theorem kw_311 : Cond.instanceMethod y_Offsets_remember ∈ kx_T := kx_mem (List.mem_of_getElem? (i := 395) (by decide +kernel)) (by decide +kernel)
theorem kw_312 : Cond.selects "PrefetchRules$Offsets" y_Offsets_remember y_Offsets_remember ∈ kx_T := kx_mem (List.mem_of_getElem? (i := 8) (by decide +kernel)) (by decide +kernel)
theorem kw_313 : Cond.code y_Offsets_tryCandidate b_Offsets_tryCandidate 2 none ∈ kx_T := kx_mem (List.mem_of_getElem? (i := 378) (by decide +kernel)) (by decide +kernel)
theorem kw_314 : Cond.instanceMethod y_Offsets_tryCandidate ∈ kx_T := kx_mem (List.mem_of_getElem? (i := 377) (by decide +kernel)) (by decide +kernel)
theorem kw_315 : Cond.selects "PrefetchRules$Offsets" y_Offsets_tryCandidate y_Offsets_tryCandidate ∈ kx_T := kx_mem (List.mem_of_getElem? (i := 5) (by decide +kernel)) (by decide +kernel)
theorem kw_316 : Cond.code y_Pairs_behindCount b_Pairs_behindCount 3 (some .int) ∈ kx_T := kx_mem (List.mem_of_getElem? (i := 417) (by decide +kernel)) (by decide +kernel)
theorem kw_317 : Cond.instanceMethod y_Pairs_behindCount ∈ kx_T := kx_mem (List.mem_of_getElem? (i := 416) (by decide +kernel)) (by decide +kernel)
theorem kw_318 : Cond.selects "PrefetchRules$Pairs" y_Pairs_behindCount y_Pairs_behindCount ∈ kx_T := kx_mem (List.mem_of_getElem? (i := 11) (by decide +kernel)) (by decide +kernel)
theorem kw_319 : Cond.code y_Pairs_follow b_Pairs_follow 4 none ∈ kx_T := kx_mem (List.mem_of_getElem? (i := 403) (by decide +kernel)) (by decide +kernel)
theorem kw_320 : Cond.instanceMethod y_Pairs_follow ∈ kx_T := kx_mem (List.mem_of_getElem? (i := 402) (by decide +kernel)) (by decide +kernel)
theorem kw_321 : Cond.selects "PrefetchRules$Pairs" y_Pairs_follow y_Pairs_follow ∈ kx_T := kx_mem (List.mem_of_getElem? (i := 9) (by decide +kernel)) (by decide +kernel)
theorem kw_322 : Cond.code y_Pairs_isOwn b_Pairs_isOwn 3 (some .boolean) ∈ kx_T := kx_mem (List.mem_of_getElem? (i := 410) (by decide +kernel)) (by decide +kernel)
theorem kw_323 : Cond.instanceMethod y_Pairs_isOwn ∈ kx_T := kx_mem (List.mem_of_getElem? (i := 409) (by decide +kernel)) (by decide +kernel)
theorem kw_324 : Cond.selects "PrefetchRules$Pairs" y_Pairs_isOwn y_Pairs_isOwn ∈ kx_T := kx_mem (List.mem_of_getElem? (i := 10) (by decide +kernel)) (by decide +kernel)
theorem kw_325 : Cond.code y_Queue_add b_Queue_add 3 none ∈ kx_T := kx_mem (List.mem_of_getElem? (i := 496) (by decide +kernel)) (by decide +kernel)
theorem kw_326 : Cond.instanceMethod y_Queue_add ∈ kx_T := kx_mem (List.mem_of_getElem? (i := 494) (by decide +kernel)) (by decide +kernel)
theorem kw_327 : Cond.selects "PrefetchRules$Queue" y_Queue_add y_Queue_add ∈ kx_T := kx_mem (List.mem_of_getElem? (i := 495) (by decide +kernel)) (by decide +kernel)
theorem kw_328 : Cond.code y_Queue_clear b_Queue_clear 1 none ∈ kx_T := kx_mem (List.mem_of_getElem? (i := 512) (by decide +kernel)) (by decide +kernel)
theorem kw_329 : Cond.instanceMethod y_Queue_clear ∈ kx_T := kx_mem (List.mem_of_getElem? (i := 510) (by decide +kernel)) (by decide +kernel)
theorem kw_330 : Cond.selects "PrefetchRules$Queue" y_Queue_clear y_Queue_clear ∈ kx_T := kx_mem (List.mem_of_getElem? (i := 511) (by decide +kernel)) (by decide +kernel)
theorem kw_331 : Cond.code y_Queue_cycleAt b_Queue_cycleAt 2 (some .int) ∈ kx_T := kx_mem (List.mem_of_getElem? (i := 702) (by decide +kernel)) (by decide +kernel)
theorem kw_332 : Cond.instanceMethod y_Queue_cycleAt ∈ kx_T := kx_mem (List.mem_of_getElem? (i := 700) (by decide +kernel)) (by decide +kernel)
theorem kw_333 : Cond.selects "PrefetchRules$Queue" y_Queue_cycleAt y_Queue_cycleAt ∈ kx_T := kx_mem (List.mem_of_getElem? (i := 701) (by decide +kernel)) (by decide +kernel)
theorem kw_334 : Cond.code y_Queue_find b_Queue_find 2 (some .int) ∈ kx_T := kx_mem (List.mem_of_getElem? (i := 340) (by decide +kernel)) (by decide +kernel)
theorem kw_335 : Cond.instanceMethod y_Queue_find ∈ kx_T := kx_mem (List.mem_of_getElem? (i := 338) (by decide +kernel)) (by decide +kernel)
theorem kw_336 : Cond.selects "PrefetchRules$Queue" y_Queue_find y_Queue_find ∈ kx_T := kx_mem (List.mem_of_getElem? (i := 339) (by decide +kernel)) (by decide +kernel)
theorem kw_337 : Cond.code y_Queue_firstIsDue b_Queue_firstIsDue 2 (some .boolean) ∈ kx_T := kx_mem (List.mem_of_getElem? (i := 285) (by decide +kernel)) (by decide +kernel)
theorem kw_338 : Cond.instanceMethod y_Queue_firstIsDue ∈ kx_T := kx_mem (List.mem_of_getElem? (i := 283) (by decide +kernel)) (by decide +kernel)
theorem kw_339 : Cond.selects "PrefetchRules$Queue" y_Queue_firstIsDue y_Queue_firstIsDue ∈ kx_T := kx_mem (List.mem_of_getElem? (i := 284) (by decide +kernel)) (by decide +kernel)
theorem kw_340 : Cond.code y_Queue_isFull b_Queue_isFull 1 (some .boolean) ∈ kx_T := kx_mem (List.mem_of_getElem? (i := 492) (by decide +kernel)) (by decide +kernel)
theorem kw_341 : Cond.instanceMethod y_Queue_isFull ∈ kx_T := kx_mem (List.mem_of_getElem? (i := 490) (by decide +kernel)) (by decide +kernel)
theorem kw_342 : Cond.selects "PrefetchRules$Queue" y_Queue_isFull y_Queue_isFull ∈ kx_T := kx_mem (List.mem_of_getElem? (i := 491) (by decide +kernel)) (by decide +kernel)
theorem kw_343 : Cond.code y_Queue_lineAt b_Queue_lineAt 2 (some .int) ∈ kx_T := kx_mem (List.mem_of_getElem? (i := 289) (by decide +kernel)) (by decide +kernel)
theorem kw_344 : Cond.instanceMethod y_Queue_lineAt ∈ kx_T := kx_mem (List.mem_of_getElem? (i := 287) (by decide +kernel)) (by decide +kernel)
theorem kw_345 : Cond.selects "PrefetchRules$Queue" y_Queue_lineAt y_Queue_lineAt ∈ kx_T := kx_mem (List.mem_of_getElem? (i := 288) (by decide +kernel)) (by decide +kernel)
theorem kw_346 : Cond.code y_Queue_remove b_Queue_remove 3 none ∈ kx_T := kx_mem (List.mem_of_getElem? (i := 313) (by decide +kernel)) (by decide +kernel)
theorem kw_347 : Cond.instanceMethod y_Queue_remove ∈ kx_T := kx_mem (List.mem_of_getElem? (i := 311) (by decide +kernel)) (by decide +kernel)
theorem kw_348 : Cond.selects "PrefetchRules$Queue" y_Queue_remove y_Queue_remove ∈ kx_T := kx_mem (List.mem_of_getElem? (i := 312) (by decide +kernel)) (by decide +kernel)
theorem kw_349 : Cond.code y_Queue_size b_Queue_size 1 (some .int) ∈ kx_T := kx_mem (List.mem_of_getElem? (i := 504) (by decide +kernel)) (by decide +kernel)
theorem kw_350 : Cond.instanceMethod y_Queue_size ∈ kx_T := kx_mem (List.mem_of_getElem? (i := 502) (by decide +kernel)) (by decide +kernel)
theorem kw_351 : Cond.selects "PrefetchRules$Queue" y_Queue_size y_Queue_size ∈ kx_T := kx_mem (List.mem_of_getElem? (i := 503) (by decide +kernel)) (by decide +kernel)
theorem kw_352 : Cond.code y_Store_clearMarks b_Store_clearMarks 2 none ∈ kx_T := kx_mem (List.mem_of_getElem? (i := 516) (by decide +kernel)) (by decide +kernel)
theorem kw_353 : Cond.instanceMethod y_Store_clearMarks ∈ kx_T := kx_mem (List.mem_of_getElem? (i := 514) (by decide +kernel)) (by decide +kernel)
theorem kw_354 : Cond.selects "PrefetchRules$Store" y_Store_clearMarks y_Store_clearMarks ∈ kx_T := kx_mem (List.mem_of_getElem? (i := 515) (by decide +kernel)) (by decide +kernel)
theorem kw_355 : Cond.code y_Store_dropLast b_Store_dropLast 1 (some .boolean) ∈ kx_T := kx_mem (List.mem_of_getElem? (i := 301) (by decide +kernel)) (by decide +kernel)
theorem kw_356 : Cond.instanceMethod y_Store_dropLast ∈ kx_T := kx_mem (List.mem_of_getElem? (i := 299) (by decide +kernel)) (by decide +kernel)
theorem kw_357 : Cond.selects "PrefetchRules$Store" y_Store_dropLast y_Store_dropLast ∈ kx_T := kx_mem (List.mem_of_getElem? (i := 300) (by decide +kernel)) (by decide +kernel)
theorem kw_358 : Cond.code y_Store_find b_Store_find 2 (some .int) ∈ kx_T := kx_mem (List.mem_of_getElem? (i := 321) (by decide +kernel)) (by decide +kernel)
theorem kw_359 : Cond.instanceMethod y_Store_find ∈ kx_T := kx_mem (List.mem_of_getElem? (i := 319) (by decide +kernel)) (by decide +kernel)
theorem kw_360 : Cond.selects "PrefetchRules$Store" y_Store_find y_Store_find ∈ kx_T := kx_mem (List.mem_of_getElem? (i := 320) (by decide +kernel)) (by decide +kernel)
theorem kw_361 : Cond.code y_Store_isFull b_Store_isFull 1 (some .boolean) ∈ kx_T := kx_mem (List.mem_of_getElem? (i := 297) (by decide +kernel)) (by decide +kernel)
theorem kw_362 : Cond.instanceMethod y_Store_isFull ∈ kx_T := kx_mem (List.mem_of_getElem? (i := 295) (by decide +kernel)) (by decide +kernel)
theorem kw_363 : Cond.selects "PrefetchRules$Store" y_Store_isFull y_Store_isFull ∈ kx_T := kx_mem (List.mem_of_getElem? (i := 296) (by decide +kernel)) (by decide +kernel)
theorem kw_364 : Cond.code y_Store_isMarked b_Store_isMarked 2 (some .boolean) ∈ kx_T := kx_mem (List.mem_of_getElem? (i := 332) (by decide +kernel)) (by decide +kernel)
theorem kw_365 : Cond.instanceMethod y_Store_isMarked ∈ kx_T := kx_mem (List.mem_of_getElem? (i := 330) (by decide +kernel)) (by decide +kernel)
theorem kw_366 : Cond.selects "PrefetchRules$Store" y_Store_isMarked y_Store_isMarked ∈ kx_T := kx_mem (List.mem_of_getElem? (i := 331) (by decide +kernel)) (by decide +kernel)
theorem kw_367 : Cond.code y_Store_lineAt b_Store_lineAt 2 (some .int) ∈ kx_T := kx_mem (List.mem_of_getElem? (i := 689) (by decide +kernel)) (by decide +kernel)
theorem kw_368 : Cond.instanceMethod y_Store_lineAt ∈ kx_T := kx_mem (List.mem_of_getElem? (i := 687) (by decide +kernel)) (by decide +kernel)
theorem kw_369 : Cond.selects "PrefetchRules$Store" y_Store_lineAt y_Store_lineAt ∈ kx_T := kx_mem (List.mem_of_getElem? (i := 688) (by decide +kernel)) (by decide +kernel)
theorem kw_370 : Cond.code y_Store_markCount b_Store_markCount 3 (some .int) ∈ kx_T := kx_mem (List.mem_of_getElem? (i := 508) (by decide +kernel)) (by decide +kernel)
theorem kw_371 : Cond.instanceMethod y_Store_markCount ∈ kx_T := kx_mem (List.mem_of_getElem? (i := 506) (by decide +kernel)) (by decide +kernel)
theorem kw_372 : Cond.selects "PrefetchRules$Store" y_Store_markCount y_Store_markCount ∈ kx_T := kx_mem (List.mem_of_getElem? (i := 507) (by decide +kernel)) (by decide +kernel)
theorem kw_373 : Cond.code y_Store_moveInFront b_Store_moveInFront 5 none ∈ kx_T := kx_mem (List.mem_of_getElem? (i := 309) (by decide +kernel)) (by decide +kernel)
theorem kw_374 : Cond.instanceMethod y_Store_moveInFront ∈ kx_T := kx_mem (List.mem_of_getElem? (i := 308) (by decide +kernel)) (by decide +kernel)
theorem kw_375 : Cond.selects "PrefetchRules$Store" y_Store_moveInFront y_Store_moveInFront ∈ kx_T := kx_mem (List.mem_of_getElem? (i := 2) (by decide +kernel)) (by decide +kernel)
theorem kw_376 : Cond.code y_Store_putFirst b_Store_putFirst 3 none ∈ kx_T := kx_mem (List.mem_of_getElem? (i := 305) (by decide +kernel)) (by decide +kernel)
theorem kw_377 : Cond.instanceMethod y_Store_putFirst ∈ kx_T := kx_mem (List.mem_of_getElem? (i := 303) (by decide +kernel)) (by decide +kernel)
theorem kw_378 : Cond.selects "PrefetchRules$Store" y_Store_putFirst y_Store_putFirst ∈ kx_T := kx_mem (List.mem_of_getElem? (i := 304) (by decide +kernel)) (by decide +kernel)
theorem kw_379 : Cond.code y_Store_size b_Store_size 1 (some .int) ∈ kx_T := kx_mem (List.mem_of_getElem? (i := 572) (by decide +kernel)) (by decide +kernel)
theorem kw_380 : Cond.instanceMethod y_Store_size ∈ kx_T := kx_mem (List.mem_of_getElem? (i := 570) (by decide +kernel)) (by decide +kernel)
theorem kw_381 : Cond.selects "PrefetchRules$Store" y_Store_size y_Store_size ∈ kx_T := kx_mem (List.mem_of_getElem? (i := 571) (by decide +kernel)) (by decide +kernel)
theorem kw_382 : Cond.code y_Store_use b_Store_use 2 none ∈ kx_T := kx_mem (List.mem_of_getElem? (i := 336) (by decide +kernel)) (by decide +kernel)
theorem kw_383 : Cond.instanceMethod y_Store_use ∈ kx_T := kx_mem (List.mem_of_getElem? (i := 334) (by decide +kernel)) (by decide +kernel)
theorem kw_384 : Cond.selects "PrefetchRules$Store" y_Store_use y_Store_use ∈ kx_T := kx_mem (List.mem_of_getElem? (i := 335) (by decide +kernel)) (by decide +kernel)
theorem kw_385 : Cond.code y_Streams_begin b_Streams_begin 2 none ∈ kx_T := kx_mem (List.mem_of_getElem? (i := 444) (by decide +kernel)) (by decide +kernel)
theorem kw_386 : Cond.instanceMethod y_Streams_begin ∈ kx_T := kx_mem (List.mem_of_getElem? (i := 443) (by decide +kernel)) (by decide +kernel)
theorem kw_387 : Cond.selects "PrefetchRules$Streams" y_Streams_begin y_Streams_begin ∈ kx_T := kx_mem (List.mem_of_getElem? (i := 13) (by decide +kernel)) (by decide +kernel)
theorem kw_388 : Cond.code y_Streams_moveInFront b_Streams_moveInFront 5 none ∈ kx_T := kx_mem (List.mem_of_getElem? (i := 437) (by decide +kernel)) (by decide +kernel)
theorem kw_389 : Cond.instanceMethod y_Streams_moveInFront ∈ kx_T := kx_mem (List.mem_of_getElem? (i := 436) (by decide +kernel)) (by decide +kernel)
theorem kw_390 : Cond.selects "PrefetchRules$Streams" y_Streams_moveInFront y_Streams_moveInFront ∈ kx_T := kx_mem (List.mem_of_getElem? (i := 12) (by decide +kernel)) (by decide +kernel)
theorem kw_391 : Cond.code y_Strides_begin b_Strides_begin 4 none ∈ kx_T := kx_mem (List.mem_of_getElem? (i := 458) (by decide +kernel)) (by decide +kernel)
theorem kw_392 : Cond.instanceMethod y_Strides_begin ∈ kx_T := kx_mem (List.mem_of_getElem? (i := 457) (by decide +kernel)) (by decide +kernel)
theorem kw_393 : Cond.selects "PrefetchRules$Strides" y_Strides_begin y_Strides_begin ∈ kx_T := kx_mem (List.mem_of_getElem? (i := 15) (by decide +kernel)) (by decide +kernel)
theorem kw_394 : Cond.code y_Strides_compare b_Strides_compare 3 none ∈ kx_T := kx_mem (List.mem_of_getElem? (i := 462) (by decide +kernel)) (by decide +kernel)
theorem kw_395 : Cond.instanceMethod y_Strides_compare ∈ kx_T := kx_mem (List.mem_of_getElem? (i := 461) (by decide +kernel)) (by decide +kernel)
theorem kw_396 : Cond.selects "PrefetchRules$Strides" y_Strides_compare y_Strides_compare ∈ kx_T := kx_mem (List.mem_of_getElem? (i := 16) (by decide +kernel)) (by decide +kernel)
theorem kw_397 : Cond.code y_Strides_isOwn b_Strides_isOwn 3 (some .boolean) ∈ kx_T := kx_mem (List.mem_of_getElem? (i := 454) (by decide +kernel)) (by decide +kernel)
theorem kw_398 : Cond.instanceMethod y_Strides_isOwn ∈ kx_T := kx_mem (List.mem_of_getElem? (i := 453) (by decide +kernel)) (by decide +kernel)
theorem kw_399 : Cond.selects "PrefetchRules$Strides" y_Strides_isOwn y_Strides_isOwn ∈ kx_T := kx_mem (List.mem_of_getElem? (i := 14) (by decide +kernel)) (by decide +kernel)
theorem kw_400 : Cond.laysFinal "PrefetchRules" "PrefetchRules" "latency" "I" ∈ kx_T := kx_mem (List.mem_of_getElem? (i := 245) (by decide +kernel)) (by decide +kernel)
theorem kw_401 : Cond.laysFinal "PrefetchRules" "PrefetchRules" "store" "LPrefetchRules$Store;" ∈ kx_T := kx_mem (List.mem_of_getElem? (i := 247) (by decide +kernel)) (by decide +kernel)
theorem kw_402 : Cond.laysFinal "PrefetchRules" "PrefetchRules" "queue" "LPrefetchRules$Queue;" ∈ kx_T := kx_mem (List.mem_of_getElem? (i := 249) (by decide +kernel)) (by decide +kernel)
theorem kw_403 : Cond.laysFinal "PrefetchRules" "PrefetchRules" "rule" "LPrefetchRules$Rule;" ∈ kx_T := kx_mem (List.mem_of_getElem? (i := 251) (by decide +kernel)) (by decide +kernel)
theorem kw_404 : Cond.lays "PrefetchRules" "PrefetchRules" "cycles" "I" ∈ kx_T := kx_mem (List.mem_of_getElem? (i := 253) (by decide +kernel)) (by decide +kernel)
theorem kw_405 : Cond.lays "PrefetchRules" "PrefetchRules" "accesses" "I" ∈ kx_T := kx_mem (List.mem_of_getElem? (i := 255) (by decide +kernel)) (by decide +kernel)
theorem kw_406 : Cond.lays "PrefetchRules" "PrefetchRules" "hits" "I" ∈ kx_T := kx_mem (List.mem_of_getElem? (i := 257) (by decide +kernel)) (by decide +kernel)
theorem kw_407 : Cond.lays "PrefetchRules" "PrefetchRules" "late" "I" ∈ kx_T := kx_mem (List.mem_of_getElem? (i := 259) (by decide +kernel)) (by decide +kernel)
theorem kw_408 : Cond.lays "PrefetchRules" "PrefetchRules" "misses" "I" ∈ kx_T := kx_mem (List.mem_of_getElem? (i := 261) (by decide +kernel)) (by decide +kernel)
theorem kw_409 : Cond.lays "PrefetchRules" "PrefetchRules" "useful" "I" ∈ kx_T := kx_mem (List.mem_of_getElem? (i := 263) (by decide +kernel)) (by decide +kernel)
theorem kw_410 : Cond.lays "PrefetchRules" "PrefetchRules" "useless" "I" ∈ kx_T := kx_mem (List.mem_of_getElem? (i := 265) (by decide +kernel)) (by decide +kernel)
theorem kw_411 : Cond.lays "PrefetchRules" "PrefetchRules" "filtered" "I" ∈ kx_T := kx_mem (List.mem_of_getElem? (i := 267) (by decide +kernel)) (by decide +kernel)
theorem kw_412 : Cond.lays "PrefetchRules" "PrefetchRules" "dropped" "I" ∈ kx_T := kx_mem (List.mem_of_getElem? (i := 269) (by decide +kernel)) (by decide +kernel)
theorem kw_413 : Cond.lays "PrefetchRules" "PrefetchRules" "fetches" "I" ∈ kx_T := kx_mem (List.mem_of_getElem? (i := 271) (by decide +kernel)) (by decide +kernel)
theorem kw_414 : Cond.laysFinal "PrefetchRules$Store" "PrefetchRules$Store" "lines" "[I" ∈ kx_T := kx_mem (List.mem_of_getElem? (i := 75) (by decide +kernel)) (by decide +kernel)
theorem kw_415 : Cond.laysFinal "PrefetchRules$Store" "PrefetchRules$Store" "marks" "[Z" ∈ kx_T := kx_mem (List.mem_of_getElem? (i := 77) (by decide +kernel)) (by decide +kernel)
theorem kw_416 : Cond.lays "PrefetchRules$Store" "PrefetchRules$Store" "size" "I" ∈ kx_T := kx_mem (List.mem_of_getElem? (i := 79) (by decide +kernel)) (by decide +kernel)
theorem kw_417 : Cond.laysFinal "PrefetchRules$Queue" "PrefetchRules$Queue" "lines" "[I" ∈ kx_T := kx_mem (List.mem_of_getElem? (i := 93) (by decide +kernel)) (by decide +kernel)
theorem kw_418 : Cond.laysFinal "PrefetchRules$Queue" "PrefetchRules$Queue" "cycles" "[I" ∈ kx_T := kx_mem (List.mem_of_getElem? (i := 95) (by decide +kernel)) (by decide +kernel)
theorem kw_419 : Cond.lays "PrefetchRules$Queue" "PrefetchRules$Queue" "size" "I" ∈ kx_T := kx_mem (List.mem_of_getElem? (i := 97) (by decide +kernel)) (by decide +kernel)
theorem kw_420 : Cond.laysFinal "PrefetchRules$Next" "PrefetchRules$Rule" "degree" "I" ∈ kx_T := kx_mem (List.mem_of_getElem? (i := 227) (by decide +kernel)) (by decide +kernel)
theorem kw_421 : Cond.laysFinal "PrefetchRules$Next" "PrefetchRules$Rule" "said" "[I" ∈ kx_T := kx_mem (List.mem_of_getElem? (i := 228) (by decide +kernel)) (by decide +kernel)
theorem kw_422 : Cond.lays "PrefetchRules$Next" "PrefetchRules$Rule" "saidCount" "I" ∈ kx_T := kx_mem (List.mem_of_getElem? (i := 229) (by decide +kernel)) (by decide +kernel)
theorem kw_423 : Cond.selects "PrefetchRules$Next" ⟨"PrefetchRules$Rule", "say", "(I)V"⟩ ⟨"PrefetchRules$Rule", "say", "(I)V"⟩ ∈ kx_T := kx_mem (List.mem_of_getElem? (i := 366) (by decide +kernel)) (by decide +kernel)
theorem kw_424 : Cond.laysFinal "PrefetchRules$Strides" "PrefetchRules$Rule" "degree" "I" ∈ kx_T := kx_mem (List.mem_of_getElem? (i := 130) (by decide +kernel)) (by decide +kernel)
theorem kw_425 : Cond.laysFinal "PrefetchRules$Strides" "PrefetchRules$Rule" "said" "[I" ∈ kx_T := kx_mem (List.mem_of_getElem? (i := 132) (by decide +kernel)) (by decide +kernel)
theorem kw_426 : Cond.lays "PrefetchRules$Strides" "PrefetchRules$Rule" "saidCount" "I" ∈ kx_T := kx_mem (List.mem_of_getElem? (i := 134) (by decide +kernel)) (by decide +kernel)
theorem kw_427 : Cond.laysFinal "PrefetchRules$Strides" "PrefetchRules$Strides" "taken" "[Z" ∈ kx_T := kx_mem (List.mem_of_getElem? (i := 120) (by decide +kernel)) (by decide +kernel)
theorem kw_428 : Cond.laysFinal "PrefetchRules$Strides" "PrefetchRules$Strides" "places" "[I" ∈ kx_T := kx_mem (List.mem_of_getElem? (i := 122) (by decide +kernel)) (by decide +kernel)
theorem kw_429 : Cond.laysFinal "PrefetchRules$Strides" "PrefetchRules$Strides" "lines" "[I" ∈ kx_T := kx_mem (List.mem_of_getElem? (i := 124) (by decide +kernel)) (by decide +kernel)
theorem kw_430 : Cond.laysFinal "PrefetchRules$Strides" "PrefetchRules$Strides" "strides" "[I" ∈ kx_T := kx_mem (List.mem_of_getElem? (i := 126) (by decide +kernel)) (by decide +kernel)
theorem kw_431 : Cond.laysFinal "PrefetchRules$Strides" "PrefetchRules$Strides" "trusts" "[I" ∈ kx_T := kx_mem (List.mem_of_getElem? (i := 128) (by decide +kernel)) (by decide +kernel)
theorem kw_432 : Cond.selects "PrefetchRules$Strides" ⟨"PrefetchRules$Rule", "say", "(I)V"⟩ ⟨"PrefetchRules$Rule", "say", "(I)V"⟩ ∈ kx_T := kx_mem (List.mem_of_getElem? (i := 370) (by decide +kernel)) (by decide +kernel)
theorem kw_433 : Cond.laysFinal "PrefetchRules$Streams" "PrefetchRules$Rule" "degree" "I" ∈ kx_T := kx_mem (List.mem_of_getElem? (i := 152) (by decide +kernel)) (by decide +kernel)
theorem kw_434 : Cond.laysFinal "PrefetchRules$Streams" "PrefetchRules$Rule" "said" "[I" ∈ kx_T := kx_mem (List.mem_of_getElem? (i := 153) (by decide +kernel)) (by decide +kernel)
theorem kw_435 : Cond.lays "PrefetchRules$Streams" "PrefetchRules$Rule" "saidCount" "I" ∈ kx_T := kx_mem (List.mem_of_getElem? (i := 154) (by decide +kernel)) (by decide +kernel)
theorem kw_436 : Cond.laysFinal "PrefetchRules$Streams" "PrefetchRules$Streams" "lines" "[I" ∈ kx_T := kx_mem (List.mem_of_getElem? (i := 146) (by decide +kernel)) (by decide +kernel)
theorem kw_437 : Cond.laysFinal "PrefetchRules$Streams" "PrefetchRules$Streams" "ways" "[I" ∈ kx_T := kx_mem (List.mem_of_getElem? (i := 148) (by decide +kernel)) (by decide +kernel)
theorem kw_438 : Cond.lays "PrefetchRules$Streams" "PrefetchRules$Streams" "size" "I" ∈ kx_T := kx_mem (List.mem_of_getElem? (i := 150) (by decide +kernel)) (by decide +kernel)
theorem kw_439 : Cond.selects "PrefetchRules$Streams" ⟨"PrefetchRules$Rule", "say", "(I)V"⟩ ⟨"PrefetchRules$Rule", "say", "(I)V"⟩ ∈ kx_T := kx_mem (List.mem_of_getElem? (i := 369) (by decide +kernel)) (by decide +kernel)
theorem kw_440 : Cond.laysFinal "PrefetchRules$Offsets" "PrefetchRules$Rule" "degree" "I" ∈ kx_T := kx_mem (List.mem_of_getElem? (i := 186) (by decide +kernel)) (by decide +kernel)
theorem kw_441 : Cond.laysFinal "PrefetchRules$Offsets" "PrefetchRules$Rule" "said" "[I" ∈ kx_T := kx_mem (List.mem_of_getElem? (i := 187) (by decide +kernel)) (by decide +kernel)
theorem kw_442 : Cond.lays "PrefetchRules$Offsets" "PrefetchRules$Rule" "saidCount" "I" ∈ kx_T := kx_mem (List.mem_of_getElem? (i := 188) (by decide +kernel)) (by decide +kernel)
theorem kw_443 : Cond.laysFinal "PrefetchRules$Offsets" "PrefetchRules$Offsets" "recent" "[I" ∈ kx_T := kx_mem (List.mem_of_getElem? (i := 170) (by decide +kernel)) (by decide +kernel)
theorem kw_444 : Cond.lays "PrefetchRules$Offsets" "PrefetchRules$Offsets" "recentCount" "I" ∈ kx_T := kx_mem (List.mem_of_getElem? (i := 172) (by decide +kernel)) (by decide +kernel)
theorem kw_445 : Cond.lays "PrefetchRules$Offsets" "PrefetchRules$Offsets" "oldest" "I" ∈ kx_T := kx_mem (List.mem_of_getElem? (i := 174) (by decide +kernel)) (by decide +kernel)
theorem kw_446 : Cond.laysFinal "PrefetchRules$Offsets" "PrefetchRules$Offsets" "scores" "[I" ∈ kx_T := kx_mem (List.mem_of_getElem? (i := 176) (by decide +kernel)) (by decide +kernel)
theorem kw_447 : Cond.lays "PrefetchRules$Offsets" "PrefetchRules$Offsets" "turn" "I" ∈ kx_T := kx_mem (List.mem_of_getElem? (i := 178) (by decide +kernel)) (by decide +kernel)
theorem kw_448 : Cond.lays "PrefetchRules$Offsets" "PrefetchRules$Offsets" "tries" "I" ∈ kx_T := kx_mem (List.mem_of_getElem? (i := 180) (by decide +kernel)) (by decide +kernel)
theorem kw_449 : Cond.lays "PrefetchRules$Offsets" "PrefetchRules$Offsets" "offset" "I" ∈ kx_T := kx_mem (List.mem_of_getElem? (i := 182) (by decide +kernel)) (by decide +kernel)
theorem kw_450 : Cond.lays "PrefetchRules$Offsets" "PrefetchRules$Offsets" "rounds" "I" ∈ kx_T := kx_mem (List.mem_of_getElem? (i := 184) (by decide +kernel)) (by decide +kernel)
theorem kw_451 : Cond.selects "PrefetchRules$Offsets" ⟨"PrefetchRules$Rule", "say", "(I)V"⟩ ⟨"PrefetchRules$Rule", "say", "(I)V"⟩ ∈ kx_T := kx_mem (List.mem_of_getElem? (i := 367) (by decide +kernel)) (by decide +kernel)
theorem kw_452 : Cond.laysFinal "PrefetchRules$Pairs" "PrefetchRules$Rule" "degree" "I" ∈ kx_T := kx_mem (List.mem_of_getElem? (i := 217) (by decide +kernel)) (by decide +kernel)
theorem kw_453 : Cond.laysFinal "PrefetchRules$Pairs" "PrefetchRules$Rule" "said" "[I" ∈ kx_T := kx_mem (List.mem_of_getElem? (i := 218) (by decide +kernel)) (by decide +kernel)
theorem kw_454 : Cond.lays "PrefetchRules$Pairs" "PrefetchRules$Rule" "saidCount" "I" ∈ kx_T := kx_mem (List.mem_of_getElem? (i := 219) (by decide +kernel)) (by decide +kernel)
theorem kw_455 : Cond.laysFinal "PrefetchRules$Pairs" "PrefetchRules$Pairs" "taken" "[Z" ∈ kx_T := kx_mem (List.mem_of_getElem? (i := 203) (by decide +kernel)) (by decide +kernel)
theorem kw_456 : Cond.laysFinal "PrefetchRules$Pairs" "PrefetchRules$Pairs" "owners" "[I" ∈ kx_T := kx_mem (List.mem_of_getElem? (i := 205) (by decide +kernel)) (by decide +kernel)
theorem kw_457 : Cond.laysFinal "PrefetchRules$Pairs" "PrefetchRules$Pairs" "behind" "[I" ∈ kx_T := kx_mem (List.mem_of_getElem? (i := 207) (by decide +kernel)) (by decide +kernel)
theorem kw_458 : Cond.laysFinal "PrefetchRules$Pairs" "PrefetchRules$Pairs" "newer" "[I" ∈ kx_T := kx_mem (List.mem_of_getElem? (i := 209) (by decide +kernel)) (by decide +kernel)
theorem kw_459 : Cond.laysFinal "PrefetchRules$Pairs" "PrefetchRules$Pairs" "older" "[I" ∈ kx_T := kx_mem (List.mem_of_getElem? (i := 211) (by decide +kernel)) (by decide +kernel)
theorem kw_460 : Cond.lays "PrefetchRules$Pairs" "PrefetchRules$Pairs" "begun" "Z" ∈ kx_T := kx_mem (List.mem_of_getElem? (i := 213) (by decide +kernel)) (by decide +kernel)
theorem kw_461 : Cond.lays "PrefetchRules$Pairs" "PrefetchRules$Pairs" "before" "I" ∈ kx_T := kx_mem (List.mem_of_getElem? (i := 215) (by decide +kernel)) (by decide +kernel)
theorem kw_462 : Cond.selects "PrefetchRules$Pairs" ⟨"PrefetchRules$Rule", "say", "(I)V"⟩ ⟨"PrefetchRules$Rule", "say", "(I)V"⟩ ∈ kx_T := kx_mem (List.mem_of_getElem? (i := 368) (by decide +kernel)) (by decide +kernel)
theorem mi_Next_init : kx_mI y_Next_init b_Next_init 2 1 := ⟨kw_258, kw_259, kw_90, rfl, by decide +kernel⟩
theorem mi_Offsets_init : kx_mI y_Offsets_init b_Offsets_init 2 1 := ⟨kw_260, kw_261, kw_103, rfl, by decide +kernel⟩
theorem mi_Pairs_init : kx_mI y_Pairs_init b_Pairs_init 2 1 := ⟨kw_262, kw_263, kw_107, rfl, by decide +kernel⟩
theorem mi_Queue_init : kx_mI y_Queue_init b_Queue_init 1 0 := ⟨kw_264, kw_265, kw_181, rfl, by decide +kernel⟩
theorem mi_Rule_init : kx_mI y_Rule_init b_Rule_init 2 1 := ⟨kw_266, kw_267, kw_17, rfl, by decide +kernel⟩
theorem mi_Store_init : kx_mI y_Store_init b_Store_init 2 1 := ⟨kw_268, kw_269, kw_177, rfl, by decide +kernel⟩
theorem mi_Streams_init : kx_mI y_Streams_init b_Streams_init 2 1 := ⟨kw_270, kw_271, kw_99, rfl, by decide +kernel⟩
theorem mi_Strides_init : kx_mI y_Strides_init b_Strides_init 2 1 := ⟨kw_272, kw_273, kw_95, rfl, by decide +kernel⟩
theorem ms_Main_indexOf : kx_mS y_Main_indexOf b_Main_indexOf 4 (some .int) 3 := ⟨kw_274, kw_276, kw_275, by decide +kernel⟩
theorem ms_Main_oneTo : kx_mS y_Main_oneTo b_Main_oneTo 2 (some .int) 2 := ⟨kw_277, kw_278, kw_275, by decide +kernel⟩
theorem ms_Main_ruleOf : kx_mS y_Main_ruleOf b_Main_ruleOf 2 (some (.object "PrefetchRules$Rule")) 2 := ⟨kw_279, kw_280, kw_275, by decide +kernel⟩
theorem ms_Math_floorMod : kx_mS y_Math_floorMod b_Math_floorMod 3 (some .int) 2 := ⟨kw_281, kw_282, kw_30, by decide +kernel⟩
theorem ms_Pairs_rowOf : kx_mS y_Pairs_rowOf b_Pairs_rowOf 1 (some .int) 1 := ⟨kw_283, kw_284, kw_107, by decide +kernel⟩
theorem ms_Streams_wayTo : kx_mS y_Streams_wayTo b_Streams_wayTo 1 (some .int) 1 := ⟨kw_285, kw_286, kw_99, by decide +kernel⟩
theorem ms_Strides_rowOf : kx_mS y_Strides_rowOf b_Strides_rowOf 1 (some .int) 1 := ⟨kw_287, kw_288, kw_95, by decide +kernel⟩
theorem mv_Main_ask : kx_mV y_Main_ask b_Main_ask 4 (some .int) 1 := ⟨kw_289, kw_290, kw_291, kw_275, by decide +kernel⟩
theorem mv_Main_come : kx_mV y_Main_come b_Main_come 3 none 2 := ⟨kw_292, kw_293, kw_294, kw_275, by decide +kernel⟩
theorem mv_Main_fetch : kx_mV y_Main_fetch b_Main_fetch 2 none 1 := ⟨kw_295, kw_296, kw_297, kw_275, by decide +kernel⟩
theorem mv_Main_hit : kx_mV y_Main_hit b_Main_hit 2 none 1 := ⟨kw_298, kw_299, kw_300, kw_275, by decide +kernel⟩
theorem mv_Main_nextCycle : kx_mV y_Main_nextCycle b_Main_nextCycle 3 (some .int) 0 := ⟨kw_301, kw_302, kw_303, kw_275, by decide +kernel⟩
theorem mv_Offsets_endRound : kx_mV y_Offsets_endRound b_Offsets_endRound 3 none 0 := ⟨kw_304, kw_305, kw_306, kw_103, by decide +kernel⟩
theorem mv_Offsets_isRecent : kx_mV y_Offsets_isRecent b_Offsets_isRecent 2 (some .boolean) 1 := ⟨kw_307, kw_308, kw_309, kw_103, by decide +kernel⟩
theorem mv_Offsets_remember : kx_mV y_Offsets_remember b_Offsets_remember 2 none 1 := ⟨kw_310, kw_311, kw_312, kw_103, by decide +kernel⟩
theorem mv_Offsets_tryCandidate : kx_mV y_Offsets_tryCandidate b_Offsets_tryCandidate 2 none 1 := ⟨kw_313, kw_314, kw_315, kw_103, by decide +kernel⟩
theorem mv_Pairs_behindCount : kx_mV y_Pairs_behindCount b_Pairs_behindCount 3 (some .int) 1 := ⟨kw_316, kw_317, kw_318, kw_107, by decide +kernel⟩
theorem mv_Pairs_follow : kx_mV y_Pairs_follow b_Pairs_follow 4 none 2 := ⟨kw_319, kw_320, kw_321, kw_107, by decide +kernel⟩
theorem mv_Pairs_isOwn : kx_mV y_Pairs_isOwn b_Pairs_isOwn 3 (some .boolean) 2 := ⟨kw_322, kw_323, kw_324, kw_107, by decide +kernel⟩
theorem mv_Queue_add : kx_mV y_Queue_add b_Queue_add 3 none 2 := ⟨kw_325, kw_326, kw_327, kw_181, by decide +kernel⟩
theorem mv_Queue_clear : kx_mV y_Queue_clear b_Queue_clear 1 none 0 := ⟨kw_328, kw_329, kw_330, kw_181, by decide +kernel⟩
theorem mv_Queue_cycleAt : kx_mV y_Queue_cycleAt b_Queue_cycleAt 2 (some .int) 1 := ⟨kw_331, kw_332, kw_333, kw_181, by decide +kernel⟩
theorem mv_Queue_find : kx_mV y_Queue_find b_Queue_find 2 (some .int) 1 := ⟨kw_334, kw_335, kw_336, kw_181, by decide +kernel⟩
theorem mv_Queue_firstIsDue : kx_mV y_Queue_firstIsDue b_Queue_firstIsDue 2 (some .boolean) 1 := ⟨kw_337, kw_338, kw_339, kw_181, by decide +kernel⟩
theorem mv_Queue_isFull : kx_mV y_Queue_isFull b_Queue_isFull 1 (some .boolean) 0 := ⟨kw_340, kw_341, kw_342, kw_181, by decide +kernel⟩
theorem mv_Queue_lineAt : kx_mV y_Queue_lineAt b_Queue_lineAt 2 (some .int) 1 := ⟨kw_343, kw_344, kw_345, kw_181, by decide +kernel⟩
theorem mv_Queue_remove : kx_mV y_Queue_remove b_Queue_remove 3 none 1 := ⟨kw_346, kw_347, kw_348, kw_181, by decide +kernel⟩
theorem mv_Queue_size : kx_mV y_Queue_size b_Queue_size 1 (some .int) 0 := ⟨kw_349, kw_350, kw_351, kw_181, by decide +kernel⟩
theorem mv_Store_clearMarks : kx_mV y_Store_clearMarks b_Store_clearMarks 2 none 0 := ⟨kw_352, kw_353, kw_354, kw_177, by decide +kernel⟩
theorem mv_Store_dropLast : kx_mV y_Store_dropLast b_Store_dropLast 1 (some .boolean) 0 := ⟨kw_355, kw_356, kw_357, kw_177, by decide +kernel⟩
theorem mv_Store_find : kx_mV y_Store_find b_Store_find 2 (some .int) 1 := ⟨kw_358, kw_359, kw_360, kw_177, by decide +kernel⟩
theorem mv_Store_isFull : kx_mV y_Store_isFull b_Store_isFull 1 (some .boolean) 0 := ⟨kw_361, kw_362, kw_363, kw_177, by decide +kernel⟩
theorem mv_Store_isMarked : kx_mV y_Store_isMarked b_Store_isMarked 2 (some .boolean) 1 := ⟨kw_364, kw_365, kw_366, kw_177, by decide +kernel⟩
theorem mv_Store_lineAt : kx_mV y_Store_lineAt b_Store_lineAt 2 (some .int) 1 := ⟨kw_367, kw_368, kw_369, kw_177, by decide +kernel⟩
theorem mv_Store_markCount : kx_mV y_Store_markCount b_Store_markCount 3 (some .int) 0 := ⟨kw_370, kw_371, kw_372, kw_177, by decide +kernel⟩
theorem mv_Store_moveInFront : kx_mV y_Store_moveInFront b_Store_moveInFront 5 none 3 := ⟨kw_373, kw_374, kw_375, kw_177, by decide +kernel⟩
theorem mv_Store_putFirst : kx_mV y_Store_putFirst b_Store_putFirst 3 none 2 := ⟨kw_376, kw_377, kw_378, kw_177, by decide +kernel⟩
theorem mv_Store_size : kx_mV y_Store_size b_Store_size 1 (some .int) 0 := ⟨kw_379, kw_380, kw_381, kw_177, by decide +kernel⟩
theorem mv_Store_use : kx_mV y_Store_use b_Store_use 2 none 1 := ⟨kw_382, kw_383, kw_384, kw_177, by decide +kernel⟩
theorem mv_Streams_begin : kx_mV y_Streams_begin b_Streams_begin 2 none 1 := ⟨kw_385, kw_386, kw_387, kw_99, by decide +kernel⟩
theorem mv_Streams_moveInFront : kx_mV y_Streams_moveInFront b_Streams_moveInFront 5 none 3 := ⟨kw_388, kw_389, kw_390, kw_99, by decide +kernel⟩
theorem mv_Strides_begin : kx_mV y_Strides_begin b_Strides_begin 4 none 3 := ⟨kw_391, kw_392, kw_393, kw_95, by decide +kernel⟩
theorem mv_Strides_compare : kx_mV y_Strides_compare b_Strides_compare 3 none 2 := ⟨kw_394, kw_395, kw_396, kw_95, by decide +kernel⟩
theorem mv_Strides_isOwn : kx_mV y_Strides_isOwn b_Strides_isOwn 3 (some .boolean) 2 := ⟨kw_397, kw_398, kw_399, kw_95, by decide +kernel⟩
theorem iw_Main : ∀ w ∈ u_ws "PrefetchRules" F_Main 14, w ∈ kx_T := by
  show ∀ w ∈ ([Cond.laysFinal "PrefetchRules" "PrefetchRules" "latency" "I", Cond.laysFinal "PrefetchRules" "PrefetchRules" "store" "LPrefetchRules$Store;", Cond.laysFinal "PrefetchRules" "PrefetchRules" "queue" "LPrefetchRules$Queue;", Cond.laysFinal "PrefetchRules" "PrefetchRules" "rule" "LPrefetchRules$Rule;", Cond.lays "PrefetchRules" "PrefetchRules" "cycles" "I", Cond.lays "PrefetchRules" "PrefetchRules" "accesses" "I", Cond.lays "PrefetchRules" "PrefetchRules" "hits" "I", Cond.lays "PrefetchRules" "PrefetchRules" "late" "I", Cond.lays "PrefetchRules" "PrefetchRules" "misses" "I", Cond.lays "PrefetchRules" "PrefetchRules" "useful" "I", Cond.lays "PrefetchRules" "PrefetchRules" "useless" "I", Cond.lays "PrefetchRules" "PrefetchRules" "filtered" "I", Cond.lays "PrefetchRules" "PrefetchRules" "dropped" "I", Cond.lays "PrefetchRules" "PrefetchRules" "fetches" "I"] : List Cond), w ∈ kx_T
  exact kx_cons kw_400 (kx_cons kw_401 (kx_cons kw_402 (kx_cons kw_403 (kx_cons kw_404 (kx_cons kw_405 (kx_cons kw_406 (kx_cons kw_407 (kx_cons kw_408 (kx_cons kw_409 (kx_cons kw_410 (kx_cons kw_411 (kx_cons kw_412 (kx_cons kw_413 (fun _ h => absurd h List.not_mem_nil))))))))))))))
theorem kc_Main : kx_cls 0 "PrefetchRules" F_Main 14 t_Main := ⟨rfl, iw_Main, by decide +kernel, by decide +kernel⟩
theorem df_Main : ∀ j, j < 14 → defaultValue (t_Main j) = vp_V [.int 0, .null, .null, .null, .int 0, .int 0, .int 0, .int 0, .int 0, .int 0, .int 0, .int 0, .int 0, .int 0] j := fun j hj => by
  rcases (show j = 0 ∨ j = 1 ∨ j = 2 ∨ j = 3 ∨ j = 4 ∨ j = 5 ∨ j = 6 ∨ j = 7 ∨ j = 8 ∨ j = 9 ∨ j = 10 ∨ j = 11 ∨ j = 12 ∨ j = 13 by omega) with rfl | rfl | rfl | rfl | rfl | rfl | rfl | rfl | rfl | rfl | rfl | rfl | rfl | rfl <;> rfl
theorem iw_Store : ∀ w ∈ u_ws "PrefetchRules$Store" F_Store 3, w ∈ kx_T := by
  show ∀ w ∈ ([Cond.laysFinal "PrefetchRules$Store" "PrefetchRules$Store" "lines" "[I", Cond.laysFinal "PrefetchRules$Store" "PrefetchRules$Store" "marks" "[Z", Cond.lays "PrefetchRules$Store" "PrefetchRules$Store" "size" "I"] : List Cond), w ∈ kx_T
  exact kx_cons kw_414 (kx_cons kw_415 (kx_cons kw_416 (fun _ h => absurd h List.not_mem_nil)))
theorem kc_Store : kx_cls 1 "PrefetchRules$Store" F_Store 3 t_Store := ⟨rfl, iw_Store, by decide +kernel, by decide +kernel⟩
theorem df_Store : ∀ j, j < 3 → defaultValue (t_Store j) = vp_V [.null, .null, .int 0] j := fun j hj => by
  rcases (show j = 0 ∨ j = 1 ∨ j = 2 by omega) with rfl | rfl | rfl <;> rfl
theorem iw_Queue : ∀ w ∈ u_ws "PrefetchRules$Queue" F_Queue 3, w ∈ kx_T := by
  show ∀ w ∈ ([Cond.laysFinal "PrefetchRules$Queue" "PrefetchRules$Queue" "lines" "[I", Cond.laysFinal "PrefetchRules$Queue" "PrefetchRules$Queue" "cycles" "[I", Cond.lays "PrefetchRules$Queue" "PrefetchRules$Queue" "size" "I"] : List Cond), w ∈ kx_T
  exact kx_cons kw_417 (kx_cons kw_418 (kx_cons kw_419 (fun _ h => absurd h List.not_mem_nil)))
theorem kc_Queue : kx_cls 2 "PrefetchRules$Queue" F_Queue 3 t_Queue := ⟨rfl, iw_Queue, by decide +kernel, by decide +kernel⟩
theorem df_Queue : ∀ j, j < 3 → defaultValue (t_Queue j) = vp_V [.null, .null, .int 0] j := fun j hj => by
  rcases (show j = 0 ∨ j = 1 ∨ j = 2 by omega) with rfl | rfl | rfl <;> rfl
theorem iw_Next : ∀ w ∈ u_ws "PrefetchRules$Next" F_Next 3, w ∈ kx_T := by
  show ∀ w ∈ ([Cond.laysFinal "PrefetchRules$Next" "PrefetchRules$Rule" "degree" "I", Cond.laysFinal "PrefetchRules$Next" "PrefetchRules$Rule" "said" "[I", Cond.lays "PrefetchRules$Next" "PrefetchRules$Rule" "saidCount" "I"] : List Cond), w ∈ kx_T
  exact kx_cons kw_420 (kx_cons kw_421 (kx_cons kw_422 (fun _ h => absurd h List.not_mem_nil)))
theorem kc_Next : kx_cls 3 "PrefetchRules$Next" F_Next 3 t_Next := ⟨rfl, iw_Next, by decide +kernel, by decide +kernel⟩
theorem df_Next : ∀ j, j < 3 → defaultValue (t_Next j) = vp_V [.int 0, .null, .int 0] j := fun j hj => by
  rcases (show j = 0 ∨ j = 1 ∨ j = 2 by omega) with rfl | rfl | rfl <;> rfl
theorem kr_Next : kx_rule 3 "PrefetchRules$Next" F_Next 3 t_Next := ⟨kc_Next, by decide, rfl, rfl, rfl, rfl, rfl, rfl, kw_423⟩
theorem iw_Strides : ∀ w ∈ u_ws "PrefetchRules$Strides" F_Strides 8, w ∈ kx_T := by
  show ∀ w ∈ ([Cond.laysFinal "PrefetchRules$Strides" "PrefetchRules$Rule" "degree" "I", Cond.laysFinal "PrefetchRules$Strides" "PrefetchRules$Rule" "said" "[I", Cond.lays "PrefetchRules$Strides" "PrefetchRules$Rule" "saidCount" "I", Cond.laysFinal "PrefetchRules$Strides" "PrefetchRules$Strides" "taken" "[Z", Cond.laysFinal "PrefetchRules$Strides" "PrefetchRules$Strides" "places" "[I", Cond.laysFinal "PrefetchRules$Strides" "PrefetchRules$Strides" "lines" "[I", Cond.laysFinal "PrefetchRules$Strides" "PrefetchRules$Strides" "strides" "[I", Cond.laysFinal "PrefetchRules$Strides" "PrefetchRules$Strides" "trusts" "[I"] : List Cond), w ∈ kx_T
  exact kx_cons kw_424 (kx_cons kw_425 (kx_cons kw_426 (kx_cons kw_427 (kx_cons kw_428 (kx_cons kw_429 (kx_cons kw_430 (kx_cons kw_431 (fun _ h => absurd h List.not_mem_nil))))))))
theorem kc_Strides : kx_cls 4 "PrefetchRules$Strides" F_Strides 8 t_Strides := ⟨rfl, iw_Strides, by decide +kernel, by decide +kernel⟩
theorem df_Strides : ∀ j, j < 8 → defaultValue (t_Strides j) = vp_V [.int 0, .null, .int 0, .null, .null, .null, .null, .null] j := fun j hj => by
  rcases (show j = 0 ∨ j = 1 ∨ j = 2 ∨ j = 3 ∨ j = 4 ∨ j = 5 ∨ j = 6 ∨ j = 7 by omega) with rfl | rfl | rfl | rfl | rfl | rfl | rfl | rfl <;> rfl
theorem kr_Strides : kx_rule 4 "PrefetchRules$Strides" F_Strides 8 t_Strides := ⟨kc_Strides, by decide, rfl, rfl, rfl, rfl, rfl, rfl, kw_432⟩
theorem iw_Streams : ∀ w ∈ u_ws "PrefetchRules$Streams" F_Streams 6, w ∈ kx_T := by
  show ∀ w ∈ ([Cond.laysFinal "PrefetchRules$Streams" "PrefetchRules$Rule" "degree" "I", Cond.laysFinal "PrefetchRules$Streams" "PrefetchRules$Rule" "said" "[I", Cond.lays "PrefetchRules$Streams" "PrefetchRules$Rule" "saidCount" "I", Cond.laysFinal "PrefetchRules$Streams" "PrefetchRules$Streams" "lines" "[I", Cond.laysFinal "PrefetchRules$Streams" "PrefetchRules$Streams" "ways" "[I", Cond.lays "PrefetchRules$Streams" "PrefetchRules$Streams" "size" "I"] : List Cond), w ∈ kx_T
  exact kx_cons kw_433 (kx_cons kw_434 (kx_cons kw_435 (kx_cons kw_436 (kx_cons kw_437 (kx_cons kw_438 (fun _ h => absurd h List.not_mem_nil))))))
theorem kc_Streams : kx_cls 5 "PrefetchRules$Streams" F_Streams 6 t_Streams := ⟨rfl, iw_Streams, by decide +kernel, by decide +kernel⟩
theorem df_Streams : ∀ j, j < 6 → defaultValue (t_Streams j) = vp_V [.int 0, .null, .int 0, .null, .null, .int 0] j := fun j hj => by
  rcases (show j = 0 ∨ j = 1 ∨ j = 2 ∨ j = 3 ∨ j = 4 ∨ j = 5 by omega) with rfl | rfl | rfl | rfl | rfl | rfl <;> rfl
theorem kr_Streams : kx_rule 5 "PrefetchRules$Streams" F_Streams 6 t_Streams := ⟨kc_Streams, by decide, rfl, rfl, rfl, rfl, rfl, rfl, kw_439⟩
theorem iw_Offsets : ∀ w ∈ u_ws "PrefetchRules$Offsets" F_Offsets 11, w ∈ kx_T := by
  show ∀ w ∈ ([Cond.laysFinal "PrefetchRules$Offsets" "PrefetchRules$Rule" "degree" "I", Cond.laysFinal "PrefetchRules$Offsets" "PrefetchRules$Rule" "said" "[I", Cond.lays "PrefetchRules$Offsets" "PrefetchRules$Rule" "saidCount" "I", Cond.laysFinal "PrefetchRules$Offsets" "PrefetchRules$Offsets" "recent" "[I", Cond.lays "PrefetchRules$Offsets" "PrefetchRules$Offsets" "recentCount" "I", Cond.lays "PrefetchRules$Offsets" "PrefetchRules$Offsets" "oldest" "I", Cond.laysFinal "PrefetchRules$Offsets" "PrefetchRules$Offsets" "scores" "[I", Cond.lays "PrefetchRules$Offsets" "PrefetchRules$Offsets" "turn" "I", Cond.lays "PrefetchRules$Offsets" "PrefetchRules$Offsets" "tries" "I", Cond.lays "PrefetchRules$Offsets" "PrefetchRules$Offsets" "offset" "I", Cond.lays "PrefetchRules$Offsets" "PrefetchRules$Offsets" "rounds" "I"] : List Cond), w ∈ kx_T
  exact kx_cons kw_440 (kx_cons kw_441 (kx_cons kw_442 (kx_cons kw_443 (kx_cons kw_444 (kx_cons kw_445 (kx_cons kw_446 (kx_cons kw_447 (kx_cons kw_448 (kx_cons kw_449 (kx_cons kw_450 (fun _ h => absurd h List.not_mem_nil)))))))))))
theorem kc_Offsets : kx_cls 6 "PrefetchRules$Offsets" F_Offsets 11 t_Offsets := ⟨rfl, iw_Offsets, by decide +kernel, by decide +kernel⟩
theorem df_Offsets : ∀ j, j < 11 → defaultValue (t_Offsets j) = vp_V [.int 0, .null, .int 0, .null, .int 0, .int 0, .null, .int 0, .int 0, .int 0, .int 0] j := fun j hj => by
  rcases (show j = 0 ∨ j = 1 ∨ j = 2 ∨ j = 3 ∨ j = 4 ∨ j = 5 ∨ j = 6 ∨ j = 7 ∨ j = 8 ∨ j = 9 ∨ j = 10 by omega) with rfl | rfl | rfl | rfl | rfl | rfl | rfl | rfl | rfl | rfl | rfl <;> rfl
theorem kr_Offsets : kx_rule 6 "PrefetchRules$Offsets" F_Offsets 11 t_Offsets := ⟨kc_Offsets, by decide, rfl, rfl, rfl, rfl, rfl, rfl, kw_451⟩
theorem iw_Pairs : ∀ w ∈ u_ws "PrefetchRules$Pairs" F_Pairs 10, w ∈ kx_T := by
  show ∀ w ∈ ([Cond.laysFinal "PrefetchRules$Pairs" "PrefetchRules$Rule" "degree" "I", Cond.laysFinal "PrefetchRules$Pairs" "PrefetchRules$Rule" "said" "[I", Cond.lays "PrefetchRules$Pairs" "PrefetchRules$Rule" "saidCount" "I", Cond.laysFinal "PrefetchRules$Pairs" "PrefetchRules$Pairs" "taken" "[Z", Cond.laysFinal "PrefetchRules$Pairs" "PrefetchRules$Pairs" "owners" "[I", Cond.laysFinal "PrefetchRules$Pairs" "PrefetchRules$Pairs" "behind" "[I", Cond.laysFinal "PrefetchRules$Pairs" "PrefetchRules$Pairs" "newer" "[I", Cond.laysFinal "PrefetchRules$Pairs" "PrefetchRules$Pairs" "older" "[I", Cond.lays "PrefetchRules$Pairs" "PrefetchRules$Pairs" "begun" "Z", Cond.lays "PrefetchRules$Pairs" "PrefetchRules$Pairs" "before" "I"] : List Cond), w ∈ kx_T
  exact kx_cons kw_452 (kx_cons kw_453 (kx_cons kw_454 (kx_cons kw_455 (kx_cons kw_456 (kx_cons kw_457 (kx_cons kw_458 (kx_cons kw_459 (kx_cons kw_460 (kx_cons kw_461 (fun _ h => absurd h List.not_mem_nil))))))))))
theorem kc_Pairs : kx_cls 7 "PrefetchRules$Pairs" F_Pairs 10 t_Pairs := ⟨rfl, iw_Pairs, by decide +kernel, by decide +kernel⟩
theorem df_Pairs : ∀ j, j < 10 → defaultValue (t_Pairs j) = vp_V [.int 0, .null, .int 0, .null, .null, .null, .null, .null, .int 0, .int 0] j := fun j hj => by
  rcases (show j = 0 ∨ j = 1 ∨ j = 2 ∨ j = 3 ∨ j = 4 ∨ j = 5 ∨ j = 6 ∨ j = 7 ∨ j = 8 ∨ j = 9 by omega) with rfl | rfl | rfl | rfl | rfl | rfl | rfl | rfl | rfl | rfl <;> rfl
theorem kr_Pairs : kx_rule 7 "PrefetchRules$Pairs" F_Pairs 10 t_Pairs := ⟨kc_Pairs, by decide, rfl, rfl, rfl, rfl, rfl, rfl, kw_462⟩
end
section
theorem d_Store_init_0 : decode b_Store_init 0 = .ok (.aload_n 0, 1) := by decide +kernel
theorem d_Store_init_1 : decode b_Store_init 1 = .ok (.invokespecial 3, 3) := by decide +kernel
theorem d_Store_init_4 : decode b_Store_init 4 = .ok (.aload_n 0, 1) := by decide +kernel
theorem d_Store_init_5 : decode b_Store_init 5 = .ok (.iload_n 1, 1) := by decide +kernel
theorem d_Store_init_6 : decode b_Store_init 6 = .ok (.newarray .int, 2) := by decide +kernel
theorem d_Store_init_8 : decode b_Store_init 8 = .ok (.putfield 9, 3) := by decide +kernel
theorem d_Store_init_11 : decode b_Store_init 11 = .ok (.aload_n 0, 1) := by decide +kernel
theorem d_Store_init_12 : decode b_Store_init 12 = .ok (.iload_n 1, 1) := by decide +kernel
theorem d_Store_init_13 : decode b_Store_init 13 = .ok (.newarray .boolean, 2) := by decide +kernel
theorem d_Store_init_15 : decode b_Store_init 15 = .ok (.putfield 15, 3) := by decide +kernel
theorem d_Store_init_18 : decode b_Store_init 18 = .ok (.return_, 1) := by decide +kernel
theorem d_Store_clearMarks_0 : decode b_Store_clearMarks 0 = .ok (.iconst 0, 1) := by decide +kernel
theorem d_Store_clearMarks_1 : decode b_Store_clearMarks 1 = .ok (.istore_n 1, 1) := by decide +kernel
theorem d_Store_clearMarks_2 : decode b_Store_clearMarks 2 = .ok (.iload_n 1, 1) := by decide +kernel
theorem d_Store_clearMarks_3 : decode b_Store_clearMarks 3 = .ok (.aload_n 0, 1) := by decide +kernel
theorem d_Store_clearMarks_4 : decode b_Store_clearMarks 4 = .ok (.getfield 19, 3) := by decide +kernel
theorem d_Store_clearMarks_7 : decode b_Store_clearMarks 7 = .ok (.if_icmp .ge 16, 3) := by decide +kernel
theorem d_Store_clearMarks_10 : decode b_Store_clearMarks 10 = .ok (.aload_n 0, 1) := by decide +kernel
theorem d_Store_clearMarks_11 : decode b_Store_clearMarks 11 = .ok (.getfield 15, 3) := by decide +kernel
theorem d_Store_clearMarks_14 : decode b_Store_clearMarks 14 = .ok (.iload_n 1, 1) := by decide +kernel
theorem d_Store_clearMarks_15 : decode b_Store_clearMarks 15 = .ok (.iconst 0, 1) := by decide +kernel
theorem d_Store_clearMarks_16 : decode b_Store_clearMarks 16 = .ok (.bastore, 1) := by decide +kernel
theorem d_Store_clearMarks_17 : decode b_Store_clearMarks 17 = .ok (.iinc 1 1, 3) := by decide +kernel
theorem d_Store_clearMarks_20 : decode b_Store_clearMarks 20 = .ok (.goto (-18), 3) := by decide +kernel
theorem d_Store_clearMarks_23 : decode b_Store_clearMarks 23 = .ok (.return_, 1) := by decide +kernel
theorem d_Store_dropLast_0 : decode b_Store_dropLast 0 = .ok (.aload_n 0, 1) := by decide +kernel
theorem d_Store_dropLast_1 : decode b_Store_dropLast 1 = .ok (.getfield 19, 3) := by decide +kernel
theorem d_Store_dropLast_4 : decode b_Store_dropLast 4 = .ok (.iconst 1, 1) := by decide +kernel
theorem d_Store_dropLast_5 : decode b_Store_dropLast 5 = .ok (.if_icmp .ge 5, 3) := by decide +kernel
theorem d_Store_dropLast_8 : decode b_Store_dropLast 8 = .ok (.iconst 0, 1) := by decide +kernel
theorem d_Store_dropLast_9 : decode b_Store_dropLast 9 = .ok (.ireturn, 1) := by decide +kernel
theorem d_Store_dropLast_10 : decode b_Store_dropLast 10 = .ok (.aload_n 0, 1) := by decide +kernel
theorem d_Store_dropLast_11 : decode b_Store_dropLast 11 = .ok (.dup, 1) := by decide +kernel
theorem d_Store_dropLast_12 : decode b_Store_dropLast 12 = .ok (.getfield 19, 3) := by decide +kernel
theorem d_Store_dropLast_15 : decode b_Store_dropLast 15 = .ok (.iconst 1, 1) := by decide +kernel
theorem d_Store_dropLast_16 : decode b_Store_dropLast 16 = .ok (.isub, 1) := by decide +kernel
theorem d_Store_dropLast_17 : decode b_Store_dropLast 17 = .ok (.putfield 19, 3) := by decide +kernel
theorem d_Store_dropLast_20 : decode b_Store_dropLast 20 = .ok (.aload_n 0, 1) := by decide +kernel
theorem d_Store_dropLast_21 : decode b_Store_dropLast 21 = .ok (.getfield 15, 3) := by decide +kernel
theorem d_Store_dropLast_24 : decode b_Store_dropLast 24 = .ok (.aload_n 0, 1) := by decide +kernel
theorem d_Store_dropLast_25 : decode b_Store_dropLast 25 = .ok (.getfield 19, 3) := by decide +kernel
theorem d_Store_dropLast_28 : decode b_Store_dropLast 28 = .ok (.baload, 1) := by decide +kernel
theorem d_Store_dropLast_29 : decode b_Store_dropLast 29 = .ok (.ireturn, 1) := by decide +kernel
theorem d_Store_find_0 : decode b_Store_find 0 = .ok (.iload_n 1, 1) := by decide +kernel
theorem d_Store_find_1 : decode b_Store_find 1 = .ok (.aload_n 0, 1) := by decide +kernel
theorem d_Store_find_2 : decode b_Store_find 2 = .ok (.getfield 9, 3) := by decide +kernel
theorem d_Store_find_5 : decode b_Store_find 5 = .ok (.aload_n 0, 1) := by decide +kernel
theorem d_Store_find_6 : decode b_Store_find 6 = .ok (.getfield 19, 3) := by decide +kernel
theorem d_Store_find_9 : decode b_Store_find 9 = .ok (.invokestatic 23, 3) := by decide +kernel
theorem d_Store_find_12 : decode b_Store_find 12 = .ok (.ireturn, 1) := by decide +kernel
theorem d_Store_isFull_0 : decode b_Store_isFull 0 = .ok (.aload_n 0, 1) := by decide +kernel
theorem d_Store_isFull_1 : decode b_Store_isFull 1 = .ok (.getfield 19, 3) := by decide +kernel
theorem d_Store_isFull_4 : decode b_Store_isFull 4 = .ok (.aload_n 0, 1) := by decide +kernel
theorem d_Store_isFull_5 : decode b_Store_isFull 5 = .ok (.getfield 9, 3) := by decide +kernel
theorem d_Store_isFull_8 : decode b_Store_isFull 8 = .ok (.arraylength, 1) := by decide +kernel
theorem d_Store_isFull_9 : decode b_Store_isFull 9 = .ok (.if_icmp .lt 7, 3) := by decide +kernel
theorem d_Store_isFull_12 : decode b_Store_isFull 12 = .ok (.iconst 1, 1) := by decide +kernel
theorem d_Store_isFull_13 : decode b_Store_isFull 13 = .ok (.goto 4, 3) := by decide +kernel
theorem d_Store_isFull_16 : decode b_Store_isFull 16 = .ok (.iconst 0, 1) := by decide +kernel
theorem d_Store_isFull_17 : decode b_Store_isFull 17 = .ok (.ireturn, 1) := by decide +kernel
theorem d_Store_isMarked_0 : decode b_Store_isMarked 0 = .ok (.iload_n 1, 1) := by decide +kernel
theorem d_Store_isMarked_1 : decode b_Store_isMarked 1 = .ok (.ifCond .lt 24, 3) := by decide +kernel
theorem d_Store_isMarked_4 : decode b_Store_isMarked 4 = .ok (.iload_n 1, 1) := by decide +kernel
theorem d_Store_isMarked_5 : decode b_Store_isMarked 5 = .ok (.aload_n 0, 1) := by decide +kernel
theorem d_Store_isMarked_6 : decode b_Store_isMarked 6 = .ok (.getfield 19, 3) := by decide +kernel
theorem d_Store_isMarked_9 : decode b_Store_isMarked 9 = .ok (.if_icmp .ge 16, 3) := by decide +kernel
theorem d_Store_isMarked_12 : decode b_Store_isMarked 12 = .ok (.aload_n 0, 1) := by decide +kernel
theorem d_Store_isMarked_13 : decode b_Store_isMarked 13 = .ok (.getfield 15, 3) := by decide +kernel
theorem d_Store_isMarked_16 : decode b_Store_isMarked 16 = .ok (.iload_n 1, 1) := by decide +kernel
theorem d_Store_isMarked_17 : decode b_Store_isMarked 17 = .ok (.baload, 1) := by decide +kernel
theorem d_Store_isMarked_18 : decode b_Store_isMarked 18 = .ok (.ifCond .eq 7, 3) := by decide +kernel
theorem d_Store_isMarked_21 : decode b_Store_isMarked 21 = .ok (.iconst 1, 1) := by decide +kernel
theorem d_Store_isMarked_22 : decode b_Store_isMarked 22 = .ok (.goto 4, 3) := by decide +kernel
theorem d_Store_isMarked_25 : decode b_Store_isMarked 25 = .ok (.iconst 0, 1) := by decide +kernel
theorem d_Store_isMarked_26 : decode b_Store_isMarked 26 = .ok (.ireturn, 1) := by decide +kernel
theorem d_Store_lineAt_0 : decode b_Store_lineAt 0 = .ok (.iload_n 1, 1) := by decide +kernel
theorem d_Store_lineAt_1 : decode b_Store_lineAt 1 = .ok (.ifCond .lt 20, 3) := by decide +kernel
theorem d_Store_lineAt_4 : decode b_Store_lineAt 4 = .ok (.iload_n 1, 1) := by decide +kernel
theorem d_Store_lineAt_5 : decode b_Store_lineAt 5 = .ok (.aload_n 0, 1) := by decide +kernel
theorem d_Store_lineAt_6 : decode b_Store_lineAt 6 = .ok (.getfield 19, 3) := by decide +kernel
theorem d_Store_lineAt_9 : decode b_Store_lineAt 9 = .ok (.if_icmp .ge 12, 3) := by decide +kernel
theorem d_Store_lineAt_12 : decode b_Store_lineAt 12 = .ok (.aload_n 0, 1) := by decide +kernel
theorem d_Store_lineAt_13 : decode b_Store_lineAt 13 = .ok (.getfield 9, 3) := by decide +kernel
theorem d_Store_lineAt_16 : decode b_Store_lineAt 16 = .ok (.iload_n 1, 1) := by decide +kernel
theorem d_Store_lineAt_17 : decode b_Store_lineAt 17 = .ok (.iaload, 1) := by decide +kernel
theorem d_Store_lineAt_18 : decode b_Store_lineAt 18 = .ok (.goto 4, 3) := by decide +kernel
theorem d_Store_lineAt_21 : decode b_Store_lineAt 21 = .ok (.iconst (-1), 1) := by decide +kernel
theorem d_Store_lineAt_22 : decode b_Store_lineAt 22 = .ok (.ireturn, 1) := by decide +kernel
theorem d_Store_markCount_0 : decode b_Store_markCount 0 = .ok (.iconst 0, 1) := by decide +kernel
theorem d_Store_markCount_1 : decode b_Store_markCount 1 = .ok (.istore_n 1, 1) := by decide +kernel
theorem d_Store_markCount_2 : decode b_Store_markCount 2 = .ok (.iconst 0, 1) := by decide +kernel
theorem d_Store_markCount_3 : decode b_Store_markCount 3 = .ok (.istore_n 2, 1) := by decide +kernel
theorem d_Store_markCount_4 : decode b_Store_markCount 4 = .ok (.iload_n 2, 1) := by decide +kernel
theorem d_Store_markCount_5 : decode b_Store_markCount 5 = .ok (.aload_n 0, 1) := by decide +kernel
theorem d_Store_markCount_6 : decode b_Store_markCount 6 = .ok (.getfield 19, 3) := by decide +kernel
theorem d_Store_markCount_9 : decode b_Store_markCount 9 = .ok (.if_icmp .ge 21, 3) := by decide +kernel
theorem d_Store_markCount_12 : decode b_Store_markCount 12 = .ok (.aload_n 0, 1) := by decide +kernel
theorem d_Store_markCount_13 : decode b_Store_markCount 13 = .ok (.getfield 15, 3) := by decide +kernel
theorem d_Store_markCount_16 : decode b_Store_markCount 16 = .ok (.iload_n 2, 1) := by decide +kernel
theorem d_Store_markCount_17 : decode b_Store_markCount 17 = .ok (.baload, 1) := by decide +kernel
theorem d_Store_markCount_18 : decode b_Store_markCount 18 = .ok (.ifCond .eq 6, 3) := by decide +kernel
theorem d_Store_markCount_21 : decode b_Store_markCount 21 = .ok (.iinc 1 1, 3) := by decide +kernel
theorem d_Store_markCount_24 : decode b_Store_markCount 24 = .ok (.iinc 2 1, 3) := by decide +kernel
theorem d_Store_markCount_27 : decode b_Store_markCount 27 = .ok (.goto (-23), 3) := by decide +kernel
theorem d_Store_markCount_30 : decode b_Store_markCount 30 = .ok (.iload_n 1, 1) := by decide +kernel
theorem d_Store_markCount_31 : decode b_Store_markCount 31 = .ok (.ireturn, 1) := by decide +kernel
theorem d_Store_moveInFront_0 : decode b_Store_moveInFront 0 = .ok (.iload_n 1, 1) := by decide +kernel
theorem d_Store_moveInFront_1 : decode b_Store_moveInFront 1 = .ok (.istore 4, 2) := by decide +kernel
theorem d_Store_moveInFront_3 : decode b_Store_moveInFront 3 = .ok (.iload 4, 2) := by decide +kernel
theorem d_Store_moveInFront_5 : decode b_Store_moveInFront 5 = .ok (.ifCond .le 41, 3) := by decide +kernel
theorem d_Store_moveInFront_8 : decode b_Store_moveInFront 8 = .ok (.aload_n 0, 1) := by decide +kernel
theorem d_Store_moveInFront_9 : decode b_Store_moveInFront 9 = .ok (.getfield 9, 3) := by decide +kernel
theorem d_Store_moveInFront_12 : decode b_Store_moveInFront 12 = .ok (.iload 4, 2) := by decide +kernel
theorem d_Store_moveInFront_14 : decode b_Store_moveInFront 14 = .ok (.aload_n 0, 1) := by decide +kernel
theorem d_Store_moveInFront_15 : decode b_Store_moveInFront 15 = .ok (.getfield 9, 3) := by decide +kernel
theorem d_Store_moveInFront_18 : decode b_Store_moveInFront 18 = .ok (.iload 4, 2) := by decide +kernel
theorem d_Store_moveInFront_20 : decode b_Store_moveInFront 20 = .ok (.iconst 1, 1) := by decide +kernel
theorem d_Store_moveInFront_21 : decode b_Store_moveInFront 21 = .ok (.isub, 1) := by decide +kernel
theorem d_Store_moveInFront_22 : decode b_Store_moveInFront 22 = .ok (.iaload, 1) := by decide +kernel
theorem d_Store_moveInFront_23 : decode b_Store_moveInFront 23 = .ok (.iastore, 1) := by decide +kernel
theorem d_Store_moveInFront_24 : decode b_Store_moveInFront 24 = .ok (.aload_n 0, 1) := by decide +kernel
theorem d_Store_moveInFront_25 : decode b_Store_moveInFront 25 = .ok (.getfield 15, 3) := by decide +kernel
theorem d_Store_moveInFront_28 : decode b_Store_moveInFront 28 = .ok (.iload 4, 2) := by decide +kernel
theorem d_Store_moveInFront_30 : decode b_Store_moveInFront 30 = .ok (.aload_n 0, 1) := by decide +kernel
theorem d_Store_moveInFront_31 : decode b_Store_moveInFront 31 = .ok (.getfield 15, 3) := by decide +kernel
theorem d_Store_moveInFront_34 : decode b_Store_moveInFront 34 = .ok (.iload 4, 2) := by decide +kernel
theorem d_Store_moveInFront_36 : decode b_Store_moveInFront 36 = .ok (.iconst 1, 1) := by decide +kernel
theorem d_Store_moveInFront_37 : decode b_Store_moveInFront 37 = .ok (.isub, 1) := by decide +kernel
theorem d_Store_moveInFront_38 : decode b_Store_moveInFront 38 = .ok (.baload, 1) := by decide +kernel
theorem d_Store_moveInFront_39 : decode b_Store_moveInFront 39 = .ok (.bastore, 1) := by decide +kernel
theorem d_Store_moveInFront_40 : decode b_Store_moveInFront 40 = .ok (.iinc 4 (-1), 3) := by decide +kernel
theorem d_Store_moveInFront_43 : decode b_Store_moveInFront 43 = .ok (.goto (-40), 3) := by decide +kernel
theorem d_Store_moveInFront_46 : decode b_Store_moveInFront 46 = .ok (.aload_n 0, 1) := by decide +kernel
theorem d_Store_moveInFront_47 : decode b_Store_moveInFront 47 = .ok (.getfield 9, 3) := by decide +kernel
theorem d_Store_moveInFront_50 : decode b_Store_moveInFront 50 = .ok (.iconst 0, 1) := by decide +kernel
theorem d_Store_moveInFront_51 : decode b_Store_moveInFront 51 = .ok (.iload_n 2, 1) := by decide +kernel
theorem d_Store_moveInFront_52 : decode b_Store_moveInFront 52 = .ok (.iastore, 1) := by decide +kernel
theorem d_Store_moveInFront_53 : decode b_Store_moveInFront 53 = .ok (.aload_n 0, 1) := by decide +kernel
theorem d_Store_moveInFront_54 : decode b_Store_moveInFront 54 = .ok (.getfield 15, 3) := by decide +kernel
theorem d_Store_moveInFront_57 : decode b_Store_moveInFront 57 = .ok (.iconst 0, 1) := by decide +kernel
theorem d_Store_moveInFront_58 : decode b_Store_moveInFront 58 = .ok (.iload_n 3, 1) := by decide +kernel
theorem d_Store_moveInFront_59 : decode b_Store_moveInFront 59 = .ok (.bastore, 1) := by decide +kernel
theorem d_Store_moveInFront_60 : decode b_Store_moveInFront 60 = .ok (.return_, 1) := by decide +kernel
theorem d_Store_putFirst_0 : decode b_Store_putFirst 0 = .ok (.aload_n 0, 1) := by decide +kernel
theorem d_Store_putFirst_1 : decode b_Store_putFirst 1 = .ok (.getfield 19, 3) := by decide +kernel
theorem d_Store_putFirst_4 : decode b_Store_putFirst 4 = .ok (.aload_n 0, 1) := by decide +kernel
theorem d_Store_putFirst_5 : decode b_Store_putFirst 5 = .ok (.getfield 9, 3) := by decide +kernel
theorem d_Store_putFirst_8 : decode b_Store_putFirst 8 = .ok (.arraylength, 1) := by decide +kernel
theorem d_Store_putFirst_9 : decode b_Store_putFirst 9 = .ok (.if_icmp .ge 25, 3) := by decide +kernel
theorem d_Store_putFirst_12 : decode b_Store_putFirst 12 = .ok (.aload_n 0, 1) := by decide +kernel
theorem d_Store_putFirst_13 : decode b_Store_putFirst 13 = .ok (.dup, 1) := by decide +kernel
theorem d_Store_putFirst_14 : decode b_Store_putFirst 14 = .ok (.getfield 19, 3) := by decide +kernel
theorem d_Store_putFirst_17 : decode b_Store_putFirst 17 = .ok (.iconst 1, 1) := by decide +kernel
theorem d_Store_putFirst_18 : decode b_Store_putFirst 18 = .ok (.iadd, 1) := by decide +kernel
theorem d_Store_putFirst_19 : decode b_Store_putFirst 19 = .ok (.putfield 19, 3) := by decide +kernel
theorem d_Store_putFirst_22 : decode b_Store_putFirst 22 = .ok (.aload_n 0, 1) := by decide +kernel
theorem d_Store_putFirst_23 : decode b_Store_putFirst 23 = .ok (.aload_n 0, 1) := by decide +kernel
theorem d_Store_putFirst_24 : decode b_Store_putFirst 24 = .ok (.getfield 19, 3) := by decide +kernel
theorem d_Store_putFirst_27 : decode b_Store_putFirst 27 = .ok (.iconst 1, 1) := by decide +kernel
theorem d_Store_putFirst_28 : decode b_Store_putFirst 28 = .ok (.isub, 1) := by decide +kernel
theorem d_Store_putFirst_29 : decode b_Store_putFirst 29 = .ok (.iload_n 1, 1) := by decide +kernel
theorem d_Store_putFirst_30 : decode b_Store_putFirst 30 = .ok (.iload_n 2, 1) := by decide +kernel
theorem d_Store_putFirst_31 : decode b_Store_putFirst 31 = .ok (.invokevirtual 27, 3) := by decide +kernel
theorem d_Store_putFirst_34 : decode b_Store_putFirst 34 = .ok (.return_, 1) := by decide +kernel
theorem d_Store_size_0 : decode b_Store_size 0 = .ok (.aload_n 0, 1) := by decide +kernel
theorem d_Store_size_1 : decode b_Store_size 1 = .ok (.getfield 19, 3) := by decide +kernel
theorem d_Store_size_4 : decode b_Store_size 4 = .ok (.ireturn, 1) := by decide +kernel
theorem d_Store_use_0 : decode b_Store_use 0 = .ok (.iload_n 1, 1) := by decide +kernel
theorem d_Store_use_1 : decode b_Store_use 1 = .ok (.ifCond .lt 23, 3) := by decide +kernel
theorem d_Store_use_4 : decode b_Store_use 4 = .ok (.iload_n 1, 1) := by decide +kernel
theorem d_Store_use_5 : decode b_Store_use 5 = .ok (.aload_n 0, 1) := by decide +kernel
theorem d_Store_use_6 : decode b_Store_use 6 = .ok (.getfield 19, 3) := by decide +kernel
theorem d_Store_use_9 : decode b_Store_use 9 = .ok (.if_icmp .ge 15, 3) := by decide +kernel
theorem d_Store_use_12 : decode b_Store_use 12 = .ok (.aload_n 0, 1) := by decide +kernel
theorem d_Store_use_13 : decode b_Store_use 13 = .ok (.iload_n 1, 1) := by decide +kernel
theorem d_Store_use_14 : decode b_Store_use 14 = .ok (.aload_n 0, 1) := by decide +kernel
theorem d_Store_use_15 : decode b_Store_use 15 = .ok (.getfield 9, 3) := by decide +kernel
theorem d_Store_use_18 : decode b_Store_use 18 = .ok (.iload_n 1, 1) := by decide +kernel
theorem d_Store_use_19 : decode b_Store_use 19 = .ok (.iaload, 1) := by decide +kernel
theorem d_Store_use_20 : decode b_Store_use 20 = .ok (.iconst 0, 1) := by decide +kernel
theorem d_Store_use_21 : decode b_Store_use 21 = .ok (.invokevirtual 27, 3) := by decide +kernel
theorem d_Store_use_24 : decode b_Store_use 24 = .ok (.return_, 1) := by decide +kernel
theorem d_Queue_init_0 : decode b_Queue_init 0 = .ok (.aload_n 0, 1) := by decide +kernel
theorem d_Queue_init_1 : decode b_Queue_init 1 = .ok (.invokespecial 3, 3) := by decide +kernel
theorem d_Queue_init_4 : decode b_Queue_init 4 = .ok (.aload_n 0, 1) := by decide +kernel
theorem d_Queue_init_5 : decode b_Queue_init 5 = .ok (.bipush 8, 2) := by decide +kernel
theorem d_Queue_init_7 : decode b_Queue_init 7 = .ok (.newarray .int, 2) := by decide +kernel
theorem d_Queue_init_9 : decode b_Queue_init 9 = .ok (.putfield 11, 3) := by decide +kernel
theorem d_Queue_init_12 : decode b_Queue_init 12 = .ok (.aload_n 0, 1) := by decide +kernel
theorem d_Queue_init_13 : decode b_Queue_init 13 = .ok (.bipush 8, 2) := by decide +kernel
theorem d_Queue_init_15 : decode b_Queue_init 15 = .ok (.newarray .int, 2) := by decide +kernel
theorem d_Queue_init_17 : decode b_Queue_init 17 = .ok (.putfield 15, 3) := by decide +kernel
theorem d_Queue_init_20 : decode b_Queue_init 20 = .ok (.return_, 1) := by decide +kernel
theorem d_Queue_add_0 : decode b_Queue_add 0 = .ok (.aload_n 0, 1) := by decide +kernel
theorem d_Queue_add_1 : decode b_Queue_add 1 = .ok (.getfield 18, 3) := by decide +kernel
theorem d_Queue_add_4 : decode b_Queue_add 4 = .ok (.bipush 8, 2) := by decide +kernel
theorem d_Queue_add_6 : decode b_Queue_add 6 = .ok (.if_icmp .ge 33, 3) := by decide +kernel
theorem d_Queue_add_9 : decode b_Queue_add 9 = .ok (.aload_n 0, 1) := by decide +kernel
theorem d_Queue_add_10 : decode b_Queue_add 10 = .ok (.getfield 11, 3) := by decide +kernel
theorem d_Queue_add_13 : decode b_Queue_add 13 = .ok (.aload_n 0, 1) := by decide +kernel
theorem d_Queue_add_14 : decode b_Queue_add 14 = .ok (.getfield 18, 3) := by decide +kernel
theorem d_Queue_add_17 : decode b_Queue_add 17 = .ok (.iload_n 1, 1) := by decide +kernel
theorem d_Queue_add_18 : decode b_Queue_add 18 = .ok (.iastore, 1) := by decide +kernel
theorem d_Queue_add_19 : decode b_Queue_add 19 = .ok (.aload_n 0, 1) := by decide +kernel
theorem d_Queue_add_20 : decode b_Queue_add 20 = .ok (.getfield 15, 3) := by decide +kernel
theorem d_Queue_add_23 : decode b_Queue_add 23 = .ok (.aload_n 0, 1) := by decide +kernel
theorem d_Queue_add_24 : decode b_Queue_add 24 = .ok (.getfield 18, 3) := by decide +kernel
theorem d_Queue_add_27 : decode b_Queue_add 27 = .ok (.iload_n 2, 1) := by decide +kernel
theorem d_Queue_add_28 : decode b_Queue_add 28 = .ok (.iastore, 1) := by decide +kernel
theorem d_Queue_add_29 : decode b_Queue_add 29 = .ok (.aload_n 0, 1) := by decide +kernel
theorem d_Queue_add_30 : decode b_Queue_add 30 = .ok (.dup, 1) := by decide +kernel
theorem d_Queue_add_31 : decode b_Queue_add 31 = .ok (.getfield 18, 3) := by decide +kernel
theorem d_Queue_add_34 : decode b_Queue_add 34 = .ok (.iconst 1, 1) := by decide +kernel
theorem d_Queue_add_35 : decode b_Queue_add 35 = .ok (.iadd, 1) := by decide +kernel
theorem d_Queue_add_36 : decode b_Queue_add 36 = .ok (.putfield 18, 3) := by decide +kernel
theorem d_Queue_add_39 : decode b_Queue_add 39 = .ok (.return_, 1) := by decide +kernel
theorem d_Queue_clear_0 : decode b_Queue_clear 0 = .ok (.aload_n 0, 1) := by decide +kernel
theorem d_Queue_clear_1 : decode b_Queue_clear 1 = .ok (.iconst 0, 1) := by decide +kernel
theorem d_Queue_clear_2 : decode b_Queue_clear 2 = .ok (.putfield 18, 3) := by decide +kernel
theorem d_Queue_clear_5 : decode b_Queue_clear 5 = .ok (.return_, 1) := by decide +kernel
theorem d_Queue_cycleAt_0 : decode b_Queue_cycleAt 0 = .ok (.iload_n 1, 1) := by decide +kernel
theorem d_Queue_cycleAt_1 : decode b_Queue_cycleAt 1 = .ok (.ifCond .lt 20, 3) := by decide +kernel
theorem d_Queue_cycleAt_4 : decode b_Queue_cycleAt 4 = .ok (.iload_n 1, 1) := by decide +kernel
theorem d_Queue_cycleAt_5 : decode b_Queue_cycleAt 5 = .ok (.aload_n 0, 1) := by decide +kernel
theorem d_Queue_cycleAt_6 : decode b_Queue_cycleAt 6 = .ok (.getfield 18, 3) := by decide +kernel
theorem d_Queue_cycleAt_9 : decode b_Queue_cycleAt 9 = .ok (.if_icmp .ge 12, 3) := by decide +kernel
theorem d_Queue_cycleAt_12 : decode b_Queue_cycleAt 12 = .ok (.aload_n 0, 1) := by decide +kernel
theorem d_Queue_cycleAt_13 : decode b_Queue_cycleAt 13 = .ok (.getfield 15, 3) := by decide +kernel
theorem d_Queue_cycleAt_16 : decode b_Queue_cycleAt 16 = .ok (.iload_n 1, 1) := by decide +kernel
theorem d_Queue_cycleAt_17 : decode b_Queue_cycleAt 17 = .ok (.iaload, 1) := by decide +kernel
theorem d_Queue_cycleAt_18 : decode b_Queue_cycleAt 18 = .ok (.goto 4, 3) := by decide +kernel
theorem d_Queue_cycleAt_21 : decode b_Queue_cycleAt 21 = .ok (.iconst (-1), 1) := by decide +kernel
theorem d_Queue_cycleAt_22 : decode b_Queue_cycleAt 22 = .ok (.ireturn, 1) := by decide +kernel
theorem d_Queue_find_0 : decode b_Queue_find 0 = .ok (.iload_n 1, 1) := by decide +kernel
theorem d_Queue_find_1 : decode b_Queue_find 1 = .ok (.aload_n 0, 1) := by decide +kernel
theorem d_Queue_find_2 : decode b_Queue_find 2 = .ok (.getfield 11, 3) := by decide +kernel
theorem d_Queue_find_5 : decode b_Queue_find 5 = .ok (.aload_n 0, 1) := by decide +kernel
theorem d_Queue_find_6 : decode b_Queue_find 6 = .ok (.getfield 18, 3) := by decide +kernel
theorem d_Queue_find_9 : decode b_Queue_find 9 = .ok (.invokestatic 22, 3) := by decide +kernel
theorem d_Queue_find_12 : decode b_Queue_find 12 = .ok (.ireturn, 1) := by decide +kernel
theorem d_Queue_firstIsDue_0 : decode b_Queue_firstIsDue 0 = .ok (.aload_n 0, 1) := by decide +kernel
theorem d_Queue_firstIsDue_1 : decode b_Queue_firstIsDue 1 = .ok (.getfield 18, 3) := by decide +kernel
theorem d_Queue_firstIsDue_4 : decode b_Queue_firstIsDue 4 = .ok (.ifCond .le 17, 3) := by decide +kernel
theorem d_Queue_firstIsDue_7 : decode b_Queue_firstIsDue 7 = .ok (.aload_n 0, 1) := by decide +kernel
theorem d_Queue_firstIsDue_8 : decode b_Queue_firstIsDue 8 = .ok (.getfield 15, 3) := by decide +kernel
theorem d_Queue_firstIsDue_11 : decode b_Queue_firstIsDue 11 = .ok (.iconst 0, 1) := by decide +kernel
theorem d_Queue_firstIsDue_12 : decode b_Queue_firstIsDue 12 = .ok (.iaload, 1) := by decide +kernel
theorem d_Queue_firstIsDue_13 : decode b_Queue_firstIsDue 13 = .ok (.iload_n 1, 1) := by decide +kernel
theorem d_Queue_firstIsDue_14 : decode b_Queue_firstIsDue 14 = .ok (.if_icmp .gt 7, 3) := by decide +kernel
theorem d_Queue_firstIsDue_17 : decode b_Queue_firstIsDue 17 = .ok (.iconst 1, 1) := by decide +kernel
theorem d_Queue_firstIsDue_18 : decode b_Queue_firstIsDue 18 = .ok (.goto 4, 3) := by decide +kernel
theorem d_Queue_firstIsDue_21 : decode b_Queue_firstIsDue 21 = .ok (.iconst 0, 1) := by decide +kernel
theorem d_Queue_firstIsDue_22 : decode b_Queue_firstIsDue 22 = .ok (.ireturn, 1) := by decide +kernel
theorem d_Queue_isFull_0 : decode b_Queue_isFull 0 = .ok (.aload_n 0, 1) := by decide +kernel
theorem d_Queue_isFull_1 : decode b_Queue_isFull 1 = .ok (.getfield 18, 3) := by decide +kernel
theorem d_Queue_isFull_4 : decode b_Queue_isFull 4 = .ok (.bipush 8, 2) := by decide +kernel
theorem d_Queue_isFull_6 : decode b_Queue_isFull 6 = .ok (.if_icmp .lt 7, 3) := by decide +kernel
theorem d_Queue_isFull_9 : decode b_Queue_isFull 9 = .ok (.iconst 1, 1) := by decide +kernel
theorem d_Queue_isFull_10 : decode b_Queue_isFull 10 = .ok (.goto 4, 3) := by decide +kernel
theorem d_Queue_isFull_13 : decode b_Queue_isFull 13 = .ok (.iconst 0, 1) := by decide +kernel
theorem d_Queue_isFull_14 : decode b_Queue_isFull 14 = .ok (.ireturn, 1) := by decide +kernel
theorem d_Queue_lineAt_0 : decode b_Queue_lineAt 0 = .ok (.iload_n 1, 1) := by decide +kernel
theorem d_Queue_lineAt_1 : decode b_Queue_lineAt 1 = .ok (.ifCond .lt 20, 3) := by decide +kernel
theorem d_Queue_lineAt_4 : decode b_Queue_lineAt 4 = .ok (.iload_n 1, 1) := by decide +kernel
theorem d_Queue_lineAt_5 : decode b_Queue_lineAt 5 = .ok (.aload_n 0, 1) := by decide +kernel
theorem d_Queue_lineAt_6 : decode b_Queue_lineAt 6 = .ok (.getfield 18, 3) := by decide +kernel
theorem d_Queue_lineAt_9 : decode b_Queue_lineAt 9 = .ok (.if_icmp .ge 12, 3) := by decide +kernel
theorem d_Queue_lineAt_12 : decode b_Queue_lineAt 12 = .ok (.aload_n 0, 1) := by decide +kernel
theorem d_Queue_lineAt_13 : decode b_Queue_lineAt 13 = .ok (.getfield 11, 3) := by decide +kernel
theorem d_Queue_lineAt_16 : decode b_Queue_lineAt 16 = .ok (.iload_n 1, 1) := by decide +kernel
theorem d_Queue_lineAt_17 : decode b_Queue_lineAt 17 = .ok (.iaload, 1) := by decide +kernel
theorem d_Queue_lineAt_18 : decode b_Queue_lineAt 18 = .ok (.goto 4, 3) := by decide +kernel
theorem d_Queue_lineAt_21 : decode b_Queue_lineAt 21 = .ok (.iconst (-1), 1) := by decide +kernel
theorem d_Queue_lineAt_22 : decode b_Queue_lineAt 22 = .ok (.ireturn, 1) := by decide +kernel
theorem d_Queue_remove_0 : decode b_Queue_remove 0 = .ok (.iload_n 1, 1) := by decide +kernel
theorem d_Queue_remove_1 : decode b_Queue_remove 1 = .ok (.ifCond .lt 11, 3) := by decide +kernel
theorem d_Queue_remove_4 : decode b_Queue_remove 4 = .ok (.iload_n 1, 1) := by decide +kernel
theorem d_Queue_remove_5 : decode b_Queue_remove 5 = .ok (.aload_n 0, 1) := by decide +kernel
theorem d_Queue_remove_6 : decode b_Queue_remove 6 = .ok (.getfield 18, 3) := by decide +kernel
theorem d_Queue_remove_9 : decode b_Queue_remove 9 = .ok (.if_icmp .lt 4, 3) := by decide +kernel
theorem d_Queue_remove_12 : decode b_Queue_remove 12 = .ok (.return_, 1) := by decide +kernel
theorem d_Queue_remove_13 : decode b_Queue_remove 13 = .ok (.aload_n 0, 1) := by decide +kernel
theorem d_Queue_remove_14 : decode b_Queue_remove 14 = .ok (.dup, 1) := by decide +kernel
theorem d_Queue_remove_15 : decode b_Queue_remove 15 = .ok (.getfield 18, 3) := by decide +kernel
theorem d_Queue_remove_18 : decode b_Queue_remove 18 = .ok (.iconst 1, 1) := by decide +kernel
theorem d_Queue_remove_19 : decode b_Queue_remove 19 = .ok (.isub, 1) := by decide +kernel
theorem d_Queue_remove_20 : decode b_Queue_remove 20 = .ok (.putfield 18, 3) := by decide +kernel
theorem d_Queue_remove_23 : decode b_Queue_remove 23 = .ok (.iload_n 1, 1) := by decide +kernel
theorem d_Queue_remove_24 : decode b_Queue_remove 24 = .ok (.istore_n 2, 1) := by decide +kernel
theorem d_Queue_remove_25 : decode b_Queue_remove 25 = .ok (.iload_n 2, 1) := by decide +kernel
theorem d_Queue_remove_26 : decode b_Queue_remove 26 = .ok (.aload_n 0, 1) := by decide +kernel
theorem d_Queue_remove_27 : decode b_Queue_remove 27 = .ok (.getfield 18, 3) := by decide +kernel
theorem d_Queue_remove_30 : decode b_Queue_remove 30 = .ok (.if_icmp .ge 37, 3) := by decide +kernel
theorem d_Queue_remove_33 : decode b_Queue_remove 33 = .ok (.aload_n 0, 1) := by decide +kernel
theorem d_Queue_remove_34 : decode b_Queue_remove 34 = .ok (.getfield 11, 3) := by decide +kernel
theorem d_Queue_remove_37 : decode b_Queue_remove 37 = .ok (.iload_n 2, 1) := by decide +kernel
theorem d_Queue_remove_38 : decode b_Queue_remove 38 = .ok (.aload_n 0, 1) := by decide +kernel
theorem d_Queue_remove_39 : decode b_Queue_remove 39 = .ok (.getfield 11, 3) := by decide +kernel
theorem d_Queue_remove_42 : decode b_Queue_remove 42 = .ok (.iload_n 2, 1) := by decide +kernel
theorem d_Queue_remove_43 : decode b_Queue_remove 43 = .ok (.iconst 1, 1) := by decide +kernel
theorem d_Queue_remove_44 : decode b_Queue_remove 44 = .ok (.iadd, 1) := by decide +kernel
theorem d_Queue_remove_45 : decode b_Queue_remove 45 = .ok (.iaload, 1) := by decide +kernel
theorem d_Queue_remove_46 : decode b_Queue_remove 46 = .ok (.iastore, 1) := by decide +kernel
theorem d_Queue_remove_47 : decode b_Queue_remove 47 = .ok (.aload_n 0, 1) := by decide +kernel
theorem d_Queue_remove_48 : decode b_Queue_remove 48 = .ok (.getfield 15, 3) := by decide +kernel
theorem d_Queue_remove_51 : decode b_Queue_remove 51 = .ok (.iload_n 2, 1) := by decide +kernel
theorem d_Queue_remove_52 : decode b_Queue_remove 52 = .ok (.aload_n 0, 1) := by decide +kernel
theorem d_Queue_remove_53 : decode b_Queue_remove 53 = .ok (.getfield 15, 3) := by decide +kernel
theorem d_Queue_remove_56 : decode b_Queue_remove 56 = .ok (.iload_n 2, 1) := by decide +kernel
theorem d_Queue_remove_57 : decode b_Queue_remove 57 = .ok (.iconst 1, 1) := by decide +kernel
theorem d_Queue_remove_58 : decode b_Queue_remove 58 = .ok (.iadd, 1) := by decide +kernel
theorem d_Queue_remove_59 : decode b_Queue_remove 59 = .ok (.iaload, 1) := by decide +kernel
theorem d_Queue_remove_60 : decode b_Queue_remove 60 = .ok (.iastore, 1) := by decide +kernel
theorem d_Queue_remove_61 : decode b_Queue_remove 61 = .ok (.iinc 2 1, 3) := by decide +kernel
theorem d_Queue_remove_64 : decode b_Queue_remove 64 = .ok (.goto (-39), 3) := by decide +kernel
theorem d_Queue_remove_67 : decode b_Queue_remove 67 = .ok (.return_, 1) := by decide +kernel
theorem d_Queue_size_0 : decode b_Queue_size 0 = .ok (.aload_n 0, 1) := by decide +kernel
theorem d_Queue_size_1 : decode b_Queue_size 1 = .ok (.getfield 18, 3) := by decide +kernel
theorem d_Queue_size_4 : decode b_Queue_size 4 = .ok (.ireturn, 1) := by decide +kernel
theorem d_Rule_init_0 : decode b_Rule_init 0 = .ok (.aload_n 0, 1) := by decide +kernel
theorem d_Rule_init_1 : decode b_Rule_init 1 = .ok (.invokespecial 3, 3) := by decide +kernel
theorem d_Rule_init_4 : decode b_Rule_init 4 = .ok (.aload_n 0, 1) := by decide +kernel
theorem d_Rule_init_5 : decode b_Rule_init 5 = .ok (.iconst 4, 1) := by decide +kernel
theorem d_Rule_init_6 : decode b_Rule_init 6 = .ok (.newarray .int, 2) := by decide +kernel
theorem d_Rule_init_8 : decode b_Rule_init 8 = .ok (.putfield 9, 3) := by decide +kernel
theorem d_Rule_init_11 : decode b_Rule_init 11 = .ok (.aload_n 0, 1) := by decide +kernel
theorem d_Rule_init_12 : decode b_Rule_init 12 = .ok (.iload_n 1, 1) := by decide +kernel
theorem d_Rule_init_13 : decode b_Rule_init 13 = .ok (.putfield 15, 3) := by decide +kernel
theorem d_Rule_init_16 : decode b_Rule_init 16 = .ok (.return_, 1) := by decide +kernel
theorem d_Rule_degree_0 : decode b_Rule_degree 0 = .ok (.aload_n 0, 1) := by decide +kernel
theorem d_Rule_degree_1 : decode b_Rule_degree 1 = .ok (.getfield 15, 3) := by decide +kernel
theorem d_Rule_degree_4 : decode b_Rule_degree 4 = .ok (.ireturn, 1) := by decide +kernel
theorem d_Rule_hear_0 : decode b_Rule_hear 0 = .ok (.aload_n 0, 1) := by decide +kernel
theorem d_Rule_hear_1 : decode b_Rule_hear 1 = .ok (.iconst 0, 1) := by decide +kernel
theorem d_Rule_hear_2 : decode b_Rule_hear 2 = .ok (.putfield 19, 3) := by decide +kernel
theorem d_Rule_hear_5 : decode b_Rule_hear 5 = .ok (.aload_n 0, 1) := by decide +kernel
theorem d_Rule_hear_6 : decode b_Rule_hear 6 = .ok (.iload_n 1, 1) := by decide +kernel
theorem d_Rule_hear_7 : decode b_Rule_hear 7 = .ok (.iload_n 2, 1) := by decide +kernel
theorem d_Rule_hear_8 : decode b_Rule_hear 8 = .ok (.invokevirtual 22, 3) := by decide +kernel
theorem d_Rule_hear_11 : decode b_Rule_hear 11 = .ok (.return_, 1) := by decide +kernel
theorem d_Rule_roundCount_0 : decode b_Rule_roundCount 0 = .ok (.iconst 0, 1) := by decide +kernel
theorem d_Rule_roundCount_1 : decode b_Rule_roundCount 1 = .ok (.ireturn, 1) := by decide +kernel
theorem d_Rule_saidCount_0 : decode b_Rule_saidCount 0 = .ok (.aload_n 0, 1) := by decide +kernel
theorem d_Rule_saidCount_1 : decode b_Rule_saidCount 1 = .ok (.getfield 19, 3) := by decide +kernel
theorem d_Rule_saidCount_4 : decode b_Rule_saidCount 4 = .ok (.ireturn, 1) := by decide +kernel
theorem d_Rule_saidLine_0 : decode b_Rule_saidLine 0 = .ok (.iload_n 1, 1) := by decide +kernel
theorem d_Rule_saidLine_1 : decode b_Rule_saidLine 1 = .ok (.ifCond .lt 20, 3) := by decide +kernel
theorem d_Rule_saidLine_4 : decode b_Rule_saidLine 4 = .ok (.iload_n 1, 1) := by decide +kernel
theorem d_Rule_saidLine_5 : decode b_Rule_saidLine 5 = .ok (.aload_n 0, 1) := by decide +kernel
theorem d_Rule_saidLine_6 : decode b_Rule_saidLine 6 = .ok (.getfield 19, 3) := by decide +kernel
theorem d_Rule_saidLine_9 : decode b_Rule_saidLine 9 = .ok (.if_icmp .ge 12, 3) := by decide +kernel
theorem d_Rule_saidLine_12 : decode b_Rule_saidLine 12 = .ok (.aload_n 0, 1) := by decide +kernel
theorem d_Rule_saidLine_13 : decode b_Rule_saidLine 13 = .ok (.getfield 9, 3) := by decide +kernel
theorem d_Rule_saidLine_16 : decode b_Rule_saidLine 16 = .ok (.iload_n 1, 1) := by decide +kernel
theorem d_Rule_saidLine_17 : decode b_Rule_saidLine 17 = .ok (.iaload, 1) := by decide +kernel
theorem d_Rule_saidLine_18 : decode b_Rule_saidLine 18 = .ok (.goto 4, 3) := by decide +kernel
theorem d_Rule_saidLine_21 : decode b_Rule_saidLine 21 = .ok (.iconst (-1), 1) := by decide +kernel
theorem d_Rule_saidLine_22 : decode b_Rule_saidLine 22 = .ok (.ireturn, 1) := by decide +kernel
theorem d_Rule_say_0 : decode b_Rule_say 0 = .ok (.aload_n 0, 1) := by decide +kernel
theorem d_Rule_say_1 : decode b_Rule_say 1 = .ok (.getfield 19, 3) := by decide +kernel
theorem d_Rule_say_4 : decode b_Rule_say 4 = .ok (.aload_n 0, 1) := by decide +kernel
theorem d_Rule_say_5 : decode b_Rule_say 5 = .ok (.getfield 9, 3) := by decide +kernel
theorem d_Rule_say_8 : decode b_Rule_say 8 = .ok (.arraylength, 1) := by decide +kernel
theorem d_Rule_say_9 : decode b_Rule_say 9 = .ok (.if_icmp .ge 23, 3) := by decide +kernel
theorem d_Rule_say_12 : decode b_Rule_say 12 = .ok (.aload_n 0, 1) := by decide +kernel
theorem d_Rule_say_13 : decode b_Rule_say 13 = .ok (.getfield 9, 3) := by decide +kernel
theorem d_Rule_say_16 : decode b_Rule_say 16 = .ok (.aload_n 0, 1) := by decide +kernel
theorem d_Rule_say_17 : decode b_Rule_say 17 = .ok (.getfield 19, 3) := by decide +kernel
theorem d_Rule_say_20 : decode b_Rule_say 20 = .ok (.iload_n 1, 1) := by decide +kernel
theorem d_Rule_say_21 : decode b_Rule_say 21 = .ok (.iastore, 1) := by decide +kernel
theorem d_Rule_say_22 : decode b_Rule_say 22 = .ok (.aload_n 0, 1) := by decide +kernel
theorem d_Rule_say_23 : decode b_Rule_say 23 = .ok (.dup, 1) := by decide +kernel
theorem d_Rule_say_24 : decode b_Rule_say 24 = .ok (.getfield 19, 3) := by decide +kernel
theorem d_Rule_say_27 : decode b_Rule_say 27 = .ok (.iconst 1, 1) := by decide +kernel
theorem d_Rule_say_28 : decode b_Rule_say 28 = .ok (.iadd, 1) := by decide +kernel
theorem d_Rule_say_29 : decode b_Rule_say 29 = .ok (.putfield 19, 3) := by decide +kernel
theorem d_Rule_say_32 : decode b_Rule_say 32 = .ok (.return_, 1) := by decide +kernel
theorem d_Rule_sayInSteps_0 : decode b_Rule_sayInSteps 0 = .ok (.iconst 1, 1) := by decide +kernel
theorem d_Rule_sayInSteps_1 : decode b_Rule_sayInSteps 1 = .ok (.istore_n 3, 1) := by decide +kernel
theorem d_Rule_sayInSteps_2 : decode b_Rule_sayInSteps 2 = .ok (.iload_n 3, 1) := by decide +kernel
theorem d_Rule_sayInSteps_3 : decode b_Rule_sayInSteps 3 = .ok (.aload_n 0, 1) := by decide +kernel
theorem d_Rule_sayInSteps_4 : decode b_Rule_sayInSteps 4 = .ok (.getfield 15, 3) := by decide +kernel
theorem d_Rule_sayInSteps_7 : decode b_Rule_sayInSteps 7 = .ok (.if_icmp .gt 18, 3) := by decide +kernel
theorem d_Rule_sayInSteps_10 : decode b_Rule_sayInSteps 10 = .ok (.aload_n 0, 1) := by decide +kernel
theorem d_Rule_sayInSteps_11 : decode b_Rule_sayInSteps 11 = .ok (.iload_n 1, 1) := by decide +kernel
theorem d_Rule_sayInSteps_12 : decode b_Rule_sayInSteps 12 = .ok (.iload_n 3, 1) := by decide +kernel
theorem d_Rule_sayInSteps_13 : decode b_Rule_sayInSteps 13 = .ok (.iload_n 2, 1) := by decide +kernel
theorem d_Rule_sayInSteps_14 : decode b_Rule_sayInSteps 14 = .ok (.imul, 1) := by decide +kernel
theorem d_Rule_sayInSteps_15 : decode b_Rule_sayInSteps 15 = .ok (.iadd, 1) := by decide +kernel
theorem d_Rule_sayInSteps_16 : decode b_Rule_sayInSteps 16 = .ok (.invokevirtual 26, 3) := by decide +kernel
theorem d_Rule_sayInSteps_19 : decode b_Rule_sayInSteps 19 = .ok (.iinc 3 1, 3) := by decide +kernel
theorem d_Rule_sayInSteps_22 : decode b_Rule_sayInSteps 22 = .ok (.goto (-20), 3) := by decide +kernel
theorem d_Rule_sayInSteps_25 : decode b_Rule_sayInSteps 25 = .ok (.return_, 1) := by decide +kernel
theorem d_Next_init_0 : decode b_Next_init 0 = .ok (.aload_n 0, 1) := by decide +kernel
theorem d_Next_init_1 : decode b_Next_init 1 = .ok (.iload_n 1, 1) := by decide +kernel
theorem d_Next_init_2 : decode b_Next_init 2 = .ok (.invokespecial 1, 3) := by decide +kernel
theorem d_Next_init_5 : decode b_Next_init 5 = .ok (.return_, 1) := by decide +kernel
theorem d_Next_confidence_0 : decode b_Next_confidence 0 = .ok (.iconst 0, 1) := by decide +kernel
theorem d_Next_confidence_1 : decode b_Next_confidence 1 = .ok (.ireturn, 1) := by decide +kernel
theorem d_Next_knowledge_0 : decode b_Next_knowledge 0 = .ok (.iconst 0, 1) := by decide +kernel
theorem d_Next_knowledge_1 : decode b_Next_knowledge 1 = .ok (.ireturn, 1) := by decide +kernel
theorem d_Next_learn_0 : decode b_Next_learn 0 = .ok (.aload_n 0, 1) := by decide +kernel
theorem d_Next_learn_1 : decode b_Next_learn 1 = .ok (.iload_n 2, 1) := by decide +kernel
theorem d_Next_learn_2 : decode b_Next_learn 2 = .ok (.iconst 1, 1) := by decide +kernel
theorem d_Next_learn_3 : decode b_Next_learn 3 = .ok (.invokevirtual 7, 3) := by decide +kernel
theorem d_Next_learn_6 : decode b_Next_learn 6 = .ok (.return_, 1) := by decide +kernel
theorem d_Strides_init_0 : decode b_Strides_init 0 = .ok (.aload_n 0, 1) := by decide +kernel
theorem d_Strides_init_1 : decode b_Strides_init 1 = .ok (.iload_n 1, 1) := by decide +kernel
theorem d_Strides_init_2 : decode b_Strides_init 2 = .ok (.invokespecial 1, 3) := by decide +kernel
theorem d_Strides_init_5 : decode b_Strides_init 5 = .ok (.aload_n 0, 1) := by decide +kernel
theorem d_Strides_init_6 : decode b_Strides_init 6 = .ok (.bipush 16, 2) := by decide +kernel
theorem d_Strides_init_8 : decode b_Strides_init 8 = .ok (.newarray .boolean, 2) := by decide +kernel
theorem d_Strides_init_10 : decode b_Strides_init 10 = .ok (.putfield 9, 3) := by decide +kernel
theorem d_Strides_init_13 : decode b_Strides_init 13 = .ok (.aload_n 0, 1) := by decide +kernel
theorem d_Strides_init_14 : decode b_Strides_init 14 = .ok (.bipush 16, 2) := by decide +kernel
theorem d_Strides_init_16 : decode b_Strides_init 16 = .ok (.newarray .int, 2) := by decide +kernel
theorem d_Strides_init_18 : decode b_Strides_init 18 = .ok (.putfield 13, 3) := by decide +kernel
theorem d_Strides_init_21 : decode b_Strides_init 21 = .ok (.aload_n 0, 1) := by decide +kernel
theorem d_Strides_init_22 : decode b_Strides_init 22 = .ok (.bipush 16, 2) := by decide +kernel
theorem d_Strides_init_24 : decode b_Strides_init 24 = .ok (.newarray .int, 2) := by decide +kernel
theorem d_Strides_init_26 : decode b_Strides_init 26 = .ok (.putfield 17, 3) := by decide +kernel
theorem d_Strides_init_29 : decode b_Strides_init 29 = .ok (.aload_n 0, 1) := by decide +kernel
theorem d_Strides_init_30 : decode b_Strides_init 30 = .ok (.bipush 16, 2) := by decide +kernel
theorem d_Strides_init_32 : decode b_Strides_init 32 = .ok (.newarray .int, 2) := by decide +kernel
theorem d_Strides_init_34 : decode b_Strides_init 34 = .ok (.putfield 20, 3) := by decide +kernel
theorem d_Strides_init_37 : decode b_Strides_init 37 = .ok (.aload_n 0, 1) := by decide +kernel
theorem d_Strides_init_38 : decode b_Strides_init 38 = .ok (.bipush 16, 2) := by decide +kernel
theorem d_Strides_init_40 : decode b_Strides_init 40 = .ok (.newarray .int, 2) := by decide +kernel
theorem d_Strides_init_42 : decode b_Strides_init 42 = .ok (.putfield 23, 3) := by decide +kernel
theorem d_Strides_init_45 : decode b_Strides_init 45 = .ok (.return_, 1) := by decide +kernel
theorem d_Strides_begin_0 : decode b_Strides_begin 0 = .ok (.aload_n 0, 1) := by decide +kernel
theorem d_Strides_begin_1 : decode b_Strides_begin 1 = .ok (.getfield 9, 3) := by decide +kernel
theorem d_Strides_begin_4 : decode b_Strides_begin 4 = .ok (.iload_n 1, 1) := by decide +kernel
theorem d_Strides_begin_5 : decode b_Strides_begin 5 = .ok (.iconst 1, 1) := by decide +kernel
theorem d_Strides_begin_6 : decode b_Strides_begin 6 = .ok (.bastore, 1) := by decide +kernel
theorem d_Strides_begin_7 : decode b_Strides_begin 7 = .ok (.aload_n 0, 1) := by decide +kernel
theorem d_Strides_begin_8 : decode b_Strides_begin 8 = .ok (.getfield 13, 3) := by decide +kernel
theorem d_Strides_begin_11 : decode b_Strides_begin 11 = .ok (.iload_n 1, 1) := by decide +kernel
theorem d_Strides_begin_12 : decode b_Strides_begin 12 = .ok (.iload_n 2, 1) := by decide +kernel
theorem d_Strides_begin_13 : decode b_Strides_begin 13 = .ok (.iastore, 1) := by decide +kernel
theorem d_Strides_begin_14 : decode b_Strides_begin 14 = .ok (.aload_n 0, 1) := by decide +kernel
theorem d_Strides_begin_15 : decode b_Strides_begin 15 = .ok (.getfield 17, 3) := by decide +kernel
theorem d_Strides_begin_18 : decode b_Strides_begin 18 = .ok (.iload_n 1, 1) := by decide +kernel
theorem d_Strides_begin_19 : decode b_Strides_begin 19 = .ok (.iload_n 3, 1) := by decide +kernel
theorem d_Strides_begin_20 : decode b_Strides_begin 20 = .ok (.iastore, 1) := by decide +kernel
theorem d_Strides_begin_21 : decode b_Strides_begin 21 = .ok (.aload_n 0, 1) := by decide +kernel
theorem d_Strides_begin_22 : decode b_Strides_begin 22 = .ok (.getfield 20, 3) := by decide +kernel
theorem d_Strides_begin_25 : decode b_Strides_begin 25 = .ok (.iload_n 1, 1) := by decide +kernel
theorem d_Strides_begin_26 : decode b_Strides_begin 26 = .ok (.iconst 0, 1) := by decide +kernel
theorem d_Strides_begin_27 : decode b_Strides_begin 27 = .ok (.iastore, 1) := by decide +kernel
theorem d_Strides_begin_28 : decode b_Strides_begin 28 = .ok (.aload_n 0, 1) := by decide +kernel
theorem d_Strides_begin_29 : decode b_Strides_begin 29 = .ok (.getfield 23, 3) := by decide +kernel
theorem d_Strides_begin_32 : decode b_Strides_begin 32 = .ok (.iload_n 1, 1) := by decide +kernel
theorem d_Strides_begin_33 : decode b_Strides_begin 33 = .ok (.iconst 0, 1) := by decide +kernel
theorem d_Strides_begin_34 : decode b_Strides_begin 34 = .ok (.iastore, 1) := by decide +kernel
theorem d_Strides_begin_35 : decode b_Strides_begin 35 = .ok (.return_, 1) := by decide +kernel
theorem d_Strides_compare_0 : decode b_Strides_compare 0 = .ok (.iload_n 2, 1) := by decide +kernel
theorem d_Strides_compare_1 : decode b_Strides_compare 1 = .ok (.aload_n 0, 1) := by decide +kernel
theorem d_Strides_compare_2 : decode b_Strides_compare 2 = .ok (.getfield 20, 3) := by decide +kernel
theorem d_Strides_compare_5 : decode b_Strides_compare 5 = .ok (.iload_n 1, 1) := by decide +kernel
theorem d_Strides_compare_6 : decode b_Strides_compare 6 = .ok (.iaload, 1) := by decide +kernel
theorem d_Strides_compare_7 : decode b_Strides_compare 7 = .ok (.if_icmp .ne 24, 3) := by decide +kernel
theorem d_Strides_compare_10 : decode b_Strides_compare 10 = .ok (.aload_n 0, 1) := by decide +kernel
theorem d_Strides_compare_11 : decode b_Strides_compare 11 = .ok (.getfield 23, 3) := by decide +kernel
theorem d_Strides_compare_14 : decode b_Strides_compare 14 = .ok (.iload_n 1, 1) := by decide +kernel
theorem d_Strides_compare_15 : decode b_Strides_compare 15 = .ok (.iconst 3, 1) := by decide +kernel
theorem d_Strides_compare_16 : decode b_Strides_compare 16 = .ok (.aload_n 0, 1) := by decide +kernel
theorem d_Strides_compare_17 : decode b_Strides_compare 17 = .ok (.getfield 23, 3) := by decide +kernel
theorem d_Strides_compare_20 : decode b_Strides_compare 20 = .ok (.iload_n 1, 1) := by decide +kernel
theorem d_Strides_compare_21 : decode b_Strides_compare 21 = .ok (.iaload, 1) := by decide +kernel
theorem d_Strides_compare_22 : decode b_Strides_compare 22 = .ok (.iconst 1, 1) := by decide +kernel
theorem d_Strides_compare_23 : decode b_Strides_compare 23 = .ok (.iadd, 1) := by decide +kernel
theorem d_Strides_compare_24 : decode b_Strides_compare 24 = .ok (.invokestatic 45, 3) := by decide +kernel
theorem d_Strides_compare_27 : decode b_Strides_compare 27 = .ok (.iastore, 1) := by decide +kernel
theorem d_Strides_compare_28 : decode b_Strides_compare 28 = .ok (.goto 32, 3) := by decide +kernel
theorem d_Strides_compare_31 : decode b_Strides_compare 31 = .ok (.aload_n 0, 1) := by decide +kernel
theorem d_Strides_compare_32 : decode b_Strides_compare 32 = .ok (.getfield 23, 3) := by decide +kernel
theorem d_Strides_compare_35 : decode b_Strides_compare 35 = .ok (.iload_n 1, 1) := by decide +kernel
theorem d_Strides_compare_36 : decode b_Strides_compare 36 = .ok (.iaload, 1) := by decide +kernel
theorem d_Strides_compare_37 : decode b_Strides_compare 37 = .ok (.ifCond .le 16, 3) := by decide +kernel
theorem d_Strides_compare_40 : decode b_Strides_compare 40 = .ok (.aload_n 0, 1) := by decide +kernel
theorem d_Strides_compare_41 : decode b_Strides_compare 41 = .ok (.getfield 23, 3) := by decide +kernel
theorem d_Strides_compare_44 : decode b_Strides_compare 44 = .ok (.iload_n 1, 1) := by decide +kernel
theorem d_Strides_compare_45 : decode b_Strides_compare 45 = .ok (.dup2, 1) := by decide +kernel
theorem d_Strides_compare_46 : decode b_Strides_compare 46 = .ok (.iaload, 1) := by decide +kernel
theorem d_Strides_compare_47 : decode b_Strides_compare 47 = .ok (.iconst 1, 1) := by decide +kernel
theorem d_Strides_compare_48 : decode b_Strides_compare 48 = .ok (.isub, 1) := by decide +kernel
theorem d_Strides_compare_49 : decode b_Strides_compare 49 = .ok (.iastore, 1) := by decide +kernel
theorem d_Strides_compare_50 : decode b_Strides_compare 50 = .ok (.goto 10, 3) := by decide +kernel
theorem d_Strides_compare_53 : decode b_Strides_compare 53 = .ok (.aload_n 0, 1) := by decide +kernel
theorem d_Strides_compare_54 : decode b_Strides_compare 54 = .ok (.getfield 20, 3) := by decide +kernel
theorem d_Strides_compare_57 : decode b_Strides_compare 57 = .ok (.iload_n 1, 1) := by decide +kernel
theorem d_Strides_compare_58 : decode b_Strides_compare 58 = .ok (.iload_n 2, 1) := by decide +kernel
theorem d_Strides_compare_59 : decode b_Strides_compare 59 = .ok (.iastore, 1) := by decide +kernel
theorem d_Strides_compare_60 : decode b_Strides_compare 60 = .ok (.return_, 1) := by decide +kernel
theorem d_Strides_confidence_0 : decode b_Strides_confidence 0 = .ok (.iload_n 1, 1) := by decide +kernel
theorem d_Strides_confidence_1 : decode b_Strides_confidence 1 = .ok (.invokestatic 26, 3) := by decide +kernel
theorem d_Strides_confidence_4 : decode b_Strides_confidence 4 = .ok (.istore_n 2, 1) := by decide +kernel
theorem d_Strides_confidence_5 : decode b_Strides_confidence 5 = .ok (.aload_n 0, 1) := by decide +kernel
theorem d_Strides_confidence_6 : decode b_Strides_confidence 6 = .ok (.iload_n 2, 1) := by decide +kernel
theorem d_Strides_confidence_7 : decode b_Strides_confidence 7 = .ok (.iload_n 1, 1) := by decide +kernel
theorem d_Strides_confidence_8 : decode b_Strides_confidence 8 = .ok (.invokevirtual 30, 3) := by decide +kernel
theorem d_Strides_confidence_11 : decode b_Strides_confidence 11 = .ok (.ifCond .eq 12, 3) := by decide +kernel
theorem d_Strides_confidence_14 : decode b_Strides_confidence 14 = .ok (.aload_n 0, 1) := by decide +kernel
theorem d_Strides_confidence_15 : decode b_Strides_confidence 15 = .ok (.getfield 23, 3) := by decide +kernel
theorem d_Strides_confidence_18 : decode b_Strides_confidence 18 = .ok (.iload_n 2, 1) := by decide +kernel
theorem d_Strides_confidence_19 : decode b_Strides_confidence 19 = .ok (.iaload, 1) := by decide +kernel
theorem d_Strides_confidence_20 : decode b_Strides_confidence 20 = .ok (.goto 4, 3) := by decide +kernel
theorem d_Strides_confidence_23 : decode b_Strides_confidence 23 = .ok (.iconst 0, 1) := by decide +kernel
theorem d_Strides_confidence_24 : decode b_Strides_confidence 24 = .ok (.ireturn, 1) := by decide +kernel
theorem d_Strides_isOwn_0 : decode b_Strides_isOwn 0 = .ok (.aload_n 0, 1) := by decide +kernel
theorem d_Strides_isOwn_1 : decode b_Strides_isOwn 1 = .ok (.getfield 9, 3) := by decide +kernel
theorem d_Strides_isOwn_4 : decode b_Strides_isOwn 4 = .ok (.iload_n 1, 1) := by decide +kernel
theorem d_Strides_isOwn_5 : decode b_Strides_isOwn 5 = .ok (.baload, 1) := by decide +kernel
theorem d_Strides_isOwn_6 : decode b_Strides_isOwn 6 = .ok (.ifCond .eq 17, 3) := by decide +kernel
theorem d_Strides_isOwn_9 : decode b_Strides_isOwn 9 = .ok (.aload_n 0, 1) := by decide +kernel
theorem d_Strides_isOwn_10 : decode b_Strides_isOwn 10 = .ok (.getfield 13, 3) := by decide +kernel
theorem d_Strides_isOwn_13 : decode b_Strides_isOwn 13 = .ok (.iload_n 1, 1) := by decide +kernel
theorem d_Strides_isOwn_14 : decode b_Strides_isOwn 14 = .ok (.iaload, 1) := by decide +kernel
theorem d_Strides_isOwn_15 : decode b_Strides_isOwn 15 = .ok (.iload_n 2, 1) := by decide +kernel
theorem d_Strides_isOwn_16 : decode b_Strides_isOwn 16 = .ok (.if_icmp .ne 7, 3) := by decide +kernel
theorem d_Strides_isOwn_19 : decode b_Strides_isOwn 19 = .ok (.iconst 1, 1) := by decide +kernel
theorem d_Strides_isOwn_20 : decode b_Strides_isOwn 20 = .ok (.goto 4, 3) := by decide +kernel
theorem d_Strides_isOwn_23 : decode b_Strides_isOwn 23 = .ok (.iconst 0, 1) := by decide +kernel
theorem d_Strides_isOwn_24 : decode b_Strides_isOwn 24 = .ok (.ireturn, 1) := by decide +kernel
theorem d_Strides_knowledge_0 : decode b_Strides_knowledge 0 = .ok (.iload_n 1, 1) := by decide +kernel
theorem d_Strides_knowledge_1 : decode b_Strides_knowledge 1 = .ok (.invokestatic 26, 3) := by decide +kernel
theorem d_Strides_knowledge_4 : decode b_Strides_knowledge 4 = .ok (.istore_n 2, 1) := by decide +kernel
theorem d_Strides_knowledge_5 : decode b_Strides_knowledge 5 = .ok (.aload_n 0, 1) := by decide +kernel
theorem d_Strides_knowledge_6 : decode b_Strides_knowledge 6 = .ok (.iload_n 2, 1) := by decide +kernel
theorem d_Strides_knowledge_7 : decode b_Strides_knowledge 7 = .ok (.iload_n 1, 1) := by decide +kernel
theorem d_Strides_knowledge_8 : decode b_Strides_knowledge 8 = .ok (.invokevirtual 30, 3) := by decide +kernel
theorem d_Strides_knowledge_11 : decode b_Strides_knowledge 11 = .ok (.ifCond .eq 12, 3) := by decide +kernel
theorem d_Strides_knowledge_14 : decode b_Strides_knowledge 14 = .ok (.aload_n 0, 1) := by decide +kernel
theorem d_Strides_knowledge_15 : decode b_Strides_knowledge 15 = .ok (.getfield 20, 3) := by decide +kernel
theorem d_Strides_knowledge_18 : decode b_Strides_knowledge 18 = .ok (.iload_n 2, 1) := by decide +kernel
theorem d_Strides_knowledge_19 : decode b_Strides_knowledge 19 = .ok (.iaload, 1) := by decide +kernel
theorem d_Strides_knowledge_20 : decode b_Strides_knowledge 20 = .ok (.goto 4, 3) := by decide +kernel
theorem d_Strides_knowledge_23 : decode b_Strides_knowledge 23 = .ok (.iconst 0, 1) := by decide +kernel
theorem d_Strides_knowledge_24 : decode b_Strides_knowledge 24 = .ok (.ireturn, 1) := by decide +kernel
theorem d_Strides_learn_0 : decode b_Strides_learn 0 = .ok (.iload_n 1, 1) := by decide +kernel
theorem d_Strides_learn_1 : decode b_Strides_learn 1 = .ok (.invokestatic 26, 3) := by decide +kernel
theorem d_Strides_learn_4 : decode b_Strides_learn 4 = .ok (.istore_n 3, 1) := by decide +kernel
theorem d_Strides_learn_5 : decode b_Strides_learn 5 = .ok (.aload_n 0, 1) := by decide +kernel
theorem d_Strides_learn_6 : decode b_Strides_learn 6 = .ok (.iload_n 3, 1) := by decide +kernel
theorem d_Strides_learn_7 : decode b_Strides_learn 7 = .ok (.iload_n 1, 1) := by decide +kernel
theorem d_Strides_learn_8 : decode b_Strides_learn 8 = .ok (.invokevirtual 30, 3) := by decide +kernel
theorem d_Strides_learn_11 : decode b_Strides_learn 11 = .ok (.ifCond .ne 11, 3) := by decide +kernel
theorem d_Strides_learn_14 : decode b_Strides_learn 14 = .ok (.aload_n 0, 1) := by decide +kernel
theorem d_Strides_learn_15 : decode b_Strides_learn 15 = .ok (.iload_n 3, 1) := by decide +kernel
theorem d_Strides_learn_16 : decode b_Strides_learn 16 = .ok (.iload_n 1, 1) := by decide +kernel
theorem d_Strides_learn_17 : decode b_Strides_learn 17 = .ok (.iload_n 2, 1) := by decide +kernel
theorem d_Strides_learn_18 : decode b_Strides_learn 18 = .ok (.invokevirtual 34, 3) := by decide +kernel
theorem d_Strides_learn_21 : decode b_Strides_learn 21 = .ok (.return_, 1) := by decide +kernel
theorem d_Strides_learn_22 : decode b_Strides_learn 22 = .ok (.aload_n 0, 1) := by decide +kernel
theorem d_Strides_learn_23 : decode b_Strides_learn 23 = .ok (.iload_n 3, 1) := by decide +kernel
theorem d_Strides_learn_24 : decode b_Strides_learn 24 = .ok (.iload_n 2, 1) := by decide +kernel
theorem d_Strides_learn_25 : decode b_Strides_learn 25 = .ok (.aload_n 0, 1) := by decide +kernel
theorem d_Strides_learn_26 : decode b_Strides_learn 26 = .ok (.getfield 17, 3) := by decide +kernel
theorem d_Strides_learn_29 : decode b_Strides_learn 29 = .ok (.iload_n 3, 1) := by decide +kernel
theorem d_Strides_learn_30 : decode b_Strides_learn 30 = .ok (.iaload, 1) := by decide +kernel
theorem d_Strides_learn_31 : decode b_Strides_learn 31 = .ok (.isub, 1) := by decide +kernel
theorem d_Strides_learn_32 : decode b_Strides_learn 32 = .ok (.invokevirtual 38, 3) := by decide +kernel
theorem d_Strides_learn_35 : decode b_Strides_learn 35 = .ok (.aload_n 0, 1) := by decide +kernel
theorem d_Strides_learn_36 : decode b_Strides_learn 36 = .ok (.getfield 17, 3) := by decide +kernel
theorem d_Strides_learn_39 : decode b_Strides_learn 39 = .ok (.iload_n 3, 1) := by decide +kernel
theorem d_Strides_learn_40 : decode b_Strides_learn 40 = .ok (.iload_n 2, 1) := by decide +kernel
theorem d_Strides_learn_41 : decode b_Strides_learn 41 = .ok (.iastore, 1) := by decide +kernel
theorem d_Strides_learn_42 : decode b_Strides_learn 42 = .ok (.aload_n 0, 1) := by decide +kernel
theorem d_Strides_learn_43 : decode b_Strides_learn 43 = .ok (.getfield 23, 3) := by decide +kernel
theorem d_Strides_learn_46 : decode b_Strides_learn 46 = .ok (.iload_n 3, 1) := by decide +kernel
theorem d_Strides_learn_47 : decode b_Strides_learn 47 = .ok (.iaload, 1) := by decide +kernel
theorem d_Strides_learn_48 : decode b_Strides_learn 48 = .ok (.iconst 2, 1) := by decide +kernel
theorem d_Strides_learn_49 : decode b_Strides_learn 49 = .ok (.if_icmp .lt 23, 3) := by decide +kernel
theorem d_Strides_learn_52 : decode b_Strides_learn 52 = .ok (.aload_n 0, 1) := by decide +kernel
theorem d_Strides_learn_53 : decode b_Strides_learn 53 = .ok (.getfield 20, 3) := by decide +kernel
theorem d_Strides_learn_56 : decode b_Strides_learn 56 = .ok (.iload_n 3, 1) := by decide +kernel
theorem d_Strides_learn_57 : decode b_Strides_learn 57 = .ok (.iaload, 1) := by decide +kernel
theorem d_Strides_learn_58 : decode b_Strides_learn 58 = .ok (.ifCond .eq 14, 3) := by decide +kernel
theorem d_Strides_learn_61 : decode b_Strides_learn 61 = .ok (.aload_n 0, 1) := by decide +kernel
theorem d_Strides_learn_62 : decode b_Strides_learn 62 = .ok (.iload_n 2, 1) := by decide +kernel
theorem d_Strides_learn_63 : decode b_Strides_learn 63 = .ok (.aload_n 0, 1) := by decide +kernel
theorem d_Strides_learn_64 : decode b_Strides_learn 64 = .ok (.getfield 20, 3) := by decide +kernel
theorem d_Strides_learn_67 : decode b_Strides_learn 67 = .ok (.iload_n 3, 1) := by decide +kernel
theorem d_Strides_learn_68 : decode b_Strides_learn 68 = .ok (.iaload, 1) := by decide +kernel
theorem d_Strides_learn_69 : decode b_Strides_learn 69 = .ok (.invokevirtual 42, 3) := by decide +kernel
theorem d_Strides_learn_72 : decode b_Strides_learn 72 = .ok (.return_, 1) := by decide +kernel
theorem d_Strides_rowOf_0 : decode b_Strides_rowOf 0 = .ok (.iload_n 0, 1) := by decide +kernel
theorem d_Strides_rowOf_1 : decode b_Strides_rowOf 1 = .ok (.bipush 15, 2) := by decide +kernel
theorem d_Strides_rowOf_3 : decode b_Strides_rowOf 3 = .ok (.iand, 1) := by decide +kernel
theorem d_Strides_rowOf_4 : decode b_Strides_rowOf 4 = .ok (.ireturn, 1) := by decide +kernel
theorem d_Math_floorMod_0 : decode b_Math_floorMod 0 = .ok (.iload_n 0, 1) := by decide +kernel
theorem d_Math_floorMod_1 : decode b_Math_floorMod 1 = .ok (.iload_n 1, 1) := by decide +kernel
theorem d_Math_floorMod_2 : decode b_Math_floorMod 2 = .ok (.irem, 1) := by decide +kernel
theorem d_Math_floorMod_3 : decode b_Math_floorMod 3 = .ok (.istore_n 2, 1) := by decide +kernel
theorem d_Math_floorMod_4 : decode b_Math_floorMod 4 = .ok (.iload_n 0, 1) := by decide +kernel
theorem d_Math_floorMod_5 : decode b_Math_floorMod 5 = .ok (.iload_n 1, 1) := by decide +kernel
theorem d_Math_floorMod_6 : decode b_Math_floorMod 6 = .ok (.ixor, 1) := by decide +kernel
theorem d_Math_floorMod_7 : decode b_Math_floorMod 7 = .ok (.ifCond .ge 11, 3) := by decide +kernel
theorem d_Math_floorMod_10 : decode b_Math_floorMod 10 = .ok (.iload_n 2, 1) := by decide +kernel
theorem d_Math_floorMod_11 : decode b_Math_floorMod 11 = .ok (.ifCond .eq 7, 3) := by decide +kernel
theorem d_Math_floorMod_14 : decode b_Math_floorMod 14 = .ok (.iload_n 2, 1) := by decide +kernel
theorem d_Math_floorMod_15 : decode b_Math_floorMod 15 = .ok (.iload_n 1, 1) := by decide +kernel
theorem d_Math_floorMod_16 : decode b_Math_floorMod 16 = .ok (.iadd, 1) := by decide +kernel
theorem d_Math_floorMod_17 : decode b_Math_floorMod 17 = .ok (.ireturn, 1) := by decide +kernel
theorem d_Math_floorMod_18 : decode b_Math_floorMod 18 = .ok (.iload_n 2, 1) := by decide +kernel
theorem d_Math_floorMod_19 : decode b_Math_floorMod 19 = .ok (.ireturn, 1) := by decide +kernel
end
section
theorem d_Offsets_init_0 : decode b_Offsets_init 0 = .ok (.aload_n 0, 1) := by decide +kernel
theorem d_Offsets_init_1 : decode b_Offsets_init 1 = .ok (.iload_n 1, 1) := by decide +kernel
theorem d_Offsets_init_2 : decode b_Offsets_init 2 = .ok (.invokespecial 5, 3) := by decide +kernel
theorem d_Offsets_init_5 : decode b_Offsets_init 5 = .ok (.aload_n 0, 1) := by decide +kernel
theorem d_Offsets_init_6 : decode b_Offsets_init 6 = .ok (.bipush 32, 2) := by decide +kernel
theorem d_Offsets_init_8 : decode b_Offsets_init 8 = .ok (.newarray .int, 2) := by decide +kernel
theorem d_Offsets_init_10 : decode b_Offsets_init 10 = .ok (.putfield 11, 3) := by decide +kernel
theorem d_Offsets_init_13 : decode b_Offsets_init 13 = .ok (.aload_n 0, 1) := by decide +kernel
theorem d_Offsets_init_14 : decode b_Offsets_init 14 = .ok (.bipush 12, 2) := by decide +kernel
theorem d_Offsets_init_16 : decode b_Offsets_init 16 = .ok (.newarray .int, 2) := by decide +kernel
theorem d_Offsets_init_18 : decode b_Offsets_init 18 = .ok (.putfield 15, 3) := by decide +kernel
theorem d_Offsets_init_21 : decode b_Offsets_init 21 = .ok (.aload_n 0, 1) := by decide +kernel
theorem d_Offsets_init_22 : decode b_Offsets_init 22 = .ok (.iconst 1, 1) := by decide +kernel
theorem d_Offsets_init_23 : decode b_Offsets_init 23 = .ok (.putfield 18, 3) := by decide +kernel
theorem d_Offsets_init_26 : decode b_Offsets_init 26 = .ok (.return_, 1) := by decide +kernel
theorem d_Offsets_confidence_0 : decode b_Offsets_confidence 0 = .ok (.iload_n 1, 1) := by decide +kernel
theorem d_Offsets_confidence_1 : decode b_Offsets_confidence 1 = .ok (.ifCond .lt 18, 3) := by decide +kernel
theorem d_Offsets_confidence_4 : decode b_Offsets_confidence 4 = .ok (.iload_n 1, 1) := by decide +kernel
theorem d_Offsets_confidence_5 : decode b_Offsets_confidence 5 = .ok (.bipush 12, 2) := by decide +kernel
theorem d_Offsets_confidence_7 : decode b_Offsets_confidence 7 = .ok (.if_icmp .ge 12, 3) := by decide +kernel
theorem d_Offsets_confidence_10 : decode b_Offsets_confidence 10 = .ok (.aload_n 0, 1) := by decide +kernel
theorem d_Offsets_confidence_11 : decode b_Offsets_confidence 11 = .ok (.getfield 15, 3) := by decide +kernel
theorem d_Offsets_confidence_14 : decode b_Offsets_confidence 14 = .ok (.iload_n 1, 1) := by decide +kernel
theorem d_Offsets_confidence_15 : decode b_Offsets_confidence 15 = .ok (.iaload, 1) := by decide +kernel
theorem d_Offsets_confidence_16 : decode b_Offsets_confidence 16 = .ok (.goto 4, 3) := by decide +kernel
theorem d_Offsets_confidence_19 : decode b_Offsets_confidence 19 = .ok (.iconst 0, 1) := by decide +kernel
theorem d_Offsets_confidence_20 : decode b_Offsets_confidence 20 = .ok (.ireturn, 1) := by decide +kernel
theorem d_Offsets_endRound_0 : decode b_Offsets_endRound 0 = .ok (.iconst 0, 1) := by decide +kernel
theorem d_Offsets_endRound_1 : decode b_Offsets_endRound 1 = .ok (.istore_n 1, 1) := by decide +kernel
theorem d_Offsets_endRound_2 : decode b_Offsets_endRound 2 = .ok (.iconst 1, 1) := by decide +kernel
theorem d_Offsets_endRound_3 : decode b_Offsets_endRound 3 = .ok (.istore_n 2, 1) := by decide +kernel
theorem d_Offsets_endRound_4 : decode b_Offsets_endRound 4 = .ok (.iload_n 2, 1) := by decide +kernel
theorem d_Offsets_endRound_5 : decode b_Offsets_endRound 5 = .ok (.bipush 12, 2) := by decide +kernel
theorem d_Offsets_endRound_7 : decode b_Offsets_endRound 7 = .ok (.if_icmp .ge 26, 3) := by decide +kernel
theorem d_Offsets_endRound_10 : decode b_Offsets_endRound 10 = .ok (.aload_n 0, 1) := by decide +kernel
theorem d_Offsets_endRound_11 : decode b_Offsets_endRound 11 = .ok (.getfield 15, 3) := by decide +kernel
theorem d_Offsets_endRound_14 : decode b_Offsets_endRound 14 = .ok (.iload_n 2, 1) := by decide +kernel
theorem d_Offsets_endRound_15 : decode b_Offsets_endRound 15 = .ok (.iaload, 1) := by decide +kernel
theorem d_Offsets_endRound_16 : decode b_Offsets_endRound 16 = .ok (.aload_n 0, 1) := by decide +kernel
theorem d_Offsets_endRound_17 : decode b_Offsets_endRound 17 = .ok (.getfield 15, 3) := by decide +kernel
theorem d_Offsets_endRound_20 : decode b_Offsets_endRound 20 = .ok (.iload_n 1, 1) := by decide +kernel
theorem d_Offsets_endRound_21 : decode b_Offsets_endRound 21 = .ok (.iaload, 1) := by decide +kernel
theorem d_Offsets_endRound_22 : decode b_Offsets_endRound 22 = .ok (.if_icmp .le 5, 3) := by decide +kernel
theorem d_Offsets_endRound_25 : decode b_Offsets_endRound 25 = .ok (.iload_n 2, 1) := by decide +kernel
theorem d_Offsets_endRound_26 : decode b_Offsets_endRound 26 = .ok (.istore_n 1, 1) := by decide +kernel
theorem d_Offsets_endRound_27 : decode b_Offsets_endRound 27 = .ok (.iinc 2 1, 3) := by decide +kernel
theorem d_Offsets_endRound_30 : decode b_Offsets_endRound 30 = .ok (.goto (-26), 3) := by decide +kernel
theorem d_Offsets_endRound_33 : decode b_Offsets_endRound 33 = .ok (.aload_n 0, 1) := by decide +kernel
theorem d_Offsets_endRound_34 : decode b_Offsets_endRound 34 = .ok (.aload_n 0, 1) := by decide +kernel
theorem d_Offsets_endRound_35 : decode b_Offsets_endRound 35 = .ok (.getfield 15, 3) := by decide +kernel
theorem d_Offsets_endRound_38 : decode b_Offsets_endRound 38 = .ok (.iload_n 1, 1) := by decide +kernel
theorem d_Offsets_endRound_39 : decode b_Offsets_endRound 39 = .ok (.iaload, 1) := by decide +kernel
theorem d_Offsets_endRound_40 : decode b_Offsets_endRound 40 = .ok (.iconst 4, 1) := by decide +kernel
theorem d_Offsets_endRound_41 : decode b_Offsets_endRound 41 = .ok (.if_icmp .lt 11, 3) := by decide +kernel
theorem d_Offsets_endRound_44 : decode b_Offsets_endRound 44 = .ok (.getstatic 35, 3) := by decide +kernel
theorem d_Offsets_endRound_47 : decode b_Offsets_endRound 47 = .ok (.iload_n 1, 1) := by decide +kernel
theorem d_Offsets_endRound_48 : decode b_Offsets_endRound 48 = .ok (.iaload, 1) := by decide +kernel
theorem d_Offsets_endRound_49 : decode b_Offsets_endRound 49 = .ok (.goto 4, 3) := by decide +kernel
theorem d_Offsets_endRound_52 : decode b_Offsets_endRound 52 = .ok (.iconst 0, 1) := by decide +kernel
theorem d_Offsets_endRound_53 : decode b_Offsets_endRound 53 = .ok (.putfield 18, 3) := by decide +kernel
theorem d_Offsets_endRound_56 : decode b_Offsets_endRound 56 = .ok (.iconst 0, 1) := by decide +kernel
theorem d_Offsets_endRound_57 : decode b_Offsets_endRound 57 = .ok (.istore_n 2, 1) := by decide +kernel
theorem d_Offsets_endRound_58 : decode b_Offsets_endRound 58 = .ok (.iload_n 2, 1) := by decide +kernel
theorem d_Offsets_endRound_59 : decode b_Offsets_endRound 59 = .ok (.bipush 12, 2) := by decide +kernel
theorem d_Offsets_endRound_61 : decode b_Offsets_endRound 61 = .ok (.if_icmp .ge 16, 3) := by decide +kernel
theorem d_Offsets_endRound_64 : decode b_Offsets_endRound 64 = .ok (.aload_n 0, 1) := by decide +kernel
theorem d_Offsets_endRound_65 : decode b_Offsets_endRound 65 = .ok (.getfield 15, 3) := by decide +kernel
theorem d_Offsets_endRound_68 : decode b_Offsets_endRound 68 = .ok (.iload_n 2, 1) := by decide +kernel
theorem d_Offsets_endRound_69 : decode b_Offsets_endRound 69 = .ok (.iconst 0, 1) := by decide +kernel
theorem d_Offsets_endRound_70 : decode b_Offsets_endRound 70 = .ok (.iastore, 1) := by decide +kernel
theorem d_Offsets_endRound_71 : decode b_Offsets_endRound 71 = .ok (.iinc 2 1, 3) := by decide +kernel
theorem d_Offsets_endRound_74 : decode b_Offsets_endRound 74 = .ok (.goto (-16), 3) := by decide +kernel
theorem d_Offsets_endRound_77 : decode b_Offsets_endRound 77 = .ok (.aload_n 0, 1) := by decide +kernel
theorem d_Offsets_endRound_78 : decode b_Offsets_endRound 78 = .ok (.iconst 0, 1) := by decide +kernel
theorem d_Offsets_endRound_79 : decode b_Offsets_endRound 79 = .ok (.putfield 38, 3) := by decide +kernel
theorem d_Offsets_endRound_82 : decode b_Offsets_endRound 82 = .ok (.aload_n 0, 1) := by decide +kernel
theorem d_Offsets_endRound_83 : decode b_Offsets_endRound 83 = .ok (.iconst 0, 1) := by decide +kernel
theorem d_Offsets_endRound_84 : decode b_Offsets_endRound 84 = .ok (.putfield 45, 3) := by decide +kernel
theorem d_Offsets_endRound_87 : decode b_Offsets_endRound 87 = .ok (.aload_n 0, 1) := by decide +kernel
theorem d_Offsets_endRound_88 : decode b_Offsets_endRound 88 = .ok (.dup, 1) := by decide +kernel
theorem d_Offsets_endRound_89 : decode b_Offsets_endRound 89 = .ok (.getfield 32, 3) := by decide +kernel
theorem d_Offsets_endRound_92 : decode b_Offsets_endRound 92 = .ok (.iconst 1, 1) := by decide +kernel
theorem d_Offsets_endRound_93 : decode b_Offsets_endRound 93 = .ok (.iadd, 1) := by decide +kernel
theorem d_Offsets_endRound_94 : decode b_Offsets_endRound 94 = .ok (.putfield 32, 3) := by decide +kernel
theorem d_Offsets_endRound_97 : decode b_Offsets_endRound 97 = .ok (.return_, 1) := by decide +kernel
theorem d_Offsets_isRecent_0 : decode b_Offsets_isRecent 0 = .ok (.iload_n 1, 1) := by decide +kernel
theorem d_Offsets_isRecent_1 : decode b_Offsets_isRecent 1 = .ok (.aload_n 0, 1) := by decide +kernel
theorem d_Offsets_isRecent_2 : decode b_Offsets_isRecent 2 = .ok (.getfield 11, 3) := by decide +kernel
theorem d_Offsets_isRecent_5 : decode b_Offsets_isRecent 5 = .ok (.aload_n 0, 1) := by decide +kernel
theorem d_Offsets_isRecent_6 : decode b_Offsets_isRecent 6 = .ok (.getfield 52, 3) := by decide +kernel
theorem d_Offsets_isRecent_9 : decode b_Offsets_isRecent 9 = .ok (.invokestatic 55, 3) := by decide +kernel
theorem d_Offsets_isRecent_12 : decode b_Offsets_isRecent 12 = .ok (.iconst (-1), 1) := by decide +kernel
theorem d_Offsets_isRecent_13 : decode b_Offsets_isRecent 13 = .ok (.if_icmp .eq 7, 3) := by decide +kernel
theorem d_Offsets_isRecent_16 : decode b_Offsets_isRecent 16 = .ok (.iconst 1, 1) := by decide +kernel
theorem d_Offsets_isRecent_17 : decode b_Offsets_isRecent 17 = .ok (.goto 4, 3) := by decide +kernel
theorem d_Offsets_isRecent_20 : decode b_Offsets_isRecent 20 = .ok (.iconst 0, 1) := by decide +kernel
theorem d_Offsets_isRecent_21 : decode b_Offsets_isRecent 21 = .ok (.ireturn, 1) := by decide +kernel
theorem d_Offsets_knowledge_0 : decode b_Offsets_knowledge 0 = .ok (.aload_n 0, 1) := by decide +kernel
theorem d_Offsets_knowledge_1 : decode b_Offsets_knowledge 1 = .ok (.getfield 18, 3) := by decide +kernel
theorem d_Offsets_knowledge_4 : decode b_Offsets_knowledge 4 = .ok (.ireturn, 1) := by decide +kernel
theorem d_Offsets_learn_0 : decode b_Offsets_learn 0 = .ok (.aload_n 0, 1) := by decide +kernel
theorem d_Offsets_learn_1 : decode b_Offsets_learn 1 = .ok (.iload_n 2, 1) := by decide +kernel
theorem d_Offsets_learn_2 : decode b_Offsets_learn 2 = .ok (.invokevirtual 22, 3) := by decide +kernel
theorem d_Offsets_learn_5 : decode b_Offsets_learn 5 = .ok (.aload_n 0, 1) := by decide +kernel
theorem d_Offsets_learn_6 : decode b_Offsets_learn 6 = .ok (.getfield 18, 3) := by decide +kernel
theorem d_Offsets_learn_9 : decode b_Offsets_learn 9 = .ok (.ifCond .eq 12, 3) := by decide +kernel
theorem d_Offsets_learn_12 : decode b_Offsets_learn 12 = .ok (.aload_n 0, 1) := by decide +kernel
theorem d_Offsets_learn_13 : decode b_Offsets_learn 13 = .ok (.iload_n 2, 1) := by decide +kernel
theorem d_Offsets_learn_14 : decode b_Offsets_learn 14 = .ok (.aload_n 0, 1) := by decide +kernel
theorem d_Offsets_learn_15 : decode b_Offsets_learn 15 = .ok (.getfield 18, 3) := by decide +kernel
theorem d_Offsets_learn_18 : decode b_Offsets_learn 18 = .ok (.invokevirtual 25, 3) := by decide +kernel
theorem d_Offsets_learn_21 : decode b_Offsets_learn 21 = .ok (.aload_n 0, 1) := by decide +kernel
theorem d_Offsets_learn_22 : decode b_Offsets_learn 22 = .ok (.iload_n 2, 1) := by decide +kernel
theorem d_Offsets_learn_23 : decode b_Offsets_learn 23 = .ok (.invokevirtual 29, 3) := by decide +kernel
theorem d_Offsets_learn_26 : decode b_Offsets_learn 26 = .ok (.return_, 1) := by decide +kernel
theorem d_Offsets_remember_0 : decode b_Offsets_remember 0 = .ok (.aload_n 0, 1) := by decide +kernel
theorem d_Offsets_remember_1 : decode b_Offsets_remember 1 = .ok (.getfield 52, 3) := by decide +kernel
theorem d_Offsets_remember_4 : decode b_Offsets_remember 4 = .ok (.bipush 32, 2) := by decide +kernel
theorem d_Offsets_remember_6 : decode b_Offsets_remember 6 = .ok (.if_icmp .ge 26, 3) := by decide +kernel
theorem d_Offsets_remember_9 : decode b_Offsets_remember 9 = .ok (.aload_n 0, 1) := by decide +kernel
theorem d_Offsets_remember_10 : decode b_Offsets_remember 10 = .ok (.getfield 11, 3) := by decide +kernel
theorem d_Offsets_remember_13 : decode b_Offsets_remember 13 = .ok (.aload_n 0, 1) := by decide +kernel
theorem d_Offsets_remember_14 : decode b_Offsets_remember 14 = .ok (.getfield 52, 3) := by decide +kernel
theorem d_Offsets_remember_17 : decode b_Offsets_remember 17 = .ok (.iload_n 1, 1) := by decide +kernel
theorem d_Offsets_remember_18 : decode b_Offsets_remember 18 = .ok (.iastore, 1) := by decide +kernel
theorem d_Offsets_remember_19 : decode b_Offsets_remember 19 = .ok (.aload_n 0, 1) := by decide +kernel
theorem d_Offsets_remember_20 : decode b_Offsets_remember 20 = .ok (.dup, 1) := by decide +kernel
theorem d_Offsets_remember_21 : decode b_Offsets_remember 21 = .ok (.getfield 52, 3) := by decide +kernel
theorem d_Offsets_remember_24 : decode b_Offsets_remember 24 = .ok (.iconst 1, 1) := by decide +kernel
theorem d_Offsets_remember_25 : decode b_Offsets_remember 25 = .ok (.iadd, 1) := by decide +kernel
theorem d_Offsets_remember_26 : decode b_Offsets_remember 26 = .ok (.putfield 52, 3) := by decide +kernel
theorem d_Offsets_remember_29 : decode b_Offsets_remember 29 = .ok (.goto 38, 3) := by decide +kernel
theorem d_Offsets_remember_32 : decode b_Offsets_remember 32 = .ok (.aload_n 0, 1) := by decide +kernel
theorem d_Offsets_remember_33 : decode b_Offsets_remember 33 = .ok (.getfield 11, 3) := by decide +kernel
theorem d_Offsets_remember_36 : decode b_Offsets_remember 36 = .ok (.aload_n 0, 1) := by decide +kernel
theorem d_Offsets_remember_37 : decode b_Offsets_remember 37 = .ok (.getfield 59, 3) := by decide +kernel
theorem d_Offsets_remember_40 : decode b_Offsets_remember 40 = .ok (.iload_n 1, 1) := by decide +kernel
theorem d_Offsets_remember_41 : decode b_Offsets_remember 41 = .ok (.iastore, 1) := by decide +kernel
theorem d_Offsets_remember_42 : decode b_Offsets_remember 42 = .ok (.aload_n 0, 1) := by decide +kernel
theorem d_Offsets_remember_43 : decode b_Offsets_remember 43 = .ok (.aload_n 0, 1) := by decide +kernel
theorem d_Offsets_remember_44 : decode b_Offsets_remember 44 = .ok (.getfield 59, 3) := by decide +kernel
theorem d_Offsets_remember_47 : decode b_Offsets_remember 47 = .ok (.iconst 1, 1) := by decide +kernel
theorem d_Offsets_remember_48 : decode b_Offsets_remember 48 = .ok (.iadd, 1) := by decide +kernel
theorem d_Offsets_remember_49 : decode b_Offsets_remember 49 = .ok (.bipush 32, 2) := by decide +kernel
theorem d_Offsets_remember_51 : decode b_Offsets_remember 51 = .ok (.if_icmp .ge 12, 3) := by decide +kernel
theorem d_Offsets_remember_54 : decode b_Offsets_remember 54 = .ok (.aload_n 0, 1) := by decide +kernel
theorem d_Offsets_remember_55 : decode b_Offsets_remember 55 = .ok (.getfield 59, 3) := by decide +kernel
theorem d_Offsets_remember_58 : decode b_Offsets_remember 58 = .ok (.iconst 1, 1) := by decide +kernel
theorem d_Offsets_remember_59 : decode b_Offsets_remember 59 = .ok (.iadd, 1) := by decide +kernel
theorem d_Offsets_remember_60 : decode b_Offsets_remember 60 = .ok (.goto 4, 3) := by decide +kernel
theorem d_Offsets_remember_63 : decode b_Offsets_remember 63 = .ok (.iconst 0, 1) := by decide +kernel
theorem d_Offsets_remember_64 : decode b_Offsets_remember 64 = .ok (.putfield 59, 3) := by decide +kernel
theorem d_Offsets_remember_67 : decode b_Offsets_remember 67 = .ok (.return_, 1) := by decide +kernel
theorem d_Offsets_roundCount_0 : decode b_Offsets_roundCount 0 = .ok (.aload_n 0, 1) := by decide +kernel
theorem d_Offsets_roundCount_1 : decode b_Offsets_roundCount 1 = .ok (.getfield 32, 3) := by decide +kernel
theorem d_Offsets_roundCount_4 : decode b_Offsets_roundCount 4 = .ok (.ireturn, 1) := by decide +kernel
theorem d_Offsets_tryCandidate_0 : decode b_Offsets_tryCandidate 0 = .ok (.aload_n 0, 1) := by decide +kernel
theorem d_Offsets_tryCandidate_1 : decode b_Offsets_tryCandidate 1 = .ok (.iload_n 1, 1) := by decide +kernel
theorem d_Offsets_tryCandidate_2 : decode b_Offsets_tryCandidate 2 = .ok (.getstatic 35, 3) := by decide +kernel
theorem d_Offsets_tryCandidate_5 : decode b_Offsets_tryCandidate 5 = .ok (.aload_n 0, 1) := by decide +kernel
theorem d_Offsets_tryCandidate_6 : decode b_Offsets_tryCandidate 6 = .ok (.getfield 38, 3) := by decide +kernel
theorem d_Offsets_tryCandidate_9 : decode b_Offsets_tryCandidate 9 = .ok (.iaload, 1) := by decide +kernel
theorem d_Offsets_tryCandidate_10 : decode b_Offsets_tryCandidate 10 = .ok (.isub, 1) := by decide +kernel
theorem d_Offsets_tryCandidate_11 : decode b_Offsets_tryCandidate 11 = .ok (.invokevirtual 41, 3) := by decide +kernel
theorem d_Offsets_tryCandidate_14 : decode b_Offsets_tryCandidate 14 = .ok (.ifCond .eq 16, 3) := by decide +kernel
theorem d_Offsets_tryCandidate_17 : decode b_Offsets_tryCandidate 17 = .ok (.aload_n 0, 1) := by decide +kernel
theorem d_Offsets_tryCandidate_18 : decode b_Offsets_tryCandidate 18 = .ok (.getfield 15, 3) := by decide +kernel
theorem d_Offsets_tryCandidate_21 : decode b_Offsets_tryCandidate 21 = .ok (.aload_n 0, 1) := by decide +kernel
theorem d_Offsets_tryCandidate_22 : decode b_Offsets_tryCandidate 22 = .ok (.getfield 38, 3) := by decide +kernel
theorem d_Offsets_tryCandidate_25 : decode b_Offsets_tryCandidate 25 = .ok (.dup2, 1) := by decide +kernel
theorem d_Offsets_tryCandidate_26 : decode b_Offsets_tryCandidate 26 = .ok (.iaload, 1) := by decide +kernel
theorem d_Offsets_tryCandidate_27 : decode b_Offsets_tryCandidate 27 = .ok (.iconst 1, 1) := by decide +kernel
theorem d_Offsets_tryCandidate_28 : decode b_Offsets_tryCandidate 28 = .ok (.iadd, 1) := by decide +kernel
theorem d_Offsets_tryCandidate_29 : decode b_Offsets_tryCandidate 29 = .ok (.iastore, 1) := by decide +kernel
theorem d_Offsets_tryCandidate_30 : decode b_Offsets_tryCandidate 30 = .ok (.aload_n 0, 1) := by decide +kernel
theorem d_Offsets_tryCandidate_31 : decode b_Offsets_tryCandidate 31 = .ok (.dup, 1) := by decide +kernel
theorem d_Offsets_tryCandidate_32 : decode b_Offsets_tryCandidate 32 = .ok (.getfield 45, 3) := by decide +kernel
theorem d_Offsets_tryCandidate_35 : decode b_Offsets_tryCandidate 35 = .ok (.iconst 1, 1) := by decide +kernel
theorem d_Offsets_tryCandidate_36 : decode b_Offsets_tryCandidate 36 = .ok (.iadd, 1) := by decide +kernel
theorem d_Offsets_tryCandidate_37 : decode b_Offsets_tryCandidate 37 = .ok (.putfield 45, 3) := by decide +kernel
theorem d_Offsets_tryCandidate_40 : decode b_Offsets_tryCandidate 40 = .ok (.aload_n 0, 1) := by decide +kernel
theorem d_Offsets_tryCandidate_41 : decode b_Offsets_tryCandidate 41 = .ok (.getfield 15, 3) := by decide +kernel
theorem d_Offsets_tryCandidate_44 : decode b_Offsets_tryCandidate 44 = .ok (.aload_n 0, 1) := by decide +kernel
theorem d_Offsets_tryCandidate_45 : decode b_Offsets_tryCandidate 45 = .ok (.getfield 38, 3) := by decide +kernel
theorem d_Offsets_tryCandidate_48 : decode b_Offsets_tryCandidate 48 = .ok (.iaload, 1) := by decide +kernel
theorem d_Offsets_tryCandidate_49 : decode b_Offsets_tryCandidate 49 = .ok (.bipush 15, 2) := by decide +kernel
theorem d_Offsets_tryCandidate_51 : decode b_Offsets_tryCandidate 51 = .ok (.if_icmp .ge 13, 3) := by decide +kernel
theorem d_Offsets_tryCandidate_54 : decode b_Offsets_tryCandidate 54 = .ok (.aload_n 0, 1) := by decide +kernel
theorem d_Offsets_tryCandidate_55 : decode b_Offsets_tryCandidate 55 = .ok (.getfield 45, 3) := by decide +kernel
theorem d_Offsets_tryCandidate_58 : decode b_Offsets_tryCandidate 58 = .ok (.sipush 240, 3) := by decide +kernel
theorem d_Offsets_tryCandidate_61 : decode b_Offsets_tryCandidate 61 = .ok (.if_icmp .lt 10, 3) := by decide +kernel
theorem d_Offsets_tryCandidate_64 : decode b_Offsets_tryCandidate 64 = .ok (.aload_n 0, 1) := by decide +kernel
theorem d_Offsets_tryCandidate_65 : decode b_Offsets_tryCandidate 65 = .ok (.invokevirtual 48, 3) := by decide +kernel
theorem d_Offsets_tryCandidate_68 : decode b_Offsets_tryCandidate 68 = .ok (.goto 28, 3) := by decide +kernel
theorem d_Offsets_tryCandidate_71 : decode b_Offsets_tryCandidate 71 = .ok (.aload_n 0, 1) := by decide +kernel
theorem d_Offsets_tryCandidate_72 : decode b_Offsets_tryCandidate 72 = .ok (.aload_n 0, 1) := by decide +kernel
theorem d_Offsets_tryCandidate_73 : decode b_Offsets_tryCandidate 73 = .ok (.getfield 38, 3) := by decide +kernel
theorem d_Offsets_tryCandidate_76 : decode b_Offsets_tryCandidate 76 = .ok (.iconst 1, 1) := by decide +kernel
theorem d_Offsets_tryCandidate_77 : decode b_Offsets_tryCandidate 77 = .ok (.iadd, 1) := by decide +kernel
theorem d_Offsets_tryCandidate_78 : decode b_Offsets_tryCandidate 78 = .ok (.bipush 12, 2) := by decide +kernel
theorem d_Offsets_tryCandidate_80 : decode b_Offsets_tryCandidate 80 = .ok (.if_icmp .ge 12, 3) := by decide +kernel
theorem d_Offsets_tryCandidate_83 : decode b_Offsets_tryCandidate 83 = .ok (.aload_n 0, 1) := by decide +kernel
theorem d_Offsets_tryCandidate_84 : decode b_Offsets_tryCandidate 84 = .ok (.getfield 38, 3) := by decide +kernel
theorem d_Offsets_tryCandidate_87 : decode b_Offsets_tryCandidate 87 = .ok (.iconst 1, 1) := by decide +kernel
theorem d_Offsets_tryCandidate_88 : decode b_Offsets_tryCandidate 88 = .ok (.iadd, 1) := by decide +kernel
theorem d_Offsets_tryCandidate_89 : decode b_Offsets_tryCandidate 89 = .ok (.goto 4, 3) := by decide +kernel
theorem d_Offsets_tryCandidate_92 : decode b_Offsets_tryCandidate 92 = .ok (.iconst 0, 1) := by decide +kernel
theorem d_Offsets_tryCandidate_93 : decode b_Offsets_tryCandidate 93 = .ok (.putfield 38, 3) := by decide +kernel
theorem d_Offsets_tryCandidate_96 : decode b_Offsets_tryCandidate 96 = .ok (.return_, 1) := by decide +kernel
theorem d_Pairs_init_0 : decode b_Pairs_init 0 = .ok (.aload_n 0, 1) := by decide +kernel
theorem d_Pairs_init_1 : decode b_Pairs_init 1 = .ok (.iload_n 1, 1) := by decide +kernel
theorem d_Pairs_init_2 : decode b_Pairs_init 2 = .ok (.invokespecial 3, 3) := by decide +kernel
theorem d_Pairs_init_5 : decode b_Pairs_init 5 = .ok (.aload_n 0, 1) := by decide +kernel
theorem d_Pairs_init_6 : decode b_Pairs_init 6 = .ok (.bipush 64, 2) := by decide +kernel
theorem d_Pairs_init_8 : decode b_Pairs_init 8 = .ok (.newarray .boolean, 2) := by decide +kernel
theorem d_Pairs_init_10 : decode b_Pairs_init 10 = .ok (.putfield 11, 3) := by decide +kernel
theorem d_Pairs_init_13 : decode b_Pairs_init 13 = .ok (.aload_n 0, 1) := by decide +kernel
theorem d_Pairs_init_14 : decode b_Pairs_init 14 = .ok (.bipush 64, 2) := by decide +kernel
theorem d_Pairs_init_16 : decode b_Pairs_init 16 = .ok (.newarray .int, 2) := by decide +kernel
theorem d_Pairs_init_18 : decode b_Pairs_init 18 = .ok (.putfield 15, 3) := by decide +kernel
theorem d_Pairs_init_21 : decode b_Pairs_init 21 = .ok (.aload_n 0, 1) := by decide +kernel
theorem d_Pairs_init_22 : decode b_Pairs_init 22 = .ok (.bipush 64, 2) := by decide +kernel
theorem d_Pairs_init_24 : decode b_Pairs_init 24 = .ok (.newarray .int, 2) := by decide +kernel
theorem d_Pairs_init_26 : decode b_Pairs_init 26 = .ok (.putfield 19, 3) := by decide +kernel
theorem d_Pairs_init_29 : decode b_Pairs_init 29 = .ok (.aload_n 0, 1) := by decide +kernel
theorem d_Pairs_init_30 : decode b_Pairs_init 30 = .ok (.bipush 64, 2) := by decide +kernel
theorem d_Pairs_init_32 : decode b_Pairs_init 32 = .ok (.newarray .int, 2) := by decide +kernel
theorem d_Pairs_init_34 : decode b_Pairs_init 34 = .ok (.putfield 22, 3) := by decide +kernel
theorem d_Pairs_init_37 : decode b_Pairs_init 37 = .ok (.aload_n 0, 1) := by decide +kernel
theorem d_Pairs_init_38 : decode b_Pairs_init 38 = .ok (.bipush 64, 2) := by decide +kernel
theorem d_Pairs_init_40 : decode b_Pairs_init 40 = .ok (.newarray .int, 2) := by decide +kernel
theorem d_Pairs_init_42 : decode b_Pairs_init 42 = .ok (.putfield 25, 3) := by decide +kernel
theorem d_Pairs_init_45 : decode b_Pairs_init 45 = .ok (.return_, 1) := by decide +kernel
theorem d_Pairs_behindCount_0 : decode b_Pairs_behindCount 0 = .ok (.iload_n 1, 1) := by decide +kernel
theorem d_Pairs_behindCount_1 : decode b_Pairs_behindCount 1 = .ok (.invokestatic 44, 3) := by decide +kernel
theorem d_Pairs_behindCount_4 : decode b_Pairs_behindCount 4 = .ok (.istore_n 2, 1) := by decide +kernel
theorem d_Pairs_behindCount_5 : decode b_Pairs_behindCount 5 = .ok (.aload_n 0, 1) := by decide +kernel
theorem d_Pairs_behindCount_6 : decode b_Pairs_behindCount 6 = .ok (.iload_n 2, 1) := by decide +kernel
theorem d_Pairs_behindCount_7 : decode b_Pairs_behindCount 7 = .ok (.iload_n 1, 1) := by decide +kernel
theorem d_Pairs_behindCount_8 : decode b_Pairs_behindCount 8 = .ok (.invokevirtual 54, 3) := by decide +kernel
theorem d_Pairs_behindCount_11 : decode b_Pairs_behindCount 11 = .ok (.ifCond .eq 12, 3) := by decide +kernel
theorem d_Pairs_behindCount_14 : decode b_Pairs_behindCount 14 = .ok (.aload_n 0, 1) := by decide +kernel
theorem d_Pairs_behindCount_15 : decode b_Pairs_behindCount 15 = .ok (.getfield 19, 3) := by decide +kernel
theorem d_Pairs_behindCount_18 : decode b_Pairs_behindCount 18 = .ok (.iload_n 2, 1) := by decide +kernel
theorem d_Pairs_behindCount_19 : decode b_Pairs_behindCount 19 = .ok (.iaload, 1) := by decide +kernel
theorem d_Pairs_behindCount_20 : decode b_Pairs_behindCount 20 = .ok (.goto 4, 3) := by decide +kernel
theorem d_Pairs_behindCount_23 : decode b_Pairs_behindCount 23 = .ok (.iconst 0, 1) := by decide +kernel
theorem d_Pairs_behindCount_24 : decode b_Pairs_behindCount 24 = .ok (.ireturn, 1) := by decide +kernel
theorem d_Pairs_confidence_0 : decode b_Pairs_confidence 0 = .ok (.aload_n 0, 1) := by decide +kernel
theorem d_Pairs_confidence_1 : decode b_Pairs_confidence 1 = .ok (.iload_n 1, 1) := by decide +kernel
theorem d_Pairs_confidence_2 : decode b_Pairs_confidence 2 = .ok (.invokevirtual 40, 3) := by decide +kernel
theorem d_Pairs_confidence_5 : decode b_Pairs_confidence 5 = .ok (.iconst 1, 1) := by decide +kernel
theorem d_Pairs_confidence_6 : decode b_Pairs_confidence 6 = .ok (.if_icmp .le 15, 3) := by decide +kernel
theorem d_Pairs_confidence_9 : decode b_Pairs_confidence 9 = .ok (.aload_n 0, 1) := by decide +kernel
theorem d_Pairs_confidence_10 : decode b_Pairs_confidence 10 = .ok (.getfield 25, 3) := by decide +kernel
theorem d_Pairs_confidence_13 : decode b_Pairs_confidence 13 = .ok (.iload_n 1, 1) := by decide +kernel
theorem d_Pairs_confidence_14 : decode b_Pairs_confidence 14 = .ok (.invokestatic 44, 3) := by decide +kernel
theorem d_Pairs_confidence_17 : decode b_Pairs_confidence 17 = .ok (.iaload, 1) := by decide +kernel
theorem d_Pairs_confidence_18 : decode b_Pairs_confidence 18 = .ok (.goto 4, 3) := by decide +kernel
theorem d_Pairs_confidence_21 : decode b_Pairs_confidence 21 = .ok (.iconst (-1), 1) := by decide +kernel
theorem d_Pairs_confidence_22 : decode b_Pairs_confidence 22 = .ok (.ireturn, 1) := by decide +kernel
theorem d_Pairs_follow_0 : decode b_Pairs_follow 0 = .ok (.iload_n 1, 1) := by decide +kernel
theorem d_Pairs_follow_1 : decode b_Pairs_follow 1 = .ok (.invokestatic 44, 3) := by decide +kernel
theorem d_Pairs_follow_4 : decode b_Pairs_follow 4 = .ok (.istore_n 3, 1) := by decide +kernel
theorem d_Pairs_follow_5 : decode b_Pairs_follow 5 = .ok (.aload_n 0, 1) := by decide +kernel
theorem d_Pairs_follow_6 : decode b_Pairs_follow 6 = .ok (.iload_n 3, 1) := by decide +kernel
theorem d_Pairs_follow_7 : decode b_Pairs_follow 7 = .ok (.iload_n 1, 1) := by decide +kernel
theorem d_Pairs_follow_8 : decode b_Pairs_follow 8 = .ok (.invokevirtual 54, 3) := by decide +kernel
theorem d_Pairs_follow_11 : decode b_Pairs_follow 11 = .ok (.ifCond .ne 24, 3) := by decide +kernel
theorem d_Pairs_follow_14 : decode b_Pairs_follow 14 = .ok (.aload_n 0, 1) := by decide +kernel
theorem d_Pairs_follow_15 : decode b_Pairs_follow 15 = .ok (.getfield 11, 3) := by decide +kernel
theorem d_Pairs_follow_18 : decode b_Pairs_follow 18 = .ok (.iload_n 3, 1) := by decide +kernel
theorem d_Pairs_follow_19 : decode b_Pairs_follow 19 = .ok (.iconst 1, 1) := by decide +kernel
theorem d_Pairs_follow_20 : decode b_Pairs_follow 20 = .ok (.bastore, 1) := by decide +kernel
theorem d_Pairs_follow_21 : decode b_Pairs_follow 21 = .ok (.aload_n 0, 1) := by decide +kernel
theorem d_Pairs_follow_22 : decode b_Pairs_follow 22 = .ok (.getfield 15, 3) := by decide +kernel
theorem d_Pairs_follow_25 : decode b_Pairs_follow 25 = .ok (.iload_n 3, 1) := by decide +kernel
theorem d_Pairs_follow_26 : decode b_Pairs_follow 26 = .ok (.iload_n 1, 1) := by decide +kernel
theorem d_Pairs_follow_27 : decode b_Pairs_follow 27 = .ok (.iastore, 1) := by decide +kernel
theorem d_Pairs_follow_28 : decode b_Pairs_follow 28 = .ok (.aload_n 0, 1) := by decide +kernel
theorem d_Pairs_follow_29 : decode b_Pairs_follow 29 = .ok (.getfield 19, 3) := by decide +kernel
theorem d_Pairs_follow_32 : decode b_Pairs_follow 32 = .ok (.iload_n 3, 1) := by decide +kernel
theorem d_Pairs_follow_33 : decode b_Pairs_follow 33 = .ok (.iconst 0, 1) := by decide +kernel
theorem d_Pairs_follow_34 : decode b_Pairs_follow 34 = .ok (.iastore, 1) := by decide +kernel
theorem d_Pairs_follow_35 : decode b_Pairs_follow 35 = .ok (.aload_n 0, 1) := by decide +kernel
theorem d_Pairs_follow_36 : decode b_Pairs_follow 36 = .ok (.getfield 19, 3) := by decide +kernel
theorem d_Pairs_follow_39 : decode b_Pairs_follow 39 = .ok (.iload_n 3, 1) := by decide +kernel
theorem d_Pairs_follow_40 : decode b_Pairs_follow 40 = .ok (.iaload, 1) := by decide +kernel
theorem d_Pairs_follow_41 : decode b_Pairs_follow 41 = .ok (.ifCond .le 14, 3) := by decide +kernel
theorem d_Pairs_follow_44 : decode b_Pairs_follow 44 = .ok (.aload_n 0, 1) := by decide +kernel
theorem d_Pairs_follow_45 : decode b_Pairs_follow 45 = .ok (.getfield 22, 3) := by decide +kernel
theorem d_Pairs_follow_48 : decode b_Pairs_follow 48 = .ok (.iload_n 3, 1) := by decide +kernel
theorem d_Pairs_follow_49 : decode b_Pairs_follow 49 = .ok (.iaload, 1) := by decide +kernel
theorem d_Pairs_follow_50 : decode b_Pairs_follow 50 = .ok (.iload_n 2, 1) := by decide +kernel
theorem d_Pairs_follow_51 : decode b_Pairs_follow 51 = .ok (.if_icmp .ne 4, 3) := by decide +kernel
theorem d_Pairs_follow_54 : decode b_Pairs_follow 54 = .ok (.return_, 1) := by decide +kernel
theorem d_Pairs_follow_55 : decode b_Pairs_follow 55 = .ok (.aload_n 0, 1) := by decide +kernel
theorem d_Pairs_follow_56 : decode b_Pairs_follow 56 = .ok (.getfield 25, 3) := by decide +kernel
theorem d_Pairs_follow_59 : decode b_Pairs_follow 59 = .ok (.iload_n 3, 1) := by decide +kernel
theorem d_Pairs_follow_60 : decode b_Pairs_follow 60 = .ok (.aload_n 0, 1) := by decide +kernel
theorem d_Pairs_follow_61 : decode b_Pairs_follow 61 = .ok (.getfield 22, 3) := by decide +kernel
theorem d_Pairs_follow_64 : decode b_Pairs_follow 64 = .ok (.iload_n 3, 1) := by decide +kernel
theorem d_Pairs_follow_65 : decode b_Pairs_follow 65 = .ok (.iaload, 1) := by decide +kernel
theorem d_Pairs_follow_66 : decode b_Pairs_follow 66 = .ok (.iastore, 1) := by decide +kernel
theorem d_Pairs_follow_67 : decode b_Pairs_follow 67 = .ok (.aload_n 0, 1) := by decide +kernel
theorem d_Pairs_follow_68 : decode b_Pairs_follow 68 = .ok (.getfield 22, 3) := by decide +kernel
theorem d_Pairs_follow_71 : decode b_Pairs_follow 71 = .ok (.iload_n 3, 1) := by decide +kernel
theorem d_Pairs_follow_72 : decode b_Pairs_follow 72 = .ok (.iload_n 2, 1) := by decide +kernel
theorem d_Pairs_follow_73 : decode b_Pairs_follow 73 = .ok (.iastore, 1) := by decide +kernel
theorem d_Pairs_follow_74 : decode b_Pairs_follow 74 = .ok (.aload_n 0, 1) := by decide +kernel
theorem d_Pairs_follow_75 : decode b_Pairs_follow 75 = .ok (.getfield 19, 3) := by decide +kernel
theorem d_Pairs_follow_78 : decode b_Pairs_follow 78 = .ok (.iload_n 3, 1) := by decide +kernel
theorem d_Pairs_follow_79 : decode b_Pairs_follow 79 = .ok (.iconst 2, 1) := by decide +kernel
theorem d_Pairs_follow_80 : decode b_Pairs_follow 80 = .ok (.aload_n 0, 1) := by decide +kernel
theorem d_Pairs_follow_81 : decode b_Pairs_follow 81 = .ok (.getfield 19, 3) := by decide +kernel
theorem d_Pairs_follow_84 : decode b_Pairs_follow 84 = .ok (.iload_n 3, 1) := by decide +kernel
theorem d_Pairs_follow_85 : decode b_Pairs_follow 85 = .ok (.iaload, 1) := by decide +kernel
theorem d_Pairs_follow_86 : decode b_Pairs_follow 86 = .ok (.iconst 1, 1) := by decide +kernel
theorem d_Pairs_follow_87 : decode b_Pairs_follow 87 = .ok (.iadd, 1) := by decide +kernel
theorem d_Pairs_follow_88 : decode b_Pairs_follow 88 = .ok (.invokestatic 58, 3) := by decide +kernel
theorem d_Pairs_follow_91 : decode b_Pairs_follow 91 = .ok (.iastore, 1) := by decide +kernel
theorem d_Pairs_follow_92 : decode b_Pairs_follow 92 = .ok (.return_, 1) := by decide +kernel
theorem d_Pairs_isOwn_0 : decode b_Pairs_isOwn 0 = .ok (.aload_n 0, 1) := by decide +kernel
theorem d_Pairs_isOwn_1 : decode b_Pairs_isOwn 1 = .ok (.getfield 11, 3) := by decide +kernel
theorem d_Pairs_isOwn_4 : decode b_Pairs_isOwn 4 = .ok (.iload_n 1, 1) := by decide +kernel
theorem d_Pairs_isOwn_5 : decode b_Pairs_isOwn 5 = .ok (.baload, 1) := by decide +kernel
theorem d_Pairs_isOwn_6 : decode b_Pairs_isOwn 6 = .ok (.ifCond .eq 17, 3) := by decide +kernel
theorem d_Pairs_isOwn_9 : decode b_Pairs_isOwn 9 = .ok (.aload_n 0, 1) := by decide +kernel
theorem d_Pairs_isOwn_10 : decode b_Pairs_isOwn 10 = .ok (.getfield 15, 3) := by decide +kernel
theorem d_Pairs_isOwn_13 : decode b_Pairs_isOwn 13 = .ok (.iload_n 1, 1) := by decide +kernel
theorem d_Pairs_isOwn_14 : decode b_Pairs_isOwn 14 = .ok (.iaload, 1) := by decide +kernel
theorem d_Pairs_isOwn_15 : decode b_Pairs_isOwn 15 = .ok (.iload_n 2, 1) := by decide +kernel
theorem d_Pairs_isOwn_16 : decode b_Pairs_isOwn 16 = .ok (.if_icmp .ne 7, 3) := by decide +kernel
theorem d_Pairs_isOwn_19 : decode b_Pairs_isOwn 19 = .ok (.iconst 1, 1) := by decide +kernel
theorem d_Pairs_isOwn_20 : decode b_Pairs_isOwn 20 = .ok (.goto 4, 3) := by decide +kernel
theorem d_Pairs_isOwn_23 : decode b_Pairs_isOwn 23 = .ok (.iconst 0, 1) := by decide +kernel
theorem d_Pairs_isOwn_24 : decode b_Pairs_isOwn 24 = .ok (.ireturn, 1) := by decide +kernel
theorem d_Pairs_knowledge_0 : decode b_Pairs_knowledge 0 = .ok (.aload_n 0, 1) := by decide +kernel
theorem d_Pairs_knowledge_1 : decode b_Pairs_knowledge 1 = .ok (.iload_n 1, 1) := by decide +kernel
theorem d_Pairs_knowledge_2 : decode b_Pairs_knowledge 2 = .ok (.invokevirtual 40, 3) := by decide +kernel
theorem d_Pairs_knowledge_5 : decode b_Pairs_knowledge 5 = .ok (.ifCond .le 15, 3) := by decide +kernel
theorem d_Pairs_knowledge_8 : decode b_Pairs_knowledge 8 = .ok (.aload_n 0, 1) := by decide +kernel
theorem d_Pairs_knowledge_9 : decode b_Pairs_knowledge 9 = .ok (.getfield 22, 3) := by decide +kernel
theorem d_Pairs_knowledge_12 : decode b_Pairs_knowledge 12 = .ok (.iload_n 1, 1) := by decide +kernel
theorem d_Pairs_knowledge_13 : decode b_Pairs_knowledge 13 = .ok (.invokestatic 44, 3) := by decide +kernel
theorem d_Pairs_knowledge_16 : decode b_Pairs_knowledge 16 = .ok (.iaload, 1) := by decide +kernel
theorem d_Pairs_knowledge_17 : decode b_Pairs_knowledge 17 = .ok (.goto 4, 3) := by decide +kernel
theorem d_Pairs_knowledge_20 : decode b_Pairs_knowledge 20 = .ok (.iconst (-1), 1) := by decide +kernel
theorem d_Pairs_knowledge_21 : decode b_Pairs_knowledge 21 = .ok (.ireturn, 1) := by decide +kernel
theorem d_Pairs_learn_0 : decode b_Pairs_learn 0 = .ok (.aload_n 0, 1) := by decide +kernel
theorem d_Pairs_learn_1 : decode b_Pairs_learn 1 = .ok (.getfield 28, 3) := by decide +kernel
theorem d_Pairs_learn_4 : decode b_Pairs_learn 4 = .ok (.ifCond .eq 12, 3) := by decide +kernel
theorem d_Pairs_learn_7 : decode b_Pairs_learn 7 = .ok (.aload_n 0, 1) := by decide +kernel
theorem d_Pairs_learn_8 : decode b_Pairs_learn 8 = .ok (.aload_n 0, 1) := by decide +kernel
theorem d_Pairs_learn_9 : decode b_Pairs_learn 9 = .ok (.getfield 32, 3) := by decide +kernel
theorem d_Pairs_learn_12 : decode b_Pairs_learn 12 = .ok (.iload_n 2, 1) := by decide +kernel
theorem d_Pairs_learn_13 : decode b_Pairs_learn 13 = .ok (.invokevirtual 36, 3) := by decide +kernel
theorem d_Pairs_learn_16 : decode b_Pairs_learn 16 = .ok (.aload_n 0, 1) := by decide +kernel
theorem d_Pairs_learn_17 : decode b_Pairs_learn 17 = .ok (.iconst 1, 1) := by decide +kernel
theorem d_Pairs_learn_18 : decode b_Pairs_learn 18 = .ok (.putfield 28, 3) := by decide +kernel
theorem d_Pairs_learn_21 : decode b_Pairs_learn 21 = .ok (.aload_n 0, 1) := by decide +kernel
theorem d_Pairs_learn_22 : decode b_Pairs_learn 22 = .ok (.iload_n 2, 1) := by decide +kernel
theorem d_Pairs_learn_23 : decode b_Pairs_learn 23 = .ok (.putfield 32, 3) := by decide +kernel
theorem d_Pairs_learn_26 : decode b_Pairs_learn 26 = .ok (.aload_n 0, 1) := by decide +kernel
theorem d_Pairs_learn_27 : decode b_Pairs_learn 27 = .ok (.iload_n 2, 1) := by decide +kernel
theorem d_Pairs_learn_28 : decode b_Pairs_learn 28 = .ok (.invokevirtual 40, 3) := by decide +kernel
theorem d_Pairs_learn_31 : decode b_Pairs_learn 31 = .ok (.istore_n 3, 1) := by decide +kernel
theorem d_Pairs_learn_32 : decode b_Pairs_learn 32 = .ok (.iload_n 3, 1) := by decide +kernel
theorem d_Pairs_learn_33 : decode b_Pairs_learn 33 = .ok (.ifCond .le 16, 3) := by decide +kernel
theorem d_Pairs_learn_36 : decode b_Pairs_learn 36 = .ok (.aload_n 0, 1) := by decide +kernel
theorem d_Pairs_learn_37 : decode b_Pairs_learn 37 = .ok (.aload_n 0, 1) := by decide +kernel
theorem d_Pairs_learn_38 : decode b_Pairs_learn 38 = .ok (.getfield 22, 3) := by decide +kernel
theorem d_Pairs_learn_41 : decode b_Pairs_learn 41 = .ok (.iload_n 2, 1) := by decide +kernel
theorem d_Pairs_learn_42 : decode b_Pairs_learn 42 = .ok (.invokestatic 44, 3) := by decide +kernel
theorem d_Pairs_learn_45 : decode b_Pairs_learn 45 = .ok (.iaload, 1) := by decide +kernel
theorem d_Pairs_learn_46 : decode b_Pairs_learn 46 = .ok (.invokevirtual 47, 3) := by decide +kernel
theorem d_Pairs_learn_49 : decode b_Pairs_learn 49 = .ok (.iload_n 3, 1) := by decide +kernel
theorem d_Pairs_learn_50 : decode b_Pairs_learn 50 = .ok (.iconst 1, 1) := by decide +kernel
theorem d_Pairs_learn_51 : decode b_Pairs_learn 51 = .ok (.if_icmp .le 24, 3) := by decide +kernel
theorem d_Pairs_learn_54 : decode b_Pairs_learn 54 = .ok (.aload_n 0, 1) := by decide +kernel
theorem d_Pairs_learn_55 : decode b_Pairs_learn 55 = .ok (.invokevirtual 50, 3) := by decide +kernel
theorem d_Pairs_learn_58 : decode b_Pairs_learn 58 = .ok (.iconst 1, 1) := by decide +kernel
theorem d_Pairs_learn_59 : decode b_Pairs_learn 59 = .ok (.if_icmp .le 16, 3) := by decide +kernel
theorem d_Pairs_learn_62 : decode b_Pairs_learn 62 = .ok (.aload_n 0, 1) := by decide +kernel
theorem d_Pairs_learn_63 : decode b_Pairs_learn 63 = .ok (.aload_n 0, 1) := by decide +kernel
theorem d_Pairs_learn_64 : decode b_Pairs_learn 64 = .ok (.getfield 25, 3) := by decide +kernel
theorem d_Pairs_learn_67 : decode b_Pairs_learn 67 = .ok (.iload_n 2, 1) := by decide +kernel
theorem d_Pairs_learn_68 : decode b_Pairs_learn 68 = .ok (.invokestatic 44, 3) := by decide +kernel
theorem d_Pairs_learn_71 : decode b_Pairs_learn 71 = .ok (.iaload, 1) := by decide +kernel
theorem d_Pairs_learn_72 : decode b_Pairs_learn 72 = .ok (.invokevirtual 47, 3) := by decide +kernel
theorem d_Pairs_learn_75 : decode b_Pairs_learn 75 = .ok (.return_, 1) := by decide +kernel
theorem d_Pairs_rowOf_0 : decode b_Pairs_rowOf 0 = .ok (.iload_n 0, 1) := by decide +kernel
theorem d_Pairs_rowOf_1 : decode b_Pairs_rowOf 1 = .ok (.bipush 63, 2) := by decide +kernel
theorem d_Pairs_rowOf_3 : decode b_Pairs_rowOf 3 = .ok (.iand, 1) := by decide +kernel
theorem d_Pairs_rowOf_4 : decode b_Pairs_rowOf 4 = .ok (.ireturn, 1) := by decide +kernel
theorem d_Streams_init_0 : decode b_Streams_init 0 = .ok (.aload_n 0, 1) := by decide +kernel
theorem d_Streams_init_1 : decode b_Streams_init 1 = .ok (.iload_n 1, 1) := by decide +kernel
theorem d_Streams_init_2 : decode b_Streams_init 2 = .ok (.invokespecial 1, 3) := by decide +kernel
theorem d_Streams_init_5 : decode b_Streams_init 5 = .ok (.aload_n 0, 1) := by decide +kernel
theorem d_Streams_init_6 : decode b_Streams_init 6 = .ok (.bipush 8, 2) := by decide +kernel
theorem d_Streams_init_8 : decode b_Streams_init 8 = .ok (.newarray .int, 2) := by decide +kernel
theorem d_Streams_init_10 : decode b_Streams_init 10 = .ok (.putfield 9, 3) := by decide +kernel
theorem d_Streams_init_13 : decode b_Streams_init 13 = .ok (.aload_n 0, 1) := by decide +kernel
theorem d_Streams_init_14 : decode b_Streams_init 14 = .ok (.bipush 8, 2) := by decide +kernel
theorem d_Streams_init_16 : decode b_Streams_init 16 = .ok (.newarray .int, 2) := by decide +kernel
theorem d_Streams_init_18 : decode b_Streams_init 18 = .ok (.putfield 13, 3) := by decide +kernel
theorem d_Streams_init_21 : decode b_Streams_init 21 = .ok (.return_, 1) := by decide +kernel
theorem d_Streams_begin_0 : decode b_Streams_begin 0 = .ok (.aload_n 0, 1) := by decide +kernel
theorem d_Streams_begin_1 : decode b_Streams_begin 1 = .ok (.getfield 16, 3) := by decide +kernel
theorem d_Streams_begin_4 : decode b_Streams_begin 4 = .ok (.bipush 8, 2) := by decide +kernel
theorem d_Streams_begin_6 : decode b_Streams_begin 6 = .ok (.if_icmp .ge 13, 3) := by decide +kernel
theorem d_Streams_begin_9 : decode b_Streams_begin 9 = .ok (.aload_n 0, 1) := by decide +kernel
theorem d_Streams_begin_10 : decode b_Streams_begin 10 = .ok (.dup, 1) := by decide +kernel
theorem d_Streams_begin_11 : decode b_Streams_begin 11 = .ok (.getfield 16, 3) := by decide +kernel
theorem d_Streams_begin_14 : decode b_Streams_begin 14 = .ok (.iconst 1, 1) := by decide +kernel
theorem d_Streams_begin_15 : decode b_Streams_begin 15 = .ok (.iadd, 1) := by decide +kernel
theorem d_Streams_begin_16 : decode b_Streams_begin 16 = .ok (.putfield 16, 3) := by decide +kernel
theorem d_Streams_begin_19 : decode b_Streams_begin 19 = .ok (.aload_n 0, 1) := by decide +kernel
theorem d_Streams_begin_20 : decode b_Streams_begin 20 = .ok (.aload_n 0, 1) := by decide +kernel
theorem d_Streams_begin_21 : decode b_Streams_begin 21 = .ok (.getfield 16, 3) := by decide +kernel
theorem d_Streams_begin_24 : decode b_Streams_begin 24 = .ok (.iconst 1, 1) := by decide +kernel
theorem d_Streams_begin_25 : decode b_Streams_begin 25 = .ok (.isub, 1) := by decide +kernel
theorem d_Streams_begin_26 : decode b_Streams_begin 26 = .ok (.iload_n 1, 1) := by decide +kernel
theorem d_Streams_begin_27 : decode b_Streams_begin 27 = .ok (.iconst 0, 1) := by decide +kernel
theorem d_Streams_begin_28 : decode b_Streams_begin 28 = .ok (.invokevirtual 24, 3) := by decide +kernel
theorem d_Streams_begin_31 : decode b_Streams_begin 31 = .ok (.return_, 1) := by decide +kernel
theorem d_Streams_confidence_0 : decode b_Streams_confidence 0 = .ok (.iload_n 1, 1) := by decide +kernel
theorem d_Streams_confidence_1 : decode b_Streams_confidence 1 = .ok (.ifCond .lt 20, 3) := by decide +kernel
theorem d_Streams_confidence_4 : decode b_Streams_confidence 4 = .ok (.iload_n 1, 1) := by decide +kernel
theorem d_Streams_confidence_5 : decode b_Streams_confidence 5 = .ok (.aload_n 0, 1) := by decide +kernel
theorem d_Streams_confidence_6 : decode b_Streams_confidence 6 = .ok (.getfield 16, 3) := by decide +kernel
theorem d_Streams_confidence_9 : decode b_Streams_confidence 9 = .ok (.if_icmp .ge 12, 3) := by decide +kernel
theorem d_Streams_confidence_12 : decode b_Streams_confidence 12 = .ok (.aload_n 0, 1) := by decide +kernel
theorem d_Streams_confidence_13 : decode b_Streams_confidence 13 = .ok (.getfield 13, 3) := by decide +kernel
theorem d_Streams_confidence_16 : decode b_Streams_confidence 16 = .ok (.iload_n 1, 1) := by decide +kernel
theorem d_Streams_confidence_17 : decode b_Streams_confidence 17 = .ok (.iaload, 1) := by decide +kernel
theorem d_Streams_confidence_18 : decode b_Streams_confidence 18 = .ok (.goto 4, 3) := by decide +kernel
theorem d_Streams_confidence_21 : decode b_Streams_confidence 21 = .ok (.iconst 0, 1) := by decide +kernel
theorem d_Streams_confidence_22 : decode b_Streams_confidence 22 = .ok (.ireturn, 1) := by decide +kernel
theorem d_Streams_knowledge_0 : decode b_Streams_knowledge 0 = .ok (.aload_n 0, 1) := by decide +kernel
theorem d_Streams_knowledge_1 : decode b_Streams_knowledge 1 = .ok (.getfield 16, 3) := by decide +kernel
theorem d_Streams_knowledge_4 : decode b_Streams_knowledge 4 = .ok (.ireturn, 1) := by decide +kernel
theorem d_Streams_learn_0 : decode b_Streams_learn 0 = .ok (.iconst 0, 1) := by decide +kernel
theorem d_Streams_learn_1 : decode b_Streams_learn 1 = .ok (.istore_n 3, 1) := by decide +kernel
theorem d_Streams_learn_2 : decode b_Streams_learn 2 = .ok (.iload_n 3, 1) := by decide +kernel
theorem d_Streams_learn_3 : decode b_Streams_learn 3 = .ok (.aload_n 0, 1) := by decide +kernel
theorem d_Streams_learn_4 : decode b_Streams_learn 4 = .ok (.getfield 16, 3) := by decide +kernel
theorem d_Streams_learn_7 : decode b_Streams_learn 7 = .ok (.if_icmp .ge 55, 3) := by decide +kernel
theorem d_Streams_learn_10 : decode b_Streams_learn 10 = .ok (.iload_n 2, 1) := by decide +kernel
theorem d_Streams_learn_11 : decode b_Streams_learn 11 = .ok (.aload_n 0, 1) := by decide +kernel
theorem d_Streams_learn_12 : decode b_Streams_learn 12 = .ok (.getfield 9, 3) := by decide +kernel
theorem d_Streams_learn_15 : decode b_Streams_learn 15 = .ok (.iload_n 3, 1) := by decide +kernel
theorem d_Streams_learn_16 : decode b_Streams_learn 16 = .ok (.iaload, 1) := by decide +kernel
theorem d_Streams_learn_17 : decode b_Streams_learn 17 = .ok (.isub, 1) := by decide +kernel
theorem d_Streams_learn_18 : decode b_Streams_learn 18 = .ok (.invokestatic 20, 3) := by decide +kernel
theorem d_Streams_learn_21 : decode b_Streams_learn 21 = .ok (.istore 4, 2) := by decide +kernel
theorem d_Streams_learn_23 : decode b_Streams_learn 23 = .ok (.iload 4, 2) := by decide +kernel
theorem d_Streams_learn_25 : decode b_Streams_learn 25 = .ok (.ifCond .eq 31, 3) := by decide +kernel
theorem d_Streams_learn_28 : decode b_Streams_learn 28 = .ok (.aload_n 0, 1) := by decide +kernel
theorem d_Streams_learn_29 : decode b_Streams_learn 29 = .ok (.getfield 13, 3) := by decide +kernel
theorem d_Streams_learn_32 : decode b_Streams_learn 32 = .ok (.iload_n 3, 1) := by decide +kernel
theorem d_Streams_learn_33 : decode b_Streams_learn 33 = .ok (.iaload, 1) := by decide +kernel
theorem d_Streams_learn_34 : decode b_Streams_learn 34 = .ok (.iload 4, 2) := by decide +kernel
theorem d_Streams_learn_36 : decode b_Streams_learn 36 = .ok (.ineg, 1) := by decide +kernel
theorem d_Streams_learn_37 : decode b_Streams_learn 37 = .ok (.if_icmp .eq 19, 3) := by decide +kernel
theorem d_Streams_learn_40 : decode b_Streams_learn 40 = .ok (.aload_n 0, 1) := by decide +kernel
theorem d_Streams_learn_41 : decode b_Streams_learn 41 = .ok (.iload_n 3, 1) := by decide +kernel
theorem d_Streams_learn_42 : decode b_Streams_learn 42 = .ok (.iload_n 2, 1) := by decide +kernel
theorem d_Streams_learn_43 : decode b_Streams_learn 43 = .ok (.iload 4, 2) := by decide +kernel
theorem d_Streams_learn_45 : decode b_Streams_learn 45 = .ok (.invokevirtual 24, 3) := by decide +kernel
theorem d_Streams_learn_48 : decode b_Streams_learn 48 = .ok (.aload_n 0, 1) := by decide +kernel
theorem d_Streams_learn_49 : decode b_Streams_learn 49 = .ok (.iload_n 2, 1) := by decide +kernel
theorem d_Streams_learn_50 : decode b_Streams_learn 50 = .ok (.iload 4, 2) := by decide +kernel
theorem d_Streams_learn_52 : decode b_Streams_learn 52 = .ok (.invokevirtual 28, 3) := by decide +kernel
theorem d_Streams_learn_55 : decode b_Streams_learn 55 = .ok (.return_, 1) := by decide +kernel
theorem d_Streams_learn_56 : decode b_Streams_learn 56 = .ok (.iinc 3 1, 3) := by decide +kernel
theorem d_Streams_learn_59 : decode b_Streams_learn 59 = .ok (.goto (-57), 3) := by decide +kernel
theorem d_Streams_learn_62 : decode b_Streams_learn 62 = .ok (.aload_n 0, 1) := by decide +kernel
theorem d_Streams_learn_63 : decode b_Streams_learn 63 = .ok (.iload_n 2, 1) := by decide +kernel
theorem d_Streams_learn_64 : decode b_Streams_learn 64 = .ok (.invokevirtual 32, 3) := by decide +kernel
theorem d_Streams_learn_67 : decode b_Streams_learn 67 = .ok (.return_, 1) := by decide +kernel
theorem d_Streams_moveInFront_0 : decode b_Streams_moveInFront 0 = .ok (.iload_n 1, 1) := by decide +kernel
theorem d_Streams_moveInFront_1 : decode b_Streams_moveInFront 1 = .ok (.istore 4, 2) := by decide +kernel
theorem d_Streams_moveInFront_3 : decode b_Streams_moveInFront 3 = .ok (.iload 4, 2) := by decide +kernel
theorem d_Streams_moveInFront_5 : decode b_Streams_moveInFront 5 = .ok (.ifCond .le 41, 3) := by decide +kernel
theorem d_Streams_moveInFront_8 : decode b_Streams_moveInFront 8 = .ok (.aload_n 0, 1) := by decide +kernel
theorem d_Streams_moveInFront_9 : decode b_Streams_moveInFront 9 = .ok (.getfield 9, 3) := by decide +kernel
theorem d_Streams_moveInFront_12 : decode b_Streams_moveInFront 12 = .ok (.iload 4, 2) := by decide +kernel
theorem d_Streams_moveInFront_14 : decode b_Streams_moveInFront 14 = .ok (.aload_n 0, 1) := by decide +kernel
theorem d_Streams_moveInFront_15 : decode b_Streams_moveInFront 15 = .ok (.getfield 9, 3) := by decide +kernel
theorem d_Streams_moveInFront_18 : decode b_Streams_moveInFront 18 = .ok (.iload 4, 2) := by decide +kernel
theorem d_Streams_moveInFront_20 : decode b_Streams_moveInFront 20 = .ok (.iconst 1, 1) := by decide +kernel
theorem d_Streams_moveInFront_21 : decode b_Streams_moveInFront 21 = .ok (.isub, 1) := by decide +kernel
theorem d_Streams_moveInFront_22 : decode b_Streams_moveInFront 22 = .ok (.iaload, 1) := by decide +kernel
theorem d_Streams_moveInFront_23 : decode b_Streams_moveInFront 23 = .ok (.iastore, 1) := by decide +kernel
theorem d_Streams_moveInFront_24 : decode b_Streams_moveInFront 24 = .ok (.aload_n 0, 1) := by decide +kernel
theorem d_Streams_moveInFront_25 : decode b_Streams_moveInFront 25 = .ok (.getfield 13, 3) := by decide +kernel
theorem d_Streams_moveInFront_28 : decode b_Streams_moveInFront 28 = .ok (.iload 4, 2) := by decide +kernel
theorem d_Streams_moveInFront_30 : decode b_Streams_moveInFront 30 = .ok (.aload_n 0, 1) := by decide +kernel
theorem d_Streams_moveInFront_31 : decode b_Streams_moveInFront 31 = .ok (.getfield 13, 3) := by decide +kernel
theorem d_Streams_moveInFront_34 : decode b_Streams_moveInFront 34 = .ok (.iload 4, 2) := by decide +kernel
theorem d_Streams_moveInFront_36 : decode b_Streams_moveInFront 36 = .ok (.iconst 1, 1) := by decide +kernel
theorem d_Streams_moveInFront_37 : decode b_Streams_moveInFront 37 = .ok (.isub, 1) := by decide +kernel
theorem d_Streams_moveInFront_38 : decode b_Streams_moveInFront 38 = .ok (.iaload, 1) := by decide +kernel
theorem d_Streams_moveInFront_39 : decode b_Streams_moveInFront 39 = .ok (.iastore, 1) := by decide +kernel
theorem d_Streams_moveInFront_40 : decode b_Streams_moveInFront 40 = .ok (.iinc 4 (-1), 3) := by decide +kernel
theorem d_Streams_moveInFront_43 : decode b_Streams_moveInFront 43 = .ok (.goto (-40), 3) := by decide +kernel
theorem d_Streams_moveInFront_46 : decode b_Streams_moveInFront 46 = .ok (.aload_n 0, 1) := by decide +kernel
theorem d_Streams_moveInFront_47 : decode b_Streams_moveInFront 47 = .ok (.getfield 9, 3) := by decide +kernel
theorem d_Streams_moveInFront_50 : decode b_Streams_moveInFront 50 = .ok (.iconst 0, 1) := by decide +kernel
theorem d_Streams_moveInFront_51 : decode b_Streams_moveInFront 51 = .ok (.iload_n 2, 1) := by decide +kernel
theorem d_Streams_moveInFront_52 : decode b_Streams_moveInFront 52 = .ok (.iastore, 1) := by decide +kernel
theorem d_Streams_moveInFront_53 : decode b_Streams_moveInFront 53 = .ok (.aload_n 0, 1) := by decide +kernel
theorem d_Streams_moveInFront_54 : decode b_Streams_moveInFront 54 = .ok (.getfield 13, 3) := by decide +kernel
theorem d_Streams_moveInFront_57 : decode b_Streams_moveInFront 57 = .ok (.iconst 0, 1) := by decide +kernel
theorem d_Streams_moveInFront_58 : decode b_Streams_moveInFront 58 = .ok (.iload_n 3, 1) := by decide +kernel
theorem d_Streams_moveInFront_59 : decode b_Streams_moveInFront 59 = .ok (.iastore, 1) := by decide +kernel
theorem d_Streams_moveInFront_60 : decode b_Streams_moveInFront 60 = .ok (.return_, 1) := by decide +kernel
theorem d_Streams_wayTo_0 : decode b_Streams_wayTo 0 = .ok (.iload_n 0, 1) := by decide +kernel
theorem d_Streams_wayTo_1 : decode b_Streams_wayTo 1 = .ok (.iconst 1, 1) := by decide +kernel
theorem d_Streams_wayTo_2 : decode b_Streams_wayTo 2 = .ok (.if_icmp .lt 10, 3) := by decide +kernel
theorem d_Streams_wayTo_5 : decode b_Streams_wayTo 5 = .ok (.iload_n 0, 1) := by decide +kernel
theorem d_Streams_wayTo_6 : decode b_Streams_wayTo 6 = .ok (.iconst 2, 1) := by decide +kernel
theorem d_Streams_wayTo_7 : decode b_Streams_wayTo 7 = .ok (.if_icmp .gt 5, 3) := by decide +kernel
theorem d_Streams_wayTo_10 : decode b_Streams_wayTo 10 = .ok (.iconst 1, 1) := by decide +kernel
theorem d_Streams_wayTo_11 : decode b_Streams_wayTo 11 = .ok (.ireturn, 1) := by decide +kernel
theorem d_Streams_wayTo_12 : decode b_Streams_wayTo 12 = .ok (.iload_n 0, 1) := by decide +kernel
theorem d_Streams_wayTo_13 : decode b_Streams_wayTo 13 = .ok (.iconst (-1), 1) := by decide +kernel
theorem d_Streams_wayTo_14 : decode b_Streams_wayTo 14 = .ok (.if_icmp .gt 13, 3) := by decide +kernel
theorem d_Streams_wayTo_17 : decode b_Streams_wayTo 17 = .ok (.iload_n 0, 1) := by decide +kernel
theorem d_Streams_wayTo_18 : decode b_Streams_wayTo 18 = .ok (.bipush (-2), 2) := by decide +kernel
theorem d_Streams_wayTo_20 : decode b_Streams_wayTo 20 = .ok (.if_icmp .lt 7, 3) := by decide +kernel
theorem d_Streams_wayTo_23 : decode b_Streams_wayTo 23 = .ok (.iconst (-1), 1) := by decide +kernel
theorem d_Streams_wayTo_24 : decode b_Streams_wayTo 24 = .ok (.goto 4, 3) := by decide +kernel
theorem d_Streams_wayTo_27 : decode b_Streams_wayTo 27 = .ok (.iconst 0, 1) := by decide +kernel
theorem d_Streams_wayTo_28 : decode b_Streams_wayTo 28 = .ok (.ireturn, 1) := by decide +kernel
theorem d_Main_init_0 : decode b_Main_init 0 = .ok (.aload_n 0, 1) := by decide +kernel
theorem d_Main_init_1 : decode b_Main_init 1 = .ok (.invokespecial 1, 3) := by decide +kernel
theorem d_Main_init_4 : decode b_Main_init 4 = .ok (.aload_n 0, 1) := by decide +kernel
theorem d_Main_init_5 : decode b_Main_init 5 = .ok (.bipush 32, 2) := by decide +kernel
theorem d_Main_init_7 : decode b_Main_init 7 = .ok (.iload_n 3, 1) := by decide +kernel
theorem d_Main_init_8 : decode b_Main_init 8 = .ok (.invokestatic 9, 3) := by decide +kernel
theorem d_Main_init_11 : decode b_Main_init 11 = .ok (.putfield 13, 3) := by decide +kernel
theorem d_Main_init_14 : decode b_Main_init 14 = .ok (.aload_n 0, 1) := by decide +kernel
theorem d_Main_init_15 : decode b_Main_init 15 = .ok (.new 17, 3) := by decide +kernel
theorem d_Main_init_18 : decode b_Main_init 18 = .ok (.dup, 1) := by decide +kernel
theorem d_Main_init_19 : decode b_Main_init 19 = .ok (.bipush 64, 2) := by decide +kernel
theorem d_Main_init_21 : decode b_Main_init 21 = .ok (.iload 4, 2) := by decide +kernel
theorem d_Main_init_23 : decode b_Main_init 23 = .ok (.invokestatic 9, 3) := by decide +kernel
theorem d_Main_init_26 : decode b_Main_init 26 = .ok (.invokespecial 19, 3) := by decide +kernel
theorem d_Main_init_29 : decode b_Main_init 29 = .ok (.putfield 22, 3) := by decide +kernel
theorem d_Main_init_32 : decode b_Main_init 32 = .ok (.aload_n 0, 1) := by decide +kernel
theorem d_Main_init_33 : decode b_Main_init 33 = .ok (.new 26, 3) := by decide +kernel
theorem d_Main_init_36 : decode b_Main_init 36 = .ok (.dup, 1) := by decide +kernel
theorem d_Main_init_37 : decode b_Main_init 37 = .ok (.invokespecial 28, 3) := by decide +kernel
theorem d_Main_init_40 : decode b_Main_init 40 = .ok (.putfield 29, 3) := by decide +kernel
theorem d_Main_init_43 : decode b_Main_init 43 = .ok (.aload_n 0, 1) := by decide +kernel
theorem d_Main_init_44 : decode b_Main_init 44 = .ok (.iload_n 1, 1) := by decide +kernel
theorem d_Main_init_45 : decode b_Main_init 45 = .ok (.iconst 5, 1) := by decide +kernel
theorem d_Main_init_46 : decode b_Main_init 46 = .ok (.invokestatic 33, 3) := by decide +kernel
theorem d_Main_init_49 : decode b_Main_init 49 = .ok (.iconst 4, 1) := by decide +kernel
theorem d_Main_init_50 : decode b_Main_init 50 = .ok (.iload_n 2, 1) := by decide +kernel
theorem d_Main_init_51 : decode b_Main_init 51 = .ok (.invokestatic 9, 3) := by decide +kernel
theorem d_Main_init_54 : decode b_Main_init 54 = .ok (.invokestatic 38, 3) := by decide +kernel
theorem d_Main_init_57 : decode b_Main_init 57 = .ok (.putfield 42, 3) := by decide +kernel
theorem d_Main_init_60 : decode b_Main_init 60 = .ok (.return_, 1) := by decide +kernel
theorem d_Main_access_0 : decode b_Main_access 0 = .ok (.aload_n 0, 1) := by decide +kernel
theorem d_Main_access_1 : decode b_Main_access 1 = .ok (.dup, 1) := by decide +kernel
theorem d_Main_access_2 : decode b_Main_access 2 = .ok (.getfield 46, 3) := by decide +kernel
theorem d_Main_access_5 : decode b_Main_access 5 = .ok (.iconst 1, 1) := by decide +kernel
theorem d_Main_access_6 : decode b_Main_access 6 = .ok (.iadd, 1) := by decide +kernel
theorem d_Main_access_7 : decode b_Main_access 7 = .ok (.putfield 46, 3) := by decide +kernel
theorem d_Main_access_10 : decode b_Main_access 10 = .ok (.aload_n 0, 1) := by decide +kernel
theorem d_Main_access_11 : decode b_Main_access 11 = .ok (.invokevirtual 49, 3) := by decide +kernel
theorem d_Main_access_14 : decode b_Main_access 14 = .ok (.pop, 1) := by decide +kernel
theorem d_Main_access_15 : decode b_Main_access 15 = .ok (.aload_n 0, 1) := by decide +kernel
theorem d_Main_access_16 : decode b_Main_access 16 = .ok (.iload_n 2, 1) := by decide +kernel
theorem d_Main_access_17 : decode b_Main_access 17 = .ok (.invokevirtual 53, 3) := by decide +kernel
theorem d_Main_access_20 : decode b_Main_access 20 = .ok (.istore_n 3, 1) := by decide +kernel
theorem d_Main_access_21 : decode b_Main_access 21 = .ok (.aload_n 0, 1) := by decide +kernel
theorem d_Main_access_22 : decode b_Main_access 22 = .ok (.getfield 42, 3) := by decide +kernel
theorem d_Main_access_25 : decode b_Main_access 25 = .ok (.iload_n 1, 1) := by decide +kernel
theorem d_Main_access_26 : decode b_Main_access 26 = .ok (.iload_n 2, 1) := by decide +kernel
theorem d_Main_access_27 : decode b_Main_access 27 = .ok (.invokevirtual 57, 3) := by decide +kernel
theorem d_Main_access_30 : decode b_Main_access 30 = .ok (.iconst 0, 1) := by decide +kernel
theorem d_Main_access_31 : decode b_Main_access 31 = .ok (.istore 4, 2) := by decide +kernel
theorem d_Main_access_33 : decode b_Main_access 33 = .ok (.iload 4, 2) := by decide +kernel
theorem d_Main_access_35 : decode b_Main_access 35 = .ok (.aload_n 0, 1) := by decide +kernel
theorem d_Main_access_36 : decode b_Main_access 36 = .ok (.getfield 42, 3) := by decide +kernel
theorem d_Main_access_39 : decode b_Main_access 39 = .ok (.invokevirtual 63, 3) := by decide +kernel
theorem d_Main_access_42 : decode b_Main_access 42 = .ok (.if_icmp .ge 22, 3) := by decide +kernel
theorem d_Main_access_45 : decode b_Main_access 45 = .ok (.aload_n 0, 1) := by decide +kernel
theorem d_Main_access_46 : decode b_Main_access 46 = .ok (.aload_n 0, 1) := by decide +kernel
theorem d_Main_access_47 : decode b_Main_access 47 = .ok (.getfield 42, 3) := by decide +kernel
theorem d_Main_access_50 : decode b_Main_access 50 = .ok (.iload 4, 2) := by decide +kernel
theorem d_Main_access_52 : decode b_Main_access 52 = .ok (.invokevirtual 66, 3) := by decide +kernel
theorem d_Main_access_55 : decode b_Main_access 55 = .ok (.invokevirtual 69, 3) := by decide +kernel
theorem d_Main_access_58 : decode b_Main_access 58 = .ok (.iinc 4 1, 3) := by decide +kernel
theorem d_Main_access_61 : decode b_Main_access 61 = .ok (.goto (-28), 3) := by decide +kernel
theorem d_Main_access_64 : decode b_Main_access 64 = .ok (.iload_n 3, 1) := by decide +kernel
theorem d_Main_access_65 : decode b_Main_access 65 = .ok (.ireturn, 1) := by decide +kernel
theorem d_Main_ask_0 : decode b_Main_ask 0 = .ok (.aload_n 0, 1) := by decide +kernel
theorem d_Main_ask_1 : decode b_Main_ask 1 = .ok (.getfield 22, 3) := by decide +kernel
theorem d_Main_ask_4 : decode b_Main_ask 4 = .ok (.iload_n 1, 1) := by decide +kernel
theorem d_Main_ask_5 : decode b_Main_ask 5 = .ok (.invokevirtual 94, 3) := by decide +kernel
theorem d_Main_ask_8 : decode b_Main_ask 8 = .ok (.istore_n 2, 1) := by decide +kernel
theorem d_Main_ask_9 : decode b_Main_ask 9 = .ok (.iload_n 2, 1) := by decide +kernel
theorem d_Main_ask_10 : decode b_Main_ask 10 = .ok (.iconst (-1), 1) := by decide +kernel
theorem d_Main_ask_11 : decode b_Main_ask 11 = .ok (.if_icmp .eq 10, 3) := by decide +kernel
theorem d_Main_ask_14 : decode b_Main_ask 14 = .ok (.aload_n 0, 1) := by decide +kernel
theorem d_Main_ask_15 : decode b_Main_ask 15 = .ok (.iload_n 2, 1) := by decide +kernel
theorem d_Main_ask_16 : decode b_Main_ask 16 = .ok (.invokevirtual 187, 3) := by decide +kernel
theorem d_Main_ask_19 : decode b_Main_ask 19 = .ok (.iconst 1, 1) := by decide +kernel
theorem d_Main_ask_20 : decode b_Main_ask 20 = .ok (.ireturn, 1) := by decide +kernel
theorem d_Main_ask_21 : decode b_Main_ask 21 = .ok (.aload_n 0, 1) := by decide +kernel
theorem d_Main_ask_22 : decode b_Main_ask 22 = .ok (.getfield 29, 3) := by decide +kernel
theorem d_Main_ask_25 : decode b_Main_ask 25 = .ok (.iload_n 1, 1) := by decide +kernel
theorem d_Main_ask_26 : decode b_Main_ask 26 = .ok (.invokevirtual 101, 3) := by decide +kernel
theorem d_Main_ask_29 : decode b_Main_ask 29 = .ok (.istore_n 3, 1) := by decide +kernel
theorem d_Main_ask_30 : decode b_Main_ask 30 = .ok (.iload_n 3, 1) := by decide +kernel
theorem d_Main_ask_31 : decode b_Main_ask 31 = .ok (.iconst (-1), 1) := by decide +kernel
theorem d_Main_ask_32 : decode b_Main_ask 32 = .ok (.if_icmp .eq 29, 3) := by decide +kernel
theorem d_Main_ask_35 : decode b_Main_ask 35 = .ok (.aload_n 0, 1) := by decide +kernel
theorem d_Main_ask_36 : decode b_Main_ask 36 = .ok (.dup, 1) := by decide +kernel
theorem d_Main_ask_37 : decode b_Main_ask 37 = .ok (.getfield 131, 3) := by decide +kernel
theorem d_Main_ask_40 : decode b_Main_ask 40 = .ok (.iconst 1, 1) := by decide +kernel
theorem d_Main_ask_41 : decode b_Main_ask 41 = .ok (.iadd, 1) := by decide +kernel
theorem d_Main_ask_42 : decode b_Main_ask 42 = .ok (.putfield 131, 3) := by decide +kernel
theorem d_Main_ask_45 : decode b_Main_ask 45 = .ok (.aload_n 0, 1) := by decide +kernel
theorem d_Main_ask_46 : decode b_Main_ask 46 = .ok (.getfield 29, 3) := by decide +kernel
theorem d_Main_ask_49 : decode b_Main_ask 49 = .ok (.iload_n 3, 1) := by decide +kernel
theorem d_Main_ask_50 : decode b_Main_ask 50 = .ok (.invokevirtual 174, 3) := by decide +kernel
theorem d_Main_ask_53 : decode b_Main_ask 53 = .ok (.aload_n 0, 1) := by decide +kernel
theorem d_Main_ask_54 : decode b_Main_ask 54 = .ok (.iload_n 1, 1) := by decide +kernel
theorem d_Main_ask_55 : decode b_Main_ask 55 = .ok (.iconst 0, 1) := by decide +kernel
theorem d_Main_ask_56 : decode b_Main_ask 56 = .ok (.invokevirtual 170, 3) := by decide +kernel
theorem d_Main_ask_59 : decode b_Main_ask 59 = .ok (.iconst 2, 1) := by decide +kernel
theorem d_Main_ask_60 : decode b_Main_ask 60 = .ok (.ireturn, 1) := by decide +kernel
theorem d_Main_ask_61 : decode b_Main_ask 61 = .ok (.aload_n 0, 1) := by decide +kernel
theorem d_Main_ask_62 : decode b_Main_ask 62 = .ok (.dup, 1) := by decide +kernel
theorem d_Main_ask_63 : decode b_Main_ask 63 = .ok (.getfield 134, 3) := by decide +kernel
theorem d_Main_ask_66 : decode b_Main_ask 66 = .ok (.iconst 1, 1) := by decide +kernel
theorem d_Main_ask_67 : decode b_Main_ask 67 = .ok (.iadd, 1) := by decide +kernel
theorem d_Main_ask_68 : decode b_Main_ask 68 = .ok (.putfield 134, 3) := by decide +kernel
theorem d_Main_ask_71 : decode b_Main_ask 71 = .ok (.aload_n 0, 1) := by decide +kernel
theorem d_Main_ask_72 : decode b_Main_ask 72 = .ok (.iload_n 1, 1) := by decide +kernel
theorem d_Main_ask_73 : decode b_Main_ask 73 = .ok (.iconst 0, 1) := by decide +kernel
theorem d_Main_ask_74 : decode b_Main_ask 74 = .ok (.invokevirtual 170, 3) := by decide +kernel
theorem d_Main_ask_77 : decode b_Main_ask 77 = .ok (.iconst 0, 1) := by decide +kernel
theorem d_Main_ask_78 : decode b_Main_ask 78 = .ok (.ireturn, 1) := by decide +kernel
theorem d_Main_come_0 : decode b_Main_come 0 = .ok (.aload_n 0, 1) := by decide +kernel
theorem d_Main_come_1 : decode b_Main_come 1 = .ok (.getfield 22, 3) := by decide +kernel
theorem d_Main_come_4 : decode b_Main_come 4 = .ok (.invokevirtual 177, 3) := by decide +kernel
theorem d_Main_come_7 : decode b_Main_come 7 = .ok (.ifCond .eq 23, 3) := by decide +kernel
theorem d_Main_come_10 : decode b_Main_come 10 = .ok (.aload_n 0, 1) := by decide +kernel
theorem d_Main_come_11 : decode b_Main_come 11 = .ok (.getfield 22, 3) := by decide +kernel
theorem d_Main_come_14 : decode b_Main_come 14 = .ok (.invokevirtual 181, 3) := by decide +kernel
theorem d_Main_come_17 : decode b_Main_come 17 = .ok (.ifCond .eq 13, 3) := by decide +kernel
theorem d_Main_come_20 : decode b_Main_come 20 = .ok (.aload_n 0, 1) := by decide +kernel
theorem d_Main_come_21 : decode b_Main_come 21 = .ok (.dup, 1) := by decide +kernel
theorem d_Main_come_22 : decode b_Main_come 22 = .ok (.getfield 91, 3) := by decide +kernel
theorem d_Main_come_25 : decode b_Main_come 25 = .ok (.iconst 1, 1) := by decide +kernel
theorem d_Main_come_26 : decode b_Main_come 26 = .ok (.iadd, 1) := by decide +kernel
theorem d_Main_come_27 : decode b_Main_come 27 = .ok (.putfield 91, 3) := by decide +kernel
theorem d_Main_come_30 : decode b_Main_come 30 = .ok (.aload_n 0, 1) := by decide +kernel
theorem d_Main_come_31 : decode b_Main_come 31 = .ok (.getfield 22, 3) := by decide +kernel
theorem d_Main_come_34 : decode b_Main_come 34 = .ok (.iload_n 1, 1) := by decide +kernel
theorem d_Main_come_35 : decode b_Main_come 35 = .ok (.iload_n 2, 1) := by decide +kernel
theorem d_Main_come_36 : decode b_Main_come 36 = .ok (.invokevirtual 184, 3) := by decide +kernel
theorem d_Main_come_39 : decode b_Main_come 39 = .ok (.return_, 1) := by decide +kernel
theorem d_Main_count_0 : decode b_Main_count 0 = .ok (.iload_n 1, 1) := by decide +kernel
theorem d_Main_count_1 : decode b_Main_count 1 = .ok (.tableswitch 153 0 13 #[71, 76, 81, 86, 91, 96, 101, 106, 111, 116, 121, 129, 137, 145], 71) := by decide +kernel
theorem d_Main_count_72 : decode b_Main_count 72 = .ok (.aload_n 0, 1) := by decide +kernel
theorem d_Main_count_73 : decode b_Main_count 73 = .ok (.getfield 46, 3) := by decide +kernel
theorem d_Main_count_76 : decode b_Main_count 76 = .ok (.ireturn, 1) := by decide +kernel
theorem d_Main_count_77 : decode b_Main_count 77 = .ok (.aload_n 0, 1) := by decide +kernel
theorem d_Main_count_78 : decode b_Main_count 78 = .ok (.getfield 128, 3) := by decide +kernel
theorem d_Main_count_81 : decode b_Main_count 81 = .ok (.ireturn, 1) := by decide +kernel
theorem d_Main_count_82 : decode b_Main_count 82 = .ok (.aload_n 0, 1) := by decide +kernel
theorem d_Main_count_83 : decode b_Main_count 83 = .ok (.getfield 131, 3) := by decide +kernel
theorem d_Main_count_86 : decode b_Main_count 86 = .ok (.ireturn, 1) := by decide +kernel
theorem d_Main_count_87 : decode b_Main_count 87 = .ok (.aload_n 0, 1) := by decide +kernel
theorem d_Main_count_88 : decode b_Main_count 88 = .ok (.getfield 134, 3) := by decide +kernel
theorem d_Main_count_91 : decode b_Main_count 91 = .ok (.ireturn, 1) := by decide +kernel
theorem d_Main_count_92 : decode b_Main_count 92 = .ok (.aload_n 0, 1) := by decide +kernel
theorem d_Main_count_93 : decode b_Main_count 93 = .ok (.getfield 137, 3) := by decide +kernel
theorem d_Main_count_96 : decode b_Main_count 96 = .ok (.ireturn, 1) := by decide +kernel
theorem d_Main_count_97 : decode b_Main_count 97 = .ok (.aload_n 0, 1) := by decide +kernel
theorem d_Main_count_98 : decode b_Main_count 98 = .ok (.getfield 91, 3) := by decide +kernel
theorem d_Main_count_101 : decode b_Main_count 101 = .ok (.ireturn, 1) := by decide +kernel
theorem d_Main_count_102 : decode b_Main_count 102 = .ok (.aload_n 0, 1) := by decide +kernel
theorem d_Main_count_103 : decode b_Main_count 103 = .ok (.getfield 140, 3) := by decide +kernel
theorem d_Main_count_106 : decode b_Main_count 106 = .ok (.ireturn, 1) := by decide +kernel
theorem d_Main_count_107 : decode b_Main_count 107 = .ok (.aload_n 0, 1) := by decide +kernel
theorem d_Main_count_108 : decode b_Main_count 108 = .ok (.getfield 143, 3) := by decide +kernel
theorem d_Main_count_111 : decode b_Main_count 111 = .ok (.ireturn, 1) := by decide +kernel
theorem d_Main_count_112 : decode b_Main_count 112 = .ok (.aload_n 0, 1) := by decide +kernel
theorem d_Main_count_113 : decode b_Main_count 113 = .ok (.getfield 146, 3) := by decide +kernel
theorem d_Main_count_116 : decode b_Main_count 116 = .ok (.ireturn, 1) := by decide +kernel
theorem d_Main_count_117 : decode b_Main_count 117 = .ok (.aload_n 0, 1) := by decide +kernel
theorem d_Main_count_118 : decode b_Main_count 118 = .ok (.getfield 119, 3) := by decide +kernel
theorem d_Main_count_121 : decode b_Main_count 121 = .ok (.ireturn, 1) := by decide +kernel
theorem d_Main_count_122 : decode b_Main_count 122 = .ok (.aload_n 0, 1) := by decide +kernel
theorem d_Main_count_123 : decode b_Main_count 123 = .ok (.getfield 22, 3) := by decide +kernel
theorem d_Main_count_126 : decode b_Main_count 126 = .ok (.invokevirtual 102, 3) := by decide +kernel
theorem d_Main_count_129 : decode b_Main_count 129 = .ok (.ireturn, 1) := by decide +kernel
theorem d_Main_count_130 : decode b_Main_count 130 = .ok (.aload_n 0, 1) := by decide +kernel
theorem d_Main_count_131 : decode b_Main_count 131 = .ok (.getfield 29, 3) := by decide +kernel
theorem d_Main_count_134 : decode b_Main_count 134 = .ok (.invokevirtual 79, 3) := by decide +kernel
theorem d_Main_count_137 : decode b_Main_count 137 = .ok (.ireturn, 1) := by decide +kernel
theorem d_Main_count_138 : decode b_Main_count 138 = .ok (.aload_n 0, 1) := by decide +kernel
theorem d_Main_count_139 : decode b_Main_count 139 = .ok (.getfield 22, 3) := by decide +kernel
theorem d_Main_count_142 : decode b_Main_count 142 = .ok (.invokevirtual 82, 3) := by decide +kernel
theorem d_Main_count_145 : decode b_Main_count 145 = .ok (.ireturn, 1) := by decide +kernel
theorem d_Main_count_146 : decode b_Main_count 146 = .ok (.aload_n 0, 1) := by decide +kernel
theorem d_Main_count_147 : decode b_Main_count 147 = .ok (.getfield 42, 3) := by decide +kernel
theorem d_Main_count_150 : decode b_Main_count 150 = .ok (.invokevirtual 149, 3) := by decide +kernel
theorem d_Main_count_153 : decode b_Main_count 153 = .ok (.ireturn, 1) := by decide +kernel
theorem d_Main_count_154 : decode b_Main_count 154 = .ok (.iconst (-1), 1) := by decide +kernel
theorem d_Main_count_155 : decode b_Main_count 155 = .ok (.ireturn, 1) := by decide +kernel
theorem d_Main_fetch_0 : decode b_Main_fetch 0 = .ok (.aload_n 0, 1) := by decide +kernel
theorem d_Main_fetch_1 : decode b_Main_fetch 1 = .ok (.getfield 22, 3) := by decide +kernel
theorem d_Main_fetch_4 : decode b_Main_fetch 4 = .ok (.iload_n 1, 1) := by decide +kernel
theorem d_Main_fetch_5 : decode b_Main_fetch 5 = .ok (.invokevirtual 94, 3) := by decide +kernel
theorem d_Main_fetch_8 : decode b_Main_fetch 8 = .ok (.iconst (-1), 1) := by decide +kernel
theorem d_Main_fetch_9 : decode b_Main_fetch 9 = .ok (.if_icmp .ne 15, 3) := by decide +kernel
theorem d_Main_fetch_12 : decode b_Main_fetch 12 = .ok (.aload_n 0, 1) := by decide +kernel
theorem d_Main_fetch_13 : decode b_Main_fetch 13 = .ok (.getfield 29, 3) := by decide +kernel
theorem d_Main_fetch_16 : decode b_Main_fetch 16 = .ok (.iload_n 1, 1) := by decide +kernel
theorem d_Main_fetch_17 : decode b_Main_fetch 17 = .ok (.invokevirtual 101, 3) := by decide +kernel
theorem d_Main_fetch_20 : decode b_Main_fetch 20 = .ok (.iconst (-1), 1) := by decide +kernel
theorem d_Main_fetch_21 : decode b_Main_fetch 21 = .ok (.if_icmp .eq 16, 3) := by decide +kernel
theorem d_Main_fetch_24 : decode b_Main_fetch 24 = .ok (.aload_n 0, 1) := by decide +kernel
theorem d_Main_fetch_25 : decode b_Main_fetch 25 = .ok (.dup, 1) := by decide +kernel
theorem d_Main_fetch_26 : decode b_Main_fetch 26 = .ok (.getfield 140, 3) := by decide +kernel
theorem d_Main_fetch_29 : decode b_Main_fetch 29 = .ok (.iconst 1, 1) := by decide +kernel
theorem d_Main_fetch_30 : decode b_Main_fetch 30 = .ok (.iadd, 1) := by decide +kernel
theorem d_Main_fetch_31 : decode b_Main_fetch 31 = .ok (.putfield 140, 3) := by decide +kernel
theorem d_Main_fetch_34 : decode b_Main_fetch 34 = .ok (.goto 53, 3) := by decide +kernel
theorem d_Main_fetch_37 : decode b_Main_fetch 37 = .ok (.aload_n 0, 1) := by decide +kernel
theorem d_Main_fetch_38 : decode b_Main_fetch 38 = .ok (.getfield 29, 3) := by decide +kernel
theorem d_Main_fetch_41 : decode b_Main_fetch 41 = .ok (.invokevirtual 193, 3) := by decide +kernel
theorem d_Main_fetch_44 : decode b_Main_fetch 44 = .ok (.ifCond .eq 16, 3) := by decide +kernel
theorem d_Main_fetch_47 : decode b_Main_fetch 47 = .ok (.aload_n 0, 1) := by decide +kernel
theorem d_Main_fetch_48 : decode b_Main_fetch 48 = .ok (.dup, 1) := by decide +kernel
theorem d_Main_fetch_49 : decode b_Main_fetch 49 = .ok (.getfield 143, 3) := by decide +kernel
theorem d_Main_fetch_52 : decode b_Main_fetch 52 = .ok (.iconst 1, 1) := by decide +kernel
theorem d_Main_fetch_53 : decode b_Main_fetch 53 = .ok (.iadd, 1) := by decide +kernel
theorem d_Main_fetch_54 : decode b_Main_fetch 54 = .ok (.putfield 143, 3) := by decide +kernel
theorem d_Main_fetch_57 : decode b_Main_fetch 57 = .ok (.goto 30, 3) := by decide +kernel
theorem d_Main_fetch_60 : decode b_Main_fetch 60 = .ok (.aload_n 0, 1) := by decide +kernel
theorem d_Main_fetch_61 : decode b_Main_fetch 61 = .ok (.getfield 29, 3) := by decide +kernel
theorem d_Main_fetch_64 : decode b_Main_fetch 64 = .ok (.iload_n 1, 1) := by decide +kernel
theorem d_Main_fetch_65 : decode b_Main_fetch 65 = .ok (.aload_n 0, 1) := by decide +kernel
theorem d_Main_fetch_66 : decode b_Main_fetch 66 = .ok (.getfield 119, 3) := by decide +kernel
theorem d_Main_fetch_69 : decode b_Main_fetch 69 = .ok (.aload_n 0, 1) := by decide +kernel
theorem d_Main_fetch_70 : decode b_Main_fetch 70 = .ok (.getfield 13, 3) := by decide +kernel
theorem d_Main_fetch_73 : decode b_Main_fetch 73 = .ok (.iadd, 1) := by decide +kernel
theorem d_Main_fetch_74 : decode b_Main_fetch 74 = .ok (.invokevirtual 194, 3) := by decide +kernel
theorem d_Main_fetch_77 : decode b_Main_fetch 77 = .ok (.aload_n 0, 1) := by decide +kernel
theorem d_Main_fetch_78 : decode b_Main_fetch 78 = .ok (.dup, 1) := by decide +kernel
theorem d_Main_fetch_79 : decode b_Main_fetch 79 = .ok (.getfield 146, 3) := by decide +kernel
theorem d_Main_fetch_82 : decode b_Main_fetch 82 = .ok (.iconst 1, 1) := by decide +kernel
theorem d_Main_fetch_83 : decode b_Main_fetch 83 = .ok (.iadd, 1) := by decide +kernel
theorem d_Main_fetch_84 : decode b_Main_fetch 84 = .ok (.putfield 146, 3) := by decide +kernel
theorem d_Main_fetch_87 : decode b_Main_fetch 87 = .ok (.return_, 1) := by decide +kernel
theorem d_Main_finish_0 : decode b_Main_finish 0 = .ok (.aload_n 0, 1) := by decide +kernel
theorem d_Main_finish_1 : decode b_Main_finish 1 = .ok (.getfield 29, 3) := by decide +kernel
theorem d_Main_finish_4 : decode b_Main_finish 4 = .ok (.invokevirtual 79, 3) := by decide +kernel
theorem d_Main_finish_7 : decode b_Main_finish 7 = .ok (.aload_n 0, 1) := by decide +kernel
theorem d_Main_finish_8 : decode b_Main_finish 8 = .ok (.getfield 22, 3) := by decide +kernel
theorem d_Main_finish_11 : decode b_Main_finish 11 = .ok (.invokevirtual 82, 3) := by decide +kernel
theorem d_Main_finish_14 : decode b_Main_finish 14 = .ok (.iadd, 1) := by decide +kernel
theorem d_Main_finish_15 : decode b_Main_finish 15 = .ok (.istore_n 1, 1) := by decide +kernel
theorem d_Main_finish_16 : decode b_Main_finish 16 = .ok (.aload_n 0, 1) := by decide +kernel
theorem d_Main_finish_17 : decode b_Main_finish 17 = .ok (.getfield 29, 3) := by decide +kernel
theorem d_Main_finish_20 : decode b_Main_finish 20 = .ok (.invokevirtual 85, 3) := by decide +kernel
theorem d_Main_finish_23 : decode b_Main_finish 23 = .ok (.aload_n 0, 1) := by decide +kernel
theorem d_Main_finish_24 : decode b_Main_finish 24 = .ok (.getfield 22, 3) := by decide +kernel
theorem d_Main_finish_27 : decode b_Main_finish 27 = .ok (.invokevirtual 88, 3) := by decide +kernel
theorem d_Main_finish_30 : decode b_Main_finish 30 = .ok (.aload_n 0, 1) := by decide +kernel
theorem d_Main_finish_31 : decode b_Main_finish 31 = .ok (.dup, 1) := by decide +kernel
theorem d_Main_finish_32 : decode b_Main_finish 32 = .ok (.getfield 91, 3) := by decide +kernel
theorem d_Main_finish_35 : decode b_Main_finish 35 = .ok (.iload_n 1, 1) := by decide +kernel
theorem d_Main_finish_36 : decode b_Main_finish 36 = .ok (.iadd, 1) := by decide +kernel
theorem d_Main_finish_37 : decode b_Main_finish 37 = .ok (.putfield 91, 3) := by decide +kernel
theorem d_Main_finish_40 : decode b_Main_finish 40 = .ok (.iload_n 1, 1) := by decide +kernel
theorem d_Main_finish_41 : decode b_Main_finish 41 = .ok (.ireturn, 1) := by decide +kernel
theorem d_Main_hit_0 : decode b_Main_hit 0 = .ok (.aload_n 0, 1) := by decide +kernel
theorem d_Main_hit_1 : decode b_Main_hit 1 = .ok (.dup, 1) := by decide +kernel
theorem d_Main_hit_2 : decode b_Main_hit 2 = .ok (.getfield 128, 3) := by decide +kernel
theorem d_Main_hit_5 : decode b_Main_hit 5 = .ok (.iconst 1, 1) := by decide +kernel
theorem d_Main_hit_6 : decode b_Main_hit 6 = .ok (.iadd, 1) := by decide +kernel
theorem d_Main_hit_7 : decode b_Main_hit 7 = .ok (.putfield 128, 3) := by decide +kernel
theorem d_Main_hit_10 : decode b_Main_hit 10 = .ok (.aload_n 0, 1) := by decide +kernel
theorem d_Main_hit_11 : decode b_Main_hit 11 = .ok (.getfield 22, 3) := by decide +kernel
theorem d_Main_hit_14 : decode b_Main_hit 14 = .ok (.iload_n 1, 1) := by decide +kernel
theorem d_Main_hit_15 : decode b_Main_hit 15 = .ok (.invokevirtual 97, 3) := by decide +kernel
theorem d_Main_hit_18 : decode b_Main_hit 18 = .ok (.ifCond .eq 13, 3) := by decide +kernel
theorem d_Main_hit_21 : decode b_Main_hit 21 = .ok (.aload_n 0, 1) := by decide +kernel
theorem d_Main_hit_22 : decode b_Main_hit 22 = .ok (.dup, 1) := by decide +kernel
theorem d_Main_hit_23 : decode b_Main_hit 23 = .ok (.getfield 137, 3) := by decide +kernel
theorem d_Main_hit_26 : decode b_Main_hit 26 = .ok (.iconst 1, 1) := by decide +kernel
theorem d_Main_hit_27 : decode b_Main_hit 27 = .ok (.iadd, 1) := by decide +kernel
theorem d_Main_hit_28 : decode b_Main_hit 28 = .ok (.putfield 137, 3) := by decide +kernel
theorem d_Main_hit_31 : decode b_Main_hit 31 = .ok (.aload_n 0, 1) := by decide +kernel
theorem d_Main_hit_32 : decode b_Main_hit 32 = .ok (.getfield 22, 3) := by decide +kernel
theorem d_Main_hit_35 : decode b_Main_hit 35 = .ok (.iload_n 1, 1) := by decide +kernel
theorem d_Main_hit_36 : decode b_Main_hit 36 = .ok (.invokevirtual 190, 3) := by decide +kernel
theorem d_Main_hit_39 : decode b_Main_hit 39 = .ok (.return_, 1) := by decide +kernel
theorem d_Main_indexOf_0 : decode b_Main_indexOf 0 = .ok (.iconst 0, 1) := by decide +kernel
theorem d_Main_indexOf_1 : decode b_Main_indexOf 1 = .ok (.istore_n 3, 1) := by decide +kernel
theorem d_Main_indexOf_2 : decode b_Main_indexOf 2 = .ok (.iload_n 3, 1) := by decide +kernel
theorem d_Main_indexOf_3 : decode b_Main_indexOf 3 = .ok (.iload_n 2, 1) := by decide +kernel
theorem d_Main_indexOf_4 : decode b_Main_indexOf 4 = .ok (.if_icmp .ge 24, 3) := by decide +kernel
theorem d_Main_indexOf_7 : decode b_Main_indexOf 7 = .ok (.iload_n 3, 1) := by decide +kernel
theorem d_Main_indexOf_8 : decode b_Main_indexOf 8 = .ok (.aload_n 1, 1) := by decide +kernel
theorem d_Main_indexOf_9 : decode b_Main_indexOf 9 = .ok (.arraylength, 1) := by decide +kernel
theorem d_Main_indexOf_10 : decode b_Main_indexOf 10 = .ok (.if_icmp .ge 18, 3) := by decide +kernel
theorem d_Main_indexOf_13 : decode b_Main_indexOf 13 = .ok (.aload_n 1, 1) := by decide +kernel
theorem d_Main_indexOf_14 : decode b_Main_indexOf 14 = .ok (.iload_n 3, 1) := by decide +kernel
theorem d_Main_indexOf_15 : decode b_Main_indexOf 15 = .ok (.iaload, 1) := by decide +kernel
theorem d_Main_indexOf_16 : decode b_Main_indexOf 16 = .ok (.iload_n 0, 1) := by decide +kernel
theorem d_Main_indexOf_17 : decode b_Main_indexOf 17 = .ok (.if_icmp .ne 5, 3) := by decide +kernel
theorem d_Main_indexOf_20 : decode b_Main_indexOf 20 = .ok (.iload_n 3, 1) := by decide +kernel
theorem d_Main_indexOf_21 : decode b_Main_indexOf 21 = .ok (.ireturn, 1) := by decide +kernel
theorem d_Main_indexOf_22 : decode b_Main_indexOf 22 = .ok (.iinc 3 1, 3) := by decide +kernel
theorem d_Main_indexOf_25 : decode b_Main_indexOf 25 = .ok (.goto (-23), 3) := by decide +kernel
theorem d_Main_indexOf_28 : decode b_Main_indexOf 28 = .ok (.iconst (-1), 1) := by decide +kernel
theorem d_Main_indexOf_29 : decode b_Main_indexOf 29 = .ok (.ireturn, 1) := by decide +kernel
theorem d_Main_known_0 : decode b_Main_known 0 = .ok (.aload_n 0, 1) := by decide +kernel
theorem d_Main_known_1 : decode b_Main_known 1 = .ok (.getfield 42, 3) := by decide +kernel
theorem d_Main_known_4 : decode b_Main_known 4 = .ok (.iload_n 1, 1) := by decide +kernel
theorem d_Main_known_5 : decode b_Main_known 5 = .ok (.invokevirtual 122, 3) := by decide +kernel
theorem d_Main_known_8 : decode b_Main_known 8 = .ok (.ireturn, 1) := by decide +kernel
theorem d_Main_nextCycle_0 : decode b_Main_nextCycle 0 = .ok (.aload_n 0, 1) := by decide +kernel
theorem d_Main_nextCycle_1 : decode b_Main_nextCycle 1 = .ok (.dup, 1) := by decide +kernel
theorem d_Main_nextCycle_2 : decode b_Main_nextCycle 2 = .ok (.getfield 119, 3) := by decide +kernel
theorem d_Main_nextCycle_5 : decode b_Main_nextCycle 5 = .ok (.iconst 1, 1) := by decide +kernel
theorem d_Main_nextCycle_6 : decode b_Main_nextCycle 6 = .ok (.iadd, 1) := by decide +kernel
theorem d_Main_nextCycle_7 : decode b_Main_nextCycle 7 = .ok (.putfield 119, 3) := by decide +kernel
theorem d_Main_nextCycle_10 : decode b_Main_nextCycle 10 = .ok (.iconst 0, 1) := by decide +kernel
theorem d_Main_nextCycle_11 : decode b_Main_nextCycle 11 = .ok (.istore_n 1, 1) := by decide +kernel
theorem d_Main_nextCycle_12 : decode b_Main_nextCycle 12 = .ok (.iconst 0, 1) := by decide +kernel
theorem d_Main_nextCycle_13 : decode b_Main_nextCycle 13 = .ok (.istore_n 2, 1) := by decide +kernel
theorem d_Main_nextCycle_14 : decode b_Main_nextCycle 14 = .ok (.iload_n 2, 1) := by decide +kernel
theorem d_Main_nextCycle_15 : decode b_Main_nextCycle 15 = .ok (.bipush 8, 2) := by decide +kernel
theorem d_Main_nextCycle_17 : decode b_Main_nextCycle 17 = .ok (.if_icmp .ge 47, 3) := by decide +kernel
theorem d_Main_nextCycle_20 : decode b_Main_nextCycle 20 = .ok (.aload_n 0, 1) := by decide +kernel
theorem d_Main_nextCycle_21 : decode b_Main_nextCycle 21 = .ok (.getfield 29, 3) := by decide +kernel
theorem d_Main_nextCycle_24 : decode b_Main_nextCycle 24 = .ok (.aload_n 0, 1) := by decide +kernel
theorem d_Main_nextCycle_25 : decode b_Main_nextCycle 25 = .ok (.getfield 119, 3) := by decide +kernel
theorem d_Main_nextCycle_28 : decode b_Main_nextCycle 28 = .ok (.invokevirtual 167, 3) := by decide +kernel
theorem d_Main_nextCycle_31 : decode b_Main_nextCycle 31 = .ok (.ifCond .eq 33, 3) := by decide +kernel
theorem d_Main_nextCycle_34 : decode b_Main_nextCycle 34 = .ok (.aload_n 0, 1) := by decide +kernel
theorem d_Main_nextCycle_35 : decode b_Main_nextCycle 35 = .ok (.aload_n 0, 1) := by decide +kernel
theorem d_Main_nextCycle_36 : decode b_Main_nextCycle 36 = .ok (.getfield 29, 3) := by decide +kernel
theorem d_Main_nextCycle_39 : decode b_Main_nextCycle 39 = .ok (.iconst 0, 1) := by decide +kernel
theorem d_Main_nextCycle_40 : decode b_Main_nextCycle 40 = .ok (.invokevirtual 115, 3) := by decide +kernel
theorem d_Main_nextCycle_43 : decode b_Main_nextCycle 43 = .ok (.iconst 1, 1) := by decide +kernel
theorem d_Main_nextCycle_44 : decode b_Main_nextCycle 44 = .ok (.invokevirtual 170, 3) := by decide +kernel
theorem d_Main_nextCycle_47 : decode b_Main_nextCycle 47 = .ok (.aload_n 0, 1) := by decide +kernel
theorem d_Main_nextCycle_48 : decode b_Main_nextCycle 48 = .ok (.getfield 29, 3) := by decide +kernel
theorem d_Main_nextCycle_51 : decode b_Main_nextCycle 51 = .ok (.iconst 0, 1) := by decide +kernel
theorem d_Main_nextCycle_52 : decode b_Main_nextCycle 52 = .ok (.invokevirtual 174, 3) := by decide +kernel
theorem d_Main_nextCycle_55 : decode b_Main_nextCycle 55 = .ok (.iinc 1 1, 3) := by decide +kernel
theorem d_Main_nextCycle_58 : decode b_Main_nextCycle 58 = .ok (.iinc 2 1, 3) := by decide +kernel
theorem d_Main_nextCycle_61 : decode b_Main_nextCycle 61 = .ok (.goto (-47), 3) := by decide +kernel
theorem d_Main_nextCycle_64 : decode b_Main_nextCycle 64 = .ok (.iload_n 1, 1) := by decide +kernel
theorem d_Main_nextCycle_65 : decode b_Main_nextCycle 65 = .ok (.ireturn, 1) := by decide +kernel
theorem d_Main_oneTo_0 : decode b_Main_oneTo 0 = .ok (.iconst 1, 1) := by decide +kernel
theorem d_Main_oneTo_1 : decode b_Main_oneTo 1 = .ok (.iload_n 1, 1) := by decide +kernel
theorem d_Main_oneTo_2 : decode b_Main_oneTo 2 = .ok (.iconst 1, 1) := by decide +kernel
theorem d_Main_oneTo_3 : decode b_Main_oneTo 3 = .ok (.isub, 1) := by decide +kernel
theorem d_Main_oneTo_4 : decode b_Main_oneTo 4 = .ok (.iload_n 0, 1) := by decide +kernel
theorem d_Main_oneTo_5 : decode b_Main_oneTo 5 = .ok (.invokestatic 33, 3) := by decide +kernel
theorem d_Main_oneTo_8 : decode b_Main_oneTo 8 = .ok (.iadd, 1) := by decide +kernel
theorem d_Main_oneTo_9 : decode b_Main_oneTo 9 = .ok (.ireturn, 1) := by decide +kernel
theorem d_Main_pass_0 : decode b_Main_pass 0 = .ok (.iload_n 1, 1) := by decide +kernel
theorem d_Main_pass_1 : decode b_Main_pass 1 = .ok (.iconst 1, 1) := by decide +kernel
theorem d_Main_pass_2 : decode b_Main_pass 2 = .ok (.if_icmp .lt 9, 3) := by decide +kernel
theorem d_Main_pass_5 : decode b_Main_pass 5 = .ok (.iload_n 1, 1) := by decide +kernel
theorem d_Main_pass_6 : decode b_Main_pass 6 = .ok (.bipush 100, 2) := by decide +kernel
theorem d_Main_pass_8 : decode b_Main_pass 8 = .ok (.if_icmp .le 13, 3) := by decide +kernel
theorem d_Main_pass_11 : decode b_Main_pass 11 = .ok (.new 72, 3) := by decide +kernel
theorem d_Main_pass_14 : decode b_Main_pass 14 = .ok (.dup, 1) := by decide +kernel
theorem d_Main_pass_15 : decode b_Main_pass 15 = .ok (.ldc 74, 2) := by decide +kernel
theorem d_Main_pass_17 : decode b_Main_pass 17 = .ok (.invokespecial 76, 3) := by decide +kernel
theorem d_Main_pass_20 : decode b_Main_pass 20 = .ok (.athrow, 1) := by decide +kernel
theorem d_Main_pass_21 : decode b_Main_pass 21 = .ok (.iconst 0, 1) := by decide +kernel
theorem d_Main_pass_22 : decode b_Main_pass 22 = .ok (.istore_n 2, 1) := by decide +kernel
theorem d_Main_pass_23 : decode b_Main_pass 23 = .ok (.iconst 0, 1) := by decide +kernel
theorem d_Main_pass_24 : decode b_Main_pass 24 = .ok (.istore_n 3, 1) := by decide +kernel
theorem d_Main_pass_25 : decode b_Main_pass 25 = .ok (.iload_n 3, 1) := by decide +kernel
theorem d_Main_pass_26 : decode b_Main_pass 26 = .ok (.iload_n 1, 1) := by decide +kernel
theorem d_Main_pass_27 : decode b_Main_pass 27 = .ok (.if_icmp .ge 16, 3) := by decide +kernel
theorem d_Main_pass_30 : decode b_Main_pass 30 = .ok (.iload_n 2, 1) := by decide +kernel
theorem d_Main_pass_31 : decode b_Main_pass 31 = .ok (.aload_n 0, 1) := by decide +kernel
theorem d_Main_pass_32 : decode b_Main_pass 32 = .ok (.invokevirtual 49, 3) := by decide +kernel
theorem d_Main_pass_35 : decode b_Main_pass 35 = .ok (.iadd, 1) := by decide +kernel
theorem d_Main_pass_36 : decode b_Main_pass 36 = .ok (.istore_n 2, 1) := by decide +kernel
theorem d_Main_pass_37 : decode b_Main_pass 37 = .ok (.iinc 3 1, 3) := by decide +kernel
theorem d_Main_pass_40 : decode b_Main_pass 40 = .ok (.goto (-15), 3) := by decide +kernel
theorem d_Main_pass_43 : decode b_Main_pass 43 = .ok (.iload_n 2, 1) := by decide +kernel
theorem d_Main_pass_44 : decode b_Main_pass 44 = .ok (.ireturn, 1) := by decide +kernel
theorem d_Main_queued_0 : decode b_Main_queued 0 = .ok (.iload_n 1, 1) := by decide +kernel
theorem d_Main_queued_1 : decode b_Main_queued 1 = .ok (.ifCond .lt 14, 3) := by decide +kernel
theorem d_Main_queued_4 : decode b_Main_queued 4 = .ok (.iload_n 1, 1) := by decide +kernel
theorem d_Main_queued_5 : decode b_Main_queued 5 = .ok (.aload_n 0, 1) := by decide +kernel
theorem d_Main_queued_6 : decode b_Main_queued 6 = .ok (.getfield 29, 3) := by decide +kernel
theorem d_Main_queued_9 : decode b_Main_queued 9 = .ok (.invokevirtual 79, 3) := by decide +kernel
theorem d_Main_queued_12 : decode b_Main_queued 12 = .ok (.if_icmp .lt 13, 3) := by decide +kernel
theorem d_Main_queued_15 : decode b_Main_queued 15 = .ok (.new 103, 3) := by decide +kernel
theorem d_Main_queued_18 : decode b_Main_queued 18 = .ok (.dup, 1) := by decide +kernel
theorem d_Main_queued_19 : decode b_Main_queued 19 = .ok (.ldc 111, 2) := by decide +kernel
theorem d_Main_queued_21 : decode b_Main_queued 21 = .ok (.invokespecial 107, 3) := by decide +kernel
theorem d_Main_queued_24 : decode b_Main_queued 24 = .ok (.athrow, 1) := by decide +kernel
theorem d_Main_queued_25 : decode b_Main_queued 25 = .ok (.iload_n 2, 1) := by decide +kernel
theorem d_Main_queued_26 : decode b_Main_queued 26 = .ok (.ifCond .eq 18, 3) := by decide +kernel
theorem d_Main_queued_29 : decode b_Main_queued 29 = .ok (.iload_n 2, 1) := by decide +kernel
theorem d_Main_queued_30 : decode b_Main_queued 30 = .ok (.iconst 1, 1) := by decide +kernel
theorem d_Main_queued_31 : decode b_Main_queued 31 = .ok (.if_icmp .eq 13, 3) := by decide +kernel
theorem d_Main_queued_34 : decode b_Main_queued 34 = .ok (.new 103, 3) := by decide +kernel
theorem d_Main_queued_37 : decode b_Main_queued 37 = .ok (.dup, 1) := by decide +kernel
theorem d_Main_queued_38 : decode b_Main_queued 38 = .ok (.ldc 113, 2) := by decide +kernel
theorem d_Main_queued_40 : decode b_Main_queued 40 = .ok (.invokespecial 107, 3) := by decide +kernel
theorem d_Main_queued_43 : decode b_Main_queued 43 = .ok (.athrow, 1) := by decide +kernel
theorem d_Main_queued_44 : decode b_Main_queued 44 = .ok (.iload_n 2, 1) := by decide +kernel
theorem d_Main_queued_45 : decode b_Main_queued 45 = .ok (.ifCond .ne 14, 3) := by decide +kernel
theorem d_Main_queued_48 : decode b_Main_queued 48 = .ok (.aload_n 0, 1) := by decide +kernel
theorem d_Main_queued_49 : decode b_Main_queued 49 = .ok (.getfield 29, 3) := by decide +kernel
theorem d_Main_queued_52 : decode b_Main_queued 52 = .ok (.iload_n 1, 1) := by decide +kernel
theorem d_Main_queued_53 : decode b_Main_queued 53 = .ok (.invokevirtual 115, 3) := by decide +kernel
theorem d_Main_queued_56 : decode b_Main_queued 56 = .ok (.goto 16, 3) := by decide +kernel
theorem d_Main_queued_59 : decode b_Main_queued 59 = .ok (.aload_n 0, 1) := by decide +kernel
theorem d_Main_queued_60 : decode b_Main_queued 60 = .ok (.getfield 29, 3) := by decide +kernel
theorem d_Main_queued_63 : decode b_Main_queued 63 = .ok (.iload_n 1, 1) := by decide +kernel
theorem d_Main_queued_64 : decode b_Main_queued 64 = .ok (.invokevirtual 116, 3) := by decide +kernel
theorem d_Main_queued_67 : decode b_Main_queued 67 = .ok (.aload_n 0, 1) := by decide +kernel
theorem d_Main_queued_68 : decode b_Main_queued 68 = .ok (.getfield 119, 3) := by decide +kernel
theorem d_Main_queued_71 : decode b_Main_queued 71 = .ok (.isub, 1) := by decide +kernel
theorem d_Main_queued_72 : decode b_Main_queued 72 = .ok (.ireturn, 1) := by decide +kernel
theorem d_Main_ruleOf_0 : decode b_Main_ruleOf 0 = .ok (.iload_n 0, 1) := by decide +kernel
theorem d_Main_ruleOf_1 : decode b_Main_ruleOf 1 = .ok (.tableswitch 67 1 4 #[31, 40, 49, 58], 31) := by decide +kernel
theorem d_Main_ruleOf_32 : decode b_Main_ruleOf 32 = .ok (.new 152, 3) := by decide +kernel
theorem d_Main_ruleOf_35 : decode b_Main_ruleOf 35 = .ok (.dup, 1) := by decide +kernel
theorem d_Main_ruleOf_36 : decode b_Main_ruleOf 36 = .ok (.iload_n 1, 1) := by decide +kernel
theorem d_Main_ruleOf_37 : decode b_Main_ruleOf 37 = .ok (.invokespecial 154, 3) := by decide +kernel
theorem d_Main_ruleOf_40 : decode b_Main_ruleOf 40 = .ok (.areturn, 1) := by decide +kernel
theorem d_Main_ruleOf_41 : decode b_Main_ruleOf 41 = .ok (.new 155, 3) := by decide +kernel
theorem d_Main_ruleOf_44 : decode b_Main_ruleOf 44 = .ok (.dup, 1) := by decide +kernel
theorem d_Main_ruleOf_45 : decode b_Main_ruleOf 45 = .ok (.iload_n 1, 1) := by decide +kernel
theorem d_Main_ruleOf_46 : decode b_Main_ruleOf 46 = .ok (.invokespecial 157, 3) := by decide +kernel
theorem d_Main_ruleOf_49 : decode b_Main_ruleOf 49 = .ok (.areturn, 1) := by decide +kernel
theorem d_Main_ruleOf_50 : decode b_Main_ruleOf 50 = .ok (.new 158, 3) := by decide +kernel
theorem d_Main_ruleOf_53 : decode b_Main_ruleOf 53 = .ok (.dup, 1) := by decide +kernel
theorem d_Main_ruleOf_54 : decode b_Main_ruleOf 54 = .ok (.iload_n 1, 1) := by decide +kernel
theorem d_Main_ruleOf_55 : decode b_Main_ruleOf 55 = .ok (.invokespecial 160, 3) := by decide +kernel
theorem d_Main_ruleOf_58 : decode b_Main_ruleOf 58 = .ok (.areturn, 1) := by decide +kernel
theorem d_Main_ruleOf_59 : decode b_Main_ruleOf 59 = .ok (.new 161, 3) := by decide +kernel
theorem d_Main_ruleOf_62 : decode b_Main_ruleOf 62 = .ok (.dup, 1) := by decide +kernel
theorem d_Main_ruleOf_63 : decode b_Main_ruleOf 63 = .ok (.iload_n 1, 1) := by decide +kernel
theorem d_Main_ruleOf_64 : decode b_Main_ruleOf 64 = .ok (.invokespecial 163, 3) := by decide +kernel
theorem d_Main_ruleOf_67 : decode b_Main_ruleOf 67 = .ok (.areturn, 1) := by decide +kernel
theorem d_Main_ruleOf_68 : decode b_Main_ruleOf 68 = .ok (.new 164, 3) := by decide +kernel
theorem d_Main_ruleOf_71 : decode b_Main_ruleOf 71 = .ok (.dup, 1) := by decide +kernel
theorem d_Main_ruleOf_72 : decode b_Main_ruleOf 72 = .ok (.iload_n 1, 1) := by decide +kernel
theorem d_Main_ruleOf_73 : decode b_Main_ruleOf 73 = .ok (.invokespecial 166, 3) := by decide +kernel
theorem d_Main_ruleOf_76 : decode b_Main_ruleOf 76 = .ok (.areturn, 1) := by decide +kernel
theorem d_Main_state_0 : decode b_Main_state 0 = .ok (.aload_n 0, 1) := by decide +kernel
theorem d_Main_state_1 : decode b_Main_state 1 = .ok (.getfield 22, 3) := by decide +kernel
theorem d_Main_state_4 : decode b_Main_state 4 = .ok (.iload_n 1, 1) := by decide +kernel
theorem d_Main_state_5 : decode b_Main_state 5 = .ok (.invokevirtual 94, 3) := by decide +kernel
theorem d_Main_state_8 : decode b_Main_state 8 = .ok (.istore_n 2, 1) := by decide +kernel
theorem d_Main_state_9 : decode b_Main_state 9 = .ok (.iload_n 2, 1) := by decide +kernel
theorem d_Main_state_10 : decode b_Main_state 10 = .ok (.iconst (-1), 1) := by decide +kernel
theorem d_Main_state_11 : decode b_Main_state 11 = .ok (.if_icmp .eq 20, 3) := by decide +kernel
theorem d_Main_state_14 : decode b_Main_state 14 = .ok (.aload_n 0, 1) := by decide +kernel
theorem d_Main_state_15 : decode b_Main_state 15 = .ok (.getfield 22, 3) := by decide +kernel
theorem d_Main_state_18 : decode b_Main_state 18 = .ok (.iload_n 2, 1) := by decide +kernel
theorem d_Main_state_19 : decode b_Main_state 19 = .ok (.invokevirtual 97, 3) := by decide +kernel
theorem d_Main_state_22 : decode b_Main_state 22 = .ok (.ifCond .eq 7, 3) := by decide +kernel
theorem d_Main_state_25 : decode b_Main_state 25 = .ok (.iconst 2, 1) := by decide +kernel
theorem d_Main_state_26 : decode b_Main_state 26 = .ok (.goto 4, 3) := by decide +kernel
theorem d_Main_state_29 : decode b_Main_state 29 = .ok (.iconst 1, 1) := by decide +kernel
theorem d_Main_state_30 : decode b_Main_state 30 = .ok (.ireturn, 1) := by decide +kernel
theorem d_Main_state_31 : decode b_Main_state 31 = .ok (.aload_n 0, 1) := by decide +kernel
theorem d_Main_state_32 : decode b_Main_state 32 = .ok (.getfield 29, 3) := by decide +kernel
theorem d_Main_state_35 : decode b_Main_state 35 = .ok (.iload_n 1, 1) := by decide +kernel
theorem d_Main_state_36 : decode b_Main_state 36 = .ok (.invokevirtual 101, 3) := by decide +kernel
theorem d_Main_state_39 : decode b_Main_state 39 = .ok (.iconst (-1), 1) := by decide +kernel
theorem d_Main_state_40 : decode b_Main_state 40 = .ok (.if_icmp .eq 7, 3) := by decide +kernel
theorem d_Main_state_43 : decode b_Main_state 43 = .ok (.iconst 3, 1) := by decide +kernel
theorem d_Main_state_44 : decode b_Main_state 44 = .ok (.goto 4, 3) := by decide +kernel
theorem d_Main_state_47 : decode b_Main_state 47 = .ok (.iconst 0, 1) := by decide +kernel
theorem d_Main_state_48 : decode b_Main_state 48 = .ok (.ireturn, 1) := by decide +kernel
theorem d_Main_stored_0 : decode b_Main_stored 0 = .ok (.iload_n 1, 1) := by decide +kernel
theorem d_Main_stored_1 : decode b_Main_stored 1 = .ok (.ifCond .lt 14, 3) := by decide +kernel
theorem d_Main_stored_4 : decode b_Main_stored 4 = .ok (.iload_n 1, 1) := by decide +kernel
theorem d_Main_stored_5 : decode b_Main_stored 5 = .ok (.aload_n 0, 1) := by decide +kernel
theorem d_Main_stored_6 : decode b_Main_stored 6 = .ok (.getfield 22, 3) := by decide +kernel
theorem d_Main_stored_9 : decode b_Main_stored 9 = .ok (.invokevirtual 102, 3) := by decide +kernel
theorem d_Main_stored_12 : decode b_Main_stored 12 = .ok (.if_icmp .lt 13, 3) := by decide +kernel
theorem d_Main_stored_15 : decode b_Main_stored 15 = .ok (.new 103, 3) := by decide +kernel
theorem d_Main_stored_18 : decode b_Main_stored 18 = .ok (.dup, 1) := by decide +kernel
theorem d_Main_stored_19 : decode b_Main_stored 19 = .ok (.ldc 105, 2) := by decide +kernel
theorem d_Main_stored_21 : decode b_Main_stored 21 = .ok (.invokespecial 107, 3) := by decide +kernel
theorem d_Main_stored_24 : decode b_Main_stored 24 = .ok (.athrow, 1) := by decide +kernel
theorem d_Main_stored_25 : decode b_Main_stored 25 = .ok (.aload_n 0, 1) := by decide +kernel
theorem d_Main_stored_26 : decode b_Main_stored 26 = .ok (.getfield 22, 3) := by decide +kernel
theorem d_Main_stored_29 : decode b_Main_stored 29 = .ok (.iload_n 1, 1) := by decide +kernel
theorem d_Main_stored_30 : decode b_Main_stored 30 = .ok (.invokevirtual 108, 3) := by decide +kernel
theorem d_Main_stored_33 : decode b_Main_stored 33 = .ok (.ireturn, 1) := by decide +kernel
theorem d_Main_trust_0 : decode b_Main_trust 0 = .ok (.aload_n 0, 1) := by decide +kernel
theorem d_Main_trust_1 : decode b_Main_trust 1 = .ok (.getfield 42, 3) := by decide +kernel
theorem d_Main_trust_4 : decode b_Main_trust 4 = .ok (.iload_n 1, 1) := by decide +kernel
theorem d_Main_trust_5 : decode b_Main_trust 5 = .ok (.invokevirtual 125, 3) := by decide +kernel
theorem d_Main_trust_8 : decode b_Main_trust 8 = .ok (.ireturn, 1) := by decide +kernel
end
section
abbrev sg_arr : Type := (Nat → Int32)
abbrev sg_store : Type := Int32 × (Nat → Int32) × (Nat → Int32)
abbrev sg_queue : Type := Int32 × (Nat → Int32) × (Nat → Int32)
abbrev sg_rule : Type := Int32 × (Nat → Int32)
abbrev sg_next : Type := Int32 × (Nat → Int32)
abbrev sg_strides : Type := Int32 × (Nat → Int32) × (Nat → Int32) × (Nat → Int32) × (Nat → Int32) × (Nat → Int32) × (Nat → Int32)
abbrev sg_streams : Type := Int32 × (Nat → Int32) × (Nat → Int32) × (Nat → Int32) × Int32
abbrev sg_offsets : Type := Int32 × (Nat → Int32) × (Nat → Int32) × Int32 × Int32 × (Nat → Int32) × Int32 × Int32 × Int32 × Int32
abbrev sg_pairs : Type := Int32 × (Nat → Int32) × (Nat → Int32) × (Nat → Int32) × (Nat → Int32) × (Nat → Int32) × (Nat → Int32) × Int32 × Int32
abbrev sg_main : Type := (Int32 × Int32 × Int32 × Int32 × Int32 × Int32 × Int32 × Int32 × Int32 × Int32) × (Int32 × (Nat → Int32) × (Nat → Int32)) × (Int32 × (Nat → Int32) × (Nat → Int32))
abbrev RS : Type := sg_next ⊕ sg_strides ⊕ sg_streams ⊕ sg_offsets ⊕ sg_pairs
abbrev sg_mainp : Type := (Int32 × Int32 × Int32 × Int32 × Int32 × Int32 × Int32 × Int32 × Int32 × Int32) × (Int32 × (Nat → Int32) × (Nat → Int32)) × (Int32 × (Nat → Int32) × (Nat → Int32)) × RS
end
section
/-! Math_floorMod -/
def f_Math_floorMod (p0 : Int32) (p1 : Int32) : Option (Int32) := (if p1 = 0 then none else (if 0 ≤ (p0 ^^^ p1) then some (p0 - p0 / p1 * p1) else (if (p0 - p0 / p1 * p1) = 0 then some (p0 - p0 / p1 * p1) else some ((p0 - p0 / p1 * p1) + p1))))
def rm_Math_floorMod : Room := { frames := 0, cells := 0, slots := 0, locals := 0 }
set_option maxRecDepth 100000 in
set_option maxHeartbeats 4000000 in
theorem c_Math_floorMod (l : Launch) (G : kx_G) (p0 : Int32) (p1 : Int32) (v : Int32) (hF : f_Math_floorMod p0 p1 = some v) : CtI l y_Math_floorMod b_Math_floorMod 3 (some .int) rm_Math_floorMod G [.int p0, .int p1] [] (fun (r : Int32) (_ : Unit) => v = r) (fun _ => []) 0 0 := by
  refine CtI.ofF (by decide +kernel) (Nat.le_of_ble_eq_true rfl) [(0, .int p0), (1, .int p1)] rfl ?_
  intro p e s m args below meth c A ls Q hQ S hr hlocks F w hl
  have S : CallFix p m c b_Math_floorMod 3 s args kx_T "java/lang/Math" := S
  obtain ⟨hx, hb, hml, hown, hts⟩ := id S
  have w : kx_W G A s ([] ++ []) s.heap [] := w
  unfold f_Math_floorMod at hF
  refine lv_iload_n hx hb d_Math_floorMod_0 rfl (lv_at hl 0 rfl) ?_
  refine lv_iload_n hx hb d_Math_floorMod_1 rfl (lv_at hl 1 rfl) ?_
  obtain ⟨hz2, hF⟩ := kx_nz hF
  refine lv_irem hx hb d_Math_floorMod_2 hz2 ?_
  refine lv_istore_n (lv' := [(2, .int (p0 - p0 / p1 * p1)), (0, .int p0), (1, .int p1)]) hx hb d_Math_floorMod_3 rfl hl (by decide) rfl (fun ls hl => ?_)
  refine lv_iload_n hx hb d_Math_floorMod_4 rfl (lv_at hl 1 rfl) ?_
  refine lv_iload_n hx hb d_Math_floorMod_5 rfl (lv_at hl 2 rfl) ?_
  refine lv_ixor hx hb d_Math_floorMod_6 ?_
  refine lv_if_ge (tgt := 18) hx hb d_Math_floorMod_7 (by decide) (fun c7 => ?_) (fun c7 => ?_)
  · have hF := kx_t c7 hF
    refine lv_iload_n hx hb d_Math_floorMod_18 rfl (lv_at hl 0 rfl) ?_
    obtain rfl := Option.some.inj hF
    exact kx_iret hQ S hr hlocks w (xo := []) [] rfl rfl () rfl rfl d_Math_floorMod_19
  · have hF := kx_f c7 hF
    refine lv_iload_n hx hb d_Math_floorMod_10 rfl (lv_at hl 0 rfl) ?_
    refine lv_if_eq (tgt := 18) hx hb d_Math_floorMod_11 (by decide) (fun c11 => ?_) (fun c11 => ?_)
    · have hF := kx_t c11 hF
      refine lv_iload_n hx hb d_Math_floorMod_18 rfl (lv_at hl 0 rfl) ?_
      obtain rfl := Option.some.inj hF
      exact kx_iret hQ S hr hlocks w (xo := []) [] rfl rfl () rfl rfl d_Math_floorMod_19
    · have hF := kx_f c11 hF
      refine lv_iload_n hx hb d_Math_floorMod_14 rfl (lv_at hl 0 rfl) ?_
      refine lv_iload_n hx hb d_Math_floorMod_15 rfl (lv_at hl 2 rfl) ?_
      refine lv_iadd hx hb d_Math_floorMod_16 ?_
      obtain rfl := Option.some.inj hF
      exact kx_iret hQ S hr hlocks w (xo := []) [] rfl rfl () rfl rfl d_Math_floorMod_17
/-! Main_oneTo -/
def f_Main_oneTo (p0 : Int32) (p1 : Int32) : Option (Int32) := (f_Math_floorMod (p1 - (1 : Int32)) p0).bind (fun q5 => some ((1 : Int32) + q5))
def rm_Main_oneTo : Room := { frames := 1, cells := 0, slots := 0, locals := 22 }
set_option maxRecDepth 100000 in
set_option maxHeartbeats 4000000 in
theorem c_Main_oneTo (l : Launch) (G : kx_G) (p0 : Int32) (p1 : Int32) (v : Int32) (hF : f_Main_oneTo p0 p1 = some v) : CtI l y_Main_oneTo b_Main_oneTo 2 (some .int) rm_Main_oneTo G [.int p0, .int p1] [] (fun (r : Int32) (_ : Unit) => v = r) (fun _ => []) 0 0 := by
  refine CtI.of (by decide) (Nat.le_of_ble_eq_true rfl) [(0, .int p0), (1, .int p1)] rfl ?_
  intro p e s m args below meth c A ls Q hQ S hr hlocks F w hl
  have S : CallFix p m c b_Main_oneTo 2 s args kx_T "PrefetchRules" := S
  obtain ⟨hx, hb, hml, hown, hts⟩ := id S
  have w : kx_W G A s ([] ++ []) s.heap [] := w
  unfold f_Main_oneTo at hF
  refine lv_iconst (v := (1 : Int32)) hx hb d_Main_oneTo_0 (by decide) ?_
  refine lv_iload_n hx hb d_Main_oneTo_1 rfl (lv_at hl 1 rfl) ?_
  refine lv_iconst (v := (1 : Int32)) hx hb d_Main_oneTo_2 (by decide) ?_
  refine lv_isub hx hb d_Main_oneTo_3 ?_
  refine lv_iload_n hx hb d_Main_oneTo_4 rfl (lv_at hl 0 rfl) ?_
  obtain ⟨q5, hq5, hF⟩ := kx_bd hF
  refine kx_ci (cx := []) (wr := []) F w [] [] rfl rfl rfl (by decide) (va_runS (As := [.int (p1 - (1 : Int32)), .int p0]) (rest := [.int (1 : Int32)]) S (c_Math_floorMod l G (p1 - (1 : Int32)) p0 q5 hq5 _) (kx_cwS S ms_Math_floorMod kw_0 ⟨rfl, rfl, Nat.le_of_ble_eq_true rfl, Nat.le_of_ble_eq_true rfl⟩) ⟨kx_blind _ _ _ _, kx_pre F w [] rfl rfl⟩ rfl rfl hl.1 rfl (lv_room (Nat.le_of_ble_eq_true rfl)) d_Main_oneTo_5 ⟨Nat.le_of_ble_eq_true rfl, Nat.le_of_ble_eq_true rfl⟩) (fun r5 w5 H locs hp w => ?_)
  subst hp
  have w : kx_W G A s ([] ++ []) H locs := w
  refine lv_iadd hx hb d_Main_oneTo_8 ?_
  obtain rfl := Option.some.inj hF
  exact kx_iret hQ S hr hlocks w (xo := []) [] rfl rfl () rfl rfl d_Main_oneTo_9
/-! Main_indexOf -/
def lp_Main_indexOf_2 (n : Nat) (u : sg_arr) : Nat → Int32 → Int32 → Int32 → Option (Int32)
  | 0, _, _, _ => none
  | n2 + 1, x3, x0, x2 => (if x2 ≤ x3 then some (-1 : Int32) else (if (nI n) ≤ x3 then some (-1 : Int32) else (if (x3 < 0 ∨ n ≤ x3.toNatClampNeg) then none else (if (u x3.toNatClampNeg) = x0 then some x3 else lp_Main_indexOf_2 n u n2 (x3 + 1) x0 x2))))
def f_Main_indexOf (n : Nat) (u : sg_arr) (p0 : Int32) (p2 : Int32) : Option (Int32) := lp_Main_indexOf_2 n u 1000 (0 : Int32) p0 p2
def rm_Main_indexOf : Room := { frames := 0, cells := 0, slots := 0, locals := 0 }
set_option maxRecDepth 100000 in
set_option maxHeartbeats 4000000 in
theorem c_Main_indexOf (l : Launch) (G : kx_G) (a : Nat) (n : Nat) (u : sg_arr) (p0 : Int32) (p2 : Int32) (v : Int32) (hF : f_Main_indexOf n u p0 p2 = some v) : CtI l y_Main_indexOf b_Main_indexOf 4 (some .int) rm_Main_indexOf G [.int p0, .ref a, .int p2] [(a, .inl (G.2 0, n, .inl u))] (fun (r : Int32) (_ : Unit) => v = r) (fun _ => [(a, .inl (G.2 0, n, .inl u))]) 0 0 := by
  refine CtI.of (by decide) (Nat.le_of_ble_eq_true rfl) [(0, .int p0), (1, .ref a), (2, .int p2)] rfl ?_
  intro p e s m args below meth c A ls Q hQ S hr hlocks F w hl
  have S : CallFix p m c b_Main_indexOf 4 s args kx_T "PrefetchRules" := S
  obtain ⟨hx, hb, hml, hown, hts⟩ := id S
  have w : kx_W G A s ([(a, .inl (G.2 0, n, .inl u))] ++ []) s.heap [] := w
  unfold f_Main_indexOf at hF
  refine lv_iconst (v := (0 : Int32)) hx hb d_Main_indexOf_0 (by decide) ?_
  refine lv_istore_n (lv' := [(3, .int (0 : Int32)), (0, .int p0), (1, .ref a), (2, .int p2)]) hx hb d_Main_indexOf_1 rfl hl (by decide) rfl (fun ls hl => ?_)
  have L2 : ∀ (n2 : Nat) (x3 : Int32) (x0 : Int32) (x2 : Int32), lp_Main_indexOf_2 n u n2 x3 x0 x2 = some v → ∀ (H : Heap) (locs : List Loc) (ls : Array Slot), kx_W G A s ([(a, .inl (G.2 0, n, .inl u))] ++ []) H locs → lv_has ls 4 [(3, .int x3), (0, .int x0), (1, .ref a), (2, .int x2)] → W p l e rm_Main_indexOf s m args below meth c H locs 0 0 Q (F0 m 2 ls []) := by
    intro n2
    induction n2 with
    | zero =>
      intro x3 x0 x2 hF
      rw [lp_Main_indexOf_2] at hF
      cases hF
    | succ n2 ih2 =>
      intro x3 x0 x2 hF H locs ls w hl
      rw [lp_Main_indexOf_2] at hF
      refine lv_iload_n hx hb d_Main_indexOf_2 rfl (lv_at hl 0 rfl) ?_
      refine lv_iload_n hx hb d_Main_indexOf_3 rfl (lv_at hl 3 rfl) ?_
      refine lv_icmp_ge (tgt := 28) hx hb d_Main_indexOf_4 (by decide) (fun c4 => ?_) (fun c4 => ?_)
      · have hF := kx_t c4 hF
        refine lv_iconst (v := (-1 : Int32)) hx hb d_Main_indexOf_28 (by decide) ?_
        obtain rfl := Option.some.inj hF
        exact kx_iret hQ S hr hlocks w (xo := [(a, .inl (G.2 0, n, .inl u))]) [0] rfl rfl () rfl rfl d_Main_indexOf_29
      · have hF := kx_f c4 hF
        refine lv_iload_n hx hb d_Main_indexOf_7 rfl (lv_at hl 0 rfl) ?_
        refine lv_aload_n hx hb d_Main_indexOf_8 rfl (lv_at hl 2 rfl) ?_
        refine kx_alen S F w 0 0 rfl rfl d_Main_indexOf_9 ?_
        refine lv_icmp_ge (tgt := 28) hx hb d_Main_indexOf_10 (by decide) (fun c10 => ?_) (fun c10 => ?_)
        · have hF := kx_t c10 hF
          refine lv_iconst (v := (-1 : Int32)) hx hb d_Main_indexOf_28 (by decide) ?_
          obtain rfl := Option.some.inj hF
          exact kx_iret hQ S hr hlocks w (xo := [(a, .inl (G.2 0, n, .inl u))]) [0] rfl rfl () rfl rfl d_Main_indexOf_29
        · have hF := kx_f c10 hF
          refine lv_aload_n hx hb d_Main_indexOf_13 rfl (lv_at hl 2 rfl) ?_
          refine lv_iload_n hx hb d_Main_indexOf_14 rfl (lv_at hl 0 rfl) ?_
          obtain ⟨hi15, hF⟩ := kx_ar hF
          refine kx_iald S F w 0 rfl hi15 d_Main_indexOf_15 ?_
          refine lv_iload_n hx hb d_Main_indexOf_16 rfl (lv_at hl 1 rfl) ?_
          refine lv_icmp_ne (tgt := 22) hx hb d_Main_indexOf_17 (by decide) (fun c17 => ?_) (fun c17 => ?_)
          · have hF := kx_f c17 hF
            refine lv_iinc (v := x3 + 1) (lv' := [(3, .int (x3 + 1)), (0, .int x0), (1, .ref a), (2, .int x2)]) hx hb d_Main_indexOf_22 hl (k := 0) rfl (by rfl) (by decide) rfl (fun ls hl => ?_)
            refine lv_goto (tgt := 2) hx hb d_Main_indexOf_25 (by decide) ?_
            exact ih2 (x3 + 1) x0 x2 hF H locs ls (w.perm [0] rfl rfl) (lv_sub hl [0, 1, 2, 3] rfl)
          · have hF := kx_t c17 hF
            refine lv_iload_n hx hb d_Main_indexOf_20 rfl (lv_at hl 0 rfl) ?_
            obtain rfl := Option.some.inj hF
            exact kx_iret hQ S hr hlocks w (xo := [(a, .inl (G.2 0, n, .inl u))]) [0] rfl rfl () rfl rfl d_Main_indexOf_21
  exact L2 1000 (0 : Int32) p0 p2 hF s.heap [] ls w hl
/-! Store_size -/
def f_Store_size (N : Nat) (u : sg_store) : Option (Int32) := some u.1
def rm_Store_size : Room := { frames := 0, cells := 0, slots := 0, locals := 0 }
set_option maxRecDepth 100000 in
set_option maxHeartbeats 4000000 in
theorem c_Store_size (l : Launch) (G : kx_G) (h : Nat) (a1 : Nat) (a2 : Nat) (N : Nat) (u : sg_store) (v : Int32) (hF : f_Store_size N u = some v) : CtI l y_Store_size b_Store_size 1 (some .int) rm_Store_size G [.ref h] [(h, .inr (1, [.ref a1, .ref a2, .int u.1])), (a1, .inl (G.2 0, N, .inl u.2.1)), (a2, .inl (G.2 1, N, .inl u.2.2))] (fun (r : Int32) (_ : Unit) => v = r) (fun _ => [(h, .inr (1, [.ref a1, .ref a2, .int u.1])), (a1, .inl (G.2 0, N, .inl u.2.1)), (a2, .inl (G.2 1, N, .inl u.2.2))]) 0 0 := by
  refine CtI.of (by decide) (Nat.le_of_ble_eq_true rfl) [(0, .ref h)] rfl ?_
  intro p e s m args below meth c A ls Q hQ S hr hlocks F w hl
  have S : CallFix p m c b_Store_size 1 s args kx_T "PrefetchRules$Store" := S
  obtain ⟨hx, hb, hml, hown, hts⟩ := id S
  have w : kx_W G A s ([(h, .inr (1, [.ref a1, .ref a2, .int u.1])), (a1, .inl (G.2 0, N, .inl u.2.1)), (a2, .inl (G.2 1, N, .inl u.2.2))] ++ []) s.heap [] := w
  unfold f_Store_size at hF
  refine lv_aload_n hx hb d_Store_size_0 rfl (lv_at hl 0 rfl) ?_
  refine kx_get S F w kc_Store 0 rfl 2 (by decide) kw_1 rfl d_Store_size_1 ?_
  obtain rfl := Option.some.inj hF
  exact kx_iret hQ S hr hlocks w (xo := [(h, .inr (1, [.ref a1, .ref a2, .int u.1])), (a1, .inl (G.2 0, N, .inl u.2.1)), (a2, .inl (G.2 1, N, .inl u.2.2))]) [0, 1, 2] rfl rfl () rfl rfl d_Store_size_4
/-! Store_isFull -/
def f_Store_isFull (N : Nat) (u : sg_store) : Option (Int32) := (if u.1 < (nI N) then some (0 : Int32) else some (1 : Int32))
def rm_Store_isFull : Room := { frames := 0, cells := 0, slots := 0, locals := 0 }
set_option maxRecDepth 100000 in
set_option maxHeartbeats 4000000 in
theorem c_Store_isFull (l : Launch) (G : kx_G) (h : Nat) (a1 : Nat) (a2 : Nat) (N : Nat) (u : sg_store) (v : Int32) (hF : f_Store_isFull N u = some v) : CtI l y_Store_isFull b_Store_isFull 1 (some .boolean) rm_Store_isFull G [.ref h] [(h, .inr (1, [.ref a1, .ref a2, .int u.1])), (a1, .inl (G.2 0, N, .inl u.2.1)), (a2, .inl (G.2 1, N, .inl u.2.2))] (fun (r : Int32) (_ : Unit) => v = r) (fun _ => [(h, .inr (1, [.ref a1, .ref a2, .int u.1])), (a1, .inl (G.2 0, N, .inl u.2.1)), (a2, .inl (G.2 1, N, .inl u.2.2))]) 0 0 := by
  refine CtI.of (by decide) (Nat.le_of_ble_eq_true rfl) [(0, .ref h)] rfl ?_
  intro p e s m args below meth c A ls Q hQ S hr hlocks F w hl
  have S : CallFix p m c b_Store_isFull 1 s args kx_T "PrefetchRules$Store" := S
  obtain ⟨hx, hb, hml, hown, hts⟩ := id S
  have w : kx_W G A s ([(h, .inr (1, [.ref a1, .ref a2, .int u.1])), (a1, .inl (G.2 0, N, .inl u.2.1)), (a2, .inl (G.2 1, N, .inl u.2.2))] ++ []) s.heap [] := w
  unfold f_Store_isFull at hF
  refine lv_aload_n hx hb d_Store_isFull_0 rfl (lv_at hl 0 rfl) ?_
  refine kx_get S F w kc_Store 0 rfl 2 (by decide) kw_1 rfl d_Store_isFull_1 ?_
  refine lv_aload_n hx hb d_Store_isFull_4 rfl (lv_at hl 0 rfl) ?_
  refine kx_get S F w kc_Store 0 rfl 0 (by decide) kw_2 rfl d_Store_isFull_5 ?_
  refine kx_alen S F w 1 0 rfl rfl d_Store_isFull_8 ?_
  refine lv_icmp_lt (tgt := 16) hx hb d_Store_isFull_9 (by decide) (fun c9 => ?_) (fun c9 => ?_)
  · have hF := kx_t c9 hF
    refine lv_iconst (v := (0 : Int32)) hx hb d_Store_isFull_16 (by decide) ?_
    obtain rfl := Option.some.inj hF
    exact kx_zret hQ S hr hlocks (by decide) w (xo := [(h, .inr (1, [.ref a1, .ref a2, .int u.1])), (a1, .inl (G.2 0, N, .inl u.2.1)), (a2, .inl (G.2 1, N, .inl u.2.2))]) [0, 1, 2] rfl rfl () rfl rfl d_Store_isFull_17
  · have hF := kx_f c9 hF
    refine lv_iconst (v := (1 : Int32)) hx hb d_Store_isFull_12 (by decide) ?_
    refine lv_goto (tgt := 17) hx hb d_Store_isFull_13 (by decide) ?_
    obtain rfl := Option.some.inj hF
    exact kx_zret hQ S hr hlocks (by decide) w (xo := [(h, .inr (1, [.ref a1, .ref a2, .int u.1])), (a1, .inl (G.2 0, N, .inl u.2.1)), (a2, .inl (G.2 1, N, .inl u.2.2))]) [0, 1, 2] rfl rfl () rfl rfl d_Store_isFull_17
/-! Store_lineAt -/
def f_Store_lineAt (N : Nat) (u : sg_store) (p0 : Int32) : Option (Int32) := (if p0 < 0 then some (-1 : Int32) else (if u.1 ≤ p0 then some (-1 : Int32) else (if (p0 < 0 ∨ N ≤ p0.toNatClampNeg) then none else some (u.2.1 p0.toNatClampNeg))))
def rm_Store_lineAt : Room := { frames := 0, cells := 0, slots := 0, locals := 0 }
set_option maxRecDepth 100000 in
set_option maxHeartbeats 4000000 in
theorem c_Store_lineAt (l : Launch) (G : kx_G) (h : Nat) (a1 : Nat) (a2 : Nat) (N : Nat) (u : sg_store) (p0 : Int32) (v : Int32) (hF : f_Store_lineAt N u p0 = some v) : CtI l y_Store_lineAt b_Store_lineAt 2 (some .int) rm_Store_lineAt G [.ref h, .int p0] [(h, .inr (1, [.ref a1, .ref a2, .int u.1])), (a1, .inl (G.2 0, N, .inl u.2.1)), (a2, .inl (G.2 1, N, .inl u.2.2))] (fun (r : Int32) (_ : Unit) => v = r) (fun _ => [(h, .inr (1, [.ref a1, .ref a2, .int u.1])), (a1, .inl (G.2 0, N, .inl u.2.1)), (a2, .inl (G.2 1, N, .inl u.2.2))]) 0 0 := by
  refine CtI.of (by decide) (Nat.le_of_ble_eq_true rfl) [(0, .ref h), (1, .int p0)] rfl ?_
  intro p e s m args below meth c A ls Q hQ S hr hlocks F w hl
  have S : CallFix p m c b_Store_lineAt 2 s args kx_T "PrefetchRules$Store" := S
  obtain ⟨hx, hb, hml, hown, hts⟩ := id S
  have w : kx_W G A s ([(h, .inr (1, [.ref a1, .ref a2, .int u.1])), (a1, .inl (G.2 0, N, .inl u.2.1)), (a2, .inl (G.2 1, N, .inl u.2.2))] ++ []) s.heap [] := w
  unfold f_Store_lineAt at hF
  refine lv_iload_n hx hb d_Store_lineAt_0 rfl (lv_at hl 1 rfl) ?_
  refine lv_if_lt (tgt := 21) hx hb d_Store_lineAt_1 (by decide) (fun c1 => ?_) (fun c1 => ?_)
  · have hF := kx_t c1 hF
    refine lv_iconst (v := (-1 : Int32)) hx hb d_Store_lineAt_21 (by decide) ?_
    obtain rfl := Option.some.inj hF
    exact kx_iret hQ S hr hlocks w (xo := [(h, .inr (1, [.ref a1, .ref a2, .int u.1])), (a1, .inl (G.2 0, N, .inl u.2.1)), (a2, .inl (G.2 1, N, .inl u.2.2))]) [0, 1, 2] rfl rfl () rfl rfl d_Store_lineAt_22
  · have hF := kx_f c1 hF
    refine lv_iload_n hx hb d_Store_lineAt_4 rfl (lv_at hl 1 rfl) ?_
    refine lv_aload_n hx hb d_Store_lineAt_5 rfl (lv_at hl 0 rfl) ?_
    refine kx_get S F w kc_Store 0 rfl 2 (by decide) kw_1 rfl d_Store_lineAt_6 ?_
    refine lv_icmp_ge (tgt := 21) hx hb d_Store_lineAt_9 (by decide) (fun c9 => ?_) (fun c9 => ?_)
    · have hF := kx_t c9 hF
      refine lv_iconst (v := (-1 : Int32)) hx hb d_Store_lineAt_21 (by decide) ?_
      obtain rfl := Option.some.inj hF
      exact kx_iret hQ S hr hlocks w (xo := [(h, .inr (1, [.ref a1, .ref a2, .int u.1])), (a1, .inl (G.2 0, N, .inl u.2.1)), (a2, .inl (G.2 1, N, .inl u.2.2))]) [0, 1, 2] rfl rfl () rfl rfl d_Store_lineAt_22
    · have hF := kx_f c9 hF
      refine lv_aload_n hx hb d_Store_lineAt_12 rfl (lv_at hl 0 rfl) ?_
      refine kx_get S F w kc_Store 0 rfl 0 (by decide) kw_2 rfl d_Store_lineAt_13 ?_
      refine lv_iload_n hx hb d_Store_lineAt_16 rfl (lv_at hl 1 rfl) ?_
      obtain ⟨hi17, hF⟩ := kx_ar hF
      refine kx_iald S F w 1 rfl hi17 d_Store_lineAt_17 ?_
      refine lv_goto (tgt := 22) hx hb d_Store_lineAt_18 (by decide) ?_
      obtain rfl := Option.some.inj hF
      exact kx_iret hQ S hr hlocks w (xo := [(h, .inr (1, [.ref a1, .ref a2, .int u.1])), (a1, .inl (G.2 0, N, .inl u.2.1)), (a2, .inl (G.2 1, N, .inl u.2.2))]) [0, 1, 2] rfl rfl () rfl rfl d_Store_lineAt_22
/-! Store_isMarked -/
def f_Store_isMarked (N : Nat) (u : sg_store) (p0 : Int32) : Option (Int32) := (if p0 < 0 then some (0 : Int32) else (if u.1 ≤ p0 then some (0 : Int32) else (if (p0 < 0 ∨ N ≤ p0.toNatClampNeg) then none else (if (u.2.2 p0.toNatClampNeg) = 0 then some (0 : Int32) else some (1 : Int32)))))
def rm_Store_isMarked : Room := { frames := 0, cells := 0, slots := 0, locals := 0 }
set_option maxRecDepth 100000 in
set_option maxHeartbeats 4000000 in
theorem c_Store_isMarked (l : Launch) (G : kx_G) (h : Nat) (a1 : Nat) (a2 : Nat) (N : Nat) (u : sg_store) (p0 : Int32) (v : Int32) (hF : f_Store_isMarked N u p0 = some v) : CtI l y_Store_isMarked b_Store_isMarked 2 (some .boolean) rm_Store_isMarked G [.ref h, .int p0] [(h, .inr (1, [.ref a1, .ref a2, .int u.1])), (a1, .inl (G.2 0, N, .inl u.2.1)), (a2, .inl (G.2 1, N, .inl u.2.2))] (fun (r : Int32) (_ : Unit) => v = r) (fun _ => [(h, .inr (1, [.ref a1, .ref a2, .int u.1])), (a1, .inl (G.2 0, N, .inl u.2.1)), (a2, .inl (G.2 1, N, .inl u.2.2))]) 0 0 := by
  refine CtI.of (by decide) (Nat.le_of_ble_eq_true rfl) [(0, .ref h), (1, .int p0)] rfl ?_
  intro p e s m args below meth c A ls Q hQ S hr hlocks F w hl
  have S : CallFix p m c b_Store_isMarked 2 s args kx_T "PrefetchRules$Store" := S
  obtain ⟨hx, hb, hml, hown, hts⟩ := id S
  have w : kx_W G A s ([(h, .inr (1, [.ref a1, .ref a2, .int u.1])), (a1, .inl (G.2 0, N, .inl u.2.1)), (a2, .inl (G.2 1, N, .inl u.2.2))] ++ []) s.heap [] := w
  unfold f_Store_isMarked at hF
  refine lv_iload_n hx hb d_Store_isMarked_0 rfl (lv_at hl 1 rfl) ?_
  refine lv_if_lt (tgt := 25) hx hb d_Store_isMarked_1 (by decide) (fun c1 => ?_) (fun c1 => ?_)
  · have hF := kx_t c1 hF
    refine lv_iconst (v := (0 : Int32)) hx hb d_Store_isMarked_25 (by decide) ?_
    obtain rfl := Option.some.inj hF
    exact kx_zret hQ S hr hlocks (by decide) w (xo := [(h, .inr (1, [.ref a1, .ref a2, .int u.1])), (a1, .inl (G.2 0, N, .inl u.2.1)), (a2, .inl (G.2 1, N, .inl u.2.2))]) [0, 1, 2] rfl rfl () rfl rfl d_Store_isMarked_26
  · have hF := kx_f c1 hF
    refine lv_iload_n hx hb d_Store_isMarked_4 rfl (lv_at hl 1 rfl) ?_
    refine lv_aload_n hx hb d_Store_isMarked_5 rfl (lv_at hl 0 rfl) ?_
    refine kx_get S F w kc_Store 0 rfl 2 (by decide) kw_1 rfl d_Store_isMarked_6 ?_
    refine lv_icmp_ge (tgt := 25) hx hb d_Store_isMarked_9 (by decide) (fun c9 => ?_) (fun c9 => ?_)
    · have hF := kx_t c9 hF
      refine lv_iconst (v := (0 : Int32)) hx hb d_Store_isMarked_25 (by decide) ?_
      obtain rfl := Option.some.inj hF
      exact kx_zret hQ S hr hlocks (by decide) w (xo := [(h, .inr (1, [.ref a1, .ref a2, .int u.1])), (a1, .inl (G.2 0, N, .inl u.2.1)), (a2, .inl (G.2 1, N, .inl u.2.2))]) [0, 1, 2] rfl rfl () rfl rfl d_Store_isMarked_26
    · have hF := kx_f c9 hF
      refine lv_aload_n hx hb d_Store_isMarked_12 rfl (lv_at hl 0 rfl) ?_
      refine kx_get S F w kc_Store 0 rfl 1 (by decide) kw_3 rfl d_Store_isMarked_13 ?_
      refine lv_iload_n hx hb d_Store_isMarked_16 rfl (lv_at hl 1 rfl) ?_
      obtain ⟨hi17, hF⟩ := kx_ar hF
      refine kx_zald S F w 2 rfl hi17 d_Store_isMarked_17 ?_
      refine lv_if_eq (tgt := 25) hx hb d_Store_isMarked_18 (by decide) (fun c18 => ?_) (fun c18 => ?_)
      · have hF := kx_t c18 hF
        refine lv_iconst (v := (0 : Int32)) hx hb d_Store_isMarked_25 (by decide) ?_
        obtain rfl := Option.some.inj hF
        exact kx_zret hQ S hr hlocks (by decide) w (xo := [(h, .inr (1, [.ref a1, .ref a2, .int u.1])), (a1, .inl (G.2 0, N, .inl u.2.1)), (a2, .inl (G.2 1, N, .inl u.2.2))]) [0, 1, 2] rfl rfl () rfl rfl d_Store_isMarked_26
      · have hF := kx_f c18 hF
        refine lv_iconst (v := (1 : Int32)) hx hb d_Store_isMarked_21 (by decide) ?_
        refine lv_goto (tgt := 26) hx hb d_Store_isMarked_22 (by decide) ?_
        obtain rfl := Option.some.inj hF
        exact kx_zret hQ S hr hlocks (by decide) w (xo := [(h, .inr (1, [.ref a1, .ref a2, .int u.1])), (a1, .inl (G.2 0, N, .inl u.2.1)), (a2, .inl (G.2 1, N, .inl u.2.2))]) [0, 1, 2] rfl rfl () rfl rfl d_Store_isMarked_26
/-! Store_find -/
def f_Store_find (N : Nat) (u : sg_store) (p0 : Int32) : Option (Int32) := (f_Main_indexOf N u.2.1 p0 u.1).bind (fun q9 => some q9)
def rm_Store_find : Room := { frames := 1, cells := 0, slots := 0, locals := 23 }
set_option maxRecDepth 100000 in
set_option maxHeartbeats 4000000 in
theorem c_Store_find (l : Launch) (G : kx_G) (h : Nat) (a1 : Nat) (a2 : Nat) (N : Nat) (u : sg_store) (p0 : Int32) (v : Int32) (hF : f_Store_find N u p0 = some v) : CtI l y_Store_find b_Store_find 2 (some .int) rm_Store_find G [.ref h, .int p0] [(h, .inr (1, [.ref a1, .ref a2, .int u.1])), (a1, .inl (G.2 0, N, .inl u.2.1)), (a2, .inl (G.2 1, N, .inl u.2.2))] (fun (r : Int32) (_ : Unit) => v = r) (fun _ => [(h, .inr (1, [.ref a1, .ref a2, .int u.1])), (a1, .inl (G.2 0, N, .inl u.2.1)), (a2, .inl (G.2 1, N, .inl u.2.2))]) 0 0 := by
  refine CtI.of (by decide) (Nat.le_of_ble_eq_true rfl) [(0, .ref h), (1, .int p0)] rfl ?_
  intro p e s m args below meth c A ls Q hQ S hr hlocks F w hl
  have S : CallFix p m c b_Store_find 2 s args kx_T "PrefetchRules$Store" := S
  obtain ⟨hx, hb, hml, hown, hts⟩ := id S
  have w : kx_W G A s ([(h, .inr (1, [.ref a1, .ref a2, .int u.1])), (a1, .inl (G.2 0, N, .inl u.2.1)), (a2, .inl (G.2 1, N, .inl u.2.2))] ++ []) s.heap [] := w
  unfold f_Store_find at hF
  refine lv_iload_n hx hb d_Store_find_0 rfl (lv_at hl 1 rfl) ?_
  refine lv_aload_n hx hb d_Store_find_1 rfl (lv_at hl 0 rfl) ?_
  refine kx_get S F w kc_Store 0 rfl 0 (by decide) kw_2 rfl d_Store_find_2 ?_
  refine lv_aload_n hx hb d_Store_find_5 rfl (lv_at hl 0 rfl) ?_
  refine kx_get S F w kc_Store 0 rfl 2 (by decide) kw_1 rfl d_Store_find_6 ?_
  obtain ⟨q9, hq9, hF⟩ := kx_bd hF
  refine kx_ci (cx := [(a1, .inl (G.2 0, N, .inl u.2.1))]) (wr := [(h, .inr (1, [.ref a1, .ref a2, .int u.1])), (a2, .inl (G.2 1, N, .inl u.2.2))]) F w [1] [0, 2] rfl rfl rfl (by decide) (va_runSN (As := [.int p0, .ref a1, .int u.1]) (rest := []) S (c_Main_indexOf l G a1 N u.2.1 p0 u.1 q9 hq9 _) (kx_cwSN S F ms_Main_indexOf kw_4 ⟨rfl, rfl, Nat.le_of_ble_eq_true rfl, Nat.le_of_ble_eq_true rfl⟩) ⟨kx_blind _ _ _ _, kx_pre F w [1] rfl rfl⟩ rfl rfl hl.1 rfl (lv_room (Nat.le_of_ble_eq_true rfl)) d_Store_find_9 ⟨Nat.le_of_ble_eq_true rfl, Nat.le_of_ble_eq_true rfl⟩) (fun r9 w9 H locs hp w => ?_)
  subst hp
  have w : kx_W G A s ([(h, .inr (1, [.ref a1, .ref a2, .int u.1])), (a2, .inl (G.2 1, N, .inl u.2.2)), (a1, .inl (G.2 0, N, .inl u.2.1))] ++ []) H locs := w
  obtain rfl := Option.some.inj hF
  exact kx_iret hQ S hr hlocks w (xo := [(h, .inr (1, [.ref a1, .ref a2, .int u.1])), (a1, .inl (G.2 0, N, .inl u.2.1)), (a2, .inl (G.2 1, N, .inl u.2.2))]) [0, 2, 1] rfl rfl () rfl rfl d_Store_find_12
/-! Store_markCount -/
def lp_Store_markCount_4 (N : Nat) (u : sg_store) : Nat → Int32 → Int32 → Option (Int32)
  | 0, _, _ => none
  | n4 + 1, x2, x1 => (if u.1 ≤ x2 then some x1 else (if (x2 < 0 ∨ N ≤ x2.toNatClampNeg) then none else (if (u.2.2 x2.toNatClampNeg) = 0 then lp_Store_markCount_4 N u n4 (x2 + 1) x1 else lp_Store_markCount_4 N u n4 (x2 + 1) (x1 + 1))))
def f_Store_markCount (N : Nat) (u : sg_store) : Option (Int32) := lp_Store_markCount_4 N u 1000 (0 : Int32) (0 : Int32)
def rm_Store_markCount : Room := { frames := 0, cells := 0, slots := 0, locals := 0 }
set_option maxRecDepth 100000 in
set_option maxHeartbeats 4000000 in
theorem c_Store_markCount (l : Launch) (G : kx_G) (h : Nat) (a1 : Nat) (a2 : Nat) (N : Nat) (u : sg_store) (v : Int32) (hF : f_Store_markCount N u = some v) : CtI l y_Store_markCount b_Store_markCount 3 (some .int) rm_Store_markCount G [.ref h] [(h, .inr (1, [.ref a1, .ref a2, .int u.1])), (a1, .inl (G.2 0, N, .inl u.2.1)), (a2, .inl (G.2 1, N, .inl u.2.2))] (fun (r : Int32) (_ : Unit) => v = r) (fun _ => [(h, .inr (1, [.ref a1, .ref a2, .int u.1])), (a1, .inl (G.2 0, N, .inl u.2.1)), (a2, .inl (G.2 1, N, .inl u.2.2))]) 0 0 := by
  refine CtI.of (by decide) (Nat.le_of_ble_eq_true rfl) [(0, .ref h)] rfl ?_
  intro p e s m args below meth c A ls Q hQ S hr hlocks F w hl
  have S : CallFix p m c b_Store_markCount 3 s args kx_T "PrefetchRules$Store" := S
  obtain ⟨hx, hb, hml, hown, hts⟩ := id S
  have w : kx_W G A s ([(h, .inr (1, [.ref a1, .ref a2, .int u.1])), (a1, .inl (G.2 0, N, .inl u.2.1)), (a2, .inl (G.2 1, N, .inl u.2.2))] ++ []) s.heap [] := w
  unfold f_Store_markCount at hF
  refine lv_iconst (v := (0 : Int32)) hx hb d_Store_markCount_0 (by decide) ?_
  refine lv_istore_n (lv' := [(1, .int (0 : Int32)), (0, .ref h)]) hx hb d_Store_markCount_1 rfl hl (by decide) rfl (fun ls hl => ?_)
  refine lv_iconst (v := (0 : Int32)) hx hb d_Store_markCount_2 (by decide) ?_
  refine lv_istore_n (lv' := [(2, .int (0 : Int32)), (1, .int (0 : Int32)), (0, .ref h)]) hx hb d_Store_markCount_3 rfl hl (by decide) rfl (fun ls hl => ?_)
  have L4 : ∀ (n4 : Nat) (x2 : Int32) (x1 : Int32), lp_Store_markCount_4 N u n4 x2 x1 = some v → ∀ (H : Heap) (locs : List Loc) (ls : Array Slot), kx_W G A s ([(h, .inr (1, [.ref a1, .ref a2, .int u.1])), (a1, .inl (G.2 0, N, .inl u.2.1)), (a2, .inl (G.2 1, N, .inl u.2.2))] ++ []) H locs → lv_has ls 3 [(2, .int x2), (1, .int x1), (0, .ref h)] → W p l e rm_Store_markCount s m args below meth c H locs 0 0 Q (F0 m 4 ls []) := by
    intro n4
    induction n4 with
    | zero =>
      intro x2 x1 hF
      rw [lp_Store_markCount_4] at hF
      cases hF
    | succ n4 ih4 =>
      intro x2 x1 hF H locs ls w hl
      rw [lp_Store_markCount_4] at hF
      refine lv_iload_n hx hb d_Store_markCount_4 rfl (lv_at hl 0 rfl) ?_
      refine lv_aload_n hx hb d_Store_markCount_5 rfl (lv_at hl 2 rfl) ?_
      refine kx_get S F w kc_Store 0 rfl 2 (by decide) kw_1 rfl d_Store_markCount_6 ?_
      refine lv_icmp_ge (tgt := 30) hx hb d_Store_markCount_9 (by decide) (fun c9 => ?_) (fun c9 => ?_)
      · have hF := kx_t c9 hF
        refine lv_iload_n hx hb d_Store_markCount_30 rfl (lv_at hl 1 rfl) ?_
        obtain rfl := Option.some.inj hF
        exact kx_iret hQ S hr hlocks w (xo := [(h, .inr (1, [.ref a1, .ref a2, .int u.1])), (a1, .inl (G.2 0, N, .inl u.2.1)), (a2, .inl (G.2 1, N, .inl u.2.2))]) [0, 1, 2] rfl rfl () rfl rfl d_Store_markCount_31
      · have hF := kx_f c9 hF
        refine lv_aload_n hx hb d_Store_markCount_12 rfl (lv_at hl 2 rfl) ?_
        refine kx_get S F w kc_Store 0 rfl 1 (by decide) kw_3 rfl d_Store_markCount_13 ?_
        refine lv_iload_n hx hb d_Store_markCount_16 rfl (lv_at hl 0 rfl) ?_
        obtain ⟨hi17, hF⟩ := kx_ar hF
        refine kx_zald S F w 2 rfl hi17 d_Store_markCount_17 ?_
        refine lv_if_eq (tgt := 24) hx hb d_Store_markCount_18 (by decide) (fun c18 => ?_) (fun c18 => ?_)
        · have hF := kx_t c18 hF
          refine lv_iinc (v := x2 + 1) (lv' := [(2, .int (x2 + 1)), (1, .int x1), (0, .ref h)]) hx hb d_Store_markCount_24 hl (k := 0) rfl (by rfl) (by decide) rfl (fun ls hl => ?_)
          refine lv_goto (tgt := 4) hx hb d_Store_markCount_27 (by decide) ?_
          exact ih4 (x2 + 1) x1 hF H locs ls (w.perm [0, 1, 2] rfl rfl) (lv_sub hl [0, 1, 2] rfl)
        · have hF := kx_f c18 hF
          refine lv_iinc (v := x1 + 1) (lv' := [(1, .int (x1 + 1)), (2, .int x2), (0, .ref h)]) hx hb d_Store_markCount_21 hl (k := 1) rfl (by rfl) (by decide) rfl (fun ls hl => ?_)
          refine lv_iinc (v := x2 + 1) (lv' := [(2, .int (x2 + 1)), (1, .int (x1 + 1)), (0, .ref h)]) hx hb d_Store_markCount_24 hl (k := 1) rfl (by rfl) (by decide) rfl (fun ls hl => ?_)
          refine lv_goto (tgt := 4) hx hb d_Store_markCount_27 (by decide) ?_
          exact ih4 (x2 + 1) (x1 + 1) hF H locs ls (w.perm [0, 1, 2] rfl rfl) (lv_sub hl [0, 1, 2] rfl)
  exact L4 1000 (0 : Int32) (0 : Int32) hF s.heap [] ls w hl
/-! Store_clearMarks -/
def lp_Store_clearMarks_2 (N : Nat) : Nat → Int32 → sg_store → Option (sg_store)
  | 0, _, _ => none
  | n2 + 1, x1, u2 => (if u2.1 ≤ x1 then some u2 else (if (x1 < 0 ∨ N ≤ x1.toNatClampNeg) then none else lp_Store_clearMarks_2 N n2 (x1 + 1) (u2.1, u2.2.1, upd u2.2.2 x1.toNatClampNeg (vp_nar .boolean (0 : Int32)))))
def f_Store_clearMarks (N : Nat) (u : sg_store) : Option (sg_store) := lp_Store_clearMarks_2 N 1000 (0 : Int32) u
def rm_Store_clearMarks : Room := { frames := 0, cells := 0, slots := 0, locals := 0 }
set_option maxRecDepth 100000 in
set_option maxHeartbeats 4000000 in
theorem c_Store_clearMarks (l : Launch) (G : kx_G) (h : Nat) (a1 : Nat) (a2 : Nat) (N : Nat) (u : sg_store) (v : sg_store) (hF : f_Store_clearMarks N u = some v) : CtV l y_Store_clearMarks b_Store_clearMarks 2 rm_Store_clearMarks G [.ref h] [(h, .inr (1, [.ref a1, .ref a2, .int u.1])), (a1, .inl (G.2 0, N, .inl u.2.1)), (a2, .inl (G.2 1, N, .inl u.2.2))] (fun w : sg_store => v = w) (fun w => [(h, .inr (1, [.ref a1, .ref a2, .int w.1])), (a1, .inl (G.2 0, N, .inl w.2.1)), (a2, .inl (G.2 1, N, .inl w.2.2))]) 0 0 := by
  refine CtV.of (by decide) (Nat.le_of_ble_eq_true rfl) [(0, .ref h)] rfl ?_
  intro p e s m args below meth c A ls Q hQ S hr hlocks hin F w hl
  have S : CallFix p m c b_Store_clearMarks 2 s args kx_T "PrefetchRules$Store" := S
  obtain ⟨hx, hb, hml, hown, hts⟩ := id S
  have w : kx_W G A s ([(h, .inr (1, [.ref a1, .ref a2, .int u.1])), (a1, .inl (G.2 0, N, .inl u.2.1)), (a2, .inl (G.2 1, N, .inl u.2.2))] ++ []) s.heap [] := w
  unfold f_Store_clearMarks at hF
  refine lv_iconst (v := (0 : Int32)) hx hb d_Store_clearMarks_0 (by decide) ?_
  refine lv_istore_n (lv' := [(1, .int (0 : Int32)), (0, .ref h)]) hx hb d_Store_clearMarks_1 rfl hl (by decide) rfl (fun ls hl => ?_)
  have L2 : ∀ (n2 : Nat) (x1 : Int32) (u2 : sg_store), lp_Store_clearMarks_2 N n2 x1 u2 = some v → ∀ (H : Heap) (locs : List Loc) (ls : Array Slot), kx_W G A s ([(h, .inr (1, [.ref a1, .ref a2, .int u2.1])), (a1, .inl (G.2 0, N, .inl u2.2.1)), (a2, .inl (G.2 1, N, .inl u2.2.2))] ++ []) H locs → lv_has ls 2 [(1, .int x1), (0, .ref h)] → W p l e rm_Store_clearMarks s m args below meth c H locs 0 0 Q (F0 m 2 ls []) := by
    intro n2
    induction n2 with
    | zero =>
      intro x1 u2 hF
      rw [lp_Store_clearMarks_2] at hF
      cases hF
    | succ n2 ih2 =>
      intro x1 u2 hF H locs ls w hl
      rw [lp_Store_clearMarks_2] at hF
      refine lv_iload_n hx hb d_Store_clearMarks_2 rfl (lv_at hl 0 rfl) ?_
      refine lv_aload_n hx hb d_Store_clearMarks_3 rfl (lv_at hl 1 rfl) ?_
      refine kx_get S F w kc_Store 0 rfl 2 (by decide) kw_1 rfl d_Store_clearMarks_4 ?_
      refine lv_icmp_ge (tgt := 23) hx hb d_Store_clearMarks_7 (by decide) (fun c7 => ?_) (fun c7 => ?_)
      · have hF := kx_t c7 hF
        obtain rfl := Option.some.inj hF
        exact kx_vret hQ S hr hlocks w (xo := [(h, .inr (1, [.ref a1, .ref a2, .int u2.1])), (a1, .inl (G.2 0, N, .inl u2.2.1)), (a2, .inl (G.2 1, N, .inl u2.2.2))]) [0, 1, 2] rfl rfl u2 rfl rfl d_Store_clearMarks_23
      · have hF := kx_f c7 hF
        refine lv_aload_n hx hb d_Store_clearMarks_10 rfl (lv_at hl 1 rfl) ?_
        refine kx_get S F w kc_Store 0 rfl 1 (by decide) kw_3 rfl d_Store_clearMarks_11 ?_
        refine lv_iload_n hx hb d_Store_clearMarks_14 rfl (lv_at hl 0 rfl) ?_
        refine lv_iconst (v := (0 : Int32)) hx hb d_Store_clearMarks_15 (by decide) ?_
        obtain ⟨hi16, hF⟩ := kx_ar hF
        refine kx_zast S F w 2 rfl hi16 d_Store_clearMarks_16 (fun H locs w => ?_)
        have w : kx_W G A s ([(h, .inr (1, [.ref a1, .ref a2, .int u2.1])), (a1, .inl (G.2 0, N, .inl u2.2.1)), (a2, .inl (G.2 1, N, .inl (upd u2.2.2 x1.toNatClampNeg (vp_nar .boolean (0 : Int32)))))] ++ []) H locs := w
        refine lv_iinc (v := x1 + 1) (lv' := [(1, .int (x1 + 1)), (0, .ref h)]) hx hb d_Store_clearMarks_17 hl (k := 0) rfl (by rfl) (by decide) rfl (fun ls hl => ?_)
        refine lv_goto (tgt := 2) hx hb d_Store_clearMarks_20 (by decide) ?_
        exact ih2 (x1 + 1) (u2.1, u2.2.1, upd u2.2.2 x1.toNatClampNeg (vp_nar .boolean (0 : Int32))) hF H locs ls (w.perm [0, 1, 2] rfl rfl) (lv_sub hl [0, 1] rfl)
  exact L2 1000 (0 : Int32) u hF s.heap [] ls w hl
/-! Store_dropLast -/
def f_Store_dropLast (N : Nat) (u : sg_store) : Option (Int32 × sg_store) := (if (1 : Int32) ≤ u.1 then (if ((u.1 - (1 : Int32)) < 0 ∨ N ≤ (u.1 - (1 : Int32)).toNatClampNeg) then none else (if (u.2.2 (u.1 - (1 : Int32)).toNatClampNeg = 0 ∨ u.2.2 (u.1 - (1 : Int32)).toNatClampNeg = 1) then some (u.2.2 (u.1 - (1 : Int32)).toNatClampNeg, u.1 - (1 : Int32), u.2) else none)) else some ((0 : Int32), u))
def rm_Store_dropLast : Room := { frames := 0, cells := 0, slots := 0, locals := 0 }
set_option maxRecDepth 100000 in
set_option maxHeartbeats 4000000 in
theorem c_Store_dropLast (l : Launch) (G : kx_G) (h : Nat) (a1 : Nat) (a2 : Nat) (N : Nat) (u : sg_store) (v : Int32 × sg_store) (hF : f_Store_dropLast N u = some v) : CtI l y_Store_dropLast b_Store_dropLast 1 (some .boolean) rm_Store_dropLast G [.ref h] [(h, .inr (1, [.ref a1, .ref a2, .int u.1])), (a1, .inl (G.2 0, N, .inl u.2.1)), (a2, .inl (G.2 1, N, .inl u.2.2))] (fun (r : Int32) (w : sg_store) => v.1 = r ∧ v.2 = w) (fun w => [(h, .inr (1, [.ref a1, .ref a2, .int w.1])), (a1, .inl (G.2 0, N, .inl w.2.1)), (a2, .inl (G.2 1, N, .inl w.2.2))]) 0 0 := by
  refine CtI.of (by decide) (Nat.le_of_ble_eq_true rfl) [(0, .ref h)] rfl ?_
  intro p e s m args below meth c A ls Q hQ S hr hlocks F w hl
  have S : CallFix p m c b_Store_dropLast 1 s args kx_T "PrefetchRules$Store" := S
  obtain ⟨hx, hb, hml, hown, hts⟩ := id S
  have w : kx_W G A s ([(h, .inr (1, [.ref a1, .ref a2, .int u.1])), (a1, .inl (G.2 0, N, .inl u.2.1)), (a2, .inl (G.2 1, N, .inl u.2.2))] ++ []) s.heap [] := w
  unfold f_Store_dropLast at hF
  refine lv_aload_n hx hb d_Store_dropLast_0 rfl (lv_at hl 0 rfl) ?_
  refine kx_get S F w kc_Store 0 rfl 2 (by decide) kw_1 rfl d_Store_dropLast_1 ?_
  refine lv_iconst (v := (1 : Int32)) hx hb d_Store_dropLast_4 (by decide) ?_
  refine lv_icmp_ge (tgt := 10) hx hb d_Store_dropLast_5 (by decide) (fun c5 => ?_) (fun c5 => ?_)
  · have hF := kx_t c5 hF
    refine lv_aload_n hx hb d_Store_dropLast_10 rfl (lv_at hl 0 rfl) ?_
    refine lv_dup hx hb d_Store_dropLast_11 rfl ?_
    refine kx_get S F w kc_Store 0 rfl 2 (by decide) kw_1 rfl d_Store_dropLast_12 ?_
    refine lv_iconst (v := (1 : Int32)) hx hb d_Store_dropLast_15 (by decide) ?_
    refine lv_isub hx hb d_Store_dropLast_16 ?_
    refine kx_put S F w kc_Store 0 rfl 2 (by decide) kw_1 rfl rfl rfl (Nat.le_of_ble_eq_true rfl) d_Store_dropLast_17 (fun H locs w => ?_)
    have w : kx_W G A s ([(h, .inr (1, [.ref a1, .ref a2, .int (u.1 - (1 : Int32))])), (a1, .inl (G.2 0, N, .inl u.2.1)), (a2, .inl (G.2 1, N, .inl u.2.2))] ++ []) H locs := w
    refine lv_aload_n hx hb d_Store_dropLast_20 rfl (lv_at hl 0 rfl) ?_
    refine kx_get S F w kc_Store 0 rfl 1 (by decide) kw_3 rfl d_Store_dropLast_21 ?_
    refine lv_aload_n hx hb d_Store_dropLast_24 rfl (lv_at hl 0 rfl) ?_
    refine kx_get S F w kc_Store 0 rfl 2 (by decide) kw_1 rfl d_Store_dropLast_25 ?_
    obtain ⟨hi28, hF⟩ := kx_ar hF
    refine kx_zald S F w 2 rfl hi28 d_Store_dropLast_28 ?_
    obtain ⟨hz29, hF⟩ := kx_ck hF
    obtain rfl := Option.some.inj hF
    exact kx_zret hQ S hr hlocks hz29 w (xo := [(h, .inr (1, [.ref a1, .ref a2, .int (u.1 - (1 : Int32))])), (a1, .inl (G.2 0, N, .inl u.2.1)), (a2, .inl (G.2 1, N, .inl u.2.2))]) [0, 1, 2] rfl rfl (u.1 - (1 : Int32), u.2) rfl ⟨rfl, rfl⟩ d_Store_dropLast_29
  · have hF := kx_f c5 hF
    refine lv_iconst (v := (0 : Int32)) hx hb d_Store_dropLast_8 (by decide) ?_
    obtain rfl := Option.some.inj hF
    exact kx_zret hQ S hr hlocks (by decide) w (xo := [(h, .inr (1, [.ref a1, .ref a2, .int u.1])), (a1, .inl (G.2 0, N, .inl u.2.1)), (a2, .inl (G.2 1, N, .inl u.2.2))]) [0, 1, 2] rfl rfl u rfl ⟨rfl, rfl⟩ d_Store_dropLast_9
/-! Store_moveInFront -/
def lp_Store_moveInFront_3 (N : Nat) : Nat → Int32 → Int32 → Int32 → Int32 → sg_store → Option (sg_store)
  | 0, _, _, _, _, _ => none
  | n3 + 1, x4, x1, x2, x3, u3 => (if x4 ≤ 0 then (if ((0 : Int32) < 0 ∨ N ≤ (0 : Int32).toNatClampNeg) then none else (if ((0 : Int32) < 0 ∨ N ≤ (0 : Int32).toNatClampNeg) then none else some (u3.1, upd u3.2.1 (0 : Int32).toNatClampNeg x2, upd u3.2.2 (0 : Int32).toNatClampNeg (vp_nar .boolean x3)))) else (if ((x4 - (1 : Int32)) < 0 ∨ N ≤ (x4 - (1 : Int32)).toNatClampNeg) then none else (if (x4 < 0 ∨ N ≤ x4.toNatClampNeg) then none else (if ((x4 - (1 : Int32)) < 0 ∨ N ≤ (x4 - (1 : Int32)).toNatClampNeg) then none else (if (x4 < 0 ∨ N ≤ x4.toNatClampNeg) then none else lp_Store_moveInFront_3 N n3 (x4 + (-1)) x1 x2 x3 (u3.1, upd u3.2.1 x4.toNatClampNeg (u3.2.1 (x4 - (1 : Int32)).toNatClampNeg), upd u3.2.2 x4.toNatClampNeg (vp_nar .boolean (u3.2.2 (x4 - (1 : Int32)).toNatClampNeg))))))))
def f_Store_moveInFront (N : Nat) (u : sg_store) (p0 : Int32) (p1 : Int32) (p2 : Int32) : Option (sg_store) := lp_Store_moveInFront_3 N 1000 p0 p0 p1 p2 u
def rm_Store_moveInFront : Room := { frames := 0, cells := 0, slots := 0, locals := 0 }
set_option maxRecDepth 100000 in
set_option maxHeartbeats 4000000 in
theorem c_Store_moveInFront (l : Launch) (G : kx_G) (h : Nat) (a1 : Nat) (a2 : Nat) (N : Nat) (u : sg_store) (p0 : Int32) (p1 : Int32) (p2 : Int32) (v : sg_store) (hF : f_Store_moveInFront N u p0 p1 p2 = some v) : CtV l y_Store_moveInFront b_Store_moveInFront 5 rm_Store_moveInFront G [.ref h, .int p0, .int p1, .int p2] [(h, .inr (1, [.ref a1, .ref a2, .int u.1])), (a1, .inl (G.2 0, N, .inl u.2.1)), (a2, .inl (G.2 1, N, .inl u.2.2))] (fun w : sg_store => v = w) (fun w => [(h, .inr (1, [.ref a1, .ref a2, .int w.1])), (a1, .inl (G.2 0, N, .inl w.2.1)), (a2, .inl (G.2 1, N, .inl w.2.2))]) 0 0 := by
  refine CtV.of (by decide) (Nat.le_of_ble_eq_true rfl) [(0, .ref h), (1, .int p0), (2, .int p1), (3, .int p2)] rfl ?_
  intro p e s m args below meth c A ls Q hQ S hr hlocks hin F w hl
  have S : CallFix p m c b_Store_moveInFront 5 s args kx_T "PrefetchRules$Store" := S
  obtain ⟨hx, hb, hml, hown, hts⟩ := id S
  have w : kx_W G A s ([(h, .inr (1, [.ref a1, .ref a2, .int u.1])), (a1, .inl (G.2 0, N, .inl u.2.1)), (a2, .inl (G.2 1, N, .inl u.2.2))] ++ []) s.heap [] := w
  unfold f_Store_moveInFront at hF
  refine lv_iload_n hx hb d_Store_moveInFront_0 rfl (lv_at hl 1 rfl) ?_
  refine lv_istore (lv' := [(4, .int p0), (0, .ref h), (1, .int p0), (2, .int p1), (3, .int p2)]) hx hb d_Store_moveInFront_1 hl (by decide) rfl (fun ls hl => ?_)
  have L3 : ∀ (n3 : Nat) (x4 : Int32) (x1 : Int32) (x2 : Int32) (x3 : Int32) (u3 : sg_store), lp_Store_moveInFront_3 N n3 x4 x1 x2 x3 u3 = some v → ∀ (H : Heap) (locs : List Loc) (ls : Array Slot), kx_W G A s ([(h, .inr (1, [.ref a1, .ref a2, .int u3.1])), (a1, .inl (G.2 0, N, .inl u3.2.1)), (a2, .inl (G.2 1, N, .inl u3.2.2))] ++ []) H locs → lv_has ls 5 [(4, .int x4), (0, .ref h), (1, .int x1), (2, .int x2), (3, .int x3)] → W p l e rm_Store_moveInFront s m args below meth c H locs 0 0 Q (F0 m 3 ls []) := by
    intro n3
    induction n3 with
    | zero =>
      intro x4 x1 x2 x3 u3 hF
      rw [lp_Store_moveInFront_3] at hF
      cases hF
    | succ n3 ih3 =>
      intro x4 x1 x2 x3 u3 hF H locs ls w hl
      rw [lp_Store_moveInFront_3] at hF
      refine lv_iload hx hb d_Store_moveInFront_3 (lv_at hl 0 rfl) ?_
      refine lv_if_le (tgt := 46) hx hb d_Store_moveInFront_5 (by decide) (fun c5 => ?_) (fun c5 => ?_)
      · have hF := kx_t c5 hF
        refine lv_aload_n hx hb d_Store_moveInFront_46 rfl (lv_at hl 1 rfl) ?_
        refine kx_get S F w kc_Store 0 rfl 0 (by decide) kw_2 rfl d_Store_moveInFront_47 ?_
        refine lv_iconst (v := (0 : Int32)) hx hb d_Store_moveInFront_50 (by decide) ?_
        refine lv_iload_n hx hb d_Store_moveInFront_51 rfl (lv_at hl 3 rfl) ?_
        obtain ⟨hi52, hF⟩ := kx_ar hF
        refine kx_iast S F w 1 rfl hi52 d_Store_moveInFront_52 (fun H locs w => ?_)
        have w : kx_W G A s ([(h, .inr (1, [.ref a1, .ref a2, .int u3.1])), (a1, .inl (G.2 0, N, .inl (upd u3.2.1 (0 : Int32).toNatClampNeg x2))), (a2, .inl (G.2 1, N, .inl u3.2.2))] ++ []) H locs := w
        refine lv_aload_n hx hb d_Store_moveInFront_53 rfl (lv_at hl 1 rfl) ?_
        refine kx_get S F w kc_Store 0 rfl 1 (by decide) kw_3 rfl d_Store_moveInFront_54 ?_
        refine lv_iconst (v := (0 : Int32)) hx hb d_Store_moveInFront_57 (by decide) ?_
        refine lv_iload_n hx hb d_Store_moveInFront_58 rfl (lv_at hl 4 rfl) ?_
        obtain ⟨hi59, hF⟩ := kx_ar hF
        refine kx_zast S F w 2 rfl hi59 d_Store_moveInFront_59 (fun H locs w => ?_)
        have w : kx_W G A s ([(h, .inr (1, [.ref a1, .ref a2, .int u3.1])), (a1, .inl (G.2 0, N, .inl (upd u3.2.1 (0 : Int32).toNatClampNeg x2))), (a2, .inl (G.2 1, N, .inl (upd u3.2.2 (0 : Int32).toNatClampNeg (vp_nar .boolean x3))))] ++ []) H locs := w
        obtain rfl := Option.some.inj hF
        exact kx_vret hQ S hr hlocks w (xo := [(h, .inr (1, [.ref a1, .ref a2, .int u3.1])), (a1, .inl (G.2 0, N, .inl (upd u3.2.1 (0 : Int32).toNatClampNeg x2))), (a2, .inl (G.2 1, N, .inl (upd u3.2.2 (0 : Int32).toNatClampNeg (vp_nar .boolean x3))))]) [0, 1, 2] rfl rfl (u3.1, upd u3.2.1 (0 : Int32).toNatClampNeg x2, upd u3.2.2 (0 : Int32).toNatClampNeg (vp_nar .boolean x3)) rfl rfl d_Store_moveInFront_60
      · have hF := kx_f c5 hF
        refine lv_aload_n hx hb d_Store_moveInFront_8 rfl (lv_at hl 1 rfl) ?_
        refine kx_get S F w kc_Store 0 rfl 0 (by decide) kw_2 rfl d_Store_moveInFront_9 ?_
        refine lv_iload hx hb d_Store_moveInFront_12 (lv_at hl 0 rfl) ?_
        refine lv_aload_n hx hb d_Store_moveInFront_14 rfl (lv_at hl 1 rfl) ?_
        refine kx_get S F w kc_Store 0 rfl 0 (by decide) kw_2 rfl d_Store_moveInFront_15 ?_
        refine lv_iload hx hb d_Store_moveInFront_18 (lv_at hl 0 rfl) ?_
        refine lv_iconst (v := (1 : Int32)) hx hb d_Store_moveInFront_20 (by decide) ?_
        refine lv_isub hx hb d_Store_moveInFront_21 ?_
        obtain ⟨hi22, hF⟩ := kx_ar hF
        refine kx_iald S F w 1 rfl hi22 d_Store_moveInFront_22 ?_
        obtain ⟨hi23, hF⟩ := kx_ar hF
        refine kx_iast S F w 1 rfl hi23 d_Store_moveInFront_23 (fun H locs w => ?_)
        have w : kx_W G A s ([(h, .inr (1, [.ref a1, .ref a2, .int u3.1])), (a1, .inl (G.2 0, N, .inl (upd u3.2.1 x4.toNatClampNeg (u3.2.1 (x4 - (1 : Int32)).toNatClampNeg)))), (a2, .inl (G.2 1, N, .inl u3.2.2))] ++ []) H locs := w
        refine lv_aload_n hx hb d_Store_moveInFront_24 rfl (lv_at hl 1 rfl) ?_
        refine kx_get S F w kc_Store 0 rfl 1 (by decide) kw_3 rfl d_Store_moveInFront_25 ?_
        refine lv_iload hx hb d_Store_moveInFront_28 (lv_at hl 0 rfl) ?_
        refine lv_aload_n hx hb d_Store_moveInFront_30 rfl (lv_at hl 1 rfl) ?_
        refine kx_get S F w kc_Store 0 rfl 1 (by decide) kw_3 rfl d_Store_moveInFront_31 ?_
        refine lv_iload hx hb d_Store_moveInFront_34 (lv_at hl 0 rfl) ?_
        refine lv_iconst (v := (1 : Int32)) hx hb d_Store_moveInFront_36 (by decide) ?_
        refine lv_isub hx hb d_Store_moveInFront_37 ?_
        obtain ⟨hi38, hF⟩ := kx_ar hF
        refine kx_zald S F w 2 rfl hi38 d_Store_moveInFront_38 ?_
        obtain ⟨hi39, hF⟩ := kx_ar hF
        refine kx_zast S F w 2 rfl hi39 d_Store_moveInFront_39 (fun H locs w => ?_)
        have w : kx_W G A s ([(h, .inr (1, [.ref a1, .ref a2, .int u3.1])), (a1, .inl (G.2 0, N, .inl (upd u3.2.1 x4.toNatClampNeg (u3.2.1 (x4 - (1 : Int32)).toNatClampNeg)))), (a2, .inl (G.2 1, N, .inl (upd u3.2.2 x4.toNatClampNeg (vp_nar .boolean (u3.2.2 (x4 - (1 : Int32)).toNatClampNeg)))))] ++ []) H locs := w
        refine lv_iinc (v := x4 + (-1)) (lv' := [(4, .int (x4 + (-1))), (0, .ref h), (1, .int x1), (2, .int x2), (3, .int x3)]) hx hb d_Store_moveInFront_40 hl (k := 0) rfl (by rfl) (by decide) rfl (fun ls hl => ?_)
        refine lv_goto (tgt := 3) hx hb d_Store_moveInFront_43 (by decide) ?_
        exact ih3 (x4 + (-1)) x1 x2 x3 (u3.1, upd u3.2.1 x4.toNatClampNeg (u3.2.1 (x4 - (1 : Int32)).toNatClampNeg), upd u3.2.2 x4.toNatClampNeg (vp_nar .boolean (u3.2.2 (x4 - (1 : Int32)).toNatClampNeg))) hF H locs ls (w.perm [0, 1, 2] rfl rfl) (lv_sub hl [0, 1, 2, 3, 4] rfl)
  exact L3 1000 p0 p0 p1 p2 u hF s.heap [] ls w hl
/-! Store_putFirst -/
def f_Store_putFirst (N : Nat) (u : sg_store) (p0 : Int32) (p1 : Int32) : Option (sg_store) := (if (nI N) ≤ u.1 then some u else (f_Store_moveInFront N (u.1 + (1 : Int32), u.2) ((u.1 + (1 : Int32)) - (1 : Int32)) p0 p1).bind (fun q31 => some q31))
def rm_Store_putFirst : Room := { frames := 1, cells := 0, slots := 0, locals := 24 }
set_option maxRecDepth 100000 in
set_option maxHeartbeats 4000000 in
theorem c_Store_putFirst (l : Launch) (G : kx_G) (h : Nat) (a1 : Nat) (a2 : Nat) (N : Nat) (u : sg_store) (p0 : Int32) (p1 : Int32) (v : sg_store) (hF : f_Store_putFirst N u p0 p1 = some v) : CtV l y_Store_putFirst b_Store_putFirst 3 rm_Store_putFirst G [.ref h, .int p0, .int p1] [(h, .inr (1, [.ref a1, .ref a2, .int u.1])), (a1, .inl (G.2 0, N, .inl u.2.1)), (a2, .inl (G.2 1, N, .inl u.2.2))] (fun w : sg_store => v = w) (fun w => [(h, .inr (1, [.ref a1, .ref a2, .int w.1])), (a1, .inl (G.2 0, N, .inl w.2.1)), (a2, .inl (G.2 1, N, .inl w.2.2))]) 0 0 := by
  refine CtV.of (by decide) (Nat.le_of_ble_eq_true rfl) [(0, .ref h), (1, .int p0), (2, .int p1)] rfl ?_
  intro p e s m args below meth c A ls Q hQ S hr hlocks hin F w hl
  have S : CallFix p m c b_Store_putFirst 3 s args kx_T "PrefetchRules$Store" := S
  obtain ⟨hx, hb, hml, hown, hts⟩ := id S
  have w : kx_W G A s ([(h, .inr (1, [.ref a1, .ref a2, .int u.1])), (a1, .inl (G.2 0, N, .inl u.2.1)), (a2, .inl (G.2 1, N, .inl u.2.2))] ++ []) s.heap [] := w
  unfold f_Store_putFirst at hF
  refine lv_aload_n hx hb d_Store_putFirst_0 rfl (lv_at hl 0 rfl) ?_
  refine kx_get S F w kc_Store 0 rfl 2 (by decide) kw_1 rfl d_Store_putFirst_1 ?_
  refine lv_aload_n hx hb d_Store_putFirst_4 rfl (lv_at hl 0 rfl) ?_
  refine kx_get S F w kc_Store 0 rfl 0 (by decide) kw_2 rfl d_Store_putFirst_5 ?_
  refine kx_alen S F w 1 0 rfl rfl d_Store_putFirst_8 ?_
  refine lv_icmp_ge (tgt := 34) hx hb d_Store_putFirst_9 (by decide) (fun c9 => ?_) (fun c9 => ?_)
  · have hF := kx_t c9 hF
    obtain rfl := Option.some.inj hF
    exact kx_vret hQ S hr hlocks w (xo := [(h, .inr (1, [.ref a1, .ref a2, .int u.1])), (a1, .inl (G.2 0, N, .inl u.2.1)), (a2, .inl (G.2 1, N, .inl u.2.2))]) [0, 1, 2] rfl rfl u rfl rfl d_Store_putFirst_34
  · have hF := kx_f c9 hF
    refine lv_aload_n hx hb d_Store_putFirst_12 rfl (lv_at hl 0 rfl) ?_
    refine lv_dup hx hb d_Store_putFirst_13 rfl ?_
    refine kx_get S F w kc_Store 0 rfl 2 (by decide) kw_1 rfl d_Store_putFirst_14 ?_
    refine lv_iconst (v := (1 : Int32)) hx hb d_Store_putFirst_17 (by decide) ?_
    refine lv_iadd hx hb d_Store_putFirst_18 ?_
    refine kx_put S F w kc_Store 0 rfl 2 (by decide) kw_1 rfl rfl rfl (Nat.le_of_ble_eq_true rfl) d_Store_putFirst_19 (fun H locs w => ?_)
    have w : kx_W G A s ([(h, .inr (1, [.ref a1, .ref a2, .int (u.1 + (1 : Int32))])), (a1, .inl (G.2 0, N, .inl u.2.1)), (a2, .inl (G.2 1, N, .inl u.2.2))] ++ []) H locs := w
    refine lv_aload_n hx hb d_Store_putFirst_22 rfl (lv_at hl 0 rfl) ?_
    refine lv_aload_n hx hb d_Store_putFirst_23 rfl (lv_at hl 0 rfl) ?_
    refine kx_get S F w kc_Store 0 rfl 2 (by decide) kw_1 rfl d_Store_putFirst_24 ?_
    refine lv_iconst (v := (1 : Int32)) hx hb d_Store_putFirst_27 (by decide) ?_
    refine lv_isub hx hb d_Store_putFirst_28 ?_
    refine lv_iload_n hx hb d_Store_putFirst_29 rfl (lv_at hl 1 rfl) ?_
    refine lv_iload_n hx hb d_Store_putFirst_30 rfl (lv_at hl 2 rfl) ?_
    obtain ⟨q31, hq31, hF⟩ := kx_bd hF
    refine kx_cv (cx := [(h, .inr (1, [.ref a1, .ref a2, .int (u.1 + (1 : Int32))])), (a1, .inl (G.2 0, N, .inl u.2.1)), (a2, .inl (G.2 1, N, .inl u.2.2))]) (wr := []) F w [0, 1, 2] [] rfl rfl rfl (by decide) (va_runV (As := [.int ((u.1 + (1 : Int32)) - (1 : Int32)), .int p0, .int p1]) (rest := []) S (c_Store_moveInFront l G h a1 a2 N (u.1 + (1 : Int32), u.2) ((u.1 + (1 : Int32)) - (1 : Int32)) p0 p1 q31 hq31 _) (kx_cwV S mv_Store_moveInFront kw_5 ⟨rfl, rfl, Nat.le_of_ble_eq_true rfl, Nat.le_of_ble_eq_true rfl⟩) ⟨kx_blind _ _ _ _, va_recv (q0 := 0) F.1.1 w.1 kc_Store.1 rfl, kx_pre F w [0, 1, 2] rfl rfl⟩ rfl rfl hl.1 rfl (lv_room (Nat.le_of_ble_eq_true rfl)) d_Store_putFirst_31 ⟨Nat.le_of_ble_eq_true rfl, Nat.le_of_ble_eq_true rfl⟩) (fun w31 H locs hp w => ?_)
    subst hp
    have w : kx_W G A s ([(h, .inr (1, [.ref a1, .ref a2, .int q31.1])), (a1, .inl (G.2 0, N, .inl q31.2.1)), (a2, .inl (G.2 1, N, .inl q31.2.2))] ++ []) H locs := w
    obtain rfl := Option.some.inj hF
    exact kx_vret hQ S hr hlocks w (xo := [(h, .inr (1, [.ref a1, .ref a2, .int q31.1])), (a1, .inl (G.2 0, N, .inl q31.2.1)), (a2, .inl (G.2 1, N, .inl q31.2.2))]) [0, 1, 2] rfl rfl q31 rfl rfl d_Store_putFirst_34
/-! Store_use -/
def f_Store_use (N : Nat) (u : sg_store) (p0 : Int32) : Option (sg_store) := (if p0 < 0 then some u else (if u.1 ≤ p0 then some u else (if (p0 < 0 ∨ N ≤ p0.toNatClampNeg) then none else (f_Store_moveInFront N u p0 (u.2.1 p0.toNatClampNeg) (0 : Int32)).bind (fun q21 => some q21))))
def rm_Store_use : Room := { frames := 1, cells := 0, slots := 0, locals := 24 }
set_option maxRecDepth 100000 in
set_option maxHeartbeats 4000000 in
theorem c_Store_use (l : Launch) (G : kx_G) (h : Nat) (a1 : Nat) (a2 : Nat) (N : Nat) (u : sg_store) (p0 : Int32) (v : sg_store) (hF : f_Store_use N u p0 = some v) : CtV l y_Store_use b_Store_use 2 rm_Store_use G [.ref h, .int p0] [(h, .inr (1, [.ref a1, .ref a2, .int u.1])), (a1, .inl (G.2 0, N, .inl u.2.1)), (a2, .inl (G.2 1, N, .inl u.2.2))] (fun w : sg_store => v = w) (fun w => [(h, .inr (1, [.ref a1, .ref a2, .int w.1])), (a1, .inl (G.2 0, N, .inl w.2.1)), (a2, .inl (G.2 1, N, .inl w.2.2))]) 0 0 := by
  refine CtV.of (by decide) (Nat.le_of_ble_eq_true rfl) [(0, .ref h), (1, .int p0)] rfl ?_
  intro p e s m args below meth c A ls Q hQ S hr hlocks hin F w hl
  have S : CallFix p m c b_Store_use 2 s args kx_T "PrefetchRules$Store" := S
  obtain ⟨hx, hb, hml, hown, hts⟩ := id S
  have w : kx_W G A s ([(h, .inr (1, [.ref a1, .ref a2, .int u.1])), (a1, .inl (G.2 0, N, .inl u.2.1)), (a2, .inl (G.2 1, N, .inl u.2.2))] ++ []) s.heap [] := w
  unfold f_Store_use at hF
  refine lv_iload_n hx hb d_Store_use_0 rfl (lv_at hl 1 rfl) ?_
  refine lv_if_lt (tgt := 24) hx hb d_Store_use_1 (by decide) (fun c1 => ?_) (fun c1 => ?_)
  · have hF := kx_t c1 hF
    obtain rfl := Option.some.inj hF
    exact kx_vret hQ S hr hlocks w (xo := [(h, .inr (1, [.ref a1, .ref a2, .int u.1])), (a1, .inl (G.2 0, N, .inl u.2.1)), (a2, .inl (G.2 1, N, .inl u.2.2))]) [0, 1, 2] rfl rfl u rfl rfl d_Store_use_24
  · have hF := kx_f c1 hF
    refine lv_iload_n hx hb d_Store_use_4 rfl (lv_at hl 1 rfl) ?_
    refine lv_aload_n hx hb d_Store_use_5 rfl (lv_at hl 0 rfl) ?_
    refine kx_get S F w kc_Store 0 rfl 2 (by decide) kw_1 rfl d_Store_use_6 ?_
    refine lv_icmp_ge (tgt := 24) hx hb d_Store_use_9 (by decide) (fun c9 => ?_) (fun c9 => ?_)
    · have hF := kx_t c9 hF
      obtain rfl := Option.some.inj hF
      exact kx_vret hQ S hr hlocks w (xo := [(h, .inr (1, [.ref a1, .ref a2, .int u.1])), (a1, .inl (G.2 0, N, .inl u.2.1)), (a2, .inl (G.2 1, N, .inl u.2.2))]) [0, 1, 2] rfl rfl u rfl rfl d_Store_use_24
    · have hF := kx_f c9 hF
      refine lv_aload_n hx hb d_Store_use_12 rfl (lv_at hl 0 rfl) ?_
      refine lv_iload_n hx hb d_Store_use_13 rfl (lv_at hl 1 rfl) ?_
      refine lv_aload_n hx hb d_Store_use_14 rfl (lv_at hl 0 rfl) ?_
      refine kx_get S F w kc_Store 0 rfl 0 (by decide) kw_2 rfl d_Store_use_15 ?_
      refine lv_iload_n hx hb d_Store_use_18 rfl (lv_at hl 1 rfl) ?_
      obtain ⟨hi19, hF⟩ := kx_ar hF
      refine kx_iald S F w 1 rfl hi19 d_Store_use_19 ?_
      refine lv_iconst (v := (0 : Int32)) hx hb d_Store_use_20 (by decide) ?_
      obtain ⟨q21, hq21, hF⟩ := kx_bd hF
      refine kx_cv (cx := [(h, .inr (1, [.ref a1, .ref a2, .int u.1])), (a1, .inl (G.2 0, N, .inl u.2.1)), (a2, .inl (G.2 1, N, .inl u.2.2))]) (wr := []) F w [0, 1, 2] [] rfl rfl rfl (by decide) (va_runV (As := [.int p0, .int (u.2.1 p0.toNatClampNeg), .int (0 : Int32)]) (rest := []) S (c_Store_moveInFront l G h a1 a2 N u p0 (u.2.1 p0.toNatClampNeg) (0 : Int32) q21 hq21 _) (kx_cwV S mv_Store_moveInFront kw_5 ⟨rfl, rfl, Nat.le_of_ble_eq_true rfl, Nat.le_of_ble_eq_true rfl⟩) ⟨kx_blind _ _ _ _, va_recv (q0 := 0) F.1.1 w.1 kc_Store.1 rfl, kx_pre F w [0, 1, 2] rfl rfl⟩ rfl rfl hl.1 rfl (lv_room (Nat.le_of_ble_eq_true rfl)) d_Store_use_21 ⟨Nat.le_of_ble_eq_true rfl, Nat.le_of_ble_eq_true rfl⟩) (fun w21 H locs hp w => ?_)
      subst hp
      have w : kx_W G A s ([(h, .inr (1, [.ref a1, .ref a2, .int q21.1])), (a1, .inl (G.2 0, N, .inl q21.2.1)), (a2, .inl (G.2 1, N, .inl q21.2.2))] ++ []) H locs := w
      obtain rfl := Option.some.inj hF
      exact kx_vret hQ S hr hlocks w (xo := [(h, .inr (1, [.ref a1, .ref a2, .int q21.1])), (a1, .inl (G.2 0, N, .inl q21.2.1)), (a2, .inl (G.2 1, N, .inl q21.2.2))]) [0, 1, 2] rfl rfl q21 rfl rfl d_Store_use_24
/-! Queue_size -/
def f_Queue_size (u : sg_queue) : Option (Int32) := some u.1
def rm_Queue_size : Room := { frames := 0, cells := 0, slots := 0, locals := 0 }
set_option maxRecDepth 100000 in
set_option maxHeartbeats 4000000 in
theorem c_Queue_size (l : Launch) (G : kx_G) (h : Nat) (a1 : Nat) (a2 : Nat) (u : sg_queue) (v : Int32) (hF : f_Queue_size u = some v) : CtI l y_Queue_size b_Queue_size 1 (some .int) rm_Queue_size G [.ref h] [(h, .inr (2, [.ref a1, .ref a2, .int u.1])), (a1, .inl (G.2 0, 8, .inl u.2.1)), (a2, .inl (G.2 0, 8, .inl u.2.2))] (fun (r : Int32) (_ : Unit) => v = r) (fun _ => [(h, .inr (2, [.ref a1, .ref a2, .int u.1])), (a1, .inl (G.2 0, 8, .inl u.2.1)), (a2, .inl (G.2 0, 8, .inl u.2.2))]) 0 0 := by
  refine CtI.of (by decide) (Nat.le_of_ble_eq_true rfl) [(0, .ref h)] rfl ?_
  intro p e s m args below meth c A ls Q hQ S hr hlocks F w hl
  have S : CallFix p m c b_Queue_size 1 s args kx_T "PrefetchRules$Queue" := S
  obtain ⟨hx, hb, hml, hown, hts⟩ := id S
  have w : kx_W G A s ([(h, .inr (2, [.ref a1, .ref a2, .int u.1])), (a1, .inl (G.2 0, 8, .inl u.2.1)), (a2, .inl (G.2 0, 8, .inl u.2.2))] ++ []) s.heap [] := w
  unfold f_Queue_size at hF
  refine lv_aload_n hx hb d_Queue_size_0 rfl (lv_at hl 0 rfl) ?_
  refine kx_get S F w kc_Queue 0 rfl 2 (by decide) kw_6 rfl d_Queue_size_1 ?_
  obtain rfl := Option.some.inj hF
  exact kx_iret hQ S hr hlocks w (xo := [(h, .inr (2, [.ref a1, .ref a2, .int u.1])), (a1, .inl (G.2 0, 8, .inl u.2.1)), (a2, .inl (G.2 0, 8, .inl u.2.2))]) [0, 1, 2] rfl rfl () rfl rfl d_Queue_size_4
/-! Queue_isFull -/
def f_Queue_isFull (u : sg_queue) : Option (Int32) := (if u.1 < (8 : Int32) then some (0 : Int32) else some (1 : Int32))
def rm_Queue_isFull : Room := { frames := 0, cells := 0, slots := 0, locals := 0 }
set_option maxRecDepth 100000 in
set_option maxHeartbeats 4000000 in
theorem c_Queue_isFull (l : Launch) (G : kx_G) (h : Nat) (a1 : Nat) (a2 : Nat) (u : sg_queue) (v : Int32) (hF : f_Queue_isFull u = some v) : CtI l y_Queue_isFull b_Queue_isFull 1 (some .boolean) rm_Queue_isFull G [.ref h] [(h, .inr (2, [.ref a1, .ref a2, .int u.1])), (a1, .inl (G.2 0, 8, .inl u.2.1)), (a2, .inl (G.2 0, 8, .inl u.2.2))] (fun (r : Int32) (_ : Unit) => v = r) (fun _ => [(h, .inr (2, [.ref a1, .ref a2, .int u.1])), (a1, .inl (G.2 0, 8, .inl u.2.1)), (a2, .inl (G.2 0, 8, .inl u.2.2))]) 0 0 := by
  refine CtI.of (by decide) (Nat.le_of_ble_eq_true rfl) [(0, .ref h)] rfl ?_
  intro p e s m args below meth c A ls Q hQ S hr hlocks F w hl
  have S : CallFix p m c b_Queue_isFull 1 s args kx_T "PrefetchRules$Queue" := S
  obtain ⟨hx, hb, hml, hown, hts⟩ := id S
  have w : kx_W G A s ([(h, .inr (2, [.ref a1, .ref a2, .int u.1])), (a1, .inl (G.2 0, 8, .inl u.2.1)), (a2, .inl (G.2 0, 8, .inl u.2.2))] ++ []) s.heap [] := w
  unfold f_Queue_isFull at hF
  refine lv_aload_n hx hb d_Queue_isFull_0 rfl (lv_at hl 0 rfl) ?_
  refine kx_get S F w kc_Queue 0 rfl 2 (by decide) kw_6 rfl d_Queue_isFull_1 ?_
  refine lv_bipush (v := (8 : Int32)) hx hb d_Queue_isFull_4 (by decide) ?_
  refine lv_icmp_lt (tgt := 13) hx hb d_Queue_isFull_6 (by decide) (fun c6 => ?_) (fun c6 => ?_)
  · have hF := kx_t c6 hF
    refine lv_iconst (v := (0 : Int32)) hx hb d_Queue_isFull_13 (by decide) ?_
    obtain rfl := Option.some.inj hF
    exact kx_zret hQ S hr hlocks (by decide) w (xo := [(h, .inr (2, [.ref a1, .ref a2, .int u.1])), (a1, .inl (G.2 0, 8, .inl u.2.1)), (a2, .inl (G.2 0, 8, .inl u.2.2))]) [0, 1, 2] rfl rfl () rfl rfl d_Queue_isFull_14
  · have hF := kx_f c6 hF
    refine lv_iconst (v := (1 : Int32)) hx hb d_Queue_isFull_9 (by decide) ?_
    refine lv_goto (tgt := 14) hx hb d_Queue_isFull_10 (by decide) ?_
    obtain rfl := Option.some.inj hF
    exact kx_zret hQ S hr hlocks (by decide) w (xo := [(h, .inr (2, [.ref a1, .ref a2, .int u.1])), (a1, .inl (G.2 0, 8, .inl u.2.1)), (a2, .inl (G.2 0, 8, .inl u.2.2))]) [0, 1, 2] rfl rfl () rfl rfl d_Queue_isFull_14
/-! Queue_lineAt -/
def f_Queue_lineAt (u : sg_queue) (p0 : Int32) : Option (Int32) := (if p0 < 0 then some (-1 : Int32) else (if u.1 ≤ p0 then some (-1 : Int32) else (if (p0 < 0 ∨ 8 ≤ p0.toNatClampNeg) then none else some (u.2.1 p0.toNatClampNeg))))
def rm_Queue_lineAt : Room := { frames := 0, cells := 0, slots := 0, locals := 0 }
set_option maxRecDepth 100000 in
set_option maxHeartbeats 4000000 in
theorem c_Queue_lineAt (l : Launch) (G : kx_G) (h : Nat) (a1 : Nat) (a2 : Nat) (u : sg_queue) (p0 : Int32) (v : Int32) (hF : f_Queue_lineAt u p0 = some v) : CtI l y_Queue_lineAt b_Queue_lineAt 2 (some .int) rm_Queue_lineAt G [.ref h, .int p0] [(h, .inr (2, [.ref a1, .ref a2, .int u.1])), (a1, .inl (G.2 0, 8, .inl u.2.1)), (a2, .inl (G.2 0, 8, .inl u.2.2))] (fun (r : Int32) (_ : Unit) => v = r) (fun _ => [(h, .inr (2, [.ref a1, .ref a2, .int u.1])), (a1, .inl (G.2 0, 8, .inl u.2.1)), (a2, .inl (G.2 0, 8, .inl u.2.2))]) 0 0 := by
  refine CtI.of (by decide) (Nat.le_of_ble_eq_true rfl) [(0, .ref h), (1, .int p0)] rfl ?_
  intro p e s m args below meth c A ls Q hQ S hr hlocks F w hl
  have S : CallFix p m c b_Queue_lineAt 2 s args kx_T "PrefetchRules$Queue" := S
  obtain ⟨hx, hb, hml, hown, hts⟩ := id S
  have w : kx_W G A s ([(h, .inr (2, [.ref a1, .ref a2, .int u.1])), (a1, .inl (G.2 0, 8, .inl u.2.1)), (a2, .inl (G.2 0, 8, .inl u.2.2))] ++ []) s.heap [] := w
  unfold f_Queue_lineAt at hF
  refine lv_iload_n hx hb d_Queue_lineAt_0 rfl (lv_at hl 1 rfl) ?_
  refine lv_if_lt (tgt := 21) hx hb d_Queue_lineAt_1 (by decide) (fun c1 => ?_) (fun c1 => ?_)
  · have hF := kx_t c1 hF
    refine lv_iconst (v := (-1 : Int32)) hx hb d_Queue_lineAt_21 (by decide) ?_
    obtain rfl := Option.some.inj hF
    exact kx_iret hQ S hr hlocks w (xo := [(h, .inr (2, [.ref a1, .ref a2, .int u.1])), (a1, .inl (G.2 0, 8, .inl u.2.1)), (a2, .inl (G.2 0, 8, .inl u.2.2))]) [0, 1, 2] rfl rfl () rfl rfl d_Queue_lineAt_22
  · have hF := kx_f c1 hF
    refine lv_iload_n hx hb d_Queue_lineAt_4 rfl (lv_at hl 1 rfl) ?_
    refine lv_aload_n hx hb d_Queue_lineAt_5 rfl (lv_at hl 0 rfl) ?_
    refine kx_get S F w kc_Queue 0 rfl 2 (by decide) kw_6 rfl d_Queue_lineAt_6 ?_
    refine lv_icmp_ge (tgt := 21) hx hb d_Queue_lineAt_9 (by decide) (fun c9 => ?_) (fun c9 => ?_)
    · have hF := kx_t c9 hF
      refine lv_iconst (v := (-1 : Int32)) hx hb d_Queue_lineAt_21 (by decide) ?_
      obtain rfl := Option.some.inj hF
      exact kx_iret hQ S hr hlocks w (xo := [(h, .inr (2, [.ref a1, .ref a2, .int u.1])), (a1, .inl (G.2 0, 8, .inl u.2.1)), (a2, .inl (G.2 0, 8, .inl u.2.2))]) [0, 1, 2] rfl rfl () rfl rfl d_Queue_lineAt_22
    · have hF := kx_f c9 hF
      refine lv_aload_n hx hb d_Queue_lineAt_12 rfl (lv_at hl 0 rfl) ?_
      refine kx_get S F w kc_Queue 0 rfl 0 (by decide) kw_7 rfl d_Queue_lineAt_13 ?_
      refine lv_iload_n hx hb d_Queue_lineAt_16 rfl (lv_at hl 1 rfl) ?_
      obtain ⟨hi17, hF⟩ := kx_ar hF
      refine kx_iald S F w 1 rfl hi17 d_Queue_lineAt_17 ?_
      refine lv_goto (tgt := 22) hx hb d_Queue_lineAt_18 (by decide) ?_
      obtain rfl := Option.some.inj hF
      exact kx_iret hQ S hr hlocks w (xo := [(h, .inr (2, [.ref a1, .ref a2, .int u.1])), (a1, .inl (G.2 0, 8, .inl u.2.1)), (a2, .inl (G.2 0, 8, .inl u.2.2))]) [0, 1, 2] rfl rfl () rfl rfl d_Queue_lineAt_22
/-! Queue_cycleAt -/
def f_Queue_cycleAt (u : sg_queue) (p0 : Int32) : Option (Int32) := (if p0 < 0 then some (-1 : Int32) else (if u.1 ≤ p0 then some (-1 : Int32) else (if (p0 < 0 ∨ 8 ≤ p0.toNatClampNeg) then none else some (u.2.2 p0.toNatClampNeg))))
def rm_Queue_cycleAt : Room := { frames := 0, cells := 0, slots := 0, locals := 0 }
set_option maxRecDepth 100000 in
set_option maxHeartbeats 4000000 in
theorem c_Queue_cycleAt (l : Launch) (G : kx_G) (h : Nat) (a1 : Nat) (a2 : Nat) (u : sg_queue) (p0 : Int32) (v : Int32) (hF : f_Queue_cycleAt u p0 = some v) : CtI l y_Queue_cycleAt b_Queue_cycleAt 2 (some .int) rm_Queue_cycleAt G [.ref h, .int p0] [(h, .inr (2, [.ref a1, .ref a2, .int u.1])), (a1, .inl (G.2 0, 8, .inl u.2.1)), (a2, .inl (G.2 0, 8, .inl u.2.2))] (fun (r : Int32) (_ : Unit) => v = r) (fun _ => [(h, .inr (2, [.ref a1, .ref a2, .int u.1])), (a1, .inl (G.2 0, 8, .inl u.2.1)), (a2, .inl (G.2 0, 8, .inl u.2.2))]) 0 0 := by
  refine CtI.of (by decide) (Nat.le_of_ble_eq_true rfl) [(0, .ref h), (1, .int p0)] rfl ?_
  intro p e s m args below meth c A ls Q hQ S hr hlocks F w hl
  have S : CallFix p m c b_Queue_cycleAt 2 s args kx_T "PrefetchRules$Queue" := S
  obtain ⟨hx, hb, hml, hown, hts⟩ := id S
  have w : kx_W G A s ([(h, .inr (2, [.ref a1, .ref a2, .int u.1])), (a1, .inl (G.2 0, 8, .inl u.2.1)), (a2, .inl (G.2 0, 8, .inl u.2.2))] ++ []) s.heap [] := w
  unfold f_Queue_cycleAt at hF
  refine lv_iload_n hx hb d_Queue_cycleAt_0 rfl (lv_at hl 1 rfl) ?_
  refine lv_if_lt (tgt := 21) hx hb d_Queue_cycleAt_1 (by decide) (fun c1 => ?_) (fun c1 => ?_)
  · have hF := kx_t c1 hF
    refine lv_iconst (v := (-1 : Int32)) hx hb d_Queue_cycleAt_21 (by decide) ?_
    obtain rfl := Option.some.inj hF
    exact kx_iret hQ S hr hlocks w (xo := [(h, .inr (2, [.ref a1, .ref a2, .int u.1])), (a1, .inl (G.2 0, 8, .inl u.2.1)), (a2, .inl (G.2 0, 8, .inl u.2.2))]) [0, 1, 2] rfl rfl () rfl rfl d_Queue_cycleAt_22
  · have hF := kx_f c1 hF
    refine lv_iload_n hx hb d_Queue_cycleAt_4 rfl (lv_at hl 1 rfl) ?_
    refine lv_aload_n hx hb d_Queue_cycleAt_5 rfl (lv_at hl 0 rfl) ?_
    refine kx_get S F w kc_Queue 0 rfl 2 (by decide) kw_6 rfl d_Queue_cycleAt_6 ?_
    refine lv_icmp_ge (tgt := 21) hx hb d_Queue_cycleAt_9 (by decide) (fun c9 => ?_) (fun c9 => ?_)
    · have hF := kx_t c9 hF
      refine lv_iconst (v := (-1 : Int32)) hx hb d_Queue_cycleAt_21 (by decide) ?_
      obtain rfl := Option.some.inj hF
      exact kx_iret hQ S hr hlocks w (xo := [(h, .inr (2, [.ref a1, .ref a2, .int u.1])), (a1, .inl (G.2 0, 8, .inl u.2.1)), (a2, .inl (G.2 0, 8, .inl u.2.2))]) [0, 1, 2] rfl rfl () rfl rfl d_Queue_cycleAt_22
    · have hF := kx_f c9 hF
      refine lv_aload_n hx hb d_Queue_cycleAt_12 rfl (lv_at hl 0 rfl) ?_
      refine kx_get S F w kc_Queue 0 rfl 1 (by decide) kw_8 rfl d_Queue_cycleAt_13 ?_
      refine lv_iload_n hx hb d_Queue_cycleAt_16 rfl (lv_at hl 1 rfl) ?_
      obtain ⟨hi17, hF⟩ := kx_ar hF
      refine kx_iald S F w 2 rfl hi17 d_Queue_cycleAt_17 ?_
      refine lv_goto (tgt := 22) hx hb d_Queue_cycleAt_18 (by decide) ?_
      obtain rfl := Option.some.inj hF
      exact kx_iret hQ S hr hlocks w (xo := [(h, .inr (2, [.ref a1, .ref a2, .int u.1])), (a1, .inl (G.2 0, 8, .inl u.2.1)), (a2, .inl (G.2 0, 8, .inl u.2.2))]) [0, 1, 2] rfl rfl () rfl rfl d_Queue_cycleAt_22
/-! Queue_firstIsDue -/
def f_Queue_firstIsDue (u : sg_queue) (p0 : Int32) : Option (Int32) := (if u.1 ≤ 0 then some (0 : Int32) else (if ((0 : Int32) < 0 ∨ 8 ≤ (0 : Int32).toNatClampNeg) then none else (if p0 < (u.2.2 (0 : Int32).toNatClampNeg) then some (0 : Int32) else some (1 : Int32))))
def rm_Queue_firstIsDue : Room := { frames := 0, cells := 0, slots := 0, locals := 0 }
set_option maxRecDepth 100000 in
set_option maxHeartbeats 4000000 in
theorem c_Queue_firstIsDue (l : Launch) (G : kx_G) (h : Nat) (a1 : Nat) (a2 : Nat) (u : sg_queue) (p0 : Int32) (v : Int32) (hF : f_Queue_firstIsDue u p0 = some v) : CtI l y_Queue_firstIsDue b_Queue_firstIsDue 2 (some .boolean) rm_Queue_firstIsDue G [.ref h, .int p0] [(h, .inr (2, [.ref a1, .ref a2, .int u.1])), (a1, .inl (G.2 0, 8, .inl u.2.1)), (a2, .inl (G.2 0, 8, .inl u.2.2))] (fun (r : Int32) (_ : Unit) => v = r) (fun _ => [(h, .inr (2, [.ref a1, .ref a2, .int u.1])), (a1, .inl (G.2 0, 8, .inl u.2.1)), (a2, .inl (G.2 0, 8, .inl u.2.2))]) 0 0 := by
  refine CtI.of (by decide) (Nat.le_of_ble_eq_true rfl) [(0, .ref h), (1, .int p0)] rfl ?_
  intro p e s m args below meth c A ls Q hQ S hr hlocks F w hl
  have S : CallFix p m c b_Queue_firstIsDue 2 s args kx_T "PrefetchRules$Queue" := S
  obtain ⟨hx, hb, hml, hown, hts⟩ := id S
  have w : kx_W G A s ([(h, .inr (2, [.ref a1, .ref a2, .int u.1])), (a1, .inl (G.2 0, 8, .inl u.2.1)), (a2, .inl (G.2 0, 8, .inl u.2.2))] ++ []) s.heap [] := w
  unfold f_Queue_firstIsDue at hF
  refine lv_aload_n hx hb d_Queue_firstIsDue_0 rfl (lv_at hl 0 rfl) ?_
  refine kx_get S F w kc_Queue 0 rfl 2 (by decide) kw_6 rfl d_Queue_firstIsDue_1 ?_
  refine lv_if_le (tgt := 21) hx hb d_Queue_firstIsDue_4 (by decide) (fun c4 => ?_) (fun c4 => ?_)
  · have hF := kx_t c4 hF
    refine lv_iconst (v := (0 : Int32)) hx hb d_Queue_firstIsDue_21 (by decide) ?_
    obtain rfl := Option.some.inj hF
    exact kx_zret hQ S hr hlocks (by decide) w (xo := [(h, .inr (2, [.ref a1, .ref a2, .int u.1])), (a1, .inl (G.2 0, 8, .inl u.2.1)), (a2, .inl (G.2 0, 8, .inl u.2.2))]) [0, 1, 2] rfl rfl () rfl rfl d_Queue_firstIsDue_22
  · have hF := kx_f c4 hF
    refine lv_aload_n hx hb d_Queue_firstIsDue_7 rfl (lv_at hl 0 rfl) ?_
    refine kx_get S F w kc_Queue 0 rfl 1 (by decide) kw_8 rfl d_Queue_firstIsDue_8 ?_
    refine lv_iconst (v := (0 : Int32)) hx hb d_Queue_firstIsDue_11 (by decide) ?_
    obtain ⟨hi12, hF⟩ := kx_ar hF
    refine kx_iald S F w 2 rfl hi12 d_Queue_firstIsDue_12 ?_
    refine lv_iload_n hx hb d_Queue_firstIsDue_13 rfl (lv_at hl 1 rfl) ?_
    refine lv_icmp_gt (tgt := 21) hx hb d_Queue_firstIsDue_14 (by decide) (fun c14 => ?_) (fun c14 => ?_)
    · have hF := kx_t c14 hF
      refine lv_iconst (v := (0 : Int32)) hx hb d_Queue_firstIsDue_21 (by decide) ?_
      obtain rfl := Option.some.inj hF
      exact kx_zret hQ S hr hlocks (by decide) w (xo := [(h, .inr (2, [.ref a1, .ref a2, .int u.1])), (a1, .inl (G.2 0, 8, .inl u.2.1)), (a2, .inl (G.2 0, 8, .inl u.2.2))]) [0, 1, 2] rfl rfl () rfl rfl d_Queue_firstIsDue_22
    · have hF := kx_f c14 hF
      refine lv_iconst (v := (1 : Int32)) hx hb d_Queue_firstIsDue_17 (by decide) ?_
      refine lv_goto (tgt := 22) hx hb d_Queue_firstIsDue_18 (by decide) ?_
      obtain rfl := Option.some.inj hF
      exact kx_zret hQ S hr hlocks (by decide) w (xo := [(h, .inr (2, [.ref a1, .ref a2, .int u.1])), (a1, .inl (G.2 0, 8, .inl u.2.1)), (a2, .inl (G.2 0, 8, .inl u.2.2))]) [0, 1, 2] rfl rfl () rfl rfl d_Queue_firstIsDue_22
/-! Queue_find -/
def f_Queue_find (u : sg_queue) (p0 : Int32) : Option (Int32) := (f_Main_indexOf 8 u.2.1 p0 u.1).bind (fun q9 => some q9)
def rm_Queue_find : Room := { frames := 1, cells := 0, slots := 0, locals := 23 }
set_option maxRecDepth 100000 in
set_option maxHeartbeats 4000000 in
theorem c_Queue_find (l : Launch) (G : kx_G) (h : Nat) (a1 : Nat) (a2 : Nat) (u : sg_queue) (p0 : Int32) (v : Int32) (hF : f_Queue_find u p0 = some v) : CtI l y_Queue_find b_Queue_find 2 (some .int) rm_Queue_find G [.ref h, .int p0] [(h, .inr (2, [.ref a1, .ref a2, .int u.1])), (a1, .inl (G.2 0, 8, .inl u.2.1)), (a2, .inl (G.2 0, 8, .inl u.2.2))] (fun (r : Int32) (_ : Unit) => v = r) (fun _ => [(h, .inr (2, [.ref a1, .ref a2, .int u.1])), (a1, .inl (G.2 0, 8, .inl u.2.1)), (a2, .inl (G.2 0, 8, .inl u.2.2))]) 0 0 := by
  refine CtI.of (by decide) (Nat.le_of_ble_eq_true rfl) [(0, .ref h), (1, .int p0)] rfl ?_
  intro p e s m args below meth c A ls Q hQ S hr hlocks F w hl
  have S : CallFix p m c b_Queue_find 2 s args kx_T "PrefetchRules$Queue" := S
  obtain ⟨hx, hb, hml, hown, hts⟩ := id S
  have w : kx_W G A s ([(h, .inr (2, [.ref a1, .ref a2, .int u.1])), (a1, .inl (G.2 0, 8, .inl u.2.1)), (a2, .inl (G.2 0, 8, .inl u.2.2))] ++ []) s.heap [] := w
  unfold f_Queue_find at hF
  refine lv_iload_n hx hb d_Queue_find_0 rfl (lv_at hl 1 rfl) ?_
  refine lv_aload_n hx hb d_Queue_find_1 rfl (lv_at hl 0 rfl) ?_
  refine kx_get S F w kc_Queue 0 rfl 0 (by decide) kw_7 rfl d_Queue_find_2 ?_
  refine lv_aload_n hx hb d_Queue_find_5 rfl (lv_at hl 0 rfl) ?_
  refine kx_get S F w kc_Queue 0 rfl 2 (by decide) kw_6 rfl d_Queue_find_6 ?_
  obtain ⟨q9, hq9, hF⟩ := kx_bd hF
  refine kx_ci (cx := [(a1, .inl (G.2 0, 8, .inl u.2.1))]) (wr := [(h, .inr (2, [.ref a1, .ref a2, .int u.1])), (a2, .inl (G.2 0, 8, .inl u.2.2))]) F w [1] [0, 2] rfl rfl rfl (by decide) (va_runSN (As := [.int p0, .ref a1, .int u.1]) (rest := []) S (c_Main_indexOf l G a1 8 u.2.1 p0 u.1 q9 hq9 _) (kx_cwSN S F ms_Main_indexOf kw_9 ⟨rfl, rfl, Nat.le_of_ble_eq_true rfl, Nat.le_of_ble_eq_true rfl⟩) ⟨kx_blind _ _ _ _, kx_pre F w [1] rfl rfl⟩ rfl rfl hl.1 rfl (lv_room (Nat.le_of_ble_eq_true rfl)) d_Queue_find_9 ⟨Nat.le_of_ble_eq_true rfl, Nat.le_of_ble_eq_true rfl⟩) (fun r9 w9 H locs hp w => ?_)
  subst hp
  have w : kx_W G A s ([(h, .inr (2, [.ref a1, .ref a2, .int u.1])), (a2, .inl (G.2 0, 8, .inl u.2.2)), (a1, .inl (G.2 0, 8, .inl u.2.1))] ++ []) H locs := w
  obtain rfl := Option.some.inj hF
  exact kx_iret hQ S hr hlocks w (xo := [(h, .inr (2, [.ref a1, .ref a2, .int u.1])), (a1, .inl (G.2 0, 8, .inl u.2.1)), (a2, .inl (G.2 0, 8, .inl u.2.2))]) [0, 2, 1] rfl rfl () rfl rfl d_Queue_find_12
/-! Queue_add -/
def f_Queue_add (u : sg_queue) (p0 : Int32) (p1 : Int32) : Option (sg_queue) := (if (8 : Int32) ≤ u.1 then some u else (if (u.1 < 0 ∨ 8 ≤ u.1.toNatClampNeg) then none else (if (u.1 < 0 ∨ 8 ≤ u.1.toNatClampNeg) then none else some (u.1 + (1 : Int32), upd u.2.1 u.1.toNatClampNeg p0, upd u.2.2 u.1.toNatClampNeg p1))))
def rm_Queue_add : Room := { frames := 0, cells := 0, slots := 0, locals := 0 }
set_option maxRecDepth 100000 in
set_option maxHeartbeats 4000000 in
theorem c_Queue_add (l : Launch) (G : kx_G) (h : Nat) (a1 : Nat) (a2 : Nat) (u : sg_queue) (p0 : Int32) (p1 : Int32) (v : sg_queue) (hF : f_Queue_add u p0 p1 = some v) : CtV l y_Queue_add b_Queue_add 3 rm_Queue_add G [.ref h, .int p0, .int p1] [(h, .inr (2, [.ref a1, .ref a2, .int u.1])), (a1, .inl (G.2 0, 8, .inl u.2.1)), (a2, .inl (G.2 0, 8, .inl u.2.2))] (fun w : sg_queue => v = w) (fun w => [(h, .inr (2, [.ref a1, .ref a2, .int w.1])), (a1, .inl (G.2 0, 8, .inl w.2.1)), (a2, .inl (G.2 0, 8, .inl w.2.2))]) 0 0 := by
  refine CtV.of (by decide) (Nat.le_of_ble_eq_true rfl) [(0, .ref h), (1, .int p0), (2, .int p1)] rfl ?_
  intro p e s m args below meth c A ls Q hQ S hr hlocks hin F w hl
  have S : CallFix p m c b_Queue_add 3 s args kx_T "PrefetchRules$Queue" := S
  obtain ⟨hx, hb, hml, hown, hts⟩ := id S
  have w : kx_W G A s ([(h, .inr (2, [.ref a1, .ref a2, .int u.1])), (a1, .inl (G.2 0, 8, .inl u.2.1)), (a2, .inl (G.2 0, 8, .inl u.2.2))] ++ []) s.heap [] := w
  unfold f_Queue_add at hF
  refine lv_aload_n hx hb d_Queue_add_0 rfl (lv_at hl 0 rfl) ?_
  refine kx_get S F w kc_Queue 0 rfl 2 (by decide) kw_6 rfl d_Queue_add_1 ?_
  refine lv_bipush (v := (8 : Int32)) hx hb d_Queue_add_4 (by decide) ?_
  refine lv_icmp_ge (tgt := 39) hx hb d_Queue_add_6 (by decide) (fun c6 => ?_) (fun c6 => ?_)
  · have hF := kx_t c6 hF
    obtain rfl := Option.some.inj hF
    exact kx_vret hQ S hr hlocks w (xo := [(h, .inr (2, [.ref a1, .ref a2, .int u.1])), (a1, .inl (G.2 0, 8, .inl u.2.1)), (a2, .inl (G.2 0, 8, .inl u.2.2))]) [0, 1, 2] rfl rfl u rfl rfl d_Queue_add_39
  · have hF := kx_f c6 hF
    refine lv_aload_n hx hb d_Queue_add_9 rfl (lv_at hl 0 rfl) ?_
    refine kx_get S F w kc_Queue 0 rfl 0 (by decide) kw_7 rfl d_Queue_add_10 ?_
    refine lv_aload_n hx hb d_Queue_add_13 rfl (lv_at hl 0 rfl) ?_
    refine kx_get S F w kc_Queue 0 rfl 2 (by decide) kw_6 rfl d_Queue_add_14 ?_
    refine lv_iload_n hx hb d_Queue_add_17 rfl (lv_at hl 1 rfl) ?_
    obtain ⟨hi18, hF⟩ := kx_ar hF
    refine kx_iast S F w 1 rfl hi18 d_Queue_add_18 (fun H locs w => ?_)
    have w : kx_W G A s ([(h, .inr (2, [.ref a1, .ref a2, .int u.1])), (a1, .inl (G.2 0, 8, .inl (upd u.2.1 u.1.toNatClampNeg p0))), (a2, .inl (G.2 0, 8, .inl u.2.2))] ++ []) H locs := w
    refine lv_aload_n hx hb d_Queue_add_19 rfl (lv_at hl 0 rfl) ?_
    refine kx_get S F w kc_Queue 0 rfl 1 (by decide) kw_8 rfl d_Queue_add_20 ?_
    refine lv_aload_n hx hb d_Queue_add_23 rfl (lv_at hl 0 rfl) ?_
    refine kx_get S F w kc_Queue 0 rfl 2 (by decide) kw_6 rfl d_Queue_add_24 ?_
    refine lv_iload_n hx hb d_Queue_add_27 rfl (lv_at hl 2 rfl) ?_
    obtain ⟨hi28, hF⟩ := kx_ar hF
    refine kx_iast S F w 2 rfl hi28 d_Queue_add_28 (fun H locs w => ?_)
    have w : kx_W G A s ([(h, .inr (2, [.ref a1, .ref a2, .int u.1])), (a1, .inl (G.2 0, 8, .inl (upd u.2.1 u.1.toNatClampNeg p0))), (a2, .inl (G.2 0, 8, .inl (upd u.2.2 u.1.toNatClampNeg p1)))] ++ []) H locs := w
    refine lv_aload_n hx hb d_Queue_add_29 rfl (lv_at hl 0 rfl) ?_
    refine lv_dup hx hb d_Queue_add_30 rfl ?_
    refine kx_get S F w kc_Queue 0 rfl 2 (by decide) kw_6 rfl d_Queue_add_31 ?_
    refine lv_iconst (v := (1 : Int32)) hx hb d_Queue_add_34 (by decide) ?_
    refine lv_iadd hx hb d_Queue_add_35 ?_
    refine kx_put S F w kc_Queue 0 rfl 2 (by decide) kw_6 rfl rfl rfl (Nat.le_of_ble_eq_true rfl) d_Queue_add_36 (fun H locs w => ?_)
    have w : kx_W G A s ([(h, .inr (2, [.ref a1, .ref a2, .int (u.1 + (1 : Int32))])), (a1, .inl (G.2 0, 8, .inl (upd u.2.1 u.1.toNatClampNeg p0))), (a2, .inl (G.2 0, 8, .inl (upd u.2.2 u.1.toNatClampNeg p1)))] ++ []) H locs := w
    obtain rfl := Option.some.inj hF
    exact kx_vret hQ S hr hlocks w (xo := [(h, .inr (2, [.ref a1, .ref a2, .int (u.1 + (1 : Int32))])), (a1, .inl (G.2 0, 8, .inl (upd u.2.1 u.1.toNatClampNeg p0))), (a2, .inl (G.2 0, 8, .inl (upd u.2.2 u.1.toNatClampNeg p1)))]) [0, 1, 2] rfl rfl (u.1 + (1 : Int32), upd u.2.1 u.1.toNatClampNeg p0, upd u.2.2 u.1.toNatClampNeg p1) rfl rfl d_Queue_add_39
/-! Queue_remove -/
def lp_Queue_remove_25 : Nat → Int32 → Int32 → sg_queue → Option (sg_queue)
  | 0, _, _, _ => none
  | n25 + 1, x2, x1, u25 => (if u25.1 ≤ x2 then some u25 else (if ((x2 + (1 : Int32)) < 0 ∨ 8 ≤ (x2 + (1 : Int32)).toNatClampNeg) then none else (if (x2 < 0 ∨ 8 ≤ x2.toNatClampNeg) then none else (if ((x2 + (1 : Int32)) < 0 ∨ 8 ≤ (x2 + (1 : Int32)).toNatClampNeg) then none else (if (x2 < 0 ∨ 8 ≤ x2.toNatClampNeg) then none else lp_Queue_remove_25 n25 (x2 + 1) x1 (u25.1, upd u25.2.1 x2.toNatClampNeg (u25.2.1 (x2 + (1 : Int32)).toNatClampNeg), upd u25.2.2 x2.toNatClampNeg (u25.2.2 (x2 + (1 : Int32)).toNatClampNeg)))))))
def f_Queue_remove (u : sg_queue) (p0 : Int32) : Option (sg_queue) := (if p0 < 0 then some u else (if p0 < u.1 then lp_Queue_remove_25 1000 p0 p0 (u.1 - (1 : Int32), u.2) else some u))
def rm_Queue_remove : Room := { frames := 0, cells := 0, slots := 0, locals := 0 }
set_option maxRecDepth 100000 in
set_option maxHeartbeats 4000000 in
theorem c_Queue_remove (l : Launch) (G : kx_G) (h : Nat) (a1 : Nat) (a2 : Nat) (u : sg_queue) (p0 : Int32) (v : sg_queue) (hF : f_Queue_remove u p0 = some v) : CtV l y_Queue_remove b_Queue_remove 3 rm_Queue_remove G [.ref h, .int p0] [(h, .inr (2, [.ref a1, .ref a2, .int u.1])), (a1, .inl (G.2 0, 8, .inl u.2.1)), (a2, .inl (G.2 0, 8, .inl u.2.2))] (fun w : sg_queue => v = w) (fun w => [(h, .inr (2, [.ref a1, .ref a2, .int w.1])), (a1, .inl (G.2 0, 8, .inl w.2.1)), (a2, .inl (G.2 0, 8, .inl w.2.2))]) 0 0 := by
  refine CtV.of (by decide) (Nat.le_of_ble_eq_true rfl) [(0, .ref h), (1, .int p0)] rfl ?_
  intro p e s m args below meth c A ls Q hQ S hr hlocks hin F w hl
  have S : CallFix p m c b_Queue_remove 3 s args kx_T "PrefetchRules$Queue" := S
  obtain ⟨hx, hb, hml, hown, hts⟩ := id S
  have w : kx_W G A s ([(h, .inr (2, [.ref a1, .ref a2, .int u.1])), (a1, .inl (G.2 0, 8, .inl u.2.1)), (a2, .inl (G.2 0, 8, .inl u.2.2))] ++ []) s.heap [] := w
  unfold f_Queue_remove at hF
  refine lv_iload_n hx hb d_Queue_remove_0 rfl (lv_at hl 1 rfl) ?_
  refine lv_if_lt (tgt := 12) hx hb d_Queue_remove_1 (by decide) (fun c1 => ?_) (fun c1 => ?_)
  · have hF := kx_t c1 hF
    obtain rfl := Option.some.inj hF
    exact kx_vret hQ S hr hlocks w (xo := [(h, .inr (2, [.ref a1, .ref a2, .int u.1])), (a1, .inl (G.2 0, 8, .inl u.2.1)), (a2, .inl (G.2 0, 8, .inl u.2.2))]) [0, 1, 2] rfl rfl u rfl rfl d_Queue_remove_12
  · have hF := kx_f c1 hF
    refine lv_iload_n hx hb d_Queue_remove_4 rfl (lv_at hl 1 rfl) ?_
    refine lv_aload_n hx hb d_Queue_remove_5 rfl (lv_at hl 0 rfl) ?_
    refine kx_get S F w kc_Queue 0 rfl 2 (by decide) kw_6 rfl d_Queue_remove_6 ?_
    refine lv_icmp_lt (tgt := 13) hx hb d_Queue_remove_9 (by decide) (fun c9 => ?_) (fun c9 => ?_)
    · have hF := kx_t c9 hF
      refine lv_aload_n hx hb d_Queue_remove_13 rfl (lv_at hl 0 rfl) ?_
      refine lv_dup hx hb d_Queue_remove_14 rfl ?_
      refine kx_get S F w kc_Queue 0 rfl 2 (by decide) kw_6 rfl d_Queue_remove_15 ?_
      refine lv_iconst (v := (1 : Int32)) hx hb d_Queue_remove_18 (by decide) ?_
      refine lv_isub hx hb d_Queue_remove_19 ?_
      refine kx_put S F w kc_Queue 0 rfl 2 (by decide) kw_6 rfl rfl rfl (Nat.le_of_ble_eq_true rfl) d_Queue_remove_20 (fun H locs w => ?_)
      have w : kx_W G A s ([(h, .inr (2, [.ref a1, .ref a2, .int (u.1 - (1 : Int32))])), (a1, .inl (G.2 0, 8, .inl u.2.1)), (a2, .inl (G.2 0, 8, .inl u.2.2))] ++ []) H locs := w
      refine lv_iload_n hx hb d_Queue_remove_23 rfl (lv_at hl 1 rfl) ?_
      refine lv_istore_n (lv' := [(2, .int p0), (0, .ref h), (1, .int p0)]) hx hb d_Queue_remove_24 rfl hl (by decide) rfl (fun ls hl => ?_)
      have L25 : ∀ (n25 : Nat) (x2 : Int32) (x1 : Int32) (u25 : sg_queue), lp_Queue_remove_25 n25 x2 x1 u25 = some v → ∀ (H : Heap) (locs : List Loc) (ls : Array Slot), kx_W G A s ([(h, .inr (2, [.ref a1, .ref a2, .int u25.1])), (a1, .inl (G.2 0, 8, .inl u25.2.1)), (a2, .inl (G.2 0, 8, .inl u25.2.2))] ++ []) H locs → lv_has ls 3 [(2, .int x2), (0, .ref h), (1, .int x1)] → W p l e rm_Queue_remove s m args below meth c H locs 0 0 Q (F0 m 25 ls []) := by
        intro n25
        induction n25 with
        | zero =>
          intro x2 x1 u25 hF
          rw [lp_Queue_remove_25] at hF
          cases hF
        | succ n25 ih25 =>
          intro x2 x1 u25 hF H locs ls w hl
          rw [lp_Queue_remove_25] at hF
          refine lv_iload_n hx hb d_Queue_remove_25 rfl (lv_at hl 0 rfl) ?_
          refine lv_aload_n hx hb d_Queue_remove_26 rfl (lv_at hl 1 rfl) ?_
          refine kx_get S F w kc_Queue 0 rfl 2 (by decide) kw_6 rfl d_Queue_remove_27 ?_
          refine lv_icmp_ge (tgt := 67) hx hb d_Queue_remove_30 (by decide) (fun c30 => ?_) (fun c30 => ?_)
          · have hF := kx_t c30 hF
            obtain rfl := Option.some.inj hF
            exact kx_vret hQ S hr hlocks w (xo := [(h, .inr (2, [.ref a1, .ref a2, .int u25.1])), (a1, .inl (G.2 0, 8, .inl u25.2.1)), (a2, .inl (G.2 0, 8, .inl u25.2.2))]) [0, 1, 2] rfl rfl u25 rfl rfl d_Queue_remove_67
          · have hF := kx_f c30 hF
            refine lv_aload_n hx hb d_Queue_remove_33 rfl (lv_at hl 1 rfl) ?_
            refine kx_get S F w kc_Queue 0 rfl 0 (by decide) kw_7 rfl d_Queue_remove_34 ?_
            refine lv_iload_n hx hb d_Queue_remove_37 rfl (lv_at hl 0 rfl) ?_
            refine lv_aload_n hx hb d_Queue_remove_38 rfl (lv_at hl 1 rfl) ?_
            refine kx_get S F w kc_Queue 0 rfl 0 (by decide) kw_7 rfl d_Queue_remove_39 ?_
            refine lv_iload_n hx hb d_Queue_remove_42 rfl (lv_at hl 0 rfl) ?_
            refine lv_iconst (v := (1 : Int32)) hx hb d_Queue_remove_43 (by decide) ?_
            refine lv_iadd hx hb d_Queue_remove_44 ?_
            obtain ⟨hi45, hF⟩ := kx_ar hF
            refine kx_iald S F w 1 rfl hi45 d_Queue_remove_45 ?_
            obtain ⟨hi46, hF⟩ := kx_ar hF
            refine kx_iast S F w 1 rfl hi46 d_Queue_remove_46 (fun H locs w => ?_)
            have w : kx_W G A s ([(h, .inr (2, [.ref a1, .ref a2, .int u25.1])), (a1, .inl (G.2 0, 8, .inl (upd u25.2.1 x2.toNatClampNeg (u25.2.1 (x2 + (1 : Int32)).toNatClampNeg)))), (a2, .inl (G.2 0, 8, .inl u25.2.2))] ++ []) H locs := w
            refine lv_aload_n hx hb d_Queue_remove_47 rfl (lv_at hl 1 rfl) ?_
            refine kx_get S F w kc_Queue 0 rfl 1 (by decide) kw_8 rfl d_Queue_remove_48 ?_
            refine lv_iload_n hx hb d_Queue_remove_51 rfl (lv_at hl 0 rfl) ?_
            refine lv_aload_n hx hb d_Queue_remove_52 rfl (lv_at hl 1 rfl) ?_
            refine kx_get S F w kc_Queue 0 rfl 1 (by decide) kw_8 rfl d_Queue_remove_53 ?_
            refine lv_iload_n hx hb d_Queue_remove_56 rfl (lv_at hl 0 rfl) ?_
            refine lv_iconst (v := (1 : Int32)) hx hb d_Queue_remove_57 (by decide) ?_
            refine lv_iadd hx hb d_Queue_remove_58 ?_
            obtain ⟨hi59, hF⟩ := kx_ar hF
            refine kx_iald S F w 2 rfl hi59 d_Queue_remove_59 ?_
            obtain ⟨hi60, hF⟩ := kx_ar hF
            refine kx_iast S F w 2 rfl hi60 d_Queue_remove_60 (fun H locs w => ?_)
            have w : kx_W G A s ([(h, .inr (2, [.ref a1, .ref a2, .int u25.1])), (a1, .inl (G.2 0, 8, .inl (upd u25.2.1 x2.toNatClampNeg (u25.2.1 (x2 + (1 : Int32)).toNatClampNeg)))), (a2, .inl (G.2 0, 8, .inl (upd u25.2.2 x2.toNatClampNeg (u25.2.2 (x2 + (1 : Int32)).toNatClampNeg))))] ++ []) H locs := w
            refine lv_iinc (v := x2 + 1) (lv' := [(2, .int (x2 + 1)), (0, .ref h), (1, .int x1)]) hx hb d_Queue_remove_61 hl (k := 0) rfl (by rfl) (by decide) rfl (fun ls hl => ?_)
            refine lv_goto (tgt := 25) hx hb d_Queue_remove_64 (by decide) ?_
            exact ih25 (x2 + 1) x1 (u25.1, upd u25.2.1 x2.toNatClampNeg (u25.2.1 (x2 + (1 : Int32)).toNatClampNeg), upd u25.2.2 x2.toNatClampNeg (u25.2.2 (x2 + (1 : Int32)).toNatClampNeg)) hF H locs ls (w.perm [0, 1, 2] rfl rfl) (lv_sub hl [0, 1, 2] rfl)
      exact L25 1000 p0 p0 (u.1 - (1 : Int32), u.2) hF H locs ls w hl
    · have hF := kx_f c9 hF
      obtain rfl := Option.some.inj hF
      exact kx_vret hQ S hr hlocks w (xo := [(h, .inr (2, [.ref a1, .ref a2, .int u.1])), (a1, .inl (G.2 0, 8, .inl u.2.1)), (a2, .inl (G.2 0, 8, .inl u.2.2))]) [0, 1, 2] rfl rfl u rfl rfl d_Queue_remove_12
/-! Queue_clear -/
def f_Queue_clear (u : sg_queue) : Option (sg_queue) := some ((0 : Int32), u.2)
def rm_Queue_clear : Room := { frames := 0, cells := 0, slots := 0, locals := 0 }
set_option maxRecDepth 100000 in
set_option maxHeartbeats 4000000 in
theorem c_Queue_clear (l : Launch) (G : kx_G) (h : Nat) (a1 : Nat) (a2 : Nat) (u : sg_queue) (v : sg_queue) (hF : f_Queue_clear u = some v) : CtV l y_Queue_clear b_Queue_clear 1 rm_Queue_clear G [.ref h] [(h, .inr (2, [.ref a1, .ref a2, .int u.1])), (a1, .inl (G.2 0, 8, .inl u.2.1)), (a2, .inl (G.2 0, 8, .inl u.2.2))] (fun w : sg_queue => v = w) (fun w => [(h, .inr (2, [.ref a1, .ref a2, .int w.1])), (a1, .inl (G.2 0, 8, .inl w.2.1)), (a2, .inl (G.2 0, 8, .inl w.2.2))]) 0 0 := by
  refine CtV.of (by decide) (Nat.le_of_ble_eq_true rfl) [(0, .ref h)] rfl ?_
  intro p e s m args below meth c A ls Q hQ S hr hlocks hin F w hl
  have S : CallFix p m c b_Queue_clear 1 s args kx_T "PrefetchRules$Queue" := S
  obtain ⟨hx, hb, hml, hown, hts⟩ := id S
  have w : kx_W G A s ([(h, .inr (2, [.ref a1, .ref a2, .int u.1])), (a1, .inl (G.2 0, 8, .inl u.2.1)), (a2, .inl (G.2 0, 8, .inl u.2.2))] ++ []) s.heap [] := w
  unfold f_Queue_clear at hF
  refine lv_aload_n hx hb d_Queue_clear_0 rfl (lv_at hl 0 rfl) ?_
  refine lv_iconst (v := (0 : Int32)) hx hb d_Queue_clear_1 (by decide) ?_
  refine kx_put S F w kc_Queue 0 rfl 2 (by decide) kw_6 rfl rfl rfl (Nat.le_of_ble_eq_true rfl) d_Queue_clear_2 (fun H locs w => ?_)
  have w : kx_W G A s ([(h, .inr (2, [.ref a1, .ref a2, .int (0 : Int32)])), (a1, .inl (G.2 0, 8, .inl u.2.1)), (a2, .inl (G.2 0, 8, .inl u.2.2))] ++ []) H locs := w
  obtain rfl := Option.some.inj hF
  exact kx_vret hQ S hr hlocks w (xo := [(h, .inr (2, [.ref a1, .ref a2, .int (0 : Int32)])), (a1, .inl (G.2 0, 8, .inl u.2.1)), (a2, .inl (G.2 0, 8, .inl u.2.2))]) [0, 1, 2] rfl rfl ((0 : Int32), u.2) rfl rfl d_Queue_clear_5
/-! Store_init -/
def rm_Store_init : Room := { frames := 1, cells := 2, slots := 128, locals := 20 }
set_option maxRecDepth 100000 in
set_option maxHeartbeats 4000000 in
theorem c_Store_init (l : Launch) (G : kx_G) (h : Nat) (N : Nat) (p0 : Int32) (hn : ¬ p0 < 0) (hN : p0.toNatClampNeg = N) (h64 : N ≤ 64) : CtV l y_Store_init b_Store_init 2 rm_Store_init G [.ref h, .int p0] [(h, .inr (1, [.null, .null, .int 0]))] (fun (_ : Nat × Nat) => True) (fun w => [(h, .inr (1, [.ref w.1, .ref w.2, .int 0])), (w.1, .inl (G.2 0, N, .inl (fun _ => 0))), (w.2, .inl (G.2 1, N, .inl (fun _ => 0)))]) 2 128 := by
  refine CtV.of (by decide) (Nat.le_of_ble_eq_true rfl) [(0, .ref h), (1, .int p0)] rfl ?_
  intro p e s m args below meth c A ls Q hQ S hr hlocks hin F w hl
  have S : CallFix p m c b_Store_init 2 s args kx_T "PrefetchRules$Store" := S
  obtain ⟨hx, hb, hml, hown, hts⟩ := id S
  have w : kx_W G A s ([(h, .inr (1, [.null, .null, .int 0]))] ++ []) s.heap [] := w
  refine lv_aload_n hx hb d_Store_init_0 rfl (lv_at hl 0 rfl) ?_
  refine kx_obj S kw_108 kw_109 kw_110 hl.1 d_Store_init_1 (Nat.le_of_ble_eq_true rfl) (Nat.le_of_ble_eq_true rfl) ?_
  refine lv_aload_n hx hb d_Store_init_4 rfl (lv_at hl 0 rfl) ?_
  refine lv_iload_n hx hb d_Store_init_5 rfl (lv_at hl 1 rfl) ?_
  refine kx_newi S F w kw_111 (N' := N) hn hN (by omega) (Nat.le_of_ble_eq_true rfl) (by show _ ≤ 128; omega) d_Store_init_6 (fun b6 H w => ?_)
  have w : kx_W G A s ([(h, .inr (1, [.null, .null, .int 0])), (b6, .inl (G.2 0, N, .inl (fun _ => 0)))] ++ []) H [] := w
  refine kx_putF S F w kc_Store 0 rfl 0 (by decide) kw_2 rfl hin rfl rfl rfl (Nat.le_of_ble_eq_true rfl) d_Store_init_8 (fun H locs w => ?_)
  have w : kx_W G A s ([(h, .inr (1, [.ref b6, .null, .int 0])), (b6, .inl (G.2 0, N, .inl (fun _ => 0)))] ++ []) H locs := w
  refine lv_aload_n hx hb d_Store_init_11 rfl (lv_at hl 0 rfl) ?_
  refine lv_iload_n hx hb d_Store_init_12 rfl (lv_at hl 1 rfl) ?_
  refine kx_newz S F w kw_112 (N' := N) hn hN (by omega) (Nat.le_of_ble_eq_true rfl) (by show _ ≤ 128; omega) d_Store_init_13 (fun b13 H w => ?_)
  have w : kx_W G A s ([(h, .inr (1, [.ref b6, .null, .int 0])), (b6, .inl (G.2 0, N, .inl (fun _ => 0))), (b13, .inl (G.2 1, N, .inl (fun _ => 0)))] ++ []) H locs := w
  refine kx_putF S F w kc_Store 0 rfl 1 (by decide) kw_3 rfl hin rfl rfl rfl (Nat.le_of_ble_eq_true rfl) d_Store_init_15 (fun H locs w => ?_)
  have w : kx_W G A s ([(h, .inr (1, [.ref b6, .ref b13, .int 0])), (b6, .inl (G.2 0, N, .inl (fun _ => 0))), (b13, .inl (G.2 1, N, .inl (fun _ => 0)))] ++ []) H locs := w
  refine W.widen (k := 2) (n := 128) (Nat.le_of_ble_eq_true rfl) (by omega) ?_
  exact kx_vret hQ S hr hlocks w (xo := [(h, .inr (1, [.ref b6, .ref b13, .int 0])), (b6, .inl (G.2 0, N, .inl (fun _ => 0))), (b13, .inl (G.2 1, N, .inl (fun _ => 0)))]) [0, 1, 2] rfl rfl (b6, b13) rfl trivial d_Store_init_18
/-! Queue_init -/
def rm_Queue_init : Room := { frames := 1, cells := 2, slots := 16, locals := 20 }
set_option maxRecDepth 100000 in
set_option maxHeartbeats 4000000 in
theorem c_Queue_init (l : Launch) (G : kx_G) (h : Nat) : CtV l y_Queue_init b_Queue_init 1 rm_Queue_init G [.ref h] [(h, .inr (2, [.null, .null, .int 0]))] (fun (_ : Nat × Nat) => True) (fun w => [(h, .inr (2, [.ref w.1, .ref w.2, .int 0])), (w.1, .inl (G.2 0, 8, .inl (fun _ => 0))), (w.2, .inl (G.2 0, 8, .inl (fun _ => 0)))]) 2 16 := by
  refine CtV.of (by decide) (Nat.le_of_ble_eq_true rfl) [(0, .ref h)] rfl ?_
  intro p e s m args below meth c A ls Q hQ S hr hlocks hin F w hl
  have S : CallFix p m c b_Queue_init 1 s args kx_T "PrefetchRules$Queue" := S
  obtain ⟨hx, hb, hml, hown, hts⟩ := id S
  have w : kx_W G A s ([(h, .inr (2, [.null, .null, .int 0]))] ++ []) s.heap [] := w
  refine lv_aload_n hx hb d_Queue_init_0 rfl (lv_at hl 0 rfl) ?_
  refine kx_obj S kw_113 kw_109 kw_110 hl.1 d_Queue_init_1 (Nat.le_of_ble_eq_true rfl) (Nat.le_of_ble_eq_true rfl) ?_
  refine lv_aload_n hx hb d_Queue_init_4 rfl (lv_at hl 0 rfl) ?_
  refine lv_bipush (v := (8 : Int32)) hx hb d_Queue_init_5 (by decide) ?_
  refine kx_newi S F w kw_111 (N' := 8) (by decide) (by decide) (by decide) (Nat.le_of_ble_eq_true rfl) (Nat.le_of_ble_eq_true rfl) d_Queue_init_7 (fun b7 H w => ?_)
  have w : kx_W G A s ([(h, .inr (2, [.null, .null, .int 0])), (b7, .inl (G.2 0, 8, .inl (fun _ => 0)))] ++ []) H [] := w
  refine kx_putF S F w kc_Queue 0 rfl 0 (by decide) kw_7 rfl hin rfl rfl rfl (Nat.le_of_ble_eq_true rfl) d_Queue_init_9 (fun H locs w => ?_)
  have w : kx_W G A s ([(h, .inr (2, [.ref b7, .null, .int 0])), (b7, .inl (G.2 0, 8, .inl (fun _ => 0)))] ++ []) H locs := w
  refine lv_aload_n hx hb d_Queue_init_12 rfl (lv_at hl 0 rfl) ?_
  refine lv_bipush (v := (8 : Int32)) hx hb d_Queue_init_13 (by decide) ?_
  refine kx_newi S F w kw_111 (N' := 8) (by decide) (by decide) (by decide) (Nat.le_of_ble_eq_true rfl) (Nat.le_of_ble_eq_true rfl) d_Queue_init_15 (fun b15 H w => ?_)
  have w : kx_W G A s ([(h, .inr (2, [.ref b7, .null, .int 0])), (b7, .inl (G.2 0, 8, .inl (fun _ => 0))), (b15, .inl (G.2 0, 8, .inl (fun _ => 0)))] ++ []) H locs := w
  refine kx_putF S F w kc_Queue 0 rfl 1 (by decide) kw_8 rfl hin rfl rfl rfl (Nat.le_of_ble_eq_true rfl) d_Queue_init_17 (fun H locs w => ?_)
  have w : kx_W G A s ([(h, .inr (2, [.ref b7, .ref b15, .int 0])), (b7, .inl (G.2 0, 8, .inl (fun _ => 0))), (b15, .inl (G.2 0, 8, .inl (fun _ => 0)))] ++ []) H locs := w
  refine W.widen (k := 2) (n := 16) (Nat.le_of_ble_eq_true rfl) (Nat.le_of_ble_eq_true rfl) ?_
  exact kx_vret hQ S hr hlocks w (xo := [(h, .inr (2, [.ref b7, .ref b15, .int 0])), (b7, .inl (G.2 0, 8, .inl (fun _ => 0))), (b15, .inl (G.2 0, 8, .inl (fun _ => 0)))]) [0, 1, 2] rfl rfl (b7, b15) rfl trivial d_Queue_init_20
end
section
/-! Rule_degree -/
def f_Rule_degree (d : Int32) (u : sg_rule) : Option (Int32) := some d
def rm_Rule_degree : Room := { frames := 0, cells := 0, slots := 0, locals := 0 }
set_option maxRecDepth 100000 in
set_option maxHeartbeats 4000000 in
theorem c_Rule_degree (l : Launch) (G : kx_G) (ki : Nat) (KC : String) (KT : u_T) (KN : Nat) (kt : Nat → FieldType) (h : Nat) (sa : Nat) (d : Int32) (fr : List Value) (hK : kx_rule ki KC KT KN kt) (u : sg_rule) (v : Int32) (hF : f_Rule_degree d u = some v) : CtI l y_Rule_degree b_Rule_degree 1 (some .int) rm_Rule_degree G [.ref h] [(h, .inr (ki, .int d :: .ref sa :: .int u.1 :: fr)), (sa, .inl (G.2 0, 4, .inl u.2))] (fun (r : Int32) (_ : Unit) => v = r) (fun _ => [(h, .inr (ki, .int d :: .ref sa :: .int u.1 :: fr)), (sa, .inl (G.2 0, 4, .inl u.2))]) 0 0 := by
  refine CtI.of (by decide) (Nat.le_of_ble_eq_true rfl) [(0, .ref h)] rfl ?_
  intro p e s m args below meth c A ls Q hQ S hr hlocks F w hl
  have S : CallFix p m c b_Rule_degree 1 s args kx_T "PrefetchRules$Rule" := S
  obtain ⟨hx, hb, hml, hown, hts⟩ := id S
  have w : kx_W G A s ([(h, .inr (ki, .int d :: .ref sa :: .int u.1 :: fr)), (sa, .inl (G.2 0, 4, .inl u.2))] ++ []) s.heap [] := w
  unfold f_Rule_degree at hF
  refine lv_aload_n hx hb d_Rule_degree_0 rfl (lv_at hl 0 rfl) ?_
  refine kx_get S F w hK.1 0 rfl 0 (hK.lt (by decide)) (by rw [hK.t0]; exact kw_10) rfl d_Rule_degree_1 ?_
  obtain rfl := Option.some.inj hF
  exact kx_iret hQ S hr hlocks w (xo := [(h, .inr (ki, .int d :: .ref sa :: .int u.1 :: fr)), (sa, .inl (G.2 0, 4, .inl u.2))]) [0, 1] rfl rfl () rfl rfl d_Rule_degree_4
/-! Rule_say -/
def f_Rule_say (d : Int32) (u : sg_rule) (p0 : Int32) : Option (sg_rule) := (if (nI 4) ≤ u.1 then some u else (if (u.1 < 0 ∨ 4 ≤ u.1.toNatClampNeg) then none else some (u.1 + (1 : Int32), upd u.2 u.1.toNatClampNeg p0)))
def rm_Rule_say : Room := { frames := 0, cells := 0, slots := 0, locals := 0 }
set_option maxRecDepth 100000 in
set_option maxHeartbeats 4000000 in
theorem c_Rule_say (l : Launch) (G : kx_G) (ki : Nat) (KC : String) (KT : u_T) (KN : Nat) (kt : Nat → FieldType) (h : Nat) (sa : Nat) (d : Int32) (fr : List Value) (hK : kx_rule ki KC KT KN kt) (u : sg_rule) (p0 : Int32) (v : sg_rule) (hF : f_Rule_say d u p0 = some v) : CtV l y_Rule_say b_Rule_say 2 rm_Rule_say G [.ref h, .int p0] [(h, .inr (ki, .int d :: .ref sa :: .int u.1 :: fr)), (sa, .inl (G.2 0, 4, .inl u.2))] (fun w : sg_rule => v = w) (fun w => [(h, .inr (ki, .int d :: .ref sa :: .int w.1 :: fr)), (sa, .inl (G.2 0, 4, .inl w.2))]) 0 0 := by
  refine CtV.of (by decide) (Nat.le_of_ble_eq_true rfl) [(0, .ref h), (1, .int p0)] rfl ?_
  intro p e s m args below meth c A ls Q hQ S hr hlocks hin F w hl
  have S : CallFix p m c b_Rule_say 2 s args kx_T "PrefetchRules$Rule" := S
  obtain ⟨hx, hb, hml, hown, hts⟩ := id S
  have w : kx_W G A s ([(h, .inr (ki, .int d :: .ref sa :: .int u.1 :: fr)), (sa, .inl (G.2 0, 4, .inl u.2))] ++ []) s.heap [] := w
  unfold f_Rule_say at hF
  refine lv_aload_n hx hb d_Rule_say_0 rfl (lv_at hl 0 rfl) ?_
  refine kx_get S F w hK.1 0 rfl 2 (hK.lt (by decide)) (by rw [hK.t2]; exact kw_11) rfl d_Rule_say_1 ?_
  refine lv_aload_n hx hb d_Rule_say_4 rfl (lv_at hl 0 rfl) ?_
  refine kx_get S F w hK.1 0 rfl 1 (hK.lt (by decide)) (by rw [hK.t1]; exact kw_12) rfl d_Rule_say_5 ?_
  refine kx_alen S F w 1 0 rfl rfl d_Rule_say_8 ?_
  refine lv_icmp_ge (tgt := 32) hx hb d_Rule_say_9 (by decide) (fun c9 => ?_) (fun c9 => ?_)
  · have hF := kx_t c9 hF
    obtain rfl := Option.some.inj hF
    exact kx_vret hQ S hr hlocks w (xo := [(h, .inr (ki, .int d :: .ref sa :: .int u.1 :: fr)), (sa, .inl (G.2 0, 4, .inl u.2))]) [0, 1] rfl rfl u rfl rfl d_Rule_say_32
  · have hF := kx_f c9 hF
    refine lv_aload_n hx hb d_Rule_say_12 rfl (lv_at hl 0 rfl) ?_
    refine kx_get S F w hK.1 0 rfl 1 (hK.lt (by decide)) (by rw [hK.t1]; exact kw_12) rfl d_Rule_say_13 ?_
    refine lv_aload_n hx hb d_Rule_say_16 rfl (lv_at hl 0 rfl) ?_
    refine kx_get S F w hK.1 0 rfl 2 (hK.lt (by decide)) (by rw [hK.t2]; exact kw_11) rfl d_Rule_say_17 ?_
    refine lv_iload_n hx hb d_Rule_say_20 rfl (lv_at hl 1 rfl) ?_
    obtain ⟨hi21, hF⟩ := kx_ar hF
    refine kx_iast S F w 1 rfl hi21 d_Rule_say_21 (fun H locs w => ?_)
    have w : kx_W G A s ([(h, .inr (ki, .int d :: .ref sa :: .int u.1 :: fr)), (sa, .inl (G.2 0, 4, .inl (upd u.2 u.1.toNatClampNeg p0)))] ++ []) H locs := w
    refine lv_aload_n hx hb d_Rule_say_22 rfl (lv_at hl 0 rfl) ?_
    refine lv_dup hx hb d_Rule_say_23 rfl ?_
    refine kx_get S F w hK.1 0 rfl 2 (hK.lt (by decide)) (by rw [hK.t2]; exact kw_11) rfl d_Rule_say_24 ?_
    refine lv_iconst (v := (1 : Int32)) hx hb d_Rule_say_27 (by decide) ?_
    refine lv_iadd hx hb d_Rule_say_28 ?_
    refine kx_put S F w hK.1 0 rfl 2 (hK.lt (by decide)) (by rw [hK.t2]; exact kw_11) (by rw [hK.t2]) (by rw [hK.y2]; rfl) (by rw [hK.y2]; rfl) (by simp) d_Rule_say_29 (fun H locs w => ?_)
    have w : kx_W G A s ([(h, .inr (ki, .int d :: .ref sa :: .int (u.1 + (1 : Int32)) :: fr)), (sa, .inl (G.2 0, 4, .inl (upd u.2 u.1.toNatClampNeg p0)))] ++ []) H locs := w
    obtain rfl := Option.some.inj hF
    exact kx_vret hQ S hr hlocks w (xo := [(h, .inr (ki, .int d :: .ref sa :: .int (u.1 + (1 : Int32)) :: fr)), (sa, .inl (G.2 0, 4, .inl (upd u.2 u.1.toNatClampNeg p0)))]) [0, 1] rfl rfl (u.1 + (1 : Int32), upd u.2 u.1.toNatClampNeg p0) rfl rfl d_Rule_say_32
/-! Rule_sayInSteps -/
def lp_Rule_sayInSteps_2 (d : Int32) : Nat → Int32 → Int32 → Int32 → sg_rule → Option (sg_rule)
  | 0, _, _, _, _ => none
  | n2 + 1, x3, x1, x2, u2 => (if d < x3 then some u2 else (f_Rule_say d u2 (x1 + (x3 * x2))).bind (fun q16 => lp_Rule_sayInSteps_2 d n2 (x3 + 1) x1 x2 q16))
def f_Rule_sayInSteps (d : Int32) (u : sg_rule) (p0 : Int32) (p1 : Int32) : Option (sg_rule) := lp_Rule_sayInSteps_2 d 1000 (1 : Int32) p0 p1 u
def rm_Rule_sayInSteps : Room := { frames := 1, cells := 0, slots := 0, locals := 21 }
set_option maxRecDepth 100000 in
set_option maxHeartbeats 4000000 in
theorem c_Rule_sayInSteps (l : Launch) (G : kx_G) (ki : Nat) (KC : String) (KT : u_T) (KN : Nat) (kt : Nat → FieldType) (h : Nat) (sa : Nat) (d : Int32) (fr : List Value) (hK : kx_rule ki KC KT KN kt) (u : sg_rule) (p0 : Int32) (p1 : Int32) (v : sg_rule) (hF : f_Rule_sayInSteps d u p0 p1 = some v) : CtV l y_Rule_sayInSteps b_Rule_sayInSteps 4 rm_Rule_sayInSteps G [.ref h, .int p0, .int p1] [(h, .inr (ki, .int d :: .ref sa :: .int u.1 :: fr)), (sa, .inl (G.2 0, 4, .inl u.2))] (fun w : sg_rule => v = w) (fun w => [(h, .inr (ki, .int d :: .ref sa :: .int w.1 :: fr)), (sa, .inl (G.2 0, 4, .inl w.2))]) 0 0 := by
  refine CtV.of (by decide) (Nat.le_of_ble_eq_true rfl) [(0, .ref h), (1, .int p0), (2, .int p1)] rfl ?_
  intro p e s m args below meth c A ls Q hQ S hr hlocks hin F w hl
  have S : CallFix p m c b_Rule_sayInSteps 4 s args kx_T "PrefetchRules$Rule" := S
  obtain ⟨hx, hb, hml, hown, hts⟩ := id S
  have w : kx_W G A s ([(h, .inr (ki, .int d :: .ref sa :: .int u.1 :: fr)), (sa, .inl (G.2 0, 4, .inl u.2))] ++ []) s.heap [] := w
  unfold f_Rule_sayInSteps at hF
  refine lv_iconst (v := (1 : Int32)) hx hb d_Rule_sayInSteps_0 (by decide) ?_
  refine lv_istore_n (lv' := [(3, .int (1 : Int32)), (0, .ref h), (1, .int p0), (2, .int p1)]) hx hb d_Rule_sayInSteps_1 rfl hl (by decide) rfl (fun ls hl => ?_)
  have L2 : ∀ (n2 : Nat) (x3 : Int32) (x1 : Int32) (x2 : Int32) (u2 : sg_rule), lp_Rule_sayInSteps_2 d n2 x3 x1 x2 u2 = some v → ∀ (H : Heap) (locs : List Loc) (ls : Array Slot), kx_W G A s ([(h, .inr (ki, .int d :: .ref sa :: .int u2.1 :: fr)), (sa, .inl (G.2 0, 4, .inl u2.2))] ++ []) H locs → lv_has ls 4 [(3, .int x3), (0, .ref h), (1, .int x1), (2, .int x2)] → W p l e rm_Rule_sayInSteps s m args below meth c H locs 0 0 Q (F0 m 2 ls []) := by
    intro n2
    induction n2 with
    | zero =>
      intro x3 x1 x2 u2 hF
      rw [lp_Rule_sayInSteps_2] at hF
      cases hF
    | succ n2 ih2 =>
      intro x3 x1 x2 u2 hF H locs ls w hl
      rw [lp_Rule_sayInSteps_2] at hF
      refine lv_iload_n hx hb d_Rule_sayInSteps_2 rfl (lv_at hl 0 rfl) ?_
      refine lv_aload_n hx hb d_Rule_sayInSteps_3 rfl (lv_at hl 1 rfl) ?_
      refine kx_get S F w hK.1 0 rfl 0 (hK.lt (by decide)) (by rw [hK.t0]; exact kw_10) rfl d_Rule_sayInSteps_4 ?_
      refine lv_icmp_gt (tgt := 25) hx hb d_Rule_sayInSteps_7 (by decide) (fun c7 => ?_) (fun c7 => ?_)
      · have hF := kx_t c7 hF
        obtain rfl := Option.some.inj hF
        exact kx_vret hQ S hr hlocks w (xo := [(h, .inr (ki, .int d :: .ref sa :: .int u2.1 :: fr)), (sa, .inl (G.2 0, 4, .inl u2.2))]) [0, 1] rfl rfl u2 rfl rfl d_Rule_sayInSteps_25
      · have hF := kx_f c7 hF
        refine lv_aload_n hx hb d_Rule_sayInSteps_10 rfl (lv_at hl 1 rfl) ?_
        refine lv_iload_n hx hb d_Rule_sayInSteps_11 rfl (lv_at hl 2 rfl) ?_
        refine lv_iload_n hx hb d_Rule_sayInSteps_12 rfl (lv_at hl 0 rfl) ?_
        refine lv_iload_n hx hb d_Rule_sayInSteps_13 rfl (lv_at hl 3 rfl) ?_
        refine lv_imul hx hb d_Rule_sayInSteps_14 ?_
        refine lv_iadd hx hb d_Rule_sayInSteps_15 ?_
        obtain ⟨q16, hq16, hF⟩ := kx_bd hF
        refine kx_cv (cx := [(h, .inr (ki, .int d :: .ref sa :: .int u2.1 :: fr)), (sa, .inl (G.2 0, 4, .inl u2.2))]) (wr := []) F w [0, 1] [] rfl rfl rfl (by decide) (va_runU (As := [.int (x1 + (x3 * x2))]) (rest := []) S (c_Rule_say l G ki KC KT KN kt h sa d fr hK u2 (x1 + (x3 * x2)) q16 hq16 _) (kx_cwU (n := 1) (x := ⟨"PrefetchRules$Rule", "say", "(I)V"⟩) S kw_13 kw_14 kw_15 (hK.s_say) kw_16 kw_17 rfl (by decide +kernel) ⟨rfl, rfl, Nat.le_of_ble_eq_true rfl, Nat.le_of_ble_eq_true rfl⟩) ⟨kx_blind _ _ _ _, va_recv (q0 := 0) F.1.1 w.1 hK.1.1 rfl, kx_pre F w [0, 1] rfl rfl⟩ rfl rfl hl.1 rfl (lv_room (Nat.le_of_ble_eq_true rfl)) d_Rule_sayInSteps_16 ⟨Nat.le_of_ble_eq_true rfl, Nat.le_of_ble_eq_true rfl⟩) (fun w16 H locs hp w => ?_)
        subst hp
        have w : kx_W G A s ([(h, .inr (ki, .int d :: .ref sa :: .int q16.1 :: fr)), (sa, .inl (G.2 0, 4, .inl q16.2))] ++ []) H locs := w
        refine lv_iinc (v := x3 + 1) (lv' := [(3, .int (x3 + 1)), (0, .ref h), (1, .int x1), (2, .int x2)]) hx hb d_Rule_sayInSteps_19 hl (k := 0) rfl (by rfl) (by decide) rfl (fun ls hl => ?_)
        refine lv_goto (tgt := 2) hx hb d_Rule_sayInSteps_22 (by decide) ?_
        exact ih2 (x3 + 1) x1 x2 q16 hF H locs ls (w.perm [0, 1] rfl rfl) (lv_sub hl [0, 1, 2, 3] rfl)
  exact L2 1000 (1 : Int32) p0 p1 u hF s.heap [] ls w hl
/-! Next_learn -/
def f_Next_learn (d : Int32) (u : sg_next) (p0 : Int32) (p1 : Int32) : Option (sg_next) := (f_Rule_sayInSteps d u p1 (1 : Int32)).bind (fun q3 => some q3)
def rm_Next_learn : Room := { frames := 2, cells := 0, slots := 0, locals := 44 }
set_option maxRecDepth 100000 in
set_option maxHeartbeats 4000000 in
theorem c_Next_learn (l : Launch) (G : kx_G) (h : Nat) (sa : Nat) (d : Int32) (u : sg_next) (p0 : Int32) (p1 : Int32) (v : sg_next) (hF : f_Next_learn d u p0 p1 = some v) : CtV l y_Next_learn b_Next_learn 3 rm_Next_learn G [.ref h, .int p0, .int p1] [(h, .inr (3, [.int d, .ref sa, .int u.1])), (sa, .inl (G.2 0, 4, .inl u.2))] (fun w : sg_next => v = w) (fun w => [(h, .inr (3, [.int d, .ref sa, .int w.1])), (sa, .inl (G.2 0, 4, .inl w.2))]) 0 0 := by
  refine CtV.of (by decide) (Nat.le_of_ble_eq_true rfl) [(0, .ref h), (1, .int p0), (2, .int p1)] rfl ?_
  intro p e s m args below meth c A ls Q hQ S hr hlocks hin F w hl
  have S : CallFix p m c b_Next_learn 3 s args kx_T "PrefetchRules$Next" := S
  obtain ⟨hx, hb, hml, hown, hts⟩ := id S
  have w : kx_W G A s ([(h, .inr (3, [.int d, .ref sa, .int u.1])), (sa, .inl (G.2 0, 4, .inl u.2))] ++ []) s.heap [] := w
  unfold f_Next_learn at hF
  refine lv_aload_n hx hb d_Next_learn_0 rfl (lv_at hl 0 rfl) ?_
  refine lv_iload_n hx hb d_Next_learn_1 rfl (lv_at hl 2 rfl) ?_
  refine lv_iconst (v := (1 : Int32)) hx hb d_Next_learn_2 (by decide) ?_
  obtain ⟨q3, hq3, hF⟩ := kx_bd hF
  refine kx_cv (cx := [(h, .inr (3, [.int d, .ref sa, .int u.1])), (sa, .inl (G.2 0, 4, .inl u.2))]) (wr := []) F w [0, 1] [] rfl rfl rfl (by decide) (va_runU (As := [.int p1, .int (1 : Int32)]) (rest := []) S (c_Rule_sayInSteps l G 3 ("PrefetchRules$Next") F_Next 3 t_Next h sa d ([]) kr_Next u p1 (1 : Int32) q3 hq3 _) (kx_cwU (n := 2) (x := ⟨"PrefetchRules$Next", "sayInSteps", "(II)V"⟩) S kw_18 kw_19 kw_20 kw_21 kw_22 kw_17 rfl (by decide +kernel) ⟨rfl, rfl, Nat.le_of_ble_eq_true rfl, Nat.le_of_ble_eq_true rfl⟩) ⟨kx_blind _ _ _ _, va_recv (q0 := 0) F.1.1 w.1 kc_Next.1 rfl, kx_pre F w [0, 1] rfl rfl⟩ rfl rfl hl.1 rfl (lv_room (Nat.le_of_ble_eq_true rfl)) d_Next_learn_3 ⟨Nat.le_of_ble_eq_true rfl, Nat.le_of_ble_eq_true rfl⟩) (fun w3 H locs hp w => ?_)
  subst hp
  have w : kx_W G A s ([(h, .inr (3, [.int d, .ref sa, .int q3.1])), (sa, .inl (G.2 0, 4, .inl q3.2))] ++ []) H locs := w
  obtain rfl := Option.some.inj hF
  exact kx_vret hQ S hr hlocks w (xo := [(h, .inr (3, [.int d, .ref sa, .int q3.1])), (sa, .inl (G.2 0, 4, .inl q3.2))]) [0, 1] rfl rfl q3 rfl rfl d_Next_learn_6
/-! Next_knowledge -/
def f_Next_knowledge (d : Int32) (u : sg_next) (p0 : Int32) : Option (Int32) := some (0 : Int32)
def rm_Next_knowledge : Room := { frames := 2, cells := 0, slots := 0, locals := 44 }
set_option maxRecDepth 100000 in
set_option maxHeartbeats 4000000 in
theorem c_Next_knowledge (l : Launch) (G : kx_G) (h : Nat) (sa : Nat) (d : Int32) (u : sg_next) (p0 : Int32) (v : Int32) (hF : f_Next_knowledge d u p0 = some v) : CtI l y_Next_knowledge b_Next_knowledge 2 (some .int) rm_Next_knowledge G [.ref h, .int p0] [(h, .inr (3, [.int d, .ref sa, .int u.1])), (sa, .inl (G.2 0, 4, .inl u.2))] (fun (r : Int32) (_ : Unit) => v = r) (fun _ => [(h, .inr (3, [.int d, .ref sa, .int u.1])), (sa, .inl (G.2 0, 4, .inl u.2))]) 0 0 := by
  refine CtI.of (by decide) (Nat.le_of_ble_eq_true rfl) [(0, .ref h), (1, .int p0)] rfl ?_
  intro p e s m args below meth c A ls Q hQ S hr hlocks F w hl
  have S : CallFix p m c b_Next_knowledge 2 s args kx_T "PrefetchRules$Next" := S
  obtain ⟨hx, hb, hml, hown, hts⟩ := id S
  have w : kx_W G A s ([(h, .inr (3, [.int d, .ref sa, .int u.1])), (sa, .inl (G.2 0, 4, .inl u.2))] ++ []) s.heap [] := w
  unfold f_Next_knowledge at hF
  refine lv_iconst (v := (0 : Int32)) hx hb d_Next_knowledge_0 (by decide) ?_
  obtain rfl := Option.some.inj hF
  exact kx_iret hQ S hr hlocks w (xo := [(h, .inr (3, [.int d, .ref sa, .int u.1])), (sa, .inl (G.2 0, 4, .inl u.2))]) [0, 1] rfl rfl () rfl rfl d_Next_knowledge_1
/-! Next_confidence -/
def f_Next_confidence (d : Int32) (u : sg_next) (p0 : Int32) : Option (Int32) := some (0 : Int32)
def rm_Next_confidence : Room := { frames := 2, cells := 0, slots := 0, locals := 44 }
set_option maxRecDepth 100000 in
set_option maxHeartbeats 4000000 in
theorem c_Next_confidence (l : Launch) (G : kx_G) (h : Nat) (sa : Nat) (d : Int32) (u : sg_next) (p0 : Int32) (v : Int32) (hF : f_Next_confidence d u p0 = some v) : CtI l y_Next_confidence b_Next_confidence 2 (some .int) rm_Next_confidence G [.ref h, .int p0] [(h, .inr (3, [.int d, .ref sa, .int u.1])), (sa, .inl (G.2 0, 4, .inl u.2))] (fun (r : Int32) (_ : Unit) => v = r) (fun _ => [(h, .inr (3, [.int d, .ref sa, .int u.1])), (sa, .inl (G.2 0, 4, .inl u.2))]) 0 0 := by
  refine CtI.of (by decide) (Nat.le_of_ble_eq_true rfl) [(0, .ref h), (1, .int p0)] rfl ?_
  intro p e s m args below meth c A ls Q hQ S hr hlocks F w hl
  have S : CallFix p m c b_Next_confidence 2 s args kx_T "PrefetchRules$Next" := S
  obtain ⟨hx, hb, hml, hown, hts⟩ := id S
  have w : kx_W G A s ([(h, .inr (3, [.int d, .ref sa, .int u.1])), (sa, .inl (G.2 0, 4, .inl u.2))] ++ []) s.heap [] := w
  unfold f_Next_confidence at hF
  refine lv_iconst (v := (0 : Int32)) hx hb d_Next_confidence_0 (by decide) ?_
  obtain rfl := Option.some.inj hF
  exact kx_iret hQ S hr hlocks w (xo := [(h, .inr (3, [.int d, .ref sa, .int u.1])), (sa, .inl (G.2 0, 4, .inl u.2))]) [0, 1] rfl rfl () rfl rfl d_Next_confidence_1
/-! Next_hear -/
def f_Next_hear (d : Int32) (u : sg_next) (p0 : Int32) (p1 : Int32) : Option (sg_next) := (f_Next_learn d ((0 : Int32), u.2) p0 p1).bind (fun q8 => some q8)
def rm_Next_hear : Room := { frames := 4, cells := 0, slots := 0, locals := 87 }
set_option maxRecDepth 100000 in
set_option maxHeartbeats 4000000 in
theorem c_Next_hear (l : Launch) (G : kx_G) (h : Nat) (sa : Nat) (d : Int32) (u : sg_next) (p0 : Int32) (p1 : Int32) (v : sg_next) (hF : f_Next_hear d u p0 p1 = some v) : CtV l y_Rule_hear b_Rule_hear 3 rm_Next_hear G [.ref h, .int p0, .int p1] [(h, .inr (3, [.int d, .ref sa, .int u.1])), (sa, .inl (G.2 0, 4, .inl u.2))] (fun w : sg_next => v = w) (fun w => [(h, .inr (3, [.int d, .ref sa, .int w.1])), (sa, .inl (G.2 0, 4, .inl w.2))]) 0 0 := by
  refine CtV.of (by decide) (Nat.le_of_ble_eq_true rfl) [(0, .ref h), (1, .int p0), (2, .int p1)] rfl ?_
  intro p e s m args below meth c A ls Q hQ S hr hlocks hin F w hl
  have S : CallFix p m c b_Rule_hear 3 s args kx_T "PrefetchRules$Rule" := S
  obtain ⟨hx, hb, hml, hown, hts⟩ := id S
  have w : kx_W G A s ([(h, .inr (3, [.int d, .ref sa, .int u.1])), (sa, .inl (G.2 0, 4, .inl u.2))] ++ []) s.heap [] := w
  unfold f_Next_hear at hF
  refine lv_aload_n hx hb d_Rule_hear_0 rfl (lv_at hl 0 rfl) ?_
  refine lv_iconst (v := (0 : Int32)) hx hb d_Rule_hear_1 (by decide) ?_
  refine kx_put S F w kc_Next 0 rfl 2 (by decide) kw_11 rfl rfl rfl (Nat.le_of_ble_eq_true rfl) d_Rule_hear_2 (fun H locs w => ?_)
  have w : kx_W G A s ([(h, .inr (3, [.int d, .ref sa, .int (0 : Int32)])), (sa, .inl (G.2 0, 4, .inl u.2))] ++ []) H locs := w
  refine lv_aload_n hx hb d_Rule_hear_5 rfl (lv_at hl 0 rfl) ?_
  refine lv_iload_n hx hb d_Rule_hear_6 rfl (lv_at hl 1 rfl) ?_
  refine lv_iload_n hx hb d_Rule_hear_7 rfl (lv_at hl 2 rfl) ?_
  obtain ⟨q8, hq8, hF⟩ := kx_bd hF
  refine kx_cv (cx := [(h, .inr (3, [.int d, .ref sa, .int (0 : Int32)])), (sa, .inl (G.2 0, 4, .inl u.2))]) (wr := []) F w [0, 1] [] rfl rfl rfl (by decide) (va_runU (As := [.int p0, .int p1]) (rest := []) S (c_Next_learn l G h sa d ((0 : Int32), u.2) p0 p1 q8 hq8 _) (kx_cwA (n := 2) (x := ⟨"PrefetchRules$Rule", "learn", "(II)V"⟩) S F kw_85 kw_86 kw_87 kw_88 kw_89 kw_90 kw_91 (by decide +kernel) ⟨rfl, rfl, Nat.le_of_ble_eq_true rfl, Nat.le_of_ble_eq_true rfl⟩) ⟨kx_blind _ _ _ _, va_recv (q0 := 0) F.1.1 w.1 kc_Next.1 rfl, kx_pre F w [0, 1] rfl rfl⟩ rfl rfl hl.1 rfl (lv_room (Nat.le_of_ble_eq_true rfl)) d_Rule_hear_8 ⟨Nat.le_of_ble_eq_true rfl, Nat.le_of_ble_eq_true rfl⟩) (fun w8 H locs hp w => ?_)
  subst hp
  have w : kx_W G A s ([(h, .inr (3, [.int d, .ref sa, .int q8.1])), (sa, .inl (G.2 0, 4, .inl q8.2))] ++ []) H locs := w
  obtain rfl := Option.some.inj hF
  exact kx_vret hQ S hr hlocks w (xo := [(h, .inr (3, [.int d, .ref sa, .int q8.1])), (sa, .inl (G.2 0, 4, .inl q8.2))]) [0, 1] rfl rfl q8 rfl rfl d_Rule_hear_11
/-! Next_saidCount -/
def f_Next_saidCount (d : Int32) (u : sg_next) : Option (Int32) := some u.1
def rm_Next_saidCount : Room := { frames := 0, cells := 0, slots := 0, locals := 0 }
set_option maxRecDepth 100000 in
set_option maxHeartbeats 4000000 in
theorem c_Next_saidCount (l : Launch) (G : kx_G) (h : Nat) (sa : Nat) (d : Int32) (u : sg_next) (v : Int32) (hF : f_Next_saidCount d u = some v) : CtI l y_Rule_saidCount b_Rule_saidCount 1 (some .int) rm_Next_saidCount G [.ref h] [(h, .inr (3, [.int d, .ref sa, .int u.1])), (sa, .inl (G.2 0, 4, .inl u.2))] (fun (r : Int32) (_ : Unit) => v = r) (fun _ => [(h, .inr (3, [.int d, .ref sa, .int u.1])), (sa, .inl (G.2 0, 4, .inl u.2))]) 0 0 := by
  refine CtI.of (by decide) (Nat.le_of_ble_eq_true rfl) [(0, .ref h)] rfl ?_
  intro p e s m args below meth c A ls Q hQ S hr hlocks F w hl
  have S : CallFix p m c b_Rule_saidCount 1 s args kx_T "PrefetchRules$Rule" := S
  obtain ⟨hx, hb, hml, hown, hts⟩ := id S
  have w : kx_W G A s ([(h, .inr (3, [.int d, .ref sa, .int u.1])), (sa, .inl (G.2 0, 4, .inl u.2))] ++ []) s.heap [] := w
  unfold f_Next_saidCount at hF
  refine lv_aload_n hx hb d_Rule_saidCount_0 rfl (lv_at hl 0 rfl) ?_
  refine kx_get S F w kc_Next 0 rfl 2 (by decide) kw_11 rfl d_Rule_saidCount_1 ?_
  obtain rfl := Option.some.inj hF
  exact kx_iret hQ S hr hlocks w (xo := [(h, .inr (3, [.int d, .ref sa, .int u.1])), (sa, .inl (G.2 0, 4, .inl u.2))]) [0, 1] rfl rfl () rfl rfl d_Rule_saidCount_4
/-! Next_saidLine -/
def f_Next_saidLine (d : Int32) (u : sg_next) (p0 : Int32) : Option (Int32) := (if p0 < 0 then some (-1 : Int32) else (if u.1 ≤ p0 then some (-1 : Int32) else (if (p0 < 0 ∨ 4 ≤ p0.toNatClampNeg) then none else some (u.2 p0.toNatClampNeg))))
def rm_Next_saidLine : Room := { frames := 0, cells := 0, slots := 0, locals := 0 }
set_option maxRecDepth 100000 in
set_option maxHeartbeats 4000000 in
theorem c_Next_saidLine (l : Launch) (G : kx_G) (h : Nat) (sa : Nat) (d : Int32) (u : sg_next) (p0 : Int32) (v : Int32) (hF : f_Next_saidLine d u p0 = some v) : CtI l y_Rule_saidLine b_Rule_saidLine 2 (some .int) rm_Next_saidLine G [.ref h, .int p0] [(h, .inr (3, [.int d, .ref sa, .int u.1])), (sa, .inl (G.2 0, 4, .inl u.2))] (fun (r : Int32) (_ : Unit) => v = r) (fun _ => [(h, .inr (3, [.int d, .ref sa, .int u.1])), (sa, .inl (G.2 0, 4, .inl u.2))]) 0 0 := by
  refine CtI.of (by decide) (Nat.le_of_ble_eq_true rfl) [(0, .ref h), (1, .int p0)] rfl ?_
  intro p e s m args below meth c A ls Q hQ S hr hlocks F w hl
  have S : CallFix p m c b_Rule_saidLine 2 s args kx_T "PrefetchRules$Rule" := S
  obtain ⟨hx, hb, hml, hown, hts⟩ := id S
  have w : kx_W G A s ([(h, .inr (3, [.int d, .ref sa, .int u.1])), (sa, .inl (G.2 0, 4, .inl u.2))] ++ []) s.heap [] := w
  unfold f_Next_saidLine at hF
  refine lv_iload_n hx hb d_Rule_saidLine_0 rfl (lv_at hl 1 rfl) ?_
  refine lv_if_lt (tgt := 21) hx hb d_Rule_saidLine_1 (by decide) (fun c1 => ?_) (fun c1 => ?_)
  · have hF := kx_t c1 hF
    refine lv_iconst (v := (-1 : Int32)) hx hb d_Rule_saidLine_21 (by decide) ?_
    obtain rfl := Option.some.inj hF
    exact kx_iret hQ S hr hlocks w (xo := [(h, .inr (3, [.int d, .ref sa, .int u.1])), (sa, .inl (G.2 0, 4, .inl u.2))]) [0, 1] rfl rfl () rfl rfl d_Rule_saidLine_22
  · have hF := kx_f c1 hF
    refine lv_iload_n hx hb d_Rule_saidLine_4 rfl (lv_at hl 1 rfl) ?_
    refine lv_aload_n hx hb d_Rule_saidLine_5 rfl (lv_at hl 0 rfl) ?_
    refine kx_get S F w kc_Next 0 rfl 2 (by decide) kw_11 rfl d_Rule_saidLine_6 ?_
    refine lv_icmp_ge (tgt := 21) hx hb d_Rule_saidLine_9 (by decide) (fun c9 => ?_) (fun c9 => ?_)
    · have hF := kx_t c9 hF
      refine lv_iconst (v := (-1 : Int32)) hx hb d_Rule_saidLine_21 (by decide) ?_
      obtain rfl := Option.some.inj hF
      exact kx_iret hQ S hr hlocks w (xo := [(h, .inr (3, [.int d, .ref sa, .int u.1])), (sa, .inl (G.2 0, 4, .inl u.2))]) [0, 1] rfl rfl () rfl rfl d_Rule_saidLine_22
    · have hF := kx_f c9 hF
      refine lv_aload_n hx hb d_Rule_saidLine_12 rfl (lv_at hl 0 rfl) ?_
      refine kx_get S F w kc_Next 0 rfl 1 (by decide) kw_12 rfl d_Rule_saidLine_13 ?_
      refine lv_iload_n hx hb d_Rule_saidLine_16 rfl (lv_at hl 1 rfl) ?_
      obtain ⟨hi17, hF⟩ := kx_ar hF
      refine kx_iald S F w 1 rfl hi17 d_Rule_saidLine_17 ?_
      refine lv_goto (tgt := 22) hx hb d_Rule_saidLine_18 (by decide) ?_
      obtain rfl := Option.some.inj hF
      exact kx_iret hQ S hr hlocks w (xo := [(h, .inr (3, [.int d, .ref sa, .int u.1])), (sa, .inl (G.2 0, 4, .inl u.2))]) [0, 1] rfl rfl () rfl rfl d_Rule_saidLine_22
/-! Next_roundCount -/
def f_Next_roundCount (d : Int32) (u : sg_next) : Option (Int32) := some (0 : Int32)
def rm_Next_roundCount : Room := { frames := 0, cells := 0, slots := 0, locals := 0 }
set_option maxRecDepth 100000 in
set_option maxHeartbeats 4000000 in
theorem c_Next_roundCount (l : Launch) (G : kx_G) (h : Nat) (sa : Nat) (d : Int32) (u : sg_next) (v : Int32) (hF : f_Next_roundCount d u = some v) : CtI l y_Rule_roundCount b_Rule_roundCount 1 (some .int) rm_Next_roundCount G [.ref h] [(h, .inr (3, [.int d, .ref sa, .int u.1])), (sa, .inl (G.2 0, 4, .inl u.2))] (fun (r : Int32) (_ : Unit) => v = r) (fun _ => [(h, .inr (3, [.int d, .ref sa, .int u.1])), (sa, .inl (G.2 0, 4, .inl u.2))]) 0 0 := by
  refine CtI.of (by decide) (Nat.le_of_ble_eq_true rfl) [(0, .ref h)] rfl ?_
  intro p e s m args below meth c A ls Q hQ S hr hlocks F w hl
  have S : CallFix p m c b_Rule_roundCount 1 s args kx_T "PrefetchRules$Rule" := S
  obtain ⟨hx, hb, hml, hown, hts⟩ := id S
  have w : kx_W G A s ([(h, .inr (3, [.int d, .ref sa, .int u.1])), (sa, .inl (G.2 0, 4, .inl u.2))] ++ []) s.heap [] := w
  unfold f_Next_roundCount at hF
  refine lv_iconst (v := (0 : Int32)) hx hb d_Rule_roundCount_0 (by decide) ?_
  obtain rfl := Option.some.inj hF
  exact kx_iret hQ S hr hlocks w (xo := [(h, .inr (3, [.int d, .ref sa, .int u.1])), (sa, .inl (G.2 0, 4, .inl u.2))]) [0, 1] rfl rfl () rfl rfl d_Rule_roundCount_1
/-! Rule_init -/
def rm_Rule_init : Room := { frames := 1, cells := 1, slots := 4, locals := 20 }
set_option maxRecDepth 100000 in
set_option maxHeartbeats 4000000 in
theorem c_Rule_init (l : Launch) (G : kx_G) (ki : Nat) (KC : String) (KT : u_T) (KN : Nat) (kt : Nat → FieldType) (h : Nat) (fr : List Value) (hK : kx_rule ki KC KT KN kt) (p0 : Int32) : CtV l y_Rule_init b_Rule_init 2 rm_Rule_init G [.ref h, .int p0] [(h, .inr (ki, .int 0 :: .null :: .int 0 :: fr))] (fun (_ : Nat) => True) (fun w => [(h, .inr (ki, .int p0 :: .ref w :: .int 0 :: fr)), (w, .inl (G.2 0, 4, .inl (fun _ => 0)))]) 1 4 := by
  refine CtV.of (by decide) (Nat.le_of_ble_eq_true rfl) [(0, .ref h), (1, .int p0)] rfl ?_
  intro p e s m args below meth c A ls Q hQ S hr hlocks hin F w hl
  have S : CallFix p m c b_Rule_init 2 s args kx_T "PrefetchRules$Rule" := S
  obtain ⟨hx, hb, hml, hown, hts⟩ := id S
  have w : kx_W G A s ([(h, .inr (ki, .int 0 :: .null :: .int 0 :: fr))] ++ []) s.heap [] := w
  refine lv_aload_n hx hb d_Rule_init_0 rfl (lv_at hl 0 rfl) ?_
  refine kx_obj S kw_114 kw_109 kw_110 hl.1 d_Rule_init_1 (Nat.le_of_ble_eq_true rfl) (Nat.le_of_ble_eq_true rfl) ?_
  refine lv_aload_n hx hb d_Rule_init_4 rfl (lv_at hl 0 rfl) ?_
  refine lv_iconst (v := (4 : Int32)) hx hb d_Rule_init_5 (by decide) ?_
  refine kx_newi S F w kw_111 (N' := 4) (by decide) (by decide) (by decide) (Nat.le_of_ble_eq_true rfl) (Nat.le_of_ble_eq_true rfl) d_Rule_init_6 (fun b6 H w => ?_)
  have w : kx_W G A s ([(h, .inr (ki, .int 0 :: .null :: .int 0 :: fr)), (b6, .inl (G.2 0, 4, .inl (fun _ => 0)))] ++ []) H [] := w
  refine kx_putF S F w hK.1 0 rfl 1 (hK.lt (by decide)) (by rw [hK.t1]; exact kw_12) (by rw [hK.t1]) hin (by rw [hK.t1]) (by rw [hK.y1]; rfl) (by rw [hK.y1]; rfl) (by simp) d_Rule_init_8 (fun H locs w => ?_)
  have w : kx_W G A s ([(h, .inr (ki, .int 0 :: .ref b6 :: .int 0 :: fr)), (b6, .inl (G.2 0, 4, .inl (fun _ => 0)))] ++ []) H locs := w
  refine lv_aload_n hx hb d_Rule_init_11 rfl (lv_at hl 0 rfl) ?_
  refine lv_iload_n hx hb d_Rule_init_12 rfl (lv_at hl 1 rfl) ?_
  refine kx_putF S F w hK.1 0 rfl 0 (hK.lt (by decide)) (by rw [hK.t0]; exact kw_10) (by rw [hK.t0]) hin (by rw [hK.t0]) (by rw [hK.y0]; rfl) (by rw [hK.y0]; rfl) (by simp) d_Rule_init_13 (fun H locs w => ?_)
  have w : kx_W G A s ([(h, .inr (ki, .int p0 :: .ref b6 :: .int 0 :: fr)), (b6, .inl (G.2 0, 4, .inl (fun _ => 0)))] ++ []) H locs := w
  refine W.widen (k := 1) (n := 4) (Nat.le_of_ble_eq_true rfl) (Nat.le_of_ble_eq_true rfl) ?_
  exact kx_vret hQ S hr hlocks w (xo := [(h, .inr (ki, .int p0 :: .ref b6 :: .int 0 :: fr)), (b6, .inl (G.2 0, 4, .inl (fun _ => 0)))]) [0, 1] rfl rfl b6 rfl trivial d_Rule_init_16
/-! Next_init -/
def rm_Next_init : Room := { frames := 2, cells := 1, slots := 4, locals := 41 }
set_option maxRecDepth 100000 in
set_option maxHeartbeats 4000000 in
theorem c_Next_init (l : Launch) (G : kx_G) (h : Nat) (p0 : Int32) : CtV l y_Next_init b_Next_init 2 rm_Next_init G [.ref h, .int p0] [(h, .inr (3, [.int 0, .null, .int 0]))] (fun (_ : Nat) => True) (fun w => [(h, .inr (3, [.int p0, .ref w, .int 0])), (w, .inl (G.2 0, 4, .inl (fun _ => 0)))]) 1 4 := by
  refine CtV.of (by decide) (Nat.le_of_ble_eq_true rfl) [(0, .ref h), (1, .int p0)] rfl ?_
  intro p e s m args below meth c A ls Q hQ S hr hlocks hin F w hl
  have S : CallFix p m c b_Next_init 2 s args kx_T "PrefetchRules$Next" := S
  obtain ⟨hx, hb, hml, hown, hts⟩ := id S
  have w : kx_W G A s ([(h, .inr (3, [.int 0, .null, .int 0]))] ++ []) s.heap [] := w
  refine lv_aload_n hx hb d_Next_init_0 rfl (lv_at hl 0 rfl) ?_
  refine lv_iload_n hx hb d_Next_init_1 rfl (lv_at hl 1 rfl) ?_
  refine kx_cv (cx := [(h, .inr (3, [.int 0, .null, .int 0]))]) (wr := []) F w [0] [] rfl rfl rfl (by decide) (va_runI (As := [.int p0]) (rest := []) S (c_Rule_init l G 3 ("PrefetchRules$Next") F_Next 3 t_Next h ([]) kr_Next p0 _) (kx_cwI S mi_Rule_init kw_115 ⟨rfl, rfl, Nat.le_of_ble_eq_true rfl, Nat.le_of_ble_eq_true rfl⟩) ⟨kx_blind _ _ _ _, kx_pre F w [0] rfl rfl⟩ rfl rfl hl.1 rfl (lv_room (Nat.le_of_ble_eq_true rfl)) d_Next_init_2 ⟨Nat.le_of_ble_eq_true rfl, Nat.le_of_ble_eq_true rfl⟩) (fun w2 H locs hp w => ?_)
  have w : kx_W G A s ([(h, .inr (3, [.int p0, .ref w2, .int 0])), (w2, .inl (G.2 0, 4, .inl (fun _ => 0)))] ++ []) H locs := w
  refine W.widen (k := 1) (n := 4) (Nat.le_of_ble_eq_true rfl) (Nat.le_of_ble_eq_true rfl) ?_
  exact kx_vret hQ S hr hlocks w (xo := [(h, .inr (3, [.int p0, .ref w2, .int 0])), (w2, .inl (G.2 0, 4, .inl (fun _ => 0)))]) [0, 1] rfl rfl w2 rfl trivial d_Next_init_5
end
section
/-! Strides_rowOf -/
def f_Strides_rowOf (p0 : Int32) : Option (Int32) := some (p0 &&& (15 : Int32))
def rm_Strides_rowOf : Room := { frames := 0, cells := 0, slots := 0, locals := 0 }
set_option maxRecDepth 100000 in
set_option maxHeartbeats 4000000 in
theorem c_Strides_rowOf (l : Launch) (G : kx_G) (p0 : Int32) (v : Int32) (hF : f_Strides_rowOf p0 = some v) : CtI l y_Strides_rowOf b_Strides_rowOf 1 (some .int) rm_Strides_rowOf G [.int p0] [] (fun (r : Int32) (_ : Unit) => v = r) (fun _ => []) 0 0 := by
  refine CtI.of (by decide) (Nat.le_of_ble_eq_true rfl) [(0, .int p0)] rfl ?_
  intro p e s m args below meth c A ls Q hQ S hr hlocks F w hl
  have S : CallFix p m c b_Strides_rowOf 1 s args kx_T "PrefetchRules$Strides" := S
  obtain ⟨hx, hb, hml, hown, hts⟩ := id S
  have w : kx_W G A s ([] ++ []) s.heap [] := w
  unfold f_Strides_rowOf at hF
  refine lv_iload_n hx hb d_Strides_rowOf_0 rfl (lv_at hl 0 rfl) ?_
  refine lv_bipush (v := (15 : Int32)) hx hb d_Strides_rowOf_1 (by decide) ?_
  refine lv_iand hx hb d_Strides_rowOf_3 ?_
  obtain rfl := Option.some.inj hF
  exact kx_iret hQ S hr hlocks w (xo := []) [] rfl rfl () rfl rfl d_Strides_rowOf_4
/-! Strides_isOwn -/
def f_Strides_isOwn (d : Int32) (u : sg_strides) (p0 : Int32) (p1 : Int32) : Option (Int32) := (if (p0 < 0 ∨ 16 ≤ p0.toNatClampNeg) then none else (if (u.2.2.1 p0.toNatClampNeg) = 0 then some (0 : Int32) else (if (p0 < 0 ∨ 16 ≤ p0.toNatClampNeg) then none else (if (u.2.2.2.1 p0.toNatClampNeg) = p1 then some (1 : Int32) else some (0 : Int32)))))
def rm_Strides_isOwn : Room := { frames := 0, cells := 0, slots := 0, locals := 0 }
set_option maxRecDepth 100000 in
set_option maxHeartbeats 4000000 in
theorem c_Strides_isOwn (l : Launch) (G : kx_G) (h : Nat) (sa : Nat) (d : Int32) (a_tk : Nat) (a_pl : Nat) (a_li : Nat) (a_st : Nat) (a_tr : Nat) (u : sg_strides) (p0 : Int32) (p1 : Int32) (v : Int32) (hF : f_Strides_isOwn d u p0 p1 = some v) : CtI l y_Strides_isOwn b_Strides_isOwn 3 (some .boolean) rm_Strides_isOwn G [.ref h, .int p0, .int p1] [(h, .inr (4, [.int d, .ref sa, .int u.1, .ref a_tk, .ref a_pl, .ref a_li, .ref a_st, .ref a_tr])), (sa, .inl (G.2 0, 4, .inl u.2.1)), (a_tk, .inl (G.2 1, 16, .inl u.2.2.1)), (a_pl, .inl (G.2 0, 16, .inl u.2.2.2.1)), (a_li, .inl (G.2 0, 16, .inl u.2.2.2.2.1)), (a_st, .inl (G.2 0, 16, .inl u.2.2.2.2.2.1)), (a_tr, .inl (G.2 0, 16, .inl u.2.2.2.2.2.2))] (fun (r : Int32) (_ : Unit) => v = r) (fun _ => [(h, .inr (4, [.int d, .ref sa, .int u.1, .ref a_tk, .ref a_pl, .ref a_li, .ref a_st, .ref a_tr])), (sa, .inl (G.2 0, 4, .inl u.2.1)), (a_tk, .inl (G.2 1, 16, .inl u.2.2.1)), (a_pl, .inl (G.2 0, 16, .inl u.2.2.2.1)), (a_li, .inl (G.2 0, 16, .inl u.2.2.2.2.1)), (a_st, .inl (G.2 0, 16, .inl u.2.2.2.2.2.1)), (a_tr, .inl (G.2 0, 16, .inl u.2.2.2.2.2.2))]) 0 0 := by
  refine CtI.of (by decide) (Nat.le_of_ble_eq_true rfl) [(0, .ref h), (1, .int p0), (2, .int p1)] rfl ?_
  intro p e s m args below meth c A ls Q hQ S hr hlocks F w hl
  have S : CallFix p m c b_Strides_isOwn 3 s args kx_T "PrefetchRules$Strides" := S
  obtain ⟨hx, hb, hml, hown, hts⟩ := id S
  have w : kx_W G A s ([(h, .inr (4, [.int d, .ref sa, .int u.1, .ref a_tk, .ref a_pl, .ref a_li, .ref a_st, .ref a_tr])), (sa, .inl (G.2 0, 4, .inl u.2.1)), (a_tk, .inl (G.2 1, 16, .inl u.2.2.1)), (a_pl, .inl (G.2 0, 16, .inl u.2.2.2.1)), (a_li, .inl (G.2 0, 16, .inl u.2.2.2.2.1)), (a_st, .inl (G.2 0, 16, .inl u.2.2.2.2.2.1)), (a_tr, .inl (G.2 0, 16, .inl u.2.2.2.2.2.2))] ++ []) s.heap [] := w
  unfold f_Strides_isOwn at hF
  refine lv_aload_n hx hb d_Strides_isOwn_0 rfl (lv_at hl 0 rfl) ?_
  refine kx_get S F w kc_Strides 0 rfl 3 (by decide) kw_23 rfl d_Strides_isOwn_1 ?_
  refine lv_iload_n hx hb d_Strides_isOwn_4 rfl (lv_at hl 1 rfl) ?_
  obtain ⟨hi5, hF⟩ := kx_ar hF
  refine kx_zald S F w 2 rfl hi5 d_Strides_isOwn_5 ?_
  refine lv_if_eq (tgt := 23) hx hb d_Strides_isOwn_6 (by decide) (fun c6 => ?_) (fun c6 => ?_)
  · have hF := kx_t c6 hF
    refine lv_iconst (v := (0 : Int32)) hx hb d_Strides_isOwn_23 (by decide) ?_
    obtain rfl := Option.some.inj hF
    exact kx_zret hQ S hr hlocks (by decide) w (xo := [(h, .inr (4, [.int d, .ref sa, .int u.1, .ref a_tk, .ref a_pl, .ref a_li, .ref a_st, .ref a_tr])), (sa, .inl (G.2 0, 4, .inl u.2.1)), (a_tk, .inl (G.2 1, 16, .inl u.2.2.1)), (a_pl, .inl (G.2 0, 16, .inl u.2.2.2.1)), (a_li, .inl (G.2 0, 16, .inl u.2.2.2.2.1)), (a_st, .inl (G.2 0, 16, .inl u.2.2.2.2.2.1)), (a_tr, .inl (G.2 0, 16, .inl u.2.2.2.2.2.2))]) [0, 1, 2, 3, 4, 5, 6] rfl rfl () rfl rfl d_Strides_isOwn_24
  · have hF := kx_f c6 hF
    refine lv_aload_n hx hb d_Strides_isOwn_9 rfl (lv_at hl 0 rfl) ?_
    refine kx_get S F w kc_Strides 0 rfl 4 (by decide) kw_24 rfl d_Strides_isOwn_10 ?_
    refine lv_iload_n hx hb d_Strides_isOwn_13 rfl (lv_at hl 1 rfl) ?_
    obtain ⟨hi14, hF⟩ := kx_ar hF
    refine kx_iald S F w 3 rfl hi14 d_Strides_isOwn_14 ?_
    refine lv_iload_n hx hb d_Strides_isOwn_15 rfl (lv_at hl 2 rfl) ?_
    refine lv_icmp_ne (tgt := 23) hx hb d_Strides_isOwn_16 (by decide) (fun c16 => ?_) (fun c16 => ?_)
    · have hF := kx_f c16 hF
      refine lv_iconst (v := (0 : Int32)) hx hb d_Strides_isOwn_23 (by decide) ?_
      obtain rfl := Option.some.inj hF
      exact kx_zret hQ S hr hlocks (by decide) w (xo := [(h, .inr (4, [.int d, .ref sa, .int u.1, .ref a_tk, .ref a_pl, .ref a_li, .ref a_st, .ref a_tr])), (sa, .inl (G.2 0, 4, .inl u.2.1)), (a_tk, .inl (G.2 1, 16, .inl u.2.2.1)), (a_pl, .inl (G.2 0, 16, .inl u.2.2.2.1)), (a_li, .inl (G.2 0, 16, .inl u.2.2.2.2.1)), (a_st, .inl (G.2 0, 16, .inl u.2.2.2.2.2.1)), (a_tr, .inl (G.2 0, 16, .inl u.2.2.2.2.2.2))]) [0, 1, 2, 3, 4, 5, 6] rfl rfl () rfl rfl d_Strides_isOwn_24
    · have hF := kx_t c16 hF
      refine lv_iconst (v := (1 : Int32)) hx hb d_Strides_isOwn_19 (by decide) ?_
      refine lv_goto (tgt := 24) hx hb d_Strides_isOwn_20 (by decide) ?_
      obtain rfl := Option.some.inj hF
      exact kx_zret hQ S hr hlocks (by decide) w (xo := [(h, .inr (4, [.int d, .ref sa, .int u.1, .ref a_tk, .ref a_pl, .ref a_li, .ref a_st, .ref a_tr])), (sa, .inl (G.2 0, 4, .inl u.2.1)), (a_tk, .inl (G.2 1, 16, .inl u.2.2.1)), (a_pl, .inl (G.2 0, 16, .inl u.2.2.2.1)), (a_li, .inl (G.2 0, 16, .inl u.2.2.2.2.1)), (a_st, .inl (G.2 0, 16, .inl u.2.2.2.2.2.1)), (a_tr, .inl (G.2 0, 16, .inl u.2.2.2.2.2.2))]) [0, 1, 2, 3, 4, 5, 6] rfl rfl () rfl rfl d_Strides_isOwn_24
/-! Strides_begin -/
def f_Strides_begin (d : Int32) (u : sg_strides) (p0 : Int32) (p1 : Int32) (p2 : Int32) : Option (sg_strides) := (if (p0 < 0 ∨ 16 ≤ p0.toNatClampNeg) then none else (if (p0 < 0 ∨ 16 ≤ p0.toNatClampNeg) then none else (if (p0 < 0 ∨ 16 ≤ p0.toNatClampNeg) then none else (if (p0 < 0 ∨ 16 ≤ p0.toNatClampNeg) then none else (if (p0 < 0 ∨ 16 ≤ p0.toNatClampNeg) then none else some (u.1, u.2.1, upd u.2.2.1 p0.toNatClampNeg (vp_nar .boolean (1 : Int32)), upd u.2.2.2.1 p0.toNatClampNeg p1, upd u.2.2.2.2.1 p0.toNatClampNeg p2, upd u.2.2.2.2.2.1 p0.toNatClampNeg (0 : Int32), upd u.2.2.2.2.2.2 p0.toNatClampNeg (0 : Int32)))))))
def rm_Strides_begin : Room := { frames := 0, cells := 0, slots := 0, locals := 0 }
set_option maxRecDepth 100000 in
set_option maxHeartbeats 4000000 in
theorem c_Strides_begin (l : Launch) (G : kx_G) (h : Nat) (sa : Nat) (d : Int32) (a_tk : Nat) (a_pl : Nat) (a_li : Nat) (a_st : Nat) (a_tr : Nat) (u : sg_strides) (p0 : Int32) (p1 : Int32) (p2 : Int32) (v : sg_strides) (hF : f_Strides_begin d u p0 p1 p2 = some v) : CtV l y_Strides_begin b_Strides_begin 4 rm_Strides_begin G [.ref h, .int p0, .int p1, .int p2] [(h, .inr (4, [.int d, .ref sa, .int u.1, .ref a_tk, .ref a_pl, .ref a_li, .ref a_st, .ref a_tr])), (sa, .inl (G.2 0, 4, .inl u.2.1)), (a_tk, .inl (G.2 1, 16, .inl u.2.2.1)), (a_pl, .inl (G.2 0, 16, .inl u.2.2.2.1)), (a_li, .inl (G.2 0, 16, .inl u.2.2.2.2.1)), (a_st, .inl (G.2 0, 16, .inl u.2.2.2.2.2.1)), (a_tr, .inl (G.2 0, 16, .inl u.2.2.2.2.2.2))] (fun w : sg_strides => v = w) (fun w => [(h, .inr (4, [.int d, .ref sa, .int w.1, .ref a_tk, .ref a_pl, .ref a_li, .ref a_st, .ref a_tr])), (sa, .inl (G.2 0, 4, .inl w.2.1)), (a_tk, .inl (G.2 1, 16, .inl w.2.2.1)), (a_pl, .inl (G.2 0, 16, .inl w.2.2.2.1)), (a_li, .inl (G.2 0, 16, .inl w.2.2.2.2.1)), (a_st, .inl (G.2 0, 16, .inl w.2.2.2.2.2.1)), (a_tr, .inl (G.2 0, 16, .inl w.2.2.2.2.2.2))]) 0 0 := by
  refine CtV.of (by decide) (Nat.le_of_ble_eq_true rfl) [(0, .ref h), (1, .int p0), (2, .int p1), (3, .int p2)] rfl ?_
  intro p e s m args below meth c A ls Q hQ S hr hlocks hin F w hl
  have S : CallFix p m c b_Strides_begin 4 s args kx_T "PrefetchRules$Strides" := S
  obtain ⟨hx, hb, hml, hown, hts⟩ := id S
  have w : kx_W G A s ([(h, .inr (4, [.int d, .ref sa, .int u.1, .ref a_tk, .ref a_pl, .ref a_li, .ref a_st, .ref a_tr])), (sa, .inl (G.2 0, 4, .inl u.2.1)), (a_tk, .inl (G.2 1, 16, .inl u.2.2.1)), (a_pl, .inl (G.2 0, 16, .inl u.2.2.2.1)), (a_li, .inl (G.2 0, 16, .inl u.2.2.2.2.1)), (a_st, .inl (G.2 0, 16, .inl u.2.2.2.2.2.1)), (a_tr, .inl (G.2 0, 16, .inl u.2.2.2.2.2.2))] ++ []) s.heap [] := w
  unfold f_Strides_begin at hF
  refine lv_aload_n hx hb d_Strides_begin_0 rfl (lv_at hl 0 rfl) ?_
  refine kx_get S F w kc_Strides 0 rfl 3 (by decide) kw_23 rfl d_Strides_begin_1 ?_
  refine lv_iload_n hx hb d_Strides_begin_4 rfl (lv_at hl 1 rfl) ?_
  refine lv_iconst (v := (1 : Int32)) hx hb d_Strides_begin_5 (by decide) ?_
  obtain ⟨hi6, hF⟩ := kx_ar hF
  refine kx_zast S F w 2 rfl hi6 d_Strides_begin_6 (fun H locs w => ?_)
  have w : kx_W G A s ([(h, .inr (4, [.int d, .ref sa, .int u.1, .ref a_tk, .ref a_pl, .ref a_li, .ref a_st, .ref a_tr])), (sa, .inl (G.2 0, 4, .inl u.2.1)), (a_tk, .inl (G.2 1, 16, .inl (upd u.2.2.1 p0.toNatClampNeg (vp_nar .boolean (1 : Int32))))), (a_pl, .inl (G.2 0, 16, .inl u.2.2.2.1)), (a_li, .inl (G.2 0, 16, .inl u.2.2.2.2.1)), (a_st, .inl (G.2 0, 16, .inl u.2.2.2.2.2.1)), (a_tr, .inl (G.2 0, 16, .inl u.2.2.2.2.2.2))] ++ []) H locs := w
  refine lv_aload_n hx hb d_Strides_begin_7 rfl (lv_at hl 0 rfl) ?_
  refine kx_get S F w kc_Strides 0 rfl 4 (by decide) kw_24 rfl d_Strides_begin_8 ?_
  refine lv_iload_n hx hb d_Strides_begin_11 rfl (lv_at hl 1 rfl) ?_
  refine lv_iload_n hx hb d_Strides_begin_12 rfl (lv_at hl 2 rfl) ?_
  obtain ⟨hi13, hF⟩ := kx_ar hF
  refine kx_iast S F w 3 rfl hi13 d_Strides_begin_13 (fun H locs w => ?_)
  have w : kx_W G A s ([(h, .inr (4, [.int d, .ref sa, .int u.1, .ref a_tk, .ref a_pl, .ref a_li, .ref a_st, .ref a_tr])), (sa, .inl (G.2 0, 4, .inl u.2.1)), (a_tk, .inl (G.2 1, 16, .inl (upd u.2.2.1 p0.toNatClampNeg (vp_nar .boolean (1 : Int32))))), (a_pl, .inl (G.2 0, 16, .inl (upd u.2.2.2.1 p0.toNatClampNeg p1))), (a_li, .inl (G.2 0, 16, .inl u.2.2.2.2.1)), (a_st, .inl (G.2 0, 16, .inl u.2.2.2.2.2.1)), (a_tr, .inl (G.2 0, 16, .inl u.2.2.2.2.2.2))] ++ []) H locs := w
  refine lv_aload_n hx hb d_Strides_begin_14 rfl (lv_at hl 0 rfl) ?_
  refine kx_get S F w kc_Strides 0 rfl 5 (by decide) kw_25 rfl d_Strides_begin_15 ?_
  refine lv_iload_n hx hb d_Strides_begin_18 rfl (lv_at hl 1 rfl) ?_
  refine lv_iload_n hx hb d_Strides_begin_19 rfl (lv_at hl 3 rfl) ?_
  obtain ⟨hi20, hF⟩ := kx_ar hF
  refine kx_iast S F w 4 rfl hi20 d_Strides_begin_20 (fun H locs w => ?_)
  have w : kx_W G A s ([(h, .inr (4, [.int d, .ref sa, .int u.1, .ref a_tk, .ref a_pl, .ref a_li, .ref a_st, .ref a_tr])), (sa, .inl (G.2 0, 4, .inl u.2.1)), (a_tk, .inl (G.2 1, 16, .inl (upd u.2.2.1 p0.toNatClampNeg (vp_nar .boolean (1 : Int32))))), (a_pl, .inl (G.2 0, 16, .inl (upd u.2.2.2.1 p0.toNatClampNeg p1))), (a_li, .inl (G.2 0, 16, .inl (upd u.2.2.2.2.1 p0.toNatClampNeg p2))), (a_st, .inl (G.2 0, 16, .inl u.2.2.2.2.2.1)), (a_tr, .inl (G.2 0, 16, .inl u.2.2.2.2.2.2))] ++ []) H locs := w
  refine lv_aload_n hx hb d_Strides_begin_21 rfl (lv_at hl 0 rfl) ?_
  refine kx_get S F w kc_Strides 0 rfl 6 (by decide) kw_26 rfl d_Strides_begin_22 ?_
  refine lv_iload_n hx hb d_Strides_begin_25 rfl (lv_at hl 1 rfl) ?_
  refine lv_iconst (v := (0 : Int32)) hx hb d_Strides_begin_26 (by decide) ?_
  obtain ⟨hi27, hF⟩ := kx_ar hF
  refine kx_iast S F w 5 rfl hi27 d_Strides_begin_27 (fun H locs w => ?_)
  have w : kx_W G A s ([(h, .inr (4, [.int d, .ref sa, .int u.1, .ref a_tk, .ref a_pl, .ref a_li, .ref a_st, .ref a_tr])), (sa, .inl (G.2 0, 4, .inl u.2.1)), (a_tk, .inl (G.2 1, 16, .inl (upd u.2.2.1 p0.toNatClampNeg (vp_nar .boolean (1 : Int32))))), (a_pl, .inl (G.2 0, 16, .inl (upd u.2.2.2.1 p0.toNatClampNeg p1))), (a_li, .inl (G.2 0, 16, .inl (upd u.2.2.2.2.1 p0.toNatClampNeg p2))), (a_st, .inl (G.2 0, 16, .inl (upd u.2.2.2.2.2.1 p0.toNatClampNeg (0 : Int32)))), (a_tr, .inl (G.2 0, 16, .inl u.2.2.2.2.2.2))] ++ []) H locs := w
  refine lv_aload_n hx hb d_Strides_begin_28 rfl (lv_at hl 0 rfl) ?_
  refine kx_get S F w kc_Strides 0 rfl 7 (by decide) kw_27 rfl d_Strides_begin_29 ?_
  refine lv_iload_n hx hb d_Strides_begin_32 rfl (lv_at hl 1 rfl) ?_
  refine lv_iconst (v := (0 : Int32)) hx hb d_Strides_begin_33 (by decide) ?_
  obtain ⟨hi34, hF⟩ := kx_ar hF
  refine kx_iast S F w 6 rfl hi34 d_Strides_begin_34 (fun H locs w => ?_)
  have w : kx_W G A s ([(h, .inr (4, [.int d, .ref sa, .int u.1, .ref a_tk, .ref a_pl, .ref a_li, .ref a_st, .ref a_tr])), (sa, .inl (G.2 0, 4, .inl u.2.1)), (a_tk, .inl (G.2 1, 16, .inl (upd u.2.2.1 p0.toNatClampNeg (vp_nar .boolean (1 : Int32))))), (a_pl, .inl (G.2 0, 16, .inl (upd u.2.2.2.1 p0.toNatClampNeg p1))), (a_li, .inl (G.2 0, 16, .inl (upd u.2.2.2.2.1 p0.toNatClampNeg p2))), (a_st, .inl (G.2 0, 16, .inl (upd u.2.2.2.2.2.1 p0.toNatClampNeg (0 : Int32)))), (a_tr, .inl (G.2 0, 16, .inl (upd u.2.2.2.2.2.2 p0.toNatClampNeg (0 : Int32))))] ++ []) H locs := w
  obtain rfl := Option.some.inj hF
  exact kx_vret hQ S hr hlocks w (xo := [(h, .inr (4, [.int d, .ref sa, .int u.1, .ref a_tk, .ref a_pl, .ref a_li, .ref a_st, .ref a_tr])), (sa, .inl (G.2 0, 4, .inl u.2.1)), (a_tk, .inl (G.2 1, 16, .inl (upd u.2.2.1 p0.toNatClampNeg (vp_nar .boolean (1 : Int32))))), (a_pl, .inl (G.2 0, 16, .inl (upd u.2.2.2.1 p0.toNatClampNeg p1))), (a_li, .inl (G.2 0, 16, .inl (upd u.2.2.2.2.1 p0.toNatClampNeg p2))), (a_st, .inl (G.2 0, 16, .inl (upd u.2.2.2.2.2.1 p0.toNatClampNeg (0 : Int32)))), (a_tr, .inl (G.2 0, 16, .inl (upd u.2.2.2.2.2.2 p0.toNatClampNeg (0 : Int32))))]) [0, 1, 2, 3, 4, 5, 6] rfl rfl (u.1, u.2.1, upd u.2.2.1 p0.toNatClampNeg (vp_nar .boolean (1 : Int32)), upd u.2.2.2.1 p0.toNatClampNeg p1, upd u.2.2.2.2.1 p0.toNatClampNeg p2, upd u.2.2.2.2.2.1 p0.toNatClampNeg (0 : Int32), upd u.2.2.2.2.2.2 p0.toNatClampNeg (0 : Int32)) rfl rfl d_Strides_begin_35
/-! Strides_compare -/
def f_Strides_compare (d : Int32) (u : sg_strides) (p0 : Int32) (p1 : Int32) : Option (sg_strides) := (if (p0 < 0 ∨ 16 ≤ p0.toNatClampNeg) then none else (if p1 = (u.2.2.2.2.2.1 p0.toNatClampNeg) then (if (p0 < 0 ∨ 16 ≤ p0.toNatClampNeg) then none else (if (p0 < 0 ∨ 16 ≤ p0.toNatClampNeg) then none else some (u.1, u.2.1, u.2.2.1, u.2.2.2.1, u.2.2.2.2.1, u.2.2.2.2.2.1, upd u.2.2.2.2.2.2 p0.toNatClampNeg (if ((u.2.2.2.2.2.2 p0.toNatClampNeg) + (1 : Int32)) < (3 : Int32) then ((u.2.2.2.2.2.2 p0.toNatClampNeg) + (1 : Int32)) else (3 : Int32))))) else (if (p0 < 0 ∨ 16 ≤ p0.toNatClampNeg) then none else (if (u.2.2.2.2.2.2 p0.toNatClampNeg) ≤ 0 then (if (p0 < 0 ∨ 16 ≤ p0.toNatClampNeg) then none else some (u.1, u.2.1, u.2.2.1, u.2.2.2.1, u.2.2.2.2.1, upd u.2.2.2.2.2.1 p0.toNatClampNeg p1, u.2.2.2.2.2.2)) else (if (p0 < 0 ∨ 16 ≤ p0.toNatClampNeg) then none else (if (p0 < 0 ∨ 16 ≤ p0.toNatClampNeg) then none else some (u.1, u.2.1, u.2.2.1, u.2.2.2.1, u.2.2.2.2.1, u.2.2.2.2.2.1, upd u.2.2.2.2.2.2 p0.toNatClampNeg ((u.2.2.2.2.2.2 p0.toNatClampNeg) - (1 : Int32)))))))))
def rm_Strides_compare : Room := { frames := 1, cells := 0, slots := 0, locals := 21 }
set_option maxRecDepth 100000 in
set_option maxHeartbeats 4000000 in
theorem c_Strides_compare (l : Launch) (G : kx_G) (h : Nat) (sa : Nat) (d : Int32) (a_tk : Nat) (a_pl : Nat) (a_li : Nat) (a_st : Nat) (a_tr : Nat) (u : sg_strides) (p0 : Int32) (p1 : Int32) (v : sg_strides) (hF : f_Strides_compare d u p0 p1 = some v) : CtV l y_Strides_compare b_Strides_compare 3 rm_Strides_compare G [.ref h, .int p0, .int p1] [(h, .inr (4, [.int d, .ref sa, .int u.1, .ref a_tk, .ref a_pl, .ref a_li, .ref a_st, .ref a_tr])), (sa, .inl (G.2 0, 4, .inl u.2.1)), (a_tk, .inl (G.2 1, 16, .inl u.2.2.1)), (a_pl, .inl (G.2 0, 16, .inl u.2.2.2.1)), (a_li, .inl (G.2 0, 16, .inl u.2.2.2.2.1)), (a_st, .inl (G.2 0, 16, .inl u.2.2.2.2.2.1)), (a_tr, .inl (G.2 0, 16, .inl u.2.2.2.2.2.2))] (fun w : sg_strides => v = w) (fun w => [(h, .inr (4, [.int d, .ref sa, .int w.1, .ref a_tk, .ref a_pl, .ref a_li, .ref a_st, .ref a_tr])), (sa, .inl (G.2 0, 4, .inl w.2.1)), (a_tk, .inl (G.2 1, 16, .inl w.2.2.1)), (a_pl, .inl (G.2 0, 16, .inl w.2.2.2.1)), (a_li, .inl (G.2 0, 16, .inl w.2.2.2.2.1)), (a_st, .inl (G.2 0, 16, .inl w.2.2.2.2.2.1)), (a_tr, .inl (G.2 0, 16, .inl w.2.2.2.2.2.2))]) 0 0 := by
  refine CtV.of (by decide) (Nat.le_of_ble_eq_true rfl) [(0, .ref h), (1, .int p0), (2, .int p1)] rfl ?_
  intro p e s m args below meth c A ls Q hQ S hr hlocks hin F w hl
  have S : CallFix p m c b_Strides_compare 3 s args kx_T "PrefetchRules$Strides" := S
  obtain ⟨hx, hb, hml, hown, hts⟩ := id S
  have w : kx_W G A s ([(h, .inr (4, [.int d, .ref sa, .int u.1, .ref a_tk, .ref a_pl, .ref a_li, .ref a_st, .ref a_tr])), (sa, .inl (G.2 0, 4, .inl u.2.1)), (a_tk, .inl (G.2 1, 16, .inl u.2.2.1)), (a_pl, .inl (G.2 0, 16, .inl u.2.2.2.1)), (a_li, .inl (G.2 0, 16, .inl u.2.2.2.2.1)), (a_st, .inl (G.2 0, 16, .inl u.2.2.2.2.2.1)), (a_tr, .inl (G.2 0, 16, .inl u.2.2.2.2.2.2))] ++ []) s.heap [] := w
  unfold f_Strides_compare at hF
  refine lv_iload_n hx hb d_Strides_compare_0 rfl (lv_at hl 2 rfl) ?_
  refine lv_aload_n hx hb d_Strides_compare_1 rfl (lv_at hl 0 rfl) ?_
  refine kx_get S F w kc_Strides 0 rfl 6 (by decide) kw_26 rfl d_Strides_compare_2 ?_
  refine lv_iload_n hx hb d_Strides_compare_5 rfl (lv_at hl 1 rfl) ?_
  obtain ⟨hi6, hF⟩ := kx_ar hF
  refine kx_iald S F w 5 rfl hi6 d_Strides_compare_6 ?_
  refine lv_icmp_ne (tgt := 31) hx hb d_Strides_compare_7 (by decide) (fun c7 => ?_) (fun c7 => ?_)
  · have hF := kx_f c7 hF
    refine lv_aload_n hx hb d_Strides_compare_31 rfl (lv_at hl 0 rfl) ?_
    refine kx_get S F w kc_Strides 0 rfl 7 (by decide) kw_27 rfl d_Strides_compare_32 ?_
    refine lv_iload_n hx hb d_Strides_compare_35 rfl (lv_at hl 1 rfl) ?_
    obtain ⟨hi36, hF⟩ := kx_ar hF
    refine kx_iald S F w 6 rfl hi36 d_Strides_compare_36 ?_
    refine lv_if_le (tgt := 53) hx hb d_Strides_compare_37 (by decide) (fun c37 => ?_) (fun c37 => ?_)
    · have hF := kx_t c37 hF
      refine lv_aload_n hx hb d_Strides_compare_53 rfl (lv_at hl 0 rfl) ?_
      refine kx_get S F w kc_Strides 0 rfl 6 (by decide) kw_26 rfl d_Strides_compare_54 ?_
      refine lv_iload_n hx hb d_Strides_compare_57 rfl (lv_at hl 1 rfl) ?_
      refine lv_iload_n hx hb d_Strides_compare_58 rfl (lv_at hl 2 rfl) ?_
      obtain ⟨hi59, hF⟩ := kx_ar hF
      refine kx_iast S F w 5 rfl hi59 d_Strides_compare_59 (fun H locs w => ?_)
      have w : kx_W G A s ([(h, .inr (4, [.int d, .ref sa, .int u.1, .ref a_tk, .ref a_pl, .ref a_li, .ref a_st, .ref a_tr])), (sa, .inl (G.2 0, 4, .inl u.2.1)), (a_tk, .inl (G.2 1, 16, .inl u.2.2.1)), (a_pl, .inl (G.2 0, 16, .inl u.2.2.2.1)), (a_li, .inl (G.2 0, 16, .inl u.2.2.2.2.1)), (a_st, .inl (G.2 0, 16, .inl (upd u.2.2.2.2.2.1 p0.toNatClampNeg p1))), (a_tr, .inl (G.2 0, 16, .inl u.2.2.2.2.2.2))] ++ []) H locs := w
      obtain rfl := Option.some.inj hF
      exact kx_vret hQ S hr hlocks w (xo := [(h, .inr (4, [.int d, .ref sa, .int u.1, .ref a_tk, .ref a_pl, .ref a_li, .ref a_st, .ref a_tr])), (sa, .inl (G.2 0, 4, .inl u.2.1)), (a_tk, .inl (G.2 1, 16, .inl u.2.2.1)), (a_pl, .inl (G.2 0, 16, .inl u.2.2.2.1)), (a_li, .inl (G.2 0, 16, .inl u.2.2.2.2.1)), (a_st, .inl (G.2 0, 16, .inl (upd u.2.2.2.2.2.1 p0.toNatClampNeg p1))), (a_tr, .inl (G.2 0, 16, .inl u.2.2.2.2.2.2))]) [0, 1, 2, 3, 4, 5, 6] rfl rfl (u.1, u.2.1, u.2.2.1, u.2.2.2.1, u.2.2.2.2.1, upd u.2.2.2.2.2.1 p0.toNatClampNeg p1, u.2.2.2.2.2.2) rfl rfl d_Strides_compare_60
    · have hF := kx_f c37 hF
      refine lv_aload_n hx hb d_Strides_compare_40 rfl (lv_at hl 0 rfl) ?_
      refine kx_get S F w kc_Strides 0 rfl 7 (by decide) kw_27 rfl d_Strides_compare_41 ?_
      refine lv_iload_n hx hb d_Strides_compare_44 rfl (lv_at hl 1 rfl) ?_
      refine lv_dup2_11 hx hb d_Strides_compare_45 rfl rfl ?_
      obtain ⟨hi46, hF⟩ := kx_ar hF
      refine kx_iald S F w 6 rfl hi46 d_Strides_compare_46 ?_
      refine lv_iconst (v := (1 : Int32)) hx hb d_Strides_compare_47 (by decide) ?_
      refine lv_isub hx hb d_Strides_compare_48 ?_
      obtain ⟨hi49, hF⟩ := kx_ar hF
      refine kx_iast S F w 6 rfl hi49 d_Strides_compare_49 (fun H locs w => ?_)
      have w : kx_W G A s ([(h, .inr (4, [.int d, .ref sa, .int u.1, .ref a_tk, .ref a_pl, .ref a_li, .ref a_st, .ref a_tr])), (sa, .inl (G.2 0, 4, .inl u.2.1)), (a_tk, .inl (G.2 1, 16, .inl u.2.2.1)), (a_pl, .inl (G.2 0, 16, .inl u.2.2.2.1)), (a_li, .inl (G.2 0, 16, .inl u.2.2.2.2.1)), (a_st, .inl (G.2 0, 16, .inl u.2.2.2.2.2.1)), (a_tr, .inl (G.2 0, 16, .inl (upd u.2.2.2.2.2.2 p0.toNatClampNeg ((u.2.2.2.2.2.2 p0.toNatClampNeg) - (1 : Int32)))))] ++ []) H locs := w
      refine lv_goto (tgt := 60) hx hb d_Strides_compare_50 (by decide) ?_
      obtain rfl := Option.some.inj hF
      exact kx_vret hQ S hr hlocks w (xo := [(h, .inr (4, [.int d, .ref sa, .int u.1, .ref a_tk, .ref a_pl, .ref a_li, .ref a_st, .ref a_tr])), (sa, .inl (G.2 0, 4, .inl u.2.1)), (a_tk, .inl (G.2 1, 16, .inl u.2.2.1)), (a_pl, .inl (G.2 0, 16, .inl u.2.2.2.1)), (a_li, .inl (G.2 0, 16, .inl u.2.2.2.2.1)), (a_st, .inl (G.2 0, 16, .inl u.2.2.2.2.2.1)), (a_tr, .inl (G.2 0, 16, .inl (upd u.2.2.2.2.2.2 p0.toNatClampNeg ((u.2.2.2.2.2.2 p0.toNatClampNeg) - (1 : Int32)))))]) [0, 1, 2, 3, 4, 5, 6] rfl rfl (u.1, u.2.1, u.2.2.1, u.2.2.2.1, u.2.2.2.2.1, u.2.2.2.2.2.1, upd u.2.2.2.2.2.2 p0.toNatClampNeg ((u.2.2.2.2.2.2 p0.toNatClampNeg) - (1 : Int32))) rfl rfl d_Strides_compare_60
  · have hF := kx_t c7 hF
    refine lv_aload_n hx hb d_Strides_compare_10 rfl (lv_at hl 0 rfl) ?_
    refine kx_get S F w kc_Strides 0 rfl 7 (by decide) kw_27 rfl d_Strides_compare_11 ?_
    refine lv_iload_n hx hb d_Strides_compare_14 rfl (lv_at hl 1 rfl) ?_
    refine lv_iconst (v := (3 : Int32)) hx hb d_Strides_compare_15 (by decide) ?_
    refine lv_aload_n hx hb d_Strides_compare_16 rfl (lv_at hl 0 rfl) ?_
    refine kx_get S F w kc_Strides 0 rfl 7 (by decide) kw_27 rfl d_Strides_compare_17 ?_
    refine lv_iload_n hx hb d_Strides_compare_20 rfl (lv_at hl 1 rfl) ?_
    obtain ⟨hi21, hF⟩ := kx_ar hF
    refine kx_iald S F w 6 rfl hi21 d_Strides_compare_21 ?_
    refine lv_iconst (v := (1 : Int32)) hx hb d_Strides_compare_22 (by decide) ?_
    refine lv_iadd hx hb d_Strides_compare_23 ?_
    refine va_mmin hx hb (by rw [hml]; exact hl.1.symm) hown (hts _ kw_28) (hts _ kw_29) (hts _ kw_30) (hts _ kw_31) (Nat.le_of_ble_eq_true rfl) (Nat.le_of_ble_eq_true rfl) (Nat.zero_le _) (Nat.zero_le _) d_Strides_compare_24 ?_
    obtain ⟨hi27, hF⟩ := kx_ar hF
    refine kx_iast S F w 6 rfl hi27 d_Strides_compare_27 (fun H locs w => ?_)
    have w : kx_W G A s ([(h, .inr (4, [.int d, .ref sa, .int u.1, .ref a_tk, .ref a_pl, .ref a_li, .ref a_st, .ref a_tr])), (sa, .inl (G.2 0, 4, .inl u.2.1)), (a_tk, .inl (G.2 1, 16, .inl u.2.2.1)), (a_pl, .inl (G.2 0, 16, .inl u.2.2.2.1)), (a_li, .inl (G.2 0, 16, .inl u.2.2.2.2.1)), (a_st, .inl (G.2 0, 16, .inl u.2.2.2.2.2.1)), (a_tr, .inl (G.2 0, 16, .inl (upd u.2.2.2.2.2.2 p0.toNatClampNeg (if ((u.2.2.2.2.2.2 p0.toNatClampNeg) + (1 : Int32)) < (3 : Int32) then ((u.2.2.2.2.2.2 p0.toNatClampNeg) + (1 : Int32)) else (3 : Int32)))))] ++ []) H locs := w
    refine lv_goto (tgt := 60) hx hb d_Strides_compare_28 (by decide) ?_
    obtain rfl := Option.some.inj hF
    exact kx_vret hQ S hr hlocks w (xo := [(h, .inr (4, [.int d, .ref sa, .int u.1, .ref a_tk, .ref a_pl, .ref a_li, .ref a_st, .ref a_tr])), (sa, .inl (G.2 0, 4, .inl u.2.1)), (a_tk, .inl (G.2 1, 16, .inl u.2.2.1)), (a_pl, .inl (G.2 0, 16, .inl u.2.2.2.1)), (a_li, .inl (G.2 0, 16, .inl u.2.2.2.2.1)), (a_st, .inl (G.2 0, 16, .inl u.2.2.2.2.2.1)), (a_tr, .inl (G.2 0, 16, .inl (upd u.2.2.2.2.2.2 p0.toNatClampNeg (if ((u.2.2.2.2.2.2 p0.toNatClampNeg) + (1 : Int32)) < (3 : Int32) then ((u.2.2.2.2.2.2 p0.toNatClampNeg) + (1 : Int32)) else (3 : Int32)))))]) [0, 1, 2, 3, 4, 5, 6] rfl rfl (u.1, u.2.1, u.2.2.1, u.2.2.2.1, u.2.2.2.2.1, u.2.2.2.2.2.1, upd u.2.2.2.2.2.2 p0.toNatClampNeg (if ((u.2.2.2.2.2.2 p0.toNatClampNeg) + (1 : Int32)) < (3 : Int32) then ((u.2.2.2.2.2.2 p0.toNatClampNeg) + (1 : Int32)) else (3 : Int32))) rfl rfl d_Strides_compare_60
/-! Strides_learn -/
def f_Strides_learn (d : Int32) (u : sg_strides) (p0 : Int32) (p1 : Int32) : Option (sg_strides) := (f_Strides_rowOf p0).bind (fun q1 => (f_Strides_isOwn d u q1 p0).bind (fun q8 => (if q8 = 0 then (f_Strides_begin d u q1 p0 p1).bind (fun q18 => some q18) else (if (q1 < 0 ∨ 16 ≤ q1.toNatClampNeg) then none else (f_Strides_compare d u q1 (p1 - (u.2.2.2.2.1 q1.toNatClampNeg))).bind (fun q32 => (if (q1 < 0 ∨ 16 ≤ q1.toNatClampNeg) then none else (if (q1 < 0 ∨ 16 ≤ q1.toNatClampNeg) then none else (if (q32.2.2.2.2.2.2 q1.toNatClampNeg) < (2 : Int32) then some (q32.1, q32.2.1, q32.2.2.1, q32.2.2.2.1, upd q32.2.2.2.2.1 q1.toNatClampNeg p1, q32.2.2.2.2.2) else (if (q1 < 0 ∨ 16 ≤ q1.toNatClampNeg) then none else (if (q32.2.2.2.2.2.1 q1.toNatClampNeg) = 0 then some (q32.1, q32.2.1, q32.2.2.1, q32.2.2.2.1, upd q32.2.2.2.2.1 q1.toNatClampNeg p1, q32.2.2.2.2.2) else (if (q1 < 0 ∨ 16 ≤ q1.toNatClampNeg) then none else (f_Rule_sayInSteps d (q32.1, q32.2.1) p1 (q32.2.2.2.2.2.1 q1.toNatClampNeg)).bind (fun q69 => some (q69.1, q69.2, q32.2.2.1, q32.2.2.2.1, upd q32.2.2.2.2.1 q1.toNatClampNeg p1, q32.2.2.2.2.2)))))))))))))
def rm_Strides_learn : Room := { frames := 2, cells := 0, slots := 0, locals := 44 }
set_option maxRecDepth 100000 in
set_option maxHeartbeats 4000000 in
theorem c_Strides_learn (l : Launch) (G : kx_G) (h : Nat) (sa : Nat) (d : Int32) (a_tk : Nat) (a_pl : Nat) (a_li : Nat) (a_st : Nat) (a_tr : Nat) (u : sg_strides) (p0 : Int32) (p1 : Int32) (v : sg_strides) (hF : f_Strides_learn d u p0 p1 = some v) : CtV l y_Strides_learn b_Strides_learn 4 rm_Strides_learn G [.ref h, .int p0, .int p1] [(h, .inr (4, [.int d, .ref sa, .int u.1, .ref a_tk, .ref a_pl, .ref a_li, .ref a_st, .ref a_tr])), (sa, .inl (G.2 0, 4, .inl u.2.1)), (a_tk, .inl (G.2 1, 16, .inl u.2.2.1)), (a_pl, .inl (G.2 0, 16, .inl u.2.2.2.1)), (a_li, .inl (G.2 0, 16, .inl u.2.2.2.2.1)), (a_st, .inl (G.2 0, 16, .inl u.2.2.2.2.2.1)), (a_tr, .inl (G.2 0, 16, .inl u.2.2.2.2.2.2))] (fun w : sg_strides => v = w) (fun w => [(h, .inr (4, [.int d, .ref sa, .int w.1, .ref a_tk, .ref a_pl, .ref a_li, .ref a_st, .ref a_tr])), (sa, .inl (G.2 0, 4, .inl w.2.1)), (a_tk, .inl (G.2 1, 16, .inl w.2.2.1)), (a_pl, .inl (G.2 0, 16, .inl w.2.2.2.1)), (a_li, .inl (G.2 0, 16, .inl w.2.2.2.2.1)), (a_st, .inl (G.2 0, 16, .inl w.2.2.2.2.2.1)), (a_tr, .inl (G.2 0, 16, .inl w.2.2.2.2.2.2))]) 0 0 := by
  refine CtV.of (by decide) (Nat.le_of_ble_eq_true rfl) [(0, .ref h), (1, .int p0), (2, .int p1)] rfl ?_
  intro p e s m args below meth c A ls Q hQ S hr hlocks hin F w hl
  have S : CallFix p m c b_Strides_learn 4 s args kx_T "PrefetchRules$Strides" := S
  obtain ⟨hx, hb, hml, hown, hts⟩ := id S
  have w : kx_W G A s ([(h, .inr (4, [.int d, .ref sa, .int u.1, .ref a_tk, .ref a_pl, .ref a_li, .ref a_st, .ref a_tr])), (sa, .inl (G.2 0, 4, .inl u.2.1)), (a_tk, .inl (G.2 1, 16, .inl u.2.2.1)), (a_pl, .inl (G.2 0, 16, .inl u.2.2.2.1)), (a_li, .inl (G.2 0, 16, .inl u.2.2.2.2.1)), (a_st, .inl (G.2 0, 16, .inl u.2.2.2.2.2.1)), (a_tr, .inl (G.2 0, 16, .inl u.2.2.2.2.2.2))] ++ []) s.heap [] := w
  unfold f_Strides_learn at hF
  refine lv_iload_n hx hb d_Strides_learn_0 rfl (lv_at hl 1 rfl) ?_
  obtain ⟨q1, hq1, hF⟩ := kx_bd hF
  refine kx_ci (cx := []) (wr := [(h, .inr (4, [.int d, .ref sa, .int u.1, .ref a_tk, .ref a_pl, .ref a_li, .ref a_st, .ref a_tr])), (sa, .inl (G.2 0, 4, .inl u.2.1)), (a_tk, .inl (G.2 1, 16, .inl u.2.2.1)), (a_pl, .inl (G.2 0, 16, .inl u.2.2.2.1)), (a_li, .inl (G.2 0, 16, .inl u.2.2.2.2.1)), (a_st, .inl (G.2 0, 16, .inl u.2.2.2.2.2.1)), (a_tr, .inl (G.2 0, 16, .inl u.2.2.2.2.2.2))]) F w [] [0, 1, 2, 3, 4, 5, 6] rfl rfl rfl (by decide) (va_runS (As := [.int p0]) (rest := []) S (c_Strides_rowOf l G p0 q1 hq1 _) (kx_cwS S ms_Strides_rowOf kw_32 ⟨rfl, rfl, Nat.le_of_ble_eq_true rfl, Nat.le_of_ble_eq_true rfl⟩) ⟨kx_blind _ _ _ _, kx_pre F w [] rfl rfl⟩ rfl rfl hl.1 rfl (lv_room (Nat.le_of_ble_eq_true rfl)) d_Strides_learn_1 ⟨Nat.le_of_ble_eq_true rfl, Nat.le_of_ble_eq_true rfl⟩) (fun r1 w1 H locs hp w => ?_)
  subst hp
  have w : kx_W G A s ([(h, .inr (4, [.int d, .ref sa, .int u.1, .ref a_tk, .ref a_pl, .ref a_li, .ref a_st, .ref a_tr])), (sa, .inl (G.2 0, 4, .inl u.2.1)), (a_tk, .inl (G.2 1, 16, .inl u.2.2.1)), (a_pl, .inl (G.2 0, 16, .inl u.2.2.2.1)), (a_li, .inl (G.2 0, 16, .inl u.2.2.2.2.1)), (a_st, .inl (G.2 0, 16, .inl u.2.2.2.2.2.1)), (a_tr, .inl (G.2 0, 16, .inl u.2.2.2.2.2.2))] ++ []) H locs := w
  refine lv_istore_n (lv' := [(3, .int q1), (0, .ref h), (1, .int p0), (2, .int p1)]) hx hb d_Strides_learn_4 rfl hl (by decide) rfl (fun ls hl => ?_)
  refine lv_aload_n hx hb d_Strides_learn_5 rfl (lv_at hl 1 rfl) ?_
  refine lv_iload_n hx hb d_Strides_learn_6 rfl (lv_at hl 0 rfl) ?_
  refine lv_iload_n hx hb d_Strides_learn_7 rfl (lv_at hl 2 rfl) ?_
  obtain ⟨q8, hq8, hF⟩ := kx_bd hF
  refine kx_ci (cx := [(h, .inr (4, [.int d, .ref sa, .int u.1, .ref a_tk, .ref a_pl, .ref a_li, .ref a_st, .ref a_tr])), (sa, .inl (G.2 0, 4, .inl u.2.1)), (a_tk, .inl (G.2 1, 16, .inl u.2.2.1)), (a_pl, .inl (G.2 0, 16, .inl u.2.2.2.1)), (a_li, .inl (G.2 0, 16, .inl u.2.2.2.2.1)), (a_st, .inl (G.2 0, 16, .inl u.2.2.2.2.2.1)), (a_tr, .inl (G.2 0, 16, .inl u.2.2.2.2.2.2))]) (wr := []) F w [0, 1, 2, 3, 4, 5, 6] [] rfl rfl rfl (by decide) (va_runV (As := [.int q1, .int p0]) (rest := []) S (c_Strides_isOwn l G h sa d a_tk a_pl a_li a_st a_tr u q1 p0 q8 hq8 _) (kx_cwV S mv_Strides_isOwn kw_33 ⟨rfl, rfl, Nat.le_of_ble_eq_true rfl, Nat.le_of_ble_eq_true rfl⟩) ⟨kx_blind _ _ _ _, va_recv (q0 := 0) F.1.1 w.1 kc_Strides.1 rfl, kx_pre F w [0, 1, 2, 3, 4, 5, 6] rfl rfl⟩ rfl rfl hl.1 rfl (lv_room (Nat.le_of_ble_eq_true rfl)) d_Strides_learn_8 ⟨Nat.le_of_ble_eq_true rfl, Nat.le_of_ble_eq_true rfl⟩) (fun r8 w8 H locs hp w => ?_)
  subst hp
  have w : kx_W G A s ([(h, .inr (4, [.int d, .ref sa, .int u.1, .ref a_tk, .ref a_pl, .ref a_li, .ref a_st, .ref a_tr])), (sa, .inl (G.2 0, 4, .inl u.2.1)), (a_tk, .inl (G.2 1, 16, .inl u.2.2.1)), (a_pl, .inl (G.2 0, 16, .inl u.2.2.2.1)), (a_li, .inl (G.2 0, 16, .inl u.2.2.2.2.1)), (a_st, .inl (G.2 0, 16, .inl u.2.2.2.2.2.1)), (a_tr, .inl (G.2 0, 16, .inl u.2.2.2.2.2.2))] ++ []) H locs := w
  refine lv_if_ne (tgt := 22) hx hb d_Strides_learn_11 (by decide) (fun c11 => ?_) (fun c11 => ?_)
  · have hF := kx_f c11 hF
    refine lv_aload_n hx hb d_Strides_learn_22 rfl (lv_at hl 1 rfl) ?_
    refine lv_iload_n hx hb d_Strides_learn_23 rfl (lv_at hl 0 rfl) ?_
    refine lv_iload_n hx hb d_Strides_learn_24 rfl (lv_at hl 3 rfl) ?_
    refine lv_aload_n hx hb d_Strides_learn_25 rfl (lv_at hl 1 rfl) ?_
    refine kx_get S F w kc_Strides 0 rfl 5 (by decide) kw_25 rfl d_Strides_learn_26 ?_
    refine lv_iload_n hx hb d_Strides_learn_29 rfl (lv_at hl 0 rfl) ?_
    obtain ⟨hi30, hF⟩ := kx_ar hF
    refine kx_iald S F w 4 rfl hi30 d_Strides_learn_30 ?_
    refine lv_isub hx hb d_Strides_learn_31 ?_
    obtain ⟨q32, hq32, hF⟩ := kx_bd hF
    refine kx_cv (cx := [(h, .inr (4, [.int d, .ref sa, .int u.1, .ref a_tk, .ref a_pl, .ref a_li, .ref a_st, .ref a_tr])), (sa, .inl (G.2 0, 4, .inl u.2.1)), (a_tk, .inl (G.2 1, 16, .inl u.2.2.1)), (a_pl, .inl (G.2 0, 16, .inl u.2.2.2.1)), (a_li, .inl (G.2 0, 16, .inl u.2.2.2.2.1)), (a_st, .inl (G.2 0, 16, .inl u.2.2.2.2.2.1)), (a_tr, .inl (G.2 0, 16, .inl u.2.2.2.2.2.2))]) (wr := []) F w [0, 1, 2, 3, 4, 5, 6] [] rfl rfl rfl (by decide) (va_runV (As := [.int q1, .int (p1 - (u.2.2.2.2.1 q1.toNatClampNeg))]) (rest := []) S (c_Strides_compare l G h sa d a_tk a_pl a_li a_st a_tr u q1 (p1 - (u.2.2.2.2.1 q1.toNatClampNeg)) q32 hq32 _) (kx_cwV S mv_Strides_compare kw_34 ⟨rfl, rfl, Nat.le_of_ble_eq_true rfl, Nat.le_of_ble_eq_true rfl⟩) ⟨kx_blind _ _ _ _, va_recv (q0 := 0) F.1.1 w.1 kc_Strides.1 rfl, kx_pre F w [0, 1, 2, 3, 4, 5, 6] rfl rfl⟩ rfl rfl hl.1 rfl (lv_room (Nat.le_of_ble_eq_true rfl)) d_Strides_learn_32 ⟨Nat.le_of_ble_eq_true rfl, Nat.le_of_ble_eq_true rfl⟩) (fun w32 H locs hp w => ?_)
    subst hp
    have w : kx_W G A s ([(h, .inr (4, [.int d, .ref sa, .int q32.1, .ref a_tk, .ref a_pl, .ref a_li, .ref a_st, .ref a_tr])), (sa, .inl (G.2 0, 4, .inl q32.2.1)), (a_tk, .inl (G.2 1, 16, .inl q32.2.2.1)), (a_pl, .inl (G.2 0, 16, .inl q32.2.2.2.1)), (a_li, .inl (G.2 0, 16, .inl q32.2.2.2.2.1)), (a_st, .inl (G.2 0, 16, .inl q32.2.2.2.2.2.1)), (a_tr, .inl (G.2 0, 16, .inl q32.2.2.2.2.2.2))] ++ []) H locs := w
    refine lv_aload_n hx hb d_Strides_learn_35 rfl (lv_at hl 1 rfl) ?_
    refine kx_get S F w kc_Strides 0 rfl 5 (by decide) kw_25 rfl d_Strides_learn_36 ?_
    refine lv_iload_n hx hb d_Strides_learn_39 rfl (lv_at hl 0 rfl) ?_
    refine lv_iload_n hx hb d_Strides_learn_40 rfl (lv_at hl 3 rfl) ?_
    obtain ⟨hi41, hF⟩ := kx_ar hF
    refine kx_iast S F w 4 rfl hi41 d_Strides_learn_41 (fun H locs w => ?_)
    have w : kx_W G A s ([(h, .inr (4, [.int d, .ref sa, .int q32.1, .ref a_tk, .ref a_pl, .ref a_li, .ref a_st, .ref a_tr])), (sa, .inl (G.2 0, 4, .inl q32.2.1)), (a_tk, .inl (G.2 1, 16, .inl q32.2.2.1)), (a_pl, .inl (G.2 0, 16, .inl q32.2.2.2.1)), (a_li, .inl (G.2 0, 16, .inl (upd q32.2.2.2.2.1 q1.toNatClampNeg p1))), (a_st, .inl (G.2 0, 16, .inl q32.2.2.2.2.2.1)), (a_tr, .inl (G.2 0, 16, .inl q32.2.2.2.2.2.2))] ++ []) H locs := w
    refine lv_aload_n hx hb d_Strides_learn_42 rfl (lv_at hl 1 rfl) ?_
    refine kx_get S F w kc_Strides 0 rfl 7 (by decide) kw_27 rfl d_Strides_learn_43 ?_
    refine lv_iload_n hx hb d_Strides_learn_46 rfl (lv_at hl 0 rfl) ?_
    obtain ⟨hi47, hF⟩ := kx_ar hF
    refine kx_iald S F w 6 rfl hi47 d_Strides_learn_47 ?_
    refine lv_iconst (v := (2 : Int32)) hx hb d_Strides_learn_48 (by decide) ?_
    refine lv_icmp_lt (tgt := 72) hx hb d_Strides_learn_49 (by decide) (fun c49 => ?_) (fun c49 => ?_)
    · have hF := kx_t c49 hF
      obtain rfl := Option.some.inj hF
      exact kx_vret hQ S hr hlocks w (xo := [(h, .inr (4, [.int d, .ref sa, .int q32.1, .ref a_tk, .ref a_pl, .ref a_li, .ref a_st, .ref a_tr])), (sa, .inl (G.2 0, 4, .inl q32.2.1)), (a_tk, .inl (G.2 1, 16, .inl q32.2.2.1)), (a_pl, .inl (G.2 0, 16, .inl q32.2.2.2.1)), (a_li, .inl (G.2 0, 16, .inl (upd q32.2.2.2.2.1 q1.toNatClampNeg p1))), (a_st, .inl (G.2 0, 16, .inl q32.2.2.2.2.2.1)), (a_tr, .inl (G.2 0, 16, .inl q32.2.2.2.2.2.2))]) [0, 1, 2, 3, 4, 5, 6] rfl rfl (q32.1, q32.2.1, q32.2.2.1, q32.2.2.2.1, upd q32.2.2.2.2.1 q1.toNatClampNeg p1, q32.2.2.2.2.2) rfl rfl d_Strides_learn_72
    · have hF := kx_f c49 hF
      refine lv_aload_n hx hb d_Strides_learn_52 rfl (lv_at hl 1 rfl) ?_
      refine kx_get S F w kc_Strides 0 rfl 6 (by decide) kw_26 rfl d_Strides_learn_53 ?_
      refine lv_iload_n hx hb d_Strides_learn_56 rfl (lv_at hl 0 rfl) ?_
      obtain ⟨hi57, hF⟩ := kx_ar hF
      refine kx_iald S F w 5 rfl hi57 d_Strides_learn_57 ?_
      refine lv_if_eq (tgt := 72) hx hb d_Strides_learn_58 (by decide) (fun c58 => ?_) (fun c58 => ?_)
      · have hF := kx_t c58 hF
        obtain rfl := Option.some.inj hF
        exact kx_vret hQ S hr hlocks w (xo := [(h, .inr (4, [.int d, .ref sa, .int q32.1, .ref a_tk, .ref a_pl, .ref a_li, .ref a_st, .ref a_tr])), (sa, .inl (G.2 0, 4, .inl q32.2.1)), (a_tk, .inl (G.2 1, 16, .inl q32.2.2.1)), (a_pl, .inl (G.2 0, 16, .inl q32.2.2.2.1)), (a_li, .inl (G.2 0, 16, .inl (upd q32.2.2.2.2.1 q1.toNatClampNeg p1))), (a_st, .inl (G.2 0, 16, .inl q32.2.2.2.2.2.1)), (a_tr, .inl (G.2 0, 16, .inl q32.2.2.2.2.2.2))]) [0, 1, 2, 3, 4, 5, 6] rfl rfl (q32.1, q32.2.1, q32.2.2.1, q32.2.2.2.1, upd q32.2.2.2.2.1 q1.toNatClampNeg p1, q32.2.2.2.2.2) rfl rfl d_Strides_learn_72
      · have hF := kx_f c58 hF
        refine lv_aload_n hx hb d_Strides_learn_61 rfl (lv_at hl 1 rfl) ?_
        refine lv_iload_n hx hb d_Strides_learn_62 rfl (lv_at hl 3 rfl) ?_
        refine lv_aload_n hx hb d_Strides_learn_63 rfl (lv_at hl 1 rfl) ?_
        refine kx_get S F w kc_Strides 0 rfl 6 (by decide) kw_26 rfl d_Strides_learn_64 ?_
        refine lv_iload_n hx hb d_Strides_learn_67 rfl (lv_at hl 0 rfl) ?_
        obtain ⟨hi68, hF⟩ := kx_ar hF
        refine kx_iald S F w 5 rfl hi68 d_Strides_learn_68 ?_
        obtain ⟨q69, hq69, hF⟩ := kx_bd hF
        refine kx_cv (cx := [(h, .inr (4, [.int d, .ref sa, .int q32.1, .ref a_tk, .ref a_pl, .ref a_li, .ref a_st, .ref a_tr])), (sa, .inl (G.2 0, 4, .inl q32.2.1))]) (wr := [(a_tk, .inl (G.2 1, 16, .inl q32.2.2.1)), (a_pl, .inl (G.2 0, 16, .inl q32.2.2.2.1)), (a_li, .inl (G.2 0, 16, .inl (upd q32.2.2.2.2.1 q1.toNatClampNeg p1))), (a_st, .inl (G.2 0, 16, .inl q32.2.2.2.2.2.1)), (a_tr, .inl (G.2 0, 16, .inl q32.2.2.2.2.2.2))]) F w [0, 1] [2, 3, 4, 5, 6] rfl rfl rfl (by decide) (va_runU (As := [.int p1, .int (q32.2.2.2.2.2.1 q1.toNatClampNeg)]) (rest := []) S (c_Rule_sayInSteps l G 4 ("PrefetchRules$Strides") F_Strides 8 t_Strides h sa d ([.ref a_tk, .ref a_pl, .ref a_li, .ref a_st, .ref a_tr]) kr_Strides (q32.1, q32.2.1) p1 (q32.2.2.2.2.2.1 q1.toNatClampNeg) q69 hq69 _) (kx_cwU (n := 2) (x := ⟨"PrefetchRules$Strides", "sayInSteps", "(II)V"⟩) S kw_18 kw_35 kw_36 kw_37 kw_22 kw_17 rfl (by decide +kernel) ⟨rfl, rfl, Nat.le_of_ble_eq_true rfl, Nat.le_of_ble_eq_true rfl⟩) ⟨kx_blind _ _ _ _, va_recv (q0 := 0) F.1.1 w.1 kc_Strides.1 rfl, kx_pre F w [0, 1] rfl rfl⟩ rfl rfl hl.1 rfl (lv_room (Nat.le_of_ble_eq_true rfl)) d_Strides_learn_69 ⟨Nat.le_of_ble_eq_true rfl, Nat.le_of_ble_eq_true rfl⟩) (fun w69 H locs hp w => ?_)
        subst hp
        have w : kx_W G A s ([(a_tk, .inl (G.2 1, 16, .inl q32.2.2.1)), (a_pl, .inl (G.2 0, 16, .inl q32.2.2.2.1)), (a_li, .inl (G.2 0, 16, .inl (upd q32.2.2.2.2.1 q1.toNatClampNeg p1))), (a_st, .inl (G.2 0, 16, .inl q32.2.2.2.2.2.1)), (a_tr, .inl (G.2 0, 16, .inl q32.2.2.2.2.2.2)), (h, .inr (4, [.int d, .ref sa, .int q69.1, .ref a_tk, .ref a_pl, .ref a_li, .ref a_st, .ref a_tr])), (sa, .inl (G.2 0, 4, .inl q69.2))] ++ []) H locs := w
        obtain rfl := Option.some.inj hF
        exact kx_vret hQ S hr hlocks w (xo := [(h, .inr (4, [.int d, .ref sa, .int q69.1, .ref a_tk, .ref a_pl, .ref a_li, .ref a_st, .ref a_tr])), (sa, .inl (G.2 0, 4, .inl q69.2)), (a_tk, .inl (G.2 1, 16, .inl q32.2.2.1)), (a_pl, .inl (G.2 0, 16, .inl q32.2.2.2.1)), (a_li, .inl (G.2 0, 16, .inl (upd q32.2.2.2.2.1 q1.toNatClampNeg p1))), (a_st, .inl (G.2 0, 16, .inl q32.2.2.2.2.2.1)), (a_tr, .inl (G.2 0, 16, .inl q32.2.2.2.2.2.2))]) [5, 6, 0, 1, 2, 3, 4] rfl rfl (q69.1, q69.2, q32.2.2.1, q32.2.2.2.1, upd q32.2.2.2.2.1 q1.toNatClampNeg p1, q32.2.2.2.2.2) rfl rfl d_Strides_learn_72
  · have hF := kx_t c11 hF
    refine lv_aload_n hx hb d_Strides_learn_14 rfl (lv_at hl 1 rfl) ?_
    refine lv_iload_n hx hb d_Strides_learn_15 rfl (lv_at hl 0 rfl) ?_
    refine lv_iload_n hx hb d_Strides_learn_16 rfl (lv_at hl 2 rfl) ?_
    refine lv_iload_n hx hb d_Strides_learn_17 rfl (lv_at hl 3 rfl) ?_
    obtain ⟨q18, hq18, hF⟩ := kx_bd hF
    refine kx_cv (cx := [(h, .inr (4, [.int d, .ref sa, .int u.1, .ref a_tk, .ref a_pl, .ref a_li, .ref a_st, .ref a_tr])), (sa, .inl (G.2 0, 4, .inl u.2.1)), (a_tk, .inl (G.2 1, 16, .inl u.2.2.1)), (a_pl, .inl (G.2 0, 16, .inl u.2.2.2.1)), (a_li, .inl (G.2 0, 16, .inl u.2.2.2.2.1)), (a_st, .inl (G.2 0, 16, .inl u.2.2.2.2.2.1)), (a_tr, .inl (G.2 0, 16, .inl u.2.2.2.2.2.2))]) (wr := []) F w [0, 1, 2, 3, 4, 5, 6] [] rfl rfl rfl (by decide) (va_runV (As := [.int q1, .int p0, .int p1]) (rest := []) S (c_Strides_begin l G h sa d a_tk a_pl a_li a_st a_tr u q1 p0 p1 q18 hq18 _) (kx_cwV S mv_Strides_begin kw_38 ⟨rfl, rfl, Nat.le_of_ble_eq_true rfl, Nat.le_of_ble_eq_true rfl⟩) ⟨kx_blind _ _ _ _, va_recv (q0 := 0) F.1.1 w.1 kc_Strides.1 rfl, kx_pre F w [0, 1, 2, 3, 4, 5, 6] rfl rfl⟩ rfl rfl hl.1 rfl (lv_room (Nat.le_of_ble_eq_true rfl)) d_Strides_learn_18 ⟨Nat.le_of_ble_eq_true rfl, Nat.le_of_ble_eq_true rfl⟩) (fun w18 H locs hp w => ?_)
    subst hp
    have w : kx_W G A s ([(h, .inr (4, [.int d, .ref sa, .int q18.1, .ref a_tk, .ref a_pl, .ref a_li, .ref a_st, .ref a_tr])), (sa, .inl (G.2 0, 4, .inl q18.2.1)), (a_tk, .inl (G.2 1, 16, .inl q18.2.2.1)), (a_pl, .inl (G.2 0, 16, .inl q18.2.2.2.1)), (a_li, .inl (G.2 0, 16, .inl q18.2.2.2.2.1)), (a_st, .inl (G.2 0, 16, .inl q18.2.2.2.2.2.1)), (a_tr, .inl (G.2 0, 16, .inl q18.2.2.2.2.2.2))] ++ []) H locs := w
    obtain rfl := Option.some.inj hF
    exact kx_vret hQ S hr hlocks w (xo := [(h, .inr (4, [.int d, .ref sa, .int q18.1, .ref a_tk, .ref a_pl, .ref a_li, .ref a_st, .ref a_tr])), (sa, .inl (G.2 0, 4, .inl q18.2.1)), (a_tk, .inl (G.2 1, 16, .inl q18.2.2.1)), (a_pl, .inl (G.2 0, 16, .inl q18.2.2.2.1)), (a_li, .inl (G.2 0, 16, .inl q18.2.2.2.2.1)), (a_st, .inl (G.2 0, 16, .inl q18.2.2.2.2.2.1)), (a_tr, .inl (G.2 0, 16, .inl q18.2.2.2.2.2.2))]) [0, 1, 2, 3, 4, 5, 6] rfl rfl q18 rfl rfl d_Strides_learn_21
/-! Strides_knowledge -/
def f_Strides_knowledge (d : Int32) (u : sg_strides) (p0 : Int32) : Option (Int32) := (f_Strides_rowOf p0).bind (fun q1 => (f_Strides_isOwn d u q1 p0).bind (fun q8 => (if q8 = 0 then some (0 : Int32) else (if (q1 < 0 ∨ 16 ≤ q1.toNatClampNeg) then none else some (u.2.2.2.2.2.1 q1.toNatClampNeg)))))
def rm_Strides_knowledge : Room := { frames := 2, cells := 0, slots := 0, locals := 44 }
set_option maxRecDepth 100000 in
set_option maxHeartbeats 4000000 in
theorem c_Strides_knowledge (l : Launch) (G : kx_G) (h : Nat) (sa : Nat) (d : Int32) (a_tk : Nat) (a_pl : Nat) (a_li : Nat) (a_st : Nat) (a_tr : Nat) (u : sg_strides) (p0 : Int32) (v : Int32) (hF : f_Strides_knowledge d u p0 = some v) : CtI l y_Strides_knowledge b_Strides_knowledge 3 (some .int) rm_Strides_knowledge G [.ref h, .int p0] [(h, .inr (4, [.int d, .ref sa, .int u.1, .ref a_tk, .ref a_pl, .ref a_li, .ref a_st, .ref a_tr])), (sa, .inl (G.2 0, 4, .inl u.2.1)), (a_tk, .inl (G.2 1, 16, .inl u.2.2.1)), (a_pl, .inl (G.2 0, 16, .inl u.2.2.2.1)), (a_li, .inl (G.2 0, 16, .inl u.2.2.2.2.1)), (a_st, .inl (G.2 0, 16, .inl u.2.2.2.2.2.1)), (a_tr, .inl (G.2 0, 16, .inl u.2.2.2.2.2.2))] (fun (r : Int32) (_ : Unit) => v = r) (fun _ => [(h, .inr (4, [.int d, .ref sa, .int u.1, .ref a_tk, .ref a_pl, .ref a_li, .ref a_st, .ref a_tr])), (sa, .inl (G.2 0, 4, .inl u.2.1)), (a_tk, .inl (G.2 1, 16, .inl u.2.2.1)), (a_pl, .inl (G.2 0, 16, .inl u.2.2.2.1)), (a_li, .inl (G.2 0, 16, .inl u.2.2.2.2.1)), (a_st, .inl (G.2 0, 16, .inl u.2.2.2.2.2.1)), (a_tr, .inl (G.2 0, 16, .inl u.2.2.2.2.2.2))]) 0 0 := by
  refine CtI.of (by decide) (Nat.le_of_ble_eq_true rfl) [(0, .ref h), (1, .int p0)] rfl ?_
  intro p e s m args below meth c A ls Q hQ S hr hlocks F w hl
  have S : CallFix p m c b_Strides_knowledge 3 s args kx_T "PrefetchRules$Strides" := S
  obtain ⟨hx, hb, hml, hown, hts⟩ := id S
  have w : kx_W G A s ([(h, .inr (4, [.int d, .ref sa, .int u.1, .ref a_tk, .ref a_pl, .ref a_li, .ref a_st, .ref a_tr])), (sa, .inl (G.2 0, 4, .inl u.2.1)), (a_tk, .inl (G.2 1, 16, .inl u.2.2.1)), (a_pl, .inl (G.2 0, 16, .inl u.2.2.2.1)), (a_li, .inl (G.2 0, 16, .inl u.2.2.2.2.1)), (a_st, .inl (G.2 0, 16, .inl u.2.2.2.2.2.1)), (a_tr, .inl (G.2 0, 16, .inl u.2.2.2.2.2.2))] ++ []) s.heap [] := w
  unfold f_Strides_knowledge at hF
  refine lv_iload_n hx hb d_Strides_knowledge_0 rfl (lv_at hl 1 rfl) ?_
  obtain ⟨q1, hq1, hF⟩ := kx_bd hF
  refine kx_ci (cx := []) (wr := [(h, .inr (4, [.int d, .ref sa, .int u.1, .ref a_tk, .ref a_pl, .ref a_li, .ref a_st, .ref a_tr])), (sa, .inl (G.2 0, 4, .inl u.2.1)), (a_tk, .inl (G.2 1, 16, .inl u.2.2.1)), (a_pl, .inl (G.2 0, 16, .inl u.2.2.2.1)), (a_li, .inl (G.2 0, 16, .inl u.2.2.2.2.1)), (a_st, .inl (G.2 0, 16, .inl u.2.2.2.2.2.1)), (a_tr, .inl (G.2 0, 16, .inl u.2.2.2.2.2.2))]) F w [] [0, 1, 2, 3, 4, 5, 6] rfl rfl rfl (by decide) (va_runS (As := [.int p0]) (rest := []) S (c_Strides_rowOf l G p0 q1 hq1 _) (kx_cwS S ms_Strides_rowOf kw_32 ⟨rfl, rfl, Nat.le_of_ble_eq_true rfl, Nat.le_of_ble_eq_true rfl⟩) ⟨kx_blind _ _ _ _, kx_pre F w [] rfl rfl⟩ rfl rfl hl.1 rfl (lv_room (Nat.le_of_ble_eq_true rfl)) d_Strides_knowledge_1 ⟨Nat.le_of_ble_eq_true rfl, Nat.le_of_ble_eq_true rfl⟩) (fun r1 w1 H locs hp w => ?_)
  subst hp
  have w : kx_W G A s ([(h, .inr (4, [.int d, .ref sa, .int u.1, .ref a_tk, .ref a_pl, .ref a_li, .ref a_st, .ref a_tr])), (sa, .inl (G.2 0, 4, .inl u.2.1)), (a_tk, .inl (G.2 1, 16, .inl u.2.2.1)), (a_pl, .inl (G.2 0, 16, .inl u.2.2.2.1)), (a_li, .inl (G.2 0, 16, .inl u.2.2.2.2.1)), (a_st, .inl (G.2 0, 16, .inl u.2.2.2.2.2.1)), (a_tr, .inl (G.2 0, 16, .inl u.2.2.2.2.2.2))] ++ []) H locs := w
  refine lv_istore_n (lv' := [(2, .int q1), (0, .ref h), (1, .int p0)]) hx hb d_Strides_knowledge_4 rfl hl (by decide) rfl (fun ls hl => ?_)
  refine lv_aload_n hx hb d_Strides_knowledge_5 rfl (lv_at hl 1 rfl) ?_
  refine lv_iload_n hx hb d_Strides_knowledge_6 rfl (lv_at hl 0 rfl) ?_
  refine lv_iload_n hx hb d_Strides_knowledge_7 rfl (lv_at hl 2 rfl) ?_
  obtain ⟨q8, hq8, hF⟩ := kx_bd hF
  refine kx_ci (cx := [(h, .inr (4, [.int d, .ref sa, .int u.1, .ref a_tk, .ref a_pl, .ref a_li, .ref a_st, .ref a_tr])), (sa, .inl (G.2 0, 4, .inl u.2.1)), (a_tk, .inl (G.2 1, 16, .inl u.2.2.1)), (a_pl, .inl (G.2 0, 16, .inl u.2.2.2.1)), (a_li, .inl (G.2 0, 16, .inl u.2.2.2.2.1)), (a_st, .inl (G.2 0, 16, .inl u.2.2.2.2.2.1)), (a_tr, .inl (G.2 0, 16, .inl u.2.2.2.2.2.2))]) (wr := []) F w [0, 1, 2, 3, 4, 5, 6] [] rfl rfl rfl (by decide) (va_runV (As := [.int q1, .int p0]) (rest := []) S (c_Strides_isOwn l G h sa d a_tk a_pl a_li a_st a_tr u q1 p0 q8 hq8 _) (kx_cwV S mv_Strides_isOwn kw_33 ⟨rfl, rfl, Nat.le_of_ble_eq_true rfl, Nat.le_of_ble_eq_true rfl⟩) ⟨kx_blind _ _ _ _, va_recv (q0 := 0) F.1.1 w.1 kc_Strides.1 rfl, kx_pre F w [0, 1, 2, 3, 4, 5, 6] rfl rfl⟩ rfl rfl hl.1 rfl (lv_room (Nat.le_of_ble_eq_true rfl)) d_Strides_knowledge_8 ⟨Nat.le_of_ble_eq_true rfl, Nat.le_of_ble_eq_true rfl⟩) (fun r8 w8 H locs hp w => ?_)
  subst hp
  have w : kx_W G A s ([(h, .inr (4, [.int d, .ref sa, .int u.1, .ref a_tk, .ref a_pl, .ref a_li, .ref a_st, .ref a_tr])), (sa, .inl (G.2 0, 4, .inl u.2.1)), (a_tk, .inl (G.2 1, 16, .inl u.2.2.1)), (a_pl, .inl (G.2 0, 16, .inl u.2.2.2.1)), (a_li, .inl (G.2 0, 16, .inl u.2.2.2.2.1)), (a_st, .inl (G.2 0, 16, .inl u.2.2.2.2.2.1)), (a_tr, .inl (G.2 0, 16, .inl u.2.2.2.2.2.2))] ++ []) H locs := w
  refine lv_if_eq (tgt := 23) hx hb d_Strides_knowledge_11 (by decide) (fun c11 => ?_) (fun c11 => ?_)
  · have hF := kx_t c11 hF
    refine lv_iconst (v := (0 : Int32)) hx hb d_Strides_knowledge_23 (by decide) ?_
    obtain rfl := Option.some.inj hF
    exact kx_iret hQ S hr hlocks w (xo := [(h, .inr (4, [.int d, .ref sa, .int u.1, .ref a_tk, .ref a_pl, .ref a_li, .ref a_st, .ref a_tr])), (sa, .inl (G.2 0, 4, .inl u.2.1)), (a_tk, .inl (G.2 1, 16, .inl u.2.2.1)), (a_pl, .inl (G.2 0, 16, .inl u.2.2.2.1)), (a_li, .inl (G.2 0, 16, .inl u.2.2.2.2.1)), (a_st, .inl (G.2 0, 16, .inl u.2.2.2.2.2.1)), (a_tr, .inl (G.2 0, 16, .inl u.2.2.2.2.2.2))]) [0, 1, 2, 3, 4, 5, 6] rfl rfl () rfl rfl d_Strides_knowledge_24
  · have hF := kx_f c11 hF
    refine lv_aload_n hx hb d_Strides_knowledge_14 rfl (lv_at hl 1 rfl) ?_
    refine kx_get S F w kc_Strides 0 rfl 6 (by decide) kw_26 rfl d_Strides_knowledge_15 ?_
    refine lv_iload_n hx hb d_Strides_knowledge_18 rfl (lv_at hl 0 rfl) ?_
    obtain ⟨hi19, hF⟩ := kx_ar hF
    refine kx_iald S F w 5 rfl hi19 d_Strides_knowledge_19 ?_
    refine lv_goto (tgt := 24) hx hb d_Strides_knowledge_20 (by decide) ?_
    obtain rfl := Option.some.inj hF
    exact kx_iret hQ S hr hlocks w (xo := [(h, .inr (4, [.int d, .ref sa, .int u.1, .ref a_tk, .ref a_pl, .ref a_li, .ref a_st, .ref a_tr])), (sa, .inl (G.2 0, 4, .inl u.2.1)), (a_tk, .inl (G.2 1, 16, .inl u.2.2.1)), (a_pl, .inl (G.2 0, 16, .inl u.2.2.2.1)), (a_li, .inl (G.2 0, 16, .inl u.2.2.2.2.1)), (a_st, .inl (G.2 0, 16, .inl u.2.2.2.2.2.1)), (a_tr, .inl (G.2 0, 16, .inl u.2.2.2.2.2.2))]) [0, 1, 2, 3, 4, 5, 6] rfl rfl () rfl rfl d_Strides_knowledge_24
/-! Strides_confidence -/
def f_Strides_confidence (d : Int32) (u : sg_strides) (p0 : Int32) : Option (Int32) := (f_Strides_rowOf p0).bind (fun q1 => (f_Strides_isOwn d u q1 p0).bind (fun q8 => (if q8 = 0 then some (0 : Int32) else (if (q1 < 0 ∨ 16 ≤ q1.toNatClampNeg) then none else some (u.2.2.2.2.2.2 q1.toNatClampNeg)))))
def rm_Strides_confidence : Room := { frames := 2, cells := 0, slots := 0, locals := 44 }
set_option maxRecDepth 100000 in
set_option maxHeartbeats 4000000 in
theorem c_Strides_confidence (l : Launch) (G : kx_G) (h : Nat) (sa : Nat) (d : Int32) (a_tk : Nat) (a_pl : Nat) (a_li : Nat) (a_st : Nat) (a_tr : Nat) (u : sg_strides) (p0 : Int32) (v : Int32) (hF : f_Strides_confidence d u p0 = some v) : CtI l y_Strides_confidence b_Strides_confidence 3 (some .int) rm_Strides_confidence G [.ref h, .int p0] [(h, .inr (4, [.int d, .ref sa, .int u.1, .ref a_tk, .ref a_pl, .ref a_li, .ref a_st, .ref a_tr])), (sa, .inl (G.2 0, 4, .inl u.2.1)), (a_tk, .inl (G.2 1, 16, .inl u.2.2.1)), (a_pl, .inl (G.2 0, 16, .inl u.2.2.2.1)), (a_li, .inl (G.2 0, 16, .inl u.2.2.2.2.1)), (a_st, .inl (G.2 0, 16, .inl u.2.2.2.2.2.1)), (a_tr, .inl (G.2 0, 16, .inl u.2.2.2.2.2.2))] (fun (r : Int32) (_ : Unit) => v = r) (fun _ => [(h, .inr (4, [.int d, .ref sa, .int u.1, .ref a_tk, .ref a_pl, .ref a_li, .ref a_st, .ref a_tr])), (sa, .inl (G.2 0, 4, .inl u.2.1)), (a_tk, .inl (G.2 1, 16, .inl u.2.2.1)), (a_pl, .inl (G.2 0, 16, .inl u.2.2.2.1)), (a_li, .inl (G.2 0, 16, .inl u.2.2.2.2.1)), (a_st, .inl (G.2 0, 16, .inl u.2.2.2.2.2.1)), (a_tr, .inl (G.2 0, 16, .inl u.2.2.2.2.2.2))]) 0 0 := by
  refine CtI.of (by decide) (Nat.le_of_ble_eq_true rfl) [(0, .ref h), (1, .int p0)] rfl ?_
  intro p e s m args below meth c A ls Q hQ S hr hlocks F w hl
  have S : CallFix p m c b_Strides_confidence 3 s args kx_T "PrefetchRules$Strides" := S
  obtain ⟨hx, hb, hml, hown, hts⟩ := id S
  have w : kx_W G A s ([(h, .inr (4, [.int d, .ref sa, .int u.1, .ref a_tk, .ref a_pl, .ref a_li, .ref a_st, .ref a_tr])), (sa, .inl (G.2 0, 4, .inl u.2.1)), (a_tk, .inl (G.2 1, 16, .inl u.2.2.1)), (a_pl, .inl (G.2 0, 16, .inl u.2.2.2.1)), (a_li, .inl (G.2 0, 16, .inl u.2.2.2.2.1)), (a_st, .inl (G.2 0, 16, .inl u.2.2.2.2.2.1)), (a_tr, .inl (G.2 0, 16, .inl u.2.2.2.2.2.2))] ++ []) s.heap [] := w
  unfold f_Strides_confidence at hF
  refine lv_iload_n hx hb d_Strides_confidence_0 rfl (lv_at hl 1 rfl) ?_
  obtain ⟨q1, hq1, hF⟩ := kx_bd hF
  refine kx_ci (cx := []) (wr := [(h, .inr (4, [.int d, .ref sa, .int u.1, .ref a_tk, .ref a_pl, .ref a_li, .ref a_st, .ref a_tr])), (sa, .inl (G.2 0, 4, .inl u.2.1)), (a_tk, .inl (G.2 1, 16, .inl u.2.2.1)), (a_pl, .inl (G.2 0, 16, .inl u.2.2.2.1)), (a_li, .inl (G.2 0, 16, .inl u.2.2.2.2.1)), (a_st, .inl (G.2 0, 16, .inl u.2.2.2.2.2.1)), (a_tr, .inl (G.2 0, 16, .inl u.2.2.2.2.2.2))]) F w [] [0, 1, 2, 3, 4, 5, 6] rfl rfl rfl (by decide) (va_runS (As := [.int p0]) (rest := []) S (c_Strides_rowOf l G p0 q1 hq1 _) (kx_cwS S ms_Strides_rowOf kw_32 ⟨rfl, rfl, Nat.le_of_ble_eq_true rfl, Nat.le_of_ble_eq_true rfl⟩) ⟨kx_blind _ _ _ _, kx_pre F w [] rfl rfl⟩ rfl rfl hl.1 rfl (lv_room (Nat.le_of_ble_eq_true rfl)) d_Strides_confidence_1 ⟨Nat.le_of_ble_eq_true rfl, Nat.le_of_ble_eq_true rfl⟩) (fun r1 w1 H locs hp w => ?_)
  subst hp
  have w : kx_W G A s ([(h, .inr (4, [.int d, .ref sa, .int u.1, .ref a_tk, .ref a_pl, .ref a_li, .ref a_st, .ref a_tr])), (sa, .inl (G.2 0, 4, .inl u.2.1)), (a_tk, .inl (G.2 1, 16, .inl u.2.2.1)), (a_pl, .inl (G.2 0, 16, .inl u.2.2.2.1)), (a_li, .inl (G.2 0, 16, .inl u.2.2.2.2.1)), (a_st, .inl (G.2 0, 16, .inl u.2.2.2.2.2.1)), (a_tr, .inl (G.2 0, 16, .inl u.2.2.2.2.2.2))] ++ []) H locs := w
  refine lv_istore_n (lv' := [(2, .int q1), (0, .ref h), (1, .int p0)]) hx hb d_Strides_confidence_4 rfl hl (by decide) rfl (fun ls hl => ?_)
  refine lv_aload_n hx hb d_Strides_confidence_5 rfl (lv_at hl 1 rfl) ?_
  refine lv_iload_n hx hb d_Strides_confidence_6 rfl (lv_at hl 0 rfl) ?_
  refine lv_iload_n hx hb d_Strides_confidence_7 rfl (lv_at hl 2 rfl) ?_
  obtain ⟨q8, hq8, hF⟩ := kx_bd hF
  refine kx_ci (cx := [(h, .inr (4, [.int d, .ref sa, .int u.1, .ref a_tk, .ref a_pl, .ref a_li, .ref a_st, .ref a_tr])), (sa, .inl (G.2 0, 4, .inl u.2.1)), (a_tk, .inl (G.2 1, 16, .inl u.2.2.1)), (a_pl, .inl (G.2 0, 16, .inl u.2.2.2.1)), (a_li, .inl (G.2 0, 16, .inl u.2.2.2.2.1)), (a_st, .inl (G.2 0, 16, .inl u.2.2.2.2.2.1)), (a_tr, .inl (G.2 0, 16, .inl u.2.2.2.2.2.2))]) (wr := []) F w [0, 1, 2, 3, 4, 5, 6] [] rfl rfl rfl (by decide) (va_runV (As := [.int q1, .int p0]) (rest := []) S (c_Strides_isOwn l G h sa d a_tk a_pl a_li a_st a_tr u q1 p0 q8 hq8 _) (kx_cwV S mv_Strides_isOwn kw_33 ⟨rfl, rfl, Nat.le_of_ble_eq_true rfl, Nat.le_of_ble_eq_true rfl⟩) ⟨kx_blind _ _ _ _, va_recv (q0 := 0) F.1.1 w.1 kc_Strides.1 rfl, kx_pre F w [0, 1, 2, 3, 4, 5, 6] rfl rfl⟩ rfl rfl hl.1 rfl (lv_room (Nat.le_of_ble_eq_true rfl)) d_Strides_confidence_8 ⟨Nat.le_of_ble_eq_true rfl, Nat.le_of_ble_eq_true rfl⟩) (fun r8 w8 H locs hp w => ?_)
  subst hp
  have w : kx_W G A s ([(h, .inr (4, [.int d, .ref sa, .int u.1, .ref a_tk, .ref a_pl, .ref a_li, .ref a_st, .ref a_tr])), (sa, .inl (G.2 0, 4, .inl u.2.1)), (a_tk, .inl (G.2 1, 16, .inl u.2.2.1)), (a_pl, .inl (G.2 0, 16, .inl u.2.2.2.1)), (a_li, .inl (G.2 0, 16, .inl u.2.2.2.2.1)), (a_st, .inl (G.2 0, 16, .inl u.2.2.2.2.2.1)), (a_tr, .inl (G.2 0, 16, .inl u.2.2.2.2.2.2))] ++ []) H locs := w
  refine lv_if_eq (tgt := 23) hx hb d_Strides_confidence_11 (by decide) (fun c11 => ?_) (fun c11 => ?_)
  · have hF := kx_t c11 hF
    refine lv_iconst (v := (0 : Int32)) hx hb d_Strides_confidence_23 (by decide) ?_
    obtain rfl := Option.some.inj hF
    exact kx_iret hQ S hr hlocks w (xo := [(h, .inr (4, [.int d, .ref sa, .int u.1, .ref a_tk, .ref a_pl, .ref a_li, .ref a_st, .ref a_tr])), (sa, .inl (G.2 0, 4, .inl u.2.1)), (a_tk, .inl (G.2 1, 16, .inl u.2.2.1)), (a_pl, .inl (G.2 0, 16, .inl u.2.2.2.1)), (a_li, .inl (G.2 0, 16, .inl u.2.2.2.2.1)), (a_st, .inl (G.2 0, 16, .inl u.2.2.2.2.2.1)), (a_tr, .inl (G.2 0, 16, .inl u.2.2.2.2.2.2))]) [0, 1, 2, 3, 4, 5, 6] rfl rfl () rfl rfl d_Strides_confidence_24
  · have hF := kx_f c11 hF
    refine lv_aload_n hx hb d_Strides_confidence_14 rfl (lv_at hl 1 rfl) ?_
    refine kx_get S F w kc_Strides 0 rfl 7 (by decide) kw_27 rfl d_Strides_confidence_15 ?_
    refine lv_iload_n hx hb d_Strides_confidence_18 rfl (lv_at hl 0 rfl) ?_
    obtain ⟨hi19, hF⟩ := kx_ar hF
    refine kx_iald S F w 6 rfl hi19 d_Strides_confidence_19 ?_
    refine lv_goto (tgt := 24) hx hb d_Strides_confidence_20 (by decide) ?_
    obtain rfl := Option.some.inj hF
    exact kx_iret hQ S hr hlocks w (xo := [(h, .inr (4, [.int d, .ref sa, .int u.1, .ref a_tk, .ref a_pl, .ref a_li, .ref a_st, .ref a_tr])), (sa, .inl (G.2 0, 4, .inl u.2.1)), (a_tk, .inl (G.2 1, 16, .inl u.2.2.1)), (a_pl, .inl (G.2 0, 16, .inl u.2.2.2.1)), (a_li, .inl (G.2 0, 16, .inl u.2.2.2.2.1)), (a_st, .inl (G.2 0, 16, .inl u.2.2.2.2.2.1)), (a_tr, .inl (G.2 0, 16, .inl u.2.2.2.2.2.2))]) [0, 1, 2, 3, 4, 5, 6] rfl rfl () rfl rfl d_Strides_confidence_24
/-! Streams_wayTo -/
def f_Streams_wayTo (p0 : Int32) : Option (Int32) := (if p0 < (1 : Int32) then (if (-1 : Int32) < p0 then some (0 : Int32) else (if p0 < (-2 : Int32) then some (0 : Int32) else some (-1 : Int32))) else (if (2 : Int32) < p0 then (if (-1 : Int32) < p0 then some (0 : Int32) else (if p0 < (-2 : Int32) then some (0 : Int32) else some (-1 : Int32))) else some (1 : Int32)))
def rm_Streams_wayTo : Room := { frames := 0, cells := 0, slots := 0, locals := 0 }
set_option maxRecDepth 100000 in
set_option maxHeartbeats 4000000 in
theorem c_Streams_wayTo (l : Launch) (G : kx_G) (p0 : Int32) (v : Int32) (hF : f_Streams_wayTo p0 = some v) : CtI l y_Streams_wayTo b_Streams_wayTo 1 (some .int) rm_Streams_wayTo G [.int p0] [] (fun (r : Int32) (_ : Unit) => v = r) (fun _ => []) 0 0 := by
  refine CtI.of (by decide) (Nat.le_of_ble_eq_true rfl) [(0, .int p0)] rfl ?_
  intro p e s m args below meth c A ls Q hQ S hr hlocks F w hl
  have S : CallFix p m c b_Streams_wayTo 1 s args kx_T "PrefetchRules$Streams" := S
  obtain ⟨hx, hb, hml, hown, hts⟩ := id S
  have w : kx_W G A s ([] ++ []) s.heap [] := w
  unfold f_Streams_wayTo at hF
  refine lv_iload_n hx hb d_Streams_wayTo_0 rfl (lv_at hl 0 rfl) ?_
  refine lv_iconst (v := (1 : Int32)) hx hb d_Streams_wayTo_1 (by decide) ?_
  refine lv_icmp_lt (tgt := 12) hx hb d_Streams_wayTo_2 (by decide) (fun c2 => ?_) (fun c2 => ?_)
  · have hF := kx_t c2 hF
    refine lv_iload_n hx hb d_Streams_wayTo_12 rfl (lv_at hl 0 rfl) ?_
    refine lv_iconst (v := (-1 : Int32)) hx hb d_Streams_wayTo_13 (by decide) ?_
    refine lv_icmp_gt (tgt := 27) hx hb d_Streams_wayTo_14 (by decide) (fun c14 => ?_) (fun c14 => ?_)
    · have hF := kx_t c14 hF
      refine lv_iconst (v := (0 : Int32)) hx hb d_Streams_wayTo_27 (by decide) ?_
      obtain rfl := Option.some.inj hF
      exact kx_iret hQ S hr hlocks w (xo := []) [] rfl rfl () rfl rfl d_Streams_wayTo_28
    · have hF := kx_f c14 hF
      refine lv_iload_n hx hb d_Streams_wayTo_17 rfl (lv_at hl 0 rfl) ?_
      refine lv_bipush (v := (-2 : Int32)) hx hb d_Streams_wayTo_18 (by decide) ?_
      refine lv_icmp_lt (tgt := 27) hx hb d_Streams_wayTo_20 (by decide) (fun c20 => ?_) (fun c20 => ?_)
      · have hF := kx_t c20 hF
        refine lv_iconst (v := (0 : Int32)) hx hb d_Streams_wayTo_27 (by decide) ?_
        obtain rfl := Option.some.inj hF
        exact kx_iret hQ S hr hlocks w (xo := []) [] rfl rfl () rfl rfl d_Streams_wayTo_28
      · have hF := kx_f c20 hF
        refine lv_iconst (v := (-1 : Int32)) hx hb d_Streams_wayTo_23 (by decide) ?_
        refine lv_goto (tgt := 28) hx hb d_Streams_wayTo_24 (by decide) ?_
        obtain rfl := Option.some.inj hF
        exact kx_iret hQ S hr hlocks w (xo := []) [] rfl rfl () rfl rfl d_Streams_wayTo_28
  · have hF := kx_f c2 hF
    refine lv_iload_n hx hb d_Streams_wayTo_5 rfl (lv_at hl 0 rfl) ?_
    refine lv_iconst (v := (2 : Int32)) hx hb d_Streams_wayTo_6 (by decide) ?_
    refine lv_icmp_gt (tgt := 12) hx hb d_Streams_wayTo_7 (by decide) (fun c7 => ?_) (fun c7 => ?_)
    · have hF := kx_t c7 hF
      refine lv_iload_n hx hb d_Streams_wayTo_12 rfl (lv_at hl 0 rfl) ?_
      refine lv_iconst (v := (-1 : Int32)) hx hb d_Streams_wayTo_13 (by decide) ?_
      refine lv_icmp_gt (tgt := 27) hx hb d_Streams_wayTo_14 (by decide) (fun c14 => ?_) (fun c14 => ?_)
      · have hF := kx_t c14 hF
        refine lv_iconst (v := (0 : Int32)) hx hb d_Streams_wayTo_27 (by decide) ?_
        obtain rfl := Option.some.inj hF
        exact kx_iret hQ S hr hlocks w (xo := []) [] rfl rfl () rfl rfl d_Streams_wayTo_28
      · have hF := kx_f c14 hF
        refine lv_iload_n hx hb d_Streams_wayTo_17 rfl (lv_at hl 0 rfl) ?_
        refine lv_bipush (v := (-2 : Int32)) hx hb d_Streams_wayTo_18 (by decide) ?_
        refine lv_icmp_lt (tgt := 27) hx hb d_Streams_wayTo_20 (by decide) (fun c20 => ?_) (fun c20 => ?_)
        · have hF := kx_t c20 hF
          refine lv_iconst (v := (0 : Int32)) hx hb d_Streams_wayTo_27 (by decide) ?_
          obtain rfl := Option.some.inj hF
          exact kx_iret hQ S hr hlocks w (xo := []) [] rfl rfl () rfl rfl d_Streams_wayTo_28
        · have hF := kx_f c20 hF
          refine lv_iconst (v := (-1 : Int32)) hx hb d_Streams_wayTo_23 (by decide) ?_
          refine lv_goto (tgt := 28) hx hb d_Streams_wayTo_24 (by decide) ?_
          obtain rfl := Option.some.inj hF
          exact kx_iret hQ S hr hlocks w (xo := []) [] rfl rfl () rfl rfl d_Streams_wayTo_28
    · have hF := kx_f c7 hF
      refine lv_iconst (v := (1 : Int32)) hx hb d_Streams_wayTo_10 (by decide) ?_
      obtain rfl := Option.some.inj hF
      exact kx_iret hQ S hr hlocks w (xo := []) [] rfl rfl () rfl rfl d_Streams_wayTo_11
/-! Streams_moveInFront -/
def lp_Streams_moveInFront_3 (d : Int32) : Nat → Int32 → Int32 → Int32 → Int32 → sg_streams → Option (sg_streams)
  | 0, _, _, _, _, _ => none
  | n3 + 1, x4, x1, x2, x3, u3 => (if x4 ≤ 0 then (if ((0 : Int32) < 0 ∨ 8 ≤ (0 : Int32).toNatClampNeg) then none else (if ((0 : Int32) < 0 ∨ 8 ≤ (0 : Int32).toNatClampNeg) then none else some (u3.1, u3.2.1, upd u3.2.2.1 (0 : Int32).toNatClampNeg x2, upd u3.2.2.2.1 (0 : Int32).toNatClampNeg x3, u3.2.2.2.2))) else (if ((x4 - (1 : Int32)) < 0 ∨ 8 ≤ (x4 - (1 : Int32)).toNatClampNeg) then none else (if (x4 < 0 ∨ 8 ≤ x4.toNatClampNeg) then none else (if ((x4 - (1 : Int32)) < 0 ∨ 8 ≤ (x4 - (1 : Int32)).toNatClampNeg) then none else (if (x4 < 0 ∨ 8 ≤ x4.toNatClampNeg) then none else lp_Streams_moveInFront_3 d n3 (x4 + (-1)) x1 x2 x3 (u3.1, u3.2.1, upd u3.2.2.1 x4.toNatClampNeg (u3.2.2.1 (x4 - (1 : Int32)).toNatClampNeg), upd u3.2.2.2.1 x4.toNatClampNeg (u3.2.2.2.1 (x4 - (1 : Int32)).toNatClampNeg), u3.2.2.2.2))))))
def f_Streams_moveInFront (d : Int32) (u : sg_streams) (p0 : Int32) (p1 : Int32) (p2 : Int32) : Option (sg_streams) := lp_Streams_moveInFront_3 d 1000 p0 p0 p1 p2 u
def rm_Streams_moveInFront : Room := { frames := 0, cells := 0, slots := 0, locals := 0 }
set_option maxRecDepth 100000 in
set_option maxHeartbeats 4000000 in
theorem c_Streams_moveInFront (l : Launch) (G : kx_G) (h : Nat) (sa : Nat) (d : Int32) (a_li : Nat) (a_wy : Nat) (u : sg_streams) (p0 : Int32) (p1 : Int32) (p2 : Int32) (v : sg_streams) (hF : f_Streams_moveInFront d u p0 p1 p2 = some v) : CtV l y_Streams_moveInFront b_Streams_moveInFront 5 rm_Streams_moveInFront G [.ref h, .int p0, .int p1, .int p2] [(h, .inr (5, [.int d, .ref sa, .int u.1, .ref a_li, .ref a_wy, .int u.2.2.2.2])), (sa, .inl (G.2 0, 4, .inl u.2.1)), (a_li, .inl (G.2 0, 8, .inl u.2.2.1)), (a_wy, .inl (G.2 0, 8, .inl u.2.2.2.1))] (fun w : sg_streams => v = w) (fun w => [(h, .inr (5, [.int d, .ref sa, .int w.1, .ref a_li, .ref a_wy, .int w.2.2.2.2])), (sa, .inl (G.2 0, 4, .inl w.2.1)), (a_li, .inl (G.2 0, 8, .inl w.2.2.1)), (a_wy, .inl (G.2 0, 8, .inl w.2.2.2.1))]) 0 0 := by
  refine CtV.of (by decide) (Nat.le_of_ble_eq_true rfl) [(0, .ref h), (1, .int p0), (2, .int p1), (3, .int p2)] rfl ?_
  intro p e s m args below meth c A ls Q hQ S hr hlocks hin F w hl
  have S : CallFix p m c b_Streams_moveInFront 5 s args kx_T "PrefetchRules$Streams" := S
  obtain ⟨hx, hb, hml, hown, hts⟩ := id S
  have w : kx_W G A s ([(h, .inr (5, [.int d, .ref sa, .int u.1, .ref a_li, .ref a_wy, .int u.2.2.2.2])), (sa, .inl (G.2 0, 4, .inl u.2.1)), (a_li, .inl (G.2 0, 8, .inl u.2.2.1)), (a_wy, .inl (G.2 0, 8, .inl u.2.2.2.1))] ++ []) s.heap [] := w
  unfold f_Streams_moveInFront at hF
  refine lv_iload_n hx hb d_Streams_moveInFront_0 rfl (lv_at hl 1 rfl) ?_
  refine lv_istore (lv' := [(4, .int p0), (0, .ref h), (1, .int p0), (2, .int p1), (3, .int p2)]) hx hb d_Streams_moveInFront_1 hl (by decide) rfl (fun ls hl => ?_)
  have L3 : ∀ (n3 : Nat) (x4 : Int32) (x1 : Int32) (x2 : Int32) (x3 : Int32) (u3 : sg_streams), lp_Streams_moveInFront_3 d n3 x4 x1 x2 x3 u3 = some v → ∀ (H : Heap) (locs : List Loc) (ls : Array Slot), kx_W G A s ([(h, .inr (5, [.int d, .ref sa, .int u3.1, .ref a_li, .ref a_wy, .int u3.2.2.2.2])), (sa, .inl (G.2 0, 4, .inl u3.2.1)), (a_li, .inl (G.2 0, 8, .inl u3.2.2.1)), (a_wy, .inl (G.2 0, 8, .inl u3.2.2.2.1))] ++ []) H locs → lv_has ls 5 [(4, .int x4), (0, .ref h), (1, .int x1), (2, .int x2), (3, .int x3)] → W p l e rm_Streams_moveInFront s m args below meth c H locs 0 0 Q (F0 m 3 ls []) := by
    intro n3
    induction n3 with
    | zero =>
      intro x4 x1 x2 x3 u3 hF
      rw [lp_Streams_moveInFront_3] at hF
      cases hF
    | succ n3 ih3 =>
      intro x4 x1 x2 x3 u3 hF H locs ls w hl
      rw [lp_Streams_moveInFront_3] at hF
      refine lv_iload hx hb d_Streams_moveInFront_3 (lv_at hl 0 rfl) ?_
      refine lv_if_le (tgt := 46) hx hb d_Streams_moveInFront_5 (by decide) (fun c5 => ?_) (fun c5 => ?_)
      · have hF := kx_t c5 hF
        refine lv_aload_n hx hb d_Streams_moveInFront_46 rfl (lv_at hl 1 rfl) ?_
        refine kx_get S F w kc_Streams 0 rfl 3 (by decide) kw_39 rfl d_Streams_moveInFront_47 ?_
        refine lv_iconst (v := (0 : Int32)) hx hb d_Streams_moveInFront_50 (by decide) ?_
        refine lv_iload_n hx hb d_Streams_moveInFront_51 rfl (lv_at hl 3 rfl) ?_
        obtain ⟨hi52, hF⟩ := kx_ar hF
        refine kx_iast S F w 2 rfl hi52 d_Streams_moveInFront_52 (fun H locs w => ?_)
        have w : kx_W G A s ([(h, .inr (5, [.int d, .ref sa, .int u3.1, .ref a_li, .ref a_wy, .int u3.2.2.2.2])), (sa, .inl (G.2 0, 4, .inl u3.2.1)), (a_li, .inl (G.2 0, 8, .inl (upd u3.2.2.1 (0 : Int32).toNatClampNeg x2))), (a_wy, .inl (G.2 0, 8, .inl u3.2.2.2.1))] ++ []) H locs := w
        refine lv_aload_n hx hb d_Streams_moveInFront_53 rfl (lv_at hl 1 rfl) ?_
        refine kx_get S F w kc_Streams 0 rfl 4 (by decide) kw_40 rfl d_Streams_moveInFront_54 ?_
        refine lv_iconst (v := (0 : Int32)) hx hb d_Streams_moveInFront_57 (by decide) ?_
        refine lv_iload_n hx hb d_Streams_moveInFront_58 rfl (lv_at hl 4 rfl) ?_
        obtain ⟨hi59, hF⟩ := kx_ar hF
        refine kx_iast S F w 3 rfl hi59 d_Streams_moveInFront_59 (fun H locs w => ?_)
        have w : kx_W G A s ([(h, .inr (5, [.int d, .ref sa, .int u3.1, .ref a_li, .ref a_wy, .int u3.2.2.2.2])), (sa, .inl (G.2 0, 4, .inl u3.2.1)), (a_li, .inl (G.2 0, 8, .inl (upd u3.2.2.1 (0 : Int32).toNatClampNeg x2))), (a_wy, .inl (G.2 0, 8, .inl (upd u3.2.2.2.1 (0 : Int32).toNatClampNeg x3)))] ++ []) H locs := w
        obtain rfl := Option.some.inj hF
        exact kx_vret hQ S hr hlocks w (xo := [(h, .inr (5, [.int d, .ref sa, .int u3.1, .ref a_li, .ref a_wy, .int u3.2.2.2.2])), (sa, .inl (G.2 0, 4, .inl u3.2.1)), (a_li, .inl (G.2 0, 8, .inl (upd u3.2.2.1 (0 : Int32).toNatClampNeg x2))), (a_wy, .inl (G.2 0, 8, .inl (upd u3.2.2.2.1 (0 : Int32).toNatClampNeg x3)))]) [0, 1, 2, 3] rfl rfl (u3.1, u3.2.1, upd u3.2.2.1 (0 : Int32).toNatClampNeg x2, upd u3.2.2.2.1 (0 : Int32).toNatClampNeg x3, u3.2.2.2.2) rfl rfl d_Streams_moveInFront_60
      · have hF := kx_f c5 hF
        refine lv_aload_n hx hb d_Streams_moveInFront_8 rfl (lv_at hl 1 rfl) ?_
        refine kx_get S F w kc_Streams 0 rfl 3 (by decide) kw_39 rfl d_Streams_moveInFront_9 ?_
        refine lv_iload hx hb d_Streams_moveInFront_12 (lv_at hl 0 rfl) ?_
        refine lv_aload_n hx hb d_Streams_moveInFront_14 rfl (lv_at hl 1 rfl) ?_
        refine kx_get S F w kc_Streams 0 rfl 3 (by decide) kw_39 rfl d_Streams_moveInFront_15 ?_
        refine lv_iload hx hb d_Streams_moveInFront_18 (lv_at hl 0 rfl) ?_
        refine lv_iconst (v := (1 : Int32)) hx hb d_Streams_moveInFront_20 (by decide) ?_
        refine lv_isub hx hb d_Streams_moveInFront_21 ?_
        obtain ⟨hi22, hF⟩ := kx_ar hF
        refine kx_iald S F w 2 rfl hi22 d_Streams_moveInFront_22 ?_
        obtain ⟨hi23, hF⟩ := kx_ar hF
        refine kx_iast S F w 2 rfl hi23 d_Streams_moveInFront_23 (fun H locs w => ?_)
        have w : kx_W G A s ([(h, .inr (5, [.int d, .ref sa, .int u3.1, .ref a_li, .ref a_wy, .int u3.2.2.2.2])), (sa, .inl (G.2 0, 4, .inl u3.2.1)), (a_li, .inl (G.2 0, 8, .inl (upd u3.2.2.1 x4.toNatClampNeg (u3.2.2.1 (x4 - (1 : Int32)).toNatClampNeg)))), (a_wy, .inl (G.2 0, 8, .inl u3.2.2.2.1))] ++ []) H locs := w
        refine lv_aload_n hx hb d_Streams_moveInFront_24 rfl (lv_at hl 1 rfl) ?_
        refine kx_get S F w kc_Streams 0 rfl 4 (by decide) kw_40 rfl d_Streams_moveInFront_25 ?_
        refine lv_iload hx hb d_Streams_moveInFront_28 (lv_at hl 0 rfl) ?_
        refine lv_aload_n hx hb d_Streams_moveInFront_30 rfl (lv_at hl 1 rfl) ?_
        refine kx_get S F w kc_Streams 0 rfl 4 (by decide) kw_40 rfl d_Streams_moveInFront_31 ?_
        refine lv_iload hx hb d_Streams_moveInFront_34 (lv_at hl 0 rfl) ?_
        refine lv_iconst (v := (1 : Int32)) hx hb d_Streams_moveInFront_36 (by decide) ?_
        refine lv_isub hx hb d_Streams_moveInFront_37 ?_
        obtain ⟨hi38, hF⟩ := kx_ar hF
        refine kx_iald S F w 3 rfl hi38 d_Streams_moveInFront_38 ?_
        obtain ⟨hi39, hF⟩ := kx_ar hF
        refine kx_iast S F w 3 rfl hi39 d_Streams_moveInFront_39 (fun H locs w => ?_)
        have w : kx_W G A s ([(h, .inr (5, [.int d, .ref sa, .int u3.1, .ref a_li, .ref a_wy, .int u3.2.2.2.2])), (sa, .inl (G.2 0, 4, .inl u3.2.1)), (a_li, .inl (G.2 0, 8, .inl (upd u3.2.2.1 x4.toNatClampNeg (u3.2.2.1 (x4 - (1 : Int32)).toNatClampNeg)))), (a_wy, .inl (G.2 0, 8, .inl (upd u3.2.2.2.1 x4.toNatClampNeg (u3.2.2.2.1 (x4 - (1 : Int32)).toNatClampNeg))))] ++ []) H locs := w
        refine lv_iinc (v := x4 + (-1)) (lv' := [(4, .int (x4 + (-1))), (0, .ref h), (1, .int x1), (2, .int x2), (3, .int x3)]) hx hb d_Streams_moveInFront_40 hl (k := 0) rfl (by rfl) (by decide) rfl (fun ls hl => ?_)
        refine lv_goto (tgt := 3) hx hb d_Streams_moveInFront_43 (by decide) ?_
        exact ih3 (x4 + (-1)) x1 x2 x3 (u3.1, u3.2.1, upd u3.2.2.1 x4.toNatClampNeg (u3.2.2.1 (x4 - (1 : Int32)).toNatClampNeg), upd u3.2.2.2.1 x4.toNatClampNeg (u3.2.2.2.1 (x4 - (1 : Int32)).toNatClampNeg), u3.2.2.2.2) hF H locs ls (w.perm [0, 1, 2, 3] rfl rfl) (lv_sub hl [0, 1, 2, 3, 4] rfl)
  exact L3 1000 p0 p0 p1 p2 u hF s.heap [] ls w hl
/-! Streams_begin -/
def f_Streams_begin (d : Int32) (u : sg_streams) (p0 : Int32) : Option (sg_streams) := (if (8 : Int32) ≤ u.2.2.2.2 then (f_Streams_moveInFront d u (u.2.2.2.2 - (1 : Int32)) p0 (0 : Int32)).bind (fun q28 => some q28) else (f_Streams_moveInFront d (u.1, u.2.1, u.2.2.1, u.2.2.2.1, u.2.2.2.2 + (1 : Int32)) ((u.2.2.2.2 + (1 : Int32)) - (1 : Int32)) p0 (0 : Int32)).bind (fun q28 => some q28))
def rm_Streams_begin : Room := { frames := 1, cells := 0, slots := 0, locals := 24 }
set_option maxRecDepth 100000 in
set_option maxHeartbeats 4000000 in
theorem c_Streams_begin (l : Launch) (G : kx_G) (h : Nat) (sa : Nat) (d : Int32) (a_li : Nat) (a_wy : Nat) (u : sg_streams) (p0 : Int32) (v : sg_streams) (hF : f_Streams_begin d u p0 = some v) : CtV l y_Streams_begin b_Streams_begin 2 rm_Streams_begin G [.ref h, .int p0] [(h, .inr (5, [.int d, .ref sa, .int u.1, .ref a_li, .ref a_wy, .int u.2.2.2.2])), (sa, .inl (G.2 0, 4, .inl u.2.1)), (a_li, .inl (G.2 0, 8, .inl u.2.2.1)), (a_wy, .inl (G.2 0, 8, .inl u.2.2.2.1))] (fun w : sg_streams => v = w) (fun w => [(h, .inr (5, [.int d, .ref sa, .int w.1, .ref a_li, .ref a_wy, .int w.2.2.2.2])), (sa, .inl (G.2 0, 4, .inl w.2.1)), (a_li, .inl (G.2 0, 8, .inl w.2.2.1)), (a_wy, .inl (G.2 0, 8, .inl w.2.2.2.1))]) 0 0 := by
  refine CtV.of (by decide) (Nat.le_of_ble_eq_true rfl) [(0, .ref h), (1, .int p0)] rfl ?_
  intro p e s m args below meth c A ls Q hQ S hr hlocks hin F w hl
  have S : CallFix p m c b_Streams_begin 2 s args kx_T "PrefetchRules$Streams" := S
  obtain ⟨hx, hb, hml, hown, hts⟩ := id S
  have w : kx_W G A s ([(h, .inr (5, [.int d, .ref sa, .int u.1, .ref a_li, .ref a_wy, .int u.2.2.2.2])), (sa, .inl (G.2 0, 4, .inl u.2.1)), (a_li, .inl (G.2 0, 8, .inl u.2.2.1)), (a_wy, .inl (G.2 0, 8, .inl u.2.2.2.1))] ++ []) s.heap [] := w
  unfold f_Streams_begin at hF
  refine lv_aload_n hx hb d_Streams_begin_0 rfl (lv_at hl 0 rfl) ?_
  refine kx_get S F w kc_Streams 0 rfl 5 (by decide) kw_41 rfl d_Streams_begin_1 ?_
  refine lv_bipush (v := (8 : Int32)) hx hb d_Streams_begin_4 (by decide) ?_
  refine lv_icmp_ge (tgt := 19) hx hb d_Streams_begin_6 (by decide) (fun c6 => ?_) (fun c6 => ?_)
  · have hF := kx_t c6 hF
    refine lv_aload_n hx hb d_Streams_begin_19 rfl (lv_at hl 0 rfl) ?_
    refine lv_aload_n hx hb d_Streams_begin_20 rfl (lv_at hl 0 rfl) ?_
    refine kx_get S F w kc_Streams 0 rfl 5 (by decide) kw_41 rfl d_Streams_begin_21 ?_
    refine lv_iconst (v := (1 : Int32)) hx hb d_Streams_begin_24 (by decide) ?_
    refine lv_isub hx hb d_Streams_begin_25 ?_
    refine lv_iload_n hx hb d_Streams_begin_26 rfl (lv_at hl 1 rfl) ?_
    refine lv_iconst (v := (0 : Int32)) hx hb d_Streams_begin_27 (by decide) ?_
    obtain ⟨q28, hq28, hF⟩ := kx_bd hF
    refine kx_cv (cx := [(h, .inr (5, [.int d, .ref sa, .int u.1, .ref a_li, .ref a_wy, .int u.2.2.2.2])), (sa, .inl (G.2 0, 4, .inl u.2.1)), (a_li, .inl (G.2 0, 8, .inl u.2.2.1)), (a_wy, .inl (G.2 0, 8, .inl u.2.2.2.1))]) (wr := []) F w [0, 1, 2, 3] [] rfl rfl rfl (by decide) (va_runV (As := [.int (u.2.2.2.2 - (1 : Int32)), .int p0, .int (0 : Int32)]) (rest := []) S (c_Streams_moveInFront l G h sa d a_li a_wy u (u.2.2.2.2 - (1 : Int32)) p0 (0 : Int32) q28 hq28 _) (kx_cwV S mv_Streams_moveInFront kw_42 ⟨rfl, rfl, Nat.le_of_ble_eq_true rfl, Nat.le_of_ble_eq_true rfl⟩) ⟨kx_blind _ _ _ _, va_recv (q0 := 0) F.1.1 w.1 kc_Streams.1 rfl, kx_pre F w [0, 1, 2, 3] rfl rfl⟩ rfl rfl hl.1 rfl (lv_room (Nat.le_of_ble_eq_true rfl)) d_Streams_begin_28 ⟨Nat.le_of_ble_eq_true rfl, Nat.le_of_ble_eq_true rfl⟩) (fun w28 H locs hp w => ?_)
    subst hp
    have w : kx_W G A s ([(h, .inr (5, [.int d, .ref sa, .int q28.1, .ref a_li, .ref a_wy, .int q28.2.2.2.2])), (sa, .inl (G.2 0, 4, .inl q28.2.1)), (a_li, .inl (G.2 0, 8, .inl q28.2.2.1)), (a_wy, .inl (G.2 0, 8, .inl q28.2.2.2.1))] ++ []) H locs := w
    obtain rfl := Option.some.inj hF
    exact kx_vret hQ S hr hlocks w (xo := [(h, .inr (5, [.int d, .ref sa, .int q28.1, .ref a_li, .ref a_wy, .int q28.2.2.2.2])), (sa, .inl (G.2 0, 4, .inl q28.2.1)), (a_li, .inl (G.2 0, 8, .inl q28.2.2.1)), (a_wy, .inl (G.2 0, 8, .inl q28.2.2.2.1))]) [0, 1, 2, 3] rfl rfl q28 rfl rfl d_Streams_begin_31
  · have hF := kx_f c6 hF
    refine lv_aload_n hx hb d_Streams_begin_9 rfl (lv_at hl 0 rfl) ?_
    refine lv_dup hx hb d_Streams_begin_10 rfl ?_
    refine kx_get S F w kc_Streams 0 rfl 5 (by decide) kw_41 rfl d_Streams_begin_11 ?_
    refine lv_iconst (v := (1 : Int32)) hx hb d_Streams_begin_14 (by decide) ?_
    refine lv_iadd hx hb d_Streams_begin_15 ?_
    refine kx_put S F w kc_Streams 0 rfl 5 (by decide) kw_41 rfl rfl rfl (Nat.le_of_ble_eq_true rfl) d_Streams_begin_16 (fun H locs w => ?_)
    have w : kx_W G A s ([(h, .inr (5, [.int d, .ref sa, .int u.1, .ref a_li, .ref a_wy, .int (u.2.2.2.2 + (1 : Int32))])), (sa, .inl (G.2 0, 4, .inl u.2.1)), (a_li, .inl (G.2 0, 8, .inl u.2.2.1)), (a_wy, .inl (G.2 0, 8, .inl u.2.2.2.1))] ++ []) H locs := w
    refine lv_aload_n hx hb d_Streams_begin_19 rfl (lv_at hl 0 rfl) ?_
    refine lv_aload_n hx hb d_Streams_begin_20 rfl (lv_at hl 0 rfl) ?_
    refine kx_get S F w kc_Streams 0 rfl 5 (by decide) kw_41 rfl d_Streams_begin_21 ?_
    refine lv_iconst (v := (1 : Int32)) hx hb d_Streams_begin_24 (by decide) ?_
    refine lv_isub hx hb d_Streams_begin_25 ?_
    refine lv_iload_n hx hb d_Streams_begin_26 rfl (lv_at hl 1 rfl) ?_
    refine lv_iconst (v := (0 : Int32)) hx hb d_Streams_begin_27 (by decide) ?_
    obtain ⟨q28, hq28, hF⟩ := kx_bd hF
    refine kx_cv (cx := [(h, .inr (5, [.int d, .ref sa, .int u.1, .ref a_li, .ref a_wy, .int (u.2.2.2.2 + (1 : Int32))])), (sa, .inl (G.2 0, 4, .inl u.2.1)), (a_li, .inl (G.2 0, 8, .inl u.2.2.1)), (a_wy, .inl (G.2 0, 8, .inl u.2.2.2.1))]) (wr := []) F w [0, 1, 2, 3] [] rfl rfl rfl (by decide) (va_runV (As := [.int ((u.2.2.2.2 + (1 : Int32)) - (1 : Int32)), .int p0, .int (0 : Int32)]) (rest := []) S (c_Streams_moveInFront l G h sa d a_li a_wy (u.1, u.2.1, u.2.2.1, u.2.2.2.1, u.2.2.2.2 + (1 : Int32)) ((u.2.2.2.2 + (1 : Int32)) - (1 : Int32)) p0 (0 : Int32) q28 hq28 _) (kx_cwV S mv_Streams_moveInFront kw_42 ⟨rfl, rfl, Nat.le_of_ble_eq_true rfl, Nat.le_of_ble_eq_true rfl⟩) ⟨kx_blind _ _ _ _, va_recv (q0 := 0) F.1.1 w.1 kc_Streams.1 rfl, kx_pre F w [0, 1, 2, 3] rfl rfl⟩ rfl rfl hl.1 rfl (lv_room (Nat.le_of_ble_eq_true rfl)) d_Streams_begin_28 ⟨Nat.le_of_ble_eq_true rfl, Nat.le_of_ble_eq_true rfl⟩) (fun w28 H locs hp w => ?_)
    subst hp
    have w : kx_W G A s ([(h, .inr (5, [.int d, .ref sa, .int q28.1, .ref a_li, .ref a_wy, .int q28.2.2.2.2])), (sa, .inl (G.2 0, 4, .inl q28.2.1)), (a_li, .inl (G.2 0, 8, .inl q28.2.2.1)), (a_wy, .inl (G.2 0, 8, .inl q28.2.2.2.1))] ++ []) H locs := w
    obtain rfl := Option.some.inj hF
    exact kx_vret hQ S hr hlocks w (xo := [(h, .inr (5, [.int d, .ref sa, .int q28.1, .ref a_li, .ref a_wy, .int q28.2.2.2.2])), (sa, .inl (G.2 0, 4, .inl q28.2.1)), (a_li, .inl (G.2 0, 8, .inl q28.2.2.1)), (a_wy, .inl (G.2 0, 8, .inl q28.2.2.2.1))]) [0, 1, 2, 3] rfl rfl q28 rfl rfl d_Streams_begin_31
/-! Streams_learn -/
def lp_Streams_learn_2 (d : Int32) : Nat → Int32 → Int32 → Int32 → sg_streams → Option (sg_streams)
  | 0, _, _, _, _ => none
  | n2 + 1, x3, x1, x2, u2 => (if u2.2.2.2.2 ≤ x3 then (f_Streams_begin d u2 x2).bind (fun q64 => some q64) else (if (x3 < 0 ∨ 8 ≤ x3.toNatClampNeg) then none else (f_Streams_wayTo (x2 - (u2.2.2.1 x3.toNatClampNeg))).bind (fun q18 => (if q18 = 0 then lp_Streams_learn_2 d n2 (x3 + 1) x1 x2 u2 else (if (x3 < 0 ∨ 8 ≤ x3.toNatClampNeg) then none else (if (u2.2.2.2.1 x3.toNatClampNeg) = (-q18) then lp_Streams_learn_2 d n2 (x3 + 1) x1 x2 u2 else (f_Streams_moveInFront d u2 x3 x2 q18).bind (fun q45 => (f_Rule_sayInSteps d (q45.1, q45.2.1) x2 q18).bind (fun q52 => some (q52.1, q52.2, q45.2.2)))))))))
def f_Streams_learn (d : Int32) (u : sg_streams) (p0 : Int32) (p1 : Int32) : Option (sg_streams) := lp_Streams_learn_2 d 1000 (0 : Int32) p0 p1 u
def rm_Streams_learn : Room := { frames := 2, cells := 0, slots := 0, locals := 45 }
set_option maxRecDepth 100000 in
set_option maxHeartbeats 4000000 in
theorem c_Streams_learn (l : Launch) (G : kx_G) (h : Nat) (sa : Nat) (d : Int32) (a_li : Nat) (a_wy : Nat) (u : sg_streams) (p0 : Int32) (p1 : Int32) (v : sg_streams) (hF : f_Streams_learn d u p0 p1 = some v) : CtV l y_Streams_learn b_Streams_learn 5 rm_Streams_learn G [.ref h, .int p0, .int p1] [(h, .inr (5, [.int d, .ref sa, .int u.1, .ref a_li, .ref a_wy, .int u.2.2.2.2])), (sa, .inl (G.2 0, 4, .inl u.2.1)), (a_li, .inl (G.2 0, 8, .inl u.2.2.1)), (a_wy, .inl (G.2 0, 8, .inl u.2.2.2.1))] (fun w : sg_streams => v = w) (fun w => [(h, .inr (5, [.int d, .ref sa, .int w.1, .ref a_li, .ref a_wy, .int w.2.2.2.2])), (sa, .inl (G.2 0, 4, .inl w.2.1)), (a_li, .inl (G.2 0, 8, .inl w.2.2.1)), (a_wy, .inl (G.2 0, 8, .inl w.2.2.2.1))]) 0 0 := by
  refine CtV.of (by decide) (Nat.le_of_ble_eq_true rfl) [(0, .ref h), (1, .int p0), (2, .int p1)] rfl ?_
  intro p e s m args below meth c A ls Q hQ S hr hlocks hin F w hl
  have S : CallFix p m c b_Streams_learn 5 s args kx_T "PrefetchRules$Streams" := S
  obtain ⟨hx, hb, hml, hown, hts⟩ := id S
  have w : kx_W G A s ([(h, .inr (5, [.int d, .ref sa, .int u.1, .ref a_li, .ref a_wy, .int u.2.2.2.2])), (sa, .inl (G.2 0, 4, .inl u.2.1)), (a_li, .inl (G.2 0, 8, .inl u.2.2.1)), (a_wy, .inl (G.2 0, 8, .inl u.2.2.2.1))] ++ []) s.heap [] := w
  unfold f_Streams_learn at hF
  refine lv_iconst (v := (0 : Int32)) hx hb d_Streams_learn_0 (by decide) ?_
  refine lv_istore_n (lv' := [(3, .int (0 : Int32)), (0, .ref h), (1, .int p0), (2, .int p1)]) hx hb d_Streams_learn_1 rfl hl (by decide) rfl (fun ls hl => ?_)
  have L2 : ∀ (n2 : Nat) (x3 : Int32) (x1 : Int32) (x2 : Int32) (u2 : sg_streams), lp_Streams_learn_2 d n2 x3 x1 x2 u2 = some v → ∀ (H : Heap) (locs : List Loc) (ls : Array Slot), kx_W G A s ([(h, .inr (5, [.int d, .ref sa, .int u2.1, .ref a_li, .ref a_wy, .int u2.2.2.2.2])), (sa, .inl (G.2 0, 4, .inl u2.2.1)), (a_li, .inl (G.2 0, 8, .inl u2.2.2.1)), (a_wy, .inl (G.2 0, 8, .inl u2.2.2.2.1))] ++ []) H locs → lv_has ls 5 [(3, .int x3), (0, .ref h), (1, .int x1), (2, .int x2)] → W p l e rm_Streams_learn s m args below meth c H locs 0 0 Q (F0 m 2 ls []) := by
    intro n2
    induction n2 with
    | zero =>
      intro x3 x1 x2 u2 hF
      rw [lp_Streams_learn_2] at hF
      cases hF
    | succ n2 ih2 =>
      intro x3 x1 x2 u2 hF H locs ls w hl
      rw [lp_Streams_learn_2] at hF
      refine lv_iload_n hx hb d_Streams_learn_2 rfl (lv_at hl 0 rfl) ?_
      refine lv_aload_n hx hb d_Streams_learn_3 rfl (lv_at hl 1 rfl) ?_
      refine kx_get S F w kc_Streams 0 rfl 5 (by decide) kw_41 rfl d_Streams_learn_4 ?_
      refine lv_icmp_ge (tgt := 62) hx hb d_Streams_learn_7 (by decide) (fun c7 => ?_) (fun c7 => ?_)
      · have hF := kx_t c7 hF
        refine lv_aload_n hx hb d_Streams_learn_62 rfl (lv_at hl 1 rfl) ?_
        refine lv_iload_n hx hb d_Streams_learn_63 rfl (lv_at hl 3 rfl) ?_
        obtain ⟨q64, hq64, hF⟩ := kx_bd hF
        refine kx_cv (cx := [(h, .inr (5, [.int d, .ref sa, .int u2.1, .ref a_li, .ref a_wy, .int u2.2.2.2.2])), (sa, .inl (G.2 0, 4, .inl u2.2.1)), (a_li, .inl (G.2 0, 8, .inl u2.2.2.1)), (a_wy, .inl (G.2 0, 8, .inl u2.2.2.2.1))]) (wr := []) F w [0, 1, 2, 3] [] rfl rfl rfl (by decide) (va_runV (As := [.int x2]) (rest := []) S (c_Streams_begin l G h sa d a_li a_wy u2 x2 q64 hq64 _) (kx_cwV S mv_Streams_begin kw_43 ⟨rfl, rfl, Nat.le_of_ble_eq_true rfl, Nat.le_of_ble_eq_true rfl⟩) ⟨kx_blind _ _ _ _, va_recv (q0 := 0) F.1.1 w.1 kc_Streams.1 rfl, kx_pre F w [0, 1, 2, 3] rfl rfl⟩ rfl rfl hl.1 rfl (lv_room (Nat.le_of_ble_eq_true rfl)) d_Streams_learn_64 ⟨Nat.le_of_ble_eq_true rfl, Nat.le_of_ble_eq_true rfl⟩) (fun w64 H locs hp w => ?_)
        subst hp
        have w : kx_W G A s ([(h, .inr (5, [.int d, .ref sa, .int q64.1, .ref a_li, .ref a_wy, .int q64.2.2.2.2])), (sa, .inl (G.2 0, 4, .inl q64.2.1)), (a_li, .inl (G.2 0, 8, .inl q64.2.2.1)), (a_wy, .inl (G.2 0, 8, .inl q64.2.2.2.1))] ++ []) H locs := w
        obtain rfl := Option.some.inj hF
        exact kx_vret hQ S hr hlocks w (xo := [(h, .inr (5, [.int d, .ref sa, .int q64.1, .ref a_li, .ref a_wy, .int q64.2.2.2.2])), (sa, .inl (G.2 0, 4, .inl q64.2.1)), (a_li, .inl (G.2 0, 8, .inl q64.2.2.1)), (a_wy, .inl (G.2 0, 8, .inl q64.2.2.2.1))]) [0, 1, 2, 3] rfl rfl q64 rfl rfl d_Streams_learn_67
      · have hF := kx_f c7 hF
        refine lv_iload_n hx hb d_Streams_learn_10 rfl (lv_at hl 3 rfl) ?_
        refine lv_aload_n hx hb d_Streams_learn_11 rfl (lv_at hl 1 rfl) ?_
        refine kx_get S F w kc_Streams 0 rfl 3 (by decide) kw_39 rfl d_Streams_learn_12 ?_
        refine lv_iload_n hx hb d_Streams_learn_15 rfl (lv_at hl 0 rfl) ?_
        obtain ⟨hi16, hF⟩ := kx_ar hF
        refine kx_iald S F w 2 rfl hi16 d_Streams_learn_16 ?_
        refine lv_isub hx hb d_Streams_learn_17 ?_
        obtain ⟨q18, hq18, hF⟩ := kx_bd hF
        refine kx_ci (cx := []) (wr := [(h, .inr (5, [.int d, .ref sa, .int u2.1, .ref a_li, .ref a_wy, .int u2.2.2.2.2])), (sa, .inl (G.2 0, 4, .inl u2.2.1)), (a_li, .inl (G.2 0, 8, .inl u2.2.2.1)), (a_wy, .inl (G.2 0, 8, .inl u2.2.2.2.1))]) F w [] [0, 1, 2, 3] rfl rfl rfl (by decide) (va_runS (As := [.int (x2 - (u2.2.2.1 x3.toNatClampNeg))]) (rest := []) S (c_Streams_wayTo l G (x2 - (u2.2.2.1 x3.toNatClampNeg)) q18 hq18 _) (kx_cwS S ms_Streams_wayTo kw_44 ⟨rfl, rfl, Nat.le_of_ble_eq_true rfl, Nat.le_of_ble_eq_true rfl⟩) ⟨kx_blind _ _ _ _, kx_pre F w [] rfl rfl⟩ rfl rfl hl.1 rfl (lv_room (Nat.le_of_ble_eq_true rfl)) d_Streams_learn_18 ⟨Nat.le_of_ble_eq_true rfl, Nat.le_of_ble_eq_true rfl⟩) (fun r18 w18 H locs hp w => ?_)
        subst hp
        have w : kx_W G A s ([(h, .inr (5, [.int d, .ref sa, .int u2.1, .ref a_li, .ref a_wy, .int u2.2.2.2.2])), (sa, .inl (G.2 0, 4, .inl u2.2.1)), (a_li, .inl (G.2 0, 8, .inl u2.2.2.1)), (a_wy, .inl (G.2 0, 8, .inl u2.2.2.2.1))] ++ []) H locs := w
        refine lv_istore (lv' := [(4, .int q18), (3, .int x3), (0, .ref h), (1, .int x1), (2, .int x2)]) hx hb d_Streams_learn_21 hl (by decide) rfl (fun ls hl => ?_)
        refine lv_iload hx hb d_Streams_learn_23 (lv_at hl 0 rfl) ?_
        refine lv_if_eq (tgt := 56) hx hb d_Streams_learn_25 (by decide) (fun c25 => ?_) (fun c25 => ?_)
        · have hF := kx_t c25 hF
          refine lv_iinc (v := x3 + 1) (lv' := [(3, .int (x3 + 1)), (4, .int q18), (0, .ref h), (1, .int x1), (2, .int x2)]) hx hb d_Streams_learn_56 hl (k := 1) rfl (by rfl) (by decide) rfl (fun ls hl => ?_)
          refine lv_goto (tgt := 2) hx hb d_Streams_learn_59 (by decide) ?_
          exact ih2 (x3 + 1) x1 x2 u2 hF H locs ls (w.perm [0, 1, 2, 3] rfl rfl) (lv_sub hl [0, 2, 3, 4] rfl)
        · have hF := kx_f c25 hF
          refine lv_aload_n hx hb d_Streams_learn_28 rfl (lv_at hl 2 rfl) ?_
          refine kx_get S F w kc_Streams 0 rfl 4 (by decide) kw_40 rfl d_Streams_learn_29 ?_
          refine lv_iload_n hx hb d_Streams_learn_32 rfl (lv_at hl 1 rfl) ?_
          obtain ⟨hi33, hF⟩ := kx_ar hF
          refine kx_iald S F w 3 rfl hi33 d_Streams_learn_33 ?_
          refine lv_iload hx hb d_Streams_learn_34 (lv_at hl 0 rfl) ?_
          refine lv_ineg hx hb d_Streams_learn_36 ?_
          refine lv_icmp_eq (tgt := 56) hx hb d_Streams_learn_37 (by decide) (fun c37 => ?_) (fun c37 => ?_)
          · have hF := kx_t c37 hF
            refine lv_iinc (v := x3 + 1) (lv' := [(3, .int (x3 + 1)), (4, .int q18), (0, .ref h), (1, .int x1), (2, .int x2)]) hx hb d_Streams_learn_56 hl (k := 1) rfl (by rfl) (by decide) rfl (fun ls hl => ?_)
            refine lv_goto (tgt := 2) hx hb d_Streams_learn_59 (by decide) ?_
            exact ih2 (x3 + 1) x1 x2 u2 hF H locs ls (w.perm [0, 1, 2, 3] rfl rfl) (lv_sub hl [0, 2, 3, 4] rfl)
          · have hF := kx_f c37 hF
            refine lv_aload_n hx hb d_Streams_learn_40 rfl (lv_at hl 2 rfl) ?_
            refine lv_iload_n hx hb d_Streams_learn_41 rfl (lv_at hl 1 rfl) ?_
            refine lv_iload_n hx hb d_Streams_learn_42 rfl (lv_at hl 4 rfl) ?_
            refine lv_iload hx hb d_Streams_learn_43 (lv_at hl 0 rfl) ?_
            obtain ⟨q45, hq45, hF⟩ := kx_bd hF
            refine kx_cv (cx := [(h, .inr (5, [.int d, .ref sa, .int u2.1, .ref a_li, .ref a_wy, .int u2.2.2.2.2])), (sa, .inl (G.2 0, 4, .inl u2.2.1)), (a_li, .inl (G.2 0, 8, .inl u2.2.2.1)), (a_wy, .inl (G.2 0, 8, .inl u2.2.2.2.1))]) (wr := []) F w [0, 1, 2, 3] [] rfl rfl rfl (by decide) (va_runV (As := [.int x3, .int x2, .int q18]) (rest := []) S (c_Streams_moveInFront l G h sa d a_li a_wy u2 x3 x2 q18 q45 hq45 _) (kx_cwV S mv_Streams_moveInFront kw_42 ⟨rfl, rfl, Nat.le_of_ble_eq_true rfl, Nat.le_of_ble_eq_true rfl⟩) ⟨kx_blind _ _ _ _, va_recv (q0 := 0) F.1.1 w.1 kc_Streams.1 rfl, kx_pre F w [0, 1, 2, 3] rfl rfl⟩ rfl rfl hl.1 rfl (lv_room (Nat.le_of_ble_eq_true rfl)) d_Streams_learn_45 ⟨Nat.le_of_ble_eq_true rfl, Nat.le_of_ble_eq_true rfl⟩) (fun w45 H locs hp w => ?_)
            subst hp
            have w : kx_W G A s ([(h, .inr (5, [.int d, .ref sa, .int q45.1, .ref a_li, .ref a_wy, .int q45.2.2.2.2])), (sa, .inl (G.2 0, 4, .inl q45.2.1)), (a_li, .inl (G.2 0, 8, .inl q45.2.2.1)), (a_wy, .inl (G.2 0, 8, .inl q45.2.2.2.1))] ++ []) H locs := w
            refine lv_aload_n hx hb d_Streams_learn_48 rfl (lv_at hl 2 rfl) ?_
            refine lv_iload_n hx hb d_Streams_learn_49 rfl (lv_at hl 4 rfl) ?_
            refine lv_iload hx hb d_Streams_learn_50 (lv_at hl 0 rfl) ?_
            obtain ⟨q52, hq52, hF⟩ := kx_bd hF
            refine kx_cv (cx := [(h, .inr (5, [.int d, .ref sa, .int q45.1, .ref a_li, .ref a_wy, .int q45.2.2.2.2])), (sa, .inl (G.2 0, 4, .inl q45.2.1))]) (wr := [(a_li, .inl (G.2 0, 8, .inl q45.2.2.1)), (a_wy, .inl (G.2 0, 8, .inl q45.2.2.2.1))]) F w [0, 1] [2, 3] rfl rfl rfl (by decide) (va_runU (As := [.int x2, .int q18]) (rest := []) S (c_Rule_sayInSteps l G 5 ("PrefetchRules$Streams") F_Streams 6 t_Streams h sa d ([.ref a_li, .ref a_wy, .int q45.2.2.2.2]) kr_Streams (q45.1, q45.2.1) x2 q18 q52 hq52 _) (kx_cwU (n := 2) (x := ⟨"PrefetchRules$Streams", "sayInSteps", "(II)V"⟩) S kw_18 kw_45 kw_46 kw_47 kw_22 kw_17 rfl (by decide +kernel) ⟨rfl, rfl, Nat.le_of_ble_eq_true rfl, Nat.le_of_ble_eq_true rfl⟩) ⟨kx_blind _ _ _ _, va_recv (q0 := 0) F.1.1 w.1 kc_Streams.1 rfl, kx_pre F w [0, 1] rfl rfl⟩ rfl rfl hl.1 rfl (lv_room (Nat.le_of_ble_eq_true rfl)) d_Streams_learn_52 ⟨Nat.le_of_ble_eq_true rfl, Nat.le_of_ble_eq_true rfl⟩) (fun w52 H locs hp w => ?_)
            subst hp
            have w : kx_W G A s ([(a_li, .inl (G.2 0, 8, .inl q45.2.2.1)), (a_wy, .inl (G.2 0, 8, .inl q45.2.2.2.1)), (h, .inr (5, [.int d, .ref sa, .int q52.1, .ref a_li, .ref a_wy, .int q45.2.2.2.2])), (sa, .inl (G.2 0, 4, .inl q52.2))] ++ []) H locs := w
            obtain rfl := Option.some.inj hF
            exact kx_vret hQ S hr hlocks w (xo := [(h, .inr (5, [.int d, .ref sa, .int q52.1, .ref a_li, .ref a_wy, .int q45.2.2.2.2])), (sa, .inl (G.2 0, 4, .inl q52.2)), (a_li, .inl (G.2 0, 8, .inl q45.2.2.1)), (a_wy, .inl (G.2 0, 8, .inl q45.2.2.2.1))]) [2, 3, 0, 1] rfl rfl (q52.1, q52.2, q45.2.2) rfl rfl d_Streams_learn_55
  exact L2 1000 (0 : Int32) p0 p1 u hF s.heap [] ls w hl
/-! Streams_knowledge -/
def f_Streams_knowledge (d : Int32) (u : sg_streams) (p0 : Int32) : Option (Int32) := some u.2.2.2.2
def rm_Streams_knowledge : Room := { frames := 2, cells := 0, slots := 0, locals := 44 }
set_option maxRecDepth 100000 in
set_option maxHeartbeats 4000000 in
theorem c_Streams_knowledge (l : Launch) (G : kx_G) (h : Nat) (sa : Nat) (d : Int32) (a_li : Nat) (a_wy : Nat) (u : sg_streams) (p0 : Int32) (v : Int32) (hF : f_Streams_knowledge d u p0 = some v) : CtI l y_Streams_knowledge b_Streams_knowledge 2 (some .int) rm_Streams_knowledge G [.ref h, .int p0] [(h, .inr (5, [.int d, .ref sa, .int u.1, .ref a_li, .ref a_wy, .int u.2.2.2.2])), (sa, .inl (G.2 0, 4, .inl u.2.1)), (a_li, .inl (G.2 0, 8, .inl u.2.2.1)), (a_wy, .inl (G.2 0, 8, .inl u.2.2.2.1))] (fun (r : Int32) (_ : Unit) => v = r) (fun _ => [(h, .inr (5, [.int d, .ref sa, .int u.1, .ref a_li, .ref a_wy, .int u.2.2.2.2])), (sa, .inl (G.2 0, 4, .inl u.2.1)), (a_li, .inl (G.2 0, 8, .inl u.2.2.1)), (a_wy, .inl (G.2 0, 8, .inl u.2.2.2.1))]) 0 0 := by
  refine CtI.of (by decide) (Nat.le_of_ble_eq_true rfl) [(0, .ref h), (1, .int p0)] rfl ?_
  intro p e s m args below meth c A ls Q hQ S hr hlocks F w hl
  have S : CallFix p m c b_Streams_knowledge 2 s args kx_T "PrefetchRules$Streams" := S
  obtain ⟨hx, hb, hml, hown, hts⟩ := id S
  have w : kx_W G A s ([(h, .inr (5, [.int d, .ref sa, .int u.1, .ref a_li, .ref a_wy, .int u.2.2.2.2])), (sa, .inl (G.2 0, 4, .inl u.2.1)), (a_li, .inl (G.2 0, 8, .inl u.2.2.1)), (a_wy, .inl (G.2 0, 8, .inl u.2.2.2.1))] ++ []) s.heap [] := w
  unfold f_Streams_knowledge at hF
  refine lv_aload_n hx hb d_Streams_knowledge_0 rfl (lv_at hl 0 rfl) ?_
  refine kx_get S F w kc_Streams 0 rfl 5 (by decide) kw_41 rfl d_Streams_knowledge_1 ?_
  obtain rfl := Option.some.inj hF
  exact kx_iret hQ S hr hlocks w (xo := [(h, .inr (5, [.int d, .ref sa, .int u.1, .ref a_li, .ref a_wy, .int u.2.2.2.2])), (sa, .inl (G.2 0, 4, .inl u.2.1)), (a_li, .inl (G.2 0, 8, .inl u.2.2.1)), (a_wy, .inl (G.2 0, 8, .inl u.2.2.2.1))]) [0, 1, 2, 3] rfl rfl () rfl rfl d_Streams_knowledge_4
/-! Streams_confidence -/
def f_Streams_confidence (d : Int32) (u : sg_streams) (p0 : Int32) : Option (Int32) := (if p0 < 0 then some (0 : Int32) else (if u.2.2.2.2 ≤ p0 then some (0 : Int32) else (if (p0 < 0 ∨ 8 ≤ p0.toNatClampNeg) then none else some (u.2.2.2.1 p0.toNatClampNeg))))
def rm_Streams_confidence : Room := { frames := 2, cells := 0, slots := 0, locals := 44 }
set_option maxRecDepth 100000 in
set_option maxHeartbeats 4000000 in
theorem c_Streams_confidence (l : Launch) (G : kx_G) (h : Nat) (sa : Nat) (d : Int32) (a_li : Nat) (a_wy : Nat) (u : sg_streams) (p0 : Int32) (v : Int32) (hF : f_Streams_confidence d u p0 = some v) : CtI l y_Streams_confidence b_Streams_confidence 2 (some .int) rm_Streams_confidence G [.ref h, .int p0] [(h, .inr (5, [.int d, .ref sa, .int u.1, .ref a_li, .ref a_wy, .int u.2.2.2.2])), (sa, .inl (G.2 0, 4, .inl u.2.1)), (a_li, .inl (G.2 0, 8, .inl u.2.2.1)), (a_wy, .inl (G.2 0, 8, .inl u.2.2.2.1))] (fun (r : Int32) (_ : Unit) => v = r) (fun _ => [(h, .inr (5, [.int d, .ref sa, .int u.1, .ref a_li, .ref a_wy, .int u.2.2.2.2])), (sa, .inl (G.2 0, 4, .inl u.2.1)), (a_li, .inl (G.2 0, 8, .inl u.2.2.1)), (a_wy, .inl (G.2 0, 8, .inl u.2.2.2.1))]) 0 0 := by
  refine CtI.of (by decide) (Nat.le_of_ble_eq_true rfl) [(0, .ref h), (1, .int p0)] rfl ?_
  intro p e s m args below meth c A ls Q hQ S hr hlocks F w hl
  have S : CallFix p m c b_Streams_confidence 2 s args kx_T "PrefetchRules$Streams" := S
  obtain ⟨hx, hb, hml, hown, hts⟩ := id S
  have w : kx_W G A s ([(h, .inr (5, [.int d, .ref sa, .int u.1, .ref a_li, .ref a_wy, .int u.2.2.2.2])), (sa, .inl (G.2 0, 4, .inl u.2.1)), (a_li, .inl (G.2 0, 8, .inl u.2.2.1)), (a_wy, .inl (G.2 0, 8, .inl u.2.2.2.1))] ++ []) s.heap [] := w
  unfold f_Streams_confidence at hF
  refine lv_iload_n hx hb d_Streams_confidence_0 rfl (lv_at hl 1 rfl) ?_
  refine lv_if_lt (tgt := 21) hx hb d_Streams_confidence_1 (by decide) (fun c1 => ?_) (fun c1 => ?_)
  · have hF := kx_t c1 hF
    refine lv_iconst (v := (0 : Int32)) hx hb d_Streams_confidence_21 (by decide) ?_
    obtain rfl := Option.some.inj hF
    exact kx_iret hQ S hr hlocks w (xo := [(h, .inr (5, [.int d, .ref sa, .int u.1, .ref a_li, .ref a_wy, .int u.2.2.2.2])), (sa, .inl (G.2 0, 4, .inl u.2.1)), (a_li, .inl (G.2 0, 8, .inl u.2.2.1)), (a_wy, .inl (G.2 0, 8, .inl u.2.2.2.1))]) [0, 1, 2, 3] rfl rfl () rfl rfl d_Streams_confidence_22
  · have hF := kx_f c1 hF
    refine lv_iload_n hx hb d_Streams_confidence_4 rfl (lv_at hl 1 rfl) ?_
    refine lv_aload_n hx hb d_Streams_confidence_5 rfl (lv_at hl 0 rfl) ?_
    refine kx_get S F w kc_Streams 0 rfl 5 (by decide) kw_41 rfl d_Streams_confidence_6 ?_
    refine lv_icmp_ge (tgt := 21) hx hb d_Streams_confidence_9 (by decide) (fun c9 => ?_) (fun c9 => ?_)
    · have hF := kx_t c9 hF
      refine lv_iconst (v := (0 : Int32)) hx hb d_Streams_confidence_21 (by decide) ?_
      obtain rfl := Option.some.inj hF
      exact kx_iret hQ S hr hlocks w (xo := [(h, .inr (5, [.int d, .ref sa, .int u.1, .ref a_li, .ref a_wy, .int u.2.2.2.2])), (sa, .inl (G.2 0, 4, .inl u.2.1)), (a_li, .inl (G.2 0, 8, .inl u.2.2.1)), (a_wy, .inl (G.2 0, 8, .inl u.2.2.2.1))]) [0, 1, 2, 3] rfl rfl () rfl rfl d_Streams_confidence_22
    · have hF := kx_f c9 hF
      refine lv_aload_n hx hb d_Streams_confidence_12 rfl (lv_at hl 0 rfl) ?_
      refine kx_get S F w kc_Streams 0 rfl 4 (by decide) kw_40 rfl d_Streams_confidence_13 ?_
      refine lv_iload_n hx hb d_Streams_confidence_16 rfl (lv_at hl 1 rfl) ?_
      obtain ⟨hi17, hF⟩ := kx_ar hF
      refine kx_iald S F w 3 rfl hi17 d_Streams_confidence_17 ?_
      refine lv_goto (tgt := 22) hx hb d_Streams_confidence_18 (by decide) ?_
      obtain rfl := Option.some.inj hF
      exact kx_iret hQ S hr hlocks w (xo := [(h, .inr (5, [.int d, .ref sa, .int u.1, .ref a_li, .ref a_wy, .int u.2.2.2.2])), (sa, .inl (G.2 0, 4, .inl u.2.1)), (a_li, .inl (G.2 0, 8, .inl u.2.2.1)), (a_wy, .inl (G.2 0, 8, .inl u.2.2.2.1))]) [0, 1, 2, 3] rfl rfl () rfl rfl d_Streams_confidence_22
/-! Strides_hear -/
def f_Strides_hear (d : Int32) (u : sg_strides) (p0 : Int32) (p1 : Int32) : Option (sg_strides) := (f_Strides_learn d ((0 : Int32), u.2) p0 p1).bind (fun q8 => some q8)
def rm_Strides_hear : Room := { frames := 4, cells := 0, slots := 0, locals := 87 }
set_option maxRecDepth 100000 in
set_option maxHeartbeats 4000000 in
theorem c_Strides_hear (l : Launch) (G : kx_G) (h : Nat) (sa : Nat) (d : Int32) (a_tk : Nat) (a_pl : Nat) (a_li : Nat) (a_st : Nat) (a_tr : Nat) (u : sg_strides) (p0 : Int32) (p1 : Int32) (v : sg_strides) (hF : f_Strides_hear d u p0 p1 = some v) : CtV l y_Rule_hear b_Rule_hear 3 rm_Strides_hear G [.ref h, .int p0, .int p1] [(h, .inr (4, [.int d, .ref sa, .int u.1, .ref a_tk, .ref a_pl, .ref a_li, .ref a_st, .ref a_tr])), (sa, .inl (G.2 0, 4, .inl u.2.1)), (a_tk, .inl (G.2 1, 16, .inl u.2.2.1)), (a_pl, .inl (G.2 0, 16, .inl u.2.2.2.1)), (a_li, .inl (G.2 0, 16, .inl u.2.2.2.2.1)), (a_st, .inl (G.2 0, 16, .inl u.2.2.2.2.2.1)), (a_tr, .inl (G.2 0, 16, .inl u.2.2.2.2.2.2))] (fun w : sg_strides => v = w) (fun w => [(h, .inr (4, [.int d, .ref sa, .int w.1, .ref a_tk, .ref a_pl, .ref a_li, .ref a_st, .ref a_tr])), (sa, .inl (G.2 0, 4, .inl w.2.1)), (a_tk, .inl (G.2 1, 16, .inl w.2.2.1)), (a_pl, .inl (G.2 0, 16, .inl w.2.2.2.1)), (a_li, .inl (G.2 0, 16, .inl w.2.2.2.2.1)), (a_st, .inl (G.2 0, 16, .inl w.2.2.2.2.2.1)), (a_tr, .inl (G.2 0, 16, .inl w.2.2.2.2.2.2))]) 0 0 := by
  refine CtV.of (by decide) (Nat.le_of_ble_eq_true rfl) [(0, .ref h), (1, .int p0), (2, .int p1)] rfl ?_
  intro p e s m args below meth c A ls Q hQ S hr hlocks hin F w hl
  have S : CallFix p m c b_Rule_hear 3 s args kx_T "PrefetchRules$Rule" := S
  obtain ⟨hx, hb, hml, hown, hts⟩ := id S
  have w : kx_W G A s ([(h, .inr (4, [.int d, .ref sa, .int u.1, .ref a_tk, .ref a_pl, .ref a_li, .ref a_st, .ref a_tr])), (sa, .inl (G.2 0, 4, .inl u.2.1)), (a_tk, .inl (G.2 1, 16, .inl u.2.2.1)), (a_pl, .inl (G.2 0, 16, .inl u.2.2.2.1)), (a_li, .inl (G.2 0, 16, .inl u.2.2.2.2.1)), (a_st, .inl (G.2 0, 16, .inl u.2.2.2.2.2.1)), (a_tr, .inl (G.2 0, 16, .inl u.2.2.2.2.2.2))] ++ []) s.heap [] := w
  unfold f_Strides_hear at hF
  refine lv_aload_n hx hb d_Rule_hear_0 rfl (lv_at hl 0 rfl) ?_
  refine lv_iconst (v := (0 : Int32)) hx hb d_Rule_hear_1 (by decide) ?_
  refine kx_put S F w kc_Strides 0 rfl 2 (by decide) kw_11 rfl rfl rfl (Nat.le_of_ble_eq_true rfl) d_Rule_hear_2 (fun H locs w => ?_)
  have w : kx_W G A s ([(h, .inr (4, [.int d, .ref sa, .int (0 : Int32), .ref a_tk, .ref a_pl, .ref a_li, .ref a_st, .ref a_tr])), (sa, .inl (G.2 0, 4, .inl u.2.1)), (a_tk, .inl (G.2 1, 16, .inl u.2.2.1)), (a_pl, .inl (G.2 0, 16, .inl u.2.2.2.1)), (a_li, .inl (G.2 0, 16, .inl u.2.2.2.2.1)), (a_st, .inl (G.2 0, 16, .inl u.2.2.2.2.2.1)), (a_tr, .inl (G.2 0, 16, .inl u.2.2.2.2.2.2))] ++ []) H locs := w
  refine lv_aload_n hx hb d_Rule_hear_5 rfl (lv_at hl 0 rfl) ?_
  refine lv_iload_n hx hb d_Rule_hear_6 rfl (lv_at hl 1 rfl) ?_
  refine lv_iload_n hx hb d_Rule_hear_7 rfl (lv_at hl 2 rfl) ?_
  obtain ⟨q8, hq8, hF⟩ := kx_bd hF
  refine kx_cv (cx := [(h, .inr (4, [.int d, .ref sa, .int (0 : Int32), .ref a_tk, .ref a_pl, .ref a_li, .ref a_st, .ref a_tr])), (sa, .inl (G.2 0, 4, .inl u.2.1)), (a_tk, .inl (G.2 1, 16, .inl u.2.2.1)), (a_pl, .inl (G.2 0, 16, .inl u.2.2.2.1)), (a_li, .inl (G.2 0, 16, .inl u.2.2.2.2.1)), (a_st, .inl (G.2 0, 16, .inl u.2.2.2.2.2.1)), (a_tr, .inl (G.2 0, 16, .inl u.2.2.2.2.2.2))]) (wr := []) F w [0, 1, 2, 3, 4, 5, 6] [] rfl rfl rfl (by decide) (va_runU (As := [.int p0, .int p1]) (rest := []) S (c_Strides_learn l G h sa d a_tk a_pl a_li a_st a_tr ((0 : Int32), u.2) p0 p1 q8 hq8 _) (kx_cwA (n := 2) (x := ⟨"PrefetchRules$Rule", "learn", "(II)V"⟩) S F kw_92 kw_86 kw_87 kw_93 kw_94 kw_95 kw_91 (by decide +kernel) ⟨rfl, rfl, Nat.le_of_ble_eq_true rfl, Nat.le_of_ble_eq_true rfl⟩) ⟨kx_blind _ _ _ _, va_recv (q0 := 0) F.1.1 w.1 kc_Strides.1 rfl, kx_pre F w [0, 1, 2, 3, 4, 5, 6] rfl rfl⟩ rfl rfl hl.1 rfl (lv_room (Nat.le_of_ble_eq_true rfl)) d_Rule_hear_8 ⟨Nat.le_of_ble_eq_true rfl, Nat.le_of_ble_eq_true rfl⟩) (fun w8 H locs hp w => ?_)
  subst hp
  have w : kx_W G A s ([(h, .inr (4, [.int d, .ref sa, .int q8.1, .ref a_tk, .ref a_pl, .ref a_li, .ref a_st, .ref a_tr])), (sa, .inl (G.2 0, 4, .inl q8.2.1)), (a_tk, .inl (G.2 1, 16, .inl q8.2.2.1)), (a_pl, .inl (G.2 0, 16, .inl q8.2.2.2.1)), (a_li, .inl (G.2 0, 16, .inl q8.2.2.2.2.1)), (a_st, .inl (G.2 0, 16, .inl q8.2.2.2.2.2.1)), (a_tr, .inl (G.2 0, 16, .inl q8.2.2.2.2.2.2))] ++ []) H locs := w
  obtain rfl := Option.some.inj hF
  exact kx_vret hQ S hr hlocks w (xo := [(h, .inr (4, [.int d, .ref sa, .int q8.1, .ref a_tk, .ref a_pl, .ref a_li, .ref a_st, .ref a_tr])), (sa, .inl (G.2 0, 4, .inl q8.2.1)), (a_tk, .inl (G.2 1, 16, .inl q8.2.2.1)), (a_pl, .inl (G.2 0, 16, .inl q8.2.2.2.1)), (a_li, .inl (G.2 0, 16, .inl q8.2.2.2.2.1)), (a_st, .inl (G.2 0, 16, .inl q8.2.2.2.2.2.1)), (a_tr, .inl (G.2 0, 16, .inl q8.2.2.2.2.2.2))]) [0, 1, 2, 3, 4, 5, 6] rfl rfl q8 rfl rfl d_Rule_hear_11
/-! Strides_saidCount -/
def f_Strides_saidCount (d : Int32) (u : sg_strides) : Option (Int32) := some u.1
def rm_Strides_saidCount : Room := { frames := 0, cells := 0, slots := 0, locals := 0 }
set_option maxRecDepth 100000 in
set_option maxHeartbeats 4000000 in
theorem c_Strides_saidCount (l : Launch) (G : kx_G) (h : Nat) (sa : Nat) (d : Int32) (a_tk : Nat) (a_pl : Nat) (a_li : Nat) (a_st : Nat) (a_tr : Nat) (u : sg_strides) (v : Int32) (hF : f_Strides_saidCount d u = some v) : CtI l y_Rule_saidCount b_Rule_saidCount 1 (some .int) rm_Strides_saidCount G [.ref h] [(h, .inr (4, [.int d, .ref sa, .int u.1, .ref a_tk, .ref a_pl, .ref a_li, .ref a_st, .ref a_tr])), (sa, .inl (G.2 0, 4, .inl u.2.1)), (a_tk, .inl (G.2 1, 16, .inl u.2.2.1)), (a_pl, .inl (G.2 0, 16, .inl u.2.2.2.1)), (a_li, .inl (G.2 0, 16, .inl u.2.2.2.2.1)), (a_st, .inl (G.2 0, 16, .inl u.2.2.2.2.2.1)), (a_tr, .inl (G.2 0, 16, .inl u.2.2.2.2.2.2))] (fun (r : Int32) (_ : Unit) => v = r) (fun _ => [(h, .inr (4, [.int d, .ref sa, .int u.1, .ref a_tk, .ref a_pl, .ref a_li, .ref a_st, .ref a_tr])), (sa, .inl (G.2 0, 4, .inl u.2.1)), (a_tk, .inl (G.2 1, 16, .inl u.2.2.1)), (a_pl, .inl (G.2 0, 16, .inl u.2.2.2.1)), (a_li, .inl (G.2 0, 16, .inl u.2.2.2.2.1)), (a_st, .inl (G.2 0, 16, .inl u.2.2.2.2.2.1)), (a_tr, .inl (G.2 0, 16, .inl u.2.2.2.2.2.2))]) 0 0 := by
  refine CtI.of (by decide) (Nat.le_of_ble_eq_true rfl) [(0, .ref h)] rfl ?_
  intro p e s m args below meth c A ls Q hQ S hr hlocks F w hl
  have S : CallFix p m c b_Rule_saidCount 1 s args kx_T "PrefetchRules$Rule" := S
  obtain ⟨hx, hb, hml, hown, hts⟩ := id S
  have w : kx_W G A s ([(h, .inr (4, [.int d, .ref sa, .int u.1, .ref a_tk, .ref a_pl, .ref a_li, .ref a_st, .ref a_tr])), (sa, .inl (G.2 0, 4, .inl u.2.1)), (a_tk, .inl (G.2 1, 16, .inl u.2.2.1)), (a_pl, .inl (G.2 0, 16, .inl u.2.2.2.1)), (a_li, .inl (G.2 0, 16, .inl u.2.2.2.2.1)), (a_st, .inl (G.2 0, 16, .inl u.2.2.2.2.2.1)), (a_tr, .inl (G.2 0, 16, .inl u.2.2.2.2.2.2))] ++ []) s.heap [] := w
  unfold f_Strides_saidCount at hF
  refine lv_aload_n hx hb d_Rule_saidCount_0 rfl (lv_at hl 0 rfl) ?_
  refine kx_get S F w kc_Strides 0 rfl 2 (by decide) kw_11 rfl d_Rule_saidCount_1 ?_
  obtain rfl := Option.some.inj hF
  exact kx_iret hQ S hr hlocks w (xo := [(h, .inr (4, [.int d, .ref sa, .int u.1, .ref a_tk, .ref a_pl, .ref a_li, .ref a_st, .ref a_tr])), (sa, .inl (G.2 0, 4, .inl u.2.1)), (a_tk, .inl (G.2 1, 16, .inl u.2.2.1)), (a_pl, .inl (G.2 0, 16, .inl u.2.2.2.1)), (a_li, .inl (G.2 0, 16, .inl u.2.2.2.2.1)), (a_st, .inl (G.2 0, 16, .inl u.2.2.2.2.2.1)), (a_tr, .inl (G.2 0, 16, .inl u.2.2.2.2.2.2))]) [0, 1, 2, 3, 4, 5, 6] rfl rfl () rfl rfl d_Rule_saidCount_4
/-! Strides_saidLine -/
def f_Strides_saidLine (d : Int32) (u : sg_strides) (p0 : Int32) : Option (Int32) := (if p0 < 0 then some (-1 : Int32) else (if u.1 ≤ p0 then some (-1 : Int32) else (if (p0 < 0 ∨ 4 ≤ p0.toNatClampNeg) then none else some (u.2.1 p0.toNatClampNeg))))
def rm_Strides_saidLine : Room := { frames := 0, cells := 0, slots := 0, locals := 0 }
set_option maxRecDepth 100000 in
set_option maxHeartbeats 4000000 in
theorem c_Strides_saidLine (l : Launch) (G : kx_G) (h : Nat) (sa : Nat) (d : Int32) (a_tk : Nat) (a_pl : Nat) (a_li : Nat) (a_st : Nat) (a_tr : Nat) (u : sg_strides) (p0 : Int32) (v : Int32) (hF : f_Strides_saidLine d u p0 = some v) : CtI l y_Rule_saidLine b_Rule_saidLine 2 (some .int) rm_Strides_saidLine G [.ref h, .int p0] [(h, .inr (4, [.int d, .ref sa, .int u.1, .ref a_tk, .ref a_pl, .ref a_li, .ref a_st, .ref a_tr])), (sa, .inl (G.2 0, 4, .inl u.2.1)), (a_tk, .inl (G.2 1, 16, .inl u.2.2.1)), (a_pl, .inl (G.2 0, 16, .inl u.2.2.2.1)), (a_li, .inl (G.2 0, 16, .inl u.2.2.2.2.1)), (a_st, .inl (G.2 0, 16, .inl u.2.2.2.2.2.1)), (a_tr, .inl (G.2 0, 16, .inl u.2.2.2.2.2.2))] (fun (r : Int32) (_ : Unit) => v = r) (fun _ => [(h, .inr (4, [.int d, .ref sa, .int u.1, .ref a_tk, .ref a_pl, .ref a_li, .ref a_st, .ref a_tr])), (sa, .inl (G.2 0, 4, .inl u.2.1)), (a_tk, .inl (G.2 1, 16, .inl u.2.2.1)), (a_pl, .inl (G.2 0, 16, .inl u.2.2.2.1)), (a_li, .inl (G.2 0, 16, .inl u.2.2.2.2.1)), (a_st, .inl (G.2 0, 16, .inl u.2.2.2.2.2.1)), (a_tr, .inl (G.2 0, 16, .inl u.2.2.2.2.2.2))]) 0 0 := by
  refine CtI.of (by decide) (Nat.le_of_ble_eq_true rfl) [(0, .ref h), (1, .int p0)] rfl ?_
  intro p e s m args below meth c A ls Q hQ S hr hlocks F w hl
  have S : CallFix p m c b_Rule_saidLine 2 s args kx_T "PrefetchRules$Rule" := S
  obtain ⟨hx, hb, hml, hown, hts⟩ := id S
  have w : kx_W G A s ([(h, .inr (4, [.int d, .ref sa, .int u.1, .ref a_tk, .ref a_pl, .ref a_li, .ref a_st, .ref a_tr])), (sa, .inl (G.2 0, 4, .inl u.2.1)), (a_tk, .inl (G.2 1, 16, .inl u.2.2.1)), (a_pl, .inl (G.2 0, 16, .inl u.2.2.2.1)), (a_li, .inl (G.2 0, 16, .inl u.2.2.2.2.1)), (a_st, .inl (G.2 0, 16, .inl u.2.2.2.2.2.1)), (a_tr, .inl (G.2 0, 16, .inl u.2.2.2.2.2.2))] ++ []) s.heap [] := w
  unfold f_Strides_saidLine at hF
  refine lv_iload_n hx hb d_Rule_saidLine_0 rfl (lv_at hl 1 rfl) ?_
  refine lv_if_lt (tgt := 21) hx hb d_Rule_saidLine_1 (by decide) (fun c1 => ?_) (fun c1 => ?_)
  · have hF := kx_t c1 hF
    refine lv_iconst (v := (-1 : Int32)) hx hb d_Rule_saidLine_21 (by decide) ?_
    obtain rfl := Option.some.inj hF
    exact kx_iret hQ S hr hlocks w (xo := [(h, .inr (4, [.int d, .ref sa, .int u.1, .ref a_tk, .ref a_pl, .ref a_li, .ref a_st, .ref a_tr])), (sa, .inl (G.2 0, 4, .inl u.2.1)), (a_tk, .inl (G.2 1, 16, .inl u.2.2.1)), (a_pl, .inl (G.2 0, 16, .inl u.2.2.2.1)), (a_li, .inl (G.2 0, 16, .inl u.2.2.2.2.1)), (a_st, .inl (G.2 0, 16, .inl u.2.2.2.2.2.1)), (a_tr, .inl (G.2 0, 16, .inl u.2.2.2.2.2.2))]) [0, 1, 2, 3, 4, 5, 6] rfl rfl () rfl rfl d_Rule_saidLine_22
  · have hF := kx_f c1 hF
    refine lv_iload_n hx hb d_Rule_saidLine_4 rfl (lv_at hl 1 rfl) ?_
    refine lv_aload_n hx hb d_Rule_saidLine_5 rfl (lv_at hl 0 rfl) ?_
    refine kx_get S F w kc_Strides 0 rfl 2 (by decide) kw_11 rfl d_Rule_saidLine_6 ?_
    refine lv_icmp_ge (tgt := 21) hx hb d_Rule_saidLine_9 (by decide) (fun c9 => ?_) (fun c9 => ?_)
    · have hF := kx_t c9 hF
      refine lv_iconst (v := (-1 : Int32)) hx hb d_Rule_saidLine_21 (by decide) ?_
      obtain rfl := Option.some.inj hF
      exact kx_iret hQ S hr hlocks w (xo := [(h, .inr (4, [.int d, .ref sa, .int u.1, .ref a_tk, .ref a_pl, .ref a_li, .ref a_st, .ref a_tr])), (sa, .inl (G.2 0, 4, .inl u.2.1)), (a_tk, .inl (G.2 1, 16, .inl u.2.2.1)), (a_pl, .inl (G.2 0, 16, .inl u.2.2.2.1)), (a_li, .inl (G.2 0, 16, .inl u.2.2.2.2.1)), (a_st, .inl (G.2 0, 16, .inl u.2.2.2.2.2.1)), (a_tr, .inl (G.2 0, 16, .inl u.2.2.2.2.2.2))]) [0, 1, 2, 3, 4, 5, 6] rfl rfl () rfl rfl d_Rule_saidLine_22
    · have hF := kx_f c9 hF
      refine lv_aload_n hx hb d_Rule_saidLine_12 rfl (lv_at hl 0 rfl) ?_
      refine kx_get S F w kc_Strides 0 rfl 1 (by decide) kw_12 rfl d_Rule_saidLine_13 ?_
      refine lv_iload_n hx hb d_Rule_saidLine_16 rfl (lv_at hl 1 rfl) ?_
      obtain ⟨hi17, hF⟩ := kx_ar hF
      refine kx_iald S F w 1 rfl hi17 d_Rule_saidLine_17 ?_
      refine lv_goto (tgt := 22) hx hb d_Rule_saidLine_18 (by decide) ?_
      obtain rfl := Option.some.inj hF
      exact kx_iret hQ S hr hlocks w (xo := [(h, .inr (4, [.int d, .ref sa, .int u.1, .ref a_tk, .ref a_pl, .ref a_li, .ref a_st, .ref a_tr])), (sa, .inl (G.2 0, 4, .inl u.2.1)), (a_tk, .inl (G.2 1, 16, .inl u.2.2.1)), (a_pl, .inl (G.2 0, 16, .inl u.2.2.2.1)), (a_li, .inl (G.2 0, 16, .inl u.2.2.2.2.1)), (a_st, .inl (G.2 0, 16, .inl u.2.2.2.2.2.1)), (a_tr, .inl (G.2 0, 16, .inl u.2.2.2.2.2.2))]) [0, 1, 2, 3, 4, 5, 6] rfl rfl () rfl rfl d_Rule_saidLine_22
/-! Strides_roundCount -/
def f_Strides_roundCount (d : Int32) (u : sg_strides) : Option (Int32) := some (0 : Int32)
def rm_Strides_roundCount : Room := { frames := 0, cells := 0, slots := 0, locals := 0 }
set_option maxRecDepth 100000 in
set_option maxHeartbeats 4000000 in
theorem c_Strides_roundCount (l : Launch) (G : kx_G) (h : Nat) (sa : Nat) (d : Int32) (a_tk : Nat) (a_pl : Nat) (a_li : Nat) (a_st : Nat) (a_tr : Nat) (u : sg_strides) (v : Int32) (hF : f_Strides_roundCount d u = some v) : CtI l y_Rule_roundCount b_Rule_roundCount 1 (some .int) rm_Strides_roundCount G [.ref h] [(h, .inr (4, [.int d, .ref sa, .int u.1, .ref a_tk, .ref a_pl, .ref a_li, .ref a_st, .ref a_tr])), (sa, .inl (G.2 0, 4, .inl u.2.1)), (a_tk, .inl (G.2 1, 16, .inl u.2.2.1)), (a_pl, .inl (G.2 0, 16, .inl u.2.2.2.1)), (a_li, .inl (G.2 0, 16, .inl u.2.2.2.2.1)), (a_st, .inl (G.2 0, 16, .inl u.2.2.2.2.2.1)), (a_tr, .inl (G.2 0, 16, .inl u.2.2.2.2.2.2))] (fun (r : Int32) (_ : Unit) => v = r) (fun _ => [(h, .inr (4, [.int d, .ref sa, .int u.1, .ref a_tk, .ref a_pl, .ref a_li, .ref a_st, .ref a_tr])), (sa, .inl (G.2 0, 4, .inl u.2.1)), (a_tk, .inl (G.2 1, 16, .inl u.2.2.1)), (a_pl, .inl (G.2 0, 16, .inl u.2.2.2.1)), (a_li, .inl (G.2 0, 16, .inl u.2.2.2.2.1)), (a_st, .inl (G.2 0, 16, .inl u.2.2.2.2.2.1)), (a_tr, .inl (G.2 0, 16, .inl u.2.2.2.2.2.2))]) 0 0 := by
  refine CtI.of (by decide) (Nat.le_of_ble_eq_true rfl) [(0, .ref h)] rfl ?_
  intro p e s m args below meth c A ls Q hQ S hr hlocks F w hl
  have S : CallFix p m c b_Rule_roundCount 1 s args kx_T "PrefetchRules$Rule" := S
  obtain ⟨hx, hb, hml, hown, hts⟩ := id S
  have w : kx_W G A s ([(h, .inr (4, [.int d, .ref sa, .int u.1, .ref a_tk, .ref a_pl, .ref a_li, .ref a_st, .ref a_tr])), (sa, .inl (G.2 0, 4, .inl u.2.1)), (a_tk, .inl (G.2 1, 16, .inl u.2.2.1)), (a_pl, .inl (G.2 0, 16, .inl u.2.2.2.1)), (a_li, .inl (G.2 0, 16, .inl u.2.2.2.2.1)), (a_st, .inl (G.2 0, 16, .inl u.2.2.2.2.2.1)), (a_tr, .inl (G.2 0, 16, .inl u.2.2.2.2.2.2))] ++ []) s.heap [] := w
  unfold f_Strides_roundCount at hF
  refine lv_iconst (v := (0 : Int32)) hx hb d_Rule_roundCount_0 (by decide) ?_
  obtain rfl := Option.some.inj hF
  exact kx_iret hQ S hr hlocks w (xo := [(h, .inr (4, [.int d, .ref sa, .int u.1, .ref a_tk, .ref a_pl, .ref a_li, .ref a_st, .ref a_tr])), (sa, .inl (G.2 0, 4, .inl u.2.1)), (a_tk, .inl (G.2 1, 16, .inl u.2.2.1)), (a_pl, .inl (G.2 0, 16, .inl u.2.2.2.1)), (a_li, .inl (G.2 0, 16, .inl u.2.2.2.2.1)), (a_st, .inl (G.2 0, 16, .inl u.2.2.2.2.2.1)), (a_tr, .inl (G.2 0, 16, .inl u.2.2.2.2.2.2))]) [0, 1, 2, 3, 4, 5, 6] rfl rfl () rfl rfl d_Rule_roundCount_1
/-! Streams_hear -/
def f_Streams_hear (d : Int32) (u : sg_streams) (p0 : Int32) (p1 : Int32) : Option (sg_streams) := (f_Streams_learn d ((0 : Int32), u.2) p0 p1).bind (fun q8 => some q8)
def rm_Streams_hear : Room := { frames := 4, cells := 0, slots := 0, locals := 87 }
set_option maxRecDepth 100000 in
set_option maxHeartbeats 4000000 in
theorem c_Streams_hear (l : Launch) (G : kx_G) (h : Nat) (sa : Nat) (d : Int32) (a_li : Nat) (a_wy : Nat) (u : sg_streams) (p0 : Int32) (p1 : Int32) (v : sg_streams) (hF : f_Streams_hear d u p0 p1 = some v) : CtV l y_Rule_hear b_Rule_hear 3 rm_Streams_hear G [.ref h, .int p0, .int p1] [(h, .inr (5, [.int d, .ref sa, .int u.1, .ref a_li, .ref a_wy, .int u.2.2.2.2])), (sa, .inl (G.2 0, 4, .inl u.2.1)), (a_li, .inl (G.2 0, 8, .inl u.2.2.1)), (a_wy, .inl (G.2 0, 8, .inl u.2.2.2.1))] (fun w : sg_streams => v = w) (fun w => [(h, .inr (5, [.int d, .ref sa, .int w.1, .ref a_li, .ref a_wy, .int w.2.2.2.2])), (sa, .inl (G.2 0, 4, .inl w.2.1)), (a_li, .inl (G.2 0, 8, .inl w.2.2.1)), (a_wy, .inl (G.2 0, 8, .inl w.2.2.2.1))]) 0 0 := by
  refine CtV.of (by decide) (Nat.le_of_ble_eq_true rfl) [(0, .ref h), (1, .int p0), (2, .int p1)] rfl ?_
  intro p e s m args below meth c A ls Q hQ S hr hlocks hin F w hl
  have S : CallFix p m c b_Rule_hear 3 s args kx_T "PrefetchRules$Rule" := S
  obtain ⟨hx, hb, hml, hown, hts⟩ := id S
  have w : kx_W G A s ([(h, .inr (5, [.int d, .ref sa, .int u.1, .ref a_li, .ref a_wy, .int u.2.2.2.2])), (sa, .inl (G.2 0, 4, .inl u.2.1)), (a_li, .inl (G.2 0, 8, .inl u.2.2.1)), (a_wy, .inl (G.2 0, 8, .inl u.2.2.2.1))] ++ []) s.heap [] := w
  unfold f_Streams_hear at hF
  refine lv_aload_n hx hb d_Rule_hear_0 rfl (lv_at hl 0 rfl) ?_
  refine lv_iconst (v := (0 : Int32)) hx hb d_Rule_hear_1 (by decide) ?_
  refine kx_put S F w kc_Streams 0 rfl 2 (by decide) kw_11 rfl rfl rfl (Nat.le_of_ble_eq_true rfl) d_Rule_hear_2 (fun H locs w => ?_)
  have w : kx_W G A s ([(h, .inr (5, [.int d, .ref sa, .int (0 : Int32), .ref a_li, .ref a_wy, .int u.2.2.2.2])), (sa, .inl (G.2 0, 4, .inl u.2.1)), (a_li, .inl (G.2 0, 8, .inl u.2.2.1)), (a_wy, .inl (G.2 0, 8, .inl u.2.2.2.1))] ++ []) H locs := w
  refine lv_aload_n hx hb d_Rule_hear_5 rfl (lv_at hl 0 rfl) ?_
  refine lv_iload_n hx hb d_Rule_hear_6 rfl (lv_at hl 1 rfl) ?_
  refine lv_iload_n hx hb d_Rule_hear_7 rfl (lv_at hl 2 rfl) ?_
  obtain ⟨q8, hq8, hF⟩ := kx_bd hF
  refine kx_cv (cx := [(h, .inr (5, [.int d, .ref sa, .int (0 : Int32), .ref a_li, .ref a_wy, .int u.2.2.2.2])), (sa, .inl (G.2 0, 4, .inl u.2.1)), (a_li, .inl (G.2 0, 8, .inl u.2.2.1)), (a_wy, .inl (G.2 0, 8, .inl u.2.2.2.1))]) (wr := []) F w [0, 1, 2, 3] [] rfl rfl rfl (by decide) (va_runU (As := [.int p0, .int p1]) (rest := []) S (c_Streams_learn l G h sa d a_li a_wy ((0 : Int32), u.2) p0 p1 q8 hq8 _) (kx_cwA (n := 2) (x := ⟨"PrefetchRules$Rule", "learn", "(II)V"⟩) S F kw_96 kw_86 kw_87 kw_97 kw_98 kw_99 kw_91 (by decide +kernel) ⟨rfl, rfl, Nat.le_of_ble_eq_true rfl, Nat.le_of_ble_eq_true rfl⟩) ⟨kx_blind _ _ _ _, va_recv (q0 := 0) F.1.1 w.1 kc_Streams.1 rfl, kx_pre F w [0, 1, 2, 3] rfl rfl⟩ rfl rfl hl.1 rfl (lv_room (Nat.le_of_ble_eq_true rfl)) d_Rule_hear_8 ⟨Nat.le_of_ble_eq_true rfl, Nat.le_of_ble_eq_true rfl⟩) (fun w8 H locs hp w => ?_)
  subst hp
  have w : kx_W G A s ([(h, .inr (5, [.int d, .ref sa, .int q8.1, .ref a_li, .ref a_wy, .int q8.2.2.2.2])), (sa, .inl (G.2 0, 4, .inl q8.2.1)), (a_li, .inl (G.2 0, 8, .inl q8.2.2.1)), (a_wy, .inl (G.2 0, 8, .inl q8.2.2.2.1))] ++ []) H locs := w
  obtain rfl := Option.some.inj hF
  exact kx_vret hQ S hr hlocks w (xo := [(h, .inr (5, [.int d, .ref sa, .int q8.1, .ref a_li, .ref a_wy, .int q8.2.2.2.2])), (sa, .inl (G.2 0, 4, .inl q8.2.1)), (a_li, .inl (G.2 0, 8, .inl q8.2.2.1)), (a_wy, .inl (G.2 0, 8, .inl q8.2.2.2.1))]) [0, 1, 2, 3] rfl rfl q8 rfl rfl d_Rule_hear_11
/-! Streams_saidCount -/
def f_Streams_saidCount (d : Int32) (u : sg_streams) : Option (Int32) := some u.1
def rm_Streams_saidCount : Room := { frames := 0, cells := 0, slots := 0, locals := 0 }
set_option maxRecDepth 100000 in
set_option maxHeartbeats 4000000 in
theorem c_Streams_saidCount (l : Launch) (G : kx_G) (h : Nat) (sa : Nat) (d : Int32) (a_li : Nat) (a_wy : Nat) (u : sg_streams) (v : Int32) (hF : f_Streams_saidCount d u = some v) : CtI l y_Rule_saidCount b_Rule_saidCount 1 (some .int) rm_Streams_saidCount G [.ref h] [(h, .inr (5, [.int d, .ref sa, .int u.1, .ref a_li, .ref a_wy, .int u.2.2.2.2])), (sa, .inl (G.2 0, 4, .inl u.2.1)), (a_li, .inl (G.2 0, 8, .inl u.2.2.1)), (a_wy, .inl (G.2 0, 8, .inl u.2.2.2.1))] (fun (r : Int32) (_ : Unit) => v = r) (fun _ => [(h, .inr (5, [.int d, .ref sa, .int u.1, .ref a_li, .ref a_wy, .int u.2.2.2.2])), (sa, .inl (G.2 0, 4, .inl u.2.1)), (a_li, .inl (G.2 0, 8, .inl u.2.2.1)), (a_wy, .inl (G.2 0, 8, .inl u.2.2.2.1))]) 0 0 := by
  refine CtI.of (by decide) (Nat.le_of_ble_eq_true rfl) [(0, .ref h)] rfl ?_
  intro p e s m args below meth c A ls Q hQ S hr hlocks F w hl
  have S : CallFix p m c b_Rule_saidCount 1 s args kx_T "PrefetchRules$Rule" := S
  obtain ⟨hx, hb, hml, hown, hts⟩ := id S
  have w : kx_W G A s ([(h, .inr (5, [.int d, .ref sa, .int u.1, .ref a_li, .ref a_wy, .int u.2.2.2.2])), (sa, .inl (G.2 0, 4, .inl u.2.1)), (a_li, .inl (G.2 0, 8, .inl u.2.2.1)), (a_wy, .inl (G.2 0, 8, .inl u.2.2.2.1))] ++ []) s.heap [] := w
  unfold f_Streams_saidCount at hF
  refine lv_aload_n hx hb d_Rule_saidCount_0 rfl (lv_at hl 0 rfl) ?_
  refine kx_get S F w kc_Streams 0 rfl 2 (by decide) kw_11 rfl d_Rule_saidCount_1 ?_
  obtain rfl := Option.some.inj hF
  exact kx_iret hQ S hr hlocks w (xo := [(h, .inr (5, [.int d, .ref sa, .int u.1, .ref a_li, .ref a_wy, .int u.2.2.2.2])), (sa, .inl (G.2 0, 4, .inl u.2.1)), (a_li, .inl (G.2 0, 8, .inl u.2.2.1)), (a_wy, .inl (G.2 0, 8, .inl u.2.2.2.1))]) [0, 1, 2, 3] rfl rfl () rfl rfl d_Rule_saidCount_4
/-! Streams_saidLine -/
def f_Streams_saidLine (d : Int32) (u : sg_streams) (p0 : Int32) : Option (Int32) := (if p0 < 0 then some (-1 : Int32) else (if u.1 ≤ p0 then some (-1 : Int32) else (if (p0 < 0 ∨ 4 ≤ p0.toNatClampNeg) then none else some (u.2.1 p0.toNatClampNeg))))
def rm_Streams_saidLine : Room := { frames := 0, cells := 0, slots := 0, locals := 0 }
set_option maxRecDepth 100000 in
set_option maxHeartbeats 4000000 in
theorem c_Streams_saidLine (l : Launch) (G : kx_G) (h : Nat) (sa : Nat) (d : Int32) (a_li : Nat) (a_wy : Nat) (u : sg_streams) (p0 : Int32) (v : Int32) (hF : f_Streams_saidLine d u p0 = some v) : CtI l y_Rule_saidLine b_Rule_saidLine 2 (some .int) rm_Streams_saidLine G [.ref h, .int p0] [(h, .inr (5, [.int d, .ref sa, .int u.1, .ref a_li, .ref a_wy, .int u.2.2.2.2])), (sa, .inl (G.2 0, 4, .inl u.2.1)), (a_li, .inl (G.2 0, 8, .inl u.2.2.1)), (a_wy, .inl (G.2 0, 8, .inl u.2.2.2.1))] (fun (r : Int32) (_ : Unit) => v = r) (fun _ => [(h, .inr (5, [.int d, .ref sa, .int u.1, .ref a_li, .ref a_wy, .int u.2.2.2.2])), (sa, .inl (G.2 0, 4, .inl u.2.1)), (a_li, .inl (G.2 0, 8, .inl u.2.2.1)), (a_wy, .inl (G.2 0, 8, .inl u.2.2.2.1))]) 0 0 := by
  refine CtI.of (by decide) (Nat.le_of_ble_eq_true rfl) [(0, .ref h), (1, .int p0)] rfl ?_
  intro p e s m args below meth c A ls Q hQ S hr hlocks F w hl
  have S : CallFix p m c b_Rule_saidLine 2 s args kx_T "PrefetchRules$Rule" := S
  obtain ⟨hx, hb, hml, hown, hts⟩ := id S
  have w : kx_W G A s ([(h, .inr (5, [.int d, .ref sa, .int u.1, .ref a_li, .ref a_wy, .int u.2.2.2.2])), (sa, .inl (G.2 0, 4, .inl u.2.1)), (a_li, .inl (G.2 0, 8, .inl u.2.2.1)), (a_wy, .inl (G.2 0, 8, .inl u.2.2.2.1))] ++ []) s.heap [] := w
  unfold f_Streams_saidLine at hF
  refine lv_iload_n hx hb d_Rule_saidLine_0 rfl (lv_at hl 1 rfl) ?_
  refine lv_if_lt (tgt := 21) hx hb d_Rule_saidLine_1 (by decide) (fun c1 => ?_) (fun c1 => ?_)
  · have hF := kx_t c1 hF
    refine lv_iconst (v := (-1 : Int32)) hx hb d_Rule_saidLine_21 (by decide) ?_
    obtain rfl := Option.some.inj hF
    exact kx_iret hQ S hr hlocks w (xo := [(h, .inr (5, [.int d, .ref sa, .int u.1, .ref a_li, .ref a_wy, .int u.2.2.2.2])), (sa, .inl (G.2 0, 4, .inl u.2.1)), (a_li, .inl (G.2 0, 8, .inl u.2.2.1)), (a_wy, .inl (G.2 0, 8, .inl u.2.2.2.1))]) [0, 1, 2, 3] rfl rfl () rfl rfl d_Rule_saidLine_22
  · have hF := kx_f c1 hF
    refine lv_iload_n hx hb d_Rule_saidLine_4 rfl (lv_at hl 1 rfl) ?_
    refine lv_aload_n hx hb d_Rule_saidLine_5 rfl (lv_at hl 0 rfl) ?_
    refine kx_get S F w kc_Streams 0 rfl 2 (by decide) kw_11 rfl d_Rule_saidLine_6 ?_
    refine lv_icmp_ge (tgt := 21) hx hb d_Rule_saidLine_9 (by decide) (fun c9 => ?_) (fun c9 => ?_)
    · have hF := kx_t c9 hF
      refine lv_iconst (v := (-1 : Int32)) hx hb d_Rule_saidLine_21 (by decide) ?_
      obtain rfl := Option.some.inj hF
      exact kx_iret hQ S hr hlocks w (xo := [(h, .inr (5, [.int d, .ref sa, .int u.1, .ref a_li, .ref a_wy, .int u.2.2.2.2])), (sa, .inl (G.2 0, 4, .inl u.2.1)), (a_li, .inl (G.2 0, 8, .inl u.2.2.1)), (a_wy, .inl (G.2 0, 8, .inl u.2.2.2.1))]) [0, 1, 2, 3] rfl rfl () rfl rfl d_Rule_saidLine_22
    · have hF := kx_f c9 hF
      refine lv_aload_n hx hb d_Rule_saidLine_12 rfl (lv_at hl 0 rfl) ?_
      refine kx_get S F w kc_Streams 0 rfl 1 (by decide) kw_12 rfl d_Rule_saidLine_13 ?_
      refine lv_iload_n hx hb d_Rule_saidLine_16 rfl (lv_at hl 1 rfl) ?_
      obtain ⟨hi17, hF⟩ := kx_ar hF
      refine kx_iald S F w 1 rfl hi17 d_Rule_saidLine_17 ?_
      refine lv_goto (tgt := 22) hx hb d_Rule_saidLine_18 (by decide) ?_
      obtain rfl := Option.some.inj hF
      exact kx_iret hQ S hr hlocks w (xo := [(h, .inr (5, [.int d, .ref sa, .int u.1, .ref a_li, .ref a_wy, .int u.2.2.2.2])), (sa, .inl (G.2 0, 4, .inl u.2.1)), (a_li, .inl (G.2 0, 8, .inl u.2.2.1)), (a_wy, .inl (G.2 0, 8, .inl u.2.2.2.1))]) [0, 1, 2, 3] rfl rfl () rfl rfl d_Rule_saidLine_22
/-! Streams_roundCount -/
def f_Streams_roundCount (d : Int32) (u : sg_streams) : Option (Int32) := some (0 : Int32)
def rm_Streams_roundCount : Room := { frames := 0, cells := 0, slots := 0, locals := 0 }
set_option maxRecDepth 100000 in
set_option maxHeartbeats 4000000 in
theorem c_Streams_roundCount (l : Launch) (G : kx_G) (h : Nat) (sa : Nat) (d : Int32) (a_li : Nat) (a_wy : Nat) (u : sg_streams) (v : Int32) (hF : f_Streams_roundCount d u = some v) : CtI l y_Rule_roundCount b_Rule_roundCount 1 (some .int) rm_Streams_roundCount G [.ref h] [(h, .inr (5, [.int d, .ref sa, .int u.1, .ref a_li, .ref a_wy, .int u.2.2.2.2])), (sa, .inl (G.2 0, 4, .inl u.2.1)), (a_li, .inl (G.2 0, 8, .inl u.2.2.1)), (a_wy, .inl (G.2 0, 8, .inl u.2.2.2.1))] (fun (r : Int32) (_ : Unit) => v = r) (fun _ => [(h, .inr (5, [.int d, .ref sa, .int u.1, .ref a_li, .ref a_wy, .int u.2.2.2.2])), (sa, .inl (G.2 0, 4, .inl u.2.1)), (a_li, .inl (G.2 0, 8, .inl u.2.2.1)), (a_wy, .inl (G.2 0, 8, .inl u.2.2.2.1))]) 0 0 := by
  refine CtI.of (by decide) (Nat.le_of_ble_eq_true rfl) [(0, .ref h)] rfl ?_
  intro p e s m args below meth c A ls Q hQ S hr hlocks F w hl
  have S : CallFix p m c b_Rule_roundCount 1 s args kx_T "PrefetchRules$Rule" := S
  obtain ⟨hx, hb, hml, hown, hts⟩ := id S
  have w : kx_W G A s ([(h, .inr (5, [.int d, .ref sa, .int u.1, .ref a_li, .ref a_wy, .int u.2.2.2.2])), (sa, .inl (G.2 0, 4, .inl u.2.1)), (a_li, .inl (G.2 0, 8, .inl u.2.2.1)), (a_wy, .inl (G.2 0, 8, .inl u.2.2.2.1))] ++ []) s.heap [] := w
  unfold f_Streams_roundCount at hF
  refine lv_iconst (v := (0 : Int32)) hx hb d_Rule_roundCount_0 (by decide) ?_
  obtain rfl := Option.some.inj hF
  exact kx_iret hQ S hr hlocks w (xo := [(h, .inr (5, [.int d, .ref sa, .int u.1, .ref a_li, .ref a_wy, .int u.2.2.2.2])), (sa, .inl (G.2 0, 4, .inl u.2.1)), (a_li, .inl (G.2 0, 8, .inl u.2.2.1)), (a_wy, .inl (G.2 0, 8, .inl u.2.2.2.1))]) [0, 1, 2, 3] rfl rfl () rfl rfl d_Rule_roundCount_1
/-! Strides_init -/
def rm_Strides_init : Room := { frames := 2, cells := 6, slots := 84, locals := 41 }
set_option maxRecDepth 100000 in
set_option maxHeartbeats 4000000 in
theorem c_Strides_init (l : Launch) (G : kx_G) (h : Nat) (p0 : Int32) : CtV l y_Strides_init b_Strides_init 2 rm_Strides_init G [.ref h, .int p0] [(h, .inr (4, [.int 0, .null, .int 0, .null, .null, .null, .null, .null]))] (fun (_ : Nat × Nat × Nat × Nat × Nat × Nat) => True) (fun w => [(h, .inr (4, [.int p0, .ref w.1, .int 0, .ref w.2.1, .ref w.2.2.1, .ref w.2.2.2.1, .ref w.2.2.2.2.1, .ref w.2.2.2.2.2])), (w.1, .inl (G.2 0, 4, .inl (fun _ => 0))), (w.2.1, .inl (G.2 1, 16, .inl (fun _ => 0))), (w.2.2.1, .inl (G.2 0, 16, .inl (fun _ => 0))), (w.2.2.2.1, .inl (G.2 0, 16, .inl (fun _ => 0))), (w.2.2.2.2.1, .inl (G.2 0, 16, .inl (fun _ => 0))), (w.2.2.2.2.2, .inl (G.2 0, 16, .inl (fun _ => 0)))]) 6 84 := by
  refine CtV.of (by decide) (Nat.le_of_ble_eq_true rfl) [(0, .ref h), (1, .int p0)] rfl ?_
  intro p e s m args below meth c A ls Q hQ S hr hlocks hin F w hl
  have S : CallFix p m c b_Strides_init 2 s args kx_T "PrefetchRules$Strides" := S
  obtain ⟨hx, hb, hml, hown, hts⟩ := id S
  have w : kx_W G A s ([(h, .inr (4, [.int 0, .null, .int 0, .null, .null, .null, .null, .null]))] ++ []) s.heap [] := w
  refine lv_aload_n hx hb d_Strides_init_0 rfl (lv_at hl 0 rfl) ?_
  refine lv_iload_n hx hb d_Strides_init_1 rfl (lv_at hl 1 rfl) ?_
  refine kx_cv (cx := [(h, .inr (4, [.int 0, .null, .int 0, .null, .null, .null, .null, .null]))]) (wr := []) F w [0] [] rfl rfl rfl (by decide) (va_runI (As := [.int p0]) (rest := []) S (c_Rule_init l G 4 ("PrefetchRules$Strides") F_Strides 8 t_Strides h ([.null, .null, .null, .null, .null]) kr_Strides p0 _) (kx_cwI S mi_Rule_init kw_116 ⟨rfl, rfl, Nat.le_of_ble_eq_true rfl, Nat.le_of_ble_eq_true rfl⟩) ⟨kx_blind _ _ _ _, kx_pre F w [0] rfl rfl⟩ rfl rfl hl.1 rfl (lv_room (Nat.le_of_ble_eq_true rfl)) d_Strides_init_2 ⟨Nat.le_of_ble_eq_true rfl, Nat.le_of_ble_eq_true rfl⟩) (fun w2 H locs hp w => ?_)
  have w : kx_W G A s ([(h, .inr (4, [.int p0, .ref w2, .int 0, .null, .null, .null, .null, .null])), (w2, .inl (G.2 0, 4, .inl (fun _ => 0)))] ++ []) H locs := w
  refine lv_aload_n hx hb d_Strides_init_5 rfl (lv_at hl 0 rfl) ?_
  refine lv_bipush (v := (16 : Int32)) hx hb d_Strides_init_6 (by decide) ?_
  refine kx_newz S F w kw_112 (N' := 16) (by decide) (by decide) (by decide) (Nat.le_of_ble_eq_true rfl) (Nat.le_of_ble_eq_true rfl) d_Strides_init_8 (fun b8 H w => ?_)
  have w : kx_W G A s ([(h, .inr (4, [.int p0, .ref w2, .int 0, .null, .null, .null, .null, .null])), (w2, .inl (G.2 0, 4, .inl (fun _ => 0))), (b8, .inl (G.2 1, 16, .inl (fun _ => 0)))] ++ []) H locs := w
  refine kx_putF S F w kc_Strides 0 rfl 3 (by decide) kw_23 rfl hin rfl rfl rfl (Nat.le_of_ble_eq_true rfl) d_Strides_init_10 (fun H locs w => ?_)
  have w : kx_W G A s ([(h, .inr (4, [.int p0, .ref w2, .int 0, .ref b8, .null, .null, .null, .null])), (w2, .inl (G.2 0, 4, .inl (fun _ => 0))), (b8, .inl (G.2 1, 16, .inl (fun _ => 0)))] ++ []) H locs := w
  refine lv_aload_n hx hb d_Strides_init_13 rfl (lv_at hl 0 rfl) ?_
  refine lv_bipush (v := (16 : Int32)) hx hb d_Strides_init_14 (by decide) ?_
  refine kx_newi S F w kw_111 (N' := 16) (by decide) (by decide) (by decide) (Nat.le_of_ble_eq_true rfl) (Nat.le_of_ble_eq_true rfl) d_Strides_init_16 (fun b16 H w => ?_)
  have w : kx_W G A s ([(h, .inr (4, [.int p0, .ref w2, .int 0, .ref b8, .null, .null, .null, .null])), (w2, .inl (G.2 0, 4, .inl (fun _ => 0))), (b8, .inl (G.2 1, 16, .inl (fun _ => 0))), (b16, .inl (G.2 0, 16, .inl (fun _ => 0)))] ++ []) H locs := w
  refine kx_putF S F w kc_Strides 0 rfl 4 (by decide) kw_24 rfl hin rfl rfl rfl (Nat.le_of_ble_eq_true rfl) d_Strides_init_18 (fun H locs w => ?_)
  have w : kx_W G A s ([(h, .inr (4, [.int p0, .ref w2, .int 0, .ref b8, .ref b16, .null, .null, .null])), (w2, .inl (G.2 0, 4, .inl (fun _ => 0))), (b8, .inl (G.2 1, 16, .inl (fun _ => 0))), (b16, .inl (G.2 0, 16, .inl (fun _ => 0)))] ++ []) H locs := w
  refine lv_aload_n hx hb d_Strides_init_21 rfl (lv_at hl 0 rfl) ?_
  refine lv_bipush (v := (16 : Int32)) hx hb d_Strides_init_22 (by decide) ?_
  refine kx_newi S F w kw_111 (N' := 16) (by decide) (by decide) (by decide) (Nat.le_of_ble_eq_true rfl) (Nat.le_of_ble_eq_true rfl) d_Strides_init_24 (fun b24 H w => ?_)
  have w : kx_W G A s ([(h, .inr (4, [.int p0, .ref w2, .int 0, .ref b8, .ref b16, .null, .null, .null])), (w2, .inl (G.2 0, 4, .inl (fun _ => 0))), (b8, .inl (G.2 1, 16, .inl (fun _ => 0))), (b16, .inl (G.2 0, 16, .inl (fun _ => 0))), (b24, .inl (G.2 0, 16, .inl (fun _ => 0)))] ++ []) H locs := w
  refine kx_putF S F w kc_Strides 0 rfl 5 (by decide) kw_25 rfl hin rfl rfl rfl (Nat.le_of_ble_eq_true rfl) d_Strides_init_26 (fun H locs w => ?_)
  have w : kx_W G A s ([(h, .inr (4, [.int p0, .ref w2, .int 0, .ref b8, .ref b16, .ref b24, .null, .null])), (w2, .inl (G.2 0, 4, .inl (fun _ => 0))), (b8, .inl (G.2 1, 16, .inl (fun _ => 0))), (b16, .inl (G.2 0, 16, .inl (fun _ => 0))), (b24, .inl (G.2 0, 16, .inl (fun _ => 0)))] ++ []) H locs := w
  refine lv_aload_n hx hb d_Strides_init_29 rfl (lv_at hl 0 rfl) ?_
  refine lv_bipush (v := (16 : Int32)) hx hb d_Strides_init_30 (by decide) ?_
  refine kx_newi S F w kw_111 (N' := 16) (by decide) (by decide) (by decide) (Nat.le_of_ble_eq_true rfl) (Nat.le_of_ble_eq_true rfl) d_Strides_init_32 (fun b32 H w => ?_)
  have w : kx_W G A s ([(h, .inr (4, [.int p0, .ref w2, .int 0, .ref b8, .ref b16, .ref b24, .null, .null])), (w2, .inl (G.2 0, 4, .inl (fun _ => 0))), (b8, .inl (G.2 1, 16, .inl (fun _ => 0))), (b16, .inl (G.2 0, 16, .inl (fun _ => 0))), (b24, .inl (G.2 0, 16, .inl (fun _ => 0))), (b32, .inl (G.2 0, 16, .inl (fun _ => 0)))] ++ []) H locs := w
  refine kx_putF S F w kc_Strides 0 rfl 6 (by decide) kw_26 rfl hin rfl rfl rfl (Nat.le_of_ble_eq_true rfl) d_Strides_init_34 (fun H locs w => ?_)
  have w : kx_W G A s ([(h, .inr (4, [.int p0, .ref w2, .int 0, .ref b8, .ref b16, .ref b24, .ref b32, .null])), (w2, .inl (G.2 0, 4, .inl (fun _ => 0))), (b8, .inl (G.2 1, 16, .inl (fun _ => 0))), (b16, .inl (G.2 0, 16, .inl (fun _ => 0))), (b24, .inl (G.2 0, 16, .inl (fun _ => 0))), (b32, .inl (G.2 0, 16, .inl (fun _ => 0)))] ++ []) H locs := w
  refine lv_aload_n hx hb d_Strides_init_37 rfl (lv_at hl 0 rfl) ?_
  refine lv_bipush (v := (16 : Int32)) hx hb d_Strides_init_38 (by decide) ?_
  refine kx_newi S F w kw_111 (N' := 16) (by decide) (by decide) (by decide) (Nat.le_of_ble_eq_true rfl) (Nat.le_of_ble_eq_true rfl) d_Strides_init_40 (fun b40 H w => ?_)
  have w : kx_W G A s ([(h, .inr (4, [.int p0, .ref w2, .int 0, .ref b8, .ref b16, .ref b24, .ref b32, .null])), (w2, .inl (G.2 0, 4, .inl (fun _ => 0))), (b8, .inl (G.2 1, 16, .inl (fun _ => 0))), (b16, .inl (G.2 0, 16, .inl (fun _ => 0))), (b24, .inl (G.2 0, 16, .inl (fun _ => 0))), (b32, .inl (G.2 0, 16, .inl (fun _ => 0))), (b40, .inl (G.2 0, 16, .inl (fun _ => 0)))] ++ []) H locs := w
  refine kx_putF S F w kc_Strides 0 rfl 7 (by decide) kw_27 rfl hin rfl rfl rfl (Nat.le_of_ble_eq_true rfl) d_Strides_init_42 (fun H locs w => ?_)
  have w : kx_W G A s ([(h, .inr (4, [.int p0, .ref w2, .int 0, .ref b8, .ref b16, .ref b24, .ref b32, .ref b40])), (w2, .inl (G.2 0, 4, .inl (fun _ => 0))), (b8, .inl (G.2 1, 16, .inl (fun _ => 0))), (b16, .inl (G.2 0, 16, .inl (fun _ => 0))), (b24, .inl (G.2 0, 16, .inl (fun _ => 0))), (b32, .inl (G.2 0, 16, .inl (fun _ => 0))), (b40, .inl (G.2 0, 16, .inl (fun _ => 0)))] ++ []) H locs := w
  refine W.widen (k := 6) (n := 84) (Nat.le_of_ble_eq_true rfl) (Nat.le_of_ble_eq_true rfl) ?_
  exact kx_vret hQ S hr hlocks w (xo := [(h, .inr (4, [.int p0, .ref w2, .int 0, .ref b8, .ref b16, .ref b24, .ref b32, .ref b40])), (w2, .inl (G.2 0, 4, .inl (fun _ => 0))), (b8, .inl (G.2 1, 16, .inl (fun _ => 0))), (b16, .inl (G.2 0, 16, .inl (fun _ => 0))), (b24, .inl (G.2 0, 16, .inl (fun _ => 0))), (b32, .inl (G.2 0, 16, .inl (fun _ => 0))), (b40, .inl (G.2 0, 16, .inl (fun _ => 0)))]) [0, 1, 2, 3, 4, 5, 6] rfl rfl (w2, b8, b16, b24, b32, b40) rfl trivial d_Strides_init_45
/-! Streams_init -/
def rm_Streams_init : Room := { frames := 2, cells := 3, slots := 20, locals := 41 }
set_option maxRecDepth 100000 in
set_option maxHeartbeats 4000000 in
theorem c_Streams_init (l : Launch) (G : kx_G) (h : Nat) (p0 : Int32) : CtV l y_Streams_init b_Streams_init 2 rm_Streams_init G [.ref h, .int p0] [(h, .inr (5, [.int 0, .null, .int 0, .null, .null, .int 0]))] (fun (_ : Nat × Nat × Nat) => True) (fun w => [(h, .inr (5, [.int p0, .ref w.1, .int 0, .ref w.2.1, .ref w.2.2, .int 0])), (w.1, .inl (G.2 0, 4, .inl (fun _ => 0))), (w.2.1, .inl (G.2 0, 8, .inl (fun _ => 0))), (w.2.2, .inl (G.2 0, 8, .inl (fun _ => 0)))]) 3 20 := by
  refine CtV.of (by decide) (Nat.le_of_ble_eq_true rfl) [(0, .ref h), (1, .int p0)] rfl ?_
  intro p e s m args below meth c A ls Q hQ S hr hlocks hin F w hl
  have S : CallFix p m c b_Streams_init 2 s args kx_T "PrefetchRules$Streams" := S
  obtain ⟨hx, hb, hml, hown, hts⟩ := id S
  have w : kx_W G A s ([(h, .inr (5, [.int 0, .null, .int 0, .null, .null, .int 0]))] ++ []) s.heap [] := w
  refine lv_aload_n hx hb d_Streams_init_0 rfl (lv_at hl 0 rfl) ?_
  refine lv_iload_n hx hb d_Streams_init_1 rfl (lv_at hl 1 rfl) ?_
  refine kx_cv (cx := [(h, .inr (5, [.int 0, .null, .int 0, .null, .null, .int 0]))]) (wr := []) F w [0] [] rfl rfl rfl (by decide) (va_runI (As := [.int p0]) (rest := []) S (c_Rule_init l G 5 ("PrefetchRules$Streams") F_Streams 6 t_Streams h ([.null, .null, .int 0]) kr_Streams p0 _) (kx_cwI S mi_Rule_init kw_117 ⟨rfl, rfl, Nat.le_of_ble_eq_true rfl, Nat.le_of_ble_eq_true rfl⟩) ⟨kx_blind _ _ _ _, kx_pre F w [0] rfl rfl⟩ rfl rfl hl.1 rfl (lv_room (Nat.le_of_ble_eq_true rfl)) d_Streams_init_2 ⟨Nat.le_of_ble_eq_true rfl, Nat.le_of_ble_eq_true rfl⟩) (fun w2 H locs hp w => ?_)
  have w : kx_W G A s ([(h, .inr (5, [.int p0, .ref w2, .int 0, .null, .null, .int 0])), (w2, .inl (G.2 0, 4, .inl (fun _ => 0)))] ++ []) H locs := w
  refine lv_aload_n hx hb d_Streams_init_5 rfl (lv_at hl 0 rfl) ?_
  refine lv_bipush (v := (8 : Int32)) hx hb d_Streams_init_6 (by decide) ?_
  refine kx_newi S F w kw_111 (N' := 8) (by decide) (by decide) (by decide) (Nat.le_of_ble_eq_true rfl) (Nat.le_of_ble_eq_true rfl) d_Streams_init_8 (fun b8 H w => ?_)
  have w : kx_W G A s ([(h, .inr (5, [.int p0, .ref w2, .int 0, .null, .null, .int 0])), (w2, .inl (G.2 0, 4, .inl (fun _ => 0))), (b8, .inl (G.2 0, 8, .inl (fun _ => 0)))] ++ []) H locs := w
  refine kx_putF S F w kc_Streams 0 rfl 3 (by decide) kw_39 rfl hin rfl rfl rfl (Nat.le_of_ble_eq_true rfl) d_Streams_init_10 (fun H locs w => ?_)
  have w : kx_W G A s ([(h, .inr (5, [.int p0, .ref w2, .int 0, .ref b8, .null, .int 0])), (w2, .inl (G.2 0, 4, .inl (fun _ => 0))), (b8, .inl (G.2 0, 8, .inl (fun _ => 0)))] ++ []) H locs := w
  refine lv_aload_n hx hb d_Streams_init_13 rfl (lv_at hl 0 rfl) ?_
  refine lv_bipush (v := (8 : Int32)) hx hb d_Streams_init_14 (by decide) ?_
  refine kx_newi S F w kw_111 (N' := 8) (by decide) (by decide) (by decide) (Nat.le_of_ble_eq_true rfl) (Nat.le_of_ble_eq_true rfl) d_Streams_init_16 (fun b16 H w => ?_)
  have w : kx_W G A s ([(h, .inr (5, [.int p0, .ref w2, .int 0, .ref b8, .null, .int 0])), (w2, .inl (G.2 0, 4, .inl (fun _ => 0))), (b8, .inl (G.2 0, 8, .inl (fun _ => 0))), (b16, .inl (G.2 0, 8, .inl (fun _ => 0)))] ++ []) H locs := w
  refine kx_putF S F w kc_Streams 0 rfl 4 (by decide) kw_40 rfl hin rfl rfl rfl (Nat.le_of_ble_eq_true rfl) d_Streams_init_18 (fun H locs w => ?_)
  have w : kx_W G A s ([(h, .inr (5, [.int p0, .ref w2, .int 0, .ref b8, .ref b16, .int 0])), (w2, .inl (G.2 0, 4, .inl (fun _ => 0))), (b8, .inl (G.2 0, 8, .inl (fun _ => 0))), (b16, .inl (G.2 0, 8, .inl (fun _ => 0)))] ++ []) H locs := w
  refine W.widen (k := 3) (n := 20) (Nat.le_of_ble_eq_true rfl) (Nat.le_of_ble_eq_true rfl) ?_
  exact kx_vret hQ S hr hlocks w (xo := [(h, .inr (5, [.int p0, .ref w2, .int 0, .ref b8, .ref b16, .int 0])), (w2, .inl (G.2 0, 4, .inl (fun _ => 0))), (b8, .inl (G.2 0, 8, .inl (fun _ => 0))), (b16, .inl (G.2 0, 8, .inl (fun _ => 0)))]) [0, 1, 2, 3] rfl rfl (w2, b8, b16) rfl trivial d_Streams_init_21
end
section
/-! Offsets_isRecent -/
def f_Offsets_isRecent (d : Int32) (u : sg_offsets) (p0 : Int32) : Option (Int32) := (f_Main_indexOf 32 u.2.2.1 p0 u.2.2.2.1).bind (fun q9 => (if q9 = (-1 : Int32) then some (0 : Int32) else some (1 : Int32)))
def rm_Offsets_isRecent : Room := { frames := 1, cells := 0, slots := 0, locals := 23 }
set_option maxRecDepth 100000 in
set_option maxHeartbeats 4000000 in
theorem c_Offsets_isRecent (l : Launch) (G : kx_G) (h : Nat) (sa : Nat) (d : Int32) (a_re : Nat) (a_sc_ : Nat) (u : sg_offsets) (p0 : Int32) (v : Int32) (hF : f_Offsets_isRecent d u p0 = some v) : CtI l y_Offsets_isRecent b_Offsets_isRecent 2 (some .boolean) rm_Offsets_isRecent G [.ref h, .int p0] [(h, .inr (6, [.int d, .ref sa, .int u.1, .ref a_re, .int u.2.2.2.1, .int u.2.2.2.2.1, .ref a_sc_, .int u.2.2.2.2.2.2.1, .int u.2.2.2.2.2.2.2.1, .int u.2.2.2.2.2.2.2.2.1, .int u.2.2.2.2.2.2.2.2.2])), (sa, .inl (G.2 0, 4, .inl u.2.1)), (a_re, .inl (G.2 0, 32, .inl u.2.2.1)), (a_sc_, .inl (G.2 0, 12, .inl u.2.2.2.2.2.1))] (fun (r : Int32) (_ : Unit) => v = r) (fun _ => [(h, .inr (6, [.int d, .ref sa, .int u.1, .ref a_re, .int u.2.2.2.1, .int u.2.2.2.2.1, .ref a_sc_, .int u.2.2.2.2.2.2.1, .int u.2.2.2.2.2.2.2.1, .int u.2.2.2.2.2.2.2.2.1, .int u.2.2.2.2.2.2.2.2.2])), (sa, .inl (G.2 0, 4, .inl u.2.1)), (a_re, .inl (G.2 0, 32, .inl u.2.2.1)), (a_sc_, .inl (G.2 0, 12, .inl u.2.2.2.2.2.1))]) 0 0 := by
  refine CtI.of (by decide) (Nat.le_of_ble_eq_true rfl) [(0, .ref h), (1, .int p0)] rfl ?_
  intro p e s m args below meth c A ls Q hQ S hr hlocks F w hl
  have S : CallFix p m c b_Offsets_isRecent 2 s args kx_T "PrefetchRules$Offsets" := S
  obtain ⟨hx, hb, hml, hown, hts⟩ := id S
  have w : kx_W G A s ([(h, .inr (6, [.int d, .ref sa, .int u.1, .ref a_re, .int u.2.2.2.1, .int u.2.2.2.2.1, .ref a_sc_, .int u.2.2.2.2.2.2.1, .int u.2.2.2.2.2.2.2.1, .int u.2.2.2.2.2.2.2.2.1, .int u.2.2.2.2.2.2.2.2.2])), (sa, .inl (G.2 0, 4, .inl u.2.1)), (a_re, .inl (G.2 0, 32, .inl u.2.2.1)), (a_sc_, .inl (G.2 0, 12, .inl u.2.2.2.2.2.1))] ++ []) s.heap [] := w
  unfold f_Offsets_isRecent at hF
  refine lv_iload_n hx hb d_Offsets_isRecent_0 rfl (lv_at hl 1 rfl) ?_
  refine lv_aload_n hx hb d_Offsets_isRecent_1 rfl (lv_at hl 0 rfl) ?_
  refine kx_get S F w kc_Offsets 0 rfl 3 (by decide) kw_48 rfl d_Offsets_isRecent_2 ?_
  refine lv_aload_n hx hb d_Offsets_isRecent_5 rfl (lv_at hl 0 rfl) ?_
  refine kx_get S F w kc_Offsets 0 rfl 4 (by decide) kw_49 rfl d_Offsets_isRecent_6 ?_
  obtain ⟨q9, hq9, hF⟩ := kx_bd hF
  refine kx_ci (cx := [(a_re, .inl (G.2 0, 32, .inl u.2.2.1))]) (wr := [(h, .inr (6, [.int d, .ref sa, .int u.1, .ref a_re, .int u.2.2.2.1, .int u.2.2.2.2.1, .ref a_sc_, .int u.2.2.2.2.2.2.1, .int u.2.2.2.2.2.2.2.1, .int u.2.2.2.2.2.2.2.2.1, .int u.2.2.2.2.2.2.2.2.2])), (sa, .inl (G.2 0, 4, .inl u.2.1)), (a_sc_, .inl (G.2 0, 12, .inl u.2.2.2.2.2.1))]) F w [2] [0, 1, 3] rfl rfl rfl (by decide) (va_runSN (As := [.int p0, .ref a_re, .int u.2.2.2.1]) (rest := []) S (c_Main_indexOf l G a_re 32 u.2.2.1 p0 u.2.2.2.1 q9 hq9 _) (kx_cwSN S F ms_Main_indexOf kw_50 ⟨rfl, rfl, Nat.le_of_ble_eq_true rfl, Nat.le_of_ble_eq_true rfl⟩) ⟨kx_blind _ _ _ _, kx_pre F w [2] rfl rfl⟩ rfl rfl hl.1 rfl (lv_room (Nat.le_of_ble_eq_true rfl)) d_Offsets_isRecent_9 ⟨Nat.le_of_ble_eq_true rfl, Nat.le_of_ble_eq_true rfl⟩) (fun r9 w9 H locs hp w => ?_)
  subst hp
  have w : kx_W G A s ([(h, .inr (6, [.int d, .ref sa, .int u.1, .ref a_re, .int u.2.2.2.1, .int u.2.2.2.2.1, .ref a_sc_, .int u.2.2.2.2.2.2.1, .int u.2.2.2.2.2.2.2.1, .int u.2.2.2.2.2.2.2.2.1, .int u.2.2.2.2.2.2.2.2.2])), (sa, .inl (G.2 0, 4, .inl u.2.1)), (a_sc_, .inl (G.2 0, 12, .inl u.2.2.2.2.2.1)), (a_re, .inl (G.2 0, 32, .inl u.2.2.1))] ++ []) H locs := w
  refine lv_iconst (v := (-1 : Int32)) hx hb d_Offsets_isRecent_12 (by decide) ?_
  refine lv_icmp_eq (tgt := 20) hx hb d_Offsets_isRecent_13 (by decide) (fun c13 => ?_) (fun c13 => ?_)
  · have hF := kx_t c13 hF
    refine lv_iconst (v := (0 : Int32)) hx hb d_Offsets_isRecent_20 (by decide) ?_
    obtain rfl := Option.some.inj hF
    exact kx_zret hQ S hr hlocks (by decide) w (xo := [(h, .inr (6, [.int d, .ref sa, .int u.1, .ref a_re, .int u.2.2.2.1, .int u.2.2.2.2.1, .ref a_sc_, .int u.2.2.2.2.2.2.1, .int u.2.2.2.2.2.2.2.1, .int u.2.2.2.2.2.2.2.2.1, .int u.2.2.2.2.2.2.2.2.2])), (sa, .inl (G.2 0, 4, .inl u.2.1)), (a_re, .inl (G.2 0, 32, .inl u.2.2.1)), (a_sc_, .inl (G.2 0, 12, .inl u.2.2.2.2.2.1))]) [0, 1, 3, 2] rfl rfl () rfl rfl d_Offsets_isRecent_21
  · have hF := kx_f c13 hF
    refine lv_iconst (v := (1 : Int32)) hx hb d_Offsets_isRecent_16 (by decide) ?_
    refine lv_goto (tgt := 21) hx hb d_Offsets_isRecent_17 (by decide) ?_
    obtain rfl := Option.some.inj hF
    exact kx_zret hQ S hr hlocks (by decide) w (xo := [(h, .inr (6, [.int d, .ref sa, .int u.1, .ref a_re, .int u.2.2.2.1, .int u.2.2.2.2.1, .ref a_sc_, .int u.2.2.2.2.2.2.1, .int u.2.2.2.2.2.2.2.1, .int u.2.2.2.2.2.2.2.2.1, .int u.2.2.2.2.2.2.2.2.2])), (sa, .inl (G.2 0, 4, .inl u.2.1)), (a_re, .inl (G.2 0, 32, .inl u.2.2.1)), (a_sc_, .inl (G.2 0, 12, .inl u.2.2.2.2.2.1))]) [0, 1, 3, 2] rfl rfl () rfl rfl d_Offsets_isRecent_21
/-! Offsets_endRound -/
def lp_Offsets_endRound_58 (d : Int32) (k4 : Int32 → Int32 → sg_offsets → Option (sg_offsets)) : Nat → Int32 → Int32 → sg_offsets → Option (sg_offsets)
  | 0, _, _, _ => none
  | n58 + 1, x2, x1, u58 => (if (12 : Int32) ≤ x2 then some (u58.1, u58.2.1, u58.2.2.1, u58.2.2.2.1, u58.2.2.2.2.1, u58.2.2.2.2.2.1, (0 : Int32), (0 : Int32), u58.2.2.2.2.2.2.2.2.1, u58.2.2.2.2.2.2.2.2.2 + (1 : Int32)) else (if (x2 < 0 ∨ 12 ≤ x2.toNatClampNeg) then none else lp_Offsets_endRound_58 d k4 n58 (x2 + 1) x1 (u58.1, u58.2.1, u58.2.2.1, u58.2.2.2.1, u58.2.2.2.2.1, upd u58.2.2.2.2.2.1 x2.toNatClampNeg (0 : Int32), u58.2.2.2.2.2.2)))
def lp_Offsets_endRound_58 (d : Int32) (k4 : Int32 → Int32 → sg_offsets → Option (sg_offsets)) : Nat → Int32 → Int32 → sg_offsets → Option (sg_offsets)
  | 0, _, _, _ => none
  | n58 + 1, x2, x1, u58 => (if (12 : Int32) ≤ x2 then some (u58.1, u58.2.1, u58.2.2.1, u58.2.2.2.1, u58.2.2.2.2.1, u58.2.2.2.2.2.1, (0 : Int32), (0 : Int32), u58.2.2.2.2.2.2.2.2.1, u58.2.2.2.2.2.2.2.2.2 + (1 : Int32)) else (if (x2 < 0 ∨ 12 ≤ x2.toNatClampNeg) then none else lp_Offsets_endRound_58 d k4 n58 (x2 + 1) x1 (u58.1, u58.2.1, u58.2.2.1, u58.2.2.2.1, u58.2.2.2.2.1, upd u58.2.2.2.2.2.1 x2.toNatClampNeg (0 : Int32), u58.2.2.2.2.2.2)))
def lp_Offsets_endRound_4 (d : Int32) : Nat → Int32 → Int32 → sg_offsets → Option (sg_offsets)
  | 0, _, _, _ => none
  | n4 + 1, x2, x1, u4 => (if (12 : Int32) ≤ x2 then (if (x1 < 0 ∨ 12 ≤ x1.toNatClampNeg) then none else (if (u4.2.2.2.2.2.1 x1.toNatClampNeg) < (4 : Int32) then lp_Offsets_endRound_58 d (lp_Offsets_endRound_4 d n4) 1000 (0 : Int32) x1 (u4.1, u4.2.1, u4.2.2.1, u4.2.2.2.1, u4.2.2.2.2.1, u4.2.2.2.2.2.1, u4.2.2.2.2.2.2.1, u4.2.2.2.2.2.2.2.1, (0 : Int32), u4.2.2.2.2.2.2.2.2.2) else (if (x1 < 0 ∨ 12 ≤ x1.toNatClampNeg) then none else lp_Offsets_endRound_58 d (lp_Offsets_endRound_4 d n4) 1000 (0 : Int32) x1 (u4.1, u4.2.1, u4.2.2.1, u4.2.2.2.1, u4.2.2.2.2.1, u4.2.2.2.2.2.1, u4.2.2.2.2.2.2.1, u4.2.2.2.2.2.2.2.1, kx_cand x1.toNatClampNeg, u4.2.2.2.2.2.2.2.2.2)))) else (if (x2 < 0 ∨ 12 ≤ x2.toNatClampNeg) then none else (if (x1 < 0 ∨ 12 ≤ x1.toNatClampNeg) then none else (if (u4.2.2.2.2.2.1 x2.toNatClampNeg) ≤ (u4.2.2.2.2.2.1 x1.toNatClampNeg) then lp_Offsets_endRound_4 d n4 (x2 + 1) x1 u4 else lp_Offsets_endRound_4 d n4 (x2 + 1) x2 u4))))
def f_Offsets_endRound (d : Int32) (u : sg_offsets) : Option (sg_offsets) := lp_Offsets_endRound_4 d 1000 (1 : Int32) (0 : Int32) u
def rm_Offsets_endRound : Room := { frames := 0, cells := 0, slots := 0, locals := 0 }
set_option maxRecDepth 100000 in
set_option maxHeartbeats 4000000 in
theorem c_Offsets_endRound (l : Launch) (G : kx_G) (h : Nat) (sa : Nat) (d : Int32) (a_re : Nat) (a_sc_ : Nat) (u : sg_offsets) (v : sg_offsets) (hF : f_Offsets_endRound d u = some v) : CtV l y_Offsets_endRound b_Offsets_endRound 3 rm_Offsets_endRound G [.ref h] [(h, .inr (6, [.int d, .ref sa, .int u.1, .ref a_re, .int u.2.2.2.1, .int u.2.2.2.2.1, .ref a_sc_, .int u.2.2.2.2.2.2.1, .int u.2.2.2.2.2.2.2.1, .int u.2.2.2.2.2.2.2.2.1, .int u.2.2.2.2.2.2.2.2.2])), (sa, .inl (G.2 0, 4, .inl u.2.1)), (a_re, .inl (G.2 0, 32, .inl u.2.2.1)), (a_sc_, .inl (G.2 0, 12, .inl u.2.2.2.2.2.1))] (fun w : sg_offsets => v = w) (fun w => [(h, .inr (6, [.int d, .ref sa, .int w.1, .ref a_re, .int w.2.2.2.1, .int w.2.2.2.2.1, .ref a_sc_, .int w.2.2.2.2.2.2.1, .int w.2.2.2.2.2.2.2.1, .int w.2.2.2.2.2.2.2.2.1, .int w.2.2.2.2.2.2.2.2.2])), (sa, .inl (G.2 0, 4, .inl w.2.1)), (a_re, .inl (G.2 0, 32, .inl w.2.2.1)), (a_sc_, .inl (G.2 0, 12, .inl w.2.2.2.2.2.1))]) 0 0 := by
  refine CtV.of (by decide) (Nat.le_of_ble_eq_true rfl) [(0, .ref h)] rfl ?_
  intro p e s m args below meth c A ls Q hQ S hr hlocks hin F w hl
  have S : CallFix p m c b_Offsets_endRound 3 s args kx_T "PrefetchRules$Offsets" := S
  obtain ⟨hx, hb, hml, hown, hts⟩ := id S
  have w : kx_W G A s ([(h, .inr (6, [.int d, .ref sa, .int u.1, .ref a_re, .int u.2.2.2.1, .int u.2.2.2.2.1, .ref a_sc_, .int u.2.2.2.2.2.2.1, .int u.2.2.2.2.2.2.2.1, .int u.2.2.2.2.2.2.2.2.1, .int u.2.2.2.2.2.2.2.2.2])), (sa, .inl (G.2 0, 4, .inl u.2.1)), (a_re, .inl (G.2 0, 32, .inl u.2.2.1)), (a_sc_, .inl (G.2 0, 12, .inl u.2.2.2.2.2.1))] ++ []) s.heap [] := w
  unfold f_Offsets_endRound at hF
  refine lv_iconst (v := (0 : Int32)) hx hb d_Offsets_endRound_0 (by decide) ?_
  refine lv_istore_n (lv' := [(1, .int (0 : Int32)), (0, .ref h)]) hx hb d_Offsets_endRound_1 rfl hl (by decide) rfl (fun ls hl => ?_)
  refine lv_iconst (v := (1 : Int32)) hx hb d_Offsets_endRound_2 (by decide) ?_
  refine lv_istore_n (lv' := [(2, .int (1 : Int32)), (1, .int (0 : Int32)), (0, .ref h)]) hx hb d_Offsets_endRound_3 rfl hl (by decide) rfl (fun ls hl => ?_)
  have L4 : ∀ (n4 : Nat) (x2 : Int32) (x1 : Int32) (u4 : sg_offsets), lp_Offsets_endRound_4 d n4 x2 x1 u4 = some v → ∀ (H : Heap) (locs : List Loc) (ls : Array Slot), kx_W G A s ([(h, .inr (6, [.int d, .ref sa, .int u4.1, .ref a_re, .int u4.2.2.2.1, .int u4.2.2.2.2.1, .ref a_sc_, .int u4.2.2.2.2.2.2.1, .int u4.2.2.2.2.2.2.2.1, .int u4.2.2.2.2.2.2.2.2.1, .int u4.2.2.2.2.2.2.2.2.2])), (sa, .inl (G.2 0, 4, .inl u4.2.1)), (a_re, .inl (G.2 0, 32, .inl u4.2.2.1)), (a_sc_, .inl (G.2 0, 12, .inl u4.2.2.2.2.2.1))] ++ []) H locs → lv_has ls 3 [(2, .int x2), (1, .int x1), (0, .ref h)] → W p l e rm_Offsets_endRound s m args below meth c H locs 0 0 Q (F0 m 4 ls []) := by
    intro n4
    induction n4 with
    | zero =>
      intro x2 x1 u4 hF
      rw [lp_Offsets_endRound_4] at hF
      cases hF
    | succ n4 ih4 =>
      intro x2 x1 u4 hF H locs ls w hl
      rw [lp_Offsets_endRound_4] at hF
      refine lv_iload_n hx hb d_Offsets_endRound_4 rfl (lv_at hl 0 rfl) ?_
      refine lv_bipush (v := (12 : Int32)) hx hb d_Offsets_endRound_5 (by decide) ?_
      refine lv_icmp_ge (tgt := 33) hx hb d_Offsets_endRound_7 (by decide) (fun c7 => ?_) (fun c7 => ?_)
      · have hF := kx_t c7 hF
        refine lv_aload_n hx hb d_Offsets_endRound_33 rfl (lv_at hl 2 rfl) ?_
        refine lv_aload_n hx hb d_Offsets_endRound_34 rfl (lv_at hl 2 rfl) ?_
        refine kx_get S F w kc_Offsets 0 rfl 6 (by decide) kw_51 rfl d_Offsets_endRound_35 ?_
        refine lv_iload_n hx hb d_Offsets_endRound_38 rfl (lv_at hl 1 rfl) ?_
        obtain ⟨hi39, hF⟩ := kx_ar hF
        refine kx_iald S F w 3 rfl hi39 d_Offsets_endRound_39 ?_
        refine lv_iconst (v := (4 : Int32)) hx hb d_Offsets_endRound_40 (by decide) ?_
        refine lv_icmp_lt (tgt := 52) hx hb d_Offsets_endRound_41 (by decide) (fun c41 => ?_) (fun c41 => ?_)
        · have hF := kx_t c41 hF
          refine lv_iconst (v := (0 : Int32)) hx hb d_Offsets_endRound_52 (by decide) ?_
          refine kx_put S F w kc_Offsets 0 rfl 9 (by decide) kw_52 rfl rfl rfl (Nat.le_of_ble_eq_true rfl) d_Offsets_endRound_53 (fun H locs w => ?_)
          have w : kx_W G A s ([(h, .inr (6, [.int d, .ref sa, .int u4.1, .ref a_re, .int u4.2.2.2.1, .int u4.2.2.2.2.1, .ref a_sc_, .int u4.2.2.2.2.2.2.1, .int u4.2.2.2.2.2.2.2.1, .int (0 : Int32), .int u4.2.2.2.2.2.2.2.2.2])), (sa, .inl (G.2 0, 4, .inl u4.2.1)), (a_re, .inl (G.2 0, 32, .inl u4.2.2.1)), (a_sc_, .inl (G.2 0, 12, .inl u4.2.2.2.2.2.1))] ++ []) H locs := w
          refine lv_iconst (v := (0 : Int32)) hx hb d_Offsets_endRound_56 (by decide) ?_
          refine lv_istore_n (lv' := [(2, .int (0 : Int32)), (1, .int x1), (0, .ref h)]) hx hb d_Offsets_endRound_57 rfl hl (by decide) rfl (fun ls hl => ?_)
          have L58 : ∀ (n58 : Nat) (x2 : Int32) (x1 : Int32) (u58 : sg_offsets), lp_Offsets_endRound_58 d (lp_Offsets_endRound_4 d n4) n58 x2 x1 u58 = some v → ∀ (H : Heap) (locs : List Loc) (ls : Array Slot), kx_W G A s ([(h, .inr (6, [.int d, .ref sa, .int u58.1, .ref a_re, .int u58.2.2.2.1, .int u58.2.2.2.2.1, .ref a_sc_, .int u58.2.2.2.2.2.2.1, .int u58.2.2.2.2.2.2.2.1, .int u58.2.2.2.2.2.2.2.2.1, .int u58.2.2.2.2.2.2.2.2.2])), (sa, .inl (G.2 0, 4, .inl u58.2.1)), (a_re, .inl (G.2 0, 32, .inl u58.2.2.1)), (a_sc_, .inl (G.2 0, 12, .inl u58.2.2.2.2.2.1))] ++ []) H locs → lv_has ls 3 [(2, .int x2), (1, .int x1), (0, .ref h)] → W p l e rm_Offsets_endRound s m args below meth c H locs 0 0 Q (F0 m 58 ls []) := by
            intro n58
            induction n58 with
            | zero =>
              intro x2 x1 u58 hF
              rw [lp_Offsets_endRound_58] at hF
              cases hF
            | succ n58 ih58 =>
              intro x2 x1 u58 hF H locs ls w hl
              rw [lp_Offsets_endRound_58] at hF
              refine lv_iload_n hx hb d_Offsets_endRound_58 rfl (lv_at hl 0 rfl) ?_
              refine lv_bipush (v := (12 : Int32)) hx hb d_Offsets_endRound_59 (by decide) ?_
              refine lv_icmp_ge (tgt := 77) hx hb d_Offsets_endRound_61 (by decide) (fun c61 => ?_) (fun c61 => ?_)
              · have hF := kx_t c61 hF
                refine lv_aload_n hx hb d_Offsets_endRound_77 rfl (lv_at hl 2 rfl) ?_
                refine lv_iconst (v := (0 : Int32)) hx hb d_Offsets_endRound_78 (by decide) ?_
                refine kx_put S F w kc_Offsets 0 rfl 7 (by decide) kw_53 rfl rfl rfl (Nat.le_of_ble_eq_true rfl) d_Offsets_endRound_79 (fun H locs w => ?_)
                have w : kx_W G A s ([(h, .inr (6, [.int d, .ref sa, .int u58.1, .ref a_re, .int u58.2.2.2.1, .int u58.2.2.2.2.1, .ref a_sc_, .int (0 : Int32), .int u58.2.2.2.2.2.2.2.1, .int u58.2.2.2.2.2.2.2.2.1, .int u58.2.2.2.2.2.2.2.2.2])), (sa, .inl (G.2 0, 4, .inl u58.2.1)), (a_re, .inl (G.2 0, 32, .inl u58.2.2.1)), (a_sc_, .inl (G.2 0, 12, .inl u58.2.2.2.2.2.1))] ++ []) H locs := w
                refine lv_aload_n hx hb d_Offsets_endRound_82 rfl (lv_at hl 2 rfl) ?_
                refine lv_iconst (v := (0 : Int32)) hx hb d_Offsets_endRound_83 (by decide) ?_
                refine kx_put S F w kc_Offsets 0 rfl 8 (by decide) kw_54 rfl rfl rfl (Nat.le_of_ble_eq_true rfl) d_Offsets_endRound_84 (fun H locs w => ?_)
                have w : kx_W G A s ([(h, .inr (6, [.int d, .ref sa, .int u58.1, .ref a_re, .int u58.2.2.2.1, .int u58.2.2.2.2.1, .ref a_sc_, .int (0 : Int32), .int (0 : Int32), .int u58.2.2.2.2.2.2.2.2.1, .int u58.2.2.2.2.2.2.2.2.2])), (sa, .inl (G.2 0, 4, .inl u58.2.1)), (a_re, .inl (G.2 0, 32, .inl u58.2.2.1)), (a_sc_, .inl (G.2 0, 12, .inl u58.2.2.2.2.2.1))] ++ []) H locs := w
                refine lv_aload_n hx hb d_Offsets_endRound_87 rfl (lv_at hl 2 rfl) ?_
                refine lv_dup hx hb d_Offsets_endRound_88 rfl ?_
                refine kx_get S F w kc_Offsets 0 rfl 10 (by decide) kw_55 rfl d_Offsets_endRound_89 ?_
                refine lv_iconst (v := (1 : Int32)) hx hb d_Offsets_endRound_92 (by decide) ?_
                refine lv_iadd hx hb d_Offsets_endRound_93 ?_
                refine kx_put S F w kc_Offsets 0 rfl 10 (by decide) kw_55 rfl rfl rfl (Nat.le_of_ble_eq_true rfl) d_Offsets_endRound_94 (fun H locs w => ?_)
                have w : kx_W G A s ([(h, .inr (6, [.int d, .ref sa, .int u58.1, .ref a_re, .int u58.2.2.2.1, .int u58.2.2.2.2.1, .ref a_sc_, .int (0 : Int32), .int (0 : Int32), .int u58.2.2.2.2.2.2.2.2.1, .int (u58.2.2.2.2.2.2.2.2.2 + (1 : Int32))])), (sa, .inl (G.2 0, 4, .inl u58.2.1)), (a_re, .inl (G.2 0, 32, .inl u58.2.2.1)), (a_sc_, .inl (G.2 0, 12, .inl u58.2.2.2.2.2.1))] ++ []) H locs := w
                obtain rfl := Option.some.inj hF
                exact kx_vret hQ S hr hlocks w (xo := [(h, .inr (6, [.int d, .ref sa, .int u58.1, .ref a_re, .int u58.2.2.2.1, .int u58.2.2.2.2.1, .ref a_sc_, .int (0 : Int32), .int (0 : Int32), .int u58.2.2.2.2.2.2.2.2.1, .int (u58.2.2.2.2.2.2.2.2.2 + (1 : Int32))])), (sa, .inl (G.2 0, 4, .inl u58.2.1)), (a_re, .inl (G.2 0, 32, .inl u58.2.2.1)), (a_sc_, .inl (G.2 0, 12, .inl u58.2.2.2.2.2.1))]) [0, 1, 2, 3] rfl rfl (u58.1, u58.2.1, u58.2.2.1, u58.2.2.2.1, u58.2.2.2.2.1, u58.2.2.2.2.2.1, (0 : Int32), (0 : Int32), u58.2.2.2.2.2.2.2.2.1, u58.2.2.2.2.2.2.2.2.2 + (1 : Int32)) rfl rfl d_Offsets_endRound_97
              · have hF := kx_f c61 hF
                refine lv_aload_n hx hb d_Offsets_endRound_64 rfl (lv_at hl 2 rfl) ?_
                refine kx_get S F w kc_Offsets 0 rfl 6 (by decide) kw_51 rfl d_Offsets_endRound_65 ?_
                refine lv_iload_n hx hb d_Offsets_endRound_68 rfl (lv_at hl 0 rfl) ?_
                refine lv_iconst (v := (0 : Int32)) hx hb d_Offsets_endRound_69 (by decide) ?_
                obtain ⟨hi70, hF⟩ := kx_ar hF
                refine kx_iast S F w 3 rfl hi70 d_Offsets_endRound_70 (fun H locs w => ?_)
                have w : kx_W G A s ([(h, .inr (6, [.int d, .ref sa, .int u58.1, .ref a_re, .int u58.2.2.2.1, .int u58.2.2.2.2.1, .ref a_sc_, .int u58.2.2.2.2.2.2.1, .int u58.2.2.2.2.2.2.2.1, .int u58.2.2.2.2.2.2.2.2.1, .int u58.2.2.2.2.2.2.2.2.2])), (sa, .inl (G.2 0, 4, .inl u58.2.1)), (a_re, .inl (G.2 0, 32, .inl u58.2.2.1)), (a_sc_, .inl (G.2 0, 12, .inl (upd u58.2.2.2.2.2.1 x2.toNatClampNeg (0 : Int32))))] ++ []) H locs := w
                refine lv_iinc (v := x2 + 1) (lv' := [(2, .int (x2 + 1)), (1, .int x1), (0, .ref h)]) hx hb d_Offsets_endRound_71 hl (k := 0) rfl (by rfl) (by decide) rfl (fun ls hl => ?_)
                refine lv_goto (tgt := 58) hx hb d_Offsets_endRound_74 (by decide) ?_
                exact ih58 (x2 + 1) x1 (u58.1, u58.2.1, u58.2.2.1, u58.2.2.2.1, u58.2.2.2.2.1, upd u58.2.2.2.2.2.1 x2.toNatClampNeg (0 : Int32), u58.2.2.2.2.2.2) hF H locs ls (w.perm [0, 1, 2, 3] rfl rfl) (lv_sub hl [0, 1, 2] rfl)
          exact L58 1000 (0 : Int32) x1 (u4.1, u4.2.1, u4.2.2.1, u4.2.2.2.1, u4.2.2.2.2.1, u4.2.2.2.2.2.1, u4.2.2.2.2.2.2.1, u4.2.2.2.2.2.2.2.1, (0 : Int32), u4.2.2.2.2.2.2.2.2.2) hF H locs ls w hl
        · have hF := kx_f c41 hF
          refine va_gets hx hb (kx_Zz F.1.2.2) w.2.2 hown (hts _ kw_56) (fun _ h => h) d_Offsets_endRound_44 ?_
          refine lv_iload_n hx hb d_Offsets_endRound_47 rfl (lv_at hl 1 rfl) ?_
          obtain ⟨hi48, hF⟩ := kx_ar hF
          refine va_ti hx hb (kx_Zt F.1.2.2) w.2.2 hi48 rfl d_Offsets_endRound_48 ?_
          refine lv_goto (tgt := 53) hx hb d_Offsets_endRound_49 (by decide) ?_
          refine kx_put S F w kc_Offsets 0 rfl 9 (by decide) kw_52 rfl rfl rfl (Nat.le_of_ble_eq_true rfl) d_Offsets_endRound_53 (fun H locs w => ?_)
          have w : kx_W G A s ([(h, .inr (6, [.int d, .ref sa, .int u4.1, .ref a_re, .int u4.2.2.2.1, .int u4.2.2.2.2.1, .ref a_sc_, .int u4.2.2.2.2.2.2.1, .int u4.2.2.2.2.2.2.2.1, .int (kx_cand x1.toNatClampNeg), .int u4.2.2.2.2.2.2.2.2.2])), (sa, .inl (G.2 0, 4, .inl u4.2.1)), (a_re, .inl (G.2 0, 32, .inl u4.2.2.1)), (a_sc_, .inl (G.2 0, 12, .inl u4.2.2.2.2.2.1))] ++ []) H locs := w
          refine lv_iconst (v := (0 : Int32)) hx hb d_Offsets_endRound_56 (by decide) ?_
          refine lv_istore_n (lv' := [(2, .int (0 : Int32)), (1, .int x1), (0, .ref h)]) hx hb d_Offsets_endRound_57 rfl hl (by decide) rfl (fun ls hl => ?_)
          have L58 : ∀ (n58 : Nat) (x2 : Int32) (x1 : Int32) (u58 : sg_offsets), lp_Offsets_endRound_58 d (lp_Offsets_endRound_4 d n4) n58 x2 x1 u58 = some v → ∀ (H : Heap) (locs : List Loc) (ls : Array Slot), kx_W G A s ([(h, .inr (6, [.int d, .ref sa, .int u58.1, .ref a_re, .int u58.2.2.2.1, .int u58.2.2.2.2.1, .ref a_sc_, .int u58.2.2.2.2.2.2.1, .int u58.2.2.2.2.2.2.2.1, .int u58.2.2.2.2.2.2.2.2.1, .int u58.2.2.2.2.2.2.2.2.2])), (sa, .inl (G.2 0, 4, .inl u58.2.1)), (a_re, .inl (G.2 0, 32, .inl u58.2.2.1)), (a_sc_, .inl (G.2 0, 12, .inl u58.2.2.2.2.2.1))] ++ []) H locs → lv_has ls 3 [(2, .int x2), (1, .int x1), (0, .ref h)] → W p l e rm_Offsets_endRound s m args below meth c H locs 0 0 Q (F0 m 58 ls []) := by
            intro n58
            induction n58 with
            | zero =>
              intro x2 x1 u58 hF
              rw [lp_Offsets_endRound_58] at hF
              cases hF
            | succ n58 ih58 =>
              intro x2 x1 u58 hF H locs ls w hl
              rw [lp_Offsets_endRound_58] at hF
              refine lv_iload_n hx hb d_Offsets_endRound_58 rfl (lv_at hl 0 rfl) ?_
              refine lv_bipush (v := (12 : Int32)) hx hb d_Offsets_endRound_59 (by decide) ?_
              refine lv_icmp_ge (tgt := 77) hx hb d_Offsets_endRound_61 (by decide) (fun c61 => ?_) (fun c61 => ?_)
              · have hF := kx_t c61 hF
                refine lv_aload_n hx hb d_Offsets_endRound_77 rfl (lv_at hl 2 rfl) ?_
                refine lv_iconst (v := (0 : Int32)) hx hb d_Offsets_endRound_78 (by decide) ?_
                refine kx_put S F w kc_Offsets 0 rfl 7 (by decide) kw_53 rfl rfl rfl (Nat.le_of_ble_eq_true rfl) d_Offsets_endRound_79 (fun H locs w => ?_)
                have w : kx_W G A s ([(h, .inr (6, [.int d, .ref sa, .int u58.1, .ref a_re, .int u58.2.2.2.1, .int u58.2.2.2.2.1, .ref a_sc_, .int (0 : Int32), .int u58.2.2.2.2.2.2.2.1, .int u58.2.2.2.2.2.2.2.2.1, .int u58.2.2.2.2.2.2.2.2.2])), (sa, .inl (G.2 0, 4, .inl u58.2.1)), (a_re, .inl (G.2 0, 32, .inl u58.2.2.1)), (a_sc_, .inl (G.2 0, 12, .inl u58.2.2.2.2.2.1))] ++ []) H locs := w
                refine lv_aload_n hx hb d_Offsets_endRound_82 rfl (lv_at hl 2 rfl) ?_
                refine lv_iconst (v := (0 : Int32)) hx hb d_Offsets_endRound_83 (by decide) ?_
                refine kx_put S F w kc_Offsets 0 rfl 8 (by decide) kw_54 rfl rfl rfl (Nat.le_of_ble_eq_true rfl) d_Offsets_endRound_84 (fun H locs w => ?_)
                have w : kx_W G A s ([(h, .inr (6, [.int d, .ref sa, .int u58.1, .ref a_re, .int u58.2.2.2.1, .int u58.2.2.2.2.1, .ref a_sc_, .int (0 : Int32), .int (0 : Int32), .int u58.2.2.2.2.2.2.2.2.1, .int u58.2.2.2.2.2.2.2.2.2])), (sa, .inl (G.2 0, 4, .inl u58.2.1)), (a_re, .inl (G.2 0, 32, .inl u58.2.2.1)), (a_sc_, .inl (G.2 0, 12, .inl u58.2.2.2.2.2.1))] ++ []) H locs := w
                refine lv_aload_n hx hb d_Offsets_endRound_87 rfl (lv_at hl 2 rfl) ?_
                refine lv_dup hx hb d_Offsets_endRound_88 rfl ?_
                refine kx_get S F w kc_Offsets 0 rfl 10 (by decide) kw_55 rfl d_Offsets_endRound_89 ?_
                refine lv_iconst (v := (1 : Int32)) hx hb d_Offsets_endRound_92 (by decide) ?_
                refine lv_iadd hx hb d_Offsets_endRound_93 ?_
                refine kx_put S F w kc_Offsets 0 rfl 10 (by decide) kw_55 rfl rfl rfl (Nat.le_of_ble_eq_true rfl) d_Offsets_endRound_94 (fun H locs w => ?_)
                have w : kx_W G A s ([(h, .inr (6, [.int d, .ref sa, .int u58.1, .ref a_re, .int u58.2.2.2.1, .int u58.2.2.2.2.1, .ref a_sc_, .int (0 : Int32), .int (0 : Int32), .int u58.2.2.2.2.2.2.2.2.1, .int (u58.2.2.2.2.2.2.2.2.2 + (1 : Int32))])), (sa, .inl (G.2 0, 4, .inl u58.2.1)), (a_re, .inl (G.2 0, 32, .inl u58.2.2.1)), (a_sc_, .inl (G.2 0, 12, .inl u58.2.2.2.2.2.1))] ++ []) H locs := w
                obtain rfl := Option.some.inj hF
                exact kx_vret hQ S hr hlocks w (xo := [(h, .inr (6, [.int d, .ref sa, .int u58.1, .ref a_re, .int u58.2.2.2.1, .int u58.2.2.2.2.1, .ref a_sc_, .int (0 : Int32), .int (0 : Int32), .int u58.2.2.2.2.2.2.2.2.1, .int (u58.2.2.2.2.2.2.2.2.2 + (1 : Int32))])), (sa, .inl (G.2 0, 4, .inl u58.2.1)), (a_re, .inl (G.2 0, 32, .inl u58.2.2.1)), (a_sc_, .inl (G.2 0, 12, .inl u58.2.2.2.2.2.1))]) [0, 1, 2, 3] rfl rfl (u58.1, u58.2.1, u58.2.2.1, u58.2.2.2.1, u58.2.2.2.2.1, u58.2.2.2.2.2.1, (0 : Int32), (0 : Int32), u58.2.2.2.2.2.2.2.2.1, u58.2.2.2.2.2.2.2.2.2 + (1 : Int32)) rfl rfl d_Offsets_endRound_97
              · have hF := kx_f c61 hF
                refine lv_aload_n hx hb d_Offsets_endRound_64 rfl (lv_at hl 2 rfl) ?_
                refine kx_get S F w kc_Offsets 0 rfl 6 (by decide) kw_51 rfl d_Offsets_endRound_65 ?_
                refine lv_iload_n hx hb d_Offsets_endRound_68 rfl (lv_at hl 0 rfl) ?_
                refine lv_iconst (v := (0 : Int32)) hx hb d_Offsets_endRound_69 (by decide) ?_
                obtain ⟨hi70, hF⟩ := kx_ar hF
                refine kx_iast S F w 3 rfl hi70 d_Offsets_endRound_70 (fun H locs w => ?_)
                have w : kx_W G A s ([(h, .inr (6, [.int d, .ref sa, .int u58.1, .ref a_re, .int u58.2.2.2.1, .int u58.2.2.2.2.1, .ref a_sc_, .int u58.2.2.2.2.2.2.1, .int u58.2.2.2.2.2.2.2.1, .int u58.2.2.2.2.2.2.2.2.1, .int u58.2.2.2.2.2.2.2.2.2])), (sa, .inl (G.2 0, 4, .inl u58.2.1)), (a_re, .inl (G.2 0, 32, .inl u58.2.2.1)), (a_sc_, .inl (G.2 0, 12, .inl (upd u58.2.2.2.2.2.1 x2.toNatClampNeg (0 : Int32))))] ++ []) H locs := w
                refine lv_iinc (v := x2 + 1) (lv' := [(2, .int (x2 + 1)), (1, .int x1), (0, .ref h)]) hx hb d_Offsets_endRound_71 hl (k := 0) rfl (by rfl) (by decide) rfl (fun ls hl => ?_)
                refine lv_goto (tgt := 58) hx hb d_Offsets_endRound_74 (by decide) ?_
                exact ih58 (x2 + 1) x1 (u58.1, u58.2.1, u58.2.2.1, u58.2.2.2.1, u58.2.2.2.2.1, upd u58.2.2.2.2.2.1 x2.toNatClampNeg (0 : Int32), u58.2.2.2.2.2.2) hF H locs ls (w.perm [0, 1, 2, 3] rfl rfl) (lv_sub hl [0, 1, 2] rfl)
          exact L58 1000 (0 : Int32) x1 (u4.1, u4.2.1, u4.2.2.1, u4.2.2.2.1, u4.2.2.2.2.1, u4.2.2.2.2.2.1, u4.2.2.2.2.2.2.1, u4.2.2.2.2.2.2.2.1, kx_cand x1.toNatClampNeg, u4.2.2.2.2.2.2.2.2.2) hF H locs ls w hl
      · have hF := kx_f c7 hF
        refine lv_aload_n hx hb d_Offsets_endRound_10 rfl (lv_at hl 2 rfl) ?_
        refine kx_get S F w kc_Offsets 0 rfl 6 (by decide) kw_51 rfl d_Offsets_endRound_11 ?_
        refine lv_iload_n hx hb d_Offsets_endRound_14 rfl (lv_at hl 0 rfl) ?_
        obtain ⟨hi15, hF⟩ := kx_ar hF
        refine kx_iald S F w 3 rfl hi15 d_Offsets_endRound_15 ?_
        refine lv_aload_n hx hb d_Offsets_endRound_16 rfl (lv_at hl 2 rfl) ?_
        refine kx_get S F w kc_Offsets 0 rfl 6 (by decide) kw_51 rfl d_Offsets_endRound_17 ?_
        refine lv_iload_n hx hb d_Offsets_endRound_20 rfl (lv_at hl 1 rfl) ?_
        obtain ⟨hi21, hF⟩ := kx_ar hF
        refine kx_iald S F w 3 rfl hi21 d_Offsets_endRound_21 ?_
        refine lv_icmp_le (tgt := 27) hx hb d_Offsets_endRound_22 (by decide) (fun c22 => ?_) (fun c22 => ?_)
        · have hF := kx_t c22 hF
          refine lv_iinc (v := x2 + 1) (lv' := [(2, .int (x2 + 1)), (1, .int x1), (0, .ref h)]) hx hb d_Offsets_endRound_27 hl (k := 0) rfl (by rfl) (by decide) rfl (fun ls hl => ?_)
          refine lv_goto (tgt := 4) hx hb d_Offsets_endRound_30 (by decide) ?_
          exact ih4 (x2 + 1) x1 u4 hF H locs ls (w.perm [0, 1, 2, 3] rfl rfl) (lv_sub hl [0, 1, 2] rfl)
        · have hF := kx_f c22 hF
          refine lv_iload_n hx hb d_Offsets_endRound_25 rfl (lv_at hl 0 rfl) ?_
          refine lv_istore_n (lv' := [(1, .int x2), (2, .int x2), (0, .ref h)]) hx hb d_Offsets_endRound_26 rfl hl (by decide) rfl (fun ls hl => ?_)
          refine lv_iinc (v := x2 + 1) (lv' := [(2, .int (x2 + 1)), (1, .int x2), (0, .ref h)]) hx hb d_Offsets_endRound_27 hl (k := 1) rfl (by rfl) (by decide) rfl (fun ls hl => ?_)
          refine lv_goto (tgt := 4) hx hb d_Offsets_endRound_30 (by decide) ?_
          exact ih4 (x2 + 1) x2 u4 hF H locs ls (w.perm [0, 1, 2, 3] rfl rfl) (lv_sub hl [0, 1, 2] rfl)
  exact L4 1000 (1 : Int32) (0 : Int32) u hF s.heap [] ls w hl
/-! Offsets_tryCandidate -/
def jn_Offsets_tryCandidate_30 (d : Int32) (x1 : Int32) (u30 : sg_offsets) : Option (sg_offsets) := (if (u30.2.2.2.2.2.2.1 < 0 ∨ 12 ≤ u30.2.2.2.2.2.2.1.toNatClampNeg) then none else (if (15 : Int32) ≤ (u30.2.2.2.2.2.1 u30.2.2.2.2.2.2.1.toNatClampNeg) then (f_Offsets_endRound d (u30.1, u30.2.1, u30.2.2.1, u30.2.2.2.1, u30.2.2.2.2.1, u30.2.2.2.2.2.1, u30.2.2.2.2.2.2.1, u30.2.2.2.2.2.2.2.1 + (1 : Int32), u30.2.2.2.2.2.2.2.2)).bind (fun q65 => some q65) else (if (u30.2.2.2.2.2.2.2.1 + (1 : Int32)) < (240 : Int32) then (if (12 : Int32) ≤ (u30.2.2.2.2.2.2.1 + (1 : Int32)) then some (u30.1, u30.2.1, u30.2.2.1, u30.2.2.2.1, u30.2.2.2.2.1, u30.2.2.2.2.2.1, (0 : Int32), u30.2.2.2.2.2.2.2.1 + (1 : Int32), u30.2.2.2.2.2.2.2.2) else some (u30.1, u30.2.1, u30.2.2.1, u30.2.2.2.1, u30.2.2.2.2.1, u30.2.2.2.2.2.1, u30.2.2.2.2.2.2.1 + (1 : Int32), u30.2.2.2.2.2.2.2.1 + (1 : Int32), u30.2.2.2.2.2.2.2.2)) else (f_Offsets_endRound d (u30.1, u30.2.1, u30.2.2.1, u30.2.2.2.1, u30.2.2.2.2.1, u30.2.2.2.2.2.1, u30.2.2.2.2.2.2.1, u30.2.2.2.2.2.2.2.1 + (1 : Int32), u30.2.2.2.2.2.2.2.2)).bind (fun q65 => some q65))))
def f_Offsets_tryCandidate (d : Int32) (u : sg_offsets) (p0 : Int32) : Option (sg_offsets) := (if (u.2.2.2.2.2.2.1 < 0 ∨ 12 ≤ u.2.2.2.2.2.2.1.toNatClampNeg) then none else (f_Offsets_isRecent d u (p0 - (kx_cand u.2.2.2.2.2.2.1.toNatClampNeg))).bind (fun q11 => (if q11 = 0 then jn_Offsets_tryCandidate_30 d p0 u else (if (u.2.2.2.2.2.2.1 < 0 ∨ 12 ≤ u.2.2.2.2.2.2.1.toNatClampNeg) then none else (if (u.2.2.2.2.2.2.1 < 0 ∨ 12 ≤ u.2.2.2.2.2.2.1.toNatClampNeg) then none else jn_Offsets_tryCandidate_30 d p0 (u.1, u.2.1, u.2.2.1, u.2.2.2.1, u.2.2.2.2.1, upd u.2.2.2.2.2.1 u.2.2.2.2.2.2.1.toNatClampNeg ((u.2.2.2.2.2.1 u.2.2.2.2.2.2.1.toNatClampNeg) + (1 : Int32)), u.2.2.2.2.2.2))))))
def rm_Offsets_tryCandidate : Room := { frames := 2, cells := 0, slots := 0, locals := 44 }
set_option maxRecDepth 100000 in
set_option maxHeartbeats 4000000 in
theorem c_Offsets_tryCandidate (l : Launch) (G : kx_G) (h : Nat) (sa : Nat) (d : Int32) (a_re : Nat) (a_sc_ : Nat) (u : sg_offsets) (p0 : Int32) (v : sg_offsets) (hF : f_Offsets_tryCandidate d u p0 = some v) : CtV l y_Offsets_tryCandidate b_Offsets_tryCandidate 2 rm_Offsets_tryCandidate G [.ref h, .int p0] [(h, .inr (6, [.int d, .ref sa, .int u.1, .ref a_re, .int u.2.2.2.1, .int u.2.2.2.2.1, .ref a_sc_, .int u.2.2.2.2.2.2.1, .int u.2.2.2.2.2.2.2.1, .int u.2.2.2.2.2.2.2.2.1, .int u.2.2.2.2.2.2.2.2.2])), (sa, .inl (G.2 0, 4, .inl u.2.1)), (a_re, .inl (G.2 0, 32, .inl u.2.2.1)), (a_sc_, .inl (G.2 0, 12, .inl u.2.2.2.2.2.1))] (fun w : sg_offsets => v = w) (fun w => [(h, .inr (6, [.int d, .ref sa, .int w.1, .ref a_re, .int w.2.2.2.1, .int w.2.2.2.2.1, .ref a_sc_, .int w.2.2.2.2.2.2.1, .int w.2.2.2.2.2.2.2.1, .int w.2.2.2.2.2.2.2.2.1, .int w.2.2.2.2.2.2.2.2.2])), (sa, .inl (G.2 0, 4, .inl w.2.1)), (a_re, .inl (G.2 0, 32, .inl w.2.2.1)), (a_sc_, .inl (G.2 0, 12, .inl w.2.2.2.2.2.1))]) 0 0 := by
  refine CtV.of (by decide) (Nat.le_of_ble_eq_true rfl) [(0, .ref h), (1, .int p0)] rfl ?_
  intro p e s m args below meth c A ls Q hQ S hr hlocks hin F w hl
  have S : CallFix p m c b_Offsets_tryCandidate 2 s args kx_T "PrefetchRules$Offsets" := S
  obtain ⟨hx, hb, hml, hown, hts⟩ := id S
  have w : kx_W G A s ([(h, .inr (6, [.int d, .ref sa, .int u.1, .ref a_re, .int u.2.2.2.1, .int u.2.2.2.2.1, .ref a_sc_, .int u.2.2.2.2.2.2.1, .int u.2.2.2.2.2.2.2.1, .int u.2.2.2.2.2.2.2.2.1, .int u.2.2.2.2.2.2.2.2.2])), (sa, .inl (G.2 0, 4, .inl u.2.1)), (a_re, .inl (G.2 0, 32, .inl u.2.2.1)), (a_sc_, .inl (G.2 0, 12, .inl u.2.2.2.2.2.1))] ++ []) s.heap [] := w
  unfold f_Offsets_tryCandidate at hF
  refine lv_aload_n hx hb d_Offsets_tryCandidate_0 rfl (lv_at hl 0 rfl) ?_
  refine lv_iload_n hx hb d_Offsets_tryCandidate_1 rfl (lv_at hl 1 rfl) ?_
  refine va_gets hx hb (kx_Zz F.1.2.2) w.2.2 hown (hts _ kw_56) (fun _ h => h) d_Offsets_tryCandidate_2 ?_
  refine lv_aload_n hx hb d_Offsets_tryCandidate_5 rfl (lv_at hl 0 rfl) ?_
  refine kx_get S F w kc_Offsets 0 rfl 7 (by decide) kw_53 rfl d_Offsets_tryCandidate_6 ?_
  obtain ⟨hi9, hF⟩ := kx_ar hF
  refine va_ti hx hb (kx_Zt F.1.2.2) w.2.2 hi9 rfl d_Offsets_tryCandidate_9 ?_
  refine lv_isub hx hb d_Offsets_tryCandidate_10 ?_
  obtain ⟨q11, hq11, hF⟩ := kx_bd hF
  refine kx_ci (cx := [(h, .inr (6, [.int d, .ref sa, .int u.1, .ref a_re, .int u.2.2.2.1, .int u.2.2.2.2.1, .ref a_sc_, .int u.2.2.2.2.2.2.1, .int u.2.2.2.2.2.2.2.1, .int u.2.2.2.2.2.2.2.2.1, .int u.2.2.2.2.2.2.2.2.2])), (sa, .inl (G.2 0, 4, .inl u.2.1)), (a_re, .inl (G.2 0, 32, .inl u.2.2.1)), (a_sc_, .inl (G.2 0, 12, .inl u.2.2.2.2.2.1))]) (wr := []) F w [0, 1, 2, 3] [] rfl rfl rfl (by decide) (va_runV (As := [.int (p0 - (kx_cand u.2.2.2.2.2.2.1.toNatClampNeg))]) (rest := []) S (c_Offsets_isRecent l G h sa d a_re a_sc_ u (p0 - (kx_cand u.2.2.2.2.2.2.1.toNatClampNeg)) q11 hq11 _) (kx_cwV S mv_Offsets_isRecent kw_57 ⟨rfl, rfl, Nat.le_of_ble_eq_true rfl, Nat.le_of_ble_eq_true rfl⟩) ⟨kx_blind _ _ _ _, va_recv (q0 := 0) F.1.1 w.1 kc_Offsets.1 rfl, kx_pre F w [0, 1, 2, 3] rfl rfl⟩ rfl rfl hl.1 rfl (lv_room (Nat.le_of_ble_eq_true rfl)) d_Offsets_tryCandidate_11 ⟨Nat.le_of_ble_eq_true rfl, Nat.le_of_ble_eq_true rfl⟩) (fun r11 w11 H locs hp w => ?_)
  subst hp
  have w : kx_W G A s ([(h, .inr (6, [.int d, .ref sa, .int u.1, .ref a_re, .int u.2.2.2.1, .int u.2.2.2.2.1, .ref a_sc_, .int u.2.2.2.2.2.2.1, .int u.2.2.2.2.2.2.2.1, .int u.2.2.2.2.2.2.2.2.1, .int u.2.2.2.2.2.2.2.2.2])), (sa, .inl (G.2 0, 4, .inl u.2.1)), (a_re, .inl (G.2 0, 32, .inl u.2.2.1)), (a_sc_, .inl (G.2 0, 12, .inl u.2.2.2.2.2.1))] ++ []) H locs := w
  have L30 : ∀ (x1 : Int32) (u30 : sg_offsets), jn_Offsets_tryCandidate_30 d x1 u30 = some v → ∀ (H : Heap) (locs : List Loc) (ls : Array Slot), kx_W G A s ([(h, .inr (6, [.int d, .ref sa, .int u30.1, .ref a_re, .int u30.2.2.2.1, .int u30.2.2.2.2.1, .ref a_sc_, .int u30.2.2.2.2.2.2.1, .int u30.2.2.2.2.2.2.2.1, .int u30.2.2.2.2.2.2.2.2.1, .int u30.2.2.2.2.2.2.2.2.2])), (sa, .inl (G.2 0, 4, .inl u30.2.1)), (a_re, .inl (G.2 0, 32, .inl u30.2.2.1)), (a_sc_, .inl (G.2 0, 12, .inl u30.2.2.2.2.2.1))] ++ []) H locs → lv_has ls 2 [(0, .ref h), (1, .int x1)] → W p l e rm_Offsets_tryCandidate s m args below meth c H locs 0 0 Q (F0 m 30 ls []) := by
    intro x1 u30 hF H locs ls w hl
    unfold jn_Offsets_tryCandidate_30 at hF
    refine lv_aload_n hx hb d_Offsets_tryCandidate_30 rfl (lv_at hl 0 rfl) ?_
    refine lv_dup hx hb d_Offsets_tryCandidate_31 rfl ?_
    refine kx_get S F w kc_Offsets 0 rfl 8 (by decide) kw_54 rfl d_Offsets_tryCandidate_32 ?_
    refine lv_iconst (v := (1 : Int32)) hx hb d_Offsets_tryCandidate_35 (by decide) ?_
    refine lv_iadd hx hb d_Offsets_tryCandidate_36 ?_
    refine kx_put S F w kc_Offsets 0 rfl 8 (by decide) kw_54 rfl rfl rfl (Nat.le_of_ble_eq_true rfl) d_Offsets_tryCandidate_37 (fun H locs w => ?_)
    have w : kx_W G A s ([(h, .inr (6, [.int d, .ref sa, .int u30.1, .ref a_re, .int u30.2.2.2.1, .int u30.2.2.2.2.1, .ref a_sc_, .int u30.2.2.2.2.2.2.1, .int (u30.2.2.2.2.2.2.2.1 + (1 : Int32)), .int u30.2.2.2.2.2.2.2.2.1, .int u30.2.2.2.2.2.2.2.2.2])), (sa, .inl (G.2 0, 4, .inl u30.2.1)), (a_re, .inl (G.2 0, 32, .inl u30.2.2.1)), (a_sc_, .inl (G.2 0, 12, .inl u30.2.2.2.2.2.1))] ++ []) H locs := w
    refine lv_aload_n hx hb d_Offsets_tryCandidate_40 rfl (lv_at hl 0 rfl) ?_
    refine kx_get S F w kc_Offsets 0 rfl 6 (by decide) kw_51 rfl d_Offsets_tryCandidate_41 ?_
    refine lv_aload_n hx hb d_Offsets_tryCandidate_44 rfl (lv_at hl 0 rfl) ?_
    refine kx_get S F w kc_Offsets 0 rfl 7 (by decide) kw_53 rfl d_Offsets_tryCandidate_45 ?_
    obtain ⟨hi48, hF⟩ := kx_ar hF
    refine kx_iald S F w 3 rfl hi48 d_Offsets_tryCandidate_48 ?_
    refine lv_bipush (v := (15 : Int32)) hx hb d_Offsets_tryCandidate_49 (by decide) ?_
    refine lv_icmp_ge (tgt := 64) hx hb d_Offsets_tryCandidate_51 (by decide) (fun c51 => ?_) (fun c51 => ?_)
    · have hF := kx_t c51 hF
      refine lv_aload_n hx hb d_Offsets_tryCandidate_64 rfl (lv_at hl 0 rfl) ?_
      obtain ⟨q65, hq65, hF⟩ := kx_bd hF
      refine kx_cv (cx := [(h, .inr (6, [.int d, .ref sa, .int u30.1, .ref a_re, .int u30.2.2.2.1, .int u30.2.2.2.2.1, .ref a_sc_, .int u30.2.2.2.2.2.2.1, .int (u30.2.2.2.2.2.2.2.1 + (1 : Int32)), .int u30.2.2.2.2.2.2.2.2.1, .int u30.2.2.2.2.2.2.2.2.2])), (sa, .inl (G.2 0, 4, .inl u30.2.1)), (a_re, .inl (G.2 0, 32, .inl u30.2.2.1)), (a_sc_, .inl (G.2 0, 12, .inl u30.2.2.2.2.2.1))]) (wr := []) F w [0, 1, 2, 3] [] rfl rfl rfl (by decide) (va_runV (As := []) (rest := []) S (c_Offsets_endRound l G h sa d a_re a_sc_ (u30.1, u30.2.1, u30.2.2.1, u30.2.2.2.1, u30.2.2.2.2.1, u30.2.2.2.2.2.1, u30.2.2.2.2.2.2.1, u30.2.2.2.2.2.2.2.1 + (1 : Int32), u30.2.2.2.2.2.2.2.2) q65 hq65 _) (kx_cwV S mv_Offsets_endRound kw_58 ⟨rfl, rfl, Nat.le_of_ble_eq_true rfl, Nat.le_of_ble_eq_true rfl⟩) ⟨kx_blind _ _ _ _, va_recv (q0 := 0) F.1.1 w.1 kc_Offsets.1 rfl, kx_pre F w [0, 1, 2, 3] rfl rfl⟩ rfl rfl hl.1 rfl (lv_room (Nat.le_of_ble_eq_true rfl)) d_Offsets_tryCandidate_65 ⟨Nat.le_of_ble_eq_true rfl, Nat.le_of_ble_eq_true rfl⟩) (fun w65 H locs hp w => ?_)
      subst hp
      have w : kx_W G A s ([(h, .inr (6, [.int d, .ref sa, .int q65.1, .ref a_re, .int q65.2.2.2.1, .int q65.2.2.2.2.1, .ref a_sc_, .int q65.2.2.2.2.2.2.1, .int q65.2.2.2.2.2.2.2.1, .int q65.2.2.2.2.2.2.2.2.1, .int q65.2.2.2.2.2.2.2.2.2])), (sa, .inl (G.2 0, 4, .inl q65.2.1)), (a_re, .inl (G.2 0, 32, .inl q65.2.2.1)), (a_sc_, .inl (G.2 0, 12, .inl q65.2.2.2.2.2.1))] ++ []) H locs := w
      refine lv_goto (tgt := 96) hx hb d_Offsets_tryCandidate_68 (by decide) ?_
      obtain rfl := Option.some.inj hF
      exact kx_vret hQ S hr hlocks w (xo := [(h, .inr (6, [.int d, .ref sa, .int q65.1, .ref a_re, .int q65.2.2.2.1, .int q65.2.2.2.2.1, .ref a_sc_, .int q65.2.2.2.2.2.2.1, .int q65.2.2.2.2.2.2.2.1, .int q65.2.2.2.2.2.2.2.2.1, .int q65.2.2.2.2.2.2.2.2.2])), (sa, .inl (G.2 0, 4, .inl q65.2.1)), (a_re, .inl (G.2 0, 32, .inl q65.2.2.1)), (a_sc_, .inl (G.2 0, 12, .inl q65.2.2.2.2.2.1))]) [0, 1, 2, 3] rfl rfl q65 rfl rfl d_Offsets_tryCandidate_96
    · have hF := kx_f c51 hF
      refine lv_aload_n hx hb d_Offsets_tryCandidate_54 rfl (lv_at hl 0 rfl) ?_
      refine kx_get S F w kc_Offsets 0 rfl 8 (by decide) kw_54 rfl d_Offsets_tryCandidate_55 ?_
      refine lv_sipush (v := (240 : Int32)) hx hb d_Offsets_tryCandidate_58 (by decide) ?_
      refine lv_icmp_lt (tgt := 71) hx hb d_Offsets_tryCandidate_61 (by decide) (fun c61 => ?_) (fun c61 => ?_)
      · have hF := kx_t c61 hF
        refine lv_aload_n hx hb d_Offsets_tryCandidate_71 rfl (lv_at hl 0 rfl) ?_
        refine lv_aload_n hx hb d_Offsets_tryCandidate_72 rfl (lv_at hl 0 rfl) ?_
        refine kx_get S F w kc_Offsets 0 rfl 7 (by decide) kw_53 rfl d_Offsets_tryCandidate_73 ?_
        refine lv_iconst (v := (1 : Int32)) hx hb d_Offsets_tryCandidate_76 (by decide) ?_
        refine lv_iadd hx hb d_Offsets_tryCandidate_77 ?_
        refine lv_bipush (v := (12 : Int32)) hx hb d_Offsets_tryCandidate_78 (by decide) ?_
        refine lv_icmp_ge (tgt := 92) hx hb d_Offsets_tryCandidate_80 (by decide) (fun c80 => ?_) (fun c80 => ?_)
        · have hF := kx_t c80 hF
          refine lv_iconst (v := (0 : Int32)) hx hb d_Offsets_tryCandidate_92 (by decide) ?_
          refine kx_put S F w kc_Offsets 0 rfl 7 (by decide) kw_53 rfl rfl rfl (Nat.le_of_ble_eq_true rfl) d_Offsets_tryCandidate_93 (fun H locs w => ?_)
          have w : kx_W G A s ([(h, .inr (6, [.int d, .ref sa, .int u30.1, .ref a_re, .int u30.2.2.2.1, .int u30.2.2.2.2.1, .ref a_sc_, .int (0 : Int32), .int (u30.2.2.2.2.2.2.2.1 + (1 : Int32)), .int u30.2.2.2.2.2.2.2.2.1, .int u30.2.2.2.2.2.2.2.2.2])), (sa, .inl (G.2 0, 4, .inl u30.2.1)), (a_re, .inl (G.2 0, 32, .inl u30.2.2.1)), (a_sc_, .inl (G.2 0, 12, .inl u30.2.2.2.2.2.1))] ++ []) H locs := w
          obtain rfl := Option.some.inj hF
          exact kx_vret hQ S hr hlocks w (xo := [(h, .inr (6, [.int d, .ref sa, .int u30.1, .ref a_re, .int u30.2.2.2.1, .int u30.2.2.2.2.1, .ref a_sc_, .int (0 : Int32), .int (u30.2.2.2.2.2.2.2.1 + (1 : Int32)), .int u30.2.2.2.2.2.2.2.2.1, .int u30.2.2.2.2.2.2.2.2.2])), (sa, .inl (G.2 0, 4, .inl u30.2.1)), (a_re, .inl (G.2 0, 32, .inl u30.2.2.1)), (a_sc_, .inl (G.2 0, 12, .inl u30.2.2.2.2.2.1))]) [0, 1, 2, 3] rfl rfl (u30.1, u30.2.1, u30.2.2.1, u30.2.2.2.1, u30.2.2.2.2.1, u30.2.2.2.2.2.1, (0 : Int32), u30.2.2.2.2.2.2.2.1 + (1 : Int32), u30.2.2.2.2.2.2.2.2) rfl rfl d_Offsets_tryCandidate_96
        · have hF := kx_f c80 hF
          refine lv_aload_n hx hb d_Offsets_tryCandidate_83 rfl (lv_at hl 0 rfl) ?_
          refine kx_get S F w kc_Offsets 0 rfl 7 (by decide) kw_53 rfl d_Offsets_tryCandidate_84 ?_
          refine lv_iconst (v := (1 : Int32)) hx hb d_Offsets_tryCandidate_87 (by decide) ?_
          refine lv_iadd hx hb d_Offsets_tryCandidate_88 ?_
          refine lv_goto (tgt := 93) hx hb d_Offsets_tryCandidate_89 (by decide) ?_
          refine kx_put S F w kc_Offsets 0 rfl 7 (by decide) kw_53 rfl rfl rfl (Nat.le_of_ble_eq_true rfl) d_Offsets_tryCandidate_93 (fun H locs w => ?_)
          have w : kx_W G A s ([(h, .inr (6, [.int d, .ref sa, .int u30.1, .ref a_re, .int u30.2.2.2.1, .int u30.2.2.2.2.1, .ref a_sc_, .int (u30.2.2.2.2.2.2.1 + (1 : Int32)), .int (u30.2.2.2.2.2.2.2.1 + (1 : Int32)), .int u30.2.2.2.2.2.2.2.2.1, .int u30.2.2.2.2.2.2.2.2.2])), (sa, .inl (G.2 0, 4, .inl u30.2.1)), (a_re, .inl (G.2 0, 32, .inl u30.2.2.1)), (a_sc_, .inl (G.2 0, 12, .inl u30.2.2.2.2.2.1))] ++ []) H locs := w
          obtain rfl := Option.some.inj hF
          exact kx_vret hQ S hr hlocks w (xo := [(h, .inr (6, [.int d, .ref sa, .int u30.1, .ref a_re, .int u30.2.2.2.1, .int u30.2.2.2.2.1, .ref a_sc_, .int (u30.2.2.2.2.2.2.1 + (1 : Int32)), .int (u30.2.2.2.2.2.2.2.1 + (1 : Int32)), .int u30.2.2.2.2.2.2.2.2.1, .int u30.2.2.2.2.2.2.2.2.2])), (sa, .inl (G.2 0, 4, .inl u30.2.1)), (a_re, .inl (G.2 0, 32, .inl u30.2.2.1)), (a_sc_, .inl (G.2 0, 12, .inl u30.2.2.2.2.2.1))]) [0, 1, 2, 3] rfl rfl (u30.1, u30.2.1, u30.2.2.1, u30.2.2.2.1, u30.2.2.2.2.1, u30.2.2.2.2.2.1, u30.2.2.2.2.2.2.1 + (1 : Int32), u30.2.2.2.2.2.2.2.1 + (1 : Int32), u30.2.2.2.2.2.2.2.2) rfl rfl d_Offsets_tryCandidate_96
      · have hF := kx_f c61 hF
        refine lv_aload_n hx hb d_Offsets_tryCandidate_64 rfl (lv_at hl 0 rfl) ?_
        obtain ⟨q65, hq65, hF⟩ := kx_bd hF
        refine kx_cv (cx := [(h, .inr (6, [.int d, .ref sa, .int u30.1, .ref a_re, .int u30.2.2.2.1, .int u30.2.2.2.2.1, .ref a_sc_, .int u30.2.2.2.2.2.2.1, .int (u30.2.2.2.2.2.2.2.1 + (1 : Int32)), .int u30.2.2.2.2.2.2.2.2.1, .int u30.2.2.2.2.2.2.2.2.2])), (sa, .inl (G.2 0, 4, .inl u30.2.1)), (a_re, .inl (G.2 0, 32, .inl u30.2.2.1)), (a_sc_, .inl (G.2 0, 12, .inl u30.2.2.2.2.2.1))]) (wr := []) F w [0, 1, 2, 3] [] rfl rfl rfl (by decide) (va_runV (As := []) (rest := []) S (c_Offsets_endRound l G h sa d a_re a_sc_ (u30.1, u30.2.1, u30.2.2.1, u30.2.2.2.1, u30.2.2.2.2.1, u30.2.2.2.2.2.1, u30.2.2.2.2.2.2.1, u30.2.2.2.2.2.2.2.1 + (1 : Int32), u30.2.2.2.2.2.2.2.2) q65 hq65 _) (kx_cwV S mv_Offsets_endRound kw_58 ⟨rfl, rfl, Nat.le_of_ble_eq_true rfl, Nat.le_of_ble_eq_true rfl⟩) ⟨kx_blind _ _ _ _, va_recv (q0 := 0) F.1.1 w.1 kc_Offsets.1 rfl, kx_pre F w [0, 1, 2, 3] rfl rfl⟩ rfl rfl hl.1 rfl (lv_room (Nat.le_of_ble_eq_true rfl)) d_Offsets_tryCandidate_65 ⟨Nat.le_of_ble_eq_true rfl, Nat.le_of_ble_eq_true rfl⟩) (fun w65 H locs hp w => ?_)
        subst hp
        have w : kx_W G A s ([(h, .inr (6, [.int d, .ref sa, .int q65.1, .ref a_re, .int q65.2.2.2.1, .int q65.2.2.2.2.1, .ref a_sc_, .int q65.2.2.2.2.2.2.1, .int q65.2.2.2.2.2.2.2.1, .int q65.2.2.2.2.2.2.2.2.1, .int q65.2.2.2.2.2.2.2.2.2])), (sa, .inl (G.2 0, 4, .inl q65.2.1)), (a_re, .inl (G.2 0, 32, .inl q65.2.2.1)), (a_sc_, .inl (G.2 0, 12, .inl q65.2.2.2.2.2.1))] ++ []) H locs := w
        refine lv_goto (tgt := 96) hx hb d_Offsets_tryCandidate_68 (by decide) ?_
        obtain rfl := Option.some.inj hF
        exact kx_vret hQ S hr hlocks w (xo := [(h, .inr (6, [.int d, .ref sa, .int q65.1, .ref a_re, .int q65.2.2.2.1, .int q65.2.2.2.2.1, .ref a_sc_, .int q65.2.2.2.2.2.2.1, .int q65.2.2.2.2.2.2.2.1, .int q65.2.2.2.2.2.2.2.2.1, .int q65.2.2.2.2.2.2.2.2.2])), (sa, .inl (G.2 0, 4, .inl q65.2.1)), (a_re, .inl (G.2 0, 32, .inl q65.2.2.1)), (a_sc_, .inl (G.2 0, 12, .inl q65.2.2.2.2.2.1))]) [0, 1, 2, 3] rfl rfl q65 rfl rfl d_Offsets_tryCandidate_96
  refine lv_if_eq (tgt := 30) hx hb d_Offsets_tryCandidate_14 (by decide) (fun c14 => ?_) (fun c14 => ?_)
  · have hF := kx_t c14 hF
    exact L30 p0 u hF H locs ls (w.perm [0, 1, 2, 3] rfl rfl) (lv_sub hl [0, 1] rfl)
  · have hF := kx_f c14 hF
    refine lv_aload_n hx hb d_Offsets_tryCandidate_17 rfl (lv_at hl 0 rfl) ?_
    refine kx_get S F w kc_Offsets 0 rfl 6 (by decide) kw_51 rfl d_Offsets_tryCandidate_18 ?_
    refine lv_aload_n hx hb d_Offsets_tryCandidate_21 rfl (lv_at hl 0 rfl) ?_
    refine kx_get S F w kc_Offsets 0 rfl 7 (by decide) kw_53 rfl d_Offsets_tryCandidate_22 ?_
    refine lv_dup2_11 hx hb d_Offsets_tryCandidate_25 rfl rfl ?_
    obtain ⟨hi26, hF⟩ := kx_ar hF
    refine kx_iald S F w 3 rfl hi26 d_Offsets_tryCandidate_26 ?_
    refine lv_iconst (v := (1 : Int32)) hx hb d_Offsets_tryCandidate_27 (by decide) ?_
    refine lv_iadd hx hb d_Offsets_tryCandidate_28 ?_
    obtain ⟨hi29, hF⟩ := kx_ar hF
    refine kx_iast S F w 3 rfl hi29 d_Offsets_tryCandidate_29 (fun H locs w => ?_)
    have w : kx_W G A s ([(h, .inr (6, [.int d, .ref sa, .int u.1, .ref a_re, .int u.2.2.2.1, .int u.2.2.2.2.1, .ref a_sc_, .int u.2.2.2.2.2.2.1, .int u.2.2.2.2.2.2.2.1, .int u.2.2.2.2.2.2.2.2.1, .int u.2.2.2.2.2.2.2.2.2])), (sa, .inl (G.2 0, 4, .inl u.2.1)), (a_re, .inl (G.2 0, 32, .inl u.2.2.1)), (a_sc_, .inl (G.2 0, 12, .inl (upd u.2.2.2.2.2.1 u.2.2.2.2.2.2.1.toNatClampNeg ((u.2.2.2.2.2.1 u.2.2.2.2.2.2.1.toNatClampNeg) + (1 : Int32)))))] ++ []) H locs := w
    exact L30 p0 (u.1, u.2.1, u.2.2.1, u.2.2.2.1, u.2.2.2.2.1, upd u.2.2.2.2.2.1 u.2.2.2.2.2.2.1.toNatClampNeg ((u.2.2.2.2.2.1 u.2.2.2.2.2.2.1.toNatClampNeg) + (1 : Int32)), u.2.2.2.2.2.2) hF H locs ls (w.perm [0, 1, 2, 3] rfl rfl) (lv_sub hl [0, 1] rfl)
/-! Offsets_remember -/
def f_Offsets_remember (d : Int32) (u : sg_offsets) (p0 : Int32) : Option (sg_offsets) := (if (32 : Int32) ≤ u.2.2.2.1 then (if (u.2.2.2.2.1 < 0 ∨ 32 ≤ u.2.2.2.2.1.toNatClampNeg) then none else (if (32 : Int32) ≤ (u.2.2.2.2.1 + (1 : Int32)) then some (u.1, u.2.1, upd u.2.2.1 u.2.2.2.2.1.toNatClampNeg p0, u.2.2.2.1, (0 : Int32), u.2.2.2.2.2) else some (u.1, u.2.1, upd u.2.2.1 u.2.2.2.2.1.toNatClampNeg p0, u.2.2.2.1, u.2.2.2.2.1 + (1 : Int32), u.2.2.2.2.2))) else (if (u.2.2.2.1 < 0 ∨ 32 ≤ u.2.2.2.1.toNatClampNeg) then none else some (u.1, u.2.1, upd u.2.2.1 u.2.2.2.1.toNatClampNeg p0, u.2.2.2.1 + (1 : Int32), u.2.2.2.2)))
def rm_Offsets_remember : Room := { frames := 0, cells := 0, slots := 0, locals := 0 }
set_option maxRecDepth 100000 in
set_option maxHeartbeats 4000000 in
theorem c_Offsets_remember (l : Launch) (G : kx_G) (h : Nat) (sa : Nat) (d : Int32) (a_re : Nat) (a_sc_ : Nat) (u : sg_offsets) (p0 : Int32) (v : sg_offsets) (hF : f_Offsets_remember d u p0 = some v) : CtV l y_Offsets_remember b_Offsets_remember 2 rm_Offsets_remember G [.ref h, .int p0] [(h, .inr (6, [.int d, .ref sa, .int u.1, .ref a_re, .int u.2.2.2.1, .int u.2.2.2.2.1, .ref a_sc_, .int u.2.2.2.2.2.2.1, .int u.2.2.2.2.2.2.2.1, .int u.2.2.2.2.2.2.2.2.1, .int u.2.2.2.2.2.2.2.2.2])), (sa, .inl (G.2 0, 4, .inl u.2.1)), (a_re, .inl (G.2 0, 32, .inl u.2.2.1)), (a_sc_, .inl (G.2 0, 12, .inl u.2.2.2.2.2.1))] (fun w : sg_offsets => v = w) (fun w => [(h, .inr (6, [.int d, .ref sa, .int w.1, .ref a_re, .int w.2.2.2.1, .int w.2.2.2.2.1, .ref a_sc_, .int w.2.2.2.2.2.2.1, .int w.2.2.2.2.2.2.2.1, .int w.2.2.2.2.2.2.2.2.1, .int w.2.2.2.2.2.2.2.2.2])), (sa, .inl (G.2 0, 4, .inl w.2.1)), (a_re, .inl (G.2 0, 32, .inl w.2.2.1)), (a_sc_, .inl (G.2 0, 12, .inl w.2.2.2.2.2.1))]) 0 0 := by
  refine CtV.of (by decide) (Nat.le_of_ble_eq_true rfl) [(0, .ref h), (1, .int p0)] rfl ?_
  intro p e s m args below meth c A ls Q hQ S hr hlocks hin F w hl
  have S : CallFix p m c b_Offsets_remember 2 s args kx_T "PrefetchRules$Offsets" := S
  obtain ⟨hx, hb, hml, hown, hts⟩ := id S
  have w : kx_W G A s ([(h, .inr (6, [.int d, .ref sa, .int u.1, .ref a_re, .int u.2.2.2.1, .int u.2.2.2.2.1, .ref a_sc_, .int u.2.2.2.2.2.2.1, .int u.2.2.2.2.2.2.2.1, .int u.2.2.2.2.2.2.2.2.1, .int u.2.2.2.2.2.2.2.2.2])), (sa, .inl (G.2 0, 4, .inl u.2.1)), (a_re, .inl (G.2 0, 32, .inl u.2.2.1)), (a_sc_, .inl (G.2 0, 12, .inl u.2.2.2.2.2.1))] ++ []) s.heap [] := w
  unfold f_Offsets_remember at hF
  refine lv_aload_n hx hb d_Offsets_remember_0 rfl (lv_at hl 0 rfl) ?_
  refine kx_get S F w kc_Offsets 0 rfl 4 (by decide) kw_49 rfl d_Offsets_remember_1 ?_
  refine lv_bipush (v := (32 : Int32)) hx hb d_Offsets_remember_4 (by decide) ?_
  refine lv_icmp_ge (tgt := 32) hx hb d_Offsets_remember_6 (by decide) (fun c6 => ?_) (fun c6 => ?_)
  · have hF := kx_t c6 hF
    refine lv_aload_n hx hb d_Offsets_remember_32 rfl (lv_at hl 0 rfl) ?_
    refine kx_get S F w kc_Offsets 0 rfl 3 (by decide) kw_48 rfl d_Offsets_remember_33 ?_
    refine lv_aload_n hx hb d_Offsets_remember_36 rfl (lv_at hl 0 rfl) ?_
    refine kx_get S F w kc_Offsets 0 rfl 5 (by decide) kw_59 rfl d_Offsets_remember_37 ?_
    refine lv_iload_n hx hb d_Offsets_remember_40 rfl (lv_at hl 1 rfl) ?_
    obtain ⟨hi41, hF⟩ := kx_ar hF
    refine kx_iast S F w 2 rfl hi41 d_Offsets_remember_41 (fun H locs w => ?_)
    have w : kx_W G A s ([(h, .inr (6, [.int d, .ref sa, .int u.1, .ref a_re, .int u.2.2.2.1, .int u.2.2.2.2.1, .ref a_sc_, .int u.2.2.2.2.2.2.1, .int u.2.2.2.2.2.2.2.1, .int u.2.2.2.2.2.2.2.2.1, .int u.2.2.2.2.2.2.2.2.2])), (sa, .inl (G.2 0, 4, .inl u.2.1)), (a_re, .inl (G.2 0, 32, .inl (upd u.2.2.1 u.2.2.2.2.1.toNatClampNeg p0))), (a_sc_, .inl (G.2 0, 12, .inl u.2.2.2.2.2.1))] ++ []) H locs := w
    refine lv_aload_n hx hb d_Offsets_remember_42 rfl (lv_at hl 0 rfl) ?_
    refine lv_aload_n hx hb d_Offsets_remember_43 rfl (lv_at hl 0 rfl) ?_
    refine kx_get S F w kc_Offsets 0 rfl 5 (by decide) kw_59 rfl d_Offsets_remember_44 ?_
    refine lv_iconst (v := (1 : Int32)) hx hb d_Offsets_remember_47 (by decide) ?_
    refine lv_iadd hx hb d_Offsets_remember_48 ?_
    refine lv_bipush (v := (32 : Int32)) hx hb d_Offsets_remember_49 (by decide) ?_
    refine lv_icmp_ge (tgt := 63) hx hb d_Offsets_remember_51 (by decide) (fun c51 => ?_) (fun c51 => ?_)
    · have hF := kx_t c51 hF
      refine lv_iconst (v := (0 : Int32)) hx hb d_Offsets_remember_63 (by decide) ?_
      refine kx_put S F w kc_Offsets 0 rfl 5 (by decide) kw_59 rfl rfl rfl (Nat.le_of_ble_eq_true rfl) d_Offsets_remember_64 (fun H locs w => ?_)
      have w : kx_W G A s ([(h, .inr (6, [.int d, .ref sa, .int u.1, .ref a_re, .int u.2.2.2.1, .int (0 : Int32), .ref a_sc_, .int u.2.2.2.2.2.2.1, .int u.2.2.2.2.2.2.2.1, .int u.2.2.2.2.2.2.2.2.1, .int u.2.2.2.2.2.2.2.2.2])), (sa, .inl (G.2 0, 4, .inl u.2.1)), (a_re, .inl (G.2 0, 32, .inl (upd u.2.2.1 u.2.2.2.2.1.toNatClampNeg p0))), (a_sc_, .inl (G.2 0, 12, .inl u.2.2.2.2.2.1))] ++ []) H locs := w
      obtain rfl := Option.some.inj hF
      exact kx_vret hQ S hr hlocks w (xo := [(h, .inr (6, [.int d, .ref sa, .int u.1, .ref a_re, .int u.2.2.2.1, .int (0 : Int32), .ref a_sc_, .int u.2.2.2.2.2.2.1, .int u.2.2.2.2.2.2.2.1, .int u.2.2.2.2.2.2.2.2.1, .int u.2.2.2.2.2.2.2.2.2])), (sa, .inl (G.2 0, 4, .inl u.2.1)), (a_re, .inl (G.2 0, 32, .inl (upd u.2.2.1 u.2.2.2.2.1.toNatClampNeg p0))), (a_sc_, .inl (G.2 0, 12, .inl u.2.2.2.2.2.1))]) [0, 1, 2, 3] rfl rfl (u.1, u.2.1, upd u.2.2.1 u.2.2.2.2.1.toNatClampNeg p0, u.2.2.2.1, (0 : Int32), u.2.2.2.2.2) rfl rfl d_Offsets_remember_67
    · have hF := kx_f c51 hF
      refine lv_aload_n hx hb d_Offsets_remember_54 rfl (lv_at hl 0 rfl) ?_
      refine kx_get S F w kc_Offsets 0 rfl 5 (by decide) kw_59 rfl d_Offsets_remember_55 ?_
      refine lv_iconst (v := (1 : Int32)) hx hb d_Offsets_remember_58 (by decide) ?_
      refine lv_iadd hx hb d_Offsets_remember_59 ?_
      refine lv_goto (tgt := 64) hx hb d_Offsets_remember_60 (by decide) ?_
      refine kx_put S F w kc_Offsets 0 rfl 5 (by decide) kw_59 rfl rfl rfl (Nat.le_of_ble_eq_true rfl) d_Offsets_remember_64 (fun H locs w => ?_)
      have w : kx_W G A s ([(h, .inr (6, [.int d, .ref sa, .int u.1, .ref a_re, .int u.2.2.2.1, .int (u.2.2.2.2.1 + (1 : Int32)), .ref a_sc_, .int u.2.2.2.2.2.2.1, .int u.2.2.2.2.2.2.2.1, .int u.2.2.2.2.2.2.2.2.1, .int u.2.2.2.2.2.2.2.2.2])), (sa, .inl (G.2 0, 4, .inl u.2.1)), (a_re, .inl (G.2 0, 32, .inl (upd u.2.2.1 u.2.2.2.2.1.toNatClampNeg p0))), (a_sc_, .inl (G.2 0, 12, .inl u.2.2.2.2.2.1))] ++ []) H locs := w
      obtain rfl := Option.some.inj hF
      exact kx_vret hQ S hr hlocks w (xo := [(h, .inr (6, [.int d, .ref sa, .int u.1, .ref a_re, .int u.2.2.2.1, .int (u.2.2.2.2.1 + (1 : Int32)), .ref a_sc_, .int u.2.2.2.2.2.2.1, .int u.2.2.2.2.2.2.2.1, .int u.2.2.2.2.2.2.2.2.1, .int u.2.2.2.2.2.2.2.2.2])), (sa, .inl (G.2 0, 4, .inl u.2.1)), (a_re, .inl (G.2 0, 32, .inl (upd u.2.2.1 u.2.2.2.2.1.toNatClampNeg p0))), (a_sc_, .inl (G.2 0, 12, .inl u.2.2.2.2.2.1))]) [0, 1, 2, 3] rfl rfl (u.1, u.2.1, upd u.2.2.1 u.2.2.2.2.1.toNatClampNeg p0, u.2.2.2.1, u.2.2.2.2.1 + (1 : Int32), u.2.2.2.2.2) rfl rfl d_Offsets_remember_67
  · have hF := kx_f c6 hF
    refine lv_aload_n hx hb d_Offsets_remember_9 rfl (lv_at hl 0 rfl) ?_
    refine kx_get S F w kc_Offsets 0 rfl 3 (by decide) kw_48 rfl d_Offsets_remember_10 ?_
    refine lv_aload_n hx hb d_Offsets_remember_13 rfl (lv_at hl 0 rfl) ?_
    refine kx_get S F w kc_Offsets 0 rfl 4 (by decide) kw_49 rfl d_Offsets_remember_14 ?_
    refine lv_iload_n hx hb d_Offsets_remember_17 rfl (lv_at hl 1 rfl) ?_
    obtain ⟨hi18, hF⟩ := kx_ar hF
    refine kx_iast S F w 2 rfl hi18 d_Offsets_remember_18 (fun H locs w => ?_)
    have w : kx_W G A s ([(h, .inr (6, [.int d, .ref sa, .int u.1, .ref a_re, .int u.2.2.2.1, .int u.2.2.2.2.1, .ref a_sc_, .int u.2.2.2.2.2.2.1, .int u.2.2.2.2.2.2.2.1, .int u.2.2.2.2.2.2.2.2.1, .int u.2.2.2.2.2.2.2.2.2])), (sa, .inl (G.2 0, 4, .inl u.2.1)), (a_re, .inl (G.2 0, 32, .inl (upd u.2.2.1 u.2.2.2.1.toNatClampNeg p0))), (a_sc_, .inl (G.2 0, 12, .inl u.2.2.2.2.2.1))] ++ []) H locs := w
    refine lv_aload_n hx hb d_Offsets_remember_19 rfl (lv_at hl 0 rfl) ?_
    refine lv_dup hx hb d_Offsets_remember_20 rfl ?_
    refine kx_get S F w kc_Offsets 0 rfl 4 (by decide) kw_49 rfl d_Offsets_remember_21 ?_
    refine lv_iconst (v := (1 : Int32)) hx hb d_Offsets_remember_24 (by decide) ?_
    refine lv_iadd hx hb d_Offsets_remember_25 ?_
    refine kx_put S F w kc_Offsets 0 rfl 4 (by decide) kw_49 rfl rfl rfl (Nat.le_of_ble_eq_true rfl) d_Offsets_remember_26 (fun H locs w => ?_)
    have w : kx_W G A s ([(h, .inr (6, [.int d, .ref sa, .int u.1, .ref a_re, .int (u.2.2.2.1 + (1 : Int32)), .int u.2.2.2.2.1, .ref a_sc_, .int u.2.2.2.2.2.2.1, .int u.2.2.2.2.2.2.2.1, .int u.2.2.2.2.2.2.2.2.1, .int u.2.2.2.2.2.2.2.2.2])), (sa, .inl (G.2 0, 4, .inl u.2.1)), (a_re, .inl (G.2 0, 32, .inl (upd u.2.2.1 u.2.2.2.1.toNatClampNeg p0))), (a_sc_, .inl (G.2 0, 12, .inl u.2.2.2.2.2.1))] ++ []) H locs := w
    refine lv_goto (tgt := 67) hx hb d_Offsets_remember_29 (by decide) ?_
    obtain rfl := Option.some.inj hF
    exact kx_vret hQ S hr hlocks w (xo := [(h, .inr (6, [.int d, .ref sa, .int u.1, .ref a_re, .int (u.2.2.2.1 + (1 : Int32)), .int u.2.2.2.2.1, .ref a_sc_, .int u.2.2.2.2.2.2.1, .int u.2.2.2.2.2.2.2.1, .int u.2.2.2.2.2.2.2.2.1, .int u.2.2.2.2.2.2.2.2.2])), (sa, .inl (G.2 0, 4, .inl u.2.1)), (a_re, .inl (G.2 0, 32, .inl (upd u.2.2.1 u.2.2.2.1.toNatClampNeg p0))), (a_sc_, .inl (G.2 0, 12, .inl u.2.2.2.2.2.1))]) [0, 1, 2, 3] rfl rfl (u.1, u.2.1, upd u.2.2.1 u.2.2.2.1.toNatClampNeg p0, u.2.2.2.1 + (1 : Int32), u.2.2.2.2) rfl rfl d_Offsets_remember_67
/-! Offsets_learn -/
def f_Offsets_learn (d : Int32) (u : sg_offsets) (p0 : Int32) (p1 : Int32) : Option (sg_offsets) := (f_Offsets_tryCandidate d u p1).bind (fun q2 => (if q2.2.2.2.2.2.2.2.2.1 = 0 then (f_Offsets_remember d q2 p1).bind (fun q23 => some q23) else (f_Rule_sayInSteps d (q2.1, q2.2.1) p1 q2.2.2.2.2.2.2.2.2.1).bind (fun q18 => (f_Offsets_remember d (q18.1, q18.2, q2.2.2) p1).bind (fun q23 => some q23))))
def rm_Offsets_learn : Room := { frames := 3, cells := 0, slots := 0, locals := 65 }
set_option maxRecDepth 100000 in
set_option maxHeartbeats 4000000 in
theorem c_Offsets_learn (l : Launch) (G : kx_G) (h : Nat) (sa : Nat) (d : Int32) (a_re : Nat) (a_sc_ : Nat) (u : sg_offsets) (p0 : Int32) (p1 : Int32) (v : sg_offsets) (hF : f_Offsets_learn d u p0 p1 = some v) : CtV l y_Offsets_learn b_Offsets_learn 3 rm_Offsets_learn G [.ref h, .int p0, .int p1] [(h, .inr (6, [.int d, .ref sa, .int u.1, .ref a_re, .int u.2.2.2.1, .int u.2.2.2.2.1, .ref a_sc_, .int u.2.2.2.2.2.2.1, .int u.2.2.2.2.2.2.2.1, .int u.2.2.2.2.2.2.2.2.1, .int u.2.2.2.2.2.2.2.2.2])), (sa, .inl (G.2 0, 4, .inl u.2.1)), (a_re, .inl (G.2 0, 32, .inl u.2.2.1)), (a_sc_, .inl (G.2 0, 12, .inl u.2.2.2.2.2.1))] (fun w : sg_offsets => v = w) (fun w => [(h, .inr (6, [.int d, .ref sa, .int w.1, .ref a_re, .int w.2.2.2.1, .int w.2.2.2.2.1, .ref a_sc_, .int w.2.2.2.2.2.2.1, .int w.2.2.2.2.2.2.2.1, .int w.2.2.2.2.2.2.2.2.1, .int w.2.2.2.2.2.2.2.2.2])), (sa, .inl (G.2 0, 4, .inl w.2.1)), (a_re, .inl (G.2 0, 32, .inl w.2.2.1)), (a_sc_, .inl (G.2 0, 12, .inl w.2.2.2.2.2.1))]) 0 0 := by
  refine CtV.of (by decide) (Nat.le_of_ble_eq_true rfl) [(0, .ref h), (1, .int p0), (2, .int p1)] rfl ?_
  intro p e s m args below meth c A ls Q hQ S hr hlocks hin F w hl
  have S : CallFix p m c b_Offsets_learn 3 s args kx_T "PrefetchRules$Offsets" := S
  obtain ⟨hx, hb, hml, hown, hts⟩ := id S
  have w : kx_W G A s ([(h, .inr (6, [.int d, .ref sa, .int u.1, .ref a_re, .int u.2.2.2.1, .int u.2.2.2.2.1, .ref a_sc_, .int u.2.2.2.2.2.2.1, .int u.2.2.2.2.2.2.2.1, .int u.2.2.2.2.2.2.2.2.1, .int u.2.2.2.2.2.2.2.2.2])), (sa, .inl (G.2 0, 4, .inl u.2.1)), (a_re, .inl (G.2 0, 32, .inl u.2.2.1)), (a_sc_, .inl (G.2 0, 12, .inl u.2.2.2.2.2.1))] ++ []) s.heap [] := w
  unfold f_Offsets_learn at hF
  refine lv_aload_n hx hb d_Offsets_learn_0 rfl (lv_at hl 0 rfl) ?_
  refine lv_iload_n hx hb d_Offsets_learn_1 rfl (lv_at hl 2 rfl) ?_
  obtain ⟨q2, hq2, hF⟩ := kx_bd hF
  refine kx_cv (cx := [(h, .inr (6, [.int d, .ref sa, .int u.1, .ref a_re, .int u.2.2.2.1, .int u.2.2.2.2.1, .ref a_sc_, .int u.2.2.2.2.2.2.1, .int u.2.2.2.2.2.2.2.1, .int u.2.2.2.2.2.2.2.2.1, .int u.2.2.2.2.2.2.2.2.2])), (sa, .inl (G.2 0, 4, .inl u.2.1)), (a_re, .inl (G.2 0, 32, .inl u.2.2.1)), (a_sc_, .inl (G.2 0, 12, .inl u.2.2.2.2.2.1))]) (wr := []) F w [0, 1, 2, 3] [] rfl rfl rfl (by decide) (va_runV (As := [.int p1]) (rest := []) S (c_Offsets_tryCandidate l G h sa d a_re a_sc_ u p1 q2 hq2 _) (kx_cwV S mv_Offsets_tryCandidate kw_60 ⟨rfl, rfl, Nat.le_of_ble_eq_true rfl, Nat.le_of_ble_eq_true rfl⟩) ⟨kx_blind _ _ _ _, va_recv (q0 := 0) F.1.1 w.1 kc_Offsets.1 rfl, kx_pre F w [0, 1, 2, 3] rfl rfl⟩ rfl rfl hl.1 rfl (lv_room (Nat.le_of_ble_eq_true rfl)) d_Offsets_learn_2 ⟨Nat.le_of_ble_eq_true rfl, Nat.le_of_ble_eq_true rfl⟩) (fun w2 H locs hp w => ?_)
  subst hp
  have w : kx_W G A s ([(h, .inr (6, [.int d, .ref sa, .int q2.1, .ref a_re, .int q2.2.2.2.1, .int q2.2.2.2.2.1, .ref a_sc_, .int q2.2.2.2.2.2.2.1, .int q2.2.2.2.2.2.2.2.1, .int q2.2.2.2.2.2.2.2.2.1, .int q2.2.2.2.2.2.2.2.2.2])), (sa, .inl (G.2 0, 4, .inl q2.2.1)), (a_re, .inl (G.2 0, 32, .inl q2.2.2.1)), (a_sc_, .inl (G.2 0, 12, .inl q2.2.2.2.2.2.1))] ++ []) H locs := w
  refine lv_aload_n hx hb d_Offsets_learn_5 rfl (lv_at hl 0 rfl) ?_
  refine kx_get S F w kc_Offsets 0 rfl 9 (by decide) kw_52 rfl d_Offsets_learn_6 ?_
  refine lv_if_eq (tgt := 21) hx hb d_Offsets_learn_9 (by decide) (fun c9 => ?_) (fun c9 => ?_)
  · have hF := kx_t c9 hF
    refine lv_aload_n hx hb d_Offsets_learn_21 rfl (lv_at hl 0 rfl) ?_
    refine lv_iload_n hx hb d_Offsets_learn_22 rfl (lv_at hl 2 rfl) ?_
    obtain ⟨q23, hq23, hF⟩ := kx_bd hF
    refine kx_cv (cx := [(h, .inr (6, [.int d, .ref sa, .int q2.1, .ref a_re, .int q2.2.2.2.1, .int q2.2.2.2.2.1, .ref a_sc_, .int q2.2.2.2.2.2.2.1, .int q2.2.2.2.2.2.2.2.1, .int q2.2.2.2.2.2.2.2.2.1, .int q2.2.2.2.2.2.2.2.2.2])), (sa, .inl (G.2 0, 4, .inl q2.2.1)), (a_re, .inl (G.2 0, 32, .inl q2.2.2.1)), (a_sc_, .inl (G.2 0, 12, .inl q2.2.2.2.2.2.1))]) (wr := []) F w [0, 1, 2, 3] [] rfl rfl rfl (by decide) (va_runV (As := [.int p1]) (rest := []) S (c_Offsets_remember l G h sa d a_re a_sc_ q2 p1 q23 hq23 _) (kx_cwV S mv_Offsets_remember kw_61 ⟨rfl, rfl, Nat.le_of_ble_eq_true rfl, Nat.le_of_ble_eq_true rfl⟩) ⟨kx_blind _ _ _ _, va_recv (q0 := 0) F.1.1 w.1 kc_Offsets.1 rfl, kx_pre F w [0, 1, 2, 3] rfl rfl⟩ rfl rfl hl.1 rfl (lv_room (Nat.le_of_ble_eq_true rfl)) d_Offsets_learn_23 ⟨Nat.le_of_ble_eq_true rfl, Nat.le_of_ble_eq_true rfl⟩) (fun w23 H locs hp w => ?_)
    subst hp
    have w : kx_W G A s ([(h, .inr (6, [.int d, .ref sa, .int q23.1, .ref a_re, .int q23.2.2.2.1, .int q23.2.2.2.2.1, .ref a_sc_, .int q23.2.2.2.2.2.2.1, .int q23.2.2.2.2.2.2.2.1, .int q23.2.2.2.2.2.2.2.2.1, .int q23.2.2.2.2.2.2.2.2.2])), (sa, .inl (G.2 0, 4, .inl q23.2.1)), (a_re, .inl (G.2 0, 32, .inl q23.2.2.1)), (a_sc_, .inl (G.2 0, 12, .inl q23.2.2.2.2.2.1))] ++ []) H locs := w
    obtain rfl := Option.some.inj hF
    exact kx_vret hQ S hr hlocks w (xo := [(h, .inr (6, [.int d, .ref sa, .int q23.1, .ref a_re, .int q23.2.2.2.1, .int q23.2.2.2.2.1, .ref a_sc_, .int q23.2.2.2.2.2.2.1, .int q23.2.2.2.2.2.2.2.1, .int q23.2.2.2.2.2.2.2.2.1, .int q23.2.2.2.2.2.2.2.2.2])), (sa, .inl (G.2 0, 4, .inl q23.2.1)), (a_re, .inl (G.2 0, 32, .inl q23.2.2.1)), (a_sc_, .inl (G.2 0, 12, .inl q23.2.2.2.2.2.1))]) [0, 1, 2, 3] rfl rfl q23 rfl rfl d_Offsets_learn_26
  · have hF := kx_f c9 hF
    refine lv_aload_n hx hb d_Offsets_learn_12 rfl (lv_at hl 0 rfl) ?_
    refine lv_iload_n hx hb d_Offsets_learn_13 rfl (lv_at hl 2 rfl) ?_
    refine lv_aload_n hx hb d_Offsets_learn_14 rfl (lv_at hl 0 rfl) ?_
    refine kx_get S F w kc_Offsets 0 rfl 9 (by decide) kw_52 rfl d_Offsets_learn_15 ?_
    obtain ⟨q18, hq18, hF⟩ := kx_bd hF
    refine kx_cv (cx := [(h, .inr (6, [.int d, .ref sa, .int q2.1, .ref a_re, .int q2.2.2.2.1, .int q2.2.2.2.2.1, .ref a_sc_, .int q2.2.2.2.2.2.2.1, .int q2.2.2.2.2.2.2.2.1, .int q2.2.2.2.2.2.2.2.2.1, .int q2.2.2.2.2.2.2.2.2.2])), (sa, .inl (G.2 0, 4, .inl q2.2.1))]) (wr := [(a_re, .inl (G.2 0, 32, .inl q2.2.2.1)), (a_sc_, .inl (G.2 0, 12, .inl q2.2.2.2.2.2.1))]) F w [0, 1] [2, 3] rfl rfl rfl (by decide) (va_runU (As := [.int p1, .int q2.2.2.2.2.2.2.2.2.1]) (rest := []) S (c_Rule_sayInSteps l G 6 ("PrefetchRules$Offsets") F_Offsets 11 t_Offsets h sa d ([.ref a_re, .int q2.2.2.2.1, .int q2.2.2.2.2.1, .ref a_sc_, .int q2.2.2.2.2.2.2.1, .int q2.2.2.2.2.2.2.2.1, .int q2.2.2.2.2.2.2.2.2.1, .int q2.2.2.2.2.2.2.2.2.2]) kr_Offsets (q2.1, q2.2.1) p1 q2.2.2.2.2.2.2.2.2.1 q18 hq18 _) (kx_cwU (n := 2) (x := ⟨"PrefetchRules$Offsets", "sayInSteps", "(II)V"⟩) S kw_18 kw_62 kw_63 kw_64 kw_22 kw_17 rfl (by decide +kernel) ⟨rfl, rfl, Nat.le_of_ble_eq_true rfl, Nat.le_of_ble_eq_true rfl⟩) ⟨kx_blind _ _ _ _, va_recv (q0 := 0) F.1.1 w.1 kc_Offsets.1 rfl, kx_pre F w [0, 1] rfl rfl⟩ rfl rfl hl.1 rfl (lv_room (Nat.le_of_ble_eq_true rfl)) d_Offsets_learn_18 ⟨Nat.le_of_ble_eq_true rfl, Nat.le_of_ble_eq_true rfl⟩) (fun w18 H locs hp w => ?_)
    subst hp
    have w : kx_W G A s ([(a_re, .inl (G.2 0, 32, .inl q2.2.2.1)), (a_sc_, .inl (G.2 0, 12, .inl q2.2.2.2.2.2.1)), (h, .inr (6, [.int d, .ref sa, .int q18.1, .ref a_re, .int q2.2.2.2.1, .int q2.2.2.2.2.1, .ref a_sc_, .int q2.2.2.2.2.2.2.1, .int q2.2.2.2.2.2.2.2.1, .int q2.2.2.2.2.2.2.2.2.1, .int q2.2.2.2.2.2.2.2.2.2])), (sa, .inl (G.2 0, 4, .inl q18.2))] ++ []) H locs := w
    refine lv_aload_n hx hb d_Offsets_learn_21 rfl (lv_at hl 0 rfl) ?_
    refine lv_iload_n hx hb d_Offsets_learn_22 rfl (lv_at hl 2 rfl) ?_
    obtain ⟨q23, hq23, hF⟩ := kx_bd hF
    refine kx_cv (cx := [(h, .inr (6, [.int d, .ref sa, .int q18.1, .ref a_re, .int q2.2.2.2.1, .int q2.2.2.2.2.1, .ref a_sc_, .int q2.2.2.2.2.2.2.1, .int q2.2.2.2.2.2.2.2.1, .int q2.2.2.2.2.2.2.2.2.1, .int q2.2.2.2.2.2.2.2.2.2])), (sa, .inl (G.2 0, 4, .inl q18.2)), (a_re, .inl (G.2 0, 32, .inl q2.2.2.1)), (a_sc_, .inl (G.2 0, 12, .inl q2.2.2.2.2.2.1))]) (wr := []) F w [2, 3, 0, 1] [] rfl rfl rfl (by decide) (va_runV (As := [.int p1]) (rest := []) S (c_Offsets_remember l G h sa d a_re a_sc_ (q18.1, q18.2, q2.2.2) p1 q23 hq23 _) (kx_cwV S mv_Offsets_remember kw_61 ⟨rfl, rfl, Nat.le_of_ble_eq_true rfl, Nat.le_of_ble_eq_true rfl⟩) ⟨kx_blind _ _ _ _, va_recv (q0 := 2) F.1.1 w.1 kc_Offsets.1 rfl, kx_pre F w [2, 3, 0, 1] rfl rfl⟩ rfl rfl hl.1 rfl (lv_room (Nat.le_of_ble_eq_true rfl)) d_Offsets_learn_23 ⟨Nat.le_of_ble_eq_true rfl, Nat.le_of_ble_eq_true rfl⟩) (fun w23 H locs hp w => ?_)
    subst hp
    have w : kx_W G A s ([(h, .inr (6, [.int d, .ref sa, .int q23.1, .ref a_re, .int q23.2.2.2.1, .int q23.2.2.2.2.1, .ref a_sc_, .int q23.2.2.2.2.2.2.1, .int q23.2.2.2.2.2.2.2.1, .int q23.2.2.2.2.2.2.2.2.1, .int q23.2.2.2.2.2.2.2.2.2])), (sa, .inl (G.2 0, 4, .inl q23.2.1)), (a_re, .inl (G.2 0, 32, .inl q23.2.2.1)), (a_sc_, .inl (G.2 0, 12, .inl q23.2.2.2.2.2.1))] ++ []) H locs := w
    obtain rfl := Option.some.inj hF
    exact kx_vret hQ S hr hlocks w (xo := [(h, .inr (6, [.int d, .ref sa, .int q23.1, .ref a_re, .int q23.2.2.2.1, .int q23.2.2.2.2.1, .ref a_sc_, .int q23.2.2.2.2.2.2.1, .int q23.2.2.2.2.2.2.2.1, .int q23.2.2.2.2.2.2.2.2.1, .int q23.2.2.2.2.2.2.2.2.2])), (sa, .inl (G.2 0, 4, .inl q23.2.1)), (a_re, .inl (G.2 0, 32, .inl q23.2.2.1)), (a_sc_, .inl (G.2 0, 12, .inl q23.2.2.2.2.2.1))]) [0, 1, 2, 3] rfl rfl q23 rfl rfl d_Offsets_learn_26
/-! Offsets_knowledge -/
def f_Offsets_knowledge (d : Int32) (u : sg_offsets) (p0 : Int32) : Option (Int32) := some u.2.2.2.2.2.2.2.2.1
def rm_Offsets_knowledge : Room := { frames := 2, cells := 0, slots := 0, locals := 44 }
set_option maxRecDepth 100000 in
set_option maxHeartbeats 4000000 in
theorem c_Offsets_knowledge (l : Launch) (G : kx_G) (h : Nat) (sa : Nat) (d : Int32) (a_re : Nat) (a_sc_ : Nat) (u : sg_offsets) (p0 : Int32) (v : Int32) (hF : f_Offsets_knowledge d u p0 = some v) : CtI l y_Offsets_knowledge b_Offsets_knowledge 2 (some .int) rm_Offsets_knowledge G [.ref h, .int p0] [(h, .inr (6, [.int d, .ref sa, .int u.1, .ref a_re, .int u.2.2.2.1, .int u.2.2.2.2.1, .ref a_sc_, .int u.2.2.2.2.2.2.1, .int u.2.2.2.2.2.2.2.1, .int u.2.2.2.2.2.2.2.2.1, .int u.2.2.2.2.2.2.2.2.2])), (sa, .inl (G.2 0, 4, .inl u.2.1)), (a_re, .inl (G.2 0, 32, .inl u.2.2.1)), (a_sc_, .inl (G.2 0, 12, .inl u.2.2.2.2.2.1))] (fun (r : Int32) (_ : Unit) => v = r) (fun _ => [(h, .inr (6, [.int d, .ref sa, .int u.1, .ref a_re, .int u.2.2.2.1, .int u.2.2.2.2.1, .ref a_sc_, .int u.2.2.2.2.2.2.1, .int u.2.2.2.2.2.2.2.1, .int u.2.2.2.2.2.2.2.2.1, .int u.2.2.2.2.2.2.2.2.2])), (sa, .inl (G.2 0, 4, .inl u.2.1)), (a_re, .inl (G.2 0, 32, .inl u.2.2.1)), (a_sc_, .inl (G.2 0, 12, .inl u.2.2.2.2.2.1))]) 0 0 := by
  refine CtI.of (by decide) (Nat.le_of_ble_eq_true rfl) [(0, .ref h), (1, .int p0)] rfl ?_
  intro p e s m args below meth c A ls Q hQ S hr hlocks F w hl
  have S : CallFix p m c b_Offsets_knowledge 2 s args kx_T "PrefetchRules$Offsets" := S
  obtain ⟨hx, hb, hml, hown, hts⟩ := id S
  have w : kx_W G A s ([(h, .inr (6, [.int d, .ref sa, .int u.1, .ref a_re, .int u.2.2.2.1, .int u.2.2.2.2.1, .ref a_sc_, .int u.2.2.2.2.2.2.1, .int u.2.2.2.2.2.2.2.1, .int u.2.2.2.2.2.2.2.2.1, .int u.2.2.2.2.2.2.2.2.2])), (sa, .inl (G.2 0, 4, .inl u.2.1)), (a_re, .inl (G.2 0, 32, .inl u.2.2.1)), (a_sc_, .inl (G.2 0, 12, .inl u.2.2.2.2.2.1))] ++ []) s.heap [] := w
  unfold f_Offsets_knowledge at hF
  refine lv_aload_n hx hb d_Offsets_knowledge_0 rfl (lv_at hl 0 rfl) ?_
  refine kx_get S F w kc_Offsets 0 rfl 9 (by decide) kw_52 rfl d_Offsets_knowledge_1 ?_
  obtain rfl := Option.some.inj hF
  exact kx_iret hQ S hr hlocks w (xo := [(h, .inr (6, [.int d, .ref sa, .int u.1, .ref a_re, .int u.2.2.2.1, .int u.2.2.2.2.1, .ref a_sc_, .int u.2.2.2.2.2.2.1, .int u.2.2.2.2.2.2.2.1, .int u.2.2.2.2.2.2.2.2.1, .int u.2.2.2.2.2.2.2.2.2])), (sa, .inl (G.2 0, 4, .inl u.2.1)), (a_re, .inl (G.2 0, 32, .inl u.2.2.1)), (a_sc_, .inl (G.2 0, 12, .inl u.2.2.2.2.2.1))]) [0, 1, 2, 3] rfl rfl () rfl rfl d_Offsets_knowledge_4
/-! Offsets_confidence -/
def f_Offsets_confidence (d : Int32) (u : sg_offsets) (p0 : Int32) : Option (Int32) := (if p0 < 0 then some (0 : Int32) else (if (12 : Int32) ≤ p0 then some (0 : Int32) else (if (p0 < 0 ∨ 12 ≤ p0.toNatClampNeg) then none else some (u.2.2.2.2.2.1 p0.toNatClampNeg))))
def rm_Offsets_confidence : Room := { frames := 2, cells := 0, slots := 0, locals := 44 }
set_option maxRecDepth 100000 in
set_option maxHeartbeats 4000000 in
theorem c_Offsets_confidence (l : Launch) (G : kx_G) (h : Nat) (sa : Nat) (d : Int32) (a_re : Nat) (a_sc_ : Nat) (u : sg_offsets) (p0 : Int32) (v : Int32) (hF : f_Offsets_confidence d u p0 = some v) : CtI l y_Offsets_confidence b_Offsets_confidence 2 (some .int) rm_Offsets_confidence G [.ref h, .int p0] [(h, .inr (6, [.int d, .ref sa, .int u.1, .ref a_re, .int u.2.2.2.1, .int u.2.2.2.2.1, .ref a_sc_, .int u.2.2.2.2.2.2.1, .int u.2.2.2.2.2.2.2.1, .int u.2.2.2.2.2.2.2.2.1, .int u.2.2.2.2.2.2.2.2.2])), (sa, .inl (G.2 0, 4, .inl u.2.1)), (a_re, .inl (G.2 0, 32, .inl u.2.2.1)), (a_sc_, .inl (G.2 0, 12, .inl u.2.2.2.2.2.1))] (fun (r : Int32) (_ : Unit) => v = r) (fun _ => [(h, .inr (6, [.int d, .ref sa, .int u.1, .ref a_re, .int u.2.2.2.1, .int u.2.2.2.2.1, .ref a_sc_, .int u.2.2.2.2.2.2.1, .int u.2.2.2.2.2.2.2.1, .int u.2.2.2.2.2.2.2.2.1, .int u.2.2.2.2.2.2.2.2.2])), (sa, .inl (G.2 0, 4, .inl u.2.1)), (a_re, .inl (G.2 0, 32, .inl u.2.2.1)), (a_sc_, .inl (G.2 0, 12, .inl u.2.2.2.2.2.1))]) 0 0 := by
  refine CtI.of (by decide) (Nat.le_of_ble_eq_true rfl) [(0, .ref h), (1, .int p0)] rfl ?_
  intro p e s m args below meth c A ls Q hQ S hr hlocks F w hl
  have S : CallFix p m c b_Offsets_confidence 2 s args kx_T "PrefetchRules$Offsets" := S
  obtain ⟨hx, hb, hml, hown, hts⟩ := id S
  have w : kx_W G A s ([(h, .inr (6, [.int d, .ref sa, .int u.1, .ref a_re, .int u.2.2.2.1, .int u.2.2.2.2.1, .ref a_sc_, .int u.2.2.2.2.2.2.1, .int u.2.2.2.2.2.2.2.1, .int u.2.2.2.2.2.2.2.2.1, .int u.2.2.2.2.2.2.2.2.2])), (sa, .inl (G.2 0, 4, .inl u.2.1)), (a_re, .inl (G.2 0, 32, .inl u.2.2.1)), (a_sc_, .inl (G.2 0, 12, .inl u.2.2.2.2.2.1))] ++ []) s.heap [] := w
  unfold f_Offsets_confidence at hF
  refine lv_iload_n hx hb d_Offsets_confidence_0 rfl (lv_at hl 1 rfl) ?_
  refine lv_if_lt (tgt := 19) hx hb d_Offsets_confidence_1 (by decide) (fun c1 => ?_) (fun c1 => ?_)
  · have hF := kx_t c1 hF
    refine lv_iconst (v := (0 : Int32)) hx hb d_Offsets_confidence_19 (by decide) ?_
    obtain rfl := Option.some.inj hF
    exact kx_iret hQ S hr hlocks w (xo := [(h, .inr (6, [.int d, .ref sa, .int u.1, .ref a_re, .int u.2.2.2.1, .int u.2.2.2.2.1, .ref a_sc_, .int u.2.2.2.2.2.2.1, .int u.2.2.2.2.2.2.2.1, .int u.2.2.2.2.2.2.2.2.1, .int u.2.2.2.2.2.2.2.2.2])), (sa, .inl (G.2 0, 4, .inl u.2.1)), (a_re, .inl (G.2 0, 32, .inl u.2.2.1)), (a_sc_, .inl (G.2 0, 12, .inl u.2.2.2.2.2.1))]) [0, 1, 2, 3] rfl rfl () rfl rfl d_Offsets_confidence_20
  · have hF := kx_f c1 hF
    refine lv_iload_n hx hb d_Offsets_confidence_4 rfl (lv_at hl 1 rfl) ?_
    refine lv_bipush (v := (12 : Int32)) hx hb d_Offsets_confidence_5 (by decide) ?_
    refine lv_icmp_ge (tgt := 19) hx hb d_Offsets_confidence_7 (by decide) (fun c7 => ?_) (fun c7 => ?_)
    · have hF := kx_t c7 hF
      refine lv_iconst (v := (0 : Int32)) hx hb d_Offsets_confidence_19 (by decide) ?_
      obtain rfl := Option.some.inj hF
      exact kx_iret hQ S hr hlocks w (xo := [(h, .inr (6, [.int d, .ref sa, .int u.1, .ref a_re, .int u.2.2.2.1, .int u.2.2.2.2.1, .ref a_sc_, .int u.2.2.2.2.2.2.1, .int u.2.2.2.2.2.2.2.1, .int u.2.2.2.2.2.2.2.2.1, .int u.2.2.2.2.2.2.2.2.2])), (sa, .inl (G.2 0, 4, .inl u.2.1)), (a_re, .inl (G.2 0, 32, .inl u.2.2.1)), (a_sc_, .inl (G.2 0, 12, .inl u.2.2.2.2.2.1))]) [0, 1, 2, 3] rfl rfl () rfl rfl d_Offsets_confidence_20
    · have hF := kx_f c7 hF
      refine lv_aload_n hx hb d_Offsets_confidence_10 rfl (lv_at hl 0 rfl) ?_
      refine kx_get S F w kc_Offsets 0 rfl 6 (by decide) kw_51 rfl d_Offsets_confidence_11 ?_
      refine lv_iload_n hx hb d_Offsets_confidence_14 rfl (lv_at hl 1 rfl) ?_
      obtain ⟨hi15, hF⟩ := kx_ar hF
      refine kx_iald S F w 3 rfl hi15 d_Offsets_confidence_15 ?_
      refine lv_goto (tgt := 20) hx hb d_Offsets_confidence_16 (by decide) ?_
      obtain rfl := Option.some.inj hF
      exact kx_iret hQ S hr hlocks w (xo := [(h, .inr (6, [.int d, .ref sa, .int u.1, .ref a_re, .int u.2.2.2.1, .int u.2.2.2.2.1, .ref a_sc_, .int u.2.2.2.2.2.2.1, .int u.2.2.2.2.2.2.2.1, .int u.2.2.2.2.2.2.2.2.1, .int u.2.2.2.2.2.2.2.2.2])), (sa, .inl (G.2 0, 4, .inl u.2.1)), (a_re, .inl (G.2 0, 32, .inl u.2.2.1)), (a_sc_, .inl (G.2 0, 12, .inl u.2.2.2.2.2.1))]) [0, 1, 2, 3] rfl rfl () rfl rfl d_Offsets_confidence_20
/-! Offsets_roundCount -/
def f_Offsets_roundCount (d : Int32) (u : sg_offsets) : Option (Int32) := some u.2.2.2.2.2.2.2.2.2
def rm_Offsets_roundCount : Room := { frames := 0, cells := 0, slots := 0, locals := 0 }
set_option maxRecDepth 100000 in
set_option maxHeartbeats 4000000 in
theorem c_Offsets_roundCount (l : Launch) (G : kx_G) (h : Nat) (sa : Nat) (d : Int32) (a_re : Nat) (a_sc_ : Nat) (u : sg_offsets) (v : Int32) (hF : f_Offsets_roundCount d u = some v) : CtI l y_Offsets_roundCount b_Offsets_roundCount 1 (some .int) rm_Offsets_roundCount G [.ref h] [(h, .inr (6, [.int d, .ref sa, .int u.1, .ref a_re, .int u.2.2.2.1, .int u.2.2.2.2.1, .ref a_sc_, .int u.2.2.2.2.2.2.1, .int u.2.2.2.2.2.2.2.1, .int u.2.2.2.2.2.2.2.2.1, .int u.2.2.2.2.2.2.2.2.2])), (sa, .inl (G.2 0, 4, .inl u.2.1)), (a_re, .inl (G.2 0, 32, .inl u.2.2.1)), (a_sc_, .inl (G.2 0, 12, .inl u.2.2.2.2.2.1))] (fun (r : Int32) (_ : Unit) => v = r) (fun _ => [(h, .inr (6, [.int d, .ref sa, .int u.1, .ref a_re, .int u.2.2.2.1, .int u.2.2.2.2.1, .ref a_sc_, .int u.2.2.2.2.2.2.1, .int u.2.2.2.2.2.2.2.1, .int u.2.2.2.2.2.2.2.2.1, .int u.2.2.2.2.2.2.2.2.2])), (sa, .inl (G.2 0, 4, .inl u.2.1)), (a_re, .inl (G.2 0, 32, .inl u.2.2.1)), (a_sc_, .inl (G.2 0, 12, .inl u.2.2.2.2.2.1))]) 0 0 := by
  refine CtI.of (by decide) (Nat.le_of_ble_eq_true rfl) [(0, .ref h)] rfl ?_
  intro p e s m args below meth c A ls Q hQ S hr hlocks F w hl
  have S : CallFix p m c b_Offsets_roundCount 1 s args kx_T "PrefetchRules$Offsets" := S
  obtain ⟨hx, hb, hml, hown, hts⟩ := id S
  have w : kx_W G A s ([(h, .inr (6, [.int d, .ref sa, .int u.1, .ref a_re, .int u.2.2.2.1, .int u.2.2.2.2.1, .ref a_sc_, .int u.2.2.2.2.2.2.1, .int u.2.2.2.2.2.2.2.1, .int u.2.2.2.2.2.2.2.2.1, .int u.2.2.2.2.2.2.2.2.2])), (sa, .inl (G.2 0, 4, .inl u.2.1)), (a_re, .inl (G.2 0, 32, .inl u.2.2.1)), (a_sc_, .inl (G.2 0, 12, .inl u.2.2.2.2.2.1))] ++ []) s.heap [] := w
  unfold f_Offsets_roundCount at hF
  refine lv_aload_n hx hb d_Offsets_roundCount_0 rfl (lv_at hl 0 rfl) ?_
  refine kx_get S F w kc_Offsets 0 rfl 10 (by decide) kw_55 rfl d_Offsets_roundCount_1 ?_
  obtain rfl := Option.some.inj hF
  exact kx_iret hQ S hr hlocks w (xo := [(h, .inr (6, [.int d, .ref sa, .int u.1, .ref a_re, .int u.2.2.2.1, .int u.2.2.2.2.1, .ref a_sc_, .int u.2.2.2.2.2.2.1, .int u.2.2.2.2.2.2.2.1, .int u.2.2.2.2.2.2.2.2.1, .int u.2.2.2.2.2.2.2.2.2])), (sa, .inl (G.2 0, 4, .inl u.2.1)), (a_re, .inl (G.2 0, 32, .inl u.2.2.1)), (a_sc_, .inl (G.2 0, 12, .inl u.2.2.2.2.2.1))]) [0, 1, 2, 3] rfl rfl () rfl rfl d_Offsets_roundCount_4
/-! Offsets_hear -/
def f_Offsets_hear (d : Int32) (u : sg_offsets) (p0 : Int32) (p1 : Int32) : Option (sg_offsets) := (f_Offsets_learn d ((0 : Int32), u.2) p0 p1).bind (fun q8 => some q8)
def rm_Offsets_hear : Room := { frames := 4, cells := 0, slots := 0, locals := 87 }
set_option maxRecDepth 100000 in
set_option maxHeartbeats 4000000 in
theorem c_Offsets_hear (l : Launch) (G : kx_G) (h : Nat) (sa : Nat) (d : Int32) (a_re : Nat) (a_sc_ : Nat) (u : sg_offsets) (p0 : Int32) (p1 : Int32) (v : sg_offsets) (hF : f_Offsets_hear d u p0 p1 = some v) : CtV l y_Rule_hear b_Rule_hear 3 rm_Offsets_hear G [.ref h, .int p0, .int p1] [(h, .inr (6, [.int d, .ref sa, .int u.1, .ref a_re, .int u.2.2.2.1, .int u.2.2.2.2.1, .ref a_sc_, .int u.2.2.2.2.2.2.1, .int u.2.2.2.2.2.2.2.1, .int u.2.2.2.2.2.2.2.2.1, .int u.2.2.2.2.2.2.2.2.2])), (sa, .inl (G.2 0, 4, .inl u.2.1)), (a_re, .inl (G.2 0, 32, .inl u.2.2.1)), (a_sc_, .inl (G.2 0, 12, .inl u.2.2.2.2.2.1))] (fun w : sg_offsets => v = w) (fun w => [(h, .inr (6, [.int d, .ref sa, .int w.1, .ref a_re, .int w.2.2.2.1, .int w.2.2.2.2.1, .ref a_sc_, .int w.2.2.2.2.2.2.1, .int w.2.2.2.2.2.2.2.1, .int w.2.2.2.2.2.2.2.2.1, .int w.2.2.2.2.2.2.2.2.2])), (sa, .inl (G.2 0, 4, .inl w.2.1)), (a_re, .inl (G.2 0, 32, .inl w.2.2.1)), (a_sc_, .inl (G.2 0, 12, .inl w.2.2.2.2.2.1))]) 0 0 := by
  refine CtV.of (by decide) (Nat.le_of_ble_eq_true rfl) [(0, .ref h), (1, .int p0), (2, .int p1)] rfl ?_
  intro p e s m args below meth c A ls Q hQ S hr hlocks hin F w hl
  have S : CallFix p m c b_Rule_hear 3 s args kx_T "PrefetchRules$Rule" := S
  obtain ⟨hx, hb, hml, hown, hts⟩ := id S
  have w : kx_W G A s ([(h, .inr (6, [.int d, .ref sa, .int u.1, .ref a_re, .int u.2.2.2.1, .int u.2.2.2.2.1, .ref a_sc_, .int u.2.2.2.2.2.2.1, .int u.2.2.2.2.2.2.2.1, .int u.2.2.2.2.2.2.2.2.1, .int u.2.2.2.2.2.2.2.2.2])), (sa, .inl (G.2 0, 4, .inl u.2.1)), (a_re, .inl (G.2 0, 32, .inl u.2.2.1)), (a_sc_, .inl (G.2 0, 12, .inl u.2.2.2.2.2.1))] ++ []) s.heap [] := w
  unfold f_Offsets_hear at hF
  refine lv_aload_n hx hb d_Rule_hear_0 rfl (lv_at hl 0 rfl) ?_
  refine lv_iconst (v := (0 : Int32)) hx hb d_Rule_hear_1 (by decide) ?_
  refine kx_put S F w kc_Offsets 0 rfl 2 (by decide) kw_11 rfl rfl rfl (Nat.le_of_ble_eq_true rfl) d_Rule_hear_2 (fun H locs w => ?_)
  have w : kx_W G A s ([(h, .inr (6, [.int d, .ref sa, .int (0 : Int32), .ref a_re, .int u.2.2.2.1, .int u.2.2.2.2.1, .ref a_sc_, .int u.2.2.2.2.2.2.1, .int u.2.2.2.2.2.2.2.1, .int u.2.2.2.2.2.2.2.2.1, .int u.2.2.2.2.2.2.2.2.2])), (sa, .inl (G.2 0, 4, .inl u.2.1)), (a_re, .inl (G.2 0, 32, .inl u.2.2.1)), (a_sc_, .inl (G.2 0, 12, .inl u.2.2.2.2.2.1))] ++ []) H locs := w
  refine lv_aload_n hx hb d_Rule_hear_5 rfl (lv_at hl 0 rfl) ?_
  refine lv_iload_n hx hb d_Rule_hear_6 rfl (lv_at hl 1 rfl) ?_
  refine lv_iload_n hx hb d_Rule_hear_7 rfl (lv_at hl 2 rfl) ?_
  obtain ⟨q8, hq8, hF⟩ := kx_bd hF
  refine kx_cv (cx := [(h, .inr (6, [.int d, .ref sa, .int (0 : Int32), .ref a_re, .int u.2.2.2.1, .int u.2.2.2.2.1, .ref a_sc_, .int u.2.2.2.2.2.2.1, .int u.2.2.2.2.2.2.2.1, .int u.2.2.2.2.2.2.2.2.1, .int u.2.2.2.2.2.2.2.2.2])), (sa, .inl (G.2 0, 4, .inl u.2.1)), (a_re, .inl (G.2 0, 32, .inl u.2.2.1)), (a_sc_, .inl (G.2 0, 12, .inl u.2.2.2.2.2.1))]) (wr := []) F w [0, 1, 2, 3] [] rfl rfl rfl (by decide) (va_runU (As := [.int p0, .int p1]) (rest := []) S (c_Offsets_learn l G h sa d a_re a_sc_ ((0 : Int32), u.2) p0 p1 q8 hq8 _) (kx_cwA (n := 2) (x := ⟨"PrefetchRules$Rule", "learn", "(II)V"⟩) S F kw_100 kw_86 kw_87 kw_101 kw_102 kw_103 kw_91 (by decide +kernel) ⟨rfl, rfl, Nat.le_of_ble_eq_true rfl, Nat.le_of_ble_eq_true rfl⟩) ⟨kx_blind _ _ _ _, va_recv (q0 := 0) F.1.1 w.1 kc_Offsets.1 rfl, kx_pre F w [0, 1, 2, 3] rfl rfl⟩ rfl rfl hl.1 rfl (lv_room (Nat.le_of_ble_eq_true rfl)) d_Rule_hear_8 ⟨Nat.le_of_ble_eq_true rfl, Nat.le_of_ble_eq_true rfl⟩) (fun w8 H locs hp w => ?_)
  subst hp
  have w : kx_W G A s ([(h, .inr (6, [.int d, .ref sa, .int q8.1, .ref a_re, .int q8.2.2.2.1, .int q8.2.2.2.2.1, .ref a_sc_, .int q8.2.2.2.2.2.2.1, .int q8.2.2.2.2.2.2.2.1, .int q8.2.2.2.2.2.2.2.2.1, .int q8.2.2.2.2.2.2.2.2.2])), (sa, .inl (G.2 0, 4, .inl q8.2.1)), (a_re, .inl (G.2 0, 32, .inl q8.2.2.1)), (a_sc_, .inl (G.2 0, 12, .inl q8.2.2.2.2.2.1))] ++ []) H locs := w
  obtain rfl := Option.some.inj hF
  exact kx_vret hQ S hr hlocks w (xo := [(h, .inr (6, [.int d, .ref sa, .int q8.1, .ref a_re, .int q8.2.2.2.1, .int q8.2.2.2.2.1, .ref a_sc_, .int q8.2.2.2.2.2.2.1, .int q8.2.2.2.2.2.2.2.1, .int q8.2.2.2.2.2.2.2.2.1, .int q8.2.2.2.2.2.2.2.2.2])), (sa, .inl (G.2 0, 4, .inl q8.2.1)), (a_re, .inl (G.2 0, 32, .inl q8.2.2.1)), (a_sc_, .inl (G.2 0, 12, .inl q8.2.2.2.2.2.1))]) [0, 1, 2, 3] rfl rfl q8 rfl rfl d_Rule_hear_11
/-! Offsets_saidCount -/
def f_Offsets_saidCount (d : Int32) (u : sg_offsets) : Option (Int32) := some u.1
def rm_Offsets_saidCount : Room := { frames := 0, cells := 0, slots := 0, locals := 0 }
set_option maxRecDepth 100000 in
set_option maxHeartbeats 4000000 in
theorem c_Offsets_saidCount (l : Launch) (G : kx_G) (h : Nat) (sa : Nat) (d : Int32) (a_re : Nat) (a_sc_ : Nat) (u : sg_offsets) (v : Int32) (hF : f_Offsets_saidCount d u = some v) : CtI l y_Rule_saidCount b_Rule_saidCount 1 (some .int) rm_Offsets_saidCount G [.ref h] [(h, .inr (6, [.int d, .ref sa, .int u.1, .ref a_re, .int u.2.2.2.1, .int u.2.2.2.2.1, .ref a_sc_, .int u.2.2.2.2.2.2.1, .int u.2.2.2.2.2.2.2.1, .int u.2.2.2.2.2.2.2.2.1, .int u.2.2.2.2.2.2.2.2.2])), (sa, .inl (G.2 0, 4, .inl u.2.1)), (a_re, .inl (G.2 0, 32, .inl u.2.2.1)), (a_sc_, .inl (G.2 0, 12, .inl u.2.2.2.2.2.1))] (fun (r : Int32) (_ : Unit) => v = r) (fun _ => [(h, .inr (6, [.int d, .ref sa, .int u.1, .ref a_re, .int u.2.2.2.1, .int u.2.2.2.2.1, .ref a_sc_, .int u.2.2.2.2.2.2.1, .int u.2.2.2.2.2.2.2.1, .int u.2.2.2.2.2.2.2.2.1, .int u.2.2.2.2.2.2.2.2.2])), (sa, .inl (G.2 0, 4, .inl u.2.1)), (a_re, .inl (G.2 0, 32, .inl u.2.2.1)), (a_sc_, .inl (G.2 0, 12, .inl u.2.2.2.2.2.1))]) 0 0 := by
  refine CtI.of (by decide) (Nat.le_of_ble_eq_true rfl) [(0, .ref h)] rfl ?_
  intro p e s m args below meth c A ls Q hQ S hr hlocks F w hl
  have S : CallFix p m c b_Rule_saidCount 1 s args kx_T "PrefetchRules$Rule" := S
  obtain ⟨hx, hb, hml, hown, hts⟩ := id S
  have w : kx_W G A s ([(h, .inr (6, [.int d, .ref sa, .int u.1, .ref a_re, .int u.2.2.2.1, .int u.2.2.2.2.1, .ref a_sc_, .int u.2.2.2.2.2.2.1, .int u.2.2.2.2.2.2.2.1, .int u.2.2.2.2.2.2.2.2.1, .int u.2.2.2.2.2.2.2.2.2])), (sa, .inl (G.2 0, 4, .inl u.2.1)), (a_re, .inl (G.2 0, 32, .inl u.2.2.1)), (a_sc_, .inl (G.2 0, 12, .inl u.2.2.2.2.2.1))] ++ []) s.heap [] := w
  unfold f_Offsets_saidCount at hF
  refine lv_aload_n hx hb d_Rule_saidCount_0 rfl (lv_at hl 0 rfl) ?_
  refine kx_get S F w kc_Offsets 0 rfl 2 (by decide) kw_11 rfl d_Rule_saidCount_1 ?_
  obtain rfl := Option.some.inj hF
  exact kx_iret hQ S hr hlocks w (xo := [(h, .inr (6, [.int d, .ref sa, .int u.1, .ref a_re, .int u.2.2.2.1, .int u.2.2.2.2.1, .ref a_sc_, .int u.2.2.2.2.2.2.1, .int u.2.2.2.2.2.2.2.1, .int u.2.2.2.2.2.2.2.2.1, .int u.2.2.2.2.2.2.2.2.2])), (sa, .inl (G.2 0, 4, .inl u.2.1)), (a_re, .inl (G.2 0, 32, .inl u.2.2.1)), (a_sc_, .inl (G.2 0, 12, .inl u.2.2.2.2.2.1))]) [0, 1, 2, 3] rfl rfl () rfl rfl d_Rule_saidCount_4
/-! Offsets_saidLine -/
def f_Offsets_saidLine (d : Int32) (u : sg_offsets) (p0 : Int32) : Option (Int32) := (if p0 < 0 then some (-1 : Int32) else (if u.1 ≤ p0 then some (-1 : Int32) else (if (p0 < 0 ∨ 4 ≤ p0.toNatClampNeg) then none else some (u.2.1 p0.toNatClampNeg))))
def rm_Offsets_saidLine : Room := { frames := 0, cells := 0, slots := 0, locals := 0 }
set_option maxRecDepth 100000 in
set_option maxHeartbeats 4000000 in
theorem c_Offsets_saidLine (l : Launch) (G : kx_G) (h : Nat) (sa : Nat) (d : Int32) (a_re : Nat) (a_sc_ : Nat) (u : sg_offsets) (p0 : Int32) (v : Int32) (hF : f_Offsets_saidLine d u p0 = some v) : CtI l y_Rule_saidLine b_Rule_saidLine 2 (some .int) rm_Offsets_saidLine G [.ref h, .int p0] [(h, .inr (6, [.int d, .ref sa, .int u.1, .ref a_re, .int u.2.2.2.1, .int u.2.2.2.2.1, .ref a_sc_, .int u.2.2.2.2.2.2.1, .int u.2.2.2.2.2.2.2.1, .int u.2.2.2.2.2.2.2.2.1, .int u.2.2.2.2.2.2.2.2.2])), (sa, .inl (G.2 0, 4, .inl u.2.1)), (a_re, .inl (G.2 0, 32, .inl u.2.2.1)), (a_sc_, .inl (G.2 0, 12, .inl u.2.2.2.2.2.1))] (fun (r : Int32) (_ : Unit) => v = r) (fun _ => [(h, .inr (6, [.int d, .ref sa, .int u.1, .ref a_re, .int u.2.2.2.1, .int u.2.2.2.2.1, .ref a_sc_, .int u.2.2.2.2.2.2.1, .int u.2.2.2.2.2.2.2.1, .int u.2.2.2.2.2.2.2.2.1, .int u.2.2.2.2.2.2.2.2.2])), (sa, .inl (G.2 0, 4, .inl u.2.1)), (a_re, .inl (G.2 0, 32, .inl u.2.2.1)), (a_sc_, .inl (G.2 0, 12, .inl u.2.2.2.2.2.1))]) 0 0 := by
  refine CtI.of (by decide) (Nat.le_of_ble_eq_true rfl) [(0, .ref h), (1, .int p0)] rfl ?_
  intro p e s m args below meth c A ls Q hQ S hr hlocks F w hl
  have S : CallFix p m c b_Rule_saidLine 2 s args kx_T "PrefetchRules$Rule" := S
  obtain ⟨hx, hb, hml, hown, hts⟩ := id S
  have w : kx_W G A s ([(h, .inr (6, [.int d, .ref sa, .int u.1, .ref a_re, .int u.2.2.2.1, .int u.2.2.2.2.1, .ref a_sc_, .int u.2.2.2.2.2.2.1, .int u.2.2.2.2.2.2.2.1, .int u.2.2.2.2.2.2.2.2.1, .int u.2.2.2.2.2.2.2.2.2])), (sa, .inl (G.2 0, 4, .inl u.2.1)), (a_re, .inl (G.2 0, 32, .inl u.2.2.1)), (a_sc_, .inl (G.2 0, 12, .inl u.2.2.2.2.2.1))] ++ []) s.heap [] := w
  unfold f_Offsets_saidLine at hF
  refine lv_iload_n hx hb d_Rule_saidLine_0 rfl (lv_at hl 1 rfl) ?_
  refine lv_if_lt (tgt := 21) hx hb d_Rule_saidLine_1 (by decide) (fun c1 => ?_) (fun c1 => ?_)
  · have hF := kx_t c1 hF
    refine lv_iconst (v := (-1 : Int32)) hx hb d_Rule_saidLine_21 (by decide) ?_
    obtain rfl := Option.some.inj hF
    exact kx_iret hQ S hr hlocks w (xo := [(h, .inr (6, [.int d, .ref sa, .int u.1, .ref a_re, .int u.2.2.2.1, .int u.2.2.2.2.1, .ref a_sc_, .int u.2.2.2.2.2.2.1, .int u.2.2.2.2.2.2.2.1, .int u.2.2.2.2.2.2.2.2.1, .int u.2.2.2.2.2.2.2.2.2])), (sa, .inl (G.2 0, 4, .inl u.2.1)), (a_re, .inl (G.2 0, 32, .inl u.2.2.1)), (a_sc_, .inl (G.2 0, 12, .inl u.2.2.2.2.2.1))]) [0, 1, 2, 3] rfl rfl () rfl rfl d_Rule_saidLine_22
  · have hF := kx_f c1 hF
    refine lv_iload_n hx hb d_Rule_saidLine_4 rfl (lv_at hl 1 rfl) ?_
    refine lv_aload_n hx hb d_Rule_saidLine_5 rfl (lv_at hl 0 rfl) ?_
    refine kx_get S F w kc_Offsets 0 rfl 2 (by decide) kw_11 rfl d_Rule_saidLine_6 ?_
    refine lv_icmp_ge (tgt := 21) hx hb d_Rule_saidLine_9 (by decide) (fun c9 => ?_) (fun c9 => ?_)
    · have hF := kx_t c9 hF
      refine lv_iconst (v := (-1 : Int32)) hx hb d_Rule_saidLine_21 (by decide) ?_
      obtain rfl := Option.some.inj hF
      exact kx_iret hQ S hr hlocks w (xo := [(h, .inr (6, [.int d, .ref sa, .int u.1, .ref a_re, .int u.2.2.2.1, .int u.2.2.2.2.1, .ref a_sc_, .int u.2.2.2.2.2.2.1, .int u.2.2.2.2.2.2.2.1, .int u.2.2.2.2.2.2.2.2.1, .int u.2.2.2.2.2.2.2.2.2])), (sa, .inl (G.2 0, 4, .inl u.2.1)), (a_re, .inl (G.2 0, 32, .inl u.2.2.1)), (a_sc_, .inl (G.2 0, 12, .inl u.2.2.2.2.2.1))]) [0, 1, 2, 3] rfl rfl () rfl rfl d_Rule_saidLine_22
    · have hF := kx_f c9 hF
      refine lv_aload_n hx hb d_Rule_saidLine_12 rfl (lv_at hl 0 rfl) ?_
      refine kx_get S F w kc_Offsets 0 rfl 1 (by decide) kw_12 rfl d_Rule_saidLine_13 ?_
      refine lv_iload_n hx hb d_Rule_saidLine_16 rfl (lv_at hl 1 rfl) ?_
      obtain ⟨hi17, hF⟩ := kx_ar hF
      refine kx_iald S F w 1 rfl hi17 d_Rule_saidLine_17 ?_
      refine lv_goto (tgt := 22) hx hb d_Rule_saidLine_18 (by decide) ?_
      obtain rfl := Option.some.inj hF
      exact kx_iret hQ S hr hlocks w (xo := [(h, .inr (6, [.int d, .ref sa, .int u.1, .ref a_re, .int u.2.2.2.1, .int u.2.2.2.2.1, .ref a_sc_, .int u.2.2.2.2.2.2.1, .int u.2.2.2.2.2.2.2.1, .int u.2.2.2.2.2.2.2.2.1, .int u.2.2.2.2.2.2.2.2.2])), (sa, .inl (G.2 0, 4, .inl u.2.1)), (a_re, .inl (G.2 0, 32, .inl u.2.2.1)), (a_sc_, .inl (G.2 0, 12, .inl u.2.2.2.2.2.1))]) [0, 1, 2, 3] rfl rfl () rfl rfl d_Rule_saidLine_22
/-! Offsets_init -/
def rm_Offsets_init : Room := { frames := 2, cells := 3, slots := 48, locals := 41 }
set_option maxRecDepth 100000 in
set_option maxHeartbeats 4000000 in
theorem c_Offsets_init (l : Launch) (G : kx_G) (h : Nat) (p0 : Int32) : CtV l y_Offsets_init b_Offsets_init 2 rm_Offsets_init G [.ref h, .int p0] [(h, .inr (6, [.int 0, .null, .int 0, .null, .int 0, .int 0, .null, .int 0, .int 0, .int 0, .int 0]))] (fun (_ : Nat × Nat × Nat) => True) (fun w => [(h, .inr (6, [.int p0, .ref w.1, .int 0, .ref w.2.1, .int 0, .int 0, .ref w.2.2, .int 0, .int 0, .int (1 : Int32), .int 0])), (w.1, .inl (G.2 0, 4, .inl (fun _ => 0))), (w.2.1, .inl (G.2 0, 32, .inl (fun _ => 0))), (w.2.2, .inl (G.2 0, 12, .inl (fun _ => 0)))]) 3 48 := by
  refine CtV.of (by decide) (Nat.le_of_ble_eq_true rfl) [(0, .ref h), (1, .int p0)] rfl ?_
  intro p e s m args below meth c A ls Q hQ S hr hlocks hin F w hl
  have S : CallFix p m c b_Offsets_init 2 s args kx_T "PrefetchRules$Offsets" := S
  obtain ⟨hx, hb, hml, hown, hts⟩ := id S
  have w : kx_W G A s ([(h, .inr (6, [.int 0, .null, .int 0, .null, .int 0, .int 0, .null, .int 0, .int 0, .int 0, .int 0]))] ++ []) s.heap [] := w
  refine lv_aload_n hx hb d_Offsets_init_0 rfl (lv_at hl 0 rfl) ?_
  refine lv_iload_n hx hb d_Offsets_init_1 rfl (lv_at hl 1 rfl) ?_
  refine kx_cv (cx := [(h, .inr (6, [.int 0, .null, .int 0, .null, .int 0, .int 0, .null, .int 0, .int 0, .int 0, .int 0]))]) (wr := []) F w [0] [] rfl rfl rfl (by decide) (va_runI (As := [.int p0]) (rest := []) S (c_Rule_init l G 6 ("PrefetchRules$Offsets") F_Offsets 11 t_Offsets h ([.null, .int 0, .int 0, .null, .int 0, .int 0, .int 0, .int 0]) kr_Offsets p0 _) (kx_cwI S mi_Rule_init kw_118 ⟨rfl, rfl, Nat.le_of_ble_eq_true rfl, Nat.le_of_ble_eq_true rfl⟩) ⟨kx_blind _ _ _ _, kx_pre F w [0] rfl rfl⟩ rfl rfl hl.1 rfl (lv_room (Nat.le_of_ble_eq_true rfl)) d_Offsets_init_2 ⟨Nat.le_of_ble_eq_true rfl, Nat.le_of_ble_eq_true rfl⟩) (fun w2 H locs hp w => ?_)
  have w : kx_W G A s ([(h, .inr (6, [.int p0, .ref w2, .int 0, .null, .int 0, .int 0, .null, .int 0, .int 0, .int 0, .int 0])), (w2, .inl (G.2 0, 4, .inl (fun _ => 0)))] ++ []) H locs := w
  refine lv_aload_n hx hb d_Offsets_init_5 rfl (lv_at hl 0 rfl) ?_
  refine lv_bipush (v := (32 : Int32)) hx hb d_Offsets_init_6 (by decide) ?_
  refine kx_newi S F w kw_111 (N' := 32) (by decide) (by decide) (by decide) (Nat.le_of_ble_eq_true rfl) (Nat.le_of_ble_eq_true rfl) d_Offsets_init_8 (fun b8 H w => ?_)
  have w : kx_W G A s ([(h, .inr (6, [.int p0, .ref w2, .int 0, .null, .int 0, .int 0, .null, .int 0, .int 0, .int 0, .int 0])), (w2, .inl (G.2 0, 4, .inl (fun _ => 0))), (b8, .inl (G.2 0, 32, .inl (fun _ => 0)))] ++ []) H locs := w
  refine kx_putF S F w kc_Offsets 0 rfl 3 (by decide) kw_48 rfl hin rfl rfl rfl (Nat.le_of_ble_eq_true rfl) d_Offsets_init_10 (fun H locs w => ?_)
  have w : kx_W G A s ([(h, .inr (6, [.int p0, .ref w2, .int 0, .ref b8, .int 0, .int 0, .null, .int 0, .int 0, .int 0, .int 0])), (w2, .inl (G.2 0, 4, .inl (fun _ => 0))), (b8, .inl (G.2 0, 32, .inl (fun _ => 0)))] ++ []) H locs := w
  refine lv_aload_n hx hb d_Offsets_init_13 rfl (lv_at hl 0 rfl) ?_
  refine lv_bipush (v := (12 : Int32)) hx hb d_Offsets_init_14 (by decide) ?_
  refine kx_newi S F w kw_111 (N' := 12) (by decide) (by decide) (by decide) (Nat.le_of_ble_eq_true rfl) (Nat.le_of_ble_eq_true rfl) d_Offsets_init_16 (fun b16 H w => ?_)
  have w : kx_W G A s ([(h, .inr (6, [.int p0, .ref w2, .int 0, .ref b8, .int 0, .int 0, .null, .int 0, .int 0, .int 0, .int 0])), (w2, .inl (G.2 0, 4, .inl (fun _ => 0))), (b8, .inl (G.2 0, 32, .inl (fun _ => 0))), (b16, .inl (G.2 0, 12, .inl (fun _ => 0)))] ++ []) H locs := w
  refine kx_putF S F w kc_Offsets 0 rfl 6 (by decide) kw_51 rfl hin rfl rfl rfl (Nat.le_of_ble_eq_true rfl) d_Offsets_init_18 (fun H locs w => ?_)
  have w : kx_W G A s ([(h, .inr (6, [.int p0, .ref w2, .int 0, .ref b8, .int 0, .int 0, .ref b16, .int 0, .int 0, .int 0, .int 0])), (w2, .inl (G.2 0, 4, .inl (fun _ => 0))), (b8, .inl (G.2 0, 32, .inl (fun _ => 0))), (b16, .inl (G.2 0, 12, .inl (fun _ => 0)))] ++ []) H locs := w
  refine lv_aload_n hx hb d_Offsets_init_21 rfl (lv_at hl 0 rfl) ?_
  refine lv_iconst (v := (1 : Int32)) hx hb d_Offsets_init_22 (by decide) ?_
  refine kx_put S F w kc_Offsets 0 rfl 9 (by decide) kw_52 rfl rfl rfl (Nat.le_of_ble_eq_true rfl) d_Offsets_init_23 (fun H locs w => ?_)
  have w : kx_W G A s ([(h, .inr (6, [.int p0, .ref w2, .int 0, .ref b8, .int 0, .int 0, .ref b16, .int 0, .int 0, .int (1 : Int32), .int 0])), (w2, .inl (G.2 0, 4, .inl (fun _ => 0))), (b8, .inl (G.2 0, 32, .inl (fun _ => 0))), (b16, .inl (G.2 0, 12, .inl (fun _ => 0)))] ++ []) H locs := w
  refine W.widen (k := 3) (n := 48) (Nat.le_of_ble_eq_true rfl) (Nat.le_of_ble_eq_true rfl) ?_
  exact kx_vret hQ S hr hlocks w (xo := [(h, .inr (6, [.int p0, .ref w2, .int 0, .ref b8, .int 0, .int 0, .ref b16, .int 0, .int 0, .int (1 : Int32), .int 0])), (w2, .inl (G.2 0, 4, .inl (fun _ => 0))), (b8, .inl (G.2 0, 32, .inl (fun _ => 0))), (b16, .inl (G.2 0, 12, .inl (fun _ => 0)))]) [0, 1, 2, 3] rfl rfl (w2, b8, b16) rfl trivial d_Offsets_init_26
end
