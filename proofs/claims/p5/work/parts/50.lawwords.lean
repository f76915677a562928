def y_Law_cell : MethodName := ⟨"PrefetchRulesLaw", "cell", "([II)I"⟩
abbrev b_Law_cell : ByteArray := method_2_code
def y_Law_pass : MethodName := ⟨"PrefetchRulesLaw", "pass", "(LPrefetchRules;I[J)I"⟩
abbrev b_Law_pass : ByteArray := method_3_code
def y_Law_stored : MethodName := ⟨"PrefetchRulesLaw", "stored", "(LPrefetchRules;I[J)I"⟩
abbrev b_Law_stored : ByteArray := method_4_code
def y_Law_queued : MethodName := ⟨"PrefetchRulesLaw", "queued", "(LPrefetchRules;II[J)I"⟩
abbrev b_Law_queued : ByteArray := method_5_code
theorem kw_c797c5faf1 : Cond.code y_Main_access b_Main_access 6 (some .int) ∈ kx_T := kx_mem (List.mem_of_getElem? (i := 276) (by decide +kernel)) (by decide +kernel)
theorem kw_0279d6ea4b : Cond.instanceMethod y_Main_access ∈ kx_T := kx_mem (List.mem_of_getElem? (i := 274) (by decide +kernel)) (by decide +kernel)
theorem kw_86ac449eaa : Cond.selects "PrefetchRules" y_Main_access y_Main_access ∈ kx_T := kx_mem (List.mem_of_getElem? (i := 275) (by decide +kernel)) (by decide +kernel)
theorem kw_3ed83a1688 : Cond.code y_Mod_access b_Mod_access 6 (some .int) ∈ kx_T := kx_mem (List.mem_of_getElem? (i := 829) (by decide +kernel)) (by decide +kernel)
theorem kw_535ecd48f3 : Cond.instanceMethod y_Mod_access ∈ kx_T := kx_mem (List.mem_of_getElem? (i := 827) (by decide +kernel)) (by decide +kernel)
theorem kw_a581ee8a43 : Cond.selects "PrefetchRulesModel" y_Mod_access y_Mod_access ∈ kx_T := kx_mem (List.mem_of_getElem? (i := 828) (by decide +kernel)) (by decide +kernel)
theorem kw_c806b7a837 : Cond.code y_Main_pass b_Main_pass 4 (some .int) ∈ kx_T := kx_mem (List.mem_of_getElem? (i := 605) (by decide +kernel)) (by decide +kernel)
theorem kw_a2cd45306b : Cond.instanceMethod y_Main_pass ∈ kx_T := kx_mem (List.mem_of_getElem? (i := 603) (by decide +kernel)) (by decide +kernel)
theorem kw_2de76a0cb6 : Cond.selects "PrefetchRules" y_Main_pass y_Main_pass ∈ kx_T := kx_mem (List.mem_of_getElem? (i := 604) (by decide +kernel)) (by decide +kernel)
theorem kw_3c094cee98 : Cond.code y_Mod_pass b_Mod_pass 4 (some .int) ∈ kx_T := kx_mem (List.mem_of_getElem? (i := 889) (by decide +kernel)) (by decide +kernel)
theorem kw_b4ef53a069 : Cond.instanceMethod y_Mod_pass ∈ kx_T := kx_mem (List.mem_of_getElem? (i := 887) (by decide +kernel)) (by decide +kernel)
theorem kw_f9785820f2 : Cond.selects "PrefetchRulesModel" y_Mod_pass y_Mod_pass ∈ kx_T := kx_mem (List.mem_of_getElem? (i := 888) (by decide +kernel)) (by decide +kernel)
theorem kw_a2eb5c4e80 : Cond.code y_Main_finish b_Main_finish 2 (some .int) ∈ kx_T := kx_mem (List.mem_of_getElem? (i := 511) (by decide +kernel)) (by decide +kernel)
theorem kw_f0acb64470 : Cond.instanceMethod y_Main_finish ∈ kx_T := kx_mem (List.mem_of_getElem? (i := 509) (by decide +kernel)) (by decide +kernel)
theorem kw_ac342d5951 : Cond.selects "PrefetchRules" y_Main_finish y_Main_finish ∈ kx_T := kx_mem (List.mem_of_getElem? (i := 510) (by decide +kernel)) (by decide +kernel)
theorem kw_c89c380ff8 : Cond.code y_Mod_finish b_Mod_finish 3 (some .int) ∈ kx_T := kx_mem (List.mem_of_getElem? (i := 900) (by decide +kernel)) (by decide +kernel)
theorem kw_2f334734b4 : Cond.instanceMethod y_Mod_finish ∈ kx_T := kx_mem (List.mem_of_getElem? (i := 898) (by decide +kernel)) (by decide +kernel)
theorem kw_58adf97465 : Cond.selects "PrefetchRulesModel" y_Mod_finish y_Mod_finish ∈ kx_T := kx_mem (List.mem_of_getElem? (i := 899) (by decide +kernel)) (by decide +kernel)
theorem kw_b74b509436 : Cond.code y_Main_state b_Main_state 3 (some .int) ∈ kx_T := kx_mem (List.mem_of_getElem? (i := 531) (by decide +kernel)) (by decide +kernel)
theorem kw_0930dee5ca : Cond.instanceMethod y_Main_state ∈ kx_T := kx_mem (List.mem_of_getElem? (i := 529) (by decide +kernel)) (by decide +kernel)
theorem kw_50d1c11c7d : Cond.selects "PrefetchRules" y_Main_state y_Main_state ∈ kx_T := kx_mem (List.mem_of_getElem? (i := 530) (by decide +kernel)) (by decide +kernel)
theorem kw_1bc632c035 : Cond.code y_Mod_state b_Mod_state 3 (some .int) ∈ kx_T := kx_mem (List.mem_of_getElem? (i := 908) (by decide +kernel)) (by decide +kernel)
theorem kw_bd49277ea8 : Cond.instanceMethod y_Mod_state ∈ kx_T := kx_mem (List.mem_of_getElem? (i := 906) (by decide +kernel)) (by decide +kernel)
theorem kw_ea71483d61 : Cond.selects "PrefetchRulesModel" y_Mod_state y_Mod_state ∈ kx_T := kx_mem (List.mem_of_getElem? (i := 907) (by decide +kernel)) (by decide +kernel)
theorem kw_066575247b : Cond.code y_Main_stored b_Main_stored 2 (some .int) ∈ kx_T := kx_mem (List.mem_of_getElem? (i := 680) (by decide +kernel)) (by decide +kernel)
theorem kw_9761583ad6 : Cond.instanceMethod y_Main_stored ∈ kx_T := kx_mem (List.mem_of_getElem? (i := 678) (by decide +kernel)) (by decide +kernel)
theorem kw_4ae9549a09 : Cond.selects "PrefetchRules" y_Main_stored y_Main_stored ∈ kx_T := kx_mem (List.mem_of_getElem? (i := 679) (by decide +kernel)) (by decide +kernel)
theorem kw_cf8def3e64 : Cond.code y_Mod_stored b_Mod_stored 2 (some .int) ∈ kx_T := kx_mem (List.mem_of_getElem? (i := 912) (by decide +kernel)) (by decide +kernel)
theorem kw_95262239e4 : Cond.instanceMethod y_Mod_stored ∈ kx_T := kx_mem (List.mem_of_getElem? (i := 910) (by decide +kernel)) (by decide +kernel)
theorem kw_5f302ec819 : Cond.selects "PrefetchRulesModel" y_Mod_stored y_Mod_stored ∈ kx_T := kx_mem (List.mem_of_getElem? (i := 911) (by decide +kernel)) (by decide +kernel)
theorem kw_80fbd3295f : Cond.code y_Main_queued b_Main_queued 3 (some .int) ∈ kx_T := kx_mem (List.mem_of_getElem? (i := 707) (by decide +kernel)) (by decide +kernel)
theorem kw_186776e9a5 : Cond.instanceMethod y_Main_queued ∈ kx_T := kx_mem (List.mem_of_getElem? (i := 705) (by decide +kernel)) (by decide +kernel)
theorem kw_26b88334bb : Cond.selects "PrefetchRules" y_Main_queued y_Main_queued ∈ kx_T := kx_mem (List.mem_of_getElem? (i := 706) (by decide +kernel)) (by decide +kernel)
theorem kw_2439411afa : Cond.code y_Mod_queued b_Mod_queued 3 (some .int) ∈ kx_T := kx_mem (List.mem_of_getElem? (i := 916) (by decide +kernel)) (by decide +kernel)
theorem kw_c8b8b32a82 : Cond.instanceMethod y_Mod_queued ∈ kx_T := kx_mem (List.mem_of_getElem? (i := 914) (by decide +kernel)) (by decide +kernel)
theorem kw_6edb121e09 : Cond.selects "PrefetchRulesModel" y_Mod_queued y_Mod_queued ∈ kx_T := kx_mem (List.mem_of_getElem? (i := 915) (by decide +kernel)) (by decide +kernel)
theorem kw_2f600b907c : Cond.code y_Main_known b_Main_known 2 (some .int) ∈ kx_T := kx_mem (List.mem_of_getElem? (i := 535) (by decide +kernel)) (by decide +kernel)
theorem kw_428819c0ef : Cond.instanceMethod y_Main_known ∈ kx_T := kx_mem (List.mem_of_getElem? (i := 533) (by decide +kernel)) (by decide +kernel)
theorem kw_d670d1048a : Cond.selects "PrefetchRules" y_Main_known y_Main_known ∈ kx_T := kx_mem (List.mem_of_getElem? (i := 534) (by decide +kernel)) (by decide +kernel)
theorem kw_cd2a1ec233 : Cond.code y_Mod_known b_Mod_known 4 (some .int) ∈ kx_T := kx_mem (List.mem_of_getElem? (i := 920) (by decide +kernel)) (by decide +kernel)
theorem kw_d15e08f965 : Cond.instanceMethod y_Mod_known ∈ kx_T := kx_mem (List.mem_of_getElem? (i := 918) (by decide +kernel)) (by decide +kernel)
theorem kw_d71d5cc0d4 : Cond.selects "PrefetchRulesModel" y_Mod_known y_Mod_known ∈ kx_T := kx_mem (List.mem_of_getElem? (i := 919) (by decide +kernel)) (by decide +kernel)
theorem kw_6562af27ed : Cond.code y_Main_trust b_Main_trust 2 (some .int) ∈ kx_T := kx_mem (List.mem_of_getElem? (i := 557) (by decide +kernel)) (by decide +kernel)
theorem kw_9c16952a5b : Cond.instanceMethod y_Main_trust ∈ kx_T := kx_mem (List.mem_of_getElem? (i := 555) (by decide +kernel)) (by decide +kernel)
theorem kw_728bd4dabe : Cond.selects "PrefetchRules" y_Main_trust y_Main_trust ∈ kx_T := kx_mem (List.mem_of_getElem? (i := 556) (by decide +kernel)) (by decide +kernel)
theorem kw_0f3bcaf8bb : Cond.code y_Mod_trust b_Mod_trust 4 (some .int) ∈ kx_T := kx_mem (List.mem_of_getElem? (i := 924) (by decide +kernel)) (by decide +kernel)
theorem kw_a216ae0039 : Cond.instanceMethod y_Mod_trust ∈ kx_T := kx_mem (List.mem_of_getElem? (i := 922) (by decide +kernel)) (by decide +kernel)
theorem kw_65ef35208a : Cond.selects "PrefetchRulesModel" y_Mod_trust y_Mod_trust ∈ kx_T := kx_mem (List.mem_of_getElem? (i := 923) (by decide +kernel)) (by decide +kernel)
theorem kw_ccd11e3c93 : Cond.code y_Main_count b_Main_count 2 (some .int) ∈ kx_T := kx_mem (List.mem_of_getElem? (i := 579) (by decide +kernel)) (by decide +kernel)
theorem kw_bd9af88aff : Cond.instanceMethod y_Main_count ∈ kx_T := kx_mem (List.mem_of_getElem? (i := 577) (by decide +kernel)) (by decide +kernel)
theorem kw_0f48636a78 : Cond.selects "PrefetchRules" y_Main_count y_Main_count ∈ kx_T := kx_mem (List.mem_of_getElem? (i := 578) (by decide +kernel)) (by decide +kernel)
theorem kw_d776aca4a9 : Cond.code y_Mod_count b_Mod_count 2 (some .int) ∈ kx_T := kx_mem (List.mem_of_getElem? (i := 928) (by decide +kernel)) (by decide +kernel)
theorem kw_c4663a84a9 : Cond.instanceMethod y_Mod_count ∈ kx_T := kx_mem (List.mem_of_getElem? (i := 926) (by decide +kernel)) (by decide +kernel)
theorem kw_0356f39b76 : Cond.selects "PrefetchRulesModel" y_Mod_count y_Mod_count ∈ kx_T := kx_mem (List.mem_of_getElem? (i := 927) (by decide +kernel)) (by decide +kernel)
theorem kw_a44baf8344 : Cond.code y_Main_init b_Main_init 5 none ∈ kx_T := kx_mem (List.mem_of_getElem? (i := 58) (by decide +kernel)) (by decide +kernel)
theorem kw_eb0d429e8d : Cond.instanceMethod y_Main_init ∈ kx_T := kx_mem (List.mem_of_getElem? (i := 57) (by decide +kernel)) (by decide +kernel)
theorem kw_7a2fc81fa8 : Cond.code y_Mod_init b_Mod_init 5 none ∈ kx_T := kx_mem (List.mem_of_getElem? (i := 718) (by decide +kernel)) (by decide +kernel)
theorem kw_f0a34ee018 : Cond.instanceMethod y_Mod_init ∈ kx_T := kx_mem (List.mem_of_getElem? (i := 717) (by decide +kernel)) (by decide +kernel)
theorem kw_b3f99982e6 : Cond.code y_Law_cell b_Law_cell 2 (some .int) ∈ kx_T := kx_mem (List.mem_of_getElem? (i := 597) (by decide +kernel)) (by decide +kernel)
theorem kw_8a40be3bda : Cond.initialized "PrefetchRulesLaw" ∈ kx_T := kx_mem (List.mem_of_getElem? (i := 37) (by decide +kernel)) (by decide +kernel)
theorem kw_5fe20fec99 : Cond.static y_Law_cell ∈ kx_T := kx_mem (List.mem_of_getElem? (i := 596) (by decide +kernel)) (by decide +kernel)
theorem kw_bcb655d677 : Cond.methodLink "PrefetchRulesLaw" 7 y_Main_pass ∈ kx_T := kx_mem (List.mem_of_getElem? (i := 602) (by decide +kernel)) (by decide +kernel)
theorem kw_37a9750246 : Cond.classLink "PrefetchRulesLaw" 13 "java/lang/IllegalArgumentException" ∈ kx_T := kx_mem (List.mem_of_getElem? (i := 601) (by decide +kernel)) (by decide +kernel)
theorem kw_82e1a6475f : Cond.methodLink "PrefetchRulesLaw" 15 y_Main_stored ∈ kx_T := kx_mem (List.mem_of_getElem? (i := 677) (by decide +kernel)) (by decide +kernel)
theorem kw_96463d7b46 : Cond.classLink "PrefetchRulesLaw" 18 "java/lang/IndexOutOfBoundsException" ∈ kx_T := kx_mem (List.mem_of_getElem? (i := 676) (by decide +kernel)) (by decide +kernel)
theorem kw_d3562c1ca3 : Cond.methodLink "PrefetchRulesLaw" 20 y_Main_queued ∈ kx_T := kx_mem (List.mem_of_getElem? (i := 704) (by decide +kernel)) (by decide +kernel)
theorem kw_3374cae7d2 : Cond.static y_Law_pass ∈ kx_T := kx_mem (List.mem_of_getElem? (i := 599) (by decide +kernel)) (by decide +kernel)
theorem kw_67d404dec2 : Cond.static y_Law_stored ∈ kx_T := kx_mem (List.mem_of_getElem? (i := 674) (by decide +kernel)) (by decide +kernel)
theorem kw_3780db23a5 : Cond.static y_Law_queued ∈ kx_T := kx_mem (List.mem_of_getElem? (i := 702) (by decide +kernel)) (by decide +kernel)
theorem kw_b31e5c89e2 : Cond.methodLink "PrefetchRulesLaw" 36 y_Main_access ∈ kx_T := kx_mem (List.mem_of_getElem? (i := 273) (by decide +kernel)) (by decide +kernel)
theorem kw_5cf9314201 : Cond.methodLink "PrefetchRulesLaw" 39 y_Mod_access ∈ kx_T := kx_mem (List.mem_of_getElem? (i := 826) (by decide +kernel)) (by decide +kernel)
theorem kw_71a4180948 : Cond.methodLink "PrefetchRulesLaw" 40 y_Law_pass ∈ kx_T := kx_mem (List.mem_of_getElem? (i := 598) (by decide +kernel)) (by decide +kernel)
theorem kw_aecb472690 : Cond.methodLink "PrefetchRulesLaw" 43 y_Mod_pass ∈ kx_T := kx_mem (List.mem_of_getElem? (i := 886) (by decide +kernel)) (by decide +kernel)
theorem kw_0a16aee37a : Cond.methodLink "PrefetchRulesLaw" 44 y_Main_finish ∈ kx_T := kx_mem (List.mem_of_getElem? (i := 508) (by decide +kernel)) (by decide +kernel)
theorem kw_56a0d1831c : Cond.methodLink "PrefetchRulesLaw" 48 y_Mod_finish ∈ kx_T := kx_mem (List.mem_of_getElem? (i := 897) (by decide +kernel)) (by decide +kernel)
theorem kw_3e569c7ad6 : Cond.methodLink "PrefetchRulesLaw" 49 y_Main_state ∈ kx_T := kx_mem (List.mem_of_getElem? (i := 528) (by decide +kernel)) (by decide +kernel)
theorem kw_5a8d1575a1 : Cond.methodLink "PrefetchRulesLaw" 52 y_Mod_state ∈ kx_T := kx_mem (List.mem_of_getElem? (i := 905) (by decide +kernel)) (by decide +kernel)
theorem kw_493f2cdd67 : Cond.methodLink "PrefetchRulesLaw" 53 y_Law_stored ∈ kx_T := kx_mem (List.mem_of_getElem? (i := 673) (by decide +kernel)) (by decide +kernel)
theorem kw_b1d8d13a5e : Cond.methodLink "PrefetchRulesLaw" 55 y_Mod_stored ∈ kx_T := kx_mem (List.mem_of_getElem? (i := 909) (by decide +kernel)) (by decide +kernel)
theorem kw_6885339cad : Cond.methodLink "PrefetchRulesLaw" 56 y_Law_queued ∈ kx_T := kx_mem (List.mem_of_getElem? (i := 701) (by decide +kernel)) (by decide +kernel)
theorem kw_f24a0a55d3 : Cond.methodLink "PrefetchRulesLaw" 59 y_Mod_queued ∈ kx_T := kx_mem (List.mem_of_getElem? (i := 913) (by decide +kernel)) (by decide +kernel)
theorem kw_8925b8752c : Cond.methodLink "PrefetchRulesLaw" 60 y_Main_known ∈ kx_T := kx_mem (List.mem_of_getElem? (i := 532) (by decide +kernel)) (by decide +kernel)
theorem kw_97dfbe2b37 : Cond.methodLink "PrefetchRulesLaw" 63 y_Mod_known ∈ kx_T := kx_mem (List.mem_of_getElem? (i := 917) (by decide +kernel)) (by decide +kernel)
theorem kw_9ffbd6ac39 : Cond.methodLink "PrefetchRulesLaw" 64 y_Main_trust ∈ kx_T := kx_mem (List.mem_of_getElem? (i := 554) (by decide +kernel)) (by decide +kernel)
theorem kw_a207274404 : Cond.methodLink "PrefetchRulesLaw" 67 y_Mod_trust ∈ kx_T := kx_mem (List.mem_of_getElem? (i := 921) (by decide +kernel)) (by decide +kernel)
theorem kw_c354fd0912 : Cond.methodLink "PrefetchRulesLaw" 68 y_Main_count ∈ kx_T := kx_mem (List.mem_of_getElem? (i := 576) (by decide +kernel)) (by decide +kernel)
theorem kw_5dbd62adf2 : Cond.methodLink "PrefetchRulesLaw" 71 y_Mod_count ∈ kx_T := kx_mem (List.mem_of_getElem? (i := 925) (by decide +kernel)) (by decide +kernel)
theorem kw_4af2c24e81 : Cond.instantiable "PrefetchRules" 14 ∈ kx_T := kx_mem (List.mem_of_getElem? (i := 55) (by decide +kernel)) (by decide +kernel)
theorem kw_a804a8236a : Cond.instantiable "PrefetchRulesModel" 34 ∈ kx_T := kx_mem (List.mem_of_getElem? (i := 715) (by decide +kernel)) (by decide +kernel)
theorem kw_93731f458b : Cond.arrayClass .long ∈ kx_T := kx_mem (List.mem_of_getElem? (i := 929) (by decide +kernel)) (by decide +kernel)
theorem kw_6c2cc257bf : Cond.methodLink "PrefetchRulesLaw" 24 y_Law_cell ∈ kx_T := kx_mem (List.mem_of_getElem? (i := 595) (by decide +kernel)) (by decide +kernel)
theorem kw_c2db5b6dfb : Cond.classLink "PrefetchRulesLaw" 8 "PrefetchRules" ∈ kx_T := kx_mem (List.mem_of_getElem? (i := 54) (by decide +kernel)) (by decide +kernel)
theorem kw_b8fc6bbd71 : Cond.methodLink "PrefetchRulesLaw" 30 y_Main_init ∈ kx_T := kx_mem (List.mem_of_getElem? (i := 56) (by decide +kernel)) (by decide +kernel)
theorem kw_035f39818a : Cond.classLink "PrefetchRulesLaw" 33 "PrefetchRulesModel" ∈ kx_T := kx_mem (List.mem_of_getElem? (i := 714) (by decide +kernel)) (by decide +kernel)
theorem kw_4117a5370f : Cond.methodLink "PrefetchRulesLaw" 35 y_Mod_init ∈ kx_T := kx_mem (List.mem_of_getElem? (i := 716) (by decide +kernel)) (by decide +kernel)
theorem kw_law_pass : Cond.codeWith y_Law_pass b_Law_pass 4 (some .int) [(0, 9, 12, 13)] ∈ kx_T := kx_mem (List.mem_of_getElem? (i := 600) (by decide +kernel)) (by decide +kernel)
theorem kw_law_stored : Cond.codeWith y_Law_stored b_Law_stored 4 (some .int) [(0, 9, 12, 18)] ∈ kx_T := kx_mem (List.mem_of_getElem? (i := 675) (by decide +kernel)) (by decide +kernel)
theorem kw_law_queued : Cond.codeWith y_Law_queued b_Law_queued 5 (some .int) [(0, 10, 13, 18)] ∈ kx_T := kx_mem (List.mem_of_getElem? (i := 703) (by decide +kernel)) (by decide +kernel)
theorem mv_Main_access : kx_mV y_Main_access b_Main_access 6 (some .int) 2 := ⟨kw_c797c5faf1, kw_0279d6ea4b, kw_86ac449eaa, kw_66c3f8be15, by decide +kernel⟩
theorem mv_Mod_access : kx_mV y_Mod_access b_Mod_access 6 (some .int) 2 := ⟨kw_3ed83a1688, kw_535ecd48f3, kw_a581ee8a43, kw_fb7641aad9, by decide +kernel⟩
theorem mv_Main_pass : kx_mV y_Main_pass b_Main_pass 4 (some .int) 1 := ⟨kw_c806b7a837, kw_a2cd45306b, kw_2de76a0cb6, kw_66c3f8be15, by decide +kernel⟩
theorem mv_Mod_pass : kx_mV y_Mod_pass b_Mod_pass 4 (some .int) 1 := ⟨kw_3c094cee98, kw_b4ef53a069, kw_f9785820f2, kw_fb7641aad9, by decide +kernel⟩
theorem mv_Main_finish : kx_mV y_Main_finish b_Main_finish 2 (some .int) 0 := ⟨kw_a2eb5c4e80, kw_f0acb64470, kw_ac342d5951, kw_66c3f8be15, by decide +kernel⟩
theorem mv_Mod_finish : kx_mV y_Mod_finish b_Mod_finish 3 (some .int) 0 := ⟨kw_c89c380ff8, kw_2f334734b4, kw_58adf97465, kw_fb7641aad9, by decide +kernel⟩
theorem mv_Main_state : kx_mV y_Main_state b_Main_state 3 (some .int) 1 := ⟨kw_b74b509436, kw_0930dee5ca, kw_50d1c11c7d, kw_66c3f8be15, by decide +kernel⟩
theorem mv_Mod_state : kx_mV y_Mod_state b_Mod_state 3 (some .int) 1 := ⟨kw_1bc632c035, kw_bd49277ea8, kw_ea71483d61, kw_fb7641aad9, by decide +kernel⟩
theorem mv_Main_stored : kx_mV y_Main_stored b_Main_stored 2 (some .int) 1 := ⟨kw_066575247b, kw_9761583ad6, kw_4ae9549a09, kw_66c3f8be15, by decide +kernel⟩
theorem mv_Mod_stored : kx_mV y_Mod_stored b_Mod_stored 2 (some .int) 1 := ⟨kw_cf8def3e64, kw_95262239e4, kw_5f302ec819, kw_fb7641aad9, by decide +kernel⟩
theorem mv_Main_queued : kx_mV y_Main_queued b_Main_queued 3 (some .int) 2 := ⟨kw_80fbd3295f, kw_186776e9a5, kw_26b88334bb, kw_66c3f8be15, by decide +kernel⟩
theorem mv_Mod_queued : kx_mV y_Mod_queued b_Mod_queued 3 (some .int) 2 := ⟨kw_2439411afa, kw_c8b8b32a82, kw_6edb121e09, kw_fb7641aad9, by decide +kernel⟩
theorem mv_Main_known : kx_mV y_Main_known b_Main_known 2 (some .int) 1 := ⟨kw_2f600b907c, kw_428819c0ef, kw_d670d1048a, kw_66c3f8be15, by decide +kernel⟩
theorem mv_Mod_known : kx_mV y_Mod_known b_Mod_known 4 (some .int) 1 := ⟨kw_cd2a1ec233, kw_d15e08f965, kw_d71d5cc0d4, kw_fb7641aad9, by decide +kernel⟩
theorem mv_Main_trust : kx_mV y_Main_trust b_Main_trust 2 (some .int) 1 := ⟨kw_6562af27ed, kw_9c16952a5b, kw_728bd4dabe, kw_66c3f8be15, by decide +kernel⟩
theorem mv_Mod_trust : kx_mV y_Mod_trust b_Mod_trust 4 (some .int) 1 := ⟨kw_0f3bcaf8bb, kw_a216ae0039, kw_65ef35208a, kw_fb7641aad9, by decide +kernel⟩
theorem mv_Main_count : kx_mV y_Main_count b_Main_count 2 (some .int) 1 := ⟨kw_ccd11e3c93, kw_bd9af88aff, kw_0f48636a78, kw_66c3f8be15, by decide +kernel⟩
theorem mv_Mod_count : kx_mV y_Mod_count b_Mod_count 2 (some .int) 1 := ⟨kw_d776aca4a9, kw_c4663a84a9, kw_0356f39b76, kw_fb7641aad9, by decide +kernel⟩
theorem mi_Main_init : kx_mI y_Main_init b_Main_init 5 4 := ⟨kw_a44baf8344, kw_eb0d429e8d, kw_66c3f8be15, rfl, by decide +kernel⟩
theorem mi_Mod_init : kx_mI y_Mod_init b_Mod_init 5 4 := ⟨kw_7a2fc81fa8, kw_f0a34ee018, kw_fb7641aad9, rfl, by decide +kernel⟩
theorem ms_Law_cell : kx_mS y_Law_cell b_Law_cell 2 (some .int) 2 := ⟨kw_b3f99982e6, kw_5fe20fec99, kw_8a40be3bda, by decide +kernel⟩
theorem d_Law_cell_0 : decode b_Law_cell 0 = .ok (.iload_n 1, 1) := by decide +kernel
theorem d_Law_cell_1 : decode b_Law_cell 1 = .ok (.aload_n 0, 1) := by decide +kernel
theorem d_Law_cell_2 : decode b_Law_cell 2 = .ok (.arraylength, 1) := by decide +kernel
theorem d_Law_cell_3 : decode b_Law_cell 3 = .ok (.if_icmp .ge 9, 3) := by decide +kernel
theorem d_Law_cell_6 : decode b_Law_cell 6 = .ok (.aload_n 0, 1) := by decide +kernel
theorem d_Law_cell_7 : decode b_Law_cell 7 = .ok (.iload_n 1, 1) := by decide +kernel
theorem d_Law_cell_8 : decode b_Law_cell 8 = .ok (.iaload, 1) := by decide +kernel
theorem d_Law_cell_9 : decode b_Law_cell 9 = .ok (.goto 4, 3) := by decide +kernel
theorem d_Law_cell_12 : decode b_Law_cell 12 = .ok (.iconst 0, 1) := by decide +kernel
theorem d_Law_cell_13 : decode b_Law_cell 13 = .ok (.ireturn, 1) := by decide +kernel
theorem d_Law_pass_0 : decode b_Law_pass 0 = .ok (.aload_n 2, 1) := by decide +kernel
theorem d_Law_pass_1 : decode b_Law_pass 1 = .ok (.iconst 0, 1) := by decide +kernel
theorem d_Law_pass_2 : decode b_Law_pass 2 = .ok (.aload_n 0, 1) := by decide +kernel
theorem d_Law_pass_3 : decode b_Law_pass 3 = .ok (.iload_n 1, 1) := by decide +kernel
theorem d_Law_pass_4 : decode b_Law_pass 4 = .ok (.invokevirtual 7, 3) := by decide +kernel
theorem d_Law_pass_7 : decode b_Law_pass 7 = .ok (.i2l, 1) := by decide +kernel
theorem d_Law_pass_8 : decode b_Law_pass 8 = .ok (.lastore, 1) := by decide +kernel
theorem d_Law_pass_9 : decode b_Law_pass 9 = .ok (.goto 6, 3) := by decide +kernel
theorem d_Law_pass_12 : decode b_Law_pass 12 = .ok (.astore_n 3, 1) := by decide +kernel
theorem d_Law_pass_13 : decode b_Law_pass 13 = .ok (.iconst 1, 1) := by decide +kernel
theorem d_Law_pass_14 : decode b_Law_pass 14 = .ok (.ireturn, 1) := by decide +kernel
theorem d_Law_pass_15 : decode b_Law_pass 15 = .ok (.iconst 0, 1) := by decide +kernel
theorem d_Law_pass_16 : decode b_Law_pass 16 = .ok (.ireturn, 1) := by decide +kernel
theorem d_Law_stored_0 : decode b_Law_stored 0 = .ok (.aload_n 2, 1) := by decide +kernel
theorem d_Law_stored_1 : decode b_Law_stored 1 = .ok (.iconst 0, 1) := by decide +kernel
theorem d_Law_stored_2 : decode b_Law_stored 2 = .ok (.aload_n 0, 1) := by decide +kernel
theorem d_Law_stored_3 : decode b_Law_stored 3 = .ok (.iload_n 1, 1) := by decide +kernel
theorem d_Law_stored_4 : decode b_Law_stored 4 = .ok (.invokevirtual 15, 3) := by decide +kernel
theorem d_Law_stored_7 : decode b_Law_stored 7 = .ok (.i2l, 1) := by decide +kernel
theorem d_Law_stored_8 : decode b_Law_stored 8 = .ok (.lastore, 1) := by decide +kernel
theorem d_Law_stored_9 : decode b_Law_stored 9 = .ok (.goto 6, 3) := by decide +kernel
theorem d_Law_stored_12 : decode b_Law_stored 12 = .ok (.astore_n 3, 1) := by decide +kernel
theorem d_Law_stored_13 : decode b_Law_stored 13 = .ok (.iconst 1, 1) := by decide +kernel
theorem d_Law_stored_14 : decode b_Law_stored 14 = .ok (.ireturn, 1) := by decide +kernel
theorem d_Law_stored_15 : decode b_Law_stored 15 = .ok (.iconst 0, 1) := by decide +kernel
theorem d_Law_stored_16 : decode b_Law_stored 16 = .ok (.ireturn, 1) := by decide +kernel
theorem d_Law_queued_0 : decode b_Law_queued 0 = .ok (.aload_n 3, 1) := by decide +kernel
theorem d_Law_queued_1 : decode b_Law_queued 1 = .ok (.iconst 0, 1) := by decide +kernel
theorem d_Law_queued_2 : decode b_Law_queued 2 = .ok (.aload_n 0, 1) := by decide +kernel
theorem d_Law_queued_3 : decode b_Law_queued 3 = .ok (.iload_n 1, 1) := by decide +kernel
theorem d_Law_queued_4 : decode b_Law_queued 4 = .ok (.iload_n 2, 1) := by decide +kernel
theorem d_Law_queued_5 : decode b_Law_queued 5 = .ok (.invokevirtual 20, 3) := by decide +kernel
theorem d_Law_queued_8 : decode b_Law_queued 8 = .ok (.i2l, 1) := by decide +kernel
theorem d_Law_queued_9 : decode b_Law_queued 9 = .ok (.lastore, 1) := by decide +kernel
theorem d_Law_queued_10 : decode b_Law_queued 10 = .ok (.goto 7, 3) := by decide +kernel
theorem d_Law_queued_13 : decode b_Law_queued 13 = .ok (.astore 4, 2) := by decide +kernel
theorem d_Law_queued_15 : decode b_Law_queued 15 = .ok (.iconst 1, 1) := by decide +kernel
theorem d_Law_queued_16 : decode b_Law_queued 16 = .ok (.ireturn, 1) := by decide +kernel
theorem d_Law_queued_17 : decode b_Law_queued 17 = .ok (.iconst 0, 1) := by decide +kernel
theorem d_Law_queued_18 : decode b_Law_queued 18 = .ok (.ireturn, 1) := by decide +kernel
theorem d_law_0 : decode code 0 = .ok (.new 8, 3) := by decide +kernel
theorem d_law_3 : decode code 3 = .ok (.dup, 1) := by decide +kernel
theorem d_law_4 : decode code 4 = .ok (.aload_n 0, 1) := by decide +kernel
theorem d_law_5 : decode code 5 = .ok (.iconst 0, 1) := by decide +kernel
theorem d_law_6 : decode code 6 = .ok (.invokestatic 24, 3) := by decide +kernel
theorem d_law_9 : decode code 9 = .ok (.aload_n 0, 1) := by decide +kernel
theorem d_law_10 : decode code 10 = .ok (.iconst 1, 1) := by decide +kernel
theorem d_law_11 : decode code 11 = .ok (.invokestatic 24, 3) := by decide +kernel
theorem d_law_14 : decode code 14 = .ok (.aload_n 0, 1) := by decide +kernel
theorem d_law_15 : decode code 15 = .ok (.iconst 2, 1) := by decide +kernel
theorem d_law_16 : decode code 16 = .ok (.invokestatic 24, 3) := by decide +kernel
theorem d_law_19 : decode code 19 = .ok (.aload_n 0, 1) := by decide +kernel
theorem d_law_20 : decode code 20 = .ok (.iconst 3, 1) := by decide +kernel
theorem d_law_21 : decode code 21 = .ok (.invokestatic 24, 3) := by decide +kernel
theorem d_law_24 : decode code 24 = .ok (.invokespecial 30, 3) := by decide +kernel
theorem d_law_27 : decode code 27 = .ok (.astore_n 1, 1) := by decide +kernel
theorem d_law_28 : decode code 28 = .ok (.new 33, 3) := by decide +kernel
theorem d_law_31 : decode code 31 = .ok (.dup, 1) := by decide +kernel
theorem d_law_32 : decode code 32 = .ok (.aload_n 0, 1) := by decide +kernel
theorem d_law_33 : decode code 33 = .ok (.iconst 0, 1) := by decide +kernel
theorem d_law_34 : decode code 34 = .ok (.invokestatic 24, 3) := by decide +kernel
theorem d_law_37 : decode code 37 = .ok (.aload_n 0, 1) := by decide +kernel
theorem d_law_38 : decode code 38 = .ok (.iconst 1, 1) := by decide +kernel
theorem d_law_39 : decode code 39 = .ok (.invokestatic 24, 3) := by decide +kernel
theorem d_law_42 : decode code 42 = .ok (.aload_n 0, 1) := by decide +kernel
theorem d_law_43 : decode code 43 = .ok (.iconst 2, 1) := by decide +kernel
theorem d_law_44 : decode code 44 = .ok (.invokestatic 24, 3) := by decide +kernel
theorem d_law_47 : decode code 47 = .ok (.aload_n 0, 1) := by decide +kernel
theorem d_law_48 : decode code 48 = .ok (.iconst 3, 1) := by decide +kernel
theorem d_law_49 : decode code 49 = .ok (.invokestatic 24, 3) := by decide +kernel
theorem d_law_52 : decode code 52 = .ok (.invokespecial 35, 3) := by decide +kernel
theorem d_law_55 : decode code 55 = .ok (.astore_n 2, 1) := by decide +kernel
theorem d_law_56 : decode code 56 = .ok (.iconst 1, 1) := by decide +kernel
theorem d_law_57 : decode code 57 = .ok (.newarray .long, 2) := by decide +kernel
theorem d_law_59 : decode code 59 = .ok (.astore_n 3, 1) := by decide +kernel
theorem d_law_60 : decode code 60 = .ok (.iconst 4, 1) := by decide +kernel
theorem d_law_61 : decode code 61 = .ok (.istore 4, 2) := by decide +kernel
theorem d_law_63 : decode code 63 = .ok (.iload 4, 2) := by decide +kernel
theorem d_law_65 : decode code 65 = .ok (.aload_n 0, 1) := by decide +kernel
theorem d_law_66 : decode code 66 = .ok (.arraylength, 1) := by decide +kernel
theorem d_law_67 : decode code 67 = .ok (.iconst 3, 1) := by decide +kernel
theorem d_law_68 : decode code 68 = .ok (.isub, 1) := by decide +kernel
theorem d_law_69 : decode code 69 = .ok (.if_icmp .gt 311, 3) := by decide +kernel
theorem d_law_72 : decode code 72 = .ok (.aload_n 0, 1) := by decide +kernel
theorem d_law_73 : decode code 73 = .ok (.iload 4, 2) := by decide +kernel
theorem d_law_75 : decode code 75 = .ok (.iaload, 1) := by decide +kernel
theorem d_law_76 : decode code 76 = .ok (.bipush 15, 2) := by decide +kernel
theorem d_law_78 : decode code 78 = .ok (.iand, 1) := by decide +kernel
theorem d_law_79 : decode code 79 = .ok (.tableswitch 295 0 8 #[49, 86, 114, 127, 152, 180, 220, 245, 270], 49) := by decide +kernel
theorem d_law_128 : decode code 128 = .ok (.aload_n 1, 1) := by decide +kernel
theorem d_law_129 : decode code 129 = .ok (.aload_n 0, 1) := by decide +kernel
theorem d_law_130 : decode code 130 = .ok (.iload 4, 2) := by decide +kernel
theorem d_law_132 : decode code 132 = .ok (.iconst 1, 1) := by decide +kernel
theorem d_law_133 : decode code 133 = .ok (.iadd, 1) := by decide +kernel
theorem d_law_134 : decode code 134 = .ok (.iaload, 1) := by decide +kernel
theorem d_law_135 : decode code 135 = .ok (.aload_n 0, 1) := by decide +kernel
theorem d_law_136 : decode code 136 = .ok (.iload 4, 2) := by decide +kernel
theorem d_law_138 : decode code 138 = .ok (.iconst 2, 1) := by decide +kernel
theorem d_law_139 : decode code 139 = .ok (.iadd, 1) := by decide +kernel
theorem d_law_140 : decode code 140 = .ok (.iaload, 1) := by decide +kernel
theorem d_law_141 : decode code 141 = .ok (.invokevirtual 36, 3) := by decide +kernel
theorem d_law_144 : decode code 144 = .ok (.pop, 1) := by decide +kernel
theorem d_law_145 : decode code 145 = .ok (.aload_n 2, 1) := by decide +kernel
theorem d_law_146 : decode code 146 = .ok (.aload_n 0, 1) := by decide +kernel
theorem d_law_147 : decode code 147 = .ok (.iload 4, 2) := by decide +kernel
theorem d_law_149 : decode code 149 = .ok (.iconst 1, 1) := by decide +kernel
theorem d_law_150 : decode code 150 = .ok (.iadd, 1) := by decide +kernel
theorem d_law_151 : decode code 151 = .ok (.iaload, 1) := by decide +kernel
theorem d_law_152 : decode code 152 = .ok (.aload_n 0, 1) := by decide +kernel
theorem d_law_153 : decode code 153 = .ok (.iload 4, 2) := by decide +kernel
theorem d_law_155 : decode code 155 = .ok (.iconst 2, 1) := by decide +kernel
theorem d_law_156 : decode code 156 = .ok (.iadd, 1) := by decide +kernel
theorem d_law_157 : decode code 157 = .ok (.iaload, 1) := by decide +kernel
theorem d_law_158 : decode code 158 = .ok (.invokevirtual 39, 3) := by decide +kernel
theorem d_law_161 : decode code 161 = .ok (.pop, 1) := by decide +kernel
theorem d_law_162 : decode code 162 = .ok (.goto 212, 3) := by decide +kernel
theorem d_law_165 : decode code 165 = .ok (.aload_n 1, 1) := by decide +kernel
theorem d_law_166 : decode code 166 = .ok (.aload_n 0, 1) := by decide +kernel
theorem d_law_167 : decode code 167 = .ok (.iload 4, 2) := by decide +kernel
theorem d_law_169 : decode code 169 = .ok (.iconst 1, 1) := by decide +kernel
theorem d_law_170 : decode code 170 = .ok (.iadd, 1) := by decide +kernel
theorem d_law_171 : decode code 171 = .ok (.iaload, 1) := by decide +kernel
theorem d_law_172 : decode code 172 = .ok (.aload_n 3, 1) := by decide +kernel
theorem d_law_173 : decode code 173 = .ok (.invokestatic 40, 3) := by decide +kernel
theorem d_law_176 : decode code 176 = .ok (.istore 5, 2) := by decide +kernel
theorem d_law_178 : decode code 178 = .ok (.aload_n 2, 1) := by decide +kernel
theorem d_law_179 : decode code 179 = .ok (.aload_n 0, 1) := by decide +kernel
theorem d_law_180 : decode code 180 = .ok (.iload 4, 2) := by decide +kernel
theorem d_law_182 : decode code 182 = .ok (.iconst 1, 1) := by decide +kernel
theorem d_law_183 : decode code 183 = .ok (.iadd, 1) := by decide +kernel
theorem d_law_184 : decode code 184 = .ok (.iaload, 1) := by decide +kernel
theorem d_law_185 : decode code 185 = .ok (.invokevirtual 43, 3) := by decide +kernel
theorem d_law_188 : decode code 188 = .ok (.istore 6, 2) := by decide +kernel
theorem d_law_190 : decode code 190 = .ok (.goto 184, 3) := by decide +kernel
theorem d_law_193 : decode code 193 = .ok (.aload_n 1, 1) := by decide +kernel
theorem d_law_194 : decode code 194 = .ok (.invokevirtual 44, 3) := by decide +kernel
theorem d_law_197 : decode code 197 = .ok (.pop, 1) := by decide +kernel
theorem d_law_198 : decode code 198 = .ok (.aload_n 2, 1) := by decide +kernel
theorem d_law_199 : decode code 199 = .ok (.invokevirtual 48, 3) := by decide +kernel
theorem d_law_202 : decode code 202 = .ok (.pop, 1) := by decide +kernel
theorem d_law_203 : decode code 203 = .ok (.goto 171, 3) := by decide +kernel
theorem d_law_206 : decode code 206 = .ok (.aload_n 1, 1) := by decide +kernel
theorem d_law_207 : decode code 207 = .ok (.aload_n 0, 1) := by decide +kernel
theorem d_law_208 : decode code 208 = .ok (.iload 4, 2) := by decide +kernel
theorem d_law_210 : decode code 210 = .ok (.iconst 1, 1) := by decide +kernel
theorem d_law_211 : decode code 211 = .ok (.iadd, 1) := by decide +kernel
theorem d_law_212 : decode code 212 = .ok (.iaload, 1) := by decide +kernel
theorem d_law_213 : decode code 213 = .ok (.invokevirtual 49, 3) := by decide +kernel
theorem d_law_216 : decode code 216 = .ok (.aload_n 2, 1) := by decide +kernel
theorem d_law_217 : decode code 217 = .ok (.aload_n 0, 1) := by decide +kernel
theorem d_law_218 : decode code 218 = .ok (.iload 4, 2) := by decide +kernel
theorem d_law_220 : decode code 220 = .ok (.iconst 1, 1) := by decide +kernel
theorem d_law_221 : decode code 221 = .ok (.iadd, 1) := by decide +kernel
theorem d_law_222 : decode code 222 = .ok (.iaload, 1) := by decide +kernel
theorem d_law_223 : decode code 223 = .ok (.invokevirtual 52, 3) := by decide +kernel
theorem d_law_226 : decode code 226 = .ok (.if_icmp .eq 148, 3) := by decide +kernel
theorem d_law_229 : decode code 229 = .ok (.iconst 0, 1) := by decide +kernel
theorem d_law_230 : decode code 230 = .ok (.ireturn, 1) := by decide +kernel
theorem d_law_231 : decode code 231 = .ok (.aload_n 1, 1) := by decide +kernel
theorem d_law_232 : decode code 232 = .ok (.aload_n 0, 1) := by decide +kernel
theorem d_law_233 : decode code 233 = .ok (.iload 4, 2) := by decide +kernel
theorem d_law_235 : decode code 235 = .ok (.iconst 1, 1) := by decide +kernel
theorem d_law_236 : decode code 236 = .ok (.iadd, 1) := by decide +kernel
theorem d_law_237 : decode code 237 = .ok (.iaload, 1) := by decide +kernel
theorem d_law_238 : decode code 238 = .ok (.aload_n 3, 1) := by decide +kernel
theorem d_law_239 : decode code 239 = .ok (.invokestatic 53, 3) := by decide +kernel
theorem d_law_242 : decode code 242 = .ok (.istore 5, 2) := by decide +kernel
theorem d_law_244 : decode code 244 = .ok (.aload_n 2, 1) := by decide +kernel
theorem d_law_245 : decode code 245 = .ok (.aload_n 0, 1) := by decide +kernel
theorem d_law_246 : decode code 246 = .ok (.iload 4, 2) := by decide +kernel
theorem d_law_248 : decode code 248 = .ok (.iconst 1, 1) := by decide +kernel
theorem d_law_249 : decode code 249 = .ok (.iadd, 1) := by decide +kernel
theorem d_law_250 : decode code 250 = .ok (.iaload, 1) := by decide +kernel
theorem d_law_251 : decode code 251 = .ok (.invokevirtual 55, 3) := by decide +kernel
theorem d_law_254 : decode code 254 = .ok (.istore 6, 2) := by decide +kernel
theorem d_law_256 : decode code 256 = .ok (.goto 118, 3) := by decide +kernel
theorem d_law_259 : decode code 259 = .ok (.aload_n 1, 1) := by decide +kernel
theorem d_law_260 : decode code 260 = .ok (.aload_n 0, 1) := by decide +kernel
theorem d_law_261 : decode code 261 = .ok (.iload 4, 2) := by decide +kernel
theorem d_law_263 : decode code 263 = .ok (.iconst 1, 1) := by decide +kernel
theorem d_law_264 : decode code 264 = .ok (.iadd, 1) := by decide +kernel
theorem d_law_265 : decode code 265 = .ok (.iaload, 1) := by decide +kernel
theorem d_law_266 : decode code 266 = .ok (.aload_n 0, 1) := by decide +kernel
theorem d_law_267 : decode code 267 = .ok (.iload 4, 2) := by decide +kernel
theorem d_law_269 : decode code 269 = .ok (.iconst 2, 1) := by decide +kernel
theorem d_law_270 : decode code 270 = .ok (.iadd, 1) := by decide +kernel
theorem d_law_271 : decode code 271 = .ok (.iaload, 1) := by decide +kernel
theorem d_law_272 : decode code 272 = .ok (.aload_n 3, 1) := by decide +kernel
theorem d_law_273 : decode code 273 = .ok (.invokestatic 56, 3) := by decide +kernel
theorem d_law_276 : decode code 276 = .ok (.istore 5, 2) := by decide +kernel
theorem d_law_278 : decode code 278 = .ok (.aload_n 2, 1) := by decide +kernel
theorem d_law_279 : decode code 279 = .ok (.aload_n 0, 1) := by decide +kernel
theorem d_law_280 : decode code 280 = .ok (.iload 4, 2) := by decide +kernel
theorem d_law_282 : decode code 282 = .ok (.iconst 1, 1) := by decide +kernel
theorem d_law_283 : decode code 283 = .ok (.iadd, 1) := by decide +kernel
theorem d_law_284 : decode code 284 = .ok (.iaload, 1) := by decide +kernel
theorem d_law_285 : decode code 285 = .ok (.aload_n 0, 1) := by decide +kernel
theorem d_law_286 : decode code 286 = .ok (.iload 4, 2) := by decide +kernel
theorem d_law_288 : decode code 288 = .ok (.iconst 2, 1) := by decide +kernel
theorem d_law_289 : decode code 289 = .ok (.iadd, 1) := by decide +kernel
theorem d_law_290 : decode code 290 = .ok (.iaload, 1) := by decide +kernel
theorem d_law_291 : decode code 291 = .ok (.invokevirtual 59, 3) := by decide +kernel
theorem d_law_294 : decode code 294 = .ok (.istore 6, 2) := by decide +kernel
theorem d_law_296 : decode code 296 = .ok (.goto 78, 3) := by decide +kernel
theorem d_law_299 : decode code 299 = .ok (.aload_n 1, 1) := by decide +kernel
theorem d_law_300 : decode code 300 = .ok (.aload_n 0, 1) := by decide +kernel
theorem d_law_301 : decode code 301 = .ok (.iload 4, 2) := by decide +kernel
theorem d_law_303 : decode code 303 = .ok (.iconst 1, 1) := by decide +kernel
theorem d_law_304 : decode code 304 = .ok (.iadd, 1) := by decide +kernel
theorem d_law_305 : decode code 305 = .ok (.iaload, 1) := by decide +kernel
theorem d_law_306 : decode code 306 = .ok (.invokevirtual 60, 3) := by decide +kernel
theorem d_law_309 : decode code 309 = .ok (.pop, 1) := by decide +kernel
theorem d_law_310 : decode code 310 = .ok (.aload_n 2, 1) := by decide +kernel
theorem d_law_311 : decode code 311 = .ok (.aload_n 0, 1) := by decide +kernel
theorem d_law_312 : decode code 312 = .ok (.iload 4, 2) := by decide +kernel
theorem d_law_314 : decode code 314 = .ok (.iconst 1, 1) := by decide +kernel
theorem d_law_315 : decode code 315 = .ok (.iadd, 1) := by decide +kernel
theorem d_law_316 : decode code 316 = .ok (.iaload, 1) := by decide +kernel
theorem d_law_317 : decode code 317 = .ok (.invokevirtual 63, 3) := by decide +kernel
theorem d_law_320 : decode code 320 = .ok (.pop, 1) := by decide +kernel
theorem d_law_321 : decode code 321 = .ok (.goto 53, 3) := by decide +kernel
theorem d_law_324 : decode code 324 = .ok (.aload_n 1, 1) := by decide +kernel
theorem d_law_325 : decode code 325 = .ok (.aload_n 0, 1) := by decide +kernel
theorem d_law_326 : decode code 326 = .ok (.iload 4, 2) := by decide +kernel
theorem d_law_328 : decode code 328 = .ok (.iconst 1, 1) := by decide +kernel
theorem d_law_329 : decode code 329 = .ok (.iadd, 1) := by decide +kernel
theorem d_law_330 : decode code 330 = .ok (.iaload, 1) := by decide +kernel
theorem d_law_331 : decode code 331 = .ok (.invokevirtual 64, 3) := by decide +kernel
theorem d_law_334 : decode code 334 = .ok (.pop, 1) := by decide +kernel
theorem d_law_335 : decode code 335 = .ok (.aload_n 2, 1) := by decide +kernel
theorem d_law_336 : decode code 336 = .ok (.aload_n 0, 1) := by decide +kernel
theorem d_law_337 : decode code 337 = .ok (.iload 4, 2) := by decide +kernel
theorem d_law_339 : decode code 339 = .ok (.iconst 1, 1) := by decide +kernel
theorem d_law_340 : decode code 340 = .ok (.iadd, 1) := by decide +kernel
theorem d_law_341 : decode code 341 = .ok (.iaload, 1) := by decide +kernel
theorem d_law_342 : decode code 342 = .ok (.invokevirtual 67, 3) := by decide +kernel
theorem d_law_345 : decode code 345 = .ok (.pop, 1) := by decide +kernel
theorem d_law_346 : decode code 346 = .ok (.goto 28, 3) := by decide +kernel
theorem d_law_349 : decode code 349 = .ok (.aload_n 1, 1) := by decide +kernel
theorem d_law_350 : decode code 350 = .ok (.aload_n 0, 1) := by decide +kernel
theorem d_law_351 : decode code 351 = .ok (.iload 4, 2) := by decide +kernel
theorem d_law_353 : decode code 353 = .ok (.iconst 1, 1) := by decide +kernel
theorem d_law_354 : decode code 354 = .ok (.iadd, 1) := by decide +kernel
theorem d_law_355 : decode code 355 = .ok (.iaload, 1) := by decide +kernel
theorem d_law_356 : decode code 356 = .ok (.invokevirtual 68, 3) := by decide +kernel
theorem d_law_359 : decode code 359 = .ok (.pop, 1) := by decide +kernel
theorem d_law_360 : decode code 360 = .ok (.aload_n 2, 1) := by decide +kernel
theorem d_law_361 : decode code 361 = .ok (.aload_n 0, 1) := by decide +kernel
theorem d_law_362 : decode code 362 = .ok (.iload 4, 2) := by decide +kernel
theorem d_law_364 : decode code 364 = .ok (.iconst 1, 1) := by decide +kernel
theorem d_law_365 : decode code 365 = .ok (.iadd, 1) := by decide +kernel
theorem d_law_366 : decode code 366 = .ok (.iaload, 1) := by decide +kernel
theorem d_law_367 : decode code 367 = .ok (.invokevirtual 71, 3) := by decide +kernel
theorem d_law_370 : decode code 370 = .ok (.pop, 1) := by decide +kernel
theorem d_law_371 : decode code 371 = .ok (.goto 3, 3) := by decide +kernel
theorem d_law_374 : decode code 374 = .ok (.iinc 4 3, 3) := by decide +kernel
theorem d_law_377 : decode code 377 = .ok (.goto (-314), 3) := by decide +kernel
theorem d_law_380 : decode code 380 = .ok (.iconst 1, 1) := by decide +kernel
theorem d_law_381 : decode code 381 = .ok (.ireturn, 1) := by decide +kernel
