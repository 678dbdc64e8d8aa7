theorem wvX4_firstRanks : Cond.instanceMethod yX4_firstRanks ∈ rk_T := rk_in 524 (by decide +kernel) rfl
theorem weX4_firstRanks : Cond.selects RX4 yX4_firstRanks yX4_firstRanks ∈ rk_T := rk_in 525 (by decide +kernel) rfl
theorem wmX6_184 : Cond.methodLink RX6 184 yX4_firstRanks ∈ rk_T := rk_in 523 (by decide +kernel) rfl
theorem npX6_isSheet : yX6_isSheet.cls ≠ "java/lang/invoke/MethodHandle" ∧ yX6_isSheet.cls ≠ "java/lang/invoke/VarHandle" ∧ (parseMethodDescriptor yX6_isSheet.desc).map (fun d => d.parameters.length) = some 1 := by decide +kernel
set_option maxRecDepth 20000 in
theorem wdX6_isSheet : Cond.code yX6_isSheet cX6_isSheet 2 (some .boolean) ∈ rk_T := rk_in 522 rfl rfl
theorem wvX6_isSheet : Cond.instanceMethod yX6_isSheet ∈ rk_T := rk_in 521 (by decide +kernel) rfl
theorem weX6_isSheet : Cond.selects RX6 yX6_isSheet yX6_isSheet ∈ rk_T := rk_inS 17 (by decide +kernel) rfl
theorem wmX6_181 : Cond.methodLink RX6 181 yX6_isSheet ∈ rk_T := rk_in 519 (by decide +kernel) rfl
theorem wmX6_204 : Cond.methodLink RX6 204 yX2_allRoads ∈ rk_T := rk_in 601 (by decide +kernel) rfl
theorem npX0_leastDeadEnd : yX0_leastDeadEnd.cls ≠ "java/lang/invoke/MethodHandle" ∧ yX0_leastDeadEnd.cls ≠ "java/lang/invoke/VarHandle" ∧ (parseMethodDescriptor yX0_leastDeadEnd.desc).map (fun d => d.parameters.length) = some 1 := by decide +kernel
set_option maxRecDepth 20000 in
theorem wdX0_leastDeadEnd : Cond.code yX0_leastDeadEnd cX0_leastDeadEnd 5 (some .int) ∈ rk_T := rk_in 552 rfl rfl
theorem wvX0_leastDeadEnd : Cond.instanceMethod yX0_leastDeadEnd ∈ rk_T := rk_in 551 (by decide +kernel) rfl
theorem weX0_leastDeadEnd : Cond.selects RX0 yX0_leastDeadEnd yX0_leastDeadEnd ∈ rk_T := rk_inS 19 (by decide +kernel) rfl
theorem wmX0_25 : Cond.methodLink RX0 25 yX0_leastDeadEnd ∈ rk_T := rk_in 549 (by decide +kernel) rfl
theorem wfX1_56 : Cond.fieldLink RX1 56 (TX2 7).1 (TX2 7).2.1 (TX2 7).2.2.1 ∈ rk_T := rk_in 50 (by decide +kernel) rfl
theorem npX1_joinAt : yX1_joinAt.cls ≠ "java/lang/invoke/MethodHandle" ∧ yX1_joinAt.cls ≠ "java/lang/invoke/VarHandle" ∧ (parseMethodDescriptor yX1_joinAt.desc).map (fun d => d.parameters.length) = some 1 := by decide +kernel
set_option maxRecDepth 20000 in
theorem wdX1_joinAt : Cond.code yX1_joinAt cX1_joinAt 3 none ∈ rk_T := rk_in 327 rfl rfl
theorem wvX1_joinAt : Cond.instanceMethod yX1_joinAt ∈ rk_T := rk_in 326 (by decide +kernel) rfl
theorem weX1_joinAt : Cond.selects RX1 yX1_joinAt yX1_joinAt ∈ rk_T := rk_inS 3 (by decide +kernel) rfl
theorem wmX1_59 : Cond.methodLink RX1 59 yX1_joinAt ∈ rk_T := rk_in 324 (by decide +kernel) rfl
theorem npX5_bridgesOf : yX5_bridgesOf.cls ≠ "java/lang/invoke/MethodHandle" ∧ yX5_bridgesOf.cls ≠ "java/lang/invoke/VarHandle" ∧ (parseMethodDescriptor yX5_bridgesOf.desc).map (fun d => d.parameters.length) = some 1 := by decide +kernel
set_option maxRecDepth 20000 in
theorem wdX5_bridgesOf : Cond.code yX5_bridgesOf cX5_bridgesOf 4 (some .int) ∈ rk_T := rk_in 582 rfl rfl
theorem wvX5_bridgesOf : Cond.instanceMethod yX5_bridgesOf ∈ rk_T := rk_in 580 (by decide +kernel) rfl
theorem weX5_bridgesOf : Cond.selects RX5 yX5_bridgesOf yX5_bridgesOf ∈ rk_T := rk_in 581 (by decide +kernel) rfl
theorem wmX6_201 : Cond.methodLink RX6 201 yX5_bridgesOf ∈ rk_T := rk_in 579 (by decide +kernel) rfl
theorem npX6_detour : yX6_detour.cls ≠ "java/lang/invoke/MethodHandle" ∧ yX6_detour.cls ≠ "java/lang/invoke/VarHandle" ∧ (parseMethodDescriptor yX6_detour.desc).map (fun d => d.parameters.length) = some 1 := by decide +kernel
set_option maxRecDepth 20000 in
theorem wdX6_detour : Cond.code yX6_detour cX6_detour 4 (some .int) ∈ rk_T := rk_in 600 rfl rfl
theorem wvX6_detour : Cond.instanceMethod yX6_detour ∈ rk_T := rk_in 598 (by decide +kernel) rfl
theorem weX6_detour : Cond.selects RX6 yX6_detour yX6_detour ∈ rk_T := rk_in 599 (by decide +kernel) rfl
theorem wmX6_295 : Cond.methodLink RX6 295 yX6_detour ∈ rk_T := rk_in 700 (by decide +kernel) rfl
theorem npX6_joined : yX6_joined.cls ≠ "java/lang/invoke/MethodHandle" ∧ yX6_joined.cls ≠ "java/lang/invoke/VarHandle" ∧ (parseMethodDescriptor yX6_joined.desc).map (fun d => d.parameters.length) = some 2 := by decide +kernel
set_option maxRecDepth 20000 in
theorem wdX6_joined : Cond.code yX6_joined cX6_joined 3 (some .int) ∈ rk_T := rk_in 479 rfl rfl
theorem wvX6_joined : Cond.instanceMethod yX6_joined ∈ rk_T := rk_in 477 (by decide +kernel) rfl
theorem weX6_joined : Cond.selects RX6 yX6_joined yX6_joined ∈ rk_T := rk_in 478 (by decide +kernel) rfl
theorem wmX6_292 : Cond.methodLink RX6 292 yX6_joined ∈ rk_T := rk_in 699 (by decide +kernel) rfl
theorem npX6_info : yX6_info.cls ≠ "java/lang/invoke/MethodHandle" ∧ yX6_info.cls ≠ "java/lang/invoke/VarHandle" ∧ (parseMethodDescriptor yX6_info.desc).map (fun d => d.parameters.length) = some 2 := by decide +kernel
set_option maxRecDepth 20000 in
theorem wdX6_info : Cond.code yX6_info cX6_info 3 (some .int) ∈ rk_T := rk_in 474 rfl rfl
theorem wvX6_info : Cond.instanceMethod yX6_info ∈ rk_T := rk_in 472 (by decide +kernel) rfl
theorem weX6_info : Cond.selects RX6 yX6_info yX6_info ∈ rk_T := rk_in 473 (by decide +kernel) rfl
theorem wmX6_289 : Cond.methodLink RX6 289 yX6_info ∈ rk_T := rk_in 698 (by decide +kernel) rfl
theorem wfX6_46 : Cond.fieldLink RX6 46 (TX6 4).1 (TX6 4).2.1 (TX6 4).2.2.1 ∈ rk_T := rk_in 254 (by decide +kernel) rfl
theorem npX0_answer : yX0_answer.cls ≠ "java/lang/invoke/MethodHandle" ∧ yX0_answer.cls ≠ "java/lang/invoke/VarHandle" ∧ (parseMethodDescriptor yX0_answer.desc).map (fun d => d.parameters.length) = some 1 := by decide +kernel
set_option maxRecDepth 20000 in
theorem wdX0_answer : Cond.code yX0_answer cX0_answer 2 (some .int) ∈ rk_T := rk_in 570 rfl rfl
theorem wvX0_answer : Cond.instanceMethod yX0_answer ∈ rk_T := rk_in 568 (by decide +kernel) rfl
theorem weX0_answer : Cond.selects RX0 yX0_answer yX0_answer ∈ rk_T := rk_in 569 (by decide +kernel) rfl
theorem wmX6_198 : Cond.methodLink RX6 198 yX0_answer ∈ rk_T := rk_in 567 (by decide +kernel) rfl
theorem npX0_perform : yX0_perform.cls ≠ "java/lang/invoke/MethodHandle" ∧ yX0_perform.cls ≠ "java/lang/invoke/VarHandle" ∧ (parseMethodDescriptor yX0_perform.desc).map (fun d => d.parameters.length) = some 2 := by decide +kernel
set_option maxRecDepth 20000 in
theorem wdX0_perform : Cond.code yX0_perform cX0_perform 5 none ∈ rk_T := rk_in 548 rfl rfl
theorem wvX0_perform : Cond.instanceMethod yX0_perform ∈ rk_T := rk_in 546 (by decide +kernel) rfl
theorem weX0_perform : Cond.selects RX0 yX0_perform yX0_perform ∈ rk_T := rk_in 547 (by decide +kernel) rfl
theorem wmX6_194 : Cond.methodLink RX6 194 yX0_perform ∈ rk_T := rk_in 545 (by decide +kernel) rfl
theorem npX6_far : yX6_far.cls ≠ "java/lang/invoke/MethodHandle" ∧ yX6_far.cls ≠ "java/lang/invoke/VarHandle" ∧ (parseMethodDescriptor yX6_far.desc).map (fun d => d.parameters.length) = some 3 := by decide +kernel
set_option maxRecDepth 20000 in
theorem wdX6_far : Cond.code yX6_far cX6_far 4 (some .int) ∈ rk_T := rk_in 518 rfl rfl
theorem wvX6_far : Cond.instanceMethod yX6_far ∈ rk_T := rk_in 516 (by decide +kernel) rfl
theorem weX6_far : Cond.selects RX6 yX6_far yX6_far ∈ rk_T := rk_in 517 (by decide +kernel) rfl
theorem wmX6_307 : Cond.methodLink RX6 307 yX6_far ∈ rk_T := rk_in 712 (by decide +kernel) rfl
theorem npX6_bridges : yX6_bridges.cls ≠ "java/lang/invoke/MethodHandle" ∧ yX6_bridges.cls ≠ "java/lang/invoke/VarHandle" ∧ (parseMethodDescriptor yX6_bridges.desc).map (fun d => d.parameters.length) = some 1 := by decide +kernel
set_option maxRecDepth 20000 in
theorem wdX6_bridges : Cond.code yX6_bridges cX6_bridges 2 (some .int) ∈ rk_T := rk_in 578 rfl rfl
theorem wvX6_bridges : Cond.instanceMethod yX6_bridges ∈ rk_T := rk_in 576 (by decide +kernel) rfl
theorem weX6_bridges : Cond.selects RX6 yX6_bridges yX6_bridges ∈ rk_T := rk_in 577 (by decide +kernel) rfl
theorem wmX6_304 : Cond.methodLink RX6 304 yX6_bridges ∈ rk_T := rk_in 711 (by decide +kernel) rfl
theorem npX4_settle : yX4_settle.cls ≠ "java/lang/invoke/MethodHandle" ∧ yX4_settle.cls ≠ "java/lang/invoke/VarHandle" ∧ (parseMethodDescriptor yX4_settle.desc).map (fun d => d.parameters.length) = some 0 := by decide +kernel
set_option maxRecDepth 20000 in
theorem wdX4_settle : Cond.code yX4_settle cX4_settle 2 none ∈ rk_T := rk_in 371 rfl rfl
theorem wvX4_settle : Cond.instanceMethod yX4_settle ∈ rk_T := rk_in 369 (by decide +kernel) rfl
theorem weX4_settle : Cond.selects RX4 yX4_settle yX4_settle ∈ rk_T := rk_in 370 (by decide +kernel) rfl
theorem wmX6_313 : Cond.methodLink RX6 313 yX4_settle ∈ rk_T := rk_in 368 (by decide +kernel) rfl
theorem npX1_settle : yX1_settle.cls ≠ "java/lang/invoke/MethodHandle" ∧ yX1_settle.cls ≠ "java/lang/invoke/VarHandle" ∧ (parseMethodDescriptor yX1_settle.desc).map (fun d => d.parameters.length) = some 0 := by decide +kernel
set_option maxRecDepth 20000 in
theorem wdX1_settle : Cond.code yX1_settle cX1_settle 2 none ∈ rk_T := rk_in 323 rfl rfl
theorem wvX1_settle : Cond.instanceMethod yX1_settle ∈ rk_T := rk_in 321 (by decide +kernel) rfl
theorem weX1_settle : Cond.selects RX1 yX1_settle yX1_settle ∈ rk_T := rk_in 322 (by decide +kernel) rfl
theorem wmX6_312 : Cond.methodLink RX6 312 yX1_settle ∈ rk_T := rk_in 320 (by decide +kernel) rfl
theorem npX6_settle : yX6_settle.cls ≠ "java/lang/invoke/MethodHandle" ∧ yX6_settle.cls ≠ "java/lang/invoke/VarHandle" ∧ (parseMethodDescriptor yX6_settle.desc).map (fun d => d.parameters.length) = some 0 := by decide +kernel
set_option maxRecDepth 20000 in
theorem wdX6_settle : Cond.code yX6_settle cX6_settle 1 none ∈ rk_T := rk_in 319 rfl rfl
theorem wvX6_settle : Cond.instanceMethod yX6_settle ∈ rk_T := rk_in 318 (by decide +kernel) rfl
theorem weX6_settle : Cond.selects RX6 yX6_settle yX6_settle ∈ rk_T := rk_inS 2 (by decide +kernel) rfl
theorem wmX6_69 : Cond.methodLink RX6 69 yX6_settle ∈ rk_T := rk_in 316 (by decide +kernel) rfl
theorem npX2_addRoad : yX2_addRoad.cls ≠ "java/lang/invoke/MethodHandle" ∧ yX2_addRoad.cls ≠ "java/lang/invoke/VarHandle" ∧ (parseMethodDescriptor yX2_addRoad.desc).map (fun d => d.parameters.length) = some 4 := by decide +kernel
set_option maxRecDepth 20000 in
theorem wdX2_addRoad : Cond.code yX2_addRoad cX2_addRoad 5 (some .int) ∈ rk_T := rk_in 294 rfl rfl
theorem wvX2_addRoad : Cond.instanceMethod yX2_addRoad ∈ rk_T := rk_in 292 (by decide +kernel) rfl
theorem weX2_addRoad : Cond.selects RX2 yX2_addRoad yX2_addRoad ∈ rk_T := rk_in 293 (by decide +kernel) rfl
theorem wmX6_65 : Cond.methodLink RX6 65 yX2_addRoad ∈ rk_T := rk_in 291 (by decide +kernel) rfl
theorem npX2_removeLast : yX2_removeLast.cls ≠ "java/lang/invoke/MethodHandle" ∧ yX2_removeLast.cls ≠ "java/lang/invoke/VarHandle" ∧ (parseMethodDescriptor yX2_removeLast.desc).map (fun d => d.parameters.length) = some 0 := by decide +kernel
set_option maxRecDepth 20000 in
theorem wdX2_removeLast : Cond.code yX2_removeLast cX2_removeLast 2 (some .int) ∈ rk_T := rk_in 436 rfl rfl
theorem wvX2_removeLast : Cond.instanceMethod yX2_removeLast ∈ rk_T := rk_in 434 (by decide +kernel) rfl
theorem weX2_removeLast : Cond.selects RX2 yX2_removeLast yX2_removeLast ∈ rk_T := rk_in 435 (by decide +kernel) rfl
theorem wmX6_72 : Cond.methodLink RX6 72 yX2_removeLast ∈ rk_T := rk_in 433 (by decide +kernel) rfl
theorem wmX6_87 : Cond.methodLink RX6 87 yX6_isUse ∈ rk_T := rk_in 446 (by decide +kernel) rfl
theorem wmX6_80 : Cond.methodLink RX6 80 yX6_isKind ∈ rk_T := rk_in 445 (by decide +kernel) rfl
theorem npX6_useful : yX6_useful.cls ≠ "java/lang/invoke/MethodHandle" ∧ yX6_useful.cls ≠ "java/lang/invoke/VarHandle" ∧ (parseMethodDescriptor yX6_useful.desc).map (fun d => d.parameters.length) = some 1 := by decide +kernel
set_option maxRecDepth 20000 in
theorem wdX6_useful : Cond.code yX6_useful cX6_useful 6 (some .int) ∈ rk_T := rk_in 605 rfl rfl
theorem wvX6_useful : Cond.instanceMethod yX6_useful ∈ rk_T := rk_in 603 (by decide +kernel) rfl
theorem weX6_useful : Cond.selects RX6 yX6_useful yX6_useful ∈ rk_T := rk_in 604 (by decide +kernel) rfl
theorem wmX6_286 : Cond.methodLink RX6 286 yX6_useful ∈ rk_T := rk_in 713 (by decide +kernel) rfl
theorem npX6_mixSheet : yX6_mixSheet.cls ≠ "java/lang/invoke/MethodHandle" ∧ yX6_mixSheet.cls ≠ "java/lang/invoke/VarHandle" ∧ (parseMethodDescriptor yX6_mixSheet.desc).map (fun d => d.parameters.length) = some 2 := by decide +kernel
set_option maxRecDepth 20000 in
theorem wdX6_mixSheet : Cond.code yX6_mixSheet cX6_mixSheet 7 (some .long) ∈ rk_T := rk_in 710 rfl rfl
theorem wvX6_mixSheet : Cond.instanceMethod yX6_mixSheet ∈ rk_T := rk_in 709 (by decide +kernel) rfl
theorem weX6_mixSheet : Cond.selects RX6 yX6_mixSheet yX6_mixSheet ∈ rk_T := rk_inS 27 (by decide +kernel) rfl
theorem wmX6_283 : Cond.methodLink RX6 283 yX6_mixSheet ∈ rk_T := rk_in 707 (by decide +kernel) rfl
theorem npX6_mixStroke : yX6_mixStroke.cls ≠ "java/lang/invoke/MethodHandle" ∧ yX6_mixStroke.cls ≠ "java/lang/invoke/VarHandle" ∧ (parseMethodDescriptor yX6_mixStroke.desc).map (fun d => d.parameters.length) = some 2 := by decide +kernel
set_option maxRecDepth 20000 in
theorem wdX6_mixStroke : Cond.code yX6_mixStroke cX6_mixStroke 7 (some .long) ∈ rk_T := rk_in 704 rfl rfl
theorem wvX6_mixStroke : Cond.instanceMethod yX6_mixStroke ∈ rk_T := rk_in 703 (by decide +kernel) rfl
theorem weX6_mixStroke : Cond.selects RX6 yX6_mixStroke yX6_mixStroke ∈ rk_T := rk_inS 26 (by decide +kernel) rfl
theorem wmX6_280 : Cond.methodLink RX6 280 yX6_mixStroke ∈ rk_T := rk_in 701 (by decide +kernel) rfl
theorem npX6_mixRoad : yX6_mixRoad.cls ≠ "java/lang/invoke/MethodHandle" ∧ yX6_mixRoad.cls ≠ "java/lang/invoke/VarHandle" ∧ (parseMethodDescriptor yX6_mixRoad.desc).map (fun d => d.parameters.length) = some 2 := by decide +kernel
set_option maxRecDepth 20000 in
theorem wdX6_mixRoad : Cond.code yX6_mixRoad cX6_mixRoad 7 (some .long) ∈ rk_T := rk_in 697 rfl rfl
theorem wvX6_mixRoad : Cond.instanceMethod yX6_mixRoad ∈ rk_T := rk_in 696 (by decide +kernel) rfl
theorem weX6_mixRoad : Cond.selects RX6 yX6_mixRoad yX6_mixRoad ∈ rk_T := rk_inS 25 (by decide +kernel) rfl
theorem wmX6_277 : Cond.methodLink RX6 277 yX6_mixRoad ∈ rk_T := rk_in 694 (by decide +kernel) rfl
theorem npX6_at : yX6_at.cls ≠ "java/lang/invoke/MethodHandle" ∧ yX6_at.cls ≠ "java/lang/invoke/VarHandle" ∧ (parseMethodDescriptor yX6_at.desc).map (fun d => d.parameters.length) = some 2 := by decide +kernel
set_option maxRecDepth 20000 in
theorem wdX6_at : Cond.code yX6_at cX6_at 3 (some .int) ∈ rk_T := rk_in 465 rfl rfl
theorem wvX6_at : Cond.instanceMethod yX6_at ∈ rk_T := rk_in 463 (by decide +kernel) rfl
theorem weX6_at : Cond.selects RX6 yX6_at yX6_at ∈ rk_T := rk_in 464 (by decide +kernel) rfl
theorem wmX6_274 : Cond.methodLink RX6 274 yX6_at ∈ rk_T := rk_in 693 (by decide +kernel) rfl
theorem npX6_count : yX6_count.cls ≠ "java/lang/invoke/MethodHandle" ∧ yX6_count.cls ≠ "java/lang/invoke/VarHandle" ∧ (parseMethodDescriptor yX6_count.desc).map (fun d => d.parameters.length) = some 1 := by decide +kernel
set_option maxRecDepth 20000 in
theorem wdX6_count : Cond.code yX6_count cX6_count 2 (some .int) ∈ rk_T := rk_in 671 rfl rfl
theorem wvX6_count : Cond.instanceMethod yX6_count ∈ rk_T := rk_in 669 (by decide +kernel) rfl
theorem weX6_count : Cond.selects RX6 yX6_count yX6_count ∈ rk_T := rk_in 670 (by decide +kernel) rfl
theorem wmX6_268 : Cond.methodLink RX6 268 yX6_count ∈ rk_T := rk_in 688 (by decide +kernel) rfl
theorem wjX6_266 : Cond.constantLong RX6 266 (17) ∈ rk_T := rk_in 687 (by decide +kernel) rfl
theorem wfX7_16 : Cond.fieldLink RX7 16 (TX7 4).1 (TX7 4).2.1 (TX7 4).2.2.1 ∈ rk_T := rk_in 724 (by decide +kernel) rfl
theorem wfX7_88 : Cond.fieldLink RX7 88 (TX7 7).1 (TX7 7).2.1 (TX7 7).2.2.1 ∈ rk_T := rk_in 727 (by decide +kernel) rfl
theorem wfX7_85 : Cond.fieldLink RX7 85 (TX7 3).1 (TX7 3).2.1 (TX7 3).2.2.1 ∈ rk_T := rk_in 723 (by decide +kernel) rfl
theorem wfX7_25 : Cond.fieldLink RX7 25 (TX7 8).1 (TX7 8).2.1 (TX7 8).2.2.1 ∈ rk_T := rk_in 728 (by decide +kernel) rfl
theorem wfX7_77 : Cond.fieldLink RX7 77 (TX7 0).1 (TX7 0).2.1 (TX7 0).2.2.1 ∈ rk_T := rk_in 720 (by decide +kernel) rfl
theorem wfX7_31 : Cond.fieldLink RX7 31 (TX7 12).1 (TX7 12).2.1 (TX7 12).2.2.1 ∈ rk_T := rk_in 732 (by decide +kernel) rfl
theorem wfX7_28 : Cond.fieldLink RX7 28 (TX7 9).1 (TX7 9).2.1 (TX7 9).2.2.1 ∈ rk_T := rk_in 729 (by decide +kernel) rfl
theorem wfX7_43 : Cond.fieldLink RX7 43 (TX7 16).1 (TX7 16).2.1 (TX7 16).2.2.1 ∈ rk_T := rk_in 736 (by decide +kernel) rfl
theorem wfX7_165 : Cond.fieldLink RX7 165 (TX7 11).1 (TX7 11).2.1 (TX7 11).2.2.1 ∈ rk_T := rk_in 731 (by decide +kernel) rfl
theorem wfX7_52 : Cond.fieldLink RX7 52 (TX7 21).1 (TX7 21).2.1 (TX7 21).2.2.1 ∈ rk_T := rk_in 741 (by decide +kernel) rfl
theorem wfX7_37 : Cond.fieldLink RX7 37 (TX7 14).1 (TX7 14).2.1 (TX7 14).2.2.1 ∈ rk_T := rk_in 734 (by decide +kernel) rfl
theorem wfX7_34 : Cond.fieldLink RX7 34 (TX7 13).1 (TX7 13).2.1 (TX7 13).2.2.1 ∈ rk_T := rk_in 733 (by decide +kernel) rfl
theorem wfX7_49 : Cond.fieldLink RX7 49 (TX7 20).1 (TX7 20).2.1 (TX7 20).2.2.1 ∈ rk_T := rk_in 740 (by decide +kernel) rfl
theorem wfX7_271 : Cond.fieldLink RX7 271 (TX7 32).1 (TX7 32).2.1 (TX7 32).2.2.1 ∈ rk_T := rk_in 752 (by decide +kernel) rfl
theorem wfX7_71 : Cond.fieldLink RX7 71 (TX7 30).1 (TX7 30).2.1 (TX7 30).2.2.1 ∈ rk_T := rk_in 750 (by decide +kernel) rfl
theorem wfX7_65 : Cond.fieldLink RX7 65 (TX7 28).1 (TX7 28).2.1 (TX7 28).2.2.1 ∈ rk_T := rk_in 748 (by decide +kernel) rfl
theorem npX7_in : yX7_in.cls ≠ "java/lang/invoke/MethodHandle" ∧ yX7_in.cls ≠ "java/lang/invoke/VarHandle" ∧ (parseMethodDescriptor yX7_in.desc).map (fun d => d.parameters.length) = some 3 := by decide +kernel
set_option maxRecDepth 20000 in
theorem wdX7_in : Cond.code yX7_in cX7_in 3 (some .boolean) ∈ rk_T := rk_in 826 rfl rfl
theorem wiX7 : Cond.initialized RX7 ∈ rk_T := rk_in 8 (by decide +kernel) rfl
theorem wtX7_in : Cond.static yX7_in ∈ rk_T := rk_in 825 (by decide +kernel) rfl
theorem wmX7_81 : Cond.methodLink RX7 81 yX7_in ∈ rk_T := rk_in 824 (by decide +kernel) rfl
theorem wfX7_7 : Cond.fieldLink RX7 7 (TX7 1).1 (TX7 1).2.1 (TX7 1).2.2.1 ∈ rk_T := rk_in 721 (by decide +kernel) rfl
theorem wfX7_13 : Cond.fieldLink RX7 13 (TX7 2).1 (TX7 2).2.1 (TX7 2).2.2.1 ∈ rk_T := rk_in 722 (by decide +kernel) rfl
theorem npX7_isAt : yX7_isAt.cls ≠ "java/lang/invoke/MethodHandle" ∧ yX7_isAt.cls ≠ "java/lang/invoke/VarHandle" ∧ (parseMethodDescriptor yX7_isAt.desc).map (fun d => d.parameters.length) = some 2 := by decide +kernel
set_option maxRecDepth 20000 in
theorem wdX7_isAt : Cond.code yX7_isAt cX7_isAt 3 (some .boolean) ∈ rk_T := rk_in 881 rfl rfl
theorem wvX7_isAt : Cond.instanceMethod yX7_isAt ∈ rk_T := rk_in 880 (by decide +kernel) rfl
theorem weX7_isAt : Cond.selects RX7 yX7_isAt yX7_isAt ∈ rk_T := rk_inS 35 (by decide +kernel) rfl
theorem wmX7_112 : Cond.methodLink RX7 112 yX7_isAt ∈ rk_T := rk_in 878 (by decide +kernel) rfl
theorem npX7_abs : yX7_abs.cls ≠ "java/lang/invoke/MethodHandle" ∧ yX7_abs.cls ≠ "java/lang/invoke/VarHandle" ∧ (parseMethodDescriptor yX7_abs.desc).map (fun d => d.parameters.length) = some 1 := by decide +kernel
set_option maxRecDepth 20000 in
theorem wdX7_abs : Cond.code yX7_abs cX7_abs 1 (some .int) ∈ rk_T := rk_in 953 rfl rfl
theorem wtX7_abs : Cond.static yX7_abs ∈ rk_T := rk_in 952 (by decide +kernel) rfl
theorem wmX7_123 : Cond.methodLink RX7 123 yX7_abs ∈ rk_T := rk_in 951 (by decide +kernel) rfl
theorem npX7_other : yX7_other.cls ≠ "java/lang/invoke/MethodHandle" ∧ yX7_other.cls ≠ "java/lang/invoke/VarHandle" ∧ (parseMethodDescriptor yX7_other.desc).map (fun d => d.parameters.length) = some 2 := by decide +kernel
set_option maxRecDepth 20000 in
theorem wdX7_other : Cond.code yX7_other cX7_other 3 (some .int) ∈ rk_T := rk_in 933 rfl rfl
theorem wvX7_other : Cond.instanceMethod yX7_other ∈ rk_T := rk_in 932 (by decide +kernel) rfl
theorem weX7_other : Cond.selects RX7 yX7_other yX7_other ∈ rk_T := rk_inS 47 (by decide +kernel) rfl
theorem wmX7_126 : Cond.methodLink RX7 126 yX7_other ∈ rk_T := rk_in 930 (by decide +kernel) rfl
theorem npX7_endOf : yX7_endOf.cls ≠ "java/lang/invoke/MethodHandle" ∧ yX7_endOf.cls ≠ "java/lang/invoke/VarHandle" ∧ (parseMethodDescriptor yX7_endOf.desc).map (fun d => d.parameters.length) = some 2 := by decide +kernel
set_option maxRecDepth 20000 in
theorem wdX7_endOf : Cond.code yX7_endOf cX7_endOf 3 (some .int) ∈ rk_T := rk_in 917 rfl rfl
theorem wvX7_endOf : Cond.instanceMethod yX7_endOf ∈ rk_T := rk_in 916 (by decide +kernel) rfl
theorem weX7_endOf : Cond.selects RX7 yX7_endOf yX7_endOf ∈ rk_T := rk_inS 43 (by decide +kernel) rfl
theorem wmX7_141 : Cond.methodLink RX7 141 yX7_endOf ∈ rk_T := rk_in 914 (by decide +kernel) rfl
theorem npX7_isIn : yX7_isIn.cls ≠ "java/lang/invoke/MethodHandle" ∧ yX7_isIn.cls ≠ "java/lang/invoke/VarHandle" ∧ (parseMethodDescriptor yX7_isIn.desc).map (fun d => d.parameters.length) = some 2 := by decide +kernel
set_option maxRecDepth 20000 in
theorem wdX7_isIn : Cond.code yX7_isIn cX7_isIn 2 (some .boolean) ∈ rk_T := rk_in 995 rfl rfl
theorem wtX7_isIn : Cond.static yX7_isIn ∈ rk_T := rk_in 994 (by decide +kernel) rfl
theorem wmX7_204 : Cond.methodLink RX7 204 yX7_isIn ∈ rk_T := rk_in 993 (by decide +kernel) rfl
theorem wfX7_231 : Cond.fieldLink RX7 231 (TX7 24).1 (TX7 24).2.1 (TX7 24).2.2.1 ∈ rk_T := rk_in 744 (by decide +kernel) rfl
theorem wfX7_55 : Cond.fieldLink RX7 55 (TX7 22).1 (TX7 22).2.1 (TX7 22).2.2.1 ∈ rk_T := rk_in 742 (by decide +kernel) rfl
theorem wfX7_61 : Cond.fieldLink RX7 61 (TX7 27).1 (TX7 27).2.1 (TX7 27).2.2.1 ∈ rk_T := rk_in 747 (by decide +kernel) rfl
theorem wfX7_68 : Cond.fieldLink RX7 68 (TX7 29).1 (TX7 29).2.1 (TX7 29).2.2.1 ∈ rk_T := rk_in 749 (by decide +kernel) rfl
theorem wfX7_19 : Cond.fieldLink RX7 19 (TX7 5).1 (TX7 5).2.1 (TX7 5).2.2.1 ∈ rk_T := rk_in 725 (by decide +kernel) rfl
theorem wfX7_22 : Cond.fieldLink RX7 22 (TX7 6).1 (TX7 6).2.1 (TX7 6).2.2.1 ∈ rk_T := rk_in 726 (by decide +kernel) rfl
theorem npX7_isBetween : yX7_isBetween.cls ≠ "java/lang/invoke/MethodHandle" ∧ yX7_isBetween.cls ≠ "java/lang/invoke/VarHandle" ∧ (parseMethodDescriptor yX7_isBetween.desc).map (fun d => d.parameters.length) = some 3 := by decide +kernel
set_option maxRecDepth 20000 in
theorem wdX7_isBetween : Cond.code yX7_isBetween cX7_isBetween 4 (some .boolean) ∈ rk_T := rk_in 842 rfl rfl
theorem wvX7_isBetween : Cond.instanceMethod yX7_isBetween ∈ rk_T := rk_in 841 (by decide +kernel) rfl
theorem weX7_isBetween : Cond.selects RX7 yX7_isBetween yX7_isBetween ∈ rk_T := rk_inS 30 (by decide +kernel) rfl
theorem wmX7_95 : Cond.methodLink RX7 95 yX7_isBetween ∈ rk_T := rk_in 839 (by decide +kernel) rfl
theorem npX7_isMeeting : yX7_isMeeting.cls ≠ "java/lang/invoke/MethodHandle" ∧ yX7_isMeeting.cls ≠ "java/lang/invoke/VarHandle" ∧ (parseMethodDescriptor yX7_isMeeting.desc).map (fun d => d.parameters.length) = some 1 := by decide +kernel
set_option maxRecDepth 20000 in
theorem wdX7_isMeeting : Cond.code yX7_isMeeting cX7_isMeeting 2 (some .boolean) ∈ rk_T := rk_in 838 rfl rfl
theorem wvX7_isMeeting : Cond.instanceMethod yX7_isMeeting ∈ rk_T := rk_in 837 (by decide +kernel) rfl
theorem weX7_isMeeting : Cond.selects RX7 yX7_isMeeting yX7_isMeeting ∈ rk_T := rk_inS 29 (by decide +kernel) rfl
theorem wmX7_91 : Cond.methodLink RX7 91 yX7_isMeeting ∈ rk_T := rk_in 835 (by decide +kernel) rfl
theorem npX7_isRoad : yX7_isRoad.cls ≠ "java/lang/invoke/MethodHandle" ∧ yX7_isRoad.cls ≠ "java/lang/invoke/VarHandle" ∧ (parseMethodDescriptor yX7_isRoad.desc).map (fun d => d.parameters.length) = some 1 := by decide +kernel
set_option maxRecDepth 20000 in
theorem wdX7_isRoad : Cond.code yX7_isRoad cX7_isRoad 2 (some .boolean) ∈ rk_T := rk_in 854 rfl rfl
theorem wvX7_isRoad : Cond.instanceMethod yX7_isRoad ∈ rk_T := rk_in 853 (by decide +kernel) rfl
theorem weX7_isRoad : Cond.selects RX7 yX7_isRoad yX7_isRoad ∈ rk_T := rk_inS 31 (by decide +kernel) rfl
theorem wmX7_102 : Cond.methodLink RX7 102 yX7_isRoad ∈ rk_T := rk_in 851 (by decide +kernel) rfl
theorem npX7_roadsAt : yX7_roadsAt.cls ≠ "java/lang/invoke/MethodHandle" ∧ yX7_roadsAt.cls ≠ "java/lang/invoke/VarHandle" ∧ (parseMethodDescriptor yX7_roadsAt.desc).map (fun d => d.parameters.length) = some 1 := by decide +kernel
set_option maxRecDepth 20000 in
theorem wdX7_roadsAt : Cond.code yX7_roadsAt cX7_roadsAt 4 (some .int) ∈ rk_T := rk_in 877 rfl rfl
theorem wvX7_roadsAt : Cond.instanceMethod yX7_roadsAt ∈ rk_T := rk_in 876 (by decide +kernel) rfl
theorem weX7_roadsAt : Cond.selects RX7 yX7_roadsAt yX7_roadsAt ∈ rk_T := rk_inS 34 (by decide +kernel) rfl
theorem wmX7_116 : Cond.methodLink RX7 116 yX7_roadsAt ∈ rk_T := rk_in 874 (by decide +kernel) rfl
theorem npX7_product : yX7_product.cls ≠ "java/lang/invoke/MethodHandle" ∧ yX7_product.cls ≠ "java/lang/invoke/VarHandle" ∧ (parseMethodDescriptor yX7_product.desc).map (fun d => d.parameters.length) = some 3 := by decide +kernel
set_option maxRecDepth 20000 in
theorem wdX7_product : Cond.code yX7_product cX7_product 6 (some .long) ∈ rk_T := rk_in 929 rfl rfl
theorem wvX7_product : Cond.instanceMethod yX7_product ∈ rk_T := rk_in 928 (by decide +kernel) rfl
theorem weX7_product : Cond.selects RX7 yX7_product yX7_product ∈ rk_T := rk_inS 46 (by decide +kernel) rfl
theorem wmX7_129 : Cond.methodLink RX7 129 yX7_product ∈ rk_T := rk_in 926 (by decide +kernel) rfl
theorem npX7_length : yX7_length.cls ≠ "java/lang/invoke/MethodHandle" ∧ yX7_length.cls ≠ "java/lang/invoke/VarHandle" ∧ (parseMethodDescriptor yX7_length.desc).map (fun d => d.parameters.length) = some 1 := by decide +kernel
set_option maxRecDepth 20000 in
theorem wdX7_length : Cond.code yX7_length cX7_length 4 (some .int) ∈ rk_T := rk_in 950 rfl rfl
theorem wvX7_length : Cond.instanceMethod yX7_length ∈ rk_T := rk_in 949 (by decide +kernel) rfl
theorem weX7_length : Cond.selects RX7 yX7_length yX7_length ∈ rk_T := rk_inS 51 (by decide +kernel) rfl
theorem wmX7_156 : Cond.methodLink RX7 156 yX7_length ∈ rk_T := rk_in 947 (by decide +kernel) rfl
theorem wfX7_153 : Cond.fieldLink RX7 153 (TX7 18).1 (TX7 18).2.1 (TX7 18).2.2.1 ∈ rk_T := rk_in 738 (by decide +kernel) rfl
theorem npX7_many : yX7_many.cls ≠ "java/lang/invoke/MethodHandle" ∧ yX7_many.cls ≠ "java/lang/invoke/VarHandle" ∧ (parseMethodDescriptor yX7_many.desc).map (fun d => d.parameters.length) = some 1 := by decide +kernel
set_option maxRecDepth 20000 in
theorem wdX7_many : Cond.code yX7_many cX7_many 3 (some .int) ∈ rk_T := rk_in 992 rfl rfl
theorem wtX7_many : Cond.static yX7_many ∈ rk_T := rk_in 991 (by decide +kernel) rfl
theorem wmX7_207 : Cond.methodLink RX7 207 yX7_many ∈ rk_T := rk_in 990 (by decide +kernel) rfl
theorem wfX7_40 : Cond.fieldLink RX7 40 (TX7 15).1 (TX7 15).2.1 (TX7 15).2.2.1 ∈ rk_T := rk_in 735 (by decide +kernel) rfl
theorem wfX7_46 : Cond.fieldLink RX7 46 (TX7 17).1 (TX7 17).2.1 (TX7 17).2.2.1 ∈ rk_T := rk_in 737 (by decide +kernel) rfl
theorem wfX7_58 : Cond.fieldLink RX7 58 (TX7 23).1 (TX7 23).2.1 (TX7 23).2.2.1 ∈ rk_T := rk_in 743 (by decide +kernel) rfl
theorem wcX7_218 : Cond.constant RX7 218 (99999) ∈ rk_T := rk_in 1024 (by decide +kernel) rfl
theorem npX7_others : yX7_others.cls ≠ "java/lang/invoke/MethodHandle" ∧ yX7_others.cls ≠ "java/lang/invoke/VarHandle" ∧ (parseMethodDescriptor yX7_others.desc).map (fun d => d.parameters.length) = some 1 := by decide +kernel
set_option maxRecDepth 20000 in
theorem wdX7_others : Cond.code yX7_others cX7_others 4 (some .int) ∈ rk_T := rk_in 1052 rfl rfl
theorem wvX7_others : Cond.instanceMethod yX7_others ∈ rk_T := rk_in 1051 (by decide +kernel) rfl
theorem weX7_others : Cond.selects RX7 yX7_others yX7_others ∈ rk_T := rk_inS 68 (by decide +kernel) rfl
theorem wmX7_234 : Cond.methodLink RX7 234 yX7_others ∈ rk_T := rk_in 1049 (by decide +kernel) rfl
theorem npX7_leftOf : yX7_leftOf.cls ≠ "java/lang/invoke/MethodHandle" ∧ yX7_leftOf.cls ≠ "java/lang/invoke/VarHandle" ∧ (parseMethodDescriptor yX7_leftOf.desc).map (fun d => d.parameters.length) = some 2 := by decide +kernel
set_option maxRecDepth 20000 in
theorem wdX7_leftOf : Cond.code yX7_leftOf cX7_leftOf 5 (some .int) ∈ rk_T := rk_in 1044 rfl rfl
theorem wvX7_leftOf : Cond.instanceMethod yX7_leftOf ∈ rk_T := rk_in 1043 (by decide +kernel) rfl
theorem weX7_leftOf : Cond.selects RX7 yX7_leftOf yX7_leftOf ∈ rk_T := rk_inS 66 (by decide +kernel) rfl
theorem wmX7_237 : Cond.methodLink RX7 237 yX7_leftOf ∈ rk_T := rk_in 1041 (by decide +kernel) rfl
theorem npX7_meets : yX7_meets.cls ≠ "java/lang/invoke/MethodHandle" ∧ yX7_meets.cls ≠ "java/lang/invoke/VarHandle" ∧ (parseMethodDescriptor yX7_meets.desc).map (fun d => d.parameters.length) = some 1 := by decide +kernel
set_option maxRecDepth 20000 in
theorem wdX7_meets : Cond.code yX7_meets cX7_meets 2 (some .int) ∈ rk_T := rk_in 865 rfl rfl
theorem wvX7_meets : Cond.instanceMethod yX7_meets ∈ rk_T := rk_in 864 (by decide +kernel) rfl
theorem weX7_meets : Cond.selects RX7 yX7_meets yX7_meets ∈ rk_T := rk_inS 32 (by decide +kernel) rfl
theorem wmX7_108 : Cond.methodLink RX7 108 yX7_meets ∈ rk_T := rk_in 862 (by decide +kernel) rfl
theorem npX7_isSheet : yX7_isSheet.cls ≠ "java/lang/invoke/MethodHandle" ∧ yX7_isSheet.cls ≠ "java/lang/invoke/VarHandle" ∧ (parseMethodDescriptor yX7_isSheet.desc).map (fun d => d.parameters.length) = some 1 := by decide +kernel
set_option maxRecDepth 20000 in
theorem wdX7_isSheet : Cond.code yX7_isSheet cX7_isSheet 1 (some .boolean) ∈ rk_T := rk_in 861 rfl rfl
theorem wtX7_isSheet : Cond.static yX7_isSheet ∈ rk_T := rk_in 860 (by decide +kernel) rfl
theorem wmX7_105 : Cond.methodLink RX7 105 yX7_isSheet ∈ rk_T := rk_in 859 (by decide +kernel) rfl
theorem npX7_keep : yX7_keep.cls ≠ "java/lang/invoke/MethodHandle" ∧ yX7_keep.cls ≠ "java/lang/invoke/VarHandle" ∧ (parseMethodDescriptor yX7_keep.desc).map (fun d => d.parameters.length) = some 3 := by decide +kernel
set_option maxRecDepth 20000 in
theorem wdX7_keep : Cond.code yX7_keep cX7_keep 4 none ∈ rk_T := rk_in 1100 rfl rfl
theorem wvX7_keep : Cond.instanceMethod yX7_keep ∈ rk_T := rk_in 1099 (by decide +kernel) rfl
theorem weX7_keep : Cond.selects RX7 yX7_keep yX7_keep ∈ rk_T := rk_inS 74 (by decide +kernel) rfl
theorem wmX7_277 : Cond.methodLink RX7 277 yX7_keep ∈ rk_T := rk_in 1097 (by decide +kernel) rfl
theorem npX7_lacks : yX7_lacks.cls ≠ "java/lang/invoke/MethodHandle" ∧ yX7_lacks.cls ≠ "java/lang/invoke/VarHandle" ∧ (parseMethodDescriptor yX7_lacks.desc).map (fun d => d.parameters.length) = some 3 := by decide +kernel
set_option maxRecDepth 20000 in
theorem wdX7_lacks : Cond.code yX7_lacks cX7_lacks 4 (some .int) ∈ rk_T := rk_in 1096 rfl rfl
theorem wvX7_lacks : Cond.instanceMethod yX7_lacks ∈ rk_T := rk_in 1095 (by decide +kernel) rfl
theorem weX7_lacks : Cond.selects RX7 yX7_lacks yX7_lacks ∈ rk_T := rk_inS 73 (by decide +kernel) rfl
theorem wmX7_274 : Cond.methodLink RX7 274 yX7_lacks ∈ rk_T := rk_in 1093 (by decide +kernel) rfl
theorem wcX7_281 : Cond.constant RX7 281 (-2147483648) ∈ rk_T := rk_in 1105 (by decide +kernel) rfl
theorem wfX7_74 : Cond.fieldLink RX7 74 (TX7 31).1 (TX7 31).2.1 (TX7 31).2.2.1 ∈ rk_T := rk_in 751 (by decide +kernel) rfl
theorem npX7_adds : yX7_adds.cls ≠ "java/lang/invoke/MethodHandle" ∧ yX7_adds.cls ≠ "java/lang/invoke/VarHandle" ∧ (parseMethodDescriptor yX7_adds.desc).map (fun d => d.parameters.length) = some 4 := by decide +kernel
set_option maxRecDepth 20000 in
theorem wdX7_adds : Cond.code yX7_adds cX7_adds 6 (some .int) ∈ rk_T := rk_in 834 rfl rfl
theorem wvX7_adds : Cond.instanceMethod yX7_adds ∈ rk_T := rk_in 833 (by decide +kernel) rfl
theorem weX7_adds : Cond.selects RX7 yX7_adds yX7_adds ∈ rk_T := rk_inS 28 (by decide +kernel) rfl
theorem wmX7_98 : Cond.methodLink RX7 98 yX7_adds ∈ rk_T := rk_in 831 (by decide +kernel) rfl
theorem npX7_atOf : yX7_atOf.cls ≠ "java/lang/invoke/MethodHandle" ∧ yX7_atOf.cls ≠ "java/lang/invoke/VarHandle" ∧ (parseMethodDescriptor yX7_atOf.desc).map (fun d => d.parameters.length) = some 2 := by decide +kernel
set_option maxRecDepth 20000 in
theorem wdX7_atOf : Cond.code yX7_atOf cX7_atOf 3 (some .int) ∈ rk_T := rk_in 873 rfl rfl
theorem wvX7_atOf : Cond.instanceMethod yX7_atOf ∈ rk_T := rk_in 872 (by decide +kernel) rfl
theorem weX7_atOf : Cond.selects RX7 yX7_atOf yX7_atOf ∈ rk_T := rk_inS 33 (by decide +kernel) rfl
theorem wmX7_119 : Cond.methodLink RX7 119 yX7_atOf ∈ rk_T := rk_in 870 (by decide +kernel) rfl
theorem wjX7_133 : Cond.constantLong RX7 133 (2) ∈ rk_T := rk_in 934 (by decide +kernel) rfl
theorem npX7_own : yX7_own.cls ≠ "java/lang/invoke/MethodHandle" ∧ yX7_own.cls ≠ "java/lang/invoke/VarHandle" ∧ (parseMethodDescriptor yX7_own.desc).map (fun d => d.parameters.length) = some 3 := by decide +kernel
set_option maxRecDepth 20000 in
theorem wdX7_own : Cond.code yX7_own cX7_own 4 (some .long) ∈ rk_T := rk_in 938 rfl rfl
theorem wvX7_own : Cond.instanceMethod yX7_own ∈ rk_T := rk_in 937 (by decide +kernel) rfl
theorem weX7_own : Cond.selects RX7 yX7_own yX7_own ∈ rk_T := rk_inS 48 (by decide +kernel) rfl
theorem wmX7_135 : Cond.methodLink RX7 135 yX7_own ∈ rk_T := rk_in 935 (by decide +kernel) rfl
theorem npX7_worth : yX7_worth.cls ≠ "java/lang/invoke/MethodHandle" ∧ yX7_worth.cls ≠ "java/lang/invoke/VarHandle" ∧ (parseMethodDescriptor yX7_worth.desc).map (fun d => d.parameters.length) = some 1 := by decide +kernel
set_option maxRecDepth 20000 in
theorem wdX7_worth : Cond.code yX7_worth cX7_worth 4 (some .int) ∈ rk_T := rk_in 957 rfl rfl
theorem wvX7_worth : Cond.instanceMethod yX7_worth ∈ rk_T := rk_in 956 (by decide +kernel) rfl
theorem weX7_worth : Cond.selects RX7 yX7_worth yX7_worth ∈ rk_T := rk_inS 52 (by decide +kernel) rfl
theorem wmX7_175 : Cond.methodLink RX7 175 yX7_worth ∈ rk_T := rk_in 954 (by decide +kernel) rfl
theorem npX7_farBy : yX7_farBy.cls ≠ "java/lang/invoke/MethodHandle" ∧ yX7_farBy.cls ≠ "java/lang/invoke/VarHandle" ∧ (parseMethodDescriptor yX7_farBy.desc).map (fun d => d.parameters.length) = some 3 := by decide +kernel
set_option maxRecDepth 20000 in
theorem wdX7_farBy : Cond.code yX7_farBy cX7_farBy 9 (some .int) ∈ rk_T := rk_in 1023 rfl rfl
theorem wvX7_farBy : Cond.instanceMethod yX7_farBy ∈ rk_T := rk_in 1022 (by decide +kernel) rfl
theorem weX7_farBy : Cond.selects RX7 yX7_farBy yX7_farBy ∈ rk_T := rk_inS 62 (by decide +kernel) rfl
theorem wmX7_222 : Cond.methodLink RX7 222 yX7_farBy ∈ rk_T := rk_in 1020 (by decide +kernel) rfl
theorem npX7_sheetBits : yX7_sheetBits.cls ≠ "java/lang/invoke/MethodHandle" ∧ yX7_sheetBits.cls ≠ "java/lang/invoke/VarHandle" ∧ (parseMethodDescriptor yX7_sheetBits.desc).map (fun d => d.parameters.length) = some 1 := by decide +kernel
set_option maxRecDepth 20000 in
theorem wdX7_sheetBits : Cond.code yX7_sheetBits cX7_sheetBits 4 (some .int) ∈ rk_T := rk_in 1019 rfl rfl
theorem wvX7_sheetBits : Cond.instanceMethod yX7_sheetBits ∈ rk_T := rk_in 1018 (by decide +kernel) rfl
theorem weX7_sheetBits : Cond.selects RX7 yX7_sheetBits yX7_sheetBits ∈ rk_T := rk_inS 61 (by decide +kernel) rfl
theorem wmX7_219 : Cond.methodLink RX7 219 yX7_sheetBits ∈ rk_T := rk_in 1016 (by decide +kernel) rfl
theorem npX7_isWhole : yX7_isWhole.cls ≠ "java/lang/invoke/MethodHandle" ∧ yX7_isWhole.cls ≠ "java/lang/invoke/VarHandle" ∧ (parseMethodDescriptor yX7_isWhole.desc).map (fun d => d.parameters.length) = some 1 := by decide +kernel
set_option maxRecDepth 20000 in
theorem wdX7_isWhole : Cond.code yX7_isWhole cX7_isWhole 7 (some .boolean) ∈ rk_T := rk_in 1056 rfl rfl
theorem wvX7_isWhole : Cond.instanceMethod yX7_isWhole ∈ rk_T := rk_in 1055 (by decide +kernel) rfl
theorem weX7_isWhole : Cond.selects RX7 yX7_isWhole yX7_isWhole ∈ rk_T := rk_inS 69 (by decide +kernel) rfl
theorem wmX7_243 : Cond.methodLink RX7 243 yX7_isWhole ∈ rk_T := rk_in 1053 (by decide +kernel) rfl
theorem npX7_hasLooseEnd : yX7_hasLooseEnd.cls ≠ "java/lang/invoke/MethodHandle" ∧ yX7_hasLooseEnd.cls ≠ "java/lang/invoke/VarHandle" ∧ (parseMethodDescriptor yX7_hasLooseEnd.desc).map (fun d => d.parameters.length) = some 1 := by decide +kernel
set_option maxRecDepth 20000 in
theorem wdX7_hasLooseEnd : Cond.code yX7_hasLooseEnd cX7_hasLooseEnd 6 (some .boolean) ∈ rk_T := rk_in 1048 rfl rfl
theorem wvX7_hasLooseEnd : Cond.instanceMethod yX7_hasLooseEnd ∈ rk_T := rk_in 1047 (by decide +kernel) rfl
theorem weX7_hasLooseEnd : Cond.selects RX7 yX7_hasLooseEnd yX7_hasLooseEnd ∈ rk_T := rk_inS 67 (by decide +kernel) rfl
theorem wmX7_240 : Cond.methodLink RX7 240 yX7_hasLooseEnd ∈ rk_T := rk_in 1045 (by decide +kernel) rfl
theorem npX7_isAlong : yX7_isAlong.cls ≠ "java/lang/invoke/MethodHandle" ∧ yX7_isAlong.cls ≠ "java/lang/invoke/VarHandle" ∧ (parseMethodDescriptor yX7_isAlong.desc).map (fun d => d.parameters.length) = some 3 := by decide +kernel
set_option maxRecDepth 20000 in
theorem wdX7_isAlong : Cond.code yX7_isAlong cX7_isAlong 6 (some .boolean) ∈ rk_T := rk_in 925 rfl rfl
theorem wvX7_isAlong : Cond.instanceMethod yX7_isAlong ∈ rk_T := rk_in 924 (by decide +kernel) rfl
theorem weX7_isAlong : Cond.selects RX7 yX7_isAlong yX7_isAlong ∈ rk_T := rk_inS 45 (by decide +kernel) rfl
theorem wmX7_138 : Cond.methodLink RX7 138 yX7_isAlong ∈ rk_T := rk_in 922 (by decide +kernel) rfl
theorem wfX7_249 : Cond.fieldLink RX7 249 (TX7 26).1 (TX7 26).2.1 (TX7 26).2.2.1 ∈ rk_T := rk_in 746 (by decide +kernel) rfl
theorem wfX7_246 : Cond.fieldLink RX7 246 (TX7 25).1 (TX7 25).2.1 (TX7 25).2.2.1 ∈ rk_T := rk_in 745 (by decide +kernel) rfl
theorem npX7_isCut : yX7_isCut.cls ≠ "java/lang/invoke/MethodHandle" ∧ yX7_isCut.cls ≠ "java/lang/invoke/VarHandle" ∧ (parseMethodDescriptor yX7_isCut.desc).map (fun d => d.parameters.length) = some 2 := by decide +kernel
set_option maxRecDepth 20000 in
theorem wdX7_isCut : Cond.code yX7_isCut cX7_isCut 4 (some .boolean) ∈ rk_T := rk_in 1040 rfl rfl
theorem wvX7_isCut : Cond.instanceMethod yX7_isCut ∈ rk_T := rk_in 1039 (by decide +kernel) rfl
theorem weX7_isCut : Cond.selects RX7 yX7_isCut yX7_isCut ∈ rk_T := rk_inS 65 (by decide +kernel) rfl
theorem wmX7_252 : Cond.methodLink RX7 252 yX7_isCut ∈ rk_T := rk_in 1037 (by decide +kernel) rfl
theorem npX7_detourOf : yX7_detourOf.cls ≠ "java/lang/invoke/MethodHandle" ∧ yX7_detourOf.cls ≠ "java/lang/invoke/VarHandle" ∧ (parseMethodDescriptor yX7_detourOf.desc).map (fun d => d.parameters.length) = some 1 := by decide +kernel
set_option maxRecDepth 20000 in
theorem wdX7_detourOf : Cond.code yX7_detourOf cX7_detourOf 3 (some .int) ∈ rk_T := rk_in 1072 rfl rfl
theorem wvX7_detourOf : Cond.instanceMethod yX7_detourOf ∈ rk_T := rk_in 1071 (by decide +kernel) rfl
theorem weX7_detourOf : Cond.selects RX7 yX7_detourOf yX7_detourOf ∈ rk_T := rk_inS 71 (by decide +kernel) rfl
theorem wmX7_265 : Cond.methodLink RX7 265 yX7_detourOf ∈ rk_T := rk_in 1069 (by decide +kernel) rfl
theorem npX7_mayJoin : yX7_mayJoin.cls ≠ "java/lang/invoke/MethodHandle" ∧ yX7_mayJoin.cls ≠ "java/lang/invoke/VarHandle" ∧ (parseMethodDescriptor yX7_mayJoin.desc).map (fun d => d.parameters.length) = some 3 := by decide +kernel
set_option maxRecDepth 20000 in
theorem wdX7_mayJoin : Cond.code yX7_mayJoin cX7_mayJoin 5 (some .boolean) ∈ rk_T := rk_in 921 rfl rfl
theorem wvX7_mayJoin : Cond.instanceMethod yX7_mayJoin ∈ rk_T := rk_in 920 (by decide +kernel) rfl
theorem weX7_mayJoin : Cond.selects RX7 yX7_mayJoin yX7_mayJoin ∈ rk_T := rk_inS 44 (by decide +kernel) rfl
theorem wmX7_147 : Cond.methodLink RX7 147 yX7_mayJoin ∈ rk_T := rk_in 918 (by decide +kernel) rfl
theorem npX7_isFree : yX7_isFree.cls ≠ "java/lang/invoke/MethodHandle" ∧ yX7_isFree.cls ≠ "java/lang/invoke/VarHandle" ∧ (parseMethodDescriptor yX7_isFree.desc).map (fun d => d.parameters.length) = some 2 := by decide +kernel
set_option maxRecDepth 20000 in
theorem wdX7_isFree : Cond.code yX7_isFree cX7_isFree 3 (some .boolean) ∈ rk_T := rk_in 913 rfl rfl
theorem wvX7_isFree : Cond.instanceMethod yX7_isFree ∈ rk_T := rk_in 912 (by decide +kernel) rfl
theorem weX7_isFree : Cond.selects RX7 yX7_isFree yX7_isFree ∈ rk_T := rk_inS 42 (by decide +kernel) rfl
theorem wmX7_144 : Cond.methodLink RX7 144 yX7_isFree ∈ rk_T := rk_in 910 (by decide +kernel) rfl
theorem wfX7_150 : Cond.fieldLink RX7 150 (TX7 10).1 (TX7 10).2.1 (TX7 10).2.2.1 ∈ rk_T := rk_in 730 (by decide +kernel) rfl
theorem npX7_alongOf : yX7_alongOf.cls ≠ "java/lang/invoke/MethodHandle" ∧ yX7_alongOf.cls ≠ "java/lang/invoke/VarHandle" ∧ (parseMethodDescriptor yX7_alongOf.desc).map (fun d => d.parameters.length) = some 3 := by decide +kernel
set_option maxRecDepth 20000 in
theorem wdX7_alongOf : Cond.code yX7_alongOf cX7_alongOf 4 (some .int) ∈ rk_T := rk_in 977 rfl rfl
theorem wvX7_alongOf : Cond.instanceMethod yX7_alongOf ∈ rk_T := rk_in 976 (by decide +kernel) rfl
theorem weX7_alongOf : Cond.selects RX7 yX7_alongOf yX7_alongOf ∈ rk_T := rk_inS 55 (by decide +kernel) rfl
theorem wmX7_200 : Cond.methodLink RX7 200 yX7_alongOf ∈ rk_T := rk_in 974 (by decide +kernel) rfl
theorem npX7_cuts : yX7_cuts.cls ≠ "java/lang/invoke/MethodHandle" ∧ yX7_cuts.cls ≠ "java/lang/invoke/VarHandle" ∧ (parseMethodDescriptor yX7_cuts.desc).map (fun d => d.parameters.length) = some 2 := by decide +kernel
set_option maxRecDepth 20000 in
theorem wdX7_cuts : Cond.code yX7_cuts cX7_cuts 6 none ∈ rk_T := rk_in 1036 rfl rfl
theorem wvX7_cuts : Cond.instanceMethod yX7_cuts ∈ rk_T := rk_in 1035 (by decide +kernel) rfl
theorem weX7_cuts : Cond.selects RX7 yX7_cuts yX7_cuts ∈ rk_T := rk_inS 64 (by decide +kernel) rfl
theorem wmX7_255 : Cond.methodLink RX7 255 yX7_cuts ∈ rk_T := rk_in 1033 (by decide +kernel) rfl
theorem npX7_joinsOne : yX7_joinsOne.cls ≠ "java/lang/invoke/MethodHandle" ∧ yX7_joinsOne.cls ≠ "java/lang/invoke/VarHandle" ∧ (parseMethodDescriptor yX7_joinsOne.desc).map (fun d => d.parameters.length) = some 1 := by decide +kernel
set_option maxRecDepth 20000 in
theorem wdX7_joinsOne : Cond.code yX7_joinsOne cX7_joinsOne 11 (some .boolean) ∈ rk_T := rk_in 909 rfl rfl
theorem wvX7_joinsOne : Cond.instanceMethod yX7_joinsOne ∈ rk_T := rk_in 908 (by decide +kernel) rfl
theorem weX7_joinsOne : Cond.selects RX7 yX7_joinsOne yX7_joinsOne ∈ rk_T := rk_inS 41 (by decide +kernel) rfl
theorem wmX7_159 : Cond.methodLink RX7 159 yX7_joinsOne ∈ rk_T := rk_in 906 (by decide +kernel) rfl
theorem npX7_gathers : yX7_gathers.cls ≠ "java/lang/invoke/MethodHandle" ∧ yX7_gathers.cls ≠ "java/lang/invoke/VarHandle" ∧ (parseMethodDescriptor yX7_gathers.desc).map (fun d => d.parameters.length) = some 1 := by decide +kernel
set_option maxRecDepth 20000 in
theorem wdX7_gathers : Cond.code yX7_gathers cX7_gathers 3 none ∈ rk_T := rk_in 946 rfl rfl
theorem wvX7_gathers : Cond.instanceMethod yX7_gathers ∈ rk_T := rk_in 945 (by decide +kernel) rfl
theorem weX7_gathers : Cond.selects RX7 yX7_gathers yX7_gathers ∈ rk_T := rk_inS 50 (by decide +kernel) rfl
theorem wmX7_172 : Cond.methodLink RX7 172 yX7_gathers ∈ rk_T := rk_in 943 (by decide +kernel) rfl
theorem npX7_spreads : yX7_spreads.cls ≠ "java/lang/invoke/MethodHandle" ∧ yX7_spreads.cls ≠ "java/lang/invoke/VarHandle" ∧ (parseMethodDescriptor yX7_spreads.desc).map (fun d => d.parameters.length) = some 1 := by decide +kernel
set_option maxRecDepth 20000 in
theorem wdX7_spreads : Cond.code yX7_spreads cX7_spreads 4 none ∈ rk_T := rk_in 942 rfl rfl
theorem wvX7_spreads : Cond.instanceMethod yX7_spreads ∈ rk_T := rk_in 941 (by decide +kernel) rfl
theorem weX7_spreads : Cond.selects RX7 yX7_spreads yX7_spreads ∈ rk_T := rk_inS 49 (by decide +kernel) rfl
theorem wmX7_168 : Cond.methodLink RX7 168 yX7_spreads ∈ rk_T := rk_in 939 (by decide +kernel) rfl
theorem npX7_findsJoins : yX7_findsJoins.cls ≠ "java/lang/invoke/MethodHandle" ∧ yX7_findsJoins.cls ≠ "java/lang/invoke/VarHandle" ∧ (parseMethodDescriptor yX7_findsJoins.desc).map (fun d => d.parameters.length) = some 0 := by decide +kernel
set_option maxRecDepth 20000 in
theorem wdX7_findsJoins : Cond.code yX7_findsJoins cX7_findsJoins 4 none ∈ rk_T := rk_in 905 rfl rfl
theorem wvX7_findsJoins : Cond.instanceMethod yX7_findsJoins ∈ rk_T := rk_in 904 (by decide +kernel) rfl
theorem weX7_findsJoins : Cond.selects RX7 yX7_findsJoins yX7_findsJoins ∈ rk_T := rk_inS 40 (by decide +kernel) rfl
theorem wmX7_162 : Cond.methodLink RX7 162 yX7_findsJoins ∈ rk_T := rk_in 902 (by decide +kernel) rfl
theorem wfX7_181 : Cond.fieldLink RX7 181 (TX7 19).1 (TX7 19).2.1 (TX7 19).2.2.1 ∈ rk_T := rk_in 739 (by decide +kernel) rfl
theorem npX7_bestLeft : yX7_bestLeft.cls ≠ "java/lang/invoke/MethodHandle" ∧ yX7_bestLeft.cls ≠ "java/lang/invoke/VarHandle" ∧ (parseMethodDescriptor yX7_bestLeft.desc).map (fun d => d.parameters.length) = some 2 := by decide +kernel
set_option maxRecDepth 20000 in
theorem wdX7_bestLeft : Cond.code yX7_bestLeft cX7_bestLeft 6 (some .int) ∈ rk_T := rk_in 961 rfl rfl
theorem wvX7_bestLeft : Cond.instanceMethod yX7_bestLeft ∈ rk_T := rk_in 960 (by decide +kernel) rfl
theorem weX7_bestLeft : Cond.selects RX7 yX7_bestLeft yX7_bestLeft ∈ rk_T := rk_inS 53 (by decide +kernel) rfl
theorem wmX7_184 : Cond.methodLink RX7 184 yX7_bestLeft ∈ rk_T := rk_in 958 (by decide +kernel) rfl
theorem npX7_findsStrokes : yX7_findsStrokes.cls ≠ "java/lang/invoke/MethodHandle" ∧ yX7_findsStrokes.cls ≠ "java/lang/invoke/VarHandle" ∧ (parseMethodDescriptor yX7_findsStrokes.desc).map (fun d => d.parameters.length) = some 0 := by decide +kernel
set_option maxRecDepth 20000 in
theorem wdX7_findsStrokes : Cond.code yX7_findsStrokes cX7_findsStrokes 3 none ∈ rk_T := rk_in 901 rfl rfl
theorem wvX7_findsStrokes : Cond.instanceMethod yX7_findsStrokes ∈ rk_T := rk_in 900 (by decide +kernel) rfl
theorem weX7_findsStrokes : Cond.selects RX7 yX7_findsStrokes yX7_findsStrokes ∈ rk_T := rk_inS 39 (by decide +kernel) rfl
theorem wmX7_178 : Cond.methodLink RX7 178 yX7_findsStrokes ∈ rk_T := rk_in 898 (by decide +kernel) rfl
theorem npX7_ranksAll : yX7_ranksAll.cls ≠ "java/lang/invoke/MethodHandle" ∧ yX7_ranksAll.cls ≠ "java/lang/invoke/VarHandle" ∧ (parseMethodDescriptor yX7_ranksAll.desc).map (fun d => d.parameters.length) = some 0 := by decide +kernel
set_option maxRecDepth 20000 in
theorem wdX7_ranksAll : Cond.code yX7_ranksAll cX7_ranksAll 4 none ∈ rk_T := rk_in 897 rfl rfl
theorem wvX7_ranksAll : Cond.instanceMethod yX7_ranksAll ∈ rk_T := rk_in 896 (by decide +kernel) rfl
theorem weX7_ranksAll : Cond.selects RX7 yX7_ranksAll yX7_ranksAll ∈ rk_T := rk_inS 38 (by decide +kernel) rfl
theorem wmX7_188 : Cond.methodLink RX7 188 yX7_ranksAll ∈ rk_T := rk_in 894 (by decide +kernel) rfl
theorem npX7_finds : yX7_finds.cls ≠ "java/lang/invoke/MethodHandle" ∧ yX7_finds.cls ≠ "java/lang/invoke/VarHandle" ∧ (parseMethodDescriptor yX7_finds.desc).map (fun d => d.parameters.length) = some 0 := by decide +kernel
set_option maxRecDepth 20000 in
theorem wdX7_finds : Cond.code yX7_finds cX7_finds 1 none ∈ rk_T := rk_in 893 rfl rfl
theorem wvX7_finds : Cond.instanceMethod yX7_finds ∈ rk_T := rk_in 892 (by decide +kernel) rfl
theorem weX7_finds : Cond.selects RX7 yX7_finds yX7_finds ∈ rk_T := rk_inS 37 (by decide +kernel) rfl
theorem wmX7_191 : Cond.methodLink RX7 191 yX7_finds ∈ rk_T := rk_in 890 (by decide +kernel) rfl
theorem npX7_usefulOf : yX7_usefulOf.cls ≠ "java/lang/invoke/MethodHandle" ∧ yX7_usefulOf.cls ≠ "java/lang/invoke/VarHandle" ∧ (parseMethodDescriptor yX7_usefulOf.desc).map (fun d => d.parameters.length) = some 1 := by decide +kernel
set_option maxRecDepth 20000 in
theorem wdX7_usefulOf : Cond.code yX7_usefulOf cX7_usefulOf 6 (some .int) ∈ rk_T := rk_in 1080 rfl rfl
theorem wvX7_usefulOf : Cond.instanceMethod yX7_usefulOf ∈ rk_T := rk_in 1079 (by decide +kernel) rfl
theorem weX7_usefulOf : Cond.selects RX7 yX7_usefulOf yX7_usefulOf ∈ rk_T := rk_inS 72 (by decide +kernel) rfl
theorem wmX7_268 : Cond.methodLink RX7 268 yX7_usefulOf ∈ rk_T := rk_in 1077 (by decide +kernel) rfl
theorem npX7_infoOf : yX7_infoOf.cls ≠ "java/lang/invoke/MethodHandle" ∧ yX7_infoOf.cls ≠ "java/lang/invoke/VarHandle" ∧ (parseMethodDescriptor yX7_infoOf.desc).map (fun d => d.parameters.length) = some 2 := by decide +kernel
set_option maxRecDepth 20000 in
theorem wdX7_infoOf : Cond.code yX7_infoOf cX7_infoOf 3 (some .int) ∈ rk_T := rk_in 889 rfl rfl
theorem wvX7_infoOf : Cond.instanceMethod yX7_infoOf ∈ rk_T := rk_in 888 (by decide +kernel) rfl
theorem weX7_infoOf : Cond.selects RX7 yX7_infoOf yX7_infoOf ∈ rk_T := rk_inS 36 (by decide +kernel) rfl
theorem wmX7_194 : Cond.methodLink RX7 194 yX7_infoOf ∈ rk_T := rk_in 886 (by decide +kernel) rfl
theorem npX7_joinedOf : yX7_joinedOf.cls ≠ "java/lang/invoke/MethodHandle" ∧ yX7_joinedOf.cls ≠ "java/lang/invoke/VarHandle" ∧ (parseMethodDescriptor yX7_joinedOf.desc).map (fun d => d.parameters.length) = some 2 := by decide +kernel
set_option maxRecDepth 20000 in
theorem wdX7_joinedOf : Cond.code yX7_joinedOf cX7_joinedOf 3 (some .int) ∈ rk_T := rk_in 969 rfl rfl
theorem wvX7_joinedOf : Cond.instanceMethod yX7_joinedOf ∈ rk_T := rk_in 968 (by decide +kernel) rfl
theorem weX7_joinedOf : Cond.selects RX7 yX7_joinedOf yX7_joinedOf ∈ rk_T := rk_inS 54 (by decide +kernel) rfl
theorem wmX7_197 : Cond.methodLink RX7 197 yX7_joinedOf ∈ rk_T := rk_in 966 (by decide +kernel) rfl
theorem npX7_strokeOf : yX7_strokeOf.cls ≠ "java/lang/invoke/MethodHandle" ∧ yX7_strokeOf.cls ≠ "java/lang/invoke/VarHandle" ∧ (parseMethodDescriptor yX7_strokeOf.desc).map (fun d => d.parameters.length) = some 2 := by decide +kernel
set_option maxRecDepth 20000 in
theorem wdX7_strokeOf : Cond.code yX7_strokeOf cX7_strokeOf 3 (some .int) ∈ rk_T := rk_in 989 rfl rfl
theorem wvX7_strokeOf : Cond.instanceMethod yX7_strokeOf ∈ rk_T := rk_in 988 (by decide +kernel) rfl
theorem weX7_strokeOf : Cond.selects RX7 yX7_strokeOf yX7_strokeOf ∈ rk_T := rk_inS 57 (by decide +kernel) rfl
theorem wmX7_213 : Cond.methodLink RX7 213 yX7_strokeOf ∈ rk_T := rk_in 986 (by decide +kernel) rfl
theorem npX7_isStroke : yX7_isStroke.cls ≠ "java/lang/invoke/MethodHandle" ∧ yX7_isStroke.cls ≠ "java/lang/invoke/VarHandle" ∧ (parseMethodDescriptor yX7_isStroke.desc).map (fun d => d.parameters.length) = some 1 := by decide +kernel
set_option maxRecDepth 20000 in
theorem wdX7_isStroke : Cond.code yX7_isStroke cX7_isStroke 2 (some .boolean) ∈ rk_T := rk_in 985 rfl rfl
theorem wvX7_isStroke : Cond.instanceMethod yX7_isStroke ∈ rk_T := rk_in 984 (by decide +kernel) rfl
theorem weX7_isStroke : Cond.selects RX7 yX7_isStroke yX7_isStroke ∈ rk_T := rk_inS 56 (by decide +kernel) rfl
theorem wmX7_210 : Cond.methodLink RX7 210 yX7_isStroke ∈ rk_T := rk_in 982 (by decide +kernel) rfl
theorem npX7_rankFor : yX7_rankFor.cls ≠ "java/lang/invoke/MethodHandle" ∧ yX7_rankFor.cls ≠ "java/lang/invoke/VarHandle" ∧ (parseMethodDescriptor yX7_rankFor.desc).map (fun d => d.parameters.length) = some 2 := by decide +kernel
set_option maxRecDepth 20000 in
theorem wdX7_rankFor : Cond.code yX7_rankFor cX7_rankFor 5 (some .int) ∈ rk_T := rk_in 1003 rfl rfl
theorem wvX7_rankFor : Cond.instanceMethod yX7_rankFor ∈ rk_T := rk_in 1002 (by decide +kernel) rfl
theorem weX7_rankFor : Cond.selects RX7 yX7_rankFor yX7_rankFor ∈ rk_T := rk_inS 58 (by decide +kernel) rfl
theorem wmX7_215 : Cond.methodLink RX7 215 yX7_rankFor ∈ rk_T := rk_in 1000 (by decide +kernel) rfl
theorem npX7_farOf : yX7_farOf.cls ≠ "java/lang/invoke/MethodHandle" ∧ yX7_farOf.cls ≠ "java/lang/invoke/VarHandle" ∧ (parseMethodDescriptor yX7_farOf.desc).map (fun d => d.parameters.length) = some 3 := by decide +kernel
set_option maxRecDepth 20000 in
theorem wdX7_farOf : Cond.code yX7_farOf cX7_farOf 4 (some .int) ∈ rk_T := rk_in 1015 rfl rfl
theorem wvX7_farOf : Cond.instanceMethod yX7_farOf ∈ rk_T := rk_in 1014 (by decide +kernel) rfl
theorem weX7_farOf : Cond.selects RX7 yX7_farOf yX7_farOf ∈ rk_T := rk_inS 60 (by decide +kernel) rfl
theorem wmX7_228 : Cond.methodLink RX7 228 yX7_farOf ∈ rk_T := rk_in 1012 (by decide +kernel) rfl
theorem npX7_isNet : yX7_isNet.cls ≠ "java/lang/invoke/MethodHandle" ∧ yX7_isNet.cls ≠ "java/lang/invoke/VarHandle" ∧ (parseMethodDescriptor yX7_isNet.desc).map (fun d => d.parameters.length) = some 1 := by decide +kernel
set_option maxRecDepth 20000 in
theorem wdX7_isNet : Cond.code yX7_isNet cX7_isNet 2 (some .boolean) ∈ rk_T := rk_in 1011 rfl rfl
theorem wvX7_isNet : Cond.instanceMethod yX7_isNet ∈ rk_T := rk_in 1010 (by decide +kernel) rfl
theorem weX7_isNet : Cond.selects RX7 yX7_isNet yX7_isNet ∈ rk_T := rk_inS 59 (by decide +kernel) rfl
theorem wmX7_225 : Cond.methodLink RX7 225 yX7_isNet ∈ rk_T := rk_in 1008 (by decide +kernel) rfl
theorem npX7_cutOf : yX7_cutOf.cls ≠ "java/lang/invoke/MethodHandle" ∧ yX7_cutOf.cls ≠ "java/lang/invoke/VarHandle" ∧ (parseMethodDescriptor yX7_cutOf.desc).map (fun d => d.parameters.length) = some 3 := by decide +kernel
set_option maxRecDepth 20000 in
theorem wdX7_cutOf : Cond.code yX7_cutOf cX7_cutOf 6 (some .int) ∈ rk_T := rk_in 1032 rfl rfl
theorem wvX7_cutOf : Cond.instanceMethod yX7_cutOf ∈ rk_T := rk_in 1031 (by decide +kernel) rfl
theorem weX7_cutOf : Cond.selects RX7 yX7_cutOf yX7_cutOf ∈ rk_T := rk_inS 63 (by decide +kernel) rfl
theorem wmX7_259 : Cond.methodLink RX7 259 yX7_cutOf ∈ rk_T := rk_in 1029 (by decide +kernel) rfl
theorem npX7_bridgesOf : yX7_bridgesOf.cls ≠ "java/lang/invoke/MethodHandle" ∧ yX7_bridgesOf.cls ≠ "java/lang/invoke/VarHandle" ∧ (parseMethodDescriptor yX7_bridgesOf.desc).map (fun d => d.parameters.length) = some 1 := by decide +kernel
set_option maxRecDepth 20000 in
theorem wdX7_bridgesOf : Cond.code yX7_bridgesOf cX7_bridgesOf 6 (some .int) ∈ rk_T := rk_in 1064 rfl rfl
theorem wvX7_bridgesOf : Cond.instanceMethod yX7_bridgesOf ∈ rk_T := rk_in 1063 (by decide +kernel) rfl
theorem weX7_bridgesOf : Cond.selects RX7 yX7_bridgesOf yX7_bridgesOf ∈ rk_T := rk_inS 70 (by decide +kernel) rfl
theorem wmX7_262 : Cond.methodLink RX7 262 yX7_bridgesOf ∈ rk_T := rk_in 1061 (by decide +kernel) rfl
theorem npX7_sumOf : yX7_sumOf.cls ≠ "java/lang/invoke/MethodHandle" ∧ yX7_sumOf.cls ≠ "java/lang/invoke/VarHandle" ∧ (parseMethodDescriptor yX7_sumOf.desc).map (fun d => d.parameters.length) = some 1 := by decide +kernel
set_option maxRecDepth 20000 in
theorem wdX7_sumOf : Cond.code yX7_sumOf cX7_sumOf 6 (some .int) ∈ rk_T := rk_in 1121 rfl rfl
theorem wvX7_sumOf : Cond.instanceMethod yX7_sumOf ∈ rk_T := rk_in 1120 (by decide +kernel) rfl
theorem weX7_sumOf : Cond.selects RX7 yX7_sumOf yX7_sumOf ∈ rk_T := rk_inS 75 (by decide +kernel) rfl
theorem wmX7_282 : Cond.methodLink RX7 282 yX7_sumOf ∈ rk_T := rk_in 1118 (by decide +kernel) rfl
theorem wjX7_285 : Cond.constantLong RX7 285 (31) ∈ rk_T := rk_in 1127 (by decide +kernel) rfl
theorem npX7_far : yX7_far.cls ≠ "java/lang/invoke/MethodHandle" ∧ yX7_far.cls ≠ "java/lang/invoke/VarHandle" ∧ (parseMethodDescriptor yX7_far.desc).map (fun d => d.parameters.length) = some 3 := by decide +kernel
set_option maxRecDepth 20000 in
theorem wdX7_far : Cond.code yX7_far cX7_far 4 (some .int) ∈ rk_T := rk_in 1007 rfl rfl
theorem wvX7_far : Cond.instanceMethod yX7_far ∈ rk_T := rk_in 1005 (by decide +kernel) rfl
theorem weX7_far : Cond.selects RX7 yX7_far yX7_far ∈ rk_T := rk_in 1006 (by decide +kernel) rfl
theorem wmX7_287 : Cond.methodLink RX7 287 yX7_far ∈ rk_T := rk_in 1137 (by decide +kernel) rfl
theorem npX7_netDigest : yX7_netDigest.cls ≠ "java/lang/invoke/MethodHandle" ∧ yX7_netDigest.cls ≠ "java/lang/invoke/VarHandle" ∧ (parseMethodDescriptor yX7_netDigest.desc).map (fun d => d.parameters.length) = some 2 := by decide +kernel
set_option maxRecDepth 20000 in
theorem wdX7_netDigest : Cond.code yX7_netDigest cX7_netDigest 7 (some .long) ∈ rk_T := rk_in 1136 rfl rfl
theorem wvX7_netDigest : Cond.instanceMethod yX7_netDigest ∈ rk_T := rk_in 1135 (by decide +kernel) rfl
theorem weX7_netDigest : Cond.selects RX7 yX7_netDigest yX7_netDigest ∈ rk_T := rk_inS 77 (by decide +kernel) rfl
theorem wmX7_299 : Cond.methodLink RX7 299 yX7_netDigest ∈ rk_T := rk_in 1133 (by decide +kernel) rfl
theorem npX7_roadDigest : yX7_roadDigest.cls ≠ "java/lang/invoke/MethodHandle" ∧ yX7_roadDigest.cls ≠ "java/lang/invoke/VarHandle" ∧ (parseMethodDescriptor yX7_roadDigest.desc).map (fun d => d.parameters.length) = some 2 := by decide +kernel
set_option maxRecDepth 20000 in
theorem wdX7_roadDigest : Cond.code yX7_roadDigest cX7_roadDigest 7 (some .long) ∈ rk_T := rk_in 1132 rfl rfl
theorem wvX7_roadDigest : Cond.instanceMethod yX7_roadDigest ∈ rk_T := rk_in 1131 (by decide +kernel) rfl
theorem weX7_roadDigest : Cond.selects RX7 yX7_roadDigest yX7_roadDigest ∈ rk_T := rk_inS 76 (by decide +kernel) rfl
theorem wmX7_295 : Cond.methodLink RX7 295 yX7_roadDigest ∈ rk_T := rk_in 1129 (by decide +kernel) rfl
theorem npX7_count : yX7_count.cls ≠ "java/lang/invoke/MethodHandle" ∧ yX7_count.cls ≠ "java/lang/invoke/VarHandle" ∧ (parseMethodDescriptor yX7_count.desc).map (fun d => d.parameters.length) = some 1 := by decide +kernel
set_option maxRecDepth 20000 in
theorem wdX7_count : Cond.code yX7_count cX7_count 2 (some .int) ∈ rk_T := rk_in 1117 rfl rfl
theorem wvX7_count : Cond.instanceMethod yX7_count ∈ rk_T := rk_in 1115 (by decide +kernel) rfl
theorem weX7_count : Cond.selects RX7 yX7_count yX7_count ∈ rk_T := rk_in 1116 (by decide +kernel) rfl
theorem wmX7_292 : Cond.methodLink RX7 292 yX7_count ∈ rk_T := rk_in 1128 (by decide +kernel) rfl
theorem wjX7_290 : Cond.constantLong RX7 290 (17) ∈ rk_T := rk_in 1126 (by decide +kernel) rfl
theorem ws_mmin : Cond.static Lib.Math.min.name ∈ rk_T := rk_in 666 (by decide +kernel) rfl
theorem wd_mmin : Cond.code Lib.Math.min.name Lib.Math.min.code 2 (some .int) ∈ rk_T := rk_in 667 (by decide +kernel) rfl
theorem ws_mmax : Cond.static Lib.Math.max.name ∈ rk_T := rk_in 611 (by decide +kernel) rfl
theorem wd_mmax : Cond.code Lib.Math.max.name Lib.Math.max.code 2 (some .int) ∈ rk_T := rk_in 612 (by decide +kernel) rfl
theorem ws_mabs : Cond.static Lib.Math.abs.name ∈ rk_T := rk_in 314 (by decide +kernel) rfl
theorem wd_mabs : Cond.code Lib.Math.abs.name Lib.Math.abs.code 1 (some .int) ∈ rk_T := rk_in 315 (by decide +kernel) rfl
theorem wiMath : Cond.initialized "java/lang/Math" ∈ rk_T := rk_in 9 (by decide +kernel) rfl
theorem wnCopy : Cond.native arraycopyName ∈ rk_T := rk_in 660 (by decide +kernel) rfl
theorem wsCopy : Cond.static arraycopyName ∈ rk_T := rk_in 659 (by decide +kernel) rfl
theorem wiSystem : Cond.initialized "java/lang/System" ∈ rk_T := rk_in 11 (by decide +kernel) rfl
