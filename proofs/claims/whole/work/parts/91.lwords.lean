theorem wmL_13 : Cond.methodLink RL 13 yX6_meeting ∈ rk_T := rk_in 272 (by decide +kernel) rfl
theorem wvX6_meeting : Cond.instanceMethod yX6_meeting ∈ rk_T := rk_in 273 (by decide +kernel) rfl
theorem weX6_meeting : Cond.selects RX6 yX6_meeting yX6_meeting ∈ rk_T := rk_in 274 (by decide +kernel) rfl
set_option maxRecDepth 20000 in
theorem wdX6_meeting : Cond.code yX6_meeting cX6_meeting 3 (some .int) ∈ rk_T := rk_in 275 rfl rfl
theorem npX6_meeting : yX6_meeting.cls ≠ "java/lang/invoke/MethodHandle" ∧ yX6_meeting.cls ≠ "java/lang/invoke/VarHandle" ∧ (parseMethodDescriptor yX6_meeting.desc).map (fun d => d.parameters.length) = some 2 := by decide +kernel
theorem wmL_17 : Cond.methodLink RL 17 yX7_meeting ∈ rk_T := rk_in 820 (by decide +kernel) rfl
theorem wvX7_meeting : Cond.instanceMethod yX7_meeting ∈ rk_T := rk_in 821 (by decide +kernel) rfl
theorem weX7_meeting : Cond.selects RX7 yX7_meeting yX7_meeting ∈ rk_T := rk_in 822 (by decide +kernel) rfl
set_option maxRecDepth 20000 in
theorem wdX7_meeting : Cond.code yX7_meeting cX7_meeting 4 (some .int) ∈ rk_T := rk_in 823 rfl rfl
theorem npX7_meeting : yX7_meeting.cls ≠ "java/lang/invoke/MethodHandle" ∧ yX7_meeting.cls ≠ "java/lang/invoke/VarHandle" ∧ (parseMethodDescriptor yX7_meeting.desc).map (fun d => d.parameters.length) = some 2 := by decide +kernel
theorem wmL_18 : Cond.methodLink RL 18 yX6_road ∈ rk_T := rk_in 287 (by decide +kernel) rfl
theorem wvX6_road : Cond.instanceMethod yX6_road ∈ rk_T := rk_in 288 (by decide +kernel) rfl
theorem weX6_road : Cond.selects RX6 yX6_road yX6_road ∈ rk_T := rk_in 289 (by decide +kernel) rfl
set_option maxRecDepth 20000 in
theorem wdX6_road : Cond.code yX6_road cX6_road 6 (some .int) ∈ rk_T := rk_in 290 rfl rfl
theorem npX6_road : yX6_road.cls ≠ "java/lang/invoke/MethodHandle" ∧ yX6_road.cls ≠ "java/lang/invoke/VarHandle" ∧ (parseMethodDescriptor yX6_road.desc).map (fun d => d.parameters.length) = some 4 := by decide +kernel
theorem wmL_22 : Cond.methodLink RL 22 yX7_road ∈ rk_T := rk_in 827 (by decide +kernel) rfl
theorem wvX7_road : Cond.instanceMethod yX7_road ∈ rk_T := rk_in 828 (by decide +kernel) rfl
theorem weX7_road : Cond.selects RX7 yX7_road yX7_road ∈ rk_T := rk_in 829 (by decide +kernel) rfl
set_option maxRecDepth 20000 in
theorem wdX7_road : Cond.code yX7_road cX7_road 5 (some .int) ∈ rk_T := rk_in 830 rfl rfl
theorem npX7_road : yX7_road.cls ≠ "java/lang/invoke/MethodHandle" ∧ yX7_road.cls ≠ "java/lang/invoke/VarHandle" ∧ (parseMethodDescriptor yX7_road.desc).map (fun d => d.parameters.length) = some 4 := by decide +kernel
theorem wmL_23 : Cond.methodLink RL 23 yX6_undo ∈ rk_T := rk_in 429 (by decide +kernel) rfl
theorem wvX6_undo : Cond.instanceMethod yX6_undo ∈ rk_T := rk_in 430 (by decide +kernel) rfl
theorem weX6_undo : Cond.selects RX6 yX6_undo yX6_undo ∈ rk_T := rk_in 431 (by decide +kernel) rfl
set_option maxRecDepth 20000 in
theorem wdX6_undo : Cond.code yX6_undo cX6_undo 2 (some .int) ∈ rk_T := rk_in 432 rfl rfl
theorem npX6_undo : yX6_undo.cls ≠ "java/lang/invoke/MethodHandle" ∧ yX6_undo.cls ≠ "java/lang/invoke/VarHandle" ∧ (parseMethodDescriptor yX6_undo.desc).map (fun d => d.parameters.length) = some 0 := by decide +kernel
theorem wmL_27 : Cond.methodLink RL 27 yX7_undo ∈ rk_T := rk_in 843 (by decide +kernel) rfl
theorem wvX7_undo : Cond.instanceMethod yX7_undo ∈ rk_T := rk_in 844 (by decide +kernel) rfl
theorem weX7_undo : Cond.selects RX7 yX7_undo yX7_undo ∈ rk_T := rk_in 845 (by decide +kernel) rfl
set_option maxRecDepth 20000 in
theorem wdX7_undo : Cond.code yX7_undo cX7_undo 1 (some .int) ∈ rk_T := rk_in 846 rfl rfl
theorem npX7_undo : yX7_undo.cls ≠ "java/lang/invoke/MethodHandle" ∧ yX7_undo.cls ≠ "java/lang/invoke/VarHandle" ∧ (parseMethodDescriptor yX7_undo.desc).map (fun d => d.parameters.length) = some 0 := by decide +kernel
theorem wmL_28 : Cond.methodLink RL 28 yX6_alter ∈ rk_T := rk_in 437 (by decide +kernel) rfl
theorem wvX6_alter : Cond.instanceMethod yX6_alter ∈ rk_T := rk_in 438 (by decide +kernel) rfl
theorem weX6_alter : Cond.selects RX6 yX6_alter yX6_alter ∈ rk_T := rk_in 439 (by decide +kernel) rfl
set_option maxRecDepth 20000 in
theorem wdX6_alter : Cond.code yX6_alter cX6_alter 5 (some .int) ∈ rk_T := rk_in 440 rfl rfl
theorem npX6_alter : yX6_alter.cls ≠ "java/lang/invoke/MethodHandle" ∧ yX6_alter.cls ≠ "java/lang/invoke/VarHandle" ∧ (parseMethodDescriptor yX6_alter.desc).map (fun d => d.parameters.length) = some 3 := by decide +kernel
theorem wmL_32 : Cond.methodLink RL 32 yX7_alter ∈ rk_T := rk_in 847 (by decide +kernel) rfl
theorem wvX7_alter : Cond.instanceMethod yX7_alter ∈ rk_T := rk_in 848 (by decide +kernel) rfl
theorem weX7_alter : Cond.selects RX7 yX7_alter yX7_alter ∈ rk_T := rk_in 849 (by decide +kernel) rfl
set_option maxRecDepth 20000 in
theorem wdX7_alter : Cond.code yX7_alter cX7_alter 5 (some .int) ∈ rk_T := rk_in 850 rfl rfl
theorem npX7_alter : yX7_alter.cls ≠ "java/lang/invoke/MethodHandle" ∧ yX7_alter.cls ≠ "java/lang/invoke/VarHandle" ∧ (parseMethodDescriptor yX7_alter.desc).map (fun d => d.parameters.length) = some 3 := by decide +kernel
theorem wmL_33 : Cond.methodLink RL 33 yX6_read ∈ rk_T := rk_in 447 (by decide +kernel) rfl
theorem wvX6_read : Cond.instanceMethod yX6_read ∈ rk_T := rk_in 448 (by decide +kernel) rfl
theorem weX6_read : Cond.selects RX6 yX6_read yX6_read ∈ rk_T := rk_in 449 (by decide +kernel) rfl
set_option maxRecDepth 20000 in
theorem wdX6_read : Cond.code yX6_read cX6_read 6 (some .int) ∈ rk_T := rk_in 450 rfl rfl
theorem npX6_read : yX6_read.cls ≠ "java/lang/invoke/MethodHandle" ∧ yX6_read.cls ≠ "java/lang/invoke/VarHandle" ∧ (parseMethodDescriptor yX6_read.desc).map (fun d => d.parameters.length) = some 1 := by decide +kernel
theorem wmL_37 : Cond.methodLink RL 37 yX7_read ∈ rk_T := rk_in 855 (by decide +kernel) rfl
theorem wvX7_read : Cond.instanceMethod yX7_read ∈ rk_T := rk_in 856 (by decide +kernel) rfl
theorem weX7_read : Cond.selects RX7 yX7_read yX7_read ∈ rk_T := rk_in 857 (by decide +kernel) rfl
set_option maxRecDepth 20000 in
theorem wdX7_read : Cond.code yX7_read cX7_read 4 (some .int) ∈ rk_T := rk_in 858 rfl rfl
theorem npX7_read : yX7_read.cls ≠ "java/lang/invoke/MethodHandle" ∧ yX7_read.cls ≠ "java/lang/invoke/VarHandle" ∧ (parseMethodDescriptor yX7_read.desc).map (fun d => d.parameters.length) = some 1 := by decide +kernel
theorem wmL_38 : Cond.methodLink RL 38 yX6_at ∈ rk_T := rk_in 462 (by decide +kernel) rfl
theorem wmL_41 : Cond.methodLink RL 41 yX7_at ∈ rk_T := rk_in 866 (by decide +kernel) rfl
theorem wvX7_at : Cond.instanceMethod yX7_at ∈ rk_T := rk_in 867 (by decide +kernel) rfl
theorem weX7_at : Cond.selects RX7 yX7_at yX7_at ∈ rk_T := rk_in 868 (by decide +kernel) rfl
set_option maxRecDepth 20000 in
theorem wdX7_at : Cond.code yX7_at cX7_at 3 (some .int) ∈ rk_T := rk_in 869 rfl rfl
theorem npX7_at : yX7_at.cls ≠ "java/lang/invoke/MethodHandle" ∧ yX7_at.cls ≠ "java/lang/invoke/VarHandle" ∧ (parseMethodDescriptor yX7_at.desc).map (fun d => d.parameters.length) = some 2 := by decide +kernel
theorem wmL_42 : Cond.methodLink RL 42 yX6_info ∈ rk_T := rk_in 471 (by decide +kernel) rfl
theorem wmL_45 : Cond.methodLink RL 45 yX7_info ∈ rk_T := rk_in 882 (by decide +kernel) rfl
theorem wvX7_info : Cond.instanceMethod yX7_info ∈ rk_T := rk_in 883 (by decide +kernel) rfl
theorem weX7_info : Cond.selects RX7 yX7_info yX7_info ∈ rk_T := rk_in 884 (by decide +kernel) rfl
set_option maxRecDepth 20000 in
theorem wdX7_info : Cond.code yX7_info cX7_info 3 (some .int) ∈ rk_T := rk_in 885 rfl rfl
theorem npX7_info : yX7_info.cls ≠ "java/lang/invoke/MethodHandle" ∧ yX7_info.cls ≠ "java/lang/invoke/VarHandle" ∧ (parseMethodDescriptor yX7_info.desc).map (fun d => d.parameters.length) = some 2 := by decide +kernel
theorem wmL_46 : Cond.methodLink RL 46 yX6_joined ∈ rk_T := rk_in 476 (by decide +kernel) rfl
theorem wmL_49 : Cond.methodLink RL 49 yX7_joined ∈ rk_T := rk_in 962 (by decide +kernel) rfl
theorem wvX7_joined : Cond.instanceMethod yX7_joined ∈ rk_T := rk_in 963 (by decide +kernel) rfl
theorem weX7_joined : Cond.selects RX7 yX7_joined yX7_joined ∈ rk_T := rk_in 964 (by decide +kernel) rfl
set_option maxRecDepth 20000 in
theorem wdX7_joined : Cond.code yX7_joined cX7_joined 3 (some .int) ∈ rk_T := rk_in 965 rfl rfl
theorem npX7_joined : yX7_joined.cls ≠ "java/lang/invoke/MethodHandle" ∧ yX7_joined.cls ≠ "java/lang/invoke/VarHandle" ∧ (parseMethodDescriptor yX7_joined.desc).map (fun d => d.parameters.length) = some 2 := by decide +kernel
theorem wmL_50 : Cond.methodLink RL 50 yX6_along ∈ rk_T := rk_in 485 (by decide +kernel) rfl
theorem wvX6_along : Cond.instanceMethod yX6_along ∈ rk_T := rk_in 486 (by decide +kernel) rfl
theorem weX6_along : Cond.selects RX6 yX6_along yX6_along ∈ rk_T := rk_in 487 (by decide +kernel) rfl
set_option maxRecDepth 20000 in
theorem wdX6_along : Cond.code yX6_along cX6_along 4 (some .int) ∈ rk_T := rk_in 488 rfl rfl
theorem npX6_along : yX6_along.cls ≠ "java/lang/invoke/MethodHandle" ∧ yX6_along.cls ≠ "java/lang/invoke/VarHandle" ∧ (parseMethodDescriptor yX6_along.desc).map (fun d => d.parameters.length) = some 3 := by decide +kernel
theorem wmL_53 : Cond.methodLink RL 53 yX7_along ∈ rk_T := rk_in 970 (by decide +kernel) rfl
theorem wvX7_along : Cond.instanceMethod yX7_along ∈ rk_T := rk_in 971 (by decide +kernel) rfl
theorem weX7_along : Cond.selects RX7 yX7_along yX7_along ∈ rk_T := rk_in 972 (by decide +kernel) rfl
set_option maxRecDepth 20000 in
theorem wdX7_along : Cond.code yX7_along cX7_along 4 (some .int) ∈ rk_T := rk_in 973 rfl rfl
theorem npX7_along : yX7_along.cls ≠ "java/lang/invoke/MethodHandle" ∧ yX7_along.cls ≠ "java/lang/invoke/VarHandle" ∧ (parseMethodDescriptor yX7_along.desc).map (fun d => d.parameters.length) = some 3 := by decide +kernel
theorem wmL_54 : Cond.methodLink RL 54 yX6_stroke ∈ rk_T := rk_in 493 (by decide +kernel) rfl
theorem wmL_57 : Cond.methodLink RL 57 yX7_stroke ∈ rk_T := rk_in 978 (by decide +kernel) rfl
theorem wvX7_stroke : Cond.instanceMethod yX7_stroke ∈ rk_T := rk_in 979 (by decide +kernel) rfl
theorem weX7_stroke : Cond.selects RX7 yX7_stroke yX7_stroke ∈ rk_T := rk_in 980 (by decide +kernel) rfl
set_option maxRecDepth 20000 in
theorem wdX7_stroke : Cond.code yX7_stroke cX7_stroke 3 (some .int) ∈ rk_T := rk_in 981 rfl rfl
theorem npX7_stroke : yX7_stroke.cls ≠ "java/lang/invoke/MethodHandle" ∧ yX7_stroke.cls ≠ "java/lang/invoke/VarHandle" ∧ (parseMethodDescriptor yX7_stroke.desc).map (fun d => d.parameters.length) = some 2 := by decide +kernel
theorem wmL_58 : Cond.methodLink RL 58 yX6_rank ∈ rk_T := rk_in 511 (by decide +kernel) rfl
theorem wmL_61 : Cond.methodLink RL 61 yX7_rank ∈ rk_T := rk_in 996 (by decide +kernel) rfl
theorem wvX7_rank : Cond.instanceMethod yX7_rank ∈ rk_T := rk_in 997 (by decide +kernel) rfl
theorem weX7_rank : Cond.selects RX7 yX7_rank yX7_rank ∈ rk_T := rk_in 998 (by decide +kernel) rfl
set_option maxRecDepth 20000 in
theorem wdX7_rank : Cond.code yX7_rank cX7_rank 3 (some .int) ∈ rk_T := rk_in 999 rfl rfl
theorem npX7_rank : yX7_rank.cls ≠ "java/lang/invoke/MethodHandle" ∧ yX7_rank.cls ≠ "java/lang/invoke/VarHandle" ∧ (parseMethodDescriptor yX7_rank.desc).map (fun d => d.parameters.length) = some 2 := by decide +kernel
theorem wmL_62 : Cond.methodLink RL 62 yX6_far ∈ rk_T := rk_in 515 (by decide +kernel) rfl
theorem wmL_65 : Cond.methodLink RL 65 yX7_far ∈ rk_T := rk_in 1004 (by decide +kernel) rfl
theorem wmL_66 : Cond.methodLink RL 66 yX6_cut ∈ rk_T := rk_in 541 (by decide +kernel) rfl
theorem wvX6_cut : Cond.instanceMethod yX6_cut ∈ rk_T := rk_in 542 (by decide +kernel) rfl
theorem weX6_cut : Cond.selects RX6 yX6_cut yX6_cut ∈ rk_T := rk_in 543 (by decide +kernel) rfl
set_option maxRecDepth 20000 in
theorem wdX6_cut : Cond.code yX6_cut cX6_cut 4 (some .int) ∈ rk_T := rk_in 544 rfl rfl
theorem npX6_cut : yX6_cut.cls ≠ "java/lang/invoke/MethodHandle" ∧ yX6_cut.cls ≠ "java/lang/invoke/VarHandle" ∧ (parseMethodDescriptor yX6_cut.desc).map (fun d => d.parameters.length) = some 3 := by decide +kernel
theorem wmL_69 : Cond.methodLink RL 69 yX7_cut ∈ rk_T := rk_in 1025 (by decide +kernel) rfl
theorem wvX7_cut : Cond.instanceMethod yX7_cut ∈ rk_T := rk_in 1026 (by decide +kernel) rfl
theorem weX7_cut : Cond.selects RX7 yX7_cut yX7_cut ∈ rk_T := rk_in 1027 (by decide +kernel) rfl
set_option maxRecDepth 20000 in
theorem wdX7_cut : Cond.code yX7_cut cX7_cut 4 (some .int) ∈ rk_T := rk_in 1028 rfl rfl
theorem npX7_cut : yX7_cut.cls ≠ "java/lang/invoke/MethodHandle" ∧ yX7_cut.cls ≠ "java/lang/invoke/VarHandle" ∧ (parseMethodDescriptor yX7_cut.desc).map (fun d => d.parameters.length) = some 3 := by decide +kernel
theorem wmL_70 : Cond.methodLink RL 70 yX6_bridges ∈ rk_T := rk_in 575 (by decide +kernel) rfl
theorem wmL_73 : Cond.methodLink RL 73 yX7_bridges ∈ rk_T := rk_in 1057 (by decide +kernel) rfl
theorem wvX7_bridges : Cond.instanceMethod yX7_bridges ∈ rk_T := rk_in 1058 (by decide +kernel) rfl
theorem weX7_bridges : Cond.selects RX7 yX7_bridges yX7_bridges ∈ rk_T := rk_in 1059 (by decide +kernel) rfl
set_option maxRecDepth 20000 in
theorem wdX7_bridges : Cond.code yX7_bridges cX7_bridges 2 (some .int) ∈ rk_T := rk_in 1060 rfl rfl
theorem npX7_bridges : yX7_bridges.cls ≠ "java/lang/invoke/MethodHandle" ∧ yX7_bridges.cls ≠ "java/lang/invoke/VarHandle" ∧ (parseMethodDescriptor yX7_bridges.desc).map (fun d => d.parameters.length) = some 1 := by decide +kernel
theorem wmL_74 : Cond.methodLink RL 74 yX6_detour ∈ rk_T := rk_in 597 (by decide +kernel) rfl
theorem wmL_77 : Cond.methodLink RL 77 yX7_detour ∈ rk_T := rk_in 1065 (by decide +kernel) rfl
theorem wvX7_detour : Cond.instanceMethod yX7_detour ∈ rk_T := rk_in 1066 (by decide +kernel) rfl
theorem weX7_detour : Cond.selects RX7 yX7_detour yX7_detour ∈ rk_T := rk_in 1067 (by decide +kernel) rfl
set_option maxRecDepth 20000 in
theorem wdX7_detour : Cond.code yX7_detour cX7_detour 2 (some .int) ∈ rk_T := rk_in 1068 rfl rfl
theorem npX7_detour : yX7_detour.cls ≠ "java/lang/invoke/MethodHandle" ∧ yX7_detour.cls ≠ "java/lang/invoke/VarHandle" ∧ (parseMethodDescriptor yX7_detour.desc).map (fun d => d.parameters.length) = some 1 := by decide +kernel
theorem wmL_78 : Cond.methodLink RL 78 yX6_useful ∈ rk_T := rk_in 602 (by decide +kernel) rfl
theorem wmL_81 : Cond.methodLink RL 81 yX7_useful ∈ rk_T := rk_in 1073 (by decide +kernel) rfl
theorem wvX7_useful : Cond.instanceMethod yX7_useful ∈ rk_T := rk_in 1074 (by decide +kernel) rfl
theorem weX7_useful : Cond.selects RX7 yX7_useful yX7_useful ∈ rk_T := rk_in 1075 (by decide +kernel) rfl
set_option maxRecDepth 20000 in
theorem wdX7_useful : Cond.code yX7_useful cX7_useful 2 (some .int) ∈ rk_T := rk_in 1076 rfl rfl
theorem npX7_useful : yX7_useful.cls ≠ "java/lang/invoke/MethodHandle" ∧ yX7_useful.cls ≠ "java/lang/invoke/VarHandle" ∧ (parseMethodDescriptor yX7_useful.desc).map (fun d => d.parameters.length) = some 1 := by decide +kernel
theorem wmL_82 : Cond.methodLink RL 82 yX6_sheet ∈ rk_T := rk_in 613 (by decide +kernel) rfl
theorem wvX6_sheet : Cond.instanceMethod yX6_sheet ∈ rk_T := rk_in 614 (by decide +kernel) rfl
theorem weX6_sheet : Cond.selects RX6 yX6_sheet yX6_sheet ∈ rk_T := rk_in 615 (by decide +kernel) rfl
set_option maxRecDepth 20000 in
theorem wdX6_sheet : Cond.code yX6_sheet cX6_sheet 4 (some .int) ∈ rk_T := rk_in 616 rfl rfl
theorem npX6_sheet : yX6_sheet.cls ≠ "java/lang/invoke/MethodHandle" ∧ yX6_sheet.cls ≠ "java/lang/invoke/VarHandle" ∧ (parseMethodDescriptor yX6_sheet.desc).map (fun d => d.parameters.length) = some 3 := by decide +kernel
theorem wmL_85 : Cond.methodLink RL 85 yX7_sheet ∈ rk_T := rk_in 1081 (by decide +kernel) rfl
theorem wvX7_sheet : Cond.instanceMethod yX7_sheet ∈ rk_T := rk_in 1082 (by decide +kernel) rfl
theorem weX7_sheet : Cond.selects RX7 yX7_sheet yX7_sheet ∈ rk_T := rk_in 1083 (by decide +kernel) rfl
set_option maxRecDepth 20000 in
theorem wdX7_sheet : Cond.code yX7_sheet cX7_sheet 5 (some .int) ∈ rk_T := rk_in 1084 rfl rfl
theorem npX7_sheet : yX7_sheet.cls ≠ "java/lang/invoke/MethodHandle" ∧ yX7_sheet.cls ≠ "java/lang/invoke/VarHandle" ∧ (parseMethodDescriptor yX7_sheet.desc).map (fun d => d.parameters.length) = some 3 := by decide +kernel
theorem wmL_86 : Cond.methodLink RL 86 yX6_lose ∈ rk_T := rk_in 624 (by decide +kernel) rfl
theorem wvX6_lose : Cond.instanceMethod yX6_lose ∈ rk_T := rk_in 625 (by decide +kernel) rfl
theorem weX6_lose : Cond.selects RX6 yX6_lose yX6_lose ∈ rk_T := rk_in 626 (by decide +kernel) rfl
set_option maxRecDepth 20000 in
theorem wdX6_lose : Cond.code yX6_lose cX6_lose 4 (some .int) ∈ rk_T := rk_in 627 rfl rfl
theorem npX6_lose : yX6_lose.cls ≠ "java/lang/invoke/MethodHandle" ∧ yX6_lose.cls ≠ "java/lang/invoke/VarHandle" ∧ (parseMethodDescriptor yX6_lose.desc).map (fun d => d.parameters.length) = some 1 := by decide +kernel
theorem wmL_89 : Cond.methodLink RL 89 yX7_lose ∈ rk_T := rk_in 1085 (by decide +kernel) rfl
theorem wvX7_lose : Cond.instanceMethod yX7_lose ∈ rk_T := rk_in 1086 (by decide +kernel) rfl
theorem weX7_lose : Cond.selects RX7 yX7_lose yX7_lose ∈ rk_T := rk_in 1087 (by decide +kernel) rfl
set_option maxRecDepth 20000 in
theorem wdX7_lose : Cond.code yX7_lose cX7_lose 2 (some .int) ∈ rk_T := rk_in 1088 rfl rfl
theorem npX7_lose : yX7_lose.cls ≠ "java/lang/invoke/MethodHandle" ∧ yX7_lose.cls ≠ "java/lang/invoke/VarHandle" ∧ (parseMethodDescriptor yX7_lose.desc).map (fun d => d.parameters.length) = some 1 := by decide +kernel
theorem wmL_90 : Cond.methodLink RL 90 yX6_put ∈ rk_T := rk_in 632 (by decide +kernel) rfl
theorem wvX6_put : Cond.instanceMethod yX6_put ∈ rk_T := rk_in 633 (by decide +kernel) rfl
theorem weX6_put : Cond.selects RX6 yX6_put yX6_put ∈ rk_T := rk_in 634 (by decide +kernel) rfl
set_option maxRecDepth 20000 in
theorem wdX6_put : Cond.code yX6_put cX6_put 7 (some .int) ∈ rk_T := rk_in 635 rfl rfl
theorem npX6_put : yX6_put.cls ≠ "java/lang/invoke/MethodHandle" ∧ yX6_put.cls ≠ "java/lang/invoke/VarHandle" ∧ (parseMethodDescriptor yX6_put.desc).map (fun d => d.parameters.length) = some 4 := by decide +kernel
theorem wmL_93 : Cond.methodLink RL 93 yX7_put ∈ rk_T := rk_in 1089 (by decide +kernel) rfl
theorem wvX7_put : Cond.instanceMethod yX7_put ∈ rk_T := rk_in 1090 (by decide +kernel) rfl
theorem weX7_put : Cond.selects RX7 yX7_put yX7_put ∈ rk_T := rk_in 1091 (by decide +kernel) rfl
set_option maxRecDepth 20000 in
theorem wdX7_put : Cond.code yX7_put cX7_put 6 (some .int) ∈ rk_T := rk_in 1092 rfl rfl
theorem npX7_put : yX7_put.cls ≠ "java/lang/invoke/MethodHandle" ∧ yX7_put.cls ≠ "java/lang/invoke/VarHandle" ∧ (parseMethodDescriptor yX7_put.desc).map (fun d => d.parameters.length) = some 4 := by decide +kernel
theorem wmL_94 : Cond.methodLink RL 94 yX6_get ∈ rk_T := rk_in 645 (by decide +kernel) rfl
theorem wvX6_get : Cond.instanceMethod yX6_get ∈ rk_T := rk_in 646 (by decide +kernel) rfl
theorem weX6_get : Cond.selects RX6 yX6_get yX6_get ∈ rk_T := rk_in 647 (by decide +kernel) rfl
set_option maxRecDepth 20000 in
theorem wdX6_get : Cond.code yX6_get cX6_get 6 (some .int) ∈ rk_T := rk_in 648 rfl rfl
theorem npX6_get : yX6_get.cls ≠ "java/lang/invoke/MethodHandle" ∧ yX6_get.cls ≠ "java/lang/invoke/VarHandle" ∧ (parseMethodDescriptor yX6_get.desc).map (fun d => d.parameters.length) = some 3 := by decide +kernel
theorem wmL_97 : Cond.methodLink RL 97 yX7_get ∈ rk_T := rk_in 1101 (by decide +kernel) rfl
theorem wvX7_get : Cond.instanceMethod yX7_get ∈ rk_T := rk_in 1102 (by decide +kernel) rfl
theorem weX7_get : Cond.selects RX7 yX7_get yX7_get ∈ rk_T := rk_in 1103 (by decide +kernel) rfl
set_option maxRecDepth 20000 in
theorem wdX7_get : Cond.code yX7_get cX7_get 5 (some .int) ∈ rk_T := rk_in 1104 rfl rfl
theorem npX7_get : yX7_get.cls ≠ "java/lang/invoke/MethodHandle" ∧ yX7_get.cls ≠ "java/lang/invoke/VarHandle" ∧ (parseMethodDescriptor yX7_get.desc).map (fun d => d.parameters.length) = some 3 := by decide +kernel
theorem wmL_98 : Cond.methodLink RL 98 yX6_copy ∈ rk_T := rk_in 650 (by decide +kernel) rfl
theorem wvX6_copy : Cond.instanceMethod yX6_copy ∈ rk_T := rk_in 651 (by decide +kernel) rfl
theorem weX6_copy : Cond.selects RX6 yX6_copy yX6_copy ∈ rk_T := rk_in 652 (by decide +kernel) rfl
set_option maxRecDepth 20000 in
theorem wdX6_copy : Cond.code yX6_copy cX6_copy 8 (some .int) ∈ rk_T := rk_in 653 rfl rfl
theorem npX6_copy : yX6_copy.cls ≠ "java/lang/invoke/MethodHandle" ∧ yX6_copy.cls ≠ "java/lang/invoke/VarHandle" ∧ (parseMethodDescriptor yX6_copy.desc).map (fun d => d.parameters.length) = some 5 := by decide +kernel
theorem wmL_102 : Cond.methodLink RL 102 yX7_copy ∈ rk_T := rk_in 1106 (by decide +kernel) rfl
theorem wvX7_copy : Cond.instanceMethod yX7_copy ∈ rk_T := rk_in 1107 (by decide +kernel) rfl
theorem weX7_copy : Cond.selects RX7 yX7_copy yX7_copy ∈ rk_T := rk_in 1108 (by decide +kernel) rfl
set_option maxRecDepth 20000 in
theorem wdX7_copy : Cond.code yX7_copy cX7_copy 7 (some .int) ∈ rk_T := rk_in 1109 rfl rfl
theorem npX7_copy : yX7_copy.cls ≠ "java/lang/invoke/MethodHandle" ∧ yX7_copy.cls ≠ "java/lang/invoke/VarHandle" ∧ (parseMethodDescriptor yX7_copy.desc).map (fun d => d.parameters.length) = some 5 := by decide +kernel
theorem wmL_103 : Cond.methodLink RL 103 yX6_write ∈ rk_T := rk_in 661 (by decide +kernel) rfl
theorem wvX6_write : Cond.instanceMethod yX6_write ∈ rk_T := rk_in 662 (by decide +kernel) rfl
theorem weX6_write : Cond.selects RX6 yX6_write yX6_write ∈ rk_T := rk_in 663 (by decide +kernel) rfl
set_option maxRecDepth 20000 in
theorem wdX6_write : Cond.code yX6_write cX6_write 5 (some .int) ∈ rk_T := rk_in 664 rfl rfl
theorem npX6_write : yX6_write.cls ≠ "java/lang/invoke/MethodHandle" ∧ yX6_write.cls ≠ "java/lang/invoke/VarHandle" ∧ (parseMethodDescriptor yX6_write.desc).map (fun d => d.parameters.length) = some 1 := by decide +kernel
theorem wmL_106 : Cond.methodLink RL 106 yX7_write ∈ rk_T := rk_in 1110 (by decide +kernel) rfl
theorem wvX7_write : Cond.instanceMethod yX7_write ∈ rk_T := rk_in 1111 (by decide +kernel) rfl
theorem weX7_write : Cond.selects RX7 yX7_write yX7_write ∈ rk_T := rk_in 1112 (by decide +kernel) rfl
set_option maxRecDepth 20000 in
theorem wdX7_write : Cond.code yX7_write cX7_write 3 (some .int) ∈ rk_T := rk_in 1113 rfl rfl
theorem npX7_write : yX7_write.cls ≠ "java/lang/invoke/MethodHandle" ∧ yX7_write.cls ≠ "java/lang/invoke/VarHandle" ∧ (parseMethodDescriptor yX7_write.desc).map (fun d => d.parameters.length) = some 1 := by decide +kernel
theorem wmL_107 : Cond.methodLink RL 107 yX6_count ∈ rk_T := rk_in 668 (by decide +kernel) rfl
theorem wmL_110 : Cond.methodLink RL 110 yX7_count ∈ rk_T := rk_in 1114 (by decide +kernel) rfl
theorem wmL_111 : Cond.methodLink RL 111 yX6_digest ∈ rk_T := rk_in 683 (by decide +kernel) rfl
theorem wvX6_digest : Cond.instanceMethod yX6_digest ∈ rk_T := rk_in 684 (by decide +kernel) rfl
theorem weX6_digest : Cond.selects RX6 yX6_digest yX6_digest ∈ rk_T := rk_in 685 (by decide +kernel) rfl
set_option maxRecDepth 20000 in
theorem wdX6_digest : Cond.code yX6_digest cX6_digest 5 (some .long) ∈ rk_T := rk_in 686 rfl rfl
theorem npX6_digest : yX6_digest.cls ≠ "java/lang/invoke/MethodHandle" ∧ yX6_digest.cls ≠ "java/lang/invoke/VarHandle" ∧ (parseMethodDescriptor yX6_digest.desc).map (fun d => d.parameters.length) = some 0 := by decide +kernel
theorem wmL_115 : Cond.methodLink RL 115 yX7_digest ∈ rk_T := rk_in 1122 (by decide +kernel) rfl
theorem wvX7_digest : Cond.instanceMethod yX7_digest ∈ rk_T := rk_in 1123 (by decide +kernel) rfl
theorem weX7_digest : Cond.selects RX7 yX7_digest yX7_digest ∈ rk_T := rk_in 1124 (by decide +kernel) rfl
set_option maxRecDepth 20000 in
theorem wdX7_digest : Cond.code yX7_digest cX7_digest 5 (some .long) ∈ rk_T := rk_in 1125 rfl rfl
theorem npX7_digest : yX7_digest.cls ≠ "java/lang/invoke/MethodHandle" ∧ yX7_digest.cls ≠ "java/lang/invoke/VarHandle" ∧ (parseMethodDescriptor yX7_digest.desc).map (fun d => d.parameters.length) = some 0 := by decide +kernel
theorem wmL_9 : Cond.methodLink RL 9 yX6_init ∈ rk_T := rk_in 14 (by decide +kernel) rfl
theorem wmL_12 : Cond.methodLink RL 12 yX7_init ∈ rk_T := rk_in 716 (by decide +kernel) rfl
theorem wz_0 : Cond.methodLinkNest "RoadStrokes" 9 ⟨"RoadStrokes$Net", "<init>", "()V"⟩ RX6 ∈ lw_tbl := List.mem_append_right _ (List.mem_of_getElem? (i := 22) (by decide +kernel))
theorem wz_1 : Cond.methodLinkNest "RoadStrokes" 56 ⟨"RoadStrokes$Row", "<init>", "()V"⟩ RX6 ∈ lw_tbl := List.mem_append_right _ (List.mem_of_getElem? (i := 233) (by decide +kernel))
theorem wz_2 : Cond.methodLinkNest "RoadStrokes$Net" 44 ⟨"RoadStrokes", "isPlace", "(I)Z"⟩ RX6 ∈ lw_tbl := List.mem_append_right _ (List.mem_of_getElem? (i := 280) (by decide +kernel))
theorem wz_3 : Cond.methodLinkNest "RoadStrokes$Net" 55 ⟨"RoadStrokes", "isKind", "(I)Z"⟩ RX6 ∈ lw_tbl := List.mem_append_right _ (List.mem_of_getElem? (i := 299) (by decide +kernel))
theorem wz_4 : Cond.methodLinkNest "RoadStrokes$Net" 58 ⟨"RoadStrokes", "isUse", "(I)Z"⟩ RX6 ∈ lw_tbl := List.mem_append_right _ (List.mem_of_getElem? (i := 302) (by decide +kernel))
theorem wz_5 : Cond.methodLinkNest "RoadStrokes$Strokes" 77 ⟨"RoadStrokes", "hasBit", "(II)Z"⟩ RX6 ∈ lw_tbl := List.mem_append_right _ (List.mem_of_getElem? (i := 388) (by decide +kernel))
theorem wz_6 : Cond.methodLinkNest "RoadStrokes$Strokes" 98 ⟨"RoadStrokes", "reached", "(II[I)I"⟩ RX6 ∈ lw_tbl := List.mem_append_right _ (List.mem_of_getElem? (i := 395) (by decide +kernel))
theorem wz_7 : Cond.methodLinkNest "RoadStrokes$Ways" 37 ⟨"RoadStrokes", "hasBit", "(II)Z"⟩ RX6 ∈ lw_tbl := List.mem_append_right _ (List.mem_of_getElem? (i := 540) (by decide +kernel))
theorem wz_8 : Cond.methodLinkNest "RoadStrokes$Cutting" 37 ⟨"RoadStrokes", "hasBit", "(II)Z"⟩ RX6 ∈ lw_tbl := List.mem_append_right _ (List.mem_of_getElem? (i := 553) (by decide +kernel))
theorem wz_9 : Cond.methodLinkNest "RoadStrokes$Cutting" 64 ⟨"RoadStrokes", "reached", "(II[I)I"⟩ RX6 ∈ lw_tbl := List.mem_append_right _ (List.mem_of_getElem? (i := 566) (by decide +kernel))
theorem wz_10 : Cond.methodLinkNest "RoadStrokes$Ways" 57 ⟨"RoadStrokes", "reached", "(II[I)I"⟩ RX6 ∈ lw_tbl := List.mem_append_right _ (List.mem_of_getElem? (i := 596) (by decide +kernel))
theorem wz_ao : Cond.arrayOver (.object "RoadStrokes$Row") ∈ lw_tbl := List.mem_append_right _ (List.mem_of_getElem? (i := 231) (by decide +kernel))
