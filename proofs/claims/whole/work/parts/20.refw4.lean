theorem dX7_along_0 : decode cX7_along 0 = .ok (.aload_n 0, 1) := by decide +kernel
theorem dX7_along_1 : decode cX7_along 1 = .ok (.iload_n 1, 1) := by decide +kernel
theorem dX7_along_2 : decode cX7_along 2 = .ok (.invokevirtual 91, 3) := by decide +kernel
theorem dX7_along_5 : decode cX7_along 5 = .ok (.ifCond .eq 29, 3) := by decide +kernel
theorem dX7_along_8 : decode cX7_along 8 = .ok (.aload_n 0, 1) := by decide +kernel
theorem dX7_along_9 : decode cX7_along 9 = .ok (.iload_n 2, 1) := by decide +kernel
theorem dX7_along_10 : decode cX7_along 10 = .ok (.invokevirtual 102, 3) := by decide +kernel
theorem dX7_along_13 : decode cX7_along 13 = .ok (.ifCond .eq 21, 3) := by decide +kernel
theorem dX7_along_16 : decode cX7_along 16 = .ok (.aload_n 0, 1) := by decide +kernel
theorem dX7_along_17 : decode cX7_along 17 = .ok (.iload_n 3, 1) := by decide +kernel
theorem dX7_along_18 : decode cX7_along 18 = .ok (.invokevirtual 102, 3) := by decide +kernel
theorem dX7_along_21 : decode cX7_along 21 = .ok (.ifCond .eq 13, 3) := by decide +kernel
theorem dX7_along_24 : decode cX7_along 24 = .ok (.aload_n 0, 1) := by decide +kernel
theorem dX7_along_25 : decode cX7_along 25 = .ok (.iload_n 1, 1) := by decide +kernel
theorem dX7_along_26 : decode cX7_along 26 = .ok (.iload_n 2, 1) := by decide +kernel
theorem dX7_along_27 : decode cX7_along 27 = .ok (.iload_n 3, 1) := by decide +kernel
theorem dX7_along_28 : decode cX7_along 28 = .ok (.invokevirtual 200, 3) := by decide +kernel
theorem dX7_along_31 : decode cX7_along 31 = .ok (.goto 5, 3) := by decide +kernel
theorem dX7_along_34 : decode cX7_along 34 = .ok (.bipush (-2), 2) := by decide +kernel
theorem dX7_along_36 : decode cX7_along 36 = .ok (.ireturn, 1) := by decide +kernel
abbrev kX7_along (g : rk_G) (R : rk_R) (pc : Nat) : rk_K := rk_cut g cX7_along 4 (some .int) RX7 5 R pc
abbrev aX7_along (g : rk_G) (R : rk_R) (pc : Nat) (K : rk_K) : Prop := rk_AK g cX7_along 4 (some .int) RX7 5 R pc K
abbrev sX7_along (g : rk_G) (vs : List Value) (σ : rk_M) (R : rk_R) : Prop := rk_does g yX7_along cX7_along 4 (some .int) 5 vs σ R
abbrev tX7_along (g : rk_G) (R : rk_R) (pc : Nat) (ls st : List Value) (σ : rk_M) : Prop := rk_At g cX7_along 4 (some .int) RX7 5 R pc ls st σ
def bX7_along_36 (g : rk_G) (R : rk_R) : rk_K := (rk_iret R)
theorem eX7_along_36 (g : rk_G) (R : rk_R) (ls st : List Value) (σ : rk_M) : bX7_along_36 g R ls st σ = (rk_iret R) ls st σ := rfl
theorem oX7_along_36 {g : rk_G} {R : rk_R} : aX7_along g R 36 (bX7_along_36 g R) := (rk_iret_ok rfl dX7_along_36)
def bX7_along_34 (g : rk_G) (R : rk_R) : rk_K := (rk_ci (-2) (bX7_along_36 g R))
theorem eX7_along_34 (g : rk_G) (R : rk_R) (ls st : List Value) (σ : rk_M) : bX7_along_34 g R ls st σ = (rk_ci (-2) (bX7_along_36 g R)) ls st σ := rfl
theorem oX7_along_34 {g : rk_G} {R : rk_R} : aX7_along g R 34 (bX7_along_34 g R) := (rk_bipush_ok dX7_along_34 (by decide) oX7_along_36)
def bX7_along_0 (g : rk_G) (R : rk_R) : rk_K := (rk_aload 0 (rk_iload 1 (rk_cV g 1 7 yX7_isMeeting cX7_isMeeting 2 (some .boolean) 1 (rk_if_eq (bX7_along_34 g R) (rk_aload 0 (rk_iload 2 (rk_cV g 1 7 yX7_isRoad cX7_isRoad 2 (some .boolean) 1 (rk_if_eq (bX7_along_34 g R) (rk_aload 0 (rk_iload 3 (rk_cV g 1 7 yX7_isRoad cX7_isRoad 2 (some .boolean) 1 (rk_if_eq (bX7_along_34 g R) (rk_aload 0 (rk_iload 1 (rk_iload 2 (rk_iload 3 (rk_cV g 3 7 yX7_alongOf cX7_alongOf 4 (some .int) 4 (bX7_along_36 g R))))))))))))))))))
theorem eX7_along_0 (g : rk_G) (R : rk_R) (ls st : List Value) (σ : rk_M) : bX7_along_0 g R ls st σ = (rk_aload 0 (rk_iload 1 (rk_cV g 1 7 yX7_isMeeting cX7_isMeeting 2 (some .boolean) 1 (rk_if_eq (bX7_along_34 g R) (rk_aload 0 (rk_iload 2 (rk_cV g 1 7 yX7_isRoad cX7_isRoad 2 (some .boolean) 1 (rk_if_eq (bX7_along_34 g R) (rk_aload 0 (rk_iload 3 (rk_cV g 1 7 yX7_isRoad cX7_isRoad 2 (some .boolean) 1 (rk_if_eq (bX7_along_34 g R) (rk_aload 0 (rk_iload 1 (rk_iload 2 (rk_iload 3 (rk_cV g 3 7 yX7_alongOf cX7_alongOf 4 (some .int) 4 (bX7_along_36 g R)))))))))))))))))) ls st σ := rfl
theorem oX7_along_0 {g : rk_G} {R : rk_R} : aX7_along g R 0 (bX7_along_0 g R) := (rk_aload_n_ok dX7_along_0 rfl (rk_iload_n_ok dX7_along_1 rfl (rk_cV_ok dX7_along_2 rfl rfl npX7_isMeeting wmX7_91 wvX7_isMeeting weX7_isMeeting wiX7 wdX7_isMeeting (by decide) (by decide) (rk_if_eq_ok (pc' := 34) dX7_along_5 (by decide) oX7_along_34 (rk_aload_n_ok dX7_along_8 rfl (rk_iload_n_ok dX7_along_9 rfl (rk_cV_ok dX7_along_10 rfl rfl npX7_isRoad wmX7_102 wvX7_isRoad weX7_isRoad wiX7 wdX7_isRoad (by decide) (by decide) (rk_if_eq_ok (pc' := 34) dX7_along_13 (by decide) oX7_along_34 (rk_aload_n_ok dX7_along_16 rfl (rk_iload_n_ok dX7_along_17 rfl (rk_cV_ok dX7_along_18 rfl rfl npX7_isRoad wmX7_102 wvX7_isRoad weX7_isRoad wiX7 wdX7_isRoad (by decide) (by decide) (rk_if_eq_ok (pc' := 34) dX7_along_21 (by decide) oX7_along_34 (rk_aload_n_ok dX7_along_24 rfl (rk_iload_n_ok dX7_along_25 rfl (rk_iload_n_ok dX7_along_26 rfl (rk_iload_n_ok dX7_along_27 rfl (rk_cV_ok dX7_along_28 rfl rfl npX7_alongOf wmX7_200 wvX7_alongOf weX7_alongOf wiX7 wdX7_alongOf (by decide) (by decide) (rk_goto_ok (pc' := 36) dX7_along_31 (by decide) oX7_along_36))))))))))))))))))
theorem dX7_cutOf_0 : decode cX7_cutOf 0 = .ok (.aload_n 0, 1) := by decide +kernel
theorem dX7_cutOf_1 : decode cX7_cutOf 1 = .ok (.iload_n 1, 1) := by decide +kernel
theorem dX7_cutOf_2 : decode cX7_cutOf 2 = .ok (.iload_n 2, 1) := by decide +kernel
theorem dX7_cutOf_3 : decode cX7_cutOf 3 = .ok (.invokevirtual 255, 3) := by decide +kernel
theorem dX7_cutOf_6 : decode cX7_cutOf 6 = .ok (.iconst 0, 1) := by decide +kernel
theorem dX7_cutOf_7 : decode cX7_cutOf 7 = .ok (.istore 4, 2) := by decide +kernel
theorem dX7_cutOf_9 : decode cX7_cutOf 9 = .ok (.iconst 0, 1) := by decide +kernel
theorem dX7_cutOf_10 : decode cX7_cutOf 10 = .ok (.istore 5, 2) := by decide +kernel
theorem dX7_cutOf_12 : decode cX7_cutOf 12 = .ok (.iload 5, 2) := by decide +kernel
theorem dX7_cutOf_14 : decode cX7_cutOf 14 = .ok (.aload_n 0, 1) := by decide +kernel
theorem dX7_cutOf_15 : decode cX7_cutOf 15 = .ok (.getfield 165, 3) := by decide +kernel
theorem dX7_cutOf_18 : decode cX7_cutOf 18 = .ok (.if_icmp .ge 37, 3) := by decide +kernel
theorem dX7_cutOf_21 : decode cX7_cutOf 21 = .ok (.iload 4, 2) := by decide +kernel
theorem dX7_cutOf_23 : decode cX7_cutOf 23 = .ok (.aload_n 0, 1) := by decide +kernel
theorem dX7_cutOf_24 : decode cX7_cutOf 24 = .ok (.getfield 231, 3) := by decide +kernel
theorem dX7_cutOf_27 : decode cX7_cutOf 27 = .ok (.iload 5, 2) := by decide +kernel
theorem dX7_cutOf_29 : decode cX7_cutOf 29 = .ok (.invokestatic 204, 3) := by decide +kernel
theorem dX7_cutOf_32 : decode cX7_cutOf 32 = .ok (.ifCond .eq 13, 3) := by decide +kernel
theorem dX7_cutOf_35 : decode cX7_cutOf 35 = .ok (.aload_n 0, 1) := by decide +kernel
theorem dX7_cutOf_36 : decode cX7_cutOf 36 = .ok (.getfield 40, 3) := by decide +kernel
theorem dX7_cutOf_39 : decode cX7_cutOf 39 = .ok (.iload 5, 2) := by decide +kernel
theorem dX7_cutOf_41 : decode cX7_cutOf 41 = .ok (.iaload, 1) := by decide +kernel
theorem dX7_cutOf_42 : decode cX7_cutOf 42 = .ok (.goto 4, 3) := by decide +kernel
theorem dX7_cutOf_45 : decode cX7_cutOf 45 = .ok (.iconst 0, 1) := by decide +kernel
theorem dX7_cutOf_46 : decode cX7_cutOf 46 = .ok (.iadd, 1) := by decide +kernel
theorem dX7_cutOf_47 : decode cX7_cutOf 47 = .ok (.istore 4, 2) := by decide +kernel
theorem dX7_cutOf_49 : decode cX7_cutOf 49 = .ok (.iinc 5 1, 3) := by decide +kernel
theorem dX7_cutOf_52 : decode cX7_cutOf 52 = .ok (.goto (-40), 3) := by decide +kernel
theorem dX7_cutOf_55 : decode cX7_cutOf 55 = .ok (.iload_n 3, 1) := by decide +kernel
theorem dX7_cutOf_56 : decode cX7_cutOf 56 = .ok (.ifCond .ne 10, 3) := by decide +kernel
theorem dX7_cutOf_59 : decode cX7_cutOf 59 = .ok (.aload_n 0, 1) := by decide +kernel
theorem dX7_cutOf_60 : decode cX7_cutOf 60 = .ok (.getfield 246, 3) := by decide +kernel
theorem dX7_cutOf_63 : decode cX7_cutOf 63 = .ok (.goto 29, 3) := by decide +kernel
theorem dX7_cutOf_66 : decode cX7_cutOf 66 = .ok (.iload_n 3, 1) := by decide +kernel
theorem dX7_cutOf_67 : decode cX7_cutOf 67 = .ok (.iconst 1, 1) := by decide +kernel
theorem dX7_cutOf_68 : decode cX7_cutOf 68 = .ok (.if_icmp .ne 10, 3) := by decide +kernel
theorem dX7_cutOf_71 : decode cX7_cutOf 71 = .ok (.aload_n 0, 1) := by decide +kernel
theorem dX7_cutOf_72 : decode cX7_cutOf 72 = .ok (.getfield 231, 3) := by decide +kernel
theorem dX7_cutOf_75 : decode cX7_cutOf 75 = .ok (.goto 17, 3) := by decide +kernel
theorem dX7_cutOf_78 : decode cX7_cutOf 78 = .ok (.iload_n 3, 1) := by decide +kernel
theorem dX7_cutOf_79 : decode cX7_cutOf 79 = .ok (.iconst 2, 1) := by decide +kernel
theorem dX7_cutOf_80 : decode cX7_cutOf 80 = .ok (.if_icmp .ne 8, 3) := by decide +kernel
theorem dX7_cutOf_83 : decode cX7_cutOf 83 = .ok (.iload 4, 2) := by decide +kernel
theorem dX7_cutOf_85 : decode cX7_cutOf 85 = .ok (.goto 7, 3) := by decide +kernel
theorem dX7_cutOf_88 : decode cX7_cutOf 88 = .ok (.aload_n 0, 1) := by decide +kernel
theorem dX7_cutOf_89 : decode cX7_cutOf 89 = .ok (.getfield 249, 3) := by decide +kernel
theorem dX7_cutOf_92 : decode cX7_cutOf 92 = .ok (.ireturn, 1) := by decide +kernel
abbrev kX7_cutOf (g : rk_G) (R : rk_R) (pc : Nat) : rk_K := rk_cut g cX7_cutOf 6 (some .int) RX7 5 R pc
abbrev aX7_cutOf (g : rk_G) (R : rk_R) (pc : Nat) (K : rk_K) : Prop := rk_AK g cX7_cutOf 6 (some .int) RX7 5 R pc K
abbrev sX7_cutOf (g : rk_G) (vs : List Value) (σ : rk_M) (R : rk_R) : Prop := rk_does g yX7_cutOf cX7_cutOf 6 (some .int) 5 vs σ R
abbrev tX7_cutOf (g : rk_G) (R : rk_R) (pc : Nat) (ls st : List Value) (σ : rk_M) : Prop := rk_At g cX7_cutOf 6 (some .int) RX7 5 R pc ls st σ
def bX7_cutOf_92 (g : rk_G) (R : rk_R) : rk_K := (rk_iret R)
theorem eX7_cutOf_92 (g : rk_G) (R : rk_R) (ls st : List Value) (σ : rk_M) : bX7_cutOf_92 g R ls st σ = (rk_iret R) ls st σ := rfl
theorem oX7_cutOf_92 {g : rk_G} {R : rk_R} : aX7_cutOf g R 92 (bX7_cutOf_92 g R) := (rk_iret_ok rfl dX7_cutOf_92)
def bX7_cutOf_46 (g : rk_G) (R : rk_R) : rk_K := (rk_iadd (rk_istore 4 (rk_iinc 5 (1) (kX7_cutOf g R 12))))
theorem eX7_cutOf_46 (g : rk_G) (R : rk_R) (ls st : List Value) (σ : rk_M) : bX7_cutOf_46 g R ls st σ = (rk_iadd (rk_istore 4 (rk_iinc 5 (1) (kX7_cutOf g R 12)))) ls st σ := rfl
theorem oX7_cutOf_46 {g : rk_G} {R : rk_R} : aX7_cutOf g R 46 (bX7_cutOf_46 g R) := (rk_iadd_ok dX7_cutOf_46 (rk_istore_ok dX7_cutOf_47 (by decide) (rk_iinc_ok dX7_cutOf_49 (by decide) (by decide) (rk_goto_ok (pc' := 12) dX7_cutOf_52 (by decide) rk_cut_ok))))
def bX7_cutOf_12 (g : rk_G) (R : rk_R) : rk_K := (rk_iload 5 (rk_aload 0 (rk_gI 7 11 (rk_icmp_ge (rk_iload 3 (rk_if_ne (rk_iload 3 (rk_ci (1) (rk_icmp_ne (rk_iload 3 (rk_ci (2) (rk_icmp_ne (rk_aload 0 (rk_gI 7 26 (bX7_cutOf_92 g R))) (rk_iload 4 (bX7_cutOf_92 g R))))) (rk_aload 0 (rk_gI 7 24 (bX7_cutOf_92 g R)))))) (rk_aload 0 (rk_gI 7 25 (bX7_cutOf_92 g R))))) (rk_iload 4 (rk_aload 0 (rk_gI 7 24 (rk_iload 5 (rk_cS g 2 yX7_isIn cX7_isIn 2 (some .boolean) 0 (rk_if_eq (rk_ci (0) (bX7_cutOf_46 g R)) (rk_aload 0 (rk_gR 7 15 (rk_iload 5 (rk_iald (bX7_cutOf_46 g R)))))))))))))))
theorem eX7_cutOf_12 (g : rk_G) (R : rk_R) (ls st : List Value) (σ : rk_M) : bX7_cutOf_12 g R ls st σ = (rk_iload 5 (rk_aload 0 (rk_gI 7 11 (rk_icmp_ge (rk_iload 3 (rk_if_ne (rk_iload 3 (rk_ci (1) (rk_icmp_ne (rk_iload 3 (rk_ci (2) (rk_icmp_ne (rk_aload 0 (rk_gI 7 26 (bX7_cutOf_92 g R))) (rk_iload 4 (bX7_cutOf_92 g R))))) (rk_aload 0 (rk_gI 7 24 (bX7_cutOf_92 g R)))))) (rk_aload 0 (rk_gI 7 25 (bX7_cutOf_92 g R))))) (rk_iload 4 (rk_aload 0 (rk_gI 7 24 (rk_iload 5 (rk_cS g 2 yX7_isIn cX7_isIn 2 (some .boolean) 0 (rk_if_eq (rk_ci (0) (bX7_cutOf_46 g R)) (rk_aload 0 (rk_gR 7 15 (rk_iload 5 (rk_iald (bX7_cutOf_46 g R))))))))))))))) ls st σ := rfl
theorem oX7_cutOf_12 {g : rk_G} {R : rk_R} : aX7_cutOf g R 12 (bX7_cutOf_12 g R) := (rk_iload_ok dX7_cutOf_12 (rk_aload_n_ok dX7_cutOf_14 rfl (rk_gI_ok dX7_cutOf_15 rfl iX7 (by decide) rfl wfX7_165 (rk_icmp_ge_ok (pc' := 55) dX7_cutOf_18 (by decide) (rk_iload_n_ok dX7_cutOf_55 rfl (rk_if_ne_ok (pc' := 66) dX7_cutOf_56 (by decide) (rk_iload_n_ok dX7_cutOf_66 rfl (rk_iconst_ok dX7_cutOf_67 (by decide) (rk_icmp_ne_ok (pc' := 78) dX7_cutOf_68 (by decide) (rk_iload_n_ok dX7_cutOf_78 rfl (rk_iconst_ok dX7_cutOf_79 (by decide) (rk_icmp_ne_ok (pc' := 88) dX7_cutOf_80 (by decide) (rk_aload_n_ok dX7_cutOf_88 rfl (rk_gI_ok dX7_cutOf_89 rfl iX7 (by decide) rfl wfX7_249 oX7_cutOf_92)) (rk_iload_ok dX7_cutOf_83 (rk_goto_ok (pc' := 92) dX7_cutOf_85 (by decide) oX7_cutOf_92))))) (rk_aload_n_ok dX7_cutOf_71 rfl (rk_gI_ok dX7_cutOf_72 rfl iX7 (by decide) rfl wfX7_231 (rk_goto_ok (pc' := 92) dX7_cutOf_75 (by decide) oX7_cutOf_92)))))) (rk_aload_n_ok dX7_cutOf_59 rfl (rk_gI_ok dX7_cutOf_60 rfl iX7 (by decide) rfl wfX7_246 (rk_goto_ok (pc' := 92) dX7_cutOf_63 (by decide) oX7_cutOf_92))))) (rk_iload_ok dX7_cutOf_21 (rk_aload_n_ok dX7_cutOf_23 rfl (rk_gI_ok dX7_cutOf_24 rfl iX7 (by decide) rfl wfX7_231 (rk_iload_ok dX7_cutOf_27 (rk_cS_ok dX7_cutOf_29 npX7_isIn wmX7_204 wtX7_isIn wiX7 wdX7_isIn (by decide) (by decide) (rk_if_eq_ok (pc' := 45) dX7_cutOf_32 (by decide) (rk_iconst_ok dX7_cutOf_45 (by decide) oX7_cutOf_46) (rk_aload_n_ok dX7_cutOf_35 rfl (rk_gR_ok dX7_cutOf_36 rfl iX7 (by decide) rfl wfX7_40 (rk_iload_ok dX7_cutOf_39 (rk_iald_ok dX7_cutOf_41 (rk_goto_ok (pc' := 46) dX7_cutOf_42 (by decide) oX7_cutOf_46)))))))))))))))
def bX7_cutOf_0 (g : rk_G) (R : rk_R) : rk_K := (rk_aload 0 (rk_iload 1 (rk_iload 2 (rk_cV g 2 7 yX7_cuts cX7_cuts 6 none 4 (rk_ci (0) (rk_istore 4 (rk_ci (0) (rk_istore 5 (kX7_cutOf g R 12)))))))))
theorem eX7_cutOf_0 (g : rk_G) (R : rk_R) (ls st : List Value) (σ : rk_M) : bX7_cutOf_0 g R ls st σ = (rk_aload 0 (rk_iload 1 (rk_iload 2 (rk_cV g 2 7 yX7_cuts cX7_cuts 6 none 4 (rk_ci (0) (rk_istore 4 (rk_ci (0) (rk_istore 5 (kX7_cutOf g R 12))))))))) ls st σ := rfl
theorem oX7_cutOf_0 {g : rk_G} {R : rk_R} : aX7_cutOf g R 0 (bX7_cutOf_0 g R) := (rk_aload_n_ok dX7_cutOf_0 rfl (rk_iload_n_ok dX7_cutOf_1 rfl (rk_iload_n_ok dX7_cutOf_2 rfl (rk_cV_ok dX7_cutOf_3 rfl rfl npX7_cuts wmX7_255 wvX7_cuts weX7_cuts wiX7 wdX7_cuts (by decide) (by decide) (rk_iconst_ok dX7_cutOf_6 (by decide) (rk_istore_ok dX7_cutOf_7 (by decide) (rk_iconst_ok dX7_cutOf_9 (by decide) (rk_istore_ok dX7_cutOf_10 (by decide) rk_cut_ok))))))))
theorem dX7_findsJoins_0 : decode cX7_findsJoins 0 = .ok (.aload_n 0, 1) := by decide +kernel
theorem dX7_findsJoins_1 : decode cX7_findsJoins 1 = .ok (.iconst 0, 1) := by decide +kernel
theorem dX7_findsJoins_2 : decode cX7_findsJoins 2 = .ok (.putfield 150, 3) := by decide +kernel
theorem dX7_findsJoins_5 : decode cX7_findsJoins 5 = .ok (.iconst 0, 1) := by decide +kernel
theorem dX7_findsJoins_6 : decode cX7_findsJoins 6 = .ok (.istore_n 1, 1) := by decide +kernel
theorem dX7_findsJoins_7 : decode cX7_findsJoins 7 = .ok (.iload_n 1, 1) := by decide +kernel
theorem dX7_findsJoins_8 : decode cX7_findsJoins 8 = .ok (.bipush 48, 2) := by decide +kernel
theorem dX7_findsJoins_10 : decode cX7_findsJoins 10 = .ok (.if_icmp .ge 16, 3) := by decide +kernel
theorem dX7_findsJoins_13 : decode cX7_findsJoins 13 = .ok (.aload_n 0, 1) := by decide +kernel
theorem dX7_findsJoins_14 : decode cX7_findsJoins 14 = .ok (.getfield 28, 3) := by decide +kernel
theorem dX7_findsJoins_17 : decode cX7_findsJoins 17 = .ok (.iload_n 1, 1) := by decide +kernel
theorem dX7_findsJoins_18 : decode cX7_findsJoins 18 = .ok (.iconst (-1), 1) := by decide +kernel
theorem dX7_findsJoins_19 : decode cX7_findsJoins 19 = .ok (.iastore, 1) := by decide +kernel
theorem dX7_findsJoins_20 : decode cX7_findsJoins 20 = .ok (.iinc 1 1, 3) := by decide +kernel
theorem dX7_findsJoins_23 : decode cX7_findsJoins 23 = .ok (.goto (-16), 3) := by decide +kernel
theorem dX7_findsJoins_26 : decode cX7_findsJoins 26 = .ok (.iconst 0, 1) := by decide +kernel
theorem dX7_findsJoins_27 : decode cX7_findsJoins 27 = .ok (.istore_n 1, 1) := by decide +kernel
theorem dX7_findsJoins_28 : decode cX7_findsJoins 28 = .ok (.iload_n 1, 1) := by decide +kernel
theorem dX7_findsJoins_29 : decode cX7_findsJoins 29 = .ok (.aload_n 0, 1) := by decide +kernel
theorem dX7_findsJoins_30 : decode cX7_findsJoins 30 = .ok (.getfield 77, 3) := by decide +kernel
theorem dX7_findsJoins_33 : decode cX7_findsJoins 33 = .ok (.if_icmp .ge 35, 3) := by decide +kernel
theorem dX7_findsJoins_36 : decode cX7_findsJoins 36 = .ok (.iconst 1, 1) := by decide +kernel
theorem dX7_findsJoins_37 : decode cX7_findsJoins 37 = .ok (.istore_n 2, 1) := by decide +kernel
theorem dX7_findsJoins_38 : decode cX7_findsJoins 38 = .ok (.iconst 0, 1) := by decide +kernel
theorem dX7_findsJoins_39 : decode cX7_findsJoins 39 = .ok (.istore_n 3, 1) := by decide +kernel
theorem dX7_findsJoins_40 : decode cX7_findsJoins 40 = .ok (.iload_n 3, 1) := by decide +kernel
theorem dX7_findsJoins_41 : decode cX7_findsJoins 41 = .ok (.bipush 24, 2) := by decide +kernel
theorem dX7_findsJoins_43 : decode cX7_findsJoins 43 = .ok (.if_icmp .ge 19, 3) := by decide +kernel
theorem dX7_findsJoins_46 : decode cX7_findsJoins 46 = .ok (.iload_n 2, 1) := by decide +kernel
theorem dX7_findsJoins_47 : decode cX7_findsJoins 47 = .ok (.ifCond .eq 15, 3) := by decide +kernel
theorem dX7_findsJoins_50 : decode cX7_findsJoins 50 = .ok (.aload_n 0, 1) := by decide +kernel
theorem dX7_findsJoins_51 : decode cX7_findsJoins 51 = .ok (.iload_n 1, 1) := by decide +kernel
theorem dX7_findsJoins_52 : decode cX7_findsJoins 52 = .ok (.invokevirtual 159, 3) := by decide +kernel
theorem dX7_findsJoins_55 : decode cX7_findsJoins 55 = .ok (.istore_n 2, 1) := by decide +kernel
theorem dX7_findsJoins_56 : decode cX7_findsJoins 56 = .ok (.iinc 3 1, 3) := by decide +kernel
theorem dX7_findsJoins_59 : decode cX7_findsJoins 59 = .ok (.goto (-19), 3) := by decide +kernel
theorem dX7_findsJoins_62 : decode cX7_findsJoins 62 = .ok (.iinc 1 1, 3) := by decide +kernel
theorem dX7_findsJoins_65 : decode cX7_findsJoins 65 = .ok (.goto (-37), 3) := by decide +kernel
theorem dX7_findsJoins_68 : decode cX7_findsJoins 68 = .ok (.return_, 1) := by decide +kernel
abbrev kX7_findsJoins (g : rk_G) (R : rk_R) (pc : Nat) : rk_K := rk_cut g cX7_findsJoins 4 none RX7 6 R pc
abbrev aX7_findsJoins (g : rk_G) (R : rk_R) (pc : Nat) (K : rk_K) : Prop := rk_AK g cX7_findsJoins 4 none RX7 6 R pc K
abbrev sX7_findsJoins (g : rk_G) (vs : List Value) (σ : rk_M) (R : rk_R) : Prop := rk_does g yX7_findsJoins cX7_findsJoins 4 none 6 vs σ R
abbrev tX7_findsJoins (g : rk_G) (R : rk_R) (pc : Nat) (ls st : List Value) (σ : rk_M) : Prop := rk_At g cX7_findsJoins 4 none RX7 6 R pc ls st σ
def bX7_findsJoins_62 (g : rk_G) (R : rk_R) : rk_K := (rk_iinc 1 (1) (kX7_findsJoins g R 28))
theorem eX7_findsJoins_62 (g : rk_G) (R : rk_R) (ls st : List Value) (σ : rk_M) : bX7_findsJoins_62 g R ls st σ = (rk_iinc 1 (1) (kX7_findsJoins g R 28)) ls st σ := rfl
theorem oX7_findsJoins_62 {g : rk_G} {R : rk_R} : aX7_findsJoins g R 62 (bX7_findsJoins_62 g R) := (rk_iinc_ok dX7_findsJoins_62 (by decide) (by decide) (rk_goto_ok (pc' := 28) dX7_findsJoins_65 (by decide) rk_cut_ok))
def bX7_findsJoins_40 (g : rk_G) (R : rk_R) : rk_K := (rk_iload 3 (rk_ci (24) (rk_icmp_ge (bX7_findsJoins_62 g R) (rk_iload 2 (rk_if_eq (bX7_findsJoins_62 g R) (rk_aload 0 (rk_iload 1 (rk_cV g 1 7 yX7_joinsOne cX7_joinsOne 11 (some .boolean) 5 (rk_istore 2 (rk_iinc 3 (1) (kX7_findsJoins g R 40)))))))))))
theorem eX7_findsJoins_40 (g : rk_G) (R : rk_R) (ls st : List Value) (σ : rk_M) : bX7_findsJoins_40 g R ls st σ = (rk_iload 3 (rk_ci (24) (rk_icmp_ge (bX7_findsJoins_62 g R) (rk_iload 2 (rk_if_eq (bX7_findsJoins_62 g R) (rk_aload 0 (rk_iload 1 (rk_cV g 1 7 yX7_joinsOne cX7_joinsOne 11 (some .boolean) 5 (rk_istore 2 (rk_iinc 3 (1) (kX7_findsJoins g R 40))))))))))) ls st σ := rfl
theorem oX7_findsJoins_40 {g : rk_G} {R : rk_R} : aX7_findsJoins g R 40 (bX7_findsJoins_40 g R) := (rk_iload_n_ok dX7_findsJoins_40 rfl (rk_bipush_ok dX7_findsJoins_41 (by decide) (rk_icmp_ge_ok (pc' := 62) dX7_findsJoins_43 (by decide) oX7_findsJoins_62 (rk_iload_n_ok dX7_findsJoins_46 rfl (rk_if_eq_ok (pc' := 62) dX7_findsJoins_47 (by decide) oX7_findsJoins_62 (rk_aload_n_ok dX7_findsJoins_50 rfl (rk_iload_n_ok dX7_findsJoins_51 rfl (rk_cV_ok dX7_findsJoins_52 rfl rfl npX7_joinsOne wmX7_159 wvX7_joinsOne weX7_joinsOne wiX7 wdX7_joinsOne (by decide) (by decide) (rk_istore_n_ok dX7_findsJoins_55 rfl (by decide) (rk_iinc_ok dX7_findsJoins_56 (by decide) (by decide) (rk_goto_ok (pc' := 40) dX7_findsJoins_59 (by decide) rk_cut_ok)))))))))))
def bX7_findsJoins_28 (g : rk_G) (R : rk_R) : rk_K := (rk_iload 1 (rk_aload 0 (rk_gI 7 0 (rk_icmp_ge (rk_vret R) (rk_ci (1) (rk_istore 2 (rk_ci (0) (rk_istore 3 (kX7_findsJoins g R 40)))))))))
theorem eX7_findsJoins_28 (g : rk_G) (R : rk_R) (ls st : List Value) (σ : rk_M) : bX7_findsJoins_28 g R ls st σ = (rk_iload 1 (rk_aload 0 (rk_gI 7 0 (rk_icmp_ge (rk_vret R) (rk_ci (1) (rk_istore 2 (rk_ci (0) (rk_istore 3 (kX7_findsJoins g R 40))))))))) ls st σ := rfl
theorem oX7_findsJoins_28 {g : rk_G} {R : rk_R} : aX7_findsJoins g R 28 (bX7_findsJoins_28 g R) := (rk_iload_n_ok dX7_findsJoins_28 rfl (rk_aload_n_ok dX7_findsJoins_29 rfl (rk_gI_ok dX7_findsJoins_30 rfl iX7 (by decide) rfl wfX7_77 (rk_icmp_ge_ok (pc' := 68) dX7_findsJoins_33 (by decide) (rk_vret_ok rfl dX7_findsJoins_68) (rk_iconst_ok dX7_findsJoins_36 (by decide) (rk_istore_n_ok dX7_findsJoins_37 rfl (by decide) (rk_iconst_ok dX7_findsJoins_38 (by decide) (rk_istore_n_ok dX7_findsJoins_39 rfl (by decide) rk_cut_ok))))))))
def bX7_findsJoins_7 (g : rk_G) (R : rk_R) : rk_K := (rk_iload 1 (rk_ci (48) (rk_icmp_ge (rk_ci (0) (rk_istore 1 (kX7_findsJoins g R 28))) (rk_aload 0 (rk_gR 7 9 (rk_iload 1 (rk_ci (-1) (rk_iast (rk_iinc 1 (1) (kX7_findsJoins g R 7))))))))))
theorem eX7_findsJoins_7 (g : rk_G) (R : rk_R) (ls st : List Value) (σ : rk_M) : bX7_findsJoins_7 g R ls st σ = (rk_iload 1 (rk_ci (48) (rk_icmp_ge (rk_ci (0) (rk_istore 1 (kX7_findsJoins g R 28))) (rk_aload 0 (rk_gR 7 9 (rk_iload 1 (rk_ci (-1) (rk_iast (rk_iinc 1 (1) (kX7_findsJoins g R 7)))))))))) ls st σ := rfl
theorem oX7_findsJoins_7 {g : rk_G} {R : rk_R} : aX7_findsJoins g R 7 (bX7_findsJoins_7 g R) := (rk_iload_n_ok dX7_findsJoins_7 rfl (rk_bipush_ok dX7_findsJoins_8 (by decide) (rk_icmp_ge_ok (pc' := 26) dX7_findsJoins_10 (by decide) (rk_iconst_ok dX7_findsJoins_26 (by decide) (rk_istore_n_ok dX7_findsJoins_27 rfl (by decide) rk_cut_ok)) (rk_aload_n_ok dX7_findsJoins_13 rfl (rk_gR_ok dX7_findsJoins_14 rfl iX7 (by decide) rfl wfX7_28 (rk_iload_n_ok dX7_findsJoins_17 rfl (rk_iconst_ok dX7_findsJoins_18 (by decide) (rk_iast_ok dX7_findsJoins_19 (rk_iinc_ok dX7_findsJoins_20 (by decide) (by decide) (rk_goto_ok (pc' := 7) dX7_findsJoins_23 (by decide) rk_cut_ok))))))))))
def bX7_findsJoins_0 (g : rk_G) (R : rk_R) : rk_K := (rk_aload 0 (rk_ci (0) (rk_pI 7 10 (rk_ci (0) (rk_istore 1 (kX7_findsJoins g R 7))))))
theorem eX7_findsJoins_0 (g : rk_G) (R : rk_R) (ls st : List Value) (σ : rk_M) : bX7_findsJoins_0 g R ls st σ = (rk_aload 0 (rk_ci (0) (rk_pI 7 10 (rk_ci (0) (rk_istore 1 (kX7_findsJoins g R 7)))))) ls st σ := rfl
theorem oX7_findsJoins_0 {g : rk_G} {R : rk_R} : aX7_findsJoins g R 0 (bX7_findsJoins_0 g R) := (rk_aload_n_ok dX7_findsJoins_0 rfl (rk_iconst_ok dX7_findsJoins_1 (by decide) (rk_pI_ok dX7_findsJoins_2 rfl iX7 tyX7_ok nmX7 (by decide) rfl rfl (by decide +kernel) wfX7_150 (rk_iconst_ok dX7_findsJoins_5 (by decide) (rk_istore_n_ok dX7_findsJoins_6 rfl (by decide) rk_cut_ok)))))
theorem dX7_findsStrokes_0 : decode cX7_findsStrokes 0 = .ok (.aload_n 0, 1) := by decide +kernel
theorem dX7_findsStrokes_1 : decode cX7_findsStrokes 1 = .ok (.invokevirtual 162, 3) := by decide +kernel
theorem dX7_findsStrokes_4 : decode cX7_findsStrokes 4 = .ok (.aload_n 0, 1) := by decide +kernel
theorem dX7_findsStrokes_5 : decode cX7_findsStrokes 5 = .ok (.iconst 0, 1) := by decide +kernel
theorem dX7_findsStrokes_6 : decode cX7_findsStrokes 6 = .ok (.putfield 165, 3) := by decide +kernel
theorem dX7_findsStrokes_9 : decode cX7_findsStrokes 9 = .ok (.iconst 0, 1) := by decide +kernel
theorem dX7_findsStrokes_10 : decode cX7_findsStrokes 10 = .ok (.istore_n 1, 1) := by decide +kernel
theorem dX7_findsStrokes_11 : decode cX7_findsStrokes 11 = .ok (.iload_n 1, 1) := by decide +kernel
theorem dX7_findsStrokes_12 : decode cX7_findsStrokes 12 = .ok (.aload_n 0, 1) := by decide +kernel
theorem dX7_findsStrokes_13 : decode cX7_findsStrokes 13 = .ok (.getfield 85, 3) := by decide +kernel
theorem dX7_findsStrokes_16 : decode cX7_findsStrokes 16 = .ok (.if_icmp .ge 16, 3) := by decide +kernel
theorem dX7_findsStrokes_19 : decode cX7_findsStrokes 19 = .ok (.aload_n 0, 1) := by decide +kernel
theorem dX7_findsStrokes_20 : decode cX7_findsStrokes 20 = .ok (.getfield 31, 3) := by decide +kernel
theorem dX7_findsStrokes_23 : decode cX7_findsStrokes 23 = .ok (.iload_n 1, 1) := by decide +kernel
theorem dX7_findsStrokes_24 : decode cX7_findsStrokes 24 = .ok (.iconst (-1), 1) := by decide +kernel
theorem dX7_findsStrokes_25 : decode cX7_findsStrokes 25 = .ok (.iastore, 1) := by decide +kernel
theorem dX7_findsStrokes_26 : decode cX7_findsStrokes 26 = .ok (.iinc 1 1, 3) := by decide +kernel
theorem dX7_findsStrokes_29 : decode cX7_findsStrokes 29 = .ok (.goto (-18), 3) := by decide +kernel
theorem dX7_findsStrokes_32 : decode cX7_findsStrokes 32 = .ok (.iconst 0, 1) := by decide +kernel
theorem dX7_findsStrokes_33 : decode cX7_findsStrokes 33 = .ok (.istore_n 1, 1) := by decide +kernel
theorem dX7_findsStrokes_34 : decode cX7_findsStrokes 34 = .ok (.iload_n 1, 1) := by decide +kernel
theorem dX7_findsStrokes_35 : decode cX7_findsStrokes 35 = .ok (.aload_n 0, 1) := by decide +kernel
theorem dX7_findsStrokes_36 : decode cX7_findsStrokes 36 = .ok (.getfield 85, 3) := by decide +kernel
theorem dX7_findsStrokes_39 : decode cX7_findsStrokes 39 = .ok (.if_icmp .ge 63, 3) := by decide +kernel
theorem dX7_findsStrokes_42 : decode cX7_findsStrokes 42 = .ok (.aload_n 0, 1) := by decide +kernel
theorem dX7_findsStrokes_43 : decode cX7_findsStrokes 43 = .ok (.getfield 31, 3) := by decide +kernel
theorem dX7_findsStrokes_46 : decode cX7_findsStrokes 46 = .ok (.iload_n 1, 1) := by decide +kernel
theorem dX7_findsStrokes_47 : decode cX7_findsStrokes 47 = .ok (.iaload, 1) := by decide +kernel
theorem dX7_findsStrokes_48 : decode cX7_findsStrokes 48 = .ok (.iconst (-1), 1) := by decide +kernel
theorem dX7_findsStrokes_49 : decode cX7_findsStrokes 49 = .ok (.if_icmp .ne 47, 3) := by decide +kernel
theorem dX7_findsStrokes_52 : decode cX7_findsStrokes 52 = .ok (.aload_n 0, 1) := by decide +kernel
theorem dX7_findsStrokes_53 : decode cX7_findsStrokes 53 = .ok (.getfield 31, 3) := by decide +kernel
theorem dX7_findsStrokes_56 : decode cX7_findsStrokes 56 = .ok (.iload_n 1, 1) := by decide +kernel
theorem dX7_findsStrokes_57 : decode cX7_findsStrokes 57 = .ok (.aload_n 0, 1) := by decide +kernel
theorem dX7_findsStrokes_58 : decode cX7_findsStrokes 58 = .ok (.getfield 165, 3) := by decide +kernel
theorem dX7_findsStrokes_61 : decode cX7_findsStrokes 61 = .ok (.iastore, 1) := by decide +kernel
theorem dX7_findsStrokes_62 : decode cX7_findsStrokes 62 = .ok (.iconst 0, 1) := by decide +kernel
theorem dX7_findsStrokes_63 : decode cX7_findsStrokes 63 = .ok (.istore_n 2, 1) := by decide +kernel
theorem dX7_findsStrokes_64 : decode cX7_findsStrokes 64 = .ok (.iload_n 2, 1) := by decide +kernel
theorem dX7_findsStrokes_65 : decode cX7_findsStrokes 65 = .ok (.aload_n 0, 1) := by decide +kernel
theorem dX7_findsStrokes_66 : decode cX7_findsStrokes 66 = .ok (.getfield 85, 3) := by decide +kernel
theorem dX7_findsStrokes_69 : decode cX7_findsStrokes 69 = .ok (.if_icmp .ge 17, 3) := by decide +kernel
theorem dX7_findsStrokes_72 : decode cX7_findsStrokes 72 = .ok (.aload_n 0, 1) := by decide +kernel
theorem dX7_findsStrokes_73 : decode cX7_findsStrokes 73 = .ok (.aload_n 0, 1) := by decide +kernel
theorem dX7_findsStrokes_74 : decode cX7_findsStrokes 74 = .ok (.getfield 165, 3) := by decide +kernel
theorem dX7_findsStrokes_77 : decode cX7_findsStrokes 77 = .ok (.invokevirtual 168, 3) := by decide +kernel
theorem dX7_findsStrokes_80 : decode cX7_findsStrokes 80 = .ok (.iinc 2 1, 3) := by decide +kernel
theorem dX7_findsStrokes_83 : decode cX7_findsStrokes 83 = .ok (.goto (-19), 3) := by decide +kernel
theorem dX7_findsStrokes_86 : decode cX7_findsStrokes 86 = .ok (.aload_n 0, 1) := by decide +kernel
theorem dX7_findsStrokes_87 : decode cX7_findsStrokes 87 = .ok (.dup, 1) := by decide +kernel
theorem dX7_findsStrokes_88 : decode cX7_findsStrokes 88 = .ok (.getfield 165, 3) := by decide +kernel
theorem dX7_findsStrokes_91 : decode cX7_findsStrokes 91 = .ok (.iconst 1, 1) := by decide +kernel
theorem dX7_findsStrokes_92 : decode cX7_findsStrokes 92 = .ok (.iadd, 1) := by decide +kernel
theorem dX7_findsStrokes_93 : decode cX7_findsStrokes 93 = .ok (.putfield 165, 3) := by decide +kernel
theorem dX7_findsStrokes_96 : decode cX7_findsStrokes 96 = .ok (.iinc 1 1, 3) := by decide +kernel
theorem dX7_findsStrokes_99 : decode cX7_findsStrokes 99 = .ok (.goto (-65), 3) := by decide +kernel
theorem dX7_findsStrokes_102 : decode cX7_findsStrokes 102 = .ok (.iconst 0, 1) := by decide +kernel
theorem dX7_findsStrokes_103 : decode cX7_findsStrokes 103 = .ok (.istore_n 1, 1) := by decide +kernel
theorem dX7_findsStrokes_104 : decode cX7_findsStrokes 104 = .ok (.iload_n 1, 1) := by decide +kernel
theorem dX7_findsStrokes_105 : decode cX7_findsStrokes 105 = .ok (.aload_n 0, 1) := by decide +kernel
theorem dX7_findsStrokes_106 : decode cX7_findsStrokes 106 = .ok (.getfield 165, 3) := by decide +kernel
theorem dX7_findsStrokes_109 : decode cX7_findsStrokes 109 = .ok (.if_icmp .ge 14, 3) := by decide +kernel
theorem dX7_findsStrokes_112 : decode cX7_findsStrokes 112 = .ok (.aload_n 0, 1) := by decide +kernel
theorem dX7_findsStrokes_113 : decode cX7_findsStrokes 113 = .ok (.iload_n 1, 1) := by decide +kernel
theorem dX7_findsStrokes_114 : decode cX7_findsStrokes 114 = .ok (.invokevirtual 172, 3) := by decide +kernel
theorem dX7_findsStrokes_117 : decode cX7_findsStrokes 117 = .ok (.iinc 1 1, 3) := by decide +kernel
theorem dX7_findsStrokes_120 : decode cX7_findsStrokes 120 = .ok (.goto (-16), 3) := by decide +kernel
theorem dX7_findsStrokes_123 : decode cX7_findsStrokes 123 = .ok (.return_, 1) := by decide +kernel
abbrev kX7_findsStrokes (g : rk_G) (R : rk_R) (pc : Nat) : rk_K := rk_cut g cX7_findsStrokes 3 none RX7 7 R pc
abbrev aX7_findsStrokes (g : rk_G) (R : rk_R) (pc : Nat) (K : rk_K) : Prop := rk_AK g cX7_findsStrokes 3 none RX7 7 R pc K
abbrev sX7_findsStrokes (g : rk_G) (vs : List Value) (σ : rk_M) (R : rk_R) : Prop := rk_does g yX7_findsStrokes cX7_findsStrokes 3 none 7 vs σ R
abbrev tX7_findsStrokes (g : rk_G) (R : rk_R) (pc : Nat) (ls st : List Value) (σ : rk_M) : Prop := rk_At g cX7_findsStrokes 3 none RX7 7 R pc ls st σ
def bX7_findsStrokes_104 (g : rk_G) (R : rk_R) : rk_K := (rk_iload 1 (rk_aload 0 (rk_gI 7 11 (rk_icmp_ge (rk_vret R) (rk_aload 0 (rk_iload 1 (rk_cV g 1 7 yX7_gathers cX7_gathers 3 none 3 (rk_iinc 1 (1) (kX7_findsStrokes g R 104)))))))))
theorem eX7_findsStrokes_104 (g : rk_G) (R : rk_R) (ls st : List Value) (σ : rk_M) : bX7_findsStrokes_104 g R ls st σ = (rk_iload 1 (rk_aload 0 (rk_gI 7 11 (rk_icmp_ge (rk_vret R) (rk_aload 0 (rk_iload 1 (rk_cV g 1 7 yX7_gathers cX7_gathers 3 none 3 (rk_iinc 1 (1) (kX7_findsStrokes g R 104))))))))) ls st σ := rfl
theorem oX7_findsStrokes_104 {g : rk_G} {R : rk_R} : aX7_findsStrokes g R 104 (bX7_findsStrokes_104 g R) := (rk_iload_n_ok dX7_findsStrokes_104 rfl (rk_aload_n_ok dX7_findsStrokes_105 rfl (rk_gI_ok dX7_findsStrokes_106 rfl iX7 (by decide) rfl wfX7_165 (rk_icmp_ge_ok (pc' := 123) dX7_findsStrokes_109 (by decide) (rk_vret_ok rfl dX7_findsStrokes_123) (rk_aload_n_ok dX7_findsStrokes_112 rfl (rk_iload_n_ok dX7_findsStrokes_113 rfl (rk_cV_ok dX7_findsStrokes_114 rfl rfl npX7_gathers wmX7_172 wvX7_gathers weX7_gathers wiX7 wdX7_gathers (by decide) (by decide) (rk_iinc_ok dX7_findsStrokes_117 (by decide) (by decide) (rk_goto_ok (pc' := 104) dX7_findsStrokes_120 (by decide) rk_cut_ok)))))))))
def bX7_findsStrokes_96 (g : rk_G) (R : rk_R) : rk_K := (rk_iinc 1 (1) (kX7_findsStrokes g R 34))
theorem eX7_findsStrokes_96 (g : rk_G) (R : rk_R) (ls st : List Value) (σ : rk_M) : bX7_findsStrokes_96 g R ls st σ = (rk_iinc 1 (1) (kX7_findsStrokes g R 34)) ls st σ := rfl
theorem oX7_findsStrokes_96 {g : rk_G} {R : rk_R} : aX7_findsStrokes g R 96 (bX7_findsStrokes_96 g R) := (rk_iinc_ok dX7_findsStrokes_96 (by decide) (by decide) (rk_goto_ok (pc' := 34) dX7_findsStrokes_99 (by decide) rk_cut_ok))
def bX7_findsStrokes_64 (g : rk_G) (R : rk_R) : rk_K := (rk_iload 2 (rk_aload 0 (rk_gI 7 3 (rk_icmp_ge (rk_aload 0 (rk_dup (rk_gI 7 11 (rk_ci (1) (rk_iadd (rk_pI 7 11 (bX7_findsStrokes_96 g R))))))) (rk_aload 0 (rk_aload 0 (rk_gI 7 11 (rk_cV g 1 7 yX7_spreads cX7_spreads 4 none 0 (rk_iinc 2 (1) (kX7_findsStrokes g R 64))))))))))
theorem eX7_findsStrokes_64 (g : rk_G) (R : rk_R) (ls st : List Value) (σ : rk_M) : bX7_findsStrokes_64 g R ls st σ = (rk_iload 2 (rk_aload 0 (rk_gI 7 3 (rk_icmp_ge (rk_aload 0 (rk_dup (rk_gI 7 11 (rk_ci (1) (rk_iadd (rk_pI 7 11 (bX7_findsStrokes_96 g R))))))) (rk_aload 0 (rk_aload 0 (rk_gI 7 11 (rk_cV g 1 7 yX7_spreads cX7_spreads 4 none 0 (rk_iinc 2 (1) (kX7_findsStrokes g R 64)))))))))) ls st σ := rfl
theorem oX7_findsStrokes_64 {g : rk_G} {R : rk_R} : aX7_findsStrokes g R 64 (bX7_findsStrokes_64 g R) := (rk_iload_n_ok dX7_findsStrokes_64 rfl (rk_aload_n_ok dX7_findsStrokes_65 rfl (rk_gI_ok dX7_findsStrokes_66 rfl iX7 (by decide) rfl wfX7_85 (rk_icmp_ge_ok (pc' := 86) dX7_findsStrokes_69 (by decide) (rk_aload_n_ok dX7_findsStrokes_86 rfl (rk_dup_ok dX7_findsStrokes_87 (rk_gI_ok dX7_findsStrokes_88 rfl iX7 (by decide) rfl wfX7_165 (rk_iconst_ok dX7_findsStrokes_91 (by decide) (rk_iadd_ok dX7_findsStrokes_92 (rk_pI_ok dX7_findsStrokes_93 rfl iX7 tyX7_ok nmX7 (by decide) rfl rfl (by decide +kernel) wfX7_165 oX7_findsStrokes_96)))))) (rk_aload_n_ok dX7_findsStrokes_72 rfl (rk_aload_n_ok dX7_findsStrokes_73 rfl (rk_gI_ok dX7_findsStrokes_74 rfl iX7 (by decide) rfl wfX7_165 (rk_cV_ok dX7_findsStrokes_77 rfl rfl npX7_spreads wmX7_168 wvX7_spreads weX7_spreads wiX7 wdX7_spreads (by decide) (by decide) (rk_iinc_ok dX7_findsStrokes_80 (by decide) (by decide) (rk_goto_ok (pc' := 64) dX7_findsStrokes_83 (by decide) rk_cut_ok))))))))))
def bX7_findsStrokes_34 (g : rk_G) (R : rk_R) : rk_K := (rk_iload 1 (rk_aload 0 (rk_gI 7 3 (rk_icmp_ge (rk_ci (0) (rk_istore 1 (kX7_findsStrokes g R 104))) (rk_aload 0 (rk_gR 7 12 (rk_iload 1 (rk_iald (rk_ci (-1) (rk_icmp_ne (bX7_findsStrokes_96 g R) (rk_aload 0 (rk_gR 7 12 (rk_iload 1 (rk_aload 0 (rk_gI 7 11 (rk_iast (rk_ci (0) (rk_istore 2 (kX7_findsStrokes g R 64)))))))))))))))))))
theorem eX7_findsStrokes_34 (g : rk_G) (R : rk_R) (ls st : List Value) (σ : rk_M) : bX7_findsStrokes_34 g R ls st σ = (rk_iload 1 (rk_aload 0 (rk_gI 7 3 (rk_icmp_ge (rk_ci (0) (rk_istore 1 (kX7_findsStrokes g R 104))) (rk_aload 0 (rk_gR 7 12 (rk_iload 1 (rk_iald (rk_ci (-1) (rk_icmp_ne (bX7_findsStrokes_96 g R) (rk_aload 0 (rk_gR 7 12 (rk_iload 1 (rk_aload 0 (rk_gI 7 11 (rk_iast (rk_ci (0) (rk_istore 2 (kX7_findsStrokes g R 64))))))))))))))))))) ls st σ := rfl
theorem oX7_findsStrokes_34 {g : rk_G} {R : rk_R} : aX7_findsStrokes g R 34 (bX7_findsStrokes_34 g R) := (rk_iload_n_ok dX7_findsStrokes_34 rfl (rk_aload_n_ok dX7_findsStrokes_35 rfl (rk_gI_ok dX7_findsStrokes_36 rfl iX7 (by decide) rfl wfX7_85 (rk_icmp_ge_ok (pc' := 102) dX7_findsStrokes_39 (by decide) (rk_iconst_ok dX7_findsStrokes_102 (by decide) (rk_istore_n_ok dX7_findsStrokes_103 rfl (by decide) rk_cut_ok)) (rk_aload_n_ok dX7_findsStrokes_42 rfl (rk_gR_ok dX7_findsStrokes_43 rfl iX7 (by decide) rfl wfX7_31 (rk_iload_n_ok dX7_findsStrokes_46 rfl (rk_iald_ok dX7_findsStrokes_47 (rk_iconst_ok dX7_findsStrokes_48 (by decide) (rk_icmp_ne_ok (pc' := 96) dX7_findsStrokes_49 (by decide) oX7_findsStrokes_96 (rk_aload_n_ok dX7_findsStrokes_52 rfl (rk_gR_ok dX7_findsStrokes_53 rfl iX7 (by decide) rfl wfX7_31 (rk_iload_n_ok dX7_findsStrokes_56 rfl (rk_aload_n_ok dX7_findsStrokes_57 rfl (rk_gI_ok dX7_findsStrokes_58 rfl iX7 (by decide) rfl wfX7_165 (rk_iast_ok dX7_findsStrokes_61 (rk_iconst_ok dX7_findsStrokes_62 (by decide) (rk_istore_n_ok dX7_findsStrokes_63 rfl (by decide) rk_cut_ok))))))))))))))))))
def bX7_findsStrokes_11 (g : rk_G) (R : rk_R) : rk_K := (rk_iload 1 (rk_aload 0 (rk_gI 7 3 (rk_icmp_ge (rk_ci (0) (rk_istore 1 (kX7_findsStrokes g R 34))) (rk_aload 0 (rk_gR 7 12 (rk_iload 1 (rk_ci (-1) (rk_iast (rk_iinc 1 (1) (kX7_findsStrokes g R 11)))))))))))
theorem eX7_findsStrokes_11 (g : rk_G) (R : rk_R) (ls st : List Value) (σ : rk_M) : bX7_findsStrokes_11 g R ls st σ = (rk_iload 1 (rk_aload 0 (rk_gI 7 3 (rk_icmp_ge (rk_ci (0) (rk_istore 1 (kX7_findsStrokes g R 34))) (rk_aload 0 (rk_gR 7 12 (rk_iload 1 (rk_ci (-1) (rk_iast (rk_iinc 1 (1) (kX7_findsStrokes g R 11))))))))))) ls st σ := rfl
theorem oX7_findsStrokes_11 {g : rk_G} {R : rk_R} : aX7_findsStrokes g R 11 (bX7_findsStrokes_11 g R) := (rk_iload_n_ok dX7_findsStrokes_11 rfl (rk_aload_n_ok dX7_findsStrokes_12 rfl (rk_gI_ok dX7_findsStrokes_13 rfl iX7 (by decide) rfl wfX7_85 (rk_icmp_ge_ok (pc' := 32) dX7_findsStrokes_16 (by decide) (rk_iconst_ok dX7_findsStrokes_32 (by decide) (rk_istore_n_ok dX7_findsStrokes_33 rfl (by decide) rk_cut_ok)) (rk_aload_n_ok dX7_findsStrokes_19 rfl (rk_gR_ok dX7_findsStrokes_20 rfl iX7 (by decide) rfl wfX7_31 (rk_iload_n_ok dX7_findsStrokes_23 rfl (rk_iconst_ok dX7_findsStrokes_24 (by decide) (rk_iast_ok dX7_findsStrokes_25 (rk_iinc_ok dX7_findsStrokes_26 (by decide) (by decide) (rk_goto_ok (pc' := 11) dX7_findsStrokes_29 (by decide) rk_cut_ok)))))))))))
def bX7_findsStrokes_0 (g : rk_G) (R : rk_R) : rk_K := (rk_aload 0 (rk_cV g 0 7 yX7_findsJoins cX7_findsJoins 4 none 6 (rk_aload 0 (rk_ci (0) (rk_pI 7 11 (rk_ci (0) (rk_istore 1 (kX7_findsStrokes g R 11))))))))
theorem eX7_findsStrokes_0 (g : rk_G) (R : rk_R) (ls st : List Value) (σ : rk_M) : bX7_findsStrokes_0 g R ls st σ = (rk_aload 0 (rk_cV g 0 7 yX7_findsJoins cX7_findsJoins 4 none 6 (rk_aload 0 (rk_ci (0) (rk_pI 7 11 (rk_ci (0) (rk_istore 1 (kX7_findsStrokes g R 11)))))))) ls st σ := rfl
theorem oX7_findsStrokes_0 {g : rk_G} {R : rk_R} : aX7_findsStrokes g R 0 (bX7_findsStrokes_0 g R) := (rk_aload_n_ok dX7_findsStrokes_0 rfl (rk_cV_ok dX7_findsStrokes_1 rfl rfl npX7_findsJoins wmX7_162 wvX7_findsJoins weX7_findsJoins wiX7 wdX7_findsJoins (by decide) (by decide) (rk_aload_n_ok dX7_findsStrokes_4 rfl (rk_iconst_ok dX7_findsStrokes_5 (by decide) (rk_pI_ok dX7_findsStrokes_6 rfl iX7 tyX7_ok nmX7 (by decide) rfl rfl (by decide +kernel) wfX7_165 (rk_iconst_ok dX7_findsStrokes_9 (by decide) (rk_istore_n_ok dX7_findsStrokes_10 rfl (by decide) rk_cut_ok)))))))
theorem dX7_ranksAll_0 : decode cX7_ranksAll 0 = .ok (.aload_n 0, 1) := by decide +kernel
theorem dX7_ranksAll_1 : decode cX7_ranksAll 1 = .ok (.invokevirtual 178, 3) := by decide +kernel
theorem dX7_ranksAll_4 : decode cX7_ranksAll 4 = .ok (.aload_n 0, 1) := by decide +kernel
theorem dX7_ranksAll_5 : decode cX7_ranksAll 5 = .ok (.iconst 0, 1) := by decide +kernel
theorem dX7_ranksAll_6 : decode cX7_ranksAll 6 = .ok (.putfield 181, 3) := by decide +kernel
theorem dX7_ranksAll_9 : decode cX7_ranksAll 9 = .ok (.iconst 0, 1) := by decide +kernel
theorem dX7_ranksAll_10 : decode cX7_ranksAll 10 = .ok (.istore_n 1, 1) := by decide +kernel
theorem dX7_ranksAll_11 : decode cX7_ranksAll 11 = .ok (.iload_n 1, 1) := by decide +kernel
theorem dX7_ranksAll_12 : decode cX7_ranksAll 12 = .ok (.aload_n 0, 1) := by decide +kernel
theorem dX7_ranksAll_13 : decode cX7_ranksAll 13 = .ok (.getfield 165, 3) := by decide +kernel
theorem dX7_ranksAll_16 : decode cX7_ranksAll 16 = .ok (.if_icmp .ge 16, 3) := by decide +kernel
theorem dX7_ranksAll_19 : decode cX7_ranksAll 19 = .ok (.aload_n 0, 1) := by decide +kernel
theorem dX7_ranksAll_20 : decode cX7_ranksAll 20 = .ok (.getfield 52, 3) := by decide +kernel
theorem dX7_ranksAll_23 : decode cX7_ranksAll 23 = .ok (.iload_n 1, 1) := by decide +kernel
theorem dX7_ranksAll_24 : decode cX7_ranksAll 24 = .ok (.iconst (-1), 1) := by decide +kernel
theorem dX7_ranksAll_25 : decode cX7_ranksAll 25 = .ok (.iastore, 1) := by decide +kernel
theorem dX7_ranksAll_26 : decode cX7_ranksAll 26 = .ok (.iinc 1 1, 3) := by decide +kernel
theorem dX7_ranksAll_29 : decode cX7_ranksAll 29 = .ok (.goto (-18), 3) := by decide +kernel
theorem dX7_ranksAll_32 : decode cX7_ranksAll 32 = .ok (.iconst 0, 1) := by decide +kernel
theorem dX7_ranksAll_33 : decode cX7_ranksAll 33 = .ok (.istore_n 1, 1) := by decide +kernel
theorem dX7_ranksAll_34 : decode cX7_ranksAll 34 = .ok (.iconst 0, 1) := by decide +kernel
theorem dX7_ranksAll_35 : decode cX7_ranksAll 35 = .ok (.istore_n 2, 1) := by decide +kernel
theorem dX7_ranksAll_36 : decode cX7_ranksAll 36 = .ok (.iload_n 2, 1) := by decide +kernel
theorem dX7_ranksAll_37 : decode cX7_ranksAll 37 = .ok (.aload_n 0, 1) := by decide +kernel
theorem dX7_ranksAll_38 : decode cX7_ranksAll 38 = .ok (.getfield 165, 3) := by decide +kernel
theorem dX7_ranksAll_41 : decode cX7_ranksAll 41 = .ok (.if_icmp .ge 73, 3) := by decide +kernel
theorem dX7_ranksAll_44 : decode cX7_ranksAll 44 = .ok (.aload_n 0, 1) := by decide +kernel
theorem dX7_ranksAll_45 : decode cX7_ranksAll 45 = .ok (.iload_n 1, 1) := by decide +kernel
theorem dX7_ranksAll_46 : decode cX7_ranksAll 46 = .ok (.iconst 0, 1) := by decide +kernel
theorem dX7_ranksAll_47 : decode cX7_ranksAll 47 = .ok (.invokevirtual 184, 3) := by decide +kernel
theorem dX7_ranksAll_50 : decode cX7_ranksAll 50 = .ok (.istore_n 3, 1) := by decide +kernel
theorem dX7_ranksAll_51 : decode cX7_ranksAll 51 = .ok (.iload_n 3, 1) := by decide +kernel
theorem dX7_ranksAll_52 : decode cX7_ranksAll 52 = .ok (.iconst (-1), 1) := by decide +kernel
theorem dX7_ranksAll_53 : decode cX7_ranksAll 53 = .ok (.if_icmp .ne 20, 3) := by decide +kernel
theorem dX7_ranksAll_56 : decode cX7_ranksAll 56 = .ok (.aload_n 0, 1) := by decide +kernel
theorem dX7_ranksAll_57 : decode cX7_ranksAll 57 = .ok (.iconst 0, 1) := by decide +kernel
theorem dX7_ranksAll_58 : decode cX7_ranksAll 58 = .ok (.iconst 1, 1) := by decide +kernel
theorem dX7_ranksAll_59 : decode cX7_ranksAll 59 = .ok (.invokevirtual 184, 3) := by decide +kernel
theorem dX7_ranksAll_62 : decode cX7_ranksAll 62 = .ok (.istore_n 3, 1) := by decide +kernel
theorem dX7_ranksAll_63 : decode cX7_ranksAll 63 = .ok (.aload_n 0, 1) := by decide +kernel
theorem dX7_ranksAll_64 : decode cX7_ranksAll 64 = .ok (.dup, 1) := by decide +kernel
theorem dX7_ranksAll_65 : decode cX7_ranksAll 65 = .ok (.getfield 181, 3) := by decide +kernel
theorem dX7_ranksAll_68 : decode cX7_ranksAll 68 = .ok (.iconst 1, 1) := by decide +kernel
theorem dX7_ranksAll_69 : decode cX7_ranksAll 69 = .ok (.iadd, 1) := by decide +kernel
theorem dX7_ranksAll_70 : decode cX7_ranksAll 70 = .ok (.putfield 181, 3) := by decide +kernel
theorem dX7_ranksAll_73 : decode cX7_ranksAll 73 = .ok (.aload_n 0, 1) := by decide +kernel
theorem dX7_ranksAll_74 : decode cX7_ranksAll 74 = .ok (.getfield 52, 3) := by decide +kernel
theorem dX7_ranksAll_77 : decode cX7_ranksAll 77 = .ok (.iload_n 3, 1) := by decide +kernel
theorem dX7_ranksAll_78 : decode cX7_ranksAll 78 = .ok (.iload_n 2, 1) := by decide +kernel
theorem dX7_ranksAll_79 : decode cX7_ranksAll 79 = .ok (.iastore, 1) := by decide +kernel
theorem dX7_ranksAll_80 : decode cX7_ranksAll 80 = .ok (.aload_n 0, 1) := by decide +kernel
theorem dX7_ranksAll_81 : decode cX7_ranksAll 81 = .ok (.getfield 49, 3) := by decide +kernel
theorem dX7_ranksAll_84 : decode cX7_ranksAll 84 = .ok (.iload_n 2, 1) := by decide +kernel
theorem dX7_ranksAll_85 : decode cX7_ranksAll 85 = .ok (.iload_n 3, 1) := by decide +kernel
theorem dX7_ranksAll_86 : decode cX7_ranksAll 86 = .ok (.iastore, 1) := by decide +kernel
theorem dX7_ranksAll_87 : decode cX7_ranksAll 87 = .ok (.aload_n 0, 1) := by decide +kernel
theorem dX7_ranksAll_88 : decode cX7_ranksAll 88 = .ok (.getfield 55, 3) := by decide +kernel
theorem dX7_ranksAll_91 : decode cX7_ranksAll 91 = .ok (.iload_n 3, 1) := by decide +kernel
theorem dX7_ranksAll_92 : decode cX7_ranksAll 92 = .ok (.aload_n 0, 1) := by decide +kernel
theorem dX7_ranksAll_93 : decode cX7_ranksAll 93 = .ok (.getfield 181, 3) := by decide +kernel
theorem dX7_ranksAll_96 : decode cX7_ranksAll 96 = .ok (.iconst 1, 1) := by decide +kernel
theorem dX7_ranksAll_97 : decode cX7_ranksAll 97 = .ok (.isub, 1) := by decide +kernel
theorem dX7_ranksAll_98 : decode cX7_ranksAll 98 = .ok (.iastore, 1) := by decide +kernel
theorem dX7_ranksAll_99 : decode cX7_ranksAll 99 = .ok (.iload_n 1, 1) := by decide +kernel
theorem dX7_ranksAll_100 : decode cX7_ranksAll 100 = .ok (.aload_n 0, 1) := by decide +kernel
theorem dX7_ranksAll_101 : decode cX7_ranksAll 101 = .ok (.getfield 37, 3) := by decide +kernel
theorem dX7_ranksAll_104 : decode cX7_ranksAll 104 = .ok (.iload_n 3, 1) := by decide +kernel
theorem dX7_ranksAll_105 : decode cX7_ranksAll 105 = .ok (.iaload, 1) := by decide +kernel
theorem dX7_ranksAll_106 : decode cX7_ranksAll 106 = .ok (.ior, 1) := by decide +kernel
theorem dX7_ranksAll_107 : decode cX7_ranksAll 107 = .ok (.istore_n 1, 1) := by decide +kernel
theorem dX7_ranksAll_108 : decode cX7_ranksAll 108 = .ok (.iinc 2 1, 3) := by decide +kernel
theorem dX7_ranksAll_111 : decode cX7_ranksAll 111 = .ok (.goto (-75), 3) := by decide +kernel
theorem dX7_ranksAll_114 : decode cX7_ranksAll 114 = .ok (.return_, 1) := by decide +kernel
abbrev kX7_ranksAll (g : rk_G) (R : rk_R) (pc : Nat) : rk_K := rk_cut g cX7_ranksAll 4 none RX7 8 R pc
abbrev aX7_ranksAll (g : rk_G) (R : rk_R) (pc : Nat) (K : rk_K) : Prop := rk_AK g cX7_ranksAll 4 none RX7 8 R pc K
abbrev sX7_ranksAll (g : rk_G) (vs : List Value) (σ : rk_M) (R : rk_R) : Prop := rk_does g yX7_ranksAll cX7_ranksAll 4 none 8 vs σ R
abbrev tX7_ranksAll (g : rk_G) (R : rk_R) (pc : Nat) (ls st : List Value) (σ : rk_M) : Prop := rk_At g cX7_ranksAll 4 none RX7 8 R pc ls st σ
def bX7_ranksAll_73 (g : rk_G) (R : rk_R) : rk_K := (rk_aload 0 (rk_gR 7 21 (rk_iload 3 (rk_iload 2 (rk_iast (rk_aload 0 (rk_gR 7 20 (rk_iload 2 (rk_iload 3 (rk_iast (rk_aload 0 (rk_gR 7 22 (rk_iload 3 (rk_aload 0 (rk_gI 7 19 (rk_ci (1) (rk_isub (rk_iast (rk_iload 1 (rk_aload 0 (rk_gR 7 14 (rk_iload 3 (rk_iald (rk_ior (rk_istore 1 (rk_iinc 2 (1) (kX7_ranksAll g R 36)))))))))))))))))))))))))))
theorem eX7_ranksAll_73 (g : rk_G) (R : rk_R) (ls st : List Value) (σ : rk_M) : bX7_ranksAll_73 g R ls st σ = (rk_aload 0 (rk_gR 7 21 (rk_iload 3 (rk_iload 2 (rk_iast (rk_aload 0 (rk_gR 7 20 (rk_iload 2 (rk_iload 3 (rk_iast (rk_aload 0 (rk_gR 7 22 (rk_iload 3 (rk_aload 0 (rk_gI 7 19 (rk_ci (1) (rk_isub (rk_iast (rk_iload 1 (rk_aload 0 (rk_gR 7 14 (rk_iload 3 (rk_iald (rk_ior (rk_istore 1 (rk_iinc 2 (1) (kX7_ranksAll g R 36))))))))))))))))))))))))))) ls st σ := rfl
theorem oX7_ranksAll_73 {g : rk_G} {R : rk_R} : aX7_ranksAll g R 73 (bX7_ranksAll_73 g R) := (rk_aload_n_ok dX7_ranksAll_73 rfl (rk_gR_ok dX7_ranksAll_74 rfl iX7 (by decide) rfl wfX7_52 (rk_iload_n_ok dX7_ranksAll_77 rfl (rk_iload_n_ok dX7_ranksAll_78 rfl (rk_iast_ok dX7_ranksAll_79 (rk_aload_n_ok dX7_ranksAll_80 rfl (rk_gR_ok dX7_ranksAll_81 rfl iX7 (by decide) rfl wfX7_49 (rk_iload_n_ok dX7_ranksAll_84 rfl (rk_iload_n_ok dX7_ranksAll_85 rfl (rk_iast_ok dX7_ranksAll_86 (rk_aload_n_ok dX7_ranksAll_87 rfl (rk_gR_ok dX7_ranksAll_88 rfl iX7 (by decide) rfl wfX7_55 (rk_iload_n_ok dX7_ranksAll_91 rfl (rk_aload_n_ok dX7_ranksAll_92 rfl (rk_gI_ok dX7_ranksAll_93 rfl iX7 (by decide) rfl wfX7_181 (rk_iconst_ok dX7_ranksAll_96 (by decide) (rk_isub_ok dX7_ranksAll_97 (rk_iast_ok dX7_ranksAll_98 (rk_iload_n_ok dX7_ranksAll_99 rfl (rk_aload_n_ok dX7_ranksAll_100 rfl (rk_gR_ok dX7_ranksAll_101 rfl iX7 (by decide) rfl wfX7_37 (rk_iload_n_ok dX7_ranksAll_104 rfl (rk_iald_ok dX7_ranksAll_105 (rk_ior_ok dX7_ranksAll_106 (rk_istore_n_ok dX7_ranksAll_107 rfl (by decide) (rk_iinc_ok dX7_ranksAll_108 (by decide) (by decide) (rk_goto_ok (pc' := 36) dX7_ranksAll_111 (by decide) rk_cut_ok)))))))))))))))))))))))))))
def bX7_ranksAll_36 (g : rk_G) (R : rk_R) : rk_K := (rk_iload 2 (rk_aload 0 (rk_gI 7 11 (rk_icmp_ge (rk_vret R) (rk_aload 0 (rk_iload 1 (rk_ci (0) (rk_cV g 2 7 yX7_bestLeft cX7_bestLeft 6 (some .int) 0 (rk_istore 3 (rk_iload 3 (rk_ci (-1) (rk_icmp_ne (bX7_ranksAll_73 g R) (rk_aload 0 (rk_ci (0) (rk_ci (1) (rk_cV g 2 7 yX7_bestLeft cX7_bestLeft 6 (some .int) 0 (rk_istore 3 (rk_aload 0 (rk_dup (rk_gI 7 19 (rk_ci (1) (rk_iadd (rk_pI 7 19 (bX7_ranksAll_73 g R))))))))))))))))))))))))
theorem eX7_ranksAll_36 (g : rk_G) (R : rk_R) (ls st : List Value) (σ : rk_M) : bX7_ranksAll_36 g R ls st σ = (rk_iload 2 (rk_aload 0 (rk_gI 7 11 (rk_icmp_ge (rk_vret R) (rk_aload 0 (rk_iload 1 (rk_ci (0) (rk_cV g 2 7 yX7_bestLeft cX7_bestLeft 6 (some .int) 0 (rk_istore 3 (rk_iload 3 (rk_ci (-1) (rk_icmp_ne (bX7_ranksAll_73 g R) (rk_aload 0 (rk_ci (0) (rk_ci (1) (rk_cV g 2 7 yX7_bestLeft cX7_bestLeft 6 (some .int) 0 (rk_istore 3 (rk_aload 0 (rk_dup (rk_gI 7 19 (rk_ci (1) (rk_iadd (rk_pI 7 19 (bX7_ranksAll_73 g R)))))))))))))))))))))))) ls st σ := rfl
theorem oX7_ranksAll_36 {g : rk_G} {R : rk_R} : aX7_ranksAll g R 36 (bX7_ranksAll_36 g R) := (rk_iload_n_ok dX7_ranksAll_36 rfl (rk_aload_n_ok dX7_ranksAll_37 rfl (rk_gI_ok dX7_ranksAll_38 rfl iX7 (by decide) rfl wfX7_165 (rk_icmp_ge_ok (pc' := 114) dX7_ranksAll_41 (by decide) (rk_vret_ok rfl dX7_ranksAll_114) (rk_aload_n_ok dX7_ranksAll_44 rfl (rk_iload_n_ok dX7_ranksAll_45 rfl (rk_iconst_ok dX7_ranksAll_46 (by decide) (rk_cV_ok dX7_ranksAll_47 rfl rfl npX7_bestLeft wmX7_184 wvX7_bestLeft weX7_bestLeft wiX7 wdX7_bestLeft (by decide) (by decide) (rk_istore_n_ok dX7_ranksAll_50 rfl (by decide) (rk_iload_n_ok dX7_ranksAll_51 rfl (rk_iconst_ok dX7_ranksAll_52 (by decide) (rk_icmp_ne_ok (pc' := 73) dX7_ranksAll_53 (by decide) oX7_ranksAll_73 (rk_aload_n_ok dX7_ranksAll_56 rfl (rk_iconst_ok dX7_ranksAll_57 (by decide) (rk_iconst_ok dX7_ranksAll_58 (by decide) (rk_cV_ok dX7_ranksAll_59 rfl rfl npX7_bestLeft wmX7_184 wvX7_bestLeft weX7_bestLeft wiX7 wdX7_bestLeft (by decide) (by decide) (rk_istore_n_ok dX7_ranksAll_62 rfl (by decide) (rk_aload_n_ok dX7_ranksAll_63 rfl (rk_dup_ok dX7_ranksAll_64 (rk_gI_ok dX7_ranksAll_65 rfl iX7 (by decide) rfl wfX7_181 (rk_iconst_ok dX7_ranksAll_68 (by decide) (rk_iadd_ok dX7_ranksAll_69 (rk_pI_ok dX7_ranksAll_70 rfl iX7 tyX7_ok nmX7 (by decide) rfl rfl (by decide +kernel) wfX7_181 oX7_ranksAll_73)))))))))))))))))))))))
def bX7_ranksAll_11 (g : rk_G) (R : rk_R) : rk_K := (rk_iload 1 (rk_aload 0 (rk_gI 7 11 (rk_icmp_ge (rk_ci (0) (rk_istore 1 (rk_ci (0) (rk_istore 2 (kX7_ranksAll g R 36))))) (rk_aload 0 (rk_gR 7 21 (rk_iload 1 (rk_ci (-1) (rk_iast (rk_iinc 1 (1) (kX7_ranksAll g R 11)))))))))))
theorem eX7_ranksAll_11 (g : rk_G) (R : rk_R) (ls st : List Value) (σ : rk_M) : bX7_ranksAll_11 g R ls st σ = (rk_iload 1 (rk_aload 0 (rk_gI 7 11 (rk_icmp_ge (rk_ci (0) (rk_istore 1 (rk_ci (0) (rk_istore 2 (kX7_ranksAll g R 36))))) (rk_aload 0 (rk_gR 7 21 (rk_iload 1 (rk_ci (-1) (rk_iast (rk_iinc 1 (1) (kX7_ranksAll g R 11))))))))))) ls st σ := rfl
theorem oX7_ranksAll_11 {g : rk_G} {R : rk_R} : aX7_ranksAll g R 11 (bX7_ranksAll_11 g R) := (rk_iload_n_ok dX7_ranksAll_11 rfl (rk_aload_n_ok dX7_ranksAll_12 rfl (rk_gI_ok dX7_ranksAll_13 rfl iX7 (by decide) rfl wfX7_165 (rk_icmp_ge_ok (pc' := 32) dX7_ranksAll_16 (by decide) (rk_iconst_ok dX7_ranksAll_32 (by decide) (rk_istore_n_ok dX7_ranksAll_33 rfl (by decide) (rk_iconst_ok dX7_ranksAll_34 (by decide) (rk_istore_n_ok dX7_ranksAll_35 rfl (by decide) rk_cut_ok)))) (rk_aload_n_ok dX7_ranksAll_19 rfl (rk_gR_ok dX7_ranksAll_20 rfl iX7 (by decide) rfl wfX7_52 (rk_iload_n_ok dX7_ranksAll_23 rfl (rk_iconst_ok dX7_ranksAll_24 (by decide) (rk_iast_ok dX7_ranksAll_25 (rk_iinc_ok dX7_ranksAll_26 (by decide) (by decide) (rk_goto_ok (pc' := 11) dX7_ranksAll_29 (by decide) rk_cut_ok)))))))))))
def bX7_ranksAll_0 (g : rk_G) (R : rk_R) : rk_K := (rk_aload 0 (rk_cV g 0 7 yX7_findsStrokes cX7_findsStrokes 3 none 7 (rk_aload 0 (rk_ci (0) (rk_pI 7 19 (rk_ci (0) (rk_istore 1 (kX7_ranksAll g R 11))))))))
theorem eX7_ranksAll_0 (g : rk_G) (R : rk_R) (ls st : List Value) (σ : rk_M) : bX7_ranksAll_0 g R ls st σ = (rk_aload 0 (rk_cV g 0 7 yX7_findsStrokes cX7_findsStrokes 3 none 7 (rk_aload 0 (rk_ci (0) (rk_pI 7 19 (rk_ci (0) (rk_istore 1 (kX7_ranksAll g R 11)))))))) ls st σ := rfl
theorem oX7_ranksAll_0 {g : rk_G} {R : rk_R} : aX7_ranksAll g R 0 (bX7_ranksAll_0 g R) := (rk_aload_n_ok dX7_ranksAll_0 rfl (rk_cV_ok dX7_ranksAll_1 rfl rfl npX7_findsStrokes wmX7_178 wvX7_findsStrokes weX7_findsStrokes wiX7 wdX7_findsStrokes (by decide) (by decide) (rk_aload_n_ok dX7_ranksAll_4 rfl (rk_iconst_ok dX7_ranksAll_5 (by decide) (rk_pI_ok dX7_ranksAll_6 rfl iX7 tyX7_ok nmX7 (by decide) rfl rfl (by decide +kernel) wfX7_181 (rk_iconst_ok dX7_ranksAll_9 (by decide) (rk_istore_n_ok dX7_ranksAll_10 rfl (by decide) rk_cut_ok)))))))
theorem dX7_finds_0 : decode cX7_finds 0 = .ok (.aload_n 0, 1) := by decide +kernel
theorem dX7_finds_1 : decode cX7_finds 1 = .ok (.iconst (-1), 1) := by decide +kernel
theorem dX7_finds_2 : decode cX7_finds 2 = .ok (.putfield 153, 3) := by decide +kernel
theorem dX7_finds_5 : decode cX7_finds 5 = .ok (.aload_n 0, 1) := by decide +kernel
theorem dX7_finds_6 : decode cX7_finds 6 = .ok (.invokevirtual 188, 3) := by decide +kernel
theorem dX7_finds_9 : decode cX7_finds 9 = .ok (.return_, 1) := by decide +kernel
abbrev kX7_finds (g : rk_G) (R : rk_R) (pc : Nat) : rk_K := rk_cut g cX7_finds 1 none RX7 9 R pc
abbrev aX7_finds (g : rk_G) (R : rk_R) (pc : Nat) (K : rk_K) : Prop := rk_AK g cX7_finds 1 none RX7 9 R pc K
abbrev sX7_finds (g : rk_G) (vs : List Value) (σ : rk_M) (R : rk_R) : Prop := rk_does g yX7_finds cX7_finds 1 none 9 vs σ R
abbrev tX7_finds (g : rk_G) (R : rk_R) (pc : Nat) (ls st : List Value) (σ : rk_M) : Prop := rk_At g cX7_finds 1 none RX7 9 R pc ls st σ
def bX7_finds_0 (g : rk_G) (R : rk_R) : rk_K := (rk_aload 0 (rk_ci (-1) (rk_pI 7 18 (rk_aload 0 (rk_cV g 0 7 yX7_ranksAll cX7_ranksAll 4 none 8 (rk_vret R))))))
theorem eX7_finds_0 (g : rk_G) (R : rk_R) (ls st : List Value) (σ : rk_M) : bX7_finds_0 g R ls st σ = (rk_aload 0 (rk_ci (-1) (rk_pI 7 18 (rk_aload 0 (rk_cV g 0 7 yX7_ranksAll cX7_ranksAll 4 none 8 (rk_vret R)))))) ls st σ := rfl
theorem oX7_finds_0 {g : rk_G} {R : rk_R} : aX7_finds g R 0 (bX7_finds_0 g R) := (rk_aload_n_ok dX7_finds_0 rfl (rk_iconst_ok dX7_finds_1 (by decide) (rk_pI_ok dX7_finds_2 rfl iX7 tyX7_ok nmX7 (by decide) rfl rfl (by decide +kernel) wfX7_153 (rk_aload_n_ok dX7_finds_5 rfl (rk_cV_ok dX7_finds_6 rfl rfl npX7_ranksAll wmX7_188 wvX7_ranksAll weX7_ranksAll wiX7 wdX7_ranksAll (by decide) (by decide) (rk_vret_ok rfl dX7_finds_9))))))
theorem dX7_usefulOf_0 : decode cX7_usefulOf 0 = .ok (.iconst (-1), 1) := by decide +kernel
theorem dX7_usefulOf_1 : decode cX7_usefulOf 1 = .ok (.istore_n 2, 1) := by decide +kernel
theorem dX7_usefulOf_2 : decode cX7_usefulOf 2 = .ok (.iconst (-1), 1) := by decide +kernel
theorem dX7_usefulOf_3 : decode cX7_usefulOf 3 = .ok (.istore_n 3, 1) := by decide +kernel
theorem dX7_usefulOf_4 : decode cX7_usefulOf 4 = .ok (.iconst 0, 1) := by decide +kernel
theorem dX7_usefulOf_5 : decode cX7_usefulOf 5 = .ok (.istore 4, 2) := by decide +kernel
theorem dX7_usefulOf_7 : decode cX7_usefulOf 7 = .ok (.iload 4, 2) := by decide +kernel
theorem dX7_usefulOf_9 : decode cX7_usefulOf 9 = .ok (.aload_n 0, 1) := by decide +kernel
theorem dX7_usefulOf_10 : decode cX7_usefulOf 10 = .ok (.getfield 85, 3) := by decide +kernel
theorem dX7_usefulOf_13 : decode cX7_usefulOf 13 = .ok (.if_icmp .ge 58, 3) := by decide +kernel
theorem dX7_usefulOf_16 : decode cX7_usefulOf 16 = .ok (.aload_n 0, 1) := by decide +kernel
theorem dX7_usefulOf_17 : decode cX7_usefulOf 17 = .ok (.iload 4, 2) := by decide +kernel
theorem dX7_usefulOf_19 : decode cX7_usefulOf 19 = .ok (.putfield 153, 3) := by decide +kernel
theorem dX7_usefulOf_22 : decode cX7_usefulOf 22 = .ok (.aload_n 0, 1) := by decide +kernel
theorem dX7_usefulOf_23 : decode cX7_usefulOf 23 = .ok (.invokevirtual 188, 3) := by decide +kernel
theorem dX7_usefulOf_26 : decode cX7_usefulOf 26 = .ok (.aload_n 0, 1) := by decide +kernel
theorem dX7_usefulOf_27 : decode cX7_usefulOf 27 = .ok (.getfield 43, 3) := by decide +kernel
theorem dX7_usefulOf_30 : decode cX7_usefulOf 30 = .ok (.aload_n 0, 1) := by decide +kernel
theorem dX7_usefulOf_31 : decode cX7_usefulOf 31 = .ok (.getfield 49, 3) := by decide +kernel
theorem dX7_usefulOf_34 : decode cX7_usefulOf 34 = .ok (.iconst 0, 1) := by decide +kernel
theorem dX7_usefulOf_35 : decode cX7_usefulOf 35 = .ok (.iaload, 1) := by decide +kernel
theorem dX7_usefulOf_36 : decode cX7_usefulOf 36 = .ok (.iaload, 1) := by decide +kernel
theorem dX7_usefulOf_37 : decode cX7_usefulOf 37 = .ok (.istore 5, 2) := by decide +kernel
theorem dX7_usefulOf_39 : decode cX7_usefulOf 39 = .ok (.iload 5, 2) := by decide +kernel
theorem dX7_usefulOf_41 : decode cX7_usefulOf 41 = .ok (.iload_n 3, 1) := by decide +kernel
theorem dX7_usefulOf_42 : decode cX7_usefulOf 42 = .ok (.if_icmp .le 8, 3) := by decide +kernel
theorem dX7_usefulOf_45 : decode cX7_usefulOf 45 = .ok (.iload 4, 2) := by decide +kernel
theorem dX7_usefulOf_47 : decode cX7_usefulOf 47 = .ok (.goto 4, 3) := by decide +kernel
theorem dX7_usefulOf_50 : decode cX7_usefulOf 50 = .ok (.iload_n 2, 1) := by decide +kernel
theorem dX7_usefulOf_51 : decode cX7_usefulOf 51 = .ok (.istore_n 2, 1) := by decide +kernel
theorem dX7_usefulOf_52 : decode cX7_usefulOf 52 = .ok (.iload 5, 2) := by decide +kernel
theorem dX7_usefulOf_54 : decode cX7_usefulOf 54 = .ok (.iload_n 3, 1) := by decide +kernel
theorem dX7_usefulOf_55 : decode cX7_usefulOf 55 = .ok (.if_icmp .le 8, 3) := by decide +kernel
theorem dX7_usefulOf_58 : decode cX7_usefulOf 58 = .ok (.iload 5, 2) := by decide +kernel
theorem dX7_usefulOf_60 : decode cX7_usefulOf 60 = .ok (.goto 4, 3) := by decide +kernel
theorem dX7_usefulOf_63 : decode cX7_usefulOf 63 = .ok (.iload_n 3, 1) := by decide +kernel
theorem dX7_usefulOf_64 : decode cX7_usefulOf 64 = .ok (.istore_n 3, 1) := by decide +kernel
theorem dX7_usefulOf_65 : decode cX7_usefulOf 65 = .ok (.iinc 4 1, 3) := by decide +kernel
theorem dX7_usefulOf_68 : decode cX7_usefulOf 68 = .ok (.goto (-61), 3) := by decide +kernel
theorem dX7_usefulOf_71 : decode cX7_usefulOf 71 = .ok (.aload_n 0, 1) := by decide +kernel
theorem dX7_usefulOf_72 : decode cX7_usefulOf 72 = .ok (.iconst (-1), 1) := by decide +kernel
theorem dX7_usefulOf_73 : decode cX7_usefulOf 73 = .ok (.putfield 153, 3) := by decide +kernel
theorem dX7_usefulOf_76 : decode cX7_usefulOf 76 = .ok (.iload_n 1, 1) := by decide +kernel
theorem dX7_usefulOf_77 : decode cX7_usefulOf 77 = .ok (.ifCond .ne 7, 3) := by decide +kernel
theorem dX7_usefulOf_80 : decode cX7_usefulOf 80 = .ok (.iload_n 2, 1) := by decide +kernel
theorem dX7_usefulOf_81 : decode cX7_usefulOf 81 = .ok (.goto 4, 3) := by decide +kernel
theorem dX7_usefulOf_84 : decode cX7_usefulOf 84 = .ok (.iload_n 3, 1) := by decide +kernel
theorem dX7_usefulOf_85 : decode cX7_usefulOf 85 = .ok (.ireturn, 1) := by decide +kernel
abbrev kX7_usefulOf (g : rk_G) (R : rk_R) (pc : Nat) : rk_K := rk_cut g cX7_usefulOf 6 (some .int) RX7 9 R pc
abbrev aX7_usefulOf (g : rk_G) (R : rk_R) (pc : Nat) (K : rk_K) : Prop := rk_AK g cX7_usefulOf 6 (some .int) RX7 9 R pc K
abbrev sX7_usefulOf (g : rk_G) (vs : List Value) (σ : rk_M) (R : rk_R) : Prop := rk_does g yX7_usefulOf cX7_usefulOf 6 (some .int) 9 vs σ R
abbrev tX7_usefulOf (g : rk_G) (R : rk_R) (pc : Nat) (ls st : List Value) (σ : rk_M) : Prop := rk_At g cX7_usefulOf 6 (some .int) RX7 9 R pc ls st σ
def bX7_usefulOf_85 (g : rk_G) (R : rk_R) : rk_K := (rk_iret R)
theorem eX7_usefulOf_85 (g : rk_G) (R : rk_R) (ls st : List Value) (σ : rk_M) : bX7_usefulOf_85 g R ls st σ = (rk_iret R) ls st σ := rfl
theorem oX7_usefulOf_85 {g : rk_G} {R : rk_R} : aX7_usefulOf g R 85 (bX7_usefulOf_85 g R) := (rk_iret_ok rfl dX7_usefulOf_85)
def bX7_usefulOf_64 (g : rk_G) (R : rk_R) : rk_K := (rk_istore 3 (rk_iinc 4 (1) (kX7_usefulOf g R 7)))
theorem eX7_usefulOf_64 (g : rk_G) (R : rk_R) (ls st : List Value) (σ : rk_M) : bX7_usefulOf_64 g R ls st σ = (rk_istore 3 (rk_iinc 4 (1) (kX7_usefulOf g R 7))) ls st σ := rfl
theorem oX7_usefulOf_64 {g : rk_G} {R : rk_R} : aX7_usefulOf g R 64 (bX7_usefulOf_64 g R) := (rk_istore_n_ok dX7_usefulOf_64 rfl (by decide) (rk_iinc_ok dX7_usefulOf_65 (by decide) (by decide) (rk_goto_ok (pc' := 7) dX7_usefulOf_68 (by decide) rk_cut_ok)))
def bX7_usefulOf_51 (g : rk_G) (R : rk_R) : rk_K := (rk_istore 2 (rk_iload 5 (rk_iload 3 (rk_icmp_le (rk_iload 3 (bX7_usefulOf_64 g R)) (rk_iload 5 (bX7_usefulOf_64 g R))))))
theorem eX7_usefulOf_51 (g : rk_G) (R : rk_R) (ls st : List Value) (σ : rk_M) : bX7_usefulOf_51 g R ls st σ = (rk_istore 2 (rk_iload 5 (rk_iload 3 (rk_icmp_le (rk_iload 3 (bX7_usefulOf_64 g R)) (rk_iload 5 (bX7_usefulOf_64 g R)))))) ls st σ := rfl
theorem oX7_usefulOf_51 {g : rk_G} {R : rk_R} : aX7_usefulOf g R 51 (bX7_usefulOf_51 g R) := (rk_istore_n_ok dX7_usefulOf_51 rfl (by decide) (rk_iload_ok dX7_usefulOf_52 (rk_iload_n_ok dX7_usefulOf_54 rfl (rk_icmp_le_ok (pc' := 63) dX7_usefulOf_55 (by decide) (rk_iload_n_ok dX7_usefulOf_63 rfl oX7_usefulOf_64) (rk_iload_ok dX7_usefulOf_58 (rk_goto_ok (pc' := 64) dX7_usefulOf_60 (by decide) oX7_usefulOf_64))))))
def bX7_usefulOf_7 (g : rk_G) (R : rk_R) : rk_K := (rk_iload 4 (rk_aload 0 (rk_gI 7 3 (rk_icmp_ge (rk_aload 0 (rk_ci (-1) (rk_pI 7 18 (rk_iload 1 (rk_if_ne (rk_iload 3 (bX7_usefulOf_85 g R)) (rk_iload 2 (bX7_usefulOf_85 g R))))))) (rk_aload 0 (rk_iload 4 (rk_pI 7 18 (rk_aload 0 (rk_cV g 0 7 yX7_ranksAll cX7_ranksAll 4 none 8 (rk_aload 0 (rk_gR 7 16 (rk_aload 0 (rk_gR 7 20 (rk_ci (0) (rk_iald (rk_iald (rk_istore 5 (rk_iload 5 (rk_iload 3 (rk_icmp_le (rk_iload 2 (bX7_usefulOf_51 g R)) (rk_iload 4 (bX7_usefulOf_51 g R))))))))))))))))))))))
theorem eX7_usefulOf_7 (g : rk_G) (R : rk_R) (ls st : List Value) (σ : rk_M) : bX7_usefulOf_7 g R ls st σ = (rk_iload 4 (rk_aload 0 (rk_gI 7 3 (rk_icmp_ge (rk_aload 0 (rk_ci (-1) (rk_pI 7 18 (rk_iload 1 (rk_if_ne (rk_iload 3 (bX7_usefulOf_85 g R)) (rk_iload 2 (bX7_usefulOf_85 g R))))))) (rk_aload 0 (rk_iload 4 (rk_pI 7 18 (rk_aload 0 (rk_cV g 0 7 yX7_ranksAll cX7_ranksAll 4 none 8 (rk_aload 0 (rk_gR 7 16 (rk_aload 0 (rk_gR 7 20 (rk_ci (0) (rk_iald (rk_iald (rk_istore 5 (rk_iload 5 (rk_iload 3 (rk_icmp_le (rk_iload 2 (bX7_usefulOf_51 g R)) (rk_iload 4 (bX7_usefulOf_51 g R)))))))))))))))))))))) ls st σ := rfl
theorem oX7_usefulOf_7 {g : rk_G} {R : rk_R} : aX7_usefulOf g R 7 (bX7_usefulOf_7 g R) := (rk_iload_ok dX7_usefulOf_7 (rk_aload_n_ok dX7_usefulOf_9 rfl (rk_gI_ok dX7_usefulOf_10 rfl iX7 (by decide) rfl wfX7_85 (rk_icmp_ge_ok (pc' := 71) dX7_usefulOf_13 (by decide) (rk_aload_n_ok dX7_usefulOf_71 rfl (rk_iconst_ok dX7_usefulOf_72 (by decide) (rk_pI_ok dX7_usefulOf_73 rfl iX7 tyX7_ok nmX7 (by decide) rfl rfl (by decide +kernel) wfX7_153 (rk_iload_n_ok dX7_usefulOf_76 rfl (rk_if_ne_ok (pc' := 84) dX7_usefulOf_77 (by decide) (rk_iload_n_ok dX7_usefulOf_84 rfl oX7_usefulOf_85) (rk_iload_n_ok dX7_usefulOf_80 rfl (rk_goto_ok (pc' := 85) dX7_usefulOf_81 (by decide) oX7_usefulOf_85))))))) (rk_aload_n_ok dX7_usefulOf_16 rfl (rk_iload_ok dX7_usefulOf_17 (rk_pI_ok dX7_usefulOf_19 rfl iX7 tyX7_ok nmX7 (by decide) rfl rfl (by decide +kernel) wfX7_153 (rk_aload_n_ok dX7_usefulOf_22 rfl (rk_cV_ok dX7_usefulOf_23 rfl rfl npX7_ranksAll wmX7_188 wvX7_ranksAll weX7_ranksAll wiX7 wdX7_ranksAll (by decide) (by decide) (rk_aload_n_ok dX7_usefulOf_26 rfl (rk_gR_ok dX7_usefulOf_27 rfl iX7 (by decide) rfl wfX7_43 (rk_aload_n_ok dX7_usefulOf_30 rfl (rk_gR_ok dX7_usefulOf_31 rfl iX7 (by decide) rfl wfX7_49 (rk_iconst_ok dX7_usefulOf_34 (by decide) (rk_iald_ok dX7_usefulOf_35 (rk_iald_ok dX7_usefulOf_36 (rk_istore_ok dX7_usefulOf_37 (by decide) (rk_iload_ok dX7_usefulOf_39 (rk_iload_n_ok dX7_usefulOf_41 rfl (rk_icmp_le_ok (pc' := 50) dX7_usefulOf_42 (by decide) (rk_iload_n_ok dX7_usefulOf_50 rfl oX7_usefulOf_51) (rk_iload_ok dX7_usefulOf_45 (rk_goto_ok (pc' := 51) dX7_usefulOf_47 (by decide) oX7_usefulOf_51))))))))))))))))))))))
def bX7_usefulOf_0 (g : rk_G) (R : rk_R) : rk_K := (rk_ci (-1) (rk_istore 2 (rk_ci (-1) (rk_istore 3 (rk_ci (0) (rk_istore 4 (kX7_usefulOf g R 7)))))))
theorem eX7_usefulOf_0 (g : rk_G) (R : rk_R) (ls st : List Value) (σ : rk_M) : bX7_usefulOf_0 g R ls st σ = (rk_ci (-1) (rk_istore 2 (rk_ci (-1) (rk_istore 3 (rk_ci (0) (rk_istore 4 (kX7_usefulOf g R 7))))))) ls st σ := rfl
theorem oX7_usefulOf_0 {g : rk_G} {R : rk_R} : aX7_usefulOf g R 0 (bX7_usefulOf_0 g R) := (rk_iconst_ok dX7_usefulOf_0 (by decide) (rk_istore_n_ok dX7_usefulOf_1 rfl (by decide) (rk_iconst_ok dX7_usefulOf_2 (by decide) (rk_istore_n_ok dX7_usefulOf_3 rfl (by decide) (rk_iconst_ok dX7_usefulOf_4 (by decide) (rk_istore_ok dX7_usefulOf_5 (by decide) rk_cut_ok))))))
theorem dX7_infoOf_0 : decode cX7_infoOf 0 = .ok (.aload_n 0, 1) := by decide +kernel
theorem dX7_infoOf_1 : decode cX7_infoOf 1 = .ok (.invokevirtual 191, 3) := by decide +kernel
theorem dX7_infoOf_4 : decode cX7_infoOf 4 = .ok (.iload_n 2, 1) := by decide +kernel
theorem dX7_infoOf_5 : decode cX7_infoOf 5 = .ok (.tableswitch 76 0 5 #[39, 39, 50, 57, 64, 70], 39) := by decide +kernel
theorem dX7_infoOf_44 : decode cX7_infoOf 44 = .ok (.aload_n 0, 1) := by decide +kernel
theorem dX7_infoOf_45 : decode cX7_infoOf 45 = .ok (.getfield 16, 3) := by decide +kernel
theorem dX7_infoOf_48 : decode cX7_infoOf 48 = .ok (.iconst 2, 1) := by decide +kernel
theorem dX7_infoOf_49 : decode cX7_infoOf 49 = .ok (.iload_n 1, 1) := by decide +kernel
theorem dX7_infoOf_50 : decode cX7_infoOf 50 = .ok (.imul, 1) := by decide +kernel
theorem dX7_infoOf_51 : decode cX7_infoOf 51 = .ok (.iload_n 2, 1) := by decide +kernel
theorem dX7_infoOf_52 : decode cX7_infoOf 52 = .ok (.iadd, 1) := by decide +kernel
theorem dX7_infoOf_53 : decode cX7_infoOf 53 = .ok (.iaload, 1) := by decide +kernel
theorem dX7_infoOf_54 : decode cX7_infoOf 54 = .ok (.ireturn, 1) := by decide +kernel
theorem dX7_infoOf_55 : decode cX7_infoOf 55 = .ok (.aload_n 0, 1) := by decide +kernel
theorem dX7_infoOf_56 : decode cX7_infoOf 56 = .ok (.getfield 19, 3) := by decide +kernel
theorem dX7_infoOf_59 : decode cX7_infoOf 59 = .ok (.iload_n 1, 1) := by decide +kernel
theorem dX7_infoOf_60 : decode cX7_infoOf 60 = .ok (.iaload, 1) := by decide +kernel
theorem dX7_infoOf_61 : decode cX7_infoOf 61 = .ok (.ireturn, 1) := by decide +kernel
theorem dX7_infoOf_62 : decode cX7_infoOf 62 = .ok (.aload_n 0, 1) := by decide +kernel
theorem dX7_infoOf_63 : decode cX7_infoOf 63 = .ok (.getfield 22, 3) := by decide +kernel
theorem dX7_infoOf_66 : decode cX7_infoOf 66 = .ok (.iload_n 1, 1) := by decide +kernel
theorem dX7_infoOf_67 : decode cX7_infoOf 67 = .ok (.iaload, 1) := by decide +kernel
theorem dX7_infoOf_68 : decode cX7_infoOf 68 = .ok (.ireturn, 1) := by decide +kernel
theorem dX7_infoOf_69 : decode cX7_infoOf 69 = .ok (.aload_n 0, 1) := by decide +kernel
theorem dX7_infoOf_70 : decode cX7_infoOf 70 = .ok (.iload_n 1, 1) := by decide +kernel
theorem dX7_infoOf_71 : decode cX7_infoOf 71 = .ok (.invokevirtual 156, 3) := by decide +kernel
theorem dX7_infoOf_74 : decode cX7_infoOf 74 = .ok (.ireturn, 1) := by decide +kernel
theorem dX7_infoOf_75 : decode cX7_infoOf 75 = .ok (.aload_n 0, 1) := by decide +kernel
theorem dX7_infoOf_76 : decode cX7_infoOf 76 = .ok (.iload_n 1, 1) := by decide +kernel
theorem dX7_infoOf_77 : decode cX7_infoOf 77 = .ok (.invokevirtual 175, 3) := by decide +kernel
theorem dX7_infoOf_80 : decode cX7_infoOf 80 = .ok (.ireturn, 1) := by decide +kernel
theorem dX7_infoOf_81 : decode cX7_infoOf 81 = .ok (.aload_n 0, 1) := by decide +kernel
theorem dX7_infoOf_82 : decode cX7_infoOf 82 = .ok (.getfield 31, 3) := by decide +kernel
theorem dX7_infoOf_85 : decode cX7_infoOf 85 = .ok (.iload_n 1, 1) := by decide +kernel
theorem dX7_infoOf_86 : decode cX7_infoOf 86 = .ok (.iaload, 1) := by decide +kernel
theorem dX7_infoOf_87 : decode cX7_infoOf 87 = .ok (.ireturn, 1) := by decide +kernel
abbrev kX7_infoOf (g : rk_G) (R : rk_R) (pc : Nat) : rk_K := rk_cut g cX7_infoOf 3 (some .int) RX7 10 R pc
abbrev aX7_infoOf (g : rk_G) (R : rk_R) (pc : Nat) (K : rk_K) : Prop := rk_AK g cX7_infoOf 3 (some .int) RX7 10 R pc K
abbrev sX7_infoOf (g : rk_G) (vs : List Value) (σ : rk_M) (R : rk_R) : Prop := rk_does g yX7_infoOf cX7_infoOf 3 (some .int) 10 vs σ R
abbrev tX7_infoOf (g : rk_G) (R : rk_R) (pc : Nat) (ls st : List Value) (σ : rk_M) : Prop := rk_At g cX7_infoOf 3 (some .int) RX7 10 R pc ls st σ
def bX7_infoOf_44 (g : rk_G) (R : rk_R) : rk_K := (rk_aload 0 (rk_gR 7 4 (rk_ci (2) (rk_iload 1 (rk_imul (rk_iload 2 (rk_iadd (rk_iald (rk_iret R)))))))))
theorem eX7_infoOf_44 (g : rk_G) (R : rk_R) (ls st : List Value) (σ : rk_M) : bX7_infoOf_44 g R ls st σ = (rk_aload 0 (rk_gR 7 4 (rk_ci (2) (rk_iload 1 (rk_imul (rk_iload 2 (rk_iadd (rk_iald (rk_iret R))))))))) ls st σ := rfl
theorem oX7_infoOf_44 {g : rk_G} {R : rk_R} : aX7_infoOf g R 44 (bX7_infoOf_44 g R) := (rk_aload_n_ok dX7_infoOf_44 rfl (rk_gR_ok dX7_infoOf_45 rfl iX7 (by decide) rfl wfX7_16 (rk_iconst_ok dX7_infoOf_48 (by decide) (rk_iload_n_ok dX7_infoOf_49 rfl (rk_imul_ok dX7_infoOf_50 (rk_iload_n_ok dX7_infoOf_51 rfl (rk_iadd_ok dX7_infoOf_52 (rk_iald_ok dX7_infoOf_53 (rk_iret_ok rfl dX7_infoOf_54)))))))))
def bX7_infoOf_0 (g : rk_G) (R : rk_R) : rk_K := (rk_aload 0 (rk_cV g 0 7 yX7_finds cX7_finds 1 none 9 (rk_iload 2 (rk_sw 0 [(bX7_infoOf_44 g R), (bX7_infoOf_44 g R), (rk_aload 0 (rk_gR 7 5 (rk_iload 1 (rk_iald (rk_iret R))))), (rk_aload 0 (rk_gR 7 6 (rk_iload 1 (rk_iald (rk_iret R))))), (rk_aload 0 (rk_iload 1 (rk_cV g 1 7 yX7_length cX7_length 4 (some .int) 1 (rk_iret R)))), (rk_aload 0 (rk_iload 1 (rk_cV g 1 7 yX7_worth cX7_worth 4 (some .int) 2 (rk_iret R))))] (rk_aload 0 (rk_gR 7 12 (rk_iload 1 (rk_iald (rk_iret R)))))))))
theorem eX7_infoOf_0 (g : rk_G) (R : rk_R) (ls st : List Value) (σ : rk_M) : bX7_infoOf_0 g R ls st σ = (rk_aload 0 (rk_cV g 0 7 yX7_finds cX7_finds 1 none 9 (rk_iload 2 (rk_sw 0 [(bX7_infoOf_44 g R), (bX7_infoOf_44 g R), (rk_aload 0 (rk_gR 7 5 (rk_iload 1 (rk_iald (rk_iret R))))), (rk_aload 0 (rk_gR 7 6 (rk_iload 1 (rk_iald (rk_iret R))))), (rk_aload 0 (rk_iload 1 (rk_cV g 1 7 yX7_length cX7_length 4 (some .int) 1 (rk_iret R)))), (rk_aload 0 (rk_iload 1 (rk_cV g 1 7 yX7_worth cX7_worth 4 (some .int) 2 (rk_iret R))))] (rk_aload 0 (rk_gR 7 12 (rk_iload 1 (rk_iald (rk_iret R))))))))) ls st σ := rfl
theorem oX7_infoOf_0 {g : rk_G} {R : rk_R} : aX7_infoOf g R 0 (bX7_infoOf_0 g R) := (rk_aload_n_ok dX7_infoOf_0 rfl (rk_cV_ok dX7_infoOf_1 rfl rfl npX7_finds wmX7_191 wvX7_finds weX7_finds wiX7 wdX7_finds (by decide) (by decide) (rk_iload_n_ok dX7_infoOf_4 rfl (rk_table_ok (pc' := 81) (tg := [44, 44, 55, 62, 69, 75]) dX7_infoOf_5 rfl (by decide) rfl (by decide) (fun j t K ht hk => match j, t, K, ht, hk with | 0, _, _, ht, hk => by cases ht; cases hk; exact oX7_infoOf_44 | 1, _, _, ht, hk => by cases ht; cases hk; exact oX7_infoOf_44 | 2, _, _, ht, hk => by cases ht; cases hk; exact (rk_aload_n_ok dX7_infoOf_55 rfl (rk_gR_ok dX7_infoOf_56 rfl iX7 (by decide) rfl wfX7_19 (rk_iload_n_ok dX7_infoOf_59 rfl (rk_iald_ok dX7_infoOf_60 (rk_iret_ok rfl dX7_infoOf_61))))) | 3, _, _, ht, hk => by cases ht; cases hk; exact (rk_aload_n_ok dX7_infoOf_62 rfl (rk_gR_ok dX7_infoOf_63 rfl iX7 (by decide) rfl wfX7_22 (rk_iload_n_ok dX7_infoOf_66 rfl (rk_iald_ok dX7_infoOf_67 (rk_iret_ok rfl dX7_infoOf_68))))) | 4, _, _, ht, hk => by cases ht; cases hk; exact (rk_aload_n_ok dX7_infoOf_69 rfl (rk_iload_n_ok dX7_infoOf_70 rfl (rk_cV_ok dX7_infoOf_71 rfl rfl npX7_length wmX7_156 wvX7_length weX7_length wiX7 wdX7_length (by decide) (by decide) (rk_iret_ok rfl dX7_infoOf_74)))) | 5, _, _, ht, hk => by cases ht; cases hk; exact (rk_aload_n_ok dX7_infoOf_75 rfl (rk_iload_n_ok dX7_infoOf_76 rfl (rk_cV_ok dX7_infoOf_77 rfl rfl npX7_worth wmX7_175 wvX7_worth weX7_worth wiX7 wdX7_worth (by decide) (by decide) (rk_iret_ok rfl dX7_infoOf_80)))) | (j + 6), _, _, ht, hk => by cases ht) (rk_aload_n_ok dX7_infoOf_81 rfl (rk_gR_ok dX7_infoOf_82 rfl iX7 (by decide) rfl wfX7_31 (rk_iload_n_ok dX7_infoOf_85 rfl (rk_iald_ok dX7_infoOf_86 (rk_iret_ok rfl dX7_infoOf_87)))))))))
theorem dX7_joinedOf_0 : decode cX7_joinedOf 0 = .ok (.aload_n 0, 1) := by decide +kernel
theorem dX7_joinedOf_1 : decode cX7_joinedOf 1 = .ok (.invokevirtual 191, 3) := by decide +kernel
theorem dX7_joinedOf_4 : decode cX7_joinedOf 4 = .ok (.aload_n 0, 1) := by decide +kernel
theorem dX7_joinedOf_5 : decode cX7_joinedOf 5 = .ok (.iload_n 2, 1) := by decide +kernel
theorem dX7_joinedOf_6 : decode cX7_joinedOf 6 = .ok (.iload_n 1, 1) := by decide +kernel
theorem dX7_joinedOf_7 : decode cX7_joinedOf 7 = .ok (.invokevirtual 112, 3) := by decide +kernel
theorem dX7_joinedOf_10 : decode cX7_joinedOf 10 = .ok (.ifCond .eq 17, 3) := by decide +kernel
theorem dX7_joinedOf_13 : decode cX7_joinedOf 13 = .ok (.aload_n 0, 1) := by decide +kernel
theorem dX7_joinedOf_14 : decode cX7_joinedOf 14 = .ok (.getfield 28, 3) := by decide +kernel
theorem dX7_joinedOf_17 : decode cX7_joinedOf 17 = .ok (.aload_n 0, 1) := by decide +kernel
theorem dX7_joinedOf_18 : decode cX7_joinedOf 18 = .ok (.iload_n 2, 1) := by decide +kernel
theorem dX7_joinedOf_19 : decode cX7_joinedOf 19 = .ok (.iload_n 1, 1) := by decide +kernel
theorem dX7_joinedOf_20 : decode cX7_joinedOf 20 = .ok (.invokevirtual 141, 3) := by decide +kernel
theorem dX7_joinedOf_23 : decode cX7_joinedOf 23 = .ok (.iaload, 1) := by decide +kernel
theorem dX7_joinedOf_24 : decode cX7_joinedOf 24 = .ok (.goto 5, 3) := by decide +kernel
theorem dX7_joinedOf_27 : decode cX7_joinedOf 27 = .ok (.bipush (-3), 2) := by decide +kernel
theorem dX7_joinedOf_29 : decode cX7_joinedOf 29 = .ok (.ireturn, 1) := by decide +kernel
abbrev kX7_joinedOf (g : rk_G) (R : rk_R) (pc : Nat) : rk_K := rk_cut g cX7_joinedOf 3 (some .int) RX7 10 R pc
abbrev aX7_joinedOf (g : rk_G) (R : rk_R) (pc : Nat) (K : rk_K) : Prop := rk_AK g cX7_joinedOf 3 (some .int) RX7 10 R pc K
abbrev sX7_joinedOf (g : rk_G) (vs : List Value) (σ : rk_M) (R : rk_R) : Prop := rk_does g yX7_joinedOf cX7_joinedOf 3 (some .int) 10 vs σ R
abbrev tX7_joinedOf (g : rk_G) (R : rk_R) (pc : Nat) (ls st : List Value) (σ : rk_M) : Prop := rk_At g cX7_joinedOf 3 (some .int) RX7 10 R pc ls st σ
def bX7_joinedOf_29 (g : rk_G) (R : rk_R) : rk_K := (rk_iret R)
theorem eX7_joinedOf_29 (g : rk_G) (R : rk_R) (ls st : List Value) (σ : rk_M) : bX7_joinedOf_29 g R ls st σ = (rk_iret R) ls st σ := rfl
theorem oX7_joinedOf_29 {g : rk_G} {R : rk_R} : aX7_joinedOf g R 29 (bX7_joinedOf_29 g R) := (rk_iret_ok rfl dX7_joinedOf_29)
def bX7_joinedOf_0 (g : rk_G) (R : rk_R) : rk_K := (rk_aload 0 (rk_cV g 0 7 yX7_finds cX7_finds 1 none 9 (rk_aload 0 (rk_iload 2 (rk_iload 1 (rk_cV g 2 7 yX7_isAt cX7_isAt 3 (some .boolean) 0 (rk_if_eq (rk_ci (-3) (bX7_joinedOf_29 g R)) (rk_aload 0 (rk_gR 7 9 (rk_aload 0 (rk_iload 2 (rk_iload 1 (rk_cV g 2 7 yX7_endOf cX7_endOf 3 (some .int) 0 (rk_iald (bX7_joinedOf_29 g R)))))))))))))))
theorem eX7_joinedOf_0 (g : rk_G) (R : rk_R) (ls st : List Value) (σ : rk_M) : bX7_joinedOf_0 g R ls st σ = (rk_aload 0 (rk_cV g 0 7 yX7_finds cX7_finds 1 none 9 (rk_aload 0 (rk_iload 2 (rk_iload 1 (rk_cV g 2 7 yX7_isAt cX7_isAt 3 (some .boolean) 0 (rk_if_eq (rk_ci (-3) (bX7_joinedOf_29 g R)) (rk_aload 0 (rk_gR 7 9 (rk_aload 0 (rk_iload 2 (rk_iload 1 (rk_cV g 2 7 yX7_endOf cX7_endOf 3 (some .int) 0 (rk_iald (bX7_joinedOf_29 g R))))))))))))))) ls st σ := rfl
theorem oX7_joinedOf_0 {g : rk_G} {R : rk_R} : aX7_joinedOf g R 0 (bX7_joinedOf_0 g R) := (rk_aload_n_ok dX7_joinedOf_0 rfl (rk_cV_ok dX7_joinedOf_1 rfl rfl npX7_finds wmX7_191 wvX7_finds weX7_finds wiX7 wdX7_finds (by decide) (by decide) (rk_aload_n_ok dX7_joinedOf_4 rfl (rk_iload_n_ok dX7_joinedOf_5 rfl (rk_iload_n_ok dX7_joinedOf_6 rfl (rk_cV_ok dX7_joinedOf_7 rfl rfl npX7_isAt wmX7_112 wvX7_isAt weX7_isAt wiX7 wdX7_isAt (by decide) (by decide) (rk_if_eq_ok (pc' := 27) dX7_joinedOf_10 (by decide) (rk_bipush_ok dX7_joinedOf_27 (by decide) oX7_joinedOf_29) (rk_aload_n_ok dX7_joinedOf_13 rfl (rk_gR_ok dX7_joinedOf_14 rfl iX7 (by decide) rfl wfX7_28 (rk_aload_n_ok dX7_joinedOf_17 rfl (rk_iload_n_ok dX7_joinedOf_18 rfl (rk_iload_n_ok dX7_joinedOf_19 rfl (rk_cV_ok dX7_joinedOf_20 rfl rfl npX7_endOf wmX7_141 wvX7_endOf weX7_endOf wiX7 wdX7_endOf (by decide) (by decide) (rk_iald_ok dX7_joinedOf_23 (rk_goto_ok (pc' := 29) dX7_joinedOf_24 (by decide) oX7_joinedOf_29)))))))))))))))
theorem dX7_isStroke_0 : decode cX7_isStroke 0 = .ok (.aload_n 0, 1) := by decide +kernel
theorem dX7_isStroke_1 : decode cX7_isStroke 1 = .ok (.invokevirtual 191, 3) := by decide +kernel
theorem dX7_isStroke_4 : decode cX7_isStroke 4 = .ok (.iload_n 1, 1) := by decide +kernel
theorem dX7_isStroke_5 : decode cX7_isStroke 5 = .ok (.iconst 0, 1) := by decide +kernel
theorem dX7_isStroke_6 : decode cX7_isStroke 6 = .ok (.aload_n 0, 1) := by decide +kernel
theorem dX7_isStroke_7 : decode cX7_isStroke 7 = .ok (.getfield 165, 3) := by decide +kernel
theorem dX7_isStroke_10 : decode cX7_isStroke 10 = .ok (.iconst 1, 1) := by decide +kernel
theorem dX7_isStroke_11 : decode cX7_isStroke 11 = .ok (.isub, 1) := by decide +kernel
theorem dX7_isStroke_12 : decode cX7_isStroke 12 = .ok (.invokestatic 81, 3) := by decide +kernel
theorem dX7_isStroke_15 : decode cX7_isStroke 15 = .ok (.ireturn, 1) := by decide +kernel
abbrev kX7_isStroke (g : rk_G) (R : rk_R) (pc : Nat) : rk_K := rk_cut g cX7_isStroke 2 (some .boolean) RX7 10 R pc
abbrev aX7_isStroke (g : rk_G) (R : rk_R) (pc : Nat) (K : rk_K) : Prop := rk_AK g cX7_isStroke 2 (some .boolean) RX7 10 R pc K
abbrev sX7_isStroke (g : rk_G) (vs : List Value) (σ : rk_M) (R : rk_R) : Prop := rk_does g yX7_isStroke cX7_isStroke 2 (some .boolean) 10 vs σ R
abbrev tX7_isStroke (g : rk_G) (R : rk_R) (pc : Nat) (ls st : List Value) (σ : rk_M) : Prop := rk_At g cX7_isStroke 2 (some .boolean) RX7 10 R pc ls st σ
def bX7_isStroke_0 (g : rk_G) (R : rk_R) : rk_K := (rk_aload 0 (rk_cV g 0 7 yX7_finds cX7_finds 1 none 9 (rk_iload 1 (rk_ci (0) (rk_aload 0 (rk_gI 7 11 (rk_ci (1) (rk_isub (rk_cS g 3 yX7_in cX7_in 3 (some .boolean) 0 (rk_zret R))))))))))
theorem eX7_isStroke_0 (g : rk_G) (R : rk_R) (ls st : List Value) (σ : rk_M) : bX7_isStroke_0 g R ls st σ = (rk_aload 0 (rk_cV g 0 7 yX7_finds cX7_finds 1 none 9 (rk_iload 1 (rk_ci (0) (rk_aload 0 (rk_gI 7 11 (rk_ci (1) (rk_isub (rk_cS g 3 yX7_in cX7_in 3 (some .boolean) 0 (rk_zret R)))))))))) ls st σ := rfl
theorem oX7_isStroke_0 {g : rk_G} {R : rk_R} : aX7_isStroke g R 0 (bX7_isStroke_0 g R) := (rk_aload_n_ok dX7_isStroke_0 rfl (rk_cV_ok dX7_isStroke_1 rfl rfl npX7_finds wmX7_191 wvX7_finds weX7_finds wiX7 wdX7_finds (by decide) (by decide) (rk_iload_n_ok dX7_isStroke_4 rfl (rk_iconst_ok dX7_isStroke_5 (by decide) (rk_aload_n_ok dX7_isStroke_6 rfl (rk_gI_ok dX7_isStroke_7 rfl iX7 (by decide) rfl wfX7_165 (rk_iconst_ok dX7_isStroke_10 (by decide) (rk_isub_ok dX7_isStroke_11 (rk_cS_ok dX7_isStroke_12 npX7_in wmX7_81 wtX7_in wiX7 wdX7_in (by decide) (by decide) (rk_zret_ok rfl dX7_isStroke_15))))))))))
theorem dX7_rankFor_0 : decode cX7_rankFor 0 = .ok (.aload_n 0, 1) := by decide +kernel
theorem dX7_rankFor_1 : decode cX7_rankFor 1 = .ok (.invokevirtual 191, 3) := by decide +kernel
theorem dX7_rankFor_4 : decode cX7_rankFor 4 = .ok (.iconst 0, 1) := by decide +kernel
theorem dX7_rankFor_5 : decode cX7_rankFor 5 = .ok (.istore_n 3, 1) := by decide +kernel
theorem dX7_rankFor_6 : decode cX7_rankFor 6 = .ok (.iconst 0, 1) := by decide +kernel
theorem dX7_rankFor_7 : decode cX7_rankFor 7 = .ok (.istore 4, 2) := by decide +kernel
theorem dX7_rankFor_9 : decode cX7_rankFor 9 = .ok (.iload 4, 2) := by decide +kernel
theorem dX7_rankFor_11 : decode cX7_rankFor 11 = .ok (.iload_n 1, 1) := by decide +kernel
theorem dX7_rankFor_12 : decode cX7_rankFor 12 = .ok (.if_icmp .gt 32, 3) := by decide +kernel
theorem dX7_rankFor_15 : decode cX7_rankFor 15 = .ok (.iload_n 1, 1) := by decide +kernel
theorem dX7_rankFor_16 : decode cX7_rankFor 16 = .ok (.aload_n 0, 1) := by decide +kernel
theorem dX7_rankFor_17 : decode cX7_rankFor 17 = .ok (.getfield 165, 3) := by decide +kernel
theorem dX7_rankFor_20 : decode cX7_rankFor 20 = .ok (.if_icmp .ge 24, 3) := by decide +kernel
theorem dX7_rankFor_23 : decode cX7_rankFor 23 = .ok (.iload_n 3, 1) := by decide +kernel
theorem dX7_rankFor_24 : decode cX7_rankFor 24 = .ok (.aload_n 0, 1) := by decide +kernel
theorem dX7_rankFor_25 : decode cX7_rankFor 25 = .ok (.getfield 43, 3) := by decide +kernel
theorem dX7_rankFor_28 : decode cX7_rankFor 28 = .ok (.aload_n 0, 1) := by decide +kernel
theorem dX7_rankFor_29 : decode cX7_rankFor 29 = .ok (.getfield 49, 3) := by decide +kernel
theorem dX7_rankFor_32 : decode cX7_rankFor 32 = .ok (.iload 4, 2) := by decide +kernel
theorem dX7_rankFor_34 : decode cX7_rankFor 34 = .ok (.iaload, 1) := by decide +kernel
theorem dX7_rankFor_35 : decode cX7_rankFor 35 = .ok (.iaload, 1) := by decide +kernel
theorem dX7_rankFor_36 : decode cX7_rankFor 36 = .ok (.iadd, 1) := by decide +kernel
theorem dX7_rankFor_37 : decode cX7_rankFor 37 = .ok (.istore_n 3, 1) := by decide +kernel
theorem dX7_rankFor_38 : decode cX7_rankFor 38 = .ok (.iinc 4 1, 3) := by decide +kernel
theorem dX7_rankFor_41 : decode cX7_rankFor 41 = .ok (.goto (-32), 3) := by decide +kernel
theorem dX7_rankFor_44 : decode cX7_rankFor 44 = .ok (.iload_n 1, 1) := by decide +kernel
theorem dX7_rankFor_45 : decode cX7_rankFor 45 = .ok (.aload_n 0, 1) := by decide +kernel
theorem dX7_rankFor_46 : decode cX7_rankFor 46 = .ok (.getfield 165, 3) := by decide +kernel
theorem dX7_rankFor_49 : decode cX7_rankFor 49 = .ok (.if_icmp .lt 7, 3) := by decide +kernel
theorem dX7_rankFor_52 : decode cX7_rankFor 52 = .ok (.iconst (-1), 1) := by decide +kernel
theorem dX7_rankFor_53 : decode cX7_rankFor 53 = .ok (.goto 17, 3) := by decide +kernel
theorem dX7_rankFor_56 : decode cX7_rankFor 56 = .ok (.iload_n 2, 1) := by decide +kernel
theorem dX7_rankFor_57 : decode cX7_rankFor 57 = .ok (.ifCond .ne 12, 3) := by decide +kernel
theorem dX7_rankFor_60 : decode cX7_rankFor 60 = .ok (.aload_n 0, 1) := by decide +kernel
theorem dX7_rankFor_61 : decode cX7_rankFor 61 = .ok (.getfield 49, 3) := by decide +kernel
theorem dX7_rankFor_64 : decode cX7_rankFor 64 = .ok (.iload_n 1, 1) := by decide +kernel
theorem dX7_rankFor_65 : decode cX7_rankFor 65 = .ok (.iaload, 1) := by decide +kernel
theorem dX7_rankFor_66 : decode cX7_rankFor 66 = .ok (.goto 4, 3) := by decide +kernel
theorem dX7_rankFor_69 : decode cX7_rankFor 69 = .ok (.iload_n 3, 1) := by decide +kernel
theorem dX7_rankFor_70 : decode cX7_rankFor 70 = .ok (.ireturn, 1) := by decide +kernel
abbrev kX7_rankFor (g : rk_G) (R : rk_R) (pc : Nat) : rk_K := rk_cut g cX7_rankFor 5 (some .int) RX7 10 R pc
abbrev aX7_rankFor (g : rk_G) (R : rk_R) (pc : Nat) (K : rk_K) : Prop := rk_AK g cX7_rankFor 5 (some .int) RX7 10 R pc K
abbrev sX7_rankFor (g : rk_G) (vs : List Value) (σ : rk_M) (R : rk_R) : Prop := rk_does g yX7_rankFor cX7_rankFor 5 (some .int) 10 vs σ R
abbrev tX7_rankFor (g : rk_G) (R : rk_R) (pc : Nat) (ls st : List Value) (σ : rk_M) : Prop := rk_At g cX7_rankFor 5 (some .int) RX7 10 R pc ls st σ
def bX7_rankFor_70 (g : rk_G) (R : rk_R) : rk_K := (rk_iret R)
theorem eX7_rankFor_70 (g : rk_G) (R : rk_R) (ls st : List Value) (σ : rk_M) : bX7_rankFor_70 g R ls st σ = (rk_iret R) ls st σ := rfl
theorem oX7_rankFor_70 {g : rk_G} {R : rk_R} : aX7_rankFor g R 70 (bX7_rankFor_70 g R) := (rk_iret_ok rfl dX7_rankFor_70)
def bX7_rankFor_44 (g : rk_G) (R : rk_R) : rk_K := (rk_iload 1 (rk_aload 0 (rk_gI 7 11 (rk_icmp_lt (rk_iload 2 (rk_if_ne (rk_iload 3 (bX7_rankFor_70 g R)) (rk_aload 0 (rk_gR 7 20 (rk_iload 1 (rk_iald (bX7_rankFor_70 g R))))))) (rk_ci (-1) (bX7_rankFor_70 g R))))))
theorem eX7_rankFor_44 (g : rk_G) (R : rk_R) (ls st : List Value) (σ : rk_M) : bX7_rankFor_44 g R ls st σ = (rk_iload 1 (rk_aload 0 (rk_gI 7 11 (rk_icmp_lt (rk_iload 2 (rk_if_ne (rk_iload 3 (bX7_rankFor_70 g R)) (rk_aload 0 (rk_gR 7 20 (rk_iload 1 (rk_iald (bX7_rankFor_70 g R))))))) (rk_ci (-1) (bX7_rankFor_70 g R)))))) ls st σ := rfl
theorem oX7_rankFor_44 {g : rk_G} {R : rk_R} : aX7_rankFor g R 44 (bX7_rankFor_44 g R) := (rk_iload_n_ok dX7_rankFor_44 rfl (rk_aload_n_ok dX7_rankFor_45 rfl (rk_gI_ok dX7_rankFor_46 rfl iX7 (by decide) rfl wfX7_165 (rk_icmp_lt_ok (pc' := 56) dX7_rankFor_49 (by decide) (rk_iload_n_ok dX7_rankFor_56 rfl (rk_if_ne_ok (pc' := 69) dX7_rankFor_57 (by decide) (rk_iload_n_ok dX7_rankFor_69 rfl oX7_rankFor_70) (rk_aload_n_ok dX7_rankFor_60 rfl (rk_gR_ok dX7_rankFor_61 rfl iX7 (by decide) rfl wfX7_49 (rk_iload_n_ok dX7_rankFor_64 rfl (rk_iald_ok dX7_rankFor_65 (rk_goto_ok (pc' := 70) dX7_rankFor_66 (by decide) oX7_rankFor_70))))))) (rk_iconst_ok dX7_rankFor_52 (by decide) (rk_goto_ok (pc' := 70) dX7_rankFor_53 (by decide) oX7_rankFor_70))))))
def bX7_rankFor_9 (g : rk_G) (R : rk_R) : rk_K := (rk_iload 4 (rk_iload 1 (rk_icmp_gt (bX7_rankFor_44 g R) (rk_iload 1 (rk_aload 0 (rk_gI 7 11 (rk_icmp_ge (bX7_rankFor_44 g R) (rk_iload 3 (rk_aload 0 (rk_gR 7 16 (rk_aload 0 (rk_gR 7 20 (rk_iload 4 (rk_iald (rk_iald (rk_iadd (rk_istore 3 (rk_iinc 4 (1) (kX7_rankFor g R 9)))))))))))))))))))
theorem eX7_rankFor_9 (g : rk_G) (R : rk_R) (ls st : List Value) (σ : rk_M) : bX7_rankFor_9 g R ls st σ = (rk_iload 4 (rk_iload 1 (rk_icmp_gt (bX7_rankFor_44 g R) (rk_iload 1 (rk_aload 0 (rk_gI 7 11 (rk_icmp_ge (bX7_rankFor_44 g R) (rk_iload 3 (rk_aload 0 (rk_gR 7 16 (rk_aload 0 (rk_gR 7 20 (rk_iload 4 (rk_iald (rk_iald (rk_iadd (rk_istore 3 (rk_iinc 4 (1) (kX7_rankFor g R 9))))))))))))))))))) ls st σ := rfl
theorem oX7_rankFor_9 {g : rk_G} {R : rk_R} : aX7_rankFor g R 9 (bX7_rankFor_9 g R) := (rk_iload_ok dX7_rankFor_9 (rk_iload_n_ok dX7_rankFor_11 rfl (rk_icmp_gt_ok (pc' := 44) dX7_rankFor_12 (by decide) oX7_rankFor_44 (rk_iload_n_ok dX7_rankFor_15 rfl (rk_aload_n_ok dX7_rankFor_16 rfl (rk_gI_ok dX7_rankFor_17 rfl iX7 (by decide) rfl wfX7_165 (rk_icmp_ge_ok (pc' := 44) dX7_rankFor_20 (by decide) oX7_rankFor_44 (rk_iload_n_ok dX7_rankFor_23 rfl (rk_aload_n_ok dX7_rankFor_24 rfl (rk_gR_ok dX7_rankFor_25 rfl iX7 (by decide) rfl wfX7_43 (rk_aload_n_ok dX7_rankFor_28 rfl (rk_gR_ok dX7_rankFor_29 rfl iX7 (by decide) rfl wfX7_49 (rk_iload_ok dX7_rankFor_32 (rk_iald_ok dX7_rankFor_34 (rk_iald_ok dX7_rankFor_35 (rk_iadd_ok dX7_rankFor_36 (rk_istore_n_ok dX7_rankFor_37 rfl (by decide) (rk_iinc_ok dX7_rankFor_38 (by decide) (by decide) (rk_goto_ok (pc' := 9) dX7_rankFor_41 (by decide) rk_cut_ok)))))))))))))))))))
def bX7_rankFor_0 (g : rk_G) (R : rk_R) : rk_K := (rk_aload 0 (rk_cV g 0 7 yX7_finds cX7_finds 1 none 9 (rk_ci (0) (rk_istore 3 (rk_ci (0) (rk_istore 4 (kX7_rankFor g R 9)))))))
theorem eX7_rankFor_0 (g : rk_G) (R : rk_R) (ls st : List Value) (σ : rk_M) : bX7_rankFor_0 g R ls st σ = (rk_aload 0 (rk_cV g 0 7 yX7_finds cX7_finds 1 none 9 (rk_ci (0) (rk_istore 3 (rk_ci (0) (rk_istore 4 (kX7_rankFor g R 9))))))) ls st σ := rfl
theorem oX7_rankFor_0 {g : rk_G} {R : rk_R} : aX7_rankFor g R 0 (bX7_rankFor_0 g R) := (rk_aload_n_ok dX7_rankFor_0 rfl (rk_cV_ok dX7_rankFor_1 rfl rfl npX7_finds wmX7_191 wvX7_finds weX7_finds wiX7 wdX7_finds (by decide) (by decide) (rk_iconst_ok dX7_rankFor_4 (by decide) (rk_istore_n_ok dX7_rankFor_5 rfl (by decide) (rk_iconst_ok dX7_rankFor_6 (by decide) (rk_istore_ok dX7_rankFor_7 (by decide) rk_cut_ok))))))
theorem dX7_isNet_0 : decode cX7_isNet 0 = .ok (.aload_n 0, 1) := by decide +kernel
theorem dX7_isNet_1 : decode cX7_isNet 1 = .ok (.invokevirtual 191, 3) := by decide +kernel
theorem dX7_isNet_4 : decode cX7_isNet 4 = .ok (.iload_n 1, 1) := by decide +kernel
theorem dX7_isNet_5 : decode cX7_isNet 5 = .ok (.iconst 0, 1) := by decide +kernel
theorem dX7_isNet_6 : decode cX7_isNet 6 = .ok (.aload_n 0, 1) := by decide +kernel
theorem dX7_isNet_7 : decode cX7_isNet 7 = .ok (.getfield 165, 3) := by decide +kernel
theorem dX7_isNet_10 : decode cX7_isNet 10 = .ok (.invokestatic 81, 3) := by decide +kernel
theorem dX7_isNet_13 : decode cX7_isNet 13 = .ok (.ireturn, 1) := by decide +kernel
abbrev kX7_isNet (g : rk_G) (R : rk_R) (pc : Nat) : rk_K := rk_cut g cX7_isNet 2 (some .boolean) RX7 10 R pc
abbrev aX7_isNet (g : rk_G) (R : rk_R) (pc : Nat) (K : rk_K) : Prop := rk_AK g cX7_isNet 2 (some .boolean) RX7 10 R pc K
abbrev sX7_isNet (g : rk_G) (vs : List Value) (σ : rk_M) (R : rk_R) : Prop := rk_does g yX7_isNet cX7_isNet 2 (some .boolean) 10 vs σ R
abbrev tX7_isNet (g : rk_G) (R : rk_R) (pc : Nat) (ls st : List Value) (σ : rk_M) : Prop := rk_At g cX7_isNet 2 (some .boolean) RX7 10 R pc ls st σ
def bX7_isNet_0 (g : rk_G) (R : rk_R) : rk_K := (rk_aload 0 (rk_cV g 0 7 yX7_finds cX7_finds 1 none 9 (rk_iload 1 (rk_ci (0) (rk_aload 0 (rk_gI 7 11 (rk_cS g 3 yX7_in cX7_in 3 (some .boolean) 0 (rk_zret R))))))))
theorem eX7_isNet_0 (g : rk_G) (R : rk_R) (ls st : List Value) (σ : rk_M) : bX7_isNet_0 g R ls st σ = (rk_aload 0 (rk_cV g 0 7 yX7_finds cX7_finds 1 none 9 (rk_iload 1 (rk_ci (0) (rk_aload 0 (rk_gI 7 11 (rk_cS g 3 yX7_in cX7_in 3 (some .boolean) 0 (rk_zret R)))))))) ls st σ := rfl
theorem oX7_isNet_0 {g : rk_G} {R : rk_R} : aX7_isNet g R 0 (bX7_isNet_0 g R) := (rk_aload_n_ok dX7_isNet_0 rfl (rk_cV_ok dX7_isNet_1 rfl rfl npX7_finds wmX7_191 wvX7_finds weX7_finds wiX7 wdX7_finds (by decide) (by decide) (rk_iload_n_ok dX7_isNet_4 rfl (rk_iconst_ok dX7_isNet_5 (by decide) (rk_aload_n_ok dX7_isNet_6 rfl (rk_gI_ok dX7_isNet_7 rfl iX7 (by decide) rfl wfX7_165 (rk_cS_ok dX7_isNet_10 npX7_in wmX7_81 wtX7_in wiX7 wdX7_in (by decide) (by decide) (rk_zret_ok rfl dX7_isNet_13))))))))
theorem dX7_useful_0 : decode cX7_useful 0 = .ok (.iload_n 1, 1) := by decide +kernel
theorem dX7_useful_1 : decode cX7_useful 1 = .ok (.iconst 0, 1) := by decide +kernel
theorem dX7_useful_2 : decode cX7_useful 2 = .ok (.iconst 1, 1) := by decide +kernel
theorem dX7_useful_3 : decode cX7_useful 3 = .ok (.invokestatic 81, 3) := by decide +kernel
theorem dX7_useful_6 : decode cX7_useful 6 = .ok (.ifCond .eq 11, 3) := by decide +kernel
theorem dX7_useful_9 : decode cX7_useful 9 = .ok (.aload_n 0, 1) := by decide +kernel
theorem dX7_useful_10 : decode cX7_useful 10 = .ok (.iload_n 1, 1) := by decide +kernel
theorem dX7_useful_11 : decode cX7_useful 11 = .ok (.invokevirtual 268, 3) := by decide +kernel
theorem dX7_useful_14 : decode cX7_useful 14 = .ok (.goto 5, 3) := by decide +kernel
theorem dX7_useful_17 : decode cX7_useful 17 = .ok (.bipush (-2), 2) := by decide +kernel
theorem dX7_useful_19 : decode cX7_useful 19 = .ok (.ireturn, 1) := by decide +kernel
abbrev kX7_useful (g : rk_G) (R : rk_R) (pc : Nat) : rk_K := rk_cut g cX7_useful 2 (some .int) RX7 10 R pc
abbrev aX7_useful (g : rk_G) (R : rk_R) (pc : Nat) (K : rk_K) : Prop := rk_AK g cX7_useful 2 (some .int) RX7 10 R pc K
abbrev sX7_useful (g : rk_G) (vs : List Value) (σ : rk_M) (R : rk_R) : Prop := rk_does g yX7_useful cX7_useful 2 (some .int) 10 vs σ R
abbrev tX7_useful (g : rk_G) (R : rk_R) (pc : Nat) (ls st : List Value) (σ : rk_M) : Prop := rk_At g cX7_useful 2 (some .int) RX7 10 R pc ls st σ
def bX7_useful_19 (g : rk_G) (R : rk_R) : rk_K := (rk_iret R)
theorem eX7_useful_19 (g : rk_G) (R : rk_R) (ls st : List Value) (σ : rk_M) : bX7_useful_19 g R ls st σ = (rk_iret R) ls st σ := rfl
theorem oX7_useful_19 {g : rk_G} {R : rk_R} : aX7_useful g R 19 (bX7_useful_19 g R) := (rk_iret_ok rfl dX7_useful_19)
def bX7_useful_0 (g : rk_G) (R : rk_R) : rk_K := (rk_iload 1 (rk_ci (0) (rk_ci (1) (rk_cS g 3 yX7_in cX7_in 3 (some .boolean) 0 (rk_if_eq (rk_ci (-2) (bX7_useful_19 g R)) (rk_aload 0 (rk_iload 1 (rk_cV g 1 7 yX7_usefulOf cX7_usefulOf 6 (some .int) 9 (bX7_useful_19 g R)))))))))
theorem eX7_useful_0 (g : rk_G) (R : rk_R) (ls st : List Value) (σ : rk_M) : bX7_useful_0 g R ls st σ = (rk_iload 1 (rk_ci (0) (rk_ci (1) (rk_cS g 3 yX7_in cX7_in 3 (some .boolean) 0 (rk_if_eq (rk_ci (-2) (bX7_useful_19 g R)) (rk_aload 0 (rk_iload 1 (rk_cV g 1 7 yX7_usefulOf cX7_usefulOf 6 (some .int) 9 (bX7_useful_19 g R))))))))) ls st σ := rfl
theorem oX7_useful_0 {g : rk_G} {R : rk_R} : aX7_useful g R 0 (bX7_useful_0 g R) := (rk_iload_n_ok dX7_useful_0 rfl (rk_iconst_ok dX7_useful_1 (by decide) (rk_iconst_ok dX7_useful_2 (by decide) (rk_cS_ok dX7_useful_3 npX7_in wmX7_81 wtX7_in wiX7 wdX7_in (by decide) (by decide) (rk_if_eq_ok (pc' := 17) dX7_useful_6 (by decide) (rk_bipush_ok dX7_useful_17 (by decide) oX7_useful_19) (rk_aload_n_ok dX7_useful_9 rfl (rk_iload_n_ok dX7_useful_10 rfl (rk_cV_ok dX7_useful_11 rfl rfl npX7_usefulOf wmX7_268 wvX7_usefulOf weX7_usefulOf wiX7 wdX7_usefulOf (by decide) (by decide) (rk_goto_ok (pc' := 19) dX7_useful_14 (by decide) oX7_useful_19)))))))))
theorem dX7_write_0 : decode cX7_write 0 = .ok (.iload_n 1, 1) := by decide +kernel
theorem dX7_write_1 : decode cX7_write 1 = .ok (.invokestatic 105, 3) := by decide +kernel
theorem dX7_write_4 : decode cX7_write 4 = .ok (.ifCond .ne 6, 3) := by decide +kernel
theorem dX7_write_7 : decode cX7_write 7 = .ok (.bipush (-2), 2) := by decide +kernel
theorem dX7_write_9 : decode cX7_write 9 = .ok (.ireturn, 1) := by decide +kernel
theorem dX7_write_10 : decode cX7_write 10 = .ok (.aload_n 0, 1) := by decide +kernel
theorem dX7_write_11 : decode cX7_write 11 = .ok (.getfield 61, 3) := by decide +kernel
theorem dX7_write_14 : decode cX7_write 14 = .ok (.iload_n 1, 1) := by decide +kernel
theorem dX7_write_15 : decode cX7_write 15 = .ok (.baload, 1) := by decide +kernel
theorem dX7_write_16 : decode cX7_write 16 = .ok (.ifCond .ne 9, 3) := by decide +kernel
theorem dX7_write_19 : decode cX7_write 19 = .ok (.aload_n 0, 1) := by decide +kernel
theorem dX7_write_20 : decode cX7_write 20 = .ok (.iconst 1, 1) := by decide +kernel
theorem dX7_write_21 : decode cX7_write 21 = .ok (.invokevirtual 108, 3) := by decide +kernel
theorem dX7_write_24 : decode cX7_write 24 = .ok (.ireturn, 1) := by decide +kernel
theorem dX7_write_25 : decode cX7_write 25 = .ok (.aload_n 0, 1) := by decide +kernel
theorem dX7_write_26 : decode cX7_write 26 = .ok (.invokevirtual 191, 3) := by decide +kernel
theorem dX7_write_29 : decode cX7_write 29 = .ok (.iconst 0, 1) := by decide +kernel
theorem dX7_write_30 : decode cX7_write 30 = .ok (.istore_n 2, 1) := by decide +kernel
theorem dX7_write_31 : decode cX7_write 31 = .ok (.iload_n 2, 1) := by decide +kernel
theorem dX7_write_32 : decode cX7_write 32 = .ok (.aload_n 0, 1) := by decide +kernel
theorem dX7_write_33 : decode cX7_write 33 = .ok (.getfield 68, 3) := by decide +kernel
theorem dX7_write_36 : decode cX7_write 36 = .ok (.iload_n 1, 1) := by decide +kernel
theorem dX7_write_37 : decode cX7_write 37 = .ok (.iaload, 1) := by decide +kernel
theorem dX7_write_38 : decode cX7_write 38 = .ok (.if_icmp .ge 29, 3) := by decide +kernel
theorem dX7_write_41 : decode cX7_write 41 = .ok (.iload_n 2, 1) := by decide +kernel
theorem dX7_write_42 : decode cX7_write 42 = .ok (.aload_n 0, 1) := by decide +kernel
theorem dX7_write_43 : decode cX7_write 43 = .ok (.getfield 165, 3) := by decide +kernel
theorem dX7_write_46 : decode cX7_write 46 = .ok (.if_icmp .ge 21, 3) := by decide +kernel
theorem dX7_write_49 : decode cX7_write 49 = .ok (.aload_n 0, 1) := by decide +kernel
theorem dX7_write_50 : decode cX7_write 50 = .ok (.iload_n 1, 1) := by decide +kernel
theorem dX7_write_51 : decode cX7_write 51 = .ok (.iload_n 2, 1) := by decide +kernel
theorem dX7_write_52 : decode cX7_write 52 = .ok (.aload_n 0, 1) := by decide +kernel
theorem dX7_write_53 : decode cX7_write 53 = .ok (.getfield 49, 3) := by decide +kernel
theorem dX7_write_56 : decode cX7_write 56 = .ok (.iload_n 2, 1) := by decide +kernel
theorem dX7_write_57 : decode cX7_write 57 = .ok (.iaload, 1) := by decide +kernel
theorem dX7_write_58 : decode cX7_write 58 = .ok (.invokevirtual 277, 3) := by decide +kernel
theorem dX7_write_61 : decode cX7_write 61 = .ok (.iinc 2 1, 3) := by decide +kernel
theorem dX7_write_64 : decode cX7_write 64 = .ok (.goto (-33), 3) := by decide +kernel
theorem dX7_write_67 : decode cX7_write 67 = .ok (.iload_n 2, 1) := by decide +kernel
theorem dX7_write_68 : decode cX7_write 68 = .ok (.ireturn, 1) := by decide +kernel
abbrev kX7_write (g : rk_G) (R : rk_R) (pc : Nat) : rk_K := rk_cut g cX7_write 3 (some .int) RX7 10 R pc
abbrev aX7_write (g : rk_G) (R : rk_R) (pc : Nat) (K : rk_K) : Prop := rk_AK g cX7_write 3 (some .int) RX7 10 R pc K
abbrev sX7_write (g : rk_G) (vs : List Value) (σ : rk_M) (R : rk_R) : Prop := rk_does g yX7_write cX7_write 3 (some .int) 10 vs σ R
abbrev tX7_write (g : rk_G) (R : rk_R) (pc : Nat) (ls st : List Value) (σ : rk_M) : Prop := rk_At g cX7_write 3 (some .int) RX7 10 R pc ls st σ
def bX7_write_67 (g : rk_G) (R : rk_R) : rk_K := (rk_iload 2 (rk_iret R))
theorem eX7_write_67 (g : rk_G) (R : rk_R) (ls st : List Value) (σ : rk_M) : bX7_write_67 g R ls st σ = (rk_iload 2 (rk_iret R)) ls st σ := rfl
theorem oX7_write_67 {g : rk_G} {R : rk_R} : aX7_write g R 67 (bX7_write_67 g R) := (rk_iload_n_ok dX7_write_67 rfl (rk_iret_ok rfl dX7_write_68))
def bX7_write_31 (g : rk_G) (R : rk_R) : rk_K := (rk_iload 2 (rk_aload 0 (rk_gR 7 29 (rk_iload 1 (rk_iald (rk_icmp_ge (bX7_write_67 g R) (rk_iload 2 (rk_aload 0 (rk_gI 7 11 (rk_icmp_ge (bX7_write_67 g R) (rk_aload 0 (rk_iload 1 (rk_iload 2 (rk_aload 0 (rk_gR 7 20 (rk_iload 2 (rk_iald (rk_cV g 3 7 yX7_keep cX7_keep 4 none 0 (rk_iinc 2 (1) (kX7_write g R 31))))))))))))))))))))
theorem eX7_write_31 (g : rk_G) (R : rk_R) (ls st : List Value) (σ : rk_M) : bX7_write_31 g R ls st σ = (rk_iload 2 (rk_aload 0 (rk_gR 7 29 (rk_iload 1 (rk_iald (rk_icmp_ge (bX7_write_67 g R) (rk_iload 2 (rk_aload 0 (rk_gI 7 11 (rk_icmp_ge (bX7_write_67 g R) (rk_aload 0 (rk_iload 1 (rk_iload 2 (rk_aload 0 (rk_gR 7 20 (rk_iload 2 (rk_iald (rk_cV g 3 7 yX7_keep cX7_keep 4 none 0 (rk_iinc 2 (1) (kX7_write g R 31)))))))))))))))))))) ls st σ := rfl
theorem oX7_write_31 {g : rk_G} {R : rk_R} : aX7_write g R 31 (bX7_write_31 g R) := (rk_iload_n_ok dX7_write_31 rfl (rk_aload_n_ok dX7_write_32 rfl (rk_gR_ok dX7_write_33 rfl iX7 (by decide) rfl wfX7_68 (rk_iload_n_ok dX7_write_36 rfl (rk_iald_ok dX7_write_37 (rk_icmp_ge_ok (pc' := 67) dX7_write_38 (by decide) oX7_write_67 (rk_iload_n_ok dX7_write_41 rfl (rk_aload_n_ok dX7_write_42 rfl (rk_gI_ok dX7_write_43 rfl iX7 (by decide) rfl wfX7_165 (rk_icmp_ge_ok (pc' := 67) dX7_write_46 (by decide) oX7_write_67 (rk_aload_n_ok dX7_write_49 rfl (rk_iload_n_ok dX7_write_50 rfl (rk_iload_n_ok dX7_write_51 rfl (rk_aload_n_ok dX7_write_52 rfl (rk_gR_ok dX7_write_53 rfl iX7 (by decide) rfl wfX7_49 (rk_iload_n_ok dX7_write_56 rfl (rk_iald_ok dX7_write_57 (rk_cV_ok dX7_write_58 rfl rfl npX7_keep wmX7_277 wvX7_keep weX7_keep wiX7 wdX7_keep (by decide) (by decide) (rk_iinc_ok dX7_write_61 (by decide) (by decide) (rk_goto_ok (pc' := 31) dX7_write_64 (by decide) rk_cut_ok))))))))))))))))))))
def bX7_write_0 (g : rk_G) (R : rk_R) : rk_K := (rk_iload 1 (rk_cS g 1 yX7_isSheet cX7_isSheet 1 (some .boolean) 1 (rk_if_ne (rk_aload 0 (rk_gR 7 27 (rk_iload 1 (rk_zald (rk_if_ne (rk_aload 0 (rk_cV g 0 7 yX7_finds cX7_finds 1 none 9 (rk_ci (0) (rk_istore 2 (kX7_write g R 31))))) (rk_aload 0 (rk_ci (1) (rk_cV g 1 7 yX7_meets cX7_meets 2 (some .int) 0 (rk_iret R))))))))) (rk_ci (-2) (rk_iret R)))))
theorem eX7_write_0 (g : rk_G) (R : rk_R) (ls st : List Value) (σ : rk_M) : bX7_write_0 g R ls st σ = (rk_iload 1 (rk_cS g 1 yX7_isSheet cX7_isSheet 1 (some .boolean) 1 (rk_if_ne (rk_aload 0 (rk_gR 7 27 (rk_iload 1 (rk_zald (rk_if_ne (rk_aload 0 (rk_cV g 0 7 yX7_finds cX7_finds 1 none 9 (rk_ci (0) (rk_istore 2 (kX7_write g R 31))))) (rk_aload 0 (rk_ci (1) (rk_cV g 1 7 yX7_meets cX7_meets 2 (some .int) 0 (rk_iret R))))))))) (rk_ci (-2) (rk_iret R))))) ls st σ := rfl
theorem oX7_write_0 {g : rk_G} {R : rk_R} : aX7_write g R 0 (bX7_write_0 g R) := (rk_iload_n_ok dX7_write_0 rfl (rk_cS_ok dX7_write_1 npX7_isSheet wmX7_105 wtX7_isSheet wiX7 wdX7_isSheet (by decide) (by decide) (rk_if_ne_ok (pc' := 10) dX7_write_4 (by decide) (rk_aload_n_ok dX7_write_10 rfl (rk_gR_ok dX7_write_11 rfl iX7 (by decide) rfl wfX7_61 (rk_iload_n_ok dX7_write_14 rfl (rk_zald_ok dX7_write_15 (rk_if_ne_ok (pc' := 25) dX7_write_16 (by decide) (rk_aload_n_ok dX7_write_25 rfl (rk_cV_ok dX7_write_26 rfl rfl npX7_finds wmX7_191 wvX7_finds weX7_finds wiX7 wdX7_finds (by decide) (by decide) (rk_iconst_ok dX7_write_29 (by decide) (rk_istore_n_ok dX7_write_30 rfl (by decide) rk_cut_ok)))) (rk_aload_n_ok dX7_write_19 rfl (rk_iconst_ok dX7_write_20 (by decide) (rk_cV_ok dX7_write_21 rfl rfl npX7_meets wmX7_108 wvX7_meets weX7_meets wiX7 wdX7_meets (by decide) (by decide) (rk_iret_ok rfl dX7_write_24))))))))) (rk_bipush_ok dX7_write_7 (by decide) (rk_iret_ok rfl dX7_write_9)))))
theorem dX7_sumOf_0 : decode cX7_sumOf 0 = .ok (.aload_n 0, 1) := by decide +kernel
theorem dX7_sumOf_1 : decode cX7_sumOf 1 = .ok (.invokevirtual 191, 3) := by decide +kernel
theorem dX7_sumOf_4 : decode cX7_sumOf 4 = .ok (.iconst 0, 1) := by decide +kernel
theorem dX7_sumOf_5 : decode cX7_sumOf 5 = .ok (.istore_n 2, 1) := by decide +kernel
theorem dX7_sumOf_6 : decode cX7_sumOf 6 = .ok (.iconst 0, 1) := by decide +kernel
theorem dX7_sumOf_7 : decode cX7_sumOf 7 = .ok (.istore_n 3, 1) := by decide +kernel
theorem dX7_sumOf_8 : decode cX7_sumOf 8 = .ok (.iconst 0, 1) := by decide +kernel
theorem dX7_sumOf_9 : decode cX7_sumOf 9 = .ok (.istore 4, 2) := by decide +kernel
theorem dX7_sumOf_11 : decode cX7_sumOf 11 = .ok (.iconst 0, 1) := by decide +kernel
theorem dX7_sumOf_12 : decode cX7_sumOf 12 = .ok (.istore 5, 2) := by decide +kernel
theorem dX7_sumOf_14 : decode cX7_sumOf 14 = .ok (.iload 5, 2) := by decide +kernel
theorem dX7_sumOf_16 : decode cX7_sumOf 16 = .ok (.aload_n 0, 1) := by decide +kernel
theorem dX7_sumOf_17 : decode cX7_sumOf 17 = .ok (.getfield 165, 3) := by decide +kernel
theorem dX7_sumOf_20 : decode cX7_sumOf 20 = .ok (.if_icmp .ge 41, 3) := by decide +kernel
theorem dX7_sumOf_23 : decode cX7_sumOf 23 = .ok (.iload_n 2, 1) := by decide +kernel
theorem dX7_sumOf_24 : decode cX7_sumOf 24 = .ok (.aload_n 0, 1) := by decide +kernel
theorem dX7_sumOf_25 : decode cX7_sumOf 25 = .ok (.getfield 40, 3) := by decide +kernel
theorem dX7_sumOf_28 : decode cX7_sumOf 28 = .ok (.iload 5, 2) := by decide +kernel
theorem dX7_sumOf_30 : decode cX7_sumOf 30 = .ok (.iaload, 1) := by decide +kernel
theorem dX7_sumOf_31 : decode cX7_sumOf 31 = .ok (.iadd, 1) := by decide +kernel
theorem dX7_sumOf_32 : decode cX7_sumOf 32 = .ok (.istore_n 2, 1) := by decide +kernel
theorem dX7_sumOf_33 : decode cX7_sumOf 33 = .ok (.iload_n 3, 1) := by decide +kernel
theorem dX7_sumOf_34 : decode cX7_sumOf 34 = .ok (.aload_n 0, 1) := by decide +kernel
theorem dX7_sumOf_35 : decode cX7_sumOf 35 = .ok (.getfield 46, 3) := by decide +kernel
theorem dX7_sumOf_38 : decode cX7_sumOf 38 = .ok (.iload 5, 2) := by decide +kernel
theorem dX7_sumOf_40 : decode cX7_sumOf 40 = .ok (.iaload, 1) := by decide +kernel
theorem dX7_sumOf_41 : decode cX7_sumOf 41 = .ok (.iadd, 1) := by decide +kernel
theorem dX7_sumOf_42 : decode cX7_sumOf 42 = .ok (.istore_n 3, 1) := by decide +kernel
theorem dX7_sumOf_43 : decode cX7_sumOf 43 = .ok (.iload 4, 2) := by decide +kernel
theorem dX7_sumOf_45 : decode cX7_sumOf 45 = .ok (.aload_n 0, 1) := by decide +kernel
theorem dX7_sumOf_46 : decode cX7_sumOf 46 = .ok (.getfield 43, 3) := by decide +kernel
theorem dX7_sumOf_49 : decode cX7_sumOf 49 = .ok (.iload 5, 2) := by decide +kernel
theorem dX7_sumOf_51 : decode cX7_sumOf 51 = .ok (.iaload, 1) := by decide +kernel
theorem dX7_sumOf_52 : decode cX7_sumOf 52 = .ok (.iadd, 1) := by decide +kernel
theorem dX7_sumOf_53 : decode cX7_sumOf 53 = .ok (.istore 4, 2) := by decide +kernel
theorem dX7_sumOf_55 : decode cX7_sumOf 55 = .ok (.iinc 5 1, 3) := by decide +kernel
theorem dX7_sumOf_58 : decode cX7_sumOf 58 = .ok (.goto (-44), 3) := by decide +kernel
theorem dX7_sumOf_61 : decode cX7_sumOf 61 = .ok (.iload_n 1, 1) := by decide +kernel
theorem dX7_sumOf_62 : decode cX7_sumOf 62 = .ok (.iconst 2, 1) := by decide +kernel
theorem dX7_sumOf_63 : decode cX7_sumOf 63 = .ok (.if_icmp .ne 10, 3) := by decide +kernel
theorem dX7_sumOf_66 : decode cX7_sumOf 66 = .ok (.aload_n 0, 1) := by decide +kernel
theorem dX7_sumOf_67 : decode cX7_sumOf 67 = .ok (.getfield 165, 3) := by decide +kernel
theorem dX7_sumOf_70 : decode cX7_sumOf 70 = .ok (.goto 48, 3) := by decide +kernel
theorem dX7_sumOf_73 : decode cX7_sumOf 73 = .ok (.iload_n 1, 1) := by decide +kernel
theorem dX7_sumOf_74 : decode cX7_sumOf 74 = .ok (.iconst 3, 1) := by decide +kernel
theorem dX7_sumOf_75 : decode cX7_sumOf 75 = .ok (.if_icmp .ne 10, 3) := by decide +kernel
theorem dX7_sumOf_78 : decode cX7_sumOf 78 = .ok (.aload_n 0, 1) := by decide +kernel
theorem dX7_sumOf_79 : decode cX7_sumOf 79 = .ok (.getfield 181, 3) := by decide +kernel
theorem dX7_sumOf_82 : decode cX7_sumOf 82 = .ok (.goto 36, 3) := by decide +kernel
theorem dX7_sumOf_85 : decode cX7_sumOf 85 = .ok (.iload_n 1, 1) := by decide +kernel
theorem dX7_sumOf_86 : decode cX7_sumOf 86 = .ok (.iconst 4, 1) := by decide +kernel
theorem dX7_sumOf_87 : decode cX7_sumOf 87 = .ok (.if_icmp .ne 7, 3) := by decide +kernel
theorem dX7_sumOf_90 : decode cX7_sumOf 90 = .ok (.iload_n 2, 1) := by decide +kernel
theorem dX7_sumOf_91 : decode cX7_sumOf 91 = .ok (.goto 27, 3) := by decide +kernel
theorem dX7_sumOf_94 : decode cX7_sumOf 94 = .ok (.iload_n 1, 1) := by decide +kernel
theorem dX7_sumOf_95 : decode cX7_sumOf 95 = .ok (.iconst 5, 1) := by decide +kernel
theorem dX7_sumOf_96 : decode cX7_sumOf 96 = .ok (.if_icmp .ne 7, 3) := by decide +kernel
theorem dX7_sumOf_99 : decode cX7_sumOf 99 = .ok (.iload_n 3, 1) := by decide +kernel
theorem dX7_sumOf_100 : decode cX7_sumOf 100 = .ok (.goto 18, 3) := by decide +kernel
theorem dX7_sumOf_103 : decode cX7_sumOf 103 = .ok (.iload_n 1, 1) := by decide +kernel
theorem dX7_sumOf_104 : decode cX7_sumOf 104 = .ok (.bipush 6, 2) := by decide +kernel
theorem dX7_sumOf_106 : decode cX7_sumOf 106 = .ok (.if_icmp .ne 8, 3) := by decide +kernel
theorem dX7_sumOf_109 : decode cX7_sumOf 109 = .ok (.iload 4, 2) := by decide +kernel
theorem dX7_sumOf_111 : decode cX7_sumOf 111 = .ok (.goto 7, 3) := by decide +kernel
theorem dX7_sumOf_114 : decode cX7_sumOf 114 = .ok (.aload_n 0, 1) := by decide +kernel
theorem dX7_sumOf_115 : decode cX7_sumOf 115 = .ok (.getfield 150, 3) := by decide +kernel
theorem dX7_sumOf_118 : decode cX7_sumOf 118 = .ok (.ireturn, 1) := by decide +kernel
abbrev kX7_sumOf (g : rk_G) (R : rk_R) (pc : Nat) : rk_K := rk_cut g cX7_sumOf 6 (some .int) RX7 10 R pc
abbrev aX7_sumOf (g : rk_G) (R : rk_R) (pc : Nat) (K : rk_K) : Prop := rk_AK g cX7_sumOf 6 (some .int) RX7 10 R pc K
abbrev sX7_sumOf (g : rk_G) (vs : List Value) (σ : rk_M) (R : rk_R) : Prop := rk_does g yX7_sumOf cX7_sumOf 6 (some .int) 10 vs σ R
abbrev tX7_sumOf (g : rk_G) (R : rk_R) (pc : Nat) (ls st : List Value) (σ : rk_M) : Prop := rk_At g cX7_sumOf 6 (some .int) RX7 10 R pc ls st σ
def bX7_sumOf_118 (g : rk_G) (R : rk_R) : rk_K := (rk_iret R)
theorem eX7_sumOf_118 (g : rk_G) (R : rk_R) (ls st : List Value) (σ : rk_M) : bX7_sumOf_118 g R ls st σ = (rk_iret R) ls st σ := rfl
theorem oX7_sumOf_118 {g : rk_G} {R : rk_R} : aX7_sumOf g R 118 (bX7_sumOf_118 g R) := (rk_iret_ok rfl dX7_sumOf_118)
def bX7_sumOf_14 (g : rk_G) (R : rk_R) : rk_K := (rk_iload 5 (rk_aload 0 (rk_gI 7 11 (rk_icmp_ge (rk_iload 1 (rk_ci (2) (rk_icmp_ne (rk_iload 1 (rk_ci (3) (rk_icmp_ne (rk_iload 1 (rk_ci (4) (rk_icmp_ne (rk_iload 1 (rk_ci (5) (rk_icmp_ne (rk_iload 1 (rk_ci (6) (rk_icmp_ne (rk_aload 0 (rk_gI 7 10 (bX7_sumOf_118 g R))) (rk_iload 4 (bX7_sumOf_118 g R))))) (rk_iload 3 (bX7_sumOf_118 g R))))) (rk_iload 2 (bX7_sumOf_118 g R))))) (rk_aload 0 (rk_gI 7 19 (bX7_sumOf_118 g R)))))) (rk_aload 0 (rk_gI 7 11 (bX7_sumOf_118 g R)))))) (rk_iload 2 (rk_aload 0 (rk_gR 7 15 (rk_iload 5 (rk_iald (rk_iadd (rk_istore 2 (rk_iload 3 (rk_aload 0 (rk_gR 7 17 (rk_iload 5 (rk_iald (rk_iadd (rk_istore 3 (rk_iload 4 (rk_aload 0 (rk_gR 7 16 (rk_iload 5 (rk_iald (rk_iadd (rk_istore 4 (rk_iinc 5 (1) (kX7_sumOf g R 14)))))))))))))))))))))))))))
theorem eX7_sumOf_14 (g : rk_G) (R : rk_R) (ls st : List Value) (σ : rk_M) : bX7_sumOf_14 g R ls st σ = (rk_iload 5 (rk_aload 0 (rk_gI 7 11 (rk_icmp_ge (rk_iload 1 (rk_ci (2) (rk_icmp_ne (rk_iload 1 (rk_ci (3) (rk_icmp_ne (rk_iload 1 (rk_ci (4) (rk_icmp_ne (rk_iload 1 (rk_ci (5) (rk_icmp_ne (rk_iload 1 (rk_ci (6) (rk_icmp_ne (rk_aload 0 (rk_gI 7 10 (bX7_sumOf_118 g R))) (rk_iload 4 (bX7_sumOf_118 g R))))) (rk_iload 3 (bX7_sumOf_118 g R))))) (rk_iload 2 (bX7_sumOf_118 g R))))) (rk_aload 0 (rk_gI 7 19 (bX7_sumOf_118 g R)))))) (rk_aload 0 (rk_gI 7 11 (bX7_sumOf_118 g R)))))) (rk_iload 2 (rk_aload 0 (rk_gR 7 15 (rk_iload 5 (rk_iald (rk_iadd (rk_istore 2 (rk_iload 3 (rk_aload 0 (rk_gR 7 17 (rk_iload 5 (rk_iald (rk_iadd (rk_istore 3 (rk_iload 4 (rk_aload 0 (rk_gR 7 16 (rk_iload 5 (rk_iald (rk_iadd (rk_istore 4 (rk_iinc 5 (1) (kX7_sumOf g R 14))))))))))))))))))))))))))) ls st σ := rfl
theorem oX7_sumOf_14 {g : rk_G} {R : rk_R} : aX7_sumOf g R 14 (bX7_sumOf_14 g R) := (rk_iload_ok dX7_sumOf_14 (rk_aload_n_ok dX7_sumOf_16 rfl (rk_gI_ok dX7_sumOf_17 rfl iX7 (by decide) rfl wfX7_165 (rk_icmp_ge_ok (pc' := 61) dX7_sumOf_20 (by decide) (rk_iload_n_ok dX7_sumOf_61 rfl (rk_iconst_ok dX7_sumOf_62 (by decide) (rk_icmp_ne_ok (pc' := 73) dX7_sumOf_63 (by decide) (rk_iload_n_ok dX7_sumOf_73 rfl (rk_iconst_ok dX7_sumOf_74 (by decide) (rk_icmp_ne_ok (pc' := 85) dX7_sumOf_75 (by decide) (rk_iload_n_ok dX7_sumOf_85 rfl (rk_iconst_ok dX7_sumOf_86 (by decide) (rk_icmp_ne_ok (pc' := 94) dX7_sumOf_87 (by decide) (rk_iload_n_ok dX7_sumOf_94 rfl (rk_iconst_ok dX7_sumOf_95 (by decide) (rk_icmp_ne_ok (pc' := 103) dX7_sumOf_96 (by decide) (rk_iload_n_ok dX7_sumOf_103 rfl (rk_bipush_ok dX7_sumOf_104 (by decide) (rk_icmp_ne_ok (pc' := 114) dX7_sumOf_106 (by decide) (rk_aload_n_ok dX7_sumOf_114 rfl (rk_gI_ok dX7_sumOf_115 rfl iX7 (by decide) rfl wfX7_150 oX7_sumOf_118)) (rk_iload_ok dX7_sumOf_109 (rk_goto_ok (pc' := 118) dX7_sumOf_111 (by decide) oX7_sumOf_118))))) (rk_iload_n_ok dX7_sumOf_99 rfl (rk_goto_ok (pc' := 118) dX7_sumOf_100 (by decide) oX7_sumOf_118))))) (rk_iload_n_ok dX7_sumOf_90 rfl (rk_goto_ok (pc' := 118) dX7_sumOf_91 (by decide) oX7_sumOf_118))))) (rk_aload_n_ok dX7_sumOf_78 rfl (rk_gI_ok dX7_sumOf_79 rfl iX7 (by decide) rfl wfX7_181 (rk_goto_ok (pc' := 118) dX7_sumOf_82 (by decide) oX7_sumOf_118)))))) (rk_aload_n_ok dX7_sumOf_66 rfl (rk_gI_ok dX7_sumOf_67 rfl iX7 (by decide) rfl wfX7_165 (rk_goto_ok (pc' := 118) dX7_sumOf_70 (by decide) oX7_sumOf_118)))))) (rk_iload_n_ok dX7_sumOf_23 rfl (rk_aload_n_ok dX7_sumOf_24 rfl (rk_gR_ok dX7_sumOf_25 rfl iX7 (by decide) rfl wfX7_40 (rk_iload_ok dX7_sumOf_28 (rk_iald_ok dX7_sumOf_30 (rk_iadd_ok dX7_sumOf_31 (rk_istore_n_ok dX7_sumOf_32 rfl (by decide) (rk_iload_n_ok dX7_sumOf_33 rfl (rk_aload_n_ok dX7_sumOf_34 rfl (rk_gR_ok dX7_sumOf_35 rfl iX7 (by decide) rfl wfX7_46 (rk_iload_ok dX7_sumOf_38 (rk_iald_ok dX7_sumOf_40 (rk_iadd_ok dX7_sumOf_41 (rk_istore_n_ok dX7_sumOf_42 rfl (by decide) (rk_iload_ok dX7_sumOf_43 (rk_aload_n_ok dX7_sumOf_45 rfl (rk_gR_ok dX7_sumOf_46 rfl iX7 (by decide) rfl wfX7_43 (rk_iload_ok dX7_sumOf_49 (rk_iald_ok dX7_sumOf_51 (rk_iadd_ok dX7_sumOf_52 (rk_istore_ok dX7_sumOf_53 (by decide) (rk_iinc_ok dX7_sumOf_55 (by decide) (by decide) (rk_goto_ok (pc' := 14) dX7_sumOf_58 (by decide) rk_cut_ok)))))))))))))))))))))))))))
def bX7_sumOf_0 (g : rk_G) (R : rk_R) : rk_K := (rk_aload 0 (rk_cV g 0 7 yX7_finds cX7_finds 1 none 9 (rk_ci (0) (rk_istore 2 (rk_ci (0) (rk_istore 3 (rk_ci (0) (rk_istore 4 (rk_ci (0) (rk_istore 5 (kX7_sumOf g R 14)))))))))))
theorem eX7_sumOf_0 (g : rk_G) (R : rk_R) (ls st : List Value) (σ : rk_M) : bX7_sumOf_0 g R ls st σ = (rk_aload 0 (rk_cV g 0 7 yX7_finds cX7_finds 1 none 9 (rk_ci (0) (rk_istore 2 (rk_ci (0) (rk_istore 3 (rk_ci (0) (rk_istore 4 (rk_ci (0) (rk_istore 5 (kX7_sumOf g R 14))))))))))) ls st σ := rfl
theorem oX7_sumOf_0 {g : rk_G} {R : rk_R} : aX7_sumOf g R 0 (bX7_sumOf_0 g R) := (rk_aload_n_ok dX7_sumOf_0 rfl (rk_cV_ok dX7_sumOf_1 rfl rfl npX7_finds wmX7_191 wvX7_finds weX7_finds wiX7 wdX7_finds (by decide) (by decide) (rk_iconst_ok dX7_sumOf_4 (by decide) (rk_istore_n_ok dX7_sumOf_5 rfl (by decide) (rk_iconst_ok dX7_sumOf_6 (by decide) (rk_istore_n_ok dX7_sumOf_7 rfl (by decide) (rk_iconst_ok dX7_sumOf_8 (by decide) (rk_istore_ok dX7_sumOf_9 (by decide) (rk_iconst_ok dX7_sumOf_11 (by decide) (rk_istore_ok dX7_sumOf_12 (by decide) rk_cut_ok))))))))))
