theorem dX7_hasLooseEnd_0 : decode cX7_hasLooseEnd 0 = .ok (.aload_n 0, 1) := by decide +kernel
theorem dX7_hasLooseEnd_1 : decode cX7_hasLooseEnd 1 = .ok (.iload_n 1, 1) := by decide +kernel
theorem dX7_hasLooseEnd_2 : decode cX7_hasLooseEnd 2 = .ok (.invokevirtual 234, 3) := by decide +kernel
theorem dX7_hasLooseEnd_5 : decode cX7_hasLooseEnd 5 = .ok (.istore_n 2, 1) := by decide +kernel
theorem dX7_hasLooseEnd_6 : decode cX7_hasLooseEnd 6 = .ok (.iconst 0, 1) := by decide +kernel
theorem dX7_hasLooseEnd_7 : decode cX7_hasLooseEnd 7 = .ok (.istore_n 3, 1) := by decide +kernel
theorem dX7_hasLooseEnd_8 : decode cX7_hasLooseEnd 8 = .ok (.iconst 0, 1) := by decide +kernel
theorem dX7_hasLooseEnd_9 : decode cX7_hasLooseEnd 9 = .ok (.istore 4, 2) := by decide +kernel
theorem dX7_hasLooseEnd_11 : decode cX7_hasLooseEnd 11 = .ok (.iload 4, 2) := by decide +kernel
theorem dX7_hasLooseEnd_13 : decode cX7_hasLooseEnd 13 = .ok (.aload_n 0, 1) := by decide +kernel
theorem dX7_hasLooseEnd_14 : decode cX7_hasLooseEnd 14 = .ok (.getfield 85, 3) := by decide +kernel
theorem dX7_hasLooseEnd_17 : decode cX7_hasLooseEnd 17 = .ok (.if_icmp .ge 80, 3) := by decide +kernel
theorem dX7_hasLooseEnd_20 : decode cX7_hasLooseEnd 20 = .ok (.iconst 0, 1) := by decide +kernel
theorem dX7_hasLooseEnd_21 : decode cX7_hasLooseEnd 21 = .ok (.istore 5, 2) := by decide +kernel
theorem dX7_hasLooseEnd_23 : decode cX7_hasLooseEnd 23 = .ok (.iload 5, 2) := by decide +kernel
theorem dX7_hasLooseEnd_25 : decode cX7_hasLooseEnd 25 = .ok (.iconst 2, 1) := by decide +kernel
theorem dX7_hasLooseEnd_26 : decode cX7_hasLooseEnd 26 = .ok (.if_icmp .ge 65, 3) := by decide +kernel
theorem dX7_hasLooseEnd_29 : decode cX7_hasLooseEnd 29 = .ok (.iload_n 3, 1) := by decide +kernel
theorem dX7_hasLooseEnd_30 : decode cX7_hasLooseEnd 30 = .ok (.ifCond .ne 49, 3) := by decide +kernel
theorem dX7_hasLooseEnd_33 : decode cX7_hasLooseEnd 33 = .ok (.aload_n 0, 1) := by decide +kernel
theorem dX7_hasLooseEnd_34 : decode cX7_hasLooseEnd 34 = .ok (.getfield 31, 3) := by decide +kernel
theorem dX7_hasLooseEnd_37 : decode cX7_hasLooseEnd 37 = .ok (.iload 4, 2) := by decide +kernel
theorem dX7_hasLooseEnd_39 : decode cX7_hasLooseEnd 39 = .ok (.iaload, 1) := by decide +kernel
theorem dX7_hasLooseEnd_40 : decode cX7_hasLooseEnd 40 = .ok (.iload_n 1, 1) := by decide +kernel
theorem dX7_hasLooseEnd_41 : decode cX7_hasLooseEnd 41 = .ok (.if_icmp .ne 42, 3) := by decide +kernel
theorem dX7_hasLooseEnd_44 : decode cX7_hasLooseEnd 44 = .ok (.aload_n 0, 1) := by decide +kernel
theorem dX7_hasLooseEnd_45 : decode cX7_hasLooseEnd 45 = .ok (.getfield 28, 3) := by decide +kernel
theorem dX7_hasLooseEnd_48 : decode cX7_hasLooseEnd 48 = .ok (.iconst 2, 1) := by decide +kernel
theorem dX7_hasLooseEnd_49 : decode cX7_hasLooseEnd 49 = .ok (.iload 4, 2) := by decide +kernel
theorem dX7_hasLooseEnd_51 : decode cX7_hasLooseEnd 51 = .ok (.imul, 1) := by decide +kernel
theorem dX7_hasLooseEnd_52 : decode cX7_hasLooseEnd 52 = .ok (.iload 5, 2) := by decide +kernel
theorem dX7_hasLooseEnd_54 : decode cX7_hasLooseEnd 54 = .ok (.iadd, 1) := by decide +kernel
theorem dX7_hasLooseEnd_55 : decode cX7_hasLooseEnd 55 = .ok (.iaload, 1) := by decide +kernel
theorem dX7_hasLooseEnd_56 : decode cX7_hasLooseEnd 56 = .ok (.iconst (-1), 1) := by decide +kernel
theorem dX7_hasLooseEnd_57 : decode cX7_hasLooseEnd 57 = .ok (.if_icmp .ne 26, 3) := by decide +kernel
theorem dX7_hasLooseEnd_60 : decode cX7_hasLooseEnd 60 = .ok (.iload_n 2, 1) := by decide +kernel
theorem dX7_hasLooseEnd_61 : decode cX7_hasLooseEnd 61 = .ok (.aload_n 0, 1) := by decide +kernel
theorem dX7_hasLooseEnd_62 : decode cX7_hasLooseEnd 62 = .ok (.getfield 16, 3) := by decide +kernel
theorem dX7_hasLooseEnd_65 : decode cX7_hasLooseEnd 65 = .ok (.iconst 2, 1) := by decide +kernel
theorem dX7_hasLooseEnd_66 : decode cX7_hasLooseEnd 66 = .ok (.iload 4, 2) := by decide +kernel
theorem dX7_hasLooseEnd_68 : decode cX7_hasLooseEnd 68 = .ok (.imul, 1) := by decide +kernel
theorem dX7_hasLooseEnd_69 : decode cX7_hasLooseEnd 69 = .ok (.iload 5, 2) := by decide +kernel
theorem dX7_hasLooseEnd_71 : decode cX7_hasLooseEnd 71 = .ok (.iadd, 1) := by decide +kernel
theorem dX7_hasLooseEnd_72 : decode cX7_hasLooseEnd 72 = .ok (.iaload, 1) := by decide +kernel
theorem dX7_hasLooseEnd_73 : decode cX7_hasLooseEnd 73 = .ok (.invokestatic 204, 3) := by decide +kernel
theorem dX7_hasLooseEnd_76 : decode cX7_hasLooseEnd 76 = .ok (.ifCond .ne 7, 3) := by decide +kernel
theorem dX7_hasLooseEnd_79 : decode cX7_hasLooseEnd 79 = .ok (.iconst 1, 1) := by decide +kernel
theorem dX7_hasLooseEnd_80 : decode cX7_hasLooseEnd 80 = .ok (.goto 4, 3) := by decide +kernel
theorem dX7_hasLooseEnd_83 : decode cX7_hasLooseEnd 83 = .ok (.iconst 0, 1) := by decide +kernel
theorem dX7_hasLooseEnd_84 : decode cX7_hasLooseEnd 84 = .ok (.istore_n 3, 1) := by decide +kernel
theorem dX7_hasLooseEnd_85 : decode cX7_hasLooseEnd 85 = .ok (.iinc 5 1, 3) := by decide +kernel
theorem dX7_hasLooseEnd_88 : decode cX7_hasLooseEnd 88 = .ok (.goto (-65), 3) := by decide +kernel
theorem dX7_hasLooseEnd_91 : decode cX7_hasLooseEnd 91 = .ok (.iinc 4 1, 3) := by decide +kernel
theorem dX7_hasLooseEnd_94 : decode cX7_hasLooseEnd 94 = .ok (.goto (-83), 3) := by decide +kernel
theorem dX7_hasLooseEnd_97 : decode cX7_hasLooseEnd 97 = .ok (.iload_n 3, 1) := by decide +kernel
theorem dX7_hasLooseEnd_98 : decode cX7_hasLooseEnd 98 = .ok (.ireturn, 1) := by decide +kernel
abbrev kX7_hasLooseEnd (g : rk_G) (R : rk_R) (pc : Nat) : rk_K := rk_cut g cX7_hasLooseEnd 6 (some .boolean) RX7 2 R pc
abbrev aX7_hasLooseEnd (g : rk_G) (R : rk_R) (pc : Nat) (K : rk_K) : Prop := rk_AK g cX7_hasLooseEnd 6 (some .boolean) RX7 2 R pc K
abbrev sX7_hasLooseEnd (g : rk_G) (vs : List Value) (σ : rk_M) (R : rk_R) : Prop := rk_does g yX7_hasLooseEnd cX7_hasLooseEnd 6 (some .boolean) 2 vs σ R
abbrev tX7_hasLooseEnd (g : rk_G) (R : rk_R) (pc : Nat) (ls st : List Value) (σ : rk_M) : Prop := rk_At g cX7_hasLooseEnd 6 (some .boolean) RX7 2 R pc ls st σ
def bX7_hasLooseEnd_84 (g : rk_G) (R : rk_R) : rk_K := (rk_istore 3 (rk_iinc 5 (1) (kX7_hasLooseEnd g R 23)))
theorem eX7_hasLooseEnd_84 (g : rk_G) (R : rk_R) (ls st : List Value) (σ : rk_M) : bX7_hasLooseEnd_84 g R ls st σ = (rk_istore 3 (rk_iinc 5 (1) (kX7_hasLooseEnd g R 23))) ls st σ := rfl
theorem oX7_hasLooseEnd_84 {g : rk_G} {R : rk_R} : aX7_hasLooseEnd g R 84 (bX7_hasLooseEnd_84 g R) := (rk_istore_n_ok dX7_hasLooseEnd_84 rfl (by decide) (rk_iinc_ok dX7_hasLooseEnd_85 (by decide) (by decide) (rk_goto_ok (pc' := 23) dX7_hasLooseEnd_88 (by decide) rk_cut_ok)))
def bX7_hasLooseEnd_83 (g : rk_G) (R : rk_R) : rk_K := (rk_ci (0) (bX7_hasLooseEnd_84 g R))
theorem eX7_hasLooseEnd_83 (g : rk_G) (R : rk_R) (ls st : List Value) (σ : rk_M) : bX7_hasLooseEnd_83 g R ls st σ = (rk_ci (0) (bX7_hasLooseEnd_84 g R)) ls st σ := rfl
theorem oX7_hasLooseEnd_83 {g : rk_G} {R : rk_R} : aX7_hasLooseEnd g R 83 (bX7_hasLooseEnd_83 g R) := (rk_iconst_ok dX7_hasLooseEnd_83 (by decide) oX7_hasLooseEnd_84)
def bX7_hasLooseEnd_79 (g : rk_G) (R : rk_R) : rk_K := (rk_ci (1) (bX7_hasLooseEnd_84 g R))
theorem eX7_hasLooseEnd_79 (g : rk_G) (R : rk_R) (ls st : List Value) (σ : rk_M) : bX7_hasLooseEnd_79 g R ls st σ = (rk_ci (1) (bX7_hasLooseEnd_84 g R)) ls st σ := rfl
theorem oX7_hasLooseEnd_79 {g : rk_G} {R : rk_R} : aX7_hasLooseEnd g R 79 (bX7_hasLooseEnd_79 g R) := (rk_iconst_ok dX7_hasLooseEnd_79 (by decide) (rk_goto_ok (pc' := 84) dX7_hasLooseEnd_80 (by decide) oX7_hasLooseEnd_84))
def bX7_hasLooseEnd_23 (g : rk_G) (R : rk_R) : rk_K := (rk_iload 5 (rk_ci (2) (rk_icmp_ge (rk_iinc 4 (1) (kX7_hasLooseEnd g R 11)) (rk_iload 3 (rk_if_ne (bX7_hasLooseEnd_79 g R) (rk_aload 0 (rk_gR 7 12 (rk_iload 4 (rk_iald (rk_iload 1 (rk_icmp_ne (bX7_hasLooseEnd_83 g R) (rk_aload 0 (rk_gR 7 9 (rk_ci (2) (rk_iload 4 (rk_imul (rk_iload 5 (rk_iadd (rk_iald (rk_ci (-1) (rk_icmp_ne (bX7_hasLooseEnd_83 g R) (rk_iload 2 (rk_aload 0 (rk_gR 7 4 (rk_ci (2) (rk_iload 4 (rk_imul (rk_iload 5 (rk_iadd (rk_iald (rk_cS g 2 yX7_isIn cX7_isIn 2 (some .boolean) 0 (rk_if_ne (bX7_hasLooseEnd_83 g R) (bX7_hasLooseEnd_79 g R)))))))))))))))))))))))))))))))))
theorem eX7_hasLooseEnd_23 (g : rk_G) (R : rk_R) (ls st : List Value) (σ : rk_M) : bX7_hasLooseEnd_23 g R ls st σ = (rk_iload 5 (rk_ci (2) (rk_icmp_ge (rk_iinc 4 (1) (kX7_hasLooseEnd g R 11)) (rk_iload 3 (rk_if_ne (bX7_hasLooseEnd_79 g R) (rk_aload 0 (rk_gR 7 12 (rk_iload 4 (rk_iald (rk_iload 1 (rk_icmp_ne (bX7_hasLooseEnd_83 g R) (rk_aload 0 (rk_gR 7 9 (rk_ci (2) (rk_iload 4 (rk_imul (rk_iload 5 (rk_iadd (rk_iald (rk_ci (-1) (rk_icmp_ne (bX7_hasLooseEnd_83 g R) (rk_iload 2 (rk_aload 0 (rk_gR 7 4 (rk_ci (2) (rk_iload 4 (rk_imul (rk_iload 5 (rk_iadd (rk_iald (rk_cS g 2 yX7_isIn cX7_isIn 2 (some .boolean) 0 (rk_if_ne (bX7_hasLooseEnd_83 g R) (bX7_hasLooseEnd_79 g R))))))))))))))))))))))))))))))))) ls st σ := rfl
theorem oX7_hasLooseEnd_23 {g : rk_G} {R : rk_R} : aX7_hasLooseEnd g R 23 (bX7_hasLooseEnd_23 g R) := (rk_iload_ok dX7_hasLooseEnd_23 (rk_iconst_ok dX7_hasLooseEnd_25 (by decide) (rk_icmp_ge_ok (pc' := 91) dX7_hasLooseEnd_26 (by decide) (rk_iinc_ok dX7_hasLooseEnd_91 (by decide) (by decide) (rk_goto_ok (pc' := 11) dX7_hasLooseEnd_94 (by decide) rk_cut_ok)) (rk_iload_n_ok dX7_hasLooseEnd_29 rfl (rk_if_ne_ok (pc' := 79) dX7_hasLooseEnd_30 (by decide) oX7_hasLooseEnd_79 (rk_aload_n_ok dX7_hasLooseEnd_33 rfl (rk_gR_ok dX7_hasLooseEnd_34 rfl iX7 (by decide) rfl wfX7_31 (rk_iload_ok dX7_hasLooseEnd_37 (rk_iald_ok dX7_hasLooseEnd_39 (rk_iload_n_ok dX7_hasLooseEnd_40 rfl (rk_icmp_ne_ok (pc' := 83) dX7_hasLooseEnd_41 (by decide) oX7_hasLooseEnd_83 (rk_aload_n_ok dX7_hasLooseEnd_44 rfl (rk_gR_ok dX7_hasLooseEnd_45 rfl iX7 (by decide) rfl wfX7_28 (rk_iconst_ok dX7_hasLooseEnd_48 (by decide) (rk_iload_ok dX7_hasLooseEnd_49 (rk_imul_ok dX7_hasLooseEnd_51 (rk_iload_ok dX7_hasLooseEnd_52 (rk_iadd_ok dX7_hasLooseEnd_54 (rk_iald_ok dX7_hasLooseEnd_55 (rk_iconst_ok dX7_hasLooseEnd_56 (by decide) (rk_icmp_ne_ok (pc' := 83) dX7_hasLooseEnd_57 (by decide) oX7_hasLooseEnd_83 (rk_iload_n_ok dX7_hasLooseEnd_60 rfl (rk_aload_n_ok dX7_hasLooseEnd_61 rfl (rk_gR_ok dX7_hasLooseEnd_62 rfl iX7 (by decide) rfl wfX7_16 (rk_iconst_ok dX7_hasLooseEnd_65 (by decide) (rk_iload_ok dX7_hasLooseEnd_66 (rk_imul_ok dX7_hasLooseEnd_68 (rk_iload_ok dX7_hasLooseEnd_69 (rk_iadd_ok dX7_hasLooseEnd_71 (rk_iald_ok dX7_hasLooseEnd_72 (rk_cS_ok dX7_hasLooseEnd_73 npX7_isIn wmX7_204 wtX7_isIn wiX7 wdX7_isIn (by decide) (by decide) (rk_if_ne_ok (pc' := 83) dX7_hasLooseEnd_76 (by decide) oX7_hasLooseEnd_83 oX7_hasLooseEnd_79))))))))))))))))))))))))))))))))
def bX7_hasLooseEnd_11 (g : rk_G) (R : rk_R) : rk_K := (rk_iload 4 (rk_aload 0 (rk_gI 7 3 (rk_icmp_ge (rk_iload 3 (rk_zret R)) (rk_ci (0) (rk_istore 5 (kX7_hasLooseEnd g R 23)))))))
theorem eX7_hasLooseEnd_11 (g : rk_G) (R : rk_R) (ls st : List Value) (σ : rk_M) : bX7_hasLooseEnd_11 g R ls st σ = (rk_iload 4 (rk_aload 0 (rk_gI 7 3 (rk_icmp_ge (rk_iload 3 (rk_zret R)) (rk_ci (0) (rk_istore 5 (kX7_hasLooseEnd g R 23))))))) ls st σ := rfl
theorem oX7_hasLooseEnd_11 {g : rk_G} {R : rk_R} : aX7_hasLooseEnd g R 11 (bX7_hasLooseEnd_11 g R) := (rk_iload_ok dX7_hasLooseEnd_11 (rk_aload_n_ok dX7_hasLooseEnd_13 rfl (rk_gI_ok dX7_hasLooseEnd_14 rfl iX7 (by decide) rfl wfX7_85 (rk_icmp_ge_ok (pc' := 97) dX7_hasLooseEnd_17 (by decide) (rk_iload_n_ok dX7_hasLooseEnd_97 rfl (rk_zret_ok rfl dX7_hasLooseEnd_98)) (rk_iconst_ok dX7_hasLooseEnd_20 (by decide) (rk_istore_ok dX7_hasLooseEnd_21 (by decide) rk_cut_ok))))))
def bX7_hasLooseEnd_0 (g : rk_G) (R : rk_R) : rk_K := (rk_aload 0 (rk_iload 1 (rk_cV g 1 7 yX7_others cX7_others 4 (some .int) 1 (rk_istore 2 (rk_ci (0) (rk_istore 3 (rk_ci (0) (rk_istore 4 (kX7_hasLooseEnd g R 11)))))))))
theorem eX7_hasLooseEnd_0 (g : rk_G) (R : rk_R) (ls st : List Value) (σ : rk_M) : bX7_hasLooseEnd_0 g R ls st σ = (rk_aload 0 (rk_iload 1 (rk_cV g 1 7 yX7_others cX7_others 4 (some .int) 1 (rk_istore 2 (rk_ci (0) (rk_istore 3 (rk_ci (0) (rk_istore 4 (kX7_hasLooseEnd g R 11))))))))) ls st σ := rfl
theorem oX7_hasLooseEnd_0 {g : rk_G} {R : rk_R} : aX7_hasLooseEnd g R 0 (bX7_hasLooseEnd_0 g R) := (rk_aload_n_ok dX7_hasLooseEnd_0 rfl (rk_iload_n_ok dX7_hasLooseEnd_1 rfl (rk_cV_ok dX7_hasLooseEnd_2 rfl rfl npX7_others wmX7_234 wvX7_others weX7_others wiX7 wdX7_others (by decide) (by decide) (rk_istore_n_ok dX7_hasLooseEnd_5 rfl (by decide) (rk_iconst_ok dX7_hasLooseEnd_6 (by decide) (rk_istore_n_ok dX7_hasLooseEnd_7 rfl (by decide) (rk_iconst_ok dX7_hasLooseEnd_8 (by decide) (rk_istore_ok dX7_hasLooseEnd_9 (by decide) rk_cut_ok))))))))
theorem dX7_isWhole_0 : decode cX7_isWhole 0 = .ok (.iconst 0, 1) := by decide +kernel
theorem dX7_isWhole_1 : decode cX7_isWhole 1 = .ok (.istore_n 2, 1) := by decide +kernel
theorem dX7_isWhole_2 : decode cX7_isWhole 2 = .ok (.iconst 0, 1) := by decide +kernel
theorem dX7_isWhole_3 : decode cX7_isWhole 3 = .ok (.istore_n 3, 1) := by decide +kernel
theorem dX7_isWhole_4 : decode cX7_isWhole 4 = .ok (.iconst 0, 1) := by decide +kernel
theorem dX7_isWhole_5 : decode cX7_isWhole 5 = .ok (.istore 4, 2) := by decide +kernel
theorem dX7_isWhole_7 : decode cX7_isWhole 7 = .ok (.iload 4, 2) := by decide +kernel
theorem dX7_isWhole_9 : decode cX7_isWhole 9 = .ok (.aload_n 0, 1) := by decide +kernel
theorem dX7_isWhole_10 : decode cX7_isWhole 10 = .ok (.getfield 165, 3) := by decide +kernel
theorem dX7_isWhole_13 : decode cX7_isWhole 13 = .ok (.if_icmp .gt 128, 3) := by decide +kernel
theorem dX7_isWhole_16 : decode cX7_isWhole 16 = .ok (.iconst 0, 1) := by decide +kernel
theorem dX7_isWhole_17 : decode cX7_isWhole 17 = .ok (.istore 5, 2) := by decide +kernel
theorem dX7_isWhole_19 : decode cX7_isWhole 19 = .ok (.iload 5, 2) := by decide +kernel
theorem dX7_isWhole_21 : decode cX7_isWhole 21 = .ok (.aload_n 0, 1) := by decide +kernel
theorem dX7_isWhole_22 : decode cX7_isWhole 22 = .ok (.getfield 165, 3) := by decide +kernel
theorem dX7_isWhole_25 : decode cX7_isWhole 25 = .ok (.if_icmp .ge 110, 3) := by decide +kernel
theorem dX7_isWhole_28 : decode cX7_isWhole 28 = .ok (.iload 5, 2) := by decide +kernel
theorem dX7_isWhole_30 : decode cX7_isWhole 30 = .ok (.iload_n 1, 1) := by decide +kernel
theorem dX7_isWhole_31 : decode cX7_isWhole 31 = .ok (.if_icmp .eq 60, 3) := by decide +kernel
theorem dX7_isWhole_34 : decode cX7_isWhole 34 = .ok (.aload_n 0, 1) := by decide +kernel
theorem dX7_isWhole_35 : decode cX7_isWhole 35 = .ok (.getfield 231, 3) := by decide +kernel
theorem dX7_isWhole_38 : decode cX7_isWhole 38 = .ok (.iload 5, 2) := by decide +kernel
theorem dX7_isWhole_40 : decode cX7_isWhole 40 = .ok (.invokestatic 204, 3) := by decide +kernel
theorem dX7_isWhole_43 : decode cX7_isWhole 43 = .ok (.ifCond .eq 48, 3) := by decide +kernel
theorem dX7_isWhole_46 : decode cX7_isWhole 46 = .ok (.aload_n 0, 1) := by decide +kernel
theorem dX7_isWhole_47 : decode cX7_isWhole 47 = .ok (.getfield 55, 3) := by decide +kernel
theorem dX7_isWhole_50 : decode cX7_isWhole 50 = .ok (.iload 5, 2) := by decide +kernel
theorem dX7_isWhole_52 : decode cX7_isWhole 52 = .ok (.iaload, 1) := by decide +kernel
theorem dX7_isWhole_53 : decode cX7_isWhole 53 = .ok (.aload_n 0, 1) := by decide +kernel
theorem dX7_isWhole_54 : decode cX7_isWhole 54 = .ok (.getfield 55, 3) := by decide +kernel
theorem dX7_isWhole_57 : decode cX7_isWhole 57 = .ok (.iload_n 1, 1) := by decide +kernel
theorem dX7_isWhole_58 : decode cX7_isWhole 58 = .ok (.iaload, 1) := by decide +kernel
theorem dX7_isWhole_59 : decode cX7_isWhole 59 = .ok (.if_icmp .ne 32, 3) := by decide +kernel
theorem dX7_isWhole_62 : decode cX7_isWhole 62 = .ok (.iload_n 2, 1) := by decide +kernel
theorem dX7_isWhole_63 : decode cX7_isWhole 63 = .ok (.iload 5, 2) := by decide +kernel
theorem dX7_isWhole_65 : decode cX7_isWhole 65 = .ok (.invokestatic 204, 3) := by decide +kernel
theorem dX7_isWhole_68 : decode cX7_isWhole 68 = .ok (.ifCond .ne 23, 3) := by decide +kernel
theorem dX7_isWhole_71 : decode cX7_isWhole 71 = .ok (.iload_n 2, 1) := by decide +kernel
theorem dX7_isWhole_72 : decode cX7_isWhole 72 = .ok (.ifCond .eq 15, 3) := by decide +kernel
theorem dX7_isWhole_75 : decode cX7_isWhole 75 = .ok (.aload_n 0, 1) := by decide +kernel
theorem dX7_isWhole_76 : decode cX7_isWhole 76 = .ok (.getfield 37, 3) := by decide +kernel
theorem dX7_isWhole_79 : decode cX7_isWhole 79 = .ok (.iload 5, 2) := by decide +kernel
theorem dX7_isWhole_81 : decode cX7_isWhole 81 = .ok (.iaload, 1) := by decide +kernel
theorem dX7_isWhole_82 : decode cX7_isWhole 82 = .ok (.iload_n 3, 1) := by decide +kernel
theorem dX7_isWhole_83 : decode cX7_isWhole 83 = .ok (.iand, 1) := by decide +kernel
theorem dX7_isWhole_84 : decode cX7_isWhole 84 = .ok (.ifCond .eq 7, 3) := by decide +kernel
theorem dX7_isWhole_87 : decode cX7_isWhole 87 = .ok (.iconst 1, 1) := by decide +kernel
theorem dX7_isWhole_88 : decode cX7_isWhole 88 = .ok (.goto 4, 3) := by decide +kernel
theorem dX7_isWhole_91 : decode cX7_isWhole 91 = .ok (.iconst 0, 1) := by decide +kernel
theorem dX7_isWhole_92 : decode cX7_isWhole 92 = .ok (.istore 6, 2) := by decide +kernel
theorem dX7_isWhole_94 : decode cX7_isWhole 94 = .ok (.iload_n 2, 1) := by decide +kernel
theorem dX7_isWhole_95 : decode cX7_isWhole 95 = .ok (.iload 6, 2) := by decide +kernel
theorem dX7_isWhole_97 : decode cX7_isWhole 97 = .ok (.ifCond .eq 10, 3) := by decide +kernel
theorem dX7_isWhole_100 : decode cX7_isWhole 100 = .ok (.iconst 1, 1) := by decide +kernel
theorem dX7_isWhole_101 : decode cX7_isWhole 101 = .ok (.iload 5, 2) := by decide +kernel
theorem dX7_isWhole_103 : decode cX7_isWhole 103 = .ok (.ishl, 1) := by decide +kernel
theorem dX7_isWhole_104 : decode cX7_isWhole 104 = .ok (.goto 4, 3) := by decide +kernel
theorem dX7_isWhole_107 : decode cX7_isWhole 107 = .ok (.iconst 0, 1) := by decide +kernel
theorem dX7_isWhole_108 : decode cX7_isWhole 108 = .ok (.ior, 1) := by decide +kernel
theorem dX7_isWhole_109 : decode cX7_isWhole 109 = .ok (.istore_n 2, 1) := by decide +kernel
theorem dX7_isWhole_110 : decode cX7_isWhole 110 = .ok (.iload_n 3, 1) := by decide +kernel
theorem dX7_isWhole_111 : decode cX7_isWhole 111 = .ok (.iload 6, 2) := by decide +kernel
theorem dX7_isWhole_113 : decode cX7_isWhole 113 = .ok (.ifCond .eq 13, 3) := by decide +kernel
theorem dX7_isWhole_116 : decode cX7_isWhole 116 = .ok (.aload_n 0, 1) := by decide +kernel
theorem dX7_isWhole_117 : decode cX7_isWhole 117 = .ok (.getfield 37, 3) := by decide +kernel
theorem dX7_isWhole_120 : decode cX7_isWhole 120 = .ok (.iload 5, 2) := by decide +kernel
theorem dX7_isWhole_122 : decode cX7_isWhole 122 = .ok (.iaload, 1) := by decide +kernel
theorem dX7_isWhole_123 : decode cX7_isWhole 123 = .ok (.goto 4, 3) := by decide +kernel
theorem dX7_isWhole_126 : decode cX7_isWhole 126 = .ok (.iconst 0, 1) := by decide +kernel
theorem dX7_isWhole_127 : decode cX7_isWhole 127 = .ok (.ior, 1) := by decide +kernel
theorem dX7_isWhole_128 : decode cX7_isWhole 128 = .ok (.istore_n 3, 1) := by decide +kernel
theorem dX7_isWhole_129 : decode cX7_isWhole 129 = .ok (.iinc 5 1, 3) := by decide +kernel
theorem dX7_isWhole_132 : decode cX7_isWhole 132 = .ok (.goto (-113), 3) := by decide +kernel
theorem dX7_isWhole_135 : decode cX7_isWhole 135 = .ok (.iinc 4 1, 3) := by decide +kernel
theorem dX7_isWhole_138 : decode cX7_isWhole 138 = .ok (.goto (-131), 3) := by decide +kernel
theorem dX7_isWhole_141 : decode cX7_isWhole 141 = .ok (.iload_n 2, 1) := by decide +kernel
theorem dX7_isWhole_142 : decode cX7_isWhole 142 = .ok (.invokestatic 207, 3) := by decide +kernel
theorem dX7_isWhole_145 : decode cX7_isWhole 145 = .ok (.aload_n 0, 1) := by decide +kernel
theorem dX7_isWhole_146 : decode cX7_isWhole 146 = .ok (.aload_n 0, 1) := by decide +kernel
theorem dX7_isWhole_147 : decode cX7_isWhole 147 = .ok (.getfield 55, 3) := by decide +kernel
theorem dX7_isWhole_150 : decode cX7_isWhole 150 = .ok (.iload_n 1, 1) := by decide +kernel
theorem dX7_isWhole_151 : decode cX7_isWhole 151 = .ok (.iaload, 1) := by decide +kernel
theorem dX7_isWhole_152 : decode cX7_isWhole 152 = .ok (.iload_n 1, 1) := by decide +kernel
theorem dX7_isWhole_153 : decode cX7_isWhole 153 = .ok (.invokevirtual 237, 3) := by decide +kernel
theorem dX7_isWhole_156 : decode cX7_isWhole 156 = .ok (.if_icmp .ne 7, 3) := by decide +kernel
theorem dX7_isWhole_159 : decode cX7_isWhole 159 = .ok (.iconst 1, 1) := by decide +kernel
theorem dX7_isWhole_160 : decode cX7_isWhole 160 = .ok (.goto 4, 3) := by decide +kernel
theorem dX7_isWhole_163 : decode cX7_isWhole 163 = .ok (.iconst 0, 1) := by decide +kernel
theorem dX7_isWhole_164 : decode cX7_isWhole 164 = .ok (.ireturn, 1) := by decide +kernel
abbrev kX7_isWhole (g : rk_G) (R : rk_R) (pc : Nat) : rk_K := rk_cut g cX7_isWhole 7 (some .boolean) RX7 2 R pc
abbrev aX7_isWhole (g : rk_G) (R : rk_R) (pc : Nat) (K : rk_K) : Prop := rk_AK g cX7_isWhole 7 (some .boolean) RX7 2 R pc K
abbrev sX7_isWhole (g : rk_G) (vs : List Value) (σ : rk_M) (R : rk_R) : Prop := rk_does g yX7_isWhole cX7_isWhole 7 (some .boolean) 2 vs σ R
abbrev tX7_isWhole (g : rk_G) (R : rk_R) (pc : Nat) (ls st : List Value) (σ : rk_M) : Prop := rk_At g cX7_isWhole 7 (some .boolean) RX7 2 R pc ls st σ
def bX7_isWhole_164 (g : rk_G) (R : rk_R) : rk_K := (rk_zret R)
theorem eX7_isWhole_164 (g : rk_G) (R : rk_R) (ls st : List Value) (σ : rk_M) : bX7_isWhole_164 g R ls st σ = (rk_zret R) ls st σ := rfl
theorem oX7_isWhole_164 {g : rk_G} {R : rk_R} : aX7_isWhole g R 164 (bX7_isWhole_164 g R) := (rk_zret_ok rfl dX7_isWhole_164)
def bX7_isWhole_127 (g : rk_G) (R : rk_R) : rk_K := (rk_ior (rk_istore 3 (rk_iinc 5 (1) (kX7_isWhole g R 19))))
theorem eX7_isWhole_127 (g : rk_G) (R : rk_R) (ls st : List Value) (σ : rk_M) : bX7_isWhole_127 g R ls st σ = (rk_ior (rk_istore 3 (rk_iinc 5 (1) (kX7_isWhole g R 19)))) ls st σ := rfl
theorem oX7_isWhole_127 {g : rk_G} {R : rk_R} : aX7_isWhole g R 127 (bX7_isWhole_127 g R) := (rk_ior_ok dX7_isWhole_127 (rk_istore_n_ok dX7_isWhole_128 rfl (by decide) (rk_iinc_ok dX7_isWhole_129 (by decide) (by decide) (rk_goto_ok (pc' := 19) dX7_isWhole_132 (by decide) rk_cut_ok))))
def bX7_isWhole_108 (g : rk_G) (R : rk_R) : rk_K := (rk_ior (rk_istore 2 (rk_iload 3 (rk_iload 6 (rk_if_eq (rk_ci (0) (bX7_isWhole_127 g R)) (rk_aload 0 (rk_gR 7 14 (rk_iload 5 (rk_iald (bX7_isWhole_127 g R))))))))))
theorem eX7_isWhole_108 (g : rk_G) (R : rk_R) (ls st : List Value) (σ : rk_M) : bX7_isWhole_108 g R ls st σ = (rk_ior (rk_istore 2 (rk_iload 3 (rk_iload 6 (rk_if_eq (rk_ci (0) (bX7_isWhole_127 g R)) (rk_aload 0 (rk_gR 7 14 (rk_iload 5 (rk_iald (bX7_isWhole_127 g R)))))))))) ls st σ := rfl
theorem oX7_isWhole_108 {g : rk_G} {R : rk_R} : aX7_isWhole g R 108 (bX7_isWhole_108 g R) := (rk_ior_ok dX7_isWhole_108 (rk_istore_n_ok dX7_isWhole_109 rfl (by decide) (rk_iload_n_ok dX7_isWhole_110 rfl (rk_iload_ok dX7_isWhole_111 (rk_if_eq_ok (pc' := 126) dX7_isWhole_113 (by decide) (rk_iconst_ok dX7_isWhole_126 (by decide) oX7_isWhole_127) (rk_aload_n_ok dX7_isWhole_116 rfl (rk_gR_ok dX7_isWhole_117 rfl iX7 (by decide) rfl wfX7_37 (rk_iload_ok dX7_isWhole_120 (rk_iald_ok dX7_isWhole_122 (rk_goto_ok (pc' := 127) dX7_isWhole_123 (by decide) oX7_isWhole_127))))))))))
def bX7_isWhole_92 (g : rk_G) (R : rk_R) : rk_K := (rk_istore 6 (rk_iload 2 (rk_iload 6 (rk_if_eq (rk_ci (0) (bX7_isWhole_108 g R)) (rk_ci (1) (rk_iload 5 (rk_ishl (bX7_isWhole_108 g R))))))))
theorem eX7_isWhole_92 (g : rk_G) (R : rk_R) (ls st : List Value) (σ : rk_M) : bX7_isWhole_92 g R ls st σ = (rk_istore 6 (rk_iload 2 (rk_iload 6 (rk_if_eq (rk_ci (0) (bX7_isWhole_108 g R)) (rk_ci (1) (rk_iload 5 (rk_ishl (bX7_isWhole_108 g R)))))))) ls st σ := rfl
theorem oX7_isWhole_92 {g : rk_G} {R : rk_R} : aX7_isWhole g R 92 (bX7_isWhole_92 g R) := (rk_istore_ok dX7_isWhole_92 (by decide) (rk_iload_n_ok dX7_isWhole_94 rfl (rk_iload_ok dX7_isWhole_95 (rk_if_eq_ok (pc' := 107) dX7_isWhole_97 (by decide) (rk_iconst_ok dX7_isWhole_107 (by decide) oX7_isWhole_108) (rk_iconst_ok dX7_isWhole_100 (by decide) (rk_iload_ok dX7_isWhole_101 (rk_ishl_ok dX7_isWhole_103 (rk_goto_ok (pc' := 108) dX7_isWhole_104 (by decide) oX7_isWhole_108))))))))
def bX7_isWhole_91 (g : rk_G) (R : rk_R) : rk_K := (rk_ci (0) (bX7_isWhole_92 g R))
theorem eX7_isWhole_91 (g : rk_G) (R : rk_R) (ls st : List Value) (σ : rk_M) : bX7_isWhole_91 g R ls st σ = (rk_ci (0) (bX7_isWhole_92 g R)) ls st σ := rfl
theorem oX7_isWhole_91 {g : rk_G} {R : rk_R} : aX7_isWhole g R 91 (bX7_isWhole_91 g R) := (rk_iconst_ok dX7_isWhole_91 (by decide) oX7_isWhole_92)
def bX7_isWhole_87 (g : rk_G) (R : rk_R) : rk_K := (rk_ci (1) (bX7_isWhole_92 g R))
theorem eX7_isWhole_87 (g : rk_G) (R : rk_R) (ls st : List Value) (σ : rk_M) : bX7_isWhole_87 g R ls st σ = (rk_ci (1) (bX7_isWhole_92 g R)) ls st σ := rfl
theorem oX7_isWhole_87 {g : rk_G} {R : rk_R} : aX7_isWhole g R 87 (bX7_isWhole_87 g R) := (rk_iconst_ok dX7_isWhole_87 (by decide) (rk_goto_ok (pc' := 92) dX7_isWhole_88 (by decide) oX7_isWhole_92))
def bX7_isWhole_19 (g : rk_G) (R : rk_R) : rk_K := (rk_iload 5 (rk_aload 0 (rk_gI 7 11 (rk_icmp_ge (rk_iinc 4 (1) (kX7_isWhole g R 7)) (rk_iload 5 (rk_iload 1 (rk_icmp_eq (bX7_isWhole_91 g R) (rk_aload 0 (rk_gI 7 24 (rk_iload 5 (rk_cS g 2 yX7_isIn cX7_isIn 2 (some .boolean) 0 (rk_if_eq (bX7_isWhole_91 g R) (rk_aload 0 (rk_gR 7 22 (rk_iload 5 (rk_iald (rk_aload 0 (rk_gR 7 22 (rk_iload 1 (rk_iald (rk_icmp_ne (bX7_isWhole_91 g R) (rk_iload 2 (rk_iload 5 (rk_cS g 2 yX7_isIn cX7_isIn 2 (some .boolean) 0 (rk_if_ne (bX7_isWhole_91 g R) (rk_iload 2 (rk_if_eq (bX7_isWhole_87 g R) (rk_aload 0 (rk_gR 7 14 (rk_iload 5 (rk_iald (rk_iload 3 (rk_iand (rk_if_eq (bX7_isWhole_91 g R) (bX7_isWhole_87 g R)))))))))))))))))))))))))))))))))))
theorem eX7_isWhole_19 (g : rk_G) (R : rk_R) (ls st : List Value) (σ : rk_M) : bX7_isWhole_19 g R ls st σ = (rk_iload 5 (rk_aload 0 (rk_gI 7 11 (rk_icmp_ge (rk_iinc 4 (1) (kX7_isWhole g R 7)) (rk_iload 5 (rk_iload 1 (rk_icmp_eq (bX7_isWhole_91 g R) (rk_aload 0 (rk_gI 7 24 (rk_iload 5 (rk_cS g 2 yX7_isIn cX7_isIn 2 (some .boolean) 0 (rk_if_eq (bX7_isWhole_91 g R) (rk_aload 0 (rk_gR 7 22 (rk_iload 5 (rk_iald (rk_aload 0 (rk_gR 7 22 (rk_iload 1 (rk_iald (rk_icmp_ne (bX7_isWhole_91 g R) (rk_iload 2 (rk_iload 5 (rk_cS g 2 yX7_isIn cX7_isIn 2 (some .boolean) 0 (rk_if_ne (bX7_isWhole_91 g R) (rk_iload 2 (rk_if_eq (bX7_isWhole_87 g R) (rk_aload 0 (rk_gR 7 14 (rk_iload 5 (rk_iald (rk_iload 3 (rk_iand (rk_if_eq (bX7_isWhole_91 g R) (bX7_isWhole_87 g R))))))))))))))))))))))))))))))))))) ls st σ := rfl
theorem oX7_isWhole_19 {g : rk_G} {R : rk_R} : aX7_isWhole g R 19 (bX7_isWhole_19 g R) := (rk_iload_ok dX7_isWhole_19 (rk_aload_n_ok dX7_isWhole_21 rfl (rk_gI_ok dX7_isWhole_22 rfl iX7 (by decide) rfl wfX7_165 (rk_icmp_ge_ok (pc' := 135) dX7_isWhole_25 (by decide) (rk_iinc_ok dX7_isWhole_135 (by decide) (by decide) (rk_goto_ok (pc' := 7) dX7_isWhole_138 (by decide) rk_cut_ok)) (rk_iload_ok dX7_isWhole_28 (rk_iload_n_ok dX7_isWhole_30 rfl (rk_icmp_eq_ok (pc' := 91) dX7_isWhole_31 (by decide) oX7_isWhole_91 (rk_aload_n_ok dX7_isWhole_34 rfl (rk_gI_ok dX7_isWhole_35 rfl iX7 (by decide) rfl wfX7_231 (rk_iload_ok dX7_isWhole_38 (rk_cS_ok dX7_isWhole_40 npX7_isIn wmX7_204 wtX7_isIn wiX7 wdX7_isIn (by decide) (by decide) (rk_if_eq_ok (pc' := 91) dX7_isWhole_43 (by decide) oX7_isWhole_91 (rk_aload_n_ok dX7_isWhole_46 rfl (rk_gR_ok dX7_isWhole_47 rfl iX7 (by decide) rfl wfX7_55 (rk_iload_ok dX7_isWhole_50 (rk_iald_ok dX7_isWhole_52 (rk_aload_n_ok dX7_isWhole_53 rfl (rk_gR_ok dX7_isWhole_54 rfl iX7 (by decide) rfl wfX7_55 (rk_iload_n_ok dX7_isWhole_57 rfl (rk_iald_ok dX7_isWhole_58 (rk_icmp_ne_ok (pc' := 91) dX7_isWhole_59 (by decide) oX7_isWhole_91 (rk_iload_n_ok dX7_isWhole_62 rfl (rk_iload_ok dX7_isWhole_63 (rk_cS_ok dX7_isWhole_65 npX7_isIn wmX7_204 wtX7_isIn wiX7 wdX7_isIn (by decide) (by decide) (rk_if_ne_ok (pc' := 91) dX7_isWhole_68 (by decide) oX7_isWhole_91 (rk_iload_n_ok dX7_isWhole_71 rfl (rk_if_eq_ok (pc' := 87) dX7_isWhole_72 (by decide) oX7_isWhole_87 (rk_aload_n_ok dX7_isWhole_75 rfl (rk_gR_ok dX7_isWhole_76 rfl iX7 (by decide) rfl wfX7_37 (rk_iload_ok dX7_isWhole_79 (rk_iald_ok dX7_isWhole_81 (rk_iload_n_ok dX7_isWhole_82 rfl (rk_iand_ok dX7_isWhole_83 (rk_if_eq_ok (pc' := 91) dX7_isWhole_84 (by decide) oX7_isWhole_91 oX7_isWhole_87))))))))))))))))))))))))))))))))))
def bX7_isWhole_7 (g : rk_G) (R : rk_R) : rk_K := (rk_iload 4 (rk_aload 0 (rk_gI 7 11 (rk_icmp_gt (rk_iload 2 (rk_cS g 1 yX7_many cX7_many 3 (some .int) 1 (rk_aload 0 (rk_aload 0 (rk_gR 7 22 (rk_iload 1 (rk_iald (rk_iload 1 (rk_cV g 2 7 yX7_leftOf cX7_leftOf 5 (some .int) 1 (rk_icmp_ne (rk_ci (0) (bX7_isWhole_164 g R)) (rk_ci (1) (bX7_isWhole_164 g R)))))))))))) (rk_ci (0) (rk_istore 5 (kX7_isWhole g R 19)))))))
theorem eX7_isWhole_7 (g : rk_G) (R : rk_R) (ls st : List Value) (σ : rk_M) : bX7_isWhole_7 g R ls st σ = (rk_iload 4 (rk_aload 0 (rk_gI 7 11 (rk_icmp_gt (rk_iload 2 (rk_cS g 1 yX7_many cX7_many 3 (some .int) 1 (rk_aload 0 (rk_aload 0 (rk_gR 7 22 (rk_iload 1 (rk_iald (rk_iload 1 (rk_cV g 2 7 yX7_leftOf cX7_leftOf 5 (some .int) 1 (rk_icmp_ne (rk_ci (0) (bX7_isWhole_164 g R)) (rk_ci (1) (bX7_isWhole_164 g R)))))))))))) (rk_ci (0) (rk_istore 5 (kX7_isWhole g R 19))))))) ls st σ := rfl
theorem oX7_isWhole_7 {g : rk_G} {R : rk_R} : aX7_isWhole g R 7 (bX7_isWhole_7 g R) := (rk_iload_ok dX7_isWhole_7 (rk_aload_n_ok dX7_isWhole_9 rfl (rk_gI_ok dX7_isWhole_10 rfl iX7 (by decide) rfl wfX7_165 (rk_icmp_gt_ok (pc' := 141) dX7_isWhole_13 (by decide) (rk_iload_n_ok dX7_isWhole_141 rfl (rk_cS_ok dX7_isWhole_142 npX7_many wmX7_207 wtX7_many wiX7 wdX7_many (by decide) (by decide) (rk_aload_n_ok dX7_isWhole_145 rfl (rk_aload_n_ok dX7_isWhole_146 rfl (rk_gR_ok dX7_isWhole_147 rfl iX7 (by decide) rfl wfX7_55 (rk_iload_n_ok dX7_isWhole_150 rfl (rk_iald_ok dX7_isWhole_151 (rk_iload_n_ok dX7_isWhole_152 rfl (rk_cV_ok dX7_isWhole_153 rfl rfl npX7_leftOf wmX7_237 wvX7_leftOf weX7_leftOf wiX7 wdX7_leftOf (by decide) (by decide) (rk_icmp_ne_ok (pc' := 163) dX7_isWhole_156 (by decide) (rk_iconst_ok dX7_isWhole_163 (by decide) oX7_isWhole_164) (rk_iconst_ok dX7_isWhole_159 (by decide) (rk_goto_ok (pc' := 164) dX7_isWhole_160 (by decide) oX7_isWhole_164)))))))))))) (rk_iconst_ok dX7_isWhole_16 (by decide) (rk_istore_ok dX7_isWhole_17 (by decide) rk_cut_ok))))))
def bX7_isWhole_0 (g : rk_G) (R : rk_R) : rk_K := (rk_ci (0) (rk_istore 2 (rk_ci (0) (rk_istore 3 (rk_ci (0) (rk_istore 4 (kX7_isWhole g R 7)))))))
theorem eX7_isWhole_0 (g : rk_G) (R : rk_R) (ls st : List Value) (σ : rk_M) : bX7_isWhole_0 g R ls st σ = (rk_ci (0) (rk_istore 2 (rk_ci (0) (rk_istore 3 (rk_ci (0) (rk_istore 4 (kX7_isWhole g R 7))))))) ls st σ := rfl
theorem oX7_isWhole_0 {g : rk_G} {R : rk_R} : aX7_isWhole g R 0 (bX7_isWhole_0 g R) := (rk_iconst_ok dX7_isWhole_0 (by decide) (rk_istore_n_ok dX7_isWhole_1 rfl (by decide) (rk_iconst_ok dX7_isWhole_2 (by decide) (rk_istore_n_ok dX7_isWhole_3 rfl (by decide) (rk_iconst_ok dX7_isWhole_4 (by decide) (rk_istore_ok dX7_isWhole_5 (by decide) rk_cut_ok))))))
theorem dX7_sheet_0 : decode cX7_sheet 0 = .ok (.iload_n 1, 1) := by decide +kernel
theorem dX7_sheet_1 : decode cX7_sheet 1 = .ok (.invokestatic 105, 3) := by decide +kernel
theorem dX7_sheet_4 : decode cX7_sheet 4 = .ok (.ifCond .eq 18, 3) := by decide +kernel
theorem dX7_sheet_7 : decode cX7_sheet 7 = .ok (.iload_n 2, 1) := by decide +kernel
theorem dX7_sheet_8 : decode cX7_sheet 8 = .ok (.iconst 0, 1) := by decide +kernel
theorem dX7_sheet_9 : decode cX7_sheet 9 = .ok (.iconst 2, 1) := by decide +kernel
theorem dX7_sheet_10 : decode cX7_sheet 10 = .ok (.invokestatic 81, 3) := by decide +kernel
theorem dX7_sheet_13 : decode cX7_sheet 13 = .ok (.ifCond .eq 9, 3) := by decide +kernel
theorem dX7_sheet_16 : decode cX7_sheet 16 = .ok (.iload_n 3, 1) := by decide +kernel
theorem dX7_sheet_17 : decode cX7_sheet 17 = .ok (.bipush 60, 2) := by decide +kernel
theorem dX7_sheet_19 : decode cX7_sheet 19 = .ok (.if_icmp .le 6, 3) := by decide +kernel
theorem dX7_sheet_22 : decode cX7_sheet 22 = .ok (.bipush (-2), 2) := by decide +kernel
theorem dX7_sheet_24 : decode cX7_sheet 24 = .ok (.ireturn, 1) := by decide +kernel
theorem dX7_sheet_25 : decode cX7_sheet 25 = .ok (.iload_n 3, 1) := by decide +kernel
theorem dX7_sheet_26 : decode cX7_sheet 26 = .ok (.ifCond .ge 9, 3) := by decide +kernel
theorem dX7_sheet_29 : decode cX7_sheet 29 = .ok (.aload_n 0, 1) := by decide +kernel
theorem dX7_sheet_30 : decode cX7_sheet 30 = .ok (.iconst 5, 1) := by decide +kernel
theorem dX7_sheet_31 : decode cX7_sheet 31 = .ok (.invokevirtual 108, 3) := by decide +kernel
theorem dX7_sheet_34 : decode cX7_sheet 34 = .ok (.ireturn, 1) := by decide +kernel
theorem dX7_sheet_35 : decode cX7_sheet 35 = .ok (.aload_n 0, 1) := by decide +kernel
theorem dX7_sheet_36 : decode cX7_sheet 36 = .ok (.getfield 61, 3) := by decide +kernel
theorem dX7_sheet_39 : decode cX7_sheet 39 = .ok (.iload_n 1, 1) := by decide +kernel
theorem dX7_sheet_40 : decode cX7_sheet 40 = .ok (.iconst 1, 1) := by decide +kernel
theorem dX7_sheet_41 : decode cX7_sheet 41 = .ok (.bastore, 1) := by decide +kernel
theorem dX7_sheet_42 : decode cX7_sheet 42 = .ok (.aload_n 0, 1) := by decide +kernel
theorem dX7_sheet_43 : decode cX7_sheet 43 = .ok (.getfield 65, 3) := by decide +kernel
theorem dX7_sheet_46 : decode cX7_sheet 46 = .ok (.iload_n 1, 1) := by decide +kernel
theorem dX7_sheet_47 : decode cX7_sheet 47 = .ok (.iload_n 2, 1) := by decide +kernel
theorem dX7_sheet_48 : decode cX7_sheet 48 = .ok (.iastore, 1) := by decide +kernel
theorem dX7_sheet_49 : decode cX7_sheet 49 = .ok (.aload_n 0, 1) := by decide +kernel
theorem dX7_sheet_50 : decode cX7_sheet 50 = .ok (.getfield 68, 3) := by decide +kernel
theorem dX7_sheet_53 : decode cX7_sheet 53 = .ok (.iload_n 1, 1) := by decide +kernel
theorem dX7_sheet_54 : decode cX7_sheet 54 = .ok (.iload_n 3, 1) := by decide +kernel
theorem dX7_sheet_55 : decode cX7_sheet 55 = .ok (.iastore, 1) := by decide +kernel
theorem dX7_sheet_56 : decode cX7_sheet 56 = .ok (.iconst 0, 1) := by decide +kernel
theorem dX7_sheet_57 : decode cX7_sheet 57 = .ok (.istore 4, 2) := by decide +kernel
theorem dX7_sheet_59 : decode cX7_sheet 59 = .ok (.iload 4, 2) := by decide +kernel
theorem dX7_sheet_61 : decode cX7_sheet 61 = .ok (.bipush 60, 2) := by decide +kernel
theorem dX7_sheet_63 : decode cX7_sheet 63 = .ok (.if_icmp .ge 22, 3) := by decide +kernel
theorem dX7_sheet_66 : decode cX7_sheet 66 = .ok (.aload_n 0, 1) := by decide +kernel
theorem dX7_sheet_67 : decode cX7_sheet 67 = .ok (.getfield 71, 3) := by decide +kernel
theorem dX7_sheet_70 : decode cX7_sheet 70 = .ok (.bipush 60, 2) := by decide +kernel
theorem dX7_sheet_72 : decode cX7_sheet 72 = .ok (.iload_n 1, 1) := by decide +kernel
theorem dX7_sheet_73 : decode cX7_sheet 73 = .ok (.imul, 1) := by decide +kernel
theorem dX7_sheet_74 : decode cX7_sheet 74 = .ok (.iload 4, 2) := by decide +kernel
theorem dX7_sheet_76 : decode cX7_sheet 76 = .ok (.iadd, 1) := by decide +kernel
theorem dX7_sheet_77 : decode cX7_sheet 77 = .ok (.iconst 0, 1) := by decide +kernel
theorem dX7_sheet_78 : decode cX7_sheet 78 = .ok (.iastore, 1) := by decide +kernel
theorem dX7_sheet_79 : decode cX7_sheet 79 = .ok (.iinc 4 1, 3) := by decide +kernel
theorem dX7_sheet_82 : decode cX7_sheet 82 = .ok (.goto (-23), 3) := by decide +kernel
theorem dX7_sheet_85 : decode cX7_sheet 85 = .ok (.iload_n 3, 1) := by decide +kernel
theorem dX7_sheet_86 : decode cX7_sheet 86 = .ok (.ireturn, 1) := by decide +kernel
abbrev kX7_sheet (g : rk_G) (R : rk_R) (pc : Nat) : rk_K := rk_cut g cX7_sheet 5 (some .int) RX7 2 R pc
abbrev aX7_sheet (g : rk_G) (R : rk_R) (pc : Nat) (K : rk_K) : Prop := rk_AK g cX7_sheet 5 (some .int) RX7 2 R pc K
abbrev sX7_sheet (g : rk_G) (vs : List Value) (σ : rk_M) (R : rk_R) : Prop := rk_does g yX7_sheet cX7_sheet 5 (some .int) 2 vs σ R
abbrev tX7_sheet (g : rk_G) (R : rk_R) (pc : Nat) (ls st : List Value) (σ : rk_M) : Prop := rk_At g cX7_sheet 5 (some .int) RX7 2 R pc ls st σ
def bX7_sheet_59 (g : rk_G) (R : rk_R) : rk_K := (rk_iload 4 (rk_ci (60) (rk_icmp_ge (rk_iload 3 (rk_iret R)) (rk_aload 0 (rk_gR 7 30 (rk_ci (60) (rk_iload 1 (rk_imul (rk_iload 4 (rk_iadd (rk_ci (0) (rk_iast (rk_iinc 4 (1) (kX7_sheet g R 59))))))))))))))
theorem eX7_sheet_59 (g : rk_G) (R : rk_R) (ls st : List Value) (σ : rk_M) : bX7_sheet_59 g R ls st σ = (rk_iload 4 (rk_ci (60) (rk_icmp_ge (rk_iload 3 (rk_iret R)) (rk_aload 0 (rk_gR 7 30 (rk_ci (60) (rk_iload 1 (rk_imul (rk_iload 4 (rk_iadd (rk_ci (0) (rk_iast (rk_iinc 4 (1) (kX7_sheet g R 59)))))))))))))) ls st σ := rfl
theorem oX7_sheet_59 {g : rk_G} {R : rk_R} : aX7_sheet g R 59 (bX7_sheet_59 g R) := (rk_iload_ok dX7_sheet_59 (rk_bipush_ok dX7_sheet_61 (by decide) (rk_icmp_ge_ok (pc' := 85) dX7_sheet_63 (by decide) (rk_iload_n_ok dX7_sheet_85 rfl (rk_iret_ok rfl dX7_sheet_86)) (rk_aload_n_ok dX7_sheet_66 rfl (rk_gR_ok dX7_sheet_67 rfl iX7 (by decide) rfl wfX7_71 (rk_bipush_ok dX7_sheet_70 (by decide) (rk_iload_n_ok dX7_sheet_72 rfl (rk_imul_ok dX7_sheet_73 (rk_iload_ok dX7_sheet_74 (rk_iadd_ok dX7_sheet_76 (rk_iconst_ok dX7_sheet_77 (by decide) (rk_iast_ok dX7_sheet_78 (rk_iinc_ok dX7_sheet_79 (by decide) (by decide) (rk_goto_ok (pc' := 59) dX7_sheet_82 (by decide) rk_cut_ok))))))))))))))
def bX7_sheet_22 (g : rk_G) (R : rk_R) : rk_K := (rk_ci (-2) (rk_iret R))
theorem eX7_sheet_22 (g : rk_G) (R : rk_R) (ls st : List Value) (σ : rk_M) : bX7_sheet_22 g R ls st σ = (rk_ci (-2) (rk_iret R)) ls st σ := rfl
theorem oX7_sheet_22 {g : rk_G} {R : rk_R} : aX7_sheet g R 22 (bX7_sheet_22 g R) := (rk_bipush_ok dX7_sheet_22 (by decide) (rk_iret_ok rfl dX7_sheet_24))
def bX7_sheet_0 (g : rk_G) (R : rk_R) : rk_K := (rk_iload 1 (rk_cS g 1 yX7_isSheet cX7_isSheet 1 (some .boolean) 1 (rk_if_eq (bX7_sheet_22 g R) (rk_iload 2 (rk_ci (0) (rk_ci (2) (rk_cS g 3 yX7_in cX7_in 3 (some .boolean) 0 (rk_if_eq (bX7_sheet_22 g R) (rk_iload 3 (rk_ci (60) (rk_icmp_le (rk_iload 3 (rk_if_ge (rk_aload 0 (rk_gR 7 27 (rk_iload 1 (rk_ci (1) (rk_zast (rk_aload 0 (rk_gR 7 28 (rk_iload 1 (rk_iload 2 (rk_iast (rk_aload 0 (rk_gR 7 29 (rk_iload 1 (rk_iload 3 (rk_iast (rk_ci (0) (rk_istore 4 (kX7_sheet g R 59)))))))))))))))))) (rk_aload 0 (rk_ci (5) (rk_cV g 1 7 yX7_meets cX7_meets 2 (some .int) 0 (rk_iret R)))))) (bX7_sheet_22 g R))))))))))))
theorem eX7_sheet_0 (g : rk_G) (R : rk_R) (ls st : List Value) (σ : rk_M) : bX7_sheet_0 g R ls st σ = (rk_iload 1 (rk_cS g 1 yX7_isSheet cX7_isSheet 1 (some .boolean) 1 (rk_if_eq (bX7_sheet_22 g R) (rk_iload 2 (rk_ci (0) (rk_ci (2) (rk_cS g 3 yX7_in cX7_in 3 (some .boolean) 0 (rk_if_eq (bX7_sheet_22 g R) (rk_iload 3 (rk_ci (60) (rk_icmp_le (rk_iload 3 (rk_if_ge (rk_aload 0 (rk_gR 7 27 (rk_iload 1 (rk_ci (1) (rk_zast (rk_aload 0 (rk_gR 7 28 (rk_iload 1 (rk_iload 2 (rk_iast (rk_aload 0 (rk_gR 7 29 (rk_iload 1 (rk_iload 3 (rk_iast (rk_ci (0) (rk_istore 4 (kX7_sheet g R 59)))))))))))))))))) (rk_aload 0 (rk_ci (5) (rk_cV g 1 7 yX7_meets cX7_meets 2 (some .int) 0 (rk_iret R)))))) (bX7_sheet_22 g R)))))))))))) ls st σ := rfl
theorem oX7_sheet_0 {g : rk_G} {R : rk_R} : aX7_sheet g R 0 (bX7_sheet_0 g R) := (rk_iload_n_ok dX7_sheet_0 rfl (rk_cS_ok dX7_sheet_1 npX7_isSheet wmX7_105 wtX7_isSheet wiX7 wdX7_isSheet (by decide) (by decide) (rk_if_eq_ok (pc' := 22) dX7_sheet_4 (by decide) oX7_sheet_22 (rk_iload_n_ok dX7_sheet_7 rfl (rk_iconst_ok dX7_sheet_8 (by decide) (rk_iconst_ok dX7_sheet_9 (by decide) (rk_cS_ok dX7_sheet_10 npX7_in wmX7_81 wtX7_in wiX7 wdX7_in (by decide) (by decide) (rk_if_eq_ok (pc' := 22) dX7_sheet_13 (by decide) oX7_sheet_22 (rk_iload_n_ok dX7_sheet_16 rfl (rk_bipush_ok dX7_sheet_17 (by decide) (rk_icmp_le_ok (pc' := 25) dX7_sheet_19 (by decide) (rk_iload_n_ok dX7_sheet_25 rfl (rk_if_ge_ok (pc' := 35) dX7_sheet_26 (by decide) (rk_aload_n_ok dX7_sheet_35 rfl (rk_gR_ok dX7_sheet_36 rfl iX7 (by decide) rfl wfX7_61 (rk_iload_n_ok dX7_sheet_39 rfl (rk_iconst_ok dX7_sheet_40 (by decide) (rk_zast_ok dX7_sheet_41 (rk_aload_n_ok dX7_sheet_42 rfl (rk_gR_ok dX7_sheet_43 rfl iX7 (by decide) rfl wfX7_65 (rk_iload_n_ok dX7_sheet_46 rfl (rk_iload_n_ok dX7_sheet_47 rfl (rk_iast_ok dX7_sheet_48 (rk_aload_n_ok dX7_sheet_49 rfl (rk_gR_ok dX7_sheet_50 rfl iX7 (by decide) rfl wfX7_68 (rk_iload_n_ok dX7_sheet_53 rfl (rk_iload_n_ok dX7_sheet_54 rfl (rk_iast_ok dX7_sheet_55 (rk_iconst_ok dX7_sheet_56 (by decide) (rk_istore_ok dX7_sheet_57 (by decide) rk_cut_ok))))))))))))))))) (rk_aload_n_ok dX7_sheet_29 rfl (rk_iconst_ok dX7_sheet_30 (by decide) (rk_cV_ok dX7_sheet_31 rfl rfl npX7_meets wmX7_108 wvX7_meets weX7_meets wiX7 wdX7_meets (by decide) (by decide) (rk_iret_ok rfl dX7_sheet_34)))))) oX7_sheet_22)))))))))))
theorem dX7_lose_0 : decode cX7_lose 0 = .ok (.iload_n 1, 1) := by decide +kernel
theorem dX7_lose_1 : decode cX7_lose 1 = .ok (.invokestatic 105, 3) := by decide +kernel
theorem dX7_lose_4 : decode cX7_lose 4 = .ok (.ifCond .ne 6, 3) := by decide +kernel
theorem dX7_lose_7 : decode cX7_lose 7 = .ok (.bipush (-2), 2) := by decide +kernel
theorem dX7_lose_9 : decode cX7_lose 9 = .ok (.ireturn, 1) := by decide +kernel
theorem dX7_lose_10 : decode cX7_lose 10 = .ok (.aload_n 0, 1) := by decide +kernel
theorem dX7_lose_11 : decode cX7_lose 11 = .ok (.getfield 61, 3) := by decide +kernel
theorem dX7_lose_14 : decode cX7_lose 14 = .ok (.iload_n 1, 1) := by decide +kernel
theorem dX7_lose_15 : decode cX7_lose 15 = .ok (.baload, 1) := by decide +kernel
theorem dX7_lose_16 : decode cX7_lose 16 = .ok (.ifCond .ne 9, 3) := by decide +kernel
theorem dX7_lose_19 : decode cX7_lose 19 = .ok (.aload_n 0, 1) := by decide +kernel
theorem dX7_lose_20 : decode cX7_lose 20 = .ok (.iconst 1, 1) := by decide +kernel
theorem dX7_lose_21 : decode cX7_lose 21 = .ok (.invokevirtual 108, 3) := by decide +kernel
theorem dX7_lose_24 : decode cX7_lose 24 = .ok (.ireturn, 1) := by decide +kernel
theorem dX7_lose_25 : decode cX7_lose 25 = .ok (.aload_n 0, 1) := by decide +kernel
theorem dX7_lose_26 : decode cX7_lose 26 = .ok (.getfield 61, 3) := by decide +kernel
theorem dX7_lose_29 : decode cX7_lose 29 = .ok (.iload_n 1, 1) := by decide +kernel
theorem dX7_lose_30 : decode cX7_lose 30 = .ok (.iconst 0, 1) := by decide +kernel
theorem dX7_lose_31 : decode cX7_lose 31 = .ok (.bastore, 1) := by decide +kernel
theorem dX7_lose_32 : decode cX7_lose 32 = .ok (.aload_n 0, 1) := by decide +kernel
theorem dX7_lose_33 : decode cX7_lose 33 = .ok (.getfield 68, 3) := by decide +kernel
theorem dX7_lose_36 : decode cX7_lose 36 = .ok (.iload_n 1, 1) := by decide +kernel
theorem dX7_lose_37 : decode cX7_lose 37 = .ok (.iaload, 1) := by decide +kernel
theorem dX7_lose_38 : decode cX7_lose 38 = .ok (.ireturn, 1) := by decide +kernel
abbrev kX7_lose (g : rk_G) (R : rk_R) (pc : Nat) : rk_K := rk_cut g cX7_lose 2 (some .int) RX7 2 R pc
abbrev aX7_lose (g : rk_G) (R : rk_R) (pc : Nat) (K : rk_K) : Prop := rk_AK g cX7_lose 2 (some .int) RX7 2 R pc K
abbrev sX7_lose (g : rk_G) (vs : List Value) (σ : rk_M) (R : rk_R) : Prop := rk_does g yX7_lose cX7_lose 2 (some .int) 2 vs σ R
abbrev tX7_lose (g : rk_G) (R : rk_R) (pc : Nat) (ls st : List Value) (σ : rk_M) : Prop := rk_At g cX7_lose 2 (some .int) RX7 2 R pc ls st σ
def bX7_lose_0 (g : rk_G) (R : rk_R) : rk_K := (rk_iload 1 (rk_cS g 1 yX7_isSheet cX7_isSheet 1 (some .boolean) 1 (rk_if_ne (rk_aload 0 (rk_gR 7 27 (rk_iload 1 (rk_zald (rk_if_ne (rk_aload 0 (rk_gR 7 27 (rk_iload 1 (rk_ci (0) (rk_zast (rk_aload 0 (rk_gR 7 29 (rk_iload 1 (rk_iald (rk_iret R)))))))))) (rk_aload 0 (rk_ci (1) (rk_cV g 1 7 yX7_meets cX7_meets 2 (some .int) 0 (rk_iret R))))))))) (rk_ci (-2) (rk_iret R)))))
theorem eX7_lose_0 (g : rk_G) (R : rk_R) (ls st : List Value) (σ : rk_M) : bX7_lose_0 g R ls st σ = (rk_iload 1 (rk_cS g 1 yX7_isSheet cX7_isSheet 1 (some .boolean) 1 (rk_if_ne (rk_aload 0 (rk_gR 7 27 (rk_iload 1 (rk_zald (rk_if_ne (rk_aload 0 (rk_gR 7 27 (rk_iload 1 (rk_ci (0) (rk_zast (rk_aload 0 (rk_gR 7 29 (rk_iload 1 (rk_iald (rk_iret R)))))))))) (rk_aload 0 (rk_ci (1) (rk_cV g 1 7 yX7_meets cX7_meets 2 (some .int) 0 (rk_iret R))))))))) (rk_ci (-2) (rk_iret R))))) ls st σ := rfl
theorem oX7_lose_0 {g : rk_G} {R : rk_R} : aX7_lose g R 0 (bX7_lose_0 g R) := (rk_iload_n_ok dX7_lose_0 rfl (rk_cS_ok dX7_lose_1 npX7_isSheet wmX7_105 wtX7_isSheet wiX7 wdX7_isSheet (by decide) (by decide) (rk_if_ne_ok (pc' := 10) dX7_lose_4 (by decide) (rk_aload_n_ok dX7_lose_10 rfl (rk_gR_ok dX7_lose_11 rfl iX7 (by decide) rfl wfX7_61 (rk_iload_n_ok dX7_lose_14 rfl (rk_zald_ok dX7_lose_15 (rk_if_ne_ok (pc' := 25) dX7_lose_16 (by decide) (rk_aload_n_ok dX7_lose_25 rfl (rk_gR_ok dX7_lose_26 rfl iX7 (by decide) rfl wfX7_61 (rk_iload_n_ok dX7_lose_29 rfl (rk_iconst_ok dX7_lose_30 (by decide) (rk_zast_ok dX7_lose_31 (rk_aload_n_ok dX7_lose_32 rfl (rk_gR_ok dX7_lose_33 rfl iX7 (by decide) rfl wfX7_68 (rk_iload_n_ok dX7_lose_36 rfl (rk_iald_ok dX7_lose_37 (rk_iret_ok rfl dX7_lose_38)))))))))) (rk_aload_n_ok dX7_lose_19 rfl (rk_iconst_ok dX7_lose_20 (by decide) (rk_cV_ok dX7_lose_21 rfl rfl npX7_meets wmX7_108 wvX7_meets weX7_meets wiX7 wdX7_meets (by decide) (by decide) (rk_iret_ok rfl dX7_lose_24))))))))) (rk_bipush_ok dX7_lose_7 (by decide) (rk_iret_ok rfl dX7_lose_9)))))
theorem dX7_put_0 : decode cX7_put 0 = .ok (.iload_n 1, 1) := by decide +kernel
theorem dX7_put_1 : decode cX7_put 1 = .ok (.invokestatic 105, 3) := by decide +kernel
theorem dX7_put_4 : decode cX7_put 4 = .ok (.ifCond .eq 12, 3) := by decide +kernel
theorem dX7_put_7 : decode cX7_put 7 = .ok (.iload_n 2, 1) := by decide +kernel
theorem dX7_put_8 : decode cX7_put 8 = .ok (.iconst 0, 1) := by decide +kernel
theorem dX7_put_9 : decode cX7_put 9 = .ok (.iconst 2, 1) := by decide +kernel
theorem dX7_put_10 : decode cX7_put 10 = .ok (.invokestatic 81, 3) := by decide +kernel
theorem dX7_put_13 : decode cX7_put 13 = .ok (.ifCond .ne 6, 3) := by decide +kernel
theorem dX7_put_16 : decode cX7_put 16 = .ok (.bipush (-2), 2) := by decide +kernel
theorem dX7_put_18 : decode cX7_put 18 = .ok (.ireturn, 1) := by decide +kernel
theorem dX7_put_19 : decode cX7_put 19 = .ok (.aload_n 0, 1) := by decide +kernel
theorem dX7_put_20 : decode cX7_put 20 = .ok (.iload_n 1, 1) := by decide +kernel
theorem dX7_put_21 : decode cX7_put 21 = .ok (.iload_n 2, 1) := by decide +kernel
theorem dX7_put_22 : decode cX7_put 22 = .ok (.iload_n 3, 1) := by decide +kernel
theorem dX7_put_23 : decode cX7_put 23 = .ok (.invokevirtual 274, 3) := by decide +kernel
theorem dX7_put_26 : decode cX7_put 26 = .ok (.istore 5, 2) := by decide +kernel
theorem dX7_put_28 : decode cX7_put 28 = .ok (.iload 5, 2) := by decide +kernel
theorem dX7_put_30 : decode cX7_put 30 = .ok (.ifCond .le 10, 3) := by decide +kernel
theorem dX7_put_33 : decode cX7_put 33 = .ok (.aload_n 0, 1) := by decide +kernel
theorem dX7_put_34 : decode cX7_put 34 = .ok (.iload 5, 2) := by decide +kernel
theorem dX7_put_36 : decode cX7_put 36 = .ok (.invokevirtual 108, 3) := by decide +kernel
theorem dX7_put_39 : decode cX7_put 39 = .ok (.ireturn, 1) := by decide +kernel
theorem dX7_put_40 : decode cX7_put 40 = .ok (.aload_n 0, 1) := by decide +kernel
theorem dX7_put_41 : decode cX7_put 41 = .ok (.iload_n 1, 1) := by decide +kernel
theorem dX7_put_42 : decode cX7_put 42 = .ok (.iload_n 3, 1) := by decide +kernel
theorem dX7_put_43 : decode cX7_put 43 = .ok (.iload 4, 2) := by decide +kernel
theorem dX7_put_45 : decode cX7_put 45 = .ok (.invokevirtual 277, 3) := by decide +kernel
theorem dX7_put_48 : decode cX7_put 48 = .ok (.iconst 1, 1) := by decide +kernel
theorem dX7_put_49 : decode cX7_put 49 = .ok (.ireturn, 1) := by decide +kernel
abbrev kX7_put (g : rk_G) (R : rk_R) (pc : Nat) : rk_K := rk_cut g cX7_put 6 (some .int) RX7 2 R pc
abbrev aX7_put (g : rk_G) (R : rk_R) (pc : Nat) (K : rk_K) : Prop := rk_AK g cX7_put 6 (some .int) RX7 2 R pc K
abbrev sX7_put (g : rk_G) (vs : List Value) (σ : rk_M) (R : rk_R) : Prop := rk_does g yX7_put cX7_put 6 (some .int) 2 vs σ R
abbrev tX7_put (g : rk_G) (R : rk_R) (pc : Nat) (ls st : List Value) (σ : rk_M) : Prop := rk_At g cX7_put 6 (some .int) RX7 2 R pc ls st σ
def bX7_put_16 (g : rk_G) (R : rk_R) : rk_K := (rk_ci (-2) (rk_iret R))
theorem eX7_put_16 (g : rk_G) (R : rk_R) (ls st : List Value) (σ : rk_M) : bX7_put_16 g R ls st σ = (rk_ci (-2) (rk_iret R)) ls st σ := rfl
theorem oX7_put_16 {g : rk_G} {R : rk_R} : aX7_put g R 16 (bX7_put_16 g R) := (rk_bipush_ok dX7_put_16 (by decide) (rk_iret_ok rfl dX7_put_18))
def bX7_put_0 (g : rk_G) (R : rk_R) : rk_K := (rk_iload 1 (rk_cS g 1 yX7_isSheet cX7_isSheet 1 (some .boolean) 1 (rk_if_eq (bX7_put_16 g R) (rk_iload 2 (rk_ci (0) (rk_ci (2) (rk_cS g 3 yX7_in cX7_in 3 (some .boolean) 0 (rk_if_ne (rk_aload 0 (rk_iload 1 (rk_iload 2 (rk_iload 3 (rk_cV g 3 7 yX7_lacks cX7_lacks 4 (some .int) 1 (rk_istore 5 (rk_iload 5 (rk_if_le (rk_aload 0 (rk_iload 1 (rk_iload 3 (rk_iload 4 (rk_cV g 3 7 yX7_keep cX7_keep 4 none 0 (rk_ci (1) (rk_iret R))))))) (rk_aload 0 (rk_iload 5 (rk_cV g 1 7 yX7_meets cX7_meets 2 (some .int) 0 (rk_iret R)))))))))))) (bX7_put_16 g R)))))))))
theorem eX7_put_0 (g : rk_G) (R : rk_R) (ls st : List Value) (σ : rk_M) : bX7_put_0 g R ls st σ = (rk_iload 1 (rk_cS g 1 yX7_isSheet cX7_isSheet 1 (some .boolean) 1 (rk_if_eq (bX7_put_16 g R) (rk_iload 2 (rk_ci (0) (rk_ci (2) (rk_cS g 3 yX7_in cX7_in 3 (some .boolean) 0 (rk_if_ne (rk_aload 0 (rk_iload 1 (rk_iload 2 (rk_iload 3 (rk_cV g 3 7 yX7_lacks cX7_lacks 4 (some .int) 1 (rk_istore 5 (rk_iload 5 (rk_if_le (rk_aload 0 (rk_iload 1 (rk_iload 3 (rk_iload 4 (rk_cV g 3 7 yX7_keep cX7_keep 4 none 0 (rk_ci (1) (rk_iret R))))))) (rk_aload 0 (rk_iload 5 (rk_cV g 1 7 yX7_meets cX7_meets 2 (some .int) 0 (rk_iret R)))))))))))) (bX7_put_16 g R))))))))) ls st σ := rfl
theorem oX7_put_0 {g : rk_G} {R : rk_R} : aX7_put g R 0 (bX7_put_0 g R) := (rk_iload_n_ok dX7_put_0 rfl (rk_cS_ok dX7_put_1 npX7_isSheet wmX7_105 wtX7_isSheet wiX7 wdX7_isSheet (by decide) (by decide) (rk_if_eq_ok (pc' := 16) dX7_put_4 (by decide) oX7_put_16 (rk_iload_n_ok dX7_put_7 rfl (rk_iconst_ok dX7_put_8 (by decide) (rk_iconst_ok dX7_put_9 (by decide) (rk_cS_ok dX7_put_10 npX7_in wmX7_81 wtX7_in wiX7 wdX7_in (by decide) (by decide) (rk_if_ne_ok (pc' := 19) dX7_put_13 (by decide) (rk_aload_n_ok dX7_put_19 rfl (rk_iload_n_ok dX7_put_20 rfl (rk_iload_n_ok dX7_put_21 rfl (rk_iload_n_ok dX7_put_22 rfl (rk_cV_ok dX7_put_23 rfl rfl npX7_lacks wmX7_274 wvX7_lacks weX7_lacks wiX7 wdX7_lacks (by decide) (by decide) (rk_istore_ok dX7_put_26 (by decide) (rk_iload_ok dX7_put_28 (rk_if_le_ok (pc' := 40) dX7_put_30 (by decide) (rk_aload_n_ok dX7_put_40 rfl (rk_iload_n_ok dX7_put_41 rfl (rk_iload_n_ok dX7_put_42 rfl (rk_iload_ok dX7_put_43 (rk_cV_ok dX7_put_45 rfl rfl npX7_keep wmX7_277 wvX7_keep weX7_keep wiX7 wdX7_keep (by decide) (by decide) (rk_iconst_ok dX7_put_48 (by decide) (rk_iret_ok rfl dX7_put_49))))))) (rk_aload_n_ok dX7_put_33 rfl (rk_iload_ok dX7_put_34 (rk_cV_ok dX7_put_36 rfl rfl npX7_meets wmX7_108 wvX7_meets weX7_meets wiX7 wdX7_meets (by decide) (by decide) (rk_iret_ok rfl dX7_put_39)))))))))))) oX7_put_16))))))))
theorem dX7_get_0 : decode cX7_get 0 = .ok (.iload_n 1, 1) := by decide +kernel
theorem dX7_get_1 : decode cX7_get 1 = .ok (.invokestatic 105, 3) := by decide +kernel
theorem dX7_get_4 : decode cX7_get 4 = .ok (.ifCond .eq 12, 3) := by decide +kernel
theorem dX7_get_7 : decode cX7_get 7 = .ok (.iload_n 2, 1) := by decide +kernel
theorem dX7_get_8 : decode cX7_get 8 = .ok (.iconst 0, 1) := by decide +kernel
theorem dX7_get_9 : decode cX7_get 9 = .ok (.iconst 2, 1) := by decide +kernel
theorem dX7_get_10 : decode cX7_get 10 = .ok (.invokestatic 81, 3) := by decide +kernel
theorem dX7_get_13 : decode cX7_get 13 = .ok (.ifCond .ne 7, 3) := by decide +kernel
theorem dX7_get_16 : decode cX7_get 16 = .ok (.ldc_w 281, 3) := by decide +kernel
theorem dX7_get_19 : decode cX7_get 19 = .ok (.ireturn, 1) := by decide +kernel
theorem dX7_get_20 : decode cX7_get 20 = .ok (.aload_n 0, 1) := by decide +kernel
theorem dX7_get_21 : decode cX7_get 21 = .ok (.iload_n 1, 1) := by decide +kernel
theorem dX7_get_22 : decode cX7_get 22 = .ok (.iload_n 2, 1) := by decide +kernel
theorem dX7_get_23 : decode cX7_get 23 = .ok (.iload_n 3, 1) := by decide +kernel
theorem dX7_get_24 : decode cX7_get 24 = .ok (.invokevirtual 274, 3) := by decide +kernel
theorem dX7_get_27 : decode cX7_get 27 = .ok (.istore 4, 2) := by decide +kernel
theorem dX7_get_29 : decode cX7_get 29 = .ok (.iload 4, 2) := by decide +kernel
theorem dX7_get_31 : decode cX7_get 31 = .ok (.ifCond .le 13, 3) := by decide +kernel
theorem dX7_get_34 : decode cX7_get 34 = .ok (.aload_n 0, 1) := by decide +kernel
theorem dX7_get_35 : decode cX7_get 35 = .ok (.iload 4, 2) := by decide +kernel
theorem dX7_get_37 : decode cX7_get 37 = .ok (.putfield 271, 3) := by decide +kernel
theorem dX7_get_40 : decode cX7_get 40 = .ok (.ldc_w 281, 3) := by decide +kernel
theorem dX7_get_43 : decode cX7_get 43 = .ok (.ireturn, 1) := by decide +kernel
theorem dX7_get_44 : decode cX7_get 44 = .ok (.aload_n 0, 1) := by decide +kernel
theorem dX7_get_45 : decode cX7_get 45 = .ok (.getfield 71, 3) := by decide +kernel
theorem dX7_get_48 : decode cX7_get 48 = .ok (.bipush 60, 2) := by decide +kernel
theorem dX7_get_50 : decode cX7_get 50 = .ok (.iload_n 1, 1) := by decide +kernel
theorem dX7_get_51 : decode cX7_get 51 = .ok (.imul, 1) := by decide +kernel
theorem dX7_get_52 : decode cX7_get 52 = .ok (.iload_n 3, 1) := by decide +kernel
theorem dX7_get_53 : decode cX7_get 53 = .ok (.iadd, 1) := by decide +kernel
theorem dX7_get_54 : decode cX7_get 54 = .ok (.iaload, 1) := by decide +kernel
theorem dX7_get_55 : decode cX7_get 55 = .ok (.ireturn, 1) := by decide +kernel
abbrev kX7_get (g : rk_G) (R : rk_R) (pc : Nat) : rk_K := rk_cut g cX7_get 5 (some .int) RX7 2 R pc
abbrev aX7_get (g : rk_G) (R : rk_R) (pc : Nat) (K : rk_K) : Prop := rk_AK g cX7_get 5 (some .int) RX7 2 R pc K
abbrev sX7_get (g : rk_G) (vs : List Value) (σ : rk_M) (R : rk_R) : Prop := rk_does g yX7_get cX7_get 5 (some .int) 2 vs σ R
abbrev tX7_get (g : rk_G) (R : rk_R) (pc : Nat) (ls st : List Value) (σ : rk_M) : Prop := rk_At g cX7_get 5 (some .int) RX7 2 R pc ls st σ
def bX7_get_16 (g : rk_G) (R : rk_R) : rk_K := (rk_ci (-2147483648) (rk_iret R))
theorem eX7_get_16 (g : rk_G) (R : rk_R) (ls st : List Value) (σ : rk_M) : bX7_get_16 g R ls st σ = (rk_ci (-2147483648) (rk_iret R)) ls st σ := rfl
theorem oX7_get_16 {g : rk_G} {R : rk_R} : aX7_get g R 16 (bX7_get_16 g R) := (rk_ldcw_ok dX7_get_16 wcX7_281 (rk_iret_ok rfl dX7_get_19))
def bX7_get_0 (g : rk_G) (R : rk_R) : rk_K := (rk_iload 1 (rk_cS g 1 yX7_isSheet cX7_isSheet 1 (some .boolean) 1 (rk_if_eq (bX7_get_16 g R) (rk_iload 2 (rk_ci (0) (rk_ci (2) (rk_cS g 3 yX7_in cX7_in 3 (some .boolean) 0 (rk_if_ne (rk_aload 0 (rk_iload 1 (rk_iload 2 (rk_iload 3 (rk_cV g 3 7 yX7_lacks cX7_lacks 4 (some .int) 1 (rk_istore 4 (rk_iload 4 (rk_if_le (rk_aload 0 (rk_gR 7 30 (rk_ci (60) (rk_iload 1 (rk_imul (rk_iload 3 (rk_iadd (rk_iald (rk_iret R))))))))) (rk_aload 0 (rk_iload 4 (rk_pI 7 32 (rk_ci (-2147483648) (rk_iret R))))))))))))) (bX7_get_16 g R)))))))))
theorem eX7_get_0 (g : rk_G) (R : rk_R) (ls st : List Value) (σ : rk_M) : bX7_get_0 g R ls st σ = (rk_iload 1 (rk_cS g 1 yX7_isSheet cX7_isSheet 1 (some .boolean) 1 (rk_if_eq (bX7_get_16 g R) (rk_iload 2 (rk_ci (0) (rk_ci (2) (rk_cS g 3 yX7_in cX7_in 3 (some .boolean) 0 (rk_if_ne (rk_aload 0 (rk_iload 1 (rk_iload 2 (rk_iload 3 (rk_cV g 3 7 yX7_lacks cX7_lacks 4 (some .int) 1 (rk_istore 4 (rk_iload 4 (rk_if_le (rk_aload 0 (rk_gR 7 30 (rk_ci (60) (rk_iload 1 (rk_imul (rk_iload 3 (rk_iadd (rk_iald (rk_iret R))))))))) (rk_aload 0 (rk_iload 4 (rk_pI 7 32 (rk_ci (-2147483648) (rk_iret R))))))))))))) (bX7_get_16 g R))))))))) ls st σ := rfl
theorem oX7_get_0 {g : rk_G} {R : rk_R} : aX7_get g R 0 (bX7_get_0 g R) := (rk_iload_n_ok dX7_get_0 rfl (rk_cS_ok dX7_get_1 npX7_isSheet wmX7_105 wtX7_isSheet wiX7 wdX7_isSheet (by decide) (by decide) (rk_if_eq_ok (pc' := 16) dX7_get_4 (by decide) oX7_get_16 (rk_iload_n_ok dX7_get_7 rfl (rk_iconst_ok dX7_get_8 (by decide) (rk_iconst_ok dX7_get_9 (by decide) (rk_cS_ok dX7_get_10 npX7_in wmX7_81 wtX7_in wiX7 wdX7_in (by decide) (by decide) (rk_if_ne_ok (pc' := 20) dX7_get_13 (by decide) (rk_aload_n_ok dX7_get_20 rfl (rk_iload_n_ok dX7_get_21 rfl (rk_iload_n_ok dX7_get_22 rfl (rk_iload_n_ok dX7_get_23 rfl (rk_cV_ok dX7_get_24 rfl rfl npX7_lacks wmX7_274 wvX7_lacks weX7_lacks wiX7 wdX7_lacks (by decide) (by decide) (rk_istore_ok dX7_get_27 (by decide) (rk_iload_ok dX7_get_29 (rk_if_le_ok (pc' := 44) dX7_get_31 (by decide) (rk_aload_n_ok dX7_get_44 rfl (rk_gR_ok dX7_get_45 rfl iX7 (by decide) rfl wfX7_71 (rk_bipush_ok dX7_get_48 (by decide) (rk_iload_n_ok dX7_get_50 rfl (rk_imul_ok dX7_get_51 (rk_iload_n_ok dX7_get_52 rfl (rk_iadd_ok dX7_get_53 (rk_iald_ok dX7_get_54 (rk_iret_ok rfl dX7_get_55))))))))) (rk_aload_n_ok dX7_get_34 rfl (rk_iload_ok dX7_get_35 (rk_pI_ok dX7_get_37 rfl iX7 tyX7_ok nmX7 (by decide) rfl rfl (by decide +kernel) wfX7_271 (rk_ldcw_ok dX7_get_40 wcX7_281 (rk_iret_ok rfl dX7_get_43))))))))))))) oX7_get_16))))))))
theorem dX7_copy_0 : decode cX7_copy 0 = .ok (.iload_n 1, 1) := by decide +kernel
theorem dX7_copy_1 : decode cX7_copy 1 = .ok (.invokestatic 105, 3) := by decide +kernel
theorem dX7_copy_4 : decode cX7_copy 4 = .ok (.ifCond .eq 10, 3) := by decide +kernel
theorem dX7_copy_7 : decode cX7_copy 7 = .ok (.iload_n 3, 1) := by decide +kernel
theorem dX7_copy_8 : decode cX7_copy 8 = .ok (.invokestatic 105, 3) := by decide +kernel
theorem dX7_copy_11 : decode cX7_copy 11 = .ok (.ifCond .ne 6, 3) := by decide +kernel
theorem dX7_copy_14 : decode cX7_copy 14 = .ok (.bipush (-2), 2) := by decide +kernel
theorem dX7_copy_16 : decode cX7_copy 16 = .ok (.ireturn, 1) := by decide +kernel
theorem dX7_copy_17 : decode cX7_copy 17 = .ok (.aload_n 0, 1) := by decide +kernel
theorem dX7_copy_18 : decode cX7_copy 18 = .ok (.getfield 61, 3) := by decide +kernel
theorem dX7_copy_21 : decode cX7_copy 21 = .ok (.iload_n 1, 1) := by decide +kernel
theorem dX7_copy_22 : decode cX7_copy 22 = .ok (.baload, 1) := by decide +kernel
theorem dX7_copy_23 : decode cX7_copy 23 = .ok (.ifCond .eq 12, 3) := by decide +kernel
theorem dX7_copy_26 : decode cX7_copy 26 = .ok (.aload_n 0, 1) := by decide +kernel
theorem dX7_copy_27 : decode cX7_copy 27 = .ok (.getfield 61, 3) := by decide +kernel
theorem dX7_copy_30 : decode cX7_copy 30 = .ok (.iload_n 3, 1) := by decide +kernel
theorem dX7_copy_31 : decode cX7_copy 31 = .ok (.baload, 1) := by decide +kernel
theorem dX7_copy_32 : decode cX7_copy 32 = .ok (.ifCond .ne 9, 3) := by decide +kernel
theorem dX7_copy_35 : decode cX7_copy 35 = .ok (.aload_n 0, 1) := by decide +kernel
theorem dX7_copy_36 : decode cX7_copy 36 = .ok (.iconst 1, 1) := by decide +kernel
theorem dX7_copy_37 : decode cX7_copy 37 = .ok (.invokevirtual 108, 3) := by decide +kernel
theorem dX7_copy_40 : decode cX7_copy 40 = .ok (.ireturn, 1) := by decide +kernel
theorem dX7_copy_41 : decode cX7_copy 41 = .ok (.aload_n 0, 1) := by decide +kernel
theorem dX7_copy_42 : decode cX7_copy 42 = .ok (.getfield 65, 3) := by decide +kernel
theorem dX7_copy_45 : decode cX7_copy 45 = .ok (.iload_n 1, 1) := by decide +kernel
theorem dX7_copy_46 : decode cX7_copy 46 = .ok (.iaload, 1) := by decide +kernel
theorem dX7_copy_47 : decode cX7_copy 47 = .ok (.aload_n 0, 1) := by decide +kernel
theorem dX7_copy_48 : decode cX7_copy 48 = .ok (.getfield 65, 3) := by decide +kernel
theorem dX7_copy_51 : decode cX7_copy 51 = .ok (.iload_n 3, 1) := by decide +kernel
theorem dX7_copy_52 : decode cX7_copy 52 = .ok (.iaload, 1) := by decide +kernel
theorem dX7_copy_53 : decode cX7_copy 53 = .ok (.if_icmp .eq 9, 3) := by decide +kernel
theorem dX7_copy_56 : decode cX7_copy 56 = .ok (.aload_n 0, 1) := by decide +kernel
theorem dX7_copy_57 : decode cX7_copy 57 = .ok (.iconst 4, 1) := by decide +kernel
theorem dX7_copy_58 : decode cX7_copy 58 = .ok (.invokevirtual 108, 3) := by decide +kernel
theorem dX7_copy_61 : decode cX7_copy 61 = .ok (.ireturn, 1) := by decide +kernel
theorem dX7_copy_62 : decode cX7_copy 62 = .ok (.iload_n 2, 1) := by decide +kernel
theorem dX7_copy_63 : decode cX7_copy 63 = .ok (.ifCond .lt 48, 3) := by decide +kernel
theorem dX7_copy_66 : decode cX7_copy 66 = .ok (.iload 4, 2) := by decide +kernel
theorem dX7_copy_68 : decode cX7_copy 68 = .ok (.ifCond .lt 43, 3) := by decide +kernel
theorem dX7_copy_71 : decode cX7_copy 71 = .ok (.iload 5, 2) := by decide +kernel
theorem dX7_copy_73 : decode cX7_copy 73 = .ok (.ifCond .lt 38, 3) := by decide +kernel
theorem dX7_copy_76 : decode cX7_copy 76 = .ok (.iload_n 2, 1) := by decide +kernel
theorem dX7_copy_77 : decode cX7_copy 77 = .ok (.i2l, 1) := by decide +kernel
theorem dX7_copy_78 : decode cX7_copy 78 = .ok (.iload 5, 2) := by decide +kernel
theorem dX7_copy_80 : decode cX7_copy 80 = .ok (.i2l, 1) := by decide +kernel
theorem dX7_copy_81 : decode cX7_copy 81 = .ok (.ladd, 1) := by decide +kernel
theorem dX7_copy_82 : decode cX7_copy 82 = .ok (.aload_n 0, 1) := by decide +kernel
theorem dX7_copy_83 : decode cX7_copy 83 = .ok (.getfield 68, 3) := by decide +kernel
theorem dX7_copy_86 : decode cX7_copy 86 = .ok (.iload_n 1, 1) := by decide +kernel
theorem dX7_copy_87 : decode cX7_copy 87 = .ok (.iaload, 1) := by decide +kernel
theorem dX7_copy_88 : decode cX7_copy 88 = .ok (.i2l, 1) := by decide +kernel
theorem dX7_copy_89 : decode cX7_copy 89 = .ok (.lcmp, 1) := by decide +kernel
theorem dX7_copy_90 : decode cX7_copy 90 = .ok (.ifCond .gt 21, 3) := by decide +kernel
theorem dX7_copy_93 : decode cX7_copy 93 = .ok (.iload 4, 2) := by decide +kernel
theorem dX7_copy_95 : decode cX7_copy 95 = .ok (.i2l, 1) := by decide +kernel
theorem dX7_copy_96 : decode cX7_copy 96 = .ok (.iload 5, 2) := by decide +kernel
theorem dX7_copy_98 : decode cX7_copy 98 = .ok (.i2l, 1) := by decide +kernel
theorem dX7_copy_99 : decode cX7_copy 99 = .ok (.ladd, 1) := by decide +kernel
theorem dX7_copy_100 : decode cX7_copy 100 = .ok (.aload_n 0, 1) := by decide +kernel
theorem dX7_copy_101 : decode cX7_copy 101 = .ok (.getfield 68, 3) := by decide +kernel
theorem dX7_copy_104 : decode cX7_copy 104 = .ok (.iload_n 3, 1) := by decide +kernel
theorem dX7_copy_105 : decode cX7_copy 105 = .ok (.iaload, 1) := by decide +kernel
theorem dX7_copy_106 : decode cX7_copy 106 = .ok (.i2l, 1) := by decide +kernel
theorem dX7_copy_107 : decode cX7_copy 107 = .ok (.lcmp, 1) := by decide +kernel
theorem dX7_copy_108 : decode cX7_copy 108 = .ok (.ifCond .le 9, 3) := by decide +kernel
theorem dX7_copy_111 : decode cX7_copy 111 = .ok (.aload_n 0, 1) := by decide +kernel
theorem dX7_copy_112 : decode cX7_copy 112 = .ok (.iconst 2, 1) := by decide +kernel
theorem dX7_copy_113 : decode cX7_copy 113 = .ok (.invokevirtual 108, 3) := by decide +kernel
theorem dX7_copy_116 : decode cX7_copy 116 = .ok (.ireturn, 1) := by decide +kernel
theorem dX7_copy_117 : decode cX7_copy 117 = .ok (.iconst 0, 1) := by decide +kernel
theorem dX7_copy_118 : decode cX7_copy 118 = .ok (.istore 6, 2) := by decide +kernel
theorem dX7_copy_120 : decode cX7_copy 120 = .ok (.iload 6, 2) := by decide +kernel
theorem dX7_copy_122 : decode cX7_copy 122 = .ok (.iload 5, 2) := by decide +kernel
theorem dX7_copy_124 : decode cX7_copy 124 = .ok (.if_icmp .ge 30, 3) := by decide +kernel
theorem dX7_copy_127 : decode cX7_copy 127 = .ok (.aload_n 0, 1) := by decide +kernel
theorem dX7_copy_128 : decode cX7_copy 128 = .ok (.getfield 74, 3) := by decide +kernel
theorem dX7_copy_131 : decode cX7_copy 131 = .ok (.iload 6, 2) := by decide +kernel
theorem dX7_copy_133 : decode cX7_copy 133 = .ok (.aload_n 0, 1) := by decide +kernel
theorem dX7_copy_134 : decode cX7_copy 134 = .ok (.getfield 71, 3) := by decide +kernel
theorem dX7_copy_137 : decode cX7_copy 137 = .ok (.bipush 60, 2) := by decide +kernel
theorem dX7_copy_139 : decode cX7_copy 139 = .ok (.iload_n 1, 1) := by decide +kernel
theorem dX7_copy_140 : decode cX7_copy 140 = .ok (.imul, 1) := by decide +kernel
theorem dX7_copy_141 : decode cX7_copy 141 = .ok (.iload_n 2, 1) := by decide +kernel
theorem dX7_copy_142 : decode cX7_copy 142 = .ok (.iadd, 1) := by decide +kernel
theorem dX7_copy_143 : decode cX7_copy 143 = .ok (.iload 6, 2) := by decide +kernel
theorem dX7_copy_145 : decode cX7_copy 145 = .ok (.iadd, 1) := by decide +kernel
theorem dX7_copy_146 : decode cX7_copy 146 = .ok (.iaload, 1) := by decide +kernel
theorem dX7_copy_147 : decode cX7_copy 147 = .ok (.iastore, 1) := by decide +kernel
theorem dX7_copy_148 : decode cX7_copy 148 = .ok (.iinc 6 1, 3) := by decide +kernel
theorem dX7_copy_151 : decode cX7_copy 151 = .ok (.goto (-31), 3) := by decide +kernel
theorem dX7_copy_154 : decode cX7_copy 154 = .ok (.iconst 0, 1) := by decide +kernel
theorem dX7_copy_155 : decode cX7_copy 155 = .ok (.istore 6, 2) := by decide +kernel
theorem dX7_copy_157 : decode cX7_copy 157 = .ok (.iload 6, 2) := by decide +kernel
theorem dX7_copy_159 : decode cX7_copy 159 = .ok (.iload 5, 2) := by decide +kernel
theorem dX7_copy_161 : decode cX7_copy 161 = .ok (.if_icmp .ge 31, 3) := by decide +kernel
theorem dX7_copy_164 : decode cX7_copy 164 = .ok (.aload_n 0, 1) := by decide +kernel
theorem dX7_copy_165 : decode cX7_copy 165 = .ok (.getfield 71, 3) := by decide +kernel
theorem dX7_copy_168 : decode cX7_copy 168 = .ok (.bipush 60, 2) := by decide +kernel
theorem dX7_copy_170 : decode cX7_copy 170 = .ok (.iload_n 3, 1) := by decide +kernel
theorem dX7_copy_171 : decode cX7_copy 171 = .ok (.imul, 1) := by decide +kernel
theorem dX7_copy_172 : decode cX7_copy 172 = .ok (.iload 4, 2) := by decide +kernel
theorem dX7_copy_174 : decode cX7_copy 174 = .ok (.iadd, 1) := by decide +kernel
theorem dX7_copy_175 : decode cX7_copy 175 = .ok (.iload 6, 2) := by decide +kernel
theorem dX7_copy_177 : decode cX7_copy 177 = .ok (.iadd, 1) := by decide +kernel
theorem dX7_copy_178 : decode cX7_copy 178 = .ok (.aload_n 0, 1) := by decide +kernel
theorem dX7_copy_179 : decode cX7_copy 179 = .ok (.getfield 74, 3) := by decide +kernel
theorem dX7_copy_182 : decode cX7_copy 182 = .ok (.iload 6, 2) := by decide +kernel
theorem dX7_copy_184 : decode cX7_copy 184 = .ok (.iaload, 1) := by decide +kernel
theorem dX7_copy_185 : decode cX7_copy 185 = .ok (.iastore, 1) := by decide +kernel
theorem dX7_copy_186 : decode cX7_copy 186 = .ok (.iinc 6 1, 3) := by decide +kernel
theorem dX7_copy_189 : decode cX7_copy 189 = .ok (.goto (-32), 3) := by decide +kernel
theorem dX7_copy_192 : decode cX7_copy 192 = .ok (.iconst 1, 1) := by decide +kernel
theorem dX7_copy_193 : decode cX7_copy 193 = .ok (.ireturn, 1) := by decide +kernel
abbrev kX7_copy (g : rk_G) (R : rk_R) (pc : Nat) : rk_K := rk_cut g cX7_copy 7 (some .int) RX7 2 R pc
abbrev aX7_copy (g : rk_G) (R : rk_R) (pc : Nat) (K : rk_K) : Prop := rk_AK g cX7_copy 7 (some .int) RX7 2 R pc K
abbrev sX7_copy (g : rk_G) (vs : List Value) (σ : rk_M) (R : rk_R) : Prop := rk_does g yX7_copy cX7_copy 7 (some .int) 2 vs σ R
abbrev tX7_copy (g : rk_G) (R : rk_R) (pc : Nat) (ls st : List Value) (σ : rk_M) : Prop := rk_At g cX7_copy 7 (some .int) RX7 2 R pc ls st σ
def bX7_copy_157 (g : rk_G) (R : rk_R) : rk_K := (rk_iload 6 (rk_iload 5 (rk_icmp_ge (rk_ci (1) (rk_iret R)) (rk_aload 0 (rk_gR 7 30 (rk_ci (60) (rk_iload 3 (rk_imul (rk_iload 4 (rk_iadd (rk_iload 6 (rk_iadd (rk_aload 0 (rk_gR 7 31 (rk_iload 6 (rk_iald (rk_iast (rk_iinc 6 (1) (kX7_copy g R 157)))))))))))))))))))
theorem eX7_copy_157 (g : rk_G) (R : rk_R) (ls st : List Value) (σ : rk_M) : bX7_copy_157 g R ls st σ = (rk_iload 6 (rk_iload 5 (rk_icmp_ge (rk_ci (1) (rk_iret R)) (rk_aload 0 (rk_gR 7 30 (rk_ci (60) (rk_iload 3 (rk_imul (rk_iload 4 (rk_iadd (rk_iload 6 (rk_iadd (rk_aload 0 (rk_gR 7 31 (rk_iload 6 (rk_iald (rk_iast (rk_iinc 6 (1) (kX7_copy g R 157))))))))))))))))))) ls st σ := rfl
theorem oX7_copy_157 {g : rk_G} {R : rk_R} : aX7_copy g R 157 (bX7_copy_157 g R) := (rk_iload_ok dX7_copy_157 (rk_iload_ok dX7_copy_159 (rk_icmp_ge_ok (pc' := 192) dX7_copy_161 (by decide) (rk_iconst_ok dX7_copy_192 (by decide) (rk_iret_ok rfl dX7_copy_193)) (rk_aload_n_ok dX7_copy_164 rfl (rk_gR_ok dX7_copy_165 rfl iX7 (by decide) rfl wfX7_71 (rk_bipush_ok dX7_copy_168 (by decide) (rk_iload_n_ok dX7_copy_170 rfl (rk_imul_ok dX7_copy_171 (rk_iload_ok dX7_copy_172 (rk_iadd_ok dX7_copy_174 (rk_iload_ok dX7_copy_175 (rk_iadd_ok dX7_copy_177 (rk_aload_n_ok dX7_copy_178 rfl (rk_gR_ok dX7_copy_179 rfl iX7 (by decide) rfl wfX7_74 (rk_iload_ok dX7_copy_182 (rk_iald_ok dX7_copy_184 (rk_iast_ok dX7_copy_185 (rk_iinc_ok dX7_copy_186 (by decide) (by decide) (rk_goto_ok (pc' := 157) dX7_copy_189 (by decide) rk_cut_ok)))))))))))))))))))
def bX7_copy_120 (g : rk_G) (R : rk_R) : rk_K := (rk_iload 6 (rk_iload 5 (rk_icmp_ge (rk_ci (0) (rk_istore 6 (kX7_copy g R 157))) (rk_aload 0 (rk_gR 7 31 (rk_iload 6 (rk_aload 0 (rk_gR 7 30 (rk_ci (60) (rk_iload 1 (rk_imul (rk_iload 2 (rk_iadd (rk_iload 6 (rk_iadd (rk_iald (rk_iast (rk_iinc 6 (1) (kX7_copy g R 120)))))))))))))))))))
theorem eX7_copy_120 (g : rk_G) (R : rk_R) (ls st : List Value) (σ : rk_M) : bX7_copy_120 g R ls st σ = (rk_iload 6 (rk_iload 5 (rk_icmp_ge (rk_ci (0) (rk_istore 6 (kX7_copy g R 157))) (rk_aload 0 (rk_gR 7 31 (rk_iload 6 (rk_aload 0 (rk_gR 7 30 (rk_ci (60) (rk_iload 1 (rk_imul (rk_iload 2 (rk_iadd (rk_iload 6 (rk_iadd (rk_iald (rk_iast (rk_iinc 6 (1) (kX7_copy g R 120))))))))))))))))))) ls st σ := rfl
theorem oX7_copy_120 {g : rk_G} {R : rk_R} : aX7_copy g R 120 (bX7_copy_120 g R) := (rk_iload_ok dX7_copy_120 (rk_iload_ok dX7_copy_122 (rk_icmp_ge_ok (pc' := 154) dX7_copy_124 (by decide) (rk_iconst_ok dX7_copy_154 (by decide) (rk_istore_ok dX7_copy_155 (by decide) rk_cut_ok)) (rk_aload_n_ok dX7_copy_127 rfl (rk_gR_ok dX7_copy_128 rfl iX7 (by decide) rfl wfX7_74 (rk_iload_ok dX7_copy_131 (rk_aload_n_ok dX7_copy_133 rfl (rk_gR_ok dX7_copy_134 rfl iX7 (by decide) rfl wfX7_71 (rk_bipush_ok dX7_copy_137 (by decide) (rk_iload_n_ok dX7_copy_139 rfl (rk_imul_ok dX7_copy_140 (rk_iload_n_ok dX7_copy_141 rfl (rk_iadd_ok dX7_copy_142 (rk_iload_ok dX7_copy_143 (rk_iadd_ok dX7_copy_145 (rk_iald_ok dX7_copy_146 (rk_iast_ok dX7_copy_147 (rk_iinc_ok dX7_copy_148 (by decide) (by decide) (rk_goto_ok (pc' := 120) dX7_copy_151 (by decide) rk_cut_ok)))))))))))))))))))
def bX7_copy_111 (g : rk_G) (R : rk_R) : rk_K := (rk_aload 0 (rk_ci (2) (rk_cV g 1 7 yX7_meets cX7_meets 2 (some .int) 0 (rk_iret R))))
theorem eX7_copy_111 (g : rk_G) (R : rk_R) (ls st : List Value) (σ : rk_M) : bX7_copy_111 g R ls st σ = (rk_aload 0 (rk_ci (2) (rk_cV g 1 7 yX7_meets cX7_meets 2 (some .int) 0 (rk_iret R)))) ls st σ := rfl
theorem oX7_copy_111 {g : rk_G} {R : rk_R} : aX7_copy g R 111 (bX7_copy_111 g R) := (rk_aload_n_ok dX7_copy_111 rfl (rk_iconst_ok dX7_copy_112 (by decide) (rk_cV_ok dX7_copy_113 rfl rfl npX7_meets wmX7_108 wvX7_meets weX7_meets wiX7 wdX7_meets (by decide) (by decide) (rk_iret_ok rfl dX7_copy_116))))
def bX7_copy_35 (g : rk_G) (R : rk_R) : rk_K := (rk_aload 0 (rk_ci (1) (rk_cV g 1 7 yX7_meets cX7_meets 2 (some .int) 0 (rk_iret R))))
theorem eX7_copy_35 (g : rk_G) (R : rk_R) (ls st : List Value) (σ : rk_M) : bX7_copy_35 g R ls st σ = (rk_aload 0 (rk_ci (1) (rk_cV g 1 7 yX7_meets cX7_meets 2 (some .int) 0 (rk_iret R)))) ls st σ := rfl
theorem oX7_copy_35 {g : rk_G} {R : rk_R} : aX7_copy g R 35 (bX7_copy_35 g R) := (rk_aload_n_ok dX7_copy_35 rfl (rk_iconst_ok dX7_copy_36 (by decide) (rk_cV_ok dX7_copy_37 rfl rfl npX7_meets wmX7_108 wvX7_meets weX7_meets wiX7 wdX7_meets (by decide) (by decide) (rk_iret_ok rfl dX7_copy_40))))
def bX7_copy_14 (g : rk_G) (R : rk_R) : rk_K := (rk_ci (-2) (rk_iret R))
theorem eX7_copy_14 (g : rk_G) (R : rk_R) (ls st : List Value) (σ : rk_M) : bX7_copy_14 g R ls st σ = (rk_ci (-2) (rk_iret R)) ls st σ := rfl
theorem oX7_copy_14 {g : rk_G} {R : rk_R} : aX7_copy g R 14 (bX7_copy_14 g R) := (rk_bipush_ok dX7_copy_14 (by decide) (rk_iret_ok rfl dX7_copy_16))
def bX7_copy_0 (g : rk_G) (R : rk_R) : rk_K := (rk_iload 1 (rk_cS g 1 yX7_isSheet cX7_isSheet 1 (some .boolean) 1 (rk_if_eq (bX7_copy_14 g R) (rk_iload 3 (rk_cS g 1 yX7_isSheet cX7_isSheet 1 (some .boolean) 1 (rk_if_ne (rk_aload 0 (rk_gR 7 27 (rk_iload 1 (rk_zald (rk_if_eq (bX7_copy_35 g R) (rk_aload 0 (rk_gR 7 27 (rk_iload 3 (rk_zald (rk_if_ne (rk_aload 0 (rk_gR 7 28 (rk_iload 1 (rk_iald (rk_aload 0 (rk_gR 7 28 (rk_iload 3 (rk_iald (rk_icmp_eq (rk_iload 2 (rk_if_lt (bX7_copy_111 g R) (rk_iload 4 (rk_if_lt (bX7_copy_111 g R) (rk_iload 5 (rk_if_lt (bX7_copy_111 g R) (rk_iload 2 (rk_i2l (rk_iload 5 (rk_i2l (rk_ladd (rk_aload 0 (rk_gR 7 29 (rk_iload 1 (rk_iald (rk_i2l (rk_lcmp (rk_if_gt (bX7_copy_111 g R) (rk_iload 4 (rk_i2l (rk_iload 5 (rk_i2l (rk_ladd (rk_aload 0 (rk_gR 7 29 (rk_iload 3 (rk_iald (rk_i2l (rk_lcmp (rk_if_le (rk_ci (0) (rk_istore 6 (kX7_copy g R 120))) (bX7_copy_111 g R))))))))))))))))))))))))))))))) (rk_aload 0 (rk_ci (4) (rk_cV g 1 7 yX7_meets cX7_meets 2 (some .int) 0 (rk_iret R))))))))))))) (bX7_copy_35 g R))))))))))) (bX7_copy_14 g R)))))))
theorem eX7_copy_0 (g : rk_G) (R : rk_R) (ls st : List Value) (σ : rk_M) : bX7_copy_0 g R ls st σ = (rk_iload 1 (rk_cS g 1 yX7_isSheet cX7_isSheet 1 (some .boolean) 1 (rk_if_eq (bX7_copy_14 g R) (rk_iload 3 (rk_cS g 1 yX7_isSheet cX7_isSheet 1 (some .boolean) 1 (rk_if_ne (rk_aload 0 (rk_gR 7 27 (rk_iload 1 (rk_zald (rk_if_eq (bX7_copy_35 g R) (rk_aload 0 (rk_gR 7 27 (rk_iload 3 (rk_zald (rk_if_ne (rk_aload 0 (rk_gR 7 28 (rk_iload 1 (rk_iald (rk_aload 0 (rk_gR 7 28 (rk_iload 3 (rk_iald (rk_icmp_eq (rk_iload 2 (rk_if_lt (bX7_copy_111 g R) (rk_iload 4 (rk_if_lt (bX7_copy_111 g R) (rk_iload 5 (rk_if_lt (bX7_copy_111 g R) (rk_iload 2 (rk_i2l (rk_iload 5 (rk_i2l (rk_ladd (rk_aload 0 (rk_gR 7 29 (rk_iload 1 (rk_iald (rk_i2l (rk_lcmp (rk_if_gt (bX7_copy_111 g R) (rk_iload 4 (rk_i2l (rk_iload 5 (rk_i2l (rk_ladd (rk_aload 0 (rk_gR 7 29 (rk_iload 3 (rk_iald (rk_i2l (rk_lcmp (rk_if_le (rk_ci (0) (rk_istore 6 (kX7_copy g R 120))) (bX7_copy_111 g R))))))))))))))))))))))))))))))) (rk_aload 0 (rk_ci (4) (rk_cV g 1 7 yX7_meets cX7_meets 2 (some .int) 0 (rk_iret R))))))))))))) (bX7_copy_35 g R))))))))))) (bX7_copy_14 g R))))))) ls st σ := rfl
theorem oX7_copy_0 {g : rk_G} {R : rk_R} : aX7_copy g R 0 (bX7_copy_0 g R) := (rk_iload_n_ok dX7_copy_0 rfl (rk_cS_ok dX7_copy_1 npX7_isSheet wmX7_105 wtX7_isSheet wiX7 wdX7_isSheet (by decide) (by decide) (rk_if_eq_ok (pc' := 14) dX7_copy_4 (by decide) oX7_copy_14 (rk_iload_n_ok dX7_copy_7 rfl (rk_cS_ok dX7_copy_8 npX7_isSheet wmX7_105 wtX7_isSheet wiX7 wdX7_isSheet (by decide) (by decide) (rk_if_ne_ok (pc' := 17) dX7_copy_11 (by decide) (rk_aload_n_ok dX7_copy_17 rfl (rk_gR_ok dX7_copy_18 rfl iX7 (by decide) rfl wfX7_61 (rk_iload_n_ok dX7_copy_21 rfl (rk_zald_ok dX7_copy_22 (rk_if_eq_ok (pc' := 35) dX7_copy_23 (by decide) oX7_copy_35 (rk_aload_n_ok dX7_copy_26 rfl (rk_gR_ok dX7_copy_27 rfl iX7 (by decide) rfl wfX7_61 (rk_iload_n_ok dX7_copy_30 rfl (rk_zald_ok dX7_copy_31 (rk_if_ne_ok (pc' := 41) dX7_copy_32 (by decide) (rk_aload_n_ok dX7_copy_41 rfl (rk_gR_ok dX7_copy_42 rfl iX7 (by decide) rfl wfX7_65 (rk_iload_n_ok dX7_copy_45 rfl (rk_iald_ok dX7_copy_46 (rk_aload_n_ok dX7_copy_47 rfl (rk_gR_ok dX7_copy_48 rfl iX7 (by decide) rfl wfX7_65 (rk_iload_n_ok dX7_copy_51 rfl (rk_iald_ok dX7_copy_52 (rk_icmp_eq_ok (pc' := 62) dX7_copy_53 (by decide) (rk_iload_n_ok dX7_copy_62 rfl (rk_if_lt_ok (pc' := 111) dX7_copy_63 (by decide) oX7_copy_111 (rk_iload_ok dX7_copy_66 (rk_if_lt_ok (pc' := 111) dX7_copy_68 (by decide) oX7_copy_111 (rk_iload_ok dX7_copy_71 (rk_if_lt_ok (pc' := 111) dX7_copy_73 (by decide) oX7_copy_111 (rk_iload_n_ok dX7_copy_76 rfl (rk_i2l_ok dX7_copy_77 (rk_iload_ok dX7_copy_78 (rk_i2l_ok dX7_copy_80 (rk_ladd_ok dX7_copy_81 (rk_aload_n_ok dX7_copy_82 rfl (rk_gR_ok dX7_copy_83 rfl iX7 (by decide) rfl wfX7_68 (rk_iload_n_ok dX7_copy_86 rfl (rk_iald_ok dX7_copy_87 (rk_i2l_ok dX7_copy_88 (rk_lcmp_ok dX7_copy_89 (rk_if_gt_ok (pc' := 111) dX7_copy_90 (by decide) oX7_copy_111 (rk_iload_ok dX7_copy_93 (rk_i2l_ok dX7_copy_95 (rk_iload_ok dX7_copy_96 (rk_i2l_ok dX7_copy_98 (rk_ladd_ok dX7_copy_99 (rk_aload_n_ok dX7_copy_100 rfl (rk_gR_ok dX7_copy_101 rfl iX7 (by decide) rfl wfX7_68 (rk_iload_n_ok dX7_copy_104 rfl (rk_iald_ok dX7_copy_105 (rk_i2l_ok dX7_copy_106 (rk_lcmp_ok dX7_copy_107 (rk_if_le_ok (pc' := 117) dX7_copy_108 (by decide) (rk_iconst_ok dX7_copy_117 (by decide) (rk_istore_ok dX7_copy_118 (by decide) rk_cut_ok)) oX7_copy_111)))))))))))))))))))))))))))))) (rk_aload_n_ok dX7_copy_56 rfl (rk_iconst_ok dX7_copy_57 (by decide) (rk_cV_ok dX7_copy_58 rfl rfl npX7_meets wmX7_108 wvX7_meets weX7_meets wiX7 wdX7_meets (by decide) (by decide) (rk_iret_ok rfl dX7_copy_61))))))))))))) oX7_copy_35)))))))))) oX7_copy_14))))))
theorem dX7_road_0 : decode cX7_road 0 = .ok (.aload_n 0, 1) := by decide +kernel
theorem dX7_road_1 : decode cX7_road 1 = .ok (.iload_n 1, 1) := by decide +kernel
theorem dX7_road_2 : decode cX7_road 2 = .ok (.iload_n 2, 1) := by decide +kernel
theorem dX7_road_3 : decode cX7_road 3 = .ok (.iload_n 3, 1) := by decide +kernel
theorem dX7_road_4 : decode cX7_road 4 = .ok (.iload 4, 2) := by decide +kernel
theorem dX7_road_6 : decode cX7_road 6 = .ok (.invokevirtual 98, 3) := by decide +kernel
theorem dX7_road_9 : decode cX7_road 9 = .ok (.ireturn, 1) := by decide +kernel
abbrev kX7_road (g : rk_G) (R : rk_R) (pc : Nat) : rk_K := rk_cut g cX7_road 5 (some .int) RX7 3 R pc
abbrev aX7_road (g : rk_G) (R : rk_R) (pc : Nat) (K : rk_K) : Prop := rk_AK g cX7_road 5 (some .int) RX7 3 R pc K
abbrev sX7_road (g : rk_G) (vs : List Value) (σ : rk_M) (R : rk_R) : Prop := rk_does g yX7_road cX7_road 5 (some .int) 3 vs σ R
abbrev tX7_road (g : rk_G) (R : rk_R) (pc : Nat) (ls st : List Value) (σ : rk_M) : Prop := rk_At g cX7_road 5 (some .int) RX7 3 R pc ls st σ
def bX7_road_0 (g : rk_G) (R : rk_R) : rk_K := (rk_aload 0 (rk_iload 1 (rk_iload 2 (rk_iload 3 (rk_iload 4 (rk_cV g 4 7 yX7_adds cX7_adds 6 (some .int) 2 (rk_iret R)))))))
theorem eX7_road_0 (g : rk_G) (R : rk_R) (ls st : List Value) (σ : rk_M) : bX7_road_0 g R ls st σ = (rk_aload 0 (rk_iload 1 (rk_iload 2 (rk_iload 3 (rk_iload 4 (rk_cV g 4 7 yX7_adds cX7_adds 6 (some .int) 2 (rk_iret R))))))) ls st σ := rfl
theorem oX7_road_0 {g : rk_G} {R : rk_R} : aX7_road g R 0 (bX7_road_0 g R) := (rk_aload_n_ok dX7_road_0 rfl (rk_iload_n_ok dX7_road_1 rfl (rk_iload_n_ok dX7_road_2 rfl (rk_iload_n_ok dX7_road_3 rfl (rk_iload_ok dX7_road_4 (rk_cV_ok dX7_road_6 rfl rfl npX7_adds wmX7_98 wvX7_adds weX7_adds wiX7 wdX7_adds (by decide) (by decide) (rk_iret_ok rfl dX7_road_9)))))))
theorem dX7_read_0 : decode cX7_read 0 = .ok (.iload_n 1, 1) := by decide +kernel
theorem dX7_read_1 : decode cX7_read 1 = .ok (.invokestatic 105, 3) := by decide +kernel
theorem dX7_read_4 : decode cX7_read 4 = .ok (.ifCond .ne 6, 3) := by decide +kernel
theorem dX7_read_7 : decode cX7_read 7 = .ok (.bipush (-2), 2) := by decide +kernel
theorem dX7_read_9 : decode cX7_read 9 = .ok (.ireturn, 1) := by decide +kernel
theorem dX7_read_10 : decode cX7_read 10 = .ok (.aload_n 0, 1) := by decide +kernel
theorem dX7_read_11 : decode cX7_read 11 = .ok (.getfield 61, 3) := by decide +kernel
theorem dX7_read_14 : decode cX7_read 14 = .ok (.iload_n 1, 1) := by decide +kernel
theorem dX7_read_15 : decode cX7_read 15 = .ok (.baload, 1) := by decide +kernel
theorem dX7_read_16 : decode cX7_read 16 = .ok (.ifCond .ne 9, 3) := by decide +kernel
theorem dX7_read_19 : decode cX7_read 19 = .ok (.aload_n 0, 1) := by decide +kernel
theorem dX7_read_20 : decode cX7_read 20 = .ok (.iconst 1, 1) := by decide +kernel
theorem dX7_read_21 : decode cX7_read 21 = .ok (.invokevirtual 108, 3) := by decide +kernel
theorem dX7_read_24 : decode cX7_read 24 = .ok (.ireturn, 1) := by decide +kernel
theorem dX7_read_25 : decode cX7_read 25 = .ok (.iconst 0, 1) := by decide +kernel
theorem dX7_read_26 : decode cX7_read 26 = .ok (.istore_n 2, 1) := by decide +kernel
theorem dX7_read_27 : decode cX7_read 27 = .ok (.bipush 60, 2) := by decide +kernel
theorem dX7_read_29 : decode cX7_read 29 = .ok (.iload_n 1, 1) := by decide +kernel
theorem dX7_read_30 : decode cX7_read 30 = .ok (.imul, 1) := by decide +kernel
theorem dX7_read_31 : decode cX7_read 31 = .ok (.istore_n 3, 1) := by decide +kernel
theorem dX7_read_32 : decode cX7_read 32 = .ok (.iconst 4, 1) := by decide +kernel
theorem dX7_read_33 : decode cX7_read 33 = .ok (.iload_n 2, 1) := by decide +kernel
theorem dX7_read_34 : decode cX7_read 34 = .ok (.imul, 1) := by decide +kernel
theorem dX7_read_35 : decode cX7_read 35 = .ok (.iconst 3, 1) := by decide +kernel
theorem dX7_read_36 : decode cX7_read 36 = .ok (.iadd, 1) := by decide +kernel
theorem dX7_read_37 : decode cX7_read 37 = .ok (.aload_n 0, 1) := by decide +kernel
theorem dX7_read_38 : decode cX7_read 38 = .ok (.getfield 68, 3) := by decide +kernel
theorem dX7_read_41 : decode cX7_read 41 = .ok (.iload_n 1, 1) := by decide +kernel
theorem dX7_read_42 : decode cX7_read 42 = .ok (.iaload, 1) := by decide +kernel
theorem dX7_read_43 : decode cX7_read 43 = .ok (.if_icmp .ge 62, 3) := by decide +kernel
theorem dX7_read_46 : decode cX7_read 46 = .ok (.aload_n 0, 1) := by decide +kernel
theorem dX7_read_47 : decode cX7_read 47 = .ok (.aload_n 0, 1) := by decide +kernel
theorem dX7_read_48 : decode cX7_read 48 = .ok (.getfield 71, 3) := by decide +kernel
theorem dX7_read_51 : decode cX7_read 51 = .ok (.iload_n 3, 1) := by decide +kernel
theorem dX7_read_52 : decode cX7_read 52 = .ok (.iconst 4, 1) := by decide +kernel
theorem dX7_read_53 : decode cX7_read 53 = .ok (.iload_n 2, 1) := by decide +kernel
theorem dX7_read_54 : decode cX7_read 54 = .ok (.imul, 1) := by decide +kernel
theorem dX7_read_55 : decode cX7_read 55 = .ok (.iadd, 1) := by decide +kernel
theorem dX7_read_56 : decode cX7_read 56 = .ok (.iaload, 1) := by decide +kernel
theorem dX7_read_57 : decode cX7_read 57 = .ok (.aload_n 0, 1) := by decide +kernel
theorem dX7_read_58 : decode cX7_read 58 = .ok (.getfield 71, 3) := by decide +kernel
theorem dX7_read_61 : decode cX7_read 61 = .ok (.iload_n 3, 1) := by decide +kernel
theorem dX7_read_62 : decode cX7_read 62 = .ok (.iconst 4, 1) := by decide +kernel
theorem dX7_read_63 : decode cX7_read 63 = .ok (.iload_n 2, 1) := by decide +kernel
theorem dX7_read_64 : decode cX7_read 64 = .ok (.imul, 1) := by decide +kernel
theorem dX7_read_65 : decode cX7_read 65 = .ok (.iadd, 1) := by decide +kernel
theorem dX7_read_66 : decode cX7_read 66 = .ok (.iconst 1, 1) := by decide +kernel
theorem dX7_read_67 : decode cX7_read 67 = .ok (.iadd, 1) := by decide +kernel
theorem dX7_read_68 : decode cX7_read 68 = .ok (.iaload, 1) := by decide +kernel
theorem dX7_read_69 : decode cX7_read 69 = .ok (.aload_n 0, 1) := by decide +kernel
theorem dX7_read_70 : decode cX7_read 70 = .ok (.getfield 71, 3) := by decide +kernel
theorem dX7_read_73 : decode cX7_read 73 = .ok (.iload_n 3, 1) := by decide +kernel
theorem dX7_read_74 : decode cX7_read 74 = .ok (.iconst 4, 1) := by decide +kernel
theorem dX7_read_75 : decode cX7_read 75 = .ok (.iload_n 2, 1) := by decide +kernel
theorem dX7_read_76 : decode cX7_read 76 = .ok (.imul, 1) := by decide +kernel
theorem dX7_read_77 : decode cX7_read 77 = .ok (.iadd, 1) := by decide +kernel
theorem dX7_read_78 : decode cX7_read 78 = .ok (.iconst 2, 1) := by decide +kernel
theorem dX7_read_79 : decode cX7_read 79 = .ok (.iadd, 1) := by decide +kernel
theorem dX7_read_80 : decode cX7_read 80 = .ok (.iaload, 1) := by decide +kernel
theorem dX7_read_81 : decode cX7_read 81 = .ok (.aload_n 0, 1) := by decide +kernel
theorem dX7_read_82 : decode cX7_read 82 = .ok (.getfield 71, 3) := by decide +kernel
theorem dX7_read_85 : decode cX7_read 85 = .ok (.iload_n 3, 1) := by decide +kernel
theorem dX7_read_86 : decode cX7_read 86 = .ok (.iconst 4, 1) := by decide +kernel
theorem dX7_read_87 : decode cX7_read 87 = .ok (.iload_n 2, 1) := by decide +kernel
theorem dX7_read_88 : decode cX7_read 88 = .ok (.imul, 1) := by decide +kernel
theorem dX7_read_89 : decode cX7_read 89 = .ok (.iadd, 1) := by decide +kernel
theorem dX7_read_90 : decode cX7_read 90 = .ok (.iconst 3, 1) := by decide +kernel
theorem dX7_read_91 : decode cX7_read 91 = .ok (.iadd, 1) := by decide +kernel
theorem dX7_read_92 : decode cX7_read 92 = .ok (.iaload, 1) := by decide +kernel
theorem dX7_read_93 : decode cX7_read 93 = .ok (.invokevirtual 98, 3) := by decide +kernel
theorem dX7_read_96 : decode cX7_read 96 = .ok (.ifCond .le 9, 3) := by decide +kernel
theorem dX7_read_99 : decode cX7_read 99 = .ok (.iinc 2 1, 3) := by decide +kernel
theorem dX7_read_102 : decode cX7_read 102 = .ok (.goto (-70), 3) := by decide +kernel
theorem dX7_read_105 : decode cX7_read 105 = .ok (.iload_n 2, 1) := by decide +kernel
theorem dX7_read_106 : decode cX7_read 106 = .ok (.ireturn, 1) := by decide +kernel
abbrev kX7_read (g : rk_G) (R : rk_R) (pc : Nat) : rk_K := rk_cut g cX7_read 4 (some .int) RX7 3 R pc
abbrev aX7_read (g : rk_G) (R : rk_R) (pc : Nat) (K : rk_K) : Prop := rk_AK g cX7_read 4 (some .int) RX7 3 R pc K
abbrev sX7_read (g : rk_G) (vs : List Value) (σ : rk_M) (R : rk_R) : Prop := rk_does g yX7_read cX7_read 4 (some .int) 3 vs σ R
abbrev tX7_read (g : rk_G) (R : rk_R) (pc : Nat) (ls st : List Value) (σ : rk_M) : Prop := rk_At g cX7_read 4 (some .int) RX7 3 R pc ls st σ
def bX7_read_105 (g : rk_G) (R : rk_R) : rk_K := (rk_iload 2 (rk_iret R))
theorem eX7_read_105 (g : rk_G) (R : rk_R) (ls st : List Value) (σ : rk_M) : bX7_read_105 g R ls st σ = (rk_iload 2 (rk_iret R)) ls st σ := rfl
theorem oX7_read_105 {g : rk_G} {R : rk_R} : aX7_read g R 105 (bX7_read_105 g R) := (rk_iload_n_ok dX7_read_105 rfl (rk_iret_ok rfl dX7_read_106))
def bX7_read_32 (g : rk_G) (R : rk_R) : rk_K := (rk_ci (4) (rk_iload 2 (rk_imul (rk_ci (3) (rk_iadd (rk_aload 0 (rk_gR 7 29 (rk_iload 1 (rk_iald (rk_icmp_ge (bX7_read_105 g R) (rk_aload 0 (rk_aload 0 (rk_gR 7 30 (rk_iload 3 (rk_ci (4) (rk_iload 2 (rk_imul (rk_iadd (rk_iald (rk_aload 0 (rk_gR 7 30 (rk_iload 3 (rk_ci (4) (rk_iload 2 (rk_imul (rk_iadd (rk_ci (1) (rk_iadd (rk_iald (rk_aload 0 (rk_gR 7 30 (rk_iload 3 (rk_ci (4) (rk_iload 2 (rk_imul (rk_iadd (rk_ci (2) (rk_iadd (rk_iald (rk_aload 0 (rk_gR 7 30 (rk_iload 3 (rk_ci (4) (rk_iload 2 (rk_imul (rk_iadd (rk_ci (3) (rk_iadd (rk_iald (rk_cV g 4 7 yX7_adds cX7_adds 6 (some .int) 2 (rk_if_le (bX7_read_105 g R) (rk_iinc 2 (1) (kX7_read g R 32)))))))))))))))))))))))))))))))))))))))))))))))))))))
theorem eX7_read_32 (g : rk_G) (R : rk_R) (ls st : List Value) (σ : rk_M) : bX7_read_32 g R ls st σ = (rk_ci (4) (rk_iload 2 (rk_imul (rk_ci (3) (rk_iadd (rk_aload 0 (rk_gR 7 29 (rk_iload 1 (rk_iald (rk_icmp_ge (bX7_read_105 g R) (rk_aload 0 (rk_aload 0 (rk_gR 7 30 (rk_iload 3 (rk_ci (4) (rk_iload 2 (rk_imul (rk_iadd (rk_iald (rk_aload 0 (rk_gR 7 30 (rk_iload 3 (rk_ci (4) (rk_iload 2 (rk_imul (rk_iadd (rk_ci (1) (rk_iadd (rk_iald (rk_aload 0 (rk_gR 7 30 (rk_iload 3 (rk_ci (4) (rk_iload 2 (rk_imul (rk_iadd (rk_ci (2) (rk_iadd (rk_iald (rk_aload 0 (rk_gR 7 30 (rk_iload 3 (rk_ci (4) (rk_iload 2 (rk_imul (rk_iadd (rk_ci (3) (rk_iadd (rk_iald (rk_cV g 4 7 yX7_adds cX7_adds 6 (some .int) 2 (rk_if_le (bX7_read_105 g R) (rk_iinc 2 (1) (kX7_read g R 32))))))))))))))))))))))))))))))))))))))))))))))))))))) ls st σ := rfl
theorem oX7_read_32 {g : rk_G} {R : rk_R} : aX7_read g R 32 (bX7_read_32 g R) := (rk_iconst_ok dX7_read_32 (by decide) (rk_iload_n_ok dX7_read_33 rfl (rk_imul_ok dX7_read_34 (rk_iconst_ok dX7_read_35 (by decide) (rk_iadd_ok dX7_read_36 (rk_aload_n_ok dX7_read_37 rfl (rk_gR_ok dX7_read_38 rfl iX7 (by decide) rfl wfX7_68 (rk_iload_n_ok dX7_read_41 rfl (rk_iald_ok dX7_read_42 (rk_icmp_ge_ok (pc' := 105) dX7_read_43 (by decide) oX7_read_105 (rk_aload_n_ok dX7_read_46 rfl (rk_aload_n_ok dX7_read_47 rfl (rk_gR_ok dX7_read_48 rfl iX7 (by decide) rfl wfX7_71 (rk_iload_n_ok dX7_read_51 rfl (rk_iconst_ok dX7_read_52 (by decide) (rk_iload_n_ok dX7_read_53 rfl (rk_imul_ok dX7_read_54 (rk_iadd_ok dX7_read_55 (rk_iald_ok dX7_read_56 (rk_aload_n_ok dX7_read_57 rfl (rk_gR_ok dX7_read_58 rfl iX7 (by decide) rfl wfX7_71 (rk_iload_n_ok dX7_read_61 rfl (rk_iconst_ok dX7_read_62 (by decide) (rk_iload_n_ok dX7_read_63 rfl (rk_imul_ok dX7_read_64 (rk_iadd_ok dX7_read_65 (rk_iconst_ok dX7_read_66 (by decide) (rk_iadd_ok dX7_read_67 (rk_iald_ok dX7_read_68 (rk_aload_n_ok dX7_read_69 rfl (rk_gR_ok dX7_read_70 rfl iX7 (by decide) rfl wfX7_71 (rk_iload_n_ok dX7_read_73 rfl (rk_iconst_ok dX7_read_74 (by decide) (rk_iload_n_ok dX7_read_75 rfl (rk_imul_ok dX7_read_76 (rk_iadd_ok dX7_read_77 (rk_iconst_ok dX7_read_78 (by decide) (rk_iadd_ok dX7_read_79 (rk_iald_ok dX7_read_80 (rk_aload_n_ok dX7_read_81 rfl (rk_gR_ok dX7_read_82 rfl iX7 (by decide) rfl wfX7_71 (rk_iload_n_ok dX7_read_85 rfl (rk_iconst_ok dX7_read_86 (by decide) (rk_iload_n_ok dX7_read_87 rfl (rk_imul_ok dX7_read_88 (rk_iadd_ok dX7_read_89 (rk_iconst_ok dX7_read_90 (by decide) (rk_iadd_ok dX7_read_91 (rk_iald_ok dX7_read_92 (rk_cV_ok dX7_read_93 rfl rfl npX7_adds wmX7_98 wvX7_adds weX7_adds wiX7 wdX7_adds (by decide) (by decide) (rk_if_le_ok (pc' := 105) dX7_read_96 (by decide) oX7_read_105 (rk_iinc_ok dX7_read_99 (by decide) (by decide) (rk_goto_ok (pc' := 32) dX7_read_102 (by decide) rk_cut_ok)))))))))))))))))))))))))))))))))))))))))))))))))))))
def bX7_read_0 (g : rk_G) (R : rk_R) : rk_K := (rk_iload 1 (rk_cS g 1 yX7_isSheet cX7_isSheet 1 (some .boolean) 1 (rk_if_ne (rk_aload 0 (rk_gR 7 27 (rk_iload 1 (rk_zald (rk_if_ne (rk_ci (0) (rk_istore 2 (rk_ci (60) (rk_iload 1 (rk_imul (rk_istore 3 (kX7_read g R 32))))))) (rk_aload 0 (rk_ci (1) (rk_cV g 1 7 yX7_meets cX7_meets 2 (some .int) 0 (rk_iret R))))))))) (rk_ci (-2) (rk_iret R)))))
theorem eX7_read_0 (g : rk_G) (R : rk_R) (ls st : List Value) (σ : rk_M) : bX7_read_0 g R ls st σ = (rk_iload 1 (rk_cS g 1 yX7_isSheet cX7_isSheet 1 (some .boolean) 1 (rk_if_ne (rk_aload 0 (rk_gR 7 27 (rk_iload 1 (rk_zald (rk_if_ne (rk_ci (0) (rk_istore 2 (rk_ci (60) (rk_iload 1 (rk_imul (rk_istore 3 (kX7_read g R 32))))))) (rk_aload 0 (rk_ci (1) (rk_cV g 1 7 yX7_meets cX7_meets 2 (some .int) 0 (rk_iret R))))))))) (rk_ci (-2) (rk_iret R))))) ls st σ := rfl
theorem oX7_read_0 {g : rk_G} {R : rk_R} : aX7_read g R 0 (bX7_read_0 g R) := (rk_iload_n_ok dX7_read_0 rfl (rk_cS_ok dX7_read_1 npX7_isSheet wmX7_105 wtX7_isSheet wiX7 wdX7_isSheet (by decide) (by decide) (rk_if_ne_ok (pc' := 10) dX7_read_4 (by decide) (rk_aload_n_ok dX7_read_10 rfl (rk_gR_ok dX7_read_11 rfl iX7 (by decide) rfl wfX7_61 (rk_iload_n_ok dX7_read_14 rfl (rk_zald_ok dX7_read_15 (rk_if_ne_ok (pc' := 25) dX7_read_16 (by decide) (rk_iconst_ok dX7_read_25 (by decide) (rk_istore_n_ok dX7_read_26 rfl (by decide) (rk_bipush_ok dX7_read_27 (by decide) (rk_iload_n_ok dX7_read_29 rfl (rk_imul_ok dX7_read_30 (rk_istore_n_ok dX7_read_31 rfl (by decide) rk_cut_ok)))))) (rk_aload_n_ok dX7_read_19 rfl (rk_iconst_ok dX7_read_20 (by decide) (rk_cV_ok dX7_read_21 rfl rfl npX7_meets wmX7_108 wvX7_meets weX7_meets wiX7 wdX7_meets (by decide) (by decide) (rk_iret_ok rfl dX7_read_24))))))))) (rk_bipush_ok dX7_read_7 (by decide) (rk_iret_ok rfl dX7_read_9)))))
theorem dX7_at_0 : decode cX7_at 0 = .ok (.aload_n 0, 1) := by decide +kernel
theorem dX7_at_1 : decode cX7_at 1 = .ok (.iload_n 1, 1) := by decide +kernel
theorem dX7_at_2 : decode cX7_at 2 = .ok (.invokevirtual 91, 3) := by decide +kernel
theorem dX7_at_5 : decode cX7_at 5 = .ok (.ifCond .eq 21, 3) := by decide +kernel
theorem dX7_at_8 : decode cX7_at 8 = .ok (.iload_n 2, 1) := by decide +kernel
theorem dX7_at_9 : decode cX7_at 9 = .ok (.iconst 0, 1) := by decide +kernel
theorem dX7_at_10 : decode cX7_at 10 = .ok (.iconst 2, 1) := by decide +kernel
theorem dX7_at_11 : decode cX7_at 11 = .ok (.invokestatic 81, 3) := by decide +kernel
theorem dX7_at_14 : decode cX7_at 14 = .ok (.ifCond .eq 12, 3) := by decide +kernel
theorem dX7_at_17 : decode cX7_at 17 = .ok (.aload_n 0, 1) := by decide +kernel
theorem dX7_at_18 : decode cX7_at 18 = .ok (.iload_n 1, 1) := by decide +kernel
theorem dX7_at_19 : decode cX7_at 19 = .ok (.iload_n 2, 1) := by decide +kernel
theorem dX7_at_20 : decode cX7_at 20 = .ok (.invokevirtual 119, 3) := by decide +kernel
theorem dX7_at_23 : decode cX7_at 23 = .ok (.goto 5, 3) := by decide +kernel
theorem dX7_at_26 : decode cX7_at 26 = .ok (.bipush (-2), 2) := by decide +kernel
theorem dX7_at_28 : decode cX7_at 28 = .ok (.ireturn, 1) := by decide +kernel
abbrev kX7_at (g : rk_G) (R : rk_R) (pc : Nat) : rk_K := rk_cut g cX7_at 3 (some .int) RX7 3 R pc
abbrev aX7_at (g : rk_G) (R : rk_R) (pc : Nat) (K : rk_K) : Prop := rk_AK g cX7_at 3 (some .int) RX7 3 R pc K
abbrev sX7_at (g : rk_G) (vs : List Value) (σ : rk_M) (R : rk_R) : Prop := rk_does g yX7_at cX7_at 3 (some .int) 3 vs σ R
abbrev tX7_at (g : rk_G) (R : rk_R) (pc : Nat) (ls st : List Value) (σ : rk_M) : Prop := rk_At g cX7_at 3 (some .int) RX7 3 R pc ls st σ
def bX7_at_28 (g : rk_G) (R : rk_R) : rk_K := (rk_iret R)
theorem eX7_at_28 (g : rk_G) (R : rk_R) (ls st : List Value) (σ : rk_M) : bX7_at_28 g R ls st σ = (rk_iret R) ls st σ := rfl
theorem oX7_at_28 {g : rk_G} {R : rk_R} : aX7_at g R 28 (bX7_at_28 g R) := (rk_iret_ok rfl dX7_at_28)
def bX7_at_26 (g : rk_G) (R : rk_R) : rk_K := (rk_ci (-2) (bX7_at_28 g R))
theorem eX7_at_26 (g : rk_G) (R : rk_R) (ls st : List Value) (σ : rk_M) : bX7_at_26 g R ls st σ = (rk_ci (-2) (bX7_at_28 g R)) ls st σ := rfl
theorem oX7_at_26 {g : rk_G} {R : rk_R} : aX7_at g R 26 (bX7_at_26 g R) := (rk_bipush_ok dX7_at_26 (by decide) oX7_at_28)
def bX7_at_0 (g : rk_G) (R : rk_R) : rk_K := (rk_aload 0 (rk_iload 1 (rk_cV g 1 7 yX7_isMeeting cX7_isMeeting 2 (some .boolean) 1 (rk_if_eq (bX7_at_26 g R) (rk_iload 2 (rk_ci (0) (rk_ci (2) (rk_cS g 3 yX7_in cX7_in 3 (some .boolean) 0 (rk_if_eq (bX7_at_26 g R) (rk_aload 0 (rk_iload 1 (rk_iload 2 (rk_cV g 2 7 yX7_atOf cX7_atOf 3 (some .int) 2 (bX7_at_28 g R))))))))))))))
theorem eX7_at_0 (g : rk_G) (R : rk_R) (ls st : List Value) (σ : rk_M) : bX7_at_0 g R ls st σ = (rk_aload 0 (rk_iload 1 (rk_cV g 1 7 yX7_isMeeting cX7_isMeeting 2 (some .boolean) 1 (rk_if_eq (bX7_at_26 g R) (rk_iload 2 (rk_ci (0) (rk_ci (2) (rk_cS g 3 yX7_in cX7_in 3 (some .boolean) 0 (rk_if_eq (bX7_at_26 g R) (rk_aload 0 (rk_iload 1 (rk_iload 2 (rk_cV g 2 7 yX7_atOf cX7_atOf 3 (some .int) 2 (bX7_at_28 g R)))))))))))))) ls st σ := rfl
theorem oX7_at_0 {g : rk_G} {R : rk_R} : aX7_at g R 0 (bX7_at_0 g R) := (rk_aload_n_ok dX7_at_0 rfl (rk_iload_n_ok dX7_at_1 rfl (rk_cV_ok dX7_at_2 rfl rfl npX7_isMeeting wmX7_91 wvX7_isMeeting weX7_isMeeting wiX7 wdX7_isMeeting (by decide) (by decide) (rk_if_eq_ok (pc' := 26) dX7_at_5 (by decide) oX7_at_26 (rk_iload_n_ok dX7_at_8 rfl (rk_iconst_ok dX7_at_9 (by decide) (rk_iconst_ok dX7_at_10 (by decide) (rk_cS_ok dX7_at_11 npX7_in wmX7_81 wtX7_in wiX7 wdX7_in (by decide) (by decide) (rk_if_eq_ok (pc' := 26) dX7_at_14 (by decide) oX7_at_26 (rk_aload_n_ok dX7_at_17 rfl (rk_iload_n_ok dX7_at_18 rfl (rk_iload_n_ok dX7_at_19 rfl (rk_cV_ok dX7_at_20 rfl rfl npX7_atOf wmX7_119 wvX7_atOf weX7_atOf wiX7 wdX7_atOf (by decide) (by decide) (rk_goto_ok (pc' := 28) dX7_at_23 (by decide) oX7_at_28))))))))))))))
theorem dX7_isAlong_0 : decode cX7_isAlong 0 = .ok (.aload_n 0, 1) := by decide +kernel
theorem dX7_isAlong_1 : decode cX7_isAlong 1 = .ok (.iload_n 1, 1) := by decide +kernel
theorem dX7_isAlong_2 : decode cX7_isAlong 2 = .ok (.iload_n 2, 1) := by decide +kernel
theorem dX7_isAlong_3 : decode cX7_isAlong 3 = .ok (.iload_n 3, 1) := by decide +kernel
theorem dX7_isAlong_4 : decode cX7_isAlong 4 = .ok (.invokevirtual 129, 3) := by decide +kernel
theorem dX7_isAlong_7 : decode cX7_isAlong 7 = .ok (.lstore 4, 2) := by decide +kernel
theorem dX7_isAlong_9 : decode cX7_isAlong 9 = .ok (.lload 4, 2) := by decide +kernel
theorem dX7_isAlong_11 : decode cX7_isAlong 11 = .ok (.lconst 0, 1) := by decide +kernel
theorem dX7_isAlong_12 : decode cX7_isAlong 12 = .ok (.lcmp, 1) := by decide +kernel
theorem dX7_isAlong_13 : decode cX7_isAlong 13 = .ok (.ifCond .ge 27, 3) := by decide +kernel
theorem dX7_isAlong_16 : decode cX7_isAlong 16 = .ok (.ldc2_w 133, 3) := by decide +kernel
theorem dX7_isAlong_19 : decode cX7_isAlong 19 = .ok (.lload 4, 2) := by decide +kernel
theorem dX7_isAlong_21 : decode cX7_isAlong 21 = .ok (.lmul, 1) := by decide +kernel
theorem dX7_isAlong_22 : decode cX7_isAlong 22 = .ok (.lload 4, 2) := by decide +kernel
theorem dX7_isAlong_24 : decode cX7_isAlong 24 = .ok (.lmul, 1) := by decide +kernel
theorem dX7_isAlong_25 : decode cX7_isAlong 25 = .ok (.aload_n 0, 1) := by decide +kernel
theorem dX7_isAlong_26 : decode cX7_isAlong 26 = .ok (.iload_n 1, 1) := by decide +kernel
theorem dX7_isAlong_27 : decode cX7_isAlong 27 = .ok (.iload_n 2, 1) := by decide +kernel
theorem dX7_isAlong_28 : decode cX7_isAlong 28 = .ok (.iload_n 3, 1) := by decide +kernel
theorem dX7_isAlong_29 : decode cX7_isAlong 29 = .ok (.invokevirtual 135, 3) := by decide +kernel
theorem dX7_isAlong_32 : decode cX7_isAlong 32 = .ok (.lcmp, 1) := by decide +kernel
theorem dX7_isAlong_33 : decode cX7_isAlong 33 = .ok (.ifCond .lt 7, 3) := by decide +kernel
theorem dX7_isAlong_36 : decode cX7_isAlong 36 = .ok (.iconst 1, 1) := by decide +kernel
theorem dX7_isAlong_37 : decode cX7_isAlong 37 = .ok (.goto 4, 3) := by decide +kernel
theorem dX7_isAlong_40 : decode cX7_isAlong 40 = .ok (.iconst 0, 1) := by decide +kernel
theorem dX7_isAlong_41 : decode cX7_isAlong 41 = .ok (.ireturn, 1) := by decide +kernel
abbrev kX7_isAlong (g : rk_G) (R : rk_R) (pc : Nat) : rk_K := rk_cut g cX7_isAlong 6 (some .boolean) RX7 3 R pc
abbrev aX7_isAlong (g : rk_G) (R : rk_R) (pc : Nat) (K : rk_K) : Prop := rk_AK g cX7_isAlong 6 (some .boolean) RX7 3 R pc K
abbrev sX7_isAlong (g : rk_G) (vs : List Value) (σ : rk_M) (R : rk_R) : Prop := rk_does g yX7_isAlong cX7_isAlong 6 (some .boolean) 3 vs σ R
abbrev tX7_isAlong (g : rk_G) (R : rk_R) (pc : Nat) (ls st : List Value) (σ : rk_M) : Prop := rk_At g cX7_isAlong 6 (some .boolean) RX7 3 R pc ls st σ
def bX7_isAlong_41 (g : rk_G) (R : rk_R) : rk_K := (rk_zret R)
theorem eX7_isAlong_41 (g : rk_G) (R : rk_R) (ls st : List Value) (σ : rk_M) : bX7_isAlong_41 g R ls st σ = (rk_zret R) ls st σ := rfl
theorem oX7_isAlong_41 {g : rk_G} {R : rk_R} : aX7_isAlong g R 41 (bX7_isAlong_41 g R) := (rk_zret_ok rfl dX7_isAlong_41)
def bX7_isAlong_40 (g : rk_G) (R : rk_R) : rk_K := (rk_ci (0) (bX7_isAlong_41 g R))
theorem eX7_isAlong_40 (g : rk_G) (R : rk_R) (ls st : List Value) (σ : rk_M) : bX7_isAlong_40 g R ls st σ = (rk_ci (0) (bX7_isAlong_41 g R)) ls st σ := rfl
theorem oX7_isAlong_40 {g : rk_G} {R : rk_R} : aX7_isAlong g R 40 (bX7_isAlong_40 g R) := (rk_iconst_ok dX7_isAlong_40 (by decide) oX7_isAlong_41)
def bX7_isAlong_0 (g : rk_G) (R : rk_R) : rk_K := (rk_aload 0 (rk_iload 1 (rk_iload 2 (rk_iload 3 (rk_cV g 3 7 yX7_product cX7_product 6 (some .long) 1 (rk_lstore 4 (rk_lload 4 (rk_cj (0) (rk_lcmp (rk_if_ge (bX7_isAlong_40 g R) (rk_cj (2) (rk_lload 4 (rk_lmul (rk_lload 4 (rk_lmul (rk_aload 0 (rk_iload 1 (rk_iload 2 (rk_iload 3 (rk_cV g 3 7 yX7_own cX7_own 4 (some .long) 2 (rk_lcmp (rk_if_lt (bX7_isAlong_40 g R) (rk_ci (1) (bX7_isAlong_41 g R))))))))))))))))))))))))
theorem eX7_isAlong_0 (g : rk_G) (R : rk_R) (ls st : List Value) (σ : rk_M) : bX7_isAlong_0 g R ls st σ = (rk_aload 0 (rk_iload 1 (rk_iload 2 (rk_iload 3 (rk_cV g 3 7 yX7_product cX7_product 6 (some .long) 1 (rk_lstore 4 (rk_lload 4 (rk_cj (0) (rk_lcmp (rk_if_ge (bX7_isAlong_40 g R) (rk_cj (2) (rk_lload 4 (rk_lmul (rk_lload 4 (rk_lmul (rk_aload 0 (rk_iload 1 (rk_iload 2 (rk_iload 3 (rk_cV g 3 7 yX7_own cX7_own 4 (some .long) 2 (rk_lcmp (rk_if_lt (bX7_isAlong_40 g R) (rk_ci (1) (bX7_isAlong_41 g R)))))))))))))))))))))))) ls st σ := rfl
theorem oX7_isAlong_0 {g : rk_G} {R : rk_R} : aX7_isAlong g R 0 (bX7_isAlong_0 g R) := (rk_aload_n_ok dX7_isAlong_0 rfl (rk_iload_n_ok dX7_isAlong_1 rfl (rk_iload_n_ok dX7_isAlong_2 rfl (rk_iload_n_ok dX7_isAlong_3 rfl (rk_cV_ok dX7_isAlong_4 rfl rfl npX7_product wmX7_129 wvX7_product weX7_product wiX7 wdX7_product (by decide) (by decide) (rk_lstore_ok dX7_isAlong_7 (by decide) (rk_lload_ok dX7_isAlong_9 (rk_lconst_ok dX7_isAlong_11 (by decide) (rk_lcmp_ok dX7_isAlong_12 (rk_if_ge_ok (pc' := 40) dX7_isAlong_13 (by decide) oX7_isAlong_40 (rk_ldc2_ok dX7_isAlong_16 wjX7_133 (rk_lload_ok dX7_isAlong_19 (rk_lmul_ok dX7_isAlong_21 (rk_lload_ok dX7_isAlong_22 (rk_lmul_ok dX7_isAlong_24 (rk_aload_n_ok dX7_isAlong_25 rfl (rk_iload_n_ok dX7_isAlong_26 rfl (rk_iload_n_ok dX7_isAlong_27 rfl (rk_iload_n_ok dX7_isAlong_28 rfl (rk_cV_ok dX7_isAlong_29 rfl rfl npX7_own wmX7_135 wvX7_own weX7_own wiX7 wdX7_own (by decide) (by decide) (rk_lcmp_ok dX7_isAlong_32 (rk_if_lt_ok (pc' := 40) dX7_isAlong_33 (by decide) oX7_isAlong_40 (rk_iconst_ok dX7_isAlong_36 (by decide) (rk_goto_ok (pc' := 41) dX7_isAlong_37 (by decide) oX7_isAlong_41))))))))))))))))))))))))
