theorem dX6_detour_0 : decode cX6_detour 0 = .ok (.aload_n 0, 1) := by decide +kernel
theorem dX6_detour_1 : decode cX6_detour 1 = .ok (.getfield 10, 3) := by decide +kernel
theorem dX6_detour_4 : decode cX6_detour 4 = .ok (.iload_n 1, 1) := by decide +kernel
theorem dX6_detour_5 : decode cX6_detour 5 = .ok (.invokevirtual 76, 3) := by decide +kernel
theorem dX6_detour_8 : decode cX6_detour 8 = .ok (.ifCond .ne 6, 3) := by decide +kernel
theorem dX6_detour_11 : decode cX6_detour 11 = .ok (.bipush (-2), 2) := by decide +kernel
theorem dX6_detour_13 : decode cX6_detour 13 = .ok (.ireturn, 1) := by decide +kernel
theorem dX6_detour_14 : decode cX6_detour 14 = .ok (.aload_n 0, 1) := by decide +kernel
theorem dX6_detour_15 : decode cX6_detour 15 = .ok (.getfield 10, 3) := by decide +kernel
theorem dX6_detour_18 : decode cX6_detour 18 = .ok (.invokevirtual 204, 3) := by decide +kernel
theorem dX6_detour_21 : decode cX6_detour 21 = .ok (.iconst 1, 1) := by decide +kernel
theorem dX6_detour_22 : decode cX6_detour 22 = .ok (.iload_n 1, 1) := by decide +kernel
theorem dX6_detour_23 : decode cX6_detour 23 = .ok (.ishl, 1) := by decide +kernel
theorem dX6_detour_24 : decode cX6_detour 24 = .ok (.iconst (-1), 1) := by decide +kernel
theorem dX6_detour_25 : decode cX6_detour 25 = .ok (.ixor, 1) := by decide +kernel
theorem dX6_detour_26 : decode cX6_detour 26 = .ok (.iand, 1) := by decide +kernel
theorem dX6_detour_27 : decode cX6_detour 27 = .ok (.istore_n 2, 1) := by decide +kernel
theorem dX6_detour_28 : decode cX6_detour 28 = .ok (.aload_n 0, 1) := by decide +kernel
theorem dX6_detour_29 : decode cX6_detour 29 = .ok (.getfield 37, 3) := by decide +kernel
theorem dX6_detour_32 : decode cX6_detour 32 = .ok (.aload_n 0, 1) := by decide +kernel
theorem dX6_detour_33 : decode cX6_detour 33 = .ok (.getfield 10, 3) := by decide +kernel
theorem dX6_detour_36 : decode cX6_detour 36 = .ok (.getfield 122, 3) := by decide +kernel
theorem dX6_detour_39 : decode cX6_detour 39 = .ok (.iload_n 1, 1) := by decide +kernel
theorem dX6_detour_40 : decode cX6_detour 40 = .ok (.iaload, 1) := by decide +kernel
theorem dX6_detour_41 : decode cX6_detour 41 = .ok (.aload_n 0, 1) := by decide +kernel
theorem dX6_detour_42 : decode cX6_detour 42 = .ok (.getfield 10, 3) := by decide +kernel
theorem dX6_detour_45 : decode cX6_detour 45 = .ok (.getfield 125, 3) := by decide +kernel
theorem dX6_detour_48 : decode cX6_detour 48 = .ok (.iload_n 1, 1) := by decide +kernel
theorem dX6_detour_49 : decode cX6_detour 49 = .ok (.iaload, 1) := by decide +kernel
theorem dX6_detour_50 : decode cX6_detour 50 = .ok (.iload_n 2, 1) := by decide +kernel
theorem dX6_detour_51 : decode cX6_detour 51 = .ok (.invokevirtual 190, 3) := by decide +kernel
theorem dX6_detour_54 : decode cX6_detour 54 = .ok (.istore_n 3, 1) := by decide +kernel
theorem dX6_detour_55 : decode cX6_detour 55 = .ok (.iload_n 3, 1) := by decide +kernel
theorem dX6_detour_56 : decode cX6_detour 56 = .ok (.iconst (-1), 1) := by decide +kernel
theorem dX6_detour_57 : decode cX6_detour 57 = .ok (.if_icmp .ne 7, 3) := by decide +kernel
theorem dX6_detour_60 : decode cX6_detour 60 = .ok (.iconst (-1), 1) := by decide +kernel
theorem dX6_detour_61 : decode cX6_detour 61 = .ok (.goto 14, 3) := by decide +kernel
theorem dX6_detour_64 : decode cX6_detour 64 = .ok (.iload_n 3, 1) := by decide +kernel
theorem dX6_detour_65 : decode cX6_detour 65 = .ok (.aload_n 0, 1) := by decide +kernel
theorem dX6_detour_66 : decode cX6_detour 66 = .ok (.getfield 10, 3) := by decide +kernel
theorem dX6_detour_69 : decode cX6_detour 69 = .ok (.getfield 128, 3) := by decide +kernel
theorem dX6_detour_72 : decode cX6_detour 72 = .ok (.iload_n 1, 1) := by decide +kernel
theorem dX6_detour_73 : decode cX6_detour 73 = .ok (.iaload, 1) := by decide +kernel
theorem dX6_detour_74 : decode cX6_detour 74 = .ok (.isub, 1) := by decide +kernel
theorem dX6_detour_75 : decode cX6_detour 75 = .ok (.ireturn, 1) := by decide +kernel
abbrev kX6_detour (g : rk_G) (R : rk_R) (pc : Nat) : rk_K := rk_cut g cX6_detour 4 (some .int) RX6 3 R pc
abbrev aX6_detour (g : rk_G) (R : rk_R) (pc : Nat) (K : rk_K) : Prop := rk_AK g cX6_detour 4 (some .int) RX6 3 R pc K
abbrev sX6_detour (g : rk_G) (vs : List Value) (σ : rk_M) (R : rk_R) : Prop := rk_does g yX6_detour cX6_detour 4 (some .int) 3 vs σ R
abbrev tX6_detour (g : rk_G) (R : rk_R) (pc : Nat) (ls st : List Value) (σ : rk_M) : Prop := rk_At g cX6_detour 4 (some .int) RX6 3 R pc ls st σ
def bX6_detour_75 (g : rk_G) (R : rk_R) : rk_K := (rk_iret R)
theorem eX6_detour_75 (g : rk_G) (R : rk_R) (ls st : List Value) (σ : rk_M) : bX6_detour_75 g R ls st σ = (rk_iret R) ls st σ := rfl
theorem oX6_detour_75 {g : rk_G} {R : rk_R} : aX6_detour g R 75 (bX6_detour_75 g R) := (rk_iret_ok rfl dX6_detour_75)
def bX6_detour_0 (g : rk_G) (R : rk_R) : rk_K := (rk_aload 0 (rk_gR 6 0 (rk_iload 1 (rk_cV g 1 2 yX2_hasRoad cX2_hasRoad 2 (some .boolean) 0 (rk_if_ne (rk_aload 0 (rk_gR 6 0 (rk_cV g 0 2 yX2_allRoads cX2_allRoads 1 (some .int) 0 (rk_ci (1) (rk_iload 1 (rk_ishl (rk_ci (-1) (rk_ixor (rk_iand (rk_istore 2 (rk_aload 0 (rk_gR 6 3 (rk_aload 0 (rk_gR 6 0 (rk_gR 2 2 (rk_iload 1 (rk_iald (rk_aload 0 (rk_gR 6 0 (rk_gR 2 3 (rk_iload 1 (rk_iald (rk_iload 2 (rk_cV g 3 5 yX5_least cX5_least 5 (some .int) 2 (rk_istore 3 (rk_iload 3 (rk_ci (-1) (rk_icmp_ne (rk_iload 3 (rk_aload 0 (rk_gR 6 0 (rk_gR 2 6 (rk_iload 1 (rk_iald (rk_isub (bX6_detour_75 g R)))))))) (rk_ci (-1) (bX6_detour_75 g R)))))))))))))))))))))))))))))) (rk_ci (-2) (rk_iret R)))))))
theorem eX6_detour_0 (g : rk_G) (R : rk_R) (ls st : List Value) (σ : rk_M) : bX6_detour_0 g R ls st σ = (rk_aload 0 (rk_gR 6 0 (rk_iload 1 (rk_cV g 1 2 yX2_hasRoad cX2_hasRoad 2 (some .boolean) 0 (rk_if_ne (rk_aload 0 (rk_gR 6 0 (rk_cV g 0 2 yX2_allRoads cX2_allRoads 1 (some .int) 0 (rk_ci (1) (rk_iload 1 (rk_ishl (rk_ci (-1) (rk_ixor (rk_iand (rk_istore 2 (rk_aload 0 (rk_gR 6 3 (rk_aload 0 (rk_gR 6 0 (rk_gR 2 2 (rk_iload 1 (rk_iald (rk_aload 0 (rk_gR 6 0 (rk_gR 2 3 (rk_iload 1 (rk_iald (rk_iload 2 (rk_cV g 3 5 yX5_least cX5_least 5 (some .int) 2 (rk_istore 3 (rk_iload 3 (rk_ci (-1) (rk_icmp_ne (rk_iload 3 (rk_aload 0 (rk_gR 6 0 (rk_gR 2 6 (rk_iload 1 (rk_iald (rk_isub (bX6_detour_75 g R)))))))) (rk_ci (-1) (bX6_detour_75 g R)))))))))))))))))))))))))))))) (rk_ci (-2) (rk_iret R))))))) ls st σ := rfl
theorem oX6_detour_0 {g : rk_G} {R : rk_R} : aX6_detour g R 0 (bX6_detour_0 g R) := (rk_aload_n_ok dX6_detour_0 rfl (rk_gR_ok dX6_detour_1 rfl iX6 (by decide) rfl wfX6_10 (rk_iload_n_ok dX6_detour_4 rfl (rk_cV_ok dX6_detour_5 rfl rfl npX2_hasRoad wmX6_76 wvX2_hasRoad weX2_hasRoad wiX2 wdX2_hasRoad (by decide) (by decide) (rk_if_ne_ok (pc' := 14) dX6_detour_8 (by decide) (rk_aload_n_ok dX6_detour_14 rfl (rk_gR_ok dX6_detour_15 rfl iX6 (by decide) rfl wfX6_10 (rk_cV_ok dX6_detour_18 rfl rfl npX2_allRoads wmX6_204 wvX2_allRoads weX2_allRoads wiX2 wdX2_allRoads (by decide) (by decide) (rk_iconst_ok dX6_detour_21 (by decide) (rk_iload_n_ok dX6_detour_22 rfl (rk_ishl_ok dX6_detour_23 (rk_iconst_ok dX6_detour_24 (by decide) (rk_ixor_ok dX6_detour_25 (rk_iand_ok dX6_detour_26 (rk_istore_n_ok dX6_detour_27 rfl (by decide) (rk_aload_n_ok dX6_detour_28 rfl (rk_gR_ok dX6_detour_29 rfl iX6 (by decide) rfl wfX6_37 (rk_aload_n_ok dX6_detour_32 rfl (rk_gR_ok dX6_detour_33 rfl iX6 (by decide) rfl wfX6_10 (rk_gR_ok dX6_detour_36 rfl iX2 (by decide) rfl wfX6_122 (rk_iload_n_ok dX6_detour_39 rfl (rk_iald_ok dX6_detour_40 (rk_aload_n_ok dX6_detour_41 rfl (rk_gR_ok dX6_detour_42 rfl iX6 (by decide) rfl wfX6_10 (rk_gR_ok dX6_detour_45 rfl iX2 (by decide) rfl wfX6_125 (rk_iload_n_ok dX6_detour_48 rfl (rk_iald_ok dX6_detour_49 (rk_iload_n_ok dX6_detour_50 rfl (rk_cV_ok dX6_detour_51 rfl rfl npX5_least wmX6_190 wvX5_least weX5_least wiX5 wdX5_least (by decide) (by decide) (rk_istore_n_ok dX6_detour_54 rfl (by decide) (rk_iload_n_ok dX6_detour_55 rfl (rk_iconst_ok dX6_detour_56 (by decide) (rk_icmp_ne_ok (pc' := 64) dX6_detour_57 (by decide) (rk_iload_n_ok dX6_detour_64 rfl (rk_aload_n_ok dX6_detour_65 rfl (rk_gR_ok dX6_detour_66 rfl iX6 (by decide) rfl wfX6_10 (rk_gR_ok dX6_detour_69 rfl iX2 (by decide) rfl wfX6_128 (rk_iload_n_ok dX6_detour_72 rfl (rk_iald_ok dX6_detour_73 (rk_isub_ok dX6_detour_74 oX6_detour_75))))))) (rk_iconst_ok dX6_detour_60 (by decide) (rk_goto_ok (pc' := 75) dX6_detour_61 (by decide) oX6_detour_75)))))))))))))))))))))))))))))) (rk_bipush_ok dX6_detour_11 (by decide) (rk_iret_ok rfl dX6_detour_13)))))))
theorem dX0_perform_0 : decode cX0_perform 0 = .ok (.aload_n 0, 1) := by decide +kernel
theorem dX0_perform_1 : decode cX0_perform 1 = .ok (.iload_n 1, 1) := by decide +kernel
theorem dX0_perform_2 : decode cX0_perform 2 = .ok (.putfield 9, 3) := by decide +kernel
theorem dX0_perform_5 : decode cX0_perform 5 = .ok (.aload_n 0, 1) := by decide +kernel
theorem dX0_perform_6 : decode cX0_perform 6 = .ok (.iconst 0, 1) := by decide +kernel
theorem dX0_perform_7 : decode cX0_perform 7 = .ok (.putfield 15, 3) := by decide +kernel
theorem dX0_perform_10 : decode cX0_perform 10 = .ok (.aload_n 0, 1) := by decide +kernel
theorem dX0_perform_11 : decode cX0_perform 11 = .ok (.iconst (-1), 1) := by decide +kernel
theorem dX0_perform_12 : decode cX0_perform 12 = .ok (.putfield 18, 3) := by decide +kernel
theorem dX0_perform_15 : decode cX0_perform 15 = .ok (.iconst 0, 1) := by decide +kernel
theorem dX0_perform_16 : decode cX0_perform 16 = .ok (.istore_n 3, 1) := by decide +kernel
theorem dX0_perform_17 : decode cX0_perform 17 = .ok (.iload_n 3, 1) := by decide +kernel
theorem dX0_perform_18 : decode cX0_perform 18 = .ok (.bipush 24, 2) := by decide +kernel
theorem dX0_perform_20 : decode cX0_perform 20 = .ok (.if_icmp .ge 63, 3) := by decide +kernel
theorem dX0_perform_23 : decode cX0_perform 23 = .ok (.aload_n 0, 1) := by decide +kernel
theorem dX0_perform_24 : decode cX0_perform 24 = .ok (.iload_n 2, 1) := by decide +kernel
theorem dX0_perform_25 : decode cX0_perform 25 = .ok (.invokevirtual 25, 3) := by decide +kernel
theorem dX0_perform_28 : decode cX0_perform 28 = .ok (.istore 4, 2) := by decide +kernel
theorem dX0_perform_30 : decode cX0_perform 30 = .ok (.iload 4, 2) := by decide +kernel
theorem dX0_perform_32 : decode cX0_perform 32 = .ok (.iconst (-1), 1) := by decide +kernel
theorem dX0_perform_33 : decode cX0_perform 33 = .ok (.if_icmp .ne 6, 3) := by decide +kernel
theorem dX0_perform_36 : decode cX0_perform 36 = .ok (.goto 47, 3) := by decide +kernel
theorem dX0_perform_39 : decode cX0_perform 39 = .ok (.aload_n 0, 1) := by decide +kernel
theorem dX0_perform_40 : decode cX0_perform 40 = .ok (.getfield 15, 3) := by decide +kernel
theorem dX0_perform_43 : decode cX0_perform 43 = .ok (.ifCond .ne 9, 3) := by decide +kernel
theorem dX0_perform_46 : decode cX0_perform 46 = .ok (.aload_n 0, 1) := by decide +kernel
theorem dX0_perform_47 : decode cX0_perform 47 = .ok (.iload 4, 2) := by decide +kernel
theorem dX0_perform_49 : decode cX0_perform 49 = .ok (.putfield 18, 3) := by decide +kernel
theorem dX0_perform_52 : decode cX0_perform 52 = .ok (.aload_n 0, 1) := by decide +kernel
theorem dX0_perform_53 : decode cX0_perform 53 = .ok (.dup, 1) := by decide +kernel
theorem dX0_perform_54 : decode cX0_perform 54 = .ok (.getfield 15, 3) := by decide +kernel
theorem dX0_perform_57 : decode cX0_perform 57 = .ok (.iconst 1, 1) := by decide +kernel
theorem dX0_perform_58 : decode cX0_perform 58 = .ok (.iadd, 1) := by decide +kernel
theorem dX0_perform_59 : decode cX0_perform 59 = .ok (.putfield 15, 3) := by decide +kernel
theorem dX0_perform_62 : decode cX0_perform 62 = .ok (.aload_n 0, 1) := by decide +kernel
theorem dX0_perform_63 : decode cX0_perform 63 = .ok (.dup, 1) := by decide +kernel
theorem dX0_perform_64 : decode cX0_perform 64 = .ok (.getfield 9, 3) := by decide +kernel
theorem dX0_perform_67 : decode cX0_perform 67 = .ok (.iconst 1, 1) := by decide +kernel
theorem dX0_perform_68 : decode cX0_perform 68 = .ok (.iload 4, 2) := by decide +kernel
theorem dX0_perform_70 : decode cX0_perform 70 = .ok (.ishl, 1) := by decide +kernel
theorem dX0_perform_71 : decode cX0_perform 71 = .ok (.iconst (-1), 1) := by decide +kernel
theorem dX0_perform_72 : decode cX0_perform 72 = .ok (.ixor, 1) := by decide +kernel
theorem dX0_perform_73 : decode cX0_perform 73 = .ok (.iand, 1) := by decide +kernel
theorem dX0_perform_74 : decode cX0_perform 74 = .ok (.putfield 9, 3) := by decide +kernel
theorem dX0_perform_77 : decode cX0_perform 77 = .ok (.iinc 3 1, 3) := by decide +kernel
theorem dX0_perform_80 : decode cX0_perform 80 = .ok (.goto (-63), 3) := by decide +kernel
theorem dX0_perform_83 : decode cX0_perform 83 = .ok (.return_, 1) := by decide +kernel
abbrev kX0_perform (g : rk_G) (R : rk_R) (pc : Nat) : rk_K := rk_cut g cX0_perform 5 none RX0 4 R pc
abbrev aX0_perform (g : rk_G) (R : rk_R) (pc : Nat) (K : rk_K) : Prop := rk_AK g cX0_perform 5 none RX0 4 R pc K
abbrev sX0_perform (g : rk_G) (vs : List Value) (σ : rk_M) (R : rk_R) : Prop := rk_does g yX0_perform cX0_perform 5 none 4 vs σ R
abbrev tX0_perform (g : rk_G) (R : rk_R) (pc : Nat) (ls st : List Value) (σ : rk_M) : Prop := rk_At g cX0_perform 5 none RX0 4 R pc ls st σ
def bX0_perform_83 (g : rk_G) (R : rk_R) : rk_K := (rk_vret R)
theorem eX0_perform_83 (g : rk_G) (R : rk_R) (ls st : List Value) (σ : rk_M) : bX0_perform_83 g R ls st σ = (rk_vret R) ls st σ := rfl
theorem oX0_perform_83 {g : rk_G} {R : rk_R} : aX0_perform g R 83 (bX0_perform_83 g R) := (rk_vret_ok rfl dX0_perform_83)
def bX0_perform_52 (g : rk_G) (R : rk_R) : rk_K := (rk_aload 0 (rk_dup (rk_gI 0 2 (rk_ci (1) (rk_iadd (rk_pI 0 2 (rk_aload 0 (rk_dup (rk_gI 0 1 (rk_ci (1) (rk_iload 4 (rk_ishl (rk_ci (-1) (rk_ixor (rk_iand (rk_pI 0 1 (rk_iinc 3 (1) (kX0_perform g R 17))))))))))))))))))
theorem eX0_perform_52 (g : rk_G) (R : rk_R) (ls st : List Value) (σ : rk_M) : bX0_perform_52 g R ls st σ = (rk_aload 0 (rk_dup (rk_gI 0 2 (rk_ci (1) (rk_iadd (rk_pI 0 2 (rk_aload 0 (rk_dup (rk_gI 0 1 (rk_ci (1) (rk_iload 4 (rk_ishl (rk_ci (-1) (rk_ixor (rk_iand (rk_pI 0 1 (rk_iinc 3 (1) (kX0_perform g R 17)))))))))))))))))) ls st σ := rfl
theorem oX0_perform_52 {g : rk_G} {R : rk_R} : aX0_perform g R 52 (bX0_perform_52 g R) := (rk_aload_n_ok dX0_perform_52 rfl (rk_dup_ok dX0_perform_53 (rk_gI_ok dX0_perform_54 rfl iX0 (by decide) rfl wfX0_15 (rk_iconst_ok dX0_perform_57 (by decide) (rk_iadd_ok dX0_perform_58 (rk_pI_ok dX0_perform_59 rfl iX0 tyX0_ok nmX0 (by decide) rfl rfl (by decide +kernel) wfX0_15 (rk_aload_n_ok dX0_perform_62 rfl (rk_dup_ok dX0_perform_63 (rk_gI_ok dX0_perform_64 rfl iX0 (by decide) rfl wfX0_9 (rk_iconst_ok dX0_perform_67 (by decide) (rk_iload_ok dX0_perform_68 (rk_ishl_ok dX0_perform_70 (rk_iconst_ok dX0_perform_71 (by decide) (rk_ixor_ok dX0_perform_72 (rk_iand_ok dX0_perform_73 (rk_pI_ok dX0_perform_74 rfl iX0 tyX0_ok nmX0 (by decide) rfl rfl (by decide +kernel) wfX0_9 (rk_iinc_ok dX0_perform_77 (by decide) (by decide) (rk_goto_ok (pc' := 17) dX0_perform_80 (by decide) rk_cut_ok))))))))))))))))))
def bX0_perform_17 (g : rk_G) (R : rk_R) : rk_K := (rk_iload 3 (rk_ci (24) (rk_icmp_ge (bX0_perform_83 g R) (rk_aload 0 (rk_iload 2 (rk_cV g 1 0 yX0_leastDeadEnd cX0_leastDeadEnd 5 (some .int) 3 (rk_istore 4 (rk_iload 4 (rk_ci (-1) (rk_icmp_ne (rk_aload 0 (rk_gI 0 2 (rk_if_ne (bX0_perform_52 g R) (rk_aload 0 (rk_iload 4 (rk_pI 0 3 (bX0_perform_52 g R))))))) (bX0_perform_83 g R)))))))))))
theorem eX0_perform_17 (g : rk_G) (R : rk_R) (ls st : List Value) (σ : rk_M) : bX0_perform_17 g R ls st σ = (rk_iload 3 (rk_ci (24) (rk_icmp_ge (bX0_perform_83 g R) (rk_aload 0 (rk_iload 2 (rk_cV g 1 0 yX0_leastDeadEnd cX0_leastDeadEnd 5 (some .int) 3 (rk_istore 4 (rk_iload 4 (rk_ci (-1) (rk_icmp_ne (rk_aload 0 (rk_gI 0 2 (rk_if_ne (bX0_perform_52 g R) (rk_aload 0 (rk_iload 4 (rk_pI 0 3 (bX0_perform_52 g R))))))) (bX0_perform_83 g R))))))))))) ls st σ := rfl
theorem oX0_perform_17 {g : rk_G} {R : rk_R} : aX0_perform g R 17 (bX0_perform_17 g R) := (rk_iload_n_ok dX0_perform_17 rfl (rk_bipush_ok dX0_perform_18 (by decide) (rk_icmp_ge_ok (pc' := 83) dX0_perform_20 (by decide) oX0_perform_83 (rk_aload_n_ok dX0_perform_23 rfl (rk_iload_n_ok dX0_perform_24 rfl (rk_cV_ok dX0_perform_25 rfl rfl npX0_leastDeadEnd wmX0_25 wvX0_leastDeadEnd weX0_leastDeadEnd wiX0 wdX0_leastDeadEnd (by decide) (by decide) (rk_istore_ok dX0_perform_28 (by decide) (rk_iload_ok dX0_perform_30 (rk_iconst_ok dX0_perform_32 (by decide) (rk_icmp_ne_ok (pc' := 39) dX0_perform_33 (by decide) (rk_aload_n_ok dX0_perform_39 rfl (rk_gI_ok dX0_perform_40 rfl iX0 (by decide) rfl wfX0_15 (rk_if_ne_ok (pc' := 52) dX0_perform_43 (by decide) oX0_perform_52 (rk_aload_n_ok dX0_perform_46 rfl (rk_iload_ok dX0_perform_47 (rk_pI_ok dX0_perform_49 rfl iX0 tyX0_ok nmX0 (by decide) rfl rfl (by decide +kernel) wfX0_18 oX0_perform_52)))))) (rk_goto_ok (pc' := 83) dX0_perform_36 (by decide) oX0_perform_83)))))))))))
def bX0_perform_0 (g : rk_G) (R : rk_R) : rk_K := (rk_aload 0 (rk_iload 1 (rk_pI 0 1 (rk_aload 0 (rk_ci (0) (rk_pI 0 2 (rk_aload 0 (rk_ci (-1) (rk_pI 0 3 (rk_ci (0) (rk_istore 3 (kX0_perform g R 17))))))))))))
theorem eX0_perform_0 (g : rk_G) (R : rk_R) (ls st : List Value) (σ : rk_M) : bX0_perform_0 g R ls st σ = (rk_aload 0 (rk_iload 1 (rk_pI 0 1 (rk_aload 0 (rk_ci (0) (rk_pI 0 2 (rk_aload 0 (rk_ci (-1) (rk_pI 0 3 (rk_ci (0) (rk_istore 3 (kX0_perform g R 17)))))))))))) ls st σ := rfl
theorem oX0_perform_0 {g : rk_G} {R : rk_R} : aX0_perform g R 0 (bX0_perform_0 g R) := (rk_aload_n_ok dX0_perform_0 rfl (rk_iload_n_ok dX0_perform_1 rfl (rk_pI_ok dX0_perform_2 rfl iX0 tyX0_ok nmX0 (by decide) rfl rfl (by decide +kernel) wfX0_9 (rk_aload_n_ok dX0_perform_5 rfl (rk_iconst_ok dX0_perform_6 (by decide) (rk_pI_ok dX0_perform_7 rfl iX0 tyX0_ok nmX0 (by decide) rfl rfl (by decide +kernel) wfX0_15 (rk_aload_n_ok dX0_perform_10 rfl (rk_iconst_ok dX0_perform_11 (by decide) (rk_pI_ok dX0_perform_12 rfl iX0 tyX0_ok nmX0 (by decide) rfl rfl (by decide +kernel) wfX0_18 (rk_iconst_ok dX0_perform_15 (by decide) (rk_istore_n_ok dX0_perform_16 rfl (by decide) rk_cut_ok)))))))))))
theorem dX1_settle_0 : decode cX1_settle 0 = .ok (.aload_n 0, 1) := by decide +kernel
theorem dX1_settle_1 : decode cX1_settle 1 = .ok (.iconst 0, 1) := by decide +kernel
theorem dX1_settle_2 : decode cX1_settle 2 = .ok (.putfield 9, 3) := by decide +kernel
theorem dX1_settle_5 : decode cX1_settle 5 = .ok (.iconst 0, 1) := by decide +kernel
theorem dX1_settle_6 : decode cX1_settle 6 = .ok (.istore_n 1, 1) := by decide +kernel
theorem dX1_settle_7 : decode cX1_settle 7 = .ok (.iload_n 1, 1) := by decide +kernel
theorem dX1_settle_8 : decode cX1_settle 8 = .ok (.aload_n 0, 1) := by decide +kernel
theorem dX1_settle_9 : decode cX1_settle 9 = .ok (.getfield 47, 3) := by decide +kernel
theorem dX1_settle_12 : decode cX1_settle 12 = .ok (.getfield 51, 3) := by decide +kernel
theorem dX1_settle_15 : decode cX1_settle 15 = .ok (.if_icmp .ge 23, 3) := by decide +kernel
theorem dX1_settle_18 : decode cX1_settle 18 = .ok (.aload_n 0, 1) := by decide +kernel
theorem dX1_settle_19 : decode cX1_settle 19 = .ok (.getfield 15, 3) := by decide +kernel
theorem dX1_settle_22 : decode cX1_settle 22 = .ok (.iload_n 1, 1) := by decide +kernel
theorem dX1_settle_23 : decode cX1_settle 23 = .ok (.iconst (-1), 1) := by decide +kernel
theorem dX1_settle_24 : decode cX1_settle 24 = .ok (.iastore, 1) := by decide +kernel
theorem dX1_settle_25 : decode cX1_settle 25 = .ok (.aload_n 0, 1) := by decide +kernel
theorem dX1_settle_26 : decode cX1_settle 26 = .ok (.getfield 19, 3) := by decide +kernel
theorem dX1_settle_29 : decode cX1_settle 29 = .ok (.iload_n 1, 1) := by decide +kernel
theorem dX1_settle_30 : decode cX1_settle 30 = .ok (.iconst (-1), 1) := by decide +kernel
theorem dX1_settle_31 : decode cX1_settle 31 = .ok (.iastore, 1) := by decide +kernel
theorem dX1_settle_32 : decode cX1_settle 32 = .ok (.iinc 1 1, 3) := by decide +kernel
theorem dX1_settle_35 : decode cX1_settle 35 = .ok (.goto (-28), 3) := by decide +kernel
theorem dX1_settle_38 : decode cX1_settle 38 = .ok (.iconst 0, 1) := by decide +kernel
theorem dX1_settle_39 : decode cX1_settle 39 = .ok (.istore_n 1, 1) := by decide +kernel
theorem dX1_settle_40 : decode cX1_settle 40 = .ok (.iload_n 1, 1) := by decide +kernel
theorem dX1_settle_41 : decode cX1_settle 41 = .ok (.aload_n 0, 1) := by decide +kernel
theorem dX1_settle_42 : decode cX1_settle 42 = .ok (.getfield 47, 3) := by decide +kernel
theorem dX1_settle_45 : decode cX1_settle 45 = .ok (.getfield 56, 3) := by decide +kernel
theorem dX1_settle_48 : decode cX1_settle 48 = .ok (.if_icmp .ge 14, 3) := by decide +kernel
theorem dX1_settle_51 : decode cX1_settle 51 = .ok (.aload_n 0, 1) := by decide +kernel
theorem dX1_settle_52 : decode cX1_settle 52 = .ok (.iload_n 1, 1) := by decide +kernel
theorem dX1_settle_53 : decode cX1_settle 53 = .ok (.invokevirtual 59, 3) := by decide +kernel
theorem dX1_settle_56 : decode cX1_settle 56 = .ok (.iinc 1 1, 3) := by decide +kernel
theorem dX1_settle_59 : decode cX1_settle 59 = .ok (.goto (-19), 3) := by decide +kernel
theorem dX1_settle_62 : decode cX1_settle 62 = .ok (.return_, 1) := by decide +kernel
abbrev kX1_settle (g : rk_G) (R : rk_R) (pc : Nat) : rk_K := rk_cut g cX1_settle 2 none RX1 4 R pc
abbrev aX1_settle (g : rk_G) (R : rk_R) (pc : Nat) (K : rk_K) : Prop := rk_AK g cX1_settle 2 none RX1 4 R pc K
abbrev sX1_settle (g : rk_G) (vs : List Value) (σ : rk_M) (R : rk_R) : Prop := rk_does g yX1_settle cX1_settle 2 none 4 vs σ R
abbrev tX1_settle (g : rk_G) (R : rk_R) (pc : Nat) (ls st : List Value) (σ : rk_M) : Prop := rk_At g cX1_settle 2 none RX1 4 R pc ls st σ
def bX1_settle_40 (g : rk_G) (R : rk_R) : rk_K := (rk_iload 1 (rk_aload 0 (rk_gR 1 1 (rk_gI 2 7 (rk_icmp_ge (rk_vret R) (rk_aload 0 (rk_iload 1 (rk_cV g 1 1 yX1_joinAt cX1_joinAt 3 none 3 (rk_iinc 1 (1) (kX1_settle g R 40))))))))))
theorem eX1_settle_40 (g : rk_G) (R : rk_R) (ls st : List Value) (σ : rk_M) : bX1_settle_40 g R ls st σ = (rk_iload 1 (rk_aload 0 (rk_gR 1 1 (rk_gI 2 7 (rk_icmp_ge (rk_vret R) (rk_aload 0 (rk_iload 1 (rk_cV g 1 1 yX1_joinAt cX1_joinAt 3 none 3 (rk_iinc 1 (1) (kX1_settle g R 40)))))))))) ls st σ := rfl
theorem oX1_settle_40 {g : rk_G} {R : rk_R} : aX1_settle g R 40 (bX1_settle_40 g R) := (rk_iload_n_ok dX1_settle_40 rfl (rk_aload_n_ok dX1_settle_41 rfl (rk_gR_ok dX1_settle_42 rfl iX1 (by decide) rfl wfX1_47 (rk_gI_ok dX1_settle_45 rfl iX2 (by decide) rfl wfX1_56 (rk_icmp_ge_ok (pc' := 62) dX1_settle_48 (by decide) (rk_vret_ok rfl dX1_settle_62) (rk_aload_n_ok dX1_settle_51 rfl (rk_iload_n_ok dX1_settle_52 rfl (rk_cV_ok dX1_settle_53 rfl rfl npX1_joinAt wmX1_59 wvX1_joinAt weX1_joinAt wiX1 wdX1_joinAt (by decide) (by decide) (rk_iinc_ok dX1_settle_56 (by decide) (by decide) (rk_goto_ok (pc' := 40) dX1_settle_59 (by decide) rk_cut_ok))))))))))
def bX1_settle_7 (g : rk_G) (R : rk_R) : rk_K := (rk_iload 1 (rk_aload 0 (rk_gR 1 1 (rk_gI 2 8 (rk_icmp_ge (rk_ci (0) (rk_istore 1 (kX1_settle g R 40))) (rk_aload 0 (rk_gR 1 2 (rk_iload 1 (rk_ci (-1) (rk_iast (rk_aload 0 (rk_gR 1 3 (rk_iload 1 (rk_ci (-1) (rk_iast (rk_iinc 1 (1) (kX1_settle g R 7)))))))))))))))))
theorem eX1_settle_7 (g : rk_G) (R : rk_R) (ls st : List Value) (σ : rk_M) : bX1_settle_7 g R ls st σ = (rk_iload 1 (rk_aload 0 (rk_gR 1 1 (rk_gI 2 8 (rk_icmp_ge (rk_ci (0) (rk_istore 1 (kX1_settle g R 40))) (rk_aload 0 (rk_gR 1 2 (rk_iload 1 (rk_ci (-1) (rk_iast (rk_aload 0 (rk_gR 1 3 (rk_iload 1 (rk_ci (-1) (rk_iast (rk_iinc 1 (1) (kX1_settle g R 7))))))))))))))))) ls st σ := rfl
theorem oX1_settle_7 {g : rk_G} {R : rk_R} : aX1_settle g R 7 (bX1_settle_7 g R) := (rk_iload_n_ok dX1_settle_7 rfl (rk_aload_n_ok dX1_settle_8 rfl (rk_gR_ok dX1_settle_9 rfl iX1 (by decide) rfl wfX1_47 (rk_gI_ok dX1_settle_12 rfl iX2 (by decide) rfl wfX1_51 (rk_icmp_ge_ok (pc' := 38) dX1_settle_15 (by decide) (rk_iconst_ok dX1_settle_38 (by decide) (rk_istore_n_ok dX1_settle_39 rfl (by decide) rk_cut_ok)) (rk_aload_n_ok dX1_settle_18 rfl (rk_gR_ok dX1_settle_19 rfl iX1 (by decide) rfl wfX1_15 (rk_iload_n_ok dX1_settle_22 rfl (rk_iconst_ok dX1_settle_23 (by decide) (rk_iast_ok dX1_settle_24 (rk_aload_n_ok dX1_settle_25 rfl (rk_gR_ok dX1_settle_26 rfl iX1 (by decide) rfl wfX1_19 (rk_iload_n_ok dX1_settle_29 rfl (rk_iconst_ok dX1_settle_30 (by decide) (rk_iast_ok dX1_settle_31 (rk_iinc_ok dX1_settle_32 (by decide) (by decide) (rk_goto_ok (pc' := 7) dX1_settle_35 (by decide) rk_cut_ok)))))))))))))))))
def bX1_settle_0 (g : rk_G) (R : rk_R) : rk_K := (rk_aload 0 (rk_ci (0) (rk_pI 1 0 (rk_ci (0) (rk_istore 1 (kX1_settle g R 7))))))
theorem eX1_settle_0 (g : rk_G) (R : rk_R) (ls st : List Value) (σ : rk_M) : bX1_settle_0 g R ls st σ = (rk_aload 0 (rk_ci (0) (rk_pI 1 0 (rk_ci (0) (rk_istore 1 (kX1_settle g R 7)))))) ls st σ := rfl
theorem oX1_settle_0 {g : rk_G} {R : rk_R} : aX1_settle g R 0 (bX1_settle_0 g R) := (rk_aload_n_ok dX1_settle_0 rfl (rk_iconst_ok dX1_settle_1 (by decide) (rk_pI_ok dX1_settle_2 rfl iX1 tyX1_ok nmX1 (by decide) rfl rfl (by decide +kernel) wfX1_9 (rk_iconst_ok dX1_settle_5 (by decide) (rk_istore_n_ok dX1_settle_6 rfl (by decide) rk_cut_ok)))))
theorem dX6_bridges_0 : decode cX6_bridges 0 = .ok (.aload_n 0, 1) := by decide +kernel
theorem dX6_bridges_1 : decode cX6_bridges 1 = .ok (.iload_n 1, 1) := by decide +kernel
theorem dX6_bridges_2 : decode cX6_bridges 2 = .ok (.invokevirtual 181, 3) := by decide +kernel
theorem dX6_bridges_5 : decode cX6_bridges 5 = .ok (.ifCond .ne 6, 3) := by decide +kernel
theorem dX6_bridges_8 : decode cX6_bridges 8 = .ok (.bipush (-2), 2) := by decide +kernel
theorem dX6_bridges_10 : decode cX6_bridges 10 = .ok (.ireturn, 1) := by decide +kernel
theorem dX6_bridges_11 : decode cX6_bridges 11 = .ok (.aload_n 0, 1) := by decide +kernel
theorem dX6_bridges_12 : decode cX6_bridges 12 = .ok (.getfield 37, 3) := by decide +kernel
theorem dX6_bridges_15 : decode cX6_bridges 15 = .ok (.aload_n 0, 1) := by decide +kernel
theorem dX6_bridges_16 : decode cX6_bridges 16 = .ok (.getfield 30, 3) := by decide +kernel
theorem dX6_bridges_19 : decode cX6_bridges 19 = .ok (.aload_n 0, 1) := by decide +kernel
theorem dX6_bridges_20 : decode cX6_bridges 20 = .ok (.getfield 30, 3) := by decide +kernel
theorem dX6_bridges_23 : decode cX6_bridges 23 = .ok (.iload_n 1, 1) := by decide +kernel
theorem dX6_bridges_24 : decode cX6_bridges 24 = .ok (.invokevirtual 184, 3) := by decide +kernel
theorem dX6_bridges_27 : decode cX6_bridges 27 = .ok (.invokevirtual 187, 3) := by decide +kernel
theorem dX6_bridges_30 : decode cX6_bridges 30 = .ok (.invokevirtual 201, 3) := by decide +kernel
theorem dX6_bridges_33 : decode cX6_bridges 33 = .ok (.ireturn, 1) := by decide +kernel
abbrev kX6_bridges (g : rk_G) (R : rk_R) (pc : Nat) : rk_K := rk_cut g cX6_bridges 2 (some .int) RX6 4 R pc
abbrev aX6_bridges (g : rk_G) (R : rk_R) (pc : Nat) (K : rk_K) : Prop := rk_AK g cX6_bridges 2 (some .int) RX6 4 R pc K
abbrev sX6_bridges (g : rk_G) (vs : List Value) (σ : rk_M) (R : rk_R) : Prop := rk_does g yX6_bridges cX6_bridges 2 (some .int) 4 vs σ R
abbrev tX6_bridges (g : rk_G) (R : rk_R) (pc : Nat) (ls st : List Value) (σ : rk_M) : Prop := rk_At g cX6_bridges 2 (some .int) RX6 4 R pc ls st σ
def bX6_bridges_0 (g : rk_G) (R : rk_R) : rk_K := (rk_aload 0 (rk_iload 1 (rk_cV g 1 6 yX6_isSheet cX6_isSheet 2 (some .boolean) 0 (rk_if_ne (rk_aload 0 (rk_gR 6 3 (rk_aload 0 (rk_gR 6 2 (rk_aload 0 (rk_gR 6 2 (rk_iload 1 (rk_cV g 1 4 yX4_firstRanks cX4_firstRanks 4 (some .int) 0 (rk_cV g 1 4 yX4_roadsOf cX4_roadsOf 4 (some .int) 1 (rk_cV g 1 5 yX5_bridgesOf cX5_bridgesOf 4 (some .int) 3 (rk_iret R))))))))))) (rk_ci (-2) (rk_iret R))))))
theorem eX6_bridges_0 (g : rk_G) (R : rk_R) (ls st : List Value) (σ : rk_M) : bX6_bridges_0 g R ls st σ = (rk_aload 0 (rk_iload 1 (rk_cV g 1 6 yX6_isSheet cX6_isSheet 2 (some .boolean) 0 (rk_if_ne (rk_aload 0 (rk_gR 6 3 (rk_aload 0 (rk_gR 6 2 (rk_aload 0 (rk_gR 6 2 (rk_iload 1 (rk_cV g 1 4 yX4_firstRanks cX4_firstRanks 4 (some .int) 0 (rk_cV g 1 4 yX4_roadsOf cX4_roadsOf 4 (some .int) 1 (rk_cV g 1 5 yX5_bridgesOf cX5_bridgesOf 4 (some .int) 3 (rk_iret R))))))))))) (rk_ci (-2) (rk_iret R)))))) ls st σ := rfl
theorem oX6_bridges_0 {g : rk_G} {R : rk_R} : aX6_bridges g R 0 (bX6_bridges_0 g R) := (rk_aload_n_ok dX6_bridges_0 rfl (rk_iload_n_ok dX6_bridges_1 rfl (rk_cV_ok dX6_bridges_2 rfl rfl npX6_isSheet wmX6_181 wvX6_isSheet weX6_isSheet wiX6 wdX6_isSheet (by decide) (by decide) (rk_if_ne_ok (pc' := 11) dX6_bridges_5 (by decide) (rk_aload_n_ok dX6_bridges_11 rfl (rk_gR_ok dX6_bridges_12 rfl iX6 (by decide) rfl wfX6_37 (rk_aload_n_ok dX6_bridges_15 rfl (rk_gR_ok dX6_bridges_16 rfl iX6 (by decide) rfl wfX6_30 (rk_aload_n_ok dX6_bridges_19 rfl (rk_gR_ok dX6_bridges_20 rfl iX6 (by decide) rfl wfX6_30 (rk_iload_n_ok dX6_bridges_23 rfl (rk_cV_ok dX6_bridges_24 rfl rfl npX4_firstRanks wmX6_184 wvX4_firstRanks weX4_firstRanks wiX4 wdX4_firstRanks (by decide) (by decide) (rk_cV_ok dX6_bridges_27 rfl rfl npX4_roadsOf wmX6_187 wvX4_roadsOf weX4_roadsOf wiX4 wdX4_roadsOf (by decide) (by decide) (rk_cV_ok dX6_bridges_30 rfl rfl npX5_bridgesOf wmX6_201 wvX5_bridgesOf weX5_bridgesOf wiX5 wdX5_bridgesOf (by decide) (by decide) (rk_iret_ok rfl dX6_bridges_33))))))))))) (rk_bipush_ok dX6_bridges_8 (by decide) (rk_iret_ok rfl dX6_bridges_10))))))
theorem dX6_mixRoad_0 : decode cX6_mixRoad 0 = .ok (.lload_n 1, 1) := by decide +kernel
theorem dX6_mixRoad_1 : decode cX6_mixRoad 1 = .ok (.lstore 4, 2) := by decide +kernel
theorem dX6_mixRoad_3 : decode cX6_mixRoad 3 = .ok (.iconst 0, 1) := by decide +kernel
theorem dX6_mixRoad_4 : decode cX6_mixRoad 4 = .ok (.istore 6, 2) := by decide +kernel
theorem dX6_mixRoad_6 : decode cX6_mixRoad 6 = .ok (.iload 6, 2) := by decide +kernel
theorem dX6_mixRoad_8 : decode cX6_mixRoad 8 = .ok (.bipush 6, 2) := by decide +kernel
theorem dX6_mixRoad_10 : decode cX6_mixRoad 10 = .ok (.if_icmp .gt 23, 3) := by decide +kernel
theorem dX6_mixRoad_13 : decode cX6_mixRoad 13 = .ok (.lload 4, 2) := by decide +kernel
theorem dX6_mixRoad_15 : decode cX6_mixRoad 15 = .ok (.aload_n 0, 1) := by decide +kernel
theorem dX6_mixRoad_16 : decode cX6_mixRoad 16 = .ok (.iload_n 3, 1) := by decide +kernel
theorem dX6_mixRoad_17 : decode cX6_mixRoad 17 = .ok (.iload 6, 2) := by decide +kernel
theorem dX6_mixRoad_19 : decode cX6_mixRoad 19 = .ok (.invokevirtual 289, 3) := by decide +kernel
theorem dX6_mixRoad_22 : decode cX6_mixRoad 22 = .ok (.invokestatic 270, 3) := by decide +kernel
theorem dX6_mixRoad_25 : decode cX6_mixRoad 25 = .ok (.lstore 4, 2) := by decide +kernel
theorem dX6_mixRoad_27 : decode cX6_mixRoad 27 = .ok (.iinc 6 1, 3) := by decide +kernel
theorem dX6_mixRoad_30 : decode cX6_mixRoad 30 = .ok (.goto (-24), 3) := by decide +kernel
theorem dX6_mixRoad_33 : decode cX6_mixRoad 33 = .ok (.lload 4, 2) := by decide +kernel
theorem dX6_mixRoad_35 : decode cX6_mixRoad 35 = .ok (.aload_n 0, 1) := by decide +kernel
theorem dX6_mixRoad_36 : decode cX6_mixRoad 36 = .ok (.aload_n 0, 1) := by decide +kernel
theorem dX6_mixRoad_37 : decode cX6_mixRoad 37 = .ok (.getfield 10, 3) := by decide +kernel
theorem dX6_mixRoad_40 : decode cX6_mixRoad 40 = .ok (.getfield 122, 3) := by decide +kernel
theorem dX6_mixRoad_43 : decode cX6_mixRoad 43 = .ok (.iload_n 3, 1) := by decide +kernel
theorem dX6_mixRoad_44 : decode cX6_mixRoad 44 = .ok (.iaload, 1) := by decide +kernel
theorem dX6_mixRoad_45 : decode cX6_mixRoad 45 = .ok (.iload_n 3, 1) := by decide +kernel
theorem dX6_mixRoad_46 : decode cX6_mixRoad 46 = .ok (.invokevirtual 292, 3) := by decide +kernel
theorem dX6_mixRoad_49 : decode cX6_mixRoad 49 = .ok (.invokestatic 270, 3) := by decide +kernel
theorem dX6_mixRoad_52 : decode cX6_mixRoad 52 = .ok (.lstore 4, 2) := by decide +kernel
theorem dX6_mixRoad_54 : decode cX6_mixRoad 54 = .ok (.lload 4, 2) := by decide +kernel
theorem dX6_mixRoad_56 : decode cX6_mixRoad 56 = .ok (.aload_n 0, 1) := by decide +kernel
theorem dX6_mixRoad_57 : decode cX6_mixRoad 57 = .ok (.aload_n 0, 1) := by decide +kernel
theorem dX6_mixRoad_58 : decode cX6_mixRoad 58 = .ok (.getfield 10, 3) := by decide +kernel
theorem dX6_mixRoad_61 : decode cX6_mixRoad 61 = .ok (.getfield 125, 3) := by decide +kernel
theorem dX6_mixRoad_64 : decode cX6_mixRoad 64 = .ok (.iload_n 3, 1) := by decide +kernel
theorem dX6_mixRoad_65 : decode cX6_mixRoad 65 = .ok (.iaload, 1) := by decide +kernel
theorem dX6_mixRoad_66 : decode cX6_mixRoad 66 = .ok (.iload_n 3, 1) := by decide +kernel
theorem dX6_mixRoad_67 : decode cX6_mixRoad 67 = .ok (.invokevirtual 292, 3) := by decide +kernel
theorem dX6_mixRoad_70 : decode cX6_mixRoad 70 = .ok (.invokestatic 270, 3) := by decide +kernel
theorem dX6_mixRoad_73 : decode cX6_mixRoad 73 = .ok (.lstore 4, 2) := by decide +kernel
theorem dX6_mixRoad_75 : decode cX6_mixRoad 75 = .ok (.lload 4, 2) := by decide +kernel
theorem dX6_mixRoad_77 : decode cX6_mixRoad 77 = .ok (.aload_n 0, 1) := by decide +kernel
theorem dX6_mixRoad_78 : decode cX6_mixRoad 78 = .ok (.iload_n 3, 1) := by decide +kernel
theorem dX6_mixRoad_79 : decode cX6_mixRoad 79 = .ok (.invokevirtual 295, 3) := by decide +kernel
theorem dX6_mixRoad_82 : decode cX6_mixRoad 82 = .ok (.invokestatic 270, 3) := by decide +kernel
theorem dX6_mixRoad_85 : decode cX6_mixRoad 85 = .ok (.lreturn, 1) := by decide +kernel
abbrev kX6_mixRoad (g : rk_G) (R : rk_R) (pc : Nat) : rk_K := rk_cut g cX6_mixRoad 7 (some .long) RX6 4 R pc
abbrev aX6_mixRoad (g : rk_G) (R : rk_R) (pc : Nat) (K : rk_K) : Prop := rk_AK g cX6_mixRoad 7 (some .long) RX6 4 R pc K
abbrev sX6_mixRoad (g : rk_G) (vs : List Value) (σ : rk_M) (R : rk_R) : Prop := rk_does g yX6_mixRoad cX6_mixRoad 7 (some .long) 4 vs σ R
abbrev tX6_mixRoad (g : rk_G) (R : rk_R) (pc : Nat) (ls st : List Value) (σ : rk_M) : Prop := rk_At g cX6_mixRoad 7 (some .long) RX6 4 R pc ls st σ
def bX6_mixRoad_6 (g : rk_G) (R : rk_R) : rk_K := (rk_iload 6 (rk_ci (6) (rk_icmp_gt (rk_lload 4 (rk_aload 0 (rk_aload 0 (rk_gR 6 0 (rk_gR 2 2 (rk_iload 3 (rk_iald (rk_iload 3 (rk_cV g 2 6 yX6_joined cX6_joined 3 (some .int) 1 (rk_cS g 2 yX6_mixed cX6_mixed 3 (some .long) 0 (rk_lstore 4 (rk_lload 4 (rk_aload 0 (rk_aload 0 (rk_gR 6 0 (rk_gR 2 3 (rk_iload 3 (rk_iald (rk_iload 3 (rk_cV g 2 6 yX6_joined cX6_joined 3 (some .int) 1 (rk_cS g 2 yX6_mixed cX6_mixed 3 (some .long) 0 (rk_lstore 4 (rk_lload 4 (rk_aload 0 (rk_iload 3 (rk_cV g 1 6 yX6_detour cX6_detour 4 (some .int) 3 (rk_cS g 2 yX6_mixed cX6_mixed 3 (some .long) 0 (rk_lret R)))))))))))))))))))))))))))) (rk_lload 4 (rk_aload 0 (rk_iload 3 (rk_iload 6 (rk_cV g 2 6 yX6_info cX6_info 3 (some .int) 1 (rk_cS g 2 yX6_mixed cX6_mixed 3 (some .long) 0 (rk_lstore 4 (rk_iinc 6 (1) (kX6_mixRoad g R 6))))))))))))
theorem eX6_mixRoad_6 (g : rk_G) (R : rk_R) (ls st : List Value) (σ : rk_M) : bX6_mixRoad_6 g R ls st σ = (rk_iload 6 (rk_ci (6) (rk_icmp_gt (rk_lload 4 (rk_aload 0 (rk_aload 0 (rk_gR 6 0 (rk_gR 2 2 (rk_iload 3 (rk_iald (rk_iload 3 (rk_cV g 2 6 yX6_joined cX6_joined 3 (some .int) 1 (rk_cS g 2 yX6_mixed cX6_mixed 3 (some .long) 0 (rk_lstore 4 (rk_lload 4 (rk_aload 0 (rk_aload 0 (rk_gR 6 0 (rk_gR 2 3 (rk_iload 3 (rk_iald (rk_iload 3 (rk_cV g 2 6 yX6_joined cX6_joined 3 (some .int) 1 (rk_cS g 2 yX6_mixed cX6_mixed 3 (some .long) 0 (rk_lstore 4 (rk_lload 4 (rk_aload 0 (rk_iload 3 (rk_cV g 1 6 yX6_detour cX6_detour 4 (some .int) 3 (rk_cS g 2 yX6_mixed cX6_mixed 3 (some .long) 0 (rk_lret R)))))))))))))))))))))))))))) (rk_lload 4 (rk_aload 0 (rk_iload 3 (rk_iload 6 (rk_cV g 2 6 yX6_info cX6_info 3 (some .int) 1 (rk_cS g 2 yX6_mixed cX6_mixed 3 (some .long) 0 (rk_lstore 4 (rk_iinc 6 (1) (kX6_mixRoad g R 6)))))))))))) ls st σ := rfl
theorem oX6_mixRoad_6 {g : rk_G} {R : rk_R} : aX6_mixRoad g R 6 (bX6_mixRoad_6 g R) := (rk_iload_ok dX6_mixRoad_6 (rk_bipush_ok dX6_mixRoad_8 (by decide) (rk_icmp_gt_ok (pc' := 33) dX6_mixRoad_10 (by decide) (rk_lload_ok dX6_mixRoad_33 (rk_aload_n_ok dX6_mixRoad_35 rfl (rk_aload_n_ok dX6_mixRoad_36 rfl (rk_gR_ok dX6_mixRoad_37 rfl iX6 (by decide) rfl wfX6_10 (rk_gR_ok dX6_mixRoad_40 rfl iX2 (by decide) rfl wfX6_122 (rk_iload_n_ok dX6_mixRoad_43 rfl (rk_iald_ok dX6_mixRoad_44 (rk_iload_n_ok dX6_mixRoad_45 rfl (rk_cV_ok dX6_mixRoad_46 rfl rfl npX6_joined wmX6_292 wvX6_joined weX6_joined wiX6 wdX6_joined (by decide) (by decide) (rk_cS_ok dX6_mixRoad_49 npX6_mixed wmX6_270 wtX6_mixed wiX6 wdX6_mixed (by decide) (by decide) (rk_lstore_ok dX6_mixRoad_52 (by decide) (rk_lload_ok dX6_mixRoad_54 (rk_aload_n_ok dX6_mixRoad_56 rfl (rk_aload_n_ok dX6_mixRoad_57 rfl (rk_gR_ok dX6_mixRoad_58 rfl iX6 (by decide) rfl wfX6_10 (rk_gR_ok dX6_mixRoad_61 rfl iX2 (by decide) rfl wfX6_125 (rk_iload_n_ok dX6_mixRoad_64 rfl (rk_iald_ok dX6_mixRoad_65 (rk_iload_n_ok dX6_mixRoad_66 rfl (rk_cV_ok dX6_mixRoad_67 rfl rfl npX6_joined wmX6_292 wvX6_joined weX6_joined wiX6 wdX6_joined (by decide) (by decide) (rk_cS_ok dX6_mixRoad_70 npX6_mixed wmX6_270 wtX6_mixed wiX6 wdX6_mixed (by decide) (by decide) (rk_lstore_ok dX6_mixRoad_73 (by decide) (rk_lload_ok dX6_mixRoad_75 (rk_aload_n_ok dX6_mixRoad_77 rfl (rk_iload_n_ok dX6_mixRoad_78 rfl (rk_cV_ok dX6_mixRoad_79 rfl rfl npX6_detour wmX6_295 wvX6_detour weX6_detour wiX6 wdX6_detour (by decide) (by decide) (rk_cS_ok dX6_mixRoad_82 npX6_mixed wmX6_270 wtX6_mixed wiX6 wdX6_mixed (by decide) (by decide) (rk_lret_ok rfl dX6_mixRoad_85)))))))))))))))))))))))))))) (rk_lload_ok dX6_mixRoad_13 (rk_aload_n_ok dX6_mixRoad_15 rfl (rk_iload_n_ok dX6_mixRoad_16 rfl (rk_iload_ok dX6_mixRoad_17 (rk_cV_ok dX6_mixRoad_19 rfl rfl npX6_info wmX6_289 wvX6_info weX6_info wiX6 wdX6_info (by decide) (by decide) (rk_cS_ok dX6_mixRoad_22 npX6_mixed wmX6_270 wtX6_mixed wiX6 wdX6_mixed (by decide) (by decide) (rk_lstore_ok dX6_mixRoad_25 (by decide) (rk_iinc_ok dX6_mixRoad_27 (by decide) (by decide) (rk_goto_ok (pc' := 6) dX6_mixRoad_30 (by decide) rk_cut_ok))))))))))))
def bX6_mixRoad_0 (g : rk_G) (R : rk_R) : rk_K := (rk_lload 1 (rk_lstore 4 (rk_ci (0) (rk_istore 6 (kX6_mixRoad g R 6)))))
theorem eX6_mixRoad_0 (g : rk_G) (R : rk_R) (ls st : List Value) (σ : rk_M) : bX6_mixRoad_0 g R ls st σ = (rk_lload 1 (rk_lstore 4 (rk_ci (0) (rk_istore 6 (kX6_mixRoad g R 6))))) ls st σ := rfl
theorem oX6_mixRoad_0 {g : rk_G} {R : rk_R} : aX6_mixRoad g R 0 (bX6_mixRoad_0 g R) := (rk_lload_n_ok dX6_mixRoad_0 rfl (rk_lstore_ok dX6_mixRoad_1 (by decide) (rk_iconst_ok dX6_mixRoad_3 (by decide) (rk_istore_ok dX6_mixRoad_4 (by decide) rk_cut_ok))))
theorem dX6_cut_0 : decode cX6_cut 0 = .ok (.aload_n 0, 1) := by decide +kernel
theorem dX6_cut_1 : decode cX6_cut 1 = .ok (.iload_n 1, 1) := by decide +kernel
theorem dX6_cut_2 : decode cX6_cut 2 = .ok (.invokevirtual 181, 3) := by decide +kernel
theorem dX6_cut_5 : decode cX6_cut 5 = .ok (.ifCond .eq 23, 3) := by decide +kernel
theorem dX6_cut_8 : decode cX6_cut 8 = .ok (.iload_n 2, 1) := by decide +kernel
theorem dX6_cut_9 : decode cX6_cut 9 = .ok (.ifCond .lt 19, 3) := by decide +kernel
theorem dX6_cut_12 : decode cX6_cut 12 = .ok (.iload_n 2, 1) := by decide +kernel
theorem dX6_cut_13 : decode cX6_cut 13 = .ok (.sipush 9999, 3) := by decide +kernel
theorem dX6_cut_16 : decode cX6_cut 16 = .ok (.if_icmp .gt 12, 3) := by decide +kernel
theorem dX6_cut_19 : decode cX6_cut 19 = .ok (.iload_n 3, 1) := by decide +kernel
theorem dX6_cut_20 : decode cX6_cut 20 = .ok (.ifCond .lt 8, 3) := by decide +kernel
theorem dX6_cut_23 : decode cX6_cut 23 = .ok (.iload_n 3, 1) := by decide +kernel
theorem dX6_cut_24 : decode cX6_cut 24 = .ok (.iconst 3, 1) := by decide +kernel
theorem dX6_cut_25 : decode cX6_cut 25 = .ok (.if_icmp .le 6, 3) := by decide +kernel
theorem dX6_cut_28 : decode cX6_cut 28 = .ok (.bipush (-2), 2) := by decide +kernel
theorem dX6_cut_30 : decode cX6_cut 30 = .ok (.ireturn, 1) := by decide +kernel
theorem dX6_cut_31 : decode cX6_cut 31 = .ok (.aload_n 0, 1) := by decide +kernel
theorem dX6_cut_32 : decode cX6_cut 32 = .ok (.getfield 46, 3) := by decide +kernel
theorem dX6_cut_35 : decode cX6_cut 35 = .ok (.aload_n 0, 1) := by decide +kernel
theorem dX6_cut_36 : decode cX6_cut 36 = .ok (.getfield 30, 3) := by decide +kernel
theorem dX6_cut_39 : decode cX6_cut 39 = .ok (.iload_n 1, 1) := by decide +kernel
theorem dX6_cut_40 : decode cX6_cut 40 = .ok (.invokevirtual 184, 3) := by decide +kernel
theorem dX6_cut_43 : decode cX6_cut 43 = .ok (.iload_n 2, 1) := by decide +kernel
theorem dX6_cut_44 : decode cX6_cut 44 = .ok (.invokevirtual 194, 3) := by decide +kernel
theorem dX6_cut_47 : decode cX6_cut 47 = .ok (.aload_n 0, 1) := by decide +kernel
theorem dX6_cut_48 : decode cX6_cut 48 = .ok (.getfield 46, 3) := by decide +kernel
theorem dX6_cut_51 : decode cX6_cut 51 = .ok (.iload_n 3, 1) := by decide +kernel
theorem dX6_cut_52 : decode cX6_cut 52 = .ok (.invokevirtual 198, 3) := by decide +kernel
theorem dX6_cut_55 : decode cX6_cut 55 = .ok (.ireturn, 1) := by decide +kernel
abbrev kX6_cut (g : rk_G) (R : rk_R) (pc : Nat) : rk_K := rk_cut g cX6_cut 4 (some .int) RX6 5 R pc
abbrev aX6_cut (g : rk_G) (R : rk_R) (pc : Nat) (K : rk_K) : Prop := rk_AK g cX6_cut 4 (some .int) RX6 5 R pc K
abbrev sX6_cut (g : rk_G) (vs : List Value) (σ : rk_M) (R : rk_R) : Prop := rk_does g yX6_cut cX6_cut 4 (some .int) 5 vs σ R
abbrev tX6_cut (g : rk_G) (R : rk_R) (pc : Nat) (ls st : List Value) (σ : rk_M) : Prop := rk_At g cX6_cut 4 (some .int) RX6 5 R pc ls st σ
def bX6_cut_28 (g : rk_G) (R : rk_R) : rk_K := (rk_ci (-2) (rk_iret R))
theorem eX6_cut_28 (g : rk_G) (R : rk_R) (ls st : List Value) (σ : rk_M) : bX6_cut_28 g R ls st σ = (rk_ci (-2) (rk_iret R)) ls st σ := rfl
theorem oX6_cut_28 {g : rk_G} {R : rk_R} : aX6_cut g R 28 (bX6_cut_28 g R) := (rk_bipush_ok dX6_cut_28 (by decide) (rk_iret_ok rfl dX6_cut_30))
def bX6_cut_0 (g : rk_G) (R : rk_R) : rk_K := (rk_aload 0 (rk_iload 1 (rk_cV g 1 6 yX6_isSheet cX6_isSheet 2 (some .boolean) 0 (rk_if_eq (bX6_cut_28 g R) (rk_iload 2 (rk_if_lt (bX6_cut_28 g R) (rk_iload 2 (rk_ci (9999) (rk_icmp_gt (bX6_cut_28 g R) (rk_iload 3 (rk_if_lt (bX6_cut_28 g R) (rk_iload 3 (rk_ci (3) (rk_icmp_le (rk_aload 0 (rk_gR 6 4 (rk_aload 0 (rk_gR 6 2 (rk_iload 1 (rk_cV g 1 4 yX4_firstRanks cX4_firstRanks 4 (some .int) 0 (rk_iload 2 (rk_cV g 2 0 yX0_perform cX0_perform 5 none 4 (rk_aload 0 (rk_gR 6 4 (rk_iload 3 (rk_cV g 1 0 yX0_answer cX0_answer 2 (some .int) 2 (rk_iret R))))))))))))) (bX6_cut_28 g R)))))))))))))))
theorem eX6_cut_0 (g : rk_G) (R : rk_R) (ls st : List Value) (σ : rk_M) : bX6_cut_0 g R ls st σ = (rk_aload 0 (rk_iload 1 (rk_cV g 1 6 yX6_isSheet cX6_isSheet 2 (some .boolean) 0 (rk_if_eq (bX6_cut_28 g R) (rk_iload 2 (rk_if_lt (bX6_cut_28 g R) (rk_iload 2 (rk_ci (9999) (rk_icmp_gt (bX6_cut_28 g R) (rk_iload 3 (rk_if_lt (bX6_cut_28 g R) (rk_iload 3 (rk_ci (3) (rk_icmp_le (rk_aload 0 (rk_gR 6 4 (rk_aload 0 (rk_gR 6 2 (rk_iload 1 (rk_cV g 1 4 yX4_firstRanks cX4_firstRanks 4 (some .int) 0 (rk_iload 2 (rk_cV g 2 0 yX0_perform cX0_perform 5 none 4 (rk_aload 0 (rk_gR 6 4 (rk_iload 3 (rk_cV g 1 0 yX0_answer cX0_answer 2 (some .int) 2 (rk_iret R))))))))))))) (bX6_cut_28 g R))))))))))))))) ls st σ := rfl
theorem oX6_cut_0 {g : rk_G} {R : rk_R} : aX6_cut g R 0 (bX6_cut_0 g R) := (rk_aload_n_ok dX6_cut_0 rfl (rk_iload_n_ok dX6_cut_1 rfl (rk_cV_ok dX6_cut_2 rfl rfl npX6_isSheet wmX6_181 wvX6_isSheet weX6_isSheet wiX6 wdX6_isSheet (by decide) (by decide) (rk_if_eq_ok (pc' := 28) dX6_cut_5 (by decide) oX6_cut_28 (rk_iload_n_ok dX6_cut_8 rfl (rk_if_lt_ok (pc' := 28) dX6_cut_9 (by decide) oX6_cut_28 (rk_iload_n_ok dX6_cut_12 rfl (rk_sipush_ok dX6_cut_13 (by decide) (rk_icmp_gt_ok (pc' := 28) dX6_cut_16 (by decide) oX6_cut_28 (rk_iload_n_ok dX6_cut_19 rfl (rk_if_lt_ok (pc' := 28) dX6_cut_20 (by decide) oX6_cut_28 (rk_iload_n_ok dX6_cut_23 rfl (rk_iconst_ok dX6_cut_24 (by decide) (rk_icmp_le_ok (pc' := 31) dX6_cut_25 (by decide) (rk_aload_n_ok dX6_cut_31 rfl (rk_gR_ok dX6_cut_32 rfl iX6 (by decide) rfl wfX6_46 (rk_aload_n_ok dX6_cut_35 rfl (rk_gR_ok dX6_cut_36 rfl iX6 (by decide) rfl wfX6_30 (rk_iload_n_ok dX6_cut_39 rfl (rk_cV_ok dX6_cut_40 rfl rfl npX4_firstRanks wmX6_184 wvX4_firstRanks weX4_firstRanks wiX4 wdX4_firstRanks (by decide) (by decide) (rk_iload_n_ok dX6_cut_43 rfl (rk_cV_ok dX6_cut_44 rfl rfl npX0_perform wmX6_194 wvX0_perform weX0_perform wiX0 wdX0_perform (by decide) (by decide) (rk_aload_n_ok dX6_cut_47 rfl (rk_gR_ok dX6_cut_48 rfl iX6 (by decide) rfl wfX6_46 (rk_iload_n_ok dX6_cut_51 rfl (rk_cV_ok dX6_cut_52 rfl rfl npX0_answer wmX6_198 wvX0_answer weX0_answer wiX0 wdX0_answer (by decide) (by decide) (rk_iret_ok rfl dX6_cut_55))))))))))))) oX6_cut_28))))))))))))))
theorem dX6_mixSheet_0 : decode cX6_mixSheet 0 = .ok (.lload_n 1, 1) := by decide +kernel
theorem dX6_mixSheet_1 : decode cX6_mixSheet 1 = .ok (.aload_n 0, 1) := by decide +kernel
theorem dX6_mixSheet_2 : decode cX6_mixSheet 2 = .ok (.iload_n 3, 1) := by decide +kernel
theorem dX6_mixSheet_3 : decode cX6_mixSheet 3 = .ok (.invokevirtual 304, 3) := by decide +kernel
theorem dX6_mixSheet_6 : decode cX6_mixSheet 6 = .ok (.invokestatic 270, 3) := by decide +kernel
theorem dX6_mixSheet_9 : decode cX6_mixSheet 9 = .ok (.lstore 4, 2) := by decide +kernel
theorem dX6_mixSheet_11 : decode cX6_mixSheet 11 = .ok (.aload_n 0, 1) := by decide +kernel
theorem dX6_mixSheet_12 : decode cX6_mixSheet 12 = .ok (.getfield 46, 3) := by decide +kernel
theorem dX6_mixSheet_15 : decode cX6_mixSheet 15 = .ok (.aload_n 0, 1) := by decide +kernel
theorem dX6_mixSheet_16 : decode cX6_mixSheet 16 = .ok (.getfield 30, 3) := by decide +kernel
theorem dX6_mixSheet_19 : decode cX6_mixSheet 19 = .ok (.iload_n 3, 1) := by decide +kernel
theorem dX6_mixSheet_20 : decode cX6_mixSheet 20 = .ok (.invokevirtual 184, 3) := by decide +kernel
theorem dX6_mixSheet_23 : decode cX6_mixSheet 23 = .ok (.bipush 40, 2) := by decide +kernel
theorem dX6_mixSheet_25 : decode cX6_mixSheet 25 = .ok (.invokevirtual 194, 3) := by decide +kernel
theorem dX6_mixSheet_28 : decode cX6_mixSheet 28 = .ok (.iconst 0, 1) := by decide +kernel
theorem dX6_mixSheet_29 : decode cX6_mixSheet 29 = .ok (.istore 6, 2) := by decide +kernel
theorem dX6_mixSheet_31 : decode cX6_mixSheet 31 = .ok (.iload 6, 2) := by decide +kernel
theorem dX6_mixSheet_33 : decode cX6_mixSheet 33 = .ok (.iconst 3, 1) := by decide +kernel
theorem dX6_mixSheet_34 : decode cX6_mixSheet 34 = .ok (.if_icmp .gt 25, 3) := by decide +kernel
theorem dX6_mixSheet_37 : decode cX6_mixSheet 37 = .ok (.lload 4, 2) := by decide +kernel
theorem dX6_mixSheet_39 : decode cX6_mixSheet 39 = .ok (.aload_n 0, 1) := by decide +kernel
theorem dX6_mixSheet_40 : decode cX6_mixSheet 40 = .ok (.getfield 46, 3) := by decide +kernel
theorem dX6_mixSheet_43 : decode cX6_mixSheet 43 = .ok (.iload 6, 2) := by decide +kernel
theorem dX6_mixSheet_45 : decode cX6_mixSheet 45 = .ok (.invokevirtual 198, 3) := by decide +kernel
theorem dX6_mixSheet_48 : decode cX6_mixSheet 48 = .ok (.invokestatic 270, 3) := by decide +kernel
theorem dX6_mixSheet_51 : decode cX6_mixSheet 51 = .ok (.lstore 4, 2) := by decide +kernel
theorem dX6_mixSheet_53 : decode cX6_mixSheet 53 = .ok (.iinc 6 1, 3) := by decide +kernel
theorem dX6_mixSheet_56 : decode cX6_mixSheet 56 = .ok (.goto (-25), 3) := by decide +kernel
theorem dX6_mixSheet_59 : decode cX6_mixSheet 59 = .ok (.lload 4, 2) := by decide +kernel
theorem dX6_mixSheet_61 : decode cX6_mixSheet 61 = .ok (.aload_n 0, 1) := by decide +kernel
theorem dX6_mixSheet_62 : decode cX6_mixSheet 62 = .ok (.iload_n 3, 1) := by decide +kernel
theorem dX6_mixSheet_63 : decode cX6_mixSheet 63 = .ok (.iconst 0, 1) := by decide +kernel
theorem dX6_mixSheet_64 : decode cX6_mixSheet 64 = .ok (.iconst 1, 1) := by decide +kernel
theorem dX6_mixSheet_65 : decode cX6_mixSheet 65 = .ok (.invokevirtual 307, 3) := by decide +kernel
theorem dX6_mixSheet_68 : decode cX6_mixSheet 68 = .ok (.invokestatic 270, 3) := by decide +kernel
theorem dX6_mixSheet_71 : decode cX6_mixSheet 71 = .ok (.lstore 4, 2) := by decide +kernel
theorem dX6_mixSheet_73 : decode cX6_mixSheet 73 = .ok (.lload 4, 2) := by decide +kernel
theorem dX6_mixSheet_75 : decode cX6_mixSheet 75 = .ok (.aload_n 0, 1) := by decide +kernel
theorem dX6_mixSheet_76 : decode cX6_mixSheet 76 = .ok (.iload_n 3, 1) := by decide +kernel
theorem dX6_mixSheet_77 : decode cX6_mixSheet 77 = .ok (.iconst 0, 1) := by decide +kernel
theorem dX6_mixSheet_78 : decode cX6_mixSheet 78 = .ok (.aload_n 0, 1) := by decide +kernel
theorem dX6_mixSheet_79 : decode cX6_mixSheet 79 = .ok (.getfield 10, 3) := by decide +kernel
theorem dX6_mixSheet_82 : decode cX6_mixSheet 82 = .ok (.getfield 245, 3) := by decide +kernel
theorem dX6_mixSheet_85 : decode cX6_mixSheet 85 = .ok (.iconst 1, 1) := by decide +kernel
theorem dX6_mixSheet_86 : decode cX6_mixSheet 86 = .ok (.isub, 1) := by decide +kernel
theorem dX6_mixSheet_87 : decode cX6_mixSheet 87 = .ok (.invokevirtual 307, 3) := by decide +kernel
theorem dX6_mixSheet_90 : decode cX6_mixSheet 90 = .ok (.invokestatic 270, 3) := by decide +kernel
theorem dX6_mixSheet_93 : decode cX6_mixSheet 93 = .ok (.lreturn, 1) := by decide +kernel
abbrev kX6_mixSheet (g : rk_G) (R : rk_R) (pc : Nat) : rk_K := rk_cut g cX6_mixSheet 7 (some .long) RX6 5 R pc
abbrev aX6_mixSheet (g : rk_G) (R : rk_R) (pc : Nat) (K : rk_K) : Prop := rk_AK g cX6_mixSheet 7 (some .long) RX6 5 R pc K
abbrev sX6_mixSheet (g : rk_G) (vs : List Value) (σ : rk_M) (R : rk_R) : Prop := rk_does g yX6_mixSheet cX6_mixSheet 7 (some .long) 5 vs σ R
abbrev tX6_mixSheet (g : rk_G) (R : rk_R) (pc : Nat) (ls st : List Value) (σ : rk_M) : Prop := rk_At g cX6_mixSheet 7 (some .long) RX6 5 R pc ls st σ
def bX6_mixSheet_31 (g : rk_G) (R : rk_R) : rk_K := (rk_iload 6 (rk_ci (3) (rk_icmp_gt (rk_lload 4 (rk_aload 0 (rk_iload 3 (rk_ci (0) (rk_ci (1) (rk_cV g 3 6 yX6_far cX6_far 4 (some .int) 3 (rk_cS g 2 yX6_mixed cX6_mixed 3 (some .long) 0 (rk_lstore 4 (rk_lload 4 (rk_aload 0 (rk_iload 3 (rk_ci (0) (rk_aload 0 (rk_gR 6 0 (rk_gI 2 7 (rk_ci (1) (rk_isub (rk_cV g 3 6 yX6_far cX6_far 4 (some .int) 3 (rk_cS g 2 yX6_mixed cX6_mixed 3 (some .long) 0 (rk_lret R)))))))))))))))))))) (rk_lload 4 (rk_aload 0 (rk_gR 6 4 (rk_iload 6 (rk_cV g 1 0 yX0_answer cX0_answer 2 (some .int) 2 (rk_cS g 2 yX6_mixed cX6_mixed 3 (some .long) 0 (rk_lstore 4 (rk_iinc 6 (1) (kX6_mixSheet g R 31))))))))))))
theorem eX6_mixSheet_31 (g : rk_G) (R : rk_R) (ls st : List Value) (σ : rk_M) : bX6_mixSheet_31 g R ls st σ = (rk_iload 6 (rk_ci (3) (rk_icmp_gt (rk_lload 4 (rk_aload 0 (rk_iload 3 (rk_ci (0) (rk_ci (1) (rk_cV g 3 6 yX6_far cX6_far 4 (some .int) 3 (rk_cS g 2 yX6_mixed cX6_mixed 3 (some .long) 0 (rk_lstore 4 (rk_lload 4 (rk_aload 0 (rk_iload 3 (rk_ci (0) (rk_aload 0 (rk_gR 6 0 (rk_gI 2 7 (rk_ci (1) (rk_isub (rk_cV g 3 6 yX6_far cX6_far 4 (some .int) 3 (rk_cS g 2 yX6_mixed cX6_mixed 3 (some .long) 0 (rk_lret R)))))))))))))))))))) (rk_lload 4 (rk_aload 0 (rk_gR 6 4 (rk_iload 6 (rk_cV g 1 0 yX0_answer cX0_answer 2 (some .int) 2 (rk_cS g 2 yX6_mixed cX6_mixed 3 (some .long) 0 (rk_lstore 4 (rk_iinc 6 (1) (kX6_mixSheet g R 31)))))))))))) ls st σ := rfl
theorem oX6_mixSheet_31 {g : rk_G} {R : rk_R} : aX6_mixSheet g R 31 (bX6_mixSheet_31 g R) := (rk_iload_ok dX6_mixSheet_31 (rk_iconst_ok dX6_mixSheet_33 (by decide) (rk_icmp_gt_ok (pc' := 59) dX6_mixSheet_34 (by decide) (rk_lload_ok dX6_mixSheet_59 (rk_aload_n_ok dX6_mixSheet_61 rfl (rk_iload_n_ok dX6_mixSheet_62 rfl (rk_iconst_ok dX6_mixSheet_63 (by decide) (rk_iconst_ok dX6_mixSheet_64 (by decide) (rk_cV_ok dX6_mixSheet_65 rfl rfl npX6_far wmX6_307 wvX6_far weX6_far wiX6 wdX6_far (by decide) (by decide) (rk_cS_ok dX6_mixSheet_68 npX6_mixed wmX6_270 wtX6_mixed wiX6 wdX6_mixed (by decide) (by decide) (rk_lstore_ok dX6_mixSheet_71 (by decide) (rk_lload_ok dX6_mixSheet_73 (rk_aload_n_ok dX6_mixSheet_75 rfl (rk_iload_n_ok dX6_mixSheet_76 rfl (rk_iconst_ok dX6_mixSheet_77 (by decide) (rk_aload_n_ok dX6_mixSheet_78 rfl (rk_gR_ok dX6_mixSheet_79 rfl iX6 (by decide) rfl wfX6_10 (rk_gI_ok dX6_mixSheet_82 rfl iX2 (by decide) rfl wfX6_245 (rk_iconst_ok dX6_mixSheet_85 (by decide) (rk_isub_ok dX6_mixSheet_86 (rk_cV_ok dX6_mixSheet_87 rfl rfl npX6_far wmX6_307 wvX6_far weX6_far wiX6 wdX6_far (by decide) (by decide) (rk_cS_ok dX6_mixSheet_90 npX6_mixed wmX6_270 wtX6_mixed wiX6 wdX6_mixed (by decide) (by decide) (rk_lret_ok rfl dX6_mixSheet_93)))))))))))))))))))) (rk_lload_ok dX6_mixSheet_37 (rk_aload_n_ok dX6_mixSheet_39 rfl (rk_gR_ok dX6_mixSheet_40 rfl iX6 (by decide) rfl wfX6_46 (rk_iload_ok dX6_mixSheet_43 (rk_cV_ok dX6_mixSheet_45 rfl rfl npX0_answer wmX6_198 wvX0_answer weX0_answer wiX0 wdX0_answer (by decide) (by decide) (rk_cS_ok dX6_mixSheet_48 npX6_mixed wmX6_270 wtX6_mixed wiX6 wdX6_mixed (by decide) (by decide) (rk_lstore_ok dX6_mixSheet_51 (by decide) (rk_iinc_ok dX6_mixSheet_53 (by decide) (by decide) (rk_goto_ok (pc' := 31) dX6_mixSheet_56 (by decide) rk_cut_ok))))))))))))
def bX6_mixSheet_0 (g : rk_G) (R : rk_R) : rk_K := (rk_lload 1 (rk_aload 0 (rk_iload 3 (rk_cV g 1 6 yX6_bridges cX6_bridges 2 (some .int) 4 (rk_cS g 2 yX6_mixed cX6_mixed 3 (some .long) 0 (rk_lstore 4 (rk_aload 0 (rk_gR 6 4 (rk_aload 0 (rk_gR 6 2 (rk_iload 3 (rk_cV g 1 4 yX4_firstRanks cX4_firstRanks 4 (some .int) 0 (rk_ci (40) (rk_cV g 2 0 yX0_perform cX0_perform 5 none 4 (rk_ci (0) (rk_istore 6 (kX6_mixSheet g R 31)))))))))))))))))
theorem eX6_mixSheet_0 (g : rk_G) (R : rk_R) (ls st : List Value) (σ : rk_M) : bX6_mixSheet_0 g R ls st σ = (rk_lload 1 (rk_aload 0 (rk_iload 3 (rk_cV g 1 6 yX6_bridges cX6_bridges 2 (some .int) 4 (rk_cS g 2 yX6_mixed cX6_mixed 3 (some .long) 0 (rk_lstore 4 (rk_aload 0 (rk_gR 6 4 (rk_aload 0 (rk_gR 6 2 (rk_iload 3 (rk_cV g 1 4 yX4_firstRanks cX4_firstRanks 4 (some .int) 0 (rk_ci (40) (rk_cV g 2 0 yX0_perform cX0_perform 5 none 4 (rk_ci (0) (rk_istore 6 (kX6_mixSheet g R 31))))))))))))))))) ls st σ := rfl
theorem oX6_mixSheet_0 {g : rk_G} {R : rk_R} : aX6_mixSheet g R 0 (bX6_mixSheet_0 g R) := (rk_lload_n_ok dX6_mixSheet_0 rfl (rk_aload_n_ok dX6_mixSheet_1 rfl (rk_iload_n_ok dX6_mixSheet_2 rfl (rk_cV_ok dX6_mixSheet_3 rfl rfl npX6_bridges wmX6_304 wvX6_bridges weX6_bridges wiX6 wdX6_bridges (by decide) (by decide) (rk_cS_ok dX6_mixSheet_6 npX6_mixed wmX6_270 wtX6_mixed wiX6 wdX6_mixed (by decide) (by decide) (rk_lstore_ok dX6_mixSheet_9 (by decide) (rk_aload_n_ok dX6_mixSheet_11 rfl (rk_gR_ok dX6_mixSheet_12 rfl iX6 (by decide) rfl wfX6_46 (rk_aload_n_ok dX6_mixSheet_15 rfl (rk_gR_ok dX6_mixSheet_16 rfl iX6 (by decide) rfl wfX6_30 (rk_iload_n_ok dX6_mixSheet_19 rfl (rk_cV_ok dX6_mixSheet_20 rfl rfl npX4_firstRanks wmX6_184 wvX4_firstRanks weX4_firstRanks wiX4 wdX4_firstRanks (by decide) (by decide) (rk_bipush_ok dX6_mixSheet_23 (by decide) (rk_cV_ok dX6_mixSheet_25 rfl rfl npX0_perform wmX6_194 wvX0_perform weX0_perform wiX0 wdX0_perform (by decide) (by decide) (rk_iconst_ok dX6_mixSheet_28 (by decide) (rk_istore_ok dX6_mixSheet_29 (by decide) rk_cut_ok))))))))))))))))
theorem dX6_settle_0 : decode cX6_settle 0 = .ok (.aload_n 0, 1) := by decide +kernel
theorem dX6_settle_1 : decode cX6_settle 1 = .ok (.getfield 21, 3) := by decide +kernel
theorem dX6_settle_4 : decode cX6_settle 4 = .ok (.invokevirtual 312, 3) := by decide +kernel
theorem dX6_settle_7 : decode cX6_settle 7 = .ok (.aload_n 0, 1) := by decide +kernel
theorem dX6_settle_8 : decode cX6_settle 8 = .ok (.getfield 30, 3) := by decide +kernel
theorem dX6_settle_11 : decode cX6_settle 11 = .ok (.invokevirtual 313, 3) := by decide +kernel
theorem dX6_settle_14 : decode cX6_settle 14 = .ok (.return_, 1) := by decide +kernel
abbrev kX6_settle (g : rk_G) (R : rk_R) (pc : Nat) : rk_K := rk_cut g cX6_settle 1 none RX6 5 R pc
abbrev aX6_settle (g : rk_G) (R : rk_R) (pc : Nat) (K : rk_K) : Prop := rk_AK g cX6_settle 1 none RX6 5 R pc K
abbrev sX6_settle (g : rk_G) (vs : List Value) (σ : rk_M) (R : rk_R) : Prop := rk_does g yX6_settle cX6_settle 1 none 5 vs σ R
abbrev tX6_settle (g : rk_G) (R : rk_R) (pc : Nat) (ls st : List Value) (σ : rk_M) : Prop := rk_At g cX6_settle 1 none RX6 5 R pc ls st σ
def bX6_settle_0 (g : rk_G) (R : rk_R) : rk_K := (rk_aload 0 (rk_gR 6 1 (rk_cV g 0 1 yX1_settle cX1_settle 2 none 4 (rk_aload 0 (rk_gR 6 2 (rk_cV g 0 4 yX4_settle cX4_settle 2 none 3 (rk_vret R)))))))
theorem eX6_settle_0 (g : rk_G) (R : rk_R) (ls st : List Value) (σ : rk_M) : bX6_settle_0 g R ls st σ = (rk_aload 0 (rk_gR 6 1 (rk_cV g 0 1 yX1_settle cX1_settle 2 none 4 (rk_aload 0 (rk_gR 6 2 (rk_cV g 0 4 yX4_settle cX4_settle 2 none 3 (rk_vret R))))))) ls st σ := rfl
theorem oX6_settle_0 {g : rk_G} {R : rk_R} : aX6_settle g R 0 (bX6_settle_0 g R) := (rk_aload_n_ok dX6_settle_0 rfl (rk_gR_ok dX6_settle_1 rfl iX6 (by decide) rfl wfX6_21 (rk_cV_ok dX6_settle_4 rfl rfl npX1_settle wmX6_312 wvX1_settle weX1_settle wiX1 wdX1_settle (by decide) (by decide) (rk_aload_n_ok dX6_settle_7 rfl (rk_gR_ok dX6_settle_8 rfl iX6 (by decide) rfl wfX6_30 (rk_cV_ok dX6_settle_11 rfl rfl npX4_settle wmX6_313 wvX4_settle weX4_settle wiX4 wdX4_settle (by decide) (by decide) (rk_vret_ok rfl dX6_settle_14)))))))
theorem dX6_road_0 : decode cX6_road 0 = .ok (.aload_n 0, 1) := by decide +kernel
theorem dX6_road_1 : decode cX6_road 1 = .ok (.getfield 10, 3) := by decide +kernel
theorem dX6_road_4 : decode cX6_road 4 = .ok (.iload_n 1, 1) := by decide +kernel
theorem dX6_road_5 : decode cX6_road 5 = .ok (.iload_n 2, 1) := by decide +kernel
theorem dX6_road_6 : decode cX6_road 6 = .ok (.iload_n 3, 1) := by decide +kernel
theorem dX6_road_7 : decode cX6_road 7 = .ok (.iload 4, 2) := by decide +kernel
theorem dX6_road_9 : decode cX6_road 9 = .ok (.invokevirtual 65, 3) := by decide +kernel
theorem dX6_road_12 : decode cX6_road 12 = .ok (.istore 5, 2) := by decide +kernel
theorem dX6_road_14 : decode cX6_road 14 = .ok (.iload 5, 2) := by decide +kernel
theorem dX6_road_16 : decode cX6_road 16 = .ok (.ifCond .lt 7, 3) := by decide +kernel
theorem dX6_road_19 : decode cX6_road 19 = .ok (.aload_n 0, 1) := by decide +kernel
theorem dX6_road_20 : decode cX6_road 20 = .ok (.invokevirtual 69, 3) := by decide +kernel
theorem dX6_road_23 : decode cX6_road 23 = .ok (.iload 5, 2) := by decide +kernel
theorem dX6_road_25 : decode cX6_road 25 = .ok (.ireturn, 1) := by decide +kernel
abbrev kX6_road (g : rk_G) (R : rk_R) (pc : Nat) : rk_K := rk_cut g cX6_road 6 (some .int) RX6 6 R pc
abbrev aX6_road (g : rk_G) (R : rk_R) (pc : Nat) (K : rk_K) : Prop := rk_AK g cX6_road 6 (some .int) RX6 6 R pc K
abbrev sX6_road (g : rk_G) (vs : List Value) (σ : rk_M) (R : rk_R) : Prop := rk_does g yX6_road cX6_road 6 (some .int) 6 vs σ R
abbrev tX6_road (g : rk_G) (R : rk_R) (pc : Nat) (ls st : List Value) (σ : rk_M) : Prop := rk_At g cX6_road 6 (some .int) RX6 6 R pc ls st σ
def bX6_road_23 (g : rk_G) (R : rk_R) : rk_K := (rk_iload 5 (rk_iret R))
theorem eX6_road_23 (g : rk_G) (R : rk_R) (ls st : List Value) (σ : rk_M) : bX6_road_23 g R ls st σ = (rk_iload 5 (rk_iret R)) ls st σ := rfl
theorem oX6_road_23 {g : rk_G} {R : rk_R} : aX6_road g R 23 (bX6_road_23 g R) := (rk_iload_ok dX6_road_23 (rk_iret_ok rfl dX6_road_25))
def bX6_road_0 (g : rk_G) (R : rk_R) : rk_K := (rk_aload 0 (rk_gR 6 0 (rk_iload 1 (rk_iload 2 (rk_iload 3 (rk_iload 4 (rk_cV g 4 2 yX2_addRoad cX2_addRoad 5 (some .int) 2 (rk_istore 5 (rk_iload 5 (rk_if_lt (bX6_road_23 g R) (rk_aload 0 (rk_cV g 0 6 yX6_settle cX6_settle 1 none 5 (bX6_road_23 g R)))))))))))))
theorem eX6_road_0 (g : rk_G) (R : rk_R) (ls st : List Value) (σ : rk_M) : bX6_road_0 g R ls st σ = (rk_aload 0 (rk_gR 6 0 (rk_iload 1 (rk_iload 2 (rk_iload 3 (rk_iload 4 (rk_cV g 4 2 yX2_addRoad cX2_addRoad 5 (some .int) 2 (rk_istore 5 (rk_iload 5 (rk_if_lt (bX6_road_23 g R) (rk_aload 0 (rk_cV g 0 6 yX6_settle cX6_settle 1 none 5 (bX6_road_23 g R))))))))))))) ls st σ := rfl
theorem oX6_road_0 {g : rk_G} {R : rk_R} : aX6_road g R 0 (bX6_road_0 g R) := (rk_aload_n_ok dX6_road_0 rfl (rk_gR_ok dX6_road_1 rfl iX6 (by decide) rfl wfX6_10 (rk_iload_n_ok dX6_road_4 rfl (rk_iload_n_ok dX6_road_5 rfl (rk_iload_n_ok dX6_road_6 rfl (rk_iload_ok dX6_road_7 (rk_cV_ok dX6_road_9 rfl rfl npX2_addRoad wmX6_65 wvX2_addRoad weX2_addRoad wiX2 wdX2_addRoad (by decide) (by decide) (rk_istore_ok dX6_road_12 (by decide) (rk_iload_ok dX6_road_14 (rk_if_lt_ok (pc' := 23) dX6_road_16 (by decide) oX6_road_23 (rk_aload_n_ok dX6_road_19 rfl (rk_cV_ok dX6_road_20 rfl rfl npX6_settle wmX6_69 wvX6_settle weX6_settle wiX6 wdX6_settle (by decide) (by decide) oX6_road_23))))))))))))
theorem dX6_undo_0 : decode cX6_undo 0 = .ok (.aload_n 0, 1) := by decide +kernel
theorem dX6_undo_1 : decode cX6_undo 1 = .ok (.getfield 10, 3) := by decide +kernel
theorem dX6_undo_4 : decode cX6_undo 4 = .ok (.invokevirtual 72, 3) := by decide +kernel
theorem dX6_undo_7 : decode cX6_undo 7 = .ok (.istore_n 1, 1) := by decide +kernel
theorem dX6_undo_8 : decode cX6_undo 8 = .ok (.iload_n 1, 1) := by decide +kernel
theorem dX6_undo_9 : decode cX6_undo 9 = .ok (.ifCond .lt 7, 3) := by decide +kernel
theorem dX6_undo_12 : decode cX6_undo 12 = .ok (.aload_n 0, 1) := by decide +kernel
theorem dX6_undo_13 : decode cX6_undo 13 = .ok (.invokevirtual 69, 3) := by decide +kernel
theorem dX6_undo_16 : decode cX6_undo 16 = .ok (.iload_n 1, 1) := by decide +kernel
theorem dX6_undo_17 : decode cX6_undo 17 = .ok (.ireturn, 1) := by decide +kernel
abbrev kX6_undo (g : rk_G) (R : rk_R) (pc : Nat) : rk_K := rk_cut g cX6_undo 2 (some .int) RX6 6 R pc
abbrev aX6_undo (g : rk_G) (R : rk_R) (pc : Nat) (K : rk_K) : Prop := rk_AK g cX6_undo 2 (some .int) RX6 6 R pc K
abbrev sX6_undo (g : rk_G) (vs : List Value) (σ : rk_M) (R : rk_R) : Prop := rk_does g yX6_undo cX6_undo 2 (some .int) 6 vs σ R
abbrev tX6_undo (g : rk_G) (R : rk_R) (pc : Nat) (ls st : List Value) (σ : rk_M) : Prop := rk_At g cX6_undo 2 (some .int) RX6 6 R pc ls st σ
def bX6_undo_16 (g : rk_G) (R : rk_R) : rk_K := (rk_iload 1 (rk_iret R))
theorem eX6_undo_16 (g : rk_G) (R : rk_R) (ls st : List Value) (σ : rk_M) : bX6_undo_16 g R ls st σ = (rk_iload 1 (rk_iret R)) ls st σ := rfl
theorem oX6_undo_16 {g : rk_G} {R : rk_R} : aX6_undo g R 16 (bX6_undo_16 g R) := (rk_iload_n_ok dX6_undo_16 rfl (rk_iret_ok rfl dX6_undo_17))
def bX6_undo_0 (g : rk_G) (R : rk_R) : rk_K := (rk_aload 0 (rk_gR 6 0 (rk_cV g 0 2 yX2_removeLast cX2_removeLast 2 (some .int) 0 (rk_istore 1 (rk_iload 1 (rk_if_lt (bX6_undo_16 g R) (rk_aload 0 (rk_cV g 0 6 yX6_settle cX6_settle 1 none 5 (bX6_undo_16 g R)))))))))
theorem eX6_undo_0 (g : rk_G) (R : rk_R) (ls st : List Value) (σ : rk_M) : bX6_undo_0 g R ls st σ = (rk_aload 0 (rk_gR 6 0 (rk_cV g 0 2 yX2_removeLast cX2_removeLast 2 (some .int) 0 (rk_istore 1 (rk_iload 1 (rk_if_lt (bX6_undo_16 g R) (rk_aload 0 (rk_cV g 0 6 yX6_settle cX6_settle 1 none 5 (bX6_undo_16 g R))))))))) ls st σ := rfl
theorem oX6_undo_0 {g : rk_G} {R : rk_R} : aX6_undo g R 0 (bX6_undo_0 g R) := (rk_aload_n_ok dX6_undo_0 rfl (rk_gR_ok dX6_undo_1 rfl iX6 (by decide) rfl wfX6_10 (rk_cV_ok dX6_undo_4 rfl rfl npX2_removeLast wmX6_72 wvX2_removeLast weX2_removeLast wiX2 wdX2_removeLast (by decide) (by decide) (rk_istore_n_ok dX6_undo_7 rfl (by decide) (rk_iload_n_ok dX6_undo_8 rfl (rk_if_lt_ok (pc' := 16) dX6_undo_9 (by decide) oX6_undo_16 (rk_aload_n_ok dX6_undo_12 rfl (rk_cV_ok dX6_undo_13 rfl rfl npX6_settle wmX6_69 wvX6_settle weX6_settle wiX6 wdX6_settle (by decide) (by decide) oX6_undo_16))))))))
theorem dX6_alter_0 : decode cX6_alter 0 = .ok (.aload_n 0, 1) := by decide +kernel
theorem dX6_alter_1 : decode cX6_alter 1 = .ok (.getfield 10, 3) := by decide +kernel
theorem dX6_alter_4 : decode cX6_alter 4 = .ok (.iload_n 1, 1) := by decide +kernel
theorem dX6_alter_5 : decode cX6_alter 5 = .ok (.invokevirtual 76, 3) := by decide +kernel
theorem dX6_alter_8 : decode cX6_alter 8 = .ok (.ifCond .ne 6, 3) := by decide +kernel
theorem dX6_alter_11 : decode cX6_alter 11 = .ok (.bipush (-2), 2) := by decide +kernel
theorem dX6_alter_13 : decode cX6_alter 13 = .ok (.ireturn, 1) := by decide +kernel
theorem dX6_alter_14 : decode cX6_alter 14 = .ok (.iload_n 2, 1) := by decide +kernel
theorem dX6_alter_15 : decode cX6_alter 15 = .ok (.ifCond .ne 34, 3) := by decide +kernel
theorem dX6_alter_18 : decode cX6_alter 18 = .ok (.iload_n 3, 1) := by decide +kernel
theorem dX6_alter_19 : decode cX6_alter 19 = .ok (.invokestatic 80, 3) := by decide +kernel
theorem dX6_alter_22 : decode cX6_alter 22 = .ok (.ifCond .eq 27, 3) := by decide +kernel
theorem dX6_alter_25 : decode cX6_alter 25 = .ok (.aload_n 0, 1) := by decide +kernel
theorem dX6_alter_26 : decode cX6_alter 26 = .ok (.getfield 10, 3) := by decide +kernel
theorem dX6_alter_29 : decode cX6_alter 29 = .ok (.getfield 83, 3) := by decide +kernel
theorem dX6_alter_32 : decode cX6_alter 32 = .ok (.iload_n 1, 1) := by decide +kernel
theorem dX6_alter_33 : decode cX6_alter 33 = .ok (.iaload, 1) := by decide +kernel
theorem dX6_alter_34 : decode cX6_alter 34 = .ok (.istore 4, 2) := by decide +kernel
theorem dX6_alter_36 : decode cX6_alter 36 = .ok (.aload_n 0, 1) := by decide +kernel
theorem dX6_alter_37 : decode cX6_alter 37 = .ok (.getfield 10, 3) := by decide +kernel
theorem dX6_alter_40 : decode cX6_alter 40 = .ok (.getfield 83, 3) := by decide +kernel
theorem dX6_alter_43 : decode cX6_alter 43 = .ok (.iload_n 1, 1) := by decide +kernel
theorem dX6_alter_44 : decode cX6_alter 44 = .ok (.iload_n 3, 1) := by decide +kernel
theorem dX6_alter_45 : decode cX6_alter 45 = .ok (.iastore, 1) := by decide +kernel
theorem dX6_alter_46 : decode cX6_alter 46 = .ok (.goto 42, 3) := by decide +kernel
theorem dX6_alter_49 : decode cX6_alter 49 = .ok (.iload_n 2, 1) := by decide +kernel
theorem dX6_alter_50 : decode cX6_alter 50 = .ok (.iconst 1, 1) := by decide +kernel
theorem dX6_alter_51 : decode cX6_alter 51 = .ok (.if_icmp .ne 34, 3) := by decide +kernel
theorem dX6_alter_54 : decode cX6_alter 54 = .ok (.iload_n 3, 1) := by decide +kernel
theorem dX6_alter_55 : decode cX6_alter 55 = .ok (.invokestatic 87, 3) := by decide +kernel
theorem dX6_alter_58 : decode cX6_alter 58 = .ok (.ifCond .eq 27, 3) := by decide +kernel
theorem dX6_alter_61 : decode cX6_alter 61 = .ok (.aload_n 0, 1) := by decide +kernel
theorem dX6_alter_62 : decode cX6_alter 62 = .ok (.getfield 10, 3) := by decide +kernel
theorem dX6_alter_65 : decode cX6_alter 65 = .ok (.getfield 90, 3) := by decide +kernel
theorem dX6_alter_68 : decode cX6_alter 68 = .ok (.iload_n 1, 1) := by decide +kernel
theorem dX6_alter_69 : decode cX6_alter 69 = .ok (.iaload, 1) := by decide +kernel
theorem dX6_alter_70 : decode cX6_alter 70 = .ok (.istore 4, 2) := by decide +kernel
theorem dX6_alter_72 : decode cX6_alter 72 = .ok (.aload_n 0, 1) := by decide +kernel
theorem dX6_alter_73 : decode cX6_alter 73 = .ok (.getfield 10, 3) := by decide +kernel
theorem dX6_alter_76 : decode cX6_alter 76 = .ok (.getfield 90, 3) := by decide +kernel
theorem dX6_alter_79 : decode cX6_alter 79 = .ok (.iload_n 1, 1) := by decide +kernel
theorem dX6_alter_80 : decode cX6_alter 80 = .ok (.iload_n 3, 1) := by decide +kernel
theorem dX6_alter_81 : decode cX6_alter 81 = .ok (.iastore, 1) := by decide +kernel
theorem dX6_alter_82 : decode cX6_alter 82 = .ok (.goto 6, 3) := by decide +kernel
theorem dX6_alter_85 : decode cX6_alter 85 = .ok (.bipush (-2), 2) := by decide +kernel
theorem dX6_alter_87 : decode cX6_alter 87 = .ok (.ireturn, 1) := by decide +kernel
theorem dX6_alter_88 : decode cX6_alter 88 = .ok (.aload_n 0, 1) := by decide +kernel
theorem dX6_alter_89 : decode cX6_alter 89 = .ok (.invokevirtual 69, 3) := by decide +kernel
theorem dX6_alter_92 : decode cX6_alter 92 = .ok (.iload 4, 2) := by decide +kernel
theorem dX6_alter_94 : decode cX6_alter 94 = .ok (.ireturn, 1) := by decide +kernel
abbrev kX6_alter (g : rk_G) (R : rk_R) (pc : Nat) : rk_K := rk_cut g cX6_alter 5 (some .int) RX6 6 R pc
abbrev aX6_alter (g : rk_G) (R : rk_R) (pc : Nat) (K : rk_K) : Prop := rk_AK g cX6_alter 5 (some .int) RX6 6 R pc K
abbrev sX6_alter (g : rk_G) (vs : List Value) (σ : rk_M) (R : rk_R) : Prop := rk_does g yX6_alter cX6_alter 5 (some .int) 6 vs σ R
abbrev tX6_alter (g : rk_G) (R : rk_R) (pc : Nat) (ls st : List Value) (σ : rk_M) : Prop := rk_At g cX6_alter 5 (some .int) RX6 6 R pc ls st σ
def bX6_alter_88 (g : rk_G) (R : rk_R) : rk_K := (rk_aload 0 (rk_cV g 0 6 yX6_settle cX6_settle 1 none 5 (rk_iload 4 (rk_iret R))))
theorem eX6_alter_88 (g : rk_G) (R : rk_R) (ls st : List Value) (σ : rk_M) : bX6_alter_88 g R ls st σ = (rk_aload 0 (rk_cV g 0 6 yX6_settle cX6_settle 1 none 5 (rk_iload 4 (rk_iret R)))) ls st σ := rfl
theorem oX6_alter_88 {g : rk_G} {R : rk_R} : aX6_alter g R 88 (bX6_alter_88 g R) := (rk_aload_n_ok dX6_alter_88 rfl (rk_cV_ok dX6_alter_89 rfl rfl npX6_settle wmX6_69 wvX6_settle weX6_settle wiX6 wdX6_settle (by decide) (by decide) (rk_iload_ok dX6_alter_92 (rk_iret_ok rfl dX6_alter_94))))
def bX6_alter_85 (g : rk_G) (R : rk_R) : rk_K := (rk_ci (-2) (rk_iret R))
theorem eX6_alter_85 (g : rk_G) (R : rk_R) (ls st : List Value) (σ : rk_M) : bX6_alter_85 g R ls st σ = (rk_ci (-2) (rk_iret R)) ls st σ := rfl
theorem oX6_alter_85 {g : rk_G} {R : rk_R} : aX6_alter g R 85 (bX6_alter_85 g R) := (rk_bipush_ok dX6_alter_85 (by decide) (rk_iret_ok rfl dX6_alter_87))
def bX6_alter_49 (g : rk_G) (R : rk_R) : rk_K := (rk_iload 2 (rk_ci (1) (rk_icmp_ne (bX6_alter_85 g R) (rk_iload 3 (rk_cS g 1 yX6_isUse cX6_isUse 1 (some .boolean) 0 (rk_if_eq (bX6_alter_85 g R) (rk_aload 0 (rk_gR 6 0 (rk_gR 2 5 (rk_iload 1 (rk_iald (rk_istore 4 (rk_aload 0 (rk_gR 6 0 (rk_gR 2 5 (rk_iload 1 (rk_iload 3 (rk_iast (bX6_alter_88 g R)))))))))))))))))))
theorem eX6_alter_49 (g : rk_G) (R : rk_R) (ls st : List Value) (σ : rk_M) : bX6_alter_49 g R ls st σ = (rk_iload 2 (rk_ci (1) (rk_icmp_ne (bX6_alter_85 g R) (rk_iload 3 (rk_cS g 1 yX6_isUse cX6_isUse 1 (some .boolean) 0 (rk_if_eq (bX6_alter_85 g R) (rk_aload 0 (rk_gR 6 0 (rk_gR 2 5 (rk_iload 1 (rk_iald (rk_istore 4 (rk_aload 0 (rk_gR 6 0 (rk_gR 2 5 (rk_iload 1 (rk_iload 3 (rk_iast (bX6_alter_88 g R))))))))))))))))))) ls st σ := rfl
theorem oX6_alter_49 {g : rk_G} {R : rk_R} : aX6_alter g R 49 (bX6_alter_49 g R) := (rk_iload_n_ok dX6_alter_49 rfl (rk_iconst_ok dX6_alter_50 (by decide) (rk_icmp_ne_ok (pc' := 85) dX6_alter_51 (by decide) oX6_alter_85 (rk_iload_n_ok dX6_alter_54 rfl (rk_cS_ok dX6_alter_55 npX6_isUse wmX6_87 wtX6_isUse wiX6 wdX6_isUse (by decide) (by decide) (rk_if_eq_ok (pc' := 85) dX6_alter_58 (by decide) oX6_alter_85 (rk_aload_n_ok dX6_alter_61 rfl (rk_gR_ok dX6_alter_62 rfl iX6 (by decide) rfl wfX6_10 (rk_gR_ok dX6_alter_65 rfl iX2 (by decide) rfl wfX6_90 (rk_iload_n_ok dX6_alter_68 rfl (rk_iald_ok dX6_alter_69 (rk_istore_ok dX6_alter_70 (by decide) (rk_aload_n_ok dX6_alter_72 rfl (rk_gR_ok dX6_alter_73 rfl iX6 (by decide) rfl wfX6_10 (rk_gR_ok dX6_alter_76 rfl iX2 (by decide) rfl wfX6_90 (rk_iload_n_ok dX6_alter_79 rfl (rk_iload_n_ok dX6_alter_80 rfl (rk_iast_ok dX6_alter_81 (rk_goto_ok (pc' := 88) dX6_alter_82 (by decide) oX6_alter_88)))))))))))))))))))
def bX6_alter_0 (g : rk_G) (R : rk_R) : rk_K := (rk_aload 0 (rk_gR 6 0 (rk_iload 1 (rk_cV g 1 2 yX2_hasRoad cX2_hasRoad 2 (some .boolean) 0 (rk_if_ne (rk_iload 2 (rk_if_ne (bX6_alter_49 g R) (rk_iload 3 (rk_cS g 1 yX6_isKind cX6_isKind 1 (some .boolean) 0 (rk_if_eq (bX6_alter_49 g R) (rk_aload 0 (rk_gR 6 0 (rk_gR 2 4 (rk_iload 1 (rk_iald (rk_istore 4 (rk_aload 0 (rk_gR 6 0 (rk_gR 2 4 (rk_iload 1 (rk_iload 3 (rk_iast (bX6_alter_88 g R)))))))))))))))))) (rk_ci (-2) (rk_iret R)))))))
theorem eX6_alter_0 (g : rk_G) (R : rk_R) (ls st : List Value) (σ : rk_M) : bX6_alter_0 g R ls st σ = (rk_aload 0 (rk_gR 6 0 (rk_iload 1 (rk_cV g 1 2 yX2_hasRoad cX2_hasRoad 2 (some .boolean) 0 (rk_if_ne (rk_iload 2 (rk_if_ne (bX6_alter_49 g R) (rk_iload 3 (rk_cS g 1 yX6_isKind cX6_isKind 1 (some .boolean) 0 (rk_if_eq (bX6_alter_49 g R) (rk_aload 0 (rk_gR 6 0 (rk_gR 2 4 (rk_iload 1 (rk_iald (rk_istore 4 (rk_aload 0 (rk_gR 6 0 (rk_gR 2 4 (rk_iload 1 (rk_iload 3 (rk_iast (bX6_alter_88 g R)))))))))))))))))) (rk_ci (-2) (rk_iret R))))))) ls st σ := rfl
theorem oX6_alter_0 {g : rk_G} {R : rk_R} : aX6_alter g R 0 (bX6_alter_0 g R) := (rk_aload_n_ok dX6_alter_0 rfl (rk_gR_ok dX6_alter_1 rfl iX6 (by decide) rfl wfX6_10 (rk_iload_n_ok dX6_alter_4 rfl (rk_cV_ok dX6_alter_5 rfl rfl npX2_hasRoad wmX6_76 wvX2_hasRoad weX2_hasRoad wiX2 wdX2_hasRoad (by decide) (by decide) (rk_if_ne_ok (pc' := 14) dX6_alter_8 (by decide) (rk_iload_n_ok dX6_alter_14 rfl (rk_if_ne_ok (pc' := 49) dX6_alter_15 (by decide) oX6_alter_49 (rk_iload_n_ok dX6_alter_18 rfl (rk_cS_ok dX6_alter_19 npX6_isKind wmX6_80 wtX6_isKind wiX6 wdX6_isKind (by decide) (by decide) (rk_if_eq_ok (pc' := 49) dX6_alter_22 (by decide) oX6_alter_49 (rk_aload_n_ok dX6_alter_25 rfl (rk_gR_ok dX6_alter_26 rfl iX6 (by decide) rfl wfX6_10 (rk_gR_ok dX6_alter_29 rfl iX2 (by decide) rfl wfX6_83 (rk_iload_n_ok dX6_alter_32 rfl (rk_iald_ok dX6_alter_33 (rk_istore_ok dX6_alter_34 (by decide) (rk_aload_n_ok dX6_alter_36 rfl (rk_gR_ok dX6_alter_37 rfl iX6 (by decide) rfl wfX6_10 (rk_gR_ok dX6_alter_40 rfl iX2 (by decide) rfl wfX6_83 (rk_iload_n_ok dX6_alter_43 rfl (rk_iload_n_ok dX6_alter_44 rfl (rk_iast_ok dX6_alter_45 (rk_goto_ok (pc' := 88) dX6_alter_46 (by decide) oX6_alter_88)))))))))))))))))) (rk_bipush_ok dX6_alter_11 (by decide) (rk_iret_ok rfl dX6_alter_13)))))))
theorem dX6_read_0 : decode cX6_read 0 = .ok (.iload_n 1, 1) := by decide +kernel
theorem dX6_read_1 : decode cX6_read 1 = .ok (.invokestatic 93, 3) := by decide +kernel
theorem dX6_read_4 : decode cX6_read 4 = .ok (.ifCond .ne 6, 3) := by decide +kernel
theorem dX6_read_7 : decode cX6_read 7 = .ok (.bipush (-2), 2) := by decide +kernel
theorem dX6_read_9 : decode cX6_read 9 = .ok (.ireturn, 1) := by decide +kernel
theorem dX6_read_10 : decode cX6_read 10 = .ok (.aload_n 0, 1) := by decide +kernel
theorem dX6_read_11 : decode cX6_read 11 = .ok (.getfield 52, 3) := by decide +kernel
theorem dX6_read_14 : decode cX6_read 14 = .ok (.iload_n 1, 1) := by decide +kernel
theorem dX6_read_15 : decode cX6_read 15 = .ok (.aaload, 1) := by decide +kernel
theorem dX6_read_16 : decode cX6_read 16 = .ok (.astore_n 2, 1) := by decide +kernel
theorem dX6_read_17 : decode cX6_read 17 = .ok (.aload_n 2, 1) := by decide +kernel
theorem dX6_read_18 : decode cX6_read 18 = .ok (.invokevirtual 96, 3) := by decide +kernel
theorem dX6_read_21 : decode cX6_read 21 = .ok (.ifCond .eq 9, 3) := by decide +kernel
theorem dX6_read_24 : decode cX6_read 24 = .ok (.aload_n 0, 1) := by decide +kernel
theorem dX6_read_25 : decode cX6_read 25 = .ok (.iconst 1, 1) := by decide +kernel
theorem dX6_read_26 : decode cX6_read 26 = .ok (.invokevirtual 100, 3) := by decide +kernel
theorem dX6_read_29 : decode cX6_read 29 = .ok (.ireturn, 1) := by decide +kernel
theorem dX6_read_30 : decode cX6_read 30 = .ok (.aload_n 2, 1) := by decide +kernel
theorem dX6_read_31 : decode cX6_read 31 = .ok (.getfield 104, 3) := by decide +kernel
theorem dX6_read_34 : decode cX6_read 34 = .ok (.astore_n 3, 1) := by decide +kernel
theorem dX6_read_35 : decode cX6_read 35 = .ok (.iconst 0, 1) := by decide +kernel
theorem dX6_read_36 : decode cX6_read 36 = .ok (.istore 4, 2) := by decide +kernel
theorem dX6_read_38 : decode cX6_read 38 = .ok (.iconst 0, 1) := by decide +kernel
theorem dX6_read_39 : decode cX6_read 39 = .ok (.istore 5, 2) := by decide +kernel
theorem dX6_read_41 : decode cX6_read 41 = .ok (.iload 5, 2) := by decide +kernel
theorem dX6_read_43 : decode cX6_read 43 = .ok (.iconst 4, 1) := by decide +kernel
theorem dX6_read_44 : decode cX6_read 44 = .ok (.iadd, 1) := by decide +kernel
theorem dX6_read_45 : decode cX6_read 45 = .ok (.aload_n 2, 1) := by decide +kernel
theorem dX6_read_46 : decode cX6_read 46 = .ok (.getfield 107, 3) := by decide +kernel
theorem dX6_read_49 : decode cX6_read 49 = .ok (.if_icmp .gt 47, 3) := by decide +kernel
theorem dX6_read_52 : decode cX6_read 52 = .ok (.aload_n 0, 1) := by decide +kernel
theorem dX6_read_53 : decode cX6_read 53 = .ok (.getfield 10, 3) := by decide +kernel
theorem dX6_read_56 : decode cX6_read 56 = .ok (.aload_n 3, 1) := by decide +kernel
theorem dX6_read_57 : decode cX6_read 57 = .ok (.iload 5, 2) := by decide +kernel
theorem dX6_read_59 : decode cX6_read 59 = .ok (.iaload, 1) := by decide +kernel
theorem dX6_read_60 : decode cX6_read 60 = .ok (.aload_n 3, 1) := by decide +kernel
theorem dX6_read_61 : decode cX6_read 61 = .ok (.iload 5, 2) := by decide +kernel
theorem dX6_read_63 : decode cX6_read 63 = .ok (.iconst 1, 1) := by decide +kernel
theorem dX6_read_64 : decode cX6_read 64 = .ok (.iadd, 1) := by decide +kernel
theorem dX6_read_65 : decode cX6_read 65 = .ok (.iaload, 1) := by decide +kernel
theorem dX6_read_66 : decode cX6_read 66 = .ok (.aload_n 3, 1) := by decide +kernel
theorem dX6_read_67 : decode cX6_read 67 = .ok (.iload 5, 2) := by decide +kernel
theorem dX6_read_69 : decode cX6_read 69 = .ok (.iconst 2, 1) := by decide +kernel
theorem dX6_read_70 : decode cX6_read 70 = .ok (.iadd, 1) := by decide +kernel
theorem dX6_read_71 : decode cX6_read 71 = .ok (.iaload, 1) := by decide +kernel
theorem dX6_read_72 : decode cX6_read 72 = .ok (.aload_n 3, 1) := by decide +kernel
theorem dX6_read_73 : decode cX6_read 73 = .ok (.iload 5, 2) := by decide +kernel
theorem dX6_read_75 : decode cX6_read 75 = .ok (.iconst 3, 1) := by decide +kernel
theorem dX6_read_76 : decode cX6_read 76 = .ok (.iadd, 1) := by decide +kernel
theorem dX6_read_77 : decode cX6_read 77 = .ok (.iaload, 1) := by decide +kernel
theorem dX6_read_78 : decode cX6_read 78 = .ok (.invokevirtual 65, 3) := by decide +kernel
theorem dX6_read_81 : decode cX6_read 81 = .ok (.ifCond .ge 6, 3) := by decide +kernel
theorem dX6_read_84 : decode cX6_read 84 = .ok (.goto 12, 3) := by decide +kernel
theorem dX6_read_87 : decode cX6_read 87 = .ok (.iinc 4 1, 3) := by decide +kernel
theorem dX6_read_90 : decode cX6_read 90 = .ok (.iinc 5 4, 3) := by decide +kernel
theorem dX6_read_93 : decode cX6_read 93 = .ok (.goto (-52), 3) := by decide +kernel
theorem dX6_read_96 : decode cX6_read 96 = .ok (.aload_n 0, 1) := by decide +kernel
theorem dX6_read_97 : decode cX6_read 97 = .ok (.invokevirtual 69, 3) := by decide +kernel
theorem dX6_read_100 : decode cX6_read 100 = .ok (.iload 4, 2) := by decide +kernel
theorem dX6_read_102 : decode cX6_read 102 = .ok (.ireturn, 1) := by decide +kernel
abbrev kX6_read (g : rk_G) (R : rk_R) (pc : Nat) : rk_K := rk_cut g cX6_read 6 (some .int) RX6 6 R pc
abbrev aX6_read (g : rk_G) (R : rk_R) (pc : Nat) (K : rk_K) : Prop := rk_AK g cX6_read 6 (some .int) RX6 6 R pc K
abbrev sX6_read (g : rk_G) (vs : List Value) (σ : rk_M) (R : rk_R) : Prop := rk_does g yX6_read cX6_read 6 (some .int) 6 vs σ R
abbrev tX6_read (g : rk_G) (R : rk_R) (pc : Nat) (ls st : List Value) (σ : rk_M) : Prop := rk_At g cX6_read 6 (some .int) RX6 6 R pc ls st σ
def bX6_read_96 (g : rk_G) (R : rk_R) : rk_K := (rk_aload 0 (rk_cV g 0 6 yX6_settle cX6_settle 1 none 5 (rk_iload 4 (rk_iret R))))
theorem eX6_read_96 (g : rk_G) (R : rk_R) (ls st : List Value) (σ : rk_M) : bX6_read_96 g R ls st σ = (rk_aload 0 (rk_cV g 0 6 yX6_settle cX6_settle 1 none 5 (rk_iload 4 (rk_iret R)))) ls st σ := rfl
theorem oX6_read_96 {g : rk_G} {R : rk_R} : aX6_read g R 96 (bX6_read_96 g R) := (rk_aload_n_ok dX6_read_96 rfl (rk_cV_ok dX6_read_97 rfl rfl npX6_settle wmX6_69 wvX6_settle weX6_settle wiX6 wdX6_settle (by decide) (by decide) (rk_iload_ok dX6_read_100 (rk_iret_ok rfl dX6_read_102))))
def bX6_read_41 (g : rk_G) (R : rk_R) : rk_K := (rk_iload 5 (rk_ci (4) (rk_iadd (rk_aload 2 (rk_gI 3 2 (rk_icmp_gt (bX6_read_96 g R) (rk_aload 0 (rk_gR 6 0 (rk_aload 3 (rk_iload 5 (rk_iald (rk_aload 3 (rk_iload 5 (rk_ci (1) (rk_iadd (rk_iald (rk_aload 3 (rk_iload 5 (rk_ci (2) (rk_iadd (rk_iald (rk_aload 3 (rk_iload 5 (rk_ci (3) (rk_iadd (rk_iald (rk_cV g 4 2 yX2_addRoad cX2_addRoad 5 (some .int) 2 (rk_if_ge (rk_iinc 4 (1) (rk_iinc 5 (4) (kX6_read g R 41))) (bX6_read_96 g R)))))))))))))))))))))))))))))
theorem eX6_read_41 (g : rk_G) (R : rk_R) (ls st : List Value) (σ : rk_M) : bX6_read_41 g R ls st σ = (rk_iload 5 (rk_ci (4) (rk_iadd (rk_aload 2 (rk_gI 3 2 (rk_icmp_gt (bX6_read_96 g R) (rk_aload 0 (rk_gR 6 0 (rk_aload 3 (rk_iload 5 (rk_iald (rk_aload 3 (rk_iload 5 (rk_ci (1) (rk_iadd (rk_iald (rk_aload 3 (rk_iload 5 (rk_ci (2) (rk_iadd (rk_iald (rk_aload 3 (rk_iload 5 (rk_ci (3) (rk_iadd (rk_iald (rk_cV g 4 2 yX2_addRoad cX2_addRoad 5 (some .int) 2 (rk_if_ge (rk_iinc 4 (1) (rk_iinc 5 (4) (kX6_read g R 41))) (bX6_read_96 g R))))))))))))))))))))))))))))) ls st σ := rfl
theorem oX6_read_41 {g : rk_G} {R : rk_R} : aX6_read g R 41 (bX6_read_41 g R) := (rk_iload_ok dX6_read_41 (rk_iconst_ok dX6_read_43 (by decide) (rk_iadd_ok dX6_read_44 (rk_aload_n_ok dX6_read_45 rfl (rk_gI_ok dX6_read_46 rfl iX3 (by decide) rfl wfX6_107 (rk_icmp_gt_ok (pc' := 96) dX6_read_49 (by decide) oX6_read_96 (rk_aload_n_ok dX6_read_52 rfl (rk_gR_ok dX6_read_53 rfl iX6 (by decide) rfl wfX6_10 (rk_aload_n_ok dX6_read_56 rfl (rk_iload_ok dX6_read_57 (rk_iald_ok dX6_read_59 (rk_aload_n_ok dX6_read_60 rfl (rk_iload_ok dX6_read_61 (rk_iconst_ok dX6_read_63 (by decide) (rk_iadd_ok dX6_read_64 (rk_iald_ok dX6_read_65 (rk_aload_n_ok dX6_read_66 rfl (rk_iload_ok dX6_read_67 (rk_iconst_ok dX6_read_69 (by decide) (rk_iadd_ok dX6_read_70 (rk_iald_ok dX6_read_71 (rk_aload_n_ok dX6_read_72 rfl (rk_iload_ok dX6_read_73 (rk_iconst_ok dX6_read_75 (by decide) (rk_iadd_ok dX6_read_76 (rk_iald_ok dX6_read_77 (rk_cV_ok dX6_read_78 rfl rfl npX2_addRoad wmX6_65 wvX2_addRoad weX2_addRoad wiX2 wdX2_addRoad (by decide) (by decide) (rk_if_ge_ok (pc' := 87) dX6_read_81 (by decide) (rk_iinc_ok dX6_read_87 (by decide) (by decide) (rk_iinc_ok dX6_read_90 (by decide) (by decide) (rk_goto_ok (pc' := 41) dX6_read_93 (by decide) rk_cut_ok))) (rk_goto_ok (pc' := 96) dX6_read_84 (by decide) oX6_read_96)))))))))))))))))))))))))))))
def bX6_read_0 (g : rk_G) (R : rk_R) : rk_K := (rk_iload 1 (rk_cS g 1 yX6_isRow cX6_isRow 1 (some .boolean) 0 (rk_if_ne (rk_aload 0 (rk_gR 6 5 (rk_iload 1 (rk_aald (rk_astore 2 (rk_aload 2 (rk_cV g 0 3 yX3_isLost cX3_isLost 1 (some .boolean) 0 (rk_if_eq (rk_aload 2 (rk_gR 3 0 (rk_astore 3 (rk_ci (0) (rk_istore 4 (rk_ci (0) (rk_istore 5 (kX6_read g R 41)))))))) (rk_aload 0 (rk_ci (1) (rk_cV g 1 6 yX6_found cX6_found 2 (some .int) 0 (rk_iret R)))))))))))) (rk_ci (-2) (rk_iret R)))))
theorem eX6_read_0 (g : rk_G) (R : rk_R) (ls st : List Value) (σ : rk_M) : bX6_read_0 g R ls st σ = (rk_iload 1 (rk_cS g 1 yX6_isRow cX6_isRow 1 (some .boolean) 0 (rk_if_ne (rk_aload 0 (rk_gR 6 5 (rk_iload 1 (rk_aald (rk_astore 2 (rk_aload 2 (rk_cV g 0 3 yX3_isLost cX3_isLost 1 (some .boolean) 0 (rk_if_eq (rk_aload 2 (rk_gR 3 0 (rk_astore 3 (rk_ci (0) (rk_istore 4 (rk_ci (0) (rk_istore 5 (kX6_read g R 41)))))))) (rk_aload 0 (rk_ci (1) (rk_cV g 1 6 yX6_found cX6_found 2 (some .int) 0 (rk_iret R)))))))))))) (rk_ci (-2) (rk_iret R))))) ls st σ := rfl
theorem oX6_read_0 {g : rk_G} {R : rk_R} : aX6_read g R 0 (bX6_read_0 g R) := (rk_iload_n_ok dX6_read_0 rfl (rk_cS_ok dX6_read_1 npX6_isRow wmX6_93 wtX6_isRow wiX6 wdX6_isRow (by decide) (by decide) (rk_if_ne_ok (pc' := 10) dX6_read_4 (by decide) (rk_aload_n_ok dX6_read_10 rfl (rk_gR_ok dX6_read_11 rfl iX6 (by decide) rfl wfX6_52 (rk_iload_n_ok dX6_read_14 rfl (rk_aald_ok dX6_read_15 (rk_astore_n_ok dX6_read_16 rfl (by decide) (rk_aload_n_ok dX6_read_17 rfl (rk_cV_ok dX6_read_18 rfl rfl npX3_isLost wmX6_96 wvX3_isLost weX3_isLost wiX3 wdX3_isLost (by decide) (by decide) (rk_if_eq_ok (pc' := 30) dX6_read_21 (by decide) (rk_aload_n_ok dX6_read_30 rfl (rk_gR_ok dX6_read_31 rfl iX3 (by decide) rfl wfX6_104 (rk_astore_n_ok dX6_read_34 rfl (by decide) (rk_iconst_ok dX6_read_35 (by decide) (rk_istore_ok dX6_read_36 (by decide) (rk_iconst_ok dX6_read_38 (by decide) (rk_istore_ok dX6_read_39 (by decide) rk_cut_ok))))))) (rk_aload_n_ok dX6_read_24 rfl (rk_iconst_ok dX6_read_25 (by decide) (rk_cV_ok dX6_read_26 rfl rfl npX6_found wmX6_100 wvX6_found weX6_found wiX6 wdX6_found (by decide) (by decide) (rk_iret_ok rfl dX6_read_29)))))))))))) (rk_bipush_ok dX6_read_7 (by decide) (rk_iret_ok rfl dX6_read_9)))))
theorem dX6_digest_0 : decode cX6_digest 0 = .ok (.ldc2_w 266, 3) := by decide +kernel
theorem dX6_digest_3 : decode cX6_digest 3 = .ok (.lstore_n 1, 1) := by decide +kernel
theorem dX6_digest_4 : decode cX6_digest 4 = .ok (.iconst 0, 1) := by decide +kernel
theorem dX6_digest_5 : decode cX6_digest 5 = .ok (.istore_n 3, 1) := by decide +kernel
theorem dX6_digest_6 : decode cX6_digest 6 = .ok (.iload_n 3, 1) := by decide +kernel
theorem dX6_digest_7 : decode cX6_digest 7 = .ok (.bipush 7, 2) := by decide +kernel
theorem dX6_digest_9 : decode cX6_digest 9 = .ok (.if_icmp .gt 19, 3) := by decide +kernel
theorem dX6_digest_12 : decode cX6_digest 12 = .ok (.lload_n 1, 1) := by decide +kernel
theorem dX6_digest_13 : decode cX6_digest 13 = .ok (.aload_n 0, 1) := by decide +kernel
theorem dX6_digest_14 : decode cX6_digest 14 = .ok (.iload_n 3, 1) := by decide +kernel
theorem dX6_digest_15 : decode cX6_digest 15 = .ok (.invokevirtual 268, 3) := by decide +kernel
theorem dX6_digest_18 : decode cX6_digest 18 = .ok (.invokestatic 270, 3) := by decide +kernel
theorem dX6_digest_21 : decode cX6_digest 21 = .ok (.lstore_n 1, 1) := by decide +kernel
theorem dX6_digest_22 : decode cX6_digest 22 = .ok (.iinc 3 1, 3) := by decide +kernel
theorem dX6_digest_25 : decode cX6_digest 25 = .ok (.goto (-19), 3) := by decide +kernel
theorem dX6_digest_28 : decode cX6_digest 28 = .ok (.iconst 0, 1) := by decide +kernel
theorem dX6_digest_29 : decode cX6_digest 29 = .ok (.istore_n 3, 1) := by decide +kernel
theorem dX6_digest_30 : decode cX6_digest 30 = .ok (.iload_n 3, 1) := by decide +kernel
theorem dX6_digest_31 : decode cX6_digest 31 = .ok (.aload_n 0, 1) := by decide +kernel
theorem dX6_digest_32 : decode cX6_digest 32 = .ok (.getfield 10, 3) := by decide +kernel
theorem dX6_digest_35 : decode cX6_digest 35 = .ok (.getfield 245, 3) := by decide +kernel
theorem dX6_digest_38 : decode cX6_digest 38 = .ok (.if_icmp .ge 36, 3) := by decide +kernel
theorem dX6_digest_41 : decode cX6_digest 41 = .ok (.iconst 0, 1) := by decide +kernel
theorem dX6_digest_42 : decode cX6_digest 42 = .ok (.istore 4, 2) := by decide +kernel
theorem dX6_digest_44 : decode cX6_digest 44 = .ok (.iload 4, 2) := by decide +kernel
theorem dX6_digest_46 : decode cX6_digest 46 = .ok (.iconst 2, 1) := by decide +kernel
theorem dX6_digest_47 : decode cX6_digest 47 = .ok (.if_icmp .gt 21, 3) := by decide +kernel
theorem dX6_digest_50 : decode cX6_digest 50 = .ok (.lload_n 1, 1) := by decide +kernel
theorem dX6_digest_51 : decode cX6_digest 51 = .ok (.aload_n 0, 1) := by decide +kernel
theorem dX6_digest_52 : decode cX6_digest 52 = .ok (.iload_n 3, 1) := by decide +kernel
theorem dX6_digest_53 : decode cX6_digest 53 = .ok (.iload 4, 2) := by decide +kernel
theorem dX6_digest_55 : decode cX6_digest 55 = .ok (.invokevirtual 274, 3) := by decide +kernel
theorem dX6_digest_58 : decode cX6_digest 58 = .ok (.invokestatic 270, 3) := by decide +kernel
theorem dX6_digest_61 : decode cX6_digest 61 = .ok (.lstore_n 1, 1) := by decide +kernel
theorem dX6_digest_62 : decode cX6_digest 62 = .ok (.iinc 4 1, 3) := by decide +kernel
theorem dX6_digest_65 : decode cX6_digest 65 = .ok (.goto (-21), 3) := by decide +kernel
theorem dX6_digest_68 : decode cX6_digest 68 = .ok (.iinc 3 1, 3) := by decide +kernel
theorem dX6_digest_71 : decode cX6_digest 71 = .ok (.goto (-41), 3) := by decide +kernel
theorem dX6_digest_74 : decode cX6_digest 74 = .ok (.iconst 0, 1) := by decide +kernel
theorem dX6_digest_75 : decode cX6_digest 75 = .ok (.istore_n 3, 1) := by decide +kernel
theorem dX6_digest_76 : decode cX6_digest 76 = .ok (.iload_n 3, 1) := by decide +kernel
theorem dX6_digest_77 : decode cX6_digest 77 = .ok (.aload_n 0, 1) := by decide +kernel
theorem dX6_digest_78 : decode cX6_digest 78 = .ok (.getfield 10, 3) := by decide +kernel
theorem dX6_digest_81 : decode cX6_digest 81 = .ok (.getfield 207, 3) := by decide +kernel
theorem dX6_digest_84 : decode cX6_digest 84 = .ok (.if_icmp .ge 16, 3) := by decide +kernel
theorem dX6_digest_87 : decode cX6_digest 87 = .ok (.aload_n 0, 1) := by decide +kernel
theorem dX6_digest_88 : decode cX6_digest 88 = .ok (.lload_n 1, 1) := by decide +kernel
theorem dX6_digest_89 : decode cX6_digest 89 = .ok (.iload_n 3, 1) := by decide +kernel
theorem dX6_digest_90 : decode cX6_digest 90 = .ok (.invokevirtual 277, 3) := by decide +kernel
theorem dX6_digest_93 : decode cX6_digest 93 = .ok (.lstore_n 1, 1) := by decide +kernel
theorem dX6_digest_94 : decode cX6_digest 94 = .ok (.iinc 3 1, 3) := by decide +kernel
theorem dX6_digest_97 : decode cX6_digest 97 = .ok (.goto (-21), 3) := by decide +kernel
theorem dX6_digest_100 : decode cX6_digest 100 = .ok (.iconst 0, 1) := by decide +kernel
theorem dX6_digest_101 : decode cX6_digest 101 = .ok (.istore_n 3, 1) := by decide +kernel
theorem dX6_digest_102 : decode cX6_digest 102 = .ok (.iload_n 3, 1) := by decide +kernel
theorem dX6_digest_103 : decode cX6_digest 103 = .ok (.aload_n 0, 1) := by decide +kernel
theorem dX6_digest_104 : decode cX6_digest 104 = .ok (.getfield 30, 3) := by decide +kernel
theorem dX6_digest_107 : decode cX6_digest 107 = .ok (.getfield 172, 3) := by decide +kernel
theorem dX6_digest_110 : decode cX6_digest 110 = .ok (.if_icmp .ge 16, 3) := by decide +kernel
theorem dX6_digest_113 : decode cX6_digest 113 = .ok (.aload_n 0, 1) := by decide +kernel
theorem dX6_digest_114 : decode cX6_digest 114 = .ok (.lload_n 1, 1) := by decide +kernel
theorem dX6_digest_115 : decode cX6_digest 115 = .ok (.iload_n 3, 1) := by decide +kernel
theorem dX6_digest_116 : decode cX6_digest 116 = .ok (.invokevirtual 280, 3) := by decide +kernel
theorem dX6_digest_119 : decode cX6_digest 119 = .ok (.lstore_n 1, 1) := by decide +kernel
theorem dX6_digest_120 : decode cX6_digest 120 = .ok (.iinc 3 1, 3) := by decide +kernel
theorem dX6_digest_123 : decode cX6_digest 123 = .ok (.goto (-21), 3) := by decide +kernel
theorem dX6_digest_126 : decode cX6_digest 126 = .ok (.iconst 0, 1) := by decide +kernel
theorem dX6_digest_127 : decode cX6_digest 127 = .ok (.istore_n 3, 1) := by decide +kernel
theorem dX6_digest_128 : decode cX6_digest 128 = .ok (.iload_n 3, 1) := by decide +kernel
theorem dX6_digest_129 : decode cX6_digest 129 = .ok (.aload_n 0, 1) := by decide +kernel
theorem dX6_digest_130 : decode cX6_digest 130 = .ok (.getfield 30, 3) := by decide +kernel
theorem dX6_digest_133 : decode cX6_digest 133 = .ok (.getfield 172, 3) := by decide +kernel
theorem dX6_digest_136 : decode cX6_digest 136 = .ok (.if_icmp .gt 16, 3) := by decide +kernel
theorem dX6_digest_139 : decode cX6_digest 139 = .ok (.aload_n 0, 1) := by decide +kernel
theorem dX6_digest_140 : decode cX6_digest 140 = .ok (.lload_n 1, 1) := by decide +kernel
theorem dX6_digest_141 : decode cX6_digest 141 = .ok (.iload_n 3, 1) := by decide +kernel
theorem dX6_digest_142 : decode cX6_digest 142 = .ok (.invokevirtual 283, 3) := by decide +kernel
theorem dX6_digest_145 : decode cX6_digest 145 = .ok (.lstore_n 1, 1) := by decide +kernel
theorem dX6_digest_146 : decode cX6_digest 146 = .ok (.iinc 3 1, 3) := by decide +kernel
theorem dX6_digest_149 : decode cX6_digest 149 = .ok (.goto (-21), 3) := by decide +kernel
theorem dX6_digest_152 : decode cX6_digest 152 = .ok (.lload_n 1, 1) := by decide +kernel
theorem dX6_digest_153 : decode cX6_digest 153 = .ok (.aload_n 0, 1) := by decide +kernel
theorem dX6_digest_154 : decode cX6_digest 154 = .ok (.iconst 0, 1) := by decide +kernel
theorem dX6_digest_155 : decode cX6_digest 155 = .ok (.invokevirtual 286, 3) := by decide +kernel
theorem dX6_digest_158 : decode cX6_digest 158 = .ok (.invokestatic 270, 3) := by decide +kernel
theorem dX6_digest_161 : decode cX6_digest 161 = .ok (.lstore_n 1, 1) := by decide +kernel
theorem dX6_digest_162 : decode cX6_digest 162 = .ok (.lload_n 1, 1) := by decide +kernel
theorem dX6_digest_163 : decode cX6_digest 163 = .ok (.aload_n 0, 1) := by decide +kernel
theorem dX6_digest_164 : decode cX6_digest 164 = .ok (.iconst 1, 1) := by decide +kernel
theorem dX6_digest_165 : decode cX6_digest 165 = .ok (.invokevirtual 286, 3) := by decide +kernel
theorem dX6_digest_168 : decode cX6_digest 168 = .ok (.invokestatic 270, 3) := by decide +kernel
theorem dX6_digest_171 : decode cX6_digest 171 = .ok (.lreturn, 1) := by decide +kernel
abbrev kX6_digest (g : rk_G) (R : rk_R) (pc : Nat) : rk_K := rk_cut g cX6_digest 5 (some .long) RX6 6 R pc
abbrev aX6_digest (g : rk_G) (R : rk_R) (pc : Nat) (K : rk_K) : Prop := rk_AK g cX6_digest 5 (some .long) RX6 6 R pc K
abbrev sX6_digest (g : rk_G) (vs : List Value) (σ : rk_M) (R : rk_R) : Prop := rk_does g yX6_digest cX6_digest 5 (some .long) 6 vs σ R
abbrev tX6_digest (g : rk_G) (R : rk_R) (pc : Nat) (ls st : List Value) (σ : rk_M) : Prop := rk_At g cX6_digest 5 (some .long) RX6 6 R pc ls st σ
def bX6_digest_128 (g : rk_G) (R : rk_R) : rk_K := (rk_iload 3 (rk_aload 0 (rk_gR 6 2 (rk_gI 4 11 (rk_icmp_gt (rk_lload 1 (rk_aload 0 (rk_ci (0) (rk_cV g 1 6 yX6_useful cX6_useful 6 (some .int) 2 (rk_cS g 2 yX6_mixed cX6_mixed 3 (some .long) 0 (rk_lstore 1 (rk_lload 1 (rk_aload 0 (rk_ci (1) (rk_cV g 1 6 yX6_useful cX6_useful 6 (some .int) 2 (rk_cS g 2 yX6_mixed cX6_mixed 3 (some .long) 0 (rk_lret R)))))))))))) (rk_aload 0 (rk_lload 1 (rk_iload 3 (rk_cV g 2 6 yX6_mixSheet cX6_mixSheet 7 (some .long) 5 (rk_lstore 1 (rk_iinc 3 (1) (kX6_digest g R 128))))))))))))
theorem eX6_digest_128 (g : rk_G) (R : rk_R) (ls st : List Value) (σ : rk_M) : bX6_digest_128 g R ls st σ = (rk_iload 3 (rk_aload 0 (rk_gR 6 2 (rk_gI 4 11 (rk_icmp_gt (rk_lload 1 (rk_aload 0 (rk_ci (0) (rk_cV g 1 6 yX6_useful cX6_useful 6 (some .int) 2 (rk_cS g 2 yX6_mixed cX6_mixed 3 (some .long) 0 (rk_lstore 1 (rk_lload 1 (rk_aload 0 (rk_ci (1) (rk_cV g 1 6 yX6_useful cX6_useful 6 (some .int) 2 (rk_cS g 2 yX6_mixed cX6_mixed 3 (some .long) 0 (rk_lret R)))))))))))) (rk_aload 0 (rk_lload 1 (rk_iload 3 (rk_cV g 2 6 yX6_mixSheet cX6_mixSheet 7 (some .long) 5 (rk_lstore 1 (rk_iinc 3 (1) (kX6_digest g R 128)))))))))))) ls st σ := rfl
theorem oX6_digest_128 {g : rk_G} {R : rk_R} : aX6_digest g R 128 (bX6_digest_128 g R) := (rk_iload_n_ok dX6_digest_128 rfl (rk_aload_n_ok dX6_digest_129 rfl (rk_gR_ok dX6_digest_130 rfl iX6 (by decide) rfl wfX6_30 (rk_gI_ok dX6_digest_133 rfl iX4 (by decide) rfl wfX6_172 (rk_icmp_gt_ok (pc' := 152) dX6_digest_136 (by decide) (rk_lload_n_ok dX6_digest_152 rfl (rk_aload_n_ok dX6_digest_153 rfl (rk_iconst_ok dX6_digest_154 (by decide) (rk_cV_ok dX6_digest_155 rfl rfl npX6_useful wmX6_286 wvX6_useful weX6_useful wiX6 wdX6_useful (by decide) (by decide) (rk_cS_ok dX6_digest_158 npX6_mixed wmX6_270 wtX6_mixed wiX6 wdX6_mixed (by decide) (by decide) (rk_lstore_n_ok dX6_digest_161 rfl (by decide) (rk_lload_n_ok dX6_digest_162 rfl (rk_aload_n_ok dX6_digest_163 rfl (rk_iconst_ok dX6_digest_164 (by decide) (rk_cV_ok dX6_digest_165 rfl rfl npX6_useful wmX6_286 wvX6_useful weX6_useful wiX6 wdX6_useful (by decide) (by decide) (rk_cS_ok dX6_digest_168 npX6_mixed wmX6_270 wtX6_mixed wiX6 wdX6_mixed (by decide) (by decide) (rk_lret_ok rfl dX6_digest_171)))))))))))) (rk_aload_n_ok dX6_digest_139 rfl (rk_lload_n_ok dX6_digest_140 rfl (rk_iload_n_ok dX6_digest_141 rfl (rk_cV_ok dX6_digest_142 rfl rfl npX6_mixSheet wmX6_283 wvX6_mixSheet weX6_mixSheet wiX6 wdX6_mixSheet (by decide) (by decide) (rk_lstore_n_ok dX6_digest_145 rfl (by decide) (rk_iinc_ok dX6_digest_146 (by decide) (by decide) (rk_goto_ok (pc' := 128) dX6_digest_149 (by decide) rk_cut_ok))))))))))))
def bX6_digest_102 (g : rk_G) (R : rk_R) : rk_K := (rk_iload 3 (rk_aload 0 (rk_gR 6 2 (rk_gI 4 11 (rk_icmp_ge (rk_ci (0) (rk_istore 3 (kX6_digest g R 128))) (rk_aload 0 (rk_lload 1 (rk_iload 3 (rk_cV g 2 6 yX6_mixStroke cX6_mixStroke 7 (some .long) 2 (rk_lstore 1 (rk_iinc 3 (1) (kX6_digest g R 102))))))))))))
theorem eX6_digest_102 (g : rk_G) (R : rk_R) (ls st : List Value) (σ : rk_M) : bX6_digest_102 g R ls st σ = (rk_iload 3 (rk_aload 0 (rk_gR 6 2 (rk_gI 4 11 (rk_icmp_ge (rk_ci (0) (rk_istore 3 (kX6_digest g R 128))) (rk_aload 0 (rk_lload 1 (rk_iload 3 (rk_cV g 2 6 yX6_mixStroke cX6_mixStroke 7 (some .long) 2 (rk_lstore 1 (rk_iinc 3 (1) (kX6_digest g R 102)))))))))))) ls st σ := rfl
theorem oX6_digest_102 {g : rk_G} {R : rk_R} : aX6_digest g R 102 (bX6_digest_102 g R) := (rk_iload_n_ok dX6_digest_102 rfl (rk_aload_n_ok dX6_digest_103 rfl (rk_gR_ok dX6_digest_104 rfl iX6 (by decide) rfl wfX6_30 (rk_gI_ok dX6_digest_107 rfl iX4 (by decide) rfl wfX6_172 (rk_icmp_ge_ok (pc' := 126) dX6_digest_110 (by decide) (rk_iconst_ok dX6_digest_126 (by decide) (rk_istore_n_ok dX6_digest_127 rfl (by decide) rk_cut_ok)) (rk_aload_n_ok dX6_digest_113 rfl (rk_lload_n_ok dX6_digest_114 rfl (rk_iload_n_ok dX6_digest_115 rfl (rk_cV_ok dX6_digest_116 rfl rfl npX6_mixStroke wmX6_280 wvX6_mixStroke weX6_mixStroke wiX6 wdX6_mixStroke (by decide) (by decide) (rk_lstore_n_ok dX6_digest_119 rfl (by decide) (rk_iinc_ok dX6_digest_120 (by decide) (by decide) (rk_goto_ok (pc' := 102) dX6_digest_123 (by decide) rk_cut_ok))))))))))))
def bX6_digest_76 (g : rk_G) (R : rk_R) : rk_K := (rk_iload 3 (rk_aload 0 (rk_gR 6 0 (rk_gI 2 8 (rk_icmp_ge (rk_ci (0) (rk_istore 3 (kX6_digest g R 102))) (rk_aload 0 (rk_lload 1 (rk_iload 3 (rk_cV g 2 6 yX6_mixRoad cX6_mixRoad 7 (some .long) 4 (rk_lstore 1 (rk_iinc 3 (1) (kX6_digest g R 76))))))))))))
theorem eX6_digest_76 (g : rk_G) (R : rk_R) (ls st : List Value) (σ : rk_M) : bX6_digest_76 g R ls st σ = (rk_iload 3 (rk_aload 0 (rk_gR 6 0 (rk_gI 2 8 (rk_icmp_ge (rk_ci (0) (rk_istore 3 (kX6_digest g R 102))) (rk_aload 0 (rk_lload 1 (rk_iload 3 (rk_cV g 2 6 yX6_mixRoad cX6_mixRoad 7 (some .long) 4 (rk_lstore 1 (rk_iinc 3 (1) (kX6_digest g R 76)))))))))))) ls st σ := rfl
theorem oX6_digest_76 {g : rk_G} {R : rk_R} : aX6_digest g R 76 (bX6_digest_76 g R) := (rk_iload_n_ok dX6_digest_76 rfl (rk_aload_n_ok dX6_digest_77 rfl (rk_gR_ok dX6_digest_78 rfl iX6 (by decide) rfl wfX6_10 (rk_gI_ok dX6_digest_81 rfl iX2 (by decide) rfl wfX6_207 (rk_icmp_ge_ok (pc' := 100) dX6_digest_84 (by decide) (rk_iconst_ok dX6_digest_100 (by decide) (rk_istore_n_ok dX6_digest_101 rfl (by decide) rk_cut_ok)) (rk_aload_n_ok dX6_digest_87 rfl (rk_lload_n_ok dX6_digest_88 rfl (rk_iload_n_ok dX6_digest_89 rfl (rk_cV_ok dX6_digest_90 rfl rfl npX6_mixRoad wmX6_277 wvX6_mixRoad weX6_mixRoad wiX6 wdX6_mixRoad (by decide) (by decide) (rk_lstore_n_ok dX6_digest_93 rfl (by decide) (rk_iinc_ok dX6_digest_94 (by decide) (by decide) (rk_goto_ok (pc' := 76) dX6_digest_97 (by decide) rk_cut_ok))))))))))))
def bX6_digest_44 (g : rk_G) (R : rk_R) : rk_K := (rk_iload 4 (rk_ci (2) (rk_icmp_gt (rk_iinc 3 (1) (kX6_digest g R 30)) (rk_lload 1 (rk_aload 0 (rk_iload 3 (rk_iload 4 (rk_cV g 2 6 yX6_at cX6_at 3 (some .int) 2 (rk_cS g 2 yX6_mixed cX6_mixed 3 (some .long) 0 (rk_lstore 1 (rk_iinc 4 (1) (kX6_digest g R 44))))))))))))
theorem eX6_digest_44 (g : rk_G) (R : rk_R) (ls st : List Value) (σ : rk_M) : bX6_digest_44 g R ls st σ = (rk_iload 4 (rk_ci (2) (rk_icmp_gt (rk_iinc 3 (1) (kX6_digest g R 30)) (rk_lload 1 (rk_aload 0 (rk_iload 3 (rk_iload 4 (rk_cV g 2 6 yX6_at cX6_at 3 (some .int) 2 (rk_cS g 2 yX6_mixed cX6_mixed 3 (some .long) 0 (rk_lstore 1 (rk_iinc 4 (1) (kX6_digest g R 44)))))))))))) ls st σ := rfl
theorem oX6_digest_44 {g : rk_G} {R : rk_R} : aX6_digest g R 44 (bX6_digest_44 g R) := (rk_iload_ok dX6_digest_44 (rk_iconst_ok dX6_digest_46 (by decide) (rk_icmp_gt_ok (pc' := 68) dX6_digest_47 (by decide) (rk_iinc_ok dX6_digest_68 (by decide) (by decide) (rk_goto_ok (pc' := 30) dX6_digest_71 (by decide) rk_cut_ok)) (rk_lload_n_ok dX6_digest_50 rfl (rk_aload_n_ok dX6_digest_51 rfl (rk_iload_n_ok dX6_digest_52 rfl (rk_iload_ok dX6_digest_53 (rk_cV_ok dX6_digest_55 rfl rfl npX6_at wmX6_274 wvX6_at weX6_at wiX6 wdX6_at (by decide) (by decide) (rk_cS_ok dX6_digest_58 npX6_mixed wmX6_270 wtX6_mixed wiX6 wdX6_mixed (by decide) (by decide) (rk_lstore_n_ok dX6_digest_61 rfl (by decide) (rk_iinc_ok dX6_digest_62 (by decide) (by decide) (rk_goto_ok (pc' := 44) dX6_digest_65 (by decide) rk_cut_ok))))))))))))
def bX6_digest_30 (g : rk_G) (R : rk_R) : rk_K := (rk_iload 3 (rk_aload 0 (rk_gR 6 0 (rk_gI 2 7 (rk_icmp_ge (rk_ci (0) (rk_istore 3 (kX6_digest g R 76))) (rk_ci (0) (rk_istore 4 (kX6_digest g R 44))))))))
theorem eX6_digest_30 (g : rk_G) (R : rk_R) (ls st : List Value) (σ : rk_M) : bX6_digest_30 g R ls st σ = (rk_iload 3 (rk_aload 0 (rk_gR 6 0 (rk_gI 2 7 (rk_icmp_ge (rk_ci (0) (rk_istore 3 (kX6_digest g R 76))) (rk_ci (0) (rk_istore 4 (kX6_digest g R 44)))))))) ls st σ := rfl
theorem oX6_digest_30 {g : rk_G} {R : rk_R} : aX6_digest g R 30 (bX6_digest_30 g R) := (rk_iload_n_ok dX6_digest_30 rfl (rk_aload_n_ok dX6_digest_31 rfl (rk_gR_ok dX6_digest_32 rfl iX6 (by decide) rfl wfX6_10 (rk_gI_ok dX6_digest_35 rfl iX2 (by decide) rfl wfX6_245 (rk_icmp_ge_ok (pc' := 74) dX6_digest_38 (by decide) (rk_iconst_ok dX6_digest_74 (by decide) (rk_istore_n_ok dX6_digest_75 rfl (by decide) rk_cut_ok)) (rk_iconst_ok dX6_digest_41 (by decide) (rk_istore_ok dX6_digest_42 (by decide) rk_cut_ok)))))))
def bX6_digest_6 (g : rk_G) (R : rk_R) : rk_K := (rk_iload 3 (rk_ci (7) (rk_icmp_gt (rk_ci (0) (rk_istore 3 (kX6_digest g R 30))) (rk_lload 1 (rk_aload 0 (rk_iload 3 (rk_cV g 1 6 yX6_count cX6_count 2 (some .int) 2 (rk_cS g 2 yX6_mixed cX6_mixed 3 (some .long) 0 (rk_lstore 1 (rk_iinc 3 (1) (kX6_digest g R 6)))))))))))
theorem eX6_digest_6 (g : rk_G) (R : rk_R) (ls st : List Value) (σ : rk_M) : bX6_digest_6 g R ls st σ = (rk_iload 3 (rk_ci (7) (rk_icmp_gt (rk_ci (0) (rk_istore 3 (kX6_digest g R 30))) (rk_lload 1 (rk_aload 0 (rk_iload 3 (rk_cV g 1 6 yX6_count cX6_count 2 (some .int) 2 (rk_cS g 2 yX6_mixed cX6_mixed 3 (some .long) 0 (rk_lstore 1 (rk_iinc 3 (1) (kX6_digest g R 6))))))))))) ls st σ := rfl
theorem oX6_digest_6 {g : rk_G} {R : rk_R} : aX6_digest g R 6 (bX6_digest_6 g R) := (rk_iload_n_ok dX6_digest_6 rfl (rk_bipush_ok dX6_digest_7 (by decide) (rk_icmp_gt_ok (pc' := 28) dX6_digest_9 (by decide) (rk_iconst_ok dX6_digest_28 (by decide) (rk_istore_n_ok dX6_digest_29 rfl (by decide) rk_cut_ok)) (rk_lload_n_ok dX6_digest_12 rfl (rk_aload_n_ok dX6_digest_13 rfl (rk_iload_n_ok dX6_digest_14 rfl (rk_cV_ok dX6_digest_15 rfl rfl npX6_count wmX6_268 wvX6_count weX6_count wiX6 wdX6_count (by decide) (by decide) (rk_cS_ok dX6_digest_18 npX6_mixed wmX6_270 wtX6_mixed wiX6 wdX6_mixed (by decide) (by decide) (rk_lstore_n_ok dX6_digest_21 rfl (by decide) (rk_iinc_ok dX6_digest_22 (by decide) (by decide) (rk_goto_ok (pc' := 6) dX6_digest_25 (by decide) rk_cut_ok)))))))))))
def bX6_digest_0 (g : rk_G) (R : rk_R) : rk_K := (rk_cj (17) (rk_lstore 1 (rk_ci (0) (rk_istore 3 (kX6_digest g R 6)))))
theorem eX6_digest_0 (g : rk_G) (R : rk_R) (ls st : List Value) (σ : rk_M) : bX6_digest_0 g R ls st σ = (rk_cj (17) (rk_lstore 1 (rk_ci (0) (rk_istore 3 (kX6_digest g R 6))))) ls st σ := rfl
theorem oX6_digest_0 {g : rk_G} {R : rk_R} : aX6_digest g R 0 (bX6_digest_0 g R) := (rk_ldc2_ok dX6_digest_0 wjX6_266 (rk_lstore_n_ok dX6_digest_3 rfl (by decide) (rk_iconst_ok dX6_digest_4 (by decide) (rk_istore_n_ok dX6_digest_5 rfl (by decide) rk_cut_ok))))
