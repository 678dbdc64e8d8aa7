theorem dX5_least_0 : decode cX5_least 0 = .ok (.iconst 0, 1) := by decide +kernel
theorem dX5_least_1 : decode cX5_least 1 = .ok (.istore 4, 2) := by decide +kernel
theorem dX5_least_3 : decode cX5_least 3 = .ok (.iload 4, 2) := by decide +kernel
theorem dX5_least_5 : decode cX5_least 5 = .ok (.bipush 16, 2) := by decide +kernel
theorem dX5_least_7 : decode cX5_least 7 = .ok (.if_icmp .ge 18, 3) := by decide +kernel
theorem dX5_least_10 : decode cX5_least 10 = .ok (.aload_n 0, 1) := by decide +kernel
theorem dX5_least_11 : decode cX5_least 11 = .ok (.getfield 9, 3) := by decide +kernel
theorem dX5_least_14 : decode cX5_least 14 = .ok (.iload 4, 2) := by decide +kernel
theorem dX5_least_16 : decode cX5_least 16 = .ok (.ldc 22, 2) := by decide +kernel
theorem dX5_least_18 : decode cX5_least 18 = .ok (.iastore, 1) := by decide +kernel
theorem dX5_least_19 : decode cX5_least 19 = .ok (.iinc 4 1, 3) := by decide +kernel
theorem dX5_least_22 : decode cX5_least 22 = .ok (.goto (-19), 3) := by decide +kernel
theorem dX5_least_25 : decode cX5_least 25 = .ok (.aload_n 0, 1) := by decide +kernel
theorem dX5_least_26 : decode cX5_least 26 = .ok (.getfield 9, 3) := by decide +kernel
theorem dX5_least_29 : decode cX5_least 29 = .ok (.iload_n 1, 1) := by decide +kernel
theorem dX5_least_30 : decode cX5_least 30 = .ok (.iconst 0, 1) := by decide +kernel
theorem dX5_least_31 : decode cX5_least 31 = .ok (.iastore, 1) := by decide +kernel
theorem dX5_least_32 : decode cX5_least 32 = .ok (.iconst 0, 1) := by decide +kernel
theorem dX5_least_33 : decode cX5_least 33 = .ok (.istore 4, 2) := by decide +kernel
theorem dX5_least_35 : decode cX5_least 35 = .ok (.iload 4, 2) := by decide +kernel
theorem dX5_least_37 : decode cX5_least 37 = .ok (.bipush 16, 2) := by decide +kernel
theorem dX5_least_39 : decode cX5_least 39 = .ok (.if_icmp .ge 20, 3) := by decide +kernel
theorem dX5_least_42 : decode cX5_least 42 = .ok (.aload_n 0, 1) := by decide +kernel
theorem dX5_least_43 : decode cX5_least 43 = .ok (.iload_n 3, 1) := by decide +kernel
theorem dX5_least_44 : decode cX5_least 44 = .ok (.invokevirtual 23, 3) := by decide +kernel
theorem dX5_least_47 : decode cX5_least 47 = .ok (.ifCond .ne 6, 3) := by decide +kernel
theorem dX5_least_50 : decode cX5_least 50 = .ok (.goto 9, 3) := by decide +kernel
theorem dX5_least_53 : decode cX5_least 53 = .ok (.iinc 4 1, 3) := by decide +kernel
theorem dX5_least_56 : decode cX5_least 56 = .ok (.goto (-21), 3) := by decide +kernel
theorem dX5_least_59 : decode cX5_least 59 = .ok (.aload_n 0, 1) := by decide +kernel
theorem dX5_least_60 : decode cX5_least 60 = .ok (.getfield 9, 3) := by decide +kernel
theorem dX5_least_63 : decode cX5_least 63 = .ok (.iload_n 2, 1) := by decide +kernel
theorem dX5_least_64 : decode cX5_least 64 = .ok (.iaload, 1) := by decide +kernel
theorem dX5_least_65 : decode cX5_least 65 = .ok (.ldc 22, 2) := by decide +kernel
theorem dX5_least_67 : decode cX5_least 67 = .ok (.if_icmp .ne 7, 3) := by decide +kernel
theorem dX5_least_70 : decode cX5_least 70 = .ok (.iconst (-1), 1) := by decide +kernel
theorem dX5_least_71 : decode cX5_least 71 = .ok (.goto 9, 3) := by decide +kernel
theorem dX5_least_74 : decode cX5_least 74 = .ok (.aload_n 0, 1) := by decide +kernel
theorem dX5_least_75 : decode cX5_least 75 = .ok (.getfield 9, 3) := by decide +kernel
theorem dX5_least_78 : decode cX5_least 78 = .ok (.iload_n 2, 1) := by decide +kernel
theorem dX5_least_79 : decode cX5_least 79 = .ok (.iaload, 1) := by decide +kernel
theorem dX5_least_80 : decode cX5_least 80 = .ok (.ireturn, 1) := by decide +kernel
abbrev kX5_least (g : rk_G) (R : rk_R) (pc : Nat) : rk_K := rk_cut g cX5_least 5 (some .int) RX5 2 R pc
abbrev aX5_least (g : rk_G) (R : rk_R) (pc : Nat) (K : rk_K) : Prop := rk_AK g cX5_least 5 (some .int) RX5 2 R pc K
abbrev sX5_least (g : rk_G) (vs : List Value) (σ : rk_M) (R : rk_R) : Prop := rk_does g yX5_least cX5_least 5 (some .int) 2 vs σ R
abbrev tX5_least (g : rk_G) (R : rk_R) (pc : Nat) (ls st : List Value) (σ : rk_M) : Prop := rk_At g cX5_least 5 (some .int) RX5 2 R pc ls st σ
def bX5_least_80 (g : rk_G) (R : rk_R) : rk_K := (rk_iret R)
theorem eX5_least_80 (g : rk_G) (R : rk_R) (ls st : List Value) (σ : rk_M) : bX5_least_80 g R ls st σ = (rk_iret R) ls st σ := rfl
theorem oX5_least_80 {g : rk_G} {R : rk_R} : aX5_least g R 80 (bX5_least_80 g R) := (rk_iret_ok rfl dX5_least_80)
def bX5_least_59 (g : rk_G) (R : rk_R) : rk_K := (rk_aload 0 (rk_gR 5 1 (rk_iload 2 (rk_iald (rk_ci (1000000) (rk_icmp_ne (rk_aload 0 (rk_gR 5 1 (rk_iload 2 (rk_iald (bX5_least_80 g R))))) (rk_ci (-1) (bX5_least_80 g R))))))))
theorem eX5_least_59 (g : rk_G) (R : rk_R) (ls st : List Value) (σ : rk_M) : bX5_least_59 g R ls st σ = (rk_aload 0 (rk_gR 5 1 (rk_iload 2 (rk_iald (rk_ci (1000000) (rk_icmp_ne (rk_aload 0 (rk_gR 5 1 (rk_iload 2 (rk_iald (bX5_least_80 g R))))) (rk_ci (-1) (bX5_least_80 g R)))))))) ls st σ := rfl
theorem oX5_least_59 {g : rk_G} {R : rk_R} : aX5_least g R 59 (bX5_least_59 g R) := (rk_aload_n_ok dX5_least_59 rfl (rk_gR_ok dX5_least_60 rfl iX5 (by decide) rfl wfX5_9 (rk_iload_n_ok dX5_least_63 rfl (rk_iald_ok dX5_least_64 (rk_ldc_ok dX5_least_65 wcX5_22 (rk_icmp_ne_ok (pc' := 74) dX5_least_67 (by decide) (rk_aload_n_ok dX5_least_74 rfl (rk_gR_ok dX5_least_75 rfl iX5 (by decide) rfl wfX5_9 (rk_iload_n_ok dX5_least_78 rfl (rk_iald_ok dX5_least_79 oX5_least_80)))) (rk_iconst_ok dX5_least_70 (by decide) (rk_goto_ok (pc' := 80) dX5_least_71 (by decide) oX5_least_80))))))))
def bX5_least_35 (g : rk_G) (R : rk_R) : rk_K := (rk_iload 4 (rk_ci (16) (rk_icmp_ge (bX5_least_59 g R) (rk_aload 0 (rk_iload 3 (rk_cV g 1 5 yX5_shorten cX5_shorten 7 (some .boolean) 1 (rk_if_ne (rk_iinc 4 (1) (kX5_least g R 35)) (bX5_least_59 g R))))))))
theorem eX5_least_35 (g : rk_G) (R : rk_R) (ls st : List Value) (σ : rk_M) : bX5_least_35 g R ls st σ = (rk_iload 4 (rk_ci (16) (rk_icmp_ge (bX5_least_59 g R) (rk_aload 0 (rk_iload 3 (rk_cV g 1 5 yX5_shorten cX5_shorten 7 (some .boolean) 1 (rk_if_ne (rk_iinc 4 (1) (kX5_least g R 35)) (bX5_least_59 g R)))))))) ls st σ := rfl
theorem oX5_least_35 {g : rk_G} {R : rk_R} : aX5_least g R 35 (bX5_least_35 g R) := (rk_iload_ok dX5_least_35 (rk_bipush_ok dX5_least_37 (by decide) (rk_icmp_ge_ok (pc' := 59) dX5_least_39 (by decide) oX5_least_59 (rk_aload_n_ok dX5_least_42 rfl (rk_iload_n_ok dX5_least_43 rfl (rk_cV_ok dX5_least_44 rfl rfl npX5_shorten wmX5_23 wvX5_shorten weX5_shorten wiX5 wdX5_shorten (by decide) (by decide) (rk_if_ne_ok (pc' := 53) dX5_least_47 (by decide) (rk_iinc_ok dX5_least_53 (by decide) (by decide) (rk_goto_ok (pc' := 35) dX5_least_56 (by decide) rk_cut_ok)) (rk_goto_ok (pc' := 59) dX5_least_50 (by decide) oX5_least_59))))))))
def bX5_least_3 (g : rk_G) (R : rk_R) : rk_K := (rk_iload 4 (rk_ci (16) (rk_icmp_ge (rk_aload 0 (rk_gR 5 1 (rk_iload 1 (rk_ci (0) (rk_iast (rk_ci (0) (rk_istore 4 (kX5_least g R 35)))))))) (rk_aload 0 (rk_gR 5 1 (rk_iload 4 (rk_ci (1000000) (rk_iast (rk_iinc 4 (1) (kX5_least g R 3))))))))))
theorem eX5_least_3 (g : rk_G) (R : rk_R) (ls st : List Value) (σ : rk_M) : bX5_least_3 g R ls st σ = (rk_iload 4 (rk_ci (16) (rk_icmp_ge (rk_aload 0 (rk_gR 5 1 (rk_iload 1 (rk_ci (0) (rk_iast (rk_ci (0) (rk_istore 4 (kX5_least g R 35)))))))) (rk_aload 0 (rk_gR 5 1 (rk_iload 4 (rk_ci (1000000) (rk_iast (rk_iinc 4 (1) (kX5_least g R 3)))))))))) ls st σ := rfl
theorem oX5_least_3 {g : rk_G} {R : rk_R} : aX5_least g R 3 (bX5_least_3 g R) := (rk_iload_ok dX5_least_3 (rk_bipush_ok dX5_least_5 (by decide) (rk_icmp_ge_ok (pc' := 25) dX5_least_7 (by decide) (rk_aload_n_ok dX5_least_25 rfl (rk_gR_ok dX5_least_26 rfl iX5 (by decide) rfl wfX5_9 (rk_iload_n_ok dX5_least_29 rfl (rk_iconst_ok dX5_least_30 (by decide) (rk_iast_ok dX5_least_31 (rk_iconst_ok dX5_least_32 (by decide) (rk_istore_ok dX5_least_33 (by decide) rk_cut_ok))))))) (rk_aload_n_ok dX5_least_10 rfl (rk_gR_ok dX5_least_11 rfl iX5 (by decide) rfl wfX5_9 (rk_iload_ok dX5_least_14 (rk_ldc_ok dX5_least_16 wcX5_22 (rk_iast_ok dX5_least_18 (rk_iinc_ok dX5_least_19 (by decide) (by decide) (rk_goto_ok (pc' := 3) dX5_least_22 (by decide) rk_cut_ok))))))))))
def bX5_least_0 (g : rk_G) (R : rk_R) : rk_K := (rk_ci (0) (rk_istore 4 (kX5_least g R 3)))
theorem eX5_least_0 (g : rk_G) (R : rk_R) (ls st : List Value) (σ : rk_M) : bX5_least_0 g R ls st σ = (rk_ci (0) (rk_istore 4 (kX5_least g R 3))) ls st σ := rfl
theorem oX5_least_0 {g : rk_G} {R : rk_R} : aX5_least g R 0 (bX5_least_0 g R) := (rk_iconst_ok dX5_least_0 (by decide) (rk_istore_ok dX5_least_1 (by decide) rk_cut_ok))
theorem dX5_isBridge_0 : decode cX5_isBridge 0 = .ok (.aload_n 0, 1) := by decide +kernel
theorem dX5_isBridge_1 : decode cX5_isBridge 1 = .ok (.iload_n 1, 1) := by decide +kernel
theorem dX5_isBridge_2 : decode cX5_isBridge 2 = .ok (.invokevirtual 53, 3) := by decide +kernel
theorem dX5_isBridge_5 : decode cX5_isBridge 5 = .ok (.iconst 1, 1) := by decide +kernel
theorem dX5_isBridge_6 : decode cX5_isBridge 6 = .ok (.aload_n 0, 1) := by decide +kernel
theorem dX5_isBridge_7 : decode cX5_isBridge 7 = .ok (.getfield 18, 3) := by decide +kernel
theorem dX5_isBridge_10 : decode cX5_isBridge 10 = .ok (.getfield 44, 3) := by decide +kernel
theorem dX5_isBridge_13 : decode cX5_isBridge 13 = .ok (.iload_n 1, 1) := by decide +kernel
theorem dX5_isBridge_14 : decode cX5_isBridge 14 = .ok (.iaload, 1) := by decide +kernel
theorem dX5_isBridge_15 : decode cX5_isBridge 15 = .ok (.ishl, 1) := by decide +kernel
theorem dX5_isBridge_16 : decode cX5_isBridge 16 = .ok (.ldc 56, 2) := by decide +kernel
theorem dX5_isBridge_18 : decode cX5_isBridge 18 = .ok (.aload_n 0, 1) := by decide +kernel
theorem dX5_isBridge_19 : decode cX5_isBridge 19 = .ok (.getfield 15, 3) := by decide +kernel
theorem dX5_isBridge_22 : decode cX5_isBridge 22 = .ok (.invokestatic 57, 3) := by decide +kernel
theorem dX5_isBridge_25 : decode cX5_isBridge 25 = .ok (.istore_n 2, 1) := by decide +kernel
theorem dX5_isBridge_26 : decode cX5_isBridge 26 = .ok (.aload_n 0, 1) := by decide +kernel
theorem dX5_isBridge_27 : decode cX5_isBridge 27 = .ok (.iload_n 1, 1) := by decide +kernel
theorem dX5_isBridge_28 : decode cX5_isBridge 28 = .ok (.invokevirtual 53, 3) := by decide +kernel
theorem dX5_isBridge_31 : decode cX5_isBridge 31 = .ok (.iload_n 2, 1) := by decide +kernel
theorem dX5_isBridge_32 : decode cX5_isBridge 32 = .ok (.aload_n 0, 1) := by decide +kernel
theorem dX5_isBridge_33 : decode cX5_isBridge 33 = .ok (.getfield 18, 3) := by decide +kernel
theorem dX5_isBridge_36 : decode cX5_isBridge 36 = .ok (.getfield 47, 3) := by decide +kernel
theorem dX5_isBridge_39 : decode cX5_isBridge 39 = .ok (.iload_n 1, 1) := by decide +kernel
theorem dX5_isBridge_40 : decode cX5_isBridge 40 = .ok (.iaload, 1) := by decide +kernel
theorem dX5_isBridge_41 : decode cX5_isBridge 41 = .ok (.invokestatic 37, 3) := by decide +kernel
theorem dX5_isBridge_44 : decode cX5_isBridge 44 = .ok (.ifCond .ne 7, 3) := by decide +kernel
theorem dX5_isBridge_47 : decode cX5_isBridge 47 = .ok (.iconst 1, 1) := by decide +kernel
theorem dX5_isBridge_48 : decode cX5_isBridge 48 = .ok (.goto 4, 3) := by decide +kernel
theorem dX5_isBridge_51 : decode cX5_isBridge 51 = .ok (.iconst 0, 1) := by decide +kernel
theorem dX5_isBridge_52 : decode cX5_isBridge 52 = .ok (.ireturn, 1) := by decide +kernel
abbrev kX5_isBridge (g : rk_G) (R : rk_R) (pc : Nat) : rk_K := rk_cut g cX5_isBridge 3 (some .boolean) RX5 2 R pc
abbrev aX5_isBridge (g : rk_G) (R : rk_R) (pc : Nat) (K : rk_K) : Prop := rk_AK g cX5_isBridge 3 (some .boolean) RX5 2 R pc K
abbrev sX5_isBridge (g : rk_G) (vs : List Value) (σ : rk_M) (R : rk_R) : Prop := rk_does g yX5_isBridge cX5_isBridge 3 (some .boolean) 2 vs σ R
abbrev tX5_isBridge (g : rk_G) (R : rk_R) (pc : Nat) (ls st : List Value) (σ : rk_M) : Prop := rk_At g cX5_isBridge 3 (some .boolean) RX5 2 R pc ls st σ
def bX5_isBridge_52 (g : rk_G) (R : rk_R) : rk_K := (rk_zret R)
theorem eX5_isBridge_52 (g : rk_G) (R : rk_R) (ls st : List Value) (σ : rk_M) : bX5_isBridge_52 g R ls st σ = (rk_zret R) ls st σ := rfl
theorem oX5_isBridge_52 {g : rk_G} {R : rk_R} : aX5_isBridge g R 52 (bX5_isBridge_52 g R) := (rk_zret_ok rfl dX5_isBridge_52)
def bX5_isBridge_0 (g : rk_G) (R : rk_R) : rk_K := (rk_aload 0 (rk_iload 1 (rk_cV g 1 5 yX5_flip cX5_flip 4 none 0 (rk_ci (1) (rk_aload 0 (rk_gR 5 0 (rk_gR 2 2 (rk_iload 1 (rk_iald (rk_ishl (rk_ci (65535) (rk_aload 0 (rk_gR 5 2 (rk_cS g 3 yX6_reached cX6_reached 7 (some .int) 1 (rk_istore 2 (rk_aload 0 (rk_iload 1 (rk_cV g 1 5 yX5_flip cX5_flip 4 none 0 (rk_iload 2 (rk_aload 0 (rk_gR 5 0 (rk_gR 2 3 (rk_iload 1 (rk_iald (rk_cS g 2 yX6_hasBit cX6_hasBit 2 (some .boolean) 0 (rk_if_ne (rk_ci (0) (bX5_isBridge_52 g R)) (rk_ci (1) (bX5_isBridge_52 g R))))))))))))))))))))))))))))
theorem eX5_isBridge_0 (g : rk_G) (R : rk_R) (ls st : List Value) (σ : rk_M) : bX5_isBridge_0 g R ls st σ = (rk_aload 0 (rk_iload 1 (rk_cV g 1 5 yX5_flip cX5_flip 4 none 0 (rk_ci (1) (rk_aload 0 (rk_gR 5 0 (rk_gR 2 2 (rk_iload 1 (rk_iald (rk_ishl (rk_ci (65535) (rk_aload 0 (rk_gR 5 2 (rk_cS g 3 yX6_reached cX6_reached 7 (some .int) 1 (rk_istore 2 (rk_aload 0 (rk_iload 1 (rk_cV g 1 5 yX5_flip cX5_flip 4 none 0 (rk_iload 2 (rk_aload 0 (rk_gR 5 0 (rk_gR 2 3 (rk_iload 1 (rk_iald (rk_cS g 2 yX6_hasBit cX6_hasBit 2 (some .boolean) 0 (rk_if_ne (rk_ci (0) (bX5_isBridge_52 g R)) (rk_ci (1) (bX5_isBridge_52 g R)))))))))))))))))))))))))))) ls st σ := rfl
theorem oX5_isBridge_0 {g : rk_G} {R : rk_R} : aX5_isBridge g R 0 (bX5_isBridge_0 g R) := (rk_aload_n_ok dX5_isBridge_0 rfl (rk_iload_n_ok dX5_isBridge_1 rfl (rk_cV_ok dX5_isBridge_2 rfl rfl npX5_flip wmX5_53 wvX5_flip weX5_flip wiX5 wdX5_flip (by decide) (by decide) (rk_iconst_ok dX5_isBridge_5 (by decide) (rk_aload_n_ok dX5_isBridge_6 rfl (rk_gR_ok dX5_isBridge_7 rfl iX5 (by decide) rfl wfX5_18 (rk_gR_ok dX5_isBridge_10 rfl iX2 (by decide) rfl wfX5_44 (rk_iload_n_ok dX5_isBridge_13 rfl (rk_iald_ok dX5_isBridge_14 (rk_ishl_ok dX5_isBridge_15 (rk_ldc_ok dX5_isBridge_16 wcX5_56 (rk_aload_n_ok dX5_isBridge_18 rfl (rk_gR_ok dX5_isBridge_19 rfl iX5 (by decide) rfl wfX5_15 (rk_cN_ok dX5_isBridge_22 npX6_reached wnX5_57 wtX6_reached wiX6 wdX6_reached (by decide) (by decide) (rk_istore_n_ok dX5_isBridge_25 rfl (by decide) (rk_aload_n_ok dX5_isBridge_26 rfl (rk_iload_n_ok dX5_isBridge_27 rfl (rk_cV_ok dX5_isBridge_28 rfl rfl npX5_flip wmX5_53 wvX5_flip weX5_flip wiX5 wdX5_flip (by decide) (by decide) (rk_iload_n_ok dX5_isBridge_31 rfl (rk_aload_n_ok dX5_isBridge_32 rfl (rk_gR_ok dX5_isBridge_33 rfl iX5 (by decide) rfl wfX5_18 (rk_gR_ok dX5_isBridge_36 rfl iX2 (by decide) rfl wfX5_47 (rk_iload_n_ok dX5_isBridge_39 rfl (rk_iald_ok dX5_isBridge_40 (rk_cN_ok dX5_isBridge_41 npX6_hasBit wnX5_37 wtX6_hasBit wiX6 wdX6_hasBit (by decide) (by decide) (rk_if_ne_ok (pc' := 51) dX5_isBridge_44 (by decide) (rk_iconst_ok dX5_isBridge_51 (by decide) oX5_isBridge_52) (rk_iconst_ok dX5_isBridge_47 (by decide) (rk_goto_ok (pc' := 52) dX5_isBridge_48 (by decide) oX5_isBridge_52))))))))))))))))))))))))))))
theorem dX6_meeting_0 : decode cX6_meeting 0 = .ok (.aload_n 0, 1) := by decide +kernel
theorem dX6_meeting_1 : decode cX6_meeting 1 = .ok (.getfield 10, 3) := by decide +kernel
theorem dX6_meeting_4 : decode cX6_meeting 4 = .ok (.iload_n 1, 1) := by decide +kernel
theorem dX6_meeting_5 : decode cX6_meeting 5 = .ok (.iload_n 2, 1) := by decide +kernel
theorem dX6_meeting_6 : decode cX6_meeting 6 = .ok (.invokevirtual 61, 3) := by decide +kernel
theorem dX6_meeting_9 : decode cX6_meeting 9 = .ok (.ireturn, 1) := by decide +kernel
abbrev kX6_meeting (g : rk_G) (R : rk_R) (pc : Nat) : rk_K := rk_cut g cX6_meeting 3 (some .int) RX6 2 R pc
abbrev aX6_meeting (g : rk_G) (R : rk_R) (pc : Nat) (K : rk_K) : Prop := rk_AK g cX6_meeting 3 (some .int) RX6 2 R pc K
abbrev sX6_meeting (g : rk_G) (vs : List Value) (σ : rk_M) (R : rk_R) : Prop := rk_does g yX6_meeting cX6_meeting 3 (some .int) 2 vs σ R
abbrev tX6_meeting (g : rk_G) (R : rk_R) (pc : Nat) (ls st : List Value) (σ : rk_M) : Prop := rk_At g cX6_meeting 3 (some .int) RX6 2 R pc ls st σ
def bX6_meeting_0 (g : rk_G) (R : rk_R) : rk_K := (rk_aload 0 (rk_gR 6 0 (rk_iload 1 (rk_iload 2 (rk_cV g 2 2 yX2_addMeeting cX2_addMeeting 3 (some .int) 1 (rk_iret R))))))
theorem eX6_meeting_0 (g : rk_G) (R : rk_R) (ls st : List Value) (σ : rk_M) : bX6_meeting_0 g R ls st σ = (rk_aload 0 (rk_gR 6 0 (rk_iload 1 (rk_iload 2 (rk_cV g 2 2 yX2_addMeeting cX2_addMeeting 3 (some .int) 1 (rk_iret R)))))) ls st σ := rfl
theorem oX6_meeting_0 {g : rk_G} {R : rk_R} : aX6_meeting g R 0 (bX6_meeting_0 g R) := (rk_aload_n_ok dX6_meeting_0 rfl (rk_gR_ok dX6_meeting_1 rfl iX6 (by decide) rfl wfX6_10 (rk_iload_n_ok dX6_meeting_4 rfl (rk_iload_n_ok dX6_meeting_5 rfl (rk_cV_ok dX6_meeting_6 rfl rfl npX2_addMeeting wmX6_61 wvX2_addMeeting weX2_addMeeting wiX2 wdX2_addMeeting (by decide) (by decide) (rk_iret_ok rfl dX6_meeting_9))))))
theorem dX6_at_0 : decode cX6_at 0 = .ok (.aload_n 0, 1) := by decide +kernel
theorem dX6_at_1 : decode cX6_at 1 = .ok (.getfield 10, 3) := by decide +kernel
theorem dX6_at_4 : decode cX6_at 4 = .ok (.iload_n 1, 1) := by decide +kernel
theorem dX6_at_5 : decode cX6_at 5 = .ok (.invokevirtual 110, 3) := by decide +kernel
theorem dX6_at_8 : decode cX6_at 8 = .ok (.ifCond .ne 6, 3) := by decide +kernel
theorem dX6_at_11 : decode cX6_at 11 = .ok (.bipush (-2), 2) := by decide +kernel
theorem dX6_at_13 : decode cX6_at 13 = .ok (.ireturn, 1) := by decide +kernel
theorem dX6_at_14 : decode cX6_at 14 = .ok (.iload_n 2, 1) := by decide +kernel
theorem dX6_at_15 : decode cX6_at 15 = .ok (.tableswitch 54 0 2 #[25, 35, 45], 25) := by decide +kernel
theorem dX6_at_40 : decode cX6_at 40 = .ok (.aload_n 0, 1) := by decide +kernel
theorem dX6_at_41 : decode cX6_at 41 = .ok (.getfield 10, 3) := by decide +kernel
theorem dX6_at_44 : decode cX6_at 44 = .ok (.getfield 113, 3) := by decide +kernel
theorem dX6_at_47 : decode cX6_at 47 = .ok (.iload_n 1, 1) := by decide +kernel
theorem dX6_at_48 : decode cX6_at 48 = .ok (.iaload, 1) := by decide +kernel
theorem dX6_at_49 : decode cX6_at 49 = .ok (.ireturn, 1) := by decide +kernel
theorem dX6_at_50 : decode cX6_at 50 = .ok (.aload_n 0, 1) := by decide +kernel
theorem dX6_at_51 : decode cX6_at 51 = .ok (.getfield 10, 3) := by decide +kernel
theorem dX6_at_54 : decode cX6_at 54 = .ok (.getfield 116, 3) := by decide +kernel
theorem dX6_at_57 : decode cX6_at 57 = .ok (.iload_n 1, 1) := by decide +kernel
theorem dX6_at_58 : decode cX6_at 58 = .ok (.iaload, 1) := by decide +kernel
theorem dX6_at_59 : decode cX6_at 59 = .ok (.ireturn, 1) := by decide +kernel
theorem dX6_at_60 : decode cX6_at 60 = .ok (.aload_n 0, 1) := by decide +kernel
theorem dX6_at_61 : decode cX6_at 61 = .ok (.getfield 10, 3) := by decide +kernel
theorem dX6_at_64 : decode cX6_at 64 = .ok (.iload_n 1, 1) := by decide +kernel
theorem dX6_at_65 : decode cX6_at 65 = .ok (.invokevirtual 119, 3) := by decide +kernel
theorem dX6_at_68 : decode cX6_at 68 = .ok (.ireturn, 1) := by decide +kernel
theorem dX6_at_69 : decode cX6_at 69 = .ok (.bipush (-2), 2) := by decide +kernel
theorem dX6_at_71 : decode cX6_at 71 = .ok (.ireturn, 1) := by decide +kernel
abbrev kX6_at (g : rk_G) (R : rk_R) (pc : Nat) : rk_K := rk_cut g cX6_at 3 (some .int) RX6 2 R pc
abbrev aX6_at (g : rk_G) (R : rk_R) (pc : Nat) (K : rk_K) : Prop := rk_AK g cX6_at 3 (some .int) RX6 2 R pc K
abbrev sX6_at (g : rk_G) (vs : List Value) (σ : rk_M) (R : rk_R) : Prop := rk_does g yX6_at cX6_at 3 (some .int) 2 vs σ R
abbrev tX6_at (g : rk_G) (R : rk_R) (pc : Nat) (ls st : List Value) (σ : rk_M) : Prop := rk_At g cX6_at 3 (some .int) RX6 2 R pc ls st σ
def bX6_at_0 (g : rk_G) (R : rk_R) : rk_K := (rk_aload 0 (rk_gR 6 0 (rk_iload 1 (rk_cV g 1 2 yX2_hasMeeting cX2_hasMeeting 2 (some .boolean) 0 (rk_if_ne (rk_iload 2 (rk_sw 0 [(rk_aload 0 (rk_gR 6 0 (rk_gR 2 0 (rk_iload 1 (rk_iald (rk_iret R)))))), (rk_aload 0 (rk_gR 6 0 (rk_gR 2 1 (rk_iload 1 (rk_iald (rk_iret R)))))), (rk_aload 0 (rk_gR 6 0 (rk_iload 1 (rk_cV g 1 2 yX2_roadsAt cX2_roadsAt 4 (some .int) 1 (rk_iret R)))))] (rk_ci (-2) (rk_iret R)))) (rk_ci (-2) (rk_iret R)))))))
theorem eX6_at_0 (g : rk_G) (R : rk_R) (ls st : List Value) (σ : rk_M) : bX6_at_0 g R ls st σ = (rk_aload 0 (rk_gR 6 0 (rk_iload 1 (rk_cV g 1 2 yX2_hasMeeting cX2_hasMeeting 2 (some .boolean) 0 (rk_if_ne (rk_iload 2 (rk_sw 0 [(rk_aload 0 (rk_gR 6 0 (rk_gR 2 0 (rk_iload 1 (rk_iald (rk_iret R)))))), (rk_aload 0 (rk_gR 6 0 (rk_gR 2 1 (rk_iload 1 (rk_iald (rk_iret R)))))), (rk_aload 0 (rk_gR 6 0 (rk_iload 1 (rk_cV g 1 2 yX2_roadsAt cX2_roadsAt 4 (some .int) 1 (rk_iret R)))))] (rk_ci (-2) (rk_iret R)))) (rk_ci (-2) (rk_iret R))))))) ls st σ := rfl
theorem oX6_at_0 {g : rk_G} {R : rk_R} : aX6_at g R 0 (bX6_at_0 g R) := (rk_aload_n_ok dX6_at_0 rfl (rk_gR_ok dX6_at_1 rfl iX6 (by decide) rfl wfX6_10 (rk_iload_n_ok dX6_at_4 rfl (rk_cV_ok dX6_at_5 rfl rfl npX2_hasMeeting wmX6_110 wvX2_hasMeeting weX2_hasMeeting wiX2 wdX2_hasMeeting (by decide) (by decide) (rk_if_ne_ok (pc' := 14) dX6_at_8 (by decide) (rk_iload_n_ok dX6_at_14 rfl (rk_table_ok (pc' := 69) (tg := [40, 50, 60]) dX6_at_15 rfl (by decide) rfl (by decide) (fun j t K ht hk => match j, t, K, ht, hk with | 0, _, _, ht, hk => by cases ht; cases hk; exact (rk_aload_n_ok dX6_at_40 rfl (rk_gR_ok dX6_at_41 rfl iX6 (by decide) rfl wfX6_10 (rk_gR_ok dX6_at_44 rfl iX2 (by decide) rfl wfX6_113 (rk_iload_n_ok dX6_at_47 rfl (rk_iald_ok dX6_at_48 (rk_iret_ok rfl dX6_at_49)))))) | 1, _, _, ht, hk => by cases ht; cases hk; exact (rk_aload_n_ok dX6_at_50 rfl (rk_gR_ok dX6_at_51 rfl iX6 (by decide) rfl wfX6_10 (rk_gR_ok dX6_at_54 rfl iX2 (by decide) rfl wfX6_116 (rk_iload_n_ok dX6_at_57 rfl (rk_iald_ok dX6_at_58 (rk_iret_ok rfl dX6_at_59)))))) | 2, _, _, ht, hk => by cases ht; cases hk; exact (rk_aload_n_ok dX6_at_60 rfl (rk_gR_ok dX6_at_61 rfl iX6 (by decide) rfl wfX6_10 (rk_iload_n_ok dX6_at_64 rfl (rk_cV_ok dX6_at_65 rfl rfl npX2_roadsAt wmX6_119 wvX2_roadsAt weX2_roadsAt wiX2 wdX2_roadsAt (by decide) (by decide) (rk_iret_ok rfl dX6_at_68))))) | (j + 3), _, _, ht, hk => by cases ht) (rk_bipush_ok dX6_at_69 (by decide) (rk_iret_ok rfl dX6_at_71)))) (rk_bipush_ok dX6_at_11 (by decide) (rk_iret_ok rfl dX6_at_13)))))))
theorem dX6_along_0 : decode cX6_along 0 = .ok (.aload_n 0, 1) := by decide +kernel
theorem dX6_along_1 : decode cX6_along 1 = .ok (.getfield 10, 3) := by decide +kernel
theorem dX6_along_4 : decode cX6_along 4 = .ok (.iload_n 1, 1) := by decide +kernel
theorem dX6_along_5 : decode cX6_along 5 = .ok (.invokevirtual 110, 3) := by decide +kernel
theorem dX6_along_8 : decode cX6_along 8 = .ok (.ifCond .eq 25, 3) := by decide +kernel
theorem dX6_along_11 : decode cX6_along 11 = .ok (.aload_n 0, 1) := by decide +kernel
theorem dX6_along_12 : decode cX6_along 12 = .ok (.getfield 10, 3) := by decide +kernel
theorem dX6_along_15 : decode cX6_along 15 = .ok (.iload_n 2, 1) := by decide +kernel
theorem dX6_along_16 : decode cX6_along 16 = .ok (.invokevirtual 76, 3) := by decide +kernel
theorem dX6_along_19 : decode cX6_along 19 = .ok (.ifCond .eq 14, 3) := by decide +kernel
theorem dX6_along_22 : decode cX6_along 22 = .ok (.aload_n 0, 1) := by decide +kernel
theorem dX6_along_23 : decode cX6_along 23 = .ok (.getfield 10, 3) := by decide +kernel
theorem dX6_along_26 : decode cX6_along 26 = .ok (.iload_n 3, 1) := by decide +kernel
theorem dX6_along_27 : decode cX6_along 27 = .ok (.invokevirtual 76, 3) := by decide +kernel
theorem dX6_along_30 : decode cX6_along 30 = .ok (.ifCond .ne 6, 3) := by decide +kernel
theorem dX6_along_33 : decode cX6_along 33 = .ok (.bipush (-2), 2) := by decide +kernel
theorem dX6_along_35 : decode cX6_along 35 = .ok (.ireturn, 1) := by decide +kernel
theorem dX6_along_36 : decode cX6_along 36 = .ok (.iload_n 2, 1) := by decide +kernel
theorem dX6_along_37 : decode cX6_along 37 = .ok (.iload_n 3, 1) := by decide +kernel
theorem dX6_along_38 : decode cX6_along 38 = .ok (.if_icmp .eq 27, 3) := by decide +kernel
theorem dX6_along_41 : decode cX6_along 41 = .ok (.aload_n 0, 1) := by decide +kernel
theorem dX6_along_42 : decode cX6_along 42 = .ok (.getfield 10, 3) := by decide +kernel
theorem dX6_along_45 : decode cX6_along 45 = .ok (.iload_n 2, 1) := by decide +kernel
theorem dX6_along_46 : decode cX6_along 46 = .ok (.iload_n 1, 1) := by decide +kernel
theorem dX6_along_47 : decode cX6_along 47 = .ok (.invokevirtual 137, 3) := by decide +kernel
theorem dX6_along_50 : decode cX6_along 50 = .ok (.ifCond .eq 15, 3) := by decide +kernel
theorem dX6_along_53 : decode cX6_along 53 = .ok (.aload_n 0, 1) := by decide +kernel
theorem dX6_along_54 : decode cX6_along 54 = .ok (.getfield 10, 3) := by decide +kernel
theorem dX6_along_57 : decode cX6_along 57 = .ok (.iload_n 3, 1) := by decide +kernel
theorem dX6_along_58 : decode cX6_along 58 = .ok (.iload_n 1, 1) := by decide +kernel
theorem dX6_along_59 : decode cX6_along 59 = .ok (.invokevirtual 137, 3) := by decide +kernel
theorem dX6_along_62 : decode cX6_along 62 = .ok (.ifCond .ne 6, 3) := by decide +kernel
theorem dX6_along_65 : decode cX6_along 65 = .ok (.bipush (-3), 2) := by decide +kernel
theorem dX6_along_67 : decode cX6_along 67 = .ok (.ireturn, 1) := by decide +kernel
theorem dX6_along_68 : decode cX6_along 68 = .ok (.aload_n 0, 1) := by decide +kernel
theorem dX6_along_69 : decode cX6_along 69 = .ok (.getfield 21, 3) := by decide +kernel
theorem dX6_along_72 : decode cX6_along 72 = .ok (.iload_n 1, 1) := by decide +kernel
theorem dX6_along_73 : decode cX6_along 73 = .ok (.iload_n 2, 1) := by decide +kernel
theorem dX6_along_74 : decode cX6_along 74 = .ok (.iload_n 3, 1) := by decide +kernel
theorem dX6_along_75 : decode cX6_along 75 = .ok (.invokevirtual 144, 3) := by decide +kernel
theorem dX6_along_78 : decode cX6_along 78 = .ok (.ifCond .eq 7, 3) := by decide +kernel
theorem dX6_along_81 : decode cX6_along 81 = .ok (.iconst 1, 1) := by decide +kernel
theorem dX6_along_82 : decode cX6_along 82 = .ok (.goto 4, 3) := by decide +kernel
theorem dX6_along_85 : decode cX6_along 85 = .ok (.iconst 0, 1) := by decide +kernel
theorem dX6_along_86 : decode cX6_along 86 = .ok (.ireturn, 1) := by decide +kernel
abbrev kX6_along (g : rk_G) (R : rk_R) (pc : Nat) : rk_K := rk_cut g cX6_along 4 (some .int) RX6 2 R pc
abbrev aX6_along (g : rk_G) (R : rk_R) (pc : Nat) (K : rk_K) : Prop := rk_AK g cX6_along 4 (some .int) RX6 2 R pc K
abbrev sX6_along (g : rk_G) (vs : List Value) (σ : rk_M) (R : rk_R) : Prop := rk_does g yX6_along cX6_along 4 (some .int) 2 vs σ R
abbrev tX6_along (g : rk_G) (R : rk_R) (pc : Nat) (ls st : List Value) (σ : rk_M) : Prop := rk_At g cX6_along 4 (some .int) RX6 2 R pc ls st σ
def bX6_along_86 (g : rk_G) (R : rk_R) : rk_K := (rk_iret R)
theorem eX6_along_86 (g : rk_G) (R : rk_R) (ls st : List Value) (σ : rk_M) : bX6_along_86 g R ls st σ = (rk_iret R) ls st σ := rfl
theorem oX6_along_86 {g : rk_G} {R : rk_R} : aX6_along g R 86 (bX6_along_86 g R) := (rk_iret_ok rfl dX6_along_86)
def bX6_along_65 (g : rk_G) (R : rk_R) : rk_K := (rk_ci (-3) (rk_iret R))
theorem eX6_along_65 (g : rk_G) (R : rk_R) (ls st : List Value) (σ : rk_M) : bX6_along_65 g R ls st σ = (rk_ci (-3) (rk_iret R)) ls st σ := rfl
theorem oX6_along_65 {g : rk_G} {R : rk_R} : aX6_along g R 65 (bX6_along_65 g R) := (rk_bipush_ok dX6_along_65 (by decide) (rk_iret_ok rfl dX6_along_67))
def bX6_along_33 (g : rk_G) (R : rk_R) : rk_K := (rk_ci (-2) (rk_iret R))
theorem eX6_along_33 (g : rk_G) (R : rk_R) (ls st : List Value) (σ : rk_M) : bX6_along_33 g R ls st σ = (rk_ci (-2) (rk_iret R)) ls st σ := rfl
theorem oX6_along_33 {g : rk_G} {R : rk_R} : aX6_along g R 33 (bX6_along_33 g R) := (rk_bipush_ok dX6_along_33 (by decide) (rk_iret_ok rfl dX6_along_35))
def bX6_along_0 (g : rk_G) (R : rk_R) : rk_K := (rk_aload 0 (rk_gR 6 0 (rk_iload 1 (rk_cV g 1 2 yX2_hasMeeting cX2_hasMeeting 2 (some .boolean) 0 (rk_if_eq (bX6_along_33 g R) (rk_aload 0 (rk_gR 6 0 (rk_iload 2 (rk_cV g 1 2 yX2_hasRoad cX2_hasRoad 2 (some .boolean) 0 (rk_if_eq (bX6_along_33 g R) (rk_aload 0 (rk_gR 6 0 (rk_iload 3 (rk_cV g 1 2 yX2_hasRoad cX2_hasRoad 2 (some .boolean) 0 (rk_if_ne (rk_iload 2 (rk_iload 3 (rk_icmp_eq (bX6_along_65 g R) (rk_aload 0 (rk_gR 6 0 (rk_iload 2 (rk_iload 1 (rk_cV g 2 2 yX2_isThere cX2_isThere 3 (some .boolean) 0 (rk_if_eq (bX6_along_65 g R) (rk_aload 0 (rk_gR 6 0 (rk_iload 3 (rk_iload 1 (rk_cV g 2 2 yX2_isThere cX2_isThere 3 (some .boolean) 0 (rk_if_ne (rk_aload 0 (rk_gR 6 1 (rk_iload 1 (rk_iload 2 (rk_iload 3 (rk_cV g 3 1 yX1_areAlong cX1_areAlong 10 (some .boolean) 1 (rk_if_eq (rk_ci (0) (bX6_along_86 g R)) (rk_ci (1) (bX6_along_86 g R))))))))) (bX6_along_65 g R)))))))))))))))) (bX6_along_33 g R))))))))))))))))
theorem eX6_along_0 (g : rk_G) (R : rk_R) (ls st : List Value) (σ : rk_M) : bX6_along_0 g R ls st σ = (rk_aload 0 (rk_gR 6 0 (rk_iload 1 (rk_cV g 1 2 yX2_hasMeeting cX2_hasMeeting 2 (some .boolean) 0 (rk_if_eq (bX6_along_33 g R) (rk_aload 0 (rk_gR 6 0 (rk_iload 2 (rk_cV g 1 2 yX2_hasRoad cX2_hasRoad 2 (some .boolean) 0 (rk_if_eq (bX6_along_33 g R) (rk_aload 0 (rk_gR 6 0 (rk_iload 3 (rk_cV g 1 2 yX2_hasRoad cX2_hasRoad 2 (some .boolean) 0 (rk_if_ne (rk_iload 2 (rk_iload 3 (rk_icmp_eq (bX6_along_65 g R) (rk_aload 0 (rk_gR 6 0 (rk_iload 2 (rk_iload 1 (rk_cV g 2 2 yX2_isThere cX2_isThere 3 (some .boolean) 0 (rk_if_eq (bX6_along_65 g R) (rk_aload 0 (rk_gR 6 0 (rk_iload 3 (rk_iload 1 (rk_cV g 2 2 yX2_isThere cX2_isThere 3 (some .boolean) 0 (rk_if_ne (rk_aload 0 (rk_gR 6 1 (rk_iload 1 (rk_iload 2 (rk_iload 3 (rk_cV g 3 1 yX1_areAlong cX1_areAlong 10 (some .boolean) 1 (rk_if_eq (rk_ci (0) (bX6_along_86 g R)) (rk_ci (1) (bX6_along_86 g R))))))))) (bX6_along_65 g R)))))))))))))))) (bX6_along_33 g R)))))))))))))))) ls st σ := rfl
theorem oX6_along_0 {g : rk_G} {R : rk_R} : aX6_along g R 0 (bX6_along_0 g R) := (rk_aload_n_ok dX6_along_0 rfl (rk_gR_ok dX6_along_1 rfl iX6 (by decide) rfl wfX6_10 (rk_iload_n_ok dX6_along_4 rfl (rk_cV_ok dX6_along_5 rfl rfl npX2_hasMeeting wmX6_110 wvX2_hasMeeting weX2_hasMeeting wiX2 wdX2_hasMeeting (by decide) (by decide) (rk_if_eq_ok (pc' := 33) dX6_along_8 (by decide) oX6_along_33 (rk_aload_n_ok dX6_along_11 rfl (rk_gR_ok dX6_along_12 rfl iX6 (by decide) rfl wfX6_10 (rk_iload_n_ok dX6_along_15 rfl (rk_cV_ok dX6_along_16 rfl rfl npX2_hasRoad wmX6_76 wvX2_hasRoad weX2_hasRoad wiX2 wdX2_hasRoad (by decide) (by decide) (rk_if_eq_ok (pc' := 33) dX6_along_19 (by decide) oX6_along_33 (rk_aload_n_ok dX6_along_22 rfl (rk_gR_ok dX6_along_23 rfl iX6 (by decide) rfl wfX6_10 (rk_iload_n_ok dX6_along_26 rfl (rk_cV_ok dX6_along_27 rfl rfl npX2_hasRoad wmX6_76 wvX2_hasRoad weX2_hasRoad wiX2 wdX2_hasRoad (by decide) (by decide) (rk_if_ne_ok (pc' := 36) dX6_along_30 (by decide) (rk_iload_n_ok dX6_along_36 rfl (rk_iload_n_ok dX6_along_37 rfl (rk_icmp_eq_ok (pc' := 65) dX6_along_38 (by decide) oX6_along_65 (rk_aload_n_ok dX6_along_41 rfl (rk_gR_ok dX6_along_42 rfl iX6 (by decide) rfl wfX6_10 (rk_iload_n_ok dX6_along_45 rfl (rk_iload_n_ok dX6_along_46 rfl (rk_cV_ok dX6_along_47 rfl rfl npX2_isThere wmX6_137 wvX2_isThere weX2_isThere wiX2 wdX2_isThere (by decide) (by decide) (rk_if_eq_ok (pc' := 65) dX6_along_50 (by decide) oX6_along_65 (rk_aload_n_ok dX6_along_53 rfl (rk_gR_ok dX6_along_54 rfl iX6 (by decide) rfl wfX6_10 (rk_iload_n_ok dX6_along_57 rfl (rk_iload_n_ok dX6_along_58 rfl (rk_cV_ok dX6_along_59 rfl rfl npX2_isThere wmX6_137 wvX2_isThere weX2_isThere wiX2 wdX2_isThere (by decide) (by decide) (rk_if_ne_ok (pc' := 68) dX6_along_62 (by decide) (rk_aload_n_ok dX6_along_68 rfl (rk_gR_ok dX6_along_69 rfl iX6 (by decide) rfl wfX6_21 (rk_iload_n_ok dX6_along_72 rfl (rk_iload_n_ok dX6_along_73 rfl (rk_iload_n_ok dX6_along_74 rfl (rk_cV_ok dX6_along_75 rfl rfl npX1_areAlong wmX6_144 wvX1_areAlong weX1_areAlong wiX1 wdX1_areAlong (by decide) (by decide) (rk_if_eq_ok (pc' := 85) dX6_along_78 (by decide) (rk_iconst_ok dX6_along_85 (by decide) oX6_along_86) (rk_iconst_ok dX6_along_81 (by decide) (rk_goto_ok (pc' := 86) dX6_along_82 (by decide) oX6_along_86))))))))) oX6_along_65))))))))))))))) oX6_along_33)))))))))))))))
theorem dX6_useful_0 : decode cX6_useful 0 = .ok (.iload_n 1, 1) := by decide +kernel
theorem dX6_useful_1 : decode cX6_useful 1 = .ok (.ifCond .lt 8, 3) := by decide +kernel
theorem dX6_useful_4 : decode cX6_useful 4 = .ok (.iload_n 1, 1) := by decide +kernel
theorem dX6_useful_5 : decode cX6_useful 5 = .ok (.iconst 1, 1) := by decide +kernel
theorem dX6_useful_6 : decode cX6_useful 6 = .ok (.if_icmp .le 6, 3) := by decide +kernel
theorem dX6_useful_9 : decode cX6_useful 9 = .ok (.bipush (-2), 2) := by decide +kernel
theorem dX6_useful_11 : decode cX6_useful 11 = .ok (.ireturn, 1) := by decide +kernel
theorem dX6_useful_12 : decode cX6_useful 12 = .ok (.iconst (-1), 1) := by decide +kernel
theorem dX6_useful_13 : decode cX6_useful 13 = .ok (.istore_n 2, 1) := by decide +kernel
theorem dX6_useful_14 : decode cX6_useful 14 = .ok (.iconst (-1), 1) := by decide +kernel
theorem dX6_useful_15 : decode cX6_useful 15 = .ok (.istore_n 3, 1) := by decide +kernel
theorem dX6_useful_16 : decode cX6_useful 16 = .ok (.iconst 0, 1) := by decide +kernel
theorem dX6_useful_17 : decode cX6_useful 17 = .ok (.istore 4, 2) := by decide +kernel
theorem dX6_useful_19 : decode cX6_useful 19 = .ok (.iload 4, 2) := by decide +kernel
theorem dX6_useful_21 : decode cX6_useful 21 = .ok (.aload_n 0, 1) := by decide +kernel
theorem dX6_useful_22 : decode cX6_useful 22 = .ok (.getfield 10, 3) := by decide +kernel
theorem dX6_useful_25 : decode cX6_useful 25 = .ok (.getfield 207, 3) := by decide +kernel
theorem dX6_useful_28 : decode cX6_useful 28 = .ok (.if_icmp .ge 29, 3) := by decide +kernel
theorem dX6_useful_31 : decode cX6_useful 31 = .ok (.aload_n 0, 1) := by decide +kernel
theorem dX6_useful_32 : decode cX6_useful 32 = .ok (.iload 4, 2) := by decide +kernel
theorem dX6_useful_34 : decode cX6_useful 34 = .ok (.invokevirtual 209, 3) := by decide +kernel
theorem dX6_useful_37 : decode cX6_useful 37 = .ok (.istore 5, 2) := by decide +kernel
theorem dX6_useful_39 : decode cX6_useful 39 = .ok (.iload 5, 2) := by decide +kernel
theorem dX6_useful_41 : decode cX6_useful 41 = .ok (.iload_n 3, 1) := by decide +kernel
theorem dX6_useful_42 : decode cX6_useful 42 = .ok (.if_icmp .le 9, 3) := by decide +kernel
theorem dX6_useful_45 : decode cX6_useful 45 = .ok (.iload 4, 2) := by decide +kernel
theorem dX6_useful_47 : decode cX6_useful 47 = .ok (.istore_n 2, 1) := by decide +kernel
theorem dX6_useful_48 : decode cX6_useful 48 = .ok (.iload 5, 2) := by decide +kernel
theorem dX6_useful_50 : decode cX6_useful 50 = .ok (.istore_n 3, 1) := by decide +kernel
theorem dX6_useful_51 : decode cX6_useful 51 = .ok (.iinc 4 1, 3) := by decide +kernel
theorem dX6_useful_54 : decode cX6_useful 54 = .ok (.goto (-35), 3) := by decide +kernel
theorem dX6_useful_57 : decode cX6_useful 57 = .ok (.iload_n 1, 1) := by decide +kernel
theorem dX6_useful_58 : decode cX6_useful 58 = .ok (.ifCond .ne 7, 3) := by decide +kernel
theorem dX6_useful_61 : decode cX6_useful 61 = .ok (.iload_n 2, 1) := by decide +kernel
theorem dX6_useful_62 : decode cX6_useful 62 = .ok (.goto 4, 3) := by decide +kernel
theorem dX6_useful_65 : decode cX6_useful 65 = .ok (.iload_n 3, 1) := by decide +kernel
theorem dX6_useful_66 : decode cX6_useful 66 = .ok (.ireturn, 1) := by decide +kernel
abbrev kX6_useful (g : rk_G) (R : rk_R) (pc : Nat) : rk_K := rk_cut g cX6_useful 6 (some .int) RX6 2 R pc
abbrev aX6_useful (g : rk_G) (R : rk_R) (pc : Nat) (K : rk_K) : Prop := rk_AK g cX6_useful 6 (some .int) RX6 2 R pc K
abbrev sX6_useful (g : rk_G) (vs : List Value) (σ : rk_M) (R : rk_R) : Prop := rk_does g yX6_useful cX6_useful 6 (some .int) 2 vs σ R
abbrev tX6_useful (g : rk_G) (R : rk_R) (pc : Nat) (ls st : List Value) (σ : rk_M) : Prop := rk_At g cX6_useful 6 (some .int) RX6 2 R pc ls st σ
def bX6_useful_66 (g : rk_G) (R : rk_R) : rk_K := (rk_iret R)
theorem eX6_useful_66 (g : rk_G) (R : rk_R) (ls st : List Value) (σ : rk_M) : bX6_useful_66 g R ls st σ = (rk_iret R) ls st σ := rfl
theorem oX6_useful_66 {g : rk_G} {R : rk_R} : aX6_useful g R 66 (bX6_useful_66 g R) := (rk_iret_ok rfl dX6_useful_66)
def bX6_useful_51 (g : rk_G) (R : rk_R) : rk_K := (rk_iinc 4 (1) (kX6_useful g R 19))
theorem eX6_useful_51 (g : rk_G) (R : rk_R) (ls st : List Value) (σ : rk_M) : bX6_useful_51 g R ls st σ = (rk_iinc 4 (1) (kX6_useful g R 19)) ls st σ := rfl
theorem oX6_useful_51 {g : rk_G} {R : rk_R} : aX6_useful g R 51 (bX6_useful_51 g R) := (rk_iinc_ok dX6_useful_51 (by decide) (by decide) (rk_goto_ok (pc' := 19) dX6_useful_54 (by decide) rk_cut_ok))
def bX6_useful_19 (g : rk_G) (R : rk_R) : rk_K := (rk_iload 4 (rk_aload 0 (rk_gR 6 0 (rk_gI 2 8 (rk_icmp_ge (rk_iload 1 (rk_if_ne (rk_iload 3 (bX6_useful_66 g R)) (rk_iload 2 (bX6_useful_66 g R)))) (rk_aload 0 (rk_iload 4 (rk_cV g 1 6 yX6_firstWorthIfWide cX6_firstWorthIfWide 4 (some .int) 1 (rk_istore 5 (rk_iload 5 (rk_iload 3 (rk_icmp_le (bX6_useful_51 g R) (rk_iload 4 (rk_istore 2 (rk_iload 5 (rk_istore 3 (bX6_useful_51 g R)))))))))))))))))
theorem eX6_useful_19 (g : rk_G) (R : rk_R) (ls st : List Value) (σ : rk_M) : bX6_useful_19 g R ls st σ = (rk_iload 4 (rk_aload 0 (rk_gR 6 0 (rk_gI 2 8 (rk_icmp_ge (rk_iload 1 (rk_if_ne (rk_iload 3 (bX6_useful_66 g R)) (rk_iload 2 (bX6_useful_66 g R)))) (rk_aload 0 (rk_iload 4 (rk_cV g 1 6 yX6_firstWorthIfWide cX6_firstWorthIfWide 4 (some .int) 1 (rk_istore 5 (rk_iload 5 (rk_iload 3 (rk_icmp_le (bX6_useful_51 g R) (rk_iload 4 (rk_istore 2 (rk_iload 5 (rk_istore 3 (bX6_useful_51 g R))))))))))))))))) ls st σ := rfl
theorem oX6_useful_19 {g : rk_G} {R : rk_R} : aX6_useful g R 19 (bX6_useful_19 g R) := (rk_iload_ok dX6_useful_19 (rk_aload_n_ok dX6_useful_21 rfl (rk_gR_ok dX6_useful_22 rfl iX6 (by decide) rfl wfX6_10 (rk_gI_ok dX6_useful_25 rfl iX2 (by decide) rfl wfX6_207 (rk_icmp_ge_ok (pc' := 57) dX6_useful_28 (by decide) (rk_iload_n_ok dX6_useful_57 rfl (rk_if_ne_ok (pc' := 65) dX6_useful_58 (by decide) (rk_iload_n_ok dX6_useful_65 rfl oX6_useful_66) (rk_iload_n_ok dX6_useful_61 rfl (rk_goto_ok (pc' := 66) dX6_useful_62 (by decide) oX6_useful_66)))) (rk_aload_n_ok dX6_useful_31 rfl (rk_iload_ok dX6_useful_32 (rk_cV_ok dX6_useful_34 rfl rfl npX6_firstWorthIfWide wmX6_209 wvX6_firstWorthIfWide weX6_firstWorthIfWide wiX6 wdX6_firstWorthIfWide (by decide) (by decide) (rk_istore_ok dX6_useful_37 (by decide) (rk_iload_ok dX6_useful_39 (rk_iload_n_ok dX6_useful_41 rfl (rk_icmp_le_ok (pc' := 51) dX6_useful_42 (by decide) oX6_useful_51 (rk_iload_ok dX6_useful_45 (rk_istore_n_ok dX6_useful_47 rfl (by decide) (rk_iload_ok dX6_useful_48 (rk_istore_n_ok dX6_useful_50 rfl (by decide) oX6_useful_51))))))))))))))))
def bX6_useful_9 (g : rk_G) (R : rk_R) : rk_K := (rk_ci (-2) (rk_iret R))
theorem eX6_useful_9 (g : rk_G) (R : rk_R) (ls st : List Value) (σ : rk_M) : bX6_useful_9 g R ls st σ = (rk_ci (-2) (rk_iret R)) ls st σ := rfl
theorem oX6_useful_9 {g : rk_G} {R : rk_R} : aX6_useful g R 9 (bX6_useful_9 g R) := (rk_bipush_ok dX6_useful_9 (by decide) (rk_iret_ok rfl dX6_useful_11))
def bX6_useful_0 (g : rk_G) (R : rk_R) : rk_K := (rk_iload 1 (rk_if_lt (bX6_useful_9 g R) (rk_iload 1 (rk_ci (1) (rk_icmp_le (rk_ci (-1) (rk_istore 2 (rk_ci (-1) (rk_istore 3 (rk_ci (0) (rk_istore 4 (kX6_useful g R 19))))))) (bX6_useful_9 g R))))))
theorem eX6_useful_0 (g : rk_G) (R : rk_R) (ls st : List Value) (σ : rk_M) : bX6_useful_0 g R ls st σ = (rk_iload 1 (rk_if_lt (bX6_useful_9 g R) (rk_iload 1 (rk_ci (1) (rk_icmp_le (rk_ci (-1) (rk_istore 2 (rk_ci (-1) (rk_istore 3 (rk_ci (0) (rk_istore 4 (kX6_useful g R 19))))))) (bX6_useful_9 g R)))))) ls st σ := rfl
theorem oX6_useful_0 {g : rk_G} {R : rk_R} : aX6_useful g R 0 (bX6_useful_0 g R) := (rk_iload_n_ok dX6_useful_0 rfl (rk_if_lt_ok (pc' := 9) dX6_useful_1 (by decide) oX6_useful_9 (rk_iload_n_ok dX6_useful_4 rfl (rk_iconst_ok dX6_useful_5 (by decide) (rk_icmp_le_ok (pc' := 12) dX6_useful_6 (by decide) (rk_iconst_ok dX6_useful_12 (by decide) (rk_istore_n_ok dX6_useful_13 rfl (by decide) (rk_iconst_ok dX6_useful_14 (by decide) (rk_istore_n_ok dX6_useful_15 rfl (by decide) (rk_iconst_ok dX6_useful_16 (by decide) (rk_istore_ok dX6_useful_17 (by decide) rk_cut_ok)))))) oX6_useful_9)))))
theorem dX6_put_0 : decode cX6_put 0 = .ok (.iload_n 1, 1) := by decide +kernel
theorem dX6_put_1 : decode cX6_put 1 = .ok (.invokestatic 93, 3) := by decide +kernel
theorem dX6_put_4 : decode cX6_put 4 = .ok (.ifCond .eq 10, 3) := by decide +kernel
theorem dX6_put_7 : decode cX6_put 7 = .ok (.iload_n 2, 1) := by decide +kernel
theorem dX6_put_8 : decode cX6_put 8 = .ok (.invokestatic 212, 3) := by decide +kernel
theorem dX6_put_11 : decode cX6_put 11 = .ok (.ifCond .ne 6, 3) := by decide +kernel
theorem dX6_put_14 : decode cX6_put 14 = .ok (.bipush (-2), 2) := by decide +kernel
theorem dX6_put_16 : decode cX6_put 16 = .ok (.ireturn, 1) := by decide +kernel
theorem dX6_put_17 : decode cX6_put 17 = .ok (.aload_n 0, 1) := by decide +kernel
theorem dX6_put_18 : decode cX6_put 18 = .ok (.getfield 52, 3) := by decide +kernel
theorem dX6_put_21 : decode cX6_put 21 = .ok (.iload_n 1, 1) := by decide +kernel
theorem dX6_put_22 : decode cX6_put 22 = .ok (.aaload, 1) := by decide +kernel
theorem dX6_put_23 : decode cX6_put 23 = .ok (.astore 5, 2) := by decide +kernel
theorem dX6_put_25 : decode cX6_put 25 = .ok (.aload 5, 2) := by decide +kernel
theorem dX6_put_27 : decode cX6_put 27 = .ok (.iload_n 2, 1) := by decide +kernel
theorem dX6_put_28 : decode cX6_put 28 = .ok (.iload_n 3, 1) := by decide +kernel
theorem dX6_put_29 : decode cX6_put 29 = .ok (.invokevirtual 221, 3) := by decide +kernel
theorem dX6_put_32 : decode cX6_put 32 = .ok (.istore 6, 2) := by decide +kernel
theorem dX6_put_34 : decode cX6_put 34 = .ok (.iload 6, 2) := by decide +kernel
theorem dX6_put_36 : decode cX6_put 36 = .ok (.ifCond .eq 10, 3) := by decide +kernel
theorem dX6_put_39 : decode cX6_put 39 = .ok (.aload_n 0, 1) := by decide +kernel
theorem dX6_put_40 : decode cX6_put 40 = .ok (.iload 6, 2) := by decide +kernel
theorem dX6_put_42 : decode cX6_put 42 = .ok (.invokevirtual 100, 3) := by decide +kernel
theorem dX6_put_45 : decode cX6_put 45 = .ok (.ireturn, 1) := by decide +kernel
theorem dX6_put_46 : decode cX6_put 46 = .ok (.aload 5, 2) := by decide +kernel
theorem dX6_put_48 : decode cX6_put 48 = .ok (.getfield 104, 3) := by decide +kernel
theorem dX6_put_51 : decode cX6_put 51 = .ok (.iload_n 3, 1) := by decide +kernel
theorem dX6_put_52 : decode cX6_put 52 = .ok (.aload 5, 2) := by decide +kernel
theorem dX6_put_54 : decode cX6_put 54 = .ok (.iload 4, 2) := by decide +kernel
theorem dX6_put_56 : decode cX6_put 56 = .ok (.invokevirtual 224, 3) := by decide +kernel
theorem dX6_put_59 : decode cX6_put 59 = .ok (.iastore, 1) := by decide +kernel
theorem dX6_put_60 : decode cX6_put 60 = .ok (.iconst 1, 1) := by decide +kernel
theorem dX6_put_61 : decode cX6_put 61 = .ok (.ireturn, 1) := by decide +kernel
abbrev kX6_put (g : rk_G) (R : rk_R) (pc : Nat) : rk_K := rk_cut g cX6_put 7 (some .int) RX6 2 R pc
abbrev aX6_put (g : rk_G) (R : rk_R) (pc : Nat) (K : rk_K) : Prop := rk_AK g cX6_put 7 (some .int) RX6 2 R pc K
abbrev sX6_put (g : rk_G) (vs : List Value) (σ : rk_M) (R : rk_R) : Prop := rk_does g yX6_put cX6_put 7 (some .int) 2 vs σ R
abbrev tX6_put (g : rk_G) (R : rk_R) (pc : Nat) (ls st : List Value) (σ : rk_M) : Prop := rk_At g cX6_put 7 (some .int) RX6 2 R pc ls st σ
def bX6_put_14 (g : rk_G) (R : rk_R) : rk_K := (rk_ci (-2) (rk_iret R))
theorem eX6_put_14 (g : rk_G) (R : rk_R) (ls st : List Value) (σ : rk_M) : bX6_put_14 g R ls st σ = (rk_ci (-2) (rk_iret R)) ls st σ := rfl
theorem oX6_put_14 {g : rk_G} {R : rk_R} : aX6_put g R 14 (bX6_put_14 g R) := (rk_bipush_ok dX6_put_14 (by decide) (rk_iret_ok rfl dX6_put_16))
def bX6_put_0 (g : rk_G) (R : rk_R) : rk_K := (rk_iload 1 (rk_cS g 1 yX6_isRow cX6_isRow 1 (some .boolean) 0 (rk_if_eq (bX6_put_14 g R) (rk_iload 2 (rk_cS g 1 yX6_isForm cX6_isForm 1 (some .boolean) 0 (rk_if_ne (rk_aload 0 (rk_gR 6 5 (rk_iload 1 (rk_aald (rk_astore 5 (rk_aload 5 (rk_iload 2 (rk_iload 3 (rk_cV g 2 3 yX3_faultOf cX3_faultOf 3 (some .int) 1 (rk_istore 6 (rk_iload 6 (rk_if_eq (rk_aload 5 (rk_gR 3 0 (rk_iload 3 (rk_aload 5 (rk_iload 4 (rk_cV g 1 3 yX3_trimmed cX3_trimmed 2 (some .int) 0 (rk_iast (rk_ci (1) (rk_iret R))))))))) (rk_aload 0 (rk_iload 6 (rk_cV g 1 6 yX6_found cX6_found 2 (some .int) 0 (rk_iret R)))))))))))))))) (bX6_put_14 g R)))))))
theorem eX6_put_0 (g : rk_G) (R : rk_R) (ls st : List Value) (σ : rk_M) : bX6_put_0 g R ls st σ = (rk_iload 1 (rk_cS g 1 yX6_isRow cX6_isRow 1 (some .boolean) 0 (rk_if_eq (bX6_put_14 g R) (rk_iload 2 (rk_cS g 1 yX6_isForm cX6_isForm 1 (some .boolean) 0 (rk_if_ne (rk_aload 0 (rk_gR 6 5 (rk_iload 1 (rk_aald (rk_astore 5 (rk_aload 5 (rk_iload 2 (rk_iload 3 (rk_cV g 2 3 yX3_faultOf cX3_faultOf 3 (some .int) 1 (rk_istore 6 (rk_iload 6 (rk_if_eq (rk_aload 5 (rk_gR 3 0 (rk_iload 3 (rk_aload 5 (rk_iload 4 (rk_cV g 1 3 yX3_trimmed cX3_trimmed 2 (some .int) 0 (rk_iast (rk_ci (1) (rk_iret R))))))))) (rk_aload 0 (rk_iload 6 (rk_cV g 1 6 yX6_found cX6_found 2 (some .int) 0 (rk_iret R)))))))))))))))) (bX6_put_14 g R))))))) ls st σ := rfl
theorem oX6_put_0 {g : rk_G} {R : rk_R} : aX6_put g R 0 (bX6_put_0 g R) := (rk_iload_n_ok dX6_put_0 rfl (rk_cS_ok dX6_put_1 npX6_isRow wmX6_93 wtX6_isRow wiX6 wdX6_isRow (by decide) (by decide) (rk_if_eq_ok (pc' := 14) dX6_put_4 (by decide) oX6_put_14 (rk_iload_n_ok dX6_put_7 rfl (rk_cS_ok dX6_put_8 npX6_isForm wmX6_212 wtX6_isForm wiX6 wdX6_isForm (by decide) (by decide) (rk_if_ne_ok (pc' := 17) dX6_put_11 (by decide) (rk_aload_n_ok dX6_put_17 rfl (rk_gR_ok dX6_put_18 rfl iX6 (by decide) rfl wfX6_52 (rk_iload_n_ok dX6_put_21 rfl (rk_aald_ok dX6_put_22 (rk_astore_ok dX6_put_23 (by decide) (rk_aload_ok dX6_put_25 (rk_iload_n_ok dX6_put_27 rfl (rk_iload_n_ok dX6_put_28 rfl (rk_cV_ok dX6_put_29 rfl rfl npX3_faultOf wmX6_221 wvX3_faultOf weX3_faultOf wiX3 wdX3_faultOf (by decide) (by decide) (rk_istore_ok dX6_put_32 (by decide) (rk_iload_ok dX6_put_34 (rk_if_eq_ok (pc' := 46) dX6_put_36 (by decide) (rk_aload_ok dX6_put_46 (rk_gR_ok dX6_put_48 rfl iX3 (by decide) rfl wfX6_104 (rk_iload_n_ok dX6_put_51 rfl (rk_aload_ok dX6_put_52 (rk_iload_ok dX6_put_54 (rk_cV_ok dX6_put_56 rfl rfl npX3_trimmed wmX6_224 wvX3_trimmed weX3_trimmed wiX3 wdX3_trimmed (by decide) (by decide) (rk_iast_ok dX6_put_59 (rk_iconst_ok dX6_put_60 (by decide) (rk_iret_ok rfl dX6_put_61))))))))) (rk_aload_n_ok dX6_put_39 rfl (rk_iload_ok dX6_put_40 (rk_cV_ok dX6_put_42 rfl rfl npX6_found wmX6_100 wvX6_found weX6_found wiX6 wdX6_found (by decide) (by decide) (rk_iret_ok rfl dX6_put_45)))))))))))))))) oX6_put_14))))))
theorem dX6_get_0 : decode cX6_get 0 = .ok (.iload_n 1, 1) := by decide +kernel
theorem dX6_get_1 : decode cX6_get 1 = .ok (.invokestatic 93, 3) := by decide +kernel
theorem dX6_get_4 : decode cX6_get 4 = .ok (.ifCond .eq 10, 3) := by decide +kernel
theorem dX6_get_7 : decode cX6_get 7 = .ok (.iload_n 2, 1) := by decide +kernel
theorem dX6_get_8 : decode cX6_get 8 = .ok (.invokestatic 212, 3) := by decide +kernel
theorem dX6_get_11 : decode cX6_get 11 = .ok (.ifCond .ne 6, 3) := by decide +kernel
theorem dX6_get_14 : decode cX6_get 14 = .ok (.ldc 227, 2) := by decide +kernel
theorem dX6_get_16 : decode cX6_get 16 = .ok (.ireturn, 1) := by decide +kernel
theorem dX6_get_17 : decode cX6_get 17 = .ok (.aload_n 0, 1) := by decide +kernel
theorem dX6_get_18 : decode cX6_get 18 = .ok (.getfield 52, 3) := by decide +kernel
theorem dX6_get_21 : decode cX6_get 21 = .ok (.iload_n 1, 1) := by decide +kernel
theorem dX6_get_22 : decode cX6_get 22 = .ok (.aaload, 1) := by decide +kernel
theorem dX6_get_23 : decode cX6_get 23 = .ok (.astore 4, 2) := by decide +kernel
theorem dX6_get_25 : decode cX6_get 25 = .ok (.aload 4, 2) := by decide +kernel
theorem dX6_get_27 : decode cX6_get 27 = .ok (.iload_n 2, 1) := by decide +kernel
theorem dX6_get_28 : decode cX6_get 28 = .ok (.iload_n 3, 1) := by decide +kernel
theorem dX6_get_29 : decode cX6_get 29 = .ok (.invokevirtual 221, 3) := by decide +kernel
theorem dX6_get_32 : decode cX6_get 32 = .ok (.istore 5, 2) := by decide +kernel
theorem dX6_get_34 : decode cX6_get 34 = .ok (.iload 5, 2) := by decide +kernel
theorem dX6_get_36 : decode cX6_get 36 = .ok (.ifCond .eq 13, 3) := by decide +kernel
theorem dX6_get_39 : decode cX6_get 39 = .ok (.aload_n 0, 1) := by decide +kernel
theorem dX6_get_40 : decode cX6_get 40 = .ok (.iload 5, 2) := by decide +kernel
theorem dX6_get_42 : decode cX6_get 42 = .ok (.invokevirtual 100, 3) := by decide +kernel
theorem dX6_get_45 : decode cX6_get 45 = .ok (.pop, 1) := by decide +kernel
theorem dX6_get_46 : decode cX6_get 46 = .ok (.ldc 227, 2) := by decide +kernel
theorem dX6_get_48 : decode cX6_get 48 = .ok (.ireturn, 1) := by decide +kernel
theorem dX6_get_49 : decode cX6_get 49 = .ok (.aload 4, 2) := by decide +kernel
theorem dX6_get_51 : decode cX6_get 51 = .ok (.getfield 104, 3) := by decide +kernel
theorem dX6_get_54 : decode cX6_get 54 = .ok (.iload_n 3, 1) := by decide +kernel
theorem dX6_get_55 : decode cX6_get 55 = .ok (.iaload, 1) := by decide +kernel
theorem dX6_get_56 : decode cX6_get 56 = .ok (.ireturn, 1) := by decide +kernel
abbrev kX6_get (g : rk_G) (R : rk_R) (pc : Nat) : rk_K := rk_cut g cX6_get 6 (some .int) RX6 2 R pc
abbrev aX6_get (g : rk_G) (R : rk_R) (pc : Nat) (K : rk_K) : Prop := rk_AK g cX6_get 6 (some .int) RX6 2 R pc K
abbrev sX6_get (g : rk_G) (vs : List Value) (σ : rk_M) (R : rk_R) : Prop := rk_does g yX6_get cX6_get 6 (some .int) 2 vs σ R
abbrev tX6_get (g : rk_G) (R : rk_R) (pc : Nat) (ls st : List Value) (σ : rk_M) : Prop := rk_At g cX6_get 6 (some .int) RX6 2 R pc ls st σ
def bX6_get_14 (g : rk_G) (R : rk_R) : rk_K := (rk_ci (-2147483648) (rk_iret R))
theorem eX6_get_14 (g : rk_G) (R : rk_R) (ls st : List Value) (σ : rk_M) : bX6_get_14 g R ls st σ = (rk_ci (-2147483648) (rk_iret R)) ls st σ := rfl
theorem oX6_get_14 {g : rk_G} {R : rk_R} : aX6_get g R 14 (bX6_get_14 g R) := (rk_ldc_ok dX6_get_14 wcX6_227 (rk_iret_ok rfl dX6_get_16))
def bX6_get_0 (g : rk_G) (R : rk_R) : rk_K := (rk_iload 1 (rk_cS g 1 yX6_isRow cX6_isRow 1 (some .boolean) 0 (rk_if_eq (bX6_get_14 g R) (rk_iload 2 (rk_cS g 1 yX6_isForm cX6_isForm 1 (some .boolean) 0 (rk_if_ne (rk_aload 0 (rk_gR 6 5 (rk_iload 1 (rk_aald (rk_astore 4 (rk_aload 4 (rk_iload 2 (rk_iload 3 (rk_cV g 2 3 yX3_faultOf cX3_faultOf 3 (some .int) 1 (rk_istore 5 (rk_iload 5 (rk_if_eq (rk_aload 4 (rk_gR 3 0 (rk_iload 3 (rk_iald (rk_iret R))))) (rk_aload 0 (rk_iload 5 (rk_cV g 1 6 yX6_found cX6_found 2 (some .int) 0 (rk_pop (rk_ci (-2147483648) (rk_iret R)))))))))))))))))) (bX6_get_14 g R)))))))
theorem eX6_get_0 (g : rk_G) (R : rk_R) (ls st : List Value) (σ : rk_M) : bX6_get_0 g R ls st σ = (rk_iload 1 (rk_cS g 1 yX6_isRow cX6_isRow 1 (some .boolean) 0 (rk_if_eq (bX6_get_14 g R) (rk_iload 2 (rk_cS g 1 yX6_isForm cX6_isForm 1 (some .boolean) 0 (rk_if_ne (rk_aload 0 (rk_gR 6 5 (rk_iload 1 (rk_aald (rk_astore 4 (rk_aload 4 (rk_iload 2 (rk_iload 3 (rk_cV g 2 3 yX3_faultOf cX3_faultOf 3 (some .int) 1 (rk_istore 5 (rk_iload 5 (rk_if_eq (rk_aload 4 (rk_gR 3 0 (rk_iload 3 (rk_iald (rk_iret R))))) (rk_aload 0 (rk_iload 5 (rk_cV g 1 6 yX6_found cX6_found 2 (some .int) 0 (rk_pop (rk_ci (-2147483648) (rk_iret R)))))))))))))))))) (bX6_get_14 g R))))))) ls st σ := rfl
theorem oX6_get_0 {g : rk_G} {R : rk_R} : aX6_get g R 0 (bX6_get_0 g R) := (rk_iload_n_ok dX6_get_0 rfl (rk_cS_ok dX6_get_1 npX6_isRow wmX6_93 wtX6_isRow wiX6 wdX6_isRow (by decide) (by decide) (rk_if_eq_ok (pc' := 14) dX6_get_4 (by decide) oX6_get_14 (rk_iload_n_ok dX6_get_7 rfl (rk_cS_ok dX6_get_8 npX6_isForm wmX6_212 wtX6_isForm wiX6 wdX6_isForm (by decide) (by decide) (rk_if_ne_ok (pc' := 17) dX6_get_11 (by decide) (rk_aload_n_ok dX6_get_17 rfl (rk_gR_ok dX6_get_18 rfl iX6 (by decide) rfl wfX6_52 (rk_iload_n_ok dX6_get_21 rfl (rk_aald_ok dX6_get_22 (rk_astore_ok dX6_get_23 (by decide) (rk_aload_ok dX6_get_25 (rk_iload_n_ok dX6_get_27 rfl (rk_iload_n_ok dX6_get_28 rfl (rk_cV_ok dX6_get_29 rfl rfl npX3_faultOf wmX6_221 wvX3_faultOf weX3_faultOf wiX3 wdX3_faultOf (by decide) (by decide) (rk_istore_ok dX6_get_32 (by decide) (rk_iload_ok dX6_get_34 (rk_if_eq_ok (pc' := 49) dX6_get_36 (by decide) (rk_aload_ok dX6_get_49 (rk_gR_ok dX6_get_51 rfl iX3 (by decide) rfl wfX6_104 (rk_iload_n_ok dX6_get_54 rfl (rk_iald_ok dX6_get_55 (rk_iret_ok rfl dX6_get_56))))) (rk_aload_n_ok dX6_get_39 rfl (rk_iload_ok dX6_get_40 (rk_cV_ok dX6_get_42 rfl rfl npX6_found wmX6_100 wvX6_found weX6_found wiX6 wdX6_found (by decide) (by decide) (rk_pop_ok dX6_get_45 (rk_ldc_ok dX6_get_46 wcX6_227 (rk_iret_ok rfl dX6_get_48)))))))))))))))))) oX6_get_14))))))
theorem dX6_count_0 : decode cX6_count 0 = .ok (.iload_n 1, 1) := by decide +kernel
theorem dX6_count_1 : decode cX6_count 1 = .ok (.tableswitch 127 0 8 #[51, 59, 67, 75, 83, 98, 106, 114, 122], 51) := by decide +kernel
theorem dX6_count_52 : decode cX6_count 52 = .ok (.aload_n 0, 1) := by decide +kernel
theorem dX6_count_53 : decode cX6_count 53 = .ok (.getfield 10, 3) := by decide +kernel
theorem dX6_count_56 : decode cX6_count 56 = .ok (.getfield 245, 3) := by decide +kernel
theorem dX6_count_59 : decode cX6_count 59 = .ok (.ireturn, 1) := by decide +kernel
theorem dX6_count_60 : decode cX6_count 60 = .ok (.aload_n 0, 1) := by decide +kernel
theorem dX6_count_61 : decode cX6_count 61 = .ok (.getfield 10, 3) := by decide +kernel
theorem dX6_count_64 : decode cX6_count 64 = .ok (.getfield 207, 3) := by decide +kernel
theorem dX6_count_67 : decode cX6_count 67 = .ok (.ireturn, 1) := by decide +kernel
theorem dX6_count_68 : decode cX6_count 68 = .ok (.aload_n 0, 1) := by decide +kernel
theorem dX6_count_69 : decode cX6_count 69 = .ok (.getfield 30, 3) := by decide +kernel
theorem dX6_count_72 : decode cX6_count 72 = .ok (.getfield 172, 3) := by decide +kernel
theorem dX6_count_75 : decode cX6_count 75 = .ok (.ireturn, 1) := by decide +kernel
theorem dX6_count_76 : decode cX6_count 76 = .ok (.aload_n 0, 1) := by decide +kernel
theorem dX6_count_77 : decode cX6_count 77 = .ok (.getfield 30, 3) := by decide +kernel
theorem dX6_count_80 : decode cX6_count 80 = .ok (.getfield 248, 3) := by decide +kernel
theorem dX6_count_83 : decode cX6_count 83 = .ok (.ireturn, 1) := by decide +kernel
theorem dX6_count_84 : decode cX6_count 84 = .ok (.aload_n 0, 1) := by decide +kernel
theorem dX6_count_85 : decode cX6_count 85 = .ok (.getfield 30, 3) := by decide +kernel
theorem dX6_count_88 : decode cX6_count 88 = .ok (.aload_n 0, 1) := by decide +kernel
theorem dX6_count_89 : decode cX6_count 89 = .ok (.getfield 30, 3) := by decide +kernel
theorem dX6_count_92 : decode cX6_count 92 = .ok (.invokevirtual 251, 3) := by decide +kernel
theorem dX6_count_95 : decode cX6_count 95 = .ok (.invokevirtual 254, 3) := by decide +kernel
theorem dX6_count_98 : decode cX6_count 98 = .ok (.ireturn, 1) := by decide +kernel
theorem dX6_count_99 : decode cX6_count 99 = .ok (.aload_n 0, 1) := by decide +kernel
theorem dX6_count_100 : decode cX6_count 100 = .ok (.getfield 30, 3) := by decide +kernel
theorem dX6_count_103 : decode cX6_count 103 = .ok (.invokevirtual 257, 3) := by decide +kernel
theorem dX6_count_106 : decode cX6_count 106 = .ok (.ireturn, 1) := by decide +kernel
theorem dX6_count_107 : decode cX6_count 107 = .ok (.aload_n 0, 1) := by decide +kernel
theorem dX6_count_108 : decode cX6_count 108 = .ok (.getfield 30, 3) := by decide +kernel
theorem dX6_count_111 : decode cX6_count 111 = .ok (.invokevirtual 260, 3) := by decide +kernel
theorem dX6_count_114 : decode cX6_count 114 = .ok (.ireturn, 1) := by decide +kernel
theorem dX6_count_115 : decode cX6_count 115 = .ok (.aload_n 0, 1) := by decide +kernel
theorem dX6_count_116 : decode cX6_count 116 = .ok (.getfield 21, 3) := by decide +kernel
theorem dX6_count_119 : decode cX6_count 119 = .ok (.getfield 263, 3) := by decide +kernel
theorem dX6_count_122 : decode cX6_count 122 = .ok (.ireturn, 1) := by decide +kernel
theorem dX6_count_123 : decode cX6_count 123 = .ok (.aload_n 0, 1) := by decide +kernel
theorem dX6_count_124 : decode cX6_count 124 = .ok (.getfield 57, 3) := by decide +kernel
theorem dX6_count_127 : decode cX6_count 127 = .ok (.ireturn, 1) := by decide +kernel
theorem dX6_count_128 : decode cX6_count 128 = .ok (.bipush (-2), 2) := by decide +kernel
theorem dX6_count_130 : decode cX6_count 130 = .ok (.ireturn, 1) := by decide +kernel
abbrev kX6_count (g : rk_G) (R : rk_R) (pc : Nat) : rk_K := rk_cut g cX6_count 2 (some .int) RX6 2 R pc
abbrev aX6_count (g : rk_G) (R : rk_R) (pc : Nat) (K : rk_K) : Prop := rk_AK g cX6_count 2 (some .int) RX6 2 R pc K
abbrev sX6_count (g : rk_G) (vs : List Value) (σ : rk_M) (R : rk_R) : Prop := rk_does g yX6_count cX6_count 2 (some .int) 2 vs σ R
abbrev tX6_count (g : rk_G) (R : rk_R) (pc : Nat) (ls st : List Value) (σ : rk_M) : Prop := rk_At g cX6_count 2 (some .int) RX6 2 R pc ls st σ
def bX6_count_0 (g : rk_G) (R : rk_R) : rk_K := (rk_iload 1 (rk_sw 0 [(rk_aload 0 (rk_gR 6 0 (rk_gI 2 7 (rk_iret R)))), (rk_aload 0 (rk_gR 6 0 (rk_gI 2 8 (rk_iret R)))), (rk_aload 0 (rk_gR 6 2 (rk_gI 4 11 (rk_iret R)))), (rk_aload 0 (rk_gR 6 2 (rk_gI 4 12 (rk_iret R)))), (rk_aload 0 (rk_gR 6 2 (rk_aload 0 (rk_gR 6 2 (rk_cV g 0 4 yX4_all cX4_all 1 (some .int) 0 (rk_cV g 1 4 yX4_lengthOf cX4_lengthOf 4 (some .int) 1 (rk_iret R))))))), (rk_aload 0 (rk_gR 6 2 (rk_cV g 0 4 yX4_howManyClosed cX4_howManyClosed 3 (some .int) 1 (rk_iret R)))), (rk_aload 0 (rk_gR 6 2 (rk_cV g 0 4 yX4_worthOfAll cX4_worthOfAll 1 (some .int) 0 (rk_iret R)))), (rk_aload 0 (rk_gR 6 1 (rk_gI 1 0 (rk_iret R)))), (rk_aload 0 (rk_gI 6 6 (rk_iret R)))] (rk_ci (-2) (rk_iret R))))
theorem eX6_count_0 (g : rk_G) (R : rk_R) (ls st : List Value) (σ : rk_M) : bX6_count_0 g R ls st σ = (rk_iload 1 (rk_sw 0 [(rk_aload 0 (rk_gR 6 0 (rk_gI 2 7 (rk_iret R)))), (rk_aload 0 (rk_gR 6 0 (rk_gI 2 8 (rk_iret R)))), (rk_aload 0 (rk_gR 6 2 (rk_gI 4 11 (rk_iret R)))), (rk_aload 0 (rk_gR 6 2 (rk_gI 4 12 (rk_iret R)))), (rk_aload 0 (rk_gR 6 2 (rk_aload 0 (rk_gR 6 2 (rk_cV g 0 4 yX4_all cX4_all 1 (some .int) 0 (rk_cV g 1 4 yX4_lengthOf cX4_lengthOf 4 (some .int) 1 (rk_iret R))))))), (rk_aload 0 (rk_gR 6 2 (rk_cV g 0 4 yX4_howManyClosed cX4_howManyClosed 3 (some .int) 1 (rk_iret R)))), (rk_aload 0 (rk_gR 6 2 (rk_cV g 0 4 yX4_worthOfAll cX4_worthOfAll 1 (some .int) 0 (rk_iret R)))), (rk_aload 0 (rk_gR 6 1 (rk_gI 1 0 (rk_iret R)))), (rk_aload 0 (rk_gI 6 6 (rk_iret R)))] (rk_ci (-2) (rk_iret R)))) ls st σ := rfl
theorem oX6_count_0 {g : rk_G} {R : rk_R} : aX6_count g R 0 (bX6_count_0 g R) := (rk_iload_n_ok dX6_count_0 rfl (rk_table_ok (pc' := 128) (tg := [52, 60, 68, 76, 84, 99, 107, 115, 123]) dX6_count_1 rfl (by decide) rfl (by decide) (fun j t K ht hk => match j, t, K, ht, hk with | 0, _, _, ht, hk => by cases ht; cases hk; exact (rk_aload_n_ok dX6_count_52 rfl (rk_gR_ok dX6_count_53 rfl iX6 (by decide) rfl wfX6_10 (rk_gI_ok dX6_count_56 rfl iX2 (by decide) rfl wfX6_245 (rk_iret_ok rfl dX6_count_59)))) | 1, _, _, ht, hk => by cases ht; cases hk; exact (rk_aload_n_ok dX6_count_60 rfl (rk_gR_ok dX6_count_61 rfl iX6 (by decide) rfl wfX6_10 (rk_gI_ok dX6_count_64 rfl iX2 (by decide) rfl wfX6_207 (rk_iret_ok rfl dX6_count_67)))) | 2, _, _, ht, hk => by cases ht; cases hk; exact (rk_aload_n_ok dX6_count_68 rfl (rk_gR_ok dX6_count_69 rfl iX6 (by decide) rfl wfX6_30 (rk_gI_ok dX6_count_72 rfl iX4 (by decide) rfl wfX6_172 (rk_iret_ok rfl dX6_count_75)))) | 3, _, _, ht, hk => by cases ht; cases hk; exact (rk_aload_n_ok dX6_count_76 rfl (rk_gR_ok dX6_count_77 rfl iX6 (by decide) rfl wfX6_30 (rk_gI_ok dX6_count_80 rfl iX4 (by decide) rfl wfX6_248 (rk_iret_ok rfl dX6_count_83)))) | 4, _, _, ht, hk => by cases ht; cases hk; exact (rk_aload_n_ok dX6_count_84 rfl (rk_gR_ok dX6_count_85 rfl iX6 (by decide) rfl wfX6_30 (rk_aload_n_ok dX6_count_88 rfl (rk_gR_ok dX6_count_89 rfl iX6 (by decide) rfl wfX6_30 (rk_cV_ok dX6_count_92 rfl rfl npX4_all wmX6_251 wvX4_all weX4_all wiX4 wdX4_all (by decide) (by decide) (rk_cV_ok dX6_count_95 rfl rfl npX4_lengthOf wmX6_254 wvX4_lengthOf weX4_lengthOf wiX4 wdX4_lengthOf (by decide) (by decide) (rk_iret_ok rfl dX6_count_98))))))) | 5, _, _, ht, hk => by cases ht; cases hk; exact (rk_aload_n_ok dX6_count_99 rfl (rk_gR_ok dX6_count_100 rfl iX6 (by decide) rfl wfX6_30 (rk_cV_ok dX6_count_103 rfl rfl npX4_howManyClosed wmX6_257 wvX4_howManyClosed weX4_howManyClosed wiX4 wdX4_howManyClosed (by decide) (by decide) (rk_iret_ok rfl dX6_count_106)))) | 6, _, _, ht, hk => by cases ht; cases hk; exact (rk_aload_n_ok dX6_count_107 rfl (rk_gR_ok dX6_count_108 rfl iX6 (by decide) rfl wfX6_30 (rk_cV_ok dX6_count_111 rfl rfl npX4_worthOfAll wmX6_260 wvX4_worthOfAll weX4_worthOfAll wiX4 wdX4_worthOfAll (by decide) (by decide) (rk_iret_ok rfl dX6_count_114)))) | 7, _, _, ht, hk => by cases ht; cases hk; exact (rk_aload_n_ok dX6_count_115 rfl (rk_gR_ok dX6_count_116 rfl iX6 (by decide) rfl wfX6_21 (rk_gI_ok dX6_count_119 rfl iX1 (by decide) rfl wfX6_263 (rk_iret_ok rfl dX6_count_122)))) | 8, _, _, ht, hk => by cases ht; cases hk; exact (rk_aload_n_ok dX6_count_123 rfl (rk_gI_ok dX6_count_124 rfl iX6 (by decide) rfl wfX6_57 (rk_iret_ok rfl dX6_count_127))) | (j + 9), _, _, ht, hk => by cases ht) (rk_bipush_ok dX6_count_128 (by decide) (rk_iret_ok rfl dX6_count_130))))
theorem dX6_mixStroke_0 : decode cX6_mixStroke 0 = .ok (.lload_n 1, 1) := by decide +kernel
theorem dX6_mixStroke_1 : decode cX6_mixStroke 1 = .ok (.lstore 4, 2) := by decide +kernel
theorem dX6_mixStroke_3 : decode cX6_mixStroke 3 = .ok (.iconst 0, 1) := by decide +kernel
theorem dX6_mixStroke_4 : decode cX6_mixStroke 4 = .ok (.istore 6, 2) := by decide +kernel
theorem dX6_mixStroke_6 : decode cX6_mixStroke 6 = .ok (.iload 6, 2) := by decide +kernel
theorem dX6_mixStroke_8 : decode cX6_mixStroke 8 = .ok (.bipush 6, 2) := by decide +kernel
theorem dX6_mixStroke_10 : decode cX6_mixStroke 10 = .ok (.if_icmp .gt 23, 3) := by decide +kernel
theorem dX6_mixStroke_13 : decode cX6_mixStroke 13 = .ok (.lload 4, 2) := by decide +kernel
theorem dX6_mixStroke_15 : decode cX6_mixStroke 15 = .ok (.aload_n 0, 1) := by decide +kernel
theorem dX6_mixStroke_16 : decode cX6_mixStroke 16 = .ok (.iload_n 3, 1) := by decide +kernel
theorem dX6_mixStroke_17 : decode cX6_mixStroke 17 = .ok (.iload 6, 2) := by decide +kernel
theorem dX6_mixStroke_19 : decode cX6_mixStroke 19 = .ok (.invokevirtual 298, 3) := by decide +kernel
theorem dX6_mixStroke_22 : decode cX6_mixStroke 22 = .ok (.invokestatic 270, 3) := by decide +kernel
theorem dX6_mixStroke_25 : decode cX6_mixStroke 25 = .ok (.lstore 4, 2) := by decide +kernel
theorem dX6_mixStroke_27 : decode cX6_mixStroke 27 = .ok (.iinc 6 1, 3) := by decide +kernel
theorem dX6_mixStroke_30 : decode cX6_mixStroke 30 = .ok (.goto (-24), 3) := by decide +kernel
theorem dX6_mixStroke_33 : decode cX6_mixStroke 33 = .ok (.lload 4, 2) := by decide +kernel
theorem dX6_mixStroke_35 : decode cX6_mixStroke 35 = .ok (.aload_n 0, 1) := by decide +kernel
theorem dX6_mixStroke_36 : decode cX6_mixStroke 36 = .ok (.iload_n 3, 1) := by decide +kernel
theorem dX6_mixStroke_37 : decode cX6_mixStroke 37 = .ok (.iconst 0, 1) := by decide +kernel
theorem dX6_mixStroke_38 : decode cX6_mixStroke 38 = .ok (.invokevirtual 301, 3) := by decide +kernel
theorem dX6_mixStroke_41 : decode cX6_mixStroke 41 = .ok (.invokestatic 270, 3) := by decide +kernel
theorem dX6_mixStroke_44 : decode cX6_mixStroke 44 = .ok (.lstore 4, 2) := by decide +kernel
theorem dX6_mixStroke_46 : decode cX6_mixStroke 46 = .ok (.lload 4, 2) := by decide +kernel
theorem dX6_mixStroke_48 : decode cX6_mixStroke 48 = .ok (.aload_n 0, 1) := by decide +kernel
theorem dX6_mixStroke_49 : decode cX6_mixStroke 49 = .ok (.iload_n 3, 1) := by decide +kernel
theorem dX6_mixStroke_50 : decode cX6_mixStroke 50 = .ok (.iconst 1, 1) := by decide +kernel
theorem dX6_mixStroke_51 : decode cX6_mixStroke 51 = .ok (.invokevirtual 301, 3) := by decide +kernel
theorem dX6_mixStroke_54 : decode cX6_mixStroke 54 = .ok (.invokestatic 270, 3) := by decide +kernel
theorem dX6_mixStroke_57 : decode cX6_mixStroke 57 = .ok (.lreturn, 1) := by decide +kernel
abbrev kX6_mixStroke (g : rk_G) (R : rk_R) (pc : Nat) : rk_K := rk_cut g cX6_mixStroke 7 (some .long) RX6 2 R pc
abbrev aX6_mixStroke (g : rk_G) (R : rk_R) (pc : Nat) (K : rk_K) : Prop := rk_AK g cX6_mixStroke 7 (some .long) RX6 2 R pc K
abbrev sX6_mixStroke (g : rk_G) (vs : List Value) (σ : rk_M) (R : rk_R) : Prop := rk_does g yX6_mixStroke cX6_mixStroke 7 (some .long) 2 vs σ R
abbrev tX6_mixStroke (g : rk_G) (R : rk_R) (pc : Nat) (ls st : List Value) (σ : rk_M) : Prop := rk_At g cX6_mixStroke 7 (some .long) RX6 2 R pc ls st σ
def bX6_mixStroke_6 (g : rk_G) (R : rk_R) : rk_K := (rk_iload 6 (rk_ci (6) (rk_icmp_gt (rk_lload 4 (rk_aload 0 (rk_iload 3 (rk_ci (0) (rk_cV g 2 6 yX6_rank cX6_rank 3 (some .int) 0 (rk_cS g 2 yX6_mixed cX6_mixed 3 (some .long) 0 (rk_lstore 4 (rk_lload 4 (rk_aload 0 (rk_iload 3 (rk_ci (1) (rk_cV g 2 6 yX6_rank cX6_rank 3 (some .int) 0 (rk_cS g 2 yX6_mixed cX6_mixed 3 (some .long) 0 (rk_lret R)))))))))))))) (rk_lload 4 (rk_aload 0 (rk_iload 3 (rk_iload 6 (rk_cV g 2 6 yX6_stroke cX6_stroke 3 (some .int) 1 (rk_cS g 2 yX6_mixed cX6_mixed 3 (some .long) 0 (rk_lstore 4 (rk_iinc 6 (1) (kX6_mixStroke g R 6))))))))))))
theorem eX6_mixStroke_6 (g : rk_G) (R : rk_R) (ls st : List Value) (σ : rk_M) : bX6_mixStroke_6 g R ls st σ = (rk_iload 6 (rk_ci (6) (rk_icmp_gt (rk_lload 4 (rk_aload 0 (rk_iload 3 (rk_ci (0) (rk_cV g 2 6 yX6_rank cX6_rank 3 (some .int) 0 (rk_cS g 2 yX6_mixed cX6_mixed 3 (some .long) 0 (rk_lstore 4 (rk_lload 4 (rk_aload 0 (rk_iload 3 (rk_ci (1) (rk_cV g 2 6 yX6_rank cX6_rank 3 (some .int) 0 (rk_cS g 2 yX6_mixed cX6_mixed 3 (some .long) 0 (rk_lret R)))))))))))))) (rk_lload 4 (rk_aload 0 (rk_iload 3 (rk_iload 6 (rk_cV g 2 6 yX6_stroke cX6_stroke 3 (some .int) 1 (rk_cS g 2 yX6_mixed cX6_mixed 3 (some .long) 0 (rk_lstore 4 (rk_iinc 6 (1) (kX6_mixStroke g R 6)))))))))))) ls st σ := rfl
theorem oX6_mixStroke_6 {g : rk_G} {R : rk_R} : aX6_mixStroke g R 6 (bX6_mixStroke_6 g R) := (rk_iload_ok dX6_mixStroke_6 (rk_bipush_ok dX6_mixStroke_8 (by decide) (rk_icmp_gt_ok (pc' := 33) dX6_mixStroke_10 (by decide) (rk_lload_ok dX6_mixStroke_33 (rk_aload_n_ok dX6_mixStroke_35 rfl (rk_iload_n_ok dX6_mixStroke_36 rfl (rk_iconst_ok dX6_mixStroke_37 (by decide) (rk_cV_ok dX6_mixStroke_38 rfl rfl npX6_rank wmX6_301 wvX6_rank weX6_rank wiX6 wdX6_rank (by decide) (by decide) (rk_cS_ok dX6_mixStroke_41 npX6_mixed wmX6_270 wtX6_mixed wiX6 wdX6_mixed (by decide) (by decide) (rk_lstore_ok dX6_mixStroke_44 (by decide) (rk_lload_ok dX6_mixStroke_46 (rk_aload_n_ok dX6_mixStroke_48 rfl (rk_iload_n_ok dX6_mixStroke_49 rfl (rk_iconst_ok dX6_mixStroke_50 (by decide) (rk_cV_ok dX6_mixStroke_51 rfl rfl npX6_rank wmX6_301 wvX6_rank weX6_rank wiX6 wdX6_rank (by decide) (by decide) (rk_cS_ok dX6_mixStroke_54 npX6_mixed wmX6_270 wtX6_mixed wiX6 wdX6_mixed (by decide) (by decide) (rk_lret_ok rfl dX6_mixStroke_57)))))))))))))) (rk_lload_ok dX6_mixStroke_13 (rk_aload_n_ok dX6_mixStroke_15 rfl (rk_iload_n_ok dX6_mixStroke_16 rfl (rk_iload_ok dX6_mixStroke_17 (rk_cV_ok dX6_mixStroke_19 rfl rfl npX6_stroke wmX6_298 wvX6_stroke weX6_stroke wiX6 wdX6_stroke (by decide) (by decide) (rk_cS_ok dX6_mixStroke_22 npX6_mixed wmX6_270 wtX6_mixed wiX6 wdX6_mixed (by decide) (by decide) (rk_lstore_ok dX6_mixStroke_25 (by decide) (rk_iinc_ok dX6_mixStroke_27 (by decide) (by decide) (rk_goto_ok (pc' := 6) dX6_mixStroke_30 (by decide) rk_cut_ok))))))))))))
def bX6_mixStroke_0 (g : rk_G) (R : rk_R) : rk_K := (rk_lload 1 (rk_lstore 4 (rk_ci (0) (rk_istore 6 (kX6_mixStroke g R 6)))))
theorem eX6_mixStroke_0 (g : rk_G) (R : rk_R) (ls st : List Value) (σ : rk_M) : bX6_mixStroke_0 g R ls st σ = (rk_lload 1 (rk_lstore 4 (rk_ci (0) (rk_istore 6 (kX6_mixStroke g R 6))))) ls st σ := rfl
theorem oX6_mixStroke_0 {g : rk_G} {R : rk_R} : aX6_mixStroke g R 0 (bX6_mixStroke_0 g R) := (rk_lload_n_ok dX6_mixStroke_0 rfl (rk_lstore_ok dX6_mixStroke_1 (by decide) (rk_iconst_ok dX6_mixStroke_3 (by decide) (rk_istore_ok dX6_mixStroke_4 (by decide) rk_cut_ok))))
theorem dX0_leastDeadEnd_0 : decode cX0_leastDeadEnd 0 = .ok (.iconst (-1), 1) := by decide +kernel
theorem dX0_leastDeadEnd_1 : decode cX0_leastDeadEnd 1 = .ok (.istore_n 2, 1) := by decide +kernel
theorem dX0_leastDeadEnd_2 : decode cX0_leastDeadEnd 2 = .ok (.iload_n 1, 1) := by decide +kernel
theorem dX0_leastDeadEnd_3 : decode cX0_leastDeadEnd 3 = .ok (.istore_n 3, 1) := by decide +kernel
theorem dX0_leastDeadEnd_4 : decode cX0_leastDeadEnd 4 = .ok (.aload_n 0, 1) := by decide +kernel
theorem dX0_leastDeadEnd_5 : decode cX0_leastDeadEnd 5 = .ok (.getfield 21, 3) := by decide +kernel
theorem dX0_leastDeadEnd_8 : decode cX0_leastDeadEnd 8 = .ok (.getfield 34, 3) := by decide +kernel
theorem dX0_leastDeadEnd_11 : decode cX0_leastDeadEnd 11 = .ok (.iconst 1, 1) := by decide +kernel
theorem dX0_leastDeadEnd_12 : decode cX0_leastDeadEnd 12 = .ok (.isub, 1) := by decide +kernel
theorem dX0_leastDeadEnd_13 : decode cX0_leastDeadEnd 13 = .ok (.istore 4, 2) := by decide +kernel
theorem dX0_leastDeadEnd_15 : decode cX0_leastDeadEnd 15 = .ok (.iload 4, 2) := by decide +kernel
theorem dX0_leastDeadEnd_17 : decode cX0_leastDeadEnd 17 = .ok (.ifCond .lt 58, 3) := by decide +kernel
theorem dX0_leastDeadEnd_20 : decode cX0_leastDeadEnd 20 = .ok (.aload_n 0, 1) := by decide +kernel
theorem dX0_leastDeadEnd_21 : decode cX0_leastDeadEnd 21 = .ok (.getfield 9, 3) := by decide +kernel
theorem dX0_leastDeadEnd_24 : decode cX0_leastDeadEnd 24 = .ok (.iload 4, 2) := by decide +kernel
theorem dX0_leastDeadEnd_26 : decode cX0_leastDeadEnd 26 = .ok (.invokestatic 37, 3) := by decide +kernel
theorem dX0_leastDeadEnd_29 : decode cX0_leastDeadEnd 29 = .ok (.ifCond .eq 40, 3) := by decide +kernel
theorem dX0_leastDeadEnd_32 : decode cX0_leastDeadEnd 32 = .ok (.aload_n 0, 1) := by decide +kernel
theorem dX0_leastDeadEnd_33 : decode cX0_leastDeadEnd 33 = .ok (.getfield 21, 3) := by decide +kernel
theorem dX0_leastDeadEnd_36 : decode cX0_leastDeadEnd 36 = .ok (.getfield 41, 3) := by decide +kernel
theorem dX0_leastDeadEnd_39 : decode cX0_leastDeadEnd 39 = .ok (.iload 4, 2) := by decide +kernel
theorem dX0_leastDeadEnd_41 : decode cX0_leastDeadEnd 41 = .ok (.iaload, 1) := by decide +kernel
theorem dX0_leastDeadEnd_42 : decode cX0_leastDeadEnd 42 = .ok (.iload_n 3, 1) := by decide +kernel
theorem dX0_leastDeadEnd_43 : decode cX0_leastDeadEnd 43 = .ok (.if_icmp .ge 26, 3) := by decide +kernel
theorem dX0_leastDeadEnd_46 : decode cX0_leastDeadEnd 46 = .ok (.aload_n 0, 1) := by decide +kernel
theorem dX0_leastDeadEnd_47 : decode cX0_leastDeadEnd 47 = .ok (.iload 4, 2) := by decide +kernel
theorem dX0_leastDeadEnd_49 : decode cX0_leastDeadEnd 49 = .ok (.invokevirtual 45, 3) := by decide +kernel
theorem dX0_leastDeadEnd_52 : decode cX0_leastDeadEnd 52 = .ok (.ifCond .eq 17, 3) := by decide +kernel
theorem dX0_leastDeadEnd_55 : decode cX0_leastDeadEnd 55 = .ok (.iload 4, 2) := by decide +kernel
theorem dX0_leastDeadEnd_57 : decode cX0_leastDeadEnd 57 = .ok (.istore_n 2, 1) := by decide +kernel
theorem dX0_leastDeadEnd_58 : decode cX0_leastDeadEnd 58 = .ok (.aload_n 0, 1) := by decide +kernel
theorem dX0_leastDeadEnd_59 : decode cX0_leastDeadEnd 59 = .ok (.getfield 21, 3) := by decide +kernel
theorem dX0_leastDeadEnd_62 : decode cX0_leastDeadEnd 62 = .ok (.getfield 41, 3) := by decide +kernel
theorem dX0_leastDeadEnd_65 : decode cX0_leastDeadEnd 65 = .ok (.iload 4, 2) := by decide +kernel
theorem dX0_leastDeadEnd_67 : decode cX0_leastDeadEnd 67 = .ok (.iaload, 1) := by decide +kernel
theorem dX0_leastDeadEnd_68 : decode cX0_leastDeadEnd 68 = .ok (.istore_n 3, 1) := by decide +kernel
theorem dX0_leastDeadEnd_69 : decode cX0_leastDeadEnd 69 = .ok (.iinc 4 (-1), 3) := by decide +kernel
theorem dX0_leastDeadEnd_72 : decode cX0_leastDeadEnd 72 = .ok (.goto (-57), 3) := by decide +kernel
theorem dX0_leastDeadEnd_75 : decode cX0_leastDeadEnd 75 = .ok (.iload_n 2, 1) := by decide +kernel
theorem dX0_leastDeadEnd_76 : decode cX0_leastDeadEnd 76 = .ok (.ireturn, 1) := by decide +kernel
abbrev kX0_leastDeadEnd (g : rk_G) (R : rk_R) (pc : Nat) : rk_K := rk_cut g cX0_leastDeadEnd 5 (some .int) RX0 3 R pc
abbrev aX0_leastDeadEnd (g : rk_G) (R : rk_R) (pc : Nat) (K : rk_K) : Prop := rk_AK g cX0_leastDeadEnd 5 (some .int) RX0 3 R pc K
abbrev sX0_leastDeadEnd (g : rk_G) (vs : List Value) (σ : rk_M) (R : rk_R) : Prop := rk_does g yX0_leastDeadEnd cX0_leastDeadEnd 5 (some .int) 3 vs σ R
abbrev tX0_leastDeadEnd (g : rk_G) (R : rk_R) (pc : Nat) (ls st : List Value) (σ : rk_M) : Prop := rk_At g cX0_leastDeadEnd 5 (some .int) RX0 3 R pc ls st σ
def bX0_leastDeadEnd_69 (g : rk_G) (R : rk_R) : rk_K := (rk_iinc 4 (-1) (kX0_leastDeadEnd g R 15))
theorem eX0_leastDeadEnd_69 (g : rk_G) (R : rk_R) (ls st : List Value) (σ : rk_M) : bX0_leastDeadEnd_69 g R ls st σ = (rk_iinc 4 (-1) (kX0_leastDeadEnd g R 15)) ls st σ := rfl
theorem oX0_leastDeadEnd_69 {g : rk_G} {R : rk_R} : aX0_leastDeadEnd g R 69 (bX0_leastDeadEnd_69 g R) := (rk_iinc_ok dX0_leastDeadEnd_69 (by decide) (by decide) (rk_goto_ok (pc' := 15) dX0_leastDeadEnd_72 (by decide) rk_cut_ok))
def bX0_leastDeadEnd_15 (g : rk_G) (R : rk_R) : rk_K := (rk_iload 4 (rk_if_lt (rk_iload 2 (rk_iret R)) (rk_aload 0 (rk_gI 0 1 (rk_iload 4 (rk_cS g 2 yX6_hasBit cX6_hasBit 2 (some .boolean) 0 (rk_if_eq (bX0_leastDeadEnd_69 g R) (rk_aload 0 (rk_gR 0 0 (rk_gR 4 3 (rk_iload 4 (rk_iald (rk_iload 3 (rk_icmp_ge (bX0_leastDeadEnd_69 g R) (rk_aload 0 (rk_iload 4 (rk_cV g 1 0 yX0_mayGo cX0_mayGo 4 (some .boolean) 2 (rk_if_eq (bX0_leastDeadEnd_69 g R) (rk_iload 4 (rk_istore 2 (rk_aload 0 (rk_gR 0 0 (rk_gR 4 3 (rk_iload 4 (rk_iald (rk_istore 3 (bX0_leastDeadEnd_69 g R)))))))))))))))))))))))))))
theorem eX0_leastDeadEnd_15 (g : rk_G) (R : rk_R) (ls st : List Value) (σ : rk_M) : bX0_leastDeadEnd_15 g R ls st σ = (rk_iload 4 (rk_if_lt (rk_iload 2 (rk_iret R)) (rk_aload 0 (rk_gI 0 1 (rk_iload 4 (rk_cS g 2 yX6_hasBit cX6_hasBit 2 (some .boolean) 0 (rk_if_eq (bX0_leastDeadEnd_69 g R) (rk_aload 0 (rk_gR 0 0 (rk_gR 4 3 (rk_iload 4 (rk_iald (rk_iload 3 (rk_icmp_ge (bX0_leastDeadEnd_69 g R) (rk_aload 0 (rk_iload 4 (rk_cV g 1 0 yX0_mayGo cX0_mayGo 4 (some .boolean) 2 (rk_if_eq (bX0_leastDeadEnd_69 g R) (rk_iload 4 (rk_istore 2 (rk_aload 0 (rk_gR 0 0 (rk_gR 4 3 (rk_iload 4 (rk_iald (rk_istore 3 (bX0_leastDeadEnd_69 g R))))))))))))))))))))))))))) ls st σ := rfl
theorem oX0_leastDeadEnd_15 {g : rk_G} {R : rk_R} : aX0_leastDeadEnd g R 15 (bX0_leastDeadEnd_15 g R) := (rk_iload_ok dX0_leastDeadEnd_15 (rk_if_lt_ok (pc' := 75) dX0_leastDeadEnd_17 (by decide) (rk_iload_n_ok dX0_leastDeadEnd_75 rfl (rk_iret_ok rfl dX0_leastDeadEnd_76)) (rk_aload_n_ok dX0_leastDeadEnd_20 rfl (rk_gI_ok dX0_leastDeadEnd_21 rfl iX0 (by decide) rfl wfX0_9 (rk_iload_ok dX0_leastDeadEnd_24 (rk_cN_ok dX0_leastDeadEnd_26 npX6_hasBit wnX0_37 wtX6_hasBit wiX6 wdX6_hasBit (by decide) (by decide) (rk_if_eq_ok (pc' := 69) dX0_leastDeadEnd_29 (by decide) oX0_leastDeadEnd_69 (rk_aload_n_ok dX0_leastDeadEnd_32 rfl (rk_gR_ok dX0_leastDeadEnd_33 rfl iX0 (by decide) rfl wfX0_21 (rk_gR_ok dX0_leastDeadEnd_36 rfl iX4 (by decide) rfl wfX0_41 (rk_iload_ok dX0_leastDeadEnd_39 (rk_iald_ok dX0_leastDeadEnd_41 (rk_iload_n_ok dX0_leastDeadEnd_42 rfl (rk_icmp_ge_ok (pc' := 69) dX0_leastDeadEnd_43 (by decide) oX0_leastDeadEnd_69 (rk_aload_n_ok dX0_leastDeadEnd_46 rfl (rk_iload_ok dX0_leastDeadEnd_47 (rk_cV_ok dX0_leastDeadEnd_49 rfl rfl npX0_mayGo wmX0_45 wvX0_mayGo weX0_mayGo wiX0 wdX0_mayGo (by decide) (by decide) (rk_if_eq_ok (pc' := 69) dX0_leastDeadEnd_52 (by decide) oX0_leastDeadEnd_69 (rk_iload_ok dX0_leastDeadEnd_55 (rk_istore_n_ok dX0_leastDeadEnd_57 rfl (by decide) (rk_aload_n_ok dX0_leastDeadEnd_58 rfl (rk_gR_ok dX0_leastDeadEnd_59 rfl iX0 (by decide) rfl wfX0_21 (rk_gR_ok dX0_leastDeadEnd_62 rfl iX4 (by decide) rfl wfX0_41 (rk_iload_ok dX0_leastDeadEnd_65 (rk_iald_ok dX0_leastDeadEnd_67 (rk_istore_n_ok dX0_leastDeadEnd_68 rfl (by decide) oX0_leastDeadEnd_69))))))))))))))))))))))))))
def bX0_leastDeadEnd_0 (g : rk_G) (R : rk_R) : rk_K := (rk_ci (-1) (rk_istore 2 (rk_iload 1 (rk_istore 3 (rk_aload 0 (rk_gR 0 0 (rk_gI 4 11 (rk_ci (1) (rk_isub (rk_istore 4 (kX0_leastDeadEnd g R 15)))))))))))
theorem eX0_leastDeadEnd_0 (g : rk_G) (R : rk_R) (ls st : List Value) (σ : rk_M) : bX0_leastDeadEnd_0 g R ls st σ = (rk_ci (-1) (rk_istore 2 (rk_iload 1 (rk_istore 3 (rk_aload 0 (rk_gR 0 0 (rk_gI 4 11 (rk_ci (1) (rk_isub (rk_istore 4 (kX0_leastDeadEnd g R 15))))))))))) ls st σ := rfl
theorem oX0_leastDeadEnd_0 {g : rk_G} {R : rk_R} : aX0_leastDeadEnd g R 0 (bX0_leastDeadEnd_0 g R) := (rk_iconst_ok dX0_leastDeadEnd_0 (by decide) (rk_istore_n_ok dX0_leastDeadEnd_1 rfl (by decide) (rk_iload_n_ok dX0_leastDeadEnd_2 rfl (rk_istore_n_ok dX0_leastDeadEnd_3 rfl (by decide) (rk_aload_n_ok dX0_leastDeadEnd_4 rfl (rk_gR_ok dX0_leastDeadEnd_5 rfl iX0 (by decide) rfl wfX0_21 (rk_gI_ok dX0_leastDeadEnd_8 rfl iX4 (by decide) rfl wfX0_34 (rk_iconst_ok dX0_leastDeadEnd_11 (by decide) (rk_isub_ok dX0_leastDeadEnd_12 (rk_istore_ok dX0_leastDeadEnd_13 (by decide) rk_cut_ok))))))))))
theorem dX1_joinAt_0 : decode cX1_joinAt 0 = .ok (.aload_n 0, 1) := by decide +kernel
theorem dX1_joinAt_1 : decode cX1_joinAt 1 = .ok (.iload_n 1, 1) := by decide +kernel
theorem dX1_joinAt_2 : decode cX1_joinAt 2 = .ok (.invokevirtual 86, 3) := by decide +kernel
theorem dX1_joinAt_5 : decode cX1_joinAt 5 = .ok (.iconst 0, 1) := by decide +kernel
theorem dX1_joinAt_6 : decode cX1_joinAt 6 = .ok (.istore_n 2, 1) := by decide +kernel
theorem dX1_joinAt_7 : decode cX1_joinAt 7 = .ok (.iload_n 2, 1) := by decide +kernel
theorem dX1_joinAt_8 : decode cX1_joinAt 8 = .ok (.bipush 24, 2) := by decide +kernel
theorem dX1_joinAt_10 : decode cX1_joinAt 10 = .ok (.if_icmp .ge 84, 3) := by decide +kernel
theorem dX1_joinAt_13 : decode cX1_joinAt 13 = .ok (.aload_n 0, 1) := by decide +kernel
theorem dX1_joinAt_14 : decode cX1_joinAt 14 = .ok (.invokevirtual 89, 3) := by decide +kernel
theorem dX1_joinAt_17 : decode cX1_joinAt 17 = .ok (.aload_n 0, 1) := by decide +kernel
theorem dX1_joinAt_18 : decode cX1_joinAt 18 = .ok (.getfield 34, 3) := by decide +kernel
theorem dX1_joinAt_21 : decode cX1_joinAt 21 = .ok (.iconst (-1), 1) := by decide +kernel
theorem dX1_joinAt_22 : decode cX1_joinAt 22 = .ok (.if_icmp .ne 6, 3) := by decide +kernel
theorem dX1_joinAt_25 : decode cX1_joinAt 25 = .ok (.goto 69, 3) := by decide +kernel
theorem dX1_joinAt_28 : decode cX1_joinAt 28 = .ok (.aload_n 0, 1) := by decide +kernel
theorem dX1_joinAt_29 : decode cX1_joinAt 29 = .ok (.iload_n 1, 1) := by decide +kernel
theorem dX1_joinAt_30 : decode cX1_joinAt 30 = .ok (.aload_n 0, 1) := by decide +kernel
theorem dX1_joinAt_31 : decode cX1_joinAt 31 = .ok (.getfield 22, 3) := by decide +kernel
theorem dX1_joinAt_34 : decode cX1_joinAt 34 = .ok (.aload_n 0, 1) := by decide +kernel
theorem dX1_joinAt_35 : decode cX1_joinAt 35 = .ok (.getfield 34, 3) := by decide +kernel
theorem dX1_joinAt_38 : decode cX1_joinAt 38 = .ok (.iaload, 1) := by decide +kernel
theorem dX1_joinAt_39 : decode cX1_joinAt 39 = .ok (.aload_n 0, 1) := by decide +kernel
theorem dX1_joinAt_40 : decode cX1_joinAt 40 = .ok (.getfield 22, 3) := by decide +kernel
theorem dX1_joinAt_43 : decode cX1_joinAt 43 = .ok (.aload_n 0, 1) := by decide +kernel
theorem dX1_joinAt_44 : decode cX1_joinAt 44 = .ok (.getfield 37, 3) := by decide +kernel
theorem dX1_joinAt_47 : decode cX1_joinAt 47 = .ok (.iaload, 1) := by decide +kernel
theorem dX1_joinAt_48 : decode cX1_joinAt 48 = .ok (.invokevirtual 92, 3) := by decide +kernel
theorem dX1_joinAt_51 : decode cX1_joinAt 51 = .ok (.aload_n 0, 1) := by decide +kernel
theorem dX1_joinAt_52 : decode cX1_joinAt 52 = .ok (.iload_n 1, 1) := by decide +kernel
theorem dX1_joinAt_53 : decode cX1_joinAt 53 = .ok (.aload_n 0, 1) := by decide +kernel
theorem dX1_joinAt_54 : decode cX1_joinAt 54 = .ok (.getfield 22, 3) := by decide +kernel
theorem dX1_joinAt_57 : decode cX1_joinAt 57 = .ok (.aload_n 0, 1) := by decide +kernel
theorem dX1_joinAt_58 : decode cX1_joinAt 58 = .ok (.getfield 37, 3) := by decide +kernel
theorem dX1_joinAt_61 : decode cX1_joinAt 61 = .ok (.iaload, 1) := by decide +kernel
theorem dX1_joinAt_62 : decode cX1_joinAt 62 = .ok (.aload_n 0, 1) := by decide +kernel
theorem dX1_joinAt_63 : decode cX1_joinAt 63 = .ok (.getfield 22, 3) := by decide +kernel
theorem dX1_joinAt_66 : decode cX1_joinAt 66 = .ok (.aload_n 0, 1) := by decide +kernel
theorem dX1_joinAt_67 : decode cX1_joinAt 67 = .ok (.getfield 34, 3) := by decide +kernel
theorem dX1_joinAt_70 : decode cX1_joinAt 70 = .ok (.iaload, 1) := by decide +kernel
theorem dX1_joinAt_71 : decode cX1_joinAt 71 = .ok (.invokevirtual 92, 3) := by decide +kernel
theorem dX1_joinAt_74 : decode cX1_joinAt 74 = .ok (.aload_n 0, 1) := by decide +kernel
theorem dX1_joinAt_75 : decode cX1_joinAt 75 = .ok (.dup, 1) := by decide +kernel
theorem dX1_joinAt_76 : decode cX1_joinAt 76 = .ok (.getfield 9, 3) := by decide +kernel
theorem dX1_joinAt_79 : decode cX1_joinAt 79 = .ok (.iconst 1, 1) := by decide +kernel
theorem dX1_joinAt_80 : decode cX1_joinAt 80 = .ok (.iadd, 1) := by decide +kernel
theorem dX1_joinAt_81 : decode cX1_joinAt 81 = .ok (.putfield 9, 3) := by decide +kernel
theorem dX1_joinAt_84 : decode cX1_joinAt 84 = .ok (.aload_n 0, 1) := by decide +kernel
theorem dX1_joinAt_85 : decode cX1_joinAt 85 = .ok (.invokevirtual 96, 3) := by decide +kernel
theorem dX1_joinAt_88 : decode cX1_joinAt 88 = .ok (.iinc 2 1, 3) := by decide +kernel
theorem dX1_joinAt_91 : decode cX1_joinAt 91 = .ok (.goto (-84), 3) := by decide +kernel
theorem dX1_joinAt_94 : decode cX1_joinAt 94 = .ok (.return_, 1) := by decide +kernel
abbrev kX1_joinAt (g : rk_G) (R : rk_R) (pc : Nat) : rk_K := rk_cut g cX1_joinAt 3 none RX1 3 R pc
abbrev aX1_joinAt (g : rk_G) (R : rk_R) (pc : Nat) (K : rk_K) : Prop := rk_AK g cX1_joinAt 3 none RX1 3 R pc K
abbrev sX1_joinAt (g : rk_G) (vs : List Value) (σ : rk_M) (R : rk_R) : Prop := rk_does g yX1_joinAt cX1_joinAt 3 none 3 vs σ R
abbrev tX1_joinAt (g : rk_G) (R : rk_R) (pc : Nat) (ls st : List Value) (σ : rk_M) : Prop := rk_At g cX1_joinAt 3 none RX1 3 R pc ls st σ
def bX1_joinAt_94 (g : rk_G) (R : rk_R) : rk_K := (rk_vret R)
theorem eX1_joinAt_94 (g : rk_G) (R : rk_R) (ls st : List Value) (σ : rk_M) : bX1_joinAt_94 g R ls st σ = (rk_vret R) ls st σ := rfl
theorem oX1_joinAt_94 {g : rk_G} {R : rk_R} : aX1_joinAt g R 94 (bX1_joinAt_94 g R) := (rk_vret_ok rfl dX1_joinAt_94)
def bX1_joinAt_7 (g : rk_G) (R : rk_R) : rk_K := (rk_iload 2 (rk_ci (24) (rk_icmp_ge (bX1_joinAt_94 g R) (rk_aload 0 (rk_cV g 0 1 yX1_findStraightest cX1_findStraightest 3 none 2 (rk_aload 0 (rk_gI 1 8 (rk_ci (-1) (rk_icmp_ne (rk_aload 0 (rk_iload 1 (rk_aload 0 (rk_gR 1 4 (rk_aload 0 (rk_gI 1 8 (rk_iald (rk_aload 0 (rk_gR 1 4 (rk_aload 0 (rk_gI 1 9 (rk_iald (rk_cV g 3 1 yX1_setPartner cX1_setPartner 4 none 0 (rk_aload 0 (rk_iload 1 (rk_aload 0 (rk_gR 1 4 (rk_aload 0 (rk_gI 1 9 (rk_iald (rk_aload 0 (rk_gR 1 4 (rk_aload 0 (rk_gI 1 8 (rk_iald (rk_cV g 3 1 yX1_setPartner cX1_setPartner 4 none 0 (rk_aload 0 (rk_dup (rk_gI 1 0 (rk_ci (1) (rk_iadd (rk_pI 1 0 (rk_aload 0 (rk_cV g 0 1 yX1_dropBest cX1_dropBest 3 none 0 (rk_iinc 2 (1) (kX1_joinAt g R 7)))))))))))))))))))))))))))))))))))) (bX1_joinAt_94 g R))))))))))
theorem eX1_joinAt_7 (g : rk_G) (R : rk_R) (ls st : List Value) (σ : rk_M) : bX1_joinAt_7 g R ls st σ = (rk_iload 2 (rk_ci (24) (rk_icmp_ge (bX1_joinAt_94 g R) (rk_aload 0 (rk_cV g 0 1 yX1_findStraightest cX1_findStraightest 3 none 2 (rk_aload 0 (rk_gI 1 8 (rk_ci (-1) (rk_icmp_ne (rk_aload 0 (rk_iload 1 (rk_aload 0 (rk_gR 1 4 (rk_aload 0 (rk_gI 1 8 (rk_iald (rk_aload 0 (rk_gR 1 4 (rk_aload 0 (rk_gI 1 9 (rk_iald (rk_cV g 3 1 yX1_setPartner cX1_setPartner 4 none 0 (rk_aload 0 (rk_iload 1 (rk_aload 0 (rk_gR 1 4 (rk_aload 0 (rk_gI 1 9 (rk_iald (rk_aload 0 (rk_gR 1 4 (rk_aload 0 (rk_gI 1 8 (rk_iald (rk_cV g 3 1 yX1_setPartner cX1_setPartner 4 none 0 (rk_aload 0 (rk_dup (rk_gI 1 0 (rk_ci (1) (rk_iadd (rk_pI 1 0 (rk_aload 0 (rk_cV g 0 1 yX1_dropBest cX1_dropBest 3 none 0 (rk_iinc 2 (1) (kX1_joinAt g R 7)))))))))))))))))))))))))))))))))))) (bX1_joinAt_94 g R)))))))))) ls st σ := rfl
theorem oX1_joinAt_7 {g : rk_G} {R : rk_R} : aX1_joinAt g R 7 (bX1_joinAt_7 g R) := (rk_iload_n_ok dX1_joinAt_7 rfl (rk_bipush_ok dX1_joinAt_8 (by decide) (rk_icmp_ge_ok (pc' := 94) dX1_joinAt_10 (by decide) oX1_joinAt_94 (rk_aload_n_ok dX1_joinAt_13 rfl (rk_cV_ok dX1_joinAt_14 rfl rfl npX1_findStraightest wmX1_89 wvX1_findStraightest weX1_findStraightest wiX1 wdX1_findStraightest (by decide) (by decide) (rk_aload_n_ok dX1_joinAt_17 rfl (rk_gI_ok dX1_joinAt_18 rfl iX1 (by decide) rfl wfX1_34 (rk_iconst_ok dX1_joinAt_21 (by decide) (rk_icmp_ne_ok (pc' := 28) dX1_joinAt_22 (by decide) (rk_aload_n_ok dX1_joinAt_28 rfl (rk_iload_n_ok dX1_joinAt_29 rfl (rk_aload_n_ok dX1_joinAt_30 rfl (rk_gR_ok dX1_joinAt_31 rfl iX1 (by decide) rfl wfX1_22 (rk_aload_n_ok dX1_joinAt_34 rfl (rk_gI_ok dX1_joinAt_35 rfl iX1 (by decide) rfl wfX1_34 (rk_iald_ok dX1_joinAt_38 (rk_aload_n_ok dX1_joinAt_39 rfl (rk_gR_ok dX1_joinAt_40 rfl iX1 (by decide) rfl wfX1_22 (rk_aload_n_ok dX1_joinAt_43 rfl (rk_gI_ok dX1_joinAt_44 rfl iX1 (by decide) rfl wfX1_37 (rk_iald_ok dX1_joinAt_47 (rk_cV_ok dX1_joinAt_48 rfl rfl npX1_setPartner wmX1_92 wvX1_setPartner weX1_setPartner wiX1 wdX1_setPartner (by decide) (by decide) (rk_aload_n_ok dX1_joinAt_51 rfl (rk_iload_n_ok dX1_joinAt_52 rfl (rk_aload_n_ok dX1_joinAt_53 rfl (rk_gR_ok dX1_joinAt_54 rfl iX1 (by decide) rfl wfX1_22 (rk_aload_n_ok dX1_joinAt_57 rfl (rk_gI_ok dX1_joinAt_58 rfl iX1 (by decide) rfl wfX1_37 (rk_iald_ok dX1_joinAt_61 (rk_aload_n_ok dX1_joinAt_62 rfl (rk_gR_ok dX1_joinAt_63 rfl iX1 (by decide) rfl wfX1_22 (rk_aload_n_ok dX1_joinAt_66 rfl (rk_gI_ok dX1_joinAt_67 rfl iX1 (by decide) rfl wfX1_34 (rk_iald_ok dX1_joinAt_70 (rk_cV_ok dX1_joinAt_71 rfl rfl npX1_setPartner wmX1_92 wvX1_setPartner weX1_setPartner wiX1 wdX1_setPartner (by decide) (by decide) (rk_aload_n_ok dX1_joinAt_74 rfl (rk_dup_ok dX1_joinAt_75 (rk_gI_ok dX1_joinAt_76 rfl iX1 (by decide) rfl wfX1_9 (rk_iconst_ok dX1_joinAt_79 (by decide) (rk_iadd_ok dX1_joinAt_80 (rk_pI_ok dX1_joinAt_81 rfl iX1 tyX1_ok nmX1 (by decide) rfl rfl (by decide +kernel) wfX1_9 (rk_aload_n_ok dX1_joinAt_84 rfl (rk_cV_ok dX1_joinAt_85 rfl rfl npX1_dropBest wmX1_96 wvX1_dropBest weX1_dropBest wiX1 wdX1_dropBest (by decide) (by decide) (rk_iinc_ok dX1_joinAt_88 (by decide) (by decide) (rk_goto_ok (pc' := 7) dX1_joinAt_91 (by decide) rk_cut_ok)))))))))))))))))))))))))))))))))))) (rk_goto_ok (pc' := 94) dX1_joinAt_25 (by decide) oX1_joinAt_94))))))))))
def bX1_joinAt_0 (g : rk_G) (R : rk_R) : rk_K := (rk_aload 0 (rk_iload 1 (rk_cV g 1 1 yX1_gatherFree cX1_gatherFree 3 none 1 (rk_ci (0) (rk_istore 2 (kX1_joinAt g R 7))))))
theorem eX1_joinAt_0 (g : rk_G) (R : rk_R) (ls st : List Value) (σ : rk_M) : bX1_joinAt_0 g R ls st σ = (rk_aload 0 (rk_iload 1 (rk_cV g 1 1 yX1_gatherFree cX1_gatherFree 3 none 1 (rk_ci (0) (rk_istore 2 (kX1_joinAt g R 7)))))) ls st σ := rfl
theorem oX1_joinAt_0 {g : rk_G} {R : rk_R} : aX1_joinAt g R 0 (bX1_joinAt_0 g R) := (rk_aload_n_ok dX1_joinAt_0 rfl (rk_iload_n_ok dX1_joinAt_1 rfl (rk_cV_ok dX1_joinAt_2 rfl rfl npX1_gatherFree wmX1_86 wvX1_gatherFree weX1_gatherFree wiX1 wdX1_gatherFree (by decide) (by decide) (rk_iconst_ok dX1_joinAt_5 (by decide) (rk_istore_n_ok dX1_joinAt_6 rfl (by decide) rk_cut_ok)))))
theorem dX4_settle_0 : decode cX4_settle 0 = .ok (.aload_n 0, 1) := by decide +kernel
theorem dX4_settle_1 : decode cX4_settle 1 = .ok (.invokevirtual 63, 3) := by decide +kernel
theorem dX4_settle_4 : decode cX4_settle 4 = .ok (.iconst 0, 1) := by decide +kernel
theorem dX4_settle_5 : decode cX4_settle 5 = .ok (.istore_n 1, 1) := by decide +kernel
theorem dX4_settle_6 : decode cX4_settle 6 = .ok (.iload_n 1, 1) := by decide +kernel
theorem dX4_settle_7 : decode cX4_settle 7 = .ok (.aload_n 0, 1) := by decide +kernel
theorem dX4_settle_8 : decode cX4_settle 8 = .ok (.getfield 45, 3) := by decide +kernel
theorem dX4_settle_11 : decode cX4_settle 11 = .ok (.if_icmp .ge 14, 3) := by decide +kernel
theorem dX4_settle_14 : decode cX4_settle 14 = .ok (.aload_n 0, 1) := by decide +kernel
theorem dX4_settle_15 : decode cX4_settle 15 = .ok (.iload_n 1, 1) := by decide +kernel
theorem dX4_settle_16 : decode cX4_settle 16 = .ok (.invokevirtual 66, 3) := by decide +kernel
theorem dX4_settle_19 : decode cX4_settle 19 = .ok (.iinc 1 1, 3) := by decide +kernel
theorem dX4_settle_22 : decode cX4_settle 22 = .ok (.goto (-16), 3) := by decide +kernel
theorem dX4_settle_25 : decode cX4_settle 25 = .ok (.iconst 0, 1) := by decide +kernel
theorem dX4_settle_26 : decode cX4_settle 26 = .ok (.istore_n 1, 1) := by decide +kernel
theorem dX4_settle_27 : decode cX4_settle 27 = .ok (.iload_n 1, 1) := by decide +kernel
theorem dX4_settle_28 : decode cX4_settle 28 = .ok (.aload_n 0, 1) := by decide +kernel
theorem dX4_settle_29 : decode cX4_settle 29 = .ok (.getfield 45, 3) := by decide +kernel
theorem dX4_settle_32 : decode cX4_settle 32 = .ok (.if_icmp .ge 20, 3) := by decide +kernel
theorem dX4_settle_35 : decode cX4_settle 35 = .ok (.aload_n 0, 1) := by decide +kernel
theorem dX4_settle_36 : decode cX4_settle 36 = .ok (.getfield 30, 3) := by decide +kernel
theorem dX4_settle_39 : decode cX4_settle 39 = .ok (.iload_n 1, 1) := by decide +kernel
theorem dX4_settle_40 : decode cX4_settle 40 = .ok (.aload_n 0, 1) := by decide +kernel
theorem dX4_settle_41 : decode cX4_settle 41 = .ok (.iload_n 1, 1) := by decide +kernel
theorem dX4_settle_42 : decode cX4_settle 42 = .ok (.invokevirtual 70, 3) := by decide +kernel
theorem dX4_settle_45 : decode cX4_settle 45 = .ok (.iastore, 1) := by decide +kernel
theorem dX4_settle_46 : decode cX4_settle 46 = .ok (.iinc 1 1, 3) := by decide +kernel
theorem dX4_settle_49 : decode cX4_settle 49 = .ok (.goto (-22), 3) := by decide +kernel
theorem dX4_settle_52 : decode cX4_settle 52 = .ok (.aload_n 0, 1) := by decide +kernel
theorem dX4_settle_53 : decode cX4_settle 53 = .ok (.invokevirtual 74, 3) := by decide +kernel
theorem dX4_settle_56 : decode cX4_settle 56 = .ok (.return_, 1) := by decide +kernel
abbrev kX4_settle (g : rk_G) (R : rk_R) (pc : Nat) : rk_K := rk_cut g cX4_settle 2 none RX4 3 R pc
abbrev aX4_settle (g : rk_G) (R : rk_R) (pc : Nat) (K : rk_K) : Prop := rk_AK g cX4_settle 2 none RX4 3 R pc K
abbrev sX4_settle (g : rk_G) (vs : List Value) (σ : rk_M) (R : rk_R) : Prop := rk_does g yX4_settle cX4_settle 2 none 3 vs σ R
abbrev tX4_settle (g : rk_G) (R : rk_R) (pc : Nat) (ls st : List Value) (σ : rk_M) : Prop := rk_At g cX4_settle 2 none RX4 3 R pc ls st σ
def bX4_settle_27 (g : rk_G) (R : rk_R) : rk_K := (rk_iload 1 (rk_aload 0 (rk_gI 4 11 (rk_icmp_ge (rk_aload 0 (rk_cV g 0 4 yX4_giveRanks cX4_giveRanks 6 none 2 (rk_vret R))) (rk_aload 0 (rk_gR 4 6 (rk_iload 1 (rk_aload 0 (rk_iload 1 (rk_cV g 1 4 yX4_touching cX4_touching 4 (some .int) 0 (rk_iast (rk_iinc 1 (1) (kX4_settle g R 27)))))))))))))
theorem eX4_settle_27 (g : rk_G) (R : rk_R) (ls st : List Value) (σ : rk_M) : bX4_settle_27 g R ls st σ = (rk_iload 1 (rk_aload 0 (rk_gI 4 11 (rk_icmp_ge (rk_aload 0 (rk_cV g 0 4 yX4_giveRanks cX4_giveRanks 6 none 2 (rk_vret R))) (rk_aload 0 (rk_gR 4 6 (rk_iload 1 (rk_aload 0 (rk_iload 1 (rk_cV g 1 4 yX4_touching cX4_touching 4 (some .int) 0 (rk_iast (rk_iinc 1 (1) (kX4_settle g R 27))))))))))))) ls st σ := rfl
theorem oX4_settle_27 {g : rk_G} {R : rk_R} : aX4_settle g R 27 (bX4_settle_27 g R) := (rk_iload_n_ok dX4_settle_27 rfl (rk_aload_n_ok dX4_settle_28 rfl (rk_gI_ok dX4_settle_29 rfl iX4 (by decide) rfl wfX4_45 (rk_icmp_ge_ok (pc' := 52) dX4_settle_32 (by decide) (rk_aload_n_ok dX4_settle_52 rfl (rk_cV_ok dX4_settle_53 rfl rfl npX4_giveRanks wmX4_74 wvX4_giveRanks weX4_giveRanks wiX4 wdX4_giveRanks (by decide) (by decide) (rk_vret_ok rfl dX4_settle_56))) (rk_aload_n_ok dX4_settle_35 rfl (rk_gR_ok dX4_settle_36 rfl iX4 (by decide) rfl wfX4_30 (rk_iload_n_ok dX4_settle_39 rfl (rk_aload_n_ok dX4_settle_40 rfl (rk_iload_n_ok dX4_settle_41 rfl (rk_cV_ok dX4_settle_42 rfl rfl npX4_touching wmX4_70 wvX4_touching weX4_touching wiX4 wdX4_touching (by decide) (by decide) (rk_iast_ok dX4_settle_45 (rk_iinc_ok dX4_settle_46 (by decide) (by decide) (rk_goto_ok (pc' := 27) dX4_settle_49 (by decide) rk_cut_ok)))))))))))))
def bX4_settle_6 (g : rk_G) (R : rk_R) : rk_K := (rk_iload 1 (rk_aload 0 (rk_gI 4 11 (rk_icmp_ge (rk_ci (0) (rk_istore 1 (kX4_settle g R 27))) (rk_aload 0 (rk_iload 1 (rk_cV g 1 4 yX4_measure cX4_measure 3 none 2 (rk_iinc 1 (1) (kX4_settle g R 6)))))))))
theorem eX4_settle_6 (g : rk_G) (R : rk_R) (ls st : List Value) (σ : rk_M) : bX4_settle_6 g R ls st σ = (rk_iload 1 (rk_aload 0 (rk_gI 4 11 (rk_icmp_ge (rk_ci (0) (rk_istore 1 (kX4_settle g R 27))) (rk_aload 0 (rk_iload 1 (rk_cV g 1 4 yX4_measure cX4_measure 3 none 2 (rk_iinc 1 (1) (kX4_settle g R 6))))))))) ls st σ := rfl
theorem oX4_settle_6 {g : rk_G} {R : rk_R} : aX4_settle g R 6 (bX4_settle_6 g R) := (rk_iload_n_ok dX4_settle_6 rfl (rk_aload_n_ok dX4_settle_7 rfl (rk_gI_ok dX4_settle_8 rfl iX4 (by decide) rfl wfX4_45 (rk_icmp_ge_ok (pc' := 25) dX4_settle_11 (by decide) (rk_iconst_ok dX4_settle_25 (by decide) (rk_istore_n_ok dX4_settle_26 rfl (by decide) rk_cut_ok)) (rk_aload_n_ok dX4_settle_14 rfl (rk_iload_n_ok dX4_settle_15 rfl (rk_cV_ok dX4_settle_16 rfl rfl npX4_measure wmX4_66 wvX4_measure weX4_measure wiX4 wdX4_measure (by decide) (by decide) (rk_iinc_ok dX4_settle_19 (by decide) (by decide) (rk_goto_ok (pc' := 6) dX4_settle_22 (by decide) rk_cut_ok)))))))))
def bX4_settle_0 (g : rk_G) (R : rk_R) : rk_K := (rk_aload 0 (rk_cV g 0 4 yX4_gatherRoads cX4_gatherRoads 3 none 2 (rk_ci (0) (rk_istore 1 (kX4_settle g R 6)))))
theorem eX4_settle_0 (g : rk_G) (R : rk_R) (ls st : List Value) (σ : rk_M) : bX4_settle_0 g R ls st σ = (rk_aload 0 (rk_cV g 0 4 yX4_gatherRoads cX4_gatherRoads 3 none 2 (rk_ci (0) (rk_istore 1 (kX4_settle g R 6))))) ls st σ := rfl
theorem oX4_settle_0 {g : rk_G} {R : rk_R} : aX4_settle g R 0 (bX4_settle_0 g R) := (rk_aload_n_ok dX4_settle_0 rfl (rk_cV_ok dX4_settle_1 rfl rfl npX4_gatherRoads wmX4_63 wvX4_gatherRoads weX4_gatherRoads wiX4 wdX4_gatherRoads (by decide) (by decide) (rk_iconst_ok dX4_settle_4 (by decide) (rk_istore_n_ok dX4_settle_5 rfl (by decide) rk_cut_ok))))
theorem dX5_bridgesOf_0 : decode cX5_bridgesOf 0 = .ok (.aload_n 0, 1) := by decide +kernel
theorem dX5_bridgesOf_1 : decode cX5_bridgesOf 1 = .ok (.iload_n 1, 1) := by decide +kernel
theorem dX5_bridgesOf_2 : decode cX5_bridgesOf 2 = .ok (.invokevirtual 27, 3) := by decide +kernel
theorem dX5_bridgesOf_5 : decode cX5_bridgesOf 5 = .ok (.iconst 0, 1) := by decide +kernel
theorem dX5_bridgesOf_6 : decode cX5_bridgesOf 6 = .ok (.istore_n 2, 1) := by decide +kernel
theorem dX5_bridgesOf_7 : decode cX5_bridgesOf 7 = .ok (.iconst 0, 1) := by decide +kernel
theorem dX5_bridgesOf_8 : decode cX5_bridgesOf 8 = .ok (.istore_n 3, 1) := by decide +kernel
theorem dX5_bridgesOf_9 : decode cX5_bridgesOf 9 = .ok (.iload_n 3, 1) := by decide +kernel
theorem dX5_bridgesOf_10 : decode cX5_bridgesOf 10 = .ok (.aload_n 0, 1) := by decide +kernel
theorem dX5_bridgesOf_11 : decode cX5_bridgesOf 11 = .ok (.getfield 18, 3) := by decide +kernel
theorem dX5_bridgesOf_14 : decode cX5_bridgesOf 14 = .ok (.getfield 31, 3) := by decide +kernel
theorem dX5_bridgesOf_17 : decode cX5_bridgesOf 17 = .ok (.if_icmp .ge 31, 3) := by decide +kernel
theorem dX5_bridgesOf_20 : decode cX5_bridgesOf 20 = .ok (.iload_n 1, 1) := by decide +kernel
theorem dX5_bridgesOf_21 : decode cX5_bridgesOf 21 = .ok (.iload_n 3, 1) := by decide +kernel
theorem dX5_bridgesOf_22 : decode cX5_bridgesOf 22 = .ok (.invokestatic 37, 3) := by decide +kernel
theorem dX5_bridgesOf_25 : decode cX5_bridgesOf 25 = .ok (.ifCond .eq 17, 3) := by decide +kernel
theorem dX5_bridgesOf_28 : decode cX5_bridgesOf 28 = .ok (.aload_n 0, 1) := by decide +kernel
theorem dX5_bridgesOf_29 : decode cX5_bridgesOf 29 = .ok (.iload_n 3, 1) := by decide +kernel
theorem dX5_bridgesOf_30 : decode cX5_bridgesOf 30 = .ok (.invokevirtual 41, 3) := by decide +kernel
theorem dX5_bridgesOf_33 : decode cX5_bridgesOf 33 = .ok (.ifCond .eq 9, 3) := by decide +kernel
theorem dX5_bridgesOf_36 : decode cX5_bridgesOf 36 = .ok (.iload_n 2, 1) := by decide +kernel
theorem dX5_bridgesOf_37 : decode cX5_bridgesOf 37 = .ok (.iconst 1, 1) := by decide +kernel
theorem dX5_bridgesOf_38 : decode cX5_bridgesOf 38 = .ok (.iload_n 3, 1) := by decide +kernel
theorem dX5_bridgesOf_39 : decode cX5_bridgesOf 39 = .ok (.ishl, 1) := by decide +kernel
theorem dX5_bridgesOf_40 : decode cX5_bridgesOf 40 = .ok (.ior, 1) := by decide +kernel
theorem dX5_bridgesOf_41 : decode cX5_bridgesOf 41 = .ok (.istore_n 2, 1) := by decide +kernel
theorem dX5_bridgesOf_42 : decode cX5_bridgesOf 42 = .ok (.iinc 3 1, 3) := by decide +kernel
theorem dX5_bridgesOf_45 : decode cX5_bridgesOf 45 = .ok (.goto (-36), 3) := by decide +kernel
theorem dX5_bridgesOf_48 : decode cX5_bridgesOf 48 = .ok (.iload_n 2, 1) := by decide +kernel
theorem dX5_bridgesOf_49 : decode cX5_bridgesOf 49 = .ok (.ireturn, 1) := by decide +kernel
abbrev kX5_bridgesOf (g : rk_G) (R : rk_R) (pc : Nat) : rk_K := rk_cut g cX5_bridgesOf 4 (some .int) RX5 3 R pc
abbrev aX5_bridgesOf (g : rk_G) (R : rk_R) (pc : Nat) (K : rk_K) : Prop := rk_AK g cX5_bridgesOf 4 (some .int) RX5 3 R pc K
abbrev sX5_bridgesOf (g : rk_G) (vs : List Value) (σ : rk_M) (R : rk_R) : Prop := rk_does g yX5_bridgesOf cX5_bridgesOf 4 (some .int) 3 vs σ R
abbrev tX5_bridgesOf (g : rk_G) (R : rk_R) (pc : Nat) (ls st : List Value) (σ : rk_M) : Prop := rk_At g cX5_bridgesOf 4 (some .int) RX5 3 R pc ls st σ
def bX5_bridgesOf_42 (g : rk_G) (R : rk_R) : rk_K := (rk_iinc 3 (1) (kX5_bridgesOf g R 9))
theorem eX5_bridgesOf_42 (g : rk_G) (R : rk_R) (ls st : List Value) (σ : rk_M) : bX5_bridgesOf_42 g R ls st σ = (rk_iinc 3 (1) (kX5_bridgesOf g R 9)) ls st σ := rfl
theorem oX5_bridgesOf_42 {g : rk_G} {R : rk_R} : aX5_bridgesOf g R 42 (bX5_bridgesOf_42 g R) := (rk_iinc_ok dX5_bridgesOf_42 (by decide) (by decide) (rk_goto_ok (pc' := 9) dX5_bridgesOf_45 (by decide) rk_cut_ok))
def bX5_bridgesOf_9 (g : rk_G) (R : rk_R) : rk_K := (rk_iload 3 (rk_aload 0 (rk_gR 5 0 (rk_gI 2 8 (rk_icmp_ge (rk_iload 2 (rk_iret R)) (rk_iload 1 (rk_iload 3 (rk_cS g 2 yX6_hasBit cX6_hasBit 2 (some .boolean) 0 (rk_if_eq (bX5_bridgesOf_42 g R) (rk_aload 0 (rk_iload 3 (rk_cV g 1 5 yX5_isBridge cX5_isBridge 3 (some .boolean) 2 (rk_if_eq (bX5_bridgesOf_42 g R) (rk_iload 2 (rk_ci (1) (rk_iload 3 (rk_ishl (rk_ior (rk_istore 2 (bX5_bridgesOf_42 g R))))))))))))))))))))
theorem eX5_bridgesOf_9 (g : rk_G) (R : rk_R) (ls st : List Value) (σ : rk_M) : bX5_bridgesOf_9 g R ls st σ = (rk_iload 3 (rk_aload 0 (rk_gR 5 0 (rk_gI 2 8 (rk_icmp_ge (rk_iload 2 (rk_iret R)) (rk_iload 1 (rk_iload 3 (rk_cS g 2 yX6_hasBit cX6_hasBit 2 (some .boolean) 0 (rk_if_eq (bX5_bridgesOf_42 g R) (rk_aload 0 (rk_iload 3 (rk_cV g 1 5 yX5_isBridge cX5_isBridge 3 (some .boolean) 2 (rk_if_eq (bX5_bridgesOf_42 g R) (rk_iload 2 (rk_ci (1) (rk_iload 3 (rk_ishl (rk_ior (rk_istore 2 (bX5_bridgesOf_42 g R)))))))))))))))))))) ls st σ := rfl
theorem oX5_bridgesOf_9 {g : rk_G} {R : rk_R} : aX5_bridgesOf g R 9 (bX5_bridgesOf_9 g R) := (rk_iload_n_ok dX5_bridgesOf_9 rfl (rk_aload_n_ok dX5_bridgesOf_10 rfl (rk_gR_ok dX5_bridgesOf_11 rfl iX5 (by decide) rfl wfX5_18 (rk_gI_ok dX5_bridgesOf_14 rfl iX2 (by decide) rfl wfX5_31 (rk_icmp_ge_ok (pc' := 48) dX5_bridgesOf_17 (by decide) (rk_iload_n_ok dX5_bridgesOf_48 rfl (rk_iret_ok rfl dX5_bridgesOf_49)) (rk_iload_n_ok dX5_bridgesOf_20 rfl (rk_iload_n_ok dX5_bridgesOf_21 rfl (rk_cN_ok dX5_bridgesOf_22 npX6_hasBit wnX5_37 wtX6_hasBit wiX6 wdX6_hasBit (by decide) (by decide) (rk_if_eq_ok (pc' := 42) dX5_bridgesOf_25 (by decide) oX5_bridgesOf_42 (rk_aload_n_ok dX5_bridgesOf_28 rfl (rk_iload_n_ok dX5_bridgesOf_29 rfl (rk_cV_ok dX5_bridgesOf_30 rfl rfl npX5_isBridge wmX5_41 wvX5_isBridge weX5_isBridge wiX5 wdX5_isBridge (by decide) (by decide) (rk_if_eq_ok (pc' := 42) dX5_bridgesOf_33 (by decide) oX5_bridgesOf_42 (rk_iload_n_ok dX5_bridgesOf_36 rfl (rk_iconst_ok dX5_bridgesOf_37 (by decide) (rk_iload_n_ok dX5_bridgesOf_38 rfl (rk_ishl_ok dX5_bridgesOf_39 (rk_ior_ok dX5_bridgesOf_40 (rk_istore_n_ok dX5_bridgesOf_41 rfl (by decide) oX5_bridgesOf_42)))))))))))))))))))
def bX5_bridgesOf_0 (g : rk_G) (R : rk_R) : rk_K := (rk_aload 0 (rk_iload 1 (rk_cV g 1 5 yX5_gatherNear cX5_gatherNear 3 none 1 (rk_ci (0) (rk_istore 2 (rk_ci (0) (rk_istore 3 (kX5_bridgesOf g R 9))))))))
theorem eX5_bridgesOf_0 (g : rk_G) (R : rk_R) (ls st : List Value) (σ : rk_M) : bX5_bridgesOf_0 g R ls st σ = (rk_aload 0 (rk_iload 1 (rk_cV g 1 5 yX5_gatherNear cX5_gatherNear 3 none 1 (rk_ci (0) (rk_istore 2 (rk_ci (0) (rk_istore 3 (kX5_bridgesOf g R 9)))))))) ls st σ := rfl
theorem oX5_bridgesOf_0 {g : rk_G} {R : rk_R} : aX5_bridgesOf g R 0 (bX5_bridgesOf_0 g R) := (rk_aload_n_ok dX5_bridgesOf_0 rfl (rk_iload_n_ok dX5_bridgesOf_1 rfl (rk_cV_ok dX5_bridgesOf_2 rfl rfl npX5_gatherNear wmX5_27 wvX5_gatherNear weX5_gatherNear wiX5 wdX5_gatherNear (by decide) (by decide) (rk_iconst_ok dX5_bridgesOf_5 (by decide) (rk_istore_n_ok dX5_bridgesOf_6 rfl (by decide) (rk_iconst_ok dX5_bridgesOf_7 (by decide) (rk_istore_n_ok dX5_bridgesOf_8 rfl (by decide) rk_cut_ok)))))))
theorem dX6_far_0 : decode cX6_far 0 = .ok (.aload_n 0, 1) := by decide +kernel
theorem dX6_far_1 : decode cX6_far 1 = .ok (.iload_n 1, 1) := by decide +kernel
theorem dX6_far_2 : decode cX6_far 2 = .ok (.invokevirtual 181, 3) := by decide +kernel
theorem dX6_far_5 : decode cX6_far 5 = .ok (.ifCond .eq 25, 3) := by decide +kernel
theorem dX6_far_8 : decode cX6_far 8 = .ok (.aload_n 0, 1) := by decide +kernel
theorem dX6_far_9 : decode cX6_far 9 = .ok (.getfield 10, 3) := by decide +kernel
theorem dX6_far_12 : decode cX6_far 12 = .ok (.iload_n 2, 1) := by decide +kernel
theorem dX6_far_13 : decode cX6_far 13 = .ok (.invokevirtual 110, 3) := by decide +kernel
theorem dX6_far_16 : decode cX6_far 16 = .ok (.ifCond .eq 14, 3) := by decide +kernel
theorem dX6_far_19 : decode cX6_far 19 = .ok (.aload_n 0, 1) := by decide +kernel
theorem dX6_far_20 : decode cX6_far 20 = .ok (.getfield 10, 3) := by decide +kernel
theorem dX6_far_23 : decode cX6_far 23 = .ok (.iload_n 3, 1) := by decide +kernel
theorem dX6_far_24 : decode cX6_far 24 = .ok (.invokevirtual 110, 3) := by decide +kernel
theorem dX6_far_27 : decode cX6_far 27 = .ok (.ifCond .ne 6, 3) := by decide +kernel
theorem dX6_far_30 : decode cX6_far 30 = .ok (.bipush (-2), 2) := by decide +kernel
theorem dX6_far_32 : decode cX6_far 32 = .ok (.ireturn, 1) := by decide +kernel
theorem dX6_far_33 : decode cX6_far 33 = .ok (.aload_n 0, 1) := by decide +kernel
theorem dX6_far_34 : decode cX6_far 34 = .ok (.getfield 37, 3) := by decide +kernel
theorem dX6_far_37 : decode cX6_far 37 = .ok (.iload_n 2, 1) := by decide +kernel
theorem dX6_far_38 : decode cX6_far 38 = .ok (.iload_n 3, 1) := by decide +kernel
theorem dX6_far_39 : decode cX6_far 39 = .ok (.aload_n 0, 1) := by decide +kernel
theorem dX6_far_40 : decode cX6_far 40 = .ok (.getfield 30, 3) := by decide +kernel
theorem dX6_far_43 : decode cX6_far 43 = .ok (.aload_n 0, 1) := by decide +kernel
theorem dX6_far_44 : decode cX6_far 44 = .ok (.getfield 30, 3) := by decide +kernel
theorem dX6_far_47 : decode cX6_far 47 = .ok (.iload_n 1, 1) := by decide +kernel
theorem dX6_far_48 : decode cX6_far 48 = .ok (.invokevirtual 184, 3) := by decide +kernel
theorem dX6_far_51 : decode cX6_far 51 = .ok (.invokevirtual 187, 3) := by decide +kernel
theorem dX6_far_54 : decode cX6_far 54 = .ok (.invokevirtual 190, 3) := by decide +kernel
theorem dX6_far_57 : decode cX6_far 57 = .ok (.ireturn, 1) := by decide +kernel
abbrev kX6_far (g : rk_G) (R : rk_R) (pc : Nat) : rk_K := rk_cut g cX6_far 4 (some .int) RX6 3 R pc
abbrev aX6_far (g : rk_G) (R : rk_R) (pc : Nat) (K : rk_K) : Prop := rk_AK g cX6_far 4 (some .int) RX6 3 R pc K
abbrev sX6_far (g : rk_G) (vs : List Value) (σ : rk_M) (R : rk_R) : Prop := rk_does g yX6_far cX6_far 4 (some .int) 3 vs σ R
abbrev tX6_far (g : rk_G) (R : rk_R) (pc : Nat) (ls st : List Value) (σ : rk_M) : Prop := rk_At g cX6_far 4 (some .int) RX6 3 R pc ls st σ
def bX6_far_30 (g : rk_G) (R : rk_R) : rk_K := (rk_ci (-2) (rk_iret R))
theorem eX6_far_30 (g : rk_G) (R : rk_R) (ls st : List Value) (σ : rk_M) : bX6_far_30 g R ls st σ = (rk_ci (-2) (rk_iret R)) ls st σ := rfl
theorem oX6_far_30 {g : rk_G} {R : rk_R} : aX6_far g R 30 (bX6_far_30 g R) := (rk_bipush_ok dX6_far_30 (by decide) (rk_iret_ok rfl dX6_far_32))
def bX6_far_0 (g : rk_G) (R : rk_R) : rk_K := (rk_aload 0 (rk_iload 1 (rk_cV g 1 6 yX6_isSheet cX6_isSheet 2 (some .boolean) 0 (rk_if_eq (bX6_far_30 g R) (rk_aload 0 (rk_gR 6 0 (rk_iload 2 (rk_cV g 1 2 yX2_hasMeeting cX2_hasMeeting 2 (some .boolean) 0 (rk_if_eq (bX6_far_30 g R) (rk_aload 0 (rk_gR 6 0 (rk_iload 3 (rk_cV g 1 2 yX2_hasMeeting cX2_hasMeeting 2 (some .boolean) 0 (rk_if_ne (rk_aload 0 (rk_gR 6 3 (rk_iload 2 (rk_iload 3 (rk_aload 0 (rk_gR 6 2 (rk_aload 0 (rk_gR 6 2 (rk_iload 1 (rk_cV g 1 4 yX4_firstRanks cX4_firstRanks 4 (some .int) 0 (rk_cV g 1 4 yX4_roadsOf cX4_roadsOf 4 (some .int) 1 (rk_cV g 3 5 yX5_least cX5_least 5 (some .int) 2 (rk_iret R))))))))))))) (bX6_far_30 g R)))))))))))))))
theorem eX6_far_0 (g : rk_G) (R : rk_R) (ls st : List Value) (σ : rk_M) : bX6_far_0 g R ls st σ = (rk_aload 0 (rk_iload 1 (rk_cV g 1 6 yX6_isSheet cX6_isSheet 2 (some .boolean) 0 (rk_if_eq (bX6_far_30 g R) (rk_aload 0 (rk_gR 6 0 (rk_iload 2 (rk_cV g 1 2 yX2_hasMeeting cX2_hasMeeting 2 (some .boolean) 0 (rk_if_eq (bX6_far_30 g R) (rk_aload 0 (rk_gR 6 0 (rk_iload 3 (rk_cV g 1 2 yX2_hasMeeting cX2_hasMeeting 2 (some .boolean) 0 (rk_if_ne (rk_aload 0 (rk_gR 6 3 (rk_iload 2 (rk_iload 3 (rk_aload 0 (rk_gR 6 2 (rk_aload 0 (rk_gR 6 2 (rk_iload 1 (rk_cV g 1 4 yX4_firstRanks cX4_firstRanks 4 (some .int) 0 (rk_cV g 1 4 yX4_roadsOf cX4_roadsOf 4 (some .int) 1 (rk_cV g 3 5 yX5_least cX5_least 5 (some .int) 2 (rk_iret R))))))))))))) (bX6_far_30 g R))))))))))))))) ls st σ := rfl
theorem oX6_far_0 {g : rk_G} {R : rk_R} : aX6_far g R 0 (bX6_far_0 g R) := (rk_aload_n_ok dX6_far_0 rfl (rk_iload_n_ok dX6_far_1 rfl (rk_cV_ok dX6_far_2 rfl rfl npX6_isSheet wmX6_181 wvX6_isSheet weX6_isSheet wiX6 wdX6_isSheet (by decide) (by decide) (rk_if_eq_ok (pc' := 30) dX6_far_5 (by decide) oX6_far_30 (rk_aload_n_ok dX6_far_8 rfl (rk_gR_ok dX6_far_9 rfl iX6 (by decide) rfl wfX6_10 (rk_iload_n_ok dX6_far_12 rfl (rk_cV_ok dX6_far_13 rfl rfl npX2_hasMeeting wmX6_110 wvX2_hasMeeting weX2_hasMeeting wiX2 wdX2_hasMeeting (by decide) (by decide) (rk_if_eq_ok (pc' := 30) dX6_far_16 (by decide) oX6_far_30 (rk_aload_n_ok dX6_far_19 rfl (rk_gR_ok dX6_far_20 rfl iX6 (by decide) rfl wfX6_10 (rk_iload_n_ok dX6_far_23 rfl (rk_cV_ok dX6_far_24 rfl rfl npX2_hasMeeting wmX6_110 wvX2_hasMeeting weX2_hasMeeting wiX2 wdX2_hasMeeting (by decide) (by decide) (rk_if_ne_ok (pc' := 33) dX6_far_27 (by decide) (rk_aload_n_ok dX6_far_33 rfl (rk_gR_ok dX6_far_34 rfl iX6 (by decide) rfl wfX6_37 (rk_iload_n_ok dX6_far_37 rfl (rk_iload_n_ok dX6_far_38 rfl (rk_aload_n_ok dX6_far_39 rfl (rk_gR_ok dX6_far_40 rfl iX6 (by decide) rfl wfX6_30 (rk_aload_n_ok dX6_far_43 rfl (rk_gR_ok dX6_far_44 rfl iX6 (by decide) rfl wfX6_30 (rk_iload_n_ok dX6_far_47 rfl (rk_cV_ok dX6_far_48 rfl rfl npX4_firstRanks wmX6_184 wvX4_firstRanks weX4_firstRanks wiX4 wdX4_firstRanks (by decide) (by decide) (rk_cV_ok dX6_far_51 rfl rfl npX4_roadsOf wmX6_187 wvX4_roadsOf weX4_roadsOf wiX4 wdX4_roadsOf (by decide) (by decide) (rk_cV_ok dX6_far_54 rfl rfl npX5_least wmX6_190 wvX5_least weX5_least wiX5 wdX5_least (by decide) (by decide) (rk_iret_ok rfl dX6_far_57))))))))))))) oX6_far_30))))))))))))))
