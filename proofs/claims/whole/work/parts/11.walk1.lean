theorem dX5_flip_0 : decode cX5_flip 0 = .ok (.aload_n 0, 1) := by decide +kernel
theorem dX5_flip_1 : decode cX5_flip 1 = .ok (.getfield 18, 3) := by decide +kernel
theorem dX5_flip_4 : decode cX5_flip 4 = .ok (.getfield 44, 3) := by decide +kernel
theorem dX5_flip_7 : decode cX5_flip 7 = .ok (.iload_n 1, 1) := by decide +kernel
theorem dX5_flip_8 : decode cX5_flip 8 = .ok (.iaload, 1) := by decide +kernel
theorem dX5_flip_9 : decode cX5_flip 9 = .ok (.istore_n 2, 1) := by decide +kernel
theorem dX5_flip_10 : decode cX5_flip 10 = .ok (.aload_n 0, 1) := by decide +kernel
theorem dX5_flip_11 : decode cX5_flip 11 = .ok (.getfield 18, 3) := by decide +kernel
theorem dX5_flip_14 : decode cX5_flip 14 = .ok (.getfield 47, 3) := by decide +kernel
theorem dX5_flip_17 : decode cX5_flip 17 = .ok (.iload_n 1, 1) := by decide +kernel
theorem dX5_flip_18 : decode cX5_flip 18 = .ok (.iaload, 1) := by decide +kernel
theorem dX5_flip_19 : decode cX5_flip 19 = .ok (.istore_n 3, 1) := by decide +kernel
theorem dX5_flip_20 : decode cX5_flip 20 = .ok (.aload_n 0, 1) := by decide +kernel
theorem dX5_flip_21 : decode cX5_flip 21 = .ok (.getfield 15, 3) := by decide +kernel
theorem dX5_flip_24 : decode cX5_flip 24 = .ok (.iload_n 2, 1) := by decide +kernel
theorem dX5_flip_25 : decode cX5_flip 25 = .ok (.dup2, 1) := by decide +kernel
theorem dX5_flip_26 : decode cX5_flip 26 = .ok (.iaload, 1) := by decide +kernel
theorem dX5_flip_27 : decode cX5_flip 27 = .ok (.iconst 1, 1) := by decide +kernel
theorem dX5_flip_28 : decode cX5_flip 28 = .ok (.iload_n 3, 1) := by decide +kernel
theorem dX5_flip_29 : decode cX5_flip 29 = .ok (.ishl, 1) := by decide +kernel
theorem dX5_flip_30 : decode cX5_flip 30 = .ok (.ixor, 1) := by decide +kernel
theorem dX5_flip_31 : decode cX5_flip 31 = .ok (.iastore, 1) := by decide +kernel
theorem dX5_flip_32 : decode cX5_flip 32 = .ok (.aload_n 0, 1) := by decide +kernel
theorem dX5_flip_33 : decode cX5_flip 33 = .ok (.getfield 15, 3) := by decide +kernel
theorem dX5_flip_36 : decode cX5_flip 36 = .ok (.iload_n 3, 1) := by decide +kernel
theorem dX5_flip_37 : decode cX5_flip 37 = .ok (.dup2, 1) := by decide +kernel
theorem dX5_flip_38 : decode cX5_flip 38 = .ok (.iaload, 1) := by decide +kernel
theorem dX5_flip_39 : decode cX5_flip 39 = .ok (.iconst 1, 1) := by decide +kernel
theorem dX5_flip_40 : decode cX5_flip 40 = .ok (.iload_n 2, 1) := by decide +kernel
theorem dX5_flip_41 : decode cX5_flip 41 = .ok (.ishl, 1) := by decide +kernel
theorem dX5_flip_42 : decode cX5_flip 42 = .ok (.ixor, 1) := by decide +kernel
theorem dX5_flip_43 : decode cX5_flip 43 = .ok (.iastore, 1) := by decide +kernel
theorem dX5_flip_44 : decode cX5_flip 44 = .ok (.return_, 1) := by decide +kernel
abbrev kX5_flip (g : rk_G) (R : rk_R) (pc : Nat) : rk_K := rk_cut g cX5_flip 4 none RX5 0 R pc
abbrev aX5_flip (g : rk_G) (R : rk_R) (pc : Nat) (K : rk_K) : Prop := rk_AK g cX5_flip 4 none RX5 0 R pc K
abbrev sX5_flip (g : rk_G) (vs : List Value) (σ : rk_M) (R : rk_R) : Prop := rk_does g yX5_flip cX5_flip 4 none 0 vs σ R
abbrev tX5_flip (g : rk_G) (R : rk_R) (pc : Nat) (ls st : List Value) (σ : rk_M) : Prop := rk_At g cX5_flip 4 none RX5 0 R pc ls st σ
def bX5_flip_0 (g : rk_G) (R : rk_R) : rk_K := (rk_aload 0 (rk_gR 5 0 (rk_gR 2 2 (rk_iload 1 (rk_iald (rk_istore 2 (rk_aload 0 (rk_gR 5 0 (rk_gR 2 3 (rk_iload 1 (rk_iald (rk_istore 3 (rk_aload 0 (rk_gR 5 2 (rk_iload 2 (rk_dup2 (rk_iald (rk_ci (1) (rk_iload 3 (rk_ishl (rk_ixor (rk_iast (rk_aload 0 (rk_gR 5 2 (rk_iload 3 (rk_dup2 (rk_iald (rk_ci (1) (rk_iload 2 (rk_ishl (rk_ixor (rk_iast (rk_vret R)))))))))))))))))))))))))))))))))
theorem eX5_flip_0 (g : rk_G) (R : rk_R) (ls st : List Value) (σ : rk_M) : bX5_flip_0 g R ls st σ = (rk_aload 0 (rk_gR 5 0 (rk_gR 2 2 (rk_iload 1 (rk_iald (rk_istore 2 (rk_aload 0 (rk_gR 5 0 (rk_gR 2 3 (rk_iload 1 (rk_iald (rk_istore 3 (rk_aload 0 (rk_gR 5 2 (rk_iload 2 (rk_dup2 (rk_iald (rk_ci (1) (rk_iload 3 (rk_ishl (rk_ixor (rk_iast (rk_aload 0 (rk_gR 5 2 (rk_iload 3 (rk_dup2 (rk_iald (rk_ci (1) (rk_iload 2 (rk_ishl (rk_ixor (rk_iast (rk_vret R))))))))))))))))))))))))))))))))) ls st σ := rfl
theorem oX5_flip_0 {g : rk_G} {R : rk_R} : aX5_flip g R 0 (bX5_flip_0 g R) := (rk_aload_n_ok dX5_flip_0 rfl (rk_gR_ok dX5_flip_1 rfl iX5 (by decide) rfl wfX5_18 (rk_gR_ok dX5_flip_4 rfl iX2 (by decide) rfl wfX5_44 (rk_iload_n_ok dX5_flip_7 rfl (rk_iald_ok dX5_flip_8 (rk_istore_n_ok dX5_flip_9 rfl (by decide) (rk_aload_n_ok dX5_flip_10 rfl (rk_gR_ok dX5_flip_11 rfl iX5 (by decide) rfl wfX5_18 (rk_gR_ok dX5_flip_14 rfl iX2 (by decide) rfl wfX5_47 (rk_iload_n_ok dX5_flip_17 rfl (rk_iald_ok dX5_flip_18 (rk_istore_n_ok dX5_flip_19 rfl (by decide) (rk_aload_n_ok dX5_flip_20 rfl (rk_gR_ok dX5_flip_21 rfl iX5 (by decide) rfl wfX5_15 (rk_iload_n_ok dX5_flip_24 rfl (rk_dup2_ok dX5_flip_25 (rk_iald_ok dX5_flip_26 (rk_iconst_ok dX5_flip_27 (by decide) (rk_iload_n_ok dX5_flip_28 rfl (rk_ishl_ok dX5_flip_29 (rk_ixor_ok dX5_flip_30 (rk_iast_ok dX5_flip_31 (rk_aload_n_ok dX5_flip_32 rfl (rk_gR_ok dX5_flip_33 rfl iX5 (by decide) rfl wfX5_15 (rk_iload_n_ok dX5_flip_36 rfl (rk_dup2_ok dX5_flip_37 (rk_iald_ok dX5_flip_38 (rk_iconst_ok dX5_flip_39 (by decide) (rk_iload_n_ok dX5_flip_40 rfl (rk_ishl_ok dX5_flip_41 (rk_ixor_ok dX5_flip_42 (rk_iast_ok dX5_flip_43 (rk_vret_ok rfl dX5_flip_44)))))))))))))))))))))))))))))))))
theorem dX6_rank_0 : decode cX6_rank 0 = .ok (.iload_n 1, 1) := by decide +kernel
theorem dX6_rank_1 : decode cX6_rank 1 = .ok (.ifCond .lt 18, 3) := by decide +kernel
theorem dX6_rank_4 : decode cX6_rank 4 = .ok (.iload_n 1, 1) := by decide +kernel
theorem dX6_rank_5 : decode cX6_rank 5 = .ok (.bipush 24, 2) := by decide +kernel
theorem dX6_rank_7 : decode cX6_rank 7 = .ok (.if_icmp .ge 12, 3) := by decide +kernel
theorem dX6_rank_10 : decode cX6_rank 10 = .ok (.iload_n 2, 1) := by decide +kernel
theorem dX6_rank_11 : decode cX6_rank 11 = .ok (.ifCond .lt 8, 3) := by decide +kernel
theorem dX6_rank_14 : decode cX6_rank 14 = .ok (.iload_n 2, 1) := by decide +kernel
theorem dX6_rank_15 : decode cX6_rank 15 = .ok (.iconst 1, 1) := by decide +kernel
theorem dX6_rank_16 : decode cX6_rank 16 = .ok (.if_icmp .le 6, 3) := by decide +kernel
theorem dX6_rank_19 : decode cX6_rank 19 = .ok (.bipush (-2), 2) := by decide +kernel
theorem dX6_rank_21 : decode cX6_rank 21 = .ok (.ireturn, 1) := by decide +kernel
theorem dX6_rank_22 : decode cX6_rank 22 = .ok (.iload_n 1, 1) := by decide +kernel
theorem dX6_rank_23 : decode cX6_rank 23 = .ok (.aload_n 0, 1) := by decide +kernel
theorem dX6_rank_24 : decode cX6_rank 24 = .ok (.getfield 30, 3) := by decide +kernel
theorem dX6_rank_27 : decode cX6_rank 27 = .ok (.getfield 172, 3) := by decide +kernel
theorem dX6_rank_30 : decode cX6_rank 30 = .ok (.if_icmp .lt 5, 3) := by decide +kernel
theorem dX6_rank_33 : decode cX6_rank 33 = .ok (.iconst (-1), 1) := by decide +kernel
theorem dX6_rank_34 : decode cX6_rank 34 = .ok (.ireturn, 1) := by decide +kernel
theorem dX6_rank_35 : decode cX6_rank 35 = .ok (.iload_n 2, 1) := by decide +kernel
theorem dX6_rank_36 : decode cX6_rank 36 = .ok (.ifCond .ne 15, 3) := by decide +kernel
theorem dX6_rank_39 : decode cX6_rank 39 = .ok (.aload_n 0, 1) := by decide +kernel
theorem dX6_rank_40 : decode cX6_rank 40 = .ok (.getfield 30, 3) := by decide +kernel
theorem dX6_rank_43 : decode cX6_rank 43 = .ok (.getfield 175, 3) := by decide +kernel
theorem dX6_rank_46 : decode cX6_rank 46 = .ok (.iload_n 1, 1) := by decide +kernel
theorem dX6_rank_47 : decode cX6_rank 47 = .ok (.iaload, 1) := by decide +kernel
theorem dX6_rank_48 : decode cX6_rank 48 = .ok (.goto 12, 3) := by decide +kernel
theorem dX6_rank_51 : decode cX6_rank 51 = .ok (.aload_n 0, 1) := by decide +kernel
theorem dX6_rank_52 : decode cX6_rank 52 = .ok (.getfield 30, 3) := by decide +kernel
theorem dX6_rank_55 : decode cX6_rank 55 = .ok (.getfield 178, 3) := by decide +kernel
theorem dX6_rank_58 : decode cX6_rank 58 = .ok (.iload_n 1, 1) := by decide +kernel
theorem dX6_rank_59 : decode cX6_rank 59 = .ok (.iaload, 1) := by decide +kernel
theorem dX6_rank_60 : decode cX6_rank 60 = .ok (.ireturn, 1) := by decide +kernel
abbrev kX6_rank (g : rk_G) (R : rk_R) (pc : Nat) : rk_K := rk_cut g cX6_rank 3 (some .int) RX6 0 R pc
abbrev aX6_rank (g : rk_G) (R : rk_R) (pc : Nat) (K : rk_K) : Prop := rk_AK g cX6_rank 3 (some .int) RX6 0 R pc K
abbrev sX6_rank (g : rk_G) (vs : List Value) (σ : rk_M) (R : rk_R) : Prop := rk_does g yX6_rank cX6_rank 3 (some .int) 0 vs σ R
abbrev tX6_rank (g : rk_G) (R : rk_R) (pc : Nat) (ls st : List Value) (σ : rk_M) : Prop := rk_At g cX6_rank 3 (some .int) RX6 0 R pc ls st σ
def bX6_rank_60 (g : rk_G) (R : rk_R) : rk_K := (rk_iret R)
theorem eX6_rank_60 (g : rk_G) (R : rk_R) (ls st : List Value) (σ : rk_M) : bX6_rank_60 g R ls st σ = (rk_iret R) ls st σ := rfl
theorem oX6_rank_60 {g : rk_G} {R : rk_R} : aX6_rank g R 60 (bX6_rank_60 g R) := (rk_iret_ok rfl dX6_rank_60)
def bX6_rank_19 (g : rk_G) (R : rk_R) : rk_K := (rk_ci (-2) (rk_iret R))
theorem eX6_rank_19 (g : rk_G) (R : rk_R) (ls st : List Value) (σ : rk_M) : bX6_rank_19 g R ls st σ = (rk_ci (-2) (rk_iret R)) ls st σ := rfl
theorem oX6_rank_19 {g : rk_G} {R : rk_R} : aX6_rank g R 19 (bX6_rank_19 g R) := (rk_bipush_ok dX6_rank_19 (by decide) (rk_iret_ok rfl dX6_rank_21))
def bX6_rank_0 (g : rk_G) (R : rk_R) : rk_K := (rk_iload 1 (rk_if_lt (bX6_rank_19 g R) (rk_iload 1 (rk_ci (24) (rk_icmp_ge (bX6_rank_19 g R) (rk_iload 2 (rk_if_lt (bX6_rank_19 g R) (rk_iload 2 (rk_ci (1) (rk_icmp_le (rk_iload 1 (rk_aload 0 (rk_gR 6 2 (rk_gI 4 11 (rk_icmp_lt (rk_iload 2 (rk_if_ne (rk_aload 0 (rk_gR 6 2 (rk_gR 4 10 (rk_iload 1 (rk_iald (bX6_rank_60 g R)))))) (rk_aload 0 (rk_gR 6 2 (rk_gR 4 7 (rk_iload 1 (rk_iald (bX6_rank_60 g R)))))))) (rk_ci (-1) (rk_iret R))))))) (bX6_rank_19 g R)))))))))))
theorem eX6_rank_0 (g : rk_G) (R : rk_R) (ls st : List Value) (σ : rk_M) : bX6_rank_0 g R ls st σ = (rk_iload 1 (rk_if_lt (bX6_rank_19 g R) (rk_iload 1 (rk_ci (24) (rk_icmp_ge (bX6_rank_19 g R) (rk_iload 2 (rk_if_lt (bX6_rank_19 g R) (rk_iload 2 (rk_ci (1) (rk_icmp_le (rk_iload 1 (rk_aload 0 (rk_gR 6 2 (rk_gI 4 11 (rk_icmp_lt (rk_iload 2 (rk_if_ne (rk_aload 0 (rk_gR 6 2 (rk_gR 4 10 (rk_iload 1 (rk_iald (bX6_rank_60 g R)))))) (rk_aload 0 (rk_gR 6 2 (rk_gR 4 7 (rk_iload 1 (rk_iald (bX6_rank_60 g R)))))))) (rk_ci (-1) (rk_iret R))))))) (bX6_rank_19 g R))))))))))) ls st σ := rfl
theorem oX6_rank_0 {g : rk_G} {R : rk_R} : aX6_rank g R 0 (bX6_rank_0 g R) := (rk_iload_n_ok dX6_rank_0 rfl (rk_if_lt_ok (pc' := 19) dX6_rank_1 (by decide) oX6_rank_19 (rk_iload_n_ok dX6_rank_4 rfl (rk_bipush_ok dX6_rank_5 (by decide) (rk_icmp_ge_ok (pc' := 19) dX6_rank_7 (by decide) oX6_rank_19 (rk_iload_n_ok dX6_rank_10 rfl (rk_if_lt_ok (pc' := 19) dX6_rank_11 (by decide) oX6_rank_19 (rk_iload_n_ok dX6_rank_14 rfl (rk_iconst_ok dX6_rank_15 (by decide) (rk_icmp_le_ok (pc' := 22) dX6_rank_16 (by decide) (rk_iload_n_ok dX6_rank_22 rfl (rk_aload_n_ok dX6_rank_23 rfl (rk_gR_ok dX6_rank_24 rfl iX6 (by decide) rfl wfX6_30 (rk_gI_ok dX6_rank_27 rfl iX4 (by decide) rfl wfX6_172 (rk_icmp_lt_ok (pc' := 35) dX6_rank_30 (by decide) (rk_iload_n_ok dX6_rank_35 rfl (rk_if_ne_ok (pc' := 51) dX6_rank_36 (by decide) (rk_aload_n_ok dX6_rank_51 rfl (rk_gR_ok dX6_rank_52 rfl iX6 (by decide) rfl wfX6_30 (rk_gR_ok dX6_rank_55 rfl iX4 (by decide) rfl wfX6_178 (rk_iload_n_ok dX6_rank_58 rfl (rk_iald_ok dX6_rank_59 oX6_rank_60))))) (rk_aload_n_ok dX6_rank_39 rfl (rk_gR_ok dX6_rank_40 rfl iX6 (by decide) rfl wfX6_30 (rk_gR_ok dX6_rank_43 rfl iX4 (by decide) rfl wfX6_175 (rk_iload_n_ok dX6_rank_46 rfl (rk_iald_ok dX6_rank_47 (rk_goto_ok (pc' := 60) dX6_rank_48 (by decide) oX6_rank_60)))))))) (rk_iconst_ok dX6_rank_33 (by decide) (rk_iret_ok rfl dX6_rank_34))))))) oX6_rank_19))))))))))
theorem dX6_mixed_0 : decode cX6_mixed 0 = .ok (.ldc2_w 310, 3) := by decide +kernel
theorem dX6_mixed_3 : decode cX6_mixed 3 = .ok (.lload_n 0, 1) := by decide +kernel
theorem dX6_mixed_4 : decode cX6_mixed 4 = .ok (.lmul, 1) := by decide +kernel
theorem dX6_mixed_5 : decode cX6_mixed 5 = .ok (.iload_n 2, 1) := by decide +kernel
theorem dX6_mixed_6 : decode cX6_mixed 6 = .ok (.i2l, 1) := by decide +kernel
theorem dX6_mixed_7 : decode cX6_mixed 7 = .ok (.ladd, 1) := by decide +kernel
theorem dX6_mixed_8 : decode cX6_mixed 8 = .ok (.lreturn, 1) := by decide +kernel
abbrev kX6_mixed (g : rk_G) (R : rk_R) (pc : Nat) : rk_K := rk_cut g cX6_mixed 3 (some .long) RX6 0 R pc
abbrev aX6_mixed (g : rk_G) (R : rk_R) (pc : Nat) (K : rk_K) : Prop := rk_AK g cX6_mixed 3 (some .long) RX6 0 R pc K
abbrev sX6_mixed (g : rk_G) (vs : List Value) (σ : rk_M) (R : rk_R) : Prop := rk_does g yX6_mixed cX6_mixed 3 (some .long) 0 vs σ R
abbrev tX6_mixed (g : rk_G) (R : rk_R) (pc : Nat) (ls st : List Value) (σ : rk_M) : Prop := rk_At g cX6_mixed 3 (some .long) RX6 0 R pc ls st σ
def bX6_mixed_0 (g : rk_G) (R : rk_R) : rk_K := (rk_cj (31) (rk_lload 0 (rk_lmul (rk_iload 2 (rk_i2l (rk_ladd (rk_lret R)))))))
theorem eX6_mixed_0 (g : rk_G) (R : rk_R) (ls st : List Value) (σ : rk_M) : bX6_mixed_0 g R ls st σ = (rk_cj (31) (rk_lload 0 (rk_lmul (rk_iload 2 (rk_i2l (rk_ladd (rk_lret R))))))) ls st σ := rfl
theorem oX6_mixed_0 {g : rk_G} {R : rk_R} : aX6_mixed g R 0 (bX6_mixed_0 g R) := (rk_ldc2_ok dX6_mixed_0 wjX6_310 (rk_lload_n_ok dX6_mixed_3 rfl (rk_lmul_ok dX6_mixed_4 (rk_iload_n_ok dX6_mixed_5 rfl (rk_i2l_ok dX6_mixed_6 (rk_ladd_ok dX6_mixed_7 (rk_lret_ok rfl dX6_mixed_8)))))))
theorem dX6_found_0 : decode cX6_found 0 = .ok (.aload_n 0, 1) := by decide +kernel
theorem dX6_found_1 : decode cX6_found 1 = .ok (.iload_n 1, 1) := by decide +kernel
theorem dX6_found_2 : decode cX6_found 2 = .ok (.putfield 57, 3) := by decide +kernel
theorem dX6_found_5 : decode cX6_found 5 = .ok (.bipush (-10), 2) := by decide +kernel
theorem dX6_found_7 : decode cX6_found 7 = .ok (.iload_n 1, 1) := by decide +kernel
theorem dX6_found_8 : decode cX6_found 8 = .ok (.isub, 1) := by decide +kernel
theorem dX6_found_9 : decode cX6_found 9 = .ok (.ireturn, 1) := by decide +kernel
abbrev kX6_found (g : rk_G) (R : rk_R) (pc : Nat) : rk_K := rk_cut g cX6_found 2 (some .int) RX6 0 R pc
abbrev aX6_found (g : rk_G) (R : rk_R) (pc : Nat) (K : rk_K) : Prop := rk_AK g cX6_found 2 (some .int) RX6 0 R pc K
abbrev sX6_found (g : rk_G) (vs : List Value) (σ : rk_M) (R : rk_R) : Prop := rk_does g yX6_found cX6_found 2 (some .int) 0 vs σ R
abbrev tX6_found (g : rk_G) (R : rk_R) (pc : Nat) (ls st : List Value) (σ : rk_M) : Prop := rk_At g cX6_found 2 (some .int) RX6 0 R pc ls st σ
def bX6_found_0 (g : rk_G) (R : rk_R) : rk_K := (rk_aload 0 (rk_iload 1 (rk_pI 6 6 (rk_ci (-10) (rk_iload 1 (rk_isub (rk_iret R)))))))
theorem eX6_found_0 (g : rk_G) (R : rk_R) (ls st : List Value) (σ : rk_M) : bX6_found_0 g R ls st σ = (rk_aload 0 (rk_iload 1 (rk_pI 6 6 (rk_ci (-10) (rk_iload 1 (rk_isub (rk_iret R))))))) ls st σ := rfl
theorem oX6_found_0 {g : rk_G} {R : rk_R} : aX6_found g R 0 (bX6_found_0 g R) := (rk_aload_n_ok dX6_found_0 rfl (rk_iload_n_ok dX6_found_1 rfl (rk_pI_ok dX6_found_2 rfl iX6 tyX6_ok nmX6 (by decide) rfl rfl (by decide +kernel) wfX6_57 (rk_bipush_ok dX6_found_5 (by decide) (rk_iload_n_ok dX6_found_7 rfl (rk_isub_ok dX6_found_8 (rk_iret_ok rfl dX6_found_9)))))))
theorem dX6_isSheet_0 : decode cX6_isSheet 0 = .ok (.iload_n 1, 1) := by decide +kernel
theorem dX6_isSheet_1 : decode cX6_isSheet 1 = .ok (.ifCond .lt 18, 3) := by decide +kernel
theorem dX6_isSheet_4 : decode cX6_isSheet 4 = .ok (.iload_n 1, 1) := by decide +kernel
theorem dX6_isSheet_5 : decode cX6_isSheet 5 = .ok (.aload_n 0, 1) := by decide +kernel
theorem dX6_isSheet_6 : decode cX6_isSheet 6 = .ok (.getfield 30, 3) := by decide +kernel
theorem dX6_isSheet_9 : decode cX6_isSheet 9 = .ok (.getfield 172, 3) := by decide +kernel
theorem dX6_isSheet_12 : decode cX6_isSheet 12 = .ok (.if_icmp .gt 7, 3) := by decide +kernel
theorem dX6_isSheet_15 : decode cX6_isSheet 15 = .ok (.iconst 1, 1) := by decide +kernel
theorem dX6_isSheet_16 : decode cX6_isSheet 16 = .ok (.goto 4, 3) := by decide +kernel
theorem dX6_isSheet_19 : decode cX6_isSheet 19 = .ok (.iconst 0, 1) := by decide +kernel
theorem dX6_isSheet_20 : decode cX6_isSheet 20 = .ok (.ireturn, 1) := by decide +kernel
abbrev kX6_isSheet (g : rk_G) (R : rk_R) (pc : Nat) : rk_K := rk_cut g cX6_isSheet 2 (some .boolean) RX6 0 R pc
abbrev aX6_isSheet (g : rk_G) (R : rk_R) (pc : Nat) (K : rk_K) : Prop := rk_AK g cX6_isSheet 2 (some .boolean) RX6 0 R pc K
abbrev sX6_isSheet (g : rk_G) (vs : List Value) (σ : rk_M) (R : rk_R) : Prop := rk_does g yX6_isSheet cX6_isSheet 2 (some .boolean) 0 vs σ R
abbrev tX6_isSheet (g : rk_G) (R : rk_R) (pc : Nat) (ls st : List Value) (σ : rk_M) : Prop := rk_At g cX6_isSheet 2 (some .boolean) RX6 0 R pc ls st σ
def bX6_isSheet_20 (g : rk_G) (R : rk_R) : rk_K := (rk_zret R)
theorem eX6_isSheet_20 (g : rk_G) (R : rk_R) (ls st : List Value) (σ : rk_M) : bX6_isSheet_20 g R ls st σ = (rk_zret R) ls st σ := rfl
theorem oX6_isSheet_20 {g : rk_G} {R : rk_R} : aX6_isSheet g R 20 (bX6_isSheet_20 g R) := (rk_zret_ok rfl dX6_isSheet_20)
def bX6_isSheet_19 (g : rk_G) (R : rk_R) : rk_K := (rk_ci (0) (bX6_isSheet_20 g R))
theorem eX6_isSheet_19 (g : rk_G) (R : rk_R) (ls st : List Value) (σ : rk_M) : bX6_isSheet_19 g R ls st σ = (rk_ci (0) (bX6_isSheet_20 g R)) ls st σ := rfl
theorem oX6_isSheet_19 {g : rk_G} {R : rk_R} : aX6_isSheet g R 19 (bX6_isSheet_19 g R) := (rk_iconst_ok dX6_isSheet_19 (by decide) oX6_isSheet_20)
def bX6_isSheet_0 (g : rk_G) (R : rk_R) : rk_K := (rk_iload 1 (rk_if_lt (bX6_isSheet_19 g R) (rk_iload 1 (rk_aload 0 (rk_gR 6 2 (rk_gI 4 11 (rk_icmp_gt (bX6_isSheet_19 g R) (rk_ci (1) (bX6_isSheet_20 g R)))))))))
theorem eX6_isSheet_0 (g : rk_G) (R : rk_R) (ls st : List Value) (σ : rk_M) : bX6_isSheet_0 g R ls st σ = (rk_iload 1 (rk_if_lt (bX6_isSheet_19 g R) (rk_iload 1 (rk_aload 0 (rk_gR 6 2 (rk_gI 4 11 (rk_icmp_gt (bX6_isSheet_19 g R) (rk_ci (1) (bX6_isSheet_20 g R))))))))) ls st σ := rfl
theorem oX6_isSheet_0 {g : rk_G} {R : rk_R} : aX6_isSheet g R 0 (bX6_isSheet_0 g R) := (rk_iload_n_ok dX6_isSheet_0 rfl (rk_if_lt_ok (pc' := 19) dX6_isSheet_1 (by decide) oX6_isSheet_19 (rk_iload_n_ok dX6_isSheet_4 rfl (rk_aload_n_ok dX6_isSheet_5 rfl (rk_gR_ok dX6_isSheet_6 rfl iX6 (by decide) rfl wfX6_30 (rk_gI_ok dX6_isSheet_9 rfl iX4 (by decide) rfl wfX6_172 (rk_icmp_gt_ok (pc' := 19) dX6_isSheet_12 (by decide) oX6_isSheet_19 (rk_iconst_ok dX6_isSheet_15 (by decide) (rk_goto_ok (pc' := 20) dX6_isSheet_16 (by decide) oX6_isSheet_20)))))))))
theorem dX6_isRow_0 : decode cX6_isRow 0 = .ok (.iload_n 0, 1) := by decide +kernel
theorem dX6_isRow_1 : decode cX6_isRow 1 = .ok (.ifCond .lt 12, 3) := by decide +kernel
theorem dX6_isRow_4 : decode cX6_isRow 4 = .ok (.iload_n 0, 1) := by decide +kernel
theorem dX6_isRow_5 : decode cX6_isRow 5 = .ok (.iconst 4, 1) := by decide +kernel
theorem dX6_isRow_6 : decode cX6_isRow 6 = .ok (.if_icmp .ge 7, 3) := by decide +kernel
theorem dX6_isRow_9 : decode cX6_isRow 9 = .ok (.iconst 1, 1) := by decide +kernel
theorem dX6_isRow_10 : decode cX6_isRow 10 = .ok (.goto 4, 3) := by decide +kernel
theorem dX6_isRow_13 : decode cX6_isRow 13 = .ok (.iconst 0, 1) := by decide +kernel
theorem dX6_isRow_14 : decode cX6_isRow 14 = .ok (.ireturn, 1) := by decide +kernel
abbrev kX6_isRow (g : rk_G) (R : rk_R) (pc : Nat) : rk_K := rk_cut g cX6_isRow 1 (some .boolean) RX6 0 R pc
abbrev aX6_isRow (g : rk_G) (R : rk_R) (pc : Nat) (K : rk_K) : Prop := rk_AK g cX6_isRow 1 (some .boolean) RX6 0 R pc K
abbrev sX6_isRow (g : rk_G) (vs : List Value) (σ : rk_M) (R : rk_R) : Prop := rk_does g yX6_isRow cX6_isRow 1 (some .boolean) 0 vs σ R
abbrev tX6_isRow (g : rk_G) (R : rk_R) (pc : Nat) (ls st : List Value) (σ : rk_M) : Prop := rk_At g cX6_isRow 1 (some .boolean) RX6 0 R pc ls st σ
def bX6_isRow_14 (g : rk_G) (R : rk_R) : rk_K := (rk_zret R)
theorem eX6_isRow_14 (g : rk_G) (R : rk_R) (ls st : List Value) (σ : rk_M) : bX6_isRow_14 g R ls st σ = (rk_zret R) ls st σ := rfl
theorem oX6_isRow_14 {g : rk_G} {R : rk_R} : aX6_isRow g R 14 (bX6_isRow_14 g R) := (rk_zret_ok rfl dX6_isRow_14)
def bX6_isRow_13 (g : rk_G) (R : rk_R) : rk_K := (rk_ci (0) (bX6_isRow_14 g R))
theorem eX6_isRow_13 (g : rk_G) (R : rk_R) (ls st : List Value) (σ : rk_M) : bX6_isRow_13 g R ls st σ = (rk_ci (0) (bX6_isRow_14 g R)) ls st σ := rfl
theorem oX6_isRow_13 {g : rk_G} {R : rk_R} : aX6_isRow g R 13 (bX6_isRow_13 g R) := (rk_iconst_ok dX6_isRow_13 (by decide) oX6_isRow_14)
def bX6_isRow_0 (g : rk_G) (R : rk_R) : rk_K := (rk_iload 0 (rk_if_lt (bX6_isRow_13 g R) (rk_iload 0 (rk_ci (4) (rk_icmp_ge (bX6_isRow_13 g R) (rk_ci (1) (bX6_isRow_14 g R)))))))
theorem eX6_isRow_0 (g : rk_G) (R : rk_R) (ls st : List Value) (σ : rk_M) : bX6_isRow_0 g R ls st σ = (rk_iload 0 (rk_if_lt (bX6_isRow_13 g R) (rk_iload 0 (rk_ci (4) (rk_icmp_ge (bX6_isRow_13 g R) (rk_ci (1) (bX6_isRow_14 g R))))))) ls st σ := rfl
theorem oX6_isRow_0 {g : rk_G} {R : rk_R} : aX6_isRow g R 0 (bX6_isRow_0 g R) := (rk_iload_n_ok dX6_isRow_0 rfl (rk_if_lt_ok (pc' := 13) dX6_isRow_1 (by decide) oX6_isRow_13 (rk_iload_n_ok dX6_isRow_4 rfl (rk_iconst_ok dX6_isRow_5 (by decide) (rk_icmp_ge_ok (pc' := 13) dX6_isRow_6 (by decide) oX6_isRow_13 (rk_iconst_ok dX6_isRow_9 (by decide) (rk_goto_ok (pc' := 14) dX6_isRow_10 (by decide) oX6_isRow_14)))))))
theorem dX6_isForm_0 : decode cX6_isForm 0 = .ok (.iload_n 0, 1) := by decide +kernel
theorem dX6_isForm_1 : decode cX6_isForm 1 = .ok (.ifCond .lt 12, 3) := by decide +kernel
theorem dX6_isForm_4 : decode cX6_isForm 4 = .ok (.iload_n 0, 1) := by decide +kernel
theorem dX6_isForm_5 : decode cX6_isForm 5 = .ok (.iconst 2, 1) := by decide +kernel
theorem dX6_isForm_6 : decode cX6_isForm 6 = .ok (.if_icmp .gt 7, 3) := by decide +kernel
theorem dX6_isForm_9 : decode cX6_isForm 9 = .ok (.iconst 1, 1) := by decide +kernel
theorem dX6_isForm_10 : decode cX6_isForm 10 = .ok (.goto 4, 3) := by decide +kernel
theorem dX6_isForm_13 : decode cX6_isForm 13 = .ok (.iconst 0, 1) := by decide +kernel
theorem dX6_isForm_14 : decode cX6_isForm 14 = .ok (.ireturn, 1) := by decide +kernel
abbrev kX6_isForm (g : rk_G) (R : rk_R) (pc : Nat) : rk_K := rk_cut g cX6_isForm 1 (some .boolean) RX6 0 R pc
abbrev aX6_isForm (g : rk_G) (R : rk_R) (pc : Nat) (K : rk_K) : Prop := rk_AK g cX6_isForm 1 (some .boolean) RX6 0 R pc K
abbrev sX6_isForm (g : rk_G) (vs : List Value) (σ : rk_M) (R : rk_R) : Prop := rk_does g yX6_isForm cX6_isForm 1 (some .boolean) 0 vs σ R
abbrev tX6_isForm (g : rk_G) (R : rk_R) (pc : Nat) (ls st : List Value) (σ : rk_M) : Prop := rk_At g cX6_isForm 1 (some .boolean) RX6 0 R pc ls st σ
def bX6_isForm_14 (g : rk_G) (R : rk_R) : rk_K := (rk_zret R)
theorem eX6_isForm_14 (g : rk_G) (R : rk_R) (ls st : List Value) (σ : rk_M) : bX6_isForm_14 g R ls st σ = (rk_zret R) ls st σ := rfl
theorem oX6_isForm_14 {g : rk_G} {R : rk_R} : aX6_isForm g R 14 (bX6_isForm_14 g R) := (rk_zret_ok rfl dX6_isForm_14)
def bX6_isForm_13 (g : rk_G) (R : rk_R) : rk_K := (rk_ci (0) (bX6_isForm_14 g R))
theorem eX6_isForm_13 (g : rk_G) (R : rk_R) (ls st : List Value) (σ : rk_M) : bX6_isForm_13 g R ls st σ = (rk_ci (0) (bX6_isForm_14 g R)) ls st σ := rfl
theorem oX6_isForm_13 {g : rk_G} {R : rk_R} : aX6_isForm g R 13 (bX6_isForm_13 g R) := (rk_iconst_ok dX6_isForm_13 (by decide) oX6_isForm_14)
def bX6_isForm_0 (g : rk_G) (R : rk_R) : rk_K := (rk_iload 0 (rk_if_lt (bX6_isForm_13 g R) (rk_iload 0 (rk_ci (2) (rk_icmp_gt (bX6_isForm_13 g R) (rk_ci (1) (bX6_isForm_14 g R)))))))
theorem eX6_isForm_0 (g : rk_G) (R : rk_R) (ls st : List Value) (σ : rk_M) : bX6_isForm_0 g R ls st σ = (rk_iload 0 (rk_if_lt (bX6_isForm_13 g R) (rk_iload 0 (rk_ci (2) (rk_icmp_gt (bX6_isForm_13 g R) (rk_ci (1) (bX6_isForm_14 g R))))))) ls st σ := rfl
theorem oX6_isForm_0 {g : rk_G} {R : rk_R} : aX6_isForm g R 0 (bX6_isForm_0 g R) := (rk_iload_n_ok dX6_isForm_0 rfl (rk_if_lt_ok (pc' := 13) dX6_isForm_1 (by decide) oX6_isForm_13 (rk_iload_n_ok dX6_isForm_4 rfl (rk_iconst_ok dX6_isForm_5 (by decide) (rk_icmp_gt_ok (pc' := 13) dX6_isForm_6 (by decide) oX6_isForm_13 (rk_iconst_ok dX6_isForm_9 (by decide) (rk_goto_ok (pc' := 14) dX6_isForm_10 (by decide) oX6_isForm_14)))))))
theorem dX6_isPlace_0 : decode cX6_isPlace 0 = .ok (.iload_n 0, 1) := by decide +kernel
theorem dX6_isPlace_1 : decode cX6_isPlace 1 = .ok (.ifCond .lt 13, 3) := by decide +kernel
theorem dX6_isPlace_4 : decode cX6_isPlace 4 = .ok (.iload_n 0, 1) := by decide +kernel
theorem dX6_isPlace_5 : decode cX6_isPlace 5 = .ok (.bipush 30, 2) := by decide +kernel
theorem dX6_isPlace_7 : decode cX6_isPlace 7 = .ok (.if_icmp .gt 7, 3) := by decide +kernel
theorem dX6_isPlace_10 : decode cX6_isPlace 10 = .ok (.iconst 1, 1) := by decide +kernel
theorem dX6_isPlace_11 : decode cX6_isPlace 11 = .ok (.goto 4, 3) := by decide +kernel
theorem dX6_isPlace_14 : decode cX6_isPlace 14 = .ok (.iconst 0, 1) := by decide +kernel
theorem dX6_isPlace_15 : decode cX6_isPlace 15 = .ok (.ireturn, 1) := by decide +kernel
abbrev kX6_isPlace (g : rk_G) (R : rk_R) (pc : Nat) : rk_K := rk_cut g cX6_isPlace 1 (some .boolean) RX6 0 R pc
abbrev aX6_isPlace (g : rk_G) (R : rk_R) (pc : Nat) (K : rk_K) : Prop := rk_AK g cX6_isPlace 1 (some .boolean) RX6 0 R pc K
abbrev sX6_isPlace (g : rk_G) (vs : List Value) (σ : rk_M) (R : rk_R) : Prop := rk_does g yX6_isPlace cX6_isPlace 1 (some .boolean) 0 vs σ R
abbrev tX6_isPlace (g : rk_G) (R : rk_R) (pc : Nat) (ls st : List Value) (σ : rk_M) : Prop := rk_At g cX6_isPlace 1 (some .boolean) RX6 0 R pc ls st σ
def bX6_isPlace_15 (g : rk_G) (R : rk_R) : rk_K := (rk_zret R)
theorem eX6_isPlace_15 (g : rk_G) (R : rk_R) (ls st : List Value) (σ : rk_M) : bX6_isPlace_15 g R ls st σ = (rk_zret R) ls st σ := rfl
theorem oX6_isPlace_15 {g : rk_G} {R : rk_R} : aX6_isPlace g R 15 (bX6_isPlace_15 g R) := (rk_zret_ok rfl dX6_isPlace_15)
def bX6_isPlace_14 (g : rk_G) (R : rk_R) : rk_K := (rk_ci (0) (bX6_isPlace_15 g R))
theorem eX6_isPlace_14 (g : rk_G) (R : rk_R) (ls st : List Value) (σ : rk_M) : bX6_isPlace_14 g R ls st σ = (rk_ci (0) (bX6_isPlace_15 g R)) ls st σ := rfl
theorem oX6_isPlace_14 {g : rk_G} {R : rk_R} : aX6_isPlace g R 14 (bX6_isPlace_14 g R) := (rk_iconst_ok dX6_isPlace_14 (by decide) oX6_isPlace_15)
def bX6_isPlace_0 (g : rk_G) (R : rk_R) : rk_K := (rk_iload 0 (rk_if_lt (bX6_isPlace_14 g R) (rk_iload 0 (rk_ci (30) (rk_icmp_gt (bX6_isPlace_14 g R) (rk_ci (1) (bX6_isPlace_15 g R)))))))
theorem eX6_isPlace_0 (g : rk_G) (R : rk_R) (ls st : List Value) (σ : rk_M) : bX6_isPlace_0 g R ls st σ = (rk_iload 0 (rk_if_lt (bX6_isPlace_14 g R) (rk_iload 0 (rk_ci (30) (rk_icmp_gt (bX6_isPlace_14 g R) (rk_ci (1) (bX6_isPlace_15 g R))))))) ls st σ := rfl
theorem oX6_isPlace_0 {g : rk_G} {R : rk_R} : aX6_isPlace g R 0 (bX6_isPlace_0 g R) := (rk_iload_n_ok dX6_isPlace_0 rfl (rk_if_lt_ok (pc' := 14) dX6_isPlace_1 (by decide) oX6_isPlace_14 (rk_iload_n_ok dX6_isPlace_4 rfl (rk_bipush_ok dX6_isPlace_5 (by decide) (rk_icmp_gt_ok (pc' := 14) dX6_isPlace_7 (by decide) oX6_isPlace_14 (rk_iconst_ok dX6_isPlace_10 (by decide) (rk_goto_ok (pc' := 15) dX6_isPlace_11 (by decide) oX6_isPlace_15)))))))
theorem dX6_isKind_0 : decode cX6_isKind 0 = .ok (.iload_n 0, 1) := by decide +kernel
theorem dX6_isKind_1 : decode cX6_isKind 1 = .ok (.ifCond .lt 12, 3) := by decide +kernel
theorem dX6_isKind_4 : decode cX6_isKind 4 = .ok (.iload_n 0, 1) := by decide +kernel
theorem dX6_isKind_5 : decode cX6_isKind 5 = .ok (.iconst 2, 1) := by decide +kernel
theorem dX6_isKind_6 : decode cX6_isKind 6 = .ok (.if_icmp .gt 7, 3) := by decide +kernel
theorem dX6_isKind_9 : decode cX6_isKind 9 = .ok (.iconst 1, 1) := by decide +kernel
theorem dX6_isKind_10 : decode cX6_isKind 10 = .ok (.goto 4, 3) := by decide +kernel
theorem dX6_isKind_13 : decode cX6_isKind 13 = .ok (.iconst 0, 1) := by decide +kernel
theorem dX6_isKind_14 : decode cX6_isKind 14 = .ok (.ireturn, 1) := by decide +kernel
abbrev kX6_isKind (g : rk_G) (R : rk_R) (pc : Nat) : rk_K := rk_cut g cX6_isKind 1 (some .boolean) RX6 0 R pc
abbrev aX6_isKind (g : rk_G) (R : rk_R) (pc : Nat) (K : rk_K) : Prop := rk_AK g cX6_isKind 1 (some .boolean) RX6 0 R pc K
abbrev sX6_isKind (g : rk_G) (vs : List Value) (σ : rk_M) (R : rk_R) : Prop := rk_does g yX6_isKind cX6_isKind 1 (some .boolean) 0 vs σ R
abbrev tX6_isKind (g : rk_G) (R : rk_R) (pc : Nat) (ls st : List Value) (σ : rk_M) : Prop := rk_At g cX6_isKind 1 (some .boolean) RX6 0 R pc ls st σ
def bX6_isKind_14 (g : rk_G) (R : rk_R) : rk_K := (rk_zret R)
theorem eX6_isKind_14 (g : rk_G) (R : rk_R) (ls st : List Value) (σ : rk_M) : bX6_isKind_14 g R ls st σ = (rk_zret R) ls st σ := rfl
theorem oX6_isKind_14 {g : rk_G} {R : rk_R} : aX6_isKind g R 14 (bX6_isKind_14 g R) := (rk_zret_ok rfl dX6_isKind_14)
def bX6_isKind_13 (g : rk_G) (R : rk_R) : rk_K := (rk_ci (0) (bX6_isKind_14 g R))
theorem eX6_isKind_13 (g : rk_G) (R : rk_R) (ls st : List Value) (σ : rk_M) : bX6_isKind_13 g R ls st σ = (rk_ci (0) (bX6_isKind_14 g R)) ls st σ := rfl
theorem oX6_isKind_13 {g : rk_G} {R : rk_R} : aX6_isKind g R 13 (bX6_isKind_13 g R) := (rk_iconst_ok dX6_isKind_13 (by decide) oX6_isKind_14)
def bX6_isKind_0 (g : rk_G) (R : rk_R) : rk_K := (rk_iload 0 (rk_if_lt (bX6_isKind_13 g R) (rk_iload 0 (rk_ci (2) (rk_icmp_gt (bX6_isKind_13 g R) (rk_ci (1) (bX6_isKind_14 g R)))))))
theorem eX6_isKind_0 (g : rk_G) (R : rk_R) (ls st : List Value) (σ : rk_M) : bX6_isKind_0 g R ls st σ = (rk_iload 0 (rk_if_lt (bX6_isKind_13 g R) (rk_iload 0 (rk_ci (2) (rk_icmp_gt (bX6_isKind_13 g R) (rk_ci (1) (bX6_isKind_14 g R))))))) ls st σ := rfl
theorem oX6_isKind_0 {g : rk_G} {R : rk_R} : aX6_isKind g R 0 (bX6_isKind_0 g R) := (rk_iload_n_ok dX6_isKind_0 rfl (rk_if_lt_ok (pc' := 13) dX6_isKind_1 (by decide) oX6_isKind_13 (rk_iload_n_ok dX6_isKind_4 rfl (rk_iconst_ok dX6_isKind_5 (by decide) (rk_icmp_gt_ok (pc' := 13) dX6_isKind_6 (by decide) oX6_isKind_13 (rk_iconst_ok dX6_isKind_9 (by decide) (rk_goto_ok (pc' := 14) dX6_isKind_10 (by decide) oX6_isKind_14)))))))
theorem dX6_isUse_0 : decode cX6_isUse 0 = .ok (.iload_n 0, 1) := by decide +kernel
theorem dX6_isUse_1 : decode cX6_isUse 1 = .ok (.ifCond .lt 13, 3) := by decide +kernel
theorem dX6_isUse_4 : decode cX6_isUse 4 = .ok (.iload_n 0, 1) := by decide +kernel
theorem dX6_isUse_5 : decode cX6_isUse 5 = .ok (.bipush 9, 2) := by decide +kernel
theorem dX6_isUse_7 : decode cX6_isUse 7 = .ok (.if_icmp .gt 7, 3) := by decide +kernel
theorem dX6_isUse_10 : decode cX6_isUse 10 = .ok (.iconst 1, 1) := by decide +kernel
theorem dX6_isUse_11 : decode cX6_isUse 11 = .ok (.goto 4, 3) := by decide +kernel
theorem dX6_isUse_14 : decode cX6_isUse 14 = .ok (.iconst 0, 1) := by decide +kernel
theorem dX6_isUse_15 : decode cX6_isUse 15 = .ok (.ireturn, 1) := by decide +kernel
abbrev kX6_isUse (g : rk_G) (R : rk_R) (pc : Nat) : rk_K := rk_cut g cX6_isUse 1 (some .boolean) RX6 0 R pc
abbrev aX6_isUse (g : rk_G) (R : rk_R) (pc : Nat) (K : rk_K) : Prop := rk_AK g cX6_isUse 1 (some .boolean) RX6 0 R pc K
abbrev sX6_isUse (g : rk_G) (vs : List Value) (σ : rk_M) (R : rk_R) : Prop := rk_does g yX6_isUse cX6_isUse 1 (some .boolean) 0 vs σ R
abbrev tX6_isUse (g : rk_G) (R : rk_R) (pc : Nat) (ls st : List Value) (σ : rk_M) : Prop := rk_At g cX6_isUse 1 (some .boolean) RX6 0 R pc ls st σ
def bX6_isUse_15 (g : rk_G) (R : rk_R) : rk_K := (rk_zret R)
theorem eX6_isUse_15 (g : rk_G) (R : rk_R) (ls st : List Value) (σ : rk_M) : bX6_isUse_15 g R ls st σ = (rk_zret R) ls st σ := rfl
theorem oX6_isUse_15 {g : rk_G} {R : rk_R} : aX6_isUse g R 15 (bX6_isUse_15 g R) := (rk_zret_ok rfl dX6_isUse_15)
def bX6_isUse_14 (g : rk_G) (R : rk_R) : rk_K := (rk_ci (0) (bX6_isUse_15 g R))
theorem eX6_isUse_14 (g : rk_G) (R : rk_R) (ls st : List Value) (σ : rk_M) : bX6_isUse_14 g R ls st σ = (rk_ci (0) (bX6_isUse_15 g R)) ls st σ := rfl
theorem oX6_isUse_14 {g : rk_G} {R : rk_R} : aX6_isUse g R 14 (bX6_isUse_14 g R) := (rk_iconst_ok dX6_isUse_14 (by decide) oX6_isUse_15)
def bX6_isUse_0 (g : rk_G) (R : rk_R) : rk_K := (rk_iload 0 (rk_if_lt (bX6_isUse_14 g R) (rk_iload 0 (rk_ci (9) (rk_icmp_gt (bX6_isUse_14 g R) (rk_ci (1) (bX6_isUse_15 g R)))))))
theorem eX6_isUse_0 (g : rk_G) (R : rk_R) (ls st : List Value) (σ : rk_M) : bX6_isUse_0 g R ls st σ = (rk_iload 0 (rk_if_lt (bX6_isUse_14 g R) (rk_iload 0 (rk_ci (9) (rk_icmp_gt (bX6_isUse_14 g R) (rk_ci (1) (bX6_isUse_15 g R))))))) ls st σ := rfl
theorem oX6_isUse_0 {g : rk_G} {R : rk_R} : aX6_isUse g R 0 (bX6_isUse_0 g R) := (rk_iload_n_ok dX6_isUse_0 rfl (rk_if_lt_ok (pc' := 14) dX6_isUse_1 (by decide) oX6_isUse_14 (rk_iload_n_ok dX6_isUse_4 rfl (rk_bipush_ok dX6_isUse_5 (by decide) (rk_icmp_gt_ok (pc' := 14) dX6_isUse_7 (by decide) oX6_isUse_14 (rk_iconst_ok dX6_isUse_10 (by decide) (rk_goto_ok (pc' := 15) dX6_isUse_11 (by decide) oX6_isUse_15)))))))
theorem dX6_hasBit_0 : decode cX6_hasBit 0 = .ok (.iload_n 0, 1) := by decide +kernel
theorem dX6_hasBit_1 : decode cX6_hasBit 1 = .ok (.iload_n 1, 1) := by decide +kernel
theorem dX6_hasBit_2 : decode cX6_hasBit 2 = .ok (.ishr, 1) := by decide +kernel
theorem dX6_hasBit_3 : decode cX6_hasBit 3 = .ok (.iconst 1, 1) := by decide +kernel
theorem dX6_hasBit_4 : decode cX6_hasBit 4 = .ok (.iand, 1) := by decide +kernel
theorem dX6_hasBit_5 : decode cX6_hasBit 5 = .ok (.ifCond .eq 7, 3) := by decide +kernel
theorem dX6_hasBit_8 : decode cX6_hasBit 8 = .ok (.iconst 1, 1) := by decide +kernel
theorem dX6_hasBit_9 : decode cX6_hasBit 9 = .ok (.goto 4, 3) := by decide +kernel
theorem dX6_hasBit_12 : decode cX6_hasBit 12 = .ok (.iconst 0, 1) := by decide +kernel
theorem dX6_hasBit_13 : decode cX6_hasBit 13 = .ok (.ireturn, 1) := by decide +kernel
abbrev kX6_hasBit (g : rk_G) (R : rk_R) (pc : Nat) : rk_K := rk_cut g cX6_hasBit 2 (some .boolean) RX6 0 R pc
abbrev aX6_hasBit (g : rk_G) (R : rk_R) (pc : Nat) (K : rk_K) : Prop := rk_AK g cX6_hasBit 2 (some .boolean) RX6 0 R pc K
abbrev sX6_hasBit (g : rk_G) (vs : List Value) (σ : rk_M) (R : rk_R) : Prop := rk_does g yX6_hasBit cX6_hasBit 2 (some .boolean) 0 vs σ R
abbrev tX6_hasBit (g : rk_G) (R : rk_R) (pc : Nat) (ls st : List Value) (σ : rk_M) : Prop := rk_At g cX6_hasBit 2 (some .boolean) RX6 0 R pc ls st σ
def bX6_hasBit_13 (g : rk_G) (R : rk_R) : rk_K := (rk_zret R)
theorem eX6_hasBit_13 (g : rk_G) (R : rk_R) (ls st : List Value) (σ : rk_M) : bX6_hasBit_13 g R ls st σ = (rk_zret R) ls st σ := rfl
theorem oX6_hasBit_13 {g : rk_G} {R : rk_R} : aX6_hasBit g R 13 (bX6_hasBit_13 g R) := (rk_zret_ok rfl dX6_hasBit_13)
def bX6_hasBit_0 (g : rk_G) (R : rk_R) : rk_K := (rk_iload 0 (rk_iload 1 (rk_ishr (rk_ci (1) (rk_iand (rk_if_eq (rk_ci (0) (bX6_hasBit_13 g R)) (rk_ci (1) (bX6_hasBit_13 g R))))))))
theorem eX6_hasBit_0 (g : rk_G) (R : rk_R) (ls st : List Value) (σ : rk_M) : bX6_hasBit_0 g R ls st σ = (rk_iload 0 (rk_iload 1 (rk_ishr (rk_ci (1) (rk_iand (rk_if_eq (rk_ci (0) (bX6_hasBit_13 g R)) (rk_ci (1) (bX6_hasBit_13 g R)))))))) ls st σ := rfl
theorem oX6_hasBit_0 {g : rk_G} {R : rk_R} : aX6_hasBit g R 0 (bX6_hasBit_0 g R) := (rk_iload_n_ok dX6_hasBit_0 rfl (rk_iload_n_ok dX6_hasBit_1 rfl (rk_ishr_ok dX6_hasBit_2 (rk_iconst_ok dX6_hasBit_3 (by decide) (rk_iand_ok dX6_hasBit_4 (rk_if_eq_ok (pc' := 12) dX6_hasBit_5 (by decide) (rk_iconst_ok dX6_hasBit_12 (by decide) oX6_hasBit_13) (rk_iconst_ok dX6_hasBit_8 (by decide) (rk_goto_ok (pc' := 13) dX6_hasBit_9 (by decide) oX6_hasBit_13))))))))
theorem dJ6_bitCount_0f7a4_0 : decode cJ6_bitCount_0f7a4 0 = .ok (.iload_n 0, 1) := by decide +kernel
theorem dJ6_bitCount_0f7a4_1 : decode cJ6_bitCount_0f7a4 1 = .ok (.iload_n 0, 1) := by decide +kernel
theorem dJ6_bitCount_0f7a4_2 : decode cJ6_bitCount_0f7a4 2 = .ok (.iconst 1, 1) := by decide +kernel
theorem dJ6_bitCount_0f7a4_3 : decode cJ6_bitCount_0f7a4 3 = .ok (.iushr, 1) := by decide +kernel
theorem dJ6_bitCount_0f7a4_4 : decode cJ6_bitCount_0f7a4 4 = .ok (.ldc_w 265, 3) := by decide +kernel
theorem dJ6_bitCount_0f7a4_7 : decode cJ6_bitCount_0f7a4 7 = .ok (.iand, 1) := by decide +kernel
theorem dJ6_bitCount_0f7a4_8 : decode cJ6_bitCount_0f7a4 8 = .ok (.isub, 1) := by decide +kernel
theorem dJ6_bitCount_0f7a4_9 : decode cJ6_bitCount_0f7a4 9 = .ok (.istore_n 0, 1) := by decide +kernel
theorem dJ6_bitCount_0f7a4_10 : decode cJ6_bitCount_0f7a4 10 = .ok (.iload_n 0, 1) := by decide +kernel
theorem dJ6_bitCount_0f7a4_11 : decode cJ6_bitCount_0f7a4 11 = .ok (.ldc_w 266, 3) := by decide +kernel
theorem dJ6_bitCount_0f7a4_14 : decode cJ6_bitCount_0f7a4 14 = .ok (.iand, 1) := by decide +kernel
theorem dJ6_bitCount_0f7a4_15 : decode cJ6_bitCount_0f7a4 15 = .ok (.iload_n 0, 1) := by decide +kernel
theorem dJ6_bitCount_0f7a4_16 : decode cJ6_bitCount_0f7a4 16 = .ok (.iconst 2, 1) := by decide +kernel
theorem dJ6_bitCount_0f7a4_17 : decode cJ6_bitCount_0f7a4 17 = .ok (.iushr, 1) := by decide +kernel
theorem dJ6_bitCount_0f7a4_18 : decode cJ6_bitCount_0f7a4 18 = .ok (.ldc_w 266, 3) := by decide +kernel
theorem dJ6_bitCount_0f7a4_21 : decode cJ6_bitCount_0f7a4 21 = .ok (.iand, 1) := by decide +kernel
theorem dJ6_bitCount_0f7a4_22 : decode cJ6_bitCount_0f7a4 22 = .ok (.iadd, 1) := by decide +kernel
theorem dJ6_bitCount_0f7a4_23 : decode cJ6_bitCount_0f7a4 23 = .ok (.istore_n 0, 1) := by decide +kernel
theorem dJ6_bitCount_0f7a4_24 : decode cJ6_bitCount_0f7a4 24 = .ok (.iload_n 0, 1) := by decide +kernel
theorem dJ6_bitCount_0f7a4_25 : decode cJ6_bitCount_0f7a4 25 = .ok (.iload_n 0, 1) := by decide +kernel
theorem dJ6_bitCount_0f7a4_26 : decode cJ6_bitCount_0f7a4 26 = .ok (.iconst 4, 1) := by decide +kernel
theorem dJ6_bitCount_0f7a4_27 : decode cJ6_bitCount_0f7a4 27 = .ok (.iushr, 1) := by decide +kernel
theorem dJ6_bitCount_0f7a4_28 : decode cJ6_bitCount_0f7a4 28 = .ok (.iadd, 1) := by decide +kernel
theorem dJ6_bitCount_0f7a4_29 : decode cJ6_bitCount_0f7a4 29 = .ok (.ldc_w 267, 3) := by decide +kernel
theorem dJ6_bitCount_0f7a4_32 : decode cJ6_bitCount_0f7a4 32 = .ok (.iand, 1) := by decide +kernel
theorem dJ6_bitCount_0f7a4_33 : decode cJ6_bitCount_0f7a4 33 = .ok (.istore_n 0, 1) := by decide +kernel
theorem dJ6_bitCount_0f7a4_34 : decode cJ6_bitCount_0f7a4 34 = .ok (.iload_n 0, 1) := by decide +kernel
theorem dJ6_bitCount_0f7a4_35 : decode cJ6_bitCount_0f7a4 35 = .ok (.iload_n 0, 1) := by decide +kernel
theorem dJ6_bitCount_0f7a4_36 : decode cJ6_bitCount_0f7a4 36 = .ok (.bipush 8, 2) := by decide +kernel
theorem dJ6_bitCount_0f7a4_38 : decode cJ6_bitCount_0f7a4 38 = .ok (.iushr, 1) := by decide +kernel
theorem dJ6_bitCount_0f7a4_39 : decode cJ6_bitCount_0f7a4 39 = .ok (.iadd, 1) := by decide +kernel
theorem dJ6_bitCount_0f7a4_40 : decode cJ6_bitCount_0f7a4 40 = .ok (.istore_n 0, 1) := by decide +kernel
theorem dJ6_bitCount_0f7a4_41 : decode cJ6_bitCount_0f7a4 41 = .ok (.iload_n 0, 1) := by decide +kernel
theorem dJ6_bitCount_0f7a4_42 : decode cJ6_bitCount_0f7a4 42 = .ok (.iload_n 0, 1) := by decide +kernel
theorem dJ6_bitCount_0f7a4_43 : decode cJ6_bitCount_0f7a4 43 = .ok (.bipush 16, 2) := by decide +kernel
theorem dJ6_bitCount_0f7a4_45 : decode cJ6_bitCount_0f7a4 45 = .ok (.iushr, 1) := by decide +kernel
theorem dJ6_bitCount_0f7a4_46 : decode cJ6_bitCount_0f7a4 46 = .ok (.iadd, 1) := by decide +kernel
theorem dJ6_bitCount_0f7a4_47 : decode cJ6_bitCount_0f7a4 47 = .ok (.istore_n 0, 1) := by decide +kernel
theorem dJ6_bitCount_0f7a4_48 : decode cJ6_bitCount_0f7a4 48 = .ok (.iload_n 0, 1) := by decide +kernel
theorem dJ6_bitCount_0f7a4_49 : decode cJ6_bitCount_0f7a4 49 = .ok (.bipush 63, 2) := by decide +kernel
theorem dJ6_bitCount_0f7a4_51 : decode cJ6_bitCount_0f7a4 51 = .ok (.iand, 1) := by decide +kernel
theorem dJ6_bitCount_0f7a4_52 : decode cJ6_bitCount_0f7a4 52 = .ok (.ireturn, 1) := by decide +kernel
abbrev kJ6_bitCount_0f7a4 (g : rk_G) (R : rk_R) (pc : Nat) : rk_K := rk_cut g cJ6_bitCount_0f7a4 1 (some .int) RJ6 0 R pc
abbrev aJ6_bitCount_0f7a4 (g : rk_G) (R : rk_R) (pc : Nat) (K : rk_K) : Prop := rk_AK g cJ6_bitCount_0f7a4 1 (some .int) RJ6 0 R pc K
abbrev sJ6_bitCount_0f7a4 (g : rk_G) (vs : List Value) (σ : rk_M) (R : rk_R) : Prop := rk_does g yJ6_bitCount_0f7a4 cJ6_bitCount_0f7a4 1 (some .int) 0 vs σ R
abbrev tJ6_bitCount_0f7a4 (g : rk_G) (R : rk_R) (pc : Nat) (ls st : List Value) (σ : rk_M) : Prop := rk_At g cJ6_bitCount_0f7a4 1 (some .int) RJ6 0 R pc ls st σ
def bJ6_bitCount_0f7a4_0 (g : rk_G) (R : rk_R) : rk_K := (rk_iload 0 (rk_iload 0 (rk_ci (1) (rk_iushr (rk_ci (1431655765) (rk_iand (rk_isub (rk_istore 0 (rk_iload 0 (rk_ci (858993459) (rk_iand (rk_iload 0 (rk_ci (2) (rk_iushr (rk_ci (858993459) (rk_iand (rk_iadd (rk_istore 0 (rk_iload 0 (rk_iload 0 (rk_ci (4) (rk_iushr (rk_iadd (rk_ci (252645135) (rk_iand (rk_istore 0 (rk_iload 0 (rk_iload 0 (rk_ci (8) (rk_iushr (rk_iadd (rk_istore 0 (rk_iload 0 (rk_iload 0 (rk_ci (16) (rk_iushr (rk_iadd (rk_istore 0 (rk_iload 0 (rk_ci (63) (rk_iand (rk_iret R))))))))))))))))))))))))))))))))))))))))))
theorem eJ6_bitCount_0f7a4_0 (g : rk_G) (R : rk_R) (ls st : List Value) (σ : rk_M) : bJ6_bitCount_0f7a4_0 g R ls st σ = (rk_iload 0 (rk_iload 0 (rk_ci (1) (rk_iushr (rk_ci (1431655765) (rk_iand (rk_isub (rk_istore 0 (rk_iload 0 (rk_ci (858993459) (rk_iand (rk_iload 0 (rk_ci (2) (rk_iushr (rk_ci (858993459) (rk_iand (rk_iadd (rk_istore 0 (rk_iload 0 (rk_iload 0 (rk_ci (4) (rk_iushr (rk_iadd (rk_ci (252645135) (rk_iand (rk_istore 0 (rk_iload 0 (rk_iload 0 (rk_ci (8) (rk_iushr (rk_iadd (rk_istore 0 (rk_iload 0 (rk_iload 0 (rk_ci (16) (rk_iushr (rk_iadd (rk_istore 0 (rk_iload 0 (rk_ci (63) (rk_iand (rk_iret R)))))))))))))))))))))))))))))))))))))))))) ls st σ := rfl
theorem oJ6_bitCount_0f7a4_0 {g : rk_G} {R : rk_R} : aJ6_bitCount_0f7a4 g R 0 (bJ6_bitCount_0f7a4_0 g R) := (rk_iload_n_ok dJ6_bitCount_0f7a4_0 rfl (rk_iload_n_ok dJ6_bitCount_0f7a4_1 rfl (rk_iconst_ok dJ6_bitCount_0f7a4_2 (by decide) (rk_iushr_ok dJ6_bitCount_0f7a4_3 (rk_ldcw_ok dJ6_bitCount_0f7a4_4 wcJ6_265 (rk_iand_ok dJ6_bitCount_0f7a4_7 (rk_isub_ok dJ6_bitCount_0f7a4_8 (rk_istore_n_ok dJ6_bitCount_0f7a4_9 rfl (by decide) (rk_iload_n_ok dJ6_bitCount_0f7a4_10 rfl (rk_ldcw_ok dJ6_bitCount_0f7a4_11 wcJ6_266 (rk_iand_ok dJ6_bitCount_0f7a4_14 (rk_iload_n_ok dJ6_bitCount_0f7a4_15 rfl (rk_iconst_ok dJ6_bitCount_0f7a4_16 (by decide) (rk_iushr_ok dJ6_bitCount_0f7a4_17 (rk_ldcw_ok dJ6_bitCount_0f7a4_18 wcJ6_266 (rk_iand_ok dJ6_bitCount_0f7a4_21 (rk_iadd_ok dJ6_bitCount_0f7a4_22 (rk_istore_n_ok dJ6_bitCount_0f7a4_23 rfl (by decide) (rk_iload_n_ok dJ6_bitCount_0f7a4_24 rfl (rk_iload_n_ok dJ6_bitCount_0f7a4_25 rfl (rk_iconst_ok dJ6_bitCount_0f7a4_26 (by decide) (rk_iushr_ok dJ6_bitCount_0f7a4_27 (rk_iadd_ok dJ6_bitCount_0f7a4_28 (rk_ldcw_ok dJ6_bitCount_0f7a4_29 wcJ6_267 (rk_iand_ok dJ6_bitCount_0f7a4_32 (rk_istore_n_ok dJ6_bitCount_0f7a4_33 rfl (by decide) (rk_iload_n_ok dJ6_bitCount_0f7a4_34 rfl (rk_iload_n_ok dJ6_bitCount_0f7a4_35 rfl (rk_bipush_ok dJ6_bitCount_0f7a4_36 (by decide) (rk_iushr_ok dJ6_bitCount_0f7a4_38 (rk_iadd_ok dJ6_bitCount_0f7a4_39 (rk_istore_n_ok dJ6_bitCount_0f7a4_40 rfl (by decide) (rk_iload_n_ok dJ6_bitCount_0f7a4_41 rfl (rk_iload_n_ok dJ6_bitCount_0f7a4_42 rfl (rk_bipush_ok dJ6_bitCount_0f7a4_43 (by decide) (rk_iushr_ok dJ6_bitCount_0f7a4_45 (rk_iadd_ok dJ6_bitCount_0f7a4_46 (rk_istore_n_ok dJ6_bitCount_0f7a4_47 rfl (by decide) (rk_iload_n_ok dJ6_bitCount_0f7a4_48 rfl (rk_bipush_ok dJ6_bitCount_0f7a4_49 (by decide) (rk_iand_ok dJ6_bitCount_0f7a4_51 (rk_iret_ok rfl dJ6_bitCount_0f7a4_52))))))))))))))))))))))))))))))))))))))))))
theorem dX1_partnersOf_0 : decode cX1_partnersOf 0 = .ok (.aload_n 0, 1) := by decide +kernel
theorem dX1_partnersOf_1 : decode cX1_partnersOf 1 = .ok (.iload_n 1, 1) := by decide +kernel
theorem dX1_partnersOf_2 : decode cX1_partnersOf 2 = .ok (.invokevirtual 66, 3) := by decide +kernel
theorem dX1_partnersOf_5 : decode cX1_partnersOf 5 = .ok (.ifCond .eq 7, 3) := by decide +kernel
theorem dX1_partnersOf_8 : decode cX1_partnersOf 8 = .ok (.iconst 0, 1) := by decide +kernel
theorem dX1_partnersOf_9 : decode cX1_partnersOf 9 = .ok (.goto 11, 3) := by decide +kernel
theorem dX1_partnersOf_12 : decode cX1_partnersOf 12 = .ok (.iconst 1, 1) := by decide +kernel
theorem dX1_partnersOf_13 : decode cX1_partnersOf 13 = .ok (.aload_n 0, 1) := by decide +kernel
theorem dX1_partnersOf_14 : decode cX1_partnersOf 14 = .ok (.getfield 15, 3) := by decide +kernel
theorem dX1_partnersOf_17 : decode cX1_partnersOf 17 = .ok (.iload_n 1, 1) := by decide +kernel
theorem dX1_partnersOf_18 : decode cX1_partnersOf 18 = .ok (.iaload, 1) := by decide +kernel
theorem dX1_partnersOf_19 : decode cX1_partnersOf 19 = .ok (.ishl, 1) := by decide +kernel
theorem dX1_partnersOf_20 : decode cX1_partnersOf 20 = .ok (.istore_n 2, 1) := by decide +kernel
theorem dX1_partnersOf_21 : decode cX1_partnersOf 21 = .ok (.aload_n 0, 1) := by decide +kernel
theorem dX1_partnersOf_22 : decode cX1_partnersOf 22 = .ok (.iload_n 1, 1) := by decide +kernel
theorem dX1_partnersOf_23 : decode cX1_partnersOf 23 = .ok (.invokevirtual 70, 3) := by decide +kernel
theorem dX1_partnersOf_26 : decode cX1_partnersOf 26 = .ok (.ifCond .eq 7, 3) := by decide +kernel
theorem dX1_partnersOf_29 : decode cX1_partnersOf 29 = .ok (.iload_n 2, 1) := by decide +kernel
theorem dX1_partnersOf_30 : decode cX1_partnersOf 30 = .ok (.goto 13, 3) := by decide +kernel
theorem dX1_partnersOf_33 : decode cX1_partnersOf 33 = .ok (.iload_n 2, 1) := by decide +kernel
theorem dX1_partnersOf_34 : decode cX1_partnersOf 34 = .ok (.iconst 1, 1) := by decide +kernel
theorem dX1_partnersOf_35 : decode cX1_partnersOf 35 = .ok (.aload_n 0, 1) := by decide +kernel
theorem dX1_partnersOf_36 : decode cX1_partnersOf 36 = .ok (.getfield 19, 3) := by decide +kernel
theorem dX1_partnersOf_39 : decode cX1_partnersOf 39 = .ok (.iload_n 1, 1) := by decide +kernel
theorem dX1_partnersOf_40 : decode cX1_partnersOf 40 = .ok (.iaload, 1) := by decide +kernel
theorem dX1_partnersOf_41 : decode cX1_partnersOf 41 = .ok (.ishl, 1) := by decide +kernel
theorem dX1_partnersOf_42 : decode cX1_partnersOf 42 = .ok (.ior, 1) := by decide +kernel
theorem dX1_partnersOf_43 : decode cX1_partnersOf 43 = .ok (.ireturn, 1) := by decide +kernel
abbrev kX1_partnersOf (g : rk_G) (R : rk_R) (pc : Nat) : rk_K := rk_cut g cX1_partnersOf 3 (some .int) RX1 1 R pc
abbrev aX1_partnersOf (g : rk_G) (R : rk_R) (pc : Nat) (K : rk_K) : Prop := rk_AK g cX1_partnersOf 3 (some .int) RX1 1 R pc K
abbrev sX1_partnersOf (g : rk_G) (vs : List Value) (σ : rk_M) (R : rk_R) : Prop := rk_does g yX1_partnersOf cX1_partnersOf 3 (some .int) 1 vs σ R
abbrev tX1_partnersOf (g : rk_G) (R : rk_R) (pc : Nat) (ls st : List Value) (σ : rk_M) : Prop := rk_At g cX1_partnersOf 3 (some .int) RX1 1 R pc ls st σ
def bX1_partnersOf_43 (g : rk_G) (R : rk_R) : rk_K := (rk_iret R)
theorem eX1_partnersOf_43 (g : rk_G) (R : rk_R) (ls st : List Value) (σ : rk_M) : bX1_partnersOf_43 g R ls st σ = (rk_iret R) ls st σ := rfl
theorem oX1_partnersOf_43 {g : rk_G} {R : rk_R} : aX1_partnersOf g R 43 (bX1_partnersOf_43 g R) := (rk_iret_ok rfl dX1_partnersOf_43)
def bX1_partnersOf_20 (g : rk_G) (R : rk_R) : rk_K := (rk_istore 2 (rk_aload 0 (rk_iload 1 (rk_cV g 1 1 yX1_isOpenAtSecond cX1_isOpenAtSecond 2 (some .boolean) 0 (rk_if_eq (rk_iload 2 (rk_ci (1) (rk_aload 0 (rk_gR 1 3 (rk_iload 1 (rk_iald (rk_ishl (rk_ior (bX1_partnersOf_43 g R))))))))) (rk_iload 2 (bX1_partnersOf_43 g R)))))))
theorem eX1_partnersOf_20 (g : rk_G) (R : rk_R) (ls st : List Value) (σ : rk_M) : bX1_partnersOf_20 g R ls st σ = (rk_istore 2 (rk_aload 0 (rk_iload 1 (rk_cV g 1 1 yX1_isOpenAtSecond cX1_isOpenAtSecond 2 (some .boolean) 0 (rk_if_eq (rk_iload 2 (rk_ci (1) (rk_aload 0 (rk_gR 1 3 (rk_iload 1 (rk_iald (rk_ishl (rk_ior (bX1_partnersOf_43 g R))))))))) (rk_iload 2 (bX1_partnersOf_43 g R))))))) ls st σ := rfl
theorem oX1_partnersOf_20 {g : rk_G} {R : rk_R} : aX1_partnersOf g R 20 (bX1_partnersOf_20 g R) := (rk_istore_n_ok dX1_partnersOf_20 rfl (by decide) (rk_aload_n_ok dX1_partnersOf_21 rfl (rk_iload_n_ok dX1_partnersOf_22 rfl (rk_cV_ok dX1_partnersOf_23 rfl rfl npX1_isOpenAtSecond wmX1_70 wvX1_isOpenAtSecond weX1_isOpenAtSecond wiX1 wdX1_isOpenAtSecond (by decide) (by decide) (rk_if_eq_ok (pc' := 33) dX1_partnersOf_26 (by decide) (rk_iload_n_ok dX1_partnersOf_33 rfl (rk_iconst_ok dX1_partnersOf_34 (by decide) (rk_aload_n_ok dX1_partnersOf_35 rfl (rk_gR_ok dX1_partnersOf_36 rfl iX1 (by decide) rfl wfX1_19 (rk_iload_n_ok dX1_partnersOf_39 rfl (rk_iald_ok dX1_partnersOf_40 (rk_ishl_ok dX1_partnersOf_41 (rk_ior_ok dX1_partnersOf_42 oX1_partnersOf_43)))))))) (rk_iload_n_ok dX1_partnersOf_29 rfl (rk_goto_ok (pc' := 43) dX1_partnersOf_30 (by decide) oX1_partnersOf_43)))))))
def bX1_partnersOf_0 (g : rk_G) (R : rk_R) : rk_K := (rk_aload 0 (rk_iload 1 (rk_cV g 1 1 yX1_isOpenAtFirst cX1_isOpenAtFirst 2 (some .boolean) 0 (rk_if_eq (rk_ci (1) (rk_aload 0 (rk_gR 1 2 (rk_iload 1 (rk_iald (rk_ishl (bX1_partnersOf_20 g R))))))) (rk_ci (0) (bX1_partnersOf_20 g R))))))
theorem eX1_partnersOf_0 (g : rk_G) (R : rk_R) (ls st : List Value) (σ : rk_M) : bX1_partnersOf_0 g R ls st σ = (rk_aload 0 (rk_iload 1 (rk_cV g 1 1 yX1_isOpenAtFirst cX1_isOpenAtFirst 2 (some .boolean) 0 (rk_if_eq (rk_ci (1) (rk_aload 0 (rk_gR 1 2 (rk_iload 1 (rk_iald (rk_ishl (bX1_partnersOf_20 g R))))))) (rk_ci (0) (bX1_partnersOf_20 g R)))))) ls st σ := rfl
theorem oX1_partnersOf_0 {g : rk_G} {R : rk_R} : aX1_partnersOf g R 0 (bX1_partnersOf_0 g R) := (rk_aload_n_ok dX1_partnersOf_0 rfl (rk_iload_n_ok dX1_partnersOf_1 rfl (rk_cV_ok dX1_partnersOf_2 rfl rfl npX1_isOpenAtFirst wmX1_66 wvX1_isOpenAtFirst weX1_isOpenAtFirst wiX1 wdX1_isOpenAtFirst (by decide) (by decide) (rk_if_eq_ok (pc' := 12) dX1_partnersOf_5 (by decide) (rk_iconst_ok dX1_partnersOf_12 (by decide) (rk_aload_n_ok dX1_partnersOf_13 rfl (rk_gR_ok dX1_partnersOf_14 rfl iX1 (by decide) rfl wfX1_15 (rk_iload_n_ok dX1_partnersOf_17 rfl (rk_iald_ok dX1_partnersOf_18 (rk_ishl_ok dX1_partnersOf_19 oX1_partnersOf_20)))))) (rk_iconst_ok dX1_partnersOf_8 (by decide) (rk_goto_ok (pc' := 20) dX1_partnersOf_9 (by decide) oX1_partnersOf_20))))))
theorem dX1_areAlong_0 : decode cX1_areAlong 0 = .ok (.aload_n 0, 1) := by decide +kernel
theorem dX1_areAlong_1 : decode cX1_areAlong 1 = .ok (.getfield 47, 3) := by decide +kernel
theorem dX1_areAlong_4 : decode cX1_areAlong 4 = .ok (.iload_n 2, 1) := by decide +kernel
theorem dX1_areAlong_5 : decode cX1_areAlong 5 = .ok (.iload_n 1, 1) := by decide +kernel
theorem dX1_areAlong_6 : decode cX1_areAlong 6 = .ok (.invokevirtual 73, 3) := by decide +kernel
theorem dX1_areAlong_9 : decode cX1_areAlong 9 = .ok (.istore 4, 2) := by decide +kernel
theorem dX1_areAlong_11 : decode cX1_areAlong 11 = .ok (.aload_n 0, 1) := by decide +kernel
theorem dX1_areAlong_12 : decode cX1_areAlong 12 = .ok (.getfield 47, 3) := by decide +kernel
theorem dX1_areAlong_15 : decode cX1_areAlong 15 = .ok (.iload_n 2, 1) := by decide +kernel
theorem dX1_areAlong_16 : decode cX1_areAlong 16 = .ok (.iload_n 1, 1) := by decide +kernel
theorem dX1_areAlong_17 : decode cX1_areAlong 17 = .ok (.invokevirtual 76, 3) := by decide +kernel
theorem dX1_areAlong_20 : decode cX1_areAlong 20 = .ok (.istore 5, 2) := by decide +kernel
theorem dX1_areAlong_22 : decode cX1_areAlong 22 = .ok (.aload_n 0, 1) := by decide +kernel
theorem dX1_areAlong_23 : decode cX1_areAlong 23 = .ok (.getfield 47, 3) := by decide +kernel
theorem dX1_areAlong_26 : decode cX1_areAlong 26 = .ok (.iload_n 3, 1) := by decide +kernel
theorem dX1_areAlong_27 : decode cX1_areAlong 27 = .ok (.iload_n 1, 1) := by decide +kernel
theorem dX1_areAlong_28 : decode cX1_areAlong 28 = .ok (.invokevirtual 73, 3) := by decide +kernel
theorem dX1_areAlong_31 : decode cX1_areAlong 31 = .ok (.istore 6, 2) := by decide +kernel
theorem dX1_areAlong_33 : decode cX1_areAlong 33 = .ok (.aload_n 0, 1) := by decide +kernel
theorem dX1_areAlong_34 : decode cX1_areAlong 34 = .ok (.getfield 47, 3) := by decide +kernel
theorem dX1_areAlong_37 : decode cX1_areAlong 37 = .ok (.iload_n 3, 1) := by decide +kernel
theorem dX1_areAlong_38 : decode cX1_areAlong 38 = .ok (.iload_n 1, 1) := by decide +kernel
theorem dX1_areAlong_39 : decode cX1_areAlong 39 = .ok (.invokevirtual 76, 3) := by decide +kernel
theorem dX1_areAlong_42 : decode cX1_areAlong 42 = .ok (.istore 7, 2) := by decide +kernel
theorem dX1_areAlong_44 : decode cX1_areAlong 44 = .ok (.iload 4, 2) := by decide +kernel
theorem dX1_areAlong_46 : decode cX1_areAlong 46 = .ok (.iload 5, 2) := by decide +kernel
theorem dX1_areAlong_48 : decode cX1_areAlong 48 = .ok (.iload 4, 2) := by decide +kernel
theorem dX1_areAlong_50 : decode cX1_areAlong 50 = .ok (.iload 5, 2) := by decide +kernel
theorem dX1_areAlong_52 : decode cX1_areAlong 52 = .ok (.invokestatic 78, 3) := by decide +kernel
theorem dX1_areAlong_55 : decode cX1_areAlong 55 = .ok (.iload 6, 2) := by decide +kernel
theorem dX1_areAlong_57 : decode cX1_areAlong 57 = .ok (.iload 7, 2) := by decide +kernel
theorem dX1_areAlong_59 : decode cX1_areAlong 59 = .ok (.iload 6, 2) := by decide +kernel
theorem dX1_areAlong_61 : decode cX1_areAlong 61 = .ok (.iload 7, 2) := by decide +kernel
theorem dX1_areAlong_63 : decode cX1_areAlong 63 = .ok (.invokestatic 78, 3) := by decide +kernel
theorem dX1_areAlong_66 : decode cX1_areAlong 66 = .ok (.lmul, 1) := by decide +kernel
theorem dX1_areAlong_67 : decode cX1_areAlong 67 = .ok (.lstore 8, 2) := by decide +kernel
theorem dX1_areAlong_69 : decode cX1_areAlong 69 = .ok (.iload 4, 2) := by decide +kernel
theorem dX1_areAlong_71 : decode cX1_areAlong 71 = .ok (.iload 5, 2) := by decide +kernel
theorem dX1_areAlong_73 : decode cX1_areAlong 73 = .ok (.iload 6, 2) := by decide +kernel
theorem dX1_areAlong_75 : decode cX1_areAlong 75 = .ok (.iload 7, 2) := by decide +kernel
theorem dX1_areAlong_77 : decode cX1_areAlong 77 = .ok (.invokestatic 78, 3) := by decide +kernel
theorem dX1_areAlong_80 : decode cX1_areAlong 80 = .ok (.lload 8, 2) := by decide +kernel
theorem dX1_areAlong_82 : decode cX1_areAlong 82 = .ok (.invokestatic 82, 3) := by decide +kernel
theorem dX1_areAlong_85 : decode cX1_areAlong 85 = .ok (.ireturn, 1) := by decide +kernel
abbrev kX1_areAlong (g : rk_G) (R : rk_R) (pc : Nat) : rk_K := rk_cut g cX1_areAlong 10 (some .boolean) RX1 1 R pc
abbrev aX1_areAlong (g : rk_G) (R : rk_R) (pc : Nat) (K : rk_K) : Prop := rk_AK g cX1_areAlong 10 (some .boolean) RX1 1 R pc K
abbrev sX1_areAlong (g : rk_G) (vs : List Value) (σ : rk_M) (R : rk_R) : Prop := rk_does g yX1_areAlong cX1_areAlong 10 (some .boolean) 1 vs σ R
abbrev tX1_areAlong (g : rk_G) (R : rk_R) (pc : Nat) (ls st : List Value) (σ : rk_M) : Prop := rk_At g cX1_areAlong 10 (some .boolean) RX1 1 R pc ls st σ
def bX1_areAlong_0 (g : rk_G) (R : rk_R) : rk_K := (rk_aload 0 (rk_gR 1 1 (rk_iload 2 (rk_iload 1 (rk_cV g 2 2 yX2_stepX cX2_stepX 3 (some .int) 0 (rk_istore 4 (rk_aload 0 (rk_gR 1 1 (rk_iload 2 (rk_iload 1 (rk_cV g 2 2 yX2_stepY cX2_stepY 3 (some .int) 0 (rk_istore 5 (rk_aload 0 (rk_gR 1 1 (rk_iload 3 (rk_iload 1 (rk_cV g 2 2 yX2_stepX cX2_stepX 3 (some .int) 0 (rk_istore 6 (rk_aload 0 (rk_gR 1 1 (rk_iload 3 (rk_iload 1 (rk_cV g 2 2 yX2_stepY cX2_stepY 3 (some .int) 0 (rk_istore 7 (rk_iload 4 (rk_iload 5 (rk_iload 4 (rk_iload 5 (rk_cS g 4 yX1_product cX1_product 4 (some .long) 0 (rk_iload 6 (rk_iload 7 (rk_iload 6 (rk_iload 7 (rk_cS g 4 yX1_product cX1_product 4 (some .long) 0 (rk_lmul (rk_lstore 8 (rk_iload 4 (rk_iload 5 (rk_iload 6 (rk_iload 7 (rk_cS g 4 yX1_product cX1_product 4 (some .long) 0 (rk_lload 8 (rk_cS g 2 yX1_isWide cX1_isWide 4 (some .boolean) 0 (rk_zret R))))))))))))))))))))))))))))))))))))))))))))
theorem eX1_areAlong_0 (g : rk_G) (R : rk_R) (ls st : List Value) (σ : rk_M) : bX1_areAlong_0 g R ls st σ = (rk_aload 0 (rk_gR 1 1 (rk_iload 2 (rk_iload 1 (rk_cV g 2 2 yX2_stepX cX2_stepX 3 (some .int) 0 (rk_istore 4 (rk_aload 0 (rk_gR 1 1 (rk_iload 2 (rk_iload 1 (rk_cV g 2 2 yX2_stepY cX2_stepY 3 (some .int) 0 (rk_istore 5 (rk_aload 0 (rk_gR 1 1 (rk_iload 3 (rk_iload 1 (rk_cV g 2 2 yX2_stepX cX2_stepX 3 (some .int) 0 (rk_istore 6 (rk_aload 0 (rk_gR 1 1 (rk_iload 3 (rk_iload 1 (rk_cV g 2 2 yX2_stepY cX2_stepY 3 (some .int) 0 (rk_istore 7 (rk_iload 4 (rk_iload 5 (rk_iload 4 (rk_iload 5 (rk_cS g 4 yX1_product cX1_product 4 (some .long) 0 (rk_iload 6 (rk_iload 7 (rk_iload 6 (rk_iload 7 (rk_cS g 4 yX1_product cX1_product 4 (some .long) 0 (rk_lmul (rk_lstore 8 (rk_iload 4 (rk_iload 5 (rk_iload 6 (rk_iload 7 (rk_cS g 4 yX1_product cX1_product 4 (some .long) 0 (rk_lload 8 (rk_cS g 2 yX1_isWide cX1_isWide 4 (some .boolean) 0 (rk_zret R)))))))))))))))))))))))))))))))))))))))))))) ls st σ := rfl
theorem oX1_areAlong_0 {g : rk_G} {R : rk_R} : aX1_areAlong g R 0 (bX1_areAlong_0 g R) := (rk_aload_n_ok dX1_areAlong_0 rfl (rk_gR_ok dX1_areAlong_1 rfl iX1 (by decide) rfl wfX1_47 (rk_iload_n_ok dX1_areAlong_4 rfl (rk_iload_n_ok dX1_areAlong_5 rfl (rk_cV_ok dX1_areAlong_6 rfl rfl npX2_stepX wmX1_73 wvX2_stepX weX2_stepX wiX2 wdX2_stepX (by decide) (by decide) (rk_istore_ok dX1_areAlong_9 (by decide) (rk_aload_n_ok dX1_areAlong_11 rfl (rk_gR_ok dX1_areAlong_12 rfl iX1 (by decide) rfl wfX1_47 (rk_iload_n_ok dX1_areAlong_15 rfl (rk_iload_n_ok dX1_areAlong_16 rfl (rk_cV_ok dX1_areAlong_17 rfl rfl npX2_stepY wmX1_76 wvX2_stepY weX2_stepY wiX2 wdX2_stepY (by decide) (by decide) (rk_istore_ok dX1_areAlong_20 (by decide) (rk_aload_n_ok dX1_areAlong_22 rfl (rk_gR_ok dX1_areAlong_23 rfl iX1 (by decide) rfl wfX1_47 (rk_iload_n_ok dX1_areAlong_26 rfl (rk_iload_n_ok dX1_areAlong_27 rfl (rk_cV_ok dX1_areAlong_28 rfl rfl npX2_stepX wmX1_73 wvX2_stepX weX2_stepX wiX2 wdX2_stepX (by decide) (by decide) (rk_istore_ok dX1_areAlong_31 (by decide) (rk_aload_n_ok dX1_areAlong_33 rfl (rk_gR_ok dX1_areAlong_34 rfl iX1 (by decide) rfl wfX1_47 (rk_iload_n_ok dX1_areAlong_37 rfl (rk_iload_n_ok dX1_areAlong_38 rfl (rk_cV_ok dX1_areAlong_39 rfl rfl npX2_stepY wmX1_76 wvX2_stepY weX2_stepY wiX2 wdX2_stepY (by decide) (by decide) (rk_istore_ok dX1_areAlong_42 (by decide) (rk_iload_ok dX1_areAlong_44 (rk_iload_ok dX1_areAlong_46 (rk_iload_ok dX1_areAlong_48 (rk_iload_ok dX1_areAlong_50 (rk_cS_ok dX1_areAlong_52 npX1_product wmX1_78 wtX1_product wiX1 wdX1_product (by decide) (by decide) (rk_iload_ok dX1_areAlong_55 (rk_iload_ok dX1_areAlong_57 (rk_iload_ok dX1_areAlong_59 (rk_iload_ok dX1_areAlong_61 (rk_cS_ok dX1_areAlong_63 npX1_product wmX1_78 wtX1_product wiX1 wdX1_product (by decide) (by decide) (rk_lmul_ok dX1_areAlong_66 (rk_lstore_ok dX1_areAlong_67 (by decide) (rk_iload_ok dX1_areAlong_69 (rk_iload_ok dX1_areAlong_71 (rk_iload_ok dX1_areAlong_73 (rk_iload_ok dX1_areAlong_75 (rk_cS_ok dX1_areAlong_77 npX1_product wmX1_78 wtX1_product wiX1 wdX1_product (by decide) (by decide) (rk_lload_ok dX1_areAlong_80 (rk_cS_ok dX1_areAlong_82 npX1_isWide wmX1_82 wtX1_isWide wiX1 wdX1_isWide (by decide) (by decide) (rk_zret_ok rfl dX1_areAlong_85))))))))))))))))))))))))))))))))))))))))))))
theorem dX1_gatherFree_0 : decode cX1_gatherFree 0 = .ok (.aload_n 0, 1) := by decide +kernel
theorem dX1_gatherFree_1 : decode cX1_gatherFree 1 = .ok (.iconst 0, 1) := by decide +kernel
theorem dX1_gatherFree_2 : decode cX1_gatherFree 2 = .ok (.putfield 31, 3) := by decide +kernel
theorem dX1_gatherFree_5 : decode cX1_gatherFree 5 = .ok (.iconst 0, 1) := by decide +kernel
theorem dX1_gatherFree_6 : decode cX1_gatherFree 6 = .ok (.istore_n 2, 1) := by decide +kernel
theorem dX1_gatherFree_7 : decode cX1_gatherFree 7 = .ok (.iload_n 2, 1) := by decide +kernel
theorem dX1_gatherFree_8 : decode cX1_gatherFree 8 = .ok (.aload_n 0, 1) := by decide +kernel
theorem dX1_gatherFree_9 : decode cX1_gatherFree 9 = .ok (.getfield 47, 3) := by decide +kernel
theorem dX1_gatherFree_12 : decode cX1_gatherFree 12 = .ok (.getfield 51, 3) := by decide +kernel
theorem dX1_gatherFree_15 : decode cX1_gatherFree 15 = .ok (.if_icmp .ge 77, 3) := by decide +kernel
theorem dX1_gatherFree_18 : decode cX1_gatherFree 18 = .ok (.aload_n 0, 1) := by decide +kernel
theorem dX1_gatherFree_19 : decode cX1_gatherFree 19 = .ok (.getfield 47, 3) := by decide +kernel
theorem dX1_gatherFree_22 : decode cX1_gatherFree 22 = .ok (.iload_n 2, 1) := by decide +kernel
theorem dX1_gatherFree_23 : decode cX1_gatherFree 23 = .ok (.iload_n 1, 1) := by decide +kernel
theorem dX1_gatherFree_24 : decode cX1_gatherFree 24 = .ok (.invokevirtual 99, 3) := by decide +kernel
theorem dX1_gatherFree_27 : decode cX1_gatherFree 27 = .ok (.ifCond .eq 59, 3) := by decide +kernel
theorem dX1_gatherFree_30 : decode cX1_gatherFree 30 = .ok (.aload_n 0, 1) := by decide +kernel
theorem dX1_gatherFree_31 : decode cX1_gatherFree 31 = .ok (.getfield 22, 3) := by decide +kernel
theorem dX1_gatherFree_34 : decode cX1_gatherFree 34 = .ok (.aload_n 0, 1) := by decide +kernel
theorem dX1_gatherFree_35 : decode cX1_gatherFree 35 = .ok (.getfield 31, 3) := by decide +kernel
theorem dX1_gatherFree_38 : decode cX1_gatherFree 38 = .ok (.iload_n 2, 1) := by decide +kernel
theorem dX1_gatherFree_39 : decode cX1_gatherFree 39 = .ok (.iastore, 1) := by decide +kernel
theorem dX1_gatherFree_40 : decode cX1_gatherFree 40 = .ok (.aload_n 0, 1) := by decide +kernel
theorem dX1_gatherFree_41 : decode cX1_gatherFree 41 = .ok (.getfield 25, 3) := by decide +kernel
theorem dX1_gatherFree_44 : decode cX1_gatherFree 44 = .ok (.aload_n 0, 1) := by decide +kernel
theorem dX1_gatherFree_45 : decode cX1_gatherFree 45 = .ok (.getfield 31, 3) := by decide +kernel
theorem dX1_gatherFree_48 : decode cX1_gatherFree 48 = .ok (.aload_n 0, 1) := by decide +kernel
theorem dX1_gatherFree_49 : decode cX1_gatherFree 49 = .ok (.getfield 47, 3) := by decide +kernel
theorem dX1_gatherFree_52 : decode cX1_gatherFree 52 = .ok (.iload_n 2, 1) := by decide +kernel
theorem dX1_gatherFree_53 : decode cX1_gatherFree 53 = .ok (.iload_n 1, 1) := by decide +kernel
theorem dX1_gatherFree_54 : decode cX1_gatherFree 54 = .ok (.invokevirtual 73, 3) := by decide +kernel
theorem dX1_gatherFree_57 : decode cX1_gatherFree 57 = .ok (.iastore, 1) := by decide +kernel
theorem dX1_gatherFree_58 : decode cX1_gatherFree 58 = .ok (.aload_n 0, 1) := by decide +kernel
theorem dX1_gatherFree_59 : decode cX1_gatherFree 59 = .ok (.getfield 28, 3) := by decide +kernel
theorem dX1_gatherFree_62 : decode cX1_gatherFree 62 = .ok (.aload_n 0, 1) := by decide +kernel
theorem dX1_gatherFree_63 : decode cX1_gatherFree 63 = .ok (.getfield 31, 3) := by decide +kernel
theorem dX1_gatherFree_66 : decode cX1_gatherFree 66 = .ok (.aload_n 0, 1) := by decide +kernel
theorem dX1_gatherFree_67 : decode cX1_gatherFree 67 = .ok (.getfield 47, 3) := by decide +kernel
theorem dX1_gatherFree_70 : decode cX1_gatherFree 70 = .ok (.iload_n 2, 1) := by decide +kernel
theorem dX1_gatherFree_71 : decode cX1_gatherFree 71 = .ok (.iload_n 1, 1) := by decide +kernel
theorem dX1_gatherFree_72 : decode cX1_gatherFree 72 = .ok (.invokevirtual 76, 3) := by decide +kernel
theorem dX1_gatherFree_75 : decode cX1_gatherFree 75 = .ok (.iastore, 1) := by decide +kernel
theorem dX1_gatherFree_76 : decode cX1_gatherFree 76 = .ok (.aload_n 0, 1) := by decide +kernel
theorem dX1_gatherFree_77 : decode cX1_gatherFree 77 = .ok (.dup, 1) := by decide +kernel
theorem dX1_gatherFree_78 : decode cX1_gatherFree 78 = .ok (.getfield 31, 3) := by decide +kernel
theorem dX1_gatherFree_81 : decode cX1_gatherFree 81 = .ok (.iconst 1, 1) := by decide +kernel
theorem dX1_gatherFree_82 : decode cX1_gatherFree 82 = .ok (.iadd, 1) := by decide +kernel
theorem dX1_gatherFree_83 : decode cX1_gatherFree 83 = .ok (.putfield 31, 3) := by decide +kernel
theorem dX1_gatherFree_86 : decode cX1_gatherFree 86 = .ok (.iinc 2 1, 3) := by decide +kernel
theorem dX1_gatherFree_89 : decode cX1_gatherFree 89 = .ok (.goto (-82), 3) := by decide +kernel
theorem dX1_gatherFree_92 : decode cX1_gatherFree 92 = .ok (.return_, 1) := by decide +kernel
abbrev kX1_gatherFree (g : rk_G) (R : rk_R) (pc : Nat) : rk_K := rk_cut g cX1_gatherFree 3 none RX1 1 R pc
abbrev aX1_gatherFree (g : rk_G) (R : rk_R) (pc : Nat) (K : rk_K) : Prop := rk_AK g cX1_gatherFree 3 none RX1 1 R pc K
abbrev sX1_gatherFree (g : rk_G) (vs : List Value) (σ : rk_M) (R : rk_R) : Prop := rk_does g yX1_gatherFree cX1_gatherFree 3 none 1 vs σ R
abbrev tX1_gatherFree (g : rk_G) (R : rk_R) (pc : Nat) (ls st : List Value) (σ : rk_M) : Prop := rk_At g cX1_gatherFree 3 none RX1 1 R pc ls st σ
def bX1_gatherFree_86 (g : rk_G) (R : rk_R) : rk_K := (rk_iinc 2 (1) (kX1_gatherFree g R 7))
theorem eX1_gatherFree_86 (g : rk_G) (R : rk_R) (ls st : List Value) (σ : rk_M) : bX1_gatherFree_86 g R ls st σ = (rk_iinc 2 (1) (kX1_gatherFree g R 7)) ls st σ := rfl
theorem oX1_gatherFree_86 {g : rk_G} {R : rk_R} : aX1_gatherFree g R 86 (bX1_gatherFree_86 g R) := (rk_iinc_ok dX1_gatherFree_86 (by decide) (by decide) (rk_goto_ok (pc' := 7) dX1_gatherFree_89 (by decide) rk_cut_ok))
def bX1_gatherFree_7 (g : rk_G) (R : rk_R) : rk_K := (rk_iload 2 (rk_aload 0 (rk_gR 1 1 (rk_gI 2 8 (rk_icmp_ge (rk_vret R) (rk_aload 0 (rk_gR 1 1 (rk_iload 2 (rk_iload 1 (rk_cV g 2 2 yX2_isThere cX2_isThere 3 (some .boolean) 0 (rk_if_eq (bX1_gatherFree_86 g R) (rk_aload 0 (rk_gR 1 4 (rk_aload 0 (rk_gI 1 7 (rk_iload 2 (rk_iast (rk_aload 0 (rk_gR 1 5 (rk_aload 0 (rk_gI 1 7 (rk_aload 0 (rk_gR 1 1 (rk_iload 2 (rk_iload 1 (rk_cV g 2 2 yX2_stepX cX2_stepX 3 (some .int) 0 (rk_iast (rk_aload 0 (rk_gR 1 6 (rk_aload 0 (rk_gI 1 7 (rk_aload 0 (rk_gR 1 1 (rk_iload 2 (rk_iload 1 (rk_cV g 2 2 yX2_stepY cX2_stepY 3 (some .int) 0 (rk_iast (rk_aload 0 (rk_dup (rk_gI 1 7 (rk_ci (1) (rk_iadd (rk_pI 1 7 (bX1_gatherFree_86 g R))))))))))))))))))))))))))))))))))))))))))))
theorem eX1_gatherFree_7 (g : rk_G) (R : rk_R) (ls st : List Value) (σ : rk_M) : bX1_gatherFree_7 g R ls st σ = (rk_iload 2 (rk_aload 0 (rk_gR 1 1 (rk_gI 2 8 (rk_icmp_ge (rk_vret R) (rk_aload 0 (rk_gR 1 1 (rk_iload 2 (rk_iload 1 (rk_cV g 2 2 yX2_isThere cX2_isThere 3 (some .boolean) 0 (rk_if_eq (bX1_gatherFree_86 g R) (rk_aload 0 (rk_gR 1 4 (rk_aload 0 (rk_gI 1 7 (rk_iload 2 (rk_iast (rk_aload 0 (rk_gR 1 5 (rk_aload 0 (rk_gI 1 7 (rk_aload 0 (rk_gR 1 1 (rk_iload 2 (rk_iload 1 (rk_cV g 2 2 yX2_stepX cX2_stepX 3 (some .int) 0 (rk_iast (rk_aload 0 (rk_gR 1 6 (rk_aload 0 (rk_gI 1 7 (rk_aload 0 (rk_gR 1 1 (rk_iload 2 (rk_iload 1 (rk_cV g 2 2 yX2_stepY cX2_stepY 3 (some .int) 0 (rk_iast (rk_aload 0 (rk_dup (rk_gI 1 7 (rk_ci (1) (rk_iadd (rk_pI 1 7 (bX1_gatherFree_86 g R)))))))))))))))))))))))))))))))))))))))))))) ls st σ := rfl
theorem oX1_gatherFree_7 {g : rk_G} {R : rk_R} : aX1_gatherFree g R 7 (bX1_gatherFree_7 g R) := (rk_iload_n_ok dX1_gatherFree_7 rfl (rk_aload_n_ok dX1_gatherFree_8 rfl (rk_gR_ok dX1_gatherFree_9 rfl iX1 (by decide) rfl wfX1_47 (rk_gI_ok dX1_gatherFree_12 rfl iX2 (by decide) rfl wfX1_51 (rk_icmp_ge_ok (pc' := 92) dX1_gatherFree_15 (by decide) (rk_vret_ok rfl dX1_gatherFree_92) (rk_aload_n_ok dX1_gatherFree_18 rfl (rk_gR_ok dX1_gatherFree_19 rfl iX1 (by decide) rfl wfX1_47 (rk_iload_n_ok dX1_gatherFree_22 rfl (rk_iload_n_ok dX1_gatherFree_23 rfl (rk_cV_ok dX1_gatherFree_24 rfl rfl npX2_isThere wmX1_99 wvX2_isThere weX2_isThere wiX2 wdX2_isThere (by decide) (by decide) (rk_if_eq_ok (pc' := 86) dX1_gatherFree_27 (by decide) oX1_gatherFree_86 (rk_aload_n_ok dX1_gatherFree_30 rfl (rk_gR_ok dX1_gatherFree_31 rfl iX1 (by decide) rfl wfX1_22 (rk_aload_n_ok dX1_gatherFree_34 rfl (rk_gI_ok dX1_gatherFree_35 rfl iX1 (by decide) rfl wfX1_31 (rk_iload_n_ok dX1_gatherFree_38 rfl (rk_iast_ok dX1_gatherFree_39 (rk_aload_n_ok dX1_gatherFree_40 rfl (rk_gR_ok dX1_gatherFree_41 rfl iX1 (by decide) rfl wfX1_25 (rk_aload_n_ok dX1_gatherFree_44 rfl (rk_gI_ok dX1_gatherFree_45 rfl iX1 (by decide) rfl wfX1_31 (rk_aload_n_ok dX1_gatherFree_48 rfl (rk_gR_ok dX1_gatherFree_49 rfl iX1 (by decide) rfl wfX1_47 (rk_iload_n_ok dX1_gatherFree_52 rfl (rk_iload_n_ok dX1_gatherFree_53 rfl (rk_cV_ok dX1_gatherFree_54 rfl rfl npX2_stepX wmX1_73 wvX2_stepX weX2_stepX wiX2 wdX2_stepX (by decide) (by decide) (rk_iast_ok dX1_gatherFree_57 (rk_aload_n_ok dX1_gatherFree_58 rfl (rk_gR_ok dX1_gatherFree_59 rfl iX1 (by decide) rfl wfX1_28 (rk_aload_n_ok dX1_gatherFree_62 rfl (rk_gI_ok dX1_gatherFree_63 rfl iX1 (by decide) rfl wfX1_31 (rk_aload_n_ok dX1_gatherFree_66 rfl (rk_gR_ok dX1_gatherFree_67 rfl iX1 (by decide) rfl wfX1_47 (rk_iload_n_ok dX1_gatherFree_70 rfl (rk_iload_n_ok dX1_gatherFree_71 rfl (rk_cV_ok dX1_gatherFree_72 rfl rfl npX2_stepY wmX1_76 wvX2_stepY weX2_stepY wiX2 wdX2_stepY (by decide) (by decide) (rk_iast_ok dX1_gatherFree_75 (rk_aload_n_ok dX1_gatherFree_76 rfl (rk_dup_ok dX1_gatherFree_77 (rk_gI_ok dX1_gatherFree_78 rfl iX1 (by decide) rfl wfX1_31 (rk_iconst_ok dX1_gatherFree_81 (by decide) (rk_iadd_ok dX1_gatherFree_82 (rk_pI_ok dX1_gatherFree_83 rfl iX1 tyX1_ok nmX1 (by decide) rfl rfl (by decide +kernel) wfX1_31 oX1_gatherFree_86)))))))))))))))))))))))))))))))))))))))))))
def bX1_gatherFree_0 (g : rk_G) (R : rk_R) : rk_K := (rk_aload 0 (rk_ci (0) (rk_pI 1 7 (rk_ci (0) (rk_istore 2 (kX1_gatherFree g R 7))))))
theorem eX1_gatherFree_0 (g : rk_G) (R : rk_R) (ls st : List Value) (σ : rk_M) : bX1_gatherFree_0 g R ls st σ = (rk_aload 0 (rk_ci (0) (rk_pI 1 7 (rk_ci (0) (rk_istore 2 (kX1_gatherFree g R 7)))))) ls st σ := rfl
theorem oX1_gatherFree_0 {g : rk_G} {R : rk_R} : aX1_gatherFree g R 0 (bX1_gatherFree_0 g R) := (rk_aload_n_ok dX1_gatherFree_0 rfl (rk_iconst_ok dX1_gatherFree_1 (by decide) (rk_pI_ok dX1_gatherFree_2 rfl iX1 tyX1_ok nmX1 (by decide) rfl rfl (by decide +kernel) wfX1_31 (rk_iconst_ok dX1_gatherFree_5 (by decide) (rk_istore_n_ok dX1_gatherFree_6 rfl (by decide) rk_cut_ok)))))
theorem dX1_consider_0 : decode cX1_consider 0 = .ok (.aload_n 0, 1) := by decide +kernel
theorem dX1_consider_1 : decode cX1_consider 1 = .ok (.getfield 25, 3) := by decide +kernel
theorem dX1_consider_4 : decode cX1_consider 4 = .ok (.iload_n 1, 1) := by decide +kernel
theorem dX1_consider_5 : decode cX1_consider 5 = .ok (.iaload, 1) := by decide +kernel
theorem dX1_consider_6 : decode cX1_consider 6 = .ok (.aload_n 0, 1) := by decide +kernel
theorem dX1_consider_7 : decode cX1_consider 7 = .ok (.getfield 28, 3) := by decide +kernel
theorem dX1_consider_10 : decode cX1_consider 10 = .ok (.iload_n 1, 1) := by decide +kernel
theorem dX1_consider_11 : decode cX1_consider 11 = .ok (.iaload, 1) := by decide +kernel
theorem dX1_consider_12 : decode cX1_consider 12 = .ok (.aload_n 0, 1) := by decide +kernel
theorem dX1_consider_13 : decode cX1_consider 13 = .ok (.getfield 25, 3) := by decide +kernel
theorem dX1_consider_16 : decode cX1_consider 16 = .ok (.iload_n 2, 1) := by decide +kernel
theorem dX1_consider_17 : decode cX1_consider 17 = .ok (.iaload, 1) := by decide +kernel
theorem dX1_consider_18 : decode cX1_consider 18 = .ok (.aload_n 0, 1) := by decide +kernel
theorem dX1_consider_19 : decode cX1_consider 19 = .ok (.getfield 28, 3) := by decide +kernel
theorem dX1_consider_22 : decode cX1_consider 22 = .ok (.iload_n 2, 1) := by decide +kernel
theorem dX1_consider_23 : decode cX1_consider 23 = .ok (.iaload, 1) := by decide +kernel
theorem dX1_consider_24 : decode cX1_consider 24 = .ok (.invokestatic 78, 3) := by decide +kernel
theorem dX1_consider_27 : decode cX1_consider 27 = .ok (.lstore_n 3, 1) := by decide +kernel
theorem dX1_consider_28 : decode cX1_consider 28 = .ok (.aload_n 0, 1) := by decide +kernel
theorem dX1_consider_29 : decode cX1_consider 29 = .ok (.getfield 25, 3) := by decide +kernel
theorem dX1_consider_32 : decode cX1_consider 32 = .ok (.iload_n 1, 1) := by decide +kernel
theorem dX1_consider_33 : decode cX1_consider 33 = .ok (.iaload, 1) := by decide +kernel
theorem dX1_consider_34 : decode cX1_consider 34 = .ok (.aload_n 0, 1) := by decide +kernel
theorem dX1_consider_35 : decode cX1_consider 35 = .ok (.getfield 28, 3) := by decide +kernel
theorem dX1_consider_38 : decode cX1_consider 38 = .ok (.iload_n 1, 1) := by decide +kernel
theorem dX1_consider_39 : decode cX1_consider 39 = .ok (.iaload, 1) := by decide +kernel
theorem dX1_consider_40 : decode cX1_consider 40 = .ok (.aload_n 0, 1) := by decide +kernel
theorem dX1_consider_41 : decode cX1_consider 41 = .ok (.getfield 25, 3) := by decide +kernel
theorem dX1_consider_44 : decode cX1_consider 44 = .ok (.iload_n 1, 1) := by decide +kernel
theorem dX1_consider_45 : decode cX1_consider 45 = .ok (.iaload, 1) := by decide +kernel
theorem dX1_consider_46 : decode cX1_consider 46 = .ok (.aload_n 0, 1) := by decide +kernel
theorem dX1_consider_47 : decode cX1_consider 47 = .ok (.getfield 28, 3) := by decide +kernel
theorem dX1_consider_50 : decode cX1_consider 50 = .ok (.iload_n 1, 1) := by decide +kernel
theorem dX1_consider_51 : decode cX1_consider 51 = .ok (.iaload, 1) := by decide +kernel
theorem dX1_consider_52 : decode cX1_consider 52 = .ok (.invokestatic 78, 3) := by decide +kernel
theorem dX1_consider_55 : decode cX1_consider 55 = .ok (.aload_n 0, 1) := by decide +kernel
theorem dX1_consider_56 : decode cX1_consider 56 = .ok (.getfield 25, 3) := by decide +kernel
theorem dX1_consider_59 : decode cX1_consider 59 = .ok (.iload_n 2, 1) := by decide +kernel
theorem dX1_consider_60 : decode cX1_consider 60 = .ok (.iaload, 1) := by decide +kernel
theorem dX1_consider_61 : decode cX1_consider 61 = .ok (.aload_n 0, 1) := by decide +kernel
theorem dX1_consider_62 : decode cX1_consider 62 = .ok (.getfield 28, 3) := by decide +kernel
theorem dX1_consider_65 : decode cX1_consider 65 = .ok (.iload_n 2, 1) := by decide +kernel
theorem dX1_consider_66 : decode cX1_consider 66 = .ok (.iaload, 1) := by decide +kernel
theorem dX1_consider_67 : decode cX1_consider 67 = .ok (.aload_n 0, 1) := by decide +kernel
theorem dX1_consider_68 : decode cX1_consider 68 = .ok (.getfield 25, 3) := by decide +kernel
theorem dX1_consider_71 : decode cX1_consider 71 = .ok (.iload_n 2, 1) := by decide +kernel
theorem dX1_consider_72 : decode cX1_consider 72 = .ok (.iaload, 1) := by decide +kernel
theorem dX1_consider_73 : decode cX1_consider 73 = .ok (.aload_n 0, 1) := by decide +kernel
theorem dX1_consider_74 : decode cX1_consider 74 = .ok (.getfield 28, 3) := by decide +kernel
theorem dX1_consider_77 : decode cX1_consider 77 = .ok (.iload_n 2, 1) := by decide +kernel
theorem dX1_consider_78 : decode cX1_consider 78 = .ok (.iaload, 1) := by decide +kernel
theorem dX1_consider_79 : decode cX1_consider 79 = .ok (.invokestatic 78, 3) := by decide +kernel
theorem dX1_consider_82 : decode cX1_consider 82 = .ok (.lmul, 1) := by decide +kernel
theorem dX1_consider_83 : decode cX1_consider 83 = .ok (.lstore 5, 2) := by decide +kernel
theorem dX1_consider_85 : decode cX1_consider 85 = .ok (.lload_n 3, 1) := by decide +kernel
theorem dX1_consider_86 : decode cX1_consider 86 = .ok (.lload_n 3, 1) := by decide +kernel
theorem dX1_consider_87 : decode cX1_consider 87 = .ok (.lmul, 1) := by decide +kernel
theorem dX1_consider_88 : decode cX1_consider 88 = .ok (.lstore 7, 2) := by decide +kernel
theorem dX1_consider_90 : decode cX1_consider 90 = .ok (.lload_n 3, 1) := by decide +kernel
theorem dX1_consider_91 : decode cX1_consider 91 = .ok (.lload 5, 2) := by decide +kernel
theorem dX1_consider_93 : decode cX1_consider 93 = .ok (.invokestatic 82, 3) := by decide +kernel
theorem dX1_consider_96 : decode cX1_consider 96 = .ok (.ifCond .eq 51, 3) := by decide +kernel
theorem dX1_consider_99 : decode cX1_consider 99 = .ok (.aload_n 0, 1) := by decide +kernel
theorem dX1_consider_100 : decode cX1_consider 100 = .ok (.getfield 34, 3) := by decide +kernel
theorem dX1_consider_103 : decode cX1_consider 103 = .ok (.iconst (-1), 1) := by decide +kernel
theorem dX1_consider_104 : decode cX1_consider 104 = .ok (.if_icmp .eq 21, 3) := by decide +kernel
theorem dX1_consider_107 : decode cX1_consider 107 = .ok (.lload 7, 2) := by decide +kernel
theorem dX1_consider_109 : decode cX1_consider 109 = .ok (.aload_n 0, 1) := by decide +kernel
theorem dX1_consider_110 : decode cX1_consider 110 = .ok (.getfield 44, 3) := by decide +kernel
theorem dX1_consider_113 : decode cX1_consider 113 = .ok (.lmul, 1) := by decide +kernel
theorem dX1_consider_114 : decode cX1_consider 114 = .ok (.aload_n 0, 1) := by decide +kernel
theorem dX1_consider_115 : decode cX1_consider 115 = .ok (.getfield 40, 3) := by decide +kernel
theorem dX1_consider_118 : decode cX1_consider 118 = .ok (.lload 5, 2) := by decide +kernel
theorem dX1_consider_120 : decode cX1_consider 120 = .ok (.lmul, 1) := by decide +kernel
theorem dX1_consider_121 : decode cX1_consider 121 = .ok (.lcmp, 1) := by decide +kernel
theorem dX1_consider_122 : decode cX1_consider 122 = .ok (.ifCond .le 25, 3) := by decide +kernel
theorem dX1_consider_125 : decode cX1_consider 125 = .ok (.aload_n 0, 1) := by decide +kernel
theorem dX1_consider_126 : decode cX1_consider 126 = .ok (.iload_n 1, 1) := by decide +kernel
theorem dX1_consider_127 : decode cX1_consider 127 = .ok (.putfield 34, 3) := by decide +kernel
theorem dX1_consider_130 : decode cX1_consider 130 = .ok (.aload_n 0, 1) := by decide +kernel
theorem dX1_consider_131 : decode cX1_consider 131 = .ok (.iload_n 2, 1) := by decide +kernel
theorem dX1_consider_132 : decode cX1_consider 132 = .ok (.putfield 37, 3) := by decide +kernel
theorem dX1_consider_135 : decode cX1_consider 135 = .ok (.aload_n 0, 1) := by decide +kernel
theorem dX1_consider_136 : decode cX1_consider 136 = .ok (.lload 7, 2) := by decide +kernel
theorem dX1_consider_138 : decode cX1_consider 138 = .ok (.putfield 40, 3) := by decide +kernel
theorem dX1_consider_141 : decode cX1_consider 141 = .ok (.aload_n 0, 1) := by decide +kernel
theorem dX1_consider_142 : decode cX1_consider 142 = .ok (.lload 5, 2) := by decide +kernel
theorem dX1_consider_144 : decode cX1_consider 144 = .ok (.putfield 44, 3) := by decide +kernel
theorem dX1_consider_147 : decode cX1_consider 147 = .ok (.return_, 1) := by decide +kernel
abbrev kX1_consider (g : rk_G) (R : rk_R) (pc : Nat) : rk_K := rk_cut g cX1_consider 9 none RX1 1 R pc
abbrev aX1_consider (g : rk_G) (R : rk_R) (pc : Nat) (K : rk_K) : Prop := rk_AK g cX1_consider 9 none RX1 1 R pc K
abbrev sX1_consider (g : rk_G) (vs : List Value) (σ : rk_M) (R : rk_R) : Prop := rk_does g yX1_consider cX1_consider 9 none 1 vs σ R
abbrev tX1_consider (g : rk_G) (R : rk_R) (pc : Nat) (ls st : List Value) (σ : rk_M) : Prop := rk_At g cX1_consider 9 none RX1 1 R pc ls st σ
def bX1_consider_147 (g : rk_G) (R : rk_R) : rk_K := (rk_vret R)
theorem eX1_consider_147 (g : rk_G) (R : rk_R) (ls st : List Value) (σ : rk_M) : bX1_consider_147 g R ls st σ = (rk_vret R) ls st σ := rfl
theorem oX1_consider_147 {g : rk_G} {R : rk_R} : aX1_consider g R 147 (bX1_consider_147 g R) := (rk_vret_ok rfl dX1_consider_147)
def bX1_consider_125 (g : rk_G) (R : rk_R) : rk_K := (rk_aload 0 (rk_iload 1 (rk_pI 1 8 (rk_aload 0 (rk_iload 2 (rk_pI 1 9 (rk_aload 0 (rk_lload 7 (rk_pJ 1 10 (rk_aload 0 (rk_lload 5 (rk_pJ 1 11 (bX1_consider_147 g R)))))))))))))
theorem eX1_consider_125 (g : rk_G) (R : rk_R) (ls st : List Value) (σ : rk_M) : bX1_consider_125 g R ls st σ = (rk_aload 0 (rk_iload 1 (rk_pI 1 8 (rk_aload 0 (rk_iload 2 (rk_pI 1 9 (rk_aload 0 (rk_lload 7 (rk_pJ 1 10 (rk_aload 0 (rk_lload 5 (rk_pJ 1 11 (bX1_consider_147 g R))))))))))))) ls st σ := rfl
theorem oX1_consider_125 {g : rk_G} {R : rk_R} : aX1_consider g R 125 (bX1_consider_125 g R) := (rk_aload_n_ok dX1_consider_125 rfl (rk_iload_n_ok dX1_consider_126 rfl (rk_pI_ok dX1_consider_127 rfl iX1 tyX1_ok nmX1 (by decide) rfl rfl (by decide +kernel) wfX1_34 (rk_aload_n_ok dX1_consider_130 rfl (rk_iload_n_ok dX1_consider_131 rfl (rk_pI_ok dX1_consider_132 rfl iX1 tyX1_ok nmX1 (by decide) rfl rfl (by decide +kernel) wfX1_37 (rk_aload_n_ok dX1_consider_135 rfl (rk_lload_ok dX1_consider_136 (rk_pJ_ok dX1_consider_138 rfl iX1 tyX1_ok nmX1 (by decide) rfl rfl (by decide +kernel) wfX1_40 (rk_aload_n_ok dX1_consider_141 rfl (rk_lload_ok dX1_consider_142 (rk_pJ_ok dX1_consider_144 rfl iX1 tyX1_ok nmX1 (by decide) rfl rfl (by decide +kernel) wfX1_44 oX1_consider_147))))))))))))
def bX1_consider_0 (g : rk_G) (R : rk_R) : rk_K := (rk_aload 0 (rk_gR 1 5 (rk_iload 1 (rk_iald (rk_aload 0 (rk_gR 1 6 (rk_iload 1 (rk_iald (rk_aload 0 (rk_gR 1 5 (rk_iload 2 (rk_iald (rk_aload 0 (rk_gR 1 6 (rk_iload 2 (rk_iald (rk_cS g 4 yX1_product cX1_product 4 (some .long) 0 (rk_lstore 3 (rk_aload 0 (rk_gR 1 5 (rk_iload 1 (rk_iald (rk_aload 0 (rk_gR 1 6 (rk_iload 1 (rk_iald (rk_aload 0 (rk_gR 1 5 (rk_iload 1 (rk_iald (rk_aload 0 (rk_gR 1 6 (rk_iload 1 (rk_iald (rk_cS g 4 yX1_product cX1_product 4 (some .long) 0 (rk_aload 0 (rk_gR 1 5 (rk_iload 2 (rk_iald (rk_aload 0 (rk_gR 1 6 (rk_iload 2 (rk_iald (rk_aload 0 (rk_gR 1 5 (rk_iload 2 (rk_iald (rk_aload 0 (rk_gR 1 6 (rk_iload 2 (rk_iald (rk_cS g 4 yX1_product cX1_product 4 (some .long) 0 (rk_lmul (rk_lstore 5 (rk_lload 3 (rk_lload 3 (rk_lmul (rk_lstore 7 (rk_lload 3 (rk_lload 5 (rk_cS g 2 yX1_isWide cX1_isWide 4 (some .boolean) 0 (rk_if_eq (bX1_consider_147 g R) (rk_aload 0 (rk_gI 1 8 (rk_ci (-1) (rk_icmp_eq (bX1_consider_125 g R) (rk_lload 7 (rk_aload 0 (rk_gJ 1 11 (rk_lmul (rk_aload 0 (rk_gJ 1 10 (rk_lload 5 (rk_lmul (rk_lcmp (rk_if_le (bX1_consider_147 g R) (bX1_consider_125 g R)))))))))))))))))))))))))))))))))))))))))))))))))))))))))))))))))))))))))))))
theorem eX1_consider_0 (g : rk_G) (R : rk_R) (ls st : List Value) (σ : rk_M) : bX1_consider_0 g R ls st σ = (rk_aload 0 (rk_gR 1 5 (rk_iload 1 (rk_iald (rk_aload 0 (rk_gR 1 6 (rk_iload 1 (rk_iald (rk_aload 0 (rk_gR 1 5 (rk_iload 2 (rk_iald (rk_aload 0 (rk_gR 1 6 (rk_iload 2 (rk_iald (rk_cS g 4 yX1_product cX1_product 4 (some .long) 0 (rk_lstore 3 (rk_aload 0 (rk_gR 1 5 (rk_iload 1 (rk_iald (rk_aload 0 (rk_gR 1 6 (rk_iload 1 (rk_iald (rk_aload 0 (rk_gR 1 5 (rk_iload 1 (rk_iald (rk_aload 0 (rk_gR 1 6 (rk_iload 1 (rk_iald (rk_cS g 4 yX1_product cX1_product 4 (some .long) 0 (rk_aload 0 (rk_gR 1 5 (rk_iload 2 (rk_iald (rk_aload 0 (rk_gR 1 6 (rk_iload 2 (rk_iald (rk_aload 0 (rk_gR 1 5 (rk_iload 2 (rk_iald (rk_aload 0 (rk_gR 1 6 (rk_iload 2 (rk_iald (rk_cS g 4 yX1_product cX1_product 4 (some .long) 0 (rk_lmul (rk_lstore 5 (rk_lload 3 (rk_lload 3 (rk_lmul (rk_lstore 7 (rk_lload 3 (rk_lload 5 (rk_cS g 2 yX1_isWide cX1_isWide 4 (some .boolean) 0 (rk_if_eq (bX1_consider_147 g R) (rk_aload 0 (rk_gI 1 8 (rk_ci (-1) (rk_icmp_eq (bX1_consider_125 g R) (rk_lload 7 (rk_aload 0 (rk_gJ 1 11 (rk_lmul (rk_aload 0 (rk_gJ 1 10 (rk_lload 5 (rk_lmul (rk_lcmp (rk_if_le (bX1_consider_147 g R) (bX1_consider_125 g R))))))))))))))))))))))))))))))))))))))))))))))))))))))))))))))))))))))))))))) ls st σ := rfl
theorem oX1_consider_0 {g : rk_G} {R : rk_R} : aX1_consider g R 0 (bX1_consider_0 g R) := (rk_aload_n_ok dX1_consider_0 rfl (rk_gR_ok dX1_consider_1 rfl iX1 (by decide) rfl wfX1_25 (rk_iload_n_ok dX1_consider_4 rfl (rk_iald_ok dX1_consider_5 (rk_aload_n_ok dX1_consider_6 rfl (rk_gR_ok dX1_consider_7 rfl iX1 (by decide) rfl wfX1_28 (rk_iload_n_ok dX1_consider_10 rfl (rk_iald_ok dX1_consider_11 (rk_aload_n_ok dX1_consider_12 rfl (rk_gR_ok dX1_consider_13 rfl iX1 (by decide) rfl wfX1_25 (rk_iload_n_ok dX1_consider_16 rfl (rk_iald_ok dX1_consider_17 (rk_aload_n_ok dX1_consider_18 rfl (rk_gR_ok dX1_consider_19 rfl iX1 (by decide) rfl wfX1_28 (rk_iload_n_ok dX1_consider_22 rfl (rk_iald_ok dX1_consider_23 (rk_cS_ok dX1_consider_24 npX1_product wmX1_78 wtX1_product wiX1 wdX1_product (by decide) (by decide) (rk_lstore_n_ok dX1_consider_27 rfl (by decide) (rk_aload_n_ok dX1_consider_28 rfl (rk_gR_ok dX1_consider_29 rfl iX1 (by decide) rfl wfX1_25 (rk_iload_n_ok dX1_consider_32 rfl (rk_iald_ok dX1_consider_33 (rk_aload_n_ok dX1_consider_34 rfl (rk_gR_ok dX1_consider_35 rfl iX1 (by decide) rfl wfX1_28 (rk_iload_n_ok dX1_consider_38 rfl (rk_iald_ok dX1_consider_39 (rk_aload_n_ok dX1_consider_40 rfl (rk_gR_ok dX1_consider_41 rfl iX1 (by decide) rfl wfX1_25 (rk_iload_n_ok dX1_consider_44 rfl (rk_iald_ok dX1_consider_45 (rk_aload_n_ok dX1_consider_46 rfl (rk_gR_ok dX1_consider_47 rfl iX1 (by decide) rfl wfX1_28 (rk_iload_n_ok dX1_consider_50 rfl (rk_iald_ok dX1_consider_51 (rk_cS_ok dX1_consider_52 npX1_product wmX1_78 wtX1_product wiX1 wdX1_product (by decide) (by decide) (rk_aload_n_ok dX1_consider_55 rfl (rk_gR_ok dX1_consider_56 rfl iX1 (by decide) rfl wfX1_25 (rk_iload_n_ok dX1_consider_59 rfl (rk_iald_ok dX1_consider_60 (rk_aload_n_ok dX1_consider_61 rfl (rk_gR_ok dX1_consider_62 rfl iX1 (by decide) rfl wfX1_28 (rk_iload_n_ok dX1_consider_65 rfl (rk_iald_ok dX1_consider_66 (rk_aload_n_ok dX1_consider_67 rfl (rk_gR_ok dX1_consider_68 rfl iX1 (by decide) rfl wfX1_25 (rk_iload_n_ok dX1_consider_71 rfl (rk_iald_ok dX1_consider_72 (rk_aload_n_ok dX1_consider_73 rfl (rk_gR_ok dX1_consider_74 rfl iX1 (by decide) rfl wfX1_28 (rk_iload_n_ok dX1_consider_77 rfl (rk_iald_ok dX1_consider_78 (rk_cS_ok dX1_consider_79 npX1_product wmX1_78 wtX1_product wiX1 wdX1_product (by decide) (by decide) (rk_lmul_ok dX1_consider_82 (rk_lstore_ok dX1_consider_83 (by decide) (rk_lload_n_ok dX1_consider_85 rfl (rk_lload_n_ok dX1_consider_86 rfl (rk_lmul_ok dX1_consider_87 (rk_lstore_ok dX1_consider_88 (by decide) (rk_lload_n_ok dX1_consider_90 rfl (rk_lload_ok dX1_consider_91 (rk_cS_ok dX1_consider_93 npX1_isWide wmX1_82 wtX1_isWide wiX1 wdX1_isWide (by decide) (by decide) (rk_if_eq_ok (pc' := 147) dX1_consider_96 (by decide) oX1_consider_147 (rk_aload_n_ok dX1_consider_99 rfl (rk_gI_ok dX1_consider_100 rfl iX1 (by decide) rfl wfX1_34 (rk_iconst_ok dX1_consider_103 (by decide) (rk_icmp_eq_ok (pc' := 125) dX1_consider_104 (by decide) oX1_consider_125 (rk_lload_ok dX1_consider_107 (rk_aload_n_ok dX1_consider_109 rfl (rk_gJ_ok dX1_consider_110 rfl iX1 (by decide) rfl wfX1_44 (rk_lmul_ok dX1_consider_113 (rk_aload_n_ok dX1_consider_114 rfl (rk_gJ_ok dX1_consider_115 rfl iX1 (by decide) rfl wfX1_40 (rk_lload_ok dX1_consider_118 (rk_lmul_ok dX1_consider_120 (rk_lcmp_ok dX1_consider_121 (rk_if_le_ok (pc' := 147) dX1_consider_122 (by decide) oX1_consider_147 oX1_consider_125))))))))))))))))))))))))))))))))))))))))))))))))))))))))))))))))))))))))))))
theorem dX2_addMeeting_0 : decode cX2_addMeeting 0 = .ok (.iload_n 1, 1) := by decide +kernel
theorem dX2_addMeeting_1 : decode cX2_addMeeting 1 = .ok (.invokestatic 44, 3) := by decide +kernel
theorem dX2_addMeeting_4 : decode cX2_addMeeting 4 = .ok (.ifCond .eq 10, 3) := by decide +kernel
theorem dX2_addMeeting_7 : decode cX2_addMeeting 7 = .ok (.iload_n 2, 1) := by decide +kernel
theorem dX2_addMeeting_8 : decode cX2_addMeeting 8 = .ok (.invokestatic 44, 3) := by decide +kernel
theorem dX2_addMeeting_11 : decode cX2_addMeeting 11 = .ok (.ifCond .ne 6, 3) := by decide +kernel
theorem dX2_addMeeting_14 : decode cX2_addMeeting 14 = .ok (.bipush (-2), 2) := by decide +kernel
theorem dX2_addMeeting_16 : decode cX2_addMeeting 16 = .ok (.ireturn, 1) := by decide +kernel
theorem dX2_addMeeting_17 : decode cX2_addMeeting 17 = .ok (.aload_n 0, 1) := by decide +kernel
theorem dX2_addMeeting_18 : decode cX2_addMeeting 18 = .ok (.iload_n 1, 1) := by decide +kernel
theorem dX2_addMeeting_19 : decode cX2_addMeeting 19 = .ok (.iload_n 2, 1) := by decide +kernel
theorem dX2_addMeeting_20 : decode cX2_addMeeting 20 = .ok (.invokevirtual 48, 3) := by decide +kernel
theorem dX2_addMeeting_23 : decode cX2_addMeeting 23 = .ok (.ifCond .eq 6, 3) := by decide +kernel
theorem dX2_addMeeting_26 : decode cX2_addMeeting 26 = .ok (.bipush (-3), 2) := by decide +kernel
theorem dX2_addMeeting_28 : decode cX2_addMeeting 28 = .ok (.ireturn, 1) := by decide +kernel
theorem dX2_addMeeting_29 : decode cX2_addMeeting 29 = .ok (.aload_n 0, 1) := by decide +kernel
theorem dX2_addMeeting_30 : decode cX2_addMeeting 30 = .ok (.getfield 33, 3) := by decide +kernel
theorem dX2_addMeeting_33 : decode cX2_addMeeting 33 = .ok (.bipush 16, 2) := by decide +kernel
theorem dX2_addMeeting_35 : decode cX2_addMeeting 35 = .ok (.if_icmp .lt 6, 3) := by decide +kernel
theorem dX2_addMeeting_38 : decode cX2_addMeeting 38 = .ok (.bipush (-4), 2) := by decide +kernel
theorem dX2_addMeeting_40 : decode cX2_addMeeting 40 = .ok (.ireturn, 1) := by decide +kernel
theorem dX2_addMeeting_41 : decode cX2_addMeeting 41 = .ok (.aload_n 0, 1) := by decide +kernel
theorem dX2_addMeeting_42 : decode cX2_addMeeting 42 = .ok (.getfield 40, 3) := by decide +kernel
theorem dX2_addMeeting_45 : decode cX2_addMeeting 45 = .ok (.aload_n 0, 1) := by decide +kernel
theorem dX2_addMeeting_46 : decode cX2_addMeeting 46 = .ok (.getfield 33, 3) := by decide +kernel
theorem dX2_addMeeting_49 : decode cX2_addMeeting 49 = .ok (.aload_n 0, 1) := by decide +kernel
theorem dX2_addMeeting_50 : decode cX2_addMeeting 50 = .ok (.getfield 37, 3) := by decide +kernel
theorem dX2_addMeeting_53 : decode cX2_addMeeting 53 = .ok (.iadd, 1) := by decide +kernel
theorem dX2_addMeeting_54 : decode cX2_addMeeting 54 = .ok (.iconst 0, 1) := by decide +kernel
theorem dX2_addMeeting_55 : decode cX2_addMeeting 55 = .ok (.bastore, 1) := by decide +kernel
theorem dX2_addMeeting_56 : decode cX2_addMeeting 56 = .ok (.aload_n 0, 1) := by decide +kernel
theorem dX2_addMeeting_57 : decode cX2_addMeeting 57 = .ok (.getfield 9, 3) := by decide +kernel
theorem dX2_addMeeting_60 : decode cX2_addMeeting 60 = .ok (.aload_n 0, 1) := by decide +kernel
theorem dX2_addMeeting_61 : decode cX2_addMeeting 61 = .ok (.getfield 33, 3) := by decide +kernel
theorem dX2_addMeeting_64 : decode cX2_addMeeting 64 = .ok (.iload_n 1, 1) := by decide +kernel
theorem dX2_addMeeting_65 : decode cX2_addMeeting 65 = .ok (.iastore, 1) := by decide +kernel
theorem dX2_addMeeting_66 : decode cX2_addMeeting 66 = .ok (.aload_n 0, 1) := by decide +kernel
theorem dX2_addMeeting_67 : decode cX2_addMeeting 67 = .ok (.getfield 15, 3) := by decide +kernel
theorem dX2_addMeeting_70 : decode cX2_addMeeting 70 = .ok (.aload_n 0, 1) := by decide +kernel
theorem dX2_addMeeting_71 : decode cX2_addMeeting 71 = .ok (.getfield 33, 3) := by decide +kernel
theorem dX2_addMeeting_74 : decode cX2_addMeeting 74 = .ok (.iload_n 2, 1) := by decide +kernel
theorem dX2_addMeeting_75 : decode cX2_addMeeting 75 = .ok (.iastore, 1) := by decide +kernel
theorem dX2_addMeeting_76 : decode cX2_addMeeting 76 = .ok (.aload_n 0, 1) := by decide +kernel
theorem dX2_addMeeting_77 : decode cX2_addMeeting 77 = .ok (.dup, 1) := by decide +kernel
theorem dX2_addMeeting_78 : decode cX2_addMeeting 78 = .ok (.getfield 33, 3) := by decide +kernel
theorem dX2_addMeeting_81 : decode cX2_addMeeting 81 = .ok (.iconst 1, 1) := by decide +kernel
theorem dX2_addMeeting_82 : decode cX2_addMeeting 82 = .ok (.iadd, 1) := by decide +kernel
theorem dX2_addMeeting_83 : decode cX2_addMeeting 83 = .ok (.putfield 33, 3) := by decide +kernel
theorem dX2_addMeeting_86 : decode cX2_addMeeting 86 = .ok (.aload_n 0, 1) := by decide +kernel
theorem dX2_addMeeting_87 : decode cX2_addMeeting 87 = .ok (.getfield 33, 3) := by decide +kernel
theorem dX2_addMeeting_90 : decode cX2_addMeeting 90 = .ok (.ireturn, 1) := by decide +kernel
abbrev kX2_addMeeting (g : rk_G) (R : rk_R) (pc : Nat) : rk_K := rk_cut g cX2_addMeeting 3 (some .int) RX2 1 R pc
abbrev aX2_addMeeting (g : rk_G) (R : rk_R) (pc : Nat) (K : rk_K) : Prop := rk_AK g cX2_addMeeting 3 (some .int) RX2 1 R pc K
abbrev sX2_addMeeting (g : rk_G) (vs : List Value) (σ : rk_M) (R : rk_R) : Prop := rk_does g yX2_addMeeting cX2_addMeeting 3 (some .int) 1 vs σ R
abbrev tX2_addMeeting (g : rk_G) (R : rk_R) (pc : Nat) (ls st : List Value) (σ : rk_M) : Prop := rk_At g cX2_addMeeting 3 (some .int) RX2 1 R pc ls st σ
def bX2_addMeeting_14 (g : rk_G) (R : rk_R) : rk_K := (rk_ci (-2) (rk_iret R))
theorem eX2_addMeeting_14 (g : rk_G) (R : rk_R) (ls st : List Value) (σ : rk_M) : bX2_addMeeting_14 g R ls st σ = (rk_ci (-2) (rk_iret R)) ls st σ := rfl
theorem oX2_addMeeting_14 {g : rk_G} {R : rk_R} : aX2_addMeeting g R 14 (bX2_addMeeting_14 g R) := (rk_bipush_ok dX2_addMeeting_14 (by decide) (rk_iret_ok rfl dX2_addMeeting_16))
def bX2_addMeeting_0 (g : rk_G) (R : rk_R) : rk_K := (rk_iload 1 (rk_cS g 1 yX6_isPlace cX6_isPlace 1 (some .boolean) 0 (rk_if_eq (bX2_addMeeting_14 g R) (rk_iload 2 (rk_cS g 1 yX6_isPlace cX6_isPlace 1 (some .boolean) 0 (rk_if_ne (rk_aload 0 (rk_iload 1 (rk_iload 2 (rk_cV g 2 2 yX2_isTaken cX2_isTaken 4 (some .boolean) 0 (rk_if_eq (rk_aload 0 (rk_gI 2 7 (rk_ci (16) (rk_icmp_lt (rk_aload 0 (rk_gR 2 9 (rk_aload 0 (rk_gI 2 7 (rk_aload 0 (rk_gI 2 8 (rk_iadd (rk_ci (0) (rk_zast (rk_aload 0 (rk_gR 2 0 (rk_aload 0 (rk_gI 2 7 (rk_iload 1 (rk_iast (rk_aload 0 (rk_gR 2 1 (rk_aload 0 (rk_gI 2 7 (rk_iload 2 (rk_iast (rk_aload 0 (rk_dup (rk_gI 2 7 (rk_ci (1) (rk_iadd (rk_pI 2 7 (rk_aload 0 (rk_gI 2 7 (rk_iret R)))))))))))))))))))))))))))))) (rk_ci (-4) (rk_iret R)))))) (rk_ci (-3) (rk_iret R))))))) (bX2_addMeeting_14 g R)))))))
theorem eX2_addMeeting_0 (g : rk_G) (R : rk_R) (ls st : List Value) (σ : rk_M) : bX2_addMeeting_0 g R ls st σ = (rk_iload 1 (rk_cS g 1 yX6_isPlace cX6_isPlace 1 (some .boolean) 0 (rk_if_eq (bX2_addMeeting_14 g R) (rk_iload 2 (rk_cS g 1 yX6_isPlace cX6_isPlace 1 (some .boolean) 0 (rk_if_ne (rk_aload 0 (rk_iload 1 (rk_iload 2 (rk_cV g 2 2 yX2_isTaken cX2_isTaken 4 (some .boolean) 0 (rk_if_eq (rk_aload 0 (rk_gI 2 7 (rk_ci (16) (rk_icmp_lt (rk_aload 0 (rk_gR 2 9 (rk_aload 0 (rk_gI 2 7 (rk_aload 0 (rk_gI 2 8 (rk_iadd (rk_ci (0) (rk_zast (rk_aload 0 (rk_gR 2 0 (rk_aload 0 (rk_gI 2 7 (rk_iload 1 (rk_iast (rk_aload 0 (rk_gR 2 1 (rk_aload 0 (rk_gI 2 7 (rk_iload 2 (rk_iast (rk_aload 0 (rk_dup (rk_gI 2 7 (rk_ci (1) (rk_iadd (rk_pI 2 7 (rk_aload 0 (rk_gI 2 7 (rk_iret R)))))))))))))))))))))))))))))) (rk_ci (-4) (rk_iret R)))))) (rk_ci (-3) (rk_iret R))))))) (bX2_addMeeting_14 g R))))))) ls st σ := rfl
theorem oX2_addMeeting_0 {g : rk_G} {R : rk_R} : aX2_addMeeting g R 0 (bX2_addMeeting_0 g R) := (rk_iload_n_ok dX2_addMeeting_0 rfl (rk_cN_ok dX2_addMeeting_1 npX6_isPlace wnX2_44 wtX6_isPlace wiX6 wdX6_isPlace (by decide) (by decide) (rk_if_eq_ok (pc' := 14) dX2_addMeeting_4 (by decide) oX2_addMeeting_14 (rk_iload_n_ok dX2_addMeeting_7 rfl (rk_cN_ok dX2_addMeeting_8 npX6_isPlace wnX2_44 wtX6_isPlace wiX6 wdX6_isPlace (by decide) (by decide) (rk_if_ne_ok (pc' := 17) dX2_addMeeting_11 (by decide) (rk_aload_n_ok dX2_addMeeting_17 rfl (rk_iload_n_ok dX2_addMeeting_18 rfl (rk_iload_n_ok dX2_addMeeting_19 rfl (rk_cV_ok dX2_addMeeting_20 rfl rfl npX2_isTaken wmX2_48 wvX2_isTaken weX2_isTaken wiX2 wdX2_isTaken (by decide) (by decide) (rk_if_eq_ok (pc' := 29) dX2_addMeeting_23 (by decide) (rk_aload_n_ok dX2_addMeeting_29 rfl (rk_gI_ok dX2_addMeeting_30 rfl iX2 (by decide) rfl wfX2_33 (rk_bipush_ok dX2_addMeeting_33 (by decide) (rk_icmp_lt_ok (pc' := 41) dX2_addMeeting_35 (by decide) (rk_aload_n_ok dX2_addMeeting_41 rfl (rk_gR_ok dX2_addMeeting_42 rfl iX2 (by decide) rfl wfX2_40 (rk_aload_n_ok dX2_addMeeting_45 rfl (rk_gI_ok dX2_addMeeting_46 rfl iX2 (by decide) rfl wfX2_33 (rk_aload_n_ok dX2_addMeeting_49 rfl (rk_gI_ok dX2_addMeeting_50 rfl iX2 (by decide) rfl wfX2_37 (rk_iadd_ok dX2_addMeeting_53 (rk_iconst_ok dX2_addMeeting_54 (by decide) (rk_zast_ok dX2_addMeeting_55 (rk_aload_n_ok dX2_addMeeting_56 rfl (rk_gR_ok dX2_addMeeting_57 rfl iX2 (by decide) rfl wfX2_9 (rk_aload_n_ok dX2_addMeeting_60 rfl (rk_gI_ok dX2_addMeeting_61 rfl iX2 (by decide) rfl wfX2_33 (rk_iload_n_ok dX2_addMeeting_64 rfl (rk_iast_ok dX2_addMeeting_65 (rk_aload_n_ok dX2_addMeeting_66 rfl (rk_gR_ok dX2_addMeeting_67 rfl iX2 (by decide) rfl wfX2_15 (rk_aload_n_ok dX2_addMeeting_70 rfl (rk_gI_ok dX2_addMeeting_71 rfl iX2 (by decide) rfl wfX2_33 (rk_iload_n_ok dX2_addMeeting_74 rfl (rk_iast_ok dX2_addMeeting_75 (rk_aload_n_ok dX2_addMeeting_76 rfl (rk_dup_ok dX2_addMeeting_77 (rk_gI_ok dX2_addMeeting_78 rfl iX2 (by decide) rfl wfX2_33 (rk_iconst_ok dX2_addMeeting_81 (by decide) (rk_iadd_ok dX2_addMeeting_82 (rk_pI_ok dX2_addMeeting_83 rfl iX2 tyX2_ok nmX2 (by decide) rfl rfl (by decide +kernel) wfX2_33 (rk_aload_n_ok dX2_addMeeting_86 rfl (rk_gI_ok dX2_addMeeting_87 rfl iX2 (by decide) rfl wfX2_33 (rk_iret_ok rfl dX2_addMeeting_90)))))))))))))))))))))))))))))) (rk_bipush_ok dX2_addMeeting_38 (by decide) (rk_iret_ok rfl dX2_addMeeting_40)))))) (rk_bipush_ok dX2_addMeeting_26 (by decide) (rk_iret_ok rfl dX2_addMeeting_28))))))) oX2_addMeeting_14))))))
theorem dX2_roadsAt_0 : decode cX2_roadsAt 0 = .ok (.iconst 0, 1) := by decide +kernel
theorem dX2_roadsAt_1 : decode cX2_roadsAt 1 = .ok (.istore_n 2, 1) := by decide +kernel
theorem dX2_roadsAt_2 : decode cX2_roadsAt 2 = .ok (.iconst 0, 1) := by decide +kernel
theorem dX2_roadsAt_3 : decode cX2_roadsAt 3 = .ok (.istore_n 3, 1) := by decide +kernel
theorem dX2_roadsAt_4 : decode cX2_roadsAt 4 = .ok (.iload_n 3, 1) := by decide +kernel
theorem dX2_roadsAt_5 : decode cX2_roadsAt 5 = .ok (.aload_n 0, 1) := by decide +kernel
theorem dX2_roadsAt_6 : decode cX2_roadsAt 6 = .ok (.getfield 37, 3) := by decide +kernel
theorem dX2_roadsAt_9 : decode cX2_roadsAt 9 = .ok (.if_icmp .ge 21, 3) := by decide +kernel
theorem dX2_roadsAt_12 : decode cX2_roadsAt 12 = .ok (.aload_n 0, 1) := by decide +kernel
theorem dX2_roadsAt_13 : decode cX2_roadsAt 13 = .ok (.iload_n 3, 1) := by decide +kernel
theorem dX2_roadsAt_14 : decode cX2_roadsAt 14 = .ok (.iload_n 1, 1) := by decide +kernel
theorem dX2_roadsAt_15 : decode cX2_roadsAt 15 = .ok (.invokevirtual 70, 3) := by decide +kernel
theorem dX2_roadsAt_18 : decode cX2_roadsAt 18 = .ok (.ifCond .eq 6, 3) := by decide +kernel
theorem dX2_roadsAt_21 : decode cX2_roadsAt 21 = .ok (.iinc 2 1, 3) := by decide +kernel
theorem dX2_roadsAt_24 : decode cX2_roadsAt 24 = .ok (.iinc 3 1, 3) := by decide +kernel
theorem dX2_roadsAt_27 : decode cX2_roadsAt 27 = .ok (.goto (-23), 3) := by decide +kernel
theorem dX2_roadsAt_30 : decode cX2_roadsAt 30 = .ok (.iload_n 2, 1) := by decide +kernel
theorem dX2_roadsAt_31 : decode cX2_roadsAt 31 = .ok (.ireturn, 1) := by decide +kernel
abbrev kX2_roadsAt (g : rk_G) (R : rk_R) (pc : Nat) : rk_K := rk_cut g cX2_roadsAt 4 (some .int) RX2 1 R pc
abbrev aX2_roadsAt (g : rk_G) (R : rk_R) (pc : Nat) (K : rk_K) : Prop := rk_AK g cX2_roadsAt 4 (some .int) RX2 1 R pc K
abbrev sX2_roadsAt (g : rk_G) (vs : List Value) (σ : rk_M) (R : rk_R) : Prop := rk_does g yX2_roadsAt cX2_roadsAt 4 (some .int) 1 vs σ R
abbrev tX2_roadsAt (g : rk_G) (R : rk_R) (pc : Nat) (ls st : List Value) (σ : rk_M) : Prop := rk_At g cX2_roadsAt 4 (some .int) RX2 1 R pc ls st σ
def bX2_roadsAt_24 (g : rk_G) (R : rk_R) : rk_K := (rk_iinc 3 (1) (kX2_roadsAt g R 4))
theorem eX2_roadsAt_24 (g : rk_G) (R : rk_R) (ls st : List Value) (σ : rk_M) : bX2_roadsAt_24 g R ls st σ = (rk_iinc 3 (1) (kX2_roadsAt g R 4)) ls st σ := rfl
theorem oX2_roadsAt_24 {g : rk_G} {R : rk_R} : aX2_roadsAt g R 24 (bX2_roadsAt_24 g R) := (rk_iinc_ok dX2_roadsAt_24 (by decide) (by decide) (rk_goto_ok (pc' := 4) dX2_roadsAt_27 (by decide) rk_cut_ok))
def bX2_roadsAt_4 (g : rk_G) (R : rk_R) : rk_K := (rk_iload 3 (rk_aload 0 (rk_gI 2 8 (rk_icmp_ge (rk_iload 2 (rk_iret R)) (rk_aload 0 (rk_iload 3 (rk_iload 1 (rk_cV g 2 2 yX2_isThere cX2_isThere 3 (some .boolean) 0 (rk_if_eq (bX2_roadsAt_24 g R) (rk_iinc 2 (1) (bX2_roadsAt_24 g R)))))))))))
theorem eX2_roadsAt_4 (g : rk_G) (R : rk_R) (ls st : List Value) (σ : rk_M) : bX2_roadsAt_4 g R ls st σ = (rk_iload 3 (rk_aload 0 (rk_gI 2 8 (rk_icmp_ge (rk_iload 2 (rk_iret R)) (rk_aload 0 (rk_iload 3 (rk_iload 1 (rk_cV g 2 2 yX2_isThere cX2_isThere 3 (some .boolean) 0 (rk_if_eq (bX2_roadsAt_24 g R) (rk_iinc 2 (1) (bX2_roadsAt_24 g R))))))))))) ls st σ := rfl
theorem oX2_roadsAt_4 {g : rk_G} {R : rk_R} : aX2_roadsAt g R 4 (bX2_roadsAt_4 g R) := (rk_iload_n_ok dX2_roadsAt_4 rfl (rk_aload_n_ok dX2_roadsAt_5 rfl (rk_gI_ok dX2_roadsAt_6 rfl iX2 (by decide) rfl wfX2_37 (rk_icmp_ge_ok (pc' := 30) dX2_roadsAt_9 (by decide) (rk_iload_n_ok dX2_roadsAt_30 rfl (rk_iret_ok rfl dX2_roadsAt_31)) (rk_aload_n_ok dX2_roadsAt_12 rfl (rk_iload_n_ok dX2_roadsAt_13 rfl (rk_iload_n_ok dX2_roadsAt_14 rfl (rk_cV_ok dX2_roadsAt_15 rfl rfl npX2_isThere wmX2_70 wvX2_isThere weX2_isThere wiX2 wdX2_isThere (by decide) (by decide) (rk_if_eq_ok (pc' := 24) dX2_roadsAt_18 (by decide) oX2_roadsAt_24 (rk_iinc_ok dX2_roadsAt_21 (by decide) (by decide) oX2_roadsAt_24))))))))))
def bX2_roadsAt_0 (g : rk_G) (R : rk_R) : rk_K := (rk_ci (0) (rk_istore 2 (rk_ci (0) (rk_istore 3 (kX2_roadsAt g R 4)))))
theorem eX2_roadsAt_0 (g : rk_G) (R : rk_R) (ls st : List Value) (σ : rk_M) : bX2_roadsAt_0 g R ls st σ = (rk_ci (0) (rk_istore 2 (rk_ci (0) (rk_istore 3 (kX2_roadsAt g R 4))))) ls st σ := rfl
theorem oX2_roadsAt_0 {g : rk_G} {R : rk_R} : aX2_roadsAt g R 0 (bX2_roadsAt_0 g R) := (rk_iconst_ok dX2_roadsAt_0 (by decide) (rk_istore_n_ok dX2_roadsAt_1 rfl (by decide) (rk_iconst_ok dX2_roadsAt_2 (by decide) (rk_istore_n_ok dX2_roadsAt_3 rfl (by decide) rk_cut_ok))))
theorem dX2_isLinked_0 : decode cX2_isLinked 0 = .ok (.iconst 0, 1) := by decide +kernel
theorem dX2_isLinked_1 : decode cX2_isLinked 1 = .ok (.istore_n 3, 1) := by decide +kernel
theorem dX2_isLinked_2 : decode cX2_isLinked 2 = .ok (.iload_n 3, 1) := by decide +kernel
theorem dX2_isLinked_3 : decode cX2_isLinked 3 = .ok (.aload_n 0, 1) := by decide +kernel
theorem dX2_isLinked_4 : decode cX2_isLinked 4 = .ok (.getfield 37, 3) := by decide +kernel
theorem dX2_isLinked_7 : decode cX2_isLinked 7 = .ok (.if_icmp .ge 29, 3) := by decide +kernel
theorem dX2_isLinked_10 : decode cX2_isLinked 10 = .ok (.aload_n 0, 1) := by decide +kernel
theorem dX2_isLinked_11 : decode cX2_isLinked 11 = .ok (.iload_n 3, 1) := by decide +kernel
theorem dX2_isLinked_12 : decode cX2_isLinked 12 = .ok (.iload_n 1, 1) := by decide +kernel
theorem dX2_isLinked_13 : decode cX2_isLinked 13 = .ok (.invokevirtual 70, 3) := by decide +kernel
theorem dX2_isLinked_16 : decode cX2_isLinked 16 = .ok (.ifCond .eq 14, 3) := by decide +kernel
theorem dX2_isLinked_19 : decode cX2_isLinked 19 = .ok (.aload_n 0, 1) := by decide +kernel
theorem dX2_isLinked_20 : decode cX2_isLinked 20 = .ok (.iload_n 3, 1) := by decide +kernel
theorem dX2_isLinked_21 : decode cX2_isLinked 21 = .ok (.iload_n 2, 1) := by decide +kernel
theorem dX2_isLinked_22 : decode cX2_isLinked 22 = .ok (.invokevirtual 70, 3) := by decide +kernel
theorem dX2_isLinked_25 : decode cX2_isLinked 25 = .ok (.ifCond .eq 5, 3) := by decide +kernel
theorem dX2_isLinked_28 : decode cX2_isLinked 28 = .ok (.iconst 1, 1) := by decide +kernel
theorem dX2_isLinked_29 : decode cX2_isLinked 29 = .ok (.ireturn, 1) := by decide +kernel
theorem dX2_isLinked_30 : decode cX2_isLinked 30 = .ok (.iinc 3 1, 3) := by decide +kernel
theorem dX2_isLinked_33 : decode cX2_isLinked 33 = .ok (.goto (-31), 3) := by decide +kernel
theorem dX2_isLinked_36 : decode cX2_isLinked 36 = .ok (.iconst 0, 1) := by decide +kernel
theorem dX2_isLinked_37 : decode cX2_isLinked 37 = .ok (.ireturn, 1) := by decide +kernel
abbrev kX2_isLinked (g : rk_G) (R : rk_R) (pc : Nat) : rk_K := rk_cut g cX2_isLinked 4 (some .boolean) RX2 1 R pc
abbrev aX2_isLinked (g : rk_G) (R : rk_R) (pc : Nat) (K : rk_K) : Prop := rk_AK g cX2_isLinked 4 (some .boolean) RX2 1 R pc K
abbrev sX2_isLinked (g : rk_G) (vs : List Value) (σ : rk_M) (R : rk_R) : Prop := rk_does g yX2_isLinked cX2_isLinked 4 (some .boolean) 1 vs σ R
abbrev tX2_isLinked (g : rk_G) (R : rk_R) (pc : Nat) (ls st : List Value) (σ : rk_M) : Prop := rk_At g cX2_isLinked 4 (some .boolean) RX2 1 R pc ls st σ
def bX2_isLinked_30 (g : rk_G) (R : rk_R) : rk_K := (rk_iinc 3 (1) (kX2_isLinked g R 2))
theorem eX2_isLinked_30 (g : rk_G) (R : rk_R) (ls st : List Value) (σ : rk_M) : bX2_isLinked_30 g R ls st σ = (rk_iinc 3 (1) (kX2_isLinked g R 2)) ls st σ := rfl
theorem oX2_isLinked_30 {g : rk_G} {R : rk_R} : aX2_isLinked g R 30 (bX2_isLinked_30 g R) := (rk_iinc_ok dX2_isLinked_30 (by decide) (by decide) (rk_goto_ok (pc' := 2) dX2_isLinked_33 (by decide) rk_cut_ok))
def bX2_isLinked_2 (g : rk_G) (R : rk_R) : rk_K := (rk_iload 3 (rk_aload 0 (rk_gI 2 8 (rk_icmp_ge (rk_ci (0) (rk_zret R)) (rk_aload 0 (rk_iload 3 (rk_iload 1 (rk_cV g 2 2 yX2_isThere cX2_isThere 3 (some .boolean) 0 (rk_if_eq (bX2_isLinked_30 g R) (rk_aload 0 (rk_iload 3 (rk_iload 2 (rk_cV g 2 2 yX2_isThere cX2_isThere 3 (some .boolean) 0 (rk_if_eq (bX2_isLinked_30 g R) (rk_ci (1) (rk_zret R))))))))))))))))
theorem eX2_isLinked_2 (g : rk_G) (R : rk_R) (ls st : List Value) (σ : rk_M) : bX2_isLinked_2 g R ls st σ = (rk_iload 3 (rk_aload 0 (rk_gI 2 8 (rk_icmp_ge (rk_ci (0) (rk_zret R)) (rk_aload 0 (rk_iload 3 (rk_iload 1 (rk_cV g 2 2 yX2_isThere cX2_isThere 3 (some .boolean) 0 (rk_if_eq (bX2_isLinked_30 g R) (rk_aload 0 (rk_iload 3 (rk_iload 2 (rk_cV g 2 2 yX2_isThere cX2_isThere 3 (some .boolean) 0 (rk_if_eq (bX2_isLinked_30 g R) (rk_ci (1) (rk_zret R)))))))))))))))) ls st σ := rfl
theorem oX2_isLinked_2 {g : rk_G} {R : rk_R} : aX2_isLinked g R 2 (bX2_isLinked_2 g R) := (rk_iload_n_ok dX2_isLinked_2 rfl (rk_aload_n_ok dX2_isLinked_3 rfl (rk_gI_ok dX2_isLinked_4 rfl iX2 (by decide) rfl wfX2_37 (rk_icmp_ge_ok (pc' := 36) dX2_isLinked_7 (by decide) (rk_iconst_ok dX2_isLinked_36 (by decide) (rk_zret_ok rfl dX2_isLinked_37)) (rk_aload_n_ok dX2_isLinked_10 rfl (rk_iload_n_ok dX2_isLinked_11 rfl (rk_iload_n_ok dX2_isLinked_12 rfl (rk_cV_ok dX2_isLinked_13 rfl rfl npX2_isThere wmX2_70 wvX2_isThere weX2_isThere wiX2 wdX2_isThere (by decide) (by decide) (rk_if_eq_ok (pc' := 30) dX2_isLinked_16 (by decide) oX2_isLinked_30 (rk_aload_n_ok dX2_isLinked_19 rfl (rk_iload_n_ok dX2_isLinked_20 rfl (rk_iload_n_ok dX2_isLinked_21 rfl (rk_cV_ok dX2_isLinked_22 rfl rfl npX2_isThere wmX2_70 wvX2_isThere weX2_isThere wiX2 wdX2_isThere (by decide) (by decide) (rk_if_eq_ok (pc' := 30) dX2_isLinked_25 (by decide) oX2_isLinked_30 (rk_iconst_ok dX2_isLinked_28 (by decide) (rk_zret_ok rfl dX2_isLinked_29))))))))))))))))
def bX2_isLinked_0 (g : rk_G) (R : rk_R) : rk_K := (rk_ci (0) (rk_istore 3 (kX2_isLinked g R 2)))
theorem eX2_isLinked_0 (g : rk_G) (R : rk_R) (ls st : List Value) (σ : rk_M) : bX2_isLinked_0 g R ls st σ = (rk_ci (0) (rk_istore 3 (kX2_isLinked g R 2))) ls st σ := rfl
theorem oX2_isLinked_0 {g : rk_G} {R : rk_R} : aX2_isLinked g R 0 (bX2_isLinked_0 g R) := (rk_iconst_ok dX2_isLinked_0 (by decide) (rk_istore_n_ok dX2_isLinked_1 rfl (by decide) rk_cut_ok))
theorem dX3_faultOf_0 : decode cX3_faultOf 0 = .ok (.aload_n 0, 1) := by decide +kernel
theorem dX3_faultOf_1 : decode cX3_faultOf 1 = .ok (.invokevirtual 22, 3) := by decide +kernel
theorem dX3_faultOf_4 : decode cX3_faultOf 4 = .ok (.ifCond .eq 5, 3) := by decide +kernel
theorem dX3_faultOf_7 : decode cX3_faultOf 7 = .ok (.iconst 1, 1) := by decide +kernel
theorem dX3_faultOf_8 : decode cX3_faultOf 8 = .ok (.ireturn, 1) := by decide +kernel
theorem dX3_faultOf_9 : decode cX3_faultOf 9 = .ok (.iload_n 1, 1) := by decide +kernel
theorem dX3_faultOf_10 : decode cX3_faultOf 10 = .ok (.aload_n 0, 1) := by decide +kernel
theorem dX3_faultOf_11 : decode cX3_faultOf 11 = .ok (.getfield 15, 3) := by decide +kernel
theorem dX3_faultOf_14 : decode cX3_faultOf 14 = .ok (.if_icmp .eq 5, 3) := by decide +kernel
theorem dX3_faultOf_17 : decode cX3_faultOf 17 = .ok (.iconst 3, 1) := by decide +kernel
theorem dX3_faultOf_18 : decode cX3_faultOf 18 = .ok (.ireturn, 1) := by decide +kernel
theorem dX3_faultOf_19 : decode cX3_faultOf 19 = .ok (.iload_n 2, 1) := by decide +kernel
theorem dX3_faultOf_20 : decode cX3_faultOf 20 = .ok (.ifCond .lt 11, 3) := by decide +kernel
theorem dX3_faultOf_23 : decode cX3_faultOf 23 = .ok (.iload_n 2, 1) := by decide +kernel
theorem dX3_faultOf_24 : decode cX3_faultOf 24 = .ok (.aload_n 0, 1) := by decide +kernel
theorem dX3_faultOf_25 : decode cX3_faultOf 25 = .ok (.getfield 19, 3) := by decide +kernel
theorem dX3_faultOf_28 : decode cX3_faultOf 28 = .ok (.if_icmp .lt 7, 3) := by decide +kernel
theorem dX3_faultOf_31 : decode cX3_faultOf 31 = .ok (.iconst 2, 1) := by decide +kernel
theorem dX3_faultOf_32 : decode cX3_faultOf 32 = .ok (.goto 4, 3) := by decide +kernel
theorem dX3_faultOf_35 : decode cX3_faultOf 35 = .ok (.iconst 0, 1) := by decide +kernel
theorem dX3_faultOf_36 : decode cX3_faultOf 36 = .ok (.ireturn, 1) := by decide +kernel
abbrev kX3_faultOf (g : rk_G) (R : rk_R) (pc : Nat) : rk_K := rk_cut g cX3_faultOf 3 (some .int) RX3 1 R pc
abbrev aX3_faultOf (g : rk_G) (R : rk_R) (pc : Nat) (K : rk_K) : Prop := rk_AK g cX3_faultOf 3 (some .int) RX3 1 R pc K
abbrev sX3_faultOf (g : rk_G) (vs : List Value) (σ : rk_M) (R : rk_R) : Prop := rk_does g yX3_faultOf cX3_faultOf 3 (some .int) 1 vs σ R
abbrev tX3_faultOf (g : rk_G) (R : rk_R) (pc : Nat) (ls st : List Value) (σ : rk_M) : Prop := rk_At g cX3_faultOf 3 (some .int) RX3 1 R pc ls st σ
def bX3_faultOf_36 (g : rk_G) (R : rk_R) : rk_K := (rk_iret R)
theorem eX3_faultOf_36 (g : rk_G) (R : rk_R) (ls st : List Value) (σ : rk_M) : bX3_faultOf_36 g R ls st σ = (rk_iret R) ls st σ := rfl
theorem oX3_faultOf_36 {g : rk_G} {R : rk_R} : aX3_faultOf g R 36 (bX3_faultOf_36 g R) := (rk_iret_ok rfl dX3_faultOf_36)
def bX3_faultOf_31 (g : rk_G) (R : rk_R) : rk_K := (rk_ci (2) (bX3_faultOf_36 g R))
theorem eX3_faultOf_31 (g : rk_G) (R : rk_R) (ls st : List Value) (σ : rk_M) : bX3_faultOf_31 g R ls st σ = (rk_ci (2) (bX3_faultOf_36 g R)) ls st σ := rfl
theorem oX3_faultOf_31 {g : rk_G} {R : rk_R} : aX3_faultOf g R 31 (bX3_faultOf_31 g R) := (rk_iconst_ok dX3_faultOf_31 (by decide) (rk_goto_ok (pc' := 36) dX3_faultOf_32 (by decide) oX3_faultOf_36))
def bX3_faultOf_0 (g : rk_G) (R : rk_R) : rk_K := (rk_aload 0 (rk_cV g 0 3 yX3_isLost cX3_isLost 1 (some .boolean) 0 (rk_if_eq (rk_iload 1 (rk_aload 0 (rk_gI 3 1 (rk_icmp_eq (rk_iload 2 (rk_if_lt (bX3_faultOf_31 g R) (rk_iload 2 (rk_aload 0 (rk_gI 3 2 (rk_icmp_lt (rk_ci (0) (bX3_faultOf_36 g R)) (bX3_faultOf_31 g R))))))) (rk_ci (3) (rk_iret R)))))) (rk_ci (1) (rk_iret R)))))
theorem eX3_faultOf_0 (g : rk_G) (R : rk_R) (ls st : List Value) (σ : rk_M) : bX3_faultOf_0 g R ls st σ = (rk_aload 0 (rk_cV g 0 3 yX3_isLost cX3_isLost 1 (some .boolean) 0 (rk_if_eq (rk_iload 1 (rk_aload 0 (rk_gI 3 1 (rk_icmp_eq (rk_iload 2 (rk_if_lt (bX3_faultOf_31 g R) (rk_iload 2 (rk_aload 0 (rk_gI 3 2 (rk_icmp_lt (rk_ci (0) (bX3_faultOf_36 g R)) (bX3_faultOf_31 g R))))))) (rk_ci (3) (rk_iret R)))))) (rk_ci (1) (rk_iret R))))) ls st σ := rfl
theorem oX3_faultOf_0 {g : rk_G} {R : rk_R} : aX3_faultOf g R 0 (bX3_faultOf_0 g R) := (rk_aload_n_ok dX3_faultOf_0 rfl (rk_cV_ok dX3_faultOf_1 rfl rfl npX3_isLost wmX3_22 wvX3_isLost weX3_isLost wiX3 wdX3_isLost (by decide) (by decide) (rk_if_eq_ok (pc' := 9) dX3_faultOf_4 (by decide) (rk_iload_n_ok dX3_faultOf_9 rfl (rk_aload_n_ok dX3_faultOf_10 rfl (rk_gI_ok dX3_faultOf_11 rfl iX3 (by decide) rfl wfX3_15 (rk_icmp_eq_ok (pc' := 19) dX3_faultOf_14 (by decide) (rk_iload_n_ok dX3_faultOf_19 rfl (rk_if_lt_ok (pc' := 31) dX3_faultOf_20 (by decide) oX3_faultOf_31 (rk_iload_n_ok dX3_faultOf_23 rfl (rk_aload_n_ok dX3_faultOf_24 rfl (rk_gI_ok dX3_faultOf_25 rfl iX3 (by decide) rfl wfX3_19 (rk_icmp_lt_ok (pc' := 35) dX3_faultOf_28 (by decide) (rk_iconst_ok dX3_faultOf_35 (by decide) oX3_faultOf_36) oX3_faultOf_31)))))) (rk_iconst_ok dX3_faultOf_17 (by decide) (rk_iret_ok rfl dX3_faultOf_18)))))) (rk_iconst_ok dX3_faultOf_7 (by decide) (rk_iret_ok rfl dX3_faultOf_8)))))
