theorem dX4_roadsOf_0 : decode cX4_roadsOf 0 = .ok (.iconst 0, 1) := by decide +kernel
theorem dX4_roadsOf_1 : decode cX4_roadsOf 1 = .ok (.istore_n 2, 1) := by decide +kernel
theorem dX4_roadsOf_2 : decode cX4_roadsOf 2 = .ok (.iconst 0, 1) := by decide +kernel
theorem dX4_roadsOf_3 : decode cX4_roadsOf 3 = .ok (.istore_n 3, 1) := by decide +kernel
theorem dX4_roadsOf_4 : decode cX4_roadsOf 4 = .ok (.iload_n 3, 1) := by decide +kernel
theorem dX4_roadsOf_5 : decode cX4_roadsOf 5 = .ok (.aload_n 0, 1) := by decide +kernel
theorem dX4_roadsOf_6 : decode cX4_roadsOf 6 = .ok (.getfield 45, 3) := by decide +kernel
theorem dX4_roadsOf_9 : decode cX4_roadsOf 9 = .ok (.if_icmp .ge 26, 3) := by decide +kernel
theorem dX4_roadsOf_12 : decode cX4_roadsOf 12 = .ok (.iload_n 1, 1) := by decide +kernel
theorem dX4_roadsOf_13 : decode cX4_roadsOf 13 = .ok (.iload_n 3, 1) := by decide +kernel
theorem dX4_roadsOf_14 : decode cX4_roadsOf 14 = .ok (.invokestatic 77, 3) := by decide +kernel
theorem dX4_roadsOf_17 : decode cX4_roadsOf 17 = .ok (.ifCond .eq 12, 3) := by decide +kernel
theorem dX4_roadsOf_20 : decode cX4_roadsOf 20 = .ok (.iload_n 2, 1) := by decide +kernel
theorem dX4_roadsOf_21 : decode cX4_roadsOf 21 = .ok (.aload_n 0, 1) := by decide +kernel
theorem dX4_roadsOf_22 : decode cX4_roadsOf 22 = .ok (.getfield 15, 3) := by decide +kernel
theorem dX4_roadsOf_25 : decode cX4_roadsOf 25 = .ok (.iload_n 3, 1) := by decide +kernel
theorem dX4_roadsOf_26 : decode cX4_roadsOf 26 = .ok (.iaload, 1) := by decide +kernel
theorem dX4_roadsOf_27 : decode cX4_roadsOf 27 = .ok (.ior, 1) := by decide +kernel
theorem dX4_roadsOf_28 : decode cX4_roadsOf 28 = .ok (.istore_n 2, 1) := by decide +kernel
theorem dX4_roadsOf_29 : decode cX4_roadsOf 29 = .ok (.iinc 3 1, 3) := by decide +kernel
theorem dX4_roadsOf_32 : decode cX4_roadsOf 32 = .ok (.goto (-28), 3) := by decide +kernel
theorem dX4_roadsOf_35 : decode cX4_roadsOf 35 = .ok (.iload_n 2, 1) := by decide +kernel
theorem dX4_roadsOf_36 : decode cX4_roadsOf 36 = .ok (.ireturn, 1) := by decide +kernel
abbrev kX4_roadsOf (g : rk_G) (R : rk_R) (pc : Nat) : rk_K := rk_cut g cX4_roadsOf 4 (some .int) RX4 1 R pc
abbrev aX4_roadsOf (g : rk_G) (R : rk_R) (pc : Nat) (K : rk_K) : Prop := rk_AK g cX4_roadsOf 4 (some .int) RX4 1 R pc K
abbrev sX4_roadsOf (g : rk_G) (vs : List Value) (σ : rk_M) (R : rk_R) : Prop := rk_does g yX4_roadsOf cX4_roadsOf 4 (some .int) 1 vs σ R
abbrev tX4_roadsOf (g : rk_G) (R : rk_R) (pc : Nat) (ls st : List Value) (σ : rk_M) : Prop := rk_At g cX4_roadsOf 4 (some .int) RX4 1 R pc ls st σ
def bX4_roadsOf_29 (g : rk_G) (R : rk_R) : rk_K := (rk_iinc 3 (1) (kX4_roadsOf g R 4))
theorem eX4_roadsOf_29 (g : rk_G) (R : rk_R) (ls st : List Value) (σ : rk_M) : bX4_roadsOf_29 g R ls st σ = (rk_iinc 3 (1) (kX4_roadsOf g R 4)) ls st σ := rfl
theorem oX4_roadsOf_29 {g : rk_G} {R : rk_R} : aX4_roadsOf g R 29 (bX4_roadsOf_29 g R) := (rk_iinc_ok dX4_roadsOf_29 (by decide) (by decide) (rk_goto_ok (pc' := 4) dX4_roadsOf_32 (by decide) rk_cut_ok))
def bX4_roadsOf_4 (g : rk_G) (R : rk_R) : rk_K := (rk_iload 3 (rk_aload 0 (rk_gI 4 11 (rk_icmp_ge (rk_iload 2 (rk_iret R)) (rk_iload 1 (rk_iload 3 (rk_cS g 2 yX6_hasBit cX6_hasBit 2 (some .boolean) 0 (rk_if_eq (bX4_roadsOf_29 g R) (rk_iload 2 (rk_aload 0 (rk_gR 4 1 (rk_iload 3 (rk_iald (rk_ior (rk_istore 2 (bX4_roadsOf_29 g R))))))))))))))))
theorem eX4_roadsOf_4 (g : rk_G) (R : rk_R) (ls st : List Value) (σ : rk_M) : bX4_roadsOf_4 g R ls st σ = (rk_iload 3 (rk_aload 0 (rk_gI 4 11 (rk_icmp_ge (rk_iload 2 (rk_iret R)) (rk_iload 1 (rk_iload 3 (rk_cS g 2 yX6_hasBit cX6_hasBit 2 (some .boolean) 0 (rk_if_eq (bX4_roadsOf_29 g R) (rk_iload 2 (rk_aload 0 (rk_gR 4 1 (rk_iload 3 (rk_iald (rk_ior (rk_istore 2 (bX4_roadsOf_29 g R)))))))))))))))) ls st σ := rfl
theorem oX4_roadsOf_4 {g : rk_G} {R : rk_R} : aX4_roadsOf g R 4 (bX4_roadsOf_4 g R) := (rk_iload_n_ok dX4_roadsOf_4 rfl (rk_aload_n_ok dX4_roadsOf_5 rfl (rk_gI_ok dX4_roadsOf_6 rfl iX4 (by decide) rfl wfX4_45 (rk_icmp_ge_ok (pc' := 35) dX4_roadsOf_9 (by decide) (rk_iload_n_ok dX4_roadsOf_35 rfl (rk_iret_ok rfl dX4_roadsOf_36)) (rk_iload_n_ok dX4_roadsOf_12 rfl (rk_iload_n_ok dX4_roadsOf_13 rfl (rk_cN_ok dX4_roadsOf_14 npX6_hasBit wnX4_77 wtX6_hasBit wiX6 wdX6_hasBit (by decide) (by decide) (rk_if_eq_ok (pc' := 29) dX4_roadsOf_17 (by decide) oX4_roadsOf_29 (rk_iload_n_ok dX4_roadsOf_20 rfl (rk_aload_n_ok dX4_roadsOf_21 rfl (rk_gR_ok dX4_roadsOf_22 rfl iX4 (by decide) rfl wfX4_15 (rk_iload_n_ok dX4_roadsOf_25 rfl (rk_iald_ok dX4_roadsOf_26 (rk_ior_ok dX4_roadsOf_27 (rk_istore_n_ok dX4_roadsOf_28 rfl (by decide) oX4_roadsOf_29)))))))))))))))
def bX4_roadsOf_0 (g : rk_G) (R : rk_R) : rk_K := (rk_ci (0) (rk_istore 2 (rk_ci (0) (rk_istore 3 (kX4_roadsOf g R 4)))))
theorem eX4_roadsOf_0 (g : rk_G) (R : rk_R) (ls st : List Value) (σ : rk_M) : bX4_roadsOf_0 g R ls st σ = (rk_ci (0) (rk_istore 2 (rk_ci (0) (rk_istore 3 (kX4_roadsOf g R 4))))) ls st σ := rfl
theorem oX4_roadsOf_0 {g : rk_G} {R : rk_R} : aX4_roadsOf g R 0 (bX4_roadsOf_0 g R) := (rk_iconst_ok dX4_roadsOf_0 (by decide) (rk_istore_n_ok dX4_roadsOf_1 rfl (by decide) (rk_iconst_ok dX4_roadsOf_2 (by decide) (rk_istore_n_ok dX4_roadsOf_3 rfl (by decide) rk_cut_ok))))
theorem dX4_meetingsOf_0 : decode cX4_meetingsOf 0 = .ok (.iconst 0, 1) := by decide +kernel
theorem dX4_meetingsOf_1 : decode cX4_meetingsOf 1 = .ok (.istore_n 2, 1) := by decide +kernel
theorem dX4_meetingsOf_2 : decode cX4_meetingsOf 2 = .ok (.iconst 0, 1) := by decide +kernel
theorem dX4_meetingsOf_3 : decode cX4_meetingsOf 3 = .ok (.istore_n 3, 1) := by decide +kernel
theorem dX4_meetingsOf_4 : decode cX4_meetingsOf 4 = .ok (.iload_n 3, 1) := by decide +kernel
theorem dX4_meetingsOf_5 : decode cX4_meetingsOf 5 = .ok (.aload_n 0, 1) := by decide +kernel
theorem dX4_meetingsOf_6 : decode cX4_meetingsOf 6 = .ok (.getfield 45, 3) := by decide +kernel
theorem dX4_meetingsOf_9 : decode cX4_meetingsOf 9 = .ok (.if_icmp .ge 26, 3) := by decide +kernel
theorem dX4_meetingsOf_12 : decode cX4_meetingsOf 12 = .ok (.iload_n 1, 1) := by decide +kernel
theorem dX4_meetingsOf_13 : decode cX4_meetingsOf 13 = .ok (.iload_n 3, 1) := by decide +kernel
theorem dX4_meetingsOf_14 : decode cX4_meetingsOf 14 = .ok (.invokestatic 77, 3) := by decide +kernel
theorem dX4_meetingsOf_17 : decode cX4_meetingsOf 17 = .ok (.ifCond .eq 12, 3) := by decide +kernel
theorem dX4_meetingsOf_20 : decode cX4_meetingsOf 20 = .ok (.iload_n 2, 1) := by decide +kernel
theorem dX4_meetingsOf_21 : decode cX4_meetingsOf 21 = .ok (.aload_n 0, 1) := by decide +kernel
theorem dX4_meetingsOf_22 : decode cX4_meetingsOf 22 = .ok (.getfield 24, 3) := by decide +kernel
theorem dX4_meetingsOf_25 : decode cX4_meetingsOf 25 = .ok (.iload_n 3, 1) := by decide +kernel
theorem dX4_meetingsOf_26 : decode cX4_meetingsOf 26 = .ok (.iaload, 1) := by decide +kernel
theorem dX4_meetingsOf_27 : decode cX4_meetingsOf 27 = .ok (.ior, 1) := by decide +kernel
theorem dX4_meetingsOf_28 : decode cX4_meetingsOf 28 = .ok (.istore_n 2, 1) := by decide +kernel
theorem dX4_meetingsOf_29 : decode cX4_meetingsOf 29 = .ok (.iinc 3 1, 3) := by decide +kernel
theorem dX4_meetingsOf_32 : decode cX4_meetingsOf 32 = .ok (.goto (-28), 3) := by decide +kernel
theorem dX4_meetingsOf_35 : decode cX4_meetingsOf 35 = .ok (.iload_n 2, 1) := by decide +kernel
theorem dX4_meetingsOf_36 : decode cX4_meetingsOf 36 = .ok (.ireturn, 1) := by decide +kernel
abbrev kX4_meetingsOf (g : rk_G) (R : rk_R) (pc : Nat) : rk_K := rk_cut g cX4_meetingsOf 4 (some .int) RX4 1 R pc
abbrev aX4_meetingsOf (g : rk_G) (R : rk_R) (pc : Nat) (K : rk_K) : Prop := rk_AK g cX4_meetingsOf 4 (some .int) RX4 1 R pc K
abbrev sX4_meetingsOf (g : rk_G) (vs : List Value) (σ : rk_M) (R : rk_R) : Prop := rk_does g yX4_meetingsOf cX4_meetingsOf 4 (some .int) 1 vs σ R
abbrev tX4_meetingsOf (g : rk_G) (R : rk_R) (pc : Nat) (ls st : List Value) (σ : rk_M) : Prop := rk_At g cX4_meetingsOf 4 (some .int) RX4 1 R pc ls st σ
def bX4_meetingsOf_29 (g : rk_G) (R : rk_R) : rk_K := (rk_iinc 3 (1) (kX4_meetingsOf g R 4))
theorem eX4_meetingsOf_29 (g : rk_G) (R : rk_R) (ls st : List Value) (σ : rk_M) : bX4_meetingsOf_29 g R ls st σ = (rk_iinc 3 (1) (kX4_meetingsOf g R 4)) ls st σ := rfl
theorem oX4_meetingsOf_29 {g : rk_G} {R : rk_R} : aX4_meetingsOf g R 29 (bX4_meetingsOf_29 g R) := (rk_iinc_ok dX4_meetingsOf_29 (by decide) (by decide) (rk_goto_ok (pc' := 4) dX4_meetingsOf_32 (by decide) rk_cut_ok))
def bX4_meetingsOf_4 (g : rk_G) (R : rk_R) : rk_K := (rk_iload 3 (rk_aload 0 (rk_gI 4 11 (rk_icmp_ge (rk_iload 2 (rk_iret R)) (rk_iload 1 (rk_iload 3 (rk_cS g 2 yX6_hasBit cX6_hasBit 2 (some .boolean) 0 (rk_if_eq (bX4_meetingsOf_29 g R) (rk_iload 2 (rk_aload 0 (rk_gR 4 4 (rk_iload 3 (rk_iald (rk_ior (rk_istore 2 (bX4_meetingsOf_29 g R))))))))))))))))
theorem eX4_meetingsOf_4 (g : rk_G) (R : rk_R) (ls st : List Value) (σ : rk_M) : bX4_meetingsOf_4 g R ls st σ = (rk_iload 3 (rk_aload 0 (rk_gI 4 11 (rk_icmp_ge (rk_iload 2 (rk_iret R)) (rk_iload 1 (rk_iload 3 (rk_cS g 2 yX6_hasBit cX6_hasBit 2 (some .boolean) 0 (rk_if_eq (bX4_meetingsOf_29 g R) (rk_iload 2 (rk_aload 0 (rk_gR 4 4 (rk_iload 3 (rk_iald (rk_ior (rk_istore 2 (bX4_meetingsOf_29 g R)))))))))))))))) ls st σ := rfl
theorem oX4_meetingsOf_4 {g : rk_G} {R : rk_R} : aX4_meetingsOf g R 4 (bX4_meetingsOf_4 g R) := (rk_iload_n_ok dX4_meetingsOf_4 rfl (rk_aload_n_ok dX4_meetingsOf_5 rfl (rk_gI_ok dX4_meetingsOf_6 rfl iX4 (by decide) rfl wfX4_45 (rk_icmp_ge_ok (pc' := 35) dX4_meetingsOf_9 (by decide) (rk_iload_n_ok dX4_meetingsOf_35 rfl (rk_iret_ok rfl dX4_meetingsOf_36)) (rk_iload_n_ok dX4_meetingsOf_12 rfl (rk_iload_n_ok dX4_meetingsOf_13 rfl (rk_cN_ok dX4_meetingsOf_14 npX6_hasBit wnX4_77 wtX6_hasBit wiX6 wdX6_hasBit (by decide) (by decide) (rk_if_eq_ok (pc' := 29) dX4_meetingsOf_17 (by decide) oX4_meetingsOf_29 (rk_iload_n_ok dX4_meetingsOf_20 rfl (rk_aload_n_ok dX4_meetingsOf_21 rfl (rk_gR_ok dX4_meetingsOf_22 rfl iX4 (by decide) rfl wfX4_24 (rk_iload_n_ok dX4_meetingsOf_25 rfl (rk_iald_ok dX4_meetingsOf_26 (rk_ior_ok dX4_meetingsOf_27 (rk_istore_n_ok dX4_meetingsOf_28 rfl (by decide) oX4_meetingsOf_29)))))))))))))))
def bX4_meetingsOf_0 (g : rk_G) (R : rk_R) : rk_K := (rk_ci (0) (rk_istore 2 (rk_ci (0) (rk_istore 3 (kX4_meetingsOf g R 4)))))
theorem eX4_meetingsOf_0 (g : rk_G) (R : rk_R) (ls st : List Value) (σ : rk_M) : bX4_meetingsOf_0 g R ls st σ = (rk_ci (0) (rk_istore 2 (rk_ci (0) (rk_istore 3 (kX4_meetingsOf g R 4))))) ls st σ := rfl
theorem oX4_meetingsOf_0 {g : rk_G} {R : rk_R} : aX4_meetingsOf g R 0 (bX4_meetingsOf_0 g R) := (rk_iconst_ok dX4_meetingsOf_0 (by decide) (rk_istore_n_ok dX4_meetingsOf_1 rfl (by decide) (rk_iconst_ok dX4_meetingsOf_2 (by decide) (rk_istore_n_ok dX4_meetingsOf_3 rfl (by decide) rk_cut_ok))))
theorem dX4_lengthOf_0 : decode cX4_lengthOf 0 = .ok (.iconst 0, 1) := by decide +kernel
theorem dX4_lengthOf_1 : decode cX4_lengthOf 1 = .ok (.istore_n 2, 1) := by decide +kernel
theorem dX4_lengthOf_2 : decode cX4_lengthOf 2 = .ok (.iconst 0, 1) := by decide +kernel
theorem dX4_lengthOf_3 : decode cX4_lengthOf 3 = .ok (.istore_n 3, 1) := by decide +kernel
theorem dX4_lengthOf_4 : decode cX4_lengthOf 4 = .ok (.iload_n 3, 1) := by decide +kernel
theorem dX4_lengthOf_5 : decode cX4_lengthOf 5 = .ok (.aload_n 0, 1) := by decide +kernel
theorem dX4_lengthOf_6 : decode cX4_lengthOf 6 = .ok (.getfield 45, 3) := by decide +kernel
theorem dX4_lengthOf_9 : decode cX4_lengthOf 9 = .ok (.if_icmp .ge 26, 3) := by decide +kernel
theorem dX4_lengthOf_12 : decode cX4_lengthOf 12 = .ok (.iload_n 1, 1) := by decide +kernel
theorem dX4_lengthOf_13 : decode cX4_lengthOf 13 = .ok (.iload_n 3, 1) := by decide +kernel
theorem dX4_lengthOf_14 : decode cX4_lengthOf 14 = .ok (.invokestatic 77, 3) := by decide +kernel
theorem dX4_lengthOf_17 : decode cX4_lengthOf 17 = .ok (.ifCond .eq 12, 3) := by decide +kernel
theorem dX4_lengthOf_20 : decode cX4_lengthOf 20 = .ok (.iload_n 2, 1) := by decide +kernel
theorem dX4_lengthOf_21 : decode cX4_lengthOf 21 = .ok (.aload_n 0, 1) := by decide +kernel
theorem dX4_lengthOf_22 : decode cX4_lengthOf 22 = .ok (.getfield 18, 3) := by decide +kernel
theorem dX4_lengthOf_25 : decode cX4_lengthOf 25 = .ok (.iload_n 3, 1) := by decide +kernel
theorem dX4_lengthOf_26 : decode cX4_lengthOf 26 = .ok (.iaload, 1) := by decide +kernel
theorem dX4_lengthOf_27 : decode cX4_lengthOf 27 = .ok (.iadd, 1) := by decide +kernel
theorem dX4_lengthOf_28 : decode cX4_lengthOf 28 = .ok (.istore_n 2, 1) := by decide +kernel
theorem dX4_lengthOf_29 : decode cX4_lengthOf 29 = .ok (.iinc 3 1, 3) := by decide +kernel
theorem dX4_lengthOf_32 : decode cX4_lengthOf 32 = .ok (.goto (-28), 3) := by decide +kernel
theorem dX4_lengthOf_35 : decode cX4_lengthOf 35 = .ok (.iload_n 2, 1) := by decide +kernel
theorem dX4_lengthOf_36 : decode cX4_lengthOf 36 = .ok (.ireturn, 1) := by decide +kernel
abbrev kX4_lengthOf (g : rk_G) (R : rk_R) (pc : Nat) : rk_K := rk_cut g cX4_lengthOf 4 (some .int) RX4 1 R pc
abbrev aX4_lengthOf (g : rk_G) (R : rk_R) (pc : Nat) (K : rk_K) : Prop := rk_AK g cX4_lengthOf 4 (some .int) RX4 1 R pc K
abbrev sX4_lengthOf (g : rk_G) (vs : List Value) (σ : rk_M) (R : rk_R) : Prop := rk_does g yX4_lengthOf cX4_lengthOf 4 (some .int) 1 vs σ R
abbrev tX4_lengthOf (g : rk_G) (R : rk_R) (pc : Nat) (ls st : List Value) (σ : rk_M) : Prop := rk_At g cX4_lengthOf 4 (some .int) RX4 1 R pc ls st σ
def bX4_lengthOf_29 (g : rk_G) (R : rk_R) : rk_K := (rk_iinc 3 (1) (kX4_lengthOf g R 4))
theorem eX4_lengthOf_29 (g : rk_G) (R : rk_R) (ls st : List Value) (σ : rk_M) : bX4_lengthOf_29 g R ls st σ = (rk_iinc 3 (1) (kX4_lengthOf g R 4)) ls st σ := rfl
theorem oX4_lengthOf_29 {g : rk_G} {R : rk_R} : aX4_lengthOf g R 29 (bX4_lengthOf_29 g R) := (rk_iinc_ok dX4_lengthOf_29 (by decide) (by decide) (rk_goto_ok (pc' := 4) dX4_lengthOf_32 (by decide) rk_cut_ok))
def bX4_lengthOf_4 (g : rk_G) (R : rk_R) : rk_K := (rk_iload 3 (rk_aload 0 (rk_gI 4 11 (rk_icmp_ge (rk_iload 2 (rk_iret R)) (rk_iload 1 (rk_iload 3 (rk_cS g 2 yX6_hasBit cX6_hasBit 2 (some .boolean) 0 (rk_if_eq (bX4_lengthOf_29 g R) (rk_iload 2 (rk_aload 0 (rk_gR 4 2 (rk_iload 3 (rk_iald (rk_iadd (rk_istore 2 (bX4_lengthOf_29 g R))))))))))))))))
theorem eX4_lengthOf_4 (g : rk_G) (R : rk_R) (ls st : List Value) (σ : rk_M) : bX4_lengthOf_4 g R ls st σ = (rk_iload 3 (rk_aload 0 (rk_gI 4 11 (rk_icmp_ge (rk_iload 2 (rk_iret R)) (rk_iload 1 (rk_iload 3 (rk_cS g 2 yX6_hasBit cX6_hasBit 2 (some .boolean) 0 (rk_if_eq (bX4_lengthOf_29 g R) (rk_iload 2 (rk_aload 0 (rk_gR 4 2 (rk_iload 3 (rk_iald (rk_iadd (rk_istore 2 (bX4_lengthOf_29 g R)))))))))))))))) ls st σ := rfl
theorem oX4_lengthOf_4 {g : rk_G} {R : rk_R} : aX4_lengthOf g R 4 (bX4_lengthOf_4 g R) := (rk_iload_n_ok dX4_lengthOf_4 rfl (rk_aload_n_ok dX4_lengthOf_5 rfl (rk_gI_ok dX4_lengthOf_6 rfl iX4 (by decide) rfl wfX4_45 (rk_icmp_ge_ok (pc' := 35) dX4_lengthOf_9 (by decide) (rk_iload_n_ok dX4_lengthOf_35 rfl (rk_iret_ok rfl dX4_lengthOf_36)) (rk_iload_n_ok dX4_lengthOf_12 rfl (rk_iload_n_ok dX4_lengthOf_13 rfl (rk_cN_ok dX4_lengthOf_14 npX6_hasBit wnX4_77 wtX6_hasBit wiX6 wdX6_hasBit (by decide) (by decide) (rk_if_eq_ok (pc' := 29) dX4_lengthOf_17 (by decide) oX4_lengthOf_29 (rk_iload_n_ok dX4_lengthOf_20 rfl (rk_aload_n_ok dX4_lengthOf_21 rfl (rk_gR_ok dX4_lengthOf_22 rfl iX4 (by decide) rfl wfX4_18 (rk_iload_n_ok dX4_lengthOf_25 rfl (rk_iald_ok dX4_lengthOf_26 (rk_iadd_ok dX4_lengthOf_27 (rk_istore_n_ok dX4_lengthOf_28 rfl (by decide) oX4_lengthOf_29)))))))))))))))
def bX4_lengthOf_0 (g : rk_G) (R : rk_R) : rk_K := (rk_ci (0) (rk_istore 2 (rk_ci (0) (rk_istore 3 (kX4_lengthOf g R 4)))))
theorem eX4_lengthOf_0 (g : rk_G) (R : rk_R) (ls st : List Value) (σ : rk_M) : bX4_lengthOf_0 g R ls st σ = (rk_ci (0) (rk_istore 2 (rk_ci (0) (rk_istore 3 (kX4_lengthOf g R 4))))) ls st σ := rfl
theorem oX4_lengthOf_0 {g : rk_G} {R : rk_R} : aX4_lengthOf g R 0 (bX4_lengthOf_0 g R) := (rk_iconst_ok dX4_lengthOf_0 (by decide) (rk_istore_n_ok dX4_lengthOf_1 rfl (by decide) (rk_iconst_ok dX4_lengthOf_2 (by decide) (rk_istore_n_ok dX4_lengthOf_3 rfl (by decide) rk_cut_ok))))
theorem dX4_howManyClosed_0 : decode cX4_howManyClosed 0 = .ok (.iconst 0, 1) := by decide +kernel
theorem dX4_howManyClosed_1 : decode cX4_howManyClosed 1 = .ok (.istore_n 1, 1) := by decide +kernel
theorem dX4_howManyClosed_2 : decode cX4_howManyClosed 2 = .ok (.iconst 0, 1) := by decide +kernel
theorem dX4_howManyClosed_3 : decode cX4_howManyClosed 3 = .ok (.istore_n 2, 1) := by decide +kernel
theorem dX4_howManyClosed_4 : decode cX4_howManyClosed 4 = .ok (.iload_n 2, 1) := by decide +kernel
theorem dX4_howManyClosed_5 : decode cX4_howManyClosed 5 = .ok (.aload_n 0, 1) := by decide +kernel
theorem dX4_howManyClosed_6 : decode cX4_howManyClosed 6 = .ok (.getfield 45, 3) := by decide +kernel
theorem dX4_howManyClosed_9 : decode cX4_howManyClosed 9 = .ok (.if_icmp .ge 20, 3) := by decide +kernel
theorem dX4_howManyClosed_12 : decode cX4_howManyClosed 12 = .ok (.aload_n 0, 1) := by decide +kernel
theorem dX4_howManyClosed_13 : decode cX4_howManyClosed 13 = .ok (.iload_n 2, 1) := by decide +kernel
theorem dX4_howManyClosed_14 : decode cX4_howManyClosed 14 = .ok (.invokevirtual 81, 3) := by decide +kernel
theorem dX4_howManyClosed_17 : decode cX4_howManyClosed 17 = .ok (.ifCond .eq 6, 3) := by decide +kernel
theorem dX4_howManyClosed_20 : decode cX4_howManyClosed 20 = .ok (.iinc 1 1, 3) := by decide +kernel
theorem dX4_howManyClosed_23 : decode cX4_howManyClosed 23 = .ok (.iinc 2 1, 3) := by decide +kernel
theorem dX4_howManyClosed_26 : decode cX4_howManyClosed 26 = .ok (.goto (-22), 3) := by decide +kernel
theorem dX4_howManyClosed_29 : decode cX4_howManyClosed 29 = .ok (.iload_n 1, 1) := by decide +kernel
theorem dX4_howManyClosed_30 : decode cX4_howManyClosed 30 = .ok (.ireturn, 1) := by decide +kernel
abbrev kX4_howManyClosed (g : rk_G) (R : rk_R) (pc : Nat) : rk_K := rk_cut g cX4_howManyClosed 3 (some .int) RX4 1 R pc
abbrev aX4_howManyClosed (g : rk_G) (R : rk_R) (pc : Nat) (K : rk_K) : Prop := rk_AK g cX4_howManyClosed 3 (some .int) RX4 1 R pc K
abbrev sX4_howManyClosed (g : rk_G) (vs : List Value) (σ : rk_M) (R : rk_R) : Prop := rk_does g yX4_howManyClosed cX4_howManyClosed 3 (some .int) 1 vs σ R
abbrev tX4_howManyClosed (g : rk_G) (R : rk_R) (pc : Nat) (ls st : List Value) (σ : rk_M) : Prop := rk_At g cX4_howManyClosed 3 (some .int) RX4 1 R pc ls st σ
def bX4_howManyClosed_23 (g : rk_G) (R : rk_R) : rk_K := (rk_iinc 2 (1) (kX4_howManyClosed g R 4))
theorem eX4_howManyClosed_23 (g : rk_G) (R : rk_R) (ls st : List Value) (σ : rk_M) : bX4_howManyClosed_23 g R ls st σ = (rk_iinc 2 (1) (kX4_howManyClosed g R 4)) ls st σ := rfl
theorem oX4_howManyClosed_23 {g : rk_G} {R : rk_R} : aX4_howManyClosed g R 23 (bX4_howManyClosed_23 g R) := (rk_iinc_ok dX4_howManyClosed_23 (by decide) (by decide) (rk_goto_ok (pc' := 4) dX4_howManyClosed_26 (by decide) rk_cut_ok))
def bX4_howManyClosed_4 (g : rk_G) (R : rk_R) : rk_K := (rk_iload 2 (rk_aload 0 (rk_gI 4 11 (rk_icmp_ge (rk_iload 1 (rk_iret R)) (rk_aload 0 (rk_iload 2 (rk_cV g 1 4 yX4_isClosed cX4_isClosed 2 (some .boolean) 0 (rk_if_eq (bX4_howManyClosed_23 g R) (rk_iinc 1 (1) (bX4_howManyClosed_23 g R))))))))))
theorem eX4_howManyClosed_4 (g : rk_G) (R : rk_R) (ls st : List Value) (σ : rk_M) : bX4_howManyClosed_4 g R ls st σ = (rk_iload 2 (rk_aload 0 (rk_gI 4 11 (rk_icmp_ge (rk_iload 1 (rk_iret R)) (rk_aload 0 (rk_iload 2 (rk_cV g 1 4 yX4_isClosed cX4_isClosed 2 (some .boolean) 0 (rk_if_eq (bX4_howManyClosed_23 g R) (rk_iinc 1 (1) (bX4_howManyClosed_23 g R)))))))))) ls st σ := rfl
theorem oX4_howManyClosed_4 {g : rk_G} {R : rk_R} : aX4_howManyClosed g R 4 (bX4_howManyClosed_4 g R) := (rk_iload_n_ok dX4_howManyClosed_4 rfl (rk_aload_n_ok dX4_howManyClosed_5 rfl (rk_gI_ok dX4_howManyClosed_6 rfl iX4 (by decide) rfl wfX4_45 (rk_icmp_ge_ok (pc' := 29) dX4_howManyClosed_9 (by decide) (rk_iload_n_ok dX4_howManyClosed_29 rfl (rk_iret_ok rfl dX4_howManyClosed_30)) (rk_aload_n_ok dX4_howManyClosed_12 rfl (rk_iload_n_ok dX4_howManyClosed_13 rfl (rk_cV_ok dX4_howManyClosed_14 rfl rfl npX4_isClosed wmX4_81 wvX4_isClosed weX4_isClosed wiX4 wdX4_isClosed (by decide) (by decide) (rk_if_eq_ok (pc' := 23) dX4_howManyClosed_17 (by decide) oX4_howManyClosed_23 (rk_iinc_ok dX4_howManyClosed_20 (by decide) (by decide) oX4_howManyClosed_23)))))))))
def bX4_howManyClosed_0 (g : rk_G) (R : rk_R) : rk_K := (rk_ci (0) (rk_istore 1 (rk_ci (0) (rk_istore 2 (kX4_howManyClosed g R 4)))))
theorem eX4_howManyClosed_0 (g : rk_G) (R : rk_R) (ls st : List Value) (σ : rk_M) : bX4_howManyClosed_0 g R ls st σ = (rk_ci (0) (rk_istore 1 (rk_ci (0) (rk_istore 2 (kX4_howManyClosed g R 4))))) ls st σ := rfl
theorem oX4_howManyClosed_0 {g : rk_G} {R : rk_R} : aX4_howManyClosed g R 0 (bX4_howManyClosed_0 g R) := (rk_iconst_ok dX4_howManyClosed_0 (by decide) (rk_istore_n_ok dX4_howManyClosed_1 rfl (by decide) (rk_iconst_ok dX4_howManyClosed_2 (by decide) (rk_istore_n_ok dX4_howManyClosed_3 rfl (by decide) rk_cut_ok))))
theorem dX4_measureRoad_0 : decode cX4_measureRoad 0 = .ok (.iconst 1, 1) := by decide +kernel
theorem dX4_measureRoad_1 : decode cX4_measureRoad 1 = .ok (.aload_n 0, 1) := by decide +kernel
theorem dX4_measureRoad_2 : decode cX4_measureRoad 2 = .ok (.getfield 55, 3) := by decide +kernel
theorem dX4_measureRoad_5 : decode cX4_measureRoad 5 = .ok (.getfield 106, 3) := by decide +kernel
theorem dX4_measureRoad_8 : decode cX4_measureRoad 8 = .ok (.iload_n 2, 1) := by decide +kernel
theorem dX4_measureRoad_9 : decode cX4_measureRoad 9 = .ok (.iaload, 1) := by decide +kernel
theorem dX4_measureRoad_10 : decode cX4_measureRoad 10 = .ok (.ishl, 1) := by decide +kernel
theorem dX4_measureRoad_11 : decode cX4_measureRoad 11 = .ok (.istore_n 3, 1) := by decide +kernel
theorem dX4_measureRoad_12 : decode cX4_measureRoad 12 = .ok (.iconst 1, 1) := by decide +kernel
theorem dX4_measureRoad_13 : decode cX4_measureRoad 13 = .ok (.aload_n 0, 1) := by decide +kernel
theorem dX4_measureRoad_14 : decode cX4_measureRoad 14 = .ok (.getfield 55, 3) := by decide +kernel
theorem dX4_measureRoad_17 : decode cX4_measureRoad 17 = .ok (.getfield 109, 3) := by decide +kernel
theorem dX4_measureRoad_20 : decode cX4_measureRoad 20 = .ok (.iload_n 2, 1) := by decide +kernel
theorem dX4_measureRoad_21 : decode cX4_measureRoad 21 = .ok (.iaload, 1) := by decide +kernel
theorem dX4_measureRoad_22 : decode cX4_measureRoad 22 = .ok (.ishl, 1) := by decide +kernel
theorem dX4_measureRoad_23 : decode cX4_measureRoad 23 = .ok (.istore 4, 2) := by decide +kernel
theorem dX4_measureRoad_25 : decode cX4_measureRoad 25 = .ok (.aload_n 0, 1) := by decide +kernel
theorem dX4_measureRoad_26 : decode cX4_measureRoad 26 = .ok (.getfield 18, 3) := by decide +kernel
theorem dX4_measureRoad_29 : decode cX4_measureRoad 29 = .ok (.iload_n 1, 1) := by decide +kernel
theorem dX4_measureRoad_30 : decode cX4_measureRoad 30 = .ok (.dup2, 1) := by decide +kernel
theorem dX4_measureRoad_31 : decode cX4_measureRoad 31 = .ok (.iaload, 1) := by decide +kernel
theorem dX4_measureRoad_32 : decode cX4_measureRoad 32 = .ok (.aload_n 0, 1) := by decide +kernel
theorem dX4_measureRoad_33 : decode cX4_measureRoad 33 = .ok (.getfield 55, 3) := by decide +kernel
theorem dX4_measureRoad_36 : decode cX4_measureRoad 36 = .ok (.getfield 112, 3) := by decide +kernel
theorem dX4_measureRoad_39 : decode cX4_measureRoad 39 = .ok (.iload_n 2, 1) := by decide +kernel
theorem dX4_measureRoad_40 : decode cX4_measureRoad 40 = .ok (.iaload, 1) := by decide +kernel
theorem dX4_measureRoad_41 : decode cX4_measureRoad 41 = .ok (.iadd, 1) := by decide +kernel
theorem dX4_measureRoad_42 : decode cX4_measureRoad 42 = .ok (.iastore, 1) := by decide +kernel
theorem dX4_measureRoad_43 : decode cX4_measureRoad 43 = .ok (.aload_n 0, 1) := by decide +kernel
theorem dX4_measureRoad_44 : decode cX4_measureRoad 44 = .ok (.getfield 21, 3) := by decide +kernel
theorem dX4_measureRoad_47 : decode cX4_measureRoad 47 = .ok (.iload_n 1, 1) := by decide +kernel
theorem dX4_measureRoad_48 : decode cX4_measureRoad 48 = .ok (.dup2, 1) := by decide +kernel
theorem dX4_measureRoad_49 : decode cX4_measureRoad 49 = .ok (.iaload, 1) := by decide +kernel
theorem dX4_measureRoad_50 : decode cX4_measureRoad 50 = .ok (.aload_n 0, 1) := by decide +kernel
theorem dX4_measureRoad_51 : decode cX4_measureRoad 51 = .ok (.getfield 55, 3) := by decide +kernel
theorem dX4_measureRoad_54 : decode cX4_measureRoad 54 = .ok (.iload_n 2, 1) := by decide +kernel
theorem dX4_measureRoad_55 : decode cX4_measureRoad 55 = .ok (.aload_n 0, 1) := by decide +kernel
theorem dX4_measureRoad_56 : decode cX4_measureRoad 56 = .ok (.getfield 55, 3) := by decide +kernel
theorem dX4_measureRoad_59 : decode cX4_measureRoad 59 = .ok (.getfield 113, 3) := by decide +kernel
theorem dX4_measureRoad_62 : decode cX4_measureRoad 62 = .ok (.iload_n 2, 1) := by decide +kernel
theorem dX4_measureRoad_63 : decode cX4_measureRoad 63 = .ok (.iaload, 1) := by decide +kernel
theorem dX4_measureRoad_64 : decode cX4_measureRoad 64 = .ok (.invokevirtual 116, 3) := by decide +kernel
theorem dX4_measureRoad_67 : decode cX4_measureRoad 67 = .ok (.iadd, 1) := by decide +kernel
theorem dX4_measureRoad_68 : decode cX4_measureRoad 68 = .ok (.iastore, 1) := by decide +kernel
theorem dX4_measureRoad_69 : decode cX4_measureRoad 69 = .ok (.aload_n 0, 1) := by decide +kernel
theorem dX4_measureRoad_70 : decode cX4_measureRoad 70 = .ok (.getfield 24, 3) := by decide +kernel
theorem dX4_measureRoad_73 : decode cX4_measureRoad 73 = .ok (.iload_n 1, 1) := by decide +kernel
theorem dX4_measureRoad_74 : decode cX4_measureRoad 74 = .ok (.dup2, 1) := by decide +kernel
theorem dX4_measureRoad_75 : decode cX4_measureRoad 75 = .ok (.iaload, 1) := by decide +kernel
theorem dX4_measureRoad_76 : decode cX4_measureRoad 76 = .ok (.iload_n 3, 1) := by decide +kernel
theorem dX4_measureRoad_77 : decode cX4_measureRoad 77 = .ok (.iload 4, 2) := by decide +kernel
theorem dX4_measureRoad_79 : decode cX4_measureRoad 79 = .ok (.ior, 1) := by decide +kernel
theorem dX4_measureRoad_80 : decode cX4_measureRoad 80 = .ok (.ior, 1) := by decide +kernel
theorem dX4_measureRoad_81 : decode cX4_measureRoad 81 = .ok (.iastore, 1) := by decide +kernel
theorem dX4_measureRoad_82 : decode cX4_measureRoad 82 = .ok (.aload_n 0, 1) := by decide +kernel
theorem dX4_measureRoad_83 : decode cX4_measureRoad 83 = .ok (.getfield 59, 3) := by decide +kernel
theorem dX4_measureRoad_86 : decode cX4_measureRoad 86 = .ok (.iload_n 2, 1) := by decide +kernel
theorem dX4_measureRoad_87 : decode cX4_measureRoad 87 = .ok (.invokevirtual 120, 3) := by decide +kernel
theorem dX4_measureRoad_90 : decode cX4_measureRoad 90 = .ok (.ifCond .eq 13, 3) := by decide +kernel
theorem dX4_measureRoad_93 : decode cX4_measureRoad 93 = .ok (.aload_n 0, 1) := by decide +kernel
theorem dX4_measureRoad_94 : decode cX4_measureRoad 94 = .ok (.getfield 27, 3) := by decide +kernel
theorem dX4_measureRoad_97 : decode cX4_measureRoad 97 = .ok (.iload_n 1, 1) := by decide +kernel
theorem dX4_measureRoad_98 : decode cX4_measureRoad 98 = .ok (.dup2, 1) := by decide +kernel
theorem dX4_measureRoad_99 : decode cX4_measureRoad 99 = .ok (.iaload, 1) := by decide +kernel
theorem dX4_measureRoad_100 : decode cX4_measureRoad 100 = .ok (.iload_n 3, 1) := by decide +kernel
theorem dX4_measureRoad_101 : decode cX4_measureRoad 101 = .ok (.ior, 1) := by decide +kernel
theorem dX4_measureRoad_102 : decode cX4_measureRoad 102 = .ok (.iastore, 1) := by decide +kernel
theorem dX4_measureRoad_103 : decode cX4_measureRoad 103 = .ok (.aload_n 0, 1) := by decide +kernel
theorem dX4_measureRoad_104 : decode cX4_measureRoad 104 = .ok (.getfield 59, 3) := by decide +kernel
theorem dX4_measureRoad_107 : decode cX4_measureRoad 107 = .ok (.iload_n 2, 1) := by decide +kernel
theorem dX4_measureRoad_108 : decode cX4_measureRoad 108 = .ok (.invokevirtual 123, 3) := by decide +kernel
theorem dX4_measureRoad_111 : decode cX4_measureRoad 111 = .ok (.ifCond .eq 14, 3) := by decide +kernel
theorem dX4_measureRoad_114 : decode cX4_measureRoad 114 = .ok (.aload_n 0, 1) := by decide +kernel
theorem dX4_measureRoad_115 : decode cX4_measureRoad 115 = .ok (.getfield 27, 3) := by decide +kernel
theorem dX4_measureRoad_118 : decode cX4_measureRoad 118 = .ok (.iload_n 1, 1) := by decide +kernel
theorem dX4_measureRoad_119 : decode cX4_measureRoad 119 = .ok (.dup2, 1) := by decide +kernel
theorem dX4_measureRoad_120 : decode cX4_measureRoad 120 = .ok (.iaload, 1) := by decide +kernel
theorem dX4_measureRoad_121 : decode cX4_measureRoad 121 = .ok (.iload 4, 2) := by decide +kernel
theorem dX4_measureRoad_123 : decode cX4_measureRoad 123 = .ok (.ior, 1) := by decide +kernel
theorem dX4_measureRoad_124 : decode cX4_measureRoad 124 = .ok (.iastore, 1) := by decide +kernel
theorem dX4_measureRoad_125 : decode cX4_measureRoad 125 = .ok (.return_, 1) := by decide +kernel
abbrev kX4_measureRoad (g : rk_G) (R : rk_R) (pc : Nat) : rk_K := rk_cut g cX4_measureRoad 5 none RX4 1 R pc
abbrev aX4_measureRoad (g : rk_G) (R : rk_R) (pc : Nat) (K : rk_K) : Prop := rk_AK g cX4_measureRoad 5 none RX4 1 R pc K
abbrev sX4_measureRoad (g : rk_G) (vs : List Value) (σ : rk_M) (R : rk_R) : Prop := rk_does g yX4_measureRoad cX4_measureRoad 5 none 1 vs σ R
abbrev tX4_measureRoad (g : rk_G) (R : rk_R) (pc : Nat) (ls st : List Value) (σ : rk_M) : Prop := rk_At g cX4_measureRoad 5 none RX4 1 R pc ls st σ
def bX4_measureRoad_125 (g : rk_G) (R : rk_R) : rk_K := (rk_vret R)
theorem eX4_measureRoad_125 (g : rk_G) (R : rk_R) (ls st : List Value) (σ : rk_M) : bX4_measureRoad_125 g R ls st σ = (rk_vret R) ls st σ := rfl
theorem oX4_measureRoad_125 {g : rk_G} {R : rk_R} : aX4_measureRoad g R 125 (bX4_measureRoad_125 g R) := (rk_vret_ok rfl dX4_measureRoad_125)
def bX4_measureRoad_103 (g : rk_G) (R : rk_R) : rk_K := (rk_aload 0 (rk_gR 4 14 (rk_iload 2 (rk_cV g 1 1 yX1_isOpenAtSecond cX1_isOpenAtSecond 2 (some .boolean) 0 (rk_if_eq (bX4_measureRoad_125 g R) (rk_aload 0 (rk_gR 4 5 (rk_iload 1 (rk_dup2 (rk_iald (rk_iload 4 (rk_ior (rk_iast (bX4_measureRoad_125 g R))))))))))))))
theorem eX4_measureRoad_103 (g : rk_G) (R : rk_R) (ls st : List Value) (σ : rk_M) : bX4_measureRoad_103 g R ls st σ = (rk_aload 0 (rk_gR 4 14 (rk_iload 2 (rk_cV g 1 1 yX1_isOpenAtSecond cX1_isOpenAtSecond 2 (some .boolean) 0 (rk_if_eq (bX4_measureRoad_125 g R) (rk_aload 0 (rk_gR 4 5 (rk_iload 1 (rk_dup2 (rk_iald (rk_iload 4 (rk_ior (rk_iast (bX4_measureRoad_125 g R)))))))))))))) ls st σ := rfl
theorem oX4_measureRoad_103 {g : rk_G} {R : rk_R} : aX4_measureRoad g R 103 (bX4_measureRoad_103 g R) := (rk_aload_n_ok dX4_measureRoad_103 rfl (rk_gR_ok dX4_measureRoad_104 rfl iX4 (by decide) rfl wfX4_59 (rk_iload_n_ok dX4_measureRoad_107 rfl (rk_cV_ok dX4_measureRoad_108 rfl rfl npX1_isOpenAtSecond wmX4_123 wvX1_isOpenAtSecond weX1_isOpenAtSecond wiX1 wdX1_isOpenAtSecond (by decide) (by decide) (rk_if_eq_ok (pc' := 125) dX4_measureRoad_111 (by decide) oX4_measureRoad_125 (rk_aload_n_ok dX4_measureRoad_114 rfl (rk_gR_ok dX4_measureRoad_115 rfl iX4 (by decide) rfl wfX4_27 (rk_iload_n_ok dX4_measureRoad_118 rfl (rk_dup2_ok dX4_measureRoad_119 (rk_iald_ok dX4_measureRoad_120 (rk_iload_ok dX4_measureRoad_121 (rk_ior_ok dX4_measureRoad_123 (rk_iast_ok dX4_measureRoad_124 oX4_measureRoad_125)))))))))))))
def bX4_measureRoad_0 (g : rk_G) (R : rk_R) : rk_K := (rk_ci (1) (rk_aload 0 (rk_gR 4 13 (rk_gR 2 2 (rk_iload 2 (rk_iald (rk_ishl (rk_istore 3 (rk_ci (1) (rk_aload 0 (rk_gR 4 13 (rk_gR 2 3 (rk_iload 2 (rk_iald (rk_ishl (rk_istore 4 (rk_aload 0 (rk_gR 4 2 (rk_iload 1 (rk_dup2 (rk_iald (rk_aload 0 (rk_gR 4 13 (rk_gR 2 6 (rk_iload 2 (rk_iald (rk_iadd (rk_iast (rk_aload 0 (rk_gR 4 3 (rk_iload 1 (rk_dup2 (rk_iald (rk_aload 0 (rk_gR 4 13 (rk_iload 2 (rk_aload 0 (rk_gR 4 13 (rk_gR 2 5 (rk_iload 2 (rk_iald (rk_cV g 2 2 yX2_worthOf cX2_worthOf 4 (some .int) 0 (rk_iadd (rk_iast (rk_aload 0 (rk_gR 4 4 (rk_iload 1 (rk_dup2 (rk_iald (rk_iload 3 (rk_iload 4 (rk_ior (rk_ior (rk_iast (rk_aload 0 (rk_gR 4 14 (rk_iload 2 (rk_cV g 1 1 yX1_isOpenAtFirst cX1_isOpenAtFirst 2 (some .boolean) 0 (rk_if_eq (bX4_measureRoad_103 g R) (rk_aload 0 (rk_gR 4 5 (rk_iload 1 (rk_dup2 (rk_iald (rk_iload 3 (rk_ior (rk_iast (bX4_measureRoad_103 g R))))))))))))))))))))))))))))))))))))))))))))))))))))))))))))))))))))
theorem eX4_measureRoad_0 (g : rk_G) (R : rk_R) (ls st : List Value) (σ : rk_M) : bX4_measureRoad_0 g R ls st σ = (rk_ci (1) (rk_aload 0 (rk_gR 4 13 (rk_gR 2 2 (rk_iload 2 (rk_iald (rk_ishl (rk_istore 3 (rk_ci (1) (rk_aload 0 (rk_gR 4 13 (rk_gR 2 3 (rk_iload 2 (rk_iald (rk_ishl (rk_istore 4 (rk_aload 0 (rk_gR 4 2 (rk_iload 1 (rk_dup2 (rk_iald (rk_aload 0 (rk_gR 4 13 (rk_gR 2 6 (rk_iload 2 (rk_iald (rk_iadd (rk_iast (rk_aload 0 (rk_gR 4 3 (rk_iload 1 (rk_dup2 (rk_iald (rk_aload 0 (rk_gR 4 13 (rk_iload 2 (rk_aload 0 (rk_gR 4 13 (rk_gR 2 5 (rk_iload 2 (rk_iald (rk_cV g 2 2 yX2_worthOf cX2_worthOf 4 (some .int) 0 (rk_iadd (rk_iast (rk_aload 0 (rk_gR 4 4 (rk_iload 1 (rk_dup2 (rk_iald (rk_iload 3 (rk_iload 4 (rk_ior (rk_ior (rk_iast (rk_aload 0 (rk_gR 4 14 (rk_iload 2 (rk_cV g 1 1 yX1_isOpenAtFirst cX1_isOpenAtFirst 2 (some .boolean) 0 (rk_if_eq (bX4_measureRoad_103 g R) (rk_aload 0 (rk_gR 4 5 (rk_iload 1 (rk_dup2 (rk_iald (rk_iload 3 (rk_ior (rk_iast (bX4_measureRoad_103 g R)))))))))))))))))))))))))))))))))))))))))))))))))))))))))))))))))))) ls st σ := rfl
theorem oX4_measureRoad_0 {g : rk_G} {R : rk_R} : aX4_measureRoad g R 0 (bX4_measureRoad_0 g R) := (rk_iconst_ok dX4_measureRoad_0 (by decide) (rk_aload_n_ok dX4_measureRoad_1 rfl (rk_gR_ok dX4_measureRoad_2 rfl iX4 (by decide) rfl wfX4_55 (rk_gR_ok dX4_measureRoad_5 rfl iX2 (by decide) rfl wfX4_106 (rk_iload_n_ok dX4_measureRoad_8 rfl (rk_iald_ok dX4_measureRoad_9 (rk_ishl_ok dX4_measureRoad_10 (rk_istore_n_ok dX4_measureRoad_11 rfl (by decide) (rk_iconst_ok dX4_measureRoad_12 (by decide) (rk_aload_n_ok dX4_measureRoad_13 rfl (rk_gR_ok dX4_measureRoad_14 rfl iX4 (by decide) rfl wfX4_55 (rk_gR_ok dX4_measureRoad_17 rfl iX2 (by decide) rfl wfX4_109 (rk_iload_n_ok dX4_measureRoad_20 rfl (rk_iald_ok dX4_measureRoad_21 (rk_ishl_ok dX4_measureRoad_22 (rk_istore_ok dX4_measureRoad_23 (by decide) (rk_aload_n_ok dX4_measureRoad_25 rfl (rk_gR_ok dX4_measureRoad_26 rfl iX4 (by decide) rfl wfX4_18 (rk_iload_n_ok dX4_measureRoad_29 rfl (rk_dup2_ok dX4_measureRoad_30 (rk_iald_ok dX4_measureRoad_31 (rk_aload_n_ok dX4_measureRoad_32 rfl (rk_gR_ok dX4_measureRoad_33 rfl iX4 (by decide) rfl wfX4_55 (rk_gR_ok dX4_measureRoad_36 rfl iX2 (by decide) rfl wfX4_112 (rk_iload_n_ok dX4_measureRoad_39 rfl (rk_iald_ok dX4_measureRoad_40 (rk_iadd_ok dX4_measureRoad_41 (rk_iast_ok dX4_measureRoad_42 (rk_aload_n_ok dX4_measureRoad_43 rfl (rk_gR_ok dX4_measureRoad_44 rfl iX4 (by decide) rfl wfX4_21 (rk_iload_n_ok dX4_measureRoad_47 rfl (rk_dup2_ok dX4_measureRoad_48 (rk_iald_ok dX4_measureRoad_49 (rk_aload_n_ok dX4_measureRoad_50 rfl (rk_gR_ok dX4_measureRoad_51 rfl iX4 (by decide) rfl wfX4_55 (rk_iload_n_ok dX4_measureRoad_54 rfl (rk_aload_n_ok dX4_measureRoad_55 rfl (rk_gR_ok dX4_measureRoad_56 rfl iX4 (by decide) rfl wfX4_55 (rk_gR_ok dX4_measureRoad_59 rfl iX2 (by decide) rfl wfX4_113 (rk_iload_n_ok dX4_measureRoad_62 rfl (rk_iald_ok dX4_measureRoad_63 (rk_cV_ok dX4_measureRoad_64 rfl rfl npX2_worthOf wmX4_116 wvX2_worthOf weX2_worthOf wiX2 wdX2_worthOf (by decide) (by decide) (rk_iadd_ok dX4_measureRoad_67 (rk_iast_ok dX4_measureRoad_68 (rk_aload_n_ok dX4_measureRoad_69 rfl (rk_gR_ok dX4_measureRoad_70 rfl iX4 (by decide) rfl wfX4_24 (rk_iload_n_ok dX4_measureRoad_73 rfl (rk_dup2_ok dX4_measureRoad_74 (rk_iald_ok dX4_measureRoad_75 (rk_iload_n_ok dX4_measureRoad_76 rfl (rk_iload_ok dX4_measureRoad_77 (rk_ior_ok dX4_measureRoad_79 (rk_ior_ok dX4_measureRoad_80 (rk_iast_ok dX4_measureRoad_81 (rk_aload_n_ok dX4_measureRoad_82 rfl (rk_gR_ok dX4_measureRoad_83 rfl iX4 (by decide) rfl wfX4_59 (rk_iload_n_ok dX4_measureRoad_86 rfl (rk_cV_ok dX4_measureRoad_87 rfl rfl npX1_isOpenAtFirst wmX4_120 wvX1_isOpenAtFirst weX1_isOpenAtFirst wiX1 wdX1_isOpenAtFirst (by decide) (by decide) (rk_if_eq_ok (pc' := 103) dX4_measureRoad_90 (by decide) oX4_measureRoad_103 (rk_aload_n_ok dX4_measureRoad_93 rfl (rk_gR_ok dX4_measureRoad_94 rfl iX4 (by decide) rfl wfX4_27 (rk_iload_n_ok dX4_measureRoad_97 rfl (rk_dup2_ok dX4_measureRoad_98 (rk_iald_ok dX4_measureRoad_99 (rk_iload_n_ok dX4_measureRoad_100 rfl (rk_ior_ok dX4_measureRoad_101 (rk_iast_ok dX4_measureRoad_102 oX4_measureRoad_103)))))))))))))))))))))))))))))))))))))))))))))))))))))))))))))))))))
theorem dX4_worthiest_0 : decode cX4_worthiest 0 = .ok (.iconst (-1), 1) := by decide +kernel
theorem dX4_worthiest_1 : decode cX4_worthiest 1 = .ok (.istore_n 2, 1) := by decide +kernel
theorem dX4_worthiest_2 : decode cX4_worthiest 2 = .ok (.iconst 0, 1) := by decide +kernel
theorem dX4_worthiest_3 : decode cX4_worthiest 3 = .ok (.istore_n 3, 1) := by decide +kernel
theorem dX4_worthiest_4 : decode cX4_worthiest 4 = .ok (.iload_n 3, 1) := by decide +kernel
theorem dX4_worthiest_5 : decode cX4_worthiest 5 = .ok (.aload_n 0, 1) := by decide +kernel
theorem dX4_worthiest_6 : decode cX4_worthiest 6 = .ok (.getfield 45, 3) := by decide +kernel
theorem dX4_worthiest_9 : decode cX4_worthiest 9 = .ok (.if_icmp .ge 39, 3) := by decide +kernel
theorem dX4_worthiest_12 : decode cX4_worthiest 12 = .ok (.iload_n 1, 1) := by decide +kernel
theorem dX4_worthiest_13 : decode cX4_worthiest 13 = .ok (.iload_n 3, 1) := by decide +kernel
theorem dX4_worthiest_14 : decode cX4_worthiest 14 = .ok (.invokestatic 77, 3) := by decide +kernel
theorem dX4_worthiest_17 : decode cX4_worthiest 17 = .ok (.ifCond .eq 25, 3) := by decide +kernel
theorem dX4_worthiest_20 : decode cX4_worthiest 20 = .ok (.iload_n 2, 1) := by decide +kernel
theorem dX4_worthiest_21 : decode cX4_worthiest 21 = .ok (.iconst (-1), 1) := by decide +kernel
theorem dX4_worthiest_22 : decode cX4_worthiest 22 = .ok (.if_icmp .eq 18, 3) := by decide +kernel
theorem dX4_worthiest_25 : decode cX4_worthiest 25 = .ok (.aload_n 0, 1) := by decide +kernel
theorem dX4_worthiest_26 : decode cX4_worthiest 26 = .ok (.getfield 21, 3) := by decide +kernel
theorem dX4_worthiest_29 : decode cX4_worthiest 29 = .ok (.iload_n 3, 1) := by decide +kernel
theorem dX4_worthiest_30 : decode cX4_worthiest 30 = .ok (.iaload, 1) := by decide +kernel
theorem dX4_worthiest_31 : decode cX4_worthiest 31 = .ok (.aload_n 0, 1) := by decide +kernel
theorem dX4_worthiest_32 : decode cX4_worthiest 32 = .ok (.getfield 21, 3) := by decide +kernel
theorem dX4_worthiest_35 : decode cX4_worthiest 35 = .ok (.iload_n 2, 1) := by decide +kernel
theorem dX4_worthiest_36 : decode cX4_worthiest 36 = .ok (.iaload, 1) := by decide +kernel
theorem dX4_worthiest_37 : decode cX4_worthiest 37 = .ok (.if_icmp .le 5, 3) := by decide +kernel
theorem dX4_worthiest_40 : decode cX4_worthiest 40 = .ok (.iload_n 3, 1) := by decide +kernel
theorem dX4_worthiest_41 : decode cX4_worthiest 41 = .ok (.istore_n 2, 1) := by decide +kernel
theorem dX4_worthiest_42 : decode cX4_worthiest 42 = .ok (.iinc 3 1, 3) := by decide +kernel
theorem dX4_worthiest_45 : decode cX4_worthiest 45 = .ok (.goto (-41), 3) := by decide +kernel
theorem dX4_worthiest_48 : decode cX4_worthiest 48 = .ok (.iload_n 2, 1) := by decide +kernel
theorem dX4_worthiest_49 : decode cX4_worthiest 49 = .ok (.ireturn, 1) := by decide +kernel
abbrev kX4_worthiest (g : rk_G) (R : rk_R) (pc : Nat) : rk_K := rk_cut g cX4_worthiest 4 (some .int) RX4 1 R pc
abbrev aX4_worthiest (g : rk_G) (R : rk_R) (pc : Nat) (K : rk_K) : Prop := rk_AK g cX4_worthiest 4 (some .int) RX4 1 R pc K
abbrev sX4_worthiest (g : rk_G) (vs : List Value) (σ : rk_M) (R : rk_R) : Prop := rk_does g yX4_worthiest cX4_worthiest 4 (some .int) 1 vs σ R
abbrev tX4_worthiest (g : rk_G) (R : rk_R) (pc : Nat) (ls st : List Value) (σ : rk_M) : Prop := rk_At g cX4_worthiest 4 (some .int) RX4 1 R pc ls st σ
def bX4_worthiest_42 (g : rk_G) (R : rk_R) : rk_K := (rk_iinc 3 (1) (kX4_worthiest g R 4))
theorem eX4_worthiest_42 (g : rk_G) (R : rk_R) (ls st : List Value) (σ : rk_M) : bX4_worthiest_42 g R ls st σ = (rk_iinc 3 (1) (kX4_worthiest g R 4)) ls st σ := rfl
theorem oX4_worthiest_42 {g : rk_G} {R : rk_R} : aX4_worthiest g R 42 (bX4_worthiest_42 g R) := (rk_iinc_ok dX4_worthiest_42 (by decide) (by decide) (rk_goto_ok (pc' := 4) dX4_worthiest_45 (by decide) rk_cut_ok))
def bX4_worthiest_40 (g : rk_G) (R : rk_R) : rk_K := (rk_iload 3 (rk_istore 2 (bX4_worthiest_42 g R)))
theorem eX4_worthiest_40 (g : rk_G) (R : rk_R) (ls st : List Value) (σ : rk_M) : bX4_worthiest_40 g R ls st σ = (rk_iload 3 (rk_istore 2 (bX4_worthiest_42 g R))) ls st σ := rfl
theorem oX4_worthiest_40 {g : rk_G} {R : rk_R} : aX4_worthiest g R 40 (bX4_worthiest_40 g R) := (rk_iload_n_ok dX4_worthiest_40 rfl (rk_istore_n_ok dX4_worthiest_41 rfl (by decide) oX4_worthiest_42))
def bX4_worthiest_4 (g : rk_G) (R : rk_R) : rk_K := (rk_iload 3 (rk_aload 0 (rk_gI 4 11 (rk_icmp_ge (rk_iload 2 (rk_iret R)) (rk_iload 1 (rk_iload 3 (rk_cS g 2 yX6_hasBit cX6_hasBit 2 (some .boolean) 0 (rk_if_eq (bX4_worthiest_42 g R) (rk_iload 2 (rk_ci (-1) (rk_icmp_eq (bX4_worthiest_40 g R) (rk_aload 0 (rk_gR 4 3 (rk_iload 3 (rk_iald (rk_aload 0 (rk_gR 4 3 (rk_iload 2 (rk_iald (rk_icmp_le (bX4_worthiest_42 g R) (bX4_worthiest_40 g R)))))))))))))))))))))
theorem eX4_worthiest_4 (g : rk_G) (R : rk_R) (ls st : List Value) (σ : rk_M) : bX4_worthiest_4 g R ls st σ = (rk_iload 3 (rk_aload 0 (rk_gI 4 11 (rk_icmp_ge (rk_iload 2 (rk_iret R)) (rk_iload 1 (rk_iload 3 (rk_cS g 2 yX6_hasBit cX6_hasBit 2 (some .boolean) 0 (rk_if_eq (bX4_worthiest_42 g R) (rk_iload 2 (rk_ci (-1) (rk_icmp_eq (bX4_worthiest_40 g R) (rk_aload 0 (rk_gR 4 3 (rk_iload 3 (rk_iald (rk_aload 0 (rk_gR 4 3 (rk_iload 2 (rk_iald (rk_icmp_le (bX4_worthiest_42 g R) (bX4_worthiest_40 g R))))))))))))))))))))) ls st σ := rfl
theorem oX4_worthiest_4 {g : rk_G} {R : rk_R} : aX4_worthiest g R 4 (bX4_worthiest_4 g R) := (rk_iload_n_ok dX4_worthiest_4 rfl (rk_aload_n_ok dX4_worthiest_5 rfl (rk_gI_ok dX4_worthiest_6 rfl iX4 (by decide) rfl wfX4_45 (rk_icmp_ge_ok (pc' := 48) dX4_worthiest_9 (by decide) (rk_iload_n_ok dX4_worthiest_48 rfl (rk_iret_ok rfl dX4_worthiest_49)) (rk_iload_n_ok dX4_worthiest_12 rfl (rk_iload_n_ok dX4_worthiest_13 rfl (rk_cN_ok dX4_worthiest_14 npX6_hasBit wnX4_77 wtX6_hasBit wiX6 wdX6_hasBit (by decide) (by decide) (rk_if_eq_ok (pc' := 42) dX4_worthiest_17 (by decide) oX4_worthiest_42 (rk_iload_n_ok dX4_worthiest_20 rfl (rk_iconst_ok dX4_worthiest_21 (by decide) (rk_icmp_eq_ok (pc' := 40) dX4_worthiest_22 (by decide) oX4_worthiest_40 (rk_aload_n_ok dX4_worthiest_25 rfl (rk_gR_ok dX4_worthiest_26 rfl iX4 (by decide) rfl wfX4_21 (rk_iload_n_ok dX4_worthiest_29 rfl (rk_iald_ok dX4_worthiest_30 (rk_aload_n_ok dX4_worthiest_31 rfl (rk_gR_ok dX4_worthiest_32 rfl iX4 (by decide) rfl wfX4_21 (rk_iload_n_ok dX4_worthiest_35 rfl (rk_iald_ok dX4_worthiest_36 (rk_icmp_le_ok (pc' := 42) dX4_worthiest_37 (by decide) oX4_worthiest_42 oX4_worthiest_40))))))))))))))))))))
def bX4_worthiest_0 (g : rk_G) (R : rk_R) : rk_K := (rk_ci (-1) (rk_istore 2 (rk_ci (0) (rk_istore 3 (kX4_worthiest g R 4)))))
theorem eX4_worthiest_0 (g : rk_G) (R : rk_R) (ls st : List Value) (σ : rk_M) : bX4_worthiest_0 g R ls st σ = (rk_ci (-1) (rk_istore 2 (rk_ci (0) (rk_istore 3 (kX4_worthiest g R 4))))) ls st σ := rfl
theorem oX4_worthiest_0 {g : rk_G} {R : rk_R} : aX4_worthiest g R 0 (bX4_worthiest_0 g R) := (rk_iconst_ok dX4_worthiest_0 (by decide) (rk_istore_n_ok dX4_worthiest_1 rfl (by decide) (rk_iconst_ok dX4_worthiest_2 (by decide) (rk_istore_n_ok dX4_worthiest_3 rfl (by decide) rk_cut_ok))))
theorem dX5_shorten_0 : decode cX5_shorten 0 = .ok (.iconst 0, 1) := by decide +kernel
theorem dX5_shorten_1 : decode cX5_shorten 1 = .ok (.istore_n 2, 1) := by decide +kernel
theorem dX5_shorten_2 : decode cX5_shorten 2 = .ok (.iconst 0, 1) := by decide +kernel
theorem dX5_shorten_3 : decode cX5_shorten 3 = .ok (.istore_n 3, 1) := by decide +kernel
theorem dX5_shorten_4 : decode cX5_shorten 4 = .ok (.iload_n 3, 1) := by decide +kernel
theorem dX5_shorten_5 : decode cX5_shorten 5 = .ok (.aload_n 0, 1) := by decide +kernel
theorem dX5_shorten_6 : decode cX5_shorten 6 = .ok (.getfield 18, 3) := by decide +kernel
theorem dX5_shorten_9 : decode cX5_shorten 9 = .ok (.getfield 31, 3) := by decide +kernel
theorem dX5_shorten_12 : decode cX5_shorten 12 = .ok (.if_icmp .ge 131, 3) := by decide +kernel
theorem dX5_shorten_15 : decode cX5_shorten 15 = .ok (.iload_n 1, 1) := by decide +kernel
theorem dX5_shorten_16 : decode cX5_shorten 16 = .ok (.iload_n 3, 1) := by decide +kernel
theorem dX5_shorten_17 : decode cX5_shorten 17 = .ok (.invokestatic 37, 3) := by decide +kernel
theorem dX5_shorten_20 : decode cX5_shorten 20 = .ok (.ifCond .eq 117, 3) := by decide +kernel
theorem dX5_shorten_23 : decode cX5_shorten 23 = .ok (.aload_n 0, 1) := by decide +kernel
theorem dX5_shorten_24 : decode cX5_shorten 24 = .ok (.getfield 18, 3) := by decide +kernel
theorem dX5_shorten_27 : decode cX5_shorten 27 = .ok (.getfield 44, 3) := by decide +kernel
theorem dX5_shorten_30 : decode cX5_shorten 30 = .ok (.iload_n 3, 1) := by decide +kernel
theorem dX5_shorten_31 : decode cX5_shorten 31 = .ok (.iaload, 1) := by decide +kernel
theorem dX5_shorten_32 : decode cX5_shorten 32 = .ok (.istore 4, 2) := by decide +kernel
theorem dX5_shorten_34 : decode cX5_shorten 34 = .ok (.aload_n 0, 1) := by decide +kernel
theorem dX5_shorten_35 : decode cX5_shorten 35 = .ok (.getfield 18, 3) := by decide +kernel
theorem dX5_shorten_38 : decode cX5_shorten 38 = .ok (.getfield 47, 3) := by decide +kernel
theorem dX5_shorten_41 : decode cX5_shorten 41 = .ok (.iload_n 3, 1) := by decide +kernel
theorem dX5_shorten_42 : decode cX5_shorten 42 = .ok (.iaload, 1) := by decide +kernel
theorem dX5_shorten_43 : decode cX5_shorten 43 = .ok (.istore 5, 2) := by decide +kernel
theorem dX5_shorten_45 : decode cX5_shorten 45 = .ok (.aload_n 0, 1) := by decide +kernel
theorem dX5_shorten_46 : decode cX5_shorten 46 = .ok (.getfield 18, 3) := by decide +kernel
theorem dX5_shorten_49 : decode cX5_shorten 49 = .ok (.getfield 50, 3) := by decide +kernel
theorem dX5_shorten_52 : decode cX5_shorten 52 = .ok (.iload_n 3, 1) := by decide +kernel
theorem dX5_shorten_53 : decode cX5_shorten 53 = .ok (.iaload, 1) := by decide +kernel
theorem dX5_shorten_54 : decode cX5_shorten 54 = .ok (.istore 6, 2) := by decide +kernel
theorem dX5_shorten_56 : decode cX5_shorten 56 = .ok (.aload_n 0, 1) := by decide +kernel
theorem dX5_shorten_57 : decode cX5_shorten 57 = .ok (.getfield 9, 3) := by decide +kernel
theorem dX5_shorten_60 : decode cX5_shorten 60 = .ok (.iload 4, 2) := by decide +kernel
theorem dX5_shorten_62 : decode cX5_shorten 62 = .ok (.iaload, 1) := by decide +kernel
theorem dX5_shorten_63 : decode cX5_shorten 63 = .ok (.iload 6, 2) := by decide +kernel
theorem dX5_shorten_65 : decode cX5_shorten 65 = .ok (.iadd, 1) := by decide +kernel
theorem dX5_shorten_66 : decode cX5_shorten 66 = .ok (.aload_n 0, 1) := by decide +kernel
theorem dX5_shorten_67 : decode cX5_shorten 67 = .ok (.getfield 9, 3) := by decide +kernel
theorem dX5_shorten_70 : decode cX5_shorten 70 = .ok (.iload 5, 2) := by decide +kernel
theorem dX5_shorten_72 : decode cX5_shorten 72 = .ok (.iaload, 1) := by decide +kernel
theorem dX5_shorten_73 : decode cX5_shorten 73 = .ok (.if_icmp .ge 25, 3) := by decide +kernel
theorem dX5_shorten_76 : decode cX5_shorten 76 = .ok (.aload_n 0, 1) := by decide +kernel
theorem dX5_shorten_77 : decode cX5_shorten 77 = .ok (.getfield 9, 3) := by decide +kernel
theorem dX5_shorten_80 : decode cX5_shorten 80 = .ok (.iload 5, 2) := by decide +kernel
theorem dX5_shorten_82 : decode cX5_shorten 82 = .ok (.aload_n 0, 1) := by decide +kernel
theorem dX5_shorten_83 : decode cX5_shorten 83 = .ok (.getfield 9, 3) := by decide +kernel
theorem dX5_shorten_86 : decode cX5_shorten 86 = .ok (.iload 4, 2) := by decide +kernel
theorem dX5_shorten_88 : decode cX5_shorten 88 = .ok (.iaload, 1) := by decide +kernel
theorem dX5_shorten_89 : decode cX5_shorten 89 = .ok (.iload 6, 2) := by decide +kernel
theorem dX5_shorten_91 : decode cX5_shorten 91 = .ok (.iadd, 1) := by decide +kernel
theorem dX5_shorten_92 : decode cX5_shorten 92 = .ok (.iastore, 1) := by decide +kernel
theorem dX5_shorten_93 : decode cX5_shorten 93 = .ok (.iconst 1, 1) := by decide +kernel
theorem dX5_shorten_94 : decode cX5_shorten 94 = .ok (.istore_n 2, 1) := by decide +kernel
theorem dX5_shorten_95 : decode cX5_shorten 95 = .ok (.goto 42, 3) := by decide +kernel
theorem dX5_shorten_98 : decode cX5_shorten 98 = .ok (.aload_n 0, 1) := by decide +kernel
theorem dX5_shorten_99 : decode cX5_shorten 99 = .ok (.getfield 9, 3) := by decide +kernel
theorem dX5_shorten_102 : decode cX5_shorten 102 = .ok (.iload 5, 2) := by decide +kernel
theorem dX5_shorten_104 : decode cX5_shorten 104 = .ok (.iaload, 1) := by decide +kernel
theorem dX5_shorten_105 : decode cX5_shorten 105 = .ok (.iload 6, 2) := by decide +kernel
theorem dX5_shorten_107 : decode cX5_shorten 107 = .ok (.iadd, 1) := by decide +kernel
theorem dX5_shorten_108 : decode cX5_shorten 108 = .ok (.aload_n 0, 1) := by decide +kernel
theorem dX5_shorten_109 : decode cX5_shorten 109 = .ok (.getfield 9, 3) := by decide +kernel
theorem dX5_shorten_112 : decode cX5_shorten 112 = .ok (.iload 4, 2) := by decide +kernel
theorem dX5_shorten_114 : decode cX5_shorten 114 = .ok (.iaload, 1) := by decide +kernel
theorem dX5_shorten_115 : decode cX5_shorten 115 = .ok (.if_icmp .ge 22, 3) := by decide +kernel
theorem dX5_shorten_118 : decode cX5_shorten 118 = .ok (.aload_n 0, 1) := by decide +kernel
theorem dX5_shorten_119 : decode cX5_shorten 119 = .ok (.getfield 9, 3) := by decide +kernel
theorem dX5_shorten_122 : decode cX5_shorten 122 = .ok (.iload 4, 2) := by decide +kernel
theorem dX5_shorten_124 : decode cX5_shorten 124 = .ok (.aload_n 0, 1) := by decide +kernel
theorem dX5_shorten_125 : decode cX5_shorten 125 = .ok (.getfield 9, 3) := by decide +kernel
theorem dX5_shorten_128 : decode cX5_shorten 128 = .ok (.iload 5, 2) := by decide +kernel
theorem dX5_shorten_130 : decode cX5_shorten 130 = .ok (.iaload, 1) := by decide +kernel
theorem dX5_shorten_131 : decode cX5_shorten 131 = .ok (.iload 6, 2) := by decide +kernel
theorem dX5_shorten_133 : decode cX5_shorten 133 = .ok (.iadd, 1) := by decide +kernel
theorem dX5_shorten_134 : decode cX5_shorten 134 = .ok (.iastore, 1) := by decide +kernel
theorem dX5_shorten_135 : decode cX5_shorten 135 = .ok (.iconst 1, 1) := by decide +kernel
theorem dX5_shorten_136 : decode cX5_shorten 136 = .ok (.istore_n 2, 1) := by decide +kernel
theorem dX5_shorten_137 : decode cX5_shorten 137 = .ok (.iinc 3 1, 3) := by decide +kernel
theorem dX5_shorten_140 : decode cX5_shorten 140 = .ok (.goto (-136), 3) := by decide +kernel
theorem dX5_shorten_143 : decode cX5_shorten 143 = .ok (.iload_n 2, 1) := by decide +kernel
theorem dX5_shorten_144 : decode cX5_shorten 144 = .ok (.ireturn, 1) := by decide +kernel
abbrev kX5_shorten (g : rk_G) (R : rk_R) (pc : Nat) : rk_K := rk_cut g cX5_shorten 7 (some .boolean) RX5 1 R pc
abbrev aX5_shorten (g : rk_G) (R : rk_R) (pc : Nat) (K : rk_K) : Prop := rk_AK g cX5_shorten 7 (some .boolean) RX5 1 R pc K
abbrev sX5_shorten (g : rk_G) (vs : List Value) (σ : rk_M) (R : rk_R) : Prop := rk_does g yX5_shorten cX5_shorten 7 (some .boolean) 1 vs σ R
abbrev tX5_shorten (g : rk_G) (R : rk_R) (pc : Nat) (ls st : List Value) (σ : rk_M) : Prop := rk_At g cX5_shorten 7 (some .boolean) RX5 1 R pc ls st σ
def bX5_shorten_137 (g : rk_G) (R : rk_R) : rk_K := (rk_iinc 3 (1) (kX5_shorten g R 4))
theorem eX5_shorten_137 (g : rk_G) (R : rk_R) (ls st : List Value) (σ : rk_M) : bX5_shorten_137 g R ls st σ = (rk_iinc 3 (1) (kX5_shorten g R 4)) ls st σ := rfl
theorem oX5_shorten_137 {g : rk_G} {R : rk_R} : aX5_shorten g R 137 (bX5_shorten_137 g R) := (rk_iinc_ok dX5_shorten_137 (by decide) (by decide) (rk_goto_ok (pc' := 4) dX5_shorten_140 (by decide) rk_cut_ok))
def bX5_shorten_4 (g : rk_G) (R : rk_R) : rk_K := (rk_iload 3 (rk_aload 0 (rk_gR 5 0 (rk_gI 2 8 (rk_icmp_ge (rk_iload 2 (rk_zret R)) (rk_iload 1 (rk_iload 3 (rk_cS g 2 yX6_hasBit cX6_hasBit 2 (some .boolean) 0 (rk_if_eq (bX5_shorten_137 g R) (rk_aload 0 (rk_gR 5 0 (rk_gR 2 2 (rk_iload 3 (rk_iald (rk_istore 4 (rk_aload 0 (rk_gR 5 0 (rk_gR 2 3 (rk_iload 3 (rk_iald (rk_istore 5 (rk_aload 0 (rk_gR 5 0 (rk_gR 2 6 (rk_iload 3 (rk_iald (rk_istore 6 (rk_aload 0 (rk_gR 5 1 (rk_iload 4 (rk_iald (rk_iload 6 (rk_iadd (rk_aload 0 (rk_gR 5 1 (rk_iload 5 (rk_iald (rk_icmp_ge (rk_aload 0 (rk_gR 5 1 (rk_iload 5 (rk_iald (rk_iload 6 (rk_iadd (rk_aload 0 (rk_gR 5 1 (rk_iload 4 (rk_iald (rk_icmp_ge (bX5_shorten_137 g R) (rk_aload 0 (rk_gR 5 1 (rk_iload 4 (rk_aload 0 (rk_gR 5 1 (rk_iload 5 (rk_iald (rk_iload 6 (rk_iadd (rk_iast (rk_ci (1) (rk_istore 2 (bX5_shorten_137 g R)))))))))))))))))))))))) (rk_aload 0 (rk_gR 5 1 (rk_iload 5 (rk_aload 0 (rk_gR 5 1 (rk_iload 4 (rk_iald (rk_iload 6 (rk_iadd (rk_iast (rk_ci (1) (rk_istore 2 (bX5_shorten_137 g R)))))))))))))))))))))))))))))))))))))))))))))))))))
theorem eX5_shorten_4 (g : rk_G) (R : rk_R) (ls st : List Value) (σ : rk_M) : bX5_shorten_4 g R ls st σ = (rk_iload 3 (rk_aload 0 (rk_gR 5 0 (rk_gI 2 8 (rk_icmp_ge (rk_iload 2 (rk_zret R)) (rk_iload 1 (rk_iload 3 (rk_cS g 2 yX6_hasBit cX6_hasBit 2 (some .boolean) 0 (rk_if_eq (bX5_shorten_137 g R) (rk_aload 0 (rk_gR 5 0 (rk_gR 2 2 (rk_iload 3 (rk_iald (rk_istore 4 (rk_aload 0 (rk_gR 5 0 (rk_gR 2 3 (rk_iload 3 (rk_iald (rk_istore 5 (rk_aload 0 (rk_gR 5 0 (rk_gR 2 6 (rk_iload 3 (rk_iald (rk_istore 6 (rk_aload 0 (rk_gR 5 1 (rk_iload 4 (rk_iald (rk_iload 6 (rk_iadd (rk_aload 0 (rk_gR 5 1 (rk_iload 5 (rk_iald (rk_icmp_ge (rk_aload 0 (rk_gR 5 1 (rk_iload 5 (rk_iald (rk_iload 6 (rk_iadd (rk_aload 0 (rk_gR 5 1 (rk_iload 4 (rk_iald (rk_icmp_ge (bX5_shorten_137 g R) (rk_aload 0 (rk_gR 5 1 (rk_iload 4 (rk_aload 0 (rk_gR 5 1 (rk_iload 5 (rk_iald (rk_iload 6 (rk_iadd (rk_iast (rk_ci (1) (rk_istore 2 (bX5_shorten_137 g R)))))))))))))))))))))))) (rk_aload 0 (rk_gR 5 1 (rk_iload 5 (rk_aload 0 (rk_gR 5 1 (rk_iload 4 (rk_iald (rk_iload 6 (rk_iadd (rk_iast (rk_ci (1) (rk_istore 2 (bX5_shorten_137 g R))))))))))))))))))))))))))))))))))))))))))))))))))) ls st σ := rfl
theorem oX5_shorten_4 {g : rk_G} {R : rk_R} : aX5_shorten g R 4 (bX5_shorten_4 g R) := (rk_iload_n_ok dX5_shorten_4 rfl (rk_aload_n_ok dX5_shorten_5 rfl (rk_gR_ok dX5_shorten_6 rfl iX5 (by decide) rfl wfX5_18 (rk_gI_ok dX5_shorten_9 rfl iX2 (by decide) rfl wfX5_31 (rk_icmp_ge_ok (pc' := 143) dX5_shorten_12 (by decide) (rk_iload_n_ok dX5_shorten_143 rfl (rk_zret_ok rfl dX5_shorten_144)) (rk_iload_n_ok dX5_shorten_15 rfl (rk_iload_n_ok dX5_shorten_16 rfl (rk_cN_ok dX5_shorten_17 npX6_hasBit wnX5_37 wtX6_hasBit wiX6 wdX6_hasBit (by decide) (by decide) (rk_if_eq_ok (pc' := 137) dX5_shorten_20 (by decide) oX5_shorten_137 (rk_aload_n_ok dX5_shorten_23 rfl (rk_gR_ok dX5_shorten_24 rfl iX5 (by decide) rfl wfX5_18 (rk_gR_ok dX5_shorten_27 rfl iX2 (by decide) rfl wfX5_44 (rk_iload_n_ok dX5_shorten_30 rfl (rk_iald_ok dX5_shorten_31 (rk_istore_ok dX5_shorten_32 (by decide) (rk_aload_n_ok dX5_shorten_34 rfl (rk_gR_ok dX5_shorten_35 rfl iX5 (by decide) rfl wfX5_18 (rk_gR_ok dX5_shorten_38 rfl iX2 (by decide) rfl wfX5_47 (rk_iload_n_ok dX5_shorten_41 rfl (rk_iald_ok dX5_shorten_42 (rk_istore_ok dX5_shorten_43 (by decide) (rk_aload_n_ok dX5_shorten_45 rfl (rk_gR_ok dX5_shorten_46 rfl iX5 (by decide) rfl wfX5_18 (rk_gR_ok dX5_shorten_49 rfl iX2 (by decide) rfl wfX5_50 (rk_iload_n_ok dX5_shorten_52 rfl (rk_iald_ok dX5_shorten_53 (rk_istore_ok dX5_shorten_54 (by decide) (rk_aload_n_ok dX5_shorten_56 rfl (rk_gR_ok dX5_shorten_57 rfl iX5 (by decide) rfl wfX5_9 (rk_iload_ok dX5_shorten_60 (rk_iald_ok dX5_shorten_62 (rk_iload_ok dX5_shorten_63 (rk_iadd_ok dX5_shorten_65 (rk_aload_n_ok dX5_shorten_66 rfl (rk_gR_ok dX5_shorten_67 rfl iX5 (by decide) rfl wfX5_9 (rk_iload_ok dX5_shorten_70 (rk_iald_ok dX5_shorten_72 (rk_icmp_ge_ok (pc' := 98) dX5_shorten_73 (by decide) (rk_aload_n_ok dX5_shorten_98 rfl (rk_gR_ok dX5_shorten_99 rfl iX5 (by decide) rfl wfX5_9 (rk_iload_ok dX5_shorten_102 (rk_iald_ok dX5_shorten_104 (rk_iload_ok dX5_shorten_105 (rk_iadd_ok dX5_shorten_107 (rk_aload_n_ok dX5_shorten_108 rfl (rk_gR_ok dX5_shorten_109 rfl iX5 (by decide) rfl wfX5_9 (rk_iload_ok dX5_shorten_112 (rk_iald_ok dX5_shorten_114 (rk_icmp_ge_ok (pc' := 137) dX5_shorten_115 (by decide) oX5_shorten_137 (rk_aload_n_ok dX5_shorten_118 rfl (rk_gR_ok dX5_shorten_119 rfl iX5 (by decide) rfl wfX5_9 (rk_iload_ok dX5_shorten_122 (rk_aload_n_ok dX5_shorten_124 rfl (rk_gR_ok dX5_shorten_125 rfl iX5 (by decide) rfl wfX5_9 (rk_iload_ok dX5_shorten_128 (rk_iald_ok dX5_shorten_130 (rk_iload_ok dX5_shorten_131 (rk_iadd_ok dX5_shorten_133 (rk_iast_ok dX5_shorten_134 (rk_iconst_ok dX5_shorten_135 (by decide) (rk_istore_n_ok dX5_shorten_136 rfl (by decide) oX5_shorten_137))))))))))))))))))))))) (rk_aload_n_ok dX5_shorten_76 rfl (rk_gR_ok dX5_shorten_77 rfl iX5 (by decide) rfl wfX5_9 (rk_iload_ok dX5_shorten_80 (rk_aload_n_ok dX5_shorten_82 rfl (rk_gR_ok dX5_shorten_83 rfl iX5 (by decide) rfl wfX5_9 (rk_iload_ok dX5_shorten_86 (rk_iald_ok dX5_shorten_88 (rk_iload_ok dX5_shorten_89 (rk_iadd_ok dX5_shorten_91 (rk_iast_ok dX5_shorten_92 (rk_iconst_ok dX5_shorten_93 (by decide) (rk_istore_n_ok dX5_shorten_94 rfl (by decide) (rk_goto_ok (pc' := 137) dX5_shorten_95 (by decide) oX5_shorten_137)))))))))))))))))))))))))))))))))))))))))))))))))))
def bX5_shorten_0 (g : rk_G) (R : rk_R) : rk_K := (rk_ci (0) (rk_istore 2 (rk_ci (0) (rk_istore 3 (kX5_shorten g R 4)))))
theorem eX5_shorten_0 (g : rk_G) (R : rk_R) (ls st : List Value) (σ : rk_M) : bX5_shorten_0 g R ls st σ = (rk_ci (0) (rk_istore 2 (rk_ci (0) (rk_istore 3 (kX5_shorten g R 4))))) ls st σ := rfl
theorem oX5_shorten_0 {g : rk_G} {R : rk_R} : aX5_shorten g R 0 (bX5_shorten_0 g R) := (rk_iconst_ok dX5_shorten_0 (by decide) (rk_istore_n_ok dX5_shorten_1 rfl (by decide) (rk_iconst_ok dX5_shorten_2 (by decide) (rk_istore_n_ok dX5_shorten_3 rfl (by decide) rk_cut_ok))))
theorem dX5_gatherNear_0 : decode cX5_gatherNear 0 = .ok (.iconst 0, 1) := by decide +kernel
theorem dX5_gatherNear_1 : decode cX5_gatherNear 1 = .ok (.istore_n 2, 1) := by decide +kernel
theorem dX5_gatherNear_2 : decode cX5_gatherNear 2 = .ok (.iload_n 2, 1) := by decide +kernel
theorem dX5_gatherNear_3 : decode cX5_gatherNear 3 = .ok (.bipush 16, 2) := by decide +kernel
theorem dX5_gatherNear_5 : decode cX5_gatherNear 5 = .ok (.if_icmp .ge 16, 3) := by decide +kernel
theorem dX5_gatherNear_8 : decode cX5_gatherNear 8 = .ok (.aload_n 0, 1) := by decide +kernel
theorem dX5_gatherNear_9 : decode cX5_gatherNear 9 = .ok (.getfield 15, 3) := by decide +kernel
theorem dX5_gatherNear_12 : decode cX5_gatherNear 12 = .ok (.iload_n 2, 1) := by decide +kernel
theorem dX5_gatherNear_13 : decode cX5_gatherNear 13 = .ok (.iconst 0, 1) := by decide +kernel
theorem dX5_gatherNear_14 : decode cX5_gatherNear 14 = .ok (.iastore, 1) := by decide +kernel
theorem dX5_gatherNear_15 : decode cX5_gatherNear 15 = .ok (.iinc 2 1, 3) := by decide +kernel
theorem dX5_gatherNear_18 : decode cX5_gatherNear 18 = .ok (.goto (-16), 3) := by decide +kernel
theorem dX5_gatherNear_21 : decode cX5_gatherNear 21 = .ok (.iconst 0, 1) := by decide +kernel
theorem dX5_gatherNear_22 : decode cX5_gatherNear 22 = .ok (.istore_n 2, 1) := by decide +kernel
theorem dX5_gatherNear_23 : decode cX5_gatherNear 23 = .ok (.iload_n 2, 1) := by decide +kernel
theorem dX5_gatherNear_24 : decode cX5_gatherNear 24 = .ok (.aload_n 0, 1) := by decide +kernel
theorem dX5_gatherNear_25 : decode cX5_gatherNear 25 = .ok (.getfield 18, 3) := by decide +kernel
theorem dX5_gatherNear_28 : decode cX5_gatherNear 28 = .ok (.getfield 31, 3) := by decide +kernel
theorem dX5_gatherNear_31 : decode cX5_gatherNear 31 = .ok (.if_icmp .ge 22, 3) := by decide +kernel
theorem dX5_gatherNear_34 : decode cX5_gatherNear 34 = .ok (.iload_n 1, 1) := by decide +kernel
theorem dX5_gatherNear_35 : decode cX5_gatherNear 35 = .ok (.iload_n 2, 1) := by decide +kernel
theorem dX5_gatherNear_36 : decode cX5_gatherNear 36 = .ok (.invokestatic 37, 3) := by decide +kernel
theorem dX5_gatherNear_39 : decode cX5_gatherNear 39 = .ok (.ifCond .eq 8, 3) := by decide +kernel
theorem dX5_gatherNear_42 : decode cX5_gatherNear 42 = .ok (.aload_n 0, 1) := by decide +kernel
theorem dX5_gatherNear_43 : decode cX5_gatherNear 43 = .ok (.iload_n 2, 1) := by decide +kernel
theorem dX5_gatherNear_44 : decode cX5_gatherNear 44 = .ok (.invokevirtual 53, 3) := by decide +kernel
theorem dX5_gatherNear_47 : decode cX5_gatherNear 47 = .ok (.iinc 2 1, 3) := by decide +kernel
theorem dX5_gatherNear_50 : decode cX5_gatherNear 50 = .ok (.goto (-27), 3) := by decide +kernel
theorem dX5_gatherNear_53 : decode cX5_gatherNear 53 = .ok (.return_, 1) := by decide +kernel
abbrev kX5_gatherNear (g : rk_G) (R : rk_R) (pc : Nat) : rk_K := rk_cut g cX5_gatherNear 3 none RX5 1 R pc
abbrev aX5_gatherNear (g : rk_G) (R : rk_R) (pc : Nat) (K : rk_K) : Prop := rk_AK g cX5_gatherNear 3 none RX5 1 R pc K
abbrev sX5_gatherNear (g : rk_G) (vs : List Value) (σ : rk_M) (R : rk_R) : Prop := rk_does g yX5_gatherNear cX5_gatherNear 3 none 1 vs σ R
abbrev tX5_gatherNear (g : rk_G) (R : rk_R) (pc : Nat) (ls st : List Value) (σ : rk_M) : Prop := rk_At g cX5_gatherNear 3 none RX5 1 R pc ls st σ
def bX5_gatherNear_47 (g : rk_G) (R : rk_R) : rk_K := (rk_iinc 2 (1) (kX5_gatherNear g R 23))
theorem eX5_gatherNear_47 (g : rk_G) (R : rk_R) (ls st : List Value) (σ : rk_M) : bX5_gatherNear_47 g R ls st σ = (rk_iinc 2 (1) (kX5_gatherNear g R 23)) ls st σ := rfl
theorem oX5_gatherNear_47 {g : rk_G} {R : rk_R} : aX5_gatherNear g R 47 (bX5_gatherNear_47 g R) := (rk_iinc_ok dX5_gatherNear_47 (by decide) (by decide) (rk_goto_ok (pc' := 23) dX5_gatherNear_50 (by decide) rk_cut_ok))
def bX5_gatherNear_23 (g : rk_G) (R : rk_R) : rk_K := (rk_iload 2 (rk_aload 0 (rk_gR 5 0 (rk_gI 2 8 (rk_icmp_ge (rk_vret R) (rk_iload 1 (rk_iload 2 (rk_cS g 2 yX6_hasBit cX6_hasBit 2 (some .boolean) 0 (rk_if_eq (bX5_gatherNear_47 g R) (rk_aload 0 (rk_iload 2 (rk_cV g 1 5 yX5_flip cX5_flip 4 none 0 (bX5_gatherNear_47 g R)))))))))))))
theorem eX5_gatherNear_23 (g : rk_G) (R : rk_R) (ls st : List Value) (σ : rk_M) : bX5_gatherNear_23 g R ls st σ = (rk_iload 2 (rk_aload 0 (rk_gR 5 0 (rk_gI 2 8 (rk_icmp_ge (rk_vret R) (rk_iload 1 (rk_iload 2 (rk_cS g 2 yX6_hasBit cX6_hasBit 2 (some .boolean) 0 (rk_if_eq (bX5_gatherNear_47 g R) (rk_aload 0 (rk_iload 2 (rk_cV g 1 5 yX5_flip cX5_flip 4 none 0 (bX5_gatherNear_47 g R))))))))))))) ls st σ := rfl
theorem oX5_gatherNear_23 {g : rk_G} {R : rk_R} : aX5_gatherNear g R 23 (bX5_gatherNear_23 g R) := (rk_iload_n_ok dX5_gatherNear_23 rfl (rk_aload_n_ok dX5_gatherNear_24 rfl (rk_gR_ok dX5_gatherNear_25 rfl iX5 (by decide) rfl wfX5_18 (rk_gI_ok dX5_gatherNear_28 rfl iX2 (by decide) rfl wfX5_31 (rk_icmp_ge_ok (pc' := 53) dX5_gatherNear_31 (by decide) (rk_vret_ok rfl dX5_gatherNear_53) (rk_iload_n_ok dX5_gatherNear_34 rfl (rk_iload_n_ok dX5_gatherNear_35 rfl (rk_cN_ok dX5_gatherNear_36 npX6_hasBit wnX5_37 wtX6_hasBit wiX6 wdX6_hasBit (by decide) (by decide) (rk_if_eq_ok (pc' := 47) dX5_gatherNear_39 (by decide) oX5_gatherNear_47 (rk_aload_n_ok dX5_gatherNear_42 rfl (rk_iload_n_ok dX5_gatherNear_43 rfl (rk_cV_ok dX5_gatherNear_44 rfl rfl npX5_flip wmX5_53 wvX5_flip weX5_flip wiX5 wdX5_flip (by decide) (by decide) oX5_gatherNear_47))))))))))))
def bX5_gatherNear_2 (g : rk_G) (R : rk_R) : rk_K := (rk_iload 2 (rk_ci (16) (rk_icmp_ge (rk_ci (0) (rk_istore 2 (kX5_gatherNear g R 23))) (rk_aload 0 (rk_gR 5 2 (rk_iload 2 (rk_ci (0) (rk_iast (rk_iinc 2 (1) (kX5_gatherNear g R 2))))))))))
theorem eX5_gatherNear_2 (g : rk_G) (R : rk_R) (ls st : List Value) (σ : rk_M) : bX5_gatherNear_2 g R ls st σ = (rk_iload 2 (rk_ci (16) (rk_icmp_ge (rk_ci (0) (rk_istore 2 (kX5_gatherNear g R 23))) (rk_aload 0 (rk_gR 5 2 (rk_iload 2 (rk_ci (0) (rk_iast (rk_iinc 2 (1) (kX5_gatherNear g R 2)))))))))) ls st σ := rfl
theorem oX5_gatherNear_2 {g : rk_G} {R : rk_R} : aX5_gatherNear g R 2 (bX5_gatherNear_2 g R) := (rk_iload_n_ok dX5_gatherNear_2 rfl (rk_bipush_ok dX5_gatherNear_3 (by decide) (rk_icmp_ge_ok (pc' := 21) dX5_gatherNear_5 (by decide) (rk_iconst_ok dX5_gatherNear_21 (by decide) (rk_istore_n_ok dX5_gatherNear_22 rfl (by decide) rk_cut_ok)) (rk_aload_n_ok dX5_gatherNear_8 rfl (rk_gR_ok dX5_gatherNear_9 rfl iX5 (by decide) rfl wfX5_15 (rk_iload_n_ok dX5_gatherNear_12 rfl (rk_iconst_ok dX5_gatherNear_13 (by decide) (rk_iast_ok dX5_gatherNear_14 (rk_iinc_ok dX5_gatherNear_15 (by decide) (by decide) (rk_goto_ok (pc' := 2) dX5_gatherNear_18 (by decide) rk_cut_ok))))))))))
def bX5_gatherNear_0 (g : rk_G) (R : rk_R) : rk_K := (rk_ci (0) (rk_istore 2 (kX5_gatherNear g R 2)))
theorem eX5_gatherNear_0 (g : rk_G) (R : rk_R) (ls st : List Value) (σ : rk_M) : bX5_gatherNear_0 g R ls st σ = (rk_ci (0) (rk_istore 2 (kX5_gatherNear g R 2))) ls st σ := rfl
theorem oX5_gatherNear_0 {g : rk_G} {R : rk_R} : aX5_gatherNear g R 0 (bX5_gatherNear_0 g R) := (rk_iconst_ok dX5_gatherNear_0 (by decide) (rk_istore_n_ok dX5_gatherNear_1 rfl (by decide) rk_cut_ok))
theorem dX6_info_0 : decode cX6_info 0 = .ok (.aload_n 0, 1) := by decide +kernel
theorem dX6_info_1 : decode cX6_info 1 = .ok (.getfield 10, 3) := by decide +kernel
theorem dX6_info_4 : decode cX6_info 4 = .ok (.iload_n 1, 1) := by decide +kernel
theorem dX6_info_5 : decode cX6_info 5 = .ok (.invokevirtual 76, 3) := by decide +kernel
theorem dX6_info_8 : decode cX6_info 8 = .ok (.ifCond .ne 6, 3) := by decide +kernel
theorem dX6_info_11 : decode cX6_info 11 = .ok (.bipush (-2), 2) := by decide +kernel
theorem dX6_info_13 : decode cX6_info 13 = .ok (.ireturn, 1) := by decide +kernel
theorem dX6_info_14 : decode cX6_info 14 = .ok (.iload_n 2, 1) := by decide +kernel
theorem dX6_info_15 : decode cX6_info 15 = .ok (.tableswitch 119 0 6 #[41, 51, 61, 71, 81, 91, 109], 41) := by decide +kernel
theorem dX6_info_56 : decode cX6_info 56 = .ok (.aload_n 0, 1) := by decide +kernel
theorem dX6_info_57 : decode cX6_info 57 = .ok (.getfield 10, 3) := by decide +kernel
theorem dX6_info_60 : decode cX6_info 60 = .ok (.getfield 122, 3) := by decide +kernel
theorem dX6_info_63 : decode cX6_info 63 = .ok (.iload_n 1, 1) := by decide +kernel
theorem dX6_info_64 : decode cX6_info 64 = .ok (.iaload, 1) := by decide +kernel
theorem dX6_info_65 : decode cX6_info 65 = .ok (.ireturn, 1) := by decide +kernel
theorem dX6_info_66 : decode cX6_info 66 = .ok (.aload_n 0, 1) := by decide +kernel
theorem dX6_info_67 : decode cX6_info 67 = .ok (.getfield 10, 3) := by decide +kernel
theorem dX6_info_70 : decode cX6_info 70 = .ok (.getfield 125, 3) := by decide +kernel
theorem dX6_info_73 : decode cX6_info 73 = .ok (.iload_n 1, 1) := by decide +kernel
theorem dX6_info_74 : decode cX6_info 74 = .ok (.iaload, 1) := by decide +kernel
theorem dX6_info_75 : decode cX6_info 75 = .ok (.ireturn, 1) := by decide +kernel
theorem dX6_info_76 : decode cX6_info 76 = .ok (.aload_n 0, 1) := by decide +kernel
theorem dX6_info_77 : decode cX6_info 77 = .ok (.getfield 10, 3) := by decide +kernel
theorem dX6_info_80 : decode cX6_info 80 = .ok (.getfield 83, 3) := by decide +kernel
theorem dX6_info_83 : decode cX6_info 83 = .ok (.iload_n 1, 1) := by decide +kernel
theorem dX6_info_84 : decode cX6_info 84 = .ok (.iaload, 1) := by decide +kernel
theorem dX6_info_85 : decode cX6_info 85 = .ok (.ireturn, 1) := by decide +kernel
theorem dX6_info_86 : decode cX6_info 86 = .ok (.aload_n 0, 1) := by decide +kernel
theorem dX6_info_87 : decode cX6_info 87 = .ok (.getfield 10, 3) := by decide +kernel
theorem dX6_info_90 : decode cX6_info 90 = .ok (.getfield 90, 3) := by decide +kernel
theorem dX6_info_93 : decode cX6_info 93 = .ok (.iload_n 1, 1) := by decide +kernel
theorem dX6_info_94 : decode cX6_info 94 = .ok (.iaload, 1) := by decide +kernel
theorem dX6_info_95 : decode cX6_info 95 = .ok (.ireturn, 1) := by decide +kernel
theorem dX6_info_96 : decode cX6_info 96 = .ok (.aload_n 0, 1) := by decide +kernel
theorem dX6_info_97 : decode cX6_info 97 = .ok (.getfield 10, 3) := by decide +kernel
theorem dX6_info_100 : decode cX6_info 100 = .ok (.getfield 128, 3) := by decide +kernel
theorem dX6_info_103 : decode cX6_info 103 = .ok (.iload_n 1, 1) := by decide +kernel
theorem dX6_info_104 : decode cX6_info 104 = .ok (.iaload, 1) := by decide +kernel
theorem dX6_info_105 : decode cX6_info 105 = .ok (.ireturn, 1) := by decide +kernel
theorem dX6_info_106 : decode cX6_info 106 = .ok (.aload_n 0, 1) := by decide +kernel
theorem dX6_info_107 : decode cX6_info 107 = .ok (.getfield 10, 3) := by decide +kernel
theorem dX6_info_110 : decode cX6_info 110 = .ok (.iload_n 1, 1) := by decide +kernel
theorem dX6_info_111 : decode cX6_info 111 = .ok (.aload_n 0, 1) := by decide +kernel
theorem dX6_info_112 : decode cX6_info 112 = .ok (.getfield 10, 3) := by decide +kernel
theorem dX6_info_115 : decode cX6_info 115 = .ok (.getfield 90, 3) := by decide +kernel
theorem dX6_info_118 : decode cX6_info 118 = .ok (.iload_n 1, 1) := by decide +kernel
theorem dX6_info_119 : decode cX6_info 119 = .ok (.iaload, 1) := by decide +kernel
theorem dX6_info_120 : decode cX6_info 120 = .ok (.invokevirtual 131, 3) := by decide +kernel
theorem dX6_info_123 : decode cX6_info 123 = .ok (.ireturn, 1) := by decide +kernel
theorem dX6_info_124 : decode cX6_info 124 = .ok (.aload_n 0, 1) := by decide +kernel
theorem dX6_info_125 : decode cX6_info 125 = .ok (.getfield 30, 3) := by decide +kernel
theorem dX6_info_128 : decode cX6_info 128 = .ok (.getfield 134, 3) := by decide +kernel
theorem dX6_info_131 : decode cX6_info 131 = .ok (.iload_n 1, 1) := by decide +kernel
theorem dX6_info_132 : decode cX6_info 132 = .ok (.iaload, 1) := by decide +kernel
theorem dX6_info_133 : decode cX6_info 133 = .ok (.ireturn, 1) := by decide +kernel
theorem dX6_info_134 : decode cX6_info 134 = .ok (.bipush (-2), 2) := by decide +kernel
theorem dX6_info_136 : decode cX6_info 136 = .ok (.ireturn, 1) := by decide +kernel
abbrev kX6_info (g : rk_G) (R : rk_R) (pc : Nat) : rk_K := rk_cut g cX6_info 3 (some .int) RX6 1 R pc
abbrev aX6_info (g : rk_G) (R : rk_R) (pc : Nat) (K : rk_K) : Prop := rk_AK g cX6_info 3 (some .int) RX6 1 R pc K
abbrev sX6_info (g : rk_G) (vs : List Value) (σ : rk_M) (R : rk_R) : Prop := rk_does g yX6_info cX6_info 3 (some .int) 1 vs σ R
abbrev tX6_info (g : rk_G) (R : rk_R) (pc : Nat) (ls st : List Value) (σ : rk_M) : Prop := rk_At g cX6_info 3 (some .int) RX6 1 R pc ls st σ
def bX6_info_0 (g : rk_G) (R : rk_R) : rk_K := (rk_aload 0 (rk_gR 6 0 (rk_iload 1 (rk_cV g 1 2 yX2_hasRoad cX2_hasRoad 2 (some .boolean) 0 (rk_if_ne (rk_iload 2 (rk_sw 0 [(rk_aload 0 (rk_gR 6 0 (rk_gR 2 2 (rk_iload 1 (rk_iald (rk_iret R)))))), (rk_aload 0 (rk_gR 6 0 (rk_gR 2 3 (rk_iload 1 (rk_iald (rk_iret R)))))), (rk_aload 0 (rk_gR 6 0 (rk_gR 2 4 (rk_iload 1 (rk_iald (rk_iret R)))))), (rk_aload 0 (rk_gR 6 0 (rk_gR 2 5 (rk_iload 1 (rk_iald (rk_iret R)))))), (rk_aload 0 (rk_gR 6 0 (rk_gR 2 6 (rk_iload 1 (rk_iald (rk_iret R)))))), (rk_aload 0 (rk_gR 6 0 (rk_iload 1 (rk_aload 0 (rk_gR 6 0 (rk_gR 2 5 (rk_iload 1 (rk_iald (rk_cV g 2 2 yX2_worthOf cX2_worthOf 4 (some .int) 0 (rk_iret R)))))))))), (rk_aload 0 (rk_gR 6 2 (rk_gR 4 0 (rk_iload 1 (rk_iald (rk_iret R))))))] (rk_ci (-2) (rk_iret R)))) (rk_ci (-2) (rk_iret R)))))))
theorem eX6_info_0 (g : rk_G) (R : rk_R) (ls st : List Value) (σ : rk_M) : bX6_info_0 g R ls st σ = (rk_aload 0 (rk_gR 6 0 (rk_iload 1 (rk_cV g 1 2 yX2_hasRoad cX2_hasRoad 2 (some .boolean) 0 (rk_if_ne (rk_iload 2 (rk_sw 0 [(rk_aload 0 (rk_gR 6 0 (rk_gR 2 2 (rk_iload 1 (rk_iald (rk_iret R)))))), (rk_aload 0 (rk_gR 6 0 (rk_gR 2 3 (rk_iload 1 (rk_iald (rk_iret R)))))), (rk_aload 0 (rk_gR 6 0 (rk_gR 2 4 (rk_iload 1 (rk_iald (rk_iret R)))))), (rk_aload 0 (rk_gR 6 0 (rk_gR 2 5 (rk_iload 1 (rk_iald (rk_iret R)))))), (rk_aload 0 (rk_gR 6 0 (rk_gR 2 6 (rk_iload 1 (rk_iald (rk_iret R)))))), (rk_aload 0 (rk_gR 6 0 (rk_iload 1 (rk_aload 0 (rk_gR 6 0 (rk_gR 2 5 (rk_iload 1 (rk_iald (rk_cV g 2 2 yX2_worthOf cX2_worthOf 4 (some .int) 0 (rk_iret R)))))))))), (rk_aload 0 (rk_gR 6 2 (rk_gR 4 0 (rk_iload 1 (rk_iald (rk_iret R))))))] (rk_ci (-2) (rk_iret R)))) (rk_ci (-2) (rk_iret R))))))) ls st σ := rfl
theorem oX6_info_0 {g : rk_G} {R : rk_R} : aX6_info g R 0 (bX6_info_0 g R) := (rk_aload_n_ok dX6_info_0 rfl (rk_gR_ok dX6_info_1 rfl iX6 (by decide) rfl wfX6_10 (rk_iload_n_ok dX6_info_4 rfl (rk_cV_ok dX6_info_5 rfl rfl npX2_hasRoad wmX6_76 wvX2_hasRoad weX2_hasRoad wiX2 wdX2_hasRoad (by decide) (by decide) (rk_if_ne_ok (pc' := 14) dX6_info_8 (by decide) (rk_iload_n_ok dX6_info_14 rfl (rk_table_ok (pc' := 134) (tg := [56, 66, 76, 86, 96, 106, 124]) dX6_info_15 rfl (by decide) rfl (by decide) (fun j t K ht hk => match j, t, K, ht, hk with | 0, _, _, ht, hk => by cases ht; cases hk; exact (rk_aload_n_ok dX6_info_56 rfl (rk_gR_ok dX6_info_57 rfl iX6 (by decide) rfl wfX6_10 (rk_gR_ok dX6_info_60 rfl iX2 (by decide) rfl wfX6_122 (rk_iload_n_ok dX6_info_63 rfl (rk_iald_ok dX6_info_64 (rk_iret_ok rfl dX6_info_65)))))) | 1, _, _, ht, hk => by cases ht; cases hk; exact (rk_aload_n_ok dX6_info_66 rfl (rk_gR_ok dX6_info_67 rfl iX6 (by decide) rfl wfX6_10 (rk_gR_ok dX6_info_70 rfl iX2 (by decide) rfl wfX6_125 (rk_iload_n_ok dX6_info_73 rfl (rk_iald_ok dX6_info_74 (rk_iret_ok rfl dX6_info_75)))))) | 2, _, _, ht, hk => by cases ht; cases hk; exact (rk_aload_n_ok dX6_info_76 rfl (rk_gR_ok dX6_info_77 rfl iX6 (by decide) rfl wfX6_10 (rk_gR_ok dX6_info_80 rfl iX2 (by decide) rfl wfX6_83 (rk_iload_n_ok dX6_info_83 rfl (rk_iald_ok dX6_info_84 (rk_iret_ok rfl dX6_info_85)))))) | 3, _, _, ht, hk => by cases ht; cases hk; exact (rk_aload_n_ok dX6_info_86 rfl (rk_gR_ok dX6_info_87 rfl iX6 (by decide) rfl wfX6_10 (rk_gR_ok dX6_info_90 rfl iX2 (by decide) rfl wfX6_90 (rk_iload_n_ok dX6_info_93 rfl (rk_iald_ok dX6_info_94 (rk_iret_ok rfl dX6_info_95)))))) | 4, _, _, ht, hk => by cases ht; cases hk; exact (rk_aload_n_ok dX6_info_96 rfl (rk_gR_ok dX6_info_97 rfl iX6 (by decide) rfl wfX6_10 (rk_gR_ok dX6_info_100 rfl iX2 (by decide) rfl wfX6_128 (rk_iload_n_ok dX6_info_103 rfl (rk_iald_ok dX6_info_104 (rk_iret_ok rfl dX6_info_105)))))) | 5, _, _, ht, hk => by cases ht; cases hk; exact (rk_aload_n_ok dX6_info_106 rfl (rk_gR_ok dX6_info_107 rfl iX6 (by decide) rfl wfX6_10 (rk_iload_n_ok dX6_info_110 rfl (rk_aload_n_ok dX6_info_111 rfl (rk_gR_ok dX6_info_112 rfl iX6 (by decide) rfl wfX6_10 (rk_gR_ok dX6_info_115 rfl iX2 (by decide) rfl wfX6_90 (rk_iload_n_ok dX6_info_118 rfl (rk_iald_ok dX6_info_119 (rk_cV_ok dX6_info_120 rfl rfl npX2_worthOf wmX6_131 wvX2_worthOf weX2_worthOf wiX2 wdX2_worthOf (by decide) (by decide) (rk_iret_ok rfl dX6_info_123)))))))))) | 6, _, _, ht, hk => by cases ht; cases hk; exact (rk_aload_n_ok dX6_info_124 rfl (rk_gR_ok dX6_info_125 rfl iX6 (by decide) rfl wfX6_30 (rk_gR_ok dX6_info_128 rfl iX4 (by decide) rfl wfX6_134 (rk_iload_n_ok dX6_info_131 rfl (rk_iald_ok dX6_info_132 (rk_iret_ok rfl dX6_info_133)))))) | (j + 7), _, _, ht, hk => by cases ht) (rk_bipush_ok dX6_info_134 (by decide) (rk_iret_ok rfl dX6_info_136)))) (rk_bipush_ok dX6_info_11 (by decide) (rk_iret_ok rfl dX6_info_13)))))))
theorem dX6_joined_0 : decode cX6_joined 0 = .ok (.aload_n 0, 1) := by decide +kernel
theorem dX6_joined_1 : decode cX6_joined 1 = .ok (.getfield 10, 3) := by decide +kernel
theorem dX6_joined_4 : decode cX6_joined 4 = .ok (.iload_n 1, 1) := by decide +kernel
theorem dX6_joined_5 : decode cX6_joined 5 = .ok (.invokevirtual 110, 3) := by decide +kernel
theorem dX6_joined_8 : decode cX6_joined 8 = .ok (.ifCond .eq 14, 3) := by decide +kernel
theorem dX6_joined_11 : decode cX6_joined 11 = .ok (.aload_n 0, 1) := by decide +kernel
theorem dX6_joined_12 : decode cX6_joined 12 = .ok (.getfield 10, 3) := by decide +kernel
theorem dX6_joined_15 : decode cX6_joined 15 = .ok (.iload_n 2, 1) := by decide +kernel
theorem dX6_joined_16 : decode cX6_joined 16 = .ok (.invokevirtual 76, 3) := by decide +kernel
theorem dX6_joined_19 : decode cX6_joined 19 = .ok (.ifCond .ne 6, 3) := by decide +kernel
theorem dX6_joined_22 : decode cX6_joined 22 = .ok (.bipush (-2), 2) := by decide +kernel
theorem dX6_joined_24 : decode cX6_joined 24 = .ok (.ireturn, 1) := by decide +kernel
theorem dX6_joined_25 : decode cX6_joined 25 = .ok (.aload_n 0, 1) := by decide +kernel
theorem dX6_joined_26 : decode cX6_joined 26 = .ok (.getfield 10, 3) := by decide +kernel
theorem dX6_joined_29 : decode cX6_joined 29 = .ok (.iload_n 2, 1) := by decide +kernel
theorem dX6_joined_30 : decode cX6_joined 30 = .ok (.iload_n 1, 1) := by decide +kernel
theorem dX6_joined_31 : decode cX6_joined 31 = .ok (.invokevirtual 137, 3) := by decide +kernel
theorem dX6_joined_34 : decode cX6_joined 34 = .ok (.ifCond .ne 6, 3) := by decide +kernel
theorem dX6_joined_37 : decode cX6_joined 37 = .ok (.bipush (-3), 2) := by decide +kernel
theorem dX6_joined_39 : decode cX6_joined 39 = .ok (.ireturn, 1) := by decide +kernel
theorem dX6_joined_40 : decode cX6_joined 40 = .ok (.aload_n 0, 1) := by decide +kernel
theorem dX6_joined_41 : decode cX6_joined 41 = .ok (.getfield 21, 3) := by decide +kernel
theorem dX6_joined_44 : decode cX6_joined 44 = .ok (.iload_n 1, 1) := by decide +kernel
theorem dX6_joined_45 : decode cX6_joined 45 = .ok (.iload_n 2, 1) := by decide +kernel
theorem dX6_joined_46 : decode cX6_joined 46 = .ok (.invokevirtual 141, 3) := by decide +kernel
theorem dX6_joined_49 : decode cX6_joined 49 = .ok (.ireturn, 1) := by decide +kernel
abbrev kX6_joined (g : rk_G) (R : rk_R) (pc : Nat) : rk_K := rk_cut g cX6_joined 3 (some .int) RX6 1 R pc
abbrev aX6_joined (g : rk_G) (R : rk_R) (pc : Nat) (K : rk_K) : Prop := rk_AK g cX6_joined 3 (some .int) RX6 1 R pc K
abbrev sX6_joined (g : rk_G) (vs : List Value) (σ : rk_M) (R : rk_R) : Prop := rk_does g yX6_joined cX6_joined 3 (some .int) 1 vs σ R
abbrev tX6_joined (g : rk_G) (R : rk_R) (pc : Nat) (ls st : List Value) (σ : rk_M) : Prop := rk_At g cX6_joined 3 (some .int) RX6 1 R pc ls st σ
def bX6_joined_22 (g : rk_G) (R : rk_R) : rk_K := (rk_ci (-2) (rk_iret R))
theorem eX6_joined_22 (g : rk_G) (R : rk_R) (ls st : List Value) (σ : rk_M) : bX6_joined_22 g R ls st σ = (rk_ci (-2) (rk_iret R)) ls st σ := rfl
theorem oX6_joined_22 {g : rk_G} {R : rk_R} : aX6_joined g R 22 (bX6_joined_22 g R) := (rk_bipush_ok dX6_joined_22 (by decide) (rk_iret_ok rfl dX6_joined_24))
def bX6_joined_0 (g : rk_G) (R : rk_R) : rk_K := (rk_aload 0 (rk_gR 6 0 (rk_iload 1 (rk_cV g 1 2 yX2_hasMeeting cX2_hasMeeting 2 (some .boolean) 0 (rk_if_eq (bX6_joined_22 g R) (rk_aload 0 (rk_gR 6 0 (rk_iload 2 (rk_cV g 1 2 yX2_hasRoad cX2_hasRoad 2 (some .boolean) 0 (rk_if_ne (rk_aload 0 (rk_gR 6 0 (rk_iload 2 (rk_iload 1 (rk_cV g 2 2 yX2_isThere cX2_isThere 3 (some .boolean) 0 (rk_if_ne (rk_aload 0 (rk_gR 6 1 (rk_iload 1 (rk_iload 2 (rk_cV g 2 1 yX1_partner cX1_partner 3 (some .int) 0 (rk_iret R)))))) (rk_ci (-3) (rk_iret R)))))))) (bX6_joined_22 g R)))))))))))
theorem eX6_joined_0 (g : rk_G) (R : rk_R) (ls st : List Value) (σ : rk_M) : bX6_joined_0 g R ls st σ = (rk_aload 0 (rk_gR 6 0 (rk_iload 1 (rk_cV g 1 2 yX2_hasMeeting cX2_hasMeeting 2 (some .boolean) 0 (rk_if_eq (bX6_joined_22 g R) (rk_aload 0 (rk_gR 6 0 (rk_iload 2 (rk_cV g 1 2 yX2_hasRoad cX2_hasRoad 2 (some .boolean) 0 (rk_if_ne (rk_aload 0 (rk_gR 6 0 (rk_iload 2 (rk_iload 1 (rk_cV g 2 2 yX2_isThere cX2_isThere 3 (some .boolean) 0 (rk_if_ne (rk_aload 0 (rk_gR 6 1 (rk_iload 1 (rk_iload 2 (rk_cV g 2 1 yX1_partner cX1_partner 3 (some .int) 0 (rk_iret R)))))) (rk_ci (-3) (rk_iret R)))))))) (bX6_joined_22 g R))))))))))) ls st σ := rfl
theorem oX6_joined_0 {g : rk_G} {R : rk_R} : aX6_joined g R 0 (bX6_joined_0 g R) := (rk_aload_n_ok dX6_joined_0 rfl (rk_gR_ok dX6_joined_1 rfl iX6 (by decide) rfl wfX6_10 (rk_iload_n_ok dX6_joined_4 rfl (rk_cV_ok dX6_joined_5 rfl rfl npX2_hasMeeting wmX6_110 wvX2_hasMeeting weX2_hasMeeting wiX2 wdX2_hasMeeting (by decide) (by decide) (rk_if_eq_ok (pc' := 22) dX6_joined_8 (by decide) oX6_joined_22 (rk_aload_n_ok dX6_joined_11 rfl (rk_gR_ok dX6_joined_12 rfl iX6 (by decide) rfl wfX6_10 (rk_iload_n_ok dX6_joined_15 rfl (rk_cV_ok dX6_joined_16 rfl rfl npX2_hasRoad wmX6_76 wvX2_hasRoad weX2_hasRoad wiX2 wdX2_hasRoad (by decide) (by decide) (rk_if_ne_ok (pc' := 25) dX6_joined_19 (by decide) (rk_aload_n_ok dX6_joined_25 rfl (rk_gR_ok dX6_joined_26 rfl iX6 (by decide) rfl wfX6_10 (rk_iload_n_ok dX6_joined_29 rfl (rk_iload_n_ok dX6_joined_30 rfl (rk_cV_ok dX6_joined_31 rfl rfl npX2_isThere wmX6_137 wvX2_isThere weX2_isThere wiX2 wdX2_isThere (by decide) (by decide) (rk_if_ne_ok (pc' := 40) dX6_joined_34 (by decide) (rk_aload_n_ok dX6_joined_40 rfl (rk_gR_ok dX6_joined_41 rfl iX6 (by decide) rfl wfX6_21 (rk_iload_n_ok dX6_joined_44 rfl (rk_iload_n_ok dX6_joined_45 rfl (rk_cV_ok dX6_joined_46 rfl rfl npX1_partner wmX6_141 wvX1_partner weX1_partner wiX1 wdX1_partner (by decide) (by decide) (rk_iret_ok rfl dX6_joined_49)))))) (rk_bipush_ok dX6_joined_37 (by decide) (rk_iret_ok rfl dX6_joined_39)))))))) oX6_joined_22))))))))))
theorem dX6_stroke_0 : decode cX6_stroke 0 = .ok (.aload_n 0, 1) := by decide +kernel
theorem dX6_stroke_1 : decode cX6_stroke 1 = .ok (.getfield 30, 3) := by decide +kernel
theorem dX6_stroke_4 : decode cX6_stroke 4 = .ok (.iload_n 1, 1) := by decide +kernel
theorem dX6_stroke_5 : decode cX6_stroke 5 = .ok (.invokevirtual 148, 3) := by decide +kernel
theorem dX6_stroke_8 : decode cX6_stroke 8 = .ok (.ifCond .ne 6, 3) := by decide +kernel
theorem dX6_stroke_11 : decode cX6_stroke 11 = .ok (.bipush (-2), 2) := by decide +kernel
theorem dX6_stroke_13 : decode cX6_stroke 13 = .ok (.ireturn, 1) := by decide +kernel
theorem dX6_stroke_14 : decode cX6_stroke 14 = .ok (.iload_n 2, 1) := by decide +kernel
theorem dX6_stroke_15 : decode cX6_stroke 15 = .ok (.tableswitch 121 0 6 #[41, 54, 64, 74, 91, 101, 111], 41) := by decide +kernel
theorem dX6_stroke_56 : decode cX6_stroke 56 = .ok (.aload_n 0, 1) := by decide +kernel
theorem dX6_stroke_57 : decode cX6_stroke 57 = .ok (.getfield 30, 3) := by decide +kernel
theorem dX6_stroke_60 : decode cX6_stroke 60 = .ok (.getfield 151, 3) := by decide +kernel
theorem dX6_stroke_63 : decode cX6_stroke 63 = .ok (.iload_n 1, 1) := by decide +kernel
theorem dX6_stroke_64 : decode cX6_stroke 64 = .ok (.iaload, 1) := by decide +kernel
theorem dX6_stroke_65 : decode cX6_stroke 65 = .ok (.invokestatic 154, 3) := by decide +kernel
theorem dX6_stroke_68 : decode cX6_stroke 68 = .ok (.ireturn, 1) := by decide +kernel
theorem dX6_stroke_69 : decode cX6_stroke 69 = .ok (.aload_n 0, 1) := by decide +kernel
theorem dX6_stroke_70 : decode cX6_stroke 70 = .ok (.getfield 30, 3) := by decide +kernel
theorem dX6_stroke_73 : decode cX6_stroke 73 = .ok (.getfield 159, 3) := by decide +kernel
theorem dX6_stroke_76 : decode cX6_stroke 76 = .ok (.iload_n 1, 1) := by decide +kernel
theorem dX6_stroke_77 : decode cX6_stroke 77 = .ok (.iaload, 1) := by decide +kernel
theorem dX6_stroke_78 : decode cX6_stroke 78 = .ok (.ireturn, 1) := by decide +kernel
theorem dX6_stroke_79 : decode cX6_stroke 79 = .ok (.aload_n 0, 1) := by decide +kernel
theorem dX6_stroke_80 : decode cX6_stroke 80 = .ok (.getfield 30, 3) := by decide +kernel
theorem dX6_stroke_83 : decode cX6_stroke 83 = .ok (.getfield 160, 3) := by decide +kernel
theorem dX6_stroke_86 : decode cX6_stroke 86 = .ok (.iload_n 1, 1) := by decide +kernel
theorem dX6_stroke_87 : decode cX6_stroke 87 = .ok (.iaload, 1) := by decide +kernel
theorem dX6_stroke_88 : decode cX6_stroke 88 = .ok (.ireturn, 1) := by decide +kernel
theorem dX6_stroke_89 : decode cX6_stroke 89 = .ok (.aload_n 0, 1) := by decide +kernel
theorem dX6_stroke_90 : decode cX6_stroke 90 = .ok (.getfield 30, 3) := by decide +kernel
theorem dX6_stroke_93 : decode cX6_stroke 93 = .ok (.iload_n 1, 1) := by decide +kernel
theorem dX6_stroke_94 : decode cX6_stroke 94 = .ok (.invokevirtual 163, 3) := by decide +kernel
theorem dX6_stroke_97 : decode cX6_stroke 97 = .ok (.ifCond .eq 7, 3) := by decide +kernel
theorem dX6_stroke_100 : decode cX6_stroke 100 = .ok (.iconst 1, 1) := by decide +kernel
theorem dX6_stroke_101 : decode cX6_stroke 101 = .ok (.goto 4, 3) := by decide +kernel
theorem dX6_stroke_104 : decode cX6_stroke 104 = .ok (.iconst 0, 1) := by decide +kernel
theorem dX6_stroke_105 : decode cX6_stroke 105 = .ok (.ireturn, 1) := by decide +kernel
theorem dX6_stroke_106 : decode cX6_stroke 106 = .ok (.aload_n 0, 1) := by decide +kernel
theorem dX6_stroke_107 : decode cX6_stroke 107 = .ok (.getfield 30, 3) := by decide +kernel
theorem dX6_stroke_110 : decode cX6_stroke 110 = .ok (.getfield 166, 3) := by decide +kernel
theorem dX6_stroke_113 : decode cX6_stroke 113 = .ok (.iload_n 1, 1) := by decide +kernel
theorem dX6_stroke_114 : decode cX6_stroke 114 = .ok (.iaload, 1) := by decide +kernel
theorem dX6_stroke_115 : decode cX6_stroke 115 = .ok (.ireturn, 1) := by decide +kernel
theorem dX6_stroke_116 : decode cX6_stroke 116 = .ok (.aload_n 0, 1) := by decide +kernel
theorem dX6_stroke_117 : decode cX6_stroke 117 = .ok (.getfield 30, 3) := by decide +kernel
theorem dX6_stroke_120 : decode cX6_stroke 120 = .ok (.getfield 169, 3) := by decide +kernel
theorem dX6_stroke_123 : decode cX6_stroke 123 = .ok (.iload_n 1, 1) := by decide +kernel
theorem dX6_stroke_124 : decode cX6_stroke 124 = .ok (.iaload, 1) := by decide +kernel
theorem dX6_stroke_125 : decode cX6_stroke 125 = .ok (.ireturn, 1) := by decide +kernel
theorem dX6_stroke_126 : decode cX6_stroke 126 = .ok (.aload_n 0, 1) := by decide +kernel
theorem dX6_stroke_127 : decode cX6_stroke 127 = .ok (.getfield 30, 3) := by decide +kernel
theorem dX6_stroke_130 : decode cX6_stroke 130 = .ok (.getfield 151, 3) := by decide +kernel
theorem dX6_stroke_133 : decode cX6_stroke 133 = .ok (.iload_n 1, 1) := by decide +kernel
theorem dX6_stroke_134 : decode cX6_stroke 134 = .ok (.iaload, 1) := by decide +kernel
theorem dX6_stroke_135 : decode cX6_stroke 135 = .ok (.ireturn, 1) := by decide +kernel
theorem dX6_stroke_136 : decode cX6_stroke 136 = .ok (.bipush (-2), 2) := by decide +kernel
theorem dX6_stroke_138 : decode cX6_stroke 138 = .ok (.ireturn, 1) := by decide +kernel
abbrev kX6_stroke (g : rk_G) (R : rk_R) (pc : Nat) : rk_K := rk_cut g cX6_stroke 3 (some .int) RX6 1 R pc
abbrev aX6_stroke (g : rk_G) (R : rk_R) (pc : Nat) (K : rk_K) : Prop := rk_AK g cX6_stroke 3 (some .int) RX6 1 R pc K
abbrev sX6_stroke (g : rk_G) (vs : List Value) (σ : rk_M) (R : rk_R) : Prop := rk_does g yX6_stroke cX6_stroke 3 (some .int) 1 vs σ R
abbrev tX6_stroke (g : rk_G) (R : rk_R) (pc : Nat) (ls st : List Value) (σ : rk_M) : Prop := rk_At g cX6_stroke 3 (some .int) RX6 1 R pc ls st σ
def bX6_stroke_105 (g : rk_G) (R : rk_R) : rk_K := (rk_iret R)
theorem eX6_stroke_105 (g : rk_G) (R : rk_R) (ls st : List Value) (σ : rk_M) : bX6_stroke_105 g R ls st σ = (rk_iret R) ls st σ := rfl
theorem oX6_stroke_105 {g : rk_G} {R : rk_R} : aX6_stroke g R 105 (bX6_stroke_105 g R) := (rk_iret_ok rfl dX6_stroke_105)
def bX6_stroke_0 (g : rk_G) (R : rk_R) : rk_K := (rk_aload 0 (rk_gR 6 2 (rk_iload 1 (rk_cV g 1 4 yX4_has cX4_has 2 (some .boolean) 0 (rk_if_ne (rk_iload 2 (rk_sw 0 [(rk_aload 0 (rk_gR 6 2 (rk_gR 4 1 (rk_iload 1 (rk_iald (rk_cS g 1 yJ6_bitCount_0f7a4 cJ6_bitCount_0f7a4 1 (some .int) 0 (rk_iret R))))))), (rk_aload 0 (rk_gR 6 2 (rk_gR 4 2 (rk_iload 1 (rk_iald (rk_iret R)))))), (rk_aload 0 (rk_gR 6 2 (rk_gR 4 3 (rk_iload 1 (rk_iald (rk_iret R)))))), (rk_aload 0 (rk_gR 6 2 (rk_iload 1 (rk_cV g 1 4 yX4_isClosed cX4_isClosed 2 (some .boolean) 0 (rk_if_eq (rk_ci (0) (bX6_stroke_105 g R)) (rk_ci (1) (bX6_stroke_105 g R))))))), (rk_aload 0 (rk_gR 6 2 (rk_gR 4 8 (rk_iload 1 (rk_iald (rk_iret R)))))), (rk_aload 0 (rk_gR 6 2 (rk_gR 4 9 (rk_iload 1 (rk_iald (rk_iret R)))))), (rk_aload 0 (rk_gR 6 2 (rk_gR 4 1 (rk_iload 1 (rk_iald (rk_iret R))))))] (rk_ci (-2) (rk_iret R)))) (rk_ci (-2) (rk_iret R)))))))
theorem eX6_stroke_0 (g : rk_G) (R : rk_R) (ls st : List Value) (σ : rk_M) : bX6_stroke_0 g R ls st σ = (rk_aload 0 (rk_gR 6 2 (rk_iload 1 (rk_cV g 1 4 yX4_has cX4_has 2 (some .boolean) 0 (rk_if_ne (rk_iload 2 (rk_sw 0 [(rk_aload 0 (rk_gR 6 2 (rk_gR 4 1 (rk_iload 1 (rk_iald (rk_cS g 1 yJ6_bitCount_0f7a4 cJ6_bitCount_0f7a4 1 (some .int) 0 (rk_iret R))))))), (rk_aload 0 (rk_gR 6 2 (rk_gR 4 2 (rk_iload 1 (rk_iald (rk_iret R)))))), (rk_aload 0 (rk_gR 6 2 (rk_gR 4 3 (rk_iload 1 (rk_iald (rk_iret R)))))), (rk_aload 0 (rk_gR 6 2 (rk_iload 1 (rk_cV g 1 4 yX4_isClosed cX4_isClosed 2 (some .boolean) 0 (rk_if_eq (rk_ci (0) (bX6_stroke_105 g R)) (rk_ci (1) (bX6_stroke_105 g R))))))), (rk_aload 0 (rk_gR 6 2 (rk_gR 4 8 (rk_iload 1 (rk_iald (rk_iret R)))))), (rk_aload 0 (rk_gR 6 2 (rk_gR 4 9 (rk_iload 1 (rk_iald (rk_iret R)))))), (rk_aload 0 (rk_gR 6 2 (rk_gR 4 1 (rk_iload 1 (rk_iald (rk_iret R))))))] (rk_ci (-2) (rk_iret R)))) (rk_ci (-2) (rk_iret R))))))) ls st σ := rfl
theorem oX6_stroke_0 {g : rk_G} {R : rk_R} : aX6_stroke g R 0 (bX6_stroke_0 g R) := (rk_aload_n_ok dX6_stroke_0 rfl (rk_gR_ok dX6_stroke_1 rfl iX6 (by decide) rfl wfX6_30 (rk_iload_n_ok dX6_stroke_4 rfl (rk_cV_ok dX6_stroke_5 rfl rfl npX4_has wmX6_148 wvX4_has weX4_has wiX4 wdX4_has (by decide) (by decide) (rk_if_ne_ok (pc' := 14) dX6_stroke_8 (by decide) (rk_iload_n_ok dX6_stroke_14 rfl (rk_table_ok (pc' := 136) (tg := [56, 69, 79, 89, 106, 116, 126]) dX6_stroke_15 rfl (by decide) rfl (by decide) (fun j t K ht hk => match j, t, K, ht, hk with | 0, _, _, ht, hk => by cases ht; cases hk; exact (rk_aload_n_ok dX6_stroke_56 rfl (rk_gR_ok dX6_stroke_57 rfl iX6 (by decide) rfl wfX6_30 (rk_gR_ok dX6_stroke_60 rfl iX4 (by decide) rfl wfX6_151 (rk_iload_n_ok dX6_stroke_63 rfl (rk_iald_ok dX6_stroke_64 (rk_cS_ok dX6_stroke_65 npJ6_bitCount_0f7a4 wmX6_154 wtJ6_bitCount_0f7a4 wiJ6 wdJ6_bitCount_0f7a4 (by decide) (by decide) (rk_iret_ok rfl dX6_stroke_68))))))) | 1, _, _, ht, hk => by cases ht; cases hk; exact (rk_aload_n_ok dX6_stroke_69 rfl (rk_gR_ok dX6_stroke_70 rfl iX6 (by decide) rfl wfX6_30 (rk_gR_ok dX6_stroke_73 rfl iX4 (by decide) rfl wfX6_159 (rk_iload_n_ok dX6_stroke_76 rfl (rk_iald_ok dX6_stroke_77 (rk_iret_ok rfl dX6_stroke_78)))))) | 2, _, _, ht, hk => by cases ht; cases hk; exact (rk_aload_n_ok dX6_stroke_79 rfl (rk_gR_ok dX6_stroke_80 rfl iX6 (by decide) rfl wfX6_30 (rk_gR_ok dX6_stroke_83 rfl iX4 (by decide) rfl wfX6_160 (rk_iload_n_ok dX6_stroke_86 rfl (rk_iald_ok dX6_stroke_87 (rk_iret_ok rfl dX6_stroke_88)))))) | 3, _, _, ht, hk => by cases ht; cases hk; exact (rk_aload_n_ok dX6_stroke_89 rfl (rk_gR_ok dX6_stroke_90 rfl iX6 (by decide) rfl wfX6_30 (rk_iload_n_ok dX6_stroke_93 rfl (rk_cV_ok dX6_stroke_94 rfl rfl npX4_isClosed wmX6_163 wvX4_isClosed weX4_isClosed wiX4 wdX4_isClosed (by decide) (by decide) (rk_if_eq_ok (pc' := 104) dX6_stroke_97 (by decide) (rk_iconst_ok dX6_stroke_104 (by decide) oX6_stroke_105) (rk_iconst_ok dX6_stroke_100 (by decide) (rk_goto_ok (pc' := 105) dX6_stroke_101 (by decide) oX6_stroke_105))))))) | 4, _, _, ht, hk => by cases ht; cases hk; exact (rk_aload_n_ok dX6_stroke_106 rfl (rk_gR_ok dX6_stroke_107 rfl iX6 (by decide) rfl wfX6_30 (rk_gR_ok dX6_stroke_110 rfl iX4 (by decide) rfl wfX6_166 (rk_iload_n_ok dX6_stroke_113 rfl (rk_iald_ok dX6_stroke_114 (rk_iret_ok rfl dX6_stroke_115)))))) | 5, _, _, ht, hk => by cases ht; cases hk; exact (rk_aload_n_ok dX6_stroke_116 rfl (rk_gR_ok dX6_stroke_117 rfl iX6 (by decide) rfl wfX6_30 (rk_gR_ok dX6_stroke_120 rfl iX4 (by decide) rfl wfX6_169 (rk_iload_n_ok dX6_stroke_123 rfl (rk_iald_ok dX6_stroke_124 (rk_iret_ok rfl dX6_stroke_125)))))) | 6, _, _, ht, hk => by cases ht; cases hk; exact (rk_aload_n_ok dX6_stroke_126 rfl (rk_gR_ok dX6_stroke_127 rfl iX6 (by decide) rfl wfX6_30 (rk_gR_ok dX6_stroke_130 rfl iX4 (by decide) rfl wfX6_151 (rk_iload_n_ok dX6_stroke_133 rfl (rk_iald_ok dX6_stroke_134 (rk_iret_ok rfl dX6_stroke_135)))))) | (j + 7), _, _, ht, hk => by cases ht) (rk_bipush_ok dX6_stroke_136 (by decide) (rk_iret_ok rfl dX6_stroke_138)))) (rk_bipush_ok dX6_stroke_11 (by decide) (rk_iret_ok rfl dX6_stroke_13)))))))
theorem dX6_sheet_0 : decode cX6_sheet 0 = .ok (.iload_n 1, 1) := by decide +kernel
theorem dX6_sheet_1 : decode cX6_sheet 1 = .ok (.invokestatic 93, 3) := by decide +kernel
theorem dX6_sheet_4 : decode cX6_sheet 4 = .ok (.ifCond .eq 16, 3) := by decide +kernel
theorem dX6_sheet_7 : decode cX6_sheet 7 = .ok (.iload_n 2, 1) := by decide +kernel
theorem dX6_sheet_8 : decode cX6_sheet 8 = .ok (.invokestatic 212, 3) := by decide +kernel
theorem dX6_sheet_11 : decode cX6_sheet 11 = .ok (.ifCond .eq 9, 3) := by decide +kernel
theorem dX6_sheet_14 : decode cX6_sheet 14 = .ok (.iload_n 3, 1) := by decide +kernel
theorem dX6_sheet_15 : decode cX6_sheet 15 = .ok (.bipush 60, 2) := by decide +kernel
theorem dX6_sheet_17 : decode cX6_sheet 17 = .ok (.if_icmp .le 6, 3) := by decide +kernel
theorem dX6_sheet_20 : decode cX6_sheet 20 = .ok (.bipush (-2), 2) := by decide +kernel
theorem dX6_sheet_22 : decode cX6_sheet 22 = .ok (.ireturn, 1) := by decide +kernel
theorem dX6_sheet_23 : decode cX6_sheet 23 = .ok (.iload_n 3, 1) := by decide +kernel
theorem dX6_sheet_24 : decode cX6_sheet 24 = .ok (.ifCond .ge 9, 3) := by decide +kernel
theorem dX6_sheet_27 : decode cX6_sheet 27 = .ok (.aload_n 0, 1) := by decide +kernel
theorem dX6_sheet_28 : decode cX6_sheet 28 = .ok (.iconst 5, 1) := by decide +kernel
theorem dX6_sheet_29 : decode cX6_sheet 29 = .ok (.invokevirtual 100, 3) := by decide +kernel
theorem dX6_sheet_32 : decode cX6_sheet 32 = .ok (.ireturn, 1) := by decide +kernel
theorem dX6_sheet_33 : decode cX6_sheet 33 = .ok (.aload_n 0, 1) := by decide +kernel
theorem dX6_sheet_34 : decode cX6_sheet 34 = .ok (.getfield 52, 3) := by decide +kernel
theorem dX6_sheet_37 : decode cX6_sheet 37 = .ok (.iload_n 1, 1) := by decide +kernel
theorem dX6_sheet_38 : decode cX6_sheet 38 = .ok (.aaload, 1) := by decide +kernel
theorem dX6_sheet_39 : decode cX6_sheet 39 = .ok (.iload_n 2, 1) := by decide +kernel
theorem dX6_sheet_40 : decode cX6_sheet 40 = .ok (.iload_n 3, 1) := by decide +kernel
theorem dX6_sheet_41 : decode cX6_sheet 41 = .ok (.invokevirtual 215, 3) := by decide +kernel
theorem dX6_sheet_44 : decode cX6_sheet 44 = .ok (.iload_n 3, 1) := by decide +kernel
theorem dX6_sheet_45 : decode cX6_sheet 45 = .ok (.ireturn, 1) := by decide +kernel
abbrev kX6_sheet (g : rk_G) (R : rk_R) (pc : Nat) : rk_K := rk_cut g cX6_sheet 4 (some .int) RX6 1 R pc
abbrev aX6_sheet (g : rk_G) (R : rk_R) (pc : Nat) (K : rk_K) : Prop := rk_AK g cX6_sheet 4 (some .int) RX6 1 R pc K
abbrev sX6_sheet (g : rk_G) (vs : List Value) (σ : rk_M) (R : rk_R) : Prop := rk_does g yX6_sheet cX6_sheet 4 (some .int) 1 vs σ R
abbrev tX6_sheet (g : rk_G) (R : rk_R) (pc : Nat) (ls st : List Value) (σ : rk_M) : Prop := rk_At g cX6_sheet 4 (some .int) RX6 1 R pc ls st σ
def bX6_sheet_20 (g : rk_G) (R : rk_R) : rk_K := (rk_ci (-2) (rk_iret R))
theorem eX6_sheet_20 (g : rk_G) (R : rk_R) (ls st : List Value) (σ : rk_M) : bX6_sheet_20 g R ls st σ = (rk_ci (-2) (rk_iret R)) ls st σ := rfl
theorem oX6_sheet_20 {g : rk_G} {R : rk_R} : aX6_sheet g R 20 (bX6_sheet_20 g R) := (rk_bipush_ok dX6_sheet_20 (by decide) (rk_iret_ok rfl dX6_sheet_22))
def bX6_sheet_0 (g : rk_G) (R : rk_R) : rk_K := (rk_iload 1 (rk_cS g 1 yX6_isRow cX6_isRow 1 (some .boolean) 0 (rk_if_eq (bX6_sheet_20 g R) (rk_iload 2 (rk_cS g 1 yX6_isForm cX6_isForm 1 (some .boolean) 0 (rk_if_eq (bX6_sheet_20 g R) (rk_iload 3 (rk_ci (60) (rk_icmp_le (rk_iload 3 (rk_if_ge (rk_aload 0 (rk_gR 6 5 (rk_iload 1 (rk_aald (rk_iload 2 (rk_iload 3 (rk_cV g 2 3 yX3_begin cX3_begin 4 none 0 (rk_iload 3 (rk_iret R))))))))) (rk_aload 0 (rk_ci (5) (rk_cV g 1 6 yX6_found cX6_found 2 (some .int) 0 (rk_iret R)))))) (bX6_sheet_20 g R))))))))))
theorem eX6_sheet_0 (g : rk_G) (R : rk_R) (ls st : List Value) (σ : rk_M) : bX6_sheet_0 g R ls st σ = (rk_iload 1 (rk_cS g 1 yX6_isRow cX6_isRow 1 (some .boolean) 0 (rk_if_eq (bX6_sheet_20 g R) (rk_iload 2 (rk_cS g 1 yX6_isForm cX6_isForm 1 (some .boolean) 0 (rk_if_eq (bX6_sheet_20 g R) (rk_iload 3 (rk_ci (60) (rk_icmp_le (rk_iload 3 (rk_if_ge (rk_aload 0 (rk_gR 6 5 (rk_iload 1 (rk_aald (rk_iload 2 (rk_iload 3 (rk_cV g 2 3 yX3_begin cX3_begin 4 none 0 (rk_iload 3 (rk_iret R))))))))) (rk_aload 0 (rk_ci (5) (rk_cV g 1 6 yX6_found cX6_found 2 (some .int) 0 (rk_iret R)))))) (bX6_sheet_20 g R)))))))))) ls st σ := rfl
theorem oX6_sheet_0 {g : rk_G} {R : rk_R} : aX6_sheet g R 0 (bX6_sheet_0 g R) := (rk_iload_n_ok dX6_sheet_0 rfl (rk_cS_ok dX6_sheet_1 npX6_isRow wmX6_93 wtX6_isRow wiX6 wdX6_isRow (by decide) (by decide) (rk_if_eq_ok (pc' := 20) dX6_sheet_4 (by decide) oX6_sheet_20 (rk_iload_n_ok dX6_sheet_7 rfl (rk_cS_ok dX6_sheet_8 npX6_isForm wmX6_212 wtX6_isForm wiX6 wdX6_isForm (by decide) (by decide) (rk_if_eq_ok (pc' := 20) dX6_sheet_11 (by decide) oX6_sheet_20 (rk_iload_n_ok dX6_sheet_14 rfl (rk_bipush_ok dX6_sheet_15 (by decide) (rk_icmp_le_ok (pc' := 23) dX6_sheet_17 (by decide) (rk_iload_n_ok dX6_sheet_23 rfl (rk_if_ge_ok (pc' := 33) dX6_sheet_24 (by decide) (rk_aload_n_ok dX6_sheet_33 rfl (rk_gR_ok dX6_sheet_34 rfl iX6 (by decide) rfl wfX6_52 (rk_iload_n_ok dX6_sheet_37 rfl (rk_aald_ok dX6_sheet_38 (rk_iload_n_ok dX6_sheet_39 rfl (rk_iload_n_ok dX6_sheet_40 rfl (rk_cV_ok dX6_sheet_41 rfl rfl npX3_begin wmX6_215 wvX3_begin weX3_begin wiX3 wdX3_begin (by decide) (by decide) (rk_iload_n_ok dX6_sheet_44 rfl (rk_iret_ok rfl dX6_sheet_45))))))))) (rk_aload_n_ok dX6_sheet_27 rfl (rk_iconst_ok dX6_sheet_28 (by decide) (rk_cV_ok dX6_sheet_29 rfl rfl npX6_found wmX6_100 wvX6_found weX6_found wiX6 wdX6_found (by decide) (by decide) (rk_iret_ok rfl dX6_sheet_32)))))) oX6_sheet_20)))))))))
theorem dX6_lose_0 : decode cX6_lose 0 = .ok (.iload_n 1, 1) := by decide +kernel
theorem dX6_lose_1 : decode cX6_lose 1 = .ok (.invokestatic 93, 3) := by decide +kernel
theorem dX6_lose_4 : decode cX6_lose 4 = .ok (.ifCond .ne 6, 3) := by decide +kernel
theorem dX6_lose_7 : decode cX6_lose 7 = .ok (.bipush (-2), 2) := by decide +kernel
theorem dX6_lose_9 : decode cX6_lose 9 = .ok (.ireturn, 1) := by decide +kernel
theorem dX6_lose_10 : decode cX6_lose 10 = .ok (.aload_n 0, 1) := by decide +kernel
theorem dX6_lose_11 : decode cX6_lose 11 = .ok (.getfield 52, 3) := by decide +kernel
theorem dX6_lose_14 : decode cX6_lose 14 = .ok (.iload_n 1, 1) := by decide +kernel
theorem dX6_lose_15 : decode cX6_lose 15 = .ok (.aaload, 1) := by decide +kernel
theorem dX6_lose_16 : decode cX6_lose 16 = .ok (.astore_n 2, 1) := by decide +kernel
theorem dX6_lose_17 : decode cX6_lose 17 = .ok (.aload_n 2, 1) := by decide +kernel
theorem dX6_lose_18 : decode cX6_lose 18 = .ok (.invokevirtual 96, 3) := by decide +kernel
theorem dX6_lose_21 : decode cX6_lose 21 = .ok (.ifCond .eq 9, 3) := by decide +kernel
theorem dX6_lose_24 : decode cX6_lose 24 = .ok (.aload_n 0, 1) := by decide +kernel
theorem dX6_lose_25 : decode cX6_lose 25 = .ok (.iconst 1, 1) := by decide +kernel
theorem dX6_lose_26 : decode cX6_lose 26 = .ok (.invokevirtual 100, 3) := by decide +kernel
theorem dX6_lose_29 : decode cX6_lose 29 = .ok (.ireturn, 1) := by decide +kernel
theorem dX6_lose_30 : decode cX6_lose 30 = .ok (.aload_n 2, 1) := by decide +kernel
theorem dX6_lose_31 : decode cX6_lose 31 = .ok (.getfield 107, 3) := by decide +kernel
theorem dX6_lose_34 : decode cX6_lose 34 = .ok (.istore_n 3, 1) := by decide +kernel
theorem dX6_lose_35 : decode cX6_lose 35 = .ok (.aload_n 2, 1) := by decide +kernel
theorem dX6_lose_36 : decode cX6_lose 36 = .ok (.invokevirtual 218, 3) := by decide +kernel
theorem dX6_lose_39 : decode cX6_lose 39 = .ok (.iload_n 3, 1) := by decide +kernel
theorem dX6_lose_40 : decode cX6_lose 40 = .ok (.ireturn, 1) := by decide +kernel
abbrev kX6_lose (g : rk_G) (R : rk_R) (pc : Nat) : rk_K := rk_cut g cX6_lose 4 (some .int) RX6 1 R pc
abbrev aX6_lose (g : rk_G) (R : rk_R) (pc : Nat) (K : rk_K) : Prop := rk_AK g cX6_lose 4 (some .int) RX6 1 R pc K
abbrev sX6_lose (g : rk_G) (vs : List Value) (σ : rk_M) (R : rk_R) : Prop := rk_does g yX6_lose cX6_lose 4 (some .int) 1 vs σ R
abbrev tX6_lose (g : rk_G) (R : rk_R) (pc : Nat) (ls st : List Value) (σ : rk_M) : Prop := rk_At g cX6_lose 4 (some .int) RX6 1 R pc ls st σ
def bX6_lose_0 (g : rk_G) (R : rk_R) : rk_K := (rk_iload 1 (rk_cS g 1 yX6_isRow cX6_isRow 1 (some .boolean) 0 (rk_if_ne (rk_aload 0 (rk_gR 6 5 (rk_iload 1 (rk_aald (rk_astore 2 (rk_aload 2 (rk_cV g 0 3 yX3_isLost cX3_isLost 1 (some .boolean) 0 (rk_if_eq (rk_aload 2 (rk_gI 3 2 (rk_istore 3 (rk_aload 2 (rk_cV g 0 3 yX3_end cX3_end 1 none 0 (rk_iload 3 (rk_iret R))))))) (rk_aload 0 (rk_ci (1) (rk_cV g 1 6 yX6_found cX6_found 2 (some .int) 0 (rk_iret R)))))))))))) (rk_ci (-2) (rk_iret R)))))
theorem eX6_lose_0 (g : rk_G) (R : rk_R) (ls st : List Value) (σ : rk_M) : bX6_lose_0 g R ls st σ = (rk_iload 1 (rk_cS g 1 yX6_isRow cX6_isRow 1 (some .boolean) 0 (rk_if_ne (rk_aload 0 (rk_gR 6 5 (rk_iload 1 (rk_aald (rk_astore 2 (rk_aload 2 (rk_cV g 0 3 yX3_isLost cX3_isLost 1 (some .boolean) 0 (rk_if_eq (rk_aload 2 (rk_gI 3 2 (rk_istore 3 (rk_aload 2 (rk_cV g 0 3 yX3_end cX3_end 1 none 0 (rk_iload 3 (rk_iret R))))))) (rk_aload 0 (rk_ci (1) (rk_cV g 1 6 yX6_found cX6_found 2 (some .int) 0 (rk_iret R)))))))))))) (rk_ci (-2) (rk_iret R))))) ls st σ := rfl
theorem oX6_lose_0 {g : rk_G} {R : rk_R} : aX6_lose g R 0 (bX6_lose_0 g R) := (rk_iload_n_ok dX6_lose_0 rfl (rk_cS_ok dX6_lose_1 npX6_isRow wmX6_93 wtX6_isRow wiX6 wdX6_isRow (by decide) (by decide) (rk_if_ne_ok (pc' := 10) dX6_lose_4 (by decide) (rk_aload_n_ok dX6_lose_10 rfl (rk_gR_ok dX6_lose_11 rfl iX6 (by decide) rfl wfX6_52 (rk_iload_n_ok dX6_lose_14 rfl (rk_aald_ok dX6_lose_15 (rk_astore_n_ok dX6_lose_16 rfl (by decide) (rk_aload_n_ok dX6_lose_17 rfl (rk_cV_ok dX6_lose_18 rfl rfl npX3_isLost wmX6_96 wvX3_isLost weX3_isLost wiX3 wdX3_isLost (by decide) (by decide) (rk_if_eq_ok (pc' := 30) dX6_lose_21 (by decide) (rk_aload_n_ok dX6_lose_30 rfl (rk_gI_ok dX6_lose_31 rfl iX3 (by decide) rfl wfX6_107 (rk_istore_n_ok dX6_lose_34 rfl (by decide) (rk_aload_n_ok dX6_lose_35 rfl (rk_cV_ok dX6_lose_36 rfl rfl npX3_end wmX6_218 wvX3_end weX3_end wiX3 wdX3_end (by decide) (by decide) (rk_iload_n_ok dX6_lose_39 rfl (rk_iret_ok rfl dX6_lose_40))))))) (rk_aload_n_ok dX6_lose_24 rfl (rk_iconst_ok dX6_lose_25 (by decide) (rk_cV_ok dX6_lose_26 rfl rfl npX6_found wmX6_100 wvX6_found weX6_found wiX6 wdX6_found (by decide) (by decide) (rk_iret_ok rfl dX6_lose_29)))))))))))) (rk_bipush_ok dX6_lose_7 (by decide) (rk_iret_ok rfl dX6_lose_9)))))
theorem dX6_copy_0 : decode cX6_copy 0 = .ok (.iload_n 1, 1) := by decide +kernel
theorem dX6_copy_1 : decode cX6_copy 1 = .ok (.invokestatic 93, 3) := by decide +kernel
theorem dX6_copy_4 : decode cX6_copy 4 = .ok (.ifCond .eq 10, 3) := by decide +kernel
theorem dX6_copy_7 : decode cX6_copy 7 = .ok (.iload_n 3, 1) := by decide +kernel
theorem dX6_copy_8 : decode cX6_copy 8 = .ok (.invokestatic 93, 3) := by decide +kernel
theorem dX6_copy_11 : decode cX6_copy 11 = .ok (.ifCond .ne 6, 3) := by decide +kernel
theorem dX6_copy_14 : decode cX6_copy 14 = .ok (.bipush (-2), 2) := by decide +kernel
theorem dX6_copy_16 : decode cX6_copy 16 = .ok (.ireturn, 1) := by decide +kernel
theorem dX6_copy_17 : decode cX6_copy 17 = .ok (.aload_n 0, 1) := by decide +kernel
theorem dX6_copy_18 : decode cX6_copy 18 = .ok (.getfield 52, 3) := by decide +kernel
theorem dX6_copy_21 : decode cX6_copy 21 = .ok (.iload_n 1, 1) := by decide +kernel
theorem dX6_copy_22 : decode cX6_copy 22 = .ok (.aaload, 1) := by decide +kernel
theorem dX6_copy_23 : decode cX6_copy 23 = .ok (.astore 6, 2) := by decide +kernel
theorem dX6_copy_25 : decode cX6_copy 25 = .ok (.aload_n 0, 1) := by decide +kernel
theorem dX6_copy_26 : decode cX6_copy 26 = .ok (.getfield 52, 3) := by decide +kernel
theorem dX6_copy_29 : decode cX6_copy 29 = .ok (.iload_n 3, 1) := by decide +kernel
theorem dX6_copy_30 : decode cX6_copy 30 = .ok (.aaload, 1) := by decide +kernel
theorem dX6_copy_31 : decode cX6_copy 31 = .ok (.astore 7, 2) := by decide +kernel
theorem dX6_copy_33 : decode cX6_copy 33 = .ok (.aload 6, 2) := by decide +kernel
theorem dX6_copy_35 : decode cX6_copy 35 = .ok (.invokevirtual 96, 3) := by decide +kernel
theorem dX6_copy_38 : decode cX6_copy 38 = .ok (.ifCond .ne 11, 3) := by decide +kernel
theorem dX6_copy_41 : decode cX6_copy 41 = .ok (.aload 7, 2) := by decide +kernel
theorem dX6_copy_43 : decode cX6_copy 43 = .ok (.invokevirtual 96, 3) := by decide +kernel
theorem dX6_copy_46 : decode cX6_copy 46 = .ok (.ifCond .eq 9, 3) := by decide +kernel
theorem dX6_copy_49 : decode cX6_copy 49 = .ok (.aload_n 0, 1) := by decide +kernel
theorem dX6_copy_50 : decode cX6_copy 50 = .ok (.iconst 1, 1) := by decide +kernel
theorem dX6_copy_51 : decode cX6_copy 51 = .ok (.invokevirtual 100, 3) := by decide +kernel
theorem dX6_copy_54 : decode cX6_copy 54 = .ok (.ireturn, 1) := by decide +kernel
theorem dX6_copy_55 : decode cX6_copy 55 = .ok (.aload 6, 2) := by decide +kernel
theorem dX6_copy_57 : decode cX6_copy 57 = .ok (.getfield 228, 3) := by decide +kernel
theorem dX6_copy_60 : decode cX6_copy 60 = .ok (.aload 7, 2) := by decide +kernel
theorem dX6_copy_62 : decode cX6_copy 62 = .ok (.getfield 228, 3) := by decide +kernel
theorem dX6_copy_65 : decode cX6_copy 65 = .ok (.if_icmp .eq 9, 3) := by decide +kernel
theorem dX6_copy_68 : decode cX6_copy 68 = .ok (.aload_n 0, 1) := by decide +kernel
theorem dX6_copy_69 : decode cX6_copy 69 = .ok (.iconst 4, 1) := by decide +kernel
theorem dX6_copy_70 : decode cX6_copy 70 = .ok (.invokevirtual 100, 3) := by decide +kernel
theorem dX6_copy_73 : decode cX6_copy 73 = .ok (.ireturn, 1) := by decide +kernel
theorem dX6_copy_74 : decode cX6_copy 74 = .ok (.aload 6, 2) := by decide +kernel
theorem dX6_copy_76 : decode cX6_copy 76 = .ok (.iload_n 2, 1) := by decide +kernel
theorem dX6_copy_77 : decode cX6_copy 77 = .ok (.iload 5, 2) := by decide +kernel
theorem dX6_copy_79 : decode cX6_copy 79 = .ok (.invokevirtual 231, 3) := by decide +kernel
theorem dX6_copy_82 : decode cX6_copy 82 = .ok (.ifCond .eq 15, 3) := by decide +kernel
theorem dX6_copy_85 : decode cX6_copy 85 = .ok (.aload 7, 2) := by decide +kernel
theorem dX6_copy_87 : decode cX6_copy 87 = .ok (.iload 4, 2) := by decide +kernel
theorem dX6_copy_89 : decode cX6_copy 89 = .ok (.iload 5, 2) := by decide +kernel
theorem dX6_copy_91 : decode cX6_copy 91 = .ok (.invokevirtual 231, 3) := by decide +kernel
theorem dX6_copy_94 : decode cX6_copy 94 = .ok (.ifCond .ne 9, 3) := by decide +kernel
theorem dX6_copy_97 : decode cX6_copy 97 = .ok (.aload_n 0, 1) := by decide +kernel
theorem dX6_copy_98 : decode cX6_copy 98 = .ok (.iconst 2, 1) := by decide +kernel
theorem dX6_copy_99 : decode cX6_copy 99 = .ok (.invokevirtual 100, 3) := by decide +kernel
theorem dX6_copy_102 : decode cX6_copy 102 = .ok (.ireturn, 1) := by decide +kernel
theorem dX6_copy_103 : decode cX6_copy 103 = .ok (.aload 6, 2) := by decide +kernel
theorem dX6_copy_105 : decode cX6_copy 105 = .ok (.getfield 104, 3) := by decide +kernel
theorem dX6_copy_108 : decode cX6_copy 108 = .ok (.iload_n 2, 1) := by decide +kernel
theorem dX6_copy_109 : decode cX6_copy 109 = .ok (.aload 7, 2) := by decide +kernel
theorem dX6_copy_111 : decode cX6_copy 111 = .ok (.getfield 104, 3) := by decide +kernel
theorem dX6_copy_114 : decode cX6_copy 114 = .ok (.iload 4, 2) := by decide +kernel
theorem dX6_copy_116 : decode cX6_copy 116 = .ok (.iload 5, 2) := by decide +kernel
theorem dX6_copy_118 : decode cX6_copy 118 = .ok (.invokestatic 234, 3) := by decide +kernel
theorem dX6_copy_121 : decode cX6_copy 121 = .ok (.iconst 1, 1) := by decide +kernel
theorem dX6_copy_122 : decode cX6_copy 122 = .ok (.ireturn, 1) := by decide +kernel
abbrev kX6_copy (g : rk_G) (R : rk_R) (pc : Nat) : rk_K := rk_cut g cX6_copy 8 (some .int) RX6 1 R pc
abbrev aX6_copy (g : rk_G) (R : rk_R) (pc : Nat) (K : rk_K) : Prop := rk_AK g cX6_copy 8 (some .int) RX6 1 R pc K
abbrev sX6_copy (g : rk_G) (vs : List Value) (σ : rk_M) (R : rk_R) : Prop := rk_does g yX6_copy cX6_copy 8 (some .int) 1 vs σ R
abbrev tX6_copy (g : rk_G) (R : rk_R) (pc : Nat) (ls st : List Value) (σ : rk_M) : Prop := rk_At g cX6_copy 8 (some .int) RX6 1 R pc ls st σ
def bX6_copy_97 (g : rk_G) (R : rk_R) : rk_K := (rk_aload 0 (rk_ci (2) (rk_cV g 1 6 yX6_found cX6_found 2 (some .int) 0 (rk_iret R))))
theorem eX6_copy_97 (g : rk_G) (R : rk_R) (ls st : List Value) (σ : rk_M) : bX6_copy_97 g R ls st σ = (rk_aload 0 (rk_ci (2) (rk_cV g 1 6 yX6_found cX6_found 2 (some .int) 0 (rk_iret R)))) ls st σ := rfl
theorem oX6_copy_97 {g : rk_G} {R : rk_R} : aX6_copy g R 97 (bX6_copy_97 g R) := (rk_aload_n_ok dX6_copy_97 rfl (rk_iconst_ok dX6_copy_98 (by decide) (rk_cV_ok dX6_copy_99 rfl rfl npX6_found wmX6_100 wvX6_found weX6_found wiX6 wdX6_found (by decide) (by decide) (rk_iret_ok rfl dX6_copy_102))))
def bX6_copy_49 (g : rk_G) (R : rk_R) : rk_K := (rk_aload 0 (rk_ci (1) (rk_cV g 1 6 yX6_found cX6_found 2 (some .int) 0 (rk_iret R))))
theorem eX6_copy_49 (g : rk_G) (R : rk_R) (ls st : List Value) (σ : rk_M) : bX6_copy_49 g R ls st σ = (rk_aload 0 (rk_ci (1) (rk_cV g 1 6 yX6_found cX6_found 2 (some .int) 0 (rk_iret R)))) ls st σ := rfl
theorem oX6_copy_49 {g : rk_G} {R : rk_R} : aX6_copy g R 49 (bX6_copy_49 g R) := (rk_aload_n_ok dX6_copy_49 rfl (rk_iconst_ok dX6_copy_50 (by decide) (rk_cV_ok dX6_copy_51 rfl rfl npX6_found wmX6_100 wvX6_found weX6_found wiX6 wdX6_found (by decide) (by decide) (rk_iret_ok rfl dX6_copy_54))))
def bX6_copy_14 (g : rk_G) (R : rk_R) : rk_K := (rk_ci (-2) (rk_iret R))
theorem eX6_copy_14 (g : rk_G) (R : rk_R) (ls st : List Value) (σ : rk_M) : bX6_copy_14 g R ls st σ = (rk_ci (-2) (rk_iret R)) ls st σ := rfl
theorem oX6_copy_14 {g : rk_G} {R : rk_R} : aX6_copy g R 14 (bX6_copy_14 g R) := (rk_bipush_ok dX6_copy_14 (by decide) (rk_iret_ok rfl dX6_copy_16))
def bX6_copy_0 (g : rk_G) (R : rk_R) : rk_K := (rk_iload 1 (rk_cS g 1 yX6_isRow cX6_isRow 1 (some .boolean) 0 (rk_if_eq (bX6_copy_14 g R) (rk_iload 3 (rk_cS g 1 yX6_isRow cX6_isRow 1 (some .boolean) 0 (rk_if_ne (rk_aload 0 (rk_gR 6 5 (rk_iload 1 (rk_aald (rk_astore 6 (rk_aload 0 (rk_gR 6 5 (rk_iload 3 (rk_aald (rk_astore 7 (rk_aload 6 (rk_cV g 0 3 yX3_isLost cX3_isLost 1 (some .boolean) 0 (rk_if_ne (bX6_copy_49 g R) (rk_aload 7 (rk_cV g 0 3 yX3_isLost cX3_isLost 1 (some .boolean) 0 (rk_if_eq (rk_aload 6 (rk_gI 3 1 (rk_aload 7 (rk_gI 3 1 (rk_icmp_eq (rk_aload 6 (rk_iload 2 (rk_iload 5 (rk_cV g 2 3 yX3_hasItems cX3_hasItems 3 (some .boolean) 0 (rk_if_eq (bX6_copy_97 g R) (rk_aload 7 (rk_iload 4 (rk_iload 5 (rk_cV g 2 3 yX3_hasItems cX3_hasItems 3 (some .boolean) 0 (rk_if_ne (rk_aload 6 (rk_gR 3 0 (rk_iload 2 (rk_aload 7 (rk_gR 3 0 (rk_iload 4 (rk_iload 5 (rk_cpy (rk_ci (1) (rk_iret R)))))))))) (bX6_copy_97 g R))))))))))) (rk_aload 0 (rk_ci (4) (rk_cV g 1 6 yX6_found cX6_found 2 (some .int) 0 (rk_iret R))))))))) (bX6_copy_49 g R))))))))))))))))) (bX6_copy_14 g R)))))))
theorem eX6_copy_0 (g : rk_G) (R : rk_R) (ls st : List Value) (σ : rk_M) : bX6_copy_0 g R ls st σ = (rk_iload 1 (rk_cS g 1 yX6_isRow cX6_isRow 1 (some .boolean) 0 (rk_if_eq (bX6_copy_14 g R) (rk_iload 3 (rk_cS g 1 yX6_isRow cX6_isRow 1 (some .boolean) 0 (rk_if_ne (rk_aload 0 (rk_gR 6 5 (rk_iload 1 (rk_aald (rk_astore 6 (rk_aload 0 (rk_gR 6 5 (rk_iload 3 (rk_aald (rk_astore 7 (rk_aload 6 (rk_cV g 0 3 yX3_isLost cX3_isLost 1 (some .boolean) 0 (rk_if_ne (bX6_copy_49 g R) (rk_aload 7 (rk_cV g 0 3 yX3_isLost cX3_isLost 1 (some .boolean) 0 (rk_if_eq (rk_aload 6 (rk_gI 3 1 (rk_aload 7 (rk_gI 3 1 (rk_icmp_eq (rk_aload 6 (rk_iload 2 (rk_iload 5 (rk_cV g 2 3 yX3_hasItems cX3_hasItems 3 (some .boolean) 0 (rk_if_eq (bX6_copy_97 g R) (rk_aload 7 (rk_iload 4 (rk_iload 5 (rk_cV g 2 3 yX3_hasItems cX3_hasItems 3 (some .boolean) 0 (rk_if_ne (rk_aload 6 (rk_gR 3 0 (rk_iload 2 (rk_aload 7 (rk_gR 3 0 (rk_iload 4 (rk_iload 5 (rk_cpy (rk_ci (1) (rk_iret R)))))))))) (bX6_copy_97 g R))))))))))) (rk_aload 0 (rk_ci (4) (rk_cV g 1 6 yX6_found cX6_found 2 (some .int) 0 (rk_iret R))))))))) (bX6_copy_49 g R))))))))))))))))) (bX6_copy_14 g R))))))) ls st σ := rfl
theorem oX6_copy_0 {g : rk_G} {R : rk_R} : aX6_copy g R 0 (bX6_copy_0 g R) := (rk_iload_n_ok dX6_copy_0 rfl (rk_cS_ok dX6_copy_1 npX6_isRow wmX6_93 wtX6_isRow wiX6 wdX6_isRow (by decide) (by decide) (rk_if_eq_ok (pc' := 14) dX6_copy_4 (by decide) oX6_copy_14 (rk_iload_n_ok dX6_copy_7 rfl (rk_cS_ok dX6_copy_8 npX6_isRow wmX6_93 wtX6_isRow wiX6 wdX6_isRow (by decide) (by decide) (rk_if_ne_ok (pc' := 17) dX6_copy_11 (by decide) (rk_aload_n_ok dX6_copy_17 rfl (rk_gR_ok dX6_copy_18 rfl iX6 (by decide) rfl wfX6_52 (rk_iload_n_ok dX6_copy_21 rfl (rk_aald_ok dX6_copy_22 (rk_astore_ok dX6_copy_23 (by decide) (rk_aload_n_ok dX6_copy_25 rfl (rk_gR_ok dX6_copy_26 rfl iX6 (by decide) rfl wfX6_52 (rk_iload_n_ok dX6_copy_29 rfl (rk_aald_ok dX6_copy_30 (rk_astore_ok dX6_copy_31 (by decide) (rk_aload_ok dX6_copy_33 (rk_cV_ok dX6_copy_35 rfl rfl npX3_isLost wmX6_96 wvX3_isLost weX3_isLost wiX3 wdX3_isLost (by decide) (by decide) (rk_if_ne_ok (pc' := 49) dX6_copy_38 (by decide) oX6_copy_49 (rk_aload_ok dX6_copy_41 (rk_cV_ok dX6_copy_43 rfl rfl npX3_isLost wmX6_96 wvX3_isLost weX3_isLost wiX3 wdX3_isLost (by decide) (by decide) (rk_if_eq_ok (pc' := 55) dX6_copy_46 (by decide) (rk_aload_ok dX6_copy_55 (rk_gI_ok dX6_copy_57 rfl iX3 (by decide) rfl wfX6_228 (rk_aload_ok dX6_copy_60 (rk_gI_ok dX6_copy_62 rfl iX3 (by decide) rfl wfX6_228 (rk_icmp_eq_ok (pc' := 74) dX6_copy_65 (by decide) (rk_aload_ok dX6_copy_74 (rk_iload_n_ok dX6_copy_76 rfl (rk_iload_ok dX6_copy_77 (rk_cV_ok dX6_copy_79 rfl rfl npX3_hasItems wmX6_231 wvX3_hasItems weX3_hasItems wiX3 wdX3_hasItems (by decide) (by decide) (rk_if_eq_ok (pc' := 97) dX6_copy_82 (by decide) oX6_copy_97 (rk_aload_ok dX6_copy_85 (rk_iload_ok dX6_copy_87 (rk_iload_ok dX6_copy_89 (rk_cV_ok dX6_copy_91 rfl rfl npX3_hasItems wmX6_231 wvX3_hasItems weX3_hasItems wiX3 wdX3_hasItems (by decide) (by decide) (rk_if_ne_ok (pc' := 103) dX6_copy_94 (by decide) (rk_aload_ok dX6_copy_103 (rk_gR_ok dX6_copy_105 rfl iX3 (by decide) rfl wfX6_104 (rk_iload_n_ok dX6_copy_108 rfl (rk_aload_ok dX6_copy_109 (rk_gR_ok dX6_copy_111 rfl iX3 (by decide) rfl wfX6_104 (rk_iload_ok dX6_copy_114 (rk_iload_ok dX6_copy_116 (rk_cpy_ok dX6_copy_118 wmX6_234 wnCopy wsCopy wiSystem (by decide) (rk_iconst_ok dX6_copy_121 (by decide) (rk_iret_ok rfl dX6_copy_122)))))))))) oX6_copy_97)))))))))) (rk_aload_n_ok dX6_copy_68 rfl (rk_iconst_ok dX6_copy_69 (by decide) (rk_cV_ok dX6_copy_70 rfl rfl npX6_found wmX6_100 wvX6_found weX6_found wiX6 wdX6_found (by decide) (by decide) (rk_iret_ok rfl dX6_copy_73))))))))) oX6_copy_49)))))))))))))))) oX6_copy_14))))))
