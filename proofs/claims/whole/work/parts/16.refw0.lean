theorem dX7_in_0 : decode cX7_in 0 = .ok (.iload_n 0, 1) := by decide +kernel
theorem dX7_in_1 : decode cX7_in 1 = .ok (.iload_n 1, 1) := by decide +kernel
theorem dX7_in_2 : decode cX7_in 2 = .ok (.if_icmp .lt 12, 3) := by decide +kernel
theorem dX7_in_5 : decode cX7_in 5 = .ok (.iload_n 0, 1) := by decide +kernel
theorem dX7_in_6 : decode cX7_in 6 = .ok (.iload_n 2, 1) := by decide +kernel
theorem dX7_in_7 : decode cX7_in 7 = .ok (.if_icmp .gt 7, 3) := by decide +kernel
theorem dX7_in_10 : decode cX7_in 10 = .ok (.iconst 1, 1) := by decide +kernel
theorem dX7_in_11 : decode cX7_in 11 = .ok (.goto 4, 3) := by decide +kernel
theorem dX7_in_14 : decode cX7_in 14 = .ok (.iconst 0, 1) := by decide +kernel
theorem dX7_in_15 : decode cX7_in 15 = .ok (.ireturn, 1) := by decide +kernel
abbrev kX7_in (g : rk_G) (R : rk_R) (pc : Nat) : rk_K := rk_cut g cX7_in 3 (some .boolean) RX7 0 R pc
abbrev aX7_in (g : rk_G) (R : rk_R) (pc : Nat) (K : rk_K) : Prop := rk_AK g cX7_in 3 (some .boolean) RX7 0 R pc K
abbrev sX7_in (g : rk_G) (vs : List Value) (σ : rk_M) (R : rk_R) : Prop := rk_does g yX7_in cX7_in 3 (some .boolean) 0 vs σ R
abbrev tX7_in (g : rk_G) (R : rk_R) (pc : Nat) (ls st : List Value) (σ : rk_M) : Prop := rk_At g cX7_in 3 (some .boolean) RX7 0 R pc ls st σ
def bX7_in_15 (g : rk_G) (R : rk_R) : rk_K := (rk_zret R)
theorem eX7_in_15 (g : rk_G) (R : rk_R) (ls st : List Value) (σ : rk_M) : bX7_in_15 g R ls st σ = (rk_zret R) ls st σ := rfl
theorem oX7_in_15 {g : rk_G} {R : rk_R} : aX7_in g R 15 (bX7_in_15 g R) := (rk_zret_ok rfl dX7_in_15)
def bX7_in_14 (g : rk_G) (R : rk_R) : rk_K := (rk_ci (0) (bX7_in_15 g R))
theorem eX7_in_14 (g : rk_G) (R : rk_R) (ls st : List Value) (σ : rk_M) : bX7_in_14 g R ls st σ = (rk_ci (0) (bX7_in_15 g R)) ls st σ := rfl
theorem oX7_in_14 {g : rk_G} {R : rk_R} : aX7_in g R 14 (bX7_in_14 g R) := (rk_iconst_ok dX7_in_14 (by decide) oX7_in_15)
def bX7_in_0 (g : rk_G) (R : rk_R) : rk_K := (rk_iload 0 (rk_iload 1 (rk_icmp_lt (bX7_in_14 g R) (rk_iload 0 (rk_iload 2 (rk_icmp_gt (bX7_in_14 g R) (rk_ci (1) (bX7_in_15 g R))))))))
theorem eX7_in_0 (g : rk_G) (R : rk_R) (ls st : List Value) (σ : rk_M) : bX7_in_0 g R ls st σ = (rk_iload 0 (rk_iload 1 (rk_icmp_lt (bX7_in_14 g R) (rk_iload 0 (rk_iload 2 (rk_icmp_gt (bX7_in_14 g R) (rk_ci (1) (bX7_in_15 g R)))))))) ls st σ := rfl
theorem oX7_in_0 {g : rk_G} {R : rk_R} : aX7_in g R 0 (bX7_in_0 g R) := (rk_iload_n_ok dX7_in_0 rfl (rk_iload_n_ok dX7_in_1 rfl (rk_icmp_lt_ok (pc' := 14) dX7_in_2 (by decide) oX7_in_14 (rk_iload_n_ok dX7_in_5 rfl (rk_iload_n_ok dX7_in_6 rfl (rk_icmp_gt_ok (pc' := 14) dX7_in_7 (by decide) oX7_in_14 (rk_iconst_ok dX7_in_10 (by decide) (rk_goto_ok (pc' := 15) dX7_in_11 (by decide) oX7_in_15))))))))
theorem dX7_isIn_0 : decode cX7_isIn 0 = .ok (.iload_n 0, 1) := by decide +kernel
theorem dX7_isIn_1 : decode cX7_isIn 1 = .ok (.iload_n 1, 1) := by decide +kernel
theorem dX7_isIn_2 : decode cX7_isIn 2 = .ok (.ishr, 1) := by decide +kernel
theorem dX7_isIn_3 : decode cX7_isIn 3 = .ok (.iconst 1, 1) := by decide +kernel
theorem dX7_isIn_4 : decode cX7_isIn 4 = .ok (.iand, 1) := by decide +kernel
theorem dX7_isIn_5 : decode cX7_isIn 5 = .ok (.iconst 1, 1) := by decide +kernel
theorem dX7_isIn_6 : decode cX7_isIn 6 = .ok (.if_icmp .ne 7, 3) := by decide +kernel
theorem dX7_isIn_9 : decode cX7_isIn 9 = .ok (.iconst 1, 1) := by decide +kernel
theorem dX7_isIn_10 : decode cX7_isIn 10 = .ok (.goto 4, 3) := by decide +kernel
theorem dX7_isIn_13 : decode cX7_isIn 13 = .ok (.iconst 0, 1) := by decide +kernel
theorem dX7_isIn_14 : decode cX7_isIn 14 = .ok (.ireturn, 1) := by decide +kernel
abbrev kX7_isIn (g : rk_G) (R : rk_R) (pc : Nat) : rk_K := rk_cut g cX7_isIn 2 (some .boolean) RX7 0 R pc
abbrev aX7_isIn (g : rk_G) (R : rk_R) (pc : Nat) (K : rk_K) : Prop := rk_AK g cX7_isIn 2 (some .boolean) RX7 0 R pc K
abbrev sX7_isIn (g : rk_G) (vs : List Value) (σ : rk_M) (R : rk_R) : Prop := rk_does g yX7_isIn cX7_isIn 2 (some .boolean) 0 vs σ R
abbrev tX7_isIn (g : rk_G) (R : rk_R) (pc : Nat) (ls st : List Value) (σ : rk_M) : Prop := rk_At g cX7_isIn 2 (some .boolean) RX7 0 R pc ls st σ
def bX7_isIn_14 (g : rk_G) (R : rk_R) : rk_K := (rk_zret R)
theorem eX7_isIn_14 (g : rk_G) (R : rk_R) (ls st : List Value) (σ : rk_M) : bX7_isIn_14 g R ls st σ = (rk_zret R) ls st σ := rfl
theorem oX7_isIn_14 {g : rk_G} {R : rk_R} : aX7_isIn g R 14 (bX7_isIn_14 g R) := (rk_zret_ok rfl dX7_isIn_14)
def bX7_isIn_0 (g : rk_G) (R : rk_R) : rk_K := (rk_iload 0 (rk_iload 1 (rk_ishr (rk_ci (1) (rk_iand (rk_ci (1) (rk_icmp_ne (rk_ci (0) (bX7_isIn_14 g R)) (rk_ci (1) (bX7_isIn_14 g R)))))))))
theorem eX7_isIn_0 (g : rk_G) (R : rk_R) (ls st : List Value) (σ : rk_M) : bX7_isIn_0 g R ls st σ = (rk_iload 0 (rk_iload 1 (rk_ishr (rk_ci (1) (rk_iand (rk_ci (1) (rk_icmp_ne (rk_ci (0) (bX7_isIn_14 g R)) (rk_ci (1) (bX7_isIn_14 g R))))))))) ls st σ := rfl
theorem oX7_isIn_0 {g : rk_G} {R : rk_R} : aX7_isIn g R 0 (bX7_isIn_0 g R) := (rk_iload_n_ok dX7_isIn_0 rfl (rk_iload_n_ok dX7_isIn_1 rfl (rk_ishr_ok dX7_isIn_2 (rk_iconst_ok dX7_isIn_3 (by decide) (rk_iand_ok dX7_isIn_4 (rk_iconst_ok dX7_isIn_5 (by decide) (rk_icmp_ne_ok (pc' := 13) dX7_isIn_6 (by decide) (rk_iconst_ok dX7_isIn_13 (by decide) oX7_isIn_14) (rk_iconst_ok dX7_isIn_9 (by decide) (rk_goto_ok (pc' := 14) dX7_isIn_10 (by decide) oX7_isIn_14)))))))))
theorem dX7_abs_0 : decode cX7_abs 0 = .ok (.iload_n 0, 1) := by decide +kernel
theorem dX7_abs_1 : decode cX7_abs 1 = .ok (.ifCond .ge 8, 3) := by decide +kernel
theorem dX7_abs_4 : decode cX7_abs 4 = .ok (.iload_n 0, 1) := by decide +kernel
theorem dX7_abs_5 : decode cX7_abs 5 = .ok (.ineg, 1) := by decide +kernel
theorem dX7_abs_6 : decode cX7_abs 6 = .ok (.goto 4, 3) := by decide +kernel
theorem dX7_abs_9 : decode cX7_abs 9 = .ok (.iload_n 0, 1) := by decide +kernel
theorem dX7_abs_10 : decode cX7_abs 10 = .ok (.ireturn, 1) := by decide +kernel
abbrev kX7_abs (g : rk_G) (R : rk_R) (pc : Nat) : rk_K := rk_cut g cX7_abs 1 (some .int) RX7 0 R pc
abbrev aX7_abs (g : rk_G) (R : rk_R) (pc : Nat) (K : rk_K) : Prop := rk_AK g cX7_abs 1 (some .int) RX7 0 R pc K
abbrev sX7_abs (g : rk_G) (vs : List Value) (σ : rk_M) (R : rk_R) : Prop := rk_does g yX7_abs cX7_abs 1 (some .int) 0 vs σ R
abbrev tX7_abs (g : rk_G) (R : rk_R) (pc : Nat) (ls st : List Value) (σ : rk_M) : Prop := rk_At g cX7_abs 1 (some .int) RX7 0 R pc ls st σ
def bX7_abs_10 (g : rk_G) (R : rk_R) : rk_K := (rk_iret R)
theorem eX7_abs_10 (g : rk_G) (R : rk_R) (ls st : List Value) (σ : rk_M) : bX7_abs_10 g R ls st σ = (rk_iret R) ls st σ := rfl
theorem oX7_abs_10 {g : rk_G} {R : rk_R} : aX7_abs g R 10 (bX7_abs_10 g R) := (rk_iret_ok rfl dX7_abs_10)
def bX7_abs_0 (g : rk_G) (R : rk_R) : rk_K := (rk_iload 0 (rk_if_ge (rk_iload 0 (bX7_abs_10 g R)) (rk_iload 0 (rk_ineg (bX7_abs_10 g R)))))
theorem eX7_abs_0 (g : rk_G) (R : rk_R) (ls st : List Value) (σ : rk_M) : bX7_abs_0 g R ls st σ = (rk_iload 0 (rk_if_ge (rk_iload 0 (bX7_abs_10 g R)) (rk_iload 0 (rk_ineg (bX7_abs_10 g R))))) ls st σ := rfl
theorem oX7_abs_0 {g : rk_G} {R : rk_R} : aX7_abs g R 0 (bX7_abs_0 g R) := (rk_iload_n_ok dX7_abs_0 rfl (rk_if_ge_ok (pc' := 9) dX7_abs_1 (by decide) (rk_iload_n_ok dX7_abs_9 rfl oX7_abs_10) (rk_iload_n_ok dX7_abs_4 rfl (rk_ineg_ok dX7_abs_5 (rk_goto_ok (pc' := 10) dX7_abs_6 (by decide) oX7_abs_10)))))
theorem dX7_isBetween_0 : decode cX7_isBetween 0 = .ok (.aload_n 0, 1) := by decide +kernel
theorem dX7_isBetween_1 : decode cX7_isBetween 1 = .ok (.getfield 16, 3) := by decide +kernel
theorem dX7_isBetween_4 : decode cX7_isBetween 4 = .ok (.iconst 2, 1) := by decide +kernel
theorem dX7_isBetween_5 : decode cX7_isBetween 5 = .ok (.iload_n 1, 1) := by decide +kernel
theorem dX7_isBetween_6 : decode cX7_isBetween 6 = .ok (.imul, 1) := by decide +kernel
theorem dX7_isBetween_7 : decode cX7_isBetween 7 = .ok (.iaload, 1) := by decide +kernel
theorem dX7_isBetween_8 : decode cX7_isBetween 8 = .ok (.iload_n 2, 1) := by decide +kernel
theorem dX7_isBetween_9 : decode cX7_isBetween 9 = .ok (.if_icmp .ne 17, 3) := by decide +kernel
theorem dX7_isBetween_12 : decode cX7_isBetween 12 = .ok (.aload_n 0, 1) := by decide +kernel
theorem dX7_isBetween_13 : decode cX7_isBetween 13 = .ok (.getfield 16, 3) := by decide +kernel
theorem dX7_isBetween_16 : decode cX7_isBetween 16 = .ok (.iconst 2, 1) := by decide +kernel
theorem dX7_isBetween_17 : decode cX7_isBetween 17 = .ok (.iload_n 1, 1) := by decide +kernel
theorem dX7_isBetween_18 : decode cX7_isBetween 18 = .ok (.imul, 1) := by decide +kernel
theorem dX7_isBetween_19 : decode cX7_isBetween 19 = .ok (.iconst 1, 1) := by decide +kernel
theorem dX7_isBetween_20 : decode cX7_isBetween 20 = .ok (.iadd, 1) := by decide +kernel
theorem dX7_isBetween_21 : decode cX7_isBetween 21 = .ok (.iaload, 1) := by decide +kernel
theorem dX7_isBetween_22 : decode cX7_isBetween 22 = .ok (.iload_n 3, 1) := by decide +kernel
theorem dX7_isBetween_23 : decode cX7_isBetween 23 = .ok (.if_icmp .eq 29, 3) := by decide +kernel
theorem dX7_isBetween_26 : decode cX7_isBetween 26 = .ok (.aload_n 0, 1) := by decide +kernel
theorem dX7_isBetween_27 : decode cX7_isBetween 27 = .ok (.getfield 16, 3) := by decide +kernel
theorem dX7_isBetween_30 : decode cX7_isBetween 30 = .ok (.iconst 2, 1) := by decide +kernel
theorem dX7_isBetween_31 : decode cX7_isBetween 31 = .ok (.iload_n 1, 1) := by decide +kernel
theorem dX7_isBetween_32 : decode cX7_isBetween 32 = .ok (.imul, 1) := by decide +kernel
theorem dX7_isBetween_33 : decode cX7_isBetween 33 = .ok (.iaload, 1) := by decide +kernel
theorem dX7_isBetween_34 : decode cX7_isBetween 34 = .ok (.iload_n 3, 1) := by decide +kernel
theorem dX7_isBetween_35 : decode cX7_isBetween 35 = .ok (.if_icmp .ne 21, 3) := by decide +kernel
theorem dX7_isBetween_38 : decode cX7_isBetween 38 = .ok (.aload_n 0, 1) := by decide +kernel
theorem dX7_isBetween_39 : decode cX7_isBetween 39 = .ok (.getfield 16, 3) := by decide +kernel
theorem dX7_isBetween_42 : decode cX7_isBetween 42 = .ok (.iconst 2, 1) := by decide +kernel
theorem dX7_isBetween_43 : decode cX7_isBetween 43 = .ok (.iload_n 1, 1) := by decide +kernel
theorem dX7_isBetween_44 : decode cX7_isBetween 44 = .ok (.imul, 1) := by decide +kernel
theorem dX7_isBetween_45 : decode cX7_isBetween 45 = .ok (.iconst 1, 1) := by decide +kernel
theorem dX7_isBetween_46 : decode cX7_isBetween 46 = .ok (.iadd, 1) := by decide +kernel
theorem dX7_isBetween_47 : decode cX7_isBetween 47 = .ok (.iaload, 1) := by decide +kernel
theorem dX7_isBetween_48 : decode cX7_isBetween 48 = .ok (.iload_n 2, 1) := by decide +kernel
theorem dX7_isBetween_49 : decode cX7_isBetween 49 = .ok (.if_icmp .ne 7, 3) := by decide +kernel
theorem dX7_isBetween_52 : decode cX7_isBetween 52 = .ok (.iconst 1, 1) := by decide +kernel
theorem dX7_isBetween_53 : decode cX7_isBetween 53 = .ok (.goto 4, 3) := by decide +kernel
theorem dX7_isBetween_56 : decode cX7_isBetween 56 = .ok (.iconst 0, 1) := by decide +kernel
theorem dX7_isBetween_57 : decode cX7_isBetween 57 = .ok (.ireturn, 1) := by decide +kernel
abbrev kX7_isBetween (g : rk_G) (R : rk_R) (pc : Nat) : rk_K := rk_cut g cX7_isBetween 4 (some .boolean) RX7 0 R pc
abbrev aX7_isBetween (g : rk_G) (R : rk_R) (pc : Nat) (K : rk_K) : Prop := rk_AK g cX7_isBetween 4 (some .boolean) RX7 0 R pc K
abbrev sX7_isBetween (g : rk_G) (vs : List Value) (σ : rk_M) (R : rk_R) : Prop := rk_does g yX7_isBetween cX7_isBetween 4 (some .boolean) 0 vs σ R
abbrev tX7_isBetween (g : rk_G) (R : rk_R) (pc : Nat) (ls st : List Value) (σ : rk_M) : Prop := rk_At g cX7_isBetween 4 (some .boolean) RX7 0 R pc ls st σ
def bX7_isBetween_57 (g : rk_G) (R : rk_R) : rk_K := (rk_zret R)
theorem eX7_isBetween_57 (g : rk_G) (R : rk_R) (ls st : List Value) (σ : rk_M) : bX7_isBetween_57 g R ls st σ = (rk_zret R) ls st σ := rfl
theorem oX7_isBetween_57 {g : rk_G} {R : rk_R} : aX7_isBetween g R 57 (bX7_isBetween_57 g R) := (rk_zret_ok rfl dX7_isBetween_57)
def bX7_isBetween_56 (g : rk_G) (R : rk_R) : rk_K := (rk_ci (0) (bX7_isBetween_57 g R))
theorem eX7_isBetween_56 (g : rk_G) (R : rk_R) (ls st : List Value) (σ : rk_M) : bX7_isBetween_56 g R ls st σ = (rk_ci (0) (bX7_isBetween_57 g R)) ls st σ := rfl
theorem oX7_isBetween_56 {g : rk_G} {R : rk_R} : aX7_isBetween g R 56 (bX7_isBetween_56 g R) := (rk_iconst_ok dX7_isBetween_56 (by decide) oX7_isBetween_57)
def bX7_isBetween_52 (g : rk_G) (R : rk_R) : rk_K := (rk_ci (1) (bX7_isBetween_57 g R))
theorem eX7_isBetween_52 (g : rk_G) (R : rk_R) (ls st : List Value) (σ : rk_M) : bX7_isBetween_52 g R ls st σ = (rk_ci (1) (bX7_isBetween_57 g R)) ls st σ := rfl
theorem oX7_isBetween_52 {g : rk_G} {R : rk_R} : aX7_isBetween g R 52 (bX7_isBetween_52 g R) := (rk_iconst_ok dX7_isBetween_52 (by decide) (rk_goto_ok (pc' := 57) dX7_isBetween_53 (by decide) oX7_isBetween_57))
def bX7_isBetween_26 (g : rk_G) (R : rk_R) : rk_K := (rk_aload 0 (rk_gR 7 4 (rk_ci (2) (rk_iload 1 (rk_imul (rk_iald (rk_iload 3 (rk_icmp_ne (bX7_isBetween_56 g R) (rk_aload 0 (rk_gR 7 4 (rk_ci (2) (rk_iload 1 (rk_imul (rk_ci (1) (rk_iadd (rk_iald (rk_iload 2 (rk_icmp_ne (bX7_isBetween_56 g R) (bX7_isBetween_52 g R)))))))))))))))))))
theorem eX7_isBetween_26 (g : rk_G) (R : rk_R) (ls st : List Value) (σ : rk_M) : bX7_isBetween_26 g R ls st σ = (rk_aload 0 (rk_gR 7 4 (rk_ci (2) (rk_iload 1 (rk_imul (rk_iald (rk_iload 3 (rk_icmp_ne (bX7_isBetween_56 g R) (rk_aload 0 (rk_gR 7 4 (rk_ci (2) (rk_iload 1 (rk_imul (rk_ci (1) (rk_iadd (rk_iald (rk_iload 2 (rk_icmp_ne (bX7_isBetween_56 g R) (bX7_isBetween_52 g R))))))))))))))))))) ls st σ := rfl
theorem oX7_isBetween_26 {g : rk_G} {R : rk_R} : aX7_isBetween g R 26 (bX7_isBetween_26 g R) := (rk_aload_n_ok dX7_isBetween_26 rfl (rk_gR_ok dX7_isBetween_27 rfl iX7 (by decide) rfl wfX7_16 (rk_iconst_ok dX7_isBetween_30 (by decide) (rk_iload_n_ok dX7_isBetween_31 rfl (rk_imul_ok dX7_isBetween_32 (rk_iald_ok dX7_isBetween_33 (rk_iload_n_ok dX7_isBetween_34 rfl (rk_icmp_ne_ok (pc' := 56) dX7_isBetween_35 (by decide) oX7_isBetween_56 (rk_aload_n_ok dX7_isBetween_38 rfl (rk_gR_ok dX7_isBetween_39 rfl iX7 (by decide) rfl wfX7_16 (rk_iconst_ok dX7_isBetween_42 (by decide) (rk_iload_n_ok dX7_isBetween_43 rfl (rk_imul_ok dX7_isBetween_44 (rk_iconst_ok dX7_isBetween_45 (by decide) (rk_iadd_ok dX7_isBetween_46 (rk_iald_ok dX7_isBetween_47 (rk_iload_n_ok dX7_isBetween_48 rfl (rk_icmp_ne_ok (pc' := 56) dX7_isBetween_49 (by decide) oX7_isBetween_56 oX7_isBetween_52))))))))))))))))))
def bX7_isBetween_0 (g : rk_G) (R : rk_R) : rk_K := (rk_aload 0 (rk_gR 7 4 (rk_ci (2) (rk_iload 1 (rk_imul (rk_iald (rk_iload 2 (rk_icmp_ne (bX7_isBetween_26 g R) (rk_aload 0 (rk_gR 7 4 (rk_ci (2) (rk_iload 1 (rk_imul (rk_ci (1) (rk_iadd (rk_iald (rk_iload 3 (rk_icmp_eq (bX7_isBetween_52 g R) (bX7_isBetween_26 g R)))))))))))))))))))
theorem eX7_isBetween_0 (g : rk_G) (R : rk_R) (ls st : List Value) (σ : rk_M) : bX7_isBetween_0 g R ls st σ = (rk_aload 0 (rk_gR 7 4 (rk_ci (2) (rk_iload 1 (rk_imul (rk_iald (rk_iload 2 (rk_icmp_ne (bX7_isBetween_26 g R) (rk_aload 0 (rk_gR 7 4 (rk_ci (2) (rk_iload 1 (rk_imul (rk_ci (1) (rk_iadd (rk_iald (rk_iload 3 (rk_icmp_eq (bX7_isBetween_52 g R) (bX7_isBetween_26 g R))))))))))))))))))) ls st σ := rfl
theorem oX7_isBetween_0 {g : rk_G} {R : rk_R} : aX7_isBetween g R 0 (bX7_isBetween_0 g R) := (rk_aload_n_ok dX7_isBetween_0 rfl (rk_gR_ok dX7_isBetween_1 rfl iX7 (by decide) rfl wfX7_16 (rk_iconst_ok dX7_isBetween_4 (by decide) (rk_iload_n_ok dX7_isBetween_5 rfl (rk_imul_ok dX7_isBetween_6 (rk_iald_ok dX7_isBetween_7 (rk_iload_n_ok dX7_isBetween_8 rfl (rk_icmp_ne_ok (pc' := 26) dX7_isBetween_9 (by decide) oX7_isBetween_26 (rk_aload_n_ok dX7_isBetween_12 rfl (rk_gR_ok dX7_isBetween_13 rfl iX7 (by decide) rfl wfX7_16 (rk_iconst_ok dX7_isBetween_16 (by decide) (rk_iload_n_ok dX7_isBetween_17 rfl (rk_imul_ok dX7_isBetween_18 (rk_iconst_ok dX7_isBetween_19 (by decide) (rk_iadd_ok dX7_isBetween_20 (rk_iald_ok dX7_isBetween_21 (rk_iload_n_ok dX7_isBetween_22 rfl (rk_icmp_eq_ok (pc' := 52) dX7_isBetween_23 (by decide) oX7_isBetween_52 oX7_isBetween_26))))))))))))))))))
theorem dX7_undo_0 : decode cX7_undo 0 = .ok (.aload_n 0, 1) := by decide +kernel
theorem dX7_undo_1 : decode cX7_undo 1 = .ok (.getfield 88, 3) := by decide +kernel
theorem dX7_undo_4 : decode cX7_undo 4 = .ok (.ifCond .ne 6, 3) := by decide +kernel
theorem dX7_undo_7 : decode cX7_undo 7 = .ok (.bipush (-3), 2) := by decide +kernel
theorem dX7_undo_9 : decode cX7_undo 9 = .ok (.ireturn, 1) := by decide +kernel
theorem dX7_undo_10 : decode cX7_undo 10 = .ok (.aload_n 0, 1) := by decide +kernel
theorem dX7_undo_11 : decode cX7_undo 11 = .ok (.dup, 1) := by decide +kernel
theorem dX7_undo_12 : decode cX7_undo 12 = .ok (.getfield 88, 3) := by decide +kernel
theorem dX7_undo_15 : decode cX7_undo 15 = .ok (.iconst 1, 1) := by decide +kernel
theorem dX7_undo_16 : decode cX7_undo 16 = .ok (.isub, 1) := by decide +kernel
theorem dX7_undo_17 : decode cX7_undo 17 = .ok (.putfield 88, 3) := by decide +kernel
theorem dX7_undo_20 : decode cX7_undo 20 = .ok (.aload_n 0, 1) := by decide +kernel
theorem dX7_undo_21 : decode cX7_undo 21 = .ok (.dup, 1) := by decide +kernel
theorem dX7_undo_22 : decode cX7_undo 22 = .ok (.getfield 85, 3) := by decide +kernel
theorem dX7_undo_25 : decode cX7_undo 25 = .ok (.aload_n 0, 1) := by decide +kernel
theorem dX7_undo_26 : decode cX7_undo 26 = .ok (.getfield 25, 3) := by decide +kernel
theorem dX7_undo_29 : decode cX7_undo 29 = .ok (.aload_n 0, 1) := by decide +kernel
theorem dX7_undo_30 : decode cX7_undo 30 = .ok (.getfield 88, 3) := by decide +kernel
theorem dX7_undo_33 : decode cX7_undo 33 = .ok (.iaload, 1) := by decide +kernel
theorem dX7_undo_34 : decode cX7_undo 34 = .ok (.isub, 1) := by decide +kernel
theorem dX7_undo_35 : decode cX7_undo 35 = .ok (.putfield 85, 3) := by decide +kernel
theorem dX7_undo_38 : decode cX7_undo 38 = .ok (.aload_n 0, 1) := by decide +kernel
theorem dX7_undo_39 : decode cX7_undo 39 = .ok (.dup, 1) := by decide +kernel
theorem dX7_undo_40 : decode cX7_undo 40 = .ok (.getfield 77, 3) := by decide +kernel
theorem dX7_undo_43 : decode cX7_undo 43 = .ok (.iconst 1, 1) := by decide +kernel
theorem dX7_undo_44 : decode cX7_undo 44 = .ok (.aload_n 0, 1) := by decide +kernel
theorem dX7_undo_45 : decode cX7_undo 45 = .ok (.getfield 25, 3) := by decide +kernel
theorem dX7_undo_48 : decode cX7_undo 48 = .ok (.aload_n 0, 1) := by decide +kernel
theorem dX7_undo_49 : decode cX7_undo 49 = .ok (.getfield 88, 3) := by decide +kernel
theorem dX7_undo_52 : decode cX7_undo 52 = .ok (.iaload, 1) := by decide +kernel
theorem dX7_undo_53 : decode cX7_undo 53 = .ok (.isub, 1) := by decide +kernel
theorem dX7_undo_54 : decode cX7_undo 54 = .ok (.isub, 1) := by decide +kernel
theorem dX7_undo_55 : decode cX7_undo 55 = .ok (.putfield 77, 3) := by decide +kernel
theorem dX7_undo_58 : decode cX7_undo 58 = .ok (.aload_n 0, 1) := by decide +kernel
theorem dX7_undo_59 : decode cX7_undo 59 = .ok (.getfield 77, 3) := by decide +kernel
theorem dX7_undo_62 : decode cX7_undo 62 = .ok (.aload_n 0, 1) := by decide +kernel
theorem dX7_undo_63 : decode cX7_undo 63 = .ok (.getfield 85, 3) := by decide +kernel
theorem dX7_undo_66 : decode cX7_undo 66 = .ok (.iadd, 1) := by decide +kernel
theorem dX7_undo_67 : decode cX7_undo 67 = .ok (.ireturn, 1) := by decide +kernel
abbrev kX7_undo (g : rk_G) (R : rk_R) (pc : Nat) : rk_K := rk_cut g cX7_undo 1 (some .int) RX7 0 R pc
abbrev aX7_undo (g : rk_G) (R : rk_R) (pc : Nat) (K : rk_K) : Prop := rk_AK g cX7_undo 1 (some .int) RX7 0 R pc K
abbrev sX7_undo (g : rk_G) (vs : List Value) (σ : rk_M) (R : rk_R) : Prop := rk_does g yX7_undo cX7_undo 1 (some .int) 0 vs σ R
abbrev tX7_undo (g : rk_G) (R : rk_R) (pc : Nat) (ls st : List Value) (σ : rk_M) : Prop := rk_At g cX7_undo 1 (some .int) RX7 0 R pc ls st σ
def bX7_undo_0 (g : rk_G) (R : rk_R) : rk_K := (rk_aload 0 (rk_gI 7 7 (rk_if_ne (rk_aload 0 (rk_dup (rk_gI 7 7 (rk_ci (1) (rk_isub (rk_pI 7 7 (rk_aload 0 (rk_dup (rk_gI 7 3 (rk_aload 0 (rk_gR 7 8 (rk_aload 0 (rk_gI 7 7 (rk_iald (rk_isub (rk_pI 7 3 (rk_aload 0 (rk_dup (rk_gI 7 0 (rk_ci (1) (rk_aload 0 (rk_gR 7 8 (rk_aload 0 (rk_gI 7 7 (rk_iald (rk_isub (rk_isub (rk_pI 7 0 (rk_aload 0 (rk_gI 7 0 (rk_aload 0 (rk_gI 7 3 (rk_iadd (rk_iret R)))))))))))))))))))))))))))))))))) (rk_ci (-3) (rk_iret R)))))
theorem eX7_undo_0 (g : rk_G) (R : rk_R) (ls st : List Value) (σ : rk_M) : bX7_undo_0 g R ls st σ = (rk_aload 0 (rk_gI 7 7 (rk_if_ne (rk_aload 0 (rk_dup (rk_gI 7 7 (rk_ci (1) (rk_isub (rk_pI 7 7 (rk_aload 0 (rk_dup (rk_gI 7 3 (rk_aload 0 (rk_gR 7 8 (rk_aload 0 (rk_gI 7 7 (rk_iald (rk_isub (rk_pI 7 3 (rk_aload 0 (rk_dup (rk_gI 7 0 (rk_ci (1) (rk_aload 0 (rk_gR 7 8 (rk_aload 0 (rk_gI 7 7 (rk_iald (rk_isub (rk_isub (rk_pI 7 0 (rk_aload 0 (rk_gI 7 0 (rk_aload 0 (rk_gI 7 3 (rk_iadd (rk_iret R)))))))))))))))))))))))))))))))))) (rk_ci (-3) (rk_iret R))))) ls st σ := rfl
theorem oX7_undo_0 {g : rk_G} {R : rk_R} : aX7_undo g R 0 (bX7_undo_0 g R) := (rk_aload_n_ok dX7_undo_0 rfl (rk_gI_ok dX7_undo_1 rfl iX7 (by decide) rfl wfX7_88 (rk_if_ne_ok (pc' := 10) dX7_undo_4 (by decide) (rk_aload_n_ok dX7_undo_10 rfl (rk_dup_ok dX7_undo_11 (rk_gI_ok dX7_undo_12 rfl iX7 (by decide) rfl wfX7_88 (rk_iconst_ok dX7_undo_15 (by decide) (rk_isub_ok dX7_undo_16 (rk_pI_ok dX7_undo_17 rfl iX7 tyX7_ok nmX7 (by decide) rfl rfl (by decide +kernel) wfX7_88 (rk_aload_n_ok dX7_undo_20 rfl (rk_dup_ok dX7_undo_21 (rk_gI_ok dX7_undo_22 rfl iX7 (by decide) rfl wfX7_85 (rk_aload_n_ok dX7_undo_25 rfl (rk_gR_ok dX7_undo_26 rfl iX7 (by decide) rfl wfX7_25 (rk_aload_n_ok dX7_undo_29 rfl (rk_gI_ok dX7_undo_30 rfl iX7 (by decide) rfl wfX7_88 (rk_iald_ok dX7_undo_33 (rk_isub_ok dX7_undo_34 (rk_pI_ok dX7_undo_35 rfl iX7 tyX7_ok nmX7 (by decide) rfl rfl (by decide +kernel) wfX7_85 (rk_aload_n_ok dX7_undo_38 rfl (rk_dup_ok dX7_undo_39 (rk_gI_ok dX7_undo_40 rfl iX7 (by decide) rfl wfX7_77 (rk_iconst_ok dX7_undo_43 (by decide) (rk_aload_n_ok dX7_undo_44 rfl (rk_gR_ok dX7_undo_45 rfl iX7 (by decide) rfl wfX7_25 (rk_aload_n_ok dX7_undo_48 rfl (rk_gI_ok dX7_undo_49 rfl iX7 (by decide) rfl wfX7_88 (rk_iald_ok dX7_undo_52 (rk_isub_ok dX7_undo_53 (rk_isub_ok dX7_undo_54 (rk_pI_ok dX7_undo_55 rfl iX7 tyX7_ok nmX7 (by decide) rfl rfl (by decide +kernel) wfX7_77 (rk_aload_n_ok dX7_undo_58 rfl (rk_gI_ok dX7_undo_59 rfl iX7 (by decide) rfl wfX7_77 (rk_aload_n_ok dX7_undo_62 rfl (rk_gI_ok dX7_undo_63 rfl iX7 (by decide) rfl wfX7_85 (rk_iadd_ok dX7_undo_66 (rk_iret_ok rfl dX7_undo_67)))))))))))))))))))))))))))))))))) (rk_bipush_ok dX7_undo_7 (by decide) (rk_iret_ok rfl dX7_undo_9)))))
theorem dX7_isAt_0 : decode cX7_isAt 0 = .ok (.aload_n 0, 1) := by decide +kernel
theorem dX7_isAt_1 : decode cX7_isAt 1 = .ok (.getfield 16, 3) := by decide +kernel
theorem dX7_isAt_4 : decode cX7_isAt 4 = .ok (.iconst 2, 1) := by decide +kernel
theorem dX7_isAt_5 : decode cX7_isAt 5 = .ok (.iload_n 1, 1) := by decide +kernel
theorem dX7_isAt_6 : decode cX7_isAt 6 = .ok (.imul, 1) := by decide +kernel
theorem dX7_isAt_7 : decode cX7_isAt 7 = .ok (.iaload, 1) := by decide +kernel
theorem dX7_isAt_8 : decode cX7_isAt 8 = .ok (.iload_n 2, 1) := by decide +kernel
theorem dX7_isAt_9 : decode cX7_isAt 9 = .ok (.if_icmp .eq 17, 3) := by decide +kernel
theorem dX7_isAt_12 : decode cX7_isAt 12 = .ok (.aload_n 0, 1) := by decide +kernel
theorem dX7_isAt_13 : decode cX7_isAt 13 = .ok (.getfield 16, 3) := by decide +kernel
theorem dX7_isAt_16 : decode cX7_isAt 16 = .ok (.iconst 2, 1) := by decide +kernel
theorem dX7_isAt_17 : decode cX7_isAt 17 = .ok (.iload_n 1, 1) := by decide +kernel
theorem dX7_isAt_18 : decode cX7_isAt 18 = .ok (.imul, 1) := by decide +kernel
theorem dX7_isAt_19 : decode cX7_isAt 19 = .ok (.iconst 1, 1) := by decide +kernel
theorem dX7_isAt_20 : decode cX7_isAt 20 = .ok (.iadd, 1) := by decide +kernel
theorem dX7_isAt_21 : decode cX7_isAt 21 = .ok (.iaload, 1) := by decide +kernel
theorem dX7_isAt_22 : decode cX7_isAt 22 = .ok (.iload_n 2, 1) := by decide +kernel
theorem dX7_isAt_23 : decode cX7_isAt 23 = .ok (.if_icmp .ne 7, 3) := by decide +kernel
theorem dX7_isAt_26 : decode cX7_isAt 26 = .ok (.iconst 1, 1) := by decide +kernel
theorem dX7_isAt_27 : decode cX7_isAt 27 = .ok (.goto 4, 3) := by decide +kernel
theorem dX7_isAt_30 : decode cX7_isAt 30 = .ok (.iconst 0, 1) := by decide +kernel
theorem dX7_isAt_31 : decode cX7_isAt 31 = .ok (.ireturn, 1) := by decide +kernel
abbrev kX7_isAt (g : rk_G) (R : rk_R) (pc : Nat) : rk_K := rk_cut g cX7_isAt 3 (some .boolean) RX7 0 R pc
abbrev aX7_isAt (g : rk_G) (R : rk_R) (pc : Nat) (K : rk_K) : Prop := rk_AK g cX7_isAt 3 (some .boolean) RX7 0 R pc K
abbrev sX7_isAt (g : rk_G) (vs : List Value) (σ : rk_M) (R : rk_R) : Prop := rk_does g yX7_isAt cX7_isAt 3 (some .boolean) 0 vs σ R
abbrev tX7_isAt (g : rk_G) (R : rk_R) (pc : Nat) (ls st : List Value) (σ : rk_M) : Prop := rk_At g cX7_isAt 3 (some .boolean) RX7 0 R pc ls st σ
def bX7_isAt_31 (g : rk_G) (R : rk_R) : rk_K := (rk_zret R)
theorem eX7_isAt_31 (g : rk_G) (R : rk_R) (ls st : List Value) (σ : rk_M) : bX7_isAt_31 g R ls st σ = (rk_zret R) ls st σ := rfl
theorem oX7_isAt_31 {g : rk_G} {R : rk_R} : aX7_isAt g R 31 (bX7_isAt_31 g R) := (rk_zret_ok rfl dX7_isAt_31)
def bX7_isAt_26 (g : rk_G) (R : rk_R) : rk_K := (rk_ci (1) (bX7_isAt_31 g R))
theorem eX7_isAt_26 (g : rk_G) (R : rk_R) (ls st : List Value) (σ : rk_M) : bX7_isAt_26 g R ls st σ = (rk_ci (1) (bX7_isAt_31 g R)) ls st σ := rfl
theorem oX7_isAt_26 {g : rk_G} {R : rk_R} : aX7_isAt g R 26 (bX7_isAt_26 g R) := (rk_iconst_ok dX7_isAt_26 (by decide) (rk_goto_ok (pc' := 31) dX7_isAt_27 (by decide) oX7_isAt_31))
def bX7_isAt_0 (g : rk_G) (R : rk_R) : rk_K := (rk_aload 0 (rk_gR 7 4 (rk_ci (2) (rk_iload 1 (rk_imul (rk_iald (rk_iload 2 (rk_icmp_eq (bX7_isAt_26 g R) (rk_aload 0 (rk_gR 7 4 (rk_ci (2) (rk_iload 1 (rk_imul (rk_ci (1) (rk_iadd (rk_iald (rk_iload 2 (rk_icmp_ne (rk_ci (0) (bX7_isAt_31 g R)) (bX7_isAt_26 g R)))))))))))))))))))
theorem eX7_isAt_0 (g : rk_G) (R : rk_R) (ls st : List Value) (σ : rk_M) : bX7_isAt_0 g R ls st σ = (rk_aload 0 (rk_gR 7 4 (rk_ci (2) (rk_iload 1 (rk_imul (rk_iald (rk_iload 2 (rk_icmp_eq (bX7_isAt_26 g R) (rk_aload 0 (rk_gR 7 4 (rk_ci (2) (rk_iload 1 (rk_imul (rk_ci (1) (rk_iadd (rk_iald (rk_iload 2 (rk_icmp_ne (rk_ci (0) (bX7_isAt_31 g R)) (bX7_isAt_26 g R))))))))))))))))))) ls st σ := rfl
theorem oX7_isAt_0 {g : rk_G} {R : rk_R} : aX7_isAt g R 0 (bX7_isAt_0 g R) := (rk_aload_n_ok dX7_isAt_0 rfl (rk_gR_ok dX7_isAt_1 rfl iX7 (by decide) rfl wfX7_16 (rk_iconst_ok dX7_isAt_4 (by decide) (rk_iload_n_ok dX7_isAt_5 rfl (rk_imul_ok dX7_isAt_6 (rk_iald_ok dX7_isAt_7 (rk_iload_n_ok dX7_isAt_8 rfl (rk_icmp_eq_ok (pc' := 26) dX7_isAt_9 (by decide) oX7_isAt_26 (rk_aload_n_ok dX7_isAt_12 rfl (rk_gR_ok dX7_isAt_13 rfl iX7 (by decide) rfl wfX7_16 (rk_iconst_ok dX7_isAt_16 (by decide) (rk_iload_n_ok dX7_isAt_17 rfl (rk_imul_ok dX7_isAt_18 (rk_iconst_ok dX7_isAt_19 (by decide) (rk_iadd_ok dX7_isAt_20 (rk_iald_ok dX7_isAt_21 (rk_iload_n_ok dX7_isAt_22 rfl (rk_icmp_ne_ok (pc' := 30) dX7_isAt_23 (by decide) (rk_iconst_ok dX7_isAt_30 (by decide) oX7_isAt_31) oX7_isAt_26))))))))))))))))))
theorem dX7_other_0 : decode cX7_other 0 = .ok (.aload_n 0, 1) := by decide +kernel
theorem dX7_other_1 : decode cX7_other 1 = .ok (.getfield 16, 3) := by decide +kernel
theorem dX7_other_4 : decode cX7_other 4 = .ok (.iconst 2, 1) := by decide +kernel
theorem dX7_other_5 : decode cX7_other 5 = .ok (.iload_n 1, 1) := by decide +kernel
theorem dX7_other_6 : decode cX7_other 6 = .ok (.imul, 1) := by decide +kernel
theorem dX7_other_7 : decode cX7_other 7 = .ok (.iaload, 1) := by decide +kernel
theorem dX7_other_8 : decode cX7_other 8 = .ok (.iload_n 2, 1) := by decide +kernel
theorem dX7_other_9 : decode cX7_other 9 = .ok (.if_icmp .ne 16, 3) := by decide +kernel
theorem dX7_other_12 : decode cX7_other 12 = .ok (.aload_n 0, 1) := by decide +kernel
theorem dX7_other_13 : decode cX7_other 13 = .ok (.getfield 16, 3) := by decide +kernel
theorem dX7_other_16 : decode cX7_other 16 = .ok (.iconst 2, 1) := by decide +kernel
theorem dX7_other_17 : decode cX7_other 17 = .ok (.iload_n 1, 1) := by decide +kernel
theorem dX7_other_18 : decode cX7_other 18 = .ok (.imul, 1) := by decide +kernel
theorem dX7_other_19 : decode cX7_other 19 = .ok (.iconst 1, 1) := by decide +kernel
theorem dX7_other_20 : decode cX7_other 20 = .ok (.iadd, 1) := by decide +kernel
theorem dX7_other_21 : decode cX7_other 21 = .ok (.iaload, 1) := by decide +kernel
theorem dX7_other_22 : decode cX7_other 22 = .ok (.goto 11, 3) := by decide +kernel
theorem dX7_other_25 : decode cX7_other 25 = .ok (.aload_n 0, 1) := by decide +kernel
theorem dX7_other_26 : decode cX7_other 26 = .ok (.getfield 16, 3) := by decide +kernel
theorem dX7_other_29 : decode cX7_other 29 = .ok (.iconst 2, 1) := by decide +kernel
theorem dX7_other_30 : decode cX7_other 30 = .ok (.iload_n 1, 1) := by decide +kernel
theorem dX7_other_31 : decode cX7_other 31 = .ok (.imul, 1) := by decide +kernel
theorem dX7_other_32 : decode cX7_other 32 = .ok (.iaload, 1) := by decide +kernel
theorem dX7_other_33 : decode cX7_other 33 = .ok (.ireturn, 1) := by decide +kernel
abbrev kX7_other (g : rk_G) (R : rk_R) (pc : Nat) : rk_K := rk_cut g cX7_other 3 (some .int) RX7 0 R pc
abbrev aX7_other (g : rk_G) (R : rk_R) (pc : Nat) (K : rk_K) : Prop := rk_AK g cX7_other 3 (some .int) RX7 0 R pc K
abbrev sX7_other (g : rk_G) (vs : List Value) (σ : rk_M) (R : rk_R) : Prop := rk_does g yX7_other cX7_other 3 (some .int) 0 vs σ R
abbrev tX7_other (g : rk_G) (R : rk_R) (pc : Nat) (ls st : List Value) (σ : rk_M) : Prop := rk_At g cX7_other 3 (some .int) RX7 0 R pc ls st σ
def bX7_other_33 (g : rk_G) (R : rk_R) : rk_K := (rk_iret R)
theorem eX7_other_33 (g : rk_G) (R : rk_R) (ls st : List Value) (σ : rk_M) : bX7_other_33 g R ls st σ = (rk_iret R) ls st σ := rfl
theorem oX7_other_33 {g : rk_G} {R : rk_R} : aX7_other g R 33 (bX7_other_33 g R) := (rk_iret_ok rfl dX7_other_33)
def bX7_other_0 (g : rk_G) (R : rk_R) : rk_K := (rk_aload 0 (rk_gR 7 4 (rk_ci (2) (rk_iload 1 (rk_imul (rk_iald (rk_iload 2 (rk_icmp_ne (rk_aload 0 (rk_gR 7 4 (rk_ci (2) (rk_iload 1 (rk_imul (rk_iald (bX7_other_33 g R))))))) (rk_aload 0 (rk_gR 7 4 (rk_ci (2) (rk_iload 1 (rk_imul (rk_ci (1) (rk_iadd (rk_iald (bX7_other_33 g R)))))))))))))))))
theorem eX7_other_0 (g : rk_G) (R : rk_R) (ls st : List Value) (σ : rk_M) : bX7_other_0 g R ls st σ = (rk_aload 0 (rk_gR 7 4 (rk_ci (2) (rk_iload 1 (rk_imul (rk_iald (rk_iload 2 (rk_icmp_ne (rk_aload 0 (rk_gR 7 4 (rk_ci (2) (rk_iload 1 (rk_imul (rk_iald (bX7_other_33 g R))))))) (rk_aload 0 (rk_gR 7 4 (rk_ci (2) (rk_iload 1 (rk_imul (rk_ci (1) (rk_iadd (rk_iald (bX7_other_33 g R))))))))))))))))) ls st σ := rfl
theorem oX7_other_0 {g : rk_G} {R : rk_R} : aX7_other g R 0 (bX7_other_0 g R) := (rk_aload_n_ok dX7_other_0 rfl (rk_gR_ok dX7_other_1 rfl iX7 (by decide) rfl wfX7_16 (rk_iconst_ok dX7_other_4 (by decide) (rk_iload_n_ok dX7_other_5 rfl (rk_imul_ok dX7_other_6 (rk_iald_ok dX7_other_7 (rk_iload_n_ok dX7_other_8 rfl (rk_icmp_ne_ok (pc' := 25) dX7_other_9 (by decide) (rk_aload_n_ok dX7_other_25 rfl (rk_gR_ok dX7_other_26 rfl iX7 (by decide) rfl wfX7_16 (rk_iconst_ok dX7_other_29 (by decide) (rk_iload_n_ok dX7_other_30 rfl (rk_imul_ok dX7_other_31 (rk_iald_ok dX7_other_32 oX7_other_33)))))) (rk_aload_n_ok dX7_other_12 rfl (rk_gR_ok dX7_other_13 rfl iX7 (by decide) rfl wfX7_16 (rk_iconst_ok dX7_other_16 (by decide) (rk_iload_n_ok dX7_other_17 rfl (rk_imul_ok dX7_other_18 (rk_iconst_ok dX7_other_19 (by decide) (rk_iadd_ok dX7_other_20 (rk_iald_ok dX7_other_21 (rk_goto_ok (pc' := 33) dX7_other_22 (by decide) oX7_other_33)))))))))))))))))
theorem dX7_endOf_0 : decode cX7_endOf 0 = .ok (.aload_n 0, 1) := by decide +kernel
theorem dX7_endOf_1 : decode cX7_endOf 1 = .ok (.getfield 16, 3) := by decide +kernel
theorem dX7_endOf_4 : decode cX7_endOf 4 = .ok (.iconst 2, 1) := by decide +kernel
theorem dX7_endOf_5 : decode cX7_endOf 5 = .ok (.iload_n 1, 1) := by decide +kernel
theorem dX7_endOf_6 : decode cX7_endOf 6 = .ok (.imul, 1) := by decide +kernel
theorem dX7_endOf_7 : decode cX7_endOf 7 = .ok (.iaload, 1) := by decide +kernel
theorem dX7_endOf_8 : decode cX7_endOf 8 = .ok (.iload_n 2, 1) := by decide +kernel
theorem dX7_endOf_9 : decode cX7_endOf 9 = .ok (.if_icmp .ne 9, 3) := by decide +kernel
theorem dX7_endOf_12 : decode cX7_endOf 12 = .ok (.iconst 2, 1) := by decide +kernel
theorem dX7_endOf_13 : decode cX7_endOf 13 = .ok (.iload_n 1, 1) := by decide +kernel
theorem dX7_endOf_14 : decode cX7_endOf 14 = .ok (.imul, 1) := by decide +kernel
theorem dX7_endOf_15 : decode cX7_endOf 15 = .ok (.goto 8, 3) := by decide +kernel
theorem dX7_endOf_18 : decode cX7_endOf 18 = .ok (.iconst 2, 1) := by decide +kernel
theorem dX7_endOf_19 : decode cX7_endOf 19 = .ok (.iload_n 1, 1) := by decide +kernel
theorem dX7_endOf_20 : decode cX7_endOf 20 = .ok (.imul, 1) := by decide +kernel
theorem dX7_endOf_21 : decode cX7_endOf 21 = .ok (.iconst 1, 1) := by decide +kernel
theorem dX7_endOf_22 : decode cX7_endOf 22 = .ok (.iadd, 1) := by decide +kernel
theorem dX7_endOf_23 : decode cX7_endOf 23 = .ok (.ireturn, 1) := by decide +kernel
abbrev kX7_endOf (g : rk_G) (R : rk_R) (pc : Nat) : rk_K := rk_cut g cX7_endOf 3 (some .int) RX7 0 R pc
abbrev aX7_endOf (g : rk_G) (R : rk_R) (pc : Nat) (K : rk_K) : Prop := rk_AK g cX7_endOf 3 (some .int) RX7 0 R pc K
abbrev sX7_endOf (g : rk_G) (vs : List Value) (σ : rk_M) (R : rk_R) : Prop := rk_does g yX7_endOf cX7_endOf 3 (some .int) 0 vs σ R
abbrev tX7_endOf (g : rk_G) (R : rk_R) (pc : Nat) (ls st : List Value) (σ : rk_M) : Prop := rk_At g cX7_endOf 3 (some .int) RX7 0 R pc ls st σ
def bX7_endOf_23 (g : rk_G) (R : rk_R) : rk_K := (rk_iret R)
theorem eX7_endOf_23 (g : rk_G) (R : rk_R) (ls st : List Value) (σ : rk_M) : bX7_endOf_23 g R ls st σ = (rk_iret R) ls st σ := rfl
theorem oX7_endOf_23 {g : rk_G} {R : rk_R} : aX7_endOf g R 23 (bX7_endOf_23 g R) := (rk_iret_ok rfl dX7_endOf_23)
def bX7_endOf_0 (g : rk_G) (R : rk_R) : rk_K := (rk_aload 0 (rk_gR 7 4 (rk_ci (2) (rk_iload 1 (rk_imul (rk_iald (rk_iload 2 (rk_icmp_ne (rk_ci (2) (rk_iload 1 (rk_imul (rk_ci (1) (rk_iadd (bX7_endOf_23 g R)))))) (rk_ci (2) (rk_iload 1 (rk_imul (bX7_endOf_23 g R))))))))))))
theorem eX7_endOf_0 (g : rk_G) (R : rk_R) (ls st : List Value) (σ : rk_M) : bX7_endOf_0 g R ls st σ = (rk_aload 0 (rk_gR 7 4 (rk_ci (2) (rk_iload 1 (rk_imul (rk_iald (rk_iload 2 (rk_icmp_ne (rk_ci (2) (rk_iload 1 (rk_imul (rk_ci (1) (rk_iadd (bX7_endOf_23 g R)))))) (rk_ci (2) (rk_iload 1 (rk_imul (bX7_endOf_23 g R)))))))))))) ls st σ := rfl
theorem oX7_endOf_0 {g : rk_G} {R : rk_R} : aX7_endOf g R 0 (bX7_endOf_0 g R) := (rk_aload_n_ok dX7_endOf_0 rfl (rk_gR_ok dX7_endOf_1 rfl iX7 (by decide) rfl wfX7_16 (rk_iconst_ok dX7_endOf_4 (by decide) (rk_iload_n_ok dX7_endOf_5 rfl (rk_imul_ok dX7_endOf_6 (rk_iald_ok dX7_endOf_7 (rk_iload_n_ok dX7_endOf_8 rfl (rk_icmp_ne_ok (pc' := 18) dX7_endOf_9 (by decide) (rk_iconst_ok dX7_endOf_18 (by decide) (rk_iload_n_ok dX7_endOf_19 rfl (rk_imul_ok dX7_endOf_20 (rk_iconst_ok dX7_endOf_21 (by decide) (rk_iadd_ok dX7_endOf_22 oX7_endOf_23))))) (rk_iconst_ok dX7_endOf_12 (by decide) (rk_iload_n_ok dX7_endOf_13 rfl (rk_imul_ok dX7_endOf_14 (rk_goto_ok (pc' := 23) dX7_endOf_15 (by decide) oX7_endOf_23))))))))))))
theorem dX7_spreads_0 : decode cX7_spreads 0 = .ok (.iconst 0, 1) := by decide +kernel
theorem dX7_spreads_1 : decode cX7_spreads 1 = .ok (.istore_n 2, 1) := by decide +kernel
theorem dX7_spreads_2 : decode cX7_spreads 2 = .ok (.iload_n 2, 1) := by decide +kernel
theorem dX7_spreads_3 : decode cX7_spreads 3 = .ok (.aload_n 0, 1) := by decide +kernel
theorem dX7_spreads_4 : decode cX7_spreads 4 = .ok (.getfield 85, 3) := by decide +kernel
theorem dX7_spreads_7 : decode cX7_spreads 7 = .ok (.if_icmp .ge 97, 3) := by decide +kernel
theorem dX7_spreads_10 : decode cX7_spreads 10 = .ok (.aload_n 0, 1) := by decide +kernel
theorem dX7_spreads_11 : decode cX7_spreads 11 = .ok (.getfield 28, 3) := by decide +kernel
theorem dX7_spreads_14 : decode cX7_spreads 14 = .ok (.iconst 2, 1) := by decide +kernel
theorem dX7_spreads_15 : decode cX7_spreads 15 = .ok (.iload_n 2, 1) := by decide +kernel
theorem dX7_spreads_16 : decode cX7_spreads 16 = .ok (.imul, 1) := by decide +kernel
theorem dX7_spreads_17 : decode cX7_spreads 17 = .ok (.iaload, 1) := by decide +kernel
theorem dX7_spreads_18 : decode cX7_spreads 18 = .ok (.iconst (-1), 1) := by decide +kernel
theorem dX7_spreads_19 : decode cX7_spreads 19 = .ok (.if_icmp .eq 20, 3) := by decide +kernel
theorem dX7_spreads_22 : decode cX7_spreads 22 = .ok (.aload_n 0, 1) := by decide +kernel
theorem dX7_spreads_23 : decode cX7_spreads 23 = .ok (.getfield 31, 3) := by decide +kernel
theorem dX7_spreads_26 : decode cX7_spreads 26 = .ok (.aload_n 0, 1) := by decide +kernel
theorem dX7_spreads_27 : decode cX7_spreads 27 = .ok (.getfield 28, 3) := by decide +kernel
theorem dX7_spreads_30 : decode cX7_spreads 30 = .ok (.iconst 2, 1) := by decide +kernel
theorem dX7_spreads_31 : decode cX7_spreads 31 = .ok (.iload_n 2, 1) := by decide +kernel
theorem dX7_spreads_32 : decode cX7_spreads 32 = .ok (.imul, 1) := by decide +kernel
theorem dX7_spreads_33 : decode cX7_spreads 33 = .ok (.iaload, 1) := by decide +kernel
theorem dX7_spreads_34 : decode cX7_spreads 34 = .ok (.iaload, 1) := by decide +kernel
theorem dX7_spreads_35 : decode cX7_spreads 35 = .ok (.iload_n 1, 1) := by decide +kernel
theorem dX7_spreads_36 : decode cX7_spreads 36 = .ok (.if_icmp .eq 36, 3) := by decide +kernel
theorem dX7_spreads_39 : decode cX7_spreads 39 = .ok (.aload_n 0, 1) := by decide +kernel
theorem dX7_spreads_40 : decode cX7_spreads 40 = .ok (.getfield 28, 3) := by decide +kernel
theorem dX7_spreads_43 : decode cX7_spreads 43 = .ok (.iconst 2, 1) := by decide +kernel
theorem dX7_spreads_44 : decode cX7_spreads 44 = .ok (.iload_n 2, 1) := by decide +kernel
theorem dX7_spreads_45 : decode cX7_spreads 45 = .ok (.imul, 1) := by decide +kernel
theorem dX7_spreads_46 : decode cX7_spreads 46 = .ok (.iconst 1, 1) := by decide +kernel
theorem dX7_spreads_47 : decode cX7_spreads 47 = .ok (.iadd, 1) := by decide +kernel
theorem dX7_spreads_48 : decode cX7_spreads 48 = .ok (.iaload, 1) := by decide +kernel
theorem dX7_spreads_49 : decode cX7_spreads 49 = .ok (.iconst (-1), 1) := by decide +kernel
theorem dX7_spreads_50 : decode cX7_spreads 50 = .ok (.if_icmp .eq 26, 3) := by decide +kernel
theorem dX7_spreads_53 : decode cX7_spreads 53 = .ok (.aload_n 0, 1) := by decide +kernel
theorem dX7_spreads_54 : decode cX7_spreads 54 = .ok (.getfield 31, 3) := by decide +kernel
theorem dX7_spreads_57 : decode cX7_spreads 57 = .ok (.aload_n 0, 1) := by decide +kernel
theorem dX7_spreads_58 : decode cX7_spreads 58 = .ok (.getfield 28, 3) := by decide +kernel
theorem dX7_spreads_61 : decode cX7_spreads 61 = .ok (.iconst 2, 1) := by decide +kernel
theorem dX7_spreads_62 : decode cX7_spreads 62 = .ok (.iload_n 2, 1) := by decide +kernel
theorem dX7_spreads_63 : decode cX7_spreads 63 = .ok (.imul, 1) := by decide +kernel
theorem dX7_spreads_64 : decode cX7_spreads 64 = .ok (.iconst 1, 1) := by decide +kernel
theorem dX7_spreads_65 : decode cX7_spreads 65 = .ok (.iadd, 1) := by decide +kernel
theorem dX7_spreads_66 : decode cX7_spreads 66 = .ok (.iaload, 1) := by decide +kernel
theorem dX7_spreads_67 : decode cX7_spreads 67 = .ok (.iaload, 1) := by decide +kernel
theorem dX7_spreads_68 : decode cX7_spreads 68 = .ok (.iload_n 1, 1) := by decide +kernel
theorem dX7_spreads_69 : decode cX7_spreads 69 = .ok (.if_icmp .ne 7, 3) := by decide +kernel
theorem dX7_spreads_72 : decode cX7_spreads 72 = .ok (.iconst 1, 1) := by decide +kernel
theorem dX7_spreads_73 : decode cX7_spreads 73 = .ok (.goto 4, 3) := by decide +kernel
theorem dX7_spreads_76 : decode cX7_spreads 76 = .ok (.iconst 0, 1) := by decide +kernel
theorem dX7_spreads_77 : decode cX7_spreads 77 = .ok (.istore_n 3, 1) := by decide +kernel
theorem dX7_spreads_78 : decode cX7_spreads 78 = .ok (.aload_n 0, 1) := by decide +kernel
theorem dX7_spreads_79 : decode cX7_spreads 79 = .ok (.getfield 31, 3) := by decide +kernel
theorem dX7_spreads_82 : decode cX7_spreads 82 = .ok (.iload_n 2, 1) := by decide +kernel
theorem dX7_spreads_83 : decode cX7_spreads 83 = .ok (.iload_n 3, 1) := by decide +kernel
theorem dX7_spreads_84 : decode cX7_spreads 84 = .ok (.ifCond .eq 7, 3) := by decide +kernel
theorem dX7_spreads_87 : decode cX7_spreads 87 = .ok (.iload_n 1, 1) := by decide +kernel
theorem dX7_spreads_88 : decode cX7_spreads 88 = .ok (.goto 9, 3) := by decide +kernel
theorem dX7_spreads_91 : decode cX7_spreads 91 = .ok (.aload_n 0, 1) := by decide +kernel
theorem dX7_spreads_92 : decode cX7_spreads 92 = .ok (.getfield 31, 3) := by decide +kernel
theorem dX7_spreads_95 : decode cX7_spreads 95 = .ok (.iload_n 2, 1) := by decide +kernel
theorem dX7_spreads_96 : decode cX7_spreads 96 = .ok (.iaload, 1) := by decide +kernel
theorem dX7_spreads_97 : decode cX7_spreads 97 = .ok (.iastore, 1) := by decide +kernel
theorem dX7_spreads_98 : decode cX7_spreads 98 = .ok (.iinc 2 1, 3) := by decide +kernel
theorem dX7_spreads_101 : decode cX7_spreads 101 = .ok (.goto (-99), 3) := by decide +kernel
theorem dX7_spreads_104 : decode cX7_spreads 104 = .ok (.return_, 1) := by decide +kernel
abbrev kX7_spreads (g : rk_G) (R : rk_R) (pc : Nat) : rk_K := rk_cut g cX7_spreads 4 none RX7 0 R pc
abbrev aX7_spreads (g : rk_G) (R : rk_R) (pc : Nat) (K : rk_K) : Prop := rk_AK g cX7_spreads 4 none RX7 0 R pc K
abbrev sX7_spreads (g : rk_G) (vs : List Value) (σ : rk_M) (R : rk_R) : Prop := rk_does g yX7_spreads cX7_spreads 4 none 0 vs σ R
abbrev tX7_spreads (g : rk_G) (R : rk_R) (pc : Nat) (ls st : List Value) (σ : rk_M) : Prop := rk_At g cX7_spreads 4 none RX7 0 R pc ls st σ
def bX7_spreads_97 (g : rk_G) (R : rk_R) : rk_K := (rk_iast (rk_iinc 2 (1) (kX7_spreads g R 2)))
theorem eX7_spreads_97 (g : rk_G) (R : rk_R) (ls st : List Value) (σ : rk_M) : bX7_spreads_97 g R ls st σ = (rk_iast (rk_iinc 2 (1) (kX7_spreads g R 2))) ls st σ := rfl
theorem oX7_spreads_97 {g : rk_G} {R : rk_R} : aX7_spreads g R 97 (bX7_spreads_97 g R) := (rk_iast_ok dX7_spreads_97 (rk_iinc_ok dX7_spreads_98 (by decide) (by decide) (rk_goto_ok (pc' := 2) dX7_spreads_101 (by decide) rk_cut_ok)))
def bX7_spreads_77 (g : rk_G) (R : rk_R) : rk_K := (rk_istore 3 (rk_aload 0 (rk_gR 7 12 (rk_iload 2 (rk_iload 3 (rk_if_eq (rk_aload 0 (rk_gR 7 12 (rk_iload 2 (rk_iald (bX7_spreads_97 g R))))) (rk_iload 1 (bX7_spreads_97 g R))))))))
theorem eX7_spreads_77 (g : rk_G) (R : rk_R) (ls st : List Value) (σ : rk_M) : bX7_spreads_77 g R ls st σ = (rk_istore 3 (rk_aload 0 (rk_gR 7 12 (rk_iload 2 (rk_iload 3 (rk_if_eq (rk_aload 0 (rk_gR 7 12 (rk_iload 2 (rk_iald (bX7_spreads_97 g R))))) (rk_iload 1 (bX7_spreads_97 g R)))))))) ls st σ := rfl
theorem oX7_spreads_77 {g : rk_G} {R : rk_R} : aX7_spreads g R 77 (bX7_spreads_77 g R) := (rk_istore_n_ok dX7_spreads_77 rfl (by decide) (rk_aload_n_ok dX7_spreads_78 rfl (rk_gR_ok dX7_spreads_79 rfl iX7 (by decide) rfl wfX7_31 (rk_iload_n_ok dX7_spreads_82 rfl (rk_iload_n_ok dX7_spreads_83 rfl (rk_if_eq_ok (pc' := 91) dX7_spreads_84 (by decide) (rk_aload_n_ok dX7_spreads_91 rfl (rk_gR_ok dX7_spreads_92 rfl iX7 (by decide) rfl wfX7_31 (rk_iload_n_ok dX7_spreads_95 rfl (rk_iald_ok dX7_spreads_96 oX7_spreads_97)))) (rk_iload_n_ok dX7_spreads_87 rfl (rk_goto_ok (pc' := 97) dX7_spreads_88 (by decide) oX7_spreads_97))))))))
def bX7_spreads_76 (g : rk_G) (R : rk_R) : rk_K := (rk_ci (0) (bX7_spreads_77 g R))
theorem eX7_spreads_76 (g : rk_G) (R : rk_R) (ls st : List Value) (σ : rk_M) : bX7_spreads_76 g R ls st σ = (rk_ci (0) (bX7_spreads_77 g R)) ls st σ := rfl
theorem oX7_spreads_76 {g : rk_G} {R : rk_R} : aX7_spreads g R 76 (bX7_spreads_76 g R) := (rk_iconst_ok dX7_spreads_76 (by decide) oX7_spreads_77)
def bX7_spreads_72 (g : rk_G) (R : rk_R) : rk_K := (rk_ci (1) (bX7_spreads_77 g R))
theorem eX7_spreads_72 (g : rk_G) (R : rk_R) (ls st : List Value) (σ : rk_M) : bX7_spreads_72 g R ls st σ = (rk_ci (1) (bX7_spreads_77 g R)) ls st σ := rfl
theorem oX7_spreads_72 {g : rk_G} {R : rk_R} : aX7_spreads g R 72 (bX7_spreads_72 g R) := (rk_iconst_ok dX7_spreads_72 (by decide) (rk_goto_ok (pc' := 77) dX7_spreads_73 (by decide) oX7_spreads_77))
def bX7_spreads_39 (g : rk_G) (R : rk_R) : rk_K := (rk_aload 0 (rk_gR 7 9 (rk_ci (2) (rk_iload 2 (rk_imul (rk_ci (1) (rk_iadd (rk_iald (rk_ci (-1) (rk_icmp_eq (bX7_spreads_76 g R) (rk_aload 0 (rk_gR 7 12 (rk_aload 0 (rk_gR 7 9 (rk_ci (2) (rk_iload 2 (rk_imul (rk_ci (1) (rk_iadd (rk_iald (rk_iald (rk_iload 1 (rk_icmp_ne (bX7_spreads_76 g R) (bX7_spreads_72 g R))))))))))))))))))))))))
theorem eX7_spreads_39 (g : rk_G) (R : rk_R) (ls st : List Value) (σ : rk_M) : bX7_spreads_39 g R ls st σ = (rk_aload 0 (rk_gR 7 9 (rk_ci (2) (rk_iload 2 (rk_imul (rk_ci (1) (rk_iadd (rk_iald (rk_ci (-1) (rk_icmp_eq (bX7_spreads_76 g R) (rk_aload 0 (rk_gR 7 12 (rk_aload 0 (rk_gR 7 9 (rk_ci (2) (rk_iload 2 (rk_imul (rk_ci (1) (rk_iadd (rk_iald (rk_iald (rk_iload 1 (rk_icmp_ne (bX7_spreads_76 g R) (bX7_spreads_72 g R)))))))))))))))))))))))) ls st σ := rfl
theorem oX7_spreads_39 {g : rk_G} {R : rk_R} : aX7_spreads g R 39 (bX7_spreads_39 g R) := (rk_aload_n_ok dX7_spreads_39 rfl (rk_gR_ok dX7_spreads_40 rfl iX7 (by decide) rfl wfX7_28 (rk_iconst_ok dX7_spreads_43 (by decide) (rk_iload_n_ok dX7_spreads_44 rfl (rk_imul_ok dX7_spreads_45 (rk_iconst_ok dX7_spreads_46 (by decide) (rk_iadd_ok dX7_spreads_47 (rk_iald_ok dX7_spreads_48 (rk_iconst_ok dX7_spreads_49 (by decide) (rk_icmp_eq_ok (pc' := 76) dX7_spreads_50 (by decide) oX7_spreads_76 (rk_aload_n_ok dX7_spreads_53 rfl (rk_gR_ok dX7_spreads_54 rfl iX7 (by decide) rfl wfX7_31 (rk_aload_n_ok dX7_spreads_57 rfl (rk_gR_ok dX7_spreads_58 rfl iX7 (by decide) rfl wfX7_28 (rk_iconst_ok dX7_spreads_61 (by decide) (rk_iload_n_ok dX7_spreads_62 rfl (rk_imul_ok dX7_spreads_63 (rk_iconst_ok dX7_spreads_64 (by decide) (rk_iadd_ok dX7_spreads_65 (rk_iald_ok dX7_spreads_66 (rk_iald_ok dX7_spreads_67 (rk_iload_n_ok dX7_spreads_68 rfl (rk_icmp_ne_ok (pc' := 76) dX7_spreads_69 (by decide) oX7_spreads_76 oX7_spreads_72)))))))))))))))))))))))
def bX7_spreads_2 (g : rk_G) (R : rk_R) : rk_K := (rk_iload 2 (rk_aload 0 (rk_gI 7 3 (rk_icmp_ge (rk_vret R) (rk_aload 0 (rk_gR 7 9 (rk_ci (2) (rk_iload 2 (rk_imul (rk_iald (rk_ci (-1) (rk_icmp_eq (bX7_spreads_39 g R) (rk_aload 0 (rk_gR 7 12 (rk_aload 0 (rk_gR 7 9 (rk_ci (2) (rk_iload 2 (rk_imul (rk_iald (rk_iald (rk_iload 1 (rk_icmp_eq (bX7_spreads_72 g R) (bX7_spreads_39 g R))))))))))))))))))))))))
theorem eX7_spreads_2 (g : rk_G) (R : rk_R) (ls st : List Value) (σ : rk_M) : bX7_spreads_2 g R ls st σ = (rk_iload 2 (rk_aload 0 (rk_gI 7 3 (rk_icmp_ge (rk_vret R) (rk_aload 0 (rk_gR 7 9 (rk_ci (2) (rk_iload 2 (rk_imul (rk_iald (rk_ci (-1) (rk_icmp_eq (bX7_spreads_39 g R) (rk_aload 0 (rk_gR 7 12 (rk_aload 0 (rk_gR 7 9 (rk_ci (2) (rk_iload 2 (rk_imul (rk_iald (rk_iald (rk_iload 1 (rk_icmp_eq (bX7_spreads_72 g R) (bX7_spreads_39 g R)))))))))))))))))))))))) ls st σ := rfl
theorem oX7_spreads_2 {g : rk_G} {R : rk_R} : aX7_spreads g R 2 (bX7_spreads_2 g R) := (rk_iload_n_ok dX7_spreads_2 rfl (rk_aload_n_ok dX7_spreads_3 rfl (rk_gI_ok dX7_spreads_4 rfl iX7 (by decide) rfl wfX7_85 (rk_icmp_ge_ok (pc' := 104) dX7_spreads_7 (by decide) (rk_vret_ok rfl dX7_spreads_104) (rk_aload_n_ok dX7_spreads_10 rfl (rk_gR_ok dX7_spreads_11 rfl iX7 (by decide) rfl wfX7_28 (rk_iconst_ok dX7_spreads_14 (by decide) (rk_iload_n_ok dX7_spreads_15 rfl (rk_imul_ok dX7_spreads_16 (rk_iald_ok dX7_spreads_17 (rk_iconst_ok dX7_spreads_18 (by decide) (rk_icmp_eq_ok (pc' := 39) dX7_spreads_19 (by decide) oX7_spreads_39 (rk_aload_n_ok dX7_spreads_22 rfl (rk_gR_ok dX7_spreads_23 rfl iX7 (by decide) rfl wfX7_31 (rk_aload_n_ok dX7_spreads_26 rfl (rk_gR_ok dX7_spreads_27 rfl iX7 (by decide) rfl wfX7_28 (rk_iconst_ok dX7_spreads_30 (by decide) (rk_iload_n_ok dX7_spreads_31 rfl (rk_imul_ok dX7_spreads_32 (rk_iald_ok dX7_spreads_33 (rk_iald_ok dX7_spreads_34 (rk_iload_n_ok dX7_spreads_35 rfl (rk_icmp_eq_ok (pc' := 72) dX7_spreads_36 (by decide) oX7_spreads_72 oX7_spreads_39)))))))))))))))))))))))
def bX7_spreads_0 (g : rk_G) (R : rk_R) : rk_K := (rk_ci (0) (rk_istore 2 (kX7_spreads g R 2)))
theorem eX7_spreads_0 (g : rk_G) (R : rk_R) (ls st : List Value) (σ : rk_M) : bX7_spreads_0 g R ls st σ = (rk_ci (0) (rk_istore 2 (kX7_spreads g R 2))) ls st σ := rfl
theorem oX7_spreads_0 {g : rk_G} {R : rk_R} : aX7_spreads g R 0 (bX7_spreads_0 g R) := (rk_iconst_ok dX7_spreads_0 (by decide) (rk_istore_n_ok dX7_spreads_1 rfl (by decide) rk_cut_ok))
theorem dX7_bestLeft_0 : decode cX7_bestLeft 0 = .ok (.iconst (-1), 1) := by decide +kernel
theorem dX7_bestLeft_1 : decode cX7_bestLeft 1 = .ok (.istore_n 3, 1) := by decide +kernel
theorem dX7_bestLeft_2 : decode cX7_bestLeft 2 = .ok (.iconst 0, 1) := by decide +kernel
theorem dX7_bestLeft_3 : decode cX7_bestLeft 3 = .ok (.istore 4, 2) := by decide +kernel
theorem dX7_bestLeft_5 : decode cX7_bestLeft 5 = .ok (.iload 4, 2) := by decide +kernel
theorem dX7_bestLeft_7 : decode cX7_bestLeft 7 = .ok (.aload_n 0, 1) := by decide +kernel
theorem dX7_bestLeft_8 : decode cX7_bestLeft 8 = .ok (.getfield 165, 3) := by decide +kernel
theorem dX7_bestLeft_11 : decode cX7_bestLeft 11 = .ok (.if_icmp .ge 76, 3) := by decide +kernel
theorem dX7_bestLeft_14 : decode cX7_bestLeft 14 = .ok (.aload_n 0, 1) := by decide +kernel
theorem dX7_bestLeft_15 : decode cX7_bestLeft 15 = .ok (.getfield 52, 3) := by decide +kernel
theorem dX7_bestLeft_18 : decode cX7_bestLeft 18 = .ok (.iload 4, 2) := by decide +kernel
theorem dX7_bestLeft_20 : decode cX7_bestLeft 20 = .ok (.iaload, 1) := by decide +kernel
theorem dX7_bestLeft_21 : decode cX7_bestLeft 21 = .ok (.iconst (-1), 1) := by decide +kernel
theorem dX7_bestLeft_22 : decode cX7_bestLeft 22 = .ok (.if_icmp .ne 23, 3) := by decide +kernel
theorem dX7_bestLeft_25 : decode cX7_bestLeft 25 = .ok (.iload_n 2, 1) := by decide +kernel
theorem dX7_bestLeft_26 : decode cX7_bestLeft 26 = .ok (.ifCond .ne 15, 3) := by decide +kernel
theorem dX7_bestLeft_29 : decode cX7_bestLeft 29 = .ok (.aload_n 0, 1) := by decide +kernel
theorem dX7_bestLeft_30 : decode cX7_bestLeft 30 = .ok (.getfield 37, 3) := by decide +kernel
theorem dX7_bestLeft_33 : decode cX7_bestLeft 33 = .ok (.iload 4, 2) := by decide +kernel
theorem dX7_bestLeft_35 : decode cX7_bestLeft 35 = .ok (.iaload, 1) := by decide +kernel
theorem dX7_bestLeft_36 : decode cX7_bestLeft 36 = .ok (.iload_n 1, 1) := by decide +kernel
theorem dX7_bestLeft_37 : decode cX7_bestLeft 37 = .ok (.iand, 1) := by decide +kernel
theorem dX7_bestLeft_38 : decode cX7_bestLeft 38 = .ok (.ifCond .eq 7, 3) := by decide +kernel
theorem dX7_bestLeft_41 : decode cX7_bestLeft 41 = .ok (.iconst 1, 1) := by decide +kernel
theorem dX7_bestLeft_42 : decode cX7_bestLeft 42 = .ok (.goto 4, 3) := by decide +kernel
theorem dX7_bestLeft_45 : decode cX7_bestLeft 45 = .ok (.iconst 0, 1) := by decide +kernel
theorem dX7_bestLeft_46 : decode cX7_bestLeft 46 = .ok (.istore 5, 2) := by decide +kernel
theorem dX7_bestLeft_48 : decode cX7_bestLeft 48 = .ok (.iload 5, 2) := by decide +kernel
theorem dX7_bestLeft_50 : decode cX7_bestLeft 50 = .ok (.ifCond .eq 29, 3) := by decide +kernel
theorem dX7_bestLeft_53 : decode cX7_bestLeft 53 = .ok (.iload_n 3, 1) := by decide +kernel
theorem dX7_bestLeft_54 : decode cX7_bestLeft 54 = .ok (.iconst (-1), 1) := by decide +kernel
theorem dX7_bestLeft_55 : decode cX7_bestLeft 55 = .ok (.if_icmp .eq 19, 3) := by decide +kernel
theorem dX7_bestLeft_58 : decode cX7_bestLeft 58 = .ok (.aload_n 0, 1) := by decide +kernel
theorem dX7_bestLeft_59 : decode cX7_bestLeft 59 = .ok (.getfield 43, 3) := by decide +kernel
theorem dX7_bestLeft_62 : decode cX7_bestLeft 62 = .ok (.iload 4, 2) := by decide +kernel
theorem dX7_bestLeft_64 : decode cX7_bestLeft 64 = .ok (.iaload, 1) := by decide +kernel
theorem dX7_bestLeft_65 : decode cX7_bestLeft 65 = .ok (.aload_n 0, 1) := by decide +kernel
theorem dX7_bestLeft_66 : decode cX7_bestLeft 66 = .ok (.getfield 43, 3) := by decide +kernel
theorem dX7_bestLeft_69 : decode cX7_bestLeft 69 = .ok (.iload_n 3, 1) := by decide +kernel
theorem dX7_bestLeft_70 : decode cX7_bestLeft 70 = .ok (.iaload, 1) := by decide +kernel
theorem dX7_bestLeft_71 : decode cX7_bestLeft 71 = .ok (.if_icmp .le 8, 3) := by decide +kernel
theorem dX7_bestLeft_74 : decode cX7_bestLeft 74 = .ok (.iload 4, 2) := by decide +kernel
theorem dX7_bestLeft_76 : decode cX7_bestLeft 76 = .ok (.goto 4, 3) := by decide +kernel
theorem dX7_bestLeft_79 : decode cX7_bestLeft 79 = .ok (.iload_n 3, 1) := by decide +kernel
theorem dX7_bestLeft_80 : decode cX7_bestLeft 80 = .ok (.istore_n 3, 1) := by decide +kernel
theorem dX7_bestLeft_81 : decode cX7_bestLeft 81 = .ok (.iinc 4 1, 3) := by decide +kernel
theorem dX7_bestLeft_84 : decode cX7_bestLeft 84 = .ok (.goto (-79), 3) := by decide +kernel
theorem dX7_bestLeft_87 : decode cX7_bestLeft 87 = .ok (.iload_n 3, 1) := by decide +kernel
theorem dX7_bestLeft_88 : decode cX7_bestLeft 88 = .ok (.ireturn, 1) := by decide +kernel
abbrev kX7_bestLeft (g : rk_G) (R : rk_R) (pc : Nat) : rk_K := rk_cut g cX7_bestLeft 6 (some .int) RX7 0 R pc
abbrev aX7_bestLeft (g : rk_G) (R : rk_R) (pc : Nat) (K : rk_K) : Prop := rk_AK g cX7_bestLeft 6 (some .int) RX7 0 R pc K
abbrev sX7_bestLeft (g : rk_G) (vs : List Value) (σ : rk_M) (R : rk_R) : Prop := rk_does g yX7_bestLeft cX7_bestLeft 6 (some .int) 0 vs σ R
abbrev tX7_bestLeft (g : rk_G) (R : rk_R) (pc : Nat) (ls st : List Value) (σ : rk_M) : Prop := rk_At g cX7_bestLeft 6 (some .int) RX7 0 R pc ls st σ
def bX7_bestLeft_80 (g : rk_G) (R : rk_R) : rk_K := (rk_istore 3 (rk_iinc 4 (1) (kX7_bestLeft g R 5)))
theorem eX7_bestLeft_80 (g : rk_G) (R : rk_R) (ls st : List Value) (σ : rk_M) : bX7_bestLeft_80 g R ls st σ = (rk_istore 3 (rk_iinc 4 (1) (kX7_bestLeft g R 5))) ls st σ := rfl
theorem oX7_bestLeft_80 {g : rk_G} {R : rk_R} : aX7_bestLeft g R 80 (bX7_bestLeft_80 g R) := (rk_istore_n_ok dX7_bestLeft_80 rfl (by decide) (rk_iinc_ok dX7_bestLeft_81 (by decide) (by decide) (rk_goto_ok (pc' := 5) dX7_bestLeft_84 (by decide) rk_cut_ok)))
def bX7_bestLeft_79 (g : rk_G) (R : rk_R) : rk_K := (rk_iload 3 (bX7_bestLeft_80 g R))
theorem eX7_bestLeft_79 (g : rk_G) (R : rk_R) (ls st : List Value) (σ : rk_M) : bX7_bestLeft_79 g R ls st σ = (rk_iload 3 (bX7_bestLeft_80 g R)) ls st σ := rfl
theorem oX7_bestLeft_79 {g : rk_G} {R : rk_R} : aX7_bestLeft g R 79 (bX7_bestLeft_79 g R) := (rk_iload_n_ok dX7_bestLeft_79 rfl oX7_bestLeft_80)
def bX7_bestLeft_74 (g : rk_G) (R : rk_R) : rk_K := (rk_iload 4 (bX7_bestLeft_80 g R))
theorem eX7_bestLeft_74 (g : rk_G) (R : rk_R) (ls st : List Value) (σ : rk_M) : bX7_bestLeft_74 g R ls st σ = (rk_iload 4 (bX7_bestLeft_80 g R)) ls st σ := rfl
theorem oX7_bestLeft_74 {g : rk_G} {R : rk_R} : aX7_bestLeft g R 74 (bX7_bestLeft_74 g R) := (rk_iload_ok dX7_bestLeft_74 (rk_goto_ok (pc' := 80) dX7_bestLeft_76 (by decide) oX7_bestLeft_80))
def bX7_bestLeft_46 (g : rk_G) (R : rk_R) : rk_K := (rk_istore 5 (rk_iload 5 (rk_if_eq (bX7_bestLeft_79 g R) (rk_iload 3 (rk_ci (-1) (rk_icmp_eq (bX7_bestLeft_74 g R) (rk_aload 0 (rk_gR 7 16 (rk_iload 4 (rk_iald (rk_aload 0 (rk_gR 7 16 (rk_iload 3 (rk_iald (rk_icmp_le (bX7_bestLeft_79 g R) (bX7_bestLeft_74 g R))))))))))))))))
theorem eX7_bestLeft_46 (g : rk_G) (R : rk_R) (ls st : List Value) (σ : rk_M) : bX7_bestLeft_46 g R ls st σ = (rk_istore 5 (rk_iload 5 (rk_if_eq (bX7_bestLeft_79 g R) (rk_iload 3 (rk_ci (-1) (rk_icmp_eq (bX7_bestLeft_74 g R) (rk_aload 0 (rk_gR 7 16 (rk_iload 4 (rk_iald (rk_aload 0 (rk_gR 7 16 (rk_iload 3 (rk_iald (rk_icmp_le (bX7_bestLeft_79 g R) (bX7_bestLeft_74 g R)))))))))))))))) ls st σ := rfl
theorem oX7_bestLeft_46 {g : rk_G} {R : rk_R} : aX7_bestLeft g R 46 (bX7_bestLeft_46 g R) := (rk_istore_ok dX7_bestLeft_46 (by decide) (rk_iload_ok dX7_bestLeft_48 (rk_if_eq_ok (pc' := 79) dX7_bestLeft_50 (by decide) oX7_bestLeft_79 (rk_iload_n_ok dX7_bestLeft_53 rfl (rk_iconst_ok dX7_bestLeft_54 (by decide) (rk_icmp_eq_ok (pc' := 74) dX7_bestLeft_55 (by decide) oX7_bestLeft_74 (rk_aload_n_ok dX7_bestLeft_58 rfl (rk_gR_ok dX7_bestLeft_59 rfl iX7 (by decide) rfl wfX7_43 (rk_iload_ok dX7_bestLeft_62 (rk_iald_ok dX7_bestLeft_64 (rk_aload_n_ok dX7_bestLeft_65 rfl (rk_gR_ok dX7_bestLeft_66 rfl iX7 (by decide) rfl wfX7_43 (rk_iload_n_ok dX7_bestLeft_69 rfl (rk_iald_ok dX7_bestLeft_70 (rk_icmp_le_ok (pc' := 79) dX7_bestLeft_71 (by decide) oX7_bestLeft_79 oX7_bestLeft_74)))))))))))))))
def bX7_bestLeft_45 (g : rk_G) (R : rk_R) : rk_K := (rk_ci (0) (bX7_bestLeft_46 g R))
theorem eX7_bestLeft_45 (g : rk_G) (R : rk_R) (ls st : List Value) (σ : rk_M) : bX7_bestLeft_45 g R ls st σ = (rk_ci (0) (bX7_bestLeft_46 g R)) ls st σ := rfl
theorem oX7_bestLeft_45 {g : rk_G} {R : rk_R} : aX7_bestLeft g R 45 (bX7_bestLeft_45 g R) := (rk_iconst_ok dX7_bestLeft_45 (by decide) oX7_bestLeft_46)
def bX7_bestLeft_41 (g : rk_G) (R : rk_R) : rk_K := (rk_ci (1) (bX7_bestLeft_46 g R))
theorem eX7_bestLeft_41 (g : rk_G) (R : rk_R) (ls st : List Value) (σ : rk_M) : bX7_bestLeft_41 g R ls st σ = (rk_ci (1) (bX7_bestLeft_46 g R)) ls st σ := rfl
theorem oX7_bestLeft_41 {g : rk_G} {R : rk_R} : aX7_bestLeft g R 41 (bX7_bestLeft_41 g R) := (rk_iconst_ok dX7_bestLeft_41 (by decide) (rk_goto_ok (pc' := 46) dX7_bestLeft_42 (by decide) oX7_bestLeft_46))
def bX7_bestLeft_5 (g : rk_G) (R : rk_R) : rk_K := (rk_iload 4 (rk_aload 0 (rk_gI 7 11 (rk_icmp_ge (rk_iload 3 (rk_iret R)) (rk_aload 0 (rk_gR 7 21 (rk_iload 4 (rk_iald (rk_ci (-1) (rk_icmp_ne (bX7_bestLeft_45 g R) (rk_iload 2 (rk_if_ne (bX7_bestLeft_41 g R) (rk_aload 0 (rk_gR 7 14 (rk_iload 4 (rk_iald (rk_iload 1 (rk_iand (rk_if_eq (bX7_bestLeft_45 g R) (bX7_bestLeft_41 g R))))))))))))))))))))
theorem eX7_bestLeft_5 (g : rk_G) (R : rk_R) (ls st : List Value) (σ : rk_M) : bX7_bestLeft_5 g R ls st σ = (rk_iload 4 (rk_aload 0 (rk_gI 7 11 (rk_icmp_ge (rk_iload 3 (rk_iret R)) (rk_aload 0 (rk_gR 7 21 (rk_iload 4 (rk_iald (rk_ci (-1) (rk_icmp_ne (bX7_bestLeft_45 g R) (rk_iload 2 (rk_if_ne (bX7_bestLeft_41 g R) (rk_aload 0 (rk_gR 7 14 (rk_iload 4 (rk_iald (rk_iload 1 (rk_iand (rk_if_eq (bX7_bestLeft_45 g R) (bX7_bestLeft_41 g R)))))))))))))))))))) ls st σ := rfl
theorem oX7_bestLeft_5 {g : rk_G} {R : rk_R} : aX7_bestLeft g R 5 (bX7_bestLeft_5 g R) := (rk_iload_ok dX7_bestLeft_5 (rk_aload_n_ok dX7_bestLeft_7 rfl (rk_gI_ok dX7_bestLeft_8 rfl iX7 (by decide) rfl wfX7_165 (rk_icmp_ge_ok (pc' := 87) dX7_bestLeft_11 (by decide) (rk_iload_n_ok dX7_bestLeft_87 rfl (rk_iret_ok rfl dX7_bestLeft_88)) (rk_aload_n_ok dX7_bestLeft_14 rfl (rk_gR_ok dX7_bestLeft_15 rfl iX7 (by decide) rfl wfX7_52 (rk_iload_ok dX7_bestLeft_18 (rk_iald_ok dX7_bestLeft_20 (rk_iconst_ok dX7_bestLeft_21 (by decide) (rk_icmp_ne_ok (pc' := 45) dX7_bestLeft_22 (by decide) oX7_bestLeft_45 (rk_iload_n_ok dX7_bestLeft_25 rfl (rk_if_ne_ok (pc' := 41) dX7_bestLeft_26 (by decide) oX7_bestLeft_41 (rk_aload_n_ok dX7_bestLeft_29 rfl (rk_gR_ok dX7_bestLeft_30 rfl iX7 (by decide) rfl wfX7_37 (rk_iload_ok dX7_bestLeft_33 (rk_iald_ok dX7_bestLeft_35 (rk_iload_n_ok dX7_bestLeft_36 rfl (rk_iand_ok dX7_bestLeft_37 (rk_if_eq_ok (pc' := 45) dX7_bestLeft_38 (by decide) oX7_bestLeft_45 oX7_bestLeft_41)))))))))))))))))))
def bX7_bestLeft_0 (g : rk_G) (R : rk_R) : rk_K := (rk_ci (-1) (rk_istore 3 (rk_ci (0) (rk_istore 4 (kX7_bestLeft g R 5)))))
theorem eX7_bestLeft_0 (g : rk_G) (R : rk_R) (ls st : List Value) (σ : rk_M) : bX7_bestLeft_0 g R ls st σ = (rk_ci (-1) (rk_istore 3 (rk_ci (0) (rk_istore 4 (kX7_bestLeft g R 5))))) ls st σ := rfl
theorem oX7_bestLeft_0 {g : rk_G} {R : rk_R} : aX7_bestLeft g R 0 (bX7_bestLeft_0 g R) := (rk_iconst_ok dX7_bestLeft_0 (by decide) (rk_istore_n_ok dX7_bestLeft_1 rfl (by decide) (rk_iconst_ok dX7_bestLeft_2 (by decide) (rk_istore_ok dX7_bestLeft_3 (by decide) rk_cut_ok))))
theorem dX7_sheetBits_0 : decode cX7_sheetBits 0 = .ok (.iconst 0, 1) := by decide +kernel
theorem dX7_sheetBits_1 : decode cX7_sheetBits 1 = .ok (.istore_n 2, 1) := by decide +kernel
theorem dX7_sheetBits_2 : decode cX7_sheetBits 2 = .ok (.iconst 0, 1) := by decide +kernel
theorem dX7_sheetBits_3 : decode cX7_sheetBits 3 = .ok (.istore_n 3, 1) := by decide +kernel
theorem dX7_sheetBits_4 : decode cX7_sheetBits 4 = .ok (.iload_n 3, 1) := by decide +kernel
theorem dX7_sheetBits_5 : decode cX7_sheetBits 5 = .ok (.iload_n 1, 1) := by decide +kernel
theorem dX7_sheetBits_6 : decode cX7_sheetBits 6 = .ok (.if_icmp .ge 23, 3) := by decide +kernel
theorem dX7_sheetBits_9 : decode cX7_sheetBits 9 = .ok (.iload_n 2, 1) := by decide +kernel
theorem dX7_sheetBits_10 : decode cX7_sheetBits 10 = .ok (.aload_n 0, 1) := by decide +kernel
theorem dX7_sheetBits_11 : decode cX7_sheetBits 11 = .ok (.getfield 34, 3) := by decide +kernel
theorem dX7_sheetBits_14 : decode cX7_sheetBits 14 = .ok (.aload_n 0, 1) := by decide +kernel
theorem dX7_sheetBits_15 : decode cX7_sheetBits 15 = .ok (.getfield 49, 3) := by decide +kernel
theorem dX7_sheetBits_18 : decode cX7_sheetBits 18 = .ok (.iload_n 3, 1) := by decide +kernel
theorem dX7_sheetBits_19 : decode cX7_sheetBits 19 = .ok (.iaload, 1) := by decide +kernel
theorem dX7_sheetBits_20 : decode cX7_sheetBits 20 = .ok (.iaload, 1) := by decide +kernel
theorem dX7_sheetBits_21 : decode cX7_sheetBits 21 = .ok (.ior, 1) := by decide +kernel
theorem dX7_sheetBits_22 : decode cX7_sheetBits 22 = .ok (.istore_n 2, 1) := by decide +kernel
theorem dX7_sheetBits_23 : decode cX7_sheetBits 23 = .ok (.iinc 3 1, 3) := by decide +kernel
theorem dX7_sheetBits_26 : decode cX7_sheetBits 26 = .ok (.goto (-22), 3) := by decide +kernel
theorem dX7_sheetBits_29 : decode cX7_sheetBits 29 = .ok (.iload_n 2, 1) := by decide +kernel
theorem dX7_sheetBits_30 : decode cX7_sheetBits 30 = .ok (.ireturn, 1) := by decide +kernel
abbrev kX7_sheetBits (g : rk_G) (R : rk_R) (pc : Nat) : rk_K := rk_cut g cX7_sheetBits 4 (some .int) RX7 0 R pc
abbrev aX7_sheetBits (g : rk_G) (R : rk_R) (pc : Nat) (K : rk_K) : Prop := rk_AK g cX7_sheetBits 4 (some .int) RX7 0 R pc K
abbrev sX7_sheetBits (g : rk_G) (vs : List Value) (σ : rk_M) (R : rk_R) : Prop := rk_does g yX7_sheetBits cX7_sheetBits 4 (some .int) 0 vs σ R
abbrev tX7_sheetBits (g : rk_G) (R : rk_R) (pc : Nat) (ls st : List Value) (σ : rk_M) : Prop := rk_At g cX7_sheetBits 4 (some .int) RX7 0 R pc ls st σ
def bX7_sheetBits_4 (g : rk_G) (R : rk_R) : rk_K := (rk_iload 3 (rk_iload 1 (rk_icmp_ge (rk_iload 2 (rk_iret R)) (rk_iload 2 (rk_aload 0 (rk_gR 7 13 (rk_aload 0 (rk_gR 7 20 (rk_iload 3 (rk_iald (rk_iald (rk_ior (rk_istore 2 (rk_iinc 3 (1) (kX7_sheetBits g R 4)))))))))))))))
theorem eX7_sheetBits_4 (g : rk_G) (R : rk_R) (ls st : List Value) (σ : rk_M) : bX7_sheetBits_4 g R ls st σ = (rk_iload 3 (rk_iload 1 (rk_icmp_ge (rk_iload 2 (rk_iret R)) (rk_iload 2 (rk_aload 0 (rk_gR 7 13 (rk_aload 0 (rk_gR 7 20 (rk_iload 3 (rk_iald (rk_iald (rk_ior (rk_istore 2 (rk_iinc 3 (1) (kX7_sheetBits g R 4))))))))))))))) ls st σ := rfl
theorem oX7_sheetBits_4 {g : rk_G} {R : rk_R} : aX7_sheetBits g R 4 (bX7_sheetBits_4 g R) := (rk_iload_n_ok dX7_sheetBits_4 rfl (rk_iload_n_ok dX7_sheetBits_5 rfl (rk_icmp_ge_ok (pc' := 29) dX7_sheetBits_6 (by decide) (rk_iload_n_ok dX7_sheetBits_29 rfl (rk_iret_ok rfl dX7_sheetBits_30)) (rk_iload_n_ok dX7_sheetBits_9 rfl (rk_aload_n_ok dX7_sheetBits_10 rfl (rk_gR_ok dX7_sheetBits_11 rfl iX7 (by decide) rfl wfX7_34 (rk_aload_n_ok dX7_sheetBits_14 rfl (rk_gR_ok dX7_sheetBits_15 rfl iX7 (by decide) rfl wfX7_49 (rk_iload_n_ok dX7_sheetBits_18 rfl (rk_iald_ok dX7_sheetBits_19 (rk_iald_ok dX7_sheetBits_20 (rk_ior_ok dX7_sheetBits_21 (rk_istore_n_ok dX7_sheetBits_22 rfl (by decide) (rk_iinc_ok dX7_sheetBits_23 (by decide) (by decide) (rk_goto_ok (pc' := 4) dX7_sheetBits_26 (by decide) rk_cut_ok)))))))))))))))
def bX7_sheetBits_0 (g : rk_G) (R : rk_R) : rk_K := (rk_ci (0) (rk_istore 2 (rk_ci (0) (rk_istore 3 (kX7_sheetBits g R 4)))))
theorem eX7_sheetBits_0 (g : rk_G) (R : rk_R) (ls st : List Value) (σ : rk_M) : bX7_sheetBits_0 g R ls st σ = (rk_ci (0) (rk_istore 2 (rk_ci (0) (rk_istore 3 (kX7_sheetBits g R 4))))) ls st σ := rfl
theorem oX7_sheetBits_0 {g : rk_G} {R : rk_R} : aX7_sheetBits g R 0 (bX7_sheetBits_0 g R) := (rk_iconst_ok dX7_sheetBits_0 (by decide) (rk_istore_n_ok dX7_sheetBits_1 rfl (by decide) (rk_iconst_ok dX7_sheetBits_2 (by decide) (rk_istore_n_ok dX7_sheetBits_3 rfl (by decide) rk_cut_ok))))
theorem dX7_meets_0 : decode cX7_meets 0 = .ok (.aload_n 0, 1) := by decide +kernel
theorem dX7_meets_1 : decode cX7_meets 1 = .ok (.iload_n 1, 1) := by decide +kernel
theorem dX7_meets_2 : decode cX7_meets 2 = .ok (.putfield 271, 3) := by decide +kernel
theorem dX7_meets_5 : decode cX7_meets 5 = .ok (.bipush (-10), 2) := by decide +kernel
theorem dX7_meets_7 : decode cX7_meets 7 = .ok (.iload_n 1, 1) := by decide +kernel
theorem dX7_meets_8 : decode cX7_meets 8 = .ok (.isub, 1) := by decide +kernel
theorem dX7_meets_9 : decode cX7_meets 9 = .ok (.ireturn, 1) := by decide +kernel
abbrev kX7_meets (g : rk_G) (R : rk_R) (pc : Nat) : rk_K := rk_cut g cX7_meets 2 (some .int) RX7 0 R pc
abbrev aX7_meets (g : rk_G) (R : rk_R) (pc : Nat) (K : rk_K) : Prop := rk_AK g cX7_meets 2 (some .int) RX7 0 R pc K
abbrev sX7_meets (g : rk_G) (vs : List Value) (σ : rk_M) (R : rk_R) : Prop := rk_does g yX7_meets cX7_meets 2 (some .int) 0 vs σ R
abbrev tX7_meets (g : rk_G) (R : rk_R) (pc : Nat) (ls st : List Value) (σ : rk_M) : Prop := rk_At g cX7_meets 2 (some .int) RX7 0 R pc ls st σ
def bX7_meets_0 (g : rk_G) (R : rk_R) : rk_K := (rk_aload 0 (rk_iload 1 (rk_pI 7 32 (rk_ci (-10) (rk_iload 1 (rk_isub (rk_iret R)))))))
theorem eX7_meets_0 (g : rk_G) (R : rk_R) (ls st : List Value) (σ : rk_M) : bX7_meets_0 g R ls st σ = (rk_aload 0 (rk_iload 1 (rk_pI 7 32 (rk_ci (-10) (rk_iload 1 (rk_isub (rk_iret R))))))) ls st σ := rfl
theorem oX7_meets_0 {g : rk_G} {R : rk_R} : aX7_meets g R 0 (bX7_meets_0 g R) := (rk_aload_n_ok dX7_meets_0 rfl (rk_iload_n_ok dX7_meets_1 rfl (rk_pI_ok dX7_meets_2 rfl iX7 tyX7_ok nmX7 (by decide) rfl rfl (by decide +kernel) wfX7_271 (rk_bipush_ok dX7_meets_5 (by decide) (rk_iload_n_ok dX7_meets_7 rfl (rk_isub_ok dX7_meets_8 (rk_iret_ok rfl dX7_meets_9)))))))
theorem dX7_keep_0 : decode cX7_keep 0 = .ok (.aload_n 0, 1) := by decide +kernel
theorem dX7_keep_1 : decode cX7_keep 1 = .ok (.getfield 71, 3) := by decide +kernel
theorem dX7_keep_4 : decode cX7_keep 4 = .ok (.bipush 60, 2) := by decide +kernel
theorem dX7_keep_6 : decode cX7_keep 6 = .ok (.iload_n 1, 1) := by decide +kernel
theorem dX7_keep_7 : decode cX7_keep 7 = .ok (.imul, 1) := by decide +kernel
theorem dX7_keep_8 : decode cX7_keep 8 = .ok (.iload_n 2, 1) := by decide +kernel
theorem dX7_keep_9 : decode cX7_keep 9 = .ok (.iadd, 1) := by decide +kernel
theorem dX7_keep_10 : decode cX7_keep 10 = .ok (.aload_n 0, 1) := by decide +kernel
theorem dX7_keep_11 : decode cX7_keep 11 = .ok (.getfield 65, 3) := by decide +kernel
theorem dX7_keep_14 : decode cX7_keep 14 = .ok (.iload_n 1, 1) := by decide +kernel
theorem dX7_keep_15 : decode cX7_keep 15 = .ok (.iaload, 1) := by decide +kernel
theorem dX7_keep_16 : decode cX7_keep 16 = .ok (.ifCond .ne 8, 3) := by decide +kernel
theorem dX7_keep_19 : decode cX7_keep 19 = .ok (.iload_n 3, 1) := by decide +kernel
theorem dX7_keep_20 : decode cX7_keep 20 = .ok (.i2b, 1) := by decide +kernel
theorem dX7_keep_21 : decode cX7_keep 21 = .ok (.goto 19, 3) := by decide +kernel
theorem dX7_keep_24 : decode cX7_keep 24 = .ok (.aload_n 0, 1) := by decide +kernel
theorem dX7_keep_25 : decode cX7_keep 25 = .ok (.getfield 65, 3) := by decide +kernel
theorem dX7_keep_28 : decode cX7_keep 28 = .ok (.iload_n 1, 1) := by decide +kernel
theorem dX7_keep_29 : decode cX7_keep 29 = .ok (.iaload, 1) := by decide +kernel
theorem dX7_keep_30 : decode cX7_keep 30 = .ok (.iconst 1, 1) := by decide +kernel
theorem dX7_keep_31 : decode cX7_keep 31 = .ok (.if_icmp .ne 8, 3) := by decide +kernel
theorem dX7_keep_34 : decode cX7_keep 34 = .ok (.iload_n 3, 1) := by decide +kernel
theorem dX7_keep_35 : decode cX7_keep 35 = .ok (.i2s, 1) := by decide +kernel
theorem dX7_keep_36 : decode cX7_keep 36 = .ok (.goto 4, 3) := by decide +kernel
theorem dX7_keep_39 : decode cX7_keep 39 = .ok (.iload_n 3, 1) := by decide +kernel
theorem dX7_keep_40 : decode cX7_keep 40 = .ok (.iastore, 1) := by decide +kernel
theorem dX7_keep_41 : decode cX7_keep 41 = .ok (.return_, 1) := by decide +kernel
abbrev kX7_keep (g : rk_G) (R : rk_R) (pc : Nat) : rk_K := rk_cut g cX7_keep 4 none RX7 0 R pc
abbrev aX7_keep (g : rk_G) (R : rk_R) (pc : Nat) (K : rk_K) : Prop := rk_AK g cX7_keep 4 none RX7 0 R pc K
abbrev sX7_keep (g : rk_G) (vs : List Value) (σ : rk_M) (R : rk_R) : Prop := rk_does g yX7_keep cX7_keep 4 none 0 vs σ R
abbrev tX7_keep (g : rk_G) (R : rk_R) (pc : Nat) (ls st : List Value) (σ : rk_M) : Prop := rk_At g cX7_keep 4 none RX7 0 R pc ls st σ
def bX7_keep_40 (g : rk_G) (R : rk_R) : rk_K := (rk_iast (rk_vret R))
theorem eX7_keep_40 (g : rk_G) (R : rk_R) (ls st : List Value) (σ : rk_M) : bX7_keep_40 g R ls st σ = (rk_iast (rk_vret R)) ls st σ := rfl
theorem oX7_keep_40 {g : rk_G} {R : rk_R} : aX7_keep g R 40 (bX7_keep_40 g R) := (rk_iast_ok dX7_keep_40 (rk_vret_ok rfl dX7_keep_41))
def bX7_keep_0 (g : rk_G) (R : rk_R) : rk_K := (rk_aload 0 (rk_gR 7 30 (rk_ci (60) (rk_iload 1 (rk_imul (rk_iload 2 (rk_iadd (rk_aload 0 (rk_gR 7 28 (rk_iload 1 (rk_iald (rk_if_ne (rk_aload 0 (rk_gR 7 28 (rk_iload 1 (rk_iald (rk_ci (1) (rk_icmp_ne (rk_iload 3 (bX7_keep_40 g R)) (rk_iload 3 (rk_i2s (bX7_keep_40 g R))))))))) (rk_iload 3 (rk_i2b (bX7_keep_40 g R)))))))))))))))
theorem eX7_keep_0 (g : rk_G) (R : rk_R) (ls st : List Value) (σ : rk_M) : bX7_keep_0 g R ls st σ = (rk_aload 0 (rk_gR 7 30 (rk_ci (60) (rk_iload 1 (rk_imul (rk_iload 2 (rk_iadd (rk_aload 0 (rk_gR 7 28 (rk_iload 1 (rk_iald (rk_if_ne (rk_aload 0 (rk_gR 7 28 (rk_iload 1 (rk_iald (rk_ci (1) (rk_icmp_ne (rk_iload 3 (bX7_keep_40 g R)) (rk_iload 3 (rk_i2s (bX7_keep_40 g R))))))))) (rk_iload 3 (rk_i2b (bX7_keep_40 g R))))))))))))))) ls st σ := rfl
theorem oX7_keep_0 {g : rk_G} {R : rk_R} : aX7_keep g R 0 (bX7_keep_0 g R) := (rk_aload_n_ok dX7_keep_0 rfl (rk_gR_ok dX7_keep_1 rfl iX7 (by decide) rfl wfX7_71 (rk_bipush_ok dX7_keep_4 (by decide) (rk_iload_n_ok dX7_keep_6 rfl (rk_imul_ok dX7_keep_7 (rk_iload_n_ok dX7_keep_8 rfl (rk_iadd_ok dX7_keep_9 (rk_aload_n_ok dX7_keep_10 rfl (rk_gR_ok dX7_keep_11 rfl iX7 (by decide) rfl wfX7_65 (rk_iload_n_ok dX7_keep_14 rfl (rk_iald_ok dX7_keep_15 (rk_if_ne_ok (pc' := 24) dX7_keep_16 (by decide) (rk_aload_n_ok dX7_keep_24 rfl (rk_gR_ok dX7_keep_25 rfl iX7 (by decide) rfl wfX7_65 (rk_iload_n_ok dX7_keep_28 rfl (rk_iald_ok dX7_keep_29 (rk_iconst_ok dX7_keep_30 (by decide) (rk_icmp_ne_ok (pc' := 39) dX7_keep_31 (by decide) (rk_iload_n_ok dX7_keep_39 rfl oX7_keep_40) (rk_iload_n_ok dX7_keep_34 rfl (rk_i2s_ok dX7_keep_35 (rk_goto_ok (pc' := 40) dX7_keep_36 (by decide) oX7_keep_40))))))))) (rk_iload_n_ok dX7_keep_19 rfl (rk_i2b_ok dX7_keep_20 (rk_goto_ok (pc' := 40) dX7_keep_21 (by decide) oX7_keep_40)))))))))))))))
theorem dX7_isMeeting_0 : decode cX7_isMeeting 0 = .ok (.iload_n 1, 1) := by decide +kernel
theorem dX7_isMeeting_1 : decode cX7_isMeeting 1 = .ok (.iconst 0, 1) := by decide +kernel
theorem dX7_isMeeting_2 : decode cX7_isMeeting 2 = .ok (.aload_n 0, 1) := by decide +kernel
theorem dX7_isMeeting_3 : decode cX7_isMeeting 3 = .ok (.getfield 77, 3) := by decide +kernel
theorem dX7_isMeeting_6 : decode cX7_isMeeting 6 = .ok (.iconst 1, 1) := by decide +kernel
theorem dX7_isMeeting_7 : decode cX7_isMeeting 7 = .ok (.isub, 1) := by decide +kernel
theorem dX7_isMeeting_8 : decode cX7_isMeeting 8 = .ok (.invokestatic 81, 3) := by decide +kernel
theorem dX7_isMeeting_11 : decode cX7_isMeeting 11 = .ok (.ireturn, 1) := by decide +kernel
abbrev kX7_isMeeting (g : rk_G) (R : rk_R) (pc : Nat) : rk_K := rk_cut g cX7_isMeeting 2 (some .boolean) RX7 1 R pc
abbrev aX7_isMeeting (g : rk_G) (R : rk_R) (pc : Nat) (K : rk_K) : Prop := rk_AK g cX7_isMeeting 2 (some .boolean) RX7 1 R pc K
abbrev sX7_isMeeting (g : rk_G) (vs : List Value) (σ : rk_M) (R : rk_R) : Prop := rk_does g yX7_isMeeting cX7_isMeeting 2 (some .boolean) 1 vs σ R
abbrev tX7_isMeeting (g : rk_G) (R : rk_R) (pc : Nat) (ls st : List Value) (σ : rk_M) : Prop := rk_At g cX7_isMeeting 2 (some .boolean) RX7 1 R pc ls st σ
def bX7_isMeeting_0 (g : rk_G) (R : rk_R) : rk_K := (rk_iload 1 (rk_ci (0) (rk_aload 0 (rk_gI 7 0 (rk_ci (1) (rk_isub (rk_cS g 3 yX7_in cX7_in 3 (some .boolean) 0 (rk_zret R))))))))
theorem eX7_isMeeting_0 (g : rk_G) (R : rk_R) (ls st : List Value) (σ : rk_M) : bX7_isMeeting_0 g R ls st σ = (rk_iload 1 (rk_ci (0) (rk_aload 0 (rk_gI 7 0 (rk_ci (1) (rk_isub (rk_cS g 3 yX7_in cX7_in 3 (some .boolean) 0 (rk_zret R)))))))) ls st σ := rfl
theorem oX7_isMeeting_0 {g : rk_G} {R : rk_R} : aX7_isMeeting g R 0 (bX7_isMeeting_0 g R) := (rk_iload_n_ok dX7_isMeeting_0 rfl (rk_iconst_ok dX7_isMeeting_1 (by decide) (rk_aload_n_ok dX7_isMeeting_2 rfl (rk_gI_ok dX7_isMeeting_3 rfl iX7 (by decide) rfl wfX7_77 (rk_iconst_ok dX7_isMeeting_6 (by decide) (rk_isub_ok dX7_isMeeting_7 (rk_cS_ok dX7_isMeeting_8 npX7_in wmX7_81 wtX7_in wiX7 wdX7_in (by decide) (by decide) (rk_zret_ok rfl dX7_isMeeting_11))))))))
theorem dX7_isRoad_0 : decode cX7_isRoad 0 = .ok (.iload_n 1, 1) := by decide +kernel
theorem dX7_isRoad_1 : decode cX7_isRoad 1 = .ok (.iconst 0, 1) := by decide +kernel
theorem dX7_isRoad_2 : decode cX7_isRoad 2 = .ok (.aload_n 0, 1) := by decide +kernel
theorem dX7_isRoad_3 : decode cX7_isRoad 3 = .ok (.getfield 85, 3) := by decide +kernel
theorem dX7_isRoad_6 : decode cX7_isRoad 6 = .ok (.iconst 1, 1) := by decide +kernel
theorem dX7_isRoad_7 : decode cX7_isRoad 7 = .ok (.isub, 1) := by decide +kernel
theorem dX7_isRoad_8 : decode cX7_isRoad 8 = .ok (.invokestatic 81, 3) := by decide +kernel
theorem dX7_isRoad_11 : decode cX7_isRoad 11 = .ok (.ireturn, 1) := by decide +kernel
abbrev kX7_isRoad (g : rk_G) (R : rk_R) (pc : Nat) : rk_K := rk_cut g cX7_isRoad 2 (some .boolean) RX7 1 R pc
abbrev aX7_isRoad (g : rk_G) (R : rk_R) (pc : Nat) (K : rk_K) : Prop := rk_AK g cX7_isRoad 2 (some .boolean) RX7 1 R pc K
abbrev sX7_isRoad (g : rk_G) (vs : List Value) (σ : rk_M) (R : rk_R) : Prop := rk_does g yX7_isRoad cX7_isRoad 2 (some .boolean) 1 vs σ R
abbrev tX7_isRoad (g : rk_G) (R : rk_R) (pc : Nat) (ls st : List Value) (σ : rk_M) : Prop := rk_At g cX7_isRoad 2 (some .boolean) RX7 1 R pc ls st σ
def bX7_isRoad_0 (g : rk_G) (R : rk_R) : rk_K := (rk_iload 1 (rk_ci (0) (rk_aload 0 (rk_gI 7 3 (rk_ci (1) (rk_isub (rk_cS g 3 yX7_in cX7_in 3 (some .boolean) 0 (rk_zret R))))))))
theorem eX7_isRoad_0 (g : rk_G) (R : rk_R) (ls st : List Value) (σ : rk_M) : bX7_isRoad_0 g R ls st σ = (rk_iload 1 (rk_ci (0) (rk_aload 0 (rk_gI 7 3 (rk_ci (1) (rk_isub (rk_cS g 3 yX7_in cX7_in 3 (some .boolean) 0 (rk_zret R)))))))) ls st σ := rfl
theorem oX7_isRoad_0 {g : rk_G} {R : rk_R} : aX7_isRoad g R 0 (bX7_isRoad_0 g R) := (rk_iload_n_ok dX7_isRoad_0 rfl (rk_iconst_ok dX7_isRoad_1 (by decide) (rk_aload_n_ok dX7_isRoad_2 rfl (rk_gI_ok dX7_isRoad_3 rfl iX7 (by decide) rfl wfX7_85 (rk_iconst_ok dX7_isRoad_6 (by decide) (rk_isub_ok dX7_isRoad_7 (rk_cS_ok dX7_isRoad_8 npX7_in wmX7_81 wtX7_in wiX7 wdX7_in (by decide) (by decide) (rk_zret_ok rfl dX7_isRoad_11))))))))
theorem dX7_meeting_0 : decode cX7_meeting 0 = .ok (.iload_n 1, 1) := by decide +kernel
theorem dX7_meeting_1 : decode cX7_meeting 1 = .ok (.iconst 0, 1) := by decide +kernel
theorem dX7_meeting_2 : decode cX7_meeting 2 = .ok (.bipush 30, 2) := by decide +kernel
theorem dX7_meeting_4 : decode cX7_meeting 4 = .ok (.invokestatic 81, 3) := by decide +kernel
theorem dX7_meeting_7 : decode cX7_meeting 7 = .ok (.ifCond .eq 13, 3) := by decide +kernel
theorem dX7_meeting_10 : decode cX7_meeting 10 = .ok (.iload_n 2, 1) := by decide +kernel
theorem dX7_meeting_11 : decode cX7_meeting 11 = .ok (.iconst 0, 1) := by decide +kernel
theorem dX7_meeting_12 : decode cX7_meeting 12 = .ok (.bipush 30, 2) := by decide +kernel
theorem dX7_meeting_14 : decode cX7_meeting 14 = .ok (.invokestatic 81, 3) := by decide +kernel
theorem dX7_meeting_17 : decode cX7_meeting 17 = .ok (.ifCond .ne 6, 3) := by decide +kernel
theorem dX7_meeting_20 : decode cX7_meeting 20 = .ok (.bipush (-2), 2) := by decide +kernel
theorem dX7_meeting_22 : decode cX7_meeting 22 = .ok (.ireturn, 1) := by decide +kernel
theorem dX7_meeting_23 : decode cX7_meeting 23 = .ok (.iconst 0, 1) := by decide +kernel
theorem dX7_meeting_24 : decode cX7_meeting 24 = .ok (.istore_n 3, 1) := by decide +kernel
theorem dX7_meeting_25 : decode cX7_meeting 25 = .ok (.iload_n 3, 1) := by decide +kernel
theorem dX7_meeting_26 : decode cX7_meeting 26 = .ok (.aload_n 0, 1) := by decide +kernel
theorem dX7_meeting_27 : decode cX7_meeting 27 = .ok (.getfield 77, 3) := by decide +kernel
theorem dX7_meeting_30 : decode cX7_meeting 30 = .ok (.if_icmp .ge 32, 3) := by decide +kernel
theorem dX7_meeting_33 : decode cX7_meeting 33 = .ok (.aload_n 0, 1) := by decide +kernel
theorem dX7_meeting_34 : decode cX7_meeting 34 = .ok (.getfield 7, 3) := by decide +kernel
theorem dX7_meeting_37 : decode cX7_meeting 37 = .ok (.iload_n 3, 1) := by decide +kernel
theorem dX7_meeting_38 : decode cX7_meeting 38 = .ok (.iaload, 1) := by decide +kernel
theorem dX7_meeting_39 : decode cX7_meeting 39 = .ok (.iload_n 1, 1) := by decide +kernel
theorem dX7_meeting_40 : decode cX7_meeting 40 = .ok (.if_icmp .ne 16, 3) := by decide +kernel
theorem dX7_meeting_43 : decode cX7_meeting 43 = .ok (.aload_n 0, 1) := by decide +kernel
theorem dX7_meeting_44 : decode cX7_meeting 44 = .ok (.getfield 13, 3) := by decide +kernel
theorem dX7_meeting_47 : decode cX7_meeting 47 = .ok (.iload_n 3, 1) := by decide +kernel
theorem dX7_meeting_48 : decode cX7_meeting 48 = .ok (.iaload, 1) := by decide +kernel
theorem dX7_meeting_49 : decode cX7_meeting 49 = .ok (.iload_n 2, 1) := by decide +kernel
theorem dX7_meeting_50 : decode cX7_meeting 50 = .ok (.if_icmp .ne 6, 3) := by decide +kernel
theorem dX7_meeting_53 : decode cX7_meeting 53 = .ok (.bipush (-3), 2) := by decide +kernel
theorem dX7_meeting_55 : decode cX7_meeting 55 = .ok (.ireturn, 1) := by decide +kernel
theorem dX7_meeting_56 : decode cX7_meeting 56 = .ok (.iinc 3 1, 3) := by decide +kernel
theorem dX7_meeting_59 : decode cX7_meeting 59 = .ok (.goto (-34), 3) := by decide +kernel
theorem dX7_meeting_62 : decode cX7_meeting 62 = .ok (.aload_n 0, 1) := by decide +kernel
theorem dX7_meeting_63 : decode cX7_meeting 63 = .ok (.getfield 77, 3) := by decide +kernel
theorem dX7_meeting_66 : decode cX7_meeting 66 = .ok (.bipush 16, 2) := by decide +kernel
theorem dX7_meeting_68 : decode cX7_meeting 68 = .ok (.if_icmp .ne 6, 3) := by decide +kernel
theorem dX7_meeting_71 : decode cX7_meeting 71 = .ok (.bipush (-4), 2) := by decide +kernel
theorem dX7_meeting_73 : decode cX7_meeting 73 = .ok (.ireturn, 1) := by decide +kernel
theorem dX7_meeting_74 : decode cX7_meeting 74 = .ok (.aload_n 0, 1) := by decide +kernel
theorem dX7_meeting_75 : decode cX7_meeting 75 = .ok (.getfield 7, 3) := by decide +kernel
theorem dX7_meeting_78 : decode cX7_meeting 78 = .ok (.aload_n 0, 1) := by decide +kernel
theorem dX7_meeting_79 : decode cX7_meeting 79 = .ok (.getfield 77, 3) := by decide +kernel
theorem dX7_meeting_82 : decode cX7_meeting 82 = .ok (.iload_n 1, 1) := by decide +kernel
theorem dX7_meeting_83 : decode cX7_meeting 83 = .ok (.iastore, 1) := by decide +kernel
theorem dX7_meeting_84 : decode cX7_meeting 84 = .ok (.aload_n 0, 1) := by decide +kernel
theorem dX7_meeting_85 : decode cX7_meeting 85 = .ok (.getfield 13, 3) := by decide +kernel
theorem dX7_meeting_88 : decode cX7_meeting 88 = .ok (.aload_n 0, 1) := by decide +kernel
theorem dX7_meeting_89 : decode cX7_meeting 89 = .ok (.getfield 77, 3) := by decide +kernel
theorem dX7_meeting_92 : decode cX7_meeting 92 = .ok (.iload_n 2, 1) := by decide +kernel
theorem dX7_meeting_93 : decode cX7_meeting 93 = .ok (.iastore, 1) := by decide +kernel
theorem dX7_meeting_94 : decode cX7_meeting 94 = .ok (.aload_n 0, 1) := by decide +kernel
theorem dX7_meeting_95 : decode cX7_meeting 95 = .ok (.dup, 1) := by decide +kernel
theorem dX7_meeting_96 : decode cX7_meeting 96 = .ok (.getfield 77, 3) := by decide +kernel
theorem dX7_meeting_99 : decode cX7_meeting 99 = .ok (.iconst 1, 1) := by decide +kernel
theorem dX7_meeting_100 : decode cX7_meeting 100 = .ok (.iadd, 1) := by decide +kernel
theorem dX7_meeting_101 : decode cX7_meeting 101 = .ok (.putfield 77, 3) := by decide +kernel
theorem dX7_meeting_104 : decode cX7_meeting 104 = .ok (.aload_n 0, 1) := by decide +kernel
theorem dX7_meeting_105 : decode cX7_meeting 105 = .ok (.getfield 25, 3) := by decide +kernel
theorem dX7_meeting_108 : decode cX7_meeting 108 = .ok (.aload_n 0, 1) := by decide +kernel
theorem dX7_meeting_109 : decode cX7_meeting 109 = .ok (.getfield 88, 3) := by decide +kernel
theorem dX7_meeting_112 : decode cX7_meeting 112 = .ok (.iconst 0, 1) := by decide +kernel
theorem dX7_meeting_113 : decode cX7_meeting 113 = .ok (.iastore, 1) := by decide +kernel
theorem dX7_meeting_114 : decode cX7_meeting 114 = .ok (.aload_n 0, 1) := by decide +kernel
theorem dX7_meeting_115 : decode cX7_meeting 115 = .ok (.dup, 1) := by decide +kernel
theorem dX7_meeting_116 : decode cX7_meeting 116 = .ok (.getfield 88, 3) := by decide +kernel
theorem dX7_meeting_119 : decode cX7_meeting 119 = .ok (.iconst 1, 1) := by decide +kernel
theorem dX7_meeting_120 : decode cX7_meeting 120 = .ok (.iadd, 1) := by decide +kernel
theorem dX7_meeting_121 : decode cX7_meeting 121 = .ok (.putfield 88, 3) := by decide +kernel
theorem dX7_meeting_124 : decode cX7_meeting 124 = .ok (.aload_n 0, 1) := by decide +kernel
theorem dX7_meeting_125 : decode cX7_meeting 125 = .ok (.getfield 77, 3) := by decide +kernel
theorem dX7_meeting_128 : decode cX7_meeting 128 = .ok (.ireturn, 1) := by decide +kernel
abbrev kX7_meeting (g : rk_G) (R : rk_R) (pc : Nat) : rk_K := rk_cut g cX7_meeting 4 (some .int) RX7 1 R pc
abbrev aX7_meeting (g : rk_G) (R : rk_R) (pc : Nat) (K : rk_K) : Prop := rk_AK g cX7_meeting 4 (some .int) RX7 1 R pc K
abbrev sX7_meeting (g : rk_G) (vs : List Value) (σ : rk_M) (R : rk_R) : Prop := rk_does g yX7_meeting cX7_meeting 4 (some .int) 1 vs σ R
abbrev tX7_meeting (g : rk_G) (R : rk_R) (pc : Nat) (ls st : List Value) (σ : rk_M) : Prop := rk_At g cX7_meeting 4 (some .int) RX7 1 R pc ls st σ
def bX7_meeting_56 (g : rk_G) (R : rk_R) : rk_K := (rk_iinc 3 (1) (kX7_meeting g R 25))
theorem eX7_meeting_56 (g : rk_G) (R : rk_R) (ls st : List Value) (σ : rk_M) : bX7_meeting_56 g R ls st σ = (rk_iinc 3 (1) (kX7_meeting g R 25)) ls st σ := rfl
theorem oX7_meeting_56 {g : rk_G} {R : rk_R} : aX7_meeting g R 56 (bX7_meeting_56 g R) := (rk_iinc_ok dX7_meeting_56 (by decide) (by decide) (rk_goto_ok (pc' := 25) dX7_meeting_59 (by decide) rk_cut_ok))
def bX7_meeting_25 (g : rk_G) (R : rk_R) : rk_K := (rk_iload 3 (rk_aload 0 (rk_gI 7 0 (rk_icmp_ge (rk_aload 0 (rk_gI 7 0 (rk_ci (16) (rk_icmp_ne (rk_aload 0 (rk_gR 7 1 (rk_aload 0 (rk_gI 7 0 (rk_iload 1 (rk_iast (rk_aload 0 (rk_gR 7 2 (rk_aload 0 (rk_gI 7 0 (rk_iload 2 (rk_iast (rk_aload 0 (rk_dup (rk_gI 7 0 (rk_ci (1) (rk_iadd (rk_pI 7 0 (rk_aload 0 (rk_gR 7 8 (rk_aload 0 (rk_gI 7 7 (rk_ci (0) (rk_iast (rk_aload 0 (rk_dup (rk_gI 7 7 (rk_ci (1) (rk_iadd (rk_pI 7 7 (rk_aload 0 (rk_gI 7 0 (rk_iret R))))))))))))))))))))))))))))))))) (rk_ci (-4) (rk_iret R)))))) (rk_aload 0 (rk_gR 7 1 (rk_iload 3 (rk_iald (rk_iload 1 (rk_icmp_ne (bX7_meeting_56 g R) (rk_aload 0 (rk_gR 7 2 (rk_iload 3 (rk_iald (rk_iload 2 (rk_icmp_ne (bX7_meeting_56 g R) (rk_ci (-3) (rk_iret R))))))))))))))))))
theorem eX7_meeting_25 (g : rk_G) (R : rk_R) (ls st : List Value) (σ : rk_M) : bX7_meeting_25 g R ls st σ = (rk_iload 3 (rk_aload 0 (rk_gI 7 0 (rk_icmp_ge (rk_aload 0 (rk_gI 7 0 (rk_ci (16) (rk_icmp_ne (rk_aload 0 (rk_gR 7 1 (rk_aload 0 (rk_gI 7 0 (rk_iload 1 (rk_iast (rk_aload 0 (rk_gR 7 2 (rk_aload 0 (rk_gI 7 0 (rk_iload 2 (rk_iast (rk_aload 0 (rk_dup (rk_gI 7 0 (rk_ci (1) (rk_iadd (rk_pI 7 0 (rk_aload 0 (rk_gR 7 8 (rk_aload 0 (rk_gI 7 7 (rk_ci (0) (rk_iast (rk_aload 0 (rk_dup (rk_gI 7 7 (rk_ci (1) (rk_iadd (rk_pI 7 7 (rk_aload 0 (rk_gI 7 0 (rk_iret R))))))))))))))))))))))))))))))))) (rk_ci (-4) (rk_iret R)))))) (rk_aload 0 (rk_gR 7 1 (rk_iload 3 (rk_iald (rk_iload 1 (rk_icmp_ne (bX7_meeting_56 g R) (rk_aload 0 (rk_gR 7 2 (rk_iload 3 (rk_iald (rk_iload 2 (rk_icmp_ne (bX7_meeting_56 g R) (rk_ci (-3) (rk_iret R)))))))))))))))))) ls st σ := rfl
theorem oX7_meeting_25 {g : rk_G} {R : rk_R} : aX7_meeting g R 25 (bX7_meeting_25 g R) := (rk_iload_n_ok dX7_meeting_25 rfl (rk_aload_n_ok dX7_meeting_26 rfl (rk_gI_ok dX7_meeting_27 rfl iX7 (by decide) rfl wfX7_77 (rk_icmp_ge_ok (pc' := 62) dX7_meeting_30 (by decide) (rk_aload_n_ok dX7_meeting_62 rfl (rk_gI_ok dX7_meeting_63 rfl iX7 (by decide) rfl wfX7_77 (rk_bipush_ok dX7_meeting_66 (by decide) (rk_icmp_ne_ok (pc' := 74) dX7_meeting_68 (by decide) (rk_aload_n_ok dX7_meeting_74 rfl (rk_gR_ok dX7_meeting_75 rfl iX7 (by decide) rfl wfX7_7 (rk_aload_n_ok dX7_meeting_78 rfl (rk_gI_ok dX7_meeting_79 rfl iX7 (by decide) rfl wfX7_77 (rk_iload_n_ok dX7_meeting_82 rfl (rk_iast_ok dX7_meeting_83 (rk_aload_n_ok dX7_meeting_84 rfl (rk_gR_ok dX7_meeting_85 rfl iX7 (by decide) rfl wfX7_13 (rk_aload_n_ok dX7_meeting_88 rfl (rk_gI_ok dX7_meeting_89 rfl iX7 (by decide) rfl wfX7_77 (rk_iload_n_ok dX7_meeting_92 rfl (rk_iast_ok dX7_meeting_93 (rk_aload_n_ok dX7_meeting_94 rfl (rk_dup_ok dX7_meeting_95 (rk_gI_ok dX7_meeting_96 rfl iX7 (by decide) rfl wfX7_77 (rk_iconst_ok dX7_meeting_99 (by decide) (rk_iadd_ok dX7_meeting_100 (rk_pI_ok dX7_meeting_101 rfl iX7 tyX7_ok nmX7 (by decide) rfl rfl (by decide +kernel) wfX7_77 (rk_aload_n_ok dX7_meeting_104 rfl (rk_gR_ok dX7_meeting_105 rfl iX7 (by decide) rfl wfX7_25 (rk_aload_n_ok dX7_meeting_108 rfl (rk_gI_ok dX7_meeting_109 rfl iX7 (by decide) rfl wfX7_88 (rk_iconst_ok dX7_meeting_112 (by decide) (rk_iast_ok dX7_meeting_113 (rk_aload_n_ok dX7_meeting_114 rfl (rk_dup_ok dX7_meeting_115 (rk_gI_ok dX7_meeting_116 rfl iX7 (by decide) rfl wfX7_88 (rk_iconst_ok dX7_meeting_119 (by decide) (rk_iadd_ok dX7_meeting_120 (rk_pI_ok dX7_meeting_121 rfl iX7 tyX7_ok nmX7 (by decide) rfl rfl (by decide +kernel) wfX7_88 (rk_aload_n_ok dX7_meeting_124 rfl (rk_gI_ok dX7_meeting_125 rfl iX7 (by decide) rfl wfX7_77 (rk_iret_ok rfl dX7_meeting_128))))))))))))))))))))))))))))))))) (rk_bipush_ok dX7_meeting_71 (by decide) (rk_iret_ok rfl dX7_meeting_73)))))) (rk_aload_n_ok dX7_meeting_33 rfl (rk_gR_ok dX7_meeting_34 rfl iX7 (by decide) rfl wfX7_7 (rk_iload_n_ok dX7_meeting_37 rfl (rk_iald_ok dX7_meeting_38 (rk_iload_n_ok dX7_meeting_39 rfl (rk_icmp_ne_ok (pc' := 56) dX7_meeting_40 (by decide) oX7_meeting_56 (rk_aload_n_ok dX7_meeting_43 rfl (rk_gR_ok dX7_meeting_44 rfl iX7 (by decide) rfl wfX7_13 (rk_iload_n_ok dX7_meeting_47 rfl (rk_iald_ok dX7_meeting_48 (rk_iload_n_ok dX7_meeting_49 rfl (rk_icmp_ne_ok (pc' := 56) dX7_meeting_50 (by decide) oX7_meeting_56 (rk_bipush_ok dX7_meeting_53 (by decide) (rk_iret_ok rfl dX7_meeting_55))))))))))))))))))
def bX7_meeting_20 (g : rk_G) (R : rk_R) : rk_K := (rk_ci (-2) (rk_iret R))
theorem eX7_meeting_20 (g : rk_G) (R : rk_R) (ls st : List Value) (σ : rk_M) : bX7_meeting_20 g R ls st σ = (rk_ci (-2) (rk_iret R)) ls st σ := rfl
theorem oX7_meeting_20 {g : rk_G} {R : rk_R} : aX7_meeting g R 20 (bX7_meeting_20 g R) := (rk_bipush_ok dX7_meeting_20 (by decide) (rk_iret_ok rfl dX7_meeting_22))
def bX7_meeting_0 (g : rk_G) (R : rk_R) : rk_K := (rk_iload 1 (rk_ci (0) (rk_ci (30) (rk_cS g 3 yX7_in cX7_in 3 (some .boolean) 0 (rk_if_eq (bX7_meeting_20 g R) (rk_iload 2 (rk_ci (0) (rk_ci (30) (rk_cS g 3 yX7_in cX7_in 3 (some .boolean) 0 (rk_if_ne (rk_ci (0) (rk_istore 3 (kX7_meeting g R 25))) (bX7_meeting_20 g R)))))))))))
theorem eX7_meeting_0 (g : rk_G) (R : rk_R) (ls st : List Value) (σ : rk_M) : bX7_meeting_0 g R ls st σ = (rk_iload 1 (rk_ci (0) (rk_ci (30) (rk_cS g 3 yX7_in cX7_in 3 (some .boolean) 0 (rk_if_eq (bX7_meeting_20 g R) (rk_iload 2 (rk_ci (0) (rk_ci (30) (rk_cS g 3 yX7_in cX7_in 3 (some .boolean) 0 (rk_if_ne (rk_ci (0) (rk_istore 3 (kX7_meeting g R 25))) (bX7_meeting_20 g R))))))))))) ls st σ := rfl
theorem oX7_meeting_0 {g : rk_G} {R : rk_R} : aX7_meeting g R 0 (bX7_meeting_0 g R) := (rk_iload_n_ok dX7_meeting_0 rfl (rk_iconst_ok dX7_meeting_1 (by decide) (rk_bipush_ok dX7_meeting_2 (by decide) (rk_cS_ok dX7_meeting_4 npX7_in wmX7_81 wtX7_in wiX7 wdX7_in (by decide) (by decide) (rk_if_eq_ok (pc' := 20) dX7_meeting_7 (by decide) oX7_meeting_20 (rk_iload_n_ok dX7_meeting_10 rfl (rk_iconst_ok dX7_meeting_11 (by decide) (rk_bipush_ok dX7_meeting_12 (by decide) (rk_cS_ok dX7_meeting_14 npX7_in wmX7_81 wtX7_in wiX7 wdX7_in (by decide) (by decide) (rk_if_ne_ok (pc' := 23) dX7_meeting_17 (by decide) (rk_iconst_ok dX7_meeting_23 (by decide) (rk_istore_n_ok dX7_meeting_24 rfl (by decide) rk_cut_ok)) oX7_meeting_20))))))))))
theorem dX7_roadsAt_0 : decode cX7_roadsAt 0 = .ok (.iconst 0, 1) := by decide +kernel
theorem dX7_roadsAt_1 : decode cX7_roadsAt 1 = .ok (.istore_n 2, 1) := by decide +kernel
theorem dX7_roadsAt_2 : decode cX7_roadsAt 2 = .ok (.iconst 0, 1) := by decide +kernel
theorem dX7_roadsAt_3 : decode cX7_roadsAt 3 = .ok (.istore_n 3, 1) := by decide +kernel
theorem dX7_roadsAt_4 : decode cX7_roadsAt 4 = .ok (.iload_n 3, 1) := by decide +kernel
theorem dX7_roadsAt_5 : decode cX7_roadsAt 5 = .ok (.aload_n 0, 1) := by decide +kernel
theorem dX7_roadsAt_6 : decode cX7_roadsAt 6 = .ok (.getfield 85, 3) := by decide +kernel
theorem dX7_roadsAt_9 : decode cX7_roadsAt 9 = .ok (.if_icmp .ge 26, 3) := by decide +kernel
theorem dX7_roadsAt_12 : decode cX7_roadsAt 12 = .ok (.iload_n 2, 1) := by decide +kernel
theorem dX7_roadsAt_13 : decode cX7_roadsAt 13 = .ok (.aload_n 0, 1) := by decide +kernel
theorem dX7_roadsAt_14 : decode cX7_roadsAt 14 = .ok (.iload_n 3, 1) := by decide +kernel
theorem dX7_roadsAt_15 : decode cX7_roadsAt 15 = .ok (.iload_n 1, 1) := by decide +kernel
theorem dX7_roadsAt_16 : decode cX7_roadsAt 16 = .ok (.invokevirtual 112, 3) := by decide +kernel
theorem dX7_roadsAt_19 : decode cX7_roadsAt 19 = .ok (.ifCond .eq 7, 3) := by decide +kernel
theorem dX7_roadsAt_22 : decode cX7_roadsAt 22 = .ok (.iconst 1, 1) := by decide +kernel
theorem dX7_roadsAt_23 : decode cX7_roadsAt 23 = .ok (.goto 4, 3) := by decide +kernel
theorem dX7_roadsAt_26 : decode cX7_roadsAt 26 = .ok (.iconst 0, 1) := by decide +kernel
theorem dX7_roadsAt_27 : decode cX7_roadsAt 27 = .ok (.iadd, 1) := by decide +kernel
theorem dX7_roadsAt_28 : decode cX7_roadsAt 28 = .ok (.istore_n 2, 1) := by decide +kernel
theorem dX7_roadsAt_29 : decode cX7_roadsAt 29 = .ok (.iinc 3 1, 3) := by decide +kernel
theorem dX7_roadsAt_32 : decode cX7_roadsAt 32 = .ok (.goto (-28), 3) := by decide +kernel
theorem dX7_roadsAt_35 : decode cX7_roadsAt 35 = .ok (.iload_n 2, 1) := by decide +kernel
theorem dX7_roadsAt_36 : decode cX7_roadsAt 36 = .ok (.ireturn, 1) := by decide +kernel
abbrev kX7_roadsAt (g : rk_G) (R : rk_R) (pc : Nat) : rk_K := rk_cut g cX7_roadsAt 4 (some .int) RX7 1 R pc
abbrev aX7_roadsAt (g : rk_G) (R : rk_R) (pc : Nat) (K : rk_K) : Prop := rk_AK g cX7_roadsAt 4 (some .int) RX7 1 R pc K
abbrev sX7_roadsAt (g : rk_G) (vs : List Value) (σ : rk_M) (R : rk_R) : Prop := rk_does g yX7_roadsAt cX7_roadsAt 4 (some .int) 1 vs σ R
abbrev tX7_roadsAt (g : rk_G) (R : rk_R) (pc : Nat) (ls st : List Value) (σ : rk_M) : Prop := rk_At g cX7_roadsAt 4 (some .int) RX7 1 R pc ls st σ
def bX7_roadsAt_27 (g : rk_G) (R : rk_R) : rk_K := (rk_iadd (rk_istore 2 (rk_iinc 3 (1) (kX7_roadsAt g R 4))))
theorem eX7_roadsAt_27 (g : rk_G) (R : rk_R) (ls st : List Value) (σ : rk_M) : bX7_roadsAt_27 g R ls st σ = (rk_iadd (rk_istore 2 (rk_iinc 3 (1) (kX7_roadsAt g R 4)))) ls st σ := rfl
theorem oX7_roadsAt_27 {g : rk_G} {R : rk_R} : aX7_roadsAt g R 27 (bX7_roadsAt_27 g R) := (rk_iadd_ok dX7_roadsAt_27 (rk_istore_n_ok dX7_roadsAt_28 rfl (by decide) (rk_iinc_ok dX7_roadsAt_29 (by decide) (by decide) (rk_goto_ok (pc' := 4) dX7_roadsAt_32 (by decide) rk_cut_ok))))
def bX7_roadsAt_4 (g : rk_G) (R : rk_R) : rk_K := (rk_iload 3 (rk_aload 0 (rk_gI 7 3 (rk_icmp_ge (rk_iload 2 (rk_iret R)) (rk_iload 2 (rk_aload 0 (rk_iload 3 (rk_iload 1 (rk_cV g 2 7 yX7_isAt cX7_isAt 3 (some .boolean) 0 (rk_if_eq (rk_ci (0) (bX7_roadsAt_27 g R)) (rk_ci (1) (bX7_roadsAt_27 g R))))))))))))
theorem eX7_roadsAt_4 (g : rk_G) (R : rk_R) (ls st : List Value) (σ : rk_M) : bX7_roadsAt_4 g R ls st σ = (rk_iload 3 (rk_aload 0 (rk_gI 7 3 (rk_icmp_ge (rk_iload 2 (rk_iret R)) (rk_iload 2 (rk_aload 0 (rk_iload 3 (rk_iload 1 (rk_cV g 2 7 yX7_isAt cX7_isAt 3 (some .boolean) 0 (rk_if_eq (rk_ci (0) (bX7_roadsAt_27 g R)) (rk_ci (1) (bX7_roadsAt_27 g R)))))))))))) ls st σ := rfl
theorem oX7_roadsAt_4 {g : rk_G} {R : rk_R} : aX7_roadsAt g R 4 (bX7_roadsAt_4 g R) := (rk_iload_n_ok dX7_roadsAt_4 rfl (rk_aload_n_ok dX7_roadsAt_5 rfl (rk_gI_ok dX7_roadsAt_6 rfl iX7 (by decide) rfl wfX7_85 (rk_icmp_ge_ok (pc' := 35) dX7_roadsAt_9 (by decide) (rk_iload_n_ok dX7_roadsAt_35 rfl (rk_iret_ok rfl dX7_roadsAt_36)) (rk_iload_n_ok dX7_roadsAt_12 rfl (rk_aload_n_ok dX7_roadsAt_13 rfl (rk_iload_n_ok dX7_roadsAt_14 rfl (rk_iload_n_ok dX7_roadsAt_15 rfl (rk_cV_ok dX7_roadsAt_16 rfl rfl npX7_isAt wmX7_112 wvX7_isAt weX7_isAt wiX7 wdX7_isAt (by decide) (by decide) (rk_if_eq_ok (pc' := 26) dX7_roadsAt_19 (by decide) (rk_iconst_ok dX7_roadsAt_26 (by decide) oX7_roadsAt_27) (rk_iconst_ok dX7_roadsAt_22 (by decide) (rk_goto_ok (pc' := 27) dX7_roadsAt_23 (by decide) oX7_roadsAt_27))))))))))))
def bX7_roadsAt_0 (g : rk_G) (R : rk_R) : rk_K := (rk_ci (0) (rk_istore 2 (rk_ci (0) (rk_istore 3 (kX7_roadsAt g R 4)))))
theorem eX7_roadsAt_0 (g : rk_G) (R : rk_R) (ls st : List Value) (σ : rk_M) : bX7_roadsAt_0 g R ls st σ = (rk_ci (0) (rk_istore 2 (rk_ci (0) (rk_istore 3 (kX7_roadsAt g R 4))))) ls st σ := rfl
theorem oX7_roadsAt_0 {g : rk_G} {R : rk_R} : aX7_roadsAt g R 0 (bX7_roadsAt_0 g R) := (rk_iconst_ok dX7_roadsAt_0 (by decide) (rk_istore_n_ok dX7_roadsAt_1 rfl (by decide) (rk_iconst_ok dX7_roadsAt_2 (by decide) (rk_istore_n_ok dX7_roadsAt_3 rfl (by decide) rk_cut_ok))))
theorem dX7_length_0 : decode cX7_length 0 = .ok (.aload_n 0, 1) := by decide +kernel
theorem dX7_length_1 : decode cX7_length 1 = .ok (.getfield 16, 3) := by decide +kernel
theorem dX7_length_4 : decode cX7_length 4 = .ok (.iconst 2, 1) := by decide +kernel
theorem dX7_length_5 : decode cX7_length 5 = .ok (.iload_n 1, 1) := by decide +kernel
theorem dX7_length_6 : decode cX7_length 6 = .ok (.imul, 1) := by decide +kernel
theorem dX7_length_7 : decode cX7_length 7 = .ok (.iaload, 1) := by decide +kernel
theorem dX7_length_8 : decode cX7_length 8 = .ok (.istore_n 2, 1) := by decide +kernel
theorem dX7_length_9 : decode cX7_length 9 = .ok (.aload_n 0, 1) := by decide +kernel
theorem dX7_length_10 : decode cX7_length 10 = .ok (.getfield 16, 3) := by decide +kernel
theorem dX7_length_13 : decode cX7_length 13 = .ok (.iconst 2, 1) := by decide +kernel
theorem dX7_length_14 : decode cX7_length 14 = .ok (.iload_n 1, 1) := by decide +kernel
theorem dX7_length_15 : decode cX7_length 15 = .ok (.imul, 1) := by decide +kernel
theorem dX7_length_16 : decode cX7_length 16 = .ok (.iconst 1, 1) := by decide +kernel
theorem dX7_length_17 : decode cX7_length 17 = .ok (.iadd, 1) := by decide +kernel
theorem dX7_length_18 : decode cX7_length 18 = .ok (.iaload, 1) := by decide +kernel
theorem dX7_length_19 : decode cX7_length 19 = .ok (.istore_n 3, 1) := by decide +kernel
theorem dX7_length_20 : decode cX7_length 20 = .ok (.aload_n 0, 1) := by decide +kernel
theorem dX7_length_21 : decode cX7_length 21 = .ok (.getfield 7, 3) := by decide +kernel
theorem dX7_length_24 : decode cX7_length 24 = .ok (.iload_n 2, 1) := by decide +kernel
theorem dX7_length_25 : decode cX7_length 25 = .ok (.iaload, 1) := by decide +kernel
theorem dX7_length_26 : decode cX7_length 26 = .ok (.aload_n 0, 1) := by decide +kernel
theorem dX7_length_27 : decode cX7_length 27 = .ok (.getfield 7, 3) := by decide +kernel
theorem dX7_length_30 : decode cX7_length 30 = .ok (.iload_n 3, 1) := by decide +kernel
theorem dX7_length_31 : decode cX7_length 31 = .ok (.iaload, 1) := by decide +kernel
theorem dX7_length_32 : decode cX7_length 32 = .ok (.isub, 1) := by decide +kernel
theorem dX7_length_33 : decode cX7_length 33 = .ok (.invokestatic 123, 3) := by decide +kernel
theorem dX7_length_36 : decode cX7_length 36 = .ok (.aload_n 0, 1) := by decide +kernel
theorem dX7_length_37 : decode cX7_length 37 = .ok (.getfield 13, 3) := by decide +kernel
theorem dX7_length_40 : decode cX7_length 40 = .ok (.iload_n 2, 1) := by decide +kernel
theorem dX7_length_41 : decode cX7_length 41 = .ok (.iaload, 1) := by decide +kernel
theorem dX7_length_42 : decode cX7_length 42 = .ok (.aload_n 0, 1) := by decide +kernel
theorem dX7_length_43 : decode cX7_length 43 = .ok (.getfield 13, 3) := by decide +kernel
theorem dX7_length_46 : decode cX7_length 46 = .ok (.iload_n 3, 1) := by decide +kernel
theorem dX7_length_47 : decode cX7_length 47 = .ok (.iaload, 1) := by decide +kernel
theorem dX7_length_48 : decode cX7_length 48 = .ok (.isub, 1) := by decide +kernel
theorem dX7_length_49 : decode cX7_length 49 = .ok (.invokestatic 123, 3) := by decide +kernel
theorem dX7_length_52 : decode cX7_length 52 = .ok (.iadd, 1) := by decide +kernel
theorem dX7_length_53 : decode cX7_length 53 = .ok (.ireturn, 1) := by decide +kernel
abbrev kX7_length (g : rk_G) (R : rk_R) (pc : Nat) : rk_K := rk_cut g cX7_length 4 (some .int) RX7 1 R pc
abbrev aX7_length (g : rk_G) (R : rk_R) (pc : Nat) (K : rk_K) : Prop := rk_AK g cX7_length 4 (some .int) RX7 1 R pc K
abbrev sX7_length (g : rk_G) (vs : List Value) (σ : rk_M) (R : rk_R) : Prop := rk_does g yX7_length cX7_length 4 (some .int) 1 vs σ R
abbrev tX7_length (g : rk_G) (R : rk_R) (pc : Nat) (ls st : List Value) (σ : rk_M) : Prop := rk_At g cX7_length 4 (some .int) RX7 1 R pc ls st σ
def bX7_length_0 (g : rk_G) (R : rk_R) : rk_K := (rk_aload 0 (rk_gR 7 4 (rk_ci (2) (rk_iload 1 (rk_imul (rk_iald (rk_istore 2 (rk_aload 0 (rk_gR 7 4 (rk_ci (2) (rk_iload 1 (rk_imul (rk_ci (1) (rk_iadd (rk_iald (rk_istore 3 (rk_aload 0 (rk_gR 7 1 (rk_iload 2 (rk_iald (rk_aload 0 (rk_gR 7 1 (rk_iload 3 (rk_iald (rk_isub (rk_cS g 1 yX7_abs cX7_abs 1 (some .int) 0 (rk_aload 0 (rk_gR 7 2 (rk_iload 2 (rk_iald (rk_aload 0 (rk_gR 7 2 (rk_iload 3 (rk_iald (rk_isub (rk_cS g 1 yX7_abs cX7_abs 1 (some .int) 0 (rk_iadd (rk_iret R))))))))))))))))))))))))))))))))))))))
theorem eX7_length_0 (g : rk_G) (R : rk_R) (ls st : List Value) (σ : rk_M) : bX7_length_0 g R ls st σ = (rk_aload 0 (rk_gR 7 4 (rk_ci (2) (rk_iload 1 (rk_imul (rk_iald (rk_istore 2 (rk_aload 0 (rk_gR 7 4 (rk_ci (2) (rk_iload 1 (rk_imul (rk_ci (1) (rk_iadd (rk_iald (rk_istore 3 (rk_aload 0 (rk_gR 7 1 (rk_iload 2 (rk_iald (rk_aload 0 (rk_gR 7 1 (rk_iload 3 (rk_iald (rk_isub (rk_cS g 1 yX7_abs cX7_abs 1 (some .int) 0 (rk_aload 0 (rk_gR 7 2 (rk_iload 2 (rk_iald (rk_aload 0 (rk_gR 7 2 (rk_iload 3 (rk_iald (rk_isub (rk_cS g 1 yX7_abs cX7_abs 1 (some .int) 0 (rk_iadd (rk_iret R)))))))))))))))))))))))))))))))))))))) ls st σ := rfl
theorem oX7_length_0 {g : rk_G} {R : rk_R} : aX7_length g R 0 (bX7_length_0 g R) := (rk_aload_n_ok dX7_length_0 rfl (rk_gR_ok dX7_length_1 rfl iX7 (by decide) rfl wfX7_16 (rk_iconst_ok dX7_length_4 (by decide) (rk_iload_n_ok dX7_length_5 rfl (rk_imul_ok dX7_length_6 (rk_iald_ok dX7_length_7 (rk_istore_n_ok dX7_length_8 rfl (by decide) (rk_aload_n_ok dX7_length_9 rfl (rk_gR_ok dX7_length_10 rfl iX7 (by decide) rfl wfX7_16 (rk_iconst_ok dX7_length_13 (by decide) (rk_iload_n_ok dX7_length_14 rfl (rk_imul_ok dX7_length_15 (rk_iconst_ok dX7_length_16 (by decide) (rk_iadd_ok dX7_length_17 (rk_iald_ok dX7_length_18 (rk_istore_n_ok dX7_length_19 rfl (by decide) (rk_aload_n_ok dX7_length_20 rfl (rk_gR_ok dX7_length_21 rfl iX7 (by decide) rfl wfX7_7 (rk_iload_n_ok dX7_length_24 rfl (rk_iald_ok dX7_length_25 (rk_aload_n_ok dX7_length_26 rfl (rk_gR_ok dX7_length_27 rfl iX7 (by decide) rfl wfX7_7 (rk_iload_n_ok dX7_length_30 rfl (rk_iald_ok dX7_length_31 (rk_isub_ok dX7_length_32 (rk_cS_ok dX7_length_33 npX7_abs wmX7_123 wtX7_abs wiX7 wdX7_abs (by decide) (by decide) (rk_aload_n_ok dX7_length_36 rfl (rk_gR_ok dX7_length_37 rfl iX7 (by decide) rfl wfX7_13 (rk_iload_n_ok dX7_length_40 rfl (rk_iald_ok dX7_length_41 (rk_aload_n_ok dX7_length_42 rfl (rk_gR_ok dX7_length_43 rfl iX7 (by decide) rfl wfX7_13 (rk_iload_n_ok dX7_length_46 rfl (rk_iald_ok dX7_length_47 (rk_isub_ok dX7_length_48 (rk_cS_ok dX7_length_49 npX7_abs wmX7_123 wtX7_abs wiX7 wdX7_abs (by decide) (by decide) (rk_iadd_ok dX7_length_52 (rk_iret_ok rfl dX7_length_53))))))))))))))))))))))))))))))))))))))
theorem dX7_product_0 : decode cX7_product 0 = .ok (.aload_n 0, 1) := by decide +kernel
theorem dX7_product_1 : decode cX7_product 1 = .ok (.iload_n 2, 1) := by decide +kernel
theorem dX7_product_2 : decode cX7_product 2 = .ok (.iload_n 1, 1) := by decide +kernel
theorem dX7_product_3 : decode cX7_product 3 = .ok (.invokevirtual 126, 3) := by decide +kernel
theorem dX7_product_6 : decode cX7_product 6 = .ok (.istore 4, 2) := by decide +kernel
theorem dX7_product_8 : decode cX7_product 8 = .ok (.aload_n 0, 1) := by decide +kernel
theorem dX7_product_9 : decode cX7_product 9 = .ok (.iload_n 3, 1) := by decide +kernel
theorem dX7_product_10 : decode cX7_product 10 = .ok (.iload_n 1, 1) := by decide +kernel
theorem dX7_product_11 : decode cX7_product 11 = .ok (.invokevirtual 126, 3) := by decide +kernel
theorem dX7_product_14 : decode cX7_product 14 = .ok (.istore 5, 2) := by decide +kernel
theorem dX7_product_16 : decode cX7_product 16 = .ok (.aload_n 0, 1) := by decide +kernel
theorem dX7_product_17 : decode cX7_product 17 = .ok (.getfield 7, 3) := by decide +kernel
theorem dX7_product_20 : decode cX7_product 20 = .ok (.iload 4, 2) := by decide +kernel
theorem dX7_product_22 : decode cX7_product 22 = .ok (.iaload, 1) := by decide +kernel
theorem dX7_product_23 : decode cX7_product 23 = .ok (.aload_n 0, 1) := by decide +kernel
theorem dX7_product_24 : decode cX7_product 24 = .ok (.getfield 7, 3) := by decide +kernel
theorem dX7_product_27 : decode cX7_product 27 = .ok (.iload_n 1, 1) := by decide +kernel
theorem dX7_product_28 : decode cX7_product 28 = .ok (.iaload, 1) := by decide +kernel
theorem dX7_product_29 : decode cX7_product 29 = .ok (.isub, 1) := by decide +kernel
theorem dX7_product_30 : decode cX7_product 30 = .ok (.i2l, 1) := by decide +kernel
theorem dX7_product_31 : decode cX7_product 31 = .ok (.aload_n 0, 1) := by decide +kernel
theorem dX7_product_32 : decode cX7_product 32 = .ok (.getfield 7, 3) := by decide +kernel
theorem dX7_product_35 : decode cX7_product 35 = .ok (.iload 5, 2) := by decide +kernel
theorem dX7_product_37 : decode cX7_product 37 = .ok (.iaload, 1) := by decide +kernel
theorem dX7_product_38 : decode cX7_product 38 = .ok (.aload_n 0, 1) := by decide +kernel
theorem dX7_product_39 : decode cX7_product 39 = .ok (.getfield 7, 3) := by decide +kernel
theorem dX7_product_42 : decode cX7_product 42 = .ok (.iload_n 1, 1) := by decide +kernel
theorem dX7_product_43 : decode cX7_product 43 = .ok (.iaload, 1) := by decide +kernel
theorem dX7_product_44 : decode cX7_product 44 = .ok (.isub, 1) := by decide +kernel
theorem dX7_product_45 : decode cX7_product 45 = .ok (.i2l, 1) := by decide +kernel
theorem dX7_product_46 : decode cX7_product 46 = .ok (.lmul, 1) := by decide +kernel
theorem dX7_product_47 : decode cX7_product 47 = .ok (.aload_n 0, 1) := by decide +kernel
theorem dX7_product_48 : decode cX7_product 48 = .ok (.getfield 13, 3) := by decide +kernel
theorem dX7_product_51 : decode cX7_product 51 = .ok (.iload 4, 2) := by decide +kernel
theorem dX7_product_53 : decode cX7_product 53 = .ok (.iaload, 1) := by decide +kernel
theorem dX7_product_54 : decode cX7_product 54 = .ok (.aload_n 0, 1) := by decide +kernel
theorem dX7_product_55 : decode cX7_product 55 = .ok (.getfield 13, 3) := by decide +kernel
theorem dX7_product_58 : decode cX7_product 58 = .ok (.iload_n 1, 1) := by decide +kernel
theorem dX7_product_59 : decode cX7_product 59 = .ok (.iaload, 1) := by decide +kernel
theorem dX7_product_60 : decode cX7_product 60 = .ok (.isub, 1) := by decide +kernel
theorem dX7_product_61 : decode cX7_product 61 = .ok (.i2l, 1) := by decide +kernel
theorem dX7_product_62 : decode cX7_product 62 = .ok (.aload_n 0, 1) := by decide +kernel
theorem dX7_product_63 : decode cX7_product 63 = .ok (.getfield 13, 3) := by decide +kernel
theorem dX7_product_66 : decode cX7_product 66 = .ok (.iload 5, 2) := by decide +kernel
theorem dX7_product_68 : decode cX7_product 68 = .ok (.iaload, 1) := by decide +kernel
theorem dX7_product_69 : decode cX7_product 69 = .ok (.aload_n 0, 1) := by decide +kernel
theorem dX7_product_70 : decode cX7_product 70 = .ok (.getfield 13, 3) := by decide +kernel
theorem dX7_product_73 : decode cX7_product 73 = .ok (.iload_n 1, 1) := by decide +kernel
theorem dX7_product_74 : decode cX7_product 74 = .ok (.iaload, 1) := by decide +kernel
theorem dX7_product_75 : decode cX7_product 75 = .ok (.isub, 1) := by decide +kernel
theorem dX7_product_76 : decode cX7_product 76 = .ok (.i2l, 1) := by decide +kernel
theorem dX7_product_77 : decode cX7_product 77 = .ok (.lmul, 1) := by decide +kernel
theorem dX7_product_78 : decode cX7_product 78 = .ok (.ladd, 1) := by decide +kernel
theorem dX7_product_79 : decode cX7_product 79 = .ok (.lreturn, 1) := by decide +kernel
abbrev kX7_product (g : rk_G) (R : rk_R) (pc : Nat) : rk_K := rk_cut g cX7_product 6 (some .long) RX7 1 R pc
abbrev aX7_product (g : rk_G) (R : rk_R) (pc : Nat) (K : rk_K) : Prop := rk_AK g cX7_product 6 (some .long) RX7 1 R pc K
abbrev sX7_product (g : rk_G) (vs : List Value) (σ : rk_M) (R : rk_R) : Prop := rk_does g yX7_product cX7_product 6 (some .long) 1 vs σ R
abbrev tX7_product (g : rk_G) (R : rk_R) (pc : Nat) (ls st : List Value) (σ : rk_M) : Prop := rk_At g cX7_product 6 (some .long) RX7 1 R pc ls st σ
def bX7_product_0 (g : rk_G) (R : rk_R) : rk_K := (rk_aload 0 (rk_iload 2 (rk_iload 1 (rk_cV g 2 7 yX7_other cX7_other 3 (some .int) 0 (rk_istore 4 (rk_aload 0 (rk_iload 3 (rk_iload 1 (rk_cV g 2 7 yX7_other cX7_other 3 (some .int) 0 (rk_istore 5 (rk_aload 0 (rk_gR 7 1 (rk_iload 4 (rk_iald (rk_aload 0 (rk_gR 7 1 (rk_iload 1 (rk_iald (rk_isub (rk_i2l (rk_aload 0 (rk_gR 7 1 (rk_iload 5 (rk_iald (rk_aload 0 (rk_gR 7 1 (rk_iload 1 (rk_iald (rk_isub (rk_i2l (rk_lmul (rk_aload 0 (rk_gR 7 2 (rk_iload 4 (rk_iald (rk_aload 0 (rk_gR 7 2 (rk_iload 1 (rk_iald (rk_isub (rk_i2l (rk_aload 0 (rk_gR 7 2 (rk_iload 5 (rk_iald (rk_aload 0 (rk_gR 7 2 (rk_iload 1 (rk_iald (rk_isub (rk_i2l (rk_lmul (rk_ladd (rk_lret R))))))))))))))))))))))))))))))))))))))))))))))))))))))
theorem eX7_product_0 (g : rk_G) (R : rk_R) (ls st : List Value) (σ : rk_M) : bX7_product_0 g R ls st σ = (rk_aload 0 (rk_iload 2 (rk_iload 1 (rk_cV g 2 7 yX7_other cX7_other 3 (some .int) 0 (rk_istore 4 (rk_aload 0 (rk_iload 3 (rk_iload 1 (rk_cV g 2 7 yX7_other cX7_other 3 (some .int) 0 (rk_istore 5 (rk_aload 0 (rk_gR 7 1 (rk_iload 4 (rk_iald (rk_aload 0 (rk_gR 7 1 (rk_iload 1 (rk_iald (rk_isub (rk_i2l (rk_aload 0 (rk_gR 7 1 (rk_iload 5 (rk_iald (rk_aload 0 (rk_gR 7 1 (rk_iload 1 (rk_iald (rk_isub (rk_i2l (rk_lmul (rk_aload 0 (rk_gR 7 2 (rk_iload 4 (rk_iald (rk_aload 0 (rk_gR 7 2 (rk_iload 1 (rk_iald (rk_isub (rk_i2l (rk_aload 0 (rk_gR 7 2 (rk_iload 5 (rk_iald (rk_aload 0 (rk_gR 7 2 (rk_iload 1 (rk_iald (rk_isub (rk_i2l (rk_lmul (rk_ladd (rk_lret R)))))))))))))))))))))))))))))))))))))))))))))))))))))) ls st σ := rfl
theorem oX7_product_0 {g : rk_G} {R : rk_R} : aX7_product g R 0 (bX7_product_0 g R) := (rk_aload_n_ok dX7_product_0 rfl (rk_iload_n_ok dX7_product_1 rfl (rk_iload_n_ok dX7_product_2 rfl (rk_cV_ok dX7_product_3 rfl rfl npX7_other wmX7_126 wvX7_other weX7_other wiX7 wdX7_other (by decide) (by decide) (rk_istore_ok dX7_product_6 (by decide) (rk_aload_n_ok dX7_product_8 rfl (rk_iload_n_ok dX7_product_9 rfl (rk_iload_n_ok dX7_product_10 rfl (rk_cV_ok dX7_product_11 rfl rfl npX7_other wmX7_126 wvX7_other weX7_other wiX7 wdX7_other (by decide) (by decide) (rk_istore_ok dX7_product_14 (by decide) (rk_aload_n_ok dX7_product_16 rfl (rk_gR_ok dX7_product_17 rfl iX7 (by decide) rfl wfX7_7 (rk_iload_ok dX7_product_20 (rk_iald_ok dX7_product_22 (rk_aload_n_ok dX7_product_23 rfl (rk_gR_ok dX7_product_24 rfl iX7 (by decide) rfl wfX7_7 (rk_iload_n_ok dX7_product_27 rfl (rk_iald_ok dX7_product_28 (rk_isub_ok dX7_product_29 (rk_i2l_ok dX7_product_30 (rk_aload_n_ok dX7_product_31 rfl (rk_gR_ok dX7_product_32 rfl iX7 (by decide) rfl wfX7_7 (rk_iload_ok dX7_product_35 (rk_iald_ok dX7_product_37 (rk_aload_n_ok dX7_product_38 rfl (rk_gR_ok dX7_product_39 rfl iX7 (by decide) rfl wfX7_7 (rk_iload_n_ok dX7_product_42 rfl (rk_iald_ok dX7_product_43 (rk_isub_ok dX7_product_44 (rk_i2l_ok dX7_product_45 (rk_lmul_ok dX7_product_46 (rk_aload_n_ok dX7_product_47 rfl (rk_gR_ok dX7_product_48 rfl iX7 (by decide) rfl wfX7_13 (rk_iload_ok dX7_product_51 (rk_iald_ok dX7_product_53 (rk_aload_n_ok dX7_product_54 rfl (rk_gR_ok dX7_product_55 rfl iX7 (by decide) rfl wfX7_13 (rk_iload_n_ok dX7_product_58 rfl (rk_iald_ok dX7_product_59 (rk_isub_ok dX7_product_60 (rk_i2l_ok dX7_product_61 (rk_aload_n_ok dX7_product_62 rfl (rk_gR_ok dX7_product_63 rfl iX7 (by decide) rfl wfX7_13 (rk_iload_ok dX7_product_66 (rk_iald_ok dX7_product_68 (rk_aload_n_ok dX7_product_69 rfl (rk_gR_ok dX7_product_70 rfl iX7 (by decide) rfl wfX7_13 (rk_iload_n_ok dX7_product_73 rfl (rk_iald_ok dX7_product_74 (rk_isub_ok dX7_product_75 (rk_i2l_ok dX7_product_76 (rk_lmul_ok dX7_product_77 (rk_ladd_ok dX7_product_78 (rk_lret_ok rfl dX7_product_79))))))))))))))))))))))))))))))))))))))))))))))))))))))
