theorem dX1_partner_0 : decode cX1_partner 0 = .ok (.aload_n 0, 1) := by decide +kernel
theorem dX1_partner_1 : decode cX1_partner 1 = .ok (.getfield 47, 3) := by decide +kernel
theorem dX1_partner_4 : decode cX1_partner 4 = .ok (.getfield 63, 3) := by decide +kernel
theorem dX1_partner_7 : decode cX1_partner 7 = .ok (.iload_n 2, 1) := by decide +kernel
theorem dX1_partner_8 : decode cX1_partner 8 = .ok (.iaload, 1) := by decide +kernel
theorem dX1_partner_9 : decode cX1_partner 9 = .ok (.iload_n 1, 1) := by decide +kernel
theorem dX1_partner_10 : decode cX1_partner 10 = .ok (.if_icmp .ne 12, 3) := by decide +kernel
theorem dX1_partner_13 : decode cX1_partner 13 = .ok (.aload_n 0, 1) := by decide +kernel
theorem dX1_partner_14 : decode cX1_partner 14 = .ok (.getfield 15, 3) := by decide +kernel
theorem dX1_partner_17 : decode cX1_partner 17 = .ok (.iload_n 2, 1) := by decide +kernel
theorem dX1_partner_18 : decode cX1_partner 18 = .ok (.iaload, 1) := by decide +kernel
theorem dX1_partner_19 : decode cX1_partner 19 = .ok (.goto 9, 3) := by decide +kernel
theorem dX1_partner_22 : decode cX1_partner 22 = .ok (.aload_n 0, 1) := by decide +kernel
theorem dX1_partner_23 : decode cX1_partner 23 = .ok (.getfield 19, 3) := by decide +kernel
theorem dX1_partner_26 : decode cX1_partner 26 = .ok (.iload_n 2, 1) := by decide +kernel
theorem dX1_partner_27 : decode cX1_partner 27 = .ok (.iaload, 1) := by decide +kernel
theorem dX1_partner_28 : decode cX1_partner 28 = .ok (.ireturn, 1) := by decide +kernel
abbrev kX1_partner (g : rk_G) (R : rk_R) (pc : Nat) : rk_K := rk_cut g cX1_partner 3 (some .int) RX1 0 R pc
abbrev aX1_partner (g : rk_G) (R : rk_R) (pc : Nat) (K : rk_K) : Prop := rk_AK g cX1_partner 3 (some .int) RX1 0 R pc K
abbrev sX1_partner (g : rk_G) (vs : List Value) (σ : rk_M) (R : rk_R) : Prop := rk_does g yX1_partner cX1_partner 3 (some .int) 0 vs σ R
abbrev tX1_partner (g : rk_G) (R : rk_R) (pc : Nat) (ls st : List Value) (σ : rk_M) : Prop := rk_At g cX1_partner 3 (some .int) RX1 0 R pc ls st σ
def bX1_partner_28 (g : rk_G) (R : rk_R) : rk_K := (rk_iret R)
theorem eX1_partner_28 (g : rk_G) (R : rk_R) (ls st : List Value) (σ : rk_M) : bX1_partner_28 g R ls st σ = (rk_iret R) ls st σ := rfl
theorem oX1_partner_28 {g : rk_G} {R : rk_R} : aX1_partner g R 28 (bX1_partner_28 g R) := (rk_iret_ok rfl dX1_partner_28)
def bX1_partner_0 (g : rk_G) (R : rk_R) : rk_K := (rk_aload 0 (rk_gR 1 1 (rk_gR 2 2 (rk_iload 2 (rk_iald (rk_iload 1 (rk_icmp_ne (rk_aload 0 (rk_gR 1 3 (rk_iload 2 (rk_iald (bX1_partner_28 g R))))) (rk_aload 0 (rk_gR 1 2 (rk_iload 2 (rk_iald (bX1_partner_28 g R))))))))))))
theorem eX1_partner_0 (g : rk_G) (R : rk_R) (ls st : List Value) (σ : rk_M) : bX1_partner_0 g R ls st σ = (rk_aload 0 (rk_gR 1 1 (rk_gR 2 2 (rk_iload 2 (rk_iald (rk_iload 1 (rk_icmp_ne (rk_aload 0 (rk_gR 1 3 (rk_iload 2 (rk_iald (bX1_partner_28 g R))))) (rk_aload 0 (rk_gR 1 2 (rk_iload 2 (rk_iald (bX1_partner_28 g R)))))))))))) ls st σ := rfl
theorem oX1_partner_0 {g : rk_G} {R : rk_R} : aX1_partner g R 0 (bX1_partner_0 g R) := (rk_aload_n_ok dX1_partner_0 rfl (rk_gR_ok dX1_partner_1 rfl iX1 (by decide) rfl wfX1_47 (rk_gR_ok dX1_partner_4 rfl iX2 (by decide) rfl wfX1_63 (rk_iload_n_ok dX1_partner_7 rfl (rk_iald_ok dX1_partner_8 (rk_iload_n_ok dX1_partner_9 rfl (rk_icmp_ne_ok (pc' := 22) dX1_partner_10 (by decide) (rk_aload_n_ok dX1_partner_22 rfl (rk_gR_ok dX1_partner_23 rfl iX1 (by decide) rfl wfX1_19 (rk_iload_n_ok dX1_partner_26 rfl (rk_iald_ok dX1_partner_27 oX1_partner_28)))) (rk_aload_n_ok dX1_partner_13 rfl (rk_gR_ok dX1_partner_14 rfl iX1 (by decide) rfl wfX1_15 (rk_iload_n_ok dX1_partner_17 rfl (rk_iald_ok dX1_partner_18 (rk_goto_ok (pc' := 28) dX1_partner_19 (by decide) oX1_partner_28))))))))))))
theorem dX1_isOpenAtFirst_0 : decode cX1_isOpenAtFirst 0 = .ok (.aload_n 0, 1) := by decide +kernel
theorem dX1_isOpenAtFirst_1 : decode cX1_isOpenAtFirst 1 = .ok (.getfield 15, 3) := by decide +kernel
theorem dX1_isOpenAtFirst_4 : decode cX1_isOpenAtFirst 4 = .ok (.iload_n 1, 1) := by decide +kernel
theorem dX1_isOpenAtFirst_5 : decode cX1_isOpenAtFirst 5 = .ok (.iaload, 1) := by decide +kernel
theorem dX1_isOpenAtFirst_6 : decode cX1_isOpenAtFirst 6 = .ok (.iconst (-1), 1) := by decide +kernel
theorem dX1_isOpenAtFirst_7 : decode cX1_isOpenAtFirst 7 = .ok (.if_icmp .ne 7, 3) := by decide +kernel
theorem dX1_isOpenAtFirst_10 : decode cX1_isOpenAtFirst 10 = .ok (.iconst 1, 1) := by decide +kernel
theorem dX1_isOpenAtFirst_11 : decode cX1_isOpenAtFirst 11 = .ok (.goto 4, 3) := by decide +kernel
theorem dX1_isOpenAtFirst_14 : decode cX1_isOpenAtFirst 14 = .ok (.iconst 0, 1) := by decide +kernel
theorem dX1_isOpenAtFirst_15 : decode cX1_isOpenAtFirst 15 = .ok (.ireturn, 1) := by decide +kernel
abbrev kX1_isOpenAtFirst (g : rk_G) (R : rk_R) (pc : Nat) : rk_K := rk_cut g cX1_isOpenAtFirst 2 (some .boolean) RX1 0 R pc
abbrev aX1_isOpenAtFirst (g : rk_G) (R : rk_R) (pc : Nat) (K : rk_K) : Prop := rk_AK g cX1_isOpenAtFirst 2 (some .boolean) RX1 0 R pc K
abbrev sX1_isOpenAtFirst (g : rk_G) (vs : List Value) (σ : rk_M) (R : rk_R) : Prop := rk_does g yX1_isOpenAtFirst cX1_isOpenAtFirst 2 (some .boolean) 0 vs σ R
abbrev tX1_isOpenAtFirst (g : rk_G) (R : rk_R) (pc : Nat) (ls st : List Value) (σ : rk_M) : Prop := rk_At g cX1_isOpenAtFirst 2 (some .boolean) RX1 0 R pc ls st σ
def bX1_isOpenAtFirst_15 (g : rk_G) (R : rk_R) : rk_K := (rk_zret R)
theorem eX1_isOpenAtFirst_15 (g : rk_G) (R : rk_R) (ls st : List Value) (σ : rk_M) : bX1_isOpenAtFirst_15 g R ls st σ = (rk_zret R) ls st σ := rfl
theorem oX1_isOpenAtFirst_15 {g : rk_G} {R : rk_R} : aX1_isOpenAtFirst g R 15 (bX1_isOpenAtFirst_15 g R) := (rk_zret_ok rfl dX1_isOpenAtFirst_15)
def bX1_isOpenAtFirst_0 (g : rk_G) (R : rk_R) : rk_K := (rk_aload 0 (rk_gR 1 2 (rk_iload 1 (rk_iald (rk_ci (-1) (rk_icmp_ne (rk_ci (0) (bX1_isOpenAtFirst_15 g R)) (rk_ci (1) (bX1_isOpenAtFirst_15 g R))))))))
theorem eX1_isOpenAtFirst_0 (g : rk_G) (R : rk_R) (ls st : List Value) (σ : rk_M) : bX1_isOpenAtFirst_0 g R ls st σ = (rk_aload 0 (rk_gR 1 2 (rk_iload 1 (rk_iald (rk_ci (-1) (rk_icmp_ne (rk_ci (0) (bX1_isOpenAtFirst_15 g R)) (rk_ci (1) (bX1_isOpenAtFirst_15 g R)))))))) ls st σ := rfl
theorem oX1_isOpenAtFirst_0 {g : rk_G} {R : rk_R} : aX1_isOpenAtFirst g R 0 (bX1_isOpenAtFirst_0 g R) := (rk_aload_n_ok dX1_isOpenAtFirst_0 rfl (rk_gR_ok dX1_isOpenAtFirst_1 rfl iX1 (by decide) rfl wfX1_15 (rk_iload_n_ok dX1_isOpenAtFirst_4 rfl (rk_iald_ok dX1_isOpenAtFirst_5 (rk_iconst_ok dX1_isOpenAtFirst_6 (by decide) (rk_icmp_ne_ok (pc' := 14) dX1_isOpenAtFirst_7 (by decide) (rk_iconst_ok dX1_isOpenAtFirst_14 (by decide) oX1_isOpenAtFirst_15) (rk_iconst_ok dX1_isOpenAtFirst_10 (by decide) (rk_goto_ok (pc' := 15) dX1_isOpenAtFirst_11 (by decide) oX1_isOpenAtFirst_15))))))))
theorem dX1_isOpenAtSecond_0 : decode cX1_isOpenAtSecond 0 = .ok (.aload_n 0, 1) := by decide +kernel
theorem dX1_isOpenAtSecond_1 : decode cX1_isOpenAtSecond 1 = .ok (.getfield 19, 3) := by decide +kernel
theorem dX1_isOpenAtSecond_4 : decode cX1_isOpenAtSecond 4 = .ok (.iload_n 1, 1) := by decide +kernel
theorem dX1_isOpenAtSecond_5 : decode cX1_isOpenAtSecond 5 = .ok (.iaload, 1) := by decide +kernel
theorem dX1_isOpenAtSecond_6 : decode cX1_isOpenAtSecond 6 = .ok (.iconst (-1), 1) := by decide +kernel
theorem dX1_isOpenAtSecond_7 : decode cX1_isOpenAtSecond 7 = .ok (.if_icmp .ne 7, 3) := by decide +kernel
theorem dX1_isOpenAtSecond_10 : decode cX1_isOpenAtSecond 10 = .ok (.iconst 1, 1) := by decide +kernel
theorem dX1_isOpenAtSecond_11 : decode cX1_isOpenAtSecond 11 = .ok (.goto 4, 3) := by decide +kernel
theorem dX1_isOpenAtSecond_14 : decode cX1_isOpenAtSecond 14 = .ok (.iconst 0, 1) := by decide +kernel
theorem dX1_isOpenAtSecond_15 : decode cX1_isOpenAtSecond 15 = .ok (.ireturn, 1) := by decide +kernel
abbrev kX1_isOpenAtSecond (g : rk_G) (R : rk_R) (pc : Nat) : rk_K := rk_cut g cX1_isOpenAtSecond 2 (some .boolean) RX1 0 R pc
abbrev aX1_isOpenAtSecond (g : rk_G) (R : rk_R) (pc : Nat) (K : rk_K) : Prop := rk_AK g cX1_isOpenAtSecond 2 (some .boolean) RX1 0 R pc K
abbrev sX1_isOpenAtSecond (g : rk_G) (vs : List Value) (σ : rk_M) (R : rk_R) : Prop := rk_does g yX1_isOpenAtSecond cX1_isOpenAtSecond 2 (some .boolean) 0 vs σ R
abbrev tX1_isOpenAtSecond (g : rk_G) (R : rk_R) (pc : Nat) (ls st : List Value) (σ : rk_M) : Prop := rk_At g cX1_isOpenAtSecond 2 (some .boolean) RX1 0 R pc ls st σ
def bX1_isOpenAtSecond_15 (g : rk_G) (R : rk_R) : rk_K := (rk_zret R)
theorem eX1_isOpenAtSecond_15 (g : rk_G) (R : rk_R) (ls st : List Value) (σ : rk_M) : bX1_isOpenAtSecond_15 g R ls st σ = (rk_zret R) ls st σ := rfl
theorem oX1_isOpenAtSecond_15 {g : rk_G} {R : rk_R} : aX1_isOpenAtSecond g R 15 (bX1_isOpenAtSecond_15 g R) := (rk_zret_ok rfl dX1_isOpenAtSecond_15)
def bX1_isOpenAtSecond_0 (g : rk_G) (R : rk_R) : rk_K := (rk_aload 0 (rk_gR 1 3 (rk_iload 1 (rk_iald (rk_ci (-1) (rk_icmp_ne (rk_ci (0) (bX1_isOpenAtSecond_15 g R)) (rk_ci (1) (bX1_isOpenAtSecond_15 g R))))))))
theorem eX1_isOpenAtSecond_0 (g : rk_G) (R : rk_R) (ls st : List Value) (σ : rk_M) : bX1_isOpenAtSecond_0 g R ls st σ = (rk_aload 0 (rk_gR 1 3 (rk_iload 1 (rk_iald (rk_ci (-1) (rk_icmp_ne (rk_ci (0) (bX1_isOpenAtSecond_15 g R)) (rk_ci (1) (bX1_isOpenAtSecond_15 g R)))))))) ls st σ := rfl
theorem oX1_isOpenAtSecond_0 {g : rk_G} {R : rk_R} : aX1_isOpenAtSecond g R 0 (bX1_isOpenAtSecond_0 g R) := (rk_aload_n_ok dX1_isOpenAtSecond_0 rfl (rk_gR_ok dX1_isOpenAtSecond_1 rfl iX1 (by decide) rfl wfX1_19 (rk_iload_n_ok dX1_isOpenAtSecond_4 rfl (rk_iald_ok dX1_isOpenAtSecond_5 (rk_iconst_ok dX1_isOpenAtSecond_6 (by decide) (rk_icmp_ne_ok (pc' := 14) dX1_isOpenAtSecond_7 (by decide) (rk_iconst_ok dX1_isOpenAtSecond_14 (by decide) oX1_isOpenAtSecond_15) (rk_iconst_ok dX1_isOpenAtSecond_10 (by decide) (rk_goto_ok (pc' := 15) dX1_isOpenAtSecond_11 (by decide) oX1_isOpenAtSecond_15))))))))
theorem dX1_mayJoin_0 : decode cX1_mayJoin 0 = .ok (.aload_n 0, 1) := by decide +kernel
theorem dX1_mayJoin_1 : decode cX1_mayJoin 1 = .ok (.getfield 47, 3) := by decide +kernel
theorem dX1_mayJoin_4 : decode cX1_mayJoin 4 = .ok (.getfield 110, 3) := by decide +kernel
theorem dX1_mayJoin_7 : decode cX1_mayJoin 7 = .ok (.iload_n 1, 1) := by decide +kernel
theorem dX1_mayJoin_8 : decode cX1_mayJoin 8 = .ok (.iaload, 1) := by decide +kernel
theorem dX1_mayJoin_9 : decode cX1_mayJoin 9 = .ok (.istore_n 3, 1) := by decide +kernel
theorem dX1_mayJoin_10 : decode cX1_mayJoin 10 = .ok (.aload_n 0, 1) := by decide +kernel
theorem dX1_mayJoin_11 : decode cX1_mayJoin 11 = .ok (.getfield 47, 3) := by decide +kernel
theorem dX1_mayJoin_14 : decode cX1_mayJoin 14 = .ok (.getfield 110, 3) := by decide +kernel
theorem dX1_mayJoin_17 : decode cX1_mayJoin 17 = .ok (.iload_n 2, 1) := by decide +kernel
theorem dX1_mayJoin_18 : decode cX1_mayJoin 18 = .ok (.iaload, 1) := by decide +kernel
theorem dX1_mayJoin_19 : decode cX1_mayJoin 19 = .ok (.istore 4, 2) := by decide +kernel
theorem dX1_mayJoin_21 : decode cX1_mayJoin 21 = .ok (.iload_n 3, 1) := by decide +kernel
theorem dX1_mayJoin_22 : decode cX1_mayJoin 22 = .ok (.iconst 2, 1) := by decide +kernel
theorem dX1_mayJoin_23 : decode cX1_mayJoin 23 = .ok (.if_icmp .ne 8, 3) := by decide +kernel
theorem dX1_mayJoin_26 : decode cX1_mayJoin 26 = .ok (.iload 4, 2) := by decide +kernel
theorem dX1_mayJoin_28 : decode cX1_mayJoin 28 = .ok (.ifCond .eq 17, 3) := by decide +kernel
theorem dX1_mayJoin_31 : decode cX1_mayJoin 31 = .ok (.iload_n 3, 1) := by decide +kernel
theorem dX1_mayJoin_32 : decode cX1_mayJoin 32 = .ok (.ifCond .ne 9, 3) := by decide +kernel
theorem dX1_mayJoin_35 : decode cX1_mayJoin 35 = .ok (.iload 4, 2) := by decide +kernel
theorem dX1_mayJoin_37 : decode cX1_mayJoin 37 = .ok (.iconst 2, 1) := by decide +kernel
theorem dX1_mayJoin_38 : decode cX1_mayJoin 38 = .ok (.if_icmp .eq 7, 3) := by decide +kernel
theorem dX1_mayJoin_41 : decode cX1_mayJoin 41 = .ok (.iconst 1, 1) := by decide +kernel
theorem dX1_mayJoin_42 : decode cX1_mayJoin 42 = .ok (.goto 4, 3) := by decide +kernel
theorem dX1_mayJoin_45 : decode cX1_mayJoin 45 = .ok (.iconst 0, 1) := by decide +kernel
theorem dX1_mayJoin_46 : decode cX1_mayJoin 46 = .ok (.ireturn, 1) := by decide +kernel
abbrev kX1_mayJoin (g : rk_G) (R : rk_R) (pc : Nat) : rk_K := rk_cut g cX1_mayJoin 5 (some .boolean) RX1 0 R pc
abbrev aX1_mayJoin (g : rk_G) (R : rk_R) (pc : Nat) (K : rk_K) : Prop := rk_AK g cX1_mayJoin 5 (some .boolean) RX1 0 R pc K
abbrev sX1_mayJoin (g : rk_G) (vs : List Value) (σ : rk_M) (R : rk_R) : Prop := rk_does g yX1_mayJoin cX1_mayJoin 5 (some .boolean) 0 vs σ R
abbrev tX1_mayJoin (g : rk_G) (R : rk_R) (pc : Nat) (ls st : List Value) (σ : rk_M) : Prop := rk_At g cX1_mayJoin 5 (some .boolean) RX1 0 R pc ls st σ
def bX1_mayJoin_46 (g : rk_G) (R : rk_R) : rk_K := (rk_zret R)
theorem eX1_mayJoin_46 (g : rk_G) (R : rk_R) (ls st : List Value) (σ : rk_M) : bX1_mayJoin_46 g R ls st σ = (rk_zret R) ls st σ := rfl
theorem oX1_mayJoin_46 {g : rk_G} {R : rk_R} : aX1_mayJoin g R 46 (bX1_mayJoin_46 g R) := (rk_zret_ok rfl dX1_mayJoin_46)
def bX1_mayJoin_45 (g : rk_G) (R : rk_R) : rk_K := (rk_ci (0) (bX1_mayJoin_46 g R))
theorem eX1_mayJoin_45 (g : rk_G) (R : rk_R) (ls st : List Value) (σ : rk_M) : bX1_mayJoin_45 g R ls st σ = (rk_ci (0) (bX1_mayJoin_46 g R)) ls st σ := rfl
theorem oX1_mayJoin_45 {g : rk_G} {R : rk_R} : aX1_mayJoin g R 45 (bX1_mayJoin_45 g R) := (rk_iconst_ok dX1_mayJoin_45 (by decide) oX1_mayJoin_46)
def bX1_mayJoin_41 (g : rk_G) (R : rk_R) : rk_K := (rk_ci (1) (bX1_mayJoin_46 g R))
theorem eX1_mayJoin_41 (g : rk_G) (R : rk_R) (ls st : List Value) (σ : rk_M) : bX1_mayJoin_41 g R ls st σ = (rk_ci (1) (bX1_mayJoin_46 g R)) ls st σ := rfl
theorem oX1_mayJoin_41 {g : rk_G} {R : rk_R} : aX1_mayJoin g R 41 (bX1_mayJoin_41 g R) := (rk_iconst_ok dX1_mayJoin_41 (by decide) (rk_goto_ok (pc' := 46) dX1_mayJoin_42 (by decide) oX1_mayJoin_46))
def bX1_mayJoin_31 (g : rk_G) (R : rk_R) : rk_K := (rk_iload 3 (rk_if_ne (bX1_mayJoin_41 g R) (rk_iload 4 (rk_ci (2) (rk_icmp_eq (bX1_mayJoin_45 g R) (bX1_mayJoin_41 g R))))))
theorem eX1_mayJoin_31 (g : rk_G) (R : rk_R) (ls st : List Value) (σ : rk_M) : bX1_mayJoin_31 g R ls st σ = (rk_iload 3 (rk_if_ne (bX1_mayJoin_41 g R) (rk_iload 4 (rk_ci (2) (rk_icmp_eq (bX1_mayJoin_45 g R) (bX1_mayJoin_41 g R)))))) ls st σ := rfl
theorem oX1_mayJoin_31 {g : rk_G} {R : rk_R} : aX1_mayJoin g R 31 (bX1_mayJoin_31 g R) := (rk_iload_n_ok dX1_mayJoin_31 rfl (rk_if_ne_ok (pc' := 41) dX1_mayJoin_32 (by decide) oX1_mayJoin_41 (rk_iload_ok dX1_mayJoin_35 (rk_iconst_ok dX1_mayJoin_37 (by decide) (rk_icmp_eq_ok (pc' := 45) dX1_mayJoin_38 (by decide) oX1_mayJoin_45 oX1_mayJoin_41)))))
def bX1_mayJoin_0 (g : rk_G) (R : rk_R) : rk_K := (rk_aload 0 (rk_gR 1 1 (rk_gR 2 4 (rk_iload 1 (rk_iald (rk_istore 3 (rk_aload 0 (rk_gR 1 1 (rk_gR 2 4 (rk_iload 2 (rk_iald (rk_istore 4 (rk_iload 3 (rk_ci (2) (rk_icmp_ne (bX1_mayJoin_31 g R) (rk_iload 4 (rk_if_eq (bX1_mayJoin_45 g R) (bX1_mayJoin_31 g R))))))))))))))))))
theorem eX1_mayJoin_0 (g : rk_G) (R : rk_R) (ls st : List Value) (σ : rk_M) : bX1_mayJoin_0 g R ls st σ = (rk_aload 0 (rk_gR 1 1 (rk_gR 2 4 (rk_iload 1 (rk_iald (rk_istore 3 (rk_aload 0 (rk_gR 1 1 (rk_gR 2 4 (rk_iload 2 (rk_iald (rk_istore 4 (rk_iload 3 (rk_ci (2) (rk_icmp_ne (bX1_mayJoin_31 g R) (rk_iload 4 (rk_if_eq (bX1_mayJoin_45 g R) (bX1_mayJoin_31 g R)))))))))))))))))) ls st σ := rfl
theorem oX1_mayJoin_0 {g : rk_G} {R : rk_R} : aX1_mayJoin g R 0 (bX1_mayJoin_0 g R) := (rk_aload_n_ok dX1_mayJoin_0 rfl (rk_gR_ok dX1_mayJoin_1 rfl iX1 (by decide) rfl wfX1_47 (rk_gR_ok dX1_mayJoin_4 rfl iX2 (by decide) rfl wfX1_110 (rk_iload_n_ok dX1_mayJoin_7 rfl (rk_iald_ok dX1_mayJoin_8 (rk_istore_n_ok dX1_mayJoin_9 rfl (by decide) (rk_aload_n_ok dX1_mayJoin_10 rfl (rk_gR_ok dX1_mayJoin_11 rfl iX1 (by decide) rfl wfX1_47 (rk_gR_ok dX1_mayJoin_14 rfl iX2 (by decide) rfl wfX1_110 (rk_iload_n_ok dX1_mayJoin_17 rfl (rk_iald_ok dX1_mayJoin_18 (rk_istore_ok dX1_mayJoin_19 (by decide) (rk_iload_n_ok dX1_mayJoin_21 rfl (rk_iconst_ok dX1_mayJoin_22 (by decide) (rk_icmp_ne_ok (pc' := 31) dX1_mayJoin_23 (by decide) oX1_mayJoin_31 (rk_iload_ok dX1_mayJoin_26 (rk_if_eq_ok (pc' := 45) dX1_mayJoin_28 (by decide) oX1_mayJoin_45 oX1_mayJoin_31)))))))))))))))))
theorem dX1_setPartner_0 : decode cX1_setPartner 0 = .ok (.aload_n 0, 1) := by decide +kernel
theorem dX1_setPartner_1 : decode cX1_setPartner 1 = .ok (.getfield 47, 3) := by decide +kernel
theorem dX1_setPartner_4 : decode cX1_setPartner 4 = .ok (.getfield 63, 3) := by decide +kernel
theorem dX1_setPartner_7 : decode cX1_setPartner 7 = .ok (.iload_n 2, 1) := by decide +kernel
theorem dX1_setPartner_8 : decode cX1_setPartner 8 = .ok (.iaload, 1) := by decide +kernel
theorem dX1_setPartner_9 : decode cX1_setPartner 9 = .ok (.iload_n 1, 1) := by decide +kernel
theorem dX1_setPartner_10 : decode cX1_setPartner 10 = .ok (.if_icmp .ne 13, 3) := by decide +kernel
theorem dX1_setPartner_13 : decode cX1_setPartner 13 = .ok (.aload_n 0, 1) := by decide +kernel
theorem dX1_setPartner_14 : decode cX1_setPartner 14 = .ok (.getfield 15, 3) := by decide +kernel
theorem dX1_setPartner_17 : decode cX1_setPartner 17 = .ok (.iload_n 2, 1) := by decide +kernel
theorem dX1_setPartner_18 : decode cX1_setPartner 18 = .ok (.iload_n 3, 1) := by decide +kernel
theorem dX1_setPartner_19 : decode cX1_setPartner 19 = .ok (.iastore, 1) := by decide +kernel
theorem dX1_setPartner_20 : decode cX1_setPartner 20 = .ok (.goto 10, 3) := by decide +kernel
theorem dX1_setPartner_23 : decode cX1_setPartner 23 = .ok (.aload_n 0, 1) := by decide +kernel
theorem dX1_setPartner_24 : decode cX1_setPartner 24 = .ok (.getfield 19, 3) := by decide +kernel
theorem dX1_setPartner_27 : decode cX1_setPartner 27 = .ok (.iload_n 2, 1) := by decide +kernel
theorem dX1_setPartner_28 : decode cX1_setPartner 28 = .ok (.iload_n 3, 1) := by decide +kernel
theorem dX1_setPartner_29 : decode cX1_setPartner 29 = .ok (.iastore, 1) := by decide +kernel
theorem dX1_setPartner_30 : decode cX1_setPartner 30 = .ok (.return_, 1) := by decide +kernel
abbrev kX1_setPartner (g : rk_G) (R : rk_R) (pc : Nat) : rk_K := rk_cut g cX1_setPartner 4 none RX1 0 R pc
abbrev aX1_setPartner (g : rk_G) (R : rk_R) (pc : Nat) (K : rk_K) : Prop := rk_AK g cX1_setPartner 4 none RX1 0 R pc K
abbrev sX1_setPartner (g : rk_G) (vs : List Value) (σ : rk_M) (R : rk_R) : Prop := rk_does g yX1_setPartner cX1_setPartner 4 none 0 vs σ R
abbrev tX1_setPartner (g : rk_G) (R : rk_R) (pc : Nat) (ls st : List Value) (σ : rk_M) : Prop := rk_At g cX1_setPartner 4 none RX1 0 R pc ls st σ
def bX1_setPartner_30 (g : rk_G) (R : rk_R) : rk_K := (rk_vret R)
theorem eX1_setPartner_30 (g : rk_G) (R : rk_R) (ls st : List Value) (σ : rk_M) : bX1_setPartner_30 g R ls st σ = (rk_vret R) ls st σ := rfl
theorem oX1_setPartner_30 {g : rk_G} {R : rk_R} : aX1_setPartner g R 30 (bX1_setPartner_30 g R) := (rk_vret_ok rfl dX1_setPartner_30)
def bX1_setPartner_0 (g : rk_G) (R : rk_R) : rk_K := (rk_aload 0 (rk_gR 1 1 (rk_gR 2 2 (rk_iload 2 (rk_iald (rk_iload 1 (rk_icmp_ne (rk_aload 0 (rk_gR 1 3 (rk_iload 2 (rk_iload 3 (rk_iast (bX1_setPartner_30 g R)))))) (rk_aload 0 (rk_gR 1 2 (rk_iload 2 (rk_iload 3 (rk_iast (bX1_setPartner_30 g R)))))))))))))
theorem eX1_setPartner_0 (g : rk_G) (R : rk_R) (ls st : List Value) (σ : rk_M) : bX1_setPartner_0 g R ls st σ = (rk_aload 0 (rk_gR 1 1 (rk_gR 2 2 (rk_iload 2 (rk_iald (rk_iload 1 (rk_icmp_ne (rk_aload 0 (rk_gR 1 3 (rk_iload 2 (rk_iload 3 (rk_iast (bX1_setPartner_30 g R)))))) (rk_aload 0 (rk_gR 1 2 (rk_iload 2 (rk_iload 3 (rk_iast (bX1_setPartner_30 g R))))))))))))) ls st σ := rfl
theorem oX1_setPartner_0 {g : rk_G} {R : rk_R} : aX1_setPartner g R 0 (bX1_setPartner_0 g R) := (rk_aload_n_ok dX1_setPartner_0 rfl (rk_gR_ok dX1_setPartner_1 rfl iX1 (by decide) rfl wfX1_47 (rk_gR_ok dX1_setPartner_4 rfl iX2 (by decide) rfl wfX1_63 (rk_iload_n_ok dX1_setPartner_7 rfl (rk_iald_ok dX1_setPartner_8 (rk_iload_n_ok dX1_setPartner_9 rfl (rk_icmp_ne_ok (pc' := 23) dX1_setPartner_10 (by decide) (rk_aload_n_ok dX1_setPartner_23 rfl (rk_gR_ok dX1_setPartner_24 rfl iX1 (by decide) rfl wfX1_19 (rk_iload_n_ok dX1_setPartner_27 rfl (rk_iload_n_ok dX1_setPartner_28 rfl (rk_iast_ok dX1_setPartner_29 oX1_setPartner_30))))) (rk_aload_n_ok dX1_setPartner_13 rfl (rk_gR_ok dX1_setPartner_14 rfl iX1 (by decide) rfl wfX1_15 (rk_iload_n_ok dX1_setPartner_17 rfl (rk_iload_n_ok dX1_setPartner_18 rfl (rk_iast_ok dX1_setPartner_19 (rk_goto_ok (pc' := 30) dX1_setPartner_20 (by decide) oX1_setPartner_30)))))))))))))
theorem dX1_dropBest_0 : decode cX1_dropBest 0 = .ok (.iconst 0, 1) := by decide +kernel
theorem dX1_dropBest_1 : decode cX1_dropBest 1 = .ok (.istore_n 1, 1) := by decide +kernel
theorem dX1_dropBest_2 : decode cX1_dropBest 2 = .ok (.iconst 0, 1) := by decide +kernel
theorem dX1_dropBest_3 : decode cX1_dropBest 3 = .ok (.istore_n 2, 1) := by decide +kernel
theorem dX1_dropBest_4 : decode cX1_dropBest 4 = .ok (.iload_n 2, 1) := by decide +kernel
theorem dX1_dropBest_5 : decode cX1_dropBest 5 = .ok (.aload_n 0, 1) := by decide +kernel
theorem dX1_dropBest_6 : decode cX1_dropBest 6 = .ok (.getfield 31, 3) := by decide +kernel
theorem dX1_dropBest_9 : decode cX1_dropBest 9 = .ok (.if_icmp .ge 64, 3) := by decide +kernel
theorem dX1_dropBest_12 : decode cX1_dropBest 12 = .ok (.iload_n 2, 1) := by decide +kernel
theorem dX1_dropBest_13 : decode cX1_dropBest 13 = .ok (.aload_n 0, 1) := by decide +kernel
theorem dX1_dropBest_14 : decode cX1_dropBest 14 = .ok (.getfield 34, 3) := by decide +kernel
theorem dX1_dropBest_17 : decode cX1_dropBest 17 = .ok (.if_icmp .eq 50, 3) := by decide +kernel
theorem dX1_dropBest_20 : decode cX1_dropBest 20 = .ok (.iload_n 2, 1) := by decide +kernel
theorem dX1_dropBest_21 : decode cX1_dropBest 21 = .ok (.aload_n 0, 1) := by decide +kernel
theorem dX1_dropBest_22 : decode cX1_dropBest 22 = .ok (.getfield 37, 3) := by decide +kernel
theorem dX1_dropBest_25 : decode cX1_dropBest 25 = .ok (.if_icmp .eq 42, 3) := by decide +kernel
theorem dX1_dropBest_28 : decode cX1_dropBest 28 = .ok (.aload_n 0, 1) := by decide +kernel
theorem dX1_dropBest_29 : decode cX1_dropBest 29 = .ok (.getfield 22, 3) := by decide +kernel
theorem dX1_dropBest_32 : decode cX1_dropBest 32 = .ok (.iload_n 1, 1) := by decide +kernel
theorem dX1_dropBest_33 : decode cX1_dropBest 33 = .ok (.aload_n 0, 1) := by decide +kernel
theorem dX1_dropBest_34 : decode cX1_dropBest 34 = .ok (.getfield 22, 3) := by decide +kernel
theorem dX1_dropBest_37 : decode cX1_dropBest 37 = .ok (.iload_n 2, 1) := by decide +kernel
theorem dX1_dropBest_38 : decode cX1_dropBest 38 = .ok (.iaload, 1) := by decide +kernel
theorem dX1_dropBest_39 : decode cX1_dropBest 39 = .ok (.iastore, 1) := by decide +kernel
theorem dX1_dropBest_40 : decode cX1_dropBest 40 = .ok (.aload_n 0, 1) := by decide +kernel
theorem dX1_dropBest_41 : decode cX1_dropBest 41 = .ok (.getfield 25, 3) := by decide +kernel
theorem dX1_dropBest_44 : decode cX1_dropBest 44 = .ok (.iload_n 1, 1) := by decide +kernel
theorem dX1_dropBest_45 : decode cX1_dropBest 45 = .ok (.aload_n 0, 1) := by decide +kernel
theorem dX1_dropBest_46 : decode cX1_dropBest 46 = .ok (.getfield 25, 3) := by decide +kernel
theorem dX1_dropBest_49 : decode cX1_dropBest 49 = .ok (.iload_n 2, 1) := by decide +kernel
theorem dX1_dropBest_50 : decode cX1_dropBest 50 = .ok (.iaload, 1) := by decide +kernel
theorem dX1_dropBest_51 : decode cX1_dropBest 51 = .ok (.iastore, 1) := by decide +kernel
theorem dX1_dropBest_52 : decode cX1_dropBest 52 = .ok (.aload_n 0, 1) := by decide +kernel
theorem dX1_dropBest_53 : decode cX1_dropBest 53 = .ok (.getfield 28, 3) := by decide +kernel
theorem dX1_dropBest_56 : decode cX1_dropBest 56 = .ok (.iload_n 1, 1) := by decide +kernel
theorem dX1_dropBest_57 : decode cX1_dropBest 57 = .ok (.aload_n 0, 1) := by decide +kernel
theorem dX1_dropBest_58 : decode cX1_dropBest 58 = .ok (.getfield 28, 3) := by decide +kernel
theorem dX1_dropBest_61 : decode cX1_dropBest 61 = .ok (.iload_n 2, 1) := by decide +kernel
theorem dX1_dropBest_62 : decode cX1_dropBest 62 = .ok (.iaload, 1) := by decide +kernel
theorem dX1_dropBest_63 : decode cX1_dropBest 63 = .ok (.iastore, 1) := by decide +kernel
theorem dX1_dropBest_64 : decode cX1_dropBest 64 = .ok (.iinc 1 1, 3) := by decide +kernel
theorem dX1_dropBest_67 : decode cX1_dropBest 67 = .ok (.iinc 2 1, 3) := by decide +kernel
theorem dX1_dropBest_70 : decode cX1_dropBest 70 = .ok (.goto (-66), 3) := by decide +kernel
theorem dX1_dropBest_73 : decode cX1_dropBest 73 = .ok (.aload_n 0, 1) := by decide +kernel
theorem dX1_dropBest_74 : decode cX1_dropBest 74 = .ok (.iload_n 1, 1) := by decide +kernel
theorem dX1_dropBest_75 : decode cX1_dropBest 75 = .ok (.putfield 31, 3) := by decide +kernel
theorem dX1_dropBest_78 : decode cX1_dropBest 78 = .ok (.return_, 1) := by decide +kernel
abbrev kX1_dropBest (g : rk_G) (R : rk_R) (pc : Nat) : rk_K := rk_cut g cX1_dropBest 3 none RX1 0 R pc
abbrev aX1_dropBest (g : rk_G) (R : rk_R) (pc : Nat) (K : rk_K) : Prop := rk_AK g cX1_dropBest 3 none RX1 0 R pc K
abbrev sX1_dropBest (g : rk_G) (vs : List Value) (σ : rk_M) (R : rk_R) : Prop := rk_does g yX1_dropBest cX1_dropBest 3 none 0 vs σ R
abbrev tX1_dropBest (g : rk_G) (R : rk_R) (pc : Nat) (ls st : List Value) (σ : rk_M) : Prop := rk_At g cX1_dropBest 3 none RX1 0 R pc ls st σ
def bX1_dropBest_67 (g : rk_G) (R : rk_R) : rk_K := (rk_iinc 2 (1) (kX1_dropBest g R 4))
theorem eX1_dropBest_67 (g : rk_G) (R : rk_R) (ls st : List Value) (σ : rk_M) : bX1_dropBest_67 g R ls st σ = (rk_iinc 2 (1) (kX1_dropBest g R 4)) ls st σ := rfl
theorem oX1_dropBest_67 {g : rk_G} {R : rk_R} : aX1_dropBest g R 67 (bX1_dropBest_67 g R) := (rk_iinc_ok dX1_dropBest_67 (by decide) (by decide) (rk_goto_ok (pc' := 4) dX1_dropBest_70 (by decide) rk_cut_ok))
def bX1_dropBest_4 (g : rk_G) (R : rk_R) : rk_K := (rk_iload 2 (rk_aload 0 (rk_gI 1 7 (rk_icmp_ge (rk_aload 0 (rk_iload 1 (rk_pI 1 7 (rk_vret R)))) (rk_iload 2 (rk_aload 0 (rk_gI 1 8 (rk_icmp_eq (bX1_dropBest_67 g R) (rk_iload 2 (rk_aload 0 (rk_gI 1 9 (rk_icmp_eq (bX1_dropBest_67 g R) (rk_aload 0 (rk_gR 1 4 (rk_iload 1 (rk_aload 0 (rk_gR 1 4 (rk_iload 2 (rk_iald (rk_iast (rk_aload 0 (rk_gR 1 5 (rk_iload 1 (rk_aload 0 (rk_gR 1 5 (rk_iload 2 (rk_iald (rk_iast (rk_aload 0 (rk_gR 1 6 (rk_iload 1 (rk_aload 0 (rk_gR 1 6 (rk_iload 2 (rk_iald (rk_iast (rk_iinc 1 (1) (bX1_dropBest_67 g R))))))))))))))))))))))))))))))))))))))
theorem eX1_dropBest_4 (g : rk_G) (R : rk_R) (ls st : List Value) (σ : rk_M) : bX1_dropBest_4 g R ls st σ = (rk_iload 2 (rk_aload 0 (rk_gI 1 7 (rk_icmp_ge (rk_aload 0 (rk_iload 1 (rk_pI 1 7 (rk_vret R)))) (rk_iload 2 (rk_aload 0 (rk_gI 1 8 (rk_icmp_eq (bX1_dropBest_67 g R) (rk_iload 2 (rk_aload 0 (rk_gI 1 9 (rk_icmp_eq (bX1_dropBest_67 g R) (rk_aload 0 (rk_gR 1 4 (rk_iload 1 (rk_aload 0 (rk_gR 1 4 (rk_iload 2 (rk_iald (rk_iast (rk_aload 0 (rk_gR 1 5 (rk_iload 1 (rk_aload 0 (rk_gR 1 5 (rk_iload 2 (rk_iald (rk_iast (rk_aload 0 (rk_gR 1 6 (rk_iload 1 (rk_aload 0 (rk_gR 1 6 (rk_iload 2 (rk_iald (rk_iast (rk_iinc 1 (1) (bX1_dropBest_67 g R)))))))))))))))))))))))))))))))))))))) ls st σ := rfl
theorem oX1_dropBest_4 {g : rk_G} {R : rk_R} : aX1_dropBest g R 4 (bX1_dropBest_4 g R) := (rk_iload_n_ok dX1_dropBest_4 rfl (rk_aload_n_ok dX1_dropBest_5 rfl (rk_gI_ok dX1_dropBest_6 rfl iX1 (by decide) rfl wfX1_31 (rk_icmp_ge_ok (pc' := 73) dX1_dropBest_9 (by decide) (rk_aload_n_ok dX1_dropBest_73 rfl (rk_iload_n_ok dX1_dropBest_74 rfl (rk_pI_ok dX1_dropBest_75 rfl iX1 tyX1_ok nmX1 (by decide) rfl rfl (by decide +kernel) wfX1_31 (rk_vret_ok rfl dX1_dropBest_78)))) (rk_iload_n_ok dX1_dropBest_12 rfl (rk_aload_n_ok dX1_dropBest_13 rfl (rk_gI_ok dX1_dropBest_14 rfl iX1 (by decide) rfl wfX1_34 (rk_icmp_eq_ok (pc' := 67) dX1_dropBest_17 (by decide) oX1_dropBest_67 (rk_iload_n_ok dX1_dropBest_20 rfl (rk_aload_n_ok dX1_dropBest_21 rfl (rk_gI_ok dX1_dropBest_22 rfl iX1 (by decide) rfl wfX1_37 (rk_icmp_eq_ok (pc' := 67) dX1_dropBest_25 (by decide) oX1_dropBest_67 (rk_aload_n_ok dX1_dropBest_28 rfl (rk_gR_ok dX1_dropBest_29 rfl iX1 (by decide) rfl wfX1_22 (rk_iload_n_ok dX1_dropBest_32 rfl (rk_aload_n_ok dX1_dropBest_33 rfl (rk_gR_ok dX1_dropBest_34 rfl iX1 (by decide) rfl wfX1_22 (rk_iload_n_ok dX1_dropBest_37 rfl (rk_iald_ok dX1_dropBest_38 (rk_iast_ok dX1_dropBest_39 (rk_aload_n_ok dX1_dropBest_40 rfl (rk_gR_ok dX1_dropBest_41 rfl iX1 (by decide) rfl wfX1_25 (rk_iload_n_ok dX1_dropBest_44 rfl (rk_aload_n_ok dX1_dropBest_45 rfl (rk_gR_ok dX1_dropBest_46 rfl iX1 (by decide) rfl wfX1_25 (rk_iload_n_ok dX1_dropBest_49 rfl (rk_iald_ok dX1_dropBest_50 (rk_iast_ok dX1_dropBest_51 (rk_aload_n_ok dX1_dropBest_52 rfl (rk_gR_ok dX1_dropBest_53 rfl iX1 (by decide) rfl wfX1_28 (rk_iload_n_ok dX1_dropBest_56 rfl (rk_aload_n_ok dX1_dropBest_57 rfl (rk_gR_ok dX1_dropBest_58 rfl iX1 (by decide) rfl wfX1_28 (rk_iload_n_ok dX1_dropBest_61 rfl (rk_iald_ok dX1_dropBest_62 (rk_iast_ok dX1_dropBest_63 (rk_iinc_ok dX1_dropBest_64 (by decide) (by decide) oX1_dropBest_67)))))))))))))))))))))))))))))))))))))
def bX1_dropBest_0 (g : rk_G) (R : rk_R) : rk_K := (rk_ci (0) (rk_istore 1 (rk_ci (0) (rk_istore 2 (kX1_dropBest g R 4)))))
theorem eX1_dropBest_0 (g : rk_G) (R : rk_R) (ls st : List Value) (σ : rk_M) : bX1_dropBest_0 g R ls st σ = (rk_ci (0) (rk_istore 1 (rk_ci (0) (rk_istore 2 (kX1_dropBest g R 4))))) ls st σ := rfl
theorem oX1_dropBest_0 {g : rk_G} {R : rk_R} : aX1_dropBest g R 0 (bX1_dropBest_0 g R) := (rk_iconst_ok dX1_dropBest_0 (by decide) (rk_istore_n_ok dX1_dropBest_1 rfl (by decide) (rk_iconst_ok dX1_dropBest_2 (by decide) (rk_istore_n_ok dX1_dropBest_3 rfl (by decide) rk_cut_ok))))
theorem dX1_isWide_0 : decode cX1_isWide 0 = .ok (.lload_n 0, 1) := by decide +kernel
theorem dX1_isWide_1 : decode cX1_isWide 1 = .ok (.lconst 0, 1) := by decide +kernel
theorem dX1_isWide_2 : decode cX1_isWide 2 = .ok (.lcmp, 1) := by decide +kernel
theorem dX1_isWide_3 : decode cX1_isWide 3 = .ok (.ifCond .ge 19, 3) := by decide +kernel
theorem dX1_isWide_6 : decode cX1_isWide 6 = .ok (.ldc2_w 113, 3) := by decide +kernel
theorem dX1_isWide_9 : decode cX1_isWide 9 = .ok (.lload_n 0, 1) := by decide +kernel
theorem dX1_isWide_10 : decode cX1_isWide 10 = .ok (.lmul, 1) := by decide +kernel
theorem dX1_isWide_11 : decode cX1_isWide 11 = .ok (.lload_n 0, 1) := by decide +kernel
theorem dX1_isWide_12 : decode cX1_isWide 12 = .ok (.lmul, 1) := by decide +kernel
theorem dX1_isWide_13 : decode cX1_isWide 13 = .ok (.lload_n 2, 1) := by decide +kernel
theorem dX1_isWide_14 : decode cX1_isWide 14 = .ok (.lcmp, 1) := by decide +kernel
theorem dX1_isWide_15 : decode cX1_isWide 15 = .ok (.ifCond .lt 7, 3) := by decide +kernel
theorem dX1_isWide_18 : decode cX1_isWide 18 = .ok (.iconst 1, 1) := by decide +kernel
theorem dX1_isWide_19 : decode cX1_isWide 19 = .ok (.goto 4, 3) := by decide +kernel
theorem dX1_isWide_22 : decode cX1_isWide 22 = .ok (.iconst 0, 1) := by decide +kernel
theorem dX1_isWide_23 : decode cX1_isWide 23 = .ok (.ireturn, 1) := by decide +kernel
abbrev kX1_isWide (g : rk_G) (R : rk_R) (pc : Nat) : rk_K := rk_cut g cX1_isWide 4 (some .boolean) RX1 0 R pc
abbrev aX1_isWide (g : rk_G) (R : rk_R) (pc : Nat) (K : rk_K) : Prop := rk_AK g cX1_isWide 4 (some .boolean) RX1 0 R pc K
abbrev sX1_isWide (g : rk_G) (vs : List Value) (σ : rk_M) (R : rk_R) : Prop := rk_does g yX1_isWide cX1_isWide 4 (some .boolean) 0 vs σ R
abbrev tX1_isWide (g : rk_G) (R : rk_R) (pc : Nat) (ls st : List Value) (σ : rk_M) : Prop := rk_At g cX1_isWide 4 (some .boolean) RX1 0 R pc ls st σ
def bX1_isWide_23 (g : rk_G) (R : rk_R) : rk_K := (rk_zret R)
theorem eX1_isWide_23 (g : rk_G) (R : rk_R) (ls st : List Value) (σ : rk_M) : bX1_isWide_23 g R ls st σ = (rk_zret R) ls st σ := rfl
theorem oX1_isWide_23 {g : rk_G} {R : rk_R} : aX1_isWide g R 23 (bX1_isWide_23 g R) := (rk_zret_ok rfl dX1_isWide_23)
def bX1_isWide_22 (g : rk_G) (R : rk_R) : rk_K := (rk_ci (0) (bX1_isWide_23 g R))
theorem eX1_isWide_22 (g : rk_G) (R : rk_R) (ls st : List Value) (σ : rk_M) : bX1_isWide_22 g R ls st σ = (rk_ci (0) (bX1_isWide_23 g R)) ls st σ := rfl
theorem oX1_isWide_22 {g : rk_G} {R : rk_R} : aX1_isWide g R 22 (bX1_isWide_22 g R) := (rk_iconst_ok dX1_isWide_22 (by decide) oX1_isWide_23)
def bX1_isWide_0 (g : rk_G) (R : rk_R) : rk_K := (rk_lload 0 (rk_cj (0) (rk_lcmp (rk_if_ge (bX1_isWide_22 g R) (rk_cj (2) (rk_lload 0 (rk_lmul (rk_lload 0 (rk_lmul (rk_lload 2 (rk_lcmp (rk_if_lt (bX1_isWide_22 g R) (rk_ci (1) (bX1_isWide_23 g R))))))))))))))
theorem eX1_isWide_0 (g : rk_G) (R : rk_R) (ls st : List Value) (σ : rk_M) : bX1_isWide_0 g R ls st σ = (rk_lload 0 (rk_cj (0) (rk_lcmp (rk_if_ge (bX1_isWide_22 g R) (rk_cj (2) (rk_lload 0 (rk_lmul (rk_lload 0 (rk_lmul (rk_lload 2 (rk_lcmp (rk_if_lt (bX1_isWide_22 g R) (rk_ci (1) (bX1_isWide_23 g R)))))))))))))) ls st σ := rfl
theorem oX1_isWide_0 {g : rk_G} {R : rk_R} : aX1_isWide g R 0 (bX1_isWide_0 g R) := (rk_lload_n_ok dX1_isWide_0 rfl (rk_lconst_ok dX1_isWide_1 (by decide) (rk_lcmp_ok dX1_isWide_2 (rk_if_ge_ok (pc' := 22) dX1_isWide_3 (by decide) oX1_isWide_22 (rk_ldc2_ok dX1_isWide_6 wjX1_113 (rk_lload_n_ok dX1_isWide_9 rfl (rk_lmul_ok dX1_isWide_10 (rk_lload_n_ok dX1_isWide_11 rfl (rk_lmul_ok dX1_isWide_12 (rk_lload_n_ok dX1_isWide_13 rfl (rk_lcmp_ok dX1_isWide_14 (rk_if_lt_ok (pc' := 22) dX1_isWide_15 (by decide) oX1_isWide_22 (rk_iconst_ok dX1_isWide_18 (by decide) (rk_goto_ok (pc' := 23) dX1_isWide_19 (by decide) oX1_isWide_23))))))))))))))
theorem dX1_product_0 : decode cX1_product 0 = .ok (.iload_n 0, 1) := by decide +kernel
theorem dX1_product_1 : decode cX1_product 1 = .ok (.iload_n 2, 1) := by decide +kernel
theorem dX1_product_2 : decode cX1_product 2 = .ok (.imul, 1) := by decide +kernel
theorem dX1_product_3 : decode cX1_product 3 = .ok (.iload_n 1, 1) := by decide +kernel
theorem dX1_product_4 : decode cX1_product 4 = .ok (.iload_n 3, 1) := by decide +kernel
theorem dX1_product_5 : decode cX1_product 5 = .ok (.imul, 1) := by decide +kernel
theorem dX1_product_6 : decode cX1_product 6 = .ok (.iadd, 1) := by decide +kernel
theorem dX1_product_7 : decode cX1_product 7 = .ok (.i2l, 1) := by decide +kernel
theorem dX1_product_8 : decode cX1_product 8 = .ok (.lreturn, 1) := by decide +kernel
abbrev kX1_product (g : rk_G) (R : rk_R) (pc : Nat) : rk_K := rk_cut g cX1_product 4 (some .long) RX1 0 R pc
abbrev aX1_product (g : rk_G) (R : rk_R) (pc : Nat) (K : rk_K) : Prop := rk_AK g cX1_product 4 (some .long) RX1 0 R pc K
abbrev sX1_product (g : rk_G) (vs : List Value) (σ : rk_M) (R : rk_R) : Prop := rk_does g yX1_product cX1_product 4 (some .long) 0 vs σ R
abbrev tX1_product (g : rk_G) (R : rk_R) (pc : Nat) (ls st : List Value) (σ : rk_M) : Prop := rk_At g cX1_product 4 (some .long) RX1 0 R pc ls st σ
def bX1_product_0 (g : rk_G) (R : rk_R) : rk_K := (rk_iload 0 (rk_iload 2 (rk_imul (rk_iload 1 (rk_iload 3 (rk_imul (rk_iadd (rk_i2l (rk_lret R)))))))))
theorem eX1_product_0 (g : rk_G) (R : rk_R) (ls st : List Value) (σ : rk_M) : bX1_product_0 g R ls st σ = (rk_iload 0 (rk_iload 2 (rk_imul (rk_iload 1 (rk_iload 3 (rk_imul (rk_iadd (rk_i2l (rk_lret R))))))))) ls st σ := rfl
theorem oX1_product_0 {g : rk_G} {R : rk_R} : aX1_product g R 0 (bX1_product_0 g R) := (rk_iload_n_ok dX1_product_0 rfl (rk_iload_n_ok dX1_product_1 rfl (rk_imul_ok dX1_product_2 (rk_iload_n_ok dX1_product_3 rfl (rk_iload_n_ok dX1_product_4 rfl (rk_imul_ok dX1_product_5 (rk_iadd_ok dX1_product_6 (rk_i2l_ok dX1_product_7 (rk_lret_ok rfl dX1_product_8)))))))))
theorem dX2_removeLast_0 : decode cX2_removeLast 0 = .ok (.aload_n 0, 1) := by decide +kernel
theorem dX2_removeLast_1 : decode cX2_removeLast 1 = .ok (.getfield 33, 3) := by decide +kernel
theorem dX2_removeLast_4 : decode cX2_removeLast 4 = .ok (.aload_n 0, 1) := by decide +kernel
theorem dX2_removeLast_5 : decode cX2_removeLast 5 = .ok (.getfield 37, 3) := by decide +kernel
theorem dX2_removeLast_8 : decode cX2_removeLast 8 = .ok (.iadd, 1) := by decide +kernel
theorem dX2_removeLast_9 : decode cX2_removeLast 9 = .ok (.iconst 1, 1) := by decide +kernel
theorem dX2_removeLast_10 : decode cX2_removeLast 10 = .ok (.isub, 1) := by decide +kernel
theorem dX2_removeLast_11 : decode cX2_removeLast 11 = .ok (.istore_n 1, 1) := by decide +kernel
theorem dX2_removeLast_12 : decode cX2_removeLast 12 = .ok (.iload_n 1, 1) := by decide +kernel
theorem dX2_removeLast_13 : decode cX2_removeLast 13 = .ok (.ifCond .ge 6, 3) := by decide +kernel
theorem dX2_removeLast_16 : decode cX2_removeLast 16 = .ok (.bipush (-3), 2) := by decide +kernel
theorem dX2_removeLast_18 : decode cX2_removeLast 18 = .ok (.ireturn, 1) := by decide +kernel
theorem dX2_removeLast_19 : decode cX2_removeLast 19 = .ok (.aload_n 0, 1) := by decide +kernel
theorem dX2_removeLast_20 : decode cX2_removeLast 20 = .ok (.getfield 40, 3) := by decide +kernel
theorem dX2_removeLast_23 : decode cX2_removeLast 23 = .ok (.iload_n 1, 1) := by decide +kernel
theorem dX2_removeLast_24 : decode cX2_removeLast 24 = .ok (.baload, 1) := by decide +kernel
theorem dX2_removeLast_25 : decode cX2_removeLast 25 = .ok (.ifCond .eq 16, 3) := by decide +kernel
theorem dX2_removeLast_28 : decode cX2_removeLast 28 = .ok (.aload_n 0, 1) := by decide +kernel
theorem dX2_removeLast_29 : decode cX2_removeLast 29 = .ok (.dup, 1) := by decide +kernel
theorem dX2_removeLast_30 : decode cX2_removeLast 30 = .ok (.getfield 37, 3) := by decide +kernel
theorem dX2_removeLast_33 : decode cX2_removeLast 33 = .ok (.iconst 1, 1) := by decide +kernel
theorem dX2_removeLast_34 : decode cX2_removeLast 34 = .ok (.isub, 1) := by decide +kernel
theorem dX2_removeLast_35 : decode cX2_removeLast 35 = .ok (.putfield 37, 3) := by decide +kernel
theorem dX2_removeLast_38 : decode cX2_removeLast 38 = .ok (.goto 13, 3) := by decide +kernel
theorem dX2_removeLast_41 : decode cX2_removeLast 41 = .ok (.aload_n 0, 1) := by decide +kernel
theorem dX2_removeLast_42 : decode cX2_removeLast 42 = .ok (.dup, 1) := by decide +kernel
theorem dX2_removeLast_43 : decode cX2_removeLast 43 = .ok (.getfield 33, 3) := by decide +kernel
theorem dX2_removeLast_46 : decode cX2_removeLast 46 = .ok (.iconst 1, 1) := by decide +kernel
theorem dX2_removeLast_47 : decode cX2_removeLast 47 = .ok (.isub, 1) := by decide +kernel
theorem dX2_removeLast_48 : decode cX2_removeLast 48 = .ok (.putfield 33, 3) := by decide +kernel
theorem dX2_removeLast_51 : decode cX2_removeLast 51 = .ok (.iload_n 1, 1) := by decide +kernel
theorem dX2_removeLast_52 : decode cX2_removeLast 52 = .ok (.ireturn, 1) := by decide +kernel
abbrev kX2_removeLast (g : rk_G) (R : rk_R) (pc : Nat) : rk_K := rk_cut g cX2_removeLast 2 (some .int) RX2 0 R pc
abbrev aX2_removeLast (g : rk_G) (R : rk_R) (pc : Nat) (K : rk_K) : Prop := rk_AK g cX2_removeLast 2 (some .int) RX2 0 R pc K
abbrev sX2_removeLast (g : rk_G) (vs : List Value) (σ : rk_M) (R : rk_R) : Prop := rk_does g yX2_removeLast cX2_removeLast 2 (some .int) 0 vs σ R
abbrev tX2_removeLast (g : rk_G) (R : rk_R) (pc : Nat) (ls st : List Value) (σ : rk_M) : Prop := rk_At g cX2_removeLast 2 (some .int) RX2 0 R pc ls st σ
def bX2_removeLast_51 (g : rk_G) (R : rk_R) : rk_K := (rk_iload 1 (rk_iret R))
theorem eX2_removeLast_51 (g : rk_G) (R : rk_R) (ls st : List Value) (σ : rk_M) : bX2_removeLast_51 g R ls st σ = (rk_iload 1 (rk_iret R)) ls st σ := rfl
theorem oX2_removeLast_51 {g : rk_G} {R : rk_R} : aX2_removeLast g R 51 (bX2_removeLast_51 g R) := (rk_iload_n_ok dX2_removeLast_51 rfl (rk_iret_ok rfl dX2_removeLast_52))
def bX2_removeLast_0 (g : rk_G) (R : rk_R) : rk_K := (rk_aload 0 (rk_gI 2 7 (rk_aload 0 (rk_gI 2 8 (rk_iadd (rk_ci (1) (rk_isub (rk_istore 1 (rk_iload 1 (rk_if_ge (rk_aload 0 (rk_gR 2 9 (rk_iload 1 (rk_zald (rk_if_eq (rk_aload 0 (rk_dup (rk_gI 2 7 (rk_ci (1) (rk_isub (rk_pI 2 7 (bX2_removeLast_51 g R))))))) (rk_aload 0 (rk_dup (rk_gI 2 8 (rk_ci (1) (rk_isub (rk_pI 2 8 (bX2_removeLast_51 g R)))))))))))) (rk_ci (-3) (rk_iret R))))))))))))
theorem eX2_removeLast_0 (g : rk_G) (R : rk_R) (ls st : List Value) (σ : rk_M) : bX2_removeLast_0 g R ls st σ = (rk_aload 0 (rk_gI 2 7 (rk_aload 0 (rk_gI 2 8 (rk_iadd (rk_ci (1) (rk_isub (rk_istore 1 (rk_iload 1 (rk_if_ge (rk_aload 0 (rk_gR 2 9 (rk_iload 1 (rk_zald (rk_if_eq (rk_aload 0 (rk_dup (rk_gI 2 7 (rk_ci (1) (rk_isub (rk_pI 2 7 (bX2_removeLast_51 g R))))))) (rk_aload 0 (rk_dup (rk_gI 2 8 (rk_ci (1) (rk_isub (rk_pI 2 8 (bX2_removeLast_51 g R)))))))))))) (rk_ci (-3) (rk_iret R)))))))))))) ls st σ := rfl
theorem oX2_removeLast_0 {g : rk_G} {R : rk_R} : aX2_removeLast g R 0 (bX2_removeLast_0 g R) := (rk_aload_n_ok dX2_removeLast_0 rfl (rk_gI_ok dX2_removeLast_1 rfl iX2 (by decide) rfl wfX2_33 (rk_aload_n_ok dX2_removeLast_4 rfl (rk_gI_ok dX2_removeLast_5 rfl iX2 (by decide) rfl wfX2_37 (rk_iadd_ok dX2_removeLast_8 (rk_iconst_ok dX2_removeLast_9 (by decide) (rk_isub_ok dX2_removeLast_10 (rk_istore_n_ok dX2_removeLast_11 rfl (by decide) (rk_iload_n_ok dX2_removeLast_12 rfl (rk_if_ge_ok (pc' := 19) dX2_removeLast_13 (by decide) (rk_aload_n_ok dX2_removeLast_19 rfl (rk_gR_ok dX2_removeLast_20 rfl iX2 (by decide) rfl wfX2_40 (rk_iload_n_ok dX2_removeLast_23 rfl (rk_zald_ok dX2_removeLast_24 (rk_if_eq_ok (pc' := 41) dX2_removeLast_25 (by decide) (rk_aload_n_ok dX2_removeLast_41 rfl (rk_dup_ok dX2_removeLast_42 (rk_gI_ok dX2_removeLast_43 rfl iX2 (by decide) rfl wfX2_33 (rk_iconst_ok dX2_removeLast_46 (by decide) (rk_isub_ok dX2_removeLast_47 (rk_pI_ok dX2_removeLast_48 rfl iX2 tyX2_ok nmX2 (by decide) rfl rfl (by decide +kernel) wfX2_33 oX2_removeLast_51)))))) (rk_aload_n_ok dX2_removeLast_28 rfl (rk_dup_ok dX2_removeLast_29 (rk_gI_ok dX2_removeLast_30 rfl iX2 (by decide) rfl wfX2_37 (rk_iconst_ok dX2_removeLast_33 (by decide) (rk_isub_ok dX2_removeLast_34 (rk_pI_ok dX2_removeLast_35 rfl iX2 tyX2_ok nmX2 (by decide) rfl rfl (by decide +kernel) wfX2_37 (rk_goto_ok (pc' := 51) dX2_removeLast_38 (by decide) oX2_removeLast_51)))))))))))) (rk_bipush_ok dX2_removeLast_16 (by decide) (rk_iret_ok rfl dX2_removeLast_18))))))))))))
theorem dX2_hasMeeting_0 : decode cX2_hasMeeting 0 = .ok (.iload_n 1, 1) := by decide +kernel
theorem dX2_hasMeeting_1 : decode cX2_hasMeeting 1 = .ok (.ifCond .lt 15, 3) := by decide +kernel
theorem dX2_hasMeeting_4 : decode cX2_hasMeeting 4 = .ok (.iload_n 1, 1) := by decide +kernel
theorem dX2_hasMeeting_5 : decode cX2_hasMeeting 5 = .ok (.aload_n 0, 1) := by decide +kernel
theorem dX2_hasMeeting_6 : decode cX2_hasMeeting 6 = .ok (.getfield 33, 3) := by decide +kernel
theorem dX2_hasMeeting_9 : decode cX2_hasMeeting 9 = .ok (.if_icmp .ge 7, 3) := by decide +kernel
theorem dX2_hasMeeting_12 : decode cX2_hasMeeting 12 = .ok (.iconst 1, 1) := by decide +kernel
theorem dX2_hasMeeting_13 : decode cX2_hasMeeting 13 = .ok (.goto 4, 3) := by decide +kernel
theorem dX2_hasMeeting_16 : decode cX2_hasMeeting 16 = .ok (.iconst 0, 1) := by decide +kernel
theorem dX2_hasMeeting_17 : decode cX2_hasMeeting 17 = .ok (.ireturn, 1) := by decide +kernel
abbrev kX2_hasMeeting (g : rk_G) (R : rk_R) (pc : Nat) : rk_K := rk_cut g cX2_hasMeeting 2 (some .boolean) RX2 0 R pc
abbrev aX2_hasMeeting (g : rk_G) (R : rk_R) (pc : Nat) (K : rk_K) : Prop := rk_AK g cX2_hasMeeting 2 (some .boolean) RX2 0 R pc K
abbrev sX2_hasMeeting (g : rk_G) (vs : List Value) (σ : rk_M) (R : rk_R) : Prop := rk_does g yX2_hasMeeting cX2_hasMeeting 2 (some .boolean) 0 vs σ R
abbrev tX2_hasMeeting (g : rk_G) (R : rk_R) (pc : Nat) (ls st : List Value) (σ : rk_M) : Prop := rk_At g cX2_hasMeeting 2 (some .boolean) RX2 0 R pc ls st σ
def bX2_hasMeeting_17 (g : rk_G) (R : rk_R) : rk_K := (rk_zret R)
theorem eX2_hasMeeting_17 (g : rk_G) (R : rk_R) (ls st : List Value) (σ : rk_M) : bX2_hasMeeting_17 g R ls st σ = (rk_zret R) ls st σ := rfl
theorem oX2_hasMeeting_17 {g : rk_G} {R : rk_R} : aX2_hasMeeting g R 17 (bX2_hasMeeting_17 g R) := (rk_zret_ok rfl dX2_hasMeeting_17)
def bX2_hasMeeting_16 (g : rk_G) (R : rk_R) : rk_K := (rk_ci (0) (bX2_hasMeeting_17 g R))
theorem eX2_hasMeeting_16 (g : rk_G) (R : rk_R) (ls st : List Value) (σ : rk_M) : bX2_hasMeeting_16 g R ls st σ = (rk_ci (0) (bX2_hasMeeting_17 g R)) ls st σ := rfl
theorem oX2_hasMeeting_16 {g : rk_G} {R : rk_R} : aX2_hasMeeting g R 16 (bX2_hasMeeting_16 g R) := (rk_iconst_ok dX2_hasMeeting_16 (by decide) oX2_hasMeeting_17)
def bX2_hasMeeting_0 (g : rk_G) (R : rk_R) : rk_K := (rk_iload 1 (rk_if_lt (bX2_hasMeeting_16 g R) (rk_iload 1 (rk_aload 0 (rk_gI 2 7 (rk_icmp_ge (bX2_hasMeeting_16 g R) (rk_ci (1) (bX2_hasMeeting_17 g R))))))))
theorem eX2_hasMeeting_0 (g : rk_G) (R : rk_R) (ls st : List Value) (σ : rk_M) : bX2_hasMeeting_0 g R ls st σ = (rk_iload 1 (rk_if_lt (bX2_hasMeeting_16 g R) (rk_iload 1 (rk_aload 0 (rk_gI 2 7 (rk_icmp_ge (bX2_hasMeeting_16 g R) (rk_ci (1) (bX2_hasMeeting_17 g R)))))))) ls st σ := rfl
theorem oX2_hasMeeting_0 {g : rk_G} {R : rk_R} : aX2_hasMeeting g R 0 (bX2_hasMeeting_0 g R) := (rk_iload_n_ok dX2_hasMeeting_0 rfl (rk_if_lt_ok (pc' := 16) dX2_hasMeeting_1 (by decide) oX2_hasMeeting_16 (rk_iload_n_ok dX2_hasMeeting_4 rfl (rk_aload_n_ok dX2_hasMeeting_5 rfl (rk_gI_ok dX2_hasMeeting_6 rfl iX2 (by decide) rfl wfX2_33 (rk_icmp_ge_ok (pc' := 16) dX2_hasMeeting_9 (by decide) oX2_hasMeeting_16 (rk_iconst_ok dX2_hasMeeting_12 (by decide) (rk_goto_ok (pc' := 17) dX2_hasMeeting_13 (by decide) oX2_hasMeeting_17))))))))
theorem dX2_hasRoad_0 : decode cX2_hasRoad 0 = .ok (.iload_n 1, 1) := by decide +kernel
theorem dX2_hasRoad_1 : decode cX2_hasRoad 1 = .ok (.ifCond .lt 15, 3) := by decide +kernel
theorem dX2_hasRoad_4 : decode cX2_hasRoad 4 = .ok (.iload_n 1, 1) := by decide +kernel
theorem dX2_hasRoad_5 : decode cX2_hasRoad 5 = .ok (.aload_n 0, 1) := by decide +kernel
theorem dX2_hasRoad_6 : decode cX2_hasRoad 6 = .ok (.getfield 37, 3) := by decide +kernel
theorem dX2_hasRoad_9 : decode cX2_hasRoad 9 = .ok (.if_icmp .ge 7, 3) := by decide +kernel
theorem dX2_hasRoad_12 : decode cX2_hasRoad 12 = .ok (.iconst 1, 1) := by decide +kernel
theorem dX2_hasRoad_13 : decode cX2_hasRoad 13 = .ok (.goto 4, 3) := by decide +kernel
theorem dX2_hasRoad_16 : decode cX2_hasRoad 16 = .ok (.iconst 0, 1) := by decide +kernel
theorem dX2_hasRoad_17 : decode cX2_hasRoad 17 = .ok (.ireturn, 1) := by decide +kernel
abbrev kX2_hasRoad (g : rk_G) (R : rk_R) (pc : Nat) : rk_K := rk_cut g cX2_hasRoad 2 (some .boolean) RX2 0 R pc
abbrev aX2_hasRoad (g : rk_G) (R : rk_R) (pc : Nat) (K : rk_K) : Prop := rk_AK g cX2_hasRoad 2 (some .boolean) RX2 0 R pc K
abbrev sX2_hasRoad (g : rk_G) (vs : List Value) (σ : rk_M) (R : rk_R) : Prop := rk_does g yX2_hasRoad cX2_hasRoad 2 (some .boolean) 0 vs σ R
abbrev tX2_hasRoad (g : rk_G) (R : rk_R) (pc : Nat) (ls st : List Value) (σ : rk_M) : Prop := rk_At g cX2_hasRoad 2 (some .boolean) RX2 0 R pc ls st σ
def bX2_hasRoad_17 (g : rk_G) (R : rk_R) : rk_K := (rk_zret R)
theorem eX2_hasRoad_17 (g : rk_G) (R : rk_R) (ls st : List Value) (σ : rk_M) : bX2_hasRoad_17 g R ls st σ = (rk_zret R) ls st σ := rfl
theorem oX2_hasRoad_17 {g : rk_G} {R : rk_R} : aX2_hasRoad g R 17 (bX2_hasRoad_17 g R) := (rk_zret_ok rfl dX2_hasRoad_17)
def bX2_hasRoad_16 (g : rk_G) (R : rk_R) : rk_K := (rk_ci (0) (bX2_hasRoad_17 g R))
theorem eX2_hasRoad_16 (g : rk_G) (R : rk_R) (ls st : List Value) (σ : rk_M) : bX2_hasRoad_16 g R ls st σ = (rk_ci (0) (bX2_hasRoad_17 g R)) ls st σ := rfl
theorem oX2_hasRoad_16 {g : rk_G} {R : rk_R} : aX2_hasRoad g R 16 (bX2_hasRoad_16 g R) := (rk_iconst_ok dX2_hasRoad_16 (by decide) oX2_hasRoad_17)
def bX2_hasRoad_0 (g : rk_G) (R : rk_R) : rk_K := (rk_iload 1 (rk_if_lt (bX2_hasRoad_16 g R) (rk_iload 1 (rk_aload 0 (rk_gI 2 8 (rk_icmp_ge (bX2_hasRoad_16 g R) (rk_ci (1) (bX2_hasRoad_17 g R))))))))
theorem eX2_hasRoad_0 (g : rk_G) (R : rk_R) (ls st : List Value) (σ : rk_M) : bX2_hasRoad_0 g R ls st σ = (rk_iload 1 (rk_if_lt (bX2_hasRoad_16 g R) (rk_iload 1 (rk_aload 0 (rk_gI 2 8 (rk_icmp_ge (bX2_hasRoad_16 g R) (rk_ci (1) (bX2_hasRoad_17 g R)))))))) ls st σ := rfl
theorem oX2_hasRoad_0 {g : rk_G} {R : rk_R} : aX2_hasRoad g R 0 (bX2_hasRoad_0 g R) := (rk_iload_n_ok dX2_hasRoad_0 rfl (rk_if_lt_ok (pc' := 16) dX2_hasRoad_1 (by decide) oX2_hasRoad_16 (rk_iload_n_ok dX2_hasRoad_4 rfl (rk_aload_n_ok dX2_hasRoad_5 rfl (rk_gI_ok dX2_hasRoad_6 rfl iX2 (by decide) rfl wfX2_37 (rk_icmp_ge_ok (pc' := 16) dX2_hasRoad_9 (by decide) oX2_hasRoad_16 (rk_iconst_ok dX2_hasRoad_12 (by decide) (rk_goto_ok (pc' := 17) dX2_hasRoad_13 (by decide) oX2_hasRoad_17))))))))
theorem dX2_isThere_0 : decode cX2_isThere 0 = .ok (.aload_n 0, 1) := by decide +kernel
theorem dX2_isThere_1 : decode cX2_isThere 1 = .ok (.getfield 18, 3) := by decide +kernel
theorem dX2_isThere_4 : decode cX2_isThere 4 = .ok (.iload_n 1, 1) := by decide +kernel
theorem dX2_isThere_5 : decode cX2_isThere 5 = .ok (.iaload, 1) := by decide +kernel
theorem dX2_isThere_6 : decode cX2_isThere 6 = .ok (.iload_n 2, 1) := by decide +kernel
theorem dX2_isThere_7 : decode cX2_isThere 7 = .ok (.if_icmp .eq 13, 3) := by decide +kernel
theorem dX2_isThere_10 : decode cX2_isThere 10 = .ok (.aload_n 0, 1) := by decide +kernel
theorem dX2_isThere_11 : decode cX2_isThere 11 = .ok (.getfield 21, 3) := by decide +kernel
theorem dX2_isThere_14 : decode cX2_isThere 14 = .ok (.iload_n 1, 1) := by decide +kernel
theorem dX2_isThere_15 : decode cX2_isThere 15 = .ok (.iaload, 1) := by decide +kernel
theorem dX2_isThere_16 : decode cX2_isThere 16 = .ok (.iload_n 2, 1) := by decide +kernel
theorem dX2_isThere_17 : decode cX2_isThere 17 = .ok (.if_icmp .ne 7, 3) := by decide +kernel
theorem dX2_isThere_20 : decode cX2_isThere 20 = .ok (.iconst 1, 1) := by decide +kernel
theorem dX2_isThere_21 : decode cX2_isThere 21 = .ok (.goto 4, 3) := by decide +kernel
theorem dX2_isThere_24 : decode cX2_isThere 24 = .ok (.iconst 0, 1) := by decide +kernel
theorem dX2_isThere_25 : decode cX2_isThere 25 = .ok (.ireturn, 1) := by decide +kernel
abbrev kX2_isThere (g : rk_G) (R : rk_R) (pc : Nat) : rk_K := rk_cut g cX2_isThere 3 (some .boolean) RX2 0 R pc
abbrev aX2_isThere (g : rk_G) (R : rk_R) (pc : Nat) (K : rk_K) : Prop := rk_AK g cX2_isThere 3 (some .boolean) RX2 0 R pc K
abbrev sX2_isThere (g : rk_G) (vs : List Value) (σ : rk_M) (R : rk_R) : Prop := rk_does g yX2_isThere cX2_isThere 3 (some .boolean) 0 vs σ R
abbrev tX2_isThere (g : rk_G) (R : rk_R) (pc : Nat) (ls st : List Value) (σ : rk_M) : Prop := rk_At g cX2_isThere 3 (some .boolean) RX2 0 R pc ls st σ
def bX2_isThere_25 (g : rk_G) (R : rk_R) : rk_K := (rk_zret R)
theorem eX2_isThere_25 (g : rk_G) (R : rk_R) (ls st : List Value) (σ : rk_M) : bX2_isThere_25 g R ls st σ = (rk_zret R) ls st σ := rfl
theorem oX2_isThere_25 {g : rk_G} {R : rk_R} : aX2_isThere g R 25 (bX2_isThere_25 g R) := (rk_zret_ok rfl dX2_isThere_25)
def bX2_isThere_20 (g : rk_G) (R : rk_R) : rk_K := (rk_ci (1) (bX2_isThere_25 g R))
theorem eX2_isThere_20 (g : rk_G) (R : rk_R) (ls st : List Value) (σ : rk_M) : bX2_isThere_20 g R ls st σ = (rk_ci (1) (bX2_isThere_25 g R)) ls st σ := rfl
theorem oX2_isThere_20 {g : rk_G} {R : rk_R} : aX2_isThere g R 20 (bX2_isThere_20 g R) := (rk_iconst_ok dX2_isThere_20 (by decide) (rk_goto_ok (pc' := 25) dX2_isThere_21 (by decide) oX2_isThere_25))
def bX2_isThere_0 (g : rk_G) (R : rk_R) : rk_K := (rk_aload 0 (rk_gR 2 2 (rk_iload 1 (rk_iald (rk_iload 2 (rk_icmp_eq (bX2_isThere_20 g R) (rk_aload 0 (rk_gR 2 3 (rk_iload 1 (rk_iald (rk_iload 2 (rk_icmp_ne (rk_ci (0) (bX2_isThere_25 g R)) (bX2_isThere_20 g R)))))))))))))
theorem eX2_isThere_0 (g : rk_G) (R : rk_R) (ls st : List Value) (σ : rk_M) : bX2_isThere_0 g R ls st σ = (rk_aload 0 (rk_gR 2 2 (rk_iload 1 (rk_iald (rk_iload 2 (rk_icmp_eq (bX2_isThere_20 g R) (rk_aload 0 (rk_gR 2 3 (rk_iload 1 (rk_iald (rk_iload 2 (rk_icmp_ne (rk_ci (0) (bX2_isThere_25 g R)) (bX2_isThere_20 g R))))))))))))) ls st σ := rfl
theorem oX2_isThere_0 {g : rk_G} {R : rk_R} : aX2_isThere g R 0 (bX2_isThere_0 g R) := (rk_aload_n_ok dX2_isThere_0 rfl (rk_gR_ok dX2_isThere_1 rfl iX2 (by decide) rfl wfX2_18 (rk_iload_n_ok dX2_isThere_4 rfl (rk_iald_ok dX2_isThere_5 (rk_iload_n_ok dX2_isThere_6 rfl (rk_icmp_eq_ok (pc' := 20) dX2_isThere_7 (by decide) oX2_isThere_20 (rk_aload_n_ok dX2_isThere_10 rfl (rk_gR_ok dX2_isThere_11 rfl iX2 (by decide) rfl wfX2_21 (rk_iload_n_ok dX2_isThere_14 rfl (rk_iald_ok dX2_isThere_15 (rk_iload_n_ok dX2_isThere_16 rfl (rk_icmp_ne_ok (pc' := 24) dX2_isThere_17 (by decide) (rk_iconst_ok dX2_isThere_24 (by decide) oX2_isThere_25) oX2_isThere_20))))))))))))
theorem dX2_stepX_0 : decode cX2_stepX 0 = .ok (.aload_n 0, 1) := by decide +kernel
theorem dX2_stepX_1 : decode cX2_stepX 1 = .ok (.getfield 18, 3) := by decide +kernel
theorem dX2_stepX_4 : decode cX2_stepX 4 = .ok (.iload_n 1, 1) := by decide +kernel
theorem dX2_stepX_5 : decode cX2_stepX 5 = .ok (.iaload, 1) := by decide +kernel
theorem dX2_stepX_6 : decode cX2_stepX 6 = .ok (.iload_n 2, 1) := by decide +kernel
theorem dX2_stepX_7 : decode cX2_stepX 7 = .ok (.if_icmp .ne 24, 3) := by decide +kernel
theorem dX2_stepX_10 : decode cX2_stepX 10 = .ok (.aload_n 0, 1) := by decide +kernel
theorem dX2_stepX_11 : decode cX2_stepX 11 = .ok (.getfield 9, 3) := by decide +kernel
theorem dX2_stepX_14 : decode cX2_stepX 14 = .ok (.aload_n 0, 1) := by decide +kernel
theorem dX2_stepX_15 : decode cX2_stepX 15 = .ok (.getfield 21, 3) := by decide +kernel
theorem dX2_stepX_18 : decode cX2_stepX 18 = .ok (.iload_n 1, 1) := by decide +kernel
theorem dX2_stepX_19 : decode cX2_stepX 19 = .ok (.iaload, 1) := by decide +kernel
theorem dX2_stepX_20 : decode cX2_stepX 20 = .ok (.iaload, 1) := by decide +kernel
theorem dX2_stepX_21 : decode cX2_stepX 21 = .ok (.aload_n 0, 1) := by decide +kernel
theorem dX2_stepX_22 : decode cX2_stepX 22 = .ok (.getfield 9, 3) := by decide +kernel
theorem dX2_stepX_25 : decode cX2_stepX 25 = .ok (.iload_n 2, 1) := by decide +kernel
theorem dX2_stepX_26 : decode cX2_stepX 26 = .ok (.iaload, 1) := by decide +kernel
theorem dX2_stepX_27 : decode cX2_stepX 27 = .ok (.isub, 1) := by decide +kernel
theorem dX2_stepX_28 : decode cX2_stepX 28 = .ok (.goto 21, 3) := by decide +kernel
theorem dX2_stepX_31 : decode cX2_stepX 31 = .ok (.aload_n 0, 1) := by decide +kernel
theorem dX2_stepX_32 : decode cX2_stepX 32 = .ok (.getfield 9, 3) := by decide +kernel
theorem dX2_stepX_35 : decode cX2_stepX 35 = .ok (.aload_n 0, 1) := by decide +kernel
theorem dX2_stepX_36 : decode cX2_stepX 36 = .ok (.getfield 18, 3) := by decide +kernel
theorem dX2_stepX_39 : decode cX2_stepX 39 = .ok (.iload_n 1, 1) := by decide +kernel
theorem dX2_stepX_40 : decode cX2_stepX 40 = .ok (.iaload, 1) := by decide +kernel
theorem dX2_stepX_41 : decode cX2_stepX 41 = .ok (.iaload, 1) := by decide +kernel
theorem dX2_stepX_42 : decode cX2_stepX 42 = .ok (.aload_n 0, 1) := by decide +kernel
theorem dX2_stepX_43 : decode cX2_stepX 43 = .ok (.getfield 9, 3) := by decide +kernel
theorem dX2_stepX_46 : decode cX2_stepX 46 = .ok (.iload_n 2, 1) := by decide +kernel
theorem dX2_stepX_47 : decode cX2_stepX 47 = .ok (.iaload, 1) := by decide +kernel
theorem dX2_stepX_48 : decode cX2_stepX 48 = .ok (.isub, 1) := by decide +kernel
theorem dX2_stepX_49 : decode cX2_stepX 49 = .ok (.ireturn, 1) := by decide +kernel
abbrev kX2_stepX (g : rk_G) (R : rk_R) (pc : Nat) : rk_K := rk_cut g cX2_stepX 3 (some .int) RX2 0 R pc
abbrev aX2_stepX (g : rk_G) (R : rk_R) (pc : Nat) (K : rk_K) : Prop := rk_AK g cX2_stepX 3 (some .int) RX2 0 R pc K
abbrev sX2_stepX (g : rk_G) (vs : List Value) (σ : rk_M) (R : rk_R) : Prop := rk_does g yX2_stepX cX2_stepX 3 (some .int) 0 vs σ R
abbrev tX2_stepX (g : rk_G) (R : rk_R) (pc : Nat) (ls st : List Value) (σ : rk_M) : Prop := rk_At g cX2_stepX 3 (some .int) RX2 0 R pc ls st σ
def bX2_stepX_49 (g : rk_G) (R : rk_R) : rk_K := (rk_iret R)
theorem eX2_stepX_49 (g : rk_G) (R : rk_R) (ls st : List Value) (σ : rk_M) : bX2_stepX_49 g R ls st σ = (rk_iret R) ls st σ := rfl
theorem oX2_stepX_49 {g : rk_G} {R : rk_R} : aX2_stepX g R 49 (bX2_stepX_49 g R) := (rk_iret_ok rfl dX2_stepX_49)
def bX2_stepX_0 (g : rk_G) (R : rk_R) : rk_K := (rk_aload 0 (rk_gR 2 2 (rk_iload 1 (rk_iald (rk_iload 2 (rk_icmp_ne (rk_aload 0 (rk_gR 2 0 (rk_aload 0 (rk_gR 2 2 (rk_iload 1 (rk_iald (rk_iald (rk_aload 0 (rk_gR 2 0 (rk_iload 2 (rk_iald (rk_isub (bX2_stepX_49 g R))))))))))))) (rk_aload 0 (rk_gR 2 0 (rk_aload 0 (rk_gR 2 3 (rk_iload 1 (rk_iald (rk_iald (rk_aload 0 (rk_gR 2 0 (rk_iload 2 (rk_iald (rk_isub (bX2_stepX_49 g R)))))))))))))))))))
theorem eX2_stepX_0 (g : rk_G) (R : rk_R) (ls st : List Value) (σ : rk_M) : bX2_stepX_0 g R ls st σ = (rk_aload 0 (rk_gR 2 2 (rk_iload 1 (rk_iald (rk_iload 2 (rk_icmp_ne (rk_aload 0 (rk_gR 2 0 (rk_aload 0 (rk_gR 2 2 (rk_iload 1 (rk_iald (rk_iald (rk_aload 0 (rk_gR 2 0 (rk_iload 2 (rk_iald (rk_isub (bX2_stepX_49 g R))))))))))))) (rk_aload 0 (rk_gR 2 0 (rk_aload 0 (rk_gR 2 3 (rk_iload 1 (rk_iald (rk_iald (rk_aload 0 (rk_gR 2 0 (rk_iload 2 (rk_iald (rk_isub (bX2_stepX_49 g R))))))))))))))))))) ls st σ := rfl
theorem oX2_stepX_0 {g : rk_G} {R : rk_R} : aX2_stepX g R 0 (bX2_stepX_0 g R) := (rk_aload_n_ok dX2_stepX_0 rfl (rk_gR_ok dX2_stepX_1 rfl iX2 (by decide) rfl wfX2_18 (rk_iload_n_ok dX2_stepX_4 rfl (rk_iald_ok dX2_stepX_5 (rk_iload_n_ok dX2_stepX_6 rfl (rk_icmp_ne_ok (pc' := 31) dX2_stepX_7 (by decide) (rk_aload_n_ok dX2_stepX_31 rfl (rk_gR_ok dX2_stepX_32 rfl iX2 (by decide) rfl wfX2_9 (rk_aload_n_ok dX2_stepX_35 rfl (rk_gR_ok dX2_stepX_36 rfl iX2 (by decide) rfl wfX2_18 (rk_iload_n_ok dX2_stepX_39 rfl (rk_iald_ok dX2_stepX_40 (rk_iald_ok dX2_stepX_41 (rk_aload_n_ok dX2_stepX_42 rfl (rk_gR_ok dX2_stepX_43 rfl iX2 (by decide) rfl wfX2_9 (rk_iload_n_ok dX2_stepX_46 rfl (rk_iald_ok dX2_stepX_47 (rk_isub_ok dX2_stepX_48 oX2_stepX_49)))))))))))) (rk_aload_n_ok dX2_stepX_10 rfl (rk_gR_ok dX2_stepX_11 rfl iX2 (by decide) rfl wfX2_9 (rk_aload_n_ok dX2_stepX_14 rfl (rk_gR_ok dX2_stepX_15 rfl iX2 (by decide) rfl wfX2_21 (rk_iload_n_ok dX2_stepX_18 rfl (rk_iald_ok dX2_stepX_19 (rk_iald_ok dX2_stepX_20 (rk_aload_n_ok dX2_stepX_21 rfl (rk_gR_ok dX2_stepX_22 rfl iX2 (by decide) rfl wfX2_9 (rk_iload_n_ok dX2_stepX_25 rfl (rk_iald_ok dX2_stepX_26 (rk_isub_ok dX2_stepX_27 (rk_goto_ok (pc' := 49) dX2_stepX_28 (by decide) oX2_stepX_49)))))))))))))))))))
theorem dX2_stepY_0 : decode cX2_stepY 0 = .ok (.aload_n 0, 1) := by decide +kernel
theorem dX2_stepY_1 : decode cX2_stepY 1 = .ok (.getfield 18, 3) := by decide +kernel
theorem dX2_stepY_4 : decode cX2_stepY 4 = .ok (.iload_n 1, 1) := by decide +kernel
theorem dX2_stepY_5 : decode cX2_stepY 5 = .ok (.iaload, 1) := by decide +kernel
theorem dX2_stepY_6 : decode cX2_stepY 6 = .ok (.iload_n 2, 1) := by decide +kernel
theorem dX2_stepY_7 : decode cX2_stepY 7 = .ok (.if_icmp .ne 24, 3) := by decide +kernel
theorem dX2_stepY_10 : decode cX2_stepY 10 = .ok (.aload_n 0, 1) := by decide +kernel
theorem dX2_stepY_11 : decode cX2_stepY 11 = .ok (.getfield 15, 3) := by decide +kernel
theorem dX2_stepY_14 : decode cX2_stepY 14 = .ok (.aload_n 0, 1) := by decide +kernel
theorem dX2_stepY_15 : decode cX2_stepY 15 = .ok (.getfield 21, 3) := by decide +kernel
theorem dX2_stepY_18 : decode cX2_stepY 18 = .ok (.iload_n 1, 1) := by decide +kernel
theorem dX2_stepY_19 : decode cX2_stepY 19 = .ok (.iaload, 1) := by decide +kernel
theorem dX2_stepY_20 : decode cX2_stepY 20 = .ok (.iaload, 1) := by decide +kernel
theorem dX2_stepY_21 : decode cX2_stepY 21 = .ok (.aload_n 0, 1) := by decide +kernel
theorem dX2_stepY_22 : decode cX2_stepY 22 = .ok (.getfield 15, 3) := by decide +kernel
theorem dX2_stepY_25 : decode cX2_stepY 25 = .ok (.iload_n 2, 1) := by decide +kernel
theorem dX2_stepY_26 : decode cX2_stepY 26 = .ok (.iaload, 1) := by decide +kernel
theorem dX2_stepY_27 : decode cX2_stepY 27 = .ok (.isub, 1) := by decide +kernel
theorem dX2_stepY_28 : decode cX2_stepY 28 = .ok (.goto 21, 3) := by decide +kernel
theorem dX2_stepY_31 : decode cX2_stepY 31 = .ok (.aload_n 0, 1) := by decide +kernel
theorem dX2_stepY_32 : decode cX2_stepY 32 = .ok (.getfield 15, 3) := by decide +kernel
theorem dX2_stepY_35 : decode cX2_stepY 35 = .ok (.aload_n 0, 1) := by decide +kernel
theorem dX2_stepY_36 : decode cX2_stepY 36 = .ok (.getfield 18, 3) := by decide +kernel
theorem dX2_stepY_39 : decode cX2_stepY 39 = .ok (.iload_n 1, 1) := by decide +kernel
theorem dX2_stepY_40 : decode cX2_stepY 40 = .ok (.iaload, 1) := by decide +kernel
theorem dX2_stepY_41 : decode cX2_stepY 41 = .ok (.iaload, 1) := by decide +kernel
theorem dX2_stepY_42 : decode cX2_stepY 42 = .ok (.aload_n 0, 1) := by decide +kernel
theorem dX2_stepY_43 : decode cX2_stepY 43 = .ok (.getfield 15, 3) := by decide +kernel
theorem dX2_stepY_46 : decode cX2_stepY 46 = .ok (.iload_n 2, 1) := by decide +kernel
theorem dX2_stepY_47 : decode cX2_stepY 47 = .ok (.iaload, 1) := by decide +kernel
theorem dX2_stepY_48 : decode cX2_stepY 48 = .ok (.isub, 1) := by decide +kernel
theorem dX2_stepY_49 : decode cX2_stepY 49 = .ok (.ireturn, 1) := by decide +kernel
abbrev kX2_stepY (g : rk_G) (R : rk_R) (pc : Nat) : rk_K := rk_cut g cX2_stepY 3 (some .int) RX2 0 R pc
abbrev aX2_stepY (g : rk_G) (R : rk_R) (pc : Nat) (K : rk_K) : Prop := rk_AK g cX2_stepY 3 (some .int) RX2 0 R pc K
abbrev sX2_stepY (g : rk_G) (vs : List Value) (σ : rk_M) (R : rk_R) : Prop := rk_does g yX2_stepY cX2_stepY 3 (some .int) 0 vs σ R
abbrev tX2_stepY (g : rk_G) (R : rk_R) (pc : Nat) (ls st : List Value) (σ : rk_M) : Prop := rk_At g cX2_stepY 3 (some .int) RX2 0 R pc ls st σ
def bX2_stepY_49 (g : rk_G) (R : rk_R) : rk_K := (rk_iret R)
theorem eX2_stepY_49 (g : rk_G) (R : rk_R) (ls st : List Value) (σ : rk_M) : bX2_stepY_49 g R ls st σ = (rk_iret R) ls st σ := rfl
theorem oX2_stepY_49 {g : rk_G} {R : rk_R} : aX2_stepY g R 49 (bX2_stepY_49 g R) := (rk_iret_ok rfl dX2_stepY_49)
def bX2_stepY_0 (g : rk_G) (R : rk_R) : rk_K := (rk_aload 0 (rk_gR 2 2 (rk_iload 1 (rk_iald (rk_iload 2 (rk_icmp_ne (rk_aload 0 (rk_gR 2 1 (rk_aload 0 (rk_gR 2 2 (rk_iload 1 (rk_iald (rk_iald (rk_aload 0 (rk_gR 2 1 (rk_iload 2 (rk_iald (rk_isub (bX2_stepY_49 g R))))))))))))) (rk_aload 0 (rk_gR 2 1 (rk_aload 0 (rk_gR 2 3 (rk_iload 1 (rk_iald (rk_iald (rk_aload 0 (rk_gR 2 1 (rk_iload 2 (rk_iald (rk_isub (bX2_stepY_49 g R)))))))))))))))))))
theorem eX2_stepY_0 (g : rk_G) (R : rk_R) (ls st : List Value) (σ : rk_M) : bX2_stepY_0 g R ls st σ = (rk_aload 0 (rk_gR 2 2 (rk_iload 1 (rk_iald (rk_iload 2 (rk_icmp_ne (rk_aload 0 (rk_gR 2 1 (rk_aload 0 (rk_gR 2 2 (rk_iload 1 (rk_iald (rk_iald (rk_aload 0 (rk_gR 2 1 (rk_iload 2 (rk_iald (rk_isub (bX2_stepY_49 g R))))))))))))) (rk_aload 0 (rk_gR 2 1 (rk_aload 0 (rk_gR 2 3 (rk_iload 1 (rk_iald (rk_iald (rk_aload 0 (rk_gR 2 1 (rk_iload 2 (rk_iald (rk_isub (bX2_stepY_49 g R))))))))))))))))))) ls st σ := rfl
theorem oX2_stepY_0 {g : rk_G} {R : rk_R} : aX2_stepY g R 0 (bX2_stepY_0 g R) := (rk_aload_n_ok dX2_stepY_0 rfl (rk_gR_ok dX2_stepY_1 rfl iX2 (by decide) rfl wfX2_18 (rk_iload_n_ok dX2_stepY_4 rfl (rk_iald_ok dX2_stepY_5 (rk_iload_n_ok dX2_stepY_6 rfl (rk_icmp_ne_ok (pc' := 31) dX2_stepY_7 (by decide) (rk_aload_n_ok dX2_stepY_31 rfl (rk_gR_ok dX2_stepY_32 rfl iX2 (by decide) rfl wfX2_15 (rk_aload_n_ok dX2_stepY_35 rfl (rk_gR_ok dX2_stepY_36 rfl iX2 (by decide) rfl wfX2_18 (rk_iload_n_ok dX2_stepY_39 rfl (rk_iald_ok dX2_stepY_40 (rk_iald_ok dX2_stepY_41 (rk_aload_n_ok dX2_stepY_42 rfl (rk_gR_ok dX2_stepY_43 rfl iX2 (by decide) rfl wfX2_15 (rk_iload_n_ok dX2_stepY_46 rfl (rk_iald_ok dX2_stepY_47 (rk_isub_ok dX2_stepY_48 oX2_stepY_49)))))))))))) (rk_aload_n_ok dX2_stepY_10 rfl (rk_gR_ok dX2_stepY_11 rfl iX2 (by decide) rfl wfX2_15 (rk_aload_n_ok dX2_stepY_14 rfl (rk_gR_ok dX2_stepY_15 rfl iX2 (by decide) rfl wfX2_21 (rk_iload_n_ok dX2_stepY_18 rfl (rk_iald_ok dX2_stepY_19 (rk_iald_ok dX2_stepY_20 (rk_aload_n_ok dX2_stepY_21 rfl (rk_gR_ok dX2_stepY_22 rfl iX2 (by decide) rfl wfX2_15 (rk_iload_n_ok dX2_stepY_25 rfl (rk_iald_ok dX2_stepY_26 (rk_isub_ok dX2_stepY_27 (rk_goto_ok (pc' := 49) dX2_stepY_28 (by decide) oX2_stepY_49)))))))))))))))))))
theorem dX2_allRoads_0 : decode cX2_allRoads 0 = .ok (.iconst 1, 1) := by decide +kernel
theorem dX2_allRoads_1 : decode cX2_allRoads 1 = .ok (.aload_n 0, 1) := by decide +kernel
theorem dX2_allRoads_2 : decode cX2_allRoads 2 = .ok (.getfield 37, 3) := by decide +kernel
theorem dX2_allRoads_5 : decode cX2_allRoads 5 = .ok (.ishl, 1) := by decide +kernel
theorem dX2_allRoads_6 : decode cX2_allRoads 6 = .ok (.iconst 1, 1) := by decide +kernel
theorem dX2_allRoads_7 : decode cX2_allRoads 7 = .ok (.isub, 1) := by decide +kernel
theorem dX2_allRoads_8 : decode cX2_allRoads 8 = .ok (.ireturn, 1) := by decide +kernel
abbrev kX2_allRoads (g : rk_G) (R : rk_R) (pc : Nat) : rk_K := rk_cut g cX2_allRoads 1 (some .int) RX2 0 R pc
abbrev aX2_allRoads (g : rk_G) (R : rk_R) (pc : Nat) (K : rk_K) : Prop := rk_AK g cX2_allRoads 1 (some .int) RX2 0 R pc K
abbrev sX2_allRoads (g : rk_G) (vs : List Value) (σ : rk_M) (R : rk_R) : Prop := rk_does g yX2_allRoads cX2_allRoads 1 (some .int) 0 vs σ R
abbrev tX2_allRoads (g : rk_G) (R : rk_R) (pc : Nat) (ls st : List Value) (σ : rk_M) : Prop := rk_At g cX2_allRoads 1 (some .int) RX2 0 R pc ls st σ
def bX2_allRoads_0 (g : rk_G) (R : rk_R) : rk_K := (rk_ci (1) (rk_aload 0 (rk_gI 2 8 (rk_ishl (rk_ci (1) (rk_isub (rk_iret R)))))))
theorem eX2_allRoads_0 (g : rk_G) (R : rk_R) (ls st : List Value) (σ : rk_M) : bX2_allRoads_0 g R ls st σ = (rk_ci (1) (rk_aload 0 (rk_gI 2 8 (rk_ishl (rk_ci (1) (rk_isub (rk_iret R))))))) ls st σ := rfl
theorem oX2_allRoads_0 {g : rk_G} {R : rk_R} : aX2_allRoads g R 0 (bX2_allRoads_0 g R) := (rk_iconst_ok dX2_allRoads_0 (by decide) (rk_aload_n_ok dX2_allRoads_1 rfl (rk_gI_ok dX2_allRoads_2 rfl iX2 (by decide) rfl wfX2_37 (rk_ishl_ok dX2_allRoads_5 (rk_iconst_ok dX2_allRoads_6 (by decide) (rk_isub_ok dX2_allRoads_7 (rk_iret_ok rfl dX2_allRoads_8)))))))
theorem dX2_worthOf_0 : decode cX2_worthOf 0 = .ok (.aload_n 0, 1) := by decide +kernel
theorem dX2_worthOf_1 : decode cX2_worthOf 1 = .ok (.getfield 24, 3) := by decide +kernel
theorem dX2_worthOf_4 : decode cX2_worthOf 4 = .ok (.iload_n 1, 1) := by decide +kernel
theorem dX2_worthOf_5 : decode cX2_worthOf 5 = .ok (.iaload, 1) := by decide +kernel
theorem dX2_worthOf_6 : decode cX2_worthOf 6 = .ok (.lookupswitch 42 #[(0, 26), (1, 33)], 26) := by decide +kernel
theorem dX2_worthOf_32 : decode cX2_worthOf 32 = .ok (.iload_n 2, 1) := by decide +kernel
theorem dX2_worthOf_33 : decode cX2_worthOf 33 = .ok (.iconst 1, 1) := by decide +kernel
theorem dX2_worthOf_34 : decode cX2_worthOf 34 = .ok (.iadd, 1) := by decide +kernel
theorem dX2_worthOf_35 : decode cX2_worthOf 35 = .ok (.istore_n 3, 1) := by decide +kernel
theorem dX2_worthOf_36 : decode cX2_worthOf 36 = .ok (.goto 17, 3) := by decide +kernel
theorem dX2_worthOf_39 : decode cX2_worthOf 39 = .ok (.iconst 2, 1) := by decide +kernel
theorem dX2_worthOf_40 : decode cX2_worthOf 40 = .ok (.iload_n 2, 1) := by decide +kernel
theorem dX2_worthOf_41 : decode cX2_worthOf 41 = .ok (.iconst 1, 1) := by decide +kernel
theorem dX2_worthOf_42 : decode cX2_worthOf 42 = .ok (.iadd, 1) := by decide +kernel
theorem dX2_worthOf_43 : decode cX2_worthOf 43 = .ok (.imul, 1) := by decide +kernel
theorem dX2_worthOf_44 : decode cX2_worthOf 44 = .ok (.istore_n 3, 1) := by decide +kernel
theorem dX2_worthOf_45 : decode cX2_worthOf 45 = .ok (.goto 8, 3) := by decide +kernel
theorem dX2_worthOf_48 : decode cX2_worthOf 48 = .ok (.iload_n 2, 1) := by decide +kernel
theorem dX2_worthOf_49 : decode cX2_worthOf 49 = .ok (.bipush 12, 2) := by decide +kernel
theorem dX2_worthOf_51 : decode cX2_worthOf 51 = .ok (.iadd, 1) := by decide +kernel
theorem dX2_worthOf_52 : decode cX2_worthOf 52 = .ok (.istore_n 3, 1) := by decide +kernel
theorem dX2_worthOf_53 : decode cX2_worthOf 53 = .ok (.aload_n 0, 1) := by decide +kernel
theorem dX2_worthOf_54 : decode cX2_worthOf 54 = .ok (.getfield 30, 3) := by decide +kernel
theorem dX2_worthOf_57 : decode cX2_worthOf 57 = .ok (.iload_n 1, 1) := by decide +kernel
theorem dX2_worthOf_58 : decode cX2_worthOf 58 = .ok (.iaload, 1) := by decide +kernel
theorem dX2_worthOf_59 : decode cX2_worthOf 59 = .ok (.iload_n 3, 1) := by decide +kernel
theorem dX2_worthOf_60 : decode cX2_worthOf 60 = .ok (.imul, 1) := by decide +kernel
theorem dX2_worthOf_61 : decode cX2_worthOf 61 = .ok (.ireturn, 1) := by decide +kernel
abbrev kX2_worthOf (g : rk_G) (R : rk_R) (pc : Nat) : rk_K := rk_cut g cX2_worthOf 4 (some .int) RX2 0 R pc
abbrev aX2_worthOf (g : rk_G) (R : rk_R) (pc : Nat) (K : rk_K) : Prop := rk_AK g cX2_worthOf 4 (some .int) RX2 0 R pc K
abbrev sX2_worthOf (g : rk_G) (vs : List Value) (σ : rk_M) (R : rk_R) : Prop := rk_does g yX2_worthOf cX2_worthOf 4 (some .int) 0 vs σ R
abbrev tX2_worthOf (g : rk_G) (R : rk_R) (pc : Nat) (ls st : List Value) (σ : rk_M) : Prop := rk_At g cX2_worthOf 4 (some .int) RX2 0 R pc ls st σ
def bX2_worthOf_53 (g : rk_G) (R : rk_R) : rk_K := (rk_aload 0 (rk_gR 2 6 (rk_iload 1 (rk_iald (rk_iload 3 (rk_imul (rk_iret R)))))))
theorem eX2_worthOf_53 (g : rk_G) (R : rk_R) (ls st : List Value) (σ : rk_M) : bX2_worthOf_53 g R ls st σ = (rk_aload 0 (rk_gR 2 6 (rk_iload 1 (rk_iald (rk_iload 3 (rk_imul (rk_iret R))))))) ls st σ := rfl
theorem oX2_worthOf_53 {g : rk_G} {R : rk_R} : aX2_worthOf g R 53 (bX2_worthOf_53 g R) := (rk_aload_n_ok dX2_worthOf_53 rfl (rk_gR_ok dX2_worthOf_54 rfl iX2 (by decide) rfl wfX2_30 (rk_iload_n_ok dX2_worthOf_57 rfl (rk_iald_ok dX2_worthOf_58 (rk_iload_n_ok dX2_worthOf_59 rfl (rk_imul_ok dX2_worthOf_60 (rk_iret_ok rfl dX2_worthOf_61)))))))
def bX2_worthOf_0 (g : rk_G) (R : rk_R) : rk_K := (rk_aload 0 (rk_gR 2 4 (rk_iload 1 (rk_iald (rk_sw01 (rk_iload 2 (rk_ci (1) (rk_iadd (rk_istore 3 (bX2_worthOf_53 g R))))) (rk_ci (2) (rk_iload 2 (rk_ci (1) (rk_iadd (rk_imul (rk_istore 3 (bX2_worthOf_53 g R))))))) (rk_iload 2 (rk_ci (12) (rk_iadd (rk_istore 3 (bX2_worthOf_53 g R))))))))))
theorem eX2_worthOf_0 (g : rk_G) (R : rk_R) (ls st : List Value) (σ : rk_M) : bX2_worthOf_0 g R ls st σ = (rk_aload 0 (rk_gR 2 4 (rk_iload 1 (rk_iald (rk_sw01 (rk_iload 2 (rk_ci (1) (rk_iadd (rk_istore 3 (bX2_worthOf_53 g R))))) (rk_ci (2) (rk_iload 2 (rk_ci (1) (rk_iadd (rk_imul (rk_istore 3 (bX2_worthOf_53 g R))))))) (rk_iload 2 (rk_ci (12) (rk_iadd (rk_istore 3 (bX2_worthOf_53 g R)))))))))) ls st σ := rfl
theorem oX2_worthOf_0 {g : rk_G} {R : rk_R} : aX2_worthOf g R 0 (bX2_worthOf_0 g R) := (rk_aload_n_ok dX2_worthOf_0 rfl (rk_gR_ok dX2_worthOf_1 rfl iX2 (by decide) rfl wfX2_24 (rk_iload_n_ok dX2_worthOf_4 rfl (rk_iald_ok dX2_worthOf_5 (rk_sw01_ok (p0 := 32) (p1 := 39) (pc' := 48) dX2_worthOf_6 (by decide) (by decide) (by decide) (rk_iload_n_ok dX2_worthOf_32 rfl (rk_iconst_ok dX2_worthOf_33 (by decide) (rk_iadd_ok dX2_worthOf_34 (rk_istore_n_ok dX2_worthOf_35 rfl (by decide) (rk_goto_ok (pc' := 53) dX2_worthOf_36 (by decide) oX2_worthOf_53))))) (rk_iconst_ok dX2_worthOf_39 (by decide) (rk_iload_n_ok dX2_worthOf_40 rfl (rk_iconst_ok dX2_worthOf_41 (by decide) (rk_iadd_ok dX2_worthOf_42 (rk_imul_ok dX2_worthOf_43 (rk_istore_n_ok dX2_worthOf_44 rfl (by decide) (rk_goto_ok (pc' := 53) dX2_worthOf_45 (by decide) oX2_worthOf_53))))))) (rk_iload_n_ok dX2_worthOf_48 rfl (rk_bipush_ok dX2_worthOf_49 (by decide) (rk_iadd_ok dX2_worthOf_51 (rk_istore_n_ok dX2_worthOf_52 rfl (by decide) oX2_worthOf_53)))))))))
theorem dX2_isTaken_0 : decode cX2_isTaken 0 = .ok (.iconst 0, 1) := by decide +kernel
theorem dX2_isTaken_1 : decode cX2_isTaken 1 = .ok (.istore_n 3, 1) := by decide +kernel
theorem dX2_isTaken_2 : decode cX2_isTaken 2 = .ok (.iload_n 3, 1) := by decide +kernel
theorem dX2_isTaken_3 : decode cX2_isTaken 3 = .ok (.aload_n 0, 1) := by decide +kernel
theorem dX2_isTaken_4 : decode cX2_isTaken 4 = .ok (.getfield 33, 3) := by decide +kernel
theorem dX2_isTaken_7 : decode cX2_isTaken 7 = .ok (.if_icmp .ge 31, 3) := by decide +kernel
theorem dX2_isTaken_10 : decode cX2_isTaken 10 = .ok (.aload_n 0, 1) := by decide +kernel
theorem dX2_isTaken_11 : decode cX2_isTaken 11 = .ok (.getfield 9, 3) := by decide +kernel
theorem dX2_isTaken_14 : decode cX2_isTaken 14 = .ok (.iload_n 3, 1) := by decide +kernel
theorem dX2_isTaken_15 : decode cX2_isTaken 15 = .ok (.iaload, 1) := by decide +kernel
theorem dX2_isTaken_16 : decode cX2_isTaken 16 = .ok (.iload_n 1, 1) := by decide +kernel
theorem dX2_isTaken_17 : decode cX2_isTaken 17 = .ok (.if_icmp .ne 15, 3) := by decide +kernel
theorem dX2_isTaken_20 : decode cX2_isTaken 20 = .ok (.aload_n 0, 1) := by decide +kernel
theorem dX2_isTaken_21 : decode cX2_isTaken 21 = .ok (.getfield 15, 3) := by decide +kernel
theorem dX2_isTaken_24 : decode cX2_isTaken 24 = .ok (.iload_n 3, 1) := by decide +kernel
theorem dX2_isTaken_25 : decode cX2_isTaken 25 = .ok (.iaload, 1) := by decide +kernel
theorem dX2_isTaken_26 : decode cX2_isTaken 26 = .ok (.iload_n 2, 1) := by decide +kernel
theorem dX2_isTaken_27 : decode cX2_isTaken 27 = .ok (.if_icmp .ne 5, 3) := by decide +kernel
theorem dX2_isTaken_30 : decode cX2_isTaken 30 = .ok (.iconst 1, 1) := by decide +kernel
theorem dX2_isTaken_31 : decode cX2_isTaken 31 = .ok (.ireturn, 1) := by decide +kernel
theorem dX2_isTaken_32 : decode cX2_isTaken 32 = .ok (.iinc 3 1, 3) := by decide +kernel
theorem dX2_isTaken_35 : decode cX2_isTaken 35 = .ok (.goto (-33), 3) := by decide +kernel
theorem dX2_isTaken_38 : decode cX2_isTaken 38 = .ok (.iconst 0, 1) := by decide +kernel
theorem dX2_isTaken_39 : decode cX2_isTaken 39 = .ok (.ireturn, 1) := by decide +kernel
abbrev kX2_isTaken (g : rk_G) (R : rk_R) (pc : Nat) : rk_K := rk_cut g cX2_isTaken 4 (some .boolean) RX2 0 R pc
abbrev aX2_isTaken (g : rk_G) (R : rk_R) (pc : Nat) (K : rk_K) : Prop := rk_AK g cX2_isTaken 4 (some .boolean) RX2 0 R pc K
abbrev sX2_isTaken (g : rk_G) (vs : List Value) (σ : rk_M) (R : rk_R) : Prop := rk_does g yX2_isTaken cX2_isTaken 4 (some .boolean) 0 vs σ R
abbrev tX2_isTaken (g : rk_G) (R : rk_R) (pc : Nat) (ls st : List Value) (σ : rk_M) : Prop := rk_At g cX2_isTaken 4 (some .boolean) RX2 0 R pc ls st σ
def bX2_isTaken_32 (g : rk_G) (R : rk_R) : rk_K := (rk_iinc 3 (1) (kX2_isTaken g R 2))
theorem eX2_isTaken_32 (g : rk_G) (R : rk_R) (ls st : List Value) (σ : rk_M) : bX2_isTaken_32 g R ls st σ = (rk_iinc 3 (1) (kX2_isTaken g R 2)) ls st σ := rfl
theorem oX2_isTaken_32 {g : rk_G} {R : rk_R} : aX2_isTaken g R 32 (bX2_isTaken_32 g R) := (rk_iinc_ok dX2_isTaken_32 (by decide) (by decide) (rk_goto_ok (pc' := 2) dX2_isTaken_35 (by decide) rk_cut_ok))
def bX2_isTaken_2 (g : rk_G) (R : rk_R) : rk_K := (rk_iload 3 (rk_aload 0 (rk_gI 2 7 (rk_icmp_ge (rk_ci (0) (rk_zret R)) (rk_aload 0 (rk_gR 2 0 (rk_iload 3 (rk_iald (rk_iload 1 (rk_icmp_ne (bX2_isTaken_32 g R) (rk_aload 0 (rk_gR 2 1 (rk_iload 3 (rk_iald (rk_iload 2 (rk_icmp_ne (bX2_isTaken_32 g R) (rk_ci (1) (rk_zret R))))))))))))))))))
theorem eX2_isTaken_2 (g : rk_G) (R : rk_R) (ls st : List Value) (σ : rk_M) : bX2_isTaken_2 g R ls st σ = (rk_iload 3 (rk_aload 0 (rk_gI 2 7 (rk_icmp_ge (rk_ci (0) (rk_zret R)) (rk_aload 0 (rk_gR 2 0 (rk_iload 3 (rk_iald (rk_iload 1 (rk_icmp_ne (bX2_isTaken_32 g R) (rk_aload 0 (rk_gR 2 1 (rk_iload 3 (rk_iald (rk_iload 2 (rk_icmp_ne (bX2_isTaken_32 g R) (rk_ci (1) (rk_zret R)))))))))))))))))) ls st σ := rfl
theorem oX2_isTaken_2 {g : rk_G} {R : rk_R} : aX2_isTaken g R 2 (bX2_isTaken_2 g R) := (rk_iload_n_ok dX2_isTaken_2 rfl (rk_aload_n_ok dX2_isTaken_3 rfl (rk_gI_ok dX2_isTaken_4 rfl iX2 (by decide) rfl wfX2_33 (rk_icmp_ge_ok (pc' := 38) dX2_isTaken_7 (by decide) (rk_iconst_ok dX2_isTaken_38 (by decide) (rk_zret_ok rfl dX2_isTaken_39)) (rk_aload_n_ok dX2_isTaken_10 rfl (rk_gR_ok dX2_isTaken_11 rfl iX2 (by decide) rfl wfX2_9 (rk_iload_n_ok dX2_isTaken_14 rfl (rk_iald_ok dX2_isTaken_15 (rk_iload_n_ok dX2_isTaken_16 rfl (rk_icmp_ne_ok (pc' := 32) dX2_isTaken_17 (by decide) oX2_isTaken_32 (rk_aload_n_ok dX2_isTaken_20 rfl (rk_gR_ok dX2_isTaken_21 rfl iX2 (by decide) rfl wfX2_15 (rk_iload_n_ok dX2_isTaken_24 rfl (rk_iald_ok dX2_isTaken_25 (rk_iload_n_ok dX2_isTaken_26 rfl (rk_icmp_ne_ok (pc' := 32) dX2_isTaken_27 (by decide) oX2_isTaken_32 (rk_iconst_ok dX2_isTaken_30 (by decide) (rk_zret_ok rfl dX2_isTaken_31))))))))))))))))))
def bX2_isTaken_0 (g : rk_G) (R : rk_R) : rk_K := (rk_ci (0) (rk_istore 3 (kX2_isTaken g R 2)))
theorem eX2_isTaken_0 (g : rk_G) (R : rk_R) (ls st : List Value) (σ : rk_M) : bX2_isTaken_0 g R ls st σ = (rk_ci (0) (rk_istore 3 (kX2_isTaken g R 2))) ls st σ := rfl
theorem oX2_isTaken_0 {g : rk_G} {R : rk_R} : aX2_isTaken g R 0 (bX2_isTaken_0 g R) := (rk_iconst_ok dX2_isTaken_0 (by decide) (rk_istore_n_ok dX2_isTaken_1 rfl (by decide) rk_cut_ok))
theorem dX3_begin_0 : decode cX3_begin 0 = .ok (.aload_n 0, 1) := by decide +kernel
theorem dX3_begin_1 : decode cX3_begin 1 = .ok (.iload_n 1, 1) := by decide +kernel
theorem dX3_begin_2 : decode cX3_begin 2 = .ok (.putfield 15, 3) := by decide +kernel
theorem dX3_begin_5 : decode cX3_begin 5 = .ok (.aload_n 0, 1) := by decide +kernel
theorem dX3_begin_6 : decode cX3_begin 6 = .ok (.iload_n 2, 1) := by decide +kernel
theorem dX3_begin_7 : decode cX3_begin 7 = .ok (.putfield 19, 3) := by decide +kernel
theorem dX3_begin_10 : decode cX3_begin 10 = .ok (.iconst 0, 1) := by decide +kernel
theorem dX3_begin_11 : decode cX3_begin 11 = .ok (.istore_n 3, 1) := by decide +kernel
theorem dX3_begin_12 : decode cX3_begin 12 = .ok (.iload_n 3, 1) := by decide +kernel
theorem dX3_begin_13 : decode cX3_begin 13 = .ok (.bipush 60, 2) := by decide +kernel
theorem dX3_begin_15 : decode cX3_begin 15 = .ok (.if_icmp .ge 16, 3) := by decide +kernel
theorem dX3_begin_18 : decode cX3_begin 18 = .ok (.aload_n 0, 1) := by decide +kernel
theorem dX3_begin_19 : decode cX3_begin 19 = .ok (.getfield 9, 3) := by decide +kernel
theorem dX3_begin_22 : decode cX3_begin 22 = .ok (.iload_n 3, 1) := by decide +kernel
theorem dX3_begin_23 : decode cX3_begin 23 = .ok (.iconst 0, 1) := by decide +kernel
theorem dX3_begin_24 : decode cX3_begin 24 = .ok (.iastore, 1) := by decide +kernel
theorem dX3_begin_25 : decode cX3_begin 25 = .ok (.iinc 3 1, 3) := by decide +kernel
theorem dX3_begin_28 : decode cX3_begin 28 = .ok (.goto (-16), 3) := by decide +kernel
theorem dX3_begin_31 : decode cX3_begin 31 = .ok (.return_, 1) := by decide +kernel
abbrev kX3_begin (g : rk_G) (R : rk_R) (pc : Nat) : rk_K := rk_cut g cX3_begin 4 none RX3 0 R pc
abbrev aX3_begin (g : rk_G) (R : rk_R) (pc : Nat) (K : rk_K) : Prop := rk_AK g cX3_begin 4 none RX3 0 R pc K
abbrev sX3_begin (g : rk_G) (vs : List Value) (σ : rk_M) (R : rk_R) : Prop := rk_does g yX3_begin cX3_begin 4 none 0 vs σ R
abbrev tX3_begin (g : rk_G) (R : rk_R) (pc : Nat) (ls st : List Value) (σ : rk_M) : Prop := rk_At g cX3_begin 4 none RX3 0 R pc ls st σ
def bX3_begin_12 (g : rk_G) (R : rk_R) : rk_K := (rk_iload 3 (rk_ci (60) (rk_icmp_ge (rk_vret R) (rk_aload 0 (rk_gR 3 0 (rk_iload 3 (rk_ci (0) (rk_iast (rk_iinc 3 (1) (kX3_begin g R 12))))))))))
theorem eX3_begin_12 (g : rk_G) (R : rk_R) (ls st : List Value) (σ : rk_M) : bX3_begin_12 g R ls st σ = (rk_iload 3 (rk_ci (60) (rk_icmp_ge (rk_vret R) (rk_aload 0 (rk_gR 3 0 (rk_iload 3 (rk_ci (0) (rk_iast (rk_iinc 3 (1) (kX3_begin g R 12)))))))))) ls st σ := rfl
theorem oX3_begin_12 {g : rk_G} {R : rk_R} : aX3_begin g R 12 (bX3_begin_12 g R) := (rk_iload_n_ok dX3_begin_12 rfl (rk_bipush_ok dX3_begin_13 (by decide) (rk_icmp_ge_ok (pc' := 31) dX3_begin_15 (by decide) (rk_vret_ok rfl dX3_begin_31) (rk_aload_n_ok dX3_begin_18 rfl (rk_gR_ok dX3_begin_19 rfl iX3 (by decide) rfl wfX3_9 (rk_iload_n_ok dX3_begin_22 rfl (rk_iconst_ok dX3_begin_23 (by decide) (rk_iast_ok dX3_begin_24 (rk_iinc_ok dX3_begin_25 (by decide) (by decide) (rk_goto_ok (pc' := 12) dX3_begin_28 (by decide) rk_cut_ok))))))))))
def bX3_begin_0 (g : rk_G) (R : rk_R) : rk_K := (rk_aload 0 (rk_iload 1 (rk_pI 3 1 (rk_aload 0 (rk_iload 2 (rk_pI 3 2 (rk_ci (0) (rk_istore 3 (kX3_begin g R 12)))))))))
theorem eX3_begin_0 (g : rk_G) (R : rk_R) (ls st : List Value) (σ : rk_M) : bX3_begin_0 g R ls st σ = (rk_aload 0 (rk_iload 1 (rk_pI 3 1 (rk_aload 0 (rk_iload 2 (rk_pI 3 2 (rk_ci (0) (rk_istore 3 (kX3_begin g R 12))))))))) ls st σ := rfl
theorem oX3_begin_0 {g : rk_G} {R : rk_R} : aX3_begin g R 0 (bX3_begin_0 g R) := (rk_aload_n_ok dX3_begin_0 rfl (rk_iload_n_ok dX3_begin_1 rfl (rk_pI_ok dX3_begin_2 rfl iX3 tyX3_ok nmX3 (by decide) rfl rfl (by decide +kernel) wfX3_15 (rk_aload_n_ok dX3_begin_5 rfl (rk_iload_n_ok dX3_begin_6 rfl (rk_pI_ok dX3_begin_7 rfl iX3 tyX3_ok nmX3 (by decide) rfl rfl (by decide +kernel) wfX3_19 (rk_iconst_ok dX3_begin_10 (by decide) (rk_istore_n_ok dX3_begin_11 rfl (by decide) rk_cut_ok))))))))
theorem dX3_end_0 : decode cX3_end 0 = .ok (.aload_n 0, 1) := by decide +kernel
theorem dX3_end_1 : decode cX3_end 1 = .ok (.iconst (-1), 1) := by decide +kernel
theorem dX3_end_2 : decode cX3_end 2 = .ok (.putfield 15, 3) := by decide +kernel
theorem dX3_end_5 : decode cX3_end 5 = .ok (.aload_n 0, 1) := by decide +kernel
theorem dX3_end_6 : decode cX3_end 6 = .ok (.iconst 0, 1) := by decide +kernel
theorem dX3_end_7 : decode cX3_end 7 = .ok (.putfield 19, 3) := by decide +kernel
theorem dX3_end_10 : decode cX3_end 10 = .ok (.return_, 1) := by decide +kernel
abbrev kX3_end (g : rk_G) (R : rk_R) (pc : Nat) : rk_K := rk_cut g cX3_end 1 none RX3 0 R pc
abbrev aX3_end (g : rk_G) (R : rk_R) (pc : Nat) (K : rk_K) : Prop := rk_AK g cX3_end 1 none RX3 0 R pc K
abbrev sX3_end (g : rk_G) (vs : List Value) (σ : rk_M) (R : rk_R) : Prop := rk_does g yX3_end cX3_end 1 none 0 vs σ R
abbrev tX3_end (g : rk_G) (R : rk_R) (pc : Nat) (ls st : List Value) (σ : rk_M) : Prop := rk_At g cX3_end 1 none RX3 0 R pc ls st σ
def bX3_end_0 (g : rk_G) (R : rk_R) : rk_K := (rk_aload 0 (rk_ci (-1) (rk_pI 3 1 (rk_aload 0 (rk_ci (0) (rk_pI 3 2 (rk_vret R)))))))
theorem eX3_end_0 (g : rk_G) (R : rk_R) (ls st : List Value) (σ : rk_M) : bX3_end_0 g R ls st σ = (rk_aload 0 (rk_ci (-1) (rk_pI 3 1 (rk_aload 0 (rk_ci (0) (rk_pI 3 2 (rk_vret R))))))) ls st σ := rfl
theorem oX3_end_0 {g : rk_G} {R : rk_R} : aX3_end g R 0 (bX3_end_0 g R) := (rk_aload_n_ok dX3_end_0 rfl (rk_iconst_ok dX3_end_1 (by decide) (rk_pI_ok dX3_end_2 rfl iX3 tyX3_ok nmX3 (by decide) rfl rfl (by decide +kernel) wfX3_15 (rk_aload_n_ok dX3_end_5 rfl (rk_iconst_ok dX3_end_6 (by decide) (rk_pI_ok dX3_end_7 rfl iX3 tyX3_ok nmX3 (by decide) rfl rfl (by decide +kernel) wfX3_19 (rk_vret_ok rfl dX3_end_10)))))))
theorem dX3_isLost_0 : decode cX3_isLost 0 = .ok (.aload_n 0, 1) := by decide +kernel
theorem dX3_isLost_1 : decode cX3_isLost 1 = .ok (.getfield 15, 3) := by decide +kernel
theorem dX3_isLost_4 : decode cX3_isLost 4 = .ok (.iconst (-1), 1) := by decide +kernel
theorem dX3_isLost_5 : decode cX3_isLost 5 = .ok (.if_icmp .ne 7, 3) := by decide +kernel
theorem dX3_isLost_8 : decode cX3_isLost 8 = .ok (.iconst 1, 1) := by decide +kernel
theorem dX3_isLost_9 : decode cX3_isLost 9 = .ok (.goto 4, 3) := by decide +kernel
theorem dX3_isLost_12 : decode cX3_isLost 12 = .ok (.iconst 0, 1) := by decide +kernel
theorem dX3_isLost_13 : decode cX3_isLost 13 = .ok (.ireturn, 1) := by decide +kernel
abbrev kX3_isLost (g : rk_G) (R : rk_R) (pc : Nat) : rk_K := rk_cut g cX3_isLost 1 (some .boolean) RX3 0 R pc
abbrev aX3_isLost (g : rk_G) (R : rk_R) (pc : Nat) (K : rk_K) : Prop := rk_AK g cX3_isLost 1 (some .boolean) RX3 0 R pc K
abbrev sX3_isLost (g : rk_G) (vs : List Value) (σ : rk_M) (R : rk_R) : Prop := rk_does g yX3_isLost cX3_isLost 1 (some .boolean) 0 vs σ R
abbrev tX3_isLost (g : rk_G) (R : rk_R) (pc : Nat) (ls st : List Value) (σ : rk_M) : Prop := rk_At g cX3_isLost 1 (some .boolean) RX3 0 R pc ls st σ
def bX3_isLost_13 (g : rk_G) (R : rk_R) : rk_K := (rk_zret R)
theorem eX3_isLost_13 (g : rk_G) (R : rk_R) (ls st : List Value) (σ : rk_M) : bX3_isLost_13 g R ls st σ = (rk_zret R) ls st σ := rfl
theorem oX3_isLost_13 {g : rk_G} {R : rk_R} : aX3_isLost g R 13 (bX3_isLost_13 g R) := (rk_zret_ok rfl dX3_isLost_13)
def bX3_isLost_0 (g : rk_G) (R : rk_R) : rk_K := (rk_aload 0 (rk_gI 3 1 (rk_ci (-1) (rk_icmp_ne (rk_ci (0) (bX3_isLost_13 g R)) (rk_ci (1) (bX3_isLost_13 g R))))))
theorem eX3_isLost_0 (g : rk_G) (R : rk_R) (ls st : List Value) (σ : rk_M) : bX3_isLost_0 g R ls st σ = (rk_aload 0 (rk_gI 3 1 (rk_ci (-1) (rk_icmp_ne (rk_ci (0) (bX3_isLost_13 g R)) (rk_ci (1) (bX3_isLost_13 g R)))))) ls st σ := rfl
theorem oX3_isLost_0 {g : rk_G} {R : rk_R} : aX3_isLost g R 0 (bX3_isLost_0 g R) := (rk_aload_n_ok dX3_isLost_0 rfl (rk_gI_ok dX3_isLost_1 rfl iX3 (by decide) rfl wfX3_15 (rk_iconst_ok dX3_isLost_4 (by decide) (rk_icmp_ne_ok (pc' := 12) dX3_isLost_5 (by decide) (rk_iconst_ok dX3_isLost_12 (by decide) oX3_isLost_13) (rk_iconst_ok dX3_isLost_8 (by decide) (rk_goto_ok (pc' := 13) dX3_isLost_9 (by decide) oX3_isLost_13))))))
theorem dX3_hasItems_0 : decode cX3_hasItems 0 = .ok (.iload_n 1, 1) := by decide +kernel
theorem dX3_hasItems_1 : decode cX3_hasItems 1 = .ok (.ifCond .lt 21, 3) := by decide +kernel
theorem dX3_hasItems_4 : decode cX3_hasItems 4 = .ok (.iload_n 2, 1) := by decide +kernel
theorem dX3_hasItems_5 : decode cX3_hasItems 5 = .ok (.ifCond .lt 17, 3) := by decide +kernel
theorem dX3_hasItems_8 : decode cX3_hasItems 8 = .ok (.iload_n 1, 1) := by decide +kernel
theorem dX3_hasItems_9 : decode cX3_hasItems 9 = .ok (.aload_n 0, 1) := by decide +kernel
theorem dX3_hasItems_10 : decode cX3_hasItems 10 = .ok (.getfield 19, 3) := by decide +kernel
theorem dX3_hasItems_13 : decode cX3_hasItems 13 = .ok (.iload_n 2, 1) := by decide +kernel
theorem dX3_hasItems_14 : decode cX3_hasItems 14 = .ok (.isub, 1) := by decide +kernel
theorem dX3_hasItems_15 : decode cX3_hasItems 15 = .ok (.if_icmp .gt 7, 3) := by decide +kernel
theorem dX3_hasItems_18 : decode cX3_hasItems 18 = .ok (.iconst 1, 1) := by decide +kernel
theorem dX3_hasItems_19 : decode cX3_hasItems 19 = .ok (.goto 4, 3) := by decide +kernel
theorem dX3_hasItems_22 : decode cX3_hasItems 22 = .ok (.iconst 0, 1) := by decide +kernel
theorem dX3_hasItems_23 : decode cX3_hasItems 23 = .ok (.ireturn, 1) := by decide +kernel
abbrev kX3_hasItems (g : rk_G) (R : rk_R) (pc : Nat) : rk_K := rk_cut g cX3_hasItems 3 (some .boolean) RX3 0 R pc
abbrev aX3_hasItems (g : rk_G) (R : rk_R) (pc : Nat) (K : rk_K) : Prop := rk_AK g cX3_hasItems 3 (some .boolean) RX3 0 R pc K
abbrev sX3_hasItems (g : rk_G) (vs : List Value) (σ : rk_M) (R : rk_R) : Prop := rk_does g yX3_hasItems cX3_hasItems 3 (some .boolean) 0 vs σ R
abbrev tX3_hasItems (g : rk_G) (R : rk_R) (pc : Nat) (ls st : List Value) (σ : rk_M) : Prop := rk_At g cX3_hasItems 3 (some .boolean) RX3 0 R pc ls st σ
def bX3_hasItems_23 (g : rk_G) (R : rk_R) : rk_K := (rk_zret R)
theorem eX3_hasItems_23 (g : rk_G) (R : rk_R) (ls st : List Value) (σ : rk_M) : bX3_hasItems_23 g R ls st σ = (rk_zret R) ls st σ := rfl
theorem oX3_hasItems_23 {g : rk_G} {R : rk_R} : aX3_hasItems g R 23 (bX3_hasItems_23 g R) := (rk_zret_ok rfl dX3_hasItems_23)
def bX3_hasItems_22 (g : rk_G) (R : rk_R) : rk_K := (rk_ci (0) (bX3_hasItems_23 g R))
theorem eX3_hasItems_22 (g : rk_G) (R : rk_R) (ls st : List Value) (σ : rk_M) : bX3_hasItems_22 g R ls st σ = (rk_ci (0) (bX3_hasItems_23 g R)) ls st σ := rfl
theorem oX3_hasItems_22 {g : rk_G} {R : rk_R} : aX3_hasItems g R 22 (bX3_hasItems_22 g R) := (rk_iconst_ok dX3_hasItems_22 (by decide) oX3_hasItems_23)
def bX3_hasItems_0 (g : rk_G) (R : rk_R) : rk_K := (rk_iload 1 (rk_if_lt (bX3_hasItems_22 g R) (rk_iload 2 (rk_if_lt (bX3_hasItems_22 g R) (rk_iload 1 (rk_aload 0 (rk_gI 3 2 (rk_iload 2 (rk_isub (rk_icmp_gt (bX3_hasItems_22 g R) (rk_ci (1) (bX3_hasItems_23 g R))))))))))))
theorem eX3_hasItems_0 (g : rk_G) (R : rk_R) (ls st : List Value) (σ : rk_M) : bX3_hasItems_0 g R ls st σ = (rk_iload 1 (rk_if_lt (bX3_hasItems_22 g R) (rk_iload 2 (rk_if_lt (bX3_hasItems_22 g R) (rk_iload 1 (rk_aload 0 (rk_gI 3 2 (rk_iload 2 (rk_isub (rk_icmp_gt (bX3_hasItems_22 g R) (rk_ci (1) (bX3_hasItems_23 g R)))))))))))) ls st σ := rfl
theorem oX3_hasItems_0 {g : rk_G} {R : rk_R} : aX3_hasItems g R 0 (bX3_hasItems_0 g R) := (rk_iload_n_ok dX3_hasItems_0 rfl (rk_if_lt_ok (pc' := 22) dX3_hasItems_1 (by decide) oX3_hasItems_22 (rk_iload_n_ok dX3_hasItems_4 rfl (rk_if_lt_ok (pc' := 22) dX3_hasItems_5 (by decide) oX3_hasItems_22 (rk_iload_n_ok dX3_hasItems_8 rfl (rk_aload_n_ok dX3_hasItems_9 rfl (rk_gI_ok dX3_hasItems_10 rfl iX3 (by decide) rfl wfX3_19 (rk_iload_n_ok dX3_hasItems_13 rfl (rk_isub_ok dX3_hasItems_14 (rk_icmp_gt_ok (pc' := 22) dX3_hasItems_15 (by decide) oX3_hasItems_22 (rk_iconst_ok dX3_hasItems_18 (by decide) (rk_goto_ok (pc' := 23) dX3_hasItems_19 (by decide) oX3_hasItems_23))))))))))))
theorem dX3_trimmed_0 : decode cX3_trimmed 0 = .ok (.aload_n 0, 1) := by decide +kernel
theorem dX3_trimmed_1 : decode cX3_trimmed 1 = .ok (.getfield 15, 3) := by decide +kernel
theorem dX3_trimmed_4 : decode cX3_trimmed 4 = .ok (.lookupswitch 34 #[(0, 28), (1, 31)], 28) := by decide +kernel
theorem dX3_trimmed_32 : decode cX3_trimmed 32 = .ok (.iload_n 1, 1) := by decide +kernel
theorem dX3_trimmed_33 : decode cX3_trimmed 33 = .ok (.i2b, 1) := by decide +kernel
theorem dX3_trimmed_34 : decode cX3_trimmed 34 = .ok (.ireturn, 1) := by decide +kernel
theorem dX3_trimmed_35 : decode cX3_trimmed 35 = .ok (.iload_n 1, 1) := by decide +kernel
theorem dX3_trimmed_36 : decode cX3_trimmed 36 = .ok (.i2s, 1) := by decide +kernel
theorem dX3_trimmed_37 : decode cX3_trimmed 37 = .ok (.ireturn, 1) := by decide +kernel
theorem dX3_trimmed_38 : decode cX3_trimmed 38 = .ok (.iload_n 1, 1) := by decide +kernel
theorem dX3_trimmed_39 : decode cX3_trimmed 39 = .ok (.ireturn, 1) := by decide +kernel
abbrev kX3_trimmed (g : rk_G) (R : rk_R) (pc : Nat) : rk_K := rk_cut g cX3_trimmed 2 (some .int) RX3 0 R pc
abbrev aX3_trimmed (g : rk_G) (R : rk_R) (pc : Nat) (K : rk_K) : Prop := rk_AK g cX3_trimmed 2 (some .int) RX3 0 R pc K
abbrev sX3_trimmed (g : rk_G) (vs : List Value) (σ : rk_M) (R : rk_R) : Prop := rk_does g yX3_trimmed cX3_trimmed 2 (some .int) 0 vs σ R
abbrev tX3_trimmed (g : rk_G) (R : rk_R) (pc : Nat) (ls st : List Value) (σ : rk_M) : Prop := rk_At g cX3_trimmed 2 (some .int) RX3 0 R pc ls st σ
def bX3_trimmed_0 (g : rk_G) (R : rk_R) : rk_K := (rk_aload 0 (rk_gI 3 1 (rk_sw01 (rk_iload 1 (rk_i2b (rk_iret R))) (rk_iload 1 (rk_i2s (rk_iret R))) (rk_iload 1 (rk_iret R)))))
theorem eX3_trimmed_0 (g : rk_G) (R : rk_R) (ls st : List Value) (σ : rk_M) : bX3_trimmed_0 g R ls st σ = (rk_aload 0 (rk_gI 3 1 (rk_sw01 (rk_iload 1 (rk_i2b (rk_iret R))) (rk_iload 1 (rk_i2s (rk_iret R))) (rk_iload 1 (rk_iret R))))) ls st σ := rfl
theorem oX3_trimmed_0 {g : rk_G} {R : rk_R} : aX3_trimmed g R 0 (bX3_trimmed_0 g R) := (rk_aload_n_ok dX3_trimmed_0 rfl (rk_gI_ok dX3_trimmed_1 rfl iX3 (by decide) rfl wfX3_15 (rk_sw01_ok (p0 := 32) (p1 := 35) (pc' := 38) dX3_trimmed_4 (by decide) (by decide) (by decide) (rk_iload_n_ok dX3_trimmed_32 rfl (rk_i2b_ok dX3_trimmed_33 (rk_iret_ok rfl dX3_trimmed_34))) (rk_iload_n_ok dX3_trimmed_35 rfl (rk_i2s_ok dX3_trimmed_36 (rk_iret_ok rfl dX3_trimmed_37))) (rk_iload_n_ok dX3_trimmed_38 rfl (rk_iret_ok rfl dX3_trimmed_39)))))
theorem dX4_has_0 : decode cX4_has 0 = .ok (.iload_n 1, 1) := by decide +kernel
theorem dX4_has_1 : decode cX4_has 1 = .ok (.ifCond .lt 15, 3) := by decide +kernel
theorem dX4_has_4 : decode cX4_has 4 = .ok (.iload_n 1, 1) := by decide +kernel
theorem dX4_has_5 : decode cX4_has 5 = .ok (.aload_n 0, 1) := by decide +kernel
theorem dX4_has_6 : decode cX4_has 6 = .ok (.getfield 45, 3) := by decide +kernel
theorem dX4_has_9 : decode cX4_has 9 = .ok (.if_icmp .ge 7, 3) := by decide +kernel
theorem dX4_has_12 : decode cX4_has 12 = .ok (.iconst 1, 1) := by decide +kernel
theorem dX4_has_13 : decode cX4_has 13 = .ok (.goto 4, 3) := by decide +kernel
theorem dX4_has_16 : decode cX4_has 16 = .ok (.iconst 0, 1) := by decide +kernel
theorem dX4_has_17 : decode cX4_has 17 = .ok (.ireturn, 1) := by decide +kernel
abbrev kX4_has (g : rk_G) (R : rk_R) (pc : Nat) : rk_K := rk_cut g cX4_has 2 (some .boolean) RX4 0 R pc
abbrev aX4_has (g : rk_G) (R : rk_R) (pc : Nat) (K : rk_K) : Prop := rk_AK g cX4_has 2 (some .boolean) RX4 0 R pc K
abbrev sX4_has (g : rk_G) (vs : List Value) (σ : rk_M) (R : rk_R) : Prop := rk_does g yX4_has cX4_has 2 (some .boolean) 0 vs σ R
abbrev tX4_has (g : rk_G) (R : rk_R) (pc : Nat) (ls st : List Value) (σ : rk_M) : Prop := rk_At g cX4_has 2 (some .boolean) RX4 0 R pc ls st σ
def bX4_has_17 (g : rk_G) (R : rk_R) : rk_K := (rk_zret R)
theorem eX4_has_17 (g : rk_G) (R : rk_R) (ls st : List Value) (σ : rk_M) : bX4_has_17 g R ls st σ = (rk_zret R) ls st σ := rfl
theorem oX4_has_17 {g : rk_G} {R : rk_R} : aX4_has g R 17 (bX4_has_17 g R) := (rk_zret_ok rfl dX4_has_17)
def bX4_has_16 (g : rk_G) (R : rk_R) : rk_K := (rk_ci (0) (bX4_has_17 g R))
theorem eX4_has_16 (g : rk_G) (R : rk_R) (ls st : List Value) (σ : rk_M) : bX4_has_16 g R ls st σ = (rk_ci (0) (bX4_has_17 g R)) ls st σ := rfl
theorem oX4_has_16 {g : rk_G} {R : rk_R} : aX4_has g R 16 (bX4_has_16 g R) := (rk_iconst_ok dX4_has_16 (by decide) oX4_has_17)
def bX4_has_0 (g : rk_G) (R : rk_R) : rk_K := (rk_iload 1 (rk_if_lt (bX4_has_16 g R) (rk_iload 1 (rk_aload 0 (rk_gI 4 11 (rk_icmp_ge (bX4_has_16 g R) (rk_ci (1) (bX4_has_17 g R))))))))
theorem eX4_has_0 (g : rk_G) (R : rk_R) (ls st : List Value) (σ : rk_M) : bX4_has_0 g R ls st σ = (rk_iload 1 (rk_if_lt (bX4_has_16 g R) (rk_iload 1 (rk_aload 0 (rk_gI 4 11 (rk_icmp_ge (bX4_has_16 g R) (rk_ci (1) (bX4_has_17 g R)))))))) ls st σ := rfl
theorem oX4_has_0 {g : rk_G} {R : rk_R} : aX4_has g R 0 (bX4_has_0 g R) := (rk_iload_n_ok dX4_has_0 rfl (rk_if_lt_ok (pc' := 16) dX4_has_1 (by decide) oX4_has_16 (rk_iload_n_ok dX4_has_4 rfl (rk_aload_n_ok dX4_has_5 rfl (rk_gI_ok dX4_has_6 rfl iX4 (by decide) rfl wfX4_45 (rk_icmp_ge_ok (pc' := 16) dX4_has_9 (by decide) oX4_has_16 (rk_iconst_ok dX4_has_12 (by decide) (rk_goto_ok (pc' := 17) dX4_has_13 (by decide) oX4_has_17))))))))
theorem dX4_isClosed_0 : decode cX4_isClosed 0 = .ok (.aload_n 0, 1) := by decide +kernel
theorem dX4_isClosed_1 : decode cX4_isClosed 1 = .ok (.getfield 27, 3) := by decide +kernel
theorem dX4_isClosed_4 : decode cX4_isClosed 4 = .ok (.iload_n 1, 1) := by decide +kernel
theorem dX4_isClosed_5 : decode cX4_isClosed 5 = .ok (.iaload, 1) := by decide +kernel
theorem dX4_isClosed_6 : decode cX4_isClosed 6 = .ok (.ifCond .ne 7, 3) := by decide +kernel
theorem dX4_isClosed_9 : decode cX4_isClosed 9 = .ok (.iconst 1, 1) := by decide +kernel
theorem dX4_isClosed_10 : decode cX4_isClosed 10 = .ok (.goto 4, 3) := by decide +kernel
theorem dX4_isClosed_13 : decode cX4_isClosed 13 = .ok (.iconst 0, 1) := by decide +kernel
theorem dX4_isClosed_14 : decode cX4_isClosed 14 = .ok (.ireturn, 1) := by decide +kernel
abbrev kX4_isClosed (g : rk_G) (R : rk_R) (pc : Nat) : rk_K := rk_cut g cX4_isClosed 2 (some .boolean) RX4 0 R pc
abbrev aX4_isClosed (g : rk_G) (R : rk_R) (pc : Nat) (K : rk_K) : Prop := rk_AK g cX4_isClosed 2 (some .boolean) RX4 0 R pc K
abbrev sX4_isClosed (g : rk_G) (vs : List Value) (σ : rk_M) (R : rk_R) : Prop := rk_does g yX4_isClosed cX4_isClosed 2 (some .boolean) 0 vs σ R
abbrev tX4_isClosed (g : rk_G) (R : rk_R) (pc : Nat) (ls st : List Value) (σ : rk_M) : Prop := rk_At g cX4_isClosed 2 (some .boolean) RX4 0 R pc ls st σ
def bX4_isClosed_14 (g : rk_G) (R : rk_R) : rk_K := (rk_zret R)
theorem eX4_isClosed_14 (g : rk_G) (R : rk_R) (ls st : List Value) (σ : rk_M) : bX4_isClosed_14 g R ls st σ = (rk_zret R) ls st σ := rfl
theorem oX4_isClosed_14 {g : rk_G} {R : rk_R} : aX4_isClosed g R 14 (bX4_isClosed_14 g R) := (rk_zret_ok rfl dX4_isClosed_14)
def bX4_isClosed_0 (g : rk_G) (R : rk_R) : rk_K := (rk_aload 0 (rk_gR 4 5 (rk_iload 1 (rk_iald (rk_if_ne (rk_ci (0) (bX4_isClosed_14 g R)) (rk_ci (1) (bX4_isClosed_14 g R)))))))
theorem eX4_isClosed_0 (g : rk_G) (R : rk_R) (ls st : List Value) (σ : rk_M) : bX4_isClosed_0 g R ls st σ = (rk_aload 0 (rk_gR 4 5 (rk_iload 1 (rk_iald (rk_if_ne (rk_ci (0) (bX4_isClosed_14 g R)) (rk_ci (1) (bX4_isClosed_14 g R))))))) ls st σ := rfl
theorem oX4_isClosed_0 {g : rk_G} {R : rk_R} : aX4_isClosed g R 0 (bX4_isClosed_0 g R) := (rk_aload_n_ok dX4_isClosed_0 rfl (rk_gR_ok dX4_isClosed_1 rfl iX4 (by decide) rfl wfX4_27 (rk_iload_n_ok dX4_isClosed_4 rfl (rk_iald_ok dX4_isClosed_5 (rk_if_ne_ok (pc' := 13) dX4_isClosed_6 (by decide) (rk_iconst_ok dX4_isClosed_13 (by decide) oX4_isClosed_14) (rk_iconst_ok dX4_isClosed_9 (by decide) (rk_goto_ok (pc' := 14) dX4_isClosed_10 (by decide) oX4_isClosed_14)))))))
theorem dX4_all_0 : decode cX4_all 0 = .ok (.iconst 1, 1) := by decide +kernel
theorem dX4_all_1 : decode cX4_all 1 = .ok (.aload_n 0, 1) := by decide +kernel
theorem dX4_all_2 : decode cX4_all 2 = .ok (.getfield 45, 3) := by decide +kernel
theorem dX4_all_5 : decode cX4_all 5 = .ok (.ishl, 1) := by decide +kernel
theorem dX4_all_6 : decode cX4_all 6 = .ok (.iconst 1, 1) := by decide +kernel
theorem dX4_all_7 : decode cX4_all 7 = .ok (.isub, 1) := by decide +kernel
theorem dX4_all_8 : decode cX4_all 8 = .ok (.ireturn, 1) := by decide +kernel
abbrev kX4_all (g : rk_G) (R : rk_R) (pc : Nat) : rk_K := rk_cut g cX4_all 1 (some .int) RX4 0 R pc
abbrev aX4_all (g : rk_G) (R : rk_R) (pc : Nat) (K : rk_K) : Prop := rk_AK g cX4_all 1 (some .int) RX4 0 R pc K
abbrev sX4_all (g : rk_G) (vs : List Value) (σ : rk_M) (R : rk_R) : Prop := rk_does g yX4_all cX4_all 1 (some .int) 0 vs σ R
abbrev tX4_all (g : rk_G) (R : rk_R) (pc : Nat) (ls st : List Value) (σ : rk_M) : Prop := rk_At g cX4_all 1 (some .int) RX4 0 R pc ls st σ
def bX4_all_0 (g : rk_G) (R : rk_R) : rk_K := (rk_ci (1) (rk_aload 0 (rk_gI 4 11 (rk_ishl (rk_ci (1) (rk_isub (rk_iret R)))))))
theorem eX4_all_0 (g : rk_G) (R : rk_R) (ls st : List Value) (σ : rk_M) : bX4_all_0 g R ls st σ = (rk_ci (1) (rk_aload 0 (rk_gI 4 11 (rk_ishl (rk_ci (1) (rk_isub (rk_iret R))))))) ls st σ := rfl
theorem oX4_all_0 {g : rk_G} {R : rk_R} : aX4_all g R 0 (bX4_all_0 g R) := (rk_iconst_ok dX4_all_0 (by decide) (rk_aload_n_ok dX4_all_1 rfl (rk_gI_ok dX4_all_2 rfl iX4 (by decide) rfl wfX4_45 (rk_ishl_ok dX4_all_5 (rk_iconst_ok dX4_all_6 (by decide) (rk_isub_ok dX4_all_7 (rk_iret_ok rfl dX4_all_8)))))))
theorem dX4_firstRanks_0 : decode cX4_firstRanks 0 = .ok (.iconst 0, 1) := by decide +kernel
theorem dX4_firstRanks_1 : decode cX4_firstRanks 1 = .ok (.istore_n 2, 1) := by decide +kernel
theorem dX4_firstRanks_2 : decode cX4_firstRanks 2 = .ok (.iconst 0, 1) := by decide +kernel
theorem dX4_firstRanks_3 : decode cX4_firstRanks 3 = .ok (.istore_n 3, 1) := by decide +kernel
theorem dX4_firstRanks_4 : decode cX4_firstRanks 4 = .ok (.iload_n 3, 1) := by decide +kernel
theorem dX4_firstRanks_5 : decode cX4_firstRanks 5 = .ok (.iload_n 1, 1) := by decide +kernel
theorem dX4_firstRanks_6 : decode cX4_firstRanks 6 = .ok (.if_icmp .ge 28, 3) := by decide +kernel
theorem dX4_firstRanks_9 : decode cX4_firstRanks 9 = .ok (.iload_n 3, 1) := by decide +kernel
theorem dX4_firstRanks_10 : decode cX4_firstRanks 10 = .ok (.aload_n 0, 1) := by decide +kernel
theorem dX4_firstRanks_11 : decode cX4_firstRanks 11 = .ok (.getfield 45, 3) := by decide +kernel
theorem dX4_firstRanks_14 : decode cX4_firstRanks 14 = .ok (.if_icmp .ge 20, 3) := by decide +kernel
theorem dX4_firstRanks_17 : decode cX4_firstRanks 17 = .ok (.iload_n 2, 1) := by decide +kernel
theorem dX4_firstRanks_18 : decode cX4_firstRanks 18 = .ok (.iconst 1, 1) := by decide +kernel
theorem dX4_firstRanks_19 : decode cX4_firstRanks 19 = .ok (.aload_n 0, 1) := by decide +kernel
theorem dX4_firstRanks_20 : decode cX4_firstRanks 20 = .ok (.getfield 33, 3) := by decide +kernel
theorem dX4_firstRanks_23 : decode cX4_firstRanks 23 = .ok (.iload_n 3, 1) := by decide +kernel
theorem dX4_firstRanks_24 : decode cX4_firstRanks 24 = .ok (.iaload, 1) := by decide +kernel
theorem dX4_firstRanks_25 : decode cX4_firstRanks 25 = .ok (.ishl, 1) := by decide +kernel
theorem dX4_firstRanks_26 : decode cX4_firstRanks 26 = .ok (.ior, 1) := by decide +kernel
theorem dX4_firstRanks_27 : decode cX4_firstRanks 27 = .ok (.istore_n 2, 1) := by decide +kernel
theorem dX4_firstRanks_28 : decode cX4_firstRanks 28 = .ok (.iinc 3 1, 3) := by decide +kernel
theorem dX4_firstRanks_31 : decode cX4_firstRanks 31 = .ok (.goto (-27), 3) := by decide +kernel
theorem dX4_firstRanks_34 : decode cX4_firstRanks 34 = .ok (.iload_n 2, 1) := by decide +kernel
theorem dX4_firstRanks_35 : decode cX4_firstRanks 35 = .ok (.ireturn, 1) := by decide +kernel
abbrev kX4_firstRanks (g : rk_G) (R : rk_R) (pc : Nat) : rk_K := rk_cut g cX4_firstRanks 4 (some .int) RX4 0 R pc
abbrev aX4_firstRanks (g : rk_G) (R : rk_R) (pc : Nat) (K : rk_K) : Prop := rk_AK g cX4_firstRanks 4 (some .int) RX4 0 R pc K
abbrev sX4_firstRanks (g : rk_G) (vs : List Value) (σ : rk_M) (R : rk_R) : Prop := rk_does g yX4_firstRanks cX4_firstRanks 4 (some .int) 0 vs σ R
abbrev tX4_firstRanks (g : rk_G) (R : rk_R) (pc : Nat) (ls st : List Value) (σ : rk_M) : Prop := rk_At g cX4_firstRanks 4 (some .int) RX4 0 R pc ls st σ
def bX4_firstRanks_34 (g : rk_G) (R : rk_R) : rk_K := (rk_iload 2 (rk_iret R))
theorem eX4_firstRanks_34 (g : rk_G) (R : rk_R) (ls st : List Value) (σ : rk_M) : bX4_firstRanks_34 g R ls st σ = (rk_iload 2 (rk_iret R)) ls st σ := rfl
theorem oX4_firstRanks_34 {g : rk_G} {R : rk_R} : aX4_firstRanks g R 34 (bX4_firstRanks_34 g R) := (rk_iload_n_ok dX4_firstRanks_34 rfl (rk_iret_ok rfl dX4_firstRanks_35))
def bX4_firstRanks_4 (g : rk_G) (R : rk_R) : rk_K := (rk_iload 3 (rk_iload 1 (rk_icmp_ge (bX4_firstRanks_34 g R) (rk_iload 3 (rk_aload 0 (rk_gI 4 11 (rk_icmp_ge (bX4_firstRanks_34 g R) (rk_iload 2 (rk_ci (1) (rk_aload 0 (rk_gR 4 7 (rk_iload 3 (rk_iald (rk_ishl (rk_ior (rk_istore 2 (rk_iinc 3 (1) (kX4_firstRanks g R 4))))))))))))))))))
theorem eX4_firstRanks_4 (g : rk_G) (R : rk_R) (ls st : List Value) (σ : rk_M) : bX4_firstRanks_4 g R ls st σ = (rk_iload 3 (rk_iload 1 (rk_icmp_ge (bX4_firstRanks_34 g R) (rk_iload 3 (rk_aload 0 (rk_gI 4 11 (rk_icmp_ge (bX4_firstRanks_34 g R) (rk_iload 2 (rk_ci (1) (rk_aload 0 (rk_gR 4 7 (rk_iload 3 (rk_iald (rk_ishl (rk_ior (rk_istore 2 (rk_iinc 3 (1) (kX4_firstRanks g R 4)))))))))))))))))) ls st σ := rfl
theorem oX4_firstRanks_4 {g : rk_G} {R : rk_R} : aX4_firstRanks g R 4 (bX4_firstRanks_4 g R) := (rk_iload_n_ok dX4_firstRanks_4 rfl (rk_iload_n_ok dX4_firstRanks_5 rfl (rk_icmp_ge_ok (pc' := 34) dX4_firstRanks_6 (by decide) oX4_firstRanks_34 (rk_iload_n_ok dX4_firstRanks_9 rfl (rk_aload_n_ok dX4_firstRanks_10 rfl (rk_gI_ok dX4_firstRanks_11 rfl iX4 (by decide) rfl wfX4_45 (rk_icmp_ge_ok (pc' := 34) dX4_firstRanks_14 (by decide) oX4_firstRanks_34 (rk_iload_n_ok dX4_firstRanks_17 rfl (rk_iconst_ok dX4_firstRanks_18 (by decide) (rk_aload_n_ok dX4_firstRanks_19 rfl (rk_gR_ok dX4_firstRanks_20 rfl iX4 (by decide) rfl wfX4_33 (rk_iload_n_ok dX4_firstRanks_23 rfl (rk_iald_ok dX4_firstRanks_24 (rk_ishl_ok dX4_firstRanks_25 (rk_ior_ok dX4_firstRanks_26 (rk_istore_n_ok dX4_firstRanks_27 rfl (by decide) (rk_iinc_ok dX4_firstRanks_28 (by decide) (by decide) (rk_goto_ok (pc' := 4) dX4_firstRanks_31 (by decide) rk_cut_ok))))))))))))))))))
def bX4_firstRanks_0 (g : rk_G) (R : rk_R) : rk_K := (rk_ci (0) (rk_istore 2 (rk_ci (0) (rk_istore 3 (kX4_firstRanks g R 4)))))
theorem eX4_firstRanks_0 (g : rk_G) (R : rk_R) (ls st : List Value) (σ : rk_M) : bX4_firstRanks_0 g R ls st σ = (rk_ci (0) (rk_istore 2 (rk_ci (0) (rk_istore 3 (kX4_firstRanks g R 4))))) ls st σ := rfl
theorem oX4_firstRanks_0 {g : rk_G} {R : rk_R} : aX4_firstRanks g R 0 (bX4_firstRanks_0 g R) := (rk_iconst_ok dX4_firstRanks_0 (by decide) (rk_istore_n_ok dX4_firstRanks_1 rfl (by decide) (rk_iconst_ok dX4_firstRanks_2 (by decide) (rk_istore_n_ok dX4_firstRanks_3 rfl (by decide) rk_cut_ok))))
theorem dX4_worthOfAll_0 : decode cX4_worthOfAll 0 = .ok (.aload_n 0, 1) := by decide +kernel
theorem dX4_worthOfAll_1 : decode cX4_worthOfAll 1 = .ok (.getfield 45, 3) := by decide +kernel
theorem dX4_worthOfAll_4 : decode cX4_worthOfAll 4 = .ok (.ifCond .ne 7, 3) := by decide +kernel
theorem dX4_worthOfAll_7 : decode cX4_worthOfAll 7 = .ok (.iconst 0, 1) := by decide +kernel
theorem dX4_worthOfAll_8 : decode cX4_worthOfAll 8 = .ok (.goto 14, 3) := by decide +kernel
theorem dX4_worthOfAll_11 : decode cX4_worthOfAll 11 = .ok (.aload_n 0, 1) := by decide +kernel
theorem dX4_worthOfAll_12 : decode cX4_worthOfAll 12 = .ok (.getfield 42, 3) := by decide +kernel
theorem dX4_worthOfAll_15 : decode cX4_worthOfAll 15 = .ok (.aload_n 0, 1) := by decide +kernel
theorem dX4_worthOfAll_16 : decode cX4_worthOfAll 16 = .ok (.getfield 45, 3) := by decide +kernel
theorem dX4_worthOfAll_19 : decode cX4_worthOfAll 19 = .ok (.iconst 1, 1) := by decide +kernel
theorem dX4_worthOfAll_20 : decode cX4_worthOfAll 20 = .ok (.isub, 1) := by decide +kernel
theorem dX4_worthOfAll_21 : decode cX4_worthOfAll 21 = .ok (.iaload, 1) := by decide +kernel
theorem dX4_worthOfAll_22 : decode cX4_worthOfAll 22 = .ok (.ireturn, 1) := by decide +kernel
abbrev kX4_worthOfAll (g : rk_G) (R : rk_R) (pc : Nat) : rk_K := rk_cut g cX4_worthOfAll 1 (some .int) RX4 0 R pc
abbrev aX4_worthOfAll (g : rk_G) (R : rk_R) (pc : Nat) (K : rk_K) : Prop := rk_AK g cX4_worthOfAll 1 (some .int) RX4 0 R pc K
abbrev sX4_worthOfAll (g : rk_G) (vs : List Value) (σ : rk_M) (R : rk_R) : Prop := rk_does g yX4_worthOfAll cX4_worthOfAll 1 (some .int) 0 vs σ R
abbrev tX4_worthOfAll (g : rk_G) (R : rk_R) (pc : Nat) (ls st : List Value) (σ : rk_M) : Prop := rk_At g cX4_worthOfAll 1 (some .int) RX4 0 R pc ls st σ
def bX4_worthOfAll_22 (g : rk_G) (R : rk_R) : rk_K := (rk_iret R)
theorem eX4_worthOfAll_22 (g : rk_G) (R : rk_R) (ls st : List Value) (σ : rk_M) : bX4_worthOfAll_22 g R ls st σ = (rk_iret R) ls st σ := rfl
theorem oX4_worthOfAll_22 {g : rk_G} {R : rk_R} : aX4_worthOfAll g R 22 (bX4_worthOfAll_22 g R) := (rk_iret_ok rfl dX4_worthOfAll_22)
def bX4_worthOfAll_0 (g : rk_G) (R : rk_R) : rk_K := (rk_aload 0 (rk_gI 4 11 (rk_if_ne (rk_aload 0 (rk_gR 4 10 (rk_aload 0 (rk_gI 4 11 (rk_ci (1) (rk_isub (rk_iald (bX4_worthOfAll_22 g R)))))))) (rk_ci (0) (bX4_worthOfAll_22 g R)))))
theorem eX4_worthOfAll_0 (g : rk_G) (R : rk_R) (ls st : List Value) (σ : rk_M) : bX4_worthOfAll_0 g R ls st σ = (rk_aload 0 (rk_gI 4 11 (rk_if_ne (rk_aload 0 (rk_gR 4 10 (rk_aload 0 (rk_gI 4 11 (rk_ci (1) (rk_isub (rk_iald (bX4_worthOfAll_22 g R)))))))) (rk_ci (0) (bX4_worthOfAll_22 g R))))) ls st σ := rfl
theorem oX4_worthOfAll_0 {g : rk_G} {R : rk_R} : aX4_worthOfAll g R 0 (bX4_worthOfAll_0 g R) := (rk_aload_n_ok dX4_worthOfAll_0 rfl (rk_gI_ok dX4_worthOfAll_1 rfl iX4 (by decide) rfl wfX4_45 (rk_if_ne_ok (pc' := 11) dX4_worthOfAll_4 (by decide) (rk_aload_n_ok dX4_worthOfAll_11 rfl (rk_gR_ok dX4_worthOfAll_12 rfl iX4 (by decide) rfl wfX4_42 (rk_aload_n_ok dX4_worthOfAll_15 rfl (rk_gI_ok dX4_worthOfAll_16 rfl iX4 (by decide) rfl wfX4_45 (rk_iconst_ok dX4_worthOfAll_19 (by decide) (rk_isub_ok dX4_worthOfAll_20 (rk_iald_ok dX4_worthOfAll_21 oX4_worthOfAll_22))))))) (rk_iconst_ok dX4_worthOfAll_7 (by decide) (rk_goto_ok (pc' := 22) dX4_worthOfAll_8 (by decide) oX4_worthOfAll_22)))))
theorem dX4_ofNet_0 : decode cX4_ofNet 0 = .ok (.iconst 0, 1) := by decide +kernel
theorem dX4_ofNet_1 : decode cX4_ofNet 1 = .ok (.istore_n 2, 1) := by decide +kernel
theorem dX4_ofNet_2 : decode cX4_ofNet 2 = .ok (.iconst 0, 1) := by decide +kernel
theorem dX4_ofNet_3 : decode cX4_ofNet 3 = .ok (.istore_n 3, 1) := by decide +kernel
theorem dX4_ofNet_4 : decode cX4_ofNet 4 = .ok (.iload_n 3, 1) := by decide +kernel
theorem dX4_ofNet_5 : decode cX4_ofNet 5 = .ok (.aload_n 0, 1) := by decide +kernel
theorem dX4_ofNet_6 : decode cX4_ofNet 6 = .ok (.getfield 45, 3) := by decide +kernel
theorem dX4_ofNet_9 : decode cX4_ofNet 9 = .ok (.if_icmp .ge 25, 3) := by decide +kernel
theorem dX4_ofNet_12 : decode cX4_ofNet 12 = .ok (.aload_n 0, 1) := by decide +kernel
theorem dX4_ofNet_13 : decode cX4_ofNet 13 = .ok (.getfield 39, 3) := by decide +kernel
theorem dX4_ofNet_16 : decode cX4_ofNet 16 = .ok (.iload_n 3, 1) := by decide +kernel
theorem dX4_ofNet_17 : decode cX4_ofNet 17 = .ok (.iaload, 1) := by decide +kernel
theorem dX4_ofNet_18 : decode cX4_ofNet 18 = .ok (.iload_n 1, 1) := by decide +kernel
theorem dX4_ofNet_19 : decode cX4_ofNet 19 = .ok (.if_icmp .ne 9, 3) := by decide +kernel
theorem dX4_ofNet_22 : decode cX4_ofNet 22 = .ok (.iload_n 2, 1) := by decide +kernel
theorem dX4_ofNet_23 : decode cX4_ofNet 23 = .ok (.iconst 1, 1) := by decide +kernel
theorem dX4_ofNet_24 : decode cX4_ofNet 24 = .ok (.iload_n 3, 1) := by decide +kernel
theorem dX4_ofNet_25 : decode cX4_ofNet 25 = .ok (.ishl, 1) := by decide +kernel
theorem dX4_ofNet_26 : decode cX4_ofNet 26 = .ok (.ior, 1) := by decide +kernel
theorem dX4_ofNet_27 : decode cX4_ofNet 27 = .ok (.istore_n 2, 1) := by decide +kernel
theorem dX4_ofNet_28 : decode cX4_ofNet 28 = .ok (.iinc 3 1, 3) := by decide +kernel
theorem dX4_ofNet_31 : decode cX4_ofNet 31 = .ok (.goto (-27), 3) := by decide +kernel
theorem dX4_ofNet_34 : decode cX4_ofNet 34 = .ok (.iload_n 2, 1) := by decide +kernel
theorem dX4_ofNet_35 : decode cX4_ofNet 35 = .ok (.ireturn, 1) := by decide +kernel
abbrev kX4_ofNet (g : rk_G) (R : rk_R) (pc : Nat) : rk_K := rk_cut g cX4_ofNet 4 (some .int) RX4 0 R pc
abbrev aX4_ofNet (g : rk_G) (R : rk_R) (pc : Nat) (K : rk_K) : Prop := rk_AK g cX4_ofNet 4 (some .int) RX4 0 R pc K
abbrev sX4_ofNet (g : rk_G) (vs : List Value) (σ : rk_M) (R : rk_R) : Prop := rk_does g yX4_ofNet cX4_ofNet 4 (some .int) 0 vs σ R
abbrev tX4_ofNet (g : rk_G) (R : rk_R) (pc : Nat) (ls st : List Value) (σ : rk_M) : Prop := rk_At g cX4_ofNet 4 (some .int) RX4 0 R pc ls st σ
def bX4_ofNet_28 (g : rk_G) (R : rk_R) : rk_K := (rk_iinc 3 (1) (kX4_ofNet g R 4))
theorem eX4_ofNet_28 (g : rk_G) (R : rk_R) (ls st : List Value) (σ : rk_M) : bX4_ofNet_28 g R ls st σ = (rk_iinc 3 (1) (kX4_ofNet g R 4)) ls st σ := rfl
theorem oX4_ofNet_28 {g : rk_G} {R : rk_R} : aX4_ofNet g R 28 (bX4_ofNet_28 g R) := (rk_iinc_ok dX4_ofNet_28 (by decide) (by decide) (rk_goto_ok (pc' := 4) dX4_ofNet_31 (by decide) rk_cut_ok))
def bX4_ofNet_4 (g : rk_G) (R : rk_R) : rk_K := (rk_iload 3 (rk_aload 0 (rk_gI 4 11 (rk_icmp_ge (rk_iload 2 (rk_iret R)) (rk_aload 0 (rk_gR 4 9 (rk_iload 3 (rk_iald (rk_iload 1 (rk_icmp_ne (bX4_ofNet_28 g R) (rk_iload 2 (rk_ci (1) (rk_iload 3 (rk_ishl (rk_ior (rk_istore 2 (bX4_ofNet_28 g R)))))))))))))))))
theorem eX4_ofNet_4 (g : rk_G) (R : rk_R) (ls st : List Value) (σ : rk_M) : bX4_ofNet_4 g R ls st σ = (rk_iload 3 (rk_aload 0 (rk_gI 4 11 (rk_icmp_ge (rk_iload 2 (rk_iret R)) (rk_aload 0 (rk_gR 4 9 (rk_iload 3 (rk_iald (rk_iload 1 (rk_icmp_ne (bX4_ofNet_28 g R) (rk_iload 2 (rk_ci (1) (rk_iload 3 (rk_ishl (rk_ior (rk_istore 2 (bX4_ofNet_28 g R))))))))))))))))) ls st σ := rfl
theorem oX4_ofNet_4 {g : rk_G} {R : rk_R} : aX4_ofNet g R 4 (bX4_ofNet_4 g R) := (rk_iload_n_ok dX4_ofNet_4 rfl (rk_aload_n_ok dX4_ofNet_5 rfl (rk_gI_ok dX4_ofNet_6 rfl iX4 (by decide) rfl wfX4_45 (rk_icmp_ge_ok (pc' := 34) dX4_ofNet_9 (by decide) (rk_iload_n_ok dX4_ofNet_34 rfl (rk_iret_ok rfl dX4_ofNet_35)) (rk_aload_n_ok dX4_ofNet_12 rfl (rk_gR_ok dX4_ofNet_13 rfl iX4 (by decide) rfl wfX4_39 (rk_iload_n_ok dX4_ofNet_16 rfl (rk_iald_ok dX4_ofNet_17 (rk_iload_n_ok dX4_ofNet_18 rfl (rk_icmp_ne_ok (pc' := 28) dX4_ofNet_19 (by decide) oX4_ofNet_28 (rk_iload_n_ok dX4_ofNet_22 rfl (rk_iconst_ok dX4_ofNet_23 (by decide) (rk_iload_n_ok dX4_ofNet_24 rfl (rk_ishl_ok dX4_ofNet_25 (rk_ior_ok dX4_ofNet_26 (rk_istore_n_ok dX4_ofNet_27 rfl (by decide) oX4_ofNet_28))))))))))))))))
def bX4_ofNet_0 (g : rk_G) (R : rk_R) : rk_K := (rk_ci (0) (rk_istore 2 (rk_ci (0) (rk_istore 3 (kX4_ofNet g R 4)))))
theorem eX4_ofNet_0 (g : rk_G) (R : rk_R) (ls st : List Value) (σ : rk_M) : bX4_ofNet_0 g R ls st σ = (rk_ci (0) (rk_istore 2 (rk_ci (0) (rk_istore 3 (kX4_ofNet g R 4))))) ls st σ := rfl
theorem oX4_ofNet_0 {g : rk_G} {R : rk_R} : aX4_ofNet g R 0 (bX4_ofNet_0 g R) := (rk_iconst_ok dX4_ofNet_0 (by decide) (rk_istore_n_ok dX4_ofNet_1 rfl (by decide) (rk_iconst_ok dX4_ofNet_2 (by decide) (rk_istore_n_ok dX4_ofNet_3 rfl (by decide) rk_cut_ok))))
theorem dX4_touching_0 : decode cX4_touching 0 = .ok (.iconst 0, 1) := by decide +kernel
theorem dX4_touching_1 : decode cX4_touching 1 = .ok (.istore_n 2, 1) := by decide +kernel
theorem dX4_touching_2 : decode cX4_touching 2 = .ok (.iconst 0, 1) := by decide +kernel
theorem dX4_touching_3 : decode cX4_touching 3 = .ok (.istore_n 3, 1) := by decide +kernel
theorem dX4_touching_4 : decode cX4_touching 4 = .ok (.iload_n 3, 1) := by decide +kernel
theorem dX4_touching_5 : decode cX4_touching 5 = .ok (.aload_n 0, 1) := by decide +kernel
theorem dX4_touching_6 : decode cX4_touching 6 = .ok (.getfield 45, 3) := by decide +kernel
theorem dX4_touching_9 : decode cX4_touching 9 = .ok (.if_icmp .ge 31, 3) := by decide +kernel
theorem dX4_touching_12 : decode cX4_touching 12 = .ok (.aload_n 0, 1) := by decide +kernel
theorem dX4_touching_13 : decode cX4_touching 13 = .ok (.getfield 24, 3) := by decide +kernel
theorem dX4_touching_16 : decode cX4_touching 16 = .ok (.iload_n 1, 1) := by decide +kernel
theorem dX4_touching_17 : decode cX4_touching 17 = .ok (.iaload, 1) := by decide +kernel
theorem dX4_touching_18 : decode cX4_touching 18 = .ok (.aload_n 0, 1) := by decide +kernel
theorem dX4_touching_19 : decode cX4_touching 19 = .ok (.getfield 24, 3) := by decide +kernel
theorem dX4_touching_22 : decode cX4_touching 22 = .ok (.iload_n 3, 1) := by decide +kernel
theorem dX4_touching_23 : decode cX4_touching 23 = .ok (.iaload, 1) := by decide +kernel
theorem dX4_touching_24 : decode cX4_touching 24 = .ok (.iand, 1) := by decide +kernel
theorem dX4_touching_25 : decode cX4_touching 25 = .ok (.ifCond .eq 9, 3) := by decide +kernel
theorem dX4_touching_28 : decode cX4_touching 28 = .ok (.iload_n 2, 1) := by decide +kernel
theorem dX4_touching_29 : decode cX4_touching 29 = .ok (.iconst 1, 1) := by decide +kernel
theorem dX4_touching_30 : decode cX4_touching 30 = .ok (.iload_n 3, 1) := by decide +kernel
theorem dX4_touching_31 : decode cX4_touching 31 = .ok (.ishl, 1) := by decide +kernel
theorem dX4_touching_32 : decode cX4_touching 32 = .ok (.ior, 1) := by decide +kernel
theorem dX4_touching_33 : decode cX4_touching 33 = .ok (.istore_n 2, 1) := by decide +kernel
theorem dX4_touching_34 : decode cX4_touching 34 = .ok (.iinc 3 1, 3) := by decide +kernel
theorem dX4_touching_37 : decode cX4_touching 37 = .ok (.goto (-33), 3) := by decide +kernel
theorem dX4_touching_40 : decode cX4_touching 40 = .ok (.iload_n 2, 1) := by decide +kernel
theorem dX4_touching_41 : decode cX4_touching 41 = .ok (.ireturn, 1) := by decide +kernel
abbrev kX4_touching (g : rk_G) (R : rk_R) (pc : Nat) : rk_K := rk_cut g cX4_touching 4 (some .int) RX4 0 R pc
abbrev aX4_touching (g : rk_G) (R : rk_R) (pc : Nat) (K : rk_K) : Prop := rk_AK g cX4_touching 4 (some .int) RX4 0 R pc K
abbrev sX4_touching (g : rk_G) (vs : List Value) (σ : rk_M) (R : rk_R) : Prop := rk_does g yX4_touching cX4_touching 4 (some .int) 0 vs σ R
abbrev tX4_touching (g : rk_G) (R : rk_R) (pc : Nat) (ls st : List Value) (σ : rk_M) : Prop := rk_At g cX4_touching 4 (some .int) RX4 0 R pc ls st σ
def bX4_touching_34 (g : rk_G) (R : rk_R) : rk_K := (rk_iinc 3 (1) (kX4_touching g R 4))
theorem eX4_touching_34 (g : rk_G) (R : rk_R) (ls st : List Value) (σ : rk_M) : bX4_touching_34 g R ls st σ = (rk_iinc 3 (1) (kX4_touching g R 4)) ls st σ := rfl
theorem oX4_touching_34 {g : rk_G} {R : rk_R} : aX4_touching g R 34 (bX4_touching_34 g R) := (rk_iinc_ok dX4_touching_34 (by decide) (by decide) (rk_goto_ok (pc' := 4) dX4_touching_37 (by decide) rk_cut_ok))
def bX4_touching_4 (g : rk_G) (R : rk_R) : rk_K := (rk_iload 3 (rk_aload 0 (rk_gI 4 11 (rk_icmp_ge (rk_iload 2 (rk_iret R)) (rk_aload 0 (rk_gR 4 4 (rk_iload 1 (rk_iald (rk_aload 0 (rk_gR 4 4 (rk_iload 3 (rk_iald (rk_iand (rk_if_eq (bX4_touching_34 g R) (rk_iload 2 (rk_ci (1) (rk_iload 3 (rk_ishl (rk_ior (rk_istore 2 (bX4_touching_34 g R)))))))))))))))))))))
theorem eX4_touching_4 (g : rk_G) (R : rk_R) (ls st : List Value) (σ : rk_M) : bX4_touching_4 g R ls st σ = (rk_iload 3 (rk_aload 0 (rk_gI 4 11 (rk_icmp_ge (rk_iload 2 (rk_iret R)) (rk_aload 0 (rk_gR 4 4 (rk_iload 1 (rk_iald (rk_aload 0 (rk_gR 4 4 (rk_iload 3 (rk_iald (rk_iand (rk_if_eq (bX4_touching_34 g R) (rk_iload 2 (rk_ci (1) (rk_iload 3 (rk_ishl (rk_ior (rk_istore 2 (bX4_touching_34 g R))))))))))))))))))))) ls st σ := rfl
theorem oX4_touching_4 {g : rk_G} {R : rk_R} : aX4_touching g R 4 (bX4_touching_4 g R) := (rk_iload_n_ok dX4_touching_4 rfl (rk_aload_n_ok dX4_touching_5 rfl (rk_gI_ok dX4_touching_6 rfl iX4 (by decide) rfl wfX4_45 (rk_icmp_ge_ok (pc' := 40) dX4_touching_9 (by decide) (rk_iload_n_ok dX4_touching_40 rfl (rk_iret_ok rfl dX4_touching_41)) (rk_aload_n_ok dX4_touching_12 rfl (rk_gR_ok dX4_touching_13 rfl iX4 (by decide) rfl wfX4_24 (rk_iload_n_ok dX4_touching_16 rfl (rk_iald_ok dX4_touching_17 (rk_aload_n_ok dX4_touching_18 rfl (rk_gR_ok dX4_touching_19 rfl iX4 (by decide) rfl wfX4_24 (rk_iload_n_ok dX4_touching_22 rfl (rk_iald_ok dX4_touching_23 (rk_iand_ok dX4_touching_24 (rk_if_eq_ok (pc' := 34) dX4_touching_25 (by decide) oX4_touching_34 (rk_iload_n_ok dX4_touching_28 rfl (rk_iconst_ok dX4_touching_29 (by decide) (rk_iload_n_ok dX4_touching_30 rfl (rk_ishl_ok dX4_touching_31 (rk_ior_ok dX4_touching_32 (rk_istore_n_ok dX4_touching_33 rfl (by decide) oX4_touching_34))))))))))))))))))))
def bX4_touching_0 (g : rk_G) (R : rk_R) : rk_K := (rk_ci (0) (rk_istore 2 (rk_ci (0) (rk_istore 3 (kX4_touching g R 4)))))
theorem eX4_touching_0 (g : rk_G) (R : rk_R) (ls st : List Value) (σ : rk_M) : bX4_touching_0 g R ls st σ = (rk_ci (0) (rk_istore 2 (rk_ci (0) (rk_istore 3 (kX4_touching g R 4))))) ls st σ := rfl
theorem oX4_touching_0 {g : rk_G} {R : rk_R} : aX4_touching g R 0 (bX4_touching_0 g R) := (rk_iconst_ok dX4_touching_0 (by decide) (rk_istore_n_ok dX4_touching_1 rfl (by decide) (rk_iconst_ok dX4_touching_2 (by decide) (rk_istore_n_ok dX4_touching_3 rfl (by decide) rk_cut_ok))))
