theorem dX7_isFree_0 : decode cX7_isFree 0 = .ok (.aload_n 0, 1) := by decide +kernel
theorem dX7_isFree_1 : decode cX7_isFree 1 = .ok (.iload_n 1, 1) := by decide +kernel
theorem dX7_isFree_2 : decode cX7_isFree 2 = .ok (.iload_n 2, 1) := by decide +kernel
theorem dX7_isFree_3 : decode cX7_isFree 3 = .ok (.invokevirtual 112, 3) := by decide +kernel
theorem dX7_isFree_6 : decode cX7_isFree 6 = .ok (.ifCond .eq 22, 3) := by decide +kernel
theorem dX7_isFree_9 : decode cX7_isFree 9 = .ok (.aload_n 0, 1) := by decide +kernel
theorem dX7_isFree_10 : decode cX7_isFree 10 = .ok (.getfield 28, 3) := by decide +kernel
theorem dX7_isFree_13 : decode cX7_isFree 13 = .ok (.aload_n 0, 1) := by decide +kernel
theorem dX7_isFree_14 : decode cX7_isFree 14 = .ok (.iload_n 1, 1) := by decide +kernel
theorem dX7_isFree_15 : decode cX7_isFree 15 = .ok (.iload_n 2, 1) := by decide +kernel
theorem dX7_isFree_16 : decode cX7_isFree 16 = .ok (.invokevirtual 141, 3) := by decide +kernel
theorem dX7_isFree_19 : decode cX7_isFree 19 = .ok (.iaload, 1) := by decide +kernel
theorem dX7_isFree_20 : decode cX7_isFree 20 = .ok (.iconst (-1), 1) := by decide +kernel
theorem dX7_isFree_21 : decode cX7_isFree 21 = .ok (.if_icmp .ne 7, 3) := by decide +kernel
theorem dX7_isFree_24 : decode cX7_isFree 24 = .ok (.iconst 1, 1) := by decide +kernel
theorem dX7_isFree_25 : decode cX7_isFree 25 = .ok (.goto 4, 3) := by decide +kernel
theorem dX7_isFree_28 : decode cX7_isFree 28 = .ok (.iconst 0, 1) := by decide +kernel
theorem dX7_isFree_29 : decode cX7_isFree 29 = .ok (.ireturn, 1) := by decide +kernel
abbrev kX7_isFree (g : rk_G) (R : rk_R) (pc : Nat) : rk_K := rk_cut g cX7_isFree 3 (some .boolean) RX7 1 R pc
abbrev aX7_isFree (g : rk_G) (R : rk_R) (pc : Nat) (K : rk_K) : Prop := rk_AK g cX7_isFree 3 (some .boolean) RX7 1 R pc K
abbrev sX7_isFree (g : rk_G) (vs : List Value) (σ : rk_M) (R : rk_R) : Prop := rk_does g yX7_isFree cX7_isFree 3 (some .boolean) 1 vs σ R
abbrev tX7_isFree (g : rk_G) (R : rk_R) (pc : Nat) (ls st : List Value) (σ : rk_M) : Prop := rk_At g cX7_isFree 3 (some .boolean) RX7 1 R pc ls st σ
def bX7_isFree_29 (g : rk_G) (R : rk_R) : rk_K := (rk_zret R)
theorem eX7_isFree_29 (g : rk_G) (R : rk_R) (ls st : List Value) (σ : rk_M) : bX7_isFree_29 g R ls st σ = (rk_zret R) ls st σ := rfl
theorem oX7_isFree_29 {g : rk_G} {R : rk_R} : aX7_isFree g R 29 (bX7_isFree_29 g R) := (rk_zret_ok rfl dX7_isFree_29)
def bX7_isFree_28 (g : rk_G) (R : rk_R) : rk_K := (rk_ci (0) (bX7_isFree_29 g R))
theorem eX7_isFree_28 (g : rk_G) (R : rk_R) (ls st : List Value) (σ : rk_M) : bX7_isFree_28 g R ls st σ = (rk_ci (0) (bX7_isFree_29 g R)) ls st σ := rfl
theorem oX7_isFree_28 {g : rk_G} {R : rk_R} : aX7_isFree g R 28 (bX7_isFree_28 g R) := (rk_iconst_ok dX7_isFree_28 (by decide) oX7_isFree_29)
def bX7_isFree_0 (g : rk_G) (R : rk_R) : rk_K := (rk_aload 0 (rk_iload 1 (rk_iload 2 (rk_cV g 2 7 yX7_isAt cX7_isAt 3 (some .boolean) 0 (rk_if_eq (bX7_isFree_28 g R) (rk_aload 0 (rk_gR 7 9 (rk_aload 0 (rk_iload 1 (rk_iload 2 (rk_cV g 2 7 yX7_endOf cX7_endOf 3 (some .int) 0 (rk_iald (rk_ci (-1) (rk_icmp_ne (bX7_isFree_28 g R) (rk_ci (1) (bX7_isFree_29 g R))))))))))))))))
theorem eX7_isFree_0 (g : rk_G) (R : rk_R) (ls st : List Value) (σ : rk_M) : bX7_isFree_0 g R ls st σ = (rk_aload 0 (rk_iload 1 (rk_iload 2 (rk_cV g 2 7 yX7_isAt cX7_isAt 3 (some .boolean) 0 (rk_if_eq (bX7_isFree_28 g R) (rk_aload 0 (rk_gR 7 9 (rk_aload 0 (rk_iload 1 (rk_iload 2 (rk_cV g 2 7 yX7_endOf cX7_endOf 3 (some .int) 0 (rk_iald (rk_ci (-1) (rk_icmp_ne (bX7_isFree_28 g R) (rk_ci (1) (bX7_isFree_29 g R)))))))))))))))) ls st σ := rfl
theorem oX7_isFree_0 {g : rk_G} {R : rk_R} : aX7_isFree g R 0 (bX7_isFree_0 g R) := (rk_aload_n_ok dX7_isFree_0 rfl (rk_iload_n_ok dX7_isFree_1 rfl (rk_iload_n_ok dX7_isFree_2 rfl (rk_cV_ok dX7_isFree_3 rfl rfl npX7_isAt wmX7_112 wvX7_isAt weX7_isAt wiX7 wdX7_isAt (by decide) (by decide) (rk_if_eq_ok (pc' := 28) dX7_isFree_6 (by decide) oX7_isFree_28 (rk_aload_n_ok dX7_isFree_9 rfl (rk_gR_ok dX7_isFree_10 rfl iX7 (by decide) rfl wfX7_28 (rk_aload_n_ok dX7_isFree_13 rfl (rk_iload_n_ok dX7_isFree_14 rfl (rk_iload_n_ok dX7_isFree_15 rfl (rk_cV_ok dX7_isFree_16 rfl rfl npX7_endOf wmX7_141 wvX7_endOf weX7_endOf wiX7 wdX7_endOf (by decide) (by decide) (rk_iald_ok dX7_isFree_19 (rk_iconst_ok dX7_isFree_20 (by decide) (rk_icmp_ne_ok (pc' := 28) dX7_isFree_21 (by decide) oX7_isFree_28 (rk_iconst_ok dX7_isFree_24 (by decide) (rk_goto_ok (pc' := 29) dX7_isFree_25 (by decide) oX7_isFree_29))))))))))))))))
theorem dX7_many_0 : decode cX7_many 0 = .ok (.iconst 0, 1) := by decide +kernel
theorem dX7_many_1 : decode cX7_many 1 = .ok (.istore_n 1, 1) := by decide +kernel
theorem dX7_many_2 : decode cX7_many 2 = .ok (.iconst 0, 1) := by decide +kernel
theorem dX7_many_3 : decode cX7_many 3 = .ok (.istore_n 2, 1) := by decide +kernel
theorem dX7_many_4 : decode cX7_many 4 = .ok (.iload_n 2, 1) := by decide +kernel
theorem dX7_many_5 : decode cX7_many 5 = .ok (.bipush 24, 2) := by decide +kernel
theorem dX7_many_7 : decode cX7_many 7 = .ok (.if_icmp .ge 25, 3) := by decide +kernel
theorem dX7_many_10 : decode cX7_many 10 = .ok (.iload_n 1, 1) := by decide +kernel
theorem dX7_many_11 : decode cX7_many 11 = .ok (.iload_n 0, 1) := by decide +kernel
theorem dX7_many_12 : decode cX7_many 12 = .ok (.iload_n 2, 1) := by decide +kernel
theorem dX7_many_13 : decode cX7_many 13 = .ok (.invokestatic 204, 3) := by decide +kernel
theorem dX7_many_16 : decode cX7_many 16 = .ok (.ifCond .eq 7, 3) := by decide +kernel
theorem dX7_many_19 : decode cX7_many 19 = .ok (.iconst 1, 1) := by decide +kernel
theorem dX7_many_20 : decode cX7_many 20 = .ok (.goto 4, 3) := by decide +kernel
theorem dX7_many_23 : decode cX7_many 23 = .ok (.iconst 0, 1) := by decide +kernel
theorem dX7_many_24 : decode cX7_many 24 = .ok (.iadd, 1) := by decide +kernel
theorem dX7_many_25 : decode cX7_many 25 = .ok (.istore_n 1, 1) := by decide +kernel
theorem dX7_many_26 : decode cX7_many 26 = .ok (.iinc 2 1, 3) := by decide +kernel
theorem dX7_many_29 : decode cX7_many 29 = .ok (.goto (-25), 3) := by decide +kernel
theorem dX7_many_32 : decode cX7_many 32 = .ok (.iload_n 1, 1) := by decide +kernel
theorem dX7_many_33 : decode cX7_many 33 = .ok (.ireturn, 1) := by decide +kernel
abbrev kX7_many (g : rk_G) (R : rk_R) (pc : Nat) : rk_K := rk_cut g cX7_many 3 (some .int) RX7 1 R pc
abbrev aX7_many (g : rk_G) (R : rk_R) (pc : Nat) (K : rk_K) : Prop := rk_AK g cX7_many 3 (some .int) RX7 1 R pc K
abbrev sX7_many (g : rk_G) (vs : List Value) (σ : rk_M) (R : rk_R) : Prop := rk_does g yX7_many cX7_many 3 (some .int) 1 vs σ R
abbrev tX7_many (g : rk_G) (R : rk_R) (pc : Nat) (ls st : List Value) (σ : rk_M) : Prop := rk_At g cX7_many 3 (some .int) RX7 1 R pc ls st σ
def bX7_many_24 (g : rk_G) (R : rk_R) : rk_K := (rk_iadd (rk_istore 1 (rk_iinc 2 (1) (kX7_many g R 4))))
theorem eX7_many_24 (g : rk_G) (R : rk_R) (ls st : List Value) (σ : rk_M) : bX7_many_24 g R ls st σ = (rk_iadd (rk_istore 1 (rk_iinc 2 (1) (kX7_many g R 4)))) ls st σ := rfl
theorem oX7_many_24 {g : rk_G} {R : rk_R} : aX7_many g R 24 (bX7_many_24 g R) := (rk_iadd_ok dX7_many_24 (rk_istore_n_ok dX7_many_25 rfl (by decide) (rk_iinc_ok dX7_many_26 (by decide) (by decide) (rk_goto_ok (pc' := 4) dX7_many_29 (by decide) rk_cut_ok))))
def bX7_many_4 (g : rk_G) (R : rk_R) : rk_K := (rk_iload 2 (rk_ci (24) (rk_icmp_ge (rk_iload 1 (rk_iret R)) (rk_iload 1 (rk_iload 0 (rk_iload 2 (rk_cS g 2 yX7_isIn cX7_isIn 2 (some .boolean) 0 (rk_if_eq (rk_ci (0) (bX7_many_24 g R)) (rk_ci (1) (bX7_many_24 g R))))))))))
theorem eX7_many_4 (g : rk_G) (R : rk_R) (ls st : List Value) (σ : rk_M) : bX7_many_4 g R ls st σ = (rk_iload 2 (rk_ci (24) (rk_icmp_ge (rk_iload 1 (rk_iret R)) (rk_iload 1 (rk_iload 0 (rk_iload 2 (rk_cS g 2 yX7_isIn cX7_isIn 2 (some .boolean) 0 (rk_if_eq (rk_ci (0) (bX7_many_24 g R)) (rk_ci (1) (bX7_many_24 g R)))))))))) ls st σ := rfl
theorem oX7_many_4 {g : rk_G} {R : rk_R} : aX7_many g R 4 (bX7_many_4 g R) := (rk_iload_n_ok dX7_many_4 rfl (rk_bipush_ok dX7_many_5 (by decide) (rk_icmp_ge_ok (pc' := 32) dX7_many_7 (by decide) (rk_iload_n_ok dX7_many_32 rfl (rk_iret_ok rfl dX7_many_33)) (rk_iload_n_ok dX7_many_10 rfl (rk_iload_n_ok dX7_many_11 rfl (rk_iload_n_ok dX7_many_12 rfl (rk_cS_ok dX7_many_13 npX7_isIn wmX7_204 wtX7_isIn wiX7 wdX7_isIn (by decide) (by decide) (rk_if_eq_ok (pc' := 23) dX7_many_16 (by decide) (rk_iconst_ok dX7_many_23 (by decide) oX7_many_24) (rk_iconst_ok dX7_many_19 (by decide) (rk_goto_ok (pc' := 24) dX7_many_20 (by decide) oX7_many_24))))))))))
def bX7_many_0 (g : rk_G) (R : rk_R) : rk_K := (rk_ci (0) (rk_istore 1 (rk_ci (0) (rk_istore 2 (kX7_many g R 4)))))
theorem eX7_many_0 (g : rk_G) (R : rk_R) (ls st : List Value) (σ : rk_M) : bX7_many_0 g R ls st σ = (rk_ci (0) (rk_istore 1 (rk_ci (0) (rk_istore 2 (kX7_many g R 4))))) ls st σ := rfl
theorem oX7_many_0 {g : rk_G} {R : rk_R} : aX7_many g R 0 (bX7_many_0 g R) := (rk_iconst_ok dX7_many_0 (by decide) (rk_istore_n_ok dX7_many_1 rfl (by decide) (rk_iconst_ok dX7_many_2 (by decide) (rk_istore_n_ok dX7_many_3 rfl (by decide) rk_cut_ok))))
theorem dX7_others_0 : decode cX7_others 0 = .ok (.iconst 0, 1) := by decide +kernel
theorem dX7_others_1 : decode cX7_others 1 = .ok (.istore_n 2, 1) := by decide +kernel
theorem dX7_others_2 : decode cX7_others 2 = .ok (.iconst 0, 1) := by decide +kernel
theorem dX7_others_3 : decode cX7_others 3 = .ok (.istore_n 3, 1) := by decide +kernel
theorem dX7_others_4 : decode cX7_others 4 = .ok (.iload_n 3, 1) := by decide +kernel
theorem dX7_others_5 : decode cX7_others 5 = .ok (.aload_n 0, 1) := by decide +kernel
theorem dX7_others_6 : decode cX7_others 6 = .ok (.getfield 165, 3) := by decide +kernel
theorem dX7_others_9 : decode cX7_others 9 = .ok (.if_icmp .ge 38, 3) := by decide +kernel
theorem dX7_others_12 : decode cX7_others 12 = .ok (.iload_n 2, 1) := by decide +kernel
theorem dX7_others_13 : decode cX7_others 13 = .ok (.iload_n 3, 1) := by decide +kernel
theorem dX7_others_14 : decode cX7_others 14 = .ok (.iload_n 1, 1) := by decide +kernel
theorem dX7_others_15 : decode cX7_others 15 = .ok (.if_icmp .eq 23, 3) := by decide +kernel
theorem dX7_others_18 : decode cX7_others 18 = .ok (.aload_n 0, 1) := by decide +kernel
theorem dX7_others_19 : decode cX7_others 19 = .ok (.getfield 231, 3) := by decide +kernel
theorem dX7_others_22 : decode cX7_others 22 = .ok (.iload_n 3, 1) := by decide +kernel
theorem dX7_others_23 : decode cX7_others 23 = .ok (.invokestatic 204, 3) := by decide +kernel
theorem dX7_others_26 : decode cX7_others 26 = .ok (.ifCond .eq 12, 3) := by decide +kernel
theorem dX7_others_29 : decode cX7_others 29 = .ok (.aload_n 0, 1) := by decide +kernel
theorem dX7_others_30 : decode cX7_others 30 = .ok (.getfield 37, 3) := by decide +kernel
theorem dX7_others_33 : decode cX7_others 33 = .ok (.iload_n 3, 1) := by decide +kernel
theorem dX7_others_34 : decode cX7_others 34 = .ok (.iaload, 1) := by decide +kernel
theorem dX7_others_35 : decode cX7_others 35 = .ok (.goto 4, 3) := by decide +kernel
theorem dX7_others_38 : decode cX7_others 38 = .ok (.iconst 0, 1) := by decide +kernel
theorem dX7_others_39 : decode cX7_others 39 = .ok (.ior, 1) := by decide +kernel
theorem dX7_others_40 : decode cX7_others 40 = .ok (.istore_n 2, 1) := by decide +kernel
theorem dX7_others_41 : decode cX7_others 41 = .ok (.iinc 3 1, 3) := by decide +kernel
theorem dX7_others_44 : decode cX7_others 44 = .ok (.goto (-40), 3) := by decide +kernel
theorem dX7_others_47 : decode cX7_others 47 = .ok (.iload_n 2, 1) := by decide +kernel
theorem dX7_others_48 : decode cX7_others 48 = .ok (.ireturn, 1) := by decide +kernel
abbrev kX7_others (g : rk_G) (R : rk_R) (pc : Nat) : rk_K := rk_cut g cX7_others 4 (some .int) RX7 1 R pc
abbrev aX7_others (g : rk_G) (R : rk_R) (pc : Nat) (K : rk_K) : Prop := rk_AK g cX7_others 4 (some .int) RX7 1 R pc K
abbrev sX7_others (g : rk_G) (vs : List Value) (σ : rk_M) (R : rk_R) : Prop := rk_does g yX7_others cX7_others 4 (some .int) 1 vs σ R
abbrev tX7_others (g : rk_G) (R : rk_R) (pc : Nat) (ls st : List Value) (σ : rk_M) : Prop := rk_At g cX7_others 4 (some .int) RX7 1 R pc ls st σ
def bX7_others_39 (g : rk_G) (R : rk_R) : rk_K := (rk_ior (rk_istore 2 (rk_iinc 3 (1) (kX7_others g R 4))))
theorem eX7_others_39 (g : rk_G) (R : rk_R) (ls st : List Value) (σ : rk_M) : bX7_others_39 g R ls st σ = (rk_ior (rk_istore 2 (rk_iinc 3 (1) (kX7_others g R 4)))) ls st σ := rfl
theorem oX7_others_39 {g : rk_G} {R : rk_R} : aX7_others g R 39 (bX7_others_39 g R) := (rk_ior_ok dX7_others_39 (rk_istore_n_ok dX7_others_40 rfl (by decide) (rk_iinc_ok dX7_others_41 (by decide) (by decide) (rk_goto_ok (pc' := 4) dX7_others_44 (by decide) rk_cut_ok))))
def bX7_others_38 (g : rk_G) (R : rk_R) : rk_K := (rk_ci (0) (bX7_others_39 g R))
theorem eX7_others_38 (g : rk_G) (R : rk_R) (ls st : List Value) (σ : rk_M) : bX7_others_38 g R ls st σ = (rk_ci (0) (bX7_others_39 g R)) ls st σ := rfl
theorem oX7_others_38 {g : rk_G} {R : rk_R} : aX7_others g R 38 (bX7_others_38 g R) := (rk_iconst_ok dX7_others_38 (by decide) oX7_others_39)
def bX7_others_4 (g : rk_G) (R : rk_R) : rk_K := (rk_iload 3 (rk_aload 0 (rk_gI 7 11 (rk_icmp_ge (rk_iload 2 (rk_iret R)) (rk_iload 2 (rk_iload 3 (rk_iload 1 (rk_icmp_eq (bX7_others_38 g R) (rk_aload 0 (rk_gI 7 24 (rk_iload 3 (rk_cS g 2 yX7_isIn cX7_isIn 2 (some .boolean) 0 (rk_if_eq (bX7_others_38 g R) (rk_aload 0 (rk_gR 7 14 (rk_iload 3 (rk_iald (bX7_others_39 g R))))))))))))))))))
theorem eX7_others_4 (g : rk_G) (R : rk_R) (ls st : List Value) (σ : rk_M) : bX7_others_4 g R ls st σ = (rk_iload 3 (rk_aload 0 (rk_gI 7 11 (rk_icmp_ge (rk_iload 2 (rk_iret R)) (rk_iload 2 (rk_iload 3 (rk_iload 1 (rk_icmp_eq (bX7_others_38 g R) (rk_aload 0 (rk_gI 7 24 (rk_iload 3 (rk_cS g 2 yX7_isIn cX7_isIn 2 (some .boolean) 0 (rk_if_eq (bX7_others_38 g R) (rk_aload 0 (rk_gR 7 14 (rk_iload 3 (rk_iald (bX7_others_39 g R)))))))))))))))))) ls st σ := rfl
theorem oX7_others_4 {g : rk_G} {R : rk_R} : aX7_others g R 4 (bX7_others_4 g R) := (rk_iload_n_ok dX7_others_4 rfl (rk_aload_n_ok dX7_others_5 rfl (rk_gI_ok dX7_others_6 rfl iX7 (by decide) rfl wfX7_165 (rk_icmp_ge_ok (pc' := 47) dX7_others_9 (by decide) (rk_iload_n_ok dX7_others_47 rfl (rk_iret_ok rfl dX7_others_48)) (rk_iload_n_ok dX7_others_12 rfl (rk_iload_n_ok dX7_others_13 rfl (rk_iload_n_ok dX7_others_14 rfl (rk_icmp_eq_ok (pc' := 38) dX7_others_15 (by decide) oX7_others_38 (rk_aload_n_ok dX7_others_18 rfl (rk_gI_ok dX7_others_19 rfl iX7 (by decide) rfl wfX7_231 (rk_iload_n_ok dX7_others_22 rfl (rk_cS_ok dX7_others_23 npX7_isIn wmX7_204 wtX7_isIn wiX7 wdX7_isIn (by decide) (by decide) (rk_if_eq_ok (pc' := 38) dX7_others_26 (by decide) oX7_others_38 (rk_aload_n_ok dX7_others_29 rfl (rk_gR_ok dX7_others_30 rfl iX7 (by decide) rfl wfX7_37 (rk_iload_n_ok dX7_others_33 rfl (rk_iald_ok dX7_others_34 (rk_goto_ok (pc' := 39) dX7_others_35 (by decide) oX7_others_39))))))))))))))))))
def bX7_others_0 (g : rk_G) (R : rk_R) : rk_K := (rk_ci (0) (rk_istore 2 (rk_ci (0) (rk_istore 3 (kX7_others g R 4)))))
theorem eX7_others_0 (g : rk_G) (R : rk_R) (ls st : List Value) (σ : rk_M) : bX7_others_0 g R ls st σ = (rk_ci (0) (rk_istore 2 (rk_ci (0) (rk_istore 3 (kX7_others g R 4))))) ls st σ := rfl
theorem oX7_others_0 {g : rk_G} {R : rk_R} : aX7_others g R 0 (bX7_others_0 g R) := (rk_iconst_ok dX7_others_0 (by decide) (rk_istore_n_ok dX7_others_1 rfl (by decide) (rk_iconst_ok dX7_others_2 (by decide) (rk_istore_n_ok dX7_others_3 rfl (by decide) rk_cut_ok))))
theorem dX7_leftOf_0 : decode cX7_leftOf 0 = .ok (.iconst 0, 1) := by decide +kernel
theorem dX7_leftOf_1 : decode cX7_leftOf 1 = .ok (.istore_n 3, 1) := by decide +kernel
theorem dX7_leftOf_2 : decode cX7_leftOf 2 = .ok (.iconst 0, 1) := by decide +kernel
theorem dX7_leftOf_3 : decode cX7_leftOf 3 = .ok (.istore 4, 2) := by decide +kernel
theorem dX7_leftOf_5 : decode cX7_leftOf 5 = .ok (.iload 4, 2) := by decide +kernel
theorem dX7_leftOf_7 : decode cX7_leftOf 7 = .ok (.aload_n 0, 1) := by decide +kernel
theorem dX7_leftOf_8 : decode cX7_leftOf 8 = .ok (.getfield 165, 3) := by decide +kernel
theorem dX7_leftOf_11 : decode cX7_leftOf 11 = .ok (.if_icmp .ge 46, 3) := by decide +kernel
theorem dX7_leftOf_14 : decode cX7_leftOf 14 = .ok (.iload_n 3, 1) := by decide +kernel
theorem dX7_leftOf_15 : decode cX7_leftOf 15 = .ok (.iload 4, 2) := by decide +kernel
theorem dX7_leftOf_17 : decode cX7_leftOf 17 = .ok (.iload_n 2, 1) := by decide +kernel
theorem dX7_leftOf_18 : decode cX7_leftOf 18 = .ok (.if_icmp .eq 30, 3) := by decide +kernel
theorem dX7_leftOf_21 : decode cX7_leftOf 21 = .ok (.aload_n 0, 1) := by decide +kernel
theorem dX7_leftOf_22 : decode cX7_leftOf 22 = .ok (.getfield 231, 3) := by decide +kernel
theorem dX7_leftOf_25 : decode cX7_leftOf 25 = .ok (.iload 4, 2) := by decide +kernel
theorem dX7_leftOf_27 : decode cX7_leftOf 27 = .ok (.invokestatic 204, 3) := by decide +kernel
theorem dX7_leftOf_30 : decode cX7_leftOf 30 = .ok (.ifCond .eq 18, 3) := by decide +kernel
theorem dX7_leftOf_33 : decode cX7_leftOf 33 = .ok (.aload_n 0, 1) := by decide +kernel
theorem dX7_leftOf_34 : decode cX7_leftOf 34 = .ok (.getfield 55, 3) := by decide +kernel
theorem dX7_leftOf_37 : decode cX7_leftOf 37 = .ok (.iload 4, 2) := by decide +kernel
theorem dX7_leftOf_39 : decode cX7_leftOf 39 = .ok (.iaload, 1) := by decide +kernel
theorem dX7_leftOf_40 : decode cX7_leftOf 40 = .ok (.iload_n 1, 1) := by decide +kernel
theorem dX7_leftOf_41 : decode cX7_leftOf 41 = .ok (.if_icmp .ne 7, 3) := by decide +kernel
theorem dX7_leftOf_44 : decode cX7_leftOf 44 = .ok (.iconst 1, 1) := by decide +kernel
theorem dX7_leftOf_45 : decode cX7_leftOf 45 = .ok (.goto 4, 3) := by decide +kernel
theorem dX7_leftOf_48 : decode cX7_leftOf 48 = .ok (.iconst 0, 1) := by decide +kernel
theorem dX7_leftOf_49 : decode cX7_leftOf 49 = .ok (.iadd, 1) := by decide +kernel
theorem dX7_leftOf_50 : decode cX7_leftOf 50 = .ok (.istore_n 3, 1) := by decide +kernel
theorem dX7_leftOf_51 : decode cX7_leftOf 51 = .ok (.iinc 4 1, 3) := by decide +kernel
theorem dX7_leftOf_54 : decode cX7_leftOf 54 = .ok (.goto (-49), 3) := by decide +kernel
theorem dX7_leftOf_57 : decode cX7_leftOf 57 = .ok (.iload_n 3, 1) := by decide +kernel
theorem dX7_leftOf_58 : decode cX7_leftOf 58 = .ok (.ireturn, 1) := by decide +kernel
abbrev kX7_leftOf (g : rk_G) (R : rk_R) (pc : Nat) : rk_K := rk_cut g cX7_leftOf 5 (some .int) RX7 1 R pc
abbrev aX7_leftOf (g : rk_G) (R : rk_R) (pc : Nat) (K : rk_K) : Prop := rk_AK g cX7_leftOf 5 (some .int) RX7 1 R pc K
abbrev sX7_leftOf (g : rk_G) (vs : List Value) (σ : rk_M) (R : rk_R) : Prop := rk_does g yX7_leftOf cX7_leftOf 5 (some .int) 1 vs σ R
abbrev tX7_leftOf (g : rk_G) (R : rk_R) (pc : Nat) (ls st : List Value) (σ : rk_M) : Prop := rk_At g cX7_leftOf 5 (some .int) RX7 1 R pc ls st σ
def bX7_leftOf_49 (g : rk_G) (R : rk_R) : rk_K := (rk_iadd (rk_istore 3 (rk_iinc 4 (1) (kX7_leftOf g R 5))))
theorem eX7_leftOf_49 (g : rk_G) (R : rk_R) (ls st : List Value) (σ : rk_M) : bX7_leftOf_49 g R ls st σ = (rk_iadd (rk_istore 3 (rk_iinc 4 (1) (kX7_leftOf g R 5)))) ls st σ := rfl
theorem oX7_leftOf_49 {g : rk_G} {R : rk_R} : aX7_leftOf g R 49 (bX7_leftOf_49 g R) := (rk_iadd_ok dX7_leftOf_49 (rk_istore_n_ok dX7_leftOf_50 rfl (by decide) (rk_iinc_ok dX7_leftOf_51 (by decide) (by decide) (rk_goto_ok (pc' := 5) dX7_leftOf_54 (by decide) rk_cut_ok))))
def bX7_leftOf_48 (g : rk_G) (R : rk_R) : rk_K := (rk_ci (0) (bX7_leftOf_49 g R))
theorem eX7_leftOf_48 (g : rk_G) (R : rk_R) (ls st : List Value) (σ : rk_M) : bX7_leftOf_48 g R ls st σ = (rk_ci (0) (bX7_leftOf_49 g R)) ls st σ := rfl
theorem oX7_leftOf_48 {g : rk_G} {R : rk_R} : aX7_leftOf g R 48 (bX7_leftOf_48 g R) := (rk_iconst_ok dX7_leftOf_48 (by decide) oX7_leftOf_49)
def bX7_leftOf_5 (g : rk_G) (R : rk_R) : rk_K := (rk_iload 4 (rk_aload 0 (rk_gI 7 11 (rk_icmp_ge (rk_iload 3 (rk_iret R)) (rk_iload 3 (rk_iload 4 (rk_iload 2 (rk_icmp_eq (bX7_leftOf_48 g R) (rk_aload 0 (rk_gI 7 24 (rk_iload 4 (rk_cS g 2 yX7_isIn cX7_isIn 2 (some .boolean) 0 (rk_if_eq (bX7_leftOf_48 g R) (rk_aload 0 (rk_gR 7 22 (rk_iload 4 (rk_iald (rk_iload 1 (rk_icmp_ne (bX7_leftOf_48 g R) (rk_ci (1) (bX7_leftOf_49 g R)))))))))))))))))))))
theorem eX7_leftOf_5 (g : rk_G) (R : rk_R) (ls st : List Value) (σ : rk_M) : bX7_leftOf_5 g R ls st σ = (rk_iload 4 (rk_aload 0 (rk_gI 7 11 (rk_icmp_ge (rk_iload 3 (rk_iret R)) (rk_iload 3 (rk_iload 4 (rk_iload 2 (rk_icmp_eq (bX7_leftOf_48 g R) (rk_aload 0 (rk_gI 7 24 (rk_iload 4 (rk_cS g 2 yX7_isIn cX7_isIn 2 (some .boolean) 0 (rk_if_eq (bX7_leftOf_48 g R) (rk_aload 0 (rk_gR 7 22 (rk_iload 4 (rk_iald (rk_iload 1 (rk_icmp_ne (bX7_leftOf_48 g R) (rk_ci (1) (bX7_leftOf_49 g R))))))))))))))))))))) ls st σ := rfl
theorem oX7_leftOf_5 {g : rk_G} {R : rk_R} : aX7_leftOf g R 5 (bX7_leftOf_5 g R) := (rk_iload_ok dX7_leftOf_5 (rk_aload_n_ok dX7_leftOf_7 rfl (rk_gI_ok dX7_leftOf_8 rfl iX7 (by decide) rfl wfX7_165 (rk_icmp_ge_ok (pc' := 57) dX7_leftOf_11 (by decide) (rk_iload_n_ok dX7_leftOf_57 rfl (rk_iret_ok rfl dX7_leftOf_58)) (rk_iload_n_ok dX7_leftOf_14 rfl (rk_iload_ok dX7_leftOf_15 (rk_iload_n_ok dX7_leftOf_17 rfl (rk_icmp_eq_ok (pc' := 48) dX7_leftOf_18 (by decide) oX7_leftOf_48 (rk_aload_n_ok dX7_leftOf_21 rfl (rk_gI_ok dX7_leftOf_22 rfl iX7 (by decide) rfl wfX7_231 (rk_iload_ok dX7_leftOf_25 (rk_cS_ok dX7_leftOf_27 npX7_isIn wmX7_204 wtX7_isIn wiX7 wdX7_isIn (by decide) (by decide) (rk_if_eq_ok (pc' := 48) dX7_leftOf_30 (by decide) oX7_leftOf_48 (rk_aload_n_ok dX7_leftOf_33 rfl (rk_gR_ok dX7_leftOf_34 rfl iX7 (by decide) rfl wfX7_55 (rk_iload_ok dX7_leftOf_37 (rk_iald_ok dX7_leftOf_39 (rk_iload_n_ok dX7_leftOf_40 rfl (rk_icmp_ne_ok (pc' := 48) dX7_leftOf_41 (by decide) oX7_leftOf_48 (rk_iconst_ok dX7_leftOf_44 (by decide) (rk_goto_ok (pc' := 49) dX7_leftOf_45 (by decide) oX7_leftOf_49)))))))))))))))))))))
def bX7_leftOf_0 (g : rk_G) (R : rk_R) : rk_K := (rk_ci (0) (rk_istore 3 (rk_ci (0) (rk_istore 4 (kX7_leftOf g R 5)))))
theorem eX7_leftOf_0 (g : rk_G) (R : rk_R) (ls st : List Value) (σ : rk_M) : bX7_leftOf_0 g R ls st σ = (rk_ci (0) (rk_istore 3 (rk_ci (0) (rk_istore 4 (kX7_leftOf g R 5))))) ls st σ := rfl
theorem oX7_leftOf_0 {g : rk_G} {R : rk_R} : aX7_leftOf g R 0 (bX7_leftOf_0 g R) := (rk_iconst_ok dX7_leftOf_0 (by decide) (rk_istore_n_ok dX7_leftOf_1 rfl (by decide) (rk_iconst_ok dX7_leftOf_2 (by decide) (rk_istore_ok dX7_leftOf_3 (by decide) rk_cut_ok))))
theorem dX7_isSheet_0 : decode cX7_isSheet 0 = .ok (.iload_n 0, 1) := by decide +kernel
theorem dX7_isSheet_1 : decode cX7_isSheet 1 = .ok (.iconst 0, 1) := by decide +kernel
theorem dX7_isSheet_2 : decode cX7_isSheet 2 = .ok (.iconst 3, 1) := by decide +kernel
theorem dX7_isSheet_3 : decode cX7_isSheet 3 = .ok (.invokestatic 81, 3) := by decide +kernel
theorem dX7_isSheet_6 : decode cX7_isSheet 6 = .ok (.ireturn, 1) := by decide +kernel
abbrev kX7_isSheet (g : rk_G) (R : rk_R) (pc : Nat) : rk_K := rk_cut g cX7_isSheet 1 (some .boolean) RX7 1 R pc
abbrev aX7_isSheet (g : rk_G) (R : rk_R) (pc : Nat) (K : rk_K) : Prop := rk_AK g cX7_isSheet 1 (some .boolean) RX7 1 R pc K
abbrev sX7_isSheet (g : rk_G) (vs : List Value) (σ : rk_M) (R : rk_R) : Prop := rk_does g yX7_isSheet cX7_isSheet 1 (some .boolean) 1 vs σ R
abbrev tX7_isSheet (g : rk_G) (R : rk_R) (pc : Nat) (ls st : List Value) (σ : rk_M) : Prop := rk_At g cX7_isSheet 1 (some .boolean) RX7 1 R pc ls st σ
def bX7_isSheet_0 (g : rk_G) (R : rk_R) : rk_K := (rk_iload 0 (rk_ci (0) (rk_ci (3) (rk_cS g 3 yX7_in cX7_in 3 (some .boolean) 0 (rk_zret R)))))
theorem eX7_isSheet_0 (g : rk_G) (R : rk_R) (ls st : List Value) (σ : rk_M) : bX7_isSheet_0 g R ls st σ = (rk_iload 0 (rk_ci (0) (rk_ci (3) (rk_cS g 3 yX7_in cX7_in 3 (some .boolean) 0 (rk_zret R))))) ls st σ := rfl
theorem oX7_isSheet_0 {g : rk_G} {R : rk_R} : aX7_isSheet g R 0 (bX7_isSheet_0 g R) := (rk_iload_n_ok dX7_isSheet_0 rfl (rk_iconst_ok dX7_isSheet_1 (by decide) (rk_iconst_ok dX7_isSheet_2 (by decide) (rk_cS_ok dX7_isSheet_3 npX7_in wmX7_81 wtX7_in wiX7 wdX7_in (by decide) (by decide) (rk_zret_ok rfl dX7_isSheet_6)))))
theorem dX7_lacks_0 : decode cX7_lacks 0 = .ok (.aload_n 0, 1) := by decide +kernel
theorem dX7_lacks_1 : decode cX7_lacks 1 = .ok (.getfield 61, 3) := by decide +kernel
theorem dX7_lacks_4 : decode cX7_lacks 4 = .ok (.iload_n 1, 1) := by decide +kernel
theorem dX7_lacks_5 : decode cX7_lacks 5 = .ok (.baload, 1) := by decide +kernel
theorem dX7_lacks_6 : decode cX7_lacks 6 = .ok (.ifCond .ne 7, 3) := by decide +kernel
theorem dX7_lacks_9 : decode cX7_lacks 9 = .ok (.iconst 1, 1) := by decide +kernel
theorem dX7_lacks_10 : decode cX7_lacks 10 = .ok (.goto 38, 3) := by decide +kernel
theorem dX7_lacks_13 : decode cX7_lacks 13 = .ok (.aload_n 0, 1) := by decide +kernel
theorem dX7_lacks_14 : decode cX7_lacks 14 = .ok (.getfield 65, 3) := by decide +kernel
theorem dX7_lacks_17 : decode cX7_lacks 17 = .ok (.iload_n 1, 1) := by decide +kernel
theorem dX7_lacks_18 : decode cX7_lacks 18 = .ok (.iaload, 1) := by decide +kernel
theorem dX7_lacks_19 : decode cX7_lacks 19 = .ok (.iload_n 2, 1) := by decide +kernel
theorem dX7_lacks_20 : decode cX7_lacks 20 = .ok (.if_icmp .eq 7, 3) := by decide +kernel
theorem dX7_lacks_23 : decode cX7_lacks 23 = .ok (.iconst 3, 1) := by decide +kernel
theorem dX7_lacks_24 : decode cX7_lacks 24 = .ok (.goto 24, 3) := by decide +kernel
theorem dX7_lacks_27 : decode cX7_lacks 27 = .ok (.iload_n 3, 1) := by decide +kernel
theorem dX7_lacks_28 : decode cX7_lacks 28 = .ok (.iconst 0, 1) := by decide +kernel
theorem dX7_lacks_29 : decode cX7_lacks 29 = .ok (.aload_n 0, 1) := by decide +kernel
theorem dX7_lacks_30 : decode cX7_lacks 30 = .ok (.getfield 68, 3) := by decide +kernel
theorem dX7_lacks_33 : decode cX7_lacks 33 = .ok (.iload_n 1, 1) := by decide +kernel
theorem dX7_lacks_34 : decode cX7_lacks 34 = .ok (.iaload, 1) := by decide +kernel
theorem dX7_lacks_35 : decode cX7_lacks 35 = .ok (.iconst 1, 1) := by decide +kernel
theorem dX7_lacks_36 : decode cX7_lacks 36 = .ok (.isub, 1) := by decide +kernel
theorem dX7_lacks_37 : decode cX7_lacks 37 = .ok (.invokestatic 81, 3) := by decide +kernel
theorem dX7_lacks_40 : decode cX7_lacks 40 = .ok (.ifCond .eq 7, 3) := by decide +kernel
theorem dX7_lacks_43 : decode cX7_lacks 43 = .ok (.iconst 0, 1) := by decide +kernel
theorem dX7_lacks_44 : decode cX7_lacks 44 = .ok (.goto 4, 3) := by decide +kernel
theorem dX7_lacks_47 : decode cX7_lacks 47 = .ok (.iconst 2, 1) := by decide +kernel
theorem dX7_lacks_48 : decode cX7_lacks 48 = .ok (.ireturn, 1) := by decide +kernel
abbrev kX7_lacks (g : rk_G) (R : rk_R) (pc : Nat) : rk_K := rk_cut g cX7_lacks 4 (some .int) RX7 1 R pc
abbrev aX7_lacks (g : rk_G) (R : rk_R) (pc : Nat) (K : rk_K) : Prop := rk_AK g cX7_lacks 4 (some .int) RX7 1 R pc K
abbrev sX7_lacks (g : rk_G) (vs : List Value) (σ : rk_M) (R : rk_R) : Prop := rk_does g yX7_lacks cX7_lacks 4 (some .int) 1 vs σ R
abbrev tX7_lacks (g : rk_G) (R : rk_R) (pc : Nat) (ls st : List Value) (σ : rk_M) : Prop := rk_At g cX7_lacks 4 (some .int) RX7 1 R pc ls st σ
def bX7_lacks_48 (g : rk_G) (R : rk_R) : rk_K := (rk_iret R)
theorem eX7_lacks_48 (g : rk_G) (R : rk_R) (ls st : List Value) (σ : rk_M) : bX7_lacks_48 g R ls st σ = (rk_iret R) ls st σ := rfl
theorem oX7_lacks_48 {g : rk_G} {R : rk_R} : aX7_lacks g R 48 (bX7_lacks_48 g R) := (rk_iret_ok rfl dX7_lacks_48)
def bX7_lacks_0 (g : rk_G) (R : rk_R) : rk_K := (rk_aload 0 (rk_gR 7 27 (rk_iload 1 (rk_zald (rk_if_ne (rk_aload 0 (rk_gR 7 28 (rk_iload 1 (rk_iald (rk_iload 2 (rk_icmp_eq (rk_iload 3 (rk_ci (0) (rk_aload 0 (rk_gR 7 29 (rk_iload 1 (rk_iald (rk_ci (1) (rk_isub (rk_cS g 3 yX7_in cX7_in 3 (some .boolean) 0 (rk_if_eq (rk_ci (2) (bX7_lacks_48 g R)) (rk_ci (0) (bX7_lacks_48 g R)))))))))))) (rk_ci (3) (bX7_lacks_48 g R)))))))) (rk_ci (1) (bX7_lacks_48 g R)))))))
theorem eX7_lacks_0 (g : rk_G) (R : rk_R) (ls st : List Value) (σ : rk_M) : bX7_lacks_0 g R ls st σ = (rk_aload 0 (rk_gR 7 27 (rk_iload 1 (rk_zald (rk_if_ne (rk_aload 0 (rk_gR 7 28 (rk_iload 1 (rk_iald (rk_iload 2 (rk_icmp_eq (rk_iload 3 (rk_ci (0) (rk_aload 0 (rk_gR 7 29 (rk_iload 1 (rk_iald (rk_ci (1) (rk_isub (rk_cS g 3 yX7_in cX7_in 3 (some .boolean) 0 (rk_if_eq (rk_ci (2) (bX7_lacks_48 g R)) (rk_ci (0) (bX7_lacks_48 g R)))))))))))) (rk_ci (3) (bX7_lacks_48 g R)))))))) (rk_ci (1) (bX7_lacks_48 g R))))))) ls st σ := rfl
theorem oX7_lacks_0 {g : rk_G} {R : rk_R} : aX7_lacks g R 0 (bX7_lacks_0 g R) := (rk_aload_n_ok dX7_lacks_0 rfl (rk_gR_ok dX7_lacks_1 rfl iX7 (by decide) rfl wfX7_61 (rk_iload_n_ok dX7_lacks_4 rfl (rk_zald_ok dX7_lacks_5 (rk_if_ne_ok (pc' := 13) dX7_lacks_6 (by decide) (rk_aload_n_ok dX7_lacks_13 rfl (rk_gR_ok dX7_lacks_14 rfl iX7 (by decide) rfl wfX7_65 (rk_iload_n_ok dX7_lacks_17 rfl (rk_iald_ok dX7_lacks_18 (rk_iload_n_ok dX7_lacks_19 rfl (rk_icmp_eq_ok (pc' := 27) dX7_lacks_20 (by decide) (rk_iload_n_ok dX7_lacks_27 rfl (rk_iconst_ok dX7_lacks_28 (by decide) (rk_aload_n_ok dX7_lacks_29 rfl (rk_gR_ok dX7_lacks_30 rfl iX7 (by decide) rfl wfX7_68 (rk_iload_n_ok dX7_lacks_33 rfl (rk_iald_ok dX7_lacks_34 (rk_iconst_ok dX7_lacks_35 (by decide) (rk_isub_ok dX7_lacks_36 (rk_cS_ok dX7_lacks_37 npX7_in wmX7_81 wtX7_in wiX7 wdX7_in (by decide) (by decide) (rk_if_eq_ok (pc' := 47) dX7_lacks_40 (by decide) (rk_iconst_ok dX7_lacks_47 (by decide) oX7_lacks_48) (rk_iconst_ok dX7_lacks_43 (by decide) (rk_goto_ok (pc' := 48) dX7_lacks_44 (by decide) oX7_lacks_48)))))))))))) (rk_iconst_ok dX7_lacks_23 (by decide) (rk_goto_ok (pc' := 48) dX7_lacks_24 (by decide) oX7_lacks_48)))))))) (rk_iconst_ok dX7_lacks_9 (by decide) (rk_goto_ok (pc' := 48) dX7_lacks_10 (by decide) oX7_lacks_48)))))))
theorem dX7_adds_0 : decode cX7_adds 0 = .ok (.aload_n 0, 1) := by decide +kernel
theorem dX7_adds_1 : decode cX7_adds 1 = .ok (.iload_n 1, 1) := by decide +kernel
theorem dX7_adds_2 : decode cX7_adds 2 = .ok (.invokevirtual 91, 3) := by decide +kernel
theorem dX7_adds_5 : decode cX7_adds 5 = .ok (.ifCond .eq 36, 3) := by decide +kernel
theorem dX7_adds_8 : decode cX7_adds 8 = .ok (.aload_n 0, 1) := by decide +kernel
theorem dX7_adds_9 : decode cX7_adds 9 = .ok (.iload_n 2, 1) := by decide +kernel
theorem dX7_adds_10 : decode cX7_adds 10 = .ok (.invokevirtual 91, 3) := by decide +kernel
theorem dX7_adds_13 : decode cX7_adds 13 = .ok (.ifCond .eq 28, 3) := by decide +kernel
theorem dX7_adds_16 : decode cX7_adds 16 = .ok (.iload_n 1, 1) := by decide +kernel
theorem dX7_adds_17 : decode cX7_adds 17 = .ok (.iload_n 2, 1) := by decide +kernel
theorem dX7_adds_18 : decode cX7_adds 18 = .ok (.if_icmp .eq 23, 3) := by decide +kernel
theorem dX7_adds_21 : decode cX7_adds 21 = .ok (.iload_n 3, 1) := by decide +kernel
theorem dX7_adds_22 : decode cX7_adds 22 = .ok (.iconst 0, 1) := by decide +kernel
theorem dX7_adds_23 : decode cX7_adds 23 = .ok (.iconst 2, 1) := by decide +kernel
theorem dX7_adds_24 : decode cX7_adds 24 = .ok (.invokestatic 81, 3) := by decide +kernel
theorem dX7_adds_27 : decode cX7_adds 27 = .ok (.ifCond .eq 14, 3) := by decide +kernel
theorem dX7_adds_30 : decode cX7_adds 30 = .ok (.iload 4, 2) := by decide +kernel
theorem dX7_adds_32 : decode cX7_adds 32 = .ok (.iconst 0, 1) := by decide +kernel
theorem dX7_adds_33 : decode cX7_adds 33 = .ok (.bipush 9, 2) := by decide +kernel
theorem dX7_adds_35 : decode cX7_adds 35 = .ok (.invokestatic 81, 3) := by decide +kernel
theorem dX7_adds_38 : decode cX7_adds 38 = .ok (.ifCond .ne 6, 3) := by decide +kernel
theorem dX7_adds_41 : decode cX7_adds 41 = .ok (.bipush (-2), 2) := by decide +kernel
theorem dX7_adds_43 : decode cX7_adds 43 = .ok (.ireturn, 1) := by decide +kernel
theorem dX7_adds_44 : decode cX7_adds 44 = .ok (.iconst 0, 1) := by decide +kernel
theorem dX7_adds_45 : decode cX7_adds 45 = .ok (.istore 5, 2) := by decide +kernel
theorem dX7_adds_47 : decode cX7_adds 47 = .ok (.iload 5, 2) := by decide +kernel
theorem dX7_adds_49 : decode cX7_adds 49 = .ok (.aload_n 0, 1) := by decide +kernel
theorem dX7_adds_50 : decode cX7_adds 50 = .ok (.getfield 85, 3) := by decide +kernel
theorem dX7_adds_53 : decode cX7_adds 53 = .ok (.if_icmp .ge 23, 3) := by decide +kernel
theorem dX7_adds_56 : decode cX7_adds 56 = .ok (.aload_n 0, 1) := by decide +kernel
theorem dX7_adds_57 : decode cX7_adds 57 = .ok (.iload 5, 2) := by decide +kernel
theorem dX7_adds_59 : decode cX7_adds 59 = .ok (.iload_n 1, 1) := by decide +kernel
theorem dX7_adds_60 : decode cX7_adds 60 = .ok (.iload_n 2, 1) := by decide +kernel
theorem dX7_adds_61 : decode cX7_adds 61 = .ok (.invokevirtual 95, 3) := by decide +kernel
theorem dX7_adds_64 : decode cX7_adds 64 = .ok (.ifCond .eq 6, 3) := by decide +kernel
theorem dX7_adds_67 : decode cX7_adds 67 = .ok (.bipush (-3), 2) := by decide +kernel
theorem dX7_adds_69 : decode cX7_adds 69 = .ok (.ireturn, 1) := by decide +kernel
theorem dX7_adds_70 : decode cX7_adds 70 = .ok (.iinc 5 1, 3) := by decide +kernel
theorem dX7_adds_73 : decode cX7_adds 73 = .ok (.goto (-26), 3) := by decide +kernel
theorem dX7_adds_76 : decode cX7_adds 76 = .ok (.aload_n 0, 1) := by decide +kernel
theorem dX7_adds_77 : decode cX7_adds 77 = .ok (.getfield 85, 3) := by decide +kernel
theorem dX7_adds_80 : decode cX7_adds 80 = .ok (.bipush 24, 2) := by decide +kernel
theorem dX7_adds_82 : decode cX7_adds 82 = .ok (.if_icmp .ne 6, 3) := by decide +kernel
theorem dX7_adds_85 : decode cX7_adds 85 = .ok (.bipush (-4), 2) := by decide +kernel
theorem dX7_adds_87 : decode cX7_adds 87 = .ok (.ireturn, 1) := by decide +kernel
theorem dX7_adds_88 : decode cX7_adds 88 = .ok (.aload_n 0, 1) := by decide +kernel
theorem dX7_adds_89 : decode cX7_adds 89 = .ok (.getfield 16, 3) := by decide +kernel
theorem dX7_adds_92 : decode cX7_adds 92 = .ok (.iconst 2, 1) := by decide +kernel
theorem dX7_adds_93 : decode cX7_adds 93 = .ok (.aload_n 0, 1) := by decide +kernel
theorem dX7_adds_94 : decode cX7_adds 94 = .ok (.getfield 85, 3) := by decide +kernel
theorem dX7_adds_97 : decode cX7_adds 97 = .ok (.imul, 1) := by decide +kernel
theorem dX7_adds_98 : decode cX7_adds 98 = .ok (.iload_n 1, 1) := by decide +kernel
theorem dX7_adds_99 : decode cX7_adds 99 = .ok (.iastore, 1) := by decide +kernel
theorem dX7_adds_100 : decode cX7_adds 100 = .ok (.aload_n 0, 1) := by decide +kernel
theorem dX7_adds_101 : decode cX7_adds 101 = .ok (.getfield 16, 3) := by decide +kernel
theorem dX7_adds_104 : decode cX7_adds 104 = .ok (.iconst 2, 1) := by decide +kernel
theorem dX7_adds_105 : decode cX7_adds 105 = .ok (.aload_n 0, 1) := by decide +kernel
theorem dX7_adds_106 : decode cX7_adds 106 = .ok (.getfield 85, 3) := by decide +kernel
theorem dX7_adds_109 : decode cX7_adds 109 = .ok (.imul, 1) := by decide +kernel
theorem dX7_adds_110 : decode cX7_adds 110 = .ok (.iconst 1, 1) := by decide +kernel
theorem dX7_adds_111 : decode cX7_adds 111 = .ok (.iadd, 1) := by decide +kernel
theorem dX7_adds_112 : decode cX7_adds 112 = .ok (.iload_n 2, 1) := by decide +kernel
theorem dX7_adds_113 : decode cX7_adds 113 = .ok (.iastore, 1) := by decide +kernel
theorem dX7_adds_114 : decode cX7_adds 114 = .ok (.aload_n 0, 1) := by decide +kernel
theorem dX7_adds_115 : decode cX7_adds 115 = .ok (.getfield 19, 3) := by decide +kernel
theorem dX7_adds_118 : decode cX7_adds 118 = .ok (.aload_n 0, 1) := by decide +kernel
theorem dX7_adds_119 : decode cX7_adds 119 = .ok (.getfield 85, 3) := by decide +kernel
theorem dX7_adds_122 : decode cX7_adds 122 = .ok (.iload_n 3, 1) := by decide +kernel
theorem dX7_adds_123 : decode cX7_adds 123 = .ok (.iastore, 1) := by decide +kernel
theorem dX7_adds_124 : decode cX7_adds 124 = .ok (.aload_n 0, 1) := by decide +kernel
theorem dX7_adds_125 : decode cX7_adds 125 = .ok (.getfield 22, 3) := by decide +kernel
theorem dX7_adds_128 : decode cX7_adds 128 = .ok (.aload_n 0, 1) := by decide +kernel
theorem dX7_adds_129 : decode cX7_adds 129 = .ok (.getfield 85, 3) := by decide +kernel
theorem dX7_adds_132 : decode cX7_adds 132 = .ok (.iload 4, 2) := by decide +kernel
theorem dX7_adds_134 : decode cX7_adds 134 = .ok (.iastore, 1) := by decide +kernel
theorem dX7_adds_135 : decode cX7_adds 135 = .ok (.aload_n 0, 1) := by decide +kernel
theorem dX7_adds_136 : decode cX7_adds 136 = .ok (.dup, 1) := by decide +kernel
theorem dX7_adds_137 : decode cX7_adds 137 = .ok (.getfield 85, 3) := by decide +kernel
theorem dX7_adds_140 : decode cX7_adds 140 = .ok (.iconst 1, 1) := by decide +kernel
theorem dX7_adds_141 : decode cX7_adds 141 = .ok (.iadd, 1) := by decide +kernel
theorem dX7_adds_142 : decode cX7_adds 142 = .ok (.putfield 85, 3) := by decide +kernel
theorem dX7_adds_145 : decode cX7_adds 145 = .ok (.aload_n 0, 1) := by decide +kernel
theorem dX7_adds_146 : decode cX7_adds 146 = .ok (.getfield 25, 3) := by decide +kernel
theorem dX7_adds_149 : decode cX7_adds 149 = .ok (.aload_n 0, 1) := by decide +kernel
theorem dX7_adds_150 : decode cX7_adds 150 = .ok (.getfield 88, 3) := by decide +kernel
theorem dX7_adds_153 : decode cX7_adds 153 = .ok (.iconst 1, 1) := by decide +kernel
theorem dX7_adds_154 : decode cX7_adds 154 = .ok (.iastore, 1) := by decide +kernel
theorem dX7_adds_155 : decode cX7_adds 155 = .ok (.aload_n 0, 1) := by decide +kernel
theorem dX7_adds_156 : decode cX7_adds 156 = .ok (.dup, 1) := by decide +kernel
theorem dX7_adds_157 : decode cX7_adds 157 = .ok (.getfield 88, 3) := by decide +kernel
theorem dX7_adds_160 : decode cX7_adds 160 = .ok (.iconst 1, 1) := by decide +kernel
theorem dX7_adds_161 : decode cX7_adds 161 = .ok (.iadd, 1) := by decide +kernel
theorem dX7_adds_162 : decode cX7_adds 162 = .ok (.putfield 88, 3) := by decide +kernel
theorem dX7_adds_165 : decode cX7_adds 165 = .ok (.aload_n 0, 1) := by decide +kernel
theorem dX7_adds_166 : decode cX7_adds 166 = .ok (.getfield 85, 3) := by decide +kernel
theorem dX7_adds_169 : decode cX7_adds 169 = .ok (.ireturn, 1) := by decide +kernel
abbrev kX7_adds (g : rk_G) (R : rk_R) (pc : Nat) : rk_K := rk_cut g cX7_adds 6 (some .int) RX7 2 R pc
abbrev aX7_adds (g : rk_G) (R : rk_R) (pc : Nat) (K : rk_K) : Prop := rk_AK g cX7_adds 6 (some .int) RX7 2 R pc K
abbrev sX7_adds (g : rk_G) (vs : List Value) (σ : rk_M) (R : rk_R) : Prop := rk_does g yX7_adds cX7_adds 6 (some .int) 2 vs σ R
abbrev tX7_adds (g : rk_G) (R : rk_R) (pc : Nat) (ls st : List Value) (σ : rk_M) : Prop := rk_At g cX7_adds 6 (some .int) RX7 2 R pc ls st σ
def bX7_adds_47 (g : rk_G) (R : rk_R) : rk_K := (rk_iload 5 (rk_aload 0 (rk_gI 7 3 (rk_icmp_ge (rk_aload 0 (rk_gI 7 3 (rk_ci (24) (rk_icmp_ne (rk_aload 0 (rk_gR 7 4 (rk_ci (2) (rk_aload 0 (rk_gI 7 3 (rk_imul (rk_iload 1 (rk_iast (rk_aload 0 (rk_gR 7 4 (rk_ci (2) (rk_aload 0 (rk_gI 7 3 (rk_imul (rk_ci (1) (rk_iadd (rk_iload 2 (rk_iast (rk_aload 0 (rk_gR 7 5 (rk_aload 0 (rk_gI 7 3 (rk_iload 3 (rk_iast (rk_aload 0 (rk_gR 7 6 (rk_aload 0 (rk_gI 7 3 (rk_iload 4 (rk_iast (rk_aload 0 (rk_dup (rk_gI 7 3 (rk_ci (1) (rk_iadd (rk_pI 7 3 (rk_aload 0 (rk_gR 7 8 (rk_aload 0 (rk_gI 7 7 (rk_ci (1) (rk_iast (rk_aload 0 (rk_dup (rk_gI 7 7 (rk_ci (1) (rk_iadd (rk_pI 7 7 (rk_aload 0 (rk_gI 7 3 (rk_iret R))))))))))))))))))))))))))))))))))))))))))))))))))) (rk_ci (-4) (rk_iret R)))))) (rk_aload 0 (rk_iload 5 (rk_iload 1 (rk_iload 2 (rk_cV g 3 7 yX7_isBetween cX7_isBetween 4 (some .boolean) 0 (rk_if_eq (rk_iinc 5 (1) (kX7_adds g R 47)) (rk_ci (-3) (rk_iret R))))))))))))
theorem eX7_adds_47 (g : rk_G) (R : rk_R) (ls st : List Value) (σ : rk_M) : bX7_adds_47 g R ls st σ = (rk_iload 5 (rk_aload 0 (rk_gI 7 3 (rk_icmp_ge (rk_aload 0 (rk_gI 7 3 (rk_ci (24) (rk_icmp_ne (rk_aload 0 (rk_gR 7 4 (rk_ci (2) (rk_aload 0 (rk_gI 7 3 (rk_imul (rk_iload 1 (rk_iast (rk_aload 0 (rk_gR 7 4 (rk_ci (2) (rk_aload 0 (rk_gI 7 3 (rk_imul (rk_ci (1) (rk_iadd (rk_iload 2 (rk_iast (rk_aload 0 (rk_gR 7 5 (rk_aload 0 (rk_gI 7 3 (rk_iload 3 (rk_iast (rk_aload 0 (rk_gR 7 6 (rk_aload 0 (rk_gI 7 3 (rk_iload 4 (rk_iast (rk_aload 0 (rk_dup (rk_gI 7 3 (rk_ci (1) (rk_iadd (rk_pI 7 3 (rk_aload 0 (rk_gR 7 8 (rk_aload 0 (rk_gI 7 7 (rk_ci (1) (rk_iast (rk_aload 0 (rk_dup (rk_gI 7 7 (rk_ci (1) (rk_iadd (rk_pI 7 7 (rk_aload 0 (rk_gI 7 3 (rk_iret R))))))))))))))))))))))))))))))))))))))))))))))))))) (rk_ci (-4) (rk_iret R)))))) (rk_aload 0 (rk_iload 5 (rk_iload 1 (rk_iload 2 (rk_cV g 3 7 yX7_isBetween cX7_isBetween 4 (some .boolean) 0 (rk_if_eq (rk_iinc 5 (1) (kX7_adds g R 47)) (rk_ci (-3) (rk_iret R)))))))))))) ls st σ := rfl
theorem oX7_adds_47 {g : rk_G} {R : rk_R} : aX7_adds g R 47 (bX7_adds_47 g R) := (rk_iload_ok dX7_adds_47 (rk_aload_n_ok dX7_adds_49 rfl (rk_gI_ok dX7_adds_50 rfl iX7 (by decide) rfl wfX7_85 (rk_icmp_ge_ok (pc' := 76) dX7_adds_53 (by decide) (rk_aload_n_ok dX7_adds_76 rfl (rk_gI_ok dX7_adds_77 rfl iX7 (by decide) rfl wfX7_85 (rk_bipush_ok dX7_adds_80 (by decide) (rk_icmp_ne_ok (pc' := 88) dX7_adds_82 (by decide) (rk_aload_n_ok dX7_adds_88 rfl (rk_gR_ok dX7_adds_89 rfl iX7 (by decide) rfl wfX7_16 (rk_iconst_ok dX7_adds_92 (by decide) (rk_aload_n_ok dX7_adds_93 rfl (rk_gI_ok dX7_adds_94 rfl iX7 (by decide) rfl wfX7_85 (rk_imul_ok dX7_adds_97 (rk_iload_n_ok dX7_adds_98 rfl (rk_iast_ok dX7_adds_99 (rk_aload_n_ok dX7_adds_100 rfl (rk_gR_ok dX7_adds_101 rfl iX7 (by decide) rfl wfX7_16 (rk_iconst_ok dX7_adds_104 (by decide) (rk_aload_n_ok dX7_adds_105 rfl (rk_gI_ok dX7_adds_106 rfl iX7 (by decide) rfl wfX7_85 (rk_imul_ok dX7_adds_109 (rk_iconst_ok dX7_adds_110 (by decide) (rk_iadd_ok dX7_adds_111 (rk_iload_n_ok dX7_adds_112 rfl (rk_iast_ok dX7_adds_113 (rk_aload_n_ok dX7_adds_114 rfl (rk_gR_ok dX7_adds_115 rfl iX7 (by decide) rfl wfX7_19 (rk_aload_n_ok dX7_adds_118 rfl (rk_gI_ok dX7_adds_119 rfl iX7 (by decide) rfl wfX7_85 (rk_iload_n_ok dX7_adds_122 rfl (rk_iast_ok dX7_adds_123 (rk_aload_n_ok dX7_adds_124 rfl (rk_gR_ok dX7_adds_125 rfl iX7 (by decide) rfl wfX7_22 (rk_aload_n_ok dX7_adds_128 rfl (rk_gI_ok dX7_adds_129 rfl iX7 (by decide) rfl wfX7_85 (rk_iload_ok dX7_adds_132 (rk_iast_ok dX7_adds_134 (rk_aload_n_ok dX7_adds_135 rfl (rk_dup_ok dX7_adds_136 (rk_gI_ok dX7_adds_137 rfl iX7 (by decide) rfl wfX7_85 (rk_iconst_ok dX7_adds_140 (by decide) (rk_iadd_ok dX7_adds_141 (rk_pI_ok dX7_adds_142 rfl iX7 tyX7_ok nmX7 (by decide) rfl rfl (by decide +kernel) wfX7_85 (rk_aload_n_ok dX7_adds_145 rfl (rk_gR_ok dX7_adds_146 rfl iX7 (by decide) rfl wfX7_25 (rk_aload_n_ok dX7_adds_149 rfl (rk_gI_ok dX7_adds_150 rfl iX7 (by decide) rfl wfX7_88 (rk_iconst_ok dX7_adds_153 (by decide) (rk_iast_ok dX7_adds_154 (rk_aload_n_ok dX7_adds_155 rfl (rk_dup_ok dX7_adds_156 (rk_gI_ok dX7_adds_157 rfl iX7 (by decide) rfl wfX7_88 (rk_iconst_ok dX7_adds_160 (by decide) (rk_iadd_ok dX7_adds_161 (rk_pI_ok dX7_adds_162 rfl iX7 tyX7_ok nmX7 (by decide) rfl rfl (by decide +kernel) wfX7_88 (rk_aload_n_ok dX7_adds_165 rfl (rk_gI_ok dX7_adds_166 rfl iX7 (by decide) rfl wfX7_85 (rk_iret_ok rfl dX7_adds_169))))))))))))))))))))))))))))))))))))))))))))))))))) (rk_bipush_ok dX7_adds_85 (by decide) (rk_iret_ok rfl dX7_adds_87)))))) (rk_aload_n_ok dX7_adds_56 rfl (rk_iload_ok dX7_adds_57 (rk_iload_n_ok dX7_adds_59 rfl (rk_iload_n_ok dX7_adds_60 rfl (rk_cV_ok dX7_adds_61 rfl rfl npX7_isBetween wmX7_95 wvX7_isBetween weX7_isBetween wiX7 wdX7_isBetween (by decide) (by decide) (rk_if_eq_ok (pc' := 70) dX7_adds_64 (by decide) (rk_iinc_ok dX7_adds_70 (by decide) (by decide) (rk_goto_ok (pc' := 47) dX7_adds_73 (by decide) rk_cut_ok)) (rk_bipush_ok dX7_adds_67 (by decide) (rk_iret_ok rfl dX7_adds_69))))))))))))
def bX7_adds_41 (g : rk_G) (R : rk_R) : rk_K := (rk_ci (-2) (rk_iret R))
theorem eX7_adds_41 (g : rk_G) (R : rk_R) (ls st : List Value) (σ : rk_M) : bX7_adds_41 g R ls st σ = (rk_ci (-2) (rk_iret R)) ls st σ := rfl
theorem oX7_adds_41 {g : rk_G} {R : rk_R} : aX7_adds g R 41 (bX7_adds_41 g R) := (rk_bipush_ok dX7_adds_41 (by decide) (rk_iret_ok rfl dX7_adds_43))
def bX7_adds_0 (g : rk_G) (R : rk_R) : rk_K := (rk_aload 0 (rk_iload 1 (rk_cV g 1 7 yX7_isMeeting cX7_isMeeting 2 (some .boolean) 1 (rk_if_eq (bX7_adds_41 g R) (rk_aload 0 (rk_iload 2 (rk_cV g 1 7 yX7_isMeeting cX7_isMeeting 2 (some .boolean) 1 (rk_if_eq (bX7_adds_41 g R) (rk_iload 1 (rk_iload 2 (rk_icmp_eq (bX7_adds_41 g R) (rk_iload 3 (rk_ci (0) (rk_ci (2) (rk_cS g 3 yX7_in cX7_in 3 (some .boolean) 0 (rk_if_eq (bX7_adds_41 g R) (rk_iload 4 (rk_ci (0) (rk_ci (9) (rk_cS g 3 yX7_in cX7_in 3 (some .boolean) 0 (rk_if_ne (rk_ci (0) (rk_istore 5 (kX7_adds g R 47))) (bX7_adds_41 g R))))))))))))))))))))))
theorem eX7_adds_0 (g : rk_G) (R : rk_R) (ls st : List Value) (σ : rk_M) : bX7_adds_0 g R ls st σ = (rk_aload 0 (rk_iload 1 (rk_cV g 1 7 yX7_isMeeting cX7_isMeeting 2 (some .boolean) 1 (rk_if_eq (bX7_adds_41 g R) (rk_aload 0 (rk_iload 2 (rk_cV g 1 7 yX7_isMeeting cX7_isMeeting 2 (some .boolean) 1 (rk_if_eq (bX7_adds_41 g R) (rk_iload 1 (rk_iload 2 (rk_icmp_eq (bX7_adds_41 g R) (rk_iload 3 (rk_ci (0) (rk_ci (2) (rk_cS g 3 yX7_in cX7_in 3 (some .boolean) 0 (rk_if_eq (bX7_adds_41 g R) (rk_iload 4 (rk_ci (0) (rk_ci (9) (rk_cS g 3 yX7_in cX7_in 3 (some .boolean) 0 (rk_if_ne (rk_ci (0) (rk_istore 5 (kX7_adds g R 47))) (bX7_adds_41 g R)))))))))))))))))))))) ls st σ := rfl
theorem oX7_adds_0 {g : rk_G} {R : rk_R} : aX7_adds g R 0 (bX7_adds_0 g R) := (rk_aload_n_ok dX7_adds_0 rfl (rk_iload_n_ok dX7_adds_1 rfl (rk_cV_ok dX7_adds_2 rfl rfl npX7_isMeeting wmX7_91 wvX7_isMeeting weX7_isMeeting wiX7 wdX7_isMeeting (by decide) (by decide) (rk_if_eq_ok (pc' := 41) dX7_adds_5 (by decide) oX7_adds_41 (rk_aload_n_ok dX7_adds_8 rfl (rk_iload_n_ok dX7_adds_9 rfl (rk_cV_ok dX7_adds_10 rfl rfl npX7_isMeeting wmX7_91 wvX7_isMeeting weX7_isMeeting wiX7 wdX7_isMeeting (by decide) (by decide) (rk_if_eq_ok (pc' := 41) dX7_adds_13 (by decide) oX7_adds_41 (rk_iload_n_ok dX7_adds_16 rfl (rk_iload_n_ok dX7_adds_17 rfl (rk_icmp_eq_ok (pc' := 41) dX7_adds_18 (by decide) oX7_adds_41 (rk_iload_n_ok dX7_adds_21 rfl (rk_iconst_ok dX7_adds_22 (by decide) (rk_iconst_ok dX7_adds_23 (by decide) (rk_cS_ok dX7_adds_24 npX7_in wmX7_81 wtX7_in wiX7 wdX7_in (by decide) (by decide) (rk_if_eq_ok (pc' := 41) dX7_adds_27 (by decide) oX7_adds_41 (rk_iload_ok dX7_adds_30 (rk_iconst_ok dX7_adds_32 (by decide) (rk_bipush_ok dX7_adds_33 (by decide) (rk_cS_ok dX7_adds_35 npX7_in wmX7_81 wtX7_in wiX7 wdX7_in (by decide) (by decide) (rk_if_ne_ok (pc' := 44) dX7_adds_38 (by decide) (rk_iconst_ok dX7_adds_44 (by decide) (rk_istore_ok dX7_adds_45 (by decide) rk_cut_ok)) oX7_adds_41)))))))))))))))))))))
theorem dX7_alter_0 : decode cX7_alter 0 = .ok (.aload_n 0, 1) := by decide +kernel
theorem dX7_alter_1 : decode cX7_alter 1 = .ok (.iload_n 1, 1) := by decide +kernel
theorem dX7_alter_2 : decode cX7_alter 2 = .ok (.invokevirtual 102, 3) := by decide +kernel
theorem dX7_alter_5 : decode cX7_alter 5 = .ok (.ifCond .eq 31, 3) := by decide +kernel
theorem dX7_alter_8 : decode cX7_alter 8 = .ok (.iload_n 2, 1) := by decide +kernel
theorem dX7_alter_9 : decode cX7_alter 9 = .ok (.ifCond .ne 12, 3) := by decide +kernel
theorem dX7_alter_12 : decode cX7_alter 12 = .ok (.iload_n 3, 1) := by decide +kernel
theorem dX7_alter_13 : decode cX7_alter 13 = .ok (.iconst 0, 1) := by decide +kernel
theorem dX7_alter_14 : decode cX7_alter 14 = .ok (.iconst 2, 1) := by decide +kernel
theorem dX7_alter_15 : decode cX7_alter 15 = .ok (.invokestatic 81, 3) := by decide +kernel
theorem dX7_alter_18 : decode cX7_alter 18 = .ok (.ifCond .ne 21, 3) := by decide +kernel
theorem dX7_alter_21 : decode cX7_alter 21 = .ok (.iload_n 2, 1) := by decide +kernel
theorem dX7_alter_22 : decode cX7_alter 22 = .ok (.iconst 1, 1) := by decide +kernel
theorem dX7_alter_23 : decode cX7_alter 23 = .ok (.if_icmp .ne 13, 3) := by decide +kernel
theorem dX7_alter_26 : decode cX7_alter 26 = .ok (.iload_n 3, 1) := by decide +kernel
theorem dX7_alter_27 : decode cX7_alter 27 = .ok (.iconst 0, 1) := by decide +kernel
theorem dX7_alter_28 : decode cX7_alter 28 = .ok (.bipush 9, 2) := by decide +kernel
theorem dX7_alter_30 : decode cX7_alter 30 = .ok (.invokestatic 81, 3) := by decide +kernel
theorem dX7_alter_33 : decode cX7_alter 33 = .ok (.ifCond .ne 6, 3) := by decide +kernel
theorem dX7_alter_36 : decode cX7_alter 36 = .ok (.bipush (-2), 2) := by decide +kernel
theorem dX7_alter_38 : decode cX7_alter 38 = .ok (.ireturn, 1) := by decide +kernel
theorem dX7_alter_39 : decode cX7_alter 39 = .ok (.iload_n 2, 1) := by decide +kernel
theorem dX7_alter_40 : decode cX7_alter 40 = .ok (.ifCond .ne 12, 3) := by decide +kernel
theorem dX7_alter_43 : decode cX7_alter 43 = .ok (.aload_n 0, 1) := by decide +kernel
theorem dX7_alter_44 : decode cX7_alter 44 = .ok (.getfield 19, 3) := by decide +kernel
theorem dX7_alter_47 : decode cX7_alter 47 = .ok (.iload_n 1, 1) := by decide +kernel
theorem dX7_alter_48 : decode cX7_alter 48 = .ok (.iaload, 1) := by decide +kernel
theorem dX7_alter_49 : decode cX7_alter 49 = .ok (.goto 9, 3) := by decide +kernel
theorem dX7_alter_52 : decode cX7_alter 52 = .ok (.aload_n 0, 1) := by decide +kernel
theorem dX7_alter_53 : decode cX7_alter 53 = .ok (.getfield 22, 3) := by decide +kernel
theorem dX7_alter_56 : decode cX7_alter 56 = .ok (.iload_n 1, 1) := by decide +kernel
theorem dX7_alter_57 : decode cX7_alter 57 = .ok (.iaload, 1) := by decide +kernel
theorem dX7_alter_58 : decode cX7_alter 58 = .ok (.istore 4, 2) := by decide +kernel
theorem dX7_alter_60 : decode cX7_alter 60 = .ok (.aload_n 0, 1) := by decide +kernel
theorem dX7_alter_61 : decode cX7_alter 61 = .ok (.getfield 19, 3) := by decide +kernel
theorem dX7_alter_64 : decode cX7_alter 64 = .ok (.iload_n 1, 1) := by decide +kernel
theorem dX7_alter_65 : decode cX7_alter 65 = .ok (.iload_n 2, 1) := by decide +kernel
theorem dX7_alter_66 : decode cX7_alter 66 = .ok (.ifCond .ne 7, 3) := by decide +kernel
theorem dX7_alter_69 : decode cX7_alter 69 = .ok (.iload_n 3, 1) := by decide +kernel
theorem dX7_alter_70 : decode cX7_alter 70 = .ok (.goto 9, 3) := by decide +kernel
theorem dX7_alter_73 : decode cX7_alter 73 = .ok (.aload_n 0, 1) := by decide +kernel
theorem dX7_alter_74 : decode cX7_alter 74 = .ok (.getfield 19, 3) := by decide +kernel
theorem dX7_alter_77 : decode cX7_alter 77 = .ok (.iload_n 1, 1) := by decide +kernel
theorem dX7_alter_78 : decode cX7_alter 78 = .ok (.iaload, 1) := by decide +kernel
theorem dX7_alter_79 : decode cX7_alter 79 = .ok (.iastore, 1) := by decide +kernel
theorem dX7_alter_80 : decode cX7_alter 80 = .ok (.aload_n 0, 1) := by decide +kernel
theorem dX7_alter_81 : decode cX7_alter 81 = .ok (.getfield 22, 3) := by decide +kernel
theorem dX7_alter_84 : decode cX7_alter 84 = .ok (.iload_n 1, 1) := by decide +kernel
theorem dX7_alter_85 : decode cX7_alter 85 = .ok (.iload_n 2, 1) := by decide +kernel
theorem dX7_alter_86 : decode cX7_alter 86 = .ok (.iconst 1, 1) := by decide +kernel
theorem dX7_alter_87 : decode cX7_alter 87 = .ok (.if_icmp .ne 7, 3) := by decide +kernel
theorem dX7_alter_90 : decode cX7_alter 90 = .ok (.iload_n 3, 1) := by decide +kernel
theorem dX7_alter_91 : decode cX7_alter 91 = .ok (.goto 9, 3) := by decide +kernel
theorem dX7_alter_94 : decode cX7_alter 94 = .ok (.aload_n 0, 1) := by decide +kernel
theorem dX7_alter_95 : decode cX7_alter 95 = .ok (.getfield 22, 3) := by decide +kernel
theorem dX7_alter_98 : decode cX7_alter 98 = .ok (.iload_n 1, 1) := by decide +kernel
theorem dX7_alter_99 : decode cX7_alter 99 = .ok (.iaload, 1) := by decide +kernel
theorem dX7_alter_100 : decode cX7_alter 100 = .ok (.iastore, 1) := by decide +kernel
theorem dX7_alter_101 : decode cX7_alter 101 = .ok (.iload 4, 2) := by decide +kernel
theorem dX7_alter_103 : decode cX7_alter 103 = .ok (.ireturn, 1) := by decide +kernel
abbrev kX7_alter (g : rk_G) (R : rk_R) (pc : Nat) : rk_K := rk_cut g cX7_alter 5 (some .int) RX7 2 R pc
abbrev aX7_alter (g : rk_G) (R : rk_R) (pc : Nat) (K : rk_K) : Prop := rk_AK g cX7_alter 5 (some .int) RX7 2 R pc K
abbrev sX7_alter (g : rk_G) (vs : List Value) (σ : rk_M) (R : rk_R) : Prop := rk_does g yX7_alter cX7_alter 5 (some .int) 2 vs σ R
abbrev tX7_alter (g : rk_G) (R : rk_R) (pc : Nat) (ls st : List Value) (σ : rk_M) : Prop := rk_At g cX7_alter 5 (some .int) RX7 2 R pc ls st σ
def bX7_alter_100 (g : rk_G) (R : rk_R) : rk_K := (rk_iast (rk_iload 4 (rk_iret R)))
theorem eX7_alter_100 (g : rk_G) (R : rk_R) (ls st : List Value) (σ : rk_M) : bX7_alter_100 g R ls st σ = (rk_iast (rk_iload 4 (rk_iret R))) ls st σ := rfl
theorem oX7_alter_100 {g : rk_G} {R : rk_R} : aX7_alter g R 100 (bX7_alter_100 g R) := (rk_iast_ok dX7_alter_100 (rk_iload_ok dX7_alter_101 (rk_iret_ok rfl dX7_alter_103)))
def bX7_alter_79 (g : rk_G) (R : rk_R) : rk_K := (rk_iast (rk_aload 0 (rk_gR 7 6 (rk_iload 1 (rk_iload 2 (rk_ci (1) (rk_icmp_ne (rk_aload 0 (rk_gR 7 6 (rk_iload 1 (rk_iald (bX7_alter_100 g R))))) (rk_iload 3 (bX7_alter_100 g R)))))))))
theorem eX7_alter_79 (g : rk_G) (R : rk_R) (ls st : List Value) (σ : rk_M) : bX7_alter_79 g R ls st σ = (rk_iast (rk_aload 0 (rk_gR 7 6 (rk_iload 1 (rk_iload 2 (rk_ci (1) (rk_icmp_ne (rk_aload 0 (rk_gR 7 6 (rk_iload 1 (rk_iald (bX7_alter_100 g R))))) (rk_iload 3 (bX7_alter_100 g R))))))))) ls st σ := rfl
theorem oX7_alter_79 {g : rk_G} {R : rk_R} : aX7_alter g R 79 (bX7_alter_79 g R) := (rk_iast_ok dX7_alter_79 (rk_aload_n_ok dX7_alter_80 rfl (rk_gR_ok dX7_alter_81 rfl iX7 (by decide) rfl wfX7_22 (rk_iload_n_ok dX7_alter_84 rfl (rk_iload_n_ok dX7_alter_85 rfl (rk_iconst_ok dX7_alter_86 (by decide) (rk_icmp_ne_ok (pc' := 94) dX7_alter_87 (by decide) (rk_aload_n_ok dX7_alter_94 rfl (rk_gR_ok dX7_alter_95 rfl iX7 (by decide) rfl wfX7_22 (rk_iload_n_ok dX7_alter_98 rfl (rk_iald_ok dX7_alter_99 oX7_alter_100)))) (rk_iload_n_ok dX7_alter_90 rfl (rk_goto_ok (pc' := 100) dX7_alter_91 (by decide) oX7_alter_100)))))))))
def bX7_alter_58 (g : rk_G) (R : rk_R) : rk_K := (rk_istore 4 (rk_aload 0 (rk_gR 7 5 (rk_iload 1 (rk_iload 2 (rk_if_ne (rk_aload 0 (rk_gR 7 5 (rk_iload 1 (rk_iald (bX7_alter_79 g R))))) (rk_iload 3 (bX7_alter_79 g R))))))))
theorem eX7_alter_58 (g : rk_G) (R : rk_R) (ls st : List Value) (σ : rk_M) : bX7_alter_58 g R ls st σ = (rk_istore 4 (rk_aload 0 (rk_gR 7 5 (rk_iload 1 (rk_iload 2 (rk_if_ne (rk_aload 0 (rk_gR 7 5 (rk_iload 1 (rk_iald (bX7_alter_79 g R))))) (rk_iload 3 (bX7_alter_79 g R)))))))) ls st σ := rfl
theorem oX7_alter_58 {g : rk_G} {R : rk_R} : aX7_alter g R 58 (bX7_alter_58 g R) := (rk_istore_ok dX7_alter_58 (by decide) (rk_aload_n_ok dX7_alter_60 rfl (rk_gR_ok dX7_alter_61 rfl iX7 (by decide) rfl wfX7_19 (rk_iload_n_ok dX7_alter_64 rfl (rk_iload_n_ok dX7_alter_65 rfl (rk_if_ne_ok (pc' := 73) dX7_alter_66 (by decide) (rk_aload_n_ok dX7_alter_73 rfl (rk_gR_ok dX7_alter_74 rfl iX7 (by decide) rfl wfX7_19 (rk_iload_n_ok dX7_alter_77 rfl (rk_iald_ok dX7_alter_78 oX7_alter_79)))) (rk_iload_n_ok dX7_alter_69 rfl (rk_goto_ok (pc' := 79) dX7_alter_70 (by decide) oX7_alter_79))))))))
def bX7_alter_39 (g : rk_G) (R : rk_R) : rk_K := (rk_iload 2 (rk_if_ne (rk_aload 0 (rk_gR 7 6 (rk_iload 1 (rk_iald (bX7_alter_58 g R))))) (rk_aload 0 (rk_gR 7 5 (rk_iload 1 (rk_iald (bX7_alter_58 g R)))))))
theorem eX7_alter_39 (g : rk_G) (R : rk_R) (ls st : List Value) (σ : rk_M) : bX7_alter_39 g R ls st σ = (rk_iload 2 (rk_if_ne (rk_aload 0 (rk_gR 7 6 (rk_iload 1 (rk_iald (bX7_alter_58 g R))))) (rk_aload 0 (rk_gR 7 5 (rk_iload 1 (rk_iald (bX7_alter_58 g R))))))) ls st σ := rfl
theorem oX7_alter_39 {g : rk_G} {R : rk_R} : aX7_alter g R 39 (bX7_alter_39 g R) := (rk_iload_n_ok dX7_alter_39 rfl (rk_if_ne_ok (pc' := 52) dX7_alter_40 (by decide) (rk_aload_n_ok dX7_alter_52 rfl (rk_gR_ok dX7_alter_53 rfl iX7 (by decide) rfl wfX7_22 (rk_iload_n_ok dX7_alter_56 rfl (rk_iald_ok dX7_alter_57 oX7_alter_58)))) (rk_aload_n_ok dX7_alter_43 rfl (rk_gR_ok dX7_alter_44 rfl iX7 (by decide) rfl wfX7_19 (rk_iload_n_ok dX7_alter_47 rfl (rk_iald_ok dX7_alter_48 (rk_goto_ok (pc' := 58) dX7_alter_49 (by decide) oX7_alter_58)))))))
def bX7_alter_36 (g : rk_G) (R : rk_R) : rk_K := (rk_ci (-2) (rk_iret R))
theorem eX7_alter_36 (g : rk_G) (R : rk_R) (ls st : List Value) (σ : rk_M) : bX7_alter_36 g R ls st σ = (rk_ci (-2) (rk_iret R)) ls st σ := rfl
theorem oX7_alter_36 {g : rk_G} {R : rk_R} : aX7_alter g R 36 (bX7_alter_36 g R) := (rk_bipush_ok dX7_alter_36 (by decide) (rk_iret_ok rfl dX7_alter_38))
def bX7_alter_21 (g : rk_G) (R : rk_R) : rk_K := (rk_iload 2 (rk_ci (1) (rk_icmp_ne (bX7_alter_36 g R) (rk_iload 3 (rk_ci (0) (rk_ci (9) (rk_cS g 3 yX7_in cX7_in 3 (some .boolean) 0 (rk_if_ne (bX7_alter_39 g R) (bX7_alter_36 g R)))))))))
theorem eX7_alter_21 (g : rk_G) (R : rk_R) (ls st : List Value) (σ : rk_M) : bX7_alter_21 g R ls st σ = (rk_iload 2 (rk_ci (1) (rk_icmp_ne (bX7_alter_36 g R) (rk_iload 3 (rk_ci (0) (rk_ci (9) (rk_cS g 3 yX7_in cX7_in 3 (some .boolean) 0 (rk_if_ne (bX7_alter_39 g R) (bX7_alter_36 g R))))))))) ls st σ := rfl
theorem oX7_alter_21 {g : rk_G} {R : rk_R} : aX7_alter g R 21 (bX7_alter_21 g R) := (rk_iload_n_ok dX7_alter_21 rfl (rk_iconst_ok dX7_alter_22 (by decide) (rk_icmp_ne_ok (pc' := 36) dX7_alter_23 (by decide) oX7_alter_36 (rk_iload_n_ok dX7_alter_26 rfl (rk_iconst_ok dX7_alter_27 (by decide) (rk_bipush_ok dX7_alter_28 (by decide) (rk_cS_ok dX7_alter_30 npX7_in wmX7_81 wtX7_in wiX7 wdX7_in (by decide) (by decide) (rk_if_ne_ok (pc' := 39) dX7_alter_33 (by decide) oX7_alter_39 oX7_alter_36))))))))
def bX7_alter_0 (g : rk_G) (R : rk_R) : rk_K := (rk_aload 0 (rk_iload 1 (rk_cV g 1 7 yX7_isRoad cX7_isRoad 2 (some .boolean) 1 (rk_if_eq (bX7_alter_36 g R) (rk_iload 2 (rk_if_ne (bX7_alter_21 g R) (rk_iload 3 (rk_ci (0) (rk_ci (2) (rk_cS g 3 yX7_in cX7_in 3 (some .boolean) 0 (rk_if_ne (bX7_alter_39 g R) (bX7_alter_21 g R))))))))))))
theorem eX7_alter_0 (g : rk_G) (R : rk_R) (ls st : List Value) (σ : rk_M) : bX7_alter_0 g R ls st σ = (rk_aload 0 (rk_iload 1 (rk_cV g 1 7 yX7_isRoad cX7_isRoad 2 (some .boolean) 1 (rk_if_eq (bX7_alter_36 g R) (rk_iload 2 (rk_if_ne (bX7_alter_21 g R) (rk_iload 3 (rk_ci (0) (rk_ci (2) (rk_cS g 3 yX7_in cX7_in 3 (some .boolean) 0 (rk_if_ne (bX7_alter_39 g R) (bX7_alter_21 g R)))))))))))) ls st σ := rfl
theorem oX7_alter_0 {g : rk_G} {R : rk_R} : aX7_alter g R 0 (bX7_alter_0 g R) := (rk_aload_n_ok dX7_alter_0 rfl (rk_iload_n_ok dX7_alter_1 rfl (rk_cV_ok dX7_alter_2 rfl rfl npX7_isRoad wmX7_102 wvX7_isRoad weX7_isRoad wiX7 wdX7_isRoad (by decide) (by decide) (rk_if_eq_ok (pc' := 36) dX7_alter_5 (by decide) oX7_alter_36 (rk_iload_n_ok dX7_alter_8 rfl (rk_if_ne_ok (pc' := 21) dX7_alter_9 (by decide) oX7_alter_21 (rk_iload_n_ok dX7_alter_12 rfl (rk_iconst_ok dX7_alter_13 (by decide) (rk_iconst_ok dX7_alter_14 (by decide) (rk_cS_ok dX7_alter_15 npX7_in wmX7_81 wtX7_in wiX7 wdX7_in (by decide) (by decide) (rk_if_ne_ok (pc' := 39) dX7_alter_18 (by decide) oX7_alter_39 oX7_alter_21)))))))))))
theorem dX7_atOf_0 : decode cX7_atOf 0 = .ok (.iload_n 2, 1) := by decide +kernel
theorem dX7_atOf_1 : decode cX7_atOf 1 = .ok (.ifCond .ne 12, 3) := by decide +kernel
theorem dX7_atOf_4 : decode cX7_atOf 4 = .ok (.aload_n 0, 1) := by decide +kernel
theorem dX7_atOf_5 : decode cX7_atOf 5 = .ok (.getfield 7, 3) := by decide +kernel
theorem dX7_atOf_8 : decode cX7_atOf 8 = .ok (.iload_n 1, 1) := by decide +kernel
theorem dX7_atOf_9 : decode cX7_atOf 9 = .ok (.iaload, 1) := by decide +kernel
theorem dX7_atOf_10 : decode cX7_atOf 10 = .ok (.goto 22, 3) := by decide +kernel
theorem dX7_atOf_13 : decode cX7_atOf 13 = .ok (.iload_n 2, 1) := by decide +kernel
theorem dX7_atOf_14 : decode cX7_atOf 14 = .ok (.iconst 1, 1) := by decide +kernel
theorem dX7_atOf_15 : decode cX7_atOf 15 = .ok (.if_icmp .ne 12, 3) := by decide +kernel
theorem dX7_atOf_18 : decode cX7_atOf 18 = .ok (.aload_n 0, 1) := by decide +kernel
theorem dX7_atOf_19 : decode cX7_atOf 19 = .ok (.getfield 13, 3) := by decide +kernel
theorem dX7_atOf_22 : decode cX7_atOf 22 = .ok (.iload_n 1, 1) := by decide +kernel
theorem dX7_atOf_23 : decode cX7_atOf 23 = .ok (.iaload, 1) := by decide +kernel
theorem dX7_atOf_24 : decode cX7_atOf 24 = .ok (.goto 8, 3) := by decide +kernel
theorem dX7_atOf_27 : decode cX7_atOf 27 = .ok (.aload_n 0, 1) := by decide +kernel
theorem dX7_atOf_28 : decode cX7_atOf 28 = .ok (.iload_n 1, 1) := by decide +kernel
theorem dX7_atOf_29 : decode cX7_atOf 29 = .ok (.invokevirtual 116, 3) := by decide +kernel
theorem dX7_atOf_32 : decode cX7_atOf 32 = .ok (.ireturn, 1) := by decide +kernel
abbrev kX7_atOf (g : rk_G) (R : rk_R) (pc : Nat) : rk_K := rk_cut g cX7_atOf 3 (some .int) RX7 2 R pc
abbrev aX7_atOf (g : rk_G) (R : rk_R) (pc : Nat) (K : rk_K) : Prop := rk_AK g cX7_atOf 3 (some .int) RX7 2 R pc K
abbrev sX7_atOf (g : rk_G) (vs : List Value) (σ : rk_M) (R : rk_R) : Prop := rk_does g yX7_atOf cX7_atOf 3 (some .int) 2 vs σ R
abbrev tX7_atOf (g : rk_G) (R : rk_R) (pc : Nat) (ls st : List Value) (σ : rk_M) : Prop := rk_At g cX7_atOf 3 (some .int) RX7 2 R pc ls st σ
def bX7_atOf_32 (g : rk_G) (R : rk_R) : rk_K := (rk_iret R)
theorem eX7_atOf_32 (g : rk_G) (R : rk_R) (ls st : List Value) (σ : rk_M) : bX7_atOf_32 g R ls st σ = (rk_iret R) ls st σ := rfl
theorem oX7_atOf_32 {g : rk_G} {R : rk_R} : aX7_atOf g R 32 (bX7_atOf_32 g R) := (rk_iret_ok rfl dX7_atOf_32)
def bX7_atOf_0 (g : rk_G) (R : rk_R) : rk_K := (rk_iload 2 (rk_if_ne (rk_iload 2 (rk_ci (1) (rk_icmp_ne (rk_aload 0 (rk_iload 1 (rk_cV g 1 7 yX7_roadsAt cX7_roadsAt 4 (some .int) 1 (bX7_atOf_32 g R)))) (rk_aload 0 (rk_gR 7 2 (rk_iload 1 (rk_iald (bX7_atOf_32 g R)))))))) (rk_aload 0 (rk_gR 7 1 (rk_iload 1 (rk_iald (bX7_atOf_32 g R)))))))
theorem eX7_atOf_0 (g : rk_G) (R : rk_R) (ls st : List Value) (σ : rk_M) : bX7_atOf_0 g R ls st σ = (rk_iload 2 (rk_if_ne (rk_iload 2 (rk_ci (1) (rk_icmp_ne (rk_aload 0 (rk_iload 1 (rk_cV g 1 7 yX7_roadsAt cX7_roadsAt 4 (some .int) 1 (bX7_atOf_32 g R)))) (rk_aload 0 (rk_gR 7 2 (rk_iload 1 (rk_iald (bX7_atOf_32 g R)))))))) (rk_aload 0 (rk_gR 7 1 (rk_iload 1 (rk_iald (bX7_atOf_32 g R))))))) ls st σ := rfl
theorem oX7_atOf_0 {g : rk_G} {R : rk_R} : aX7_atOf g R 0 (bX7_atOf_0 g R) := (rk_iload_n_ok dX7_atOf_0 rfl (rk_if_ne_ok (pc' := 13) dX7_atOf_1 (by decide) (rk_iload_n_ok dX7_atOf_13 rfl (rk_iconst_ok dX7_atOf_14 (by decide) (rk_icmp_ne_ok (pc' := 27) dX7_atOf_15 (by decide) (rk_aload_n_ok dX7_atOf_27 rfl (rk_iload_n_ok dX7_atOf_28 rfl (rk_cV_ok dX7_atOf_29 rfl rfl npX7_roadsAt wmX7_116 wvX7_roadsAt weX7_roadsAt wiX7 wdX7_roadsAt (by decide) (by decide) oX7_atOf_32))) (rk_aload_n_ok dX7_atOf_18 rfl (rk_gR_ok dX7_atOf_19 rfl iX7 (by decide) rfl wfX7_13 (rk_iload_n_ok dX7_atOf_22 rfl (rk_iald_ok dX7_atOf_23 (rk_goto_ok (pc' := 32) dX7_atOf_24 (by decide) oX7_atOf_32)))))))) (rk_aload_n_ok dX7_atOf_4 rfl (rk_gR_ok dX7_atOf_5 rfl iX7 (by decide) rfl wfX7_7 (rk_iload_n_ok dX7_atOf_8 rfl (rk_iald_ok dX7_atOf_9 (rk_goto_ok (pc' := 32) dX7_atOf_10 (by decide) oX7_atOf_32)))))))
theorem dX7_own_0 : decode cX7_own 0 = .ok (.aload_n 0, 1) := by decide +kernel
theorem dX7_own_1 : decode cX7_own 1 = .ok (.iload_n 1, 1) := by decide +kernel
theorem dX7_own_2 : decode cX7_own 2 = .ok (.iload_n 2, 1) := by decide +kernel
theorem dX7_own_3 : decode cX7_own 3 = .ok (.iload_n 2, 1) := by decide +kernel
theorem dX7_own_4 : decode cX7_own 4 = .ok (.invokevirtual 129, 3) := by decide +kernel
theorem dX7_own_7 : decode cX7_own 7 = .ok (.aload_n 0, 1) := by decide +kernel
theorem dX7_own_8 : decode cX7_own 8 = .ok (.iload_n 1, 1) := by decide +kernel
theorem dX7_own_9 : decode cX7_own 9 = .ok (.iload_n 3, 1) := by decide +kernel
theorem dX7_own_10 : decode cX7_own 10 = .ok (.iload_n 3, 1) := by decide +kernel
theorem dX7_own_11 : decode cX7_own 11 = .ok (.invokevirtual 129, 3) := by decide +kernel
theorem dX7_own_14 : decode cX7_own 14 = .ok (.lmul, 1) := by decide +kernel
theorem dX7_own_15 : decode cX7_own 15 = .ok (.lreturn, 1) := by decide +kernel
abbrev kX7_own (g : rk_G) (R : rk_R) (pc : Nat) : rk_K := rk_cut g cX7_own 4 (some .long) RX7 2 R pc
abbrev aX7_own (g : rk_G) (R : rk_R) (pc : Nat) (K : rk_K) : Prop := rk_AK g cX7_own 4 (some .long) RX7 2 R pc K
abbrev sX7_own (g : rk_G) (vs : List Value) (σ : rk_M) (R : rk_R) : Prop := rk_does g yX7_own cX7_own 4 (some .long) 2 vs σ R
abbrev tX7_own (g : rk_G) (R : rk_R) (pc : Nat) (ls st : List Value) (σ : rk_M) : Prop := rk_At g cX7_own 4 (some .long) RX7 2 R pc ls st σ
def bX7_own_0 (g : rk_G) (R : rk_R) : rk_K := (rk_aload 0 (rk_iload 1 (rk_iload 2 (rk_iload 2 (rk_cV g 3 7 yX7_product cX7_product 6 (some .long) 1 (rk_aload 0 (rk_iload 1 (rk_iload 3 (rk_iload 3 (rk_cV g 3 7 yX7_product cX7_product 6 (some .long) 1 (rk_lmul (rk_lret R))))))))))))
theorem eX7_own_0 (g : rk_G) (R : rk_R) (ls st : List Value) (σ : rk_M) : bX7_own_0 g R ls st σ = (rk_aload 0 (rk_iload 1 (rk_iload 2 (rk_iload 2 (rk_cV g 3 7 yX7_product cX7_product 6 (some .long) 1 (rk_aload 0 (rk_iload 1 (rk_iload 3 (rk_iload 3 (rk_cV g 3 7 yX7_product cX7_product 6 (some .long) 1 (rk_lmul (rk_lret R)))))))))))) ls st σ := rfl
theorem oX7_own_0 {g : rk_G} {R : rk_R} : aX7_own g R 0 (bX7_own_0 g R) := (rk_aload_n_ok dX7_own_0 rfl (rk_iload_n_ok dX7_own_1 rfl (rk_iload_n_ok dX7_own_2 rfl (rk_iload_n_ok dX7_own_3 rfl (rk_cV_ok dX7_own_4 rfl rfl npX7_product wmX7_129 wvX7_product weX7_product wiX7 wdX7_product (by decide) (by decide) (rk_aload_n_ok dX7_own_7 rfl (rk_iload_n_ok dX7_own_8 rfl (rk_iload_n_ok dX7_own_9 rfl (rk_iload_n_ok dX7_own_10 rfl (rk_cV_ok dX7_own_11 rfl rfl npX7_product wmX7_129 wvX7_product weX7_product wiX7 wdX7_product (by decide) (by decide) (rk_lmul_ok dX7_own_14 (rk_lret_ok rfl dX7_own_15))))))))))))
theorem dX7_worth_0 : decode cX7_worth 0 = .ok (.iload_n 1, 1) := by decide +kernel
theorem dX7_worth_1 : decode cX7_worth 1 = .ok (.aload_n 0, 1) := by decide +kernel
theorem dX7_worth_2 : decode cX7_worth 2 = .ok (.getfield 153, 3) := by decide +kernel
theorem dX7_worth_5 : decode cX7_worth 5 = .ok (.if_icmp .ne 8, 3) := by decide +kernel
theorem dX7_worth_8 : decode cX7_worth 8 = .ok (.bipush 9, 2) := by decide +kernel
theorem dX7_worth_10 : decode cX7_worth 10 = .ok (.goto 9, 3) := by decide +kernel
theorem dX7_worth_13 : decode cX7_worth 13 = .ok (.aload_n 0, 1) := by decide +kernel
theorem dX7_worth_14 : decode cX7_worth 14 = .ok (.getfield 22, 3) := by decide +kernel
theorem dX7_worth_17 : decode cX7_worth 17 = .ok (.iload_n 1, 1) := by decide +kernel
theorem dX7_worth_18 : decode cX7_worth 18 = .ok (.iaload, 1) := by decide +kernel
theorem dX7_worth_19 : decode cX7_worth 19 = .ok (.istore_n 2, 1) := by decide +kernel
theorem dX7_worth_20 : decode cX7_worth 20 = .ok (.aload_n 0, 1) := by decide +kernel
theorem dX7_worth_21 : decode cX7_worth 21 = .ok (.getfield 19, 3) := by decide +kernel
theorem dX7_worth_24 : decode cX7_worth 24 = .ok (.iload_n 1, 1) := by decide +kernel
theorem dX7_worth_25 : decode cX7_worth 25 = .ok (.iaload, 1) := by decide +kernel
theorem dX7_worth_26 : decode cX7_worth 26 = .ok (.ifCond .ne 9, 3) := by decide +kernel
theorem dX7_worth_29 : decode cX7_worth 29 = .ok (.iload_n 2, 1) := by decide +kernel
theorem dX7_worth_30 : decode cX7_worth 30 = .ok (.iconst 1, 1) := by decide +kernel
theorem dX7_worth_31 : decode cX7_worth 31 = .ok (.iadd, 1) := by decide +kernel
theorem dX7_worth_32 : decode cX7_worth 32 = .ok (.goto 25, 3) := by decide +kernel
theorem dX7_worth_35 : decode cX7_worth 35 = .ok (.aload_n 0, 1) := by decide +kernel
theorem dX7_worth_36 : decode cX7_worth 36 = .ok (.getfield 19, 3) := by decide +kernel
theorem dX7_worth_39 : decode cX7_worth 39 = .ok (.iload_n 1, 1) := by decide +kernel
theorem dX7_worth_40 : decode cX7_worth 40 = .ok (.iaload, 1) := by decide +kernel
theorem dX7_worth_41 : decode cX7_worth 41 = .ok (.iconst 1, 1) := by decide +kernel
theorem dX7_worth_42 : decode cX7_worth 42 = .ok (.if_icmp .ne 11, 3) := by decide +kernel
theorem dX7_worth_45 : decode cX7_worth 45 = .ok (.iconst 2, 1) := by decide +kernel
theorem dX7_worth_46 : decode cX7_worth 46 = .ok (.iload_n 2, 1) := by decide +kernel
theorem dX7_worth_47 : decode cX7_worth 47 = .ok (.iconst 1, 1) := by decide +kernel
theorem dX7_worth_48 : decode cX7_worth 48 = .ok (.iadd, 1) := by decide +kernel
theorem dX7_worth_49 : decode cX7_worth 49 = .ok (.imul, 1) := by decide +kernel
theorem dX7_worth_50 : decode cX7_worth 50 = .ok (.goto 7, 3) := by decide +kernel
theorem dX7_worth_53 : decode cX7_worth 53 = .ok (.iload_n 2, 1) := by decide +kernel
theorem dX7_worth_54 : decode cX7_worth 54 = .ok (.bipush 12, 2) := by decide +kernel
theorem dX7_worth_56 : decode cX7_worth 56 = .ok (.iadd, 1) := by decide +kernel
theorem dX7_worth_57 : decode cX7_worth 57 = .ok (.istore_n 3, 1) := by decide +kernel
theorem dX7_worth_58 : decode cX7_worth 58 = .ok (.aload_n 0, 1) := by decide +kernel
theorem dX7_worth_59 : decode cX7_worth 59 = .ok (.iload_n 1, 1) := by decide +kernel
theorem dX7_worth_60 : decode cX7_worth 60 = .ok (.invokevirtual 156, 3) := by decide +kernel
theorem dX7_worth_63 : decode cX7_worth 63 = .ok (.iload_n 3, 1) := by decide +kernel
theorem dX7_worth_64 : decode cX7_worth 64 = .ok (.imul, 1) := by decide +kernel
theorem dX7_worth_65 : decode cX7_worth 65 = .ok (.ireturn, 1) := by decide +kernel
abbrev kX7_worth (g : rk_G) (R : rk_R) (pc : Nat) : rk_K := rk_cut g cX7_worth 4 (some .int) RX7 2 R pc
abbrev aX7_worth (g : rk_G) (R : rk_R) (pc : Nat) (K : rk_K) : Prop := rk_AK g cX7_worth 4 (some .int) RX7 2 R pc K
abbrev sX7_worth (g : rk_G) (vs : List Value) (σ : rk_M) (R : rk_R) : Prop := rk_does g yX7_worth cX7_worth 4 (some .int) 2 vs σ R
abbrev tX7_worth (g : rk_G) (R : rk_R) (pc : Nat) (ls st : List Value) (σ : rk_M) : Prop := rk_At g cX7_worth 4 (some .int) RX7 2 R pc ls st σ
def bX7_worth_57 (g : rk_G) (R : rk_R) : rk_K := (rk_istore 3 (rk_aload 0 (rk_iload 1 (rk_cV g 1 7 yX7_length cX7_length 4 (some .int) 1 (rk_iload 3 (rk_imul (rk_iret R)))))))
theorem eX7_worth_57 (g : rk_G) (R : rk_R) (ls st : List Value) (σ : rk_M) : bX7_worth_57 g R ls st σ = (rk_istore 3 (rk_aload 0 (rk_iload 1 (rk_cV g 1 7 yX7_length cX7_length 4 (some .int) 1 (rk_iload 3 (rk_imul (rk_iret R))))))) ls st σ := rfl
theorem oX7_worth_57 {g : rk_G} {R : rk_R} : aX7_worth g R 57 (bX7_worth_57 g R) := (rk_istore_n_ok dX7_worth_57 rfl (by decide) (rk_aload_n_ok dX7_worth_58 rfl (rk_iload_n_ok dX7_worth_59 rfl (rk_cV_ok dX7_worth_60 rfl rfl npX7_length wmX7_156 wvX7_length weX7_length wiX7 wdX7_length (by decide) (by decide) (rk_iload_n_ok dX7_worth_63 rfl (rk_imul_ok dX7_worth_64 (rk_iret_ok rfl dX7_worth_65)))))))
def bX7_worth_19 (g : rk_G) (R : rk_R) : rk_K := (rk_istore 2 (rk_aload 0 (rk_gR 7 5 (rk_iload 1 (rk_iald (rk_if_ne (rk_aload 0 (rk_gR 7 5 (rk_iload 1 (rk_iald (rk_ci (1) (rk_icmp_ne (rk_iload 2 (rk_ci (12) (rk_iadd (bX7_worth_57 g R)))) (rk_ci (2) (rk_iload 2 (rk_ci (1) (rk_iadd (rk_imul (bX7_worth_57 g R)))))))))))) (rk_iload 2 (rk_ci (1) (rk_iadd (bX7_worth_57 g R))))))))))
theorem eX7_worth_19 (g : rk_G) (R : rk_R) (ls st : List Value) (σ : rk_M) : bX7_worth_19 g R ls st σ = (rk_istore 2 (rk_aload 0 (rk_gR 7 5 (rk_iload 1 (rk_iald (rk_if_ne (rk_aload 0 (rk_gR 7 5 (rk_iload 1 (rk_iald (rk_ci (1) (rk_icmp_ne (rk_iload 2 (rk_ci (12) (rk_iadd (bX7_worth_57 g R)))) (rk_ci (2) (rk_iload 2 (rk_ci (1) (rk_iadd (rk_imul (bX7_worth_57 g R)))))))))))) (rk_iload 2 (rk_ci (1) (rk_iadd (bX7_worth_57 g R)))))))))) ls st σ := rfl
theorem oX7_worth_19 {g : rk_G} {R : rk_R} : aX7_worth g R 19 (bX7_worth_19 g R) := (rk_istore_n_ok dX7_worth_19 rfl (by decide) (rk_aload_n_ok dX7_worth_20 rfl (rk_gR_ok dX7_worth_21 rfl iX7 (by decide) rfl wfX7_19 (rk_iload_n_ok dX7_worth_24 rfl (rk_iald_ok dX7_worth_25 (rk_if_ne_ok (pc' := 35) dX7_worth_26 (by decide) (rk_aload_n_ok dX7_worth_35 rfl (rk_gR_ok dX7_worth_36 rfl iX7 (by decide) rfl wfX7_19 (rk_iload_n_ok dX7_worth_39 rfl (rk_iald_ok dX7_worth_40 (rk_iconst_ok dX7_worth_41 (by decide) (rk_icmp_ne_ok (pc' := 53) dX7_worth_42 (by decide) (rk_iload_n_ok dX7_worth_53 rfl (rk_bipush_ok dX7_worth_54 (by decide) (rk_iadd_ok dX7_worth_56 oX7_worth_57))) (rk_iconst_ok dX7_worth_45 (by decide) (rk_iload_n_ok dX7_worth_46 rfl (rk_iconst_ok dX7_worth_47 (by decide) (rk_iadd_ok dX7_worth_48 (rk_imul_ok dX7_worth_49 (rk_goto_ok (pc' := 57) dX7_worth_50 (by decide) oX7_worth_57)))))))))))) (rk_iload_n_ok dX7_worth_29 rfl (rk_iconst_ok dX7_worth_30 (by decide) (rk_iadd_ok dX7_worth_31 (rk_goto_ok (pc' := 57) dX7_worth_32 (by decide) oX7_worth_57))))))))))
def bX7_worth_0 (g : rk_G) (R : rk_R) : rk_K := (rk_iload 1 (rk_aload 0 (rk_gI 7 18 (rk_icmp_ne (rk_aload 0 (rk_gR 7 6 (rk_iload 1 (rk_iald (bX7_worth_19 g R))))) (rk_ci (9) (bX7_worth_19 g R))))))
theorem eX7_worth_0 (g : rk_G) (R : rk_R) (ls st : List Value) (σ : rk_M) : bX7_worth_0 g R ls st σ = (rk_iload 1 (rk_aload 0 (rk_gI 7 18 (rk_icmp_ne (rk_aload 0 (rk_gR 7 6 (rk_iload 1 (rk_iald (bX7_worth_19 g R))))) (rk_ci (9) (bX7_worth_19 g R)))))) ls st σ := rfl
theorem oX7_worth_0 {g : rk_G} {R : rk_R} : aX7_worth g R 0 (bX7_worth_0 g R) := (rk_iload_n_ok dX7_worth_0 rfl (rk_aload_n_ok dX7_worth_1 rfl (rk_gI_ok dX7_worth_2 rfl iX7 (by decide) rfl wfX7_153 (rk_icmp_ne_ok (pc' := 13) dX7_worth_5 (by decide) (rk_aload_n_ok dX7_worth_13 rfl (rk_gR_ok dX7_worth_14 rfl iX7 (by decide) rfl wfX7_22 (rk_iload_n_ok dX7_worth_17 rfl (rk_iald_ok dX7_worth_18 oX7_worth_19)))) (rk_bipush_ok dX7_worth_8 (by decide) (rk_goto_ok (pc' := 19) dX7_worth_10 (by decide) oX7_worth_19))))))
theorem dX7_strokeOf_0 : decode cX7_strokeOf 0 = .ok (.iload_n 2, 1) := by decide +kernel
theorem dX7_strokeOf_1 : decode cX7_strokeOf 1 = .ok (.tableswitch 84 0 5 #[39, 49, 56, 63, 70, 77], 39) := by decide +kernel
theorem dX7_strokeOf_40 : decode cX7_strokeOf 40 = .ok (.aload_n 0, 1) := by decide +kernel
theorem dX7_strokeOf_41 : decode cX7_strokeOf 41 = .ok (.getfield 34, 3) := by decide +kernel
theorem dX7_strokeOf_44 : decode cX7_strokeOf 44 = .ok (.iload_n 1, 1) := by decide +kernel
theorem dX7_strokeOf_45 : decode cX7_strokeOf 45 = .ok (.iaload, 1) := by decide +kernel
theorem dX7_strokeOf_46 : decode cX7_strokeOf 46 = .ok (.invokestatic 207, 3) := by decide +kernel
theorem dX7_strokeOf_49 : decode cX7_strokeOf 49 = .ok (.ireturn, 1) := by decide +kernel
theorem dX7_strokeOf_50 : decode cX7_strokeOf 50 = .ok (.aload_n 0, 1) := by decide +kernel
theorem dX7_strokeOf_51 : decode cX7_strokeOf 51 = .ok (.getfield 40, 3) := by decide +kernel
theorem dX7_strokeOf_54 : decode cX7_strokeOf 54 = .ok (.iload_n 1, 1) := by decide +kernel
theorem dX7_strokeOf_55 : decode cX7_strokeOf 55 = .ok (.iaload, 1) := by decide +kernel
theorem dX7_strokeOf_56 : decode cX7_strokeOf 56 = .ok (.ireturn, 1) := by decide +kernel
theorem dX7_strokeOf_57 : decode cX7_strokeOf 57 = .ok (.aload_n 0, 1) := by decide +kernel
theorem dX7_strokeOf_58 : decode cX7_strokeOf 58 = .ok (.getfield 43, 3) := by decide +kernel
theorem dX7_strokeOf_61 : decode cX7_strokeOf 61 = .ok (.iload_n 1, 1) := by decide +kernel
theorem dX7_strokeOf_62 : decode cX7_strokeOf 62 = .ok (.iaload, 1) := by decide +kernel
theorem dX7_strokeOf_63 : decode cX7_strokeOf 63 = .ok (.ireturn, 1) := by decide +kernel
theorem dX7_strokeOf_64 : decode cX7_strokeOf 64 = .ok (.aload_n 0, 1) := by decide +kernel
theorem dX7_strokeOf_65 : decode cX7_strokeOf 65 = .ok (.getfield 46, 3) := by decide +kernel
theorem dX7_strokeOf_68 : decode cX7_strokeOf 68 = .ok (.iload_n 1, 1) := by decide +kernel
theorem dX7_strokeOf_69 : decode cX7_strokeOf 69 = .ok (.iaload, 1) := by decide +kernel
theorem dX7_strokeOf_70 : decode cX7_strokeOf 70 = .ok (.ireturn, 1) := by decide +kernel
theorem dX7_strokeOf_71 : decode cX7_strokeOf 71 = .ok (.aload_n 0, 1) := by decide +kernel
theorem dX7_strokeOf_72 : decode cX7_strokeOf 72 = .ok (.getfield 52, 3) := by decide +kernel
theorem dX7_strokeOf_75 : decode cX7_strokeOf 75 = .ok (.iload_n 1, 1) := by decide +kernel
theorem dX7_strokeOf_76 : decode cX7_strokeOf 76 = .ok (.iaload, 1) := by decide +kernel
theorem dX7_strokeOf_77 : decode cX7_strokeOf 77 = .ok (.ireturn, 1) := by decide +kernel
theorem dX7_strokeOf_78 : decode cX7_strokeOf 78 = .ok (.aload_n 0, 1) := by decide +kernel
theorem dX7_strokeOf_79 : decode cX7_strokeOf 79 = .ok (.getfield 55, 3) := by decide +kernel
theorem dX7_strokeOf_82 : decode cX7_strokeOf 82 = .ok (.iload_n 1, 1) := by decide +kernel
theorem dX7_strokeOf_83 : decode cX7_strokeOf 83 = .ok (.iaload, 1) := by decide +kernel
theorem dX7_strokeOf_84 : decode cX7_strokeOf 84 = .ok (.ireturn, 1) := by decide +kernel
theorem dX7_strokeOf_85 : decode cX7_strokeOf 85 = .ok (.aload_n 0, 1) := by decide +kernel
theorem dX7_strokeOf_86 : decode cX7_strokeOf 86 = .ok (.getfield 34, 3) := by decide +kernel
theorem dX7_strokeOf_89 : decode cX7_strokeOf 89 = .ok (.iload_n 1, 1) := by decide +kernel
theorem dX7_strokeOf_90 : decode cX7_strokeOf 90 = .ok (.iaload, 1) := by decide +kernel
theorem dX7_strokeOf_91 : decode cX7_strokeOf 91 = .ok (.ireturn, 1) := by decide +kernel
abbrev kX7_strokeOf (g : rk_G) (R : rk_R) (pc : Nat) : rk_K := rk_cut g cX7_strokeOf 3 (some .int) RX7 2 R pc
abbrev aX7_strokeOf (g : rk_G) (R : rk_R) (pc : Nat) (K : rk_K) : Prop := rk_AK g cX7_strokeOf 3 (some .int) RX7 2 R pc K
abbrev sX7_strokeOf (g : rk_G) (vs : List Value) (σ : rk_M) (R : rk_R) : Prop := rk_does g yX7_strokeOf cX7_strokeOf 3 (some .int) 2 vs σ R
abbrev tX7_strokeOf (g : rk_G) (R : rk_R) (pc : Nat) (ls st : List Value) (σ : rk_M) : Prop := rk_At g cX7_strokeOf 3 (some .int) RX7 2 R pc ls st σ
def bX7_strokeOf_0 (g : rk_G) (R : rk_R) : rk_K := (rk_iload 2 (rk_sw 0 [(rk_aload 0 (rk_gR 7 13 (rk_iload 1 (rk_iald (rk_cS g 1 yX7_many cX7_many 3 (some .int) 1 (rk_iret R)))))), (rk_aload 0 (rk_gR 7 15 (rk_iload 1 (rk_iald (rk_iret R))))), (rk_aload 0 (rk_gR 7 16 (rk_iload 1 (rk_iald (rk_iret R))))), (rk_aload 0 (rk_gR 7 17 (rk_iload 1 (rk_iald (rk_iret R))))), (rk_aload 0 (rk_gR 7 21 (rk_iload 1 (rk_iald (rk_iret R))))), (rk_aload 0 (rk_gR 7 22 (rk_iload 1 (rk_iald (rk_iret R)))))] (rk_aload 0 (rk_gR 7 13 (rk_iload 1 (rk_iald (rk_iret R)))))))
theorem eX7_strokeOf_0 (g : rk_G) (R : rk_R) (ls st : List Value) (σ : rk_M) : bX7_strokeOf_0 g R ls st σ = (rk_iload 2 (rk_sw 0 [(rk_aload 0 (rk_gR 7 13 (rk_iload 1 (rk_iald (rk_cS g 1 yX7_many cX7_many 3 (some .int) 1 (rk_iret R)))))), (rk_aload 0 (rk_gR 7 15 (rk_iload 1 (rk_iald (rk_iret R))))), (rk_aload 0 (rk_gR 7 16 (rk_iload 1 (rk_iald (rk_iret R))))), (rk_aload 0 (rk_gR 7 17 (rk_iload 1 (rk_iald (rk_iret R))))), (rk_aload 0 (rk_gR 7 21 (rk_iload 1 (rk_iald (rk_iret R))))), (rk_aload 0 (rk_gR 7 22 (rk_iload 1 (rk_iald (rk_iret R)))))] (rk_aload 0 (rk_gR 7 13 (rk_iload 1 (rk_iald (rk_iret R))))))) ls st σ := rfl
theorem oX7_strokeOf_0 {g : rk_G} {R : rk_R} : aX7_strokeOf g R 0 (bX7_strokeOf_0 g R) := (rk_iload_n_ok dX7_strokeOf_0 rfl (rk_table_ok (pc' := 85) (tg := [40, 50, 57, 64, 71, 78]) dX7_strokeOf_1 rfl (by decide) rfl (by decide) (fun j t K ht hk => match j, t, K, ht, hk with | 0, _, _, ht, hk => by cases ht; cases hk; exact (rk_aload_n_ok dX7_strokeOf_40 rfl (rk_gR_ok dX7_strokeOf_41 rfl iX7 (by decide) rfl wfX7_34 (rk_iload_n_ok dX7_strokeOf_44 rfl (rk_iald_ok dX7_strokeOf_45 (rk_cS_ok dX7_strokeOf_46 npX7_many wmX7_207 wtX7_many wiX7 wdX7_many (by decide) (by decide) (rk_iret_ok rfl dX7_strokeOf_49)))))) | 1, _, _, ht, hk => by cases ht; cases hk; exact (rk_aload_n_ok dX7_strokeOf_50 rfl (rk_gR_ok dX7_strokeOf_51 rfl iX7 (by decide) rfl wfX7_40 (rk_iload_n_ok dX7_strokeOf_54 rfl (rk_iald_ok dX7_strokeOf_55 (rk_iret_ok rfl dX7_strokeOf_56))))) | 2, _, _, ht, hk => by cases ht; cases hk; exact (rk_aload_n_ok dX7_strokeOf_57 rfl (rk_gR_ok dX7_strokeOf_58 rfl iX7 (by decide) rfl wfX7_43 (rk_iload_n_ok dX7_strokeOf_61 rfl (rk_iald_ok dX7_strokeOf_62 (rk_iret_ok rfl dX7_strokeOf_63))))) | 3, _, _, ht, hk => by cases ht; cases hk; exact (rk_aload_n_ok dX7_strokeOf_64 rfl (rk_gR_ok dX7_strokeOf_65 rfl iX7 (by decide) rfl wfX7_46 (rk_iload_n_ok dX7_strokeOf_68 rfl (rk_iald_ok dX7_strokeOf_69 (rk_iret_ok rfl dX7_strokeOf_70))))) | 4, _, _, ht, hk => by cases ht; cases hk; exact (rk_aload_n_ok dX7_strokeOf_71 rfl (rk_gR_ok dX7_strokeOf_72 rfl iX7 (by decide) rfl wfX7_52 (rk_iload_n_ok dX7_strokeOf_75 rfl (rk_iald_ok dX7_strokeOf_76 (rk_iret_ok rfl dX7_strokeOf_77))))) | 5, _, _, ht, hk => by cases ht; cases hk; exact (rk_aload_n_ok dX7_strokeOf_78 rfl (rk_gR_ok dX7_strokeOf_79 rfl iX7 (by decide) rfl wfX7_55 (rk_iload_n_ok dX7_strokeOf_82 rfl (rk_iald_ok dX7_strokeOf_83 (rk_iret_ok rfl dX7_strokeOf_84))))) | (j + 6), _, _, ht, hk => by cases ht) (rk_aload_n_ok dX7_strokeOf_85 rfl (rk_gR_ok dX7_strokeOf_86 rfl iX7 (by decide) rfl wfX7_34 (rk_iload_n_ok dX7_strokeOf_89 rfl (rk_iald_ok dX7_strokeOf_90 (rk_iret_ok rfl dX7_strokeOf_91)))))))
theorem dX7_farBy_0 : decode cX7_farBy 0 = .ok (.iconst 0, 1) := by decide +kernel
theorem dX7_farBy_1 : decode cX7_farBy 1 = .ok (.istore 4, 2) := by decide +kernel
theorem dX7_farBy_3 : decode cX7_farBy 3 = .ok (.iload 4, 2) := by decide +kernel
theorem dX7_farBy_5 : decode cX7_farBy 5 = .ok (.aload_n 0, 1) := by decide +kernel
theorem dX7_farBy_6 : decode cX7_farBy 6 = .ok (.getfield 77, 3) := by decide +kernel
theorem dX7_farBy_9 : decode cX7_farBy 9 = .ok (.if_icmp .ge 28, 3) := by decide +kernel
theorem dX7_farBy_12 : decode cX7_farBy 12 = .ok (.aload_n 0, 1) := by decide +kernel
theorem dX7_farBy_13 : decode cX7_farBy 13 = .ok (.getfield 58, 3) := by decide +kernel
theorem dX7_farBy_16 : decode cX7_farBy 16 = .ok (.iload 4, 2) := by decide +kernel
theorem dX7_farBy_18 : decode cX7_farBy 18 = .ok (.iload 4, 2) := by decide +kernel
theorem dX7_farBy_20 : decode cX7_farBy 20 = .ok (.iload_n 2, 1) := by decide +kernel
theorem dX7_farBy_21 : decode cX7_farBy 21 = .ok (.if_icmp .ne 7, 3) := by decide +kernel
theorem dX7_farBy_24 : decode cX7_farBy 24 = .ok (.iconst 0, 1) := by decide +kernel
theorem dX7_farBy_25 : decode cX7_farBy 25 = .ok (.goto 5, 3) := by decide +kernel
theorem dX7_farBy_28 : decode cX7_farBy 28 = .ok (.ldc 218, 2) := by decide +kernel
theorem dX7_farBy_30 : decode cX7_farBy 30 = .ok (.iastore, 1) := by decide +kernel
theorem dX7_farBy_31 : decode cX7_farBy 31 = .ok (.iinc 4 1, 3) := by decide +kernel
theorem dX7_farBy_34 : decode cX7_farBy 34 = .ok (.goto (-31), 3) := by decide +kernel
theorem dX7_farBy_37 : decode cX7_farBy 37 = .ok (.iconst 0, 1) := by decide +kernel
theorem dX7_farBy_38 : decode cX7_farBy 38 = .ok (.istore 4, 2) := by decide +kernel
theorem dX7_farBy_40 : decode cX7_farBy 40 = .ok (.iload 4, 2) := by decide +kernel
theorem dX7_farBy_42 : decode cX7_farBy 42 = .ok (.aload_n 0, 1) := by decide +kernel
theorem dX7_farBy_43 : decode cX7_farBy 43 = .ok (.getfield 77, 3) := by decide +kernel
theorem dX7_farBy_46 : decode cX7_farBy 46 = .ok (.if_icmp .ge 171, 3) := by decide +kernel
theorem dX7_farBy_49 : decode cX7_farBy 49 = .ok (.iconst 0, 1) := by decide +kernel
theorem dX7_farBy_50 : decode cX7_farBy 50 = .ok (.istore 5, 2) := by decide +kernel
theorem dX7_farBy_52 : decode cX7_farBy 52 = .ok (.iload 5, 2) := by decide +kernel
theorem dX7_farBy_54 : decode cX7_farBy 54 = .ok (.aload_n 0, 1) := by decide +kernel
theorem dX7_farBy_55 : decode cX7_farBy 55 = .ok (.getfield 85, 3) := by decide +kernel
theorem dX7_farBy_58 : decode cX7_farBy 58 = .ok (.if_icmp .ge 153, 3) := by decide +kernel
theorem dX7_farBy_61 : decode cX7_farBy 61 = .ok (.aload_n 0, 1) := by decide +kernel
theorem dX7_farBy_62 : decode cX7_farBy 62 = .ok (.getfield 16, 3) := by decide +kernel
theorem dX7_farBy_65 : decode cX7_farBy 65 = .ok (.iconst 2, 1) := by decide +kernel
theorem dX7_farBy_66 : decode cX7_farBy 66 = .ok (.iload 5, 2) := by decide +kernel
theorem dX7_farBy_68 : decode cX7_farBy 68 = .ok (.imul, 1) := by decide +kernel
theorem dX7_farBy_69 : decode cX7_farBy 69 = .ok (.iaload, 1) := by decide +kernel
theorem dX7_farBy_70 : decode cX7_farBy 70 = .ok (.istore 6, 2) := by decide +kernel
theorem dX7_farBy_72 : decode cX7_farBy 72 = .ok (.aload_n 0, 1) := by decide +kernel
theorem dX7_farBy_73 : decode cX7_farBy 73 = .ok (.getfield 16, 3) := by decide +kernel
theorem dX7_farBy_76 : decode cX7_farBy 76 = .ok (.iconst 2, 1) := by decide +kernel
theorem dX7_farBy_77 : decode cX7_farBy 77 = .ok (.iload 5, 2) := by decide +kernel
theorem dX7_farBy_79 : decode cX7_farBy 79 = .ok (.imul, 1) := by decide +kernel
theorem dX7_farBy_80 : decode cX7_farBy 80 = .ok (.iconst 1, 1) := by decide +kernel
theorem dX7_farBy_81 : decode cX7_farBy 81 = .ok (.iadd, 1) := by decide +kernel
theorem dX7_farBy_82 : decode cX7_farBy 82 = .ok (.iaload, 1) := by decide +kernel
theorem dX7_farBy_83 : decode cX7_farBy 83 = .ok (.istore 7, 2) := by decide +kernel
theorem dX7_farBy_85 : decode cX7_farBy 85 = .ok (.aload_n 0, 1) := by decide +kernel
theorem dX7_farBy_86 : decode cX7_farBy 86 = .ok (.iload 5, 2) := by decide +kernel
theorem dX7_farBy_88 : decode cX7_farBy 88 = .ok (.invokevirtual 156, 3) := by decide +kernel
theorem dX7_farBy_91 : decode cX7_farBy 91 = .ok (.istore 8, 2) := by decide +kernel
theorem dX7_farBy_93 : decode cX7_farBy 93 = .ok (.aload_n 0, 1) := by decide +kernel
theorem dX7_farBy_94 : decode cX7_farBy 94 = .ok (.getfield 58, 3) := by decide +kernel
theorem dX7_farBy_97 : decode cX7_farBy 97 = .ok (.iload 6, 2) := by decide +kernel
theorem dX7_farBy_99 : decode cX7_farBy 99 = .ok (.iload_n 1, 1) := by decide +kernel
theorem dX7_farBy_100 : decode cX7_farBy 100 = .ok (.iload 5, 2) := by decide +kernel
theorem dX7_farBy_102 : decode cX7_farBy 102 = .ok (.invokestatic 204, 3) := by decide +kernel
theorem dX7_farBy_105 : decode cX7_farBy 105 = .ok (.ifCond .eq 36, 3) := by decide +kernel
theorem dX7_farBy_108 : decode cX7_farBy 108 = .ok (.aload_n 0, 1) := by decide +kernel
theorem dX7_farBy_109 : decode cX7_farBy 109 = .ok (.getfield 58, 3) := by decide +kernel
theorem dX7_farBy_112 : decode cX7_farBy 112 = .ok (.iload 7, 2) := by decide +kernel
theorem dX7_farBy_114 : decode cX7_farBy 114 = .ok (.iaload, 1) := by decide +kernel
theorem dX7_farBy_115 : decode cX7_farBy 115 = .ok (.iload 8, 2) := by decide +kernel
theorem dX7_farBy_117 : decode cX7_farBy 117 = .ok (.iadd, 1) := by decide +kernel
theorem dX7_farBy_118 : decode cX7_farBy 118 = .ok (.aload_n 0, 1) := by decide +kernel
theorem dX7_farBy_119 : decode cX7_farBy 119 = .ok (.getfield 58, 3) := by decide +kernel
theorem dX7_farBy_122 : decode cX7_farBy 122 = .ok (.iload 6, 2) := by decide +kernel
theorem dX7_farBy_124 : decode cX7_farBy 124 = .ok (.iaload, 1) := by decide +kernel
theorem dX7_farBy_125 : decode cX7_farBy 125 = .ok (.if_icmp .ge 16, 3) := by decide +kernel
theorem dX7_farBy_128 : decode cX7_farBy 128 = .ok (.aload_n 0, 1) := by decide +kernel
theorem dX7_farBy_129 : decode cX7_farBy 129 = .ok (.getfield 58, 3) := by decide +kernel
theorem dX7_farBy_132 : decode cX7_farBy 132 = .ok (.iload 7, 2) := by decide +kernel
theorem dX7_farBy_134 : decode cX7_farBy 134 = .ok (.iaload, 1) := by decide +kernel
theorem dX7_farBy_135 : decode cX7_farBy 135 = .ok (.iload 8, 2) := by decide +kernel
theorem dX7_farBy_137 : decode cX7_farBy 137 = .ok (.iadd, 1) := by decide +kernel
theorem dX7_farBy_138 : decode cX7_farBy 138 = .ok (.goto 10, 3) := by decide +kernel
theorem dX7_farBy_141 : decode cX7_farBy 141 = .ok (.aload_n 0, 1) := by decide +kernel
theorem dX7_farBy_142 : decode cX7_farBy 142 = .ok (.getfield 58, 3) := by decide +kernel
theorem dX7_farBy_145 : decode cX7_farBy 145 = .ok (.iload 6, 2) := by decide +kernel
theorem dX7_farBy_147 : decode cX7_farBy 147 = .ok (.iaload, 1) := by decide +kernel
theorem dX7_farBy_148 : decode cX7_farBy 148 = .ok (.iastore, 1) := by decide +kernel
theorem dX7_farBy_149 : decode cX7_farBy 149 = .ok (.aload_n 0, 1) := by decide +kernel
theorem dX7_farBy_150 : decode cX7_farBy 150 = .ok (.getfield 58, 3) := by decide +kernel
theorem dX7_farBy_153 : decode cX7_farBy 153 = .ok (.iload 7, 2) := by decide +kernel
theorem dX7_farBy_155 : decode cX7_farBy 155 = .ok (.iload_n 1, 1) := by decide +kernel
theorem dX7_farBy_156 : decode cX7_farBy 156 = .ok (.iload 5, 2) := by decide +kernel
theorem dX7_farBy_158 : decode cX7_farBy 158 = .ok (.invokestatic 204, 3) := by decide +kernel
theorem dX7_farBy_161 : decode cX7_farBy 161 = .ok (.ifCond .eq 36, 3) := by decide +kernel
theorem dX7_farBy_164 : decode cX7_farBy 164 = .ok (.aload_n 0, 1) := by decide +kernel
theorem dX7_farBy_165 : decode cX7_farBy 165 = .ok (.getfield 58, 3) := by decide +kernel
theorem dX7_farBy_168 : decode cX7_farBy 168 = .ok (.iload 6, 2) := by decide +kernel
theorem dX7_farBy_170 : decode cX7_farBy 170 = .ok (.iaload, 1) := by decide +kernel
theorem dX7_farBy_171 : decode cX7_farBy 171 = .ok (.iload 8, 2) := by decide +kernel
theorem dX7_farBy_173 : decode cX7_farBy 173 = .ok (.iadd, 1) := by decide +kernel
theorem dX7_farBy_174 : decode cX7_farBy 174 = .ok (.aload_n 0, 1) := by decide +kernel
theorem dX7_farBy_175 : decode cX7_farBy 175 = .ok (.getfield 58, 3) := by decide +kernel
theorem dX7_farBy_178 : decode cX7_farBy 178 = .ok (.iload 7, 2) := by decide +kernel
theorem dX7_farBy_180 : decode cX7_farBy 180 = .ok (.iaload, 1) := by decide +kernel
theorem dX7_farBy_181 : decode cX7_farBy 181 = .ok (.if_icmp .ge 16, 3) := by decide +kernel
theorem dX7_farBy_184 : decode cX7_farBy 184 = .ok (.aload_n 0, 1) := by decide +kernel
theorem dX7_farBy_185 : decode cX7_farBy 185 = .ok (.getfield 58, 3) := by decide +kernel
theorem dX7_farBy_188 : decode cX7_farBy 188 = .ok (.iload 6, 2) := by decide +kernel
theorem dX7_farBy_190 : decode cX7_farBy 190 = .ok (.iaload, 1) := by decide +kernel
theorem dX7_farBy_191 : decode cX7_farBy 191 = .ok (.iload 8, 2) := by decide +kernel
theorem dX7_farBy_193 : decode cX7_farBy 193 = .ok (.iadd, 1) := by decide +kernel
theorem dX7_farBy_194 : decode cX7_farBy 194 = .ok (.goto 10, 3) := by decide +kernel
theorem dX7_farBy_197 : decode cX7_farBy 197 = .ok (.aload_n 0, 1) := by decide +kernel
theorem dX7_farBy_198 : decode cX7_farBy 198 = .ok (.getfield 58, 3) := by decide +kernel
theorem dX7_farBy_201 : decode cX7_farBy 201 = .ok (.iload 7, 2) := by decide +kernel
theorem dX7_farBy_203 : decode cX7_farBy 203 = .ok (.iaload, 1) := by decide +kernel
theorem dX7_farBy_204 : decode cX7_farBy 204 = .ok (.iastore, 1) := by decide +kernel
theorem dX7_farBy_205 : decode cX7_farBy 205 = .ok (.iinc 5 1, 3) := by decide +kernel
theorem dX7_farBy_208 : decode cX7_farBy 208 = .ok (.goto (-156), 3) := by decide +kernel
theorem dX7_farBy_211 : decode cX7_farBy 211 = .ok (.iinc 4 1, 3) := by decide +kernel
theorem dX7_farBy_214 : decode cX7_farBy 214 = .ok (.goto (-174), 3) := by decide +kernel
theorem dX7_farBy_217 : decode cX7_farBy 217 = .ok (.aload_n 0, 1) := by decide +kernel
theorem dX7_farBy_218 : decode cX7_farBy 218 = .ok (.getfield 58, 3) := by decide +kernel
theorem dX7_farBy_221 : decode cX7_farBy 221 = .ok (.iload_n 3, 1) := by decide +kernel
theorem dX7_farBy_222 : decode cX7_farBy 222 = .ok (.iaload, 1) := by decide +kernel
theorem dX7_farBy_223 : decode cX7_farBy 223 = .ok (.ldc 218, 2) := by decide +kernel
theorem dX7_farBy_225 : decode cX7_farBy 225 = .ok (.if_icmp .lt 7, 3) := by decide +kernel
theorem dX7_farBy_228 : decode cX7_farBy 228 = .ok (.iconst (-1), 1) := by decide +kernel
theorem dX7_farBy_229 : decode cX7_farBy 229 = .ok (.goto 9, 3) := by decide +kernel
theorem dX7_farBy_232 : decode cX7_farBy 232 = .ok (.aload_n 0, 1) := by decide +kernel
theorem dX7_farBy_233 : decode cX7_farBy 233 = .ok (.getfield 58, 3) := by decide +kernel
theorem dX7_farBy_236 : decode cX7_farBy 236 = .ok (.iload_n 3, 1) := by decide +kernel
theorem dX7_farBy_237 : decode cX7_farBy 237 = .ok (.iaload, 1) := by decide +kernel
theorem dX7_farBy_238 : decode cX7_farBy 238 = .ok (.ireturn, 1) := by decide +kernel
abbrev kX7_farBy (g : rk_G) (R : rk_R) (pc : Nat) : rk_K := rk_cut g cX7_farBy 9 (some .int) RX7 2 R pc
abbrev aX7_farBy (g : rk_G) (R : rk_R) (pc : Nat) (K : rk_K) : Prop := rk_AK g cX7_farBy 9 (some .int) RX7 2 R pc K
abbrev sX7_farBy (g : rk_G) (vs : List Value) (σ : rk_M) (R : rk_R) : Prop := rk_does g yX7_farBy cX7_farBy 9 (some .int) 2 vs σ R
abbrev tX7_farBy (g : rk_G) (R : rk_R) (pc : Nat) (ls st : List Value) (σ : rk_M) : Prop := rk_At g cX7_farBy 9 (some .int) RX7 2 R pc ls st σ
def bX7_farBy_238 (g : rk_G) (R : rk_R) : rk_K := (rk_iret R)
theorem eX7_farBy_238 (g : rk_G) (R : rk_R) (ls st : List Value) (σ : rk_M) : bX7_farBy_238 g R ls st σ = (rk_iret R) ls st σ := rfl
theorem oX7_farBy_238 {g : rk_G} {R : rk_R} : aX7_farBy g R 238 (bX7_farBy_238 g R) := (rk_iret_ok rfl dX7_farBy_238)
def bX7_farBy_204 (g : rk_G) (R : rk_R) : rk_K := (rk_iast (rk_iinc 5 (1) (kX7_farBy g R 52)))
theorem eX7_farBy_204 (g : rk_G) (R : rk_R) (ls st : List Value) (σ : rk_M) : bX7_farBy_204 g R ls st σ = (rk_iast (rk_iinc 5 (1) (kX7_farBy g R 52))) ls st σ := rfl
theorem oX7_farBy_204 {g : rk_G} {R : rk_R} : aX7_farBy g R 204 (bX7_farBy_204 g R) := (rk_iast_ok dX7_farBy_204 (rk_iinc_ok dX7_farBy_205 (by decide) (by decide) (rk_goto_ok (pc' := 52) dX7_farBy_208 (by decide) rk_cut_ok)))
def bX7_farBy_197 (g : rk_G) (R : rk_R) : rk_K := (rk_aload 0 (rk_gR 7 23 (rk_iload 7 (rk_iald (bX7_farBy_204 g R)))))
theorem eX7_farBy_197 (g : rk_G) (R : rk_R) (ls st : List Value) (σ : rk_M) : bX7_farBy_197 g R ls st σ = (rk_aload 0 (rk_gR 7 23 (rk_iload 7 (rk_iald (bX7_farBy_204 g R))))) ls st σ := rfl
theorem oX7_farBy_197 {g : rk_G} {R : rk_R} : aX7_farBy g R 197 (bX7_farBy_197 g R) := (rk_aload_n_ok dX7_farBy_197 rfl (rk_gR_ok dX7_farBy_198 rfl iX7 (by decide) rfl wfX7_58 (rk_iload_ok dX7_farBy_201 (rk_iald_ok dX7_farBy_203 oX7_farBy_204))))
def bX7_farBy_148 (g : rk_G) (R : rk_R) : rk_K := (rk_iast (rk_aload 0 (rk_gR 7 23 (rk_iload 7 (rk_iload 1 (rk_iload 5 (rk_cS g 2 yX7_isIn cX7_isIn 2 (some .boolean) 0 (rk_if_eq (bX7_farBy_197 g R) (rk_aload 0 (rk_gR 7 23 (rk_iload 6 (rk_iald (rk_iload 8 (rk_iadd (rk_aload 0 (rk_gR 7 23 (rk_iload 7 (rk_iald (rk_icmp_ge (bX7_farBy_197 g R) (rk_aload 0 (rk_gR 7 23 (rk_iload 6 (rk_iald (rk_iload 8 (rk_iadd (bX7_farBy_204 g R))))))))))))))))))))))))))
theorem eX7_farBy_148 (g : rk_G) (R : rk_R) (ls st : List Value) (σ : rk_M) : bX7_farBy_148 g R ls st σ = (rk_iast (rk_aload 0 (rk_gR 7 23 (rk_iload 7 (rk_iload 1 (rk_iload 5 (rk_cS g 2 yX7_isIn cX7_isIn 2 (some .boolean) 0 (rk_if_eq (bX7_farBy_197 g R) (rk_aload 0 (rk_gR 7 23 (rk_iload 6 (rk_iald (rk_iload 8 (rk_iadd (rk_aload 0 (rk_gR 7 23 (rk_iload 7 (rk_iald (rk_icmp_ge (bX7_farBy_197 g R) (rk_aload 0 (rk_gR 7 23 (rk_iload 6 (rk_iald (rk_iload 8 (rk_iadd (bX7_farBy_204 g R)))))))))))))))))))))))))) ls st σ := rfl
theorem oX7_farBy_148 {g : rk_G} {R : rk_R} : aX7_farBy g R 148 (bX7_farBy_148 g R) := (rk_iast_ok dX7_farBy_148 (rk_aload_n_ok dX7_farBy_149 rfl (rk_gR_ok dX7_farBy_150 rfl iX7 (by decide) rfl wfX7_58 (rk_iload_ok dX7_farBy_153 (rk_iload_n_ok dX7_farBy_155 rfl (rk_iload_ok dX7_farBy_156 (rk_cS_ok dX7_farBy_158 npX7_isIn wmX7_204 wtX7_isIn wiX7 wdX7_isIn (by decide) (by decide) (rk_if_eq_ok (pc' := 197) dX7_farBy_161 (by decide) oX7_farBy_197 (rk_aload_n_ok dX7_farBy_164 rfl (rk_gR_ok dX7_farBy_165 rfl iX7 (by decide) rfl wfX7_58 (rk_iload_ok dX7_farBy_168 (rk_iald_ok dX7_farBy_170 (rk_iload_ok dX7_farBy_171 (rk_iadd_ok dX7_farBy_173 (rk_aload_n_ok dX7_farBy_174 rfl (rk_gR_ok dX7_farBy_175 rfl iX7 (by decide) rfl wfX7_58 (rk_iload_ok dX7_farBy_178 (rk_iald_ok dX7_farBy_180 (rk_icmp_ge_ok (pc' := 197) dX7_farBy_181 (by decide) oX7_farBy_197 (rk_aload_n_ok dX7_farBy_184 rfl (rk_gR_ok dX7_farBy_185 rfl iX7 (by decide) rfl wfX7_58 (rk_iload_ok dX7_farBy_188 (rk_iald_ok dX7_farBy_190 (rk_iload_ok dX7_farBy_191 (rk_iadd_ok dX7_farBy_193 (rk_goto_ok (pc' := 204) dX7_farBy_194 (by decide) oX7_farBy_204))))))))))))))))))))))))))
def bX7_farBy_141 (g : rk_G) (R : rk_R) : rk_K := (rk_aload 0 (rk_gR 7 23 (rk_iload 6 (rk_iald (bX7_farBy_148 g R)))))
theorem eX7_farBy_141 (g : rk_G) (R : rk_R) (ls st : List Value) (σ : rk_M) : bX7_farBy_141 g R ls st σ = (rk_aload 0 (rk_gR 7 23 (rk_iload 6 (rk_iald (bX7_farBy_148 g R))))) ls st σ := rfl
theorem oX7_farBy_141 {g : rk_G} {R : rk_R} : aX7_farBy g R 141 (bX7_farBy_141 g R) := (rk_aload_n_ok dX7_farBy_141 rfl (rk_gR_ok dX7_farBy_142 rfl iX7 (by decide) rfl wfX7_58 (rk_iload_ok dX7_farBy_145 (rk_iald_ok dX7_farBy_147 oX7_farBy_148))))
def bX7_farBy_52 (g : rk_G) (R : rk_R) : rk_K := (rk_iload 5 (rk_aload 0 (rk_gI 7 3 (rk_icmp_ge (rk_iinc 4 (1) (kX7_farBy g R 40)) (rk_aload 0 (rk_gR 7 4 (rk_ci (2) (rk_iload 5 (rk_imul (rk_iald (rk_istore 6 (rk_aload 0 (rk_gR 7 4 (rk_ci (2) (rk_iload 5 (rk_imul (rk_ci (1) (rk_iadd (rk_iald (rk_istore 7 (rk_aload 0 (rk_iload 5 (rk_cV g 1 7 yX7_length cX7_length 4 (some .int) 1 (rk_istore 8 (rk_aload 0 (rk_gR 7 23 (rk_iload 6 (rk_iload 1 (rk_iload 5 (rk_cS g 2 yX7_isIn cX7_isIn 2 (some .boolean) 0 (rk_if_eq (bX7_farBy_141 g R) (rk_aload 0 (rk_gR 7 23 (rk_iload 7 (rk_iald (rk_iload 8 (rk_iadd (rk_aload 0 (rk_gR 7 23 (rk_iload 6 (rk_iald (rk_icmp_ge (bX7_farBy_141 g R) (rk_aload 0 (rk_gR 7 23 (rk_iload 7 (rk_iald (rk_iload 8 (rk_iadd (bX7_farBy_148 g R)))))))))))))))))))))))))))))))))))))))))))))))))
theorem eX7_farBy_52 (g : rk_G) (R : rk_R) (ls st : List Value) (σ : rk_M) : bX7_farBy_52 g R ls st σ = (rk_iload 5 (rk_aload 0 (rk_gI 7 3 (rk_icmp_ge (rk_iinc 4 (1) (kX7_farBy g R 40)) (rk_aload 0 (rk_gR 7 4 (rk_ci (2) (rk_iload 5 (rk_imul (rk_iald (rk_istore 6 (rk_aload 0 (rk_gR 7 4 (rk_ci (2) (rk_iload 5 (rk_imul (rk_ci (1) (rk_iadd (rk_iald (rk_istore 7 (rk_aload 0 (rk_iload 5 (rk_cV g 1 7 yX7_length cX7_length 4 (some .int) 1 (rk_istore 8 (rk_aload 0 (rk_gR 7 23 (rk_iload 6 (rk_iload 1 (rk_iload 5 (rk_cS g 2 yX7_isIn cX7_isIn 2 (some .boolean) 0 (rk_if_eq (bX7_farBy_141 g R) (rk_aload 0 (rk_gR 7 23 (rk_iload 7 (rk_iald (rk_iload 8 (rk_iadd (rk_aload 0 (rk_gR 7 23 (rk_iload 6 (rk_iald (rk_icmp_ge (bX7_farBy_141 g R) (rk_aload 0 (rk_gR 7 23 (rk_iload 7 (rk_iald (rk_iload 8 (rk_iadd (bX7_farBy_148 g R))))))))))))))))))))))))))))))))))))))))))))))))) ls st σ := rfl
theorem oX7_farBy_52 {g : rk_G} {R : rk_R} : aX7_farBy g R 52 (bX7_farBy_52 g R) := (rk_iload_ok dX7_farBy_52 (rk_aload_n_ok dX7_farBy_54 rfl (rk_gI_ok dX7_farBy_55 rfl iX7 (by decide) rfl wfX7_85 (rk_icmp_ge_ok (pc' := 211) dX7_farBy_58 (by decide) (rk_iinc_ok dX7_farBy_211 (by decide) (by decide) (rk_goto_ok (pc' := 40) dX7_farBy_214 (by decide) rk_cut_ok)) (rk_aload_n_ok dX7_farBy_61 rfl (rk_gR_ok dX7_farBy_62 rfl iX7 (by decide) rfl wfX7_16 (rk_iconst_ok dX7_farBy_65 (by decide) (rk_iload_ok dX7_farBy_66 (rk_imul_ok dX7_farBy_68 (rk_iald_ok dX7_farBy_69 (rk_istore_ok dX7_farBy_70 (by decide) (rk_aload_n_ok dX7_farBy_72 rfl (rk_gR_ok dX7_farBy_73 rfl iX7 (by decide) rfl wfX7_16 (rk_iconst_ok dX7_farBy_76 (by decide) (rk_iload_ok dX7_farBy_77 (rk_imul_ok dX7_farBy_79 (rk_iconst_ok dX7_farBy_80 (by decide) (rk_iadd_ok dX7_farBy_81 (rk_iald_ok dX7_farBy_82 (rk_istore_ok dX7_farBy_83 (by decide) (rk_aload_n_ok dX7_farBy_85 rfl (rk_iload_ok dX7_farBy_86 (rk_cV_ok dX7_farBy_88 rfl rfl npX7_length wmX7_156 wvX7_length weX7_length wiX7 wdX7_length (by decide) (by decide) (rk_istore_ok dX7_farBy_91 (by decide) (rk_aload_n_ok dX7_farBy_93 rfl (rk_gR_ok dX7_farBy_94 rfl iX7 (by decide) rfl wfX7_58 (rk_iload_ok dX7_farBy_97 (rk_iload_n_ok dX7_farBy_99 rfl (rk_iload_ok dX7_farBy_100 (rk_cS_ok dX7_farBy_102 npX7_isIn wmX7_204 wtX7_isIn wiX7 wdX7_isIn (by decide) (by decide) (rk_if_eq_ok (pc' := 141) dX7_farBy_105 (by decide) oX7_farBy_141 (rk_aload_n_ok dX7_farBy_108 rfl (rk_gR_ok dX7_farBy_109 rfl iX7 (by decide) rfl wfX7_58 (rk_iload_ok dX7_farBy_112 (rk_iald_ok dX7_farBy_114 (rk_iload_ok dX7_farBy_115 (rk_iadd_ok dX7_farBy_117 (rk_aload_n_ok dX7_farBy_118 rfl (rk_gR_ok dX7_farBy_119 rfl iX7 (by decide) rfl wfX7_58 (rk_iload_ok dX7_farBy_122 (rk_iald_ok dX7_farBy_124 (rk_icmp_ge_ok (pc' := 141) dX7_farBy_125 (by decide) oX7_farBy_141 (rk_aload_n_ok dX7_farBy_128 rfl (rk_gR_ok dX7_farBy_129 rfl iX7 (by decide) rfl wfX7_58 (rk_iload_ok dX7_farBy_132 (rk_iald_ok dX7_farBy_134 (rk_iload_ok dX7_farBy_135 (rk_iadd_ok dX7_farBy_137 (rk_goto_ok (pc' := 148) dX7_farBy_138 (by decide) oX7_farBy_148)))))))))))))))))))))))))))))))))))))))))))))))))
def bX7_farBy_40 (g : rk_G) (R : rk_R) : rk_K := (rk_iload 4 (rk_aload 0 (rk_gI 7 0 (rk_icmp_ge (rk_aload 0 (rk_gR 7 23 (rk_iload 3 (rk_iald (rk_ci (99999) (rk_icmp_lt (rk_aload 0 (rk_gR 7 23 (rk_iload 3 (rk_iald (bX7_farBy_238 g R))))) (rk_ci (-1) (bX7_farBy_238 g R)))))))) (rk_ci (0) (rk_istore 5 (kX7_farBy g R 52)))))))
theorem eX7_farBy_40 (g : rk_G) (R : rk_R) (ls st : List Value) (σ : rk_M) : bX7_farBy_40 g R ls st σ = (rk_iload 4 (rk_aload 0 (rk_gI 7 0 (rk_icmp_ge (rk_aload 0 (rk_gR 7 23 (rk_iload 3 (rk_iald (rk_ci (99999) (rk_icmp_lt (rk_aload 0 (rk_gR 7 23 (rk_iload 3 (rk_iald (bX7_farBy_238 g R))))) (rk_ci (-1) (bX7_farBy_238 g R)))))))) (rk_ci (0) (rk_istore 5 (kX7_farBy g R 52))))))) ls st σ := rfl
theorem oX7_farBy_40 {g : rk_G} {R : rk_R} : aX7_farBy g R 40 (bX7_farBy_40 g R) := (rk_iload_ok dX7_farBy_40 (rk_aload_n_ok dX7_farBy_42 rfl (rk_gI_ok dX7_farBy_43 rfl iX7 (by decide) rfl wfX7_77 (rk_icmp_ge_ok (pc' := 217) dX7_farBy_46 (by decide) (rk_aload_n_ok dX7_farBy_217 rfl (rk_gR_ok dX7_farBy_218 rfl iX7 (by decide) rfl wfX7_58 (rk_iload_n_ok dX7_farBy_221 rfl (rk_iald_ok dX7_farBy_222 (rk_ldc_ok dX7_farBy_223 wcX7_218 (rk_icmp_lt_ok (pc' := 232) dX7_farBy_225 (by decide) (rk_aload_n_ok dX7_farBy_232 rfl (rk_gR_ok dX7_farBy_233 rfl iX7 (by decide) rfl wfX7_58 (rk_iload_n_ok dX7_farBy_236 rfl (rk_iald_ok dX7_farBy_237 oX7_farBy_238)))) (rk_iconst_ok dX7_farBy_228 (by decide) (rk_goto_ok (pc' := 238) dX7_farBy_229 (by decide) oX7_farBy_238)))))))) (rk_iconst_ok dX7_farBy_49 (by decide) (rk_istore_ok dX7_farBy_50 (by decide) rk_cut_ok))))))
def bX7_farBy_30 (g : rk_G) (R : rk_R) : rk_K := (rk_iast (rk_iinc 4 (1) (kX7_farBy g R 3)))
theorem eX7_farBy_30 (g : rk_G) (R : rk_R) (ls st : List Value) (σ : rk_M) : bX7_farBy_30 g R ls st σ = (rk_iast (rk_iinc 4 (1) (kX7_farBy g R 3))) ls st σ := rfl
theorem oX7_farBy_30 {g : rk_G} {R : rk_R} : aX7_farBy g R 30 (bX7_farBy_30 g R) := (rk_iast_ok dX7_farBy_30 (rk_iinc_ok dX7_farBy_31 (by decide) (by decide) (rk_goto_ok (pc' := 3) dX7_farBy_34 (by decide) rk_cut_ok)))
def bX7_farBy_3 (g : rk_G) (R : rk_R) : rk_K := (rk_iload 4 (rk_aload 0 (rk_gI 7 0 (rk_icmp_ge (rk_ci (0) (rk_istore 4 (kX7_farBy g R 40))) (rk_aload 0 (rk_gR 7 23 (rk_iload 4 (rk_iload 4 (rk_iload 2 (rk_icmp_ne (rk_ci (99999) (bX7_farBy_30 g R)) (rk_ci (0) (bX7_farBy_30 g R))))))))))))
theorem eX7_farBy_3 (g : rk_G) (R : rk_R) (ls st : List Value) (σ : rk_M) : bX7_farBy_3 g R ls st σ = (rk_iload 4 (rk_aload 0 (rk_gI 7 0 (rk_icmp_ge (rk_ci (0) (rk_istore 4 (kX7_farBy g R 40))) (rk_aload 0 (rk_gR 7 23 (rk_iload 4 (rk_iload 4 (rk_iload 2 (rk_icmp_ne (rk_ci (99999) (bX7_farBy_30 g R)) (rk_ci (0) (bX7_farBy_30 g R)))))))))))) ls st σ := rfl
theorem oX7_farBy_3 {g : rk_G} {R : rk_R} : aX7_farBy g R 3 (bX7_farBy_3 g R) := (rk_iload_ok dX7_farBy_3 (rk_aload_n_ok dX7_farBy_5 rfl (rk_gI_ok dX7_farBy_6 rfl iX7 (by decide) rfl wfX7_77 (rk_icmp_ge_ok (pc' := 37) dX7_farBy_9 (by decide) (rk_iconst_ok dX7_farBy_37 (by decide) (rk_istore_ok dX7_farBy_38 (by decide) rk_cut_ok)) (rk_aload_n_ok dX7_farBy_12 rfl (rk_gR_ok dX7_farBy_13 rfl iX7 (by decide) rfl wfX7_58 (rk_iload_ok dX7_farBy_16 (rk_iload_ok dX7_farBy_18 (rk_iload_n_ok dX7_farBy_20 rfl (rk_icmp_ne_ok (pc' := 28) dX7_farBy_21 (by decide) (rk_ldc_ok dX7_farBy_28 wcX7_218 oX7_farBy_30) (rk_iconst_ok dX7_farBy_24 (by decide) (rk_goto_ok (pc' := 30) dX7_farBy_25 (by decide) oX7_farBy_30))))))))))))
def bX7_farBy_0 (g : rk_G) (R : rk_R) : rk_K := (rk_ci (0) (rk_istore 4 (kX7_farBy g R 3)))
theorem eX7_farBy_0 (g : rk_G) (R : rk_R) (ls st : List Value) (σ : rk_M) : bX7_farBy_0 g R ls st σ = (rk_ci (0) (rk_istore 4 (kX7_farBy g R 3))) ls st σ := rfl
theorem oX7_farBy_0 {g : rk_G} {R : rk_R} : aX7_farBy g R 0 (bX7_farBy_0 g R) := (rk_iconst_ok dX7_farBy_0 (by decide) (rk_istore_ok dX7_farBy_1 (by decide) rk_cut_ok))
