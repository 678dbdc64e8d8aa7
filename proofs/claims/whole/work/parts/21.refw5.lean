theorem dX7_info_0 : decode cX7_info 0 = .ok (.aload_n 0, 1) := by decide +kernel
theorem dX7_info_1 : decode cX7_info 1 = .ok (.iload_n 1, 1) := by decide +kernel
theorem dX7_info_2 : decode cX7_info 2 = .ok (.invokevirtual 102, 3) := by decide +kernel
theorem dX7_info_5 : decode cX7_info 5 = .ok (.ifCond .eq 22, 3) := by decide +kernel
theorem dX7_info_8 : decode cX7_info 8 = .ok (.iload_n 2, 1) := by decide +kernel
theorem dX7_info_9 : decode cX7_info 9 = .ok (.iconst 0, 1) := by decide +kernel
theorem dX7_info_10 : decode cX7_info 10 = .ok (.bipush 6, 2) := by decide +kernel
theorem dX7_info_12 : decode cX7_info 12 = .ok (.invokestatic 81, 3) := by decide +kernel
theorem dX7_info_15 : decode cX7_info 15 = .ok (.ifCond .eq 12, 3) := by decide +kernel
theorem dX7_info_18 : decode cX7_info 18 = .ok (.aload_n 0, 1) := by decide +kernel
theorem dX7_info_19 : decode cX7_info 19 = .ok (.iload_n 1, 1) := by decide +kernel
theorem dX7_info_20 : decode cX7_info 20 = .ok (.iload_n 2, 1) := by decide +kernel
theorem dX7_info_21 : decode cX7_info 21 = .ok (.invokevirtual 194, 3) := by decide +kernel
theorem dX7_info_24 : decode cX7_info 24 = .ok (.goto 5, 3) := by decide +kernel
theorem dX7_info_27 : decode cX7_info 27 = .ok (.bipush (-2), 2) := by decide +kernel
theorem dX7_info_29 : decode cX7_info 29 = .ok (.ireturn, 1) := by decide +kernel
abbrev kX7_info (g : rk_G) (R : rk_R) (pc : Nat) : rk_K := rk_cut g cX7_info 3 (some .int) RX7 11 R pc
abbrev aX7_info (g : rk_G) (R : rk_R) (pc : Nat) (K : rk_K) : Prop := rk_AK g cX7_info 3 (some .int) RX7 11 R pc K
abbrev sX7_info (g : rk_G) (vs : List Value) (σ : rk_M) (R : rk_R) : Prop := rk_does g yX7_info cX7_info 3 (some .int) 11 vs σ R
abbrev tX7_info (g : rk_G) (R : rk_R) (pc : Nat) (ls st : List Value) (σ : rk_M) : Prop := rk_At g cX7_info 3 (some .int) RX7 11 R pc ls st σ
def bX7_info_29 (g : rk_G) (R : rk_R) : rk_K := (rk_iret R)
theorem eX7_info_29 (g : rk_G) (R : rk_R) (ls st : List Value) (σ : rk_M) : bX7_info_29 g R ls st σ = (rk_iret R) ls st σ := rfl
theorem oX7_info_29 {g : rk_G} {R : rk_R} : aX7_info g R 29 (bX7_info_29 g R) := (rk_iret_ok rfl dX7_info_29)
def bX7_info_27 (g : rk_G) (R : rk_R) : rk_K := (rk_ci (-2) (bX7_info_29 g R))
theorem eX7_info_27 (g : rk_G) (R : rk_R) (ls st : List Value) (σ : rk_M) : bX7_info_27 g R ls st σ = (rk_ci (-2) (bX7_info_29 g R)) ls st σ := rfl
theorem oX7_info_27 {g : rk_G} {R : rk_R} : aX7_info g R 27 (bX7_info_27 g R) := (rk_bipush_ok dX7_info_27 (by decide) oX7_info_29)
def bX7_info_0 (g : rk_G) (R : rk_R) : rk_K := (rk_aload 0 (rk_iload 1 (rk_cV g 1 7 yX7_isRoad cX7_isRoad 2 (some .boolean) 1 (rk_if_eq (bX7_info_27 g R) (rk_iload 2 (rk_ci (0) (rk_ci (6) (rk_cS g 3 yX7_in cX7_in 3 (some .boolean) 0 (rk_if_eq (bX7_info_27 g R) (rk_aload 0 (rk_iload 1 (rk_iload 2 (rk_cV g 2 7 yX7_infoOf cX7_infoOf 3 (some .int) 10 (bX7_info_29 g R))))))))))))))
theorem eX7_info_0 (g : rk_G) (R : rk_R) (ls st : List Value) (σ : rk_M) : bX7_info_0 g R ls st σ = (rk_aload 0 (rk_iload 1 (rk_cV g 1 7 yX7_isRoad cX7_isRoad 2 (some .boolean) 1 (rk_if_eq (bX7_info_27 g R) (rk_iload 2 (rk_ci (0) (rk_ci (6) (rk_cS g 3 yX7_in cX7_in 3 (some .boolean) 0 (rk_if_eq (bX7_info_27 g R) (rk_aload 0 (rk_iload 1 (rk_iload 2 (rk_cV g 2 7 yX7_infoOf cX7_infoOf 3 (some .int) 10 (bX7_info_29 g R)))))))))))))) ls st σ := rfl
theorem oX7_info_0 {g : rk_G} {R : rk_R} : aX7_info g R 0 (bX7_info_0 g R) := (rk_aload_n_ok dX7_info_0 rfl (rk_iload_n_ok dX7_info_1 rfl (rk_cV_ok dX7_info_2 rfl rfl npX7_isRoad wmX7_102 wvX7_isRoad weX7_isRoad wiX7 wdX7_isRoad (by decide) (by decide) (rk_if_eq_ok (pc' := 27) dX7_info_5 (by decide) oX7_info_27 (rk_iload_n_ok dX7_info_8 rfl (rk_iconst_ok dX7_info_9 (by decide) (rk_bipush_ok dX7_info_10 (by decide) (rk_cS_ok dX7_info_12 npX7_in wmX7_81 wtX7_in wiX7 wdX7_in (by decide) (by decide) (rk_if_eq_ok (pc' := 27) dX7_info_15 (by decide) oX7_info_27 (rk_aload_n_ok dX7_info_18 rfl (rk_iload_n_ok dX7_info_19 rfl (rk_iload_n_ok dX7_info_20 rfl (rk_cV_ok dX7_info_21 rfl rfl npX7_infoOf wmX7_194 wvX7_infoOf weX7_infoOf wiX7 wdX7_infoOf (by decide) (by decide) (rk_goto_ok (pc' := 29) dX7_info_24 (by decide) oX7_info_29))))))))))))))
theorem dX7_joined_0 : decode cX7_joined 0 = .ok (.aload_n 0, 1) := by decide +kernel
theorem dX7_joined_1 : decode cX7_joined 1 = .ok (.iload_n 1, 1) := by decide +kernel
theorem dX7_joined_2 : decode cX7_joined 2 = .ok (.invokevirtual 91, 3) := by decide +kernel
theorem dX7_joined_5 : decode cX7_joined 5 = .ok (.ifCond .eq 20, 3) := by decide +kernel
theorem dX7_joined_8 : decode cX7_joined 8 = .ok (.aload_n 0, 1) := by decide +kernel
theorem dX7_joined_9 : decode cX7_joined 9 = .ok (.iload_n 2, 1) := by decide +kernel
theorem dX7_joined_10 : decode cX7_joined 10 = .ok (.invokevirtual 102, 3) := by decide +kernel
theorem dX7_joined_13 : decode cX7_joined 13 = .ok (.ifCond .eq 12, 3) := by decide +kernel
theorem dX7_joined_16 : decode cX7_joined 16 = .ok (.aload_n 0, 1) := by decide +kernel
theorem dX7_joined_17 : decode cX7_joined 17 = .ok (.iload_n 1, 1) := by decide +kernel
theorem dX7_joined_18 : decode cX7_joined 18 = .ok (.iload_n 2, 1) := by decide +kernel
theorem dX7_joined_19 : decode cX7_joined 19 = .ok (.invokevirtual 197, 3) := by decide +kernel
theorem dX7_joined_22 : decode cX7_joined 22 = .ok (.goto 5, 3) := by decide +kernel
theorem dX7_joined_25 : decode cX7_joined 25 = .ok (.bipush (-2), 2) := by decide +kernel
theorem dX7_joined_27 : decode cX7_joined 27 = .ok (.ireturn, 1) := by decide +kernel
abbrev kX7_joined (g : rk_G) (R : rk_R) (pc : Nat) : rk_K := rk_cut g cX7_joined 3 (some .int) RX7 11 R pc
abbrev aX7_joined (g : rk_G) (R : rk_R) (pc : Nat) (K : rk_K) : Prop := rk_AK g cX7_joined 3 (some .int) RX7 11 R pc K
abbrev sX7_joined (g : rk_G) (vs : List Value) (σ : rk_M) (R : rk_R) : Prop := rk_does g yX7_joined cX7_joined 3 (some .int) 11 vs σ R
abbrev tX7_joined (g : rk_G) (R : rk_R) (pc : Nat) (ls st : List Value) (σ : rk_M) : Prop := rk_At g cX7_joined 3 (some .int) RX7 11 R pc ls st σ
def bX7_joined_27 (g : rk_G) (R : rk_R) : rk_K := (rk_iret R)
theorem eX7_joined_27 (g : rk_G) (R : rk_R) (ls st : List Value) (σ : rk_M) : bX7_joined_27 g R ls st σ = (rk_iret R) ls st σ := rfl
theorem oX7_joined_27 {g : rk_G} {R : rk_R} : aX7_joined g R 27 (bX7_joined_27 g R) := (rk_iret_ok rfl dX7_joined_27)
def bX7_joined_25 (g : rk_G) (R : rk_R) : rk_K := (rk_ci (-2) (bX7_joined_27 g R))
theorem eX7_joined_25 (g : rk_G) (R : rk_R) (ls st : List Value) (σ : rk_M) : bX7_joined_25 g R ls st σ = (rk_ci (-2) (bX7_joined_27 g R)) ls st σ := rfl
theorem oX7_joined_25 {g : rk_G} {R : rk_R} : aX7_joined g R 25 (bX7_joined_25 g R) := (rk_bipush_ok dX7_joined_25 (by decide) oX7_joined_27)
def bX7_joined_0 (g : rk_G) (R : rk_R) : rk_K := (rk_aload 0 (rk_iload 1 (rk_cV g 1 7 yX7_isMeeting cX7_isMeeting 2 (some .boolean) 1 (rk_if_eq (bX7_joined_25 g R) (rk_aload 0 (rk_iload 2 (rk_cV g 1 7 yX7_isRoad cX7_isRoad 2 (some .boolean) 1 (rk_if_eq (bX7_joined_25 g R) (rk_aload 0 (rk_iload 1 (rk_iload 2 (rk_cV g 2 7 yX7_joinedOf cX7_joinedOf 3 (some .int) 10 (bX7_joined_27 g R)))))))))))))
theorem eX7_joined_0 (g : rk_G) (R : rk_R) (ls st : List Value) (σ : rk_M) : bX7_joined_0 g R ls st σ = (rk_aload 0 (rk_iload 1 (rk_cV g 1 7 yX7_isMeeting cX7_isMeeting 2 (some .boolean) 1 (rk_if_eq (bX7_joined_25 g R) (rk_aload 0 (rk_iload 2 (rk_cV g 1 7 yX7_isRoad cX7_isRoad 2 (some .boolean) 1 (rk_if_eq (bX7_joined_25 g R) (rk_aload 0 (rk_iload 1 (rk_iload 2 (rk_cV g 2 7 yX7_joinedOf cX7_joinedOf 3 (some .int) 10 (bX7_joined_27 g R))))))))))))) ls st σ := rfl
theorem oX7_joined_0 {g : rk_G} {R : rk_R} : aX7_joined g R 0 (bX7_joined_0 g R) := (rk_aload_n_ok dX7_joined_0 rfl (rk_iload_n_ok dX7_joined_1 rfl (rk_cV_ok dX7_joined_2 rfl rfl npX7_isMeeting wmX7_91 wvX7_isMeeting weX7_isMeeting wiX7 wdX7_isMeeting (by decide) (by decide) (rk_if_eq_ok (pc' := 25) dX7_joined_5 (by decide) oX7_joined_25 (rk_aload_n_ok dX7_joined_8 rfl (rk_iload_n_ok dX7_joined_9 rfl (rk_cV_ok dX7_joined_10 rfl rfl npX7_isRoad wmX7_102 wvX7_isRoad weX7_isRoad wiX7 wdX7_isRoad (by decide) (by decide) (rk_if_eq_ok (pc' := 25) dX7_joined_13 (by decide) oX7_joined_25 (rk_aload_n_ok dX7_joined_16 rfl (rk_iload_n_ok dX7_joined_17 rfl (rk_iload_n_ok dX7_joined_18 rfl (rk_cV_ok dX7_joined_19 rfl rfl npX7_joinedOf wmX7_197 wvX7_joinedOf weX7_joinedOf wiX7 wdX7_joinedOf (by decide) (by decide) (rk_goto_ok (pc' := 27) dX7_joined_22 (by decide) oX7_joined_27)))))))))))))
theorem dX7_stroke_0 : decode cX7_stroke 0 = .ok (.aload_n 0, 1) := by decide +kernel
theorem dX7_stroke_1 : decode cX7_stroke 1 = .ok (.iload_n 1, 1) := by decide +kernel
theorem dX7_stroke_2 : decode cX7_stroke 2 = .ok (.invokevirtual 210, 3) := by decide +kernel
theorem dX7_stroke_5 : decode cX7_stroke 5 = .ok (.ifCond .eq 22, 3) := by decide +kernel
theorem dX7_stroke_8 : decode cX7_stroke 8 = .ok (.iload_n 2, 1) := by decide +kernel
theorem dX7_stroke_9 : decode cX7_stroke 9 = .ok (.iconst 0, 1) := by decide +kernel
theorem dX7_stroke_10 : decode cX7_stroke 10 = .ok (.bipush 6, 2) := by decide +kernel
theorem dX7_stroke_12 : decode cX7_stroke 12 = .ok (.invokestatic 81, 3) := by decide +kernel
theorem dX7_stroke_15 : decode cX7_stroke 15 = .ok (.ifCond .eq 12, 3) := by decide +kernel
theorem dX7_stroke_18 : decode cX7_stroke 18 = .ok (.aload_n 0, 1) := by decide +kernel
theorem dX7_stroke_19 : decode cX7_stroke 19 = .ok (.iload_n 1, 1) := by decide +kernel
theorem dX7_stroke_20 : decode cX7_stroke 20 = .ok (.iload_n 2, 1) := by decide +kernel
theorem dX7_stroke_21 : decode cX7_stroke 21 = .ok (.invokevirtual 213, 3) := by decide +kernel
theorem dX7_stroke_24 : decode cX7_stroke 24 = .ok (.goto 5, 3) := by decide +kernel
theorem dX7_stroke_27 : decode cX7_stroke 27 = .ok (.bipush (-2), 2) := by decide +kernel
theorem dX7_stroke_29 : decode cX7_stroke 29 = .ok (.ireturn, 1) := by decide +kernel
abbrev kX7_stroke (g : rk_G) (R : rk_R) (pc : Nat) : rk_K := rk_cut g cX7_stroke 3 (some .int) RX7 11 R pc
abbrev aX7_stroke (g : rk_G) (R : rk_R) (pc : Nat) (K : rk_K) : Prop := rk_AK g cX7_stroke 3 (some .int) RX7 11 R pc K
abbrev sX7_stroke (g : rk_G) (vs : List Value) (σ : rk_M) (R : rk_R) : Prop := rk_does g yX7_stroke cX7_stroke 3 (some .int) 11 vs σ R
abbrev tX7_stroke (g : rk_G) (R : rk_R) (pc : Nat) (ls st : List Value) (σ : rk_M) : Prop := rk_At g cX7_stroke 3 (some .int) RX7 11 R pc ls st σ
def bX7_stroke_29 (g : rk_G) (R : rk_R) : rk_K := (rk_iret R)
theorem eX7_stroke_29 (g : rk_G) (R : rk_R) (ls st : List Value) (σ : rk_M) : bX7_stroke_29 g R ls st σ = (rk_iret R) ls st σ := rfl
theorem oX7_stroke_29 {g : rk_G} {R : rk_R} : aX7_stroke g R 29 (bX7_stroke_29 g R) := (rk_iret_ok rfl dX7_stroke_29)
def bX7_stroke_27 (g : rk_G) (R : rk_R) : rk_K := (rk_ci (-2) (bX7_stroke_29 g R))
theorem eX7_stroke_27 (g : rk_G) (R : rk_R) (ls st : List Value) (σ : rk_M) : bX7_stroke_27 g R ls st σ = (rk_ci (-2) (bX7_stroke_29 g R)) ls st σ := rfl
theorem oX7_stroke_27 {g : rk_G} {R : rk_R} : aX7_stroke g R 27 (bX7_stroke_27 g R) := (rk_bipush_ok dX7_stroke_27 (by decide) oX7_stroke_29)
def bX7_stroke_0 (g : rk_G) (R : rk_R) : rk_K := (rk_aload 0 (rk_iload 1 (rk_cV g 1 7 yX7_isStroke cX7_isStroke 2 (some .boolean) 10 (rk_if_eq (bX7_stroke_27 g R) (rk_iload 2 (rk_ci (0) (rk_ci (6) (rk_cS g 3 yX7_in cX7_in 3 (some .boolean) 0 (rk_if_eq (bX7_stroke_27 g R) (rk_aload 0 (rk_iload 1 (rk_iload 2 (rk_cV g 2 7 yX7_strokeOf cX7_strokeOf 3 (some .int) 2 (bX7_stroke_29 g R))))))))))))))
theorem eX7_stroke_0 (g : rk_G) (R : rk_R) (ls st : List Value) (σ : rk_M) : bX7_stroke_0 g R ls st σ = (rk_aload 0 (rk_iload 1 (rk_cV g 1 7 yX7_isStroke cX7_isStroke 2 (some .boolean) 10 (rk_if_eq (bX7_stroke_27 g R) (rk_iload 2 (rk_ci (0) (rk_ci (6) (rk_cS g 3 yX7_in cX7_in 3 (some .boolean) 0 (rk_if_eq (bX7_stroke_27 g R) (rk_aload 0 (rk_iload 1 (rk_iload 2 (rk_cV g 2 7 yX7_strokeOf cX7_strokeOf 3 (some .int) 2 (bX7_stroke_29 g R)))))))))))))) ls st σ := rfl
theorem oX7_stroke_0 {g : rk_G} {R : rk_R} : aX7_stroke g R 0 (bX7_stroke_0 g R) := (rk_aload_n_ok dX7_stroke_0 rfl (rk_iload_n_ok dX7_stroke_1 rfl (rk_cV_ok dX7_stroke_2 rfl rfl npX7_isStroke wmX7_210 wvX7_isStroke weX7_isStroke wiX7 wdX7_isStroke (by decide) (by decide) (rk_if_eq_ok (pc' := 27) dX7_stroke_5 (by decide) oX7_stroke_27 (rk_iload_n_ok dX7_stroke_8 rfl (rk_iconst_ok dX7_stroke_9 (by decide) (rk_bipush_ok dX7_stroke_10 (by decide) (rk_cS_ok dX7_stroke_12 npX7_in wmX7_81 wtX7_in wiX7 wdX7_in (by decide) (by decide) (rk_if_eq_ok (pc' := 27) dX7_stroke_15 (by decide) oX7_stroke_27 (rk_aload_n_ok dX7_stroke_18 rfl (rk_iload_n_ok dX7_stroke_19 rfl (rk_iload_n_ok dX7_stroke_20 rfl (rk_cV_ok dX7_stroke_21 rfl rfl npX7_strokeOf wmX7_213 wvX7_strokeOf weX7_strokeOf wiX7 wdX7_strokeOf (by decide) (by decide) (rk_goto_ok (pc' := 29) dX7_stroke_24 (by decide) oX7_stroke_29))))))))))))))
theorem dX7_rank_0 : decode cX7_rank 0 = .ok (.iload_n 1, 1) := by decide +kernel
theorem dX7_rank_1 : decode cX7_rank 1 = .ok (.iconst 0, 1) := by decide +kernel
theorem dX7_rank_2 : decode cX7_rank 2 = .ok (.bipush 23, 2) := by decide +kernel
theorem dX7_rank_4 : decode cX7_rank 4 = .ok (.invokestatic 81, 3) := by decide +kernel
theorem dX7_rank_7 : decode cX7_rank 7 = .ok (.ifCond .eq 21, 3) := by decide +kernel
theorem dX7_rank_10 : decode cX7_rank 10 = .ok (.iload_n 2, 1) := by decide +kernel
theorem dX7_rank_11 : decode cX7_rank 11 = .ok (.iconst 0, 1) := by decide +kernel
theorem dX7_rank_12 : decode cX7_rank 12 = .ok (.iconst 1, 1) := by decide +kernel
theorem dX7_rank_13 : decode cX7_rank 13 = .ok (.invokestatic 81, 3) := by decide +kernel
theorem dX7_rank_16 : decode cX7_rank 16 = .ok (.ifCond .eq 12, 3) := by decide +kernel
theorem dX7_rank_19 : decode cX7_rank 19 = .ok (.aload_n 0, 1) := by decide +kernel
theorem dX7_rank_20 : decode cX7_rank 20 = .ok (.iload_n 1, 1) := by decide +kernel
theorem dX7_rank_21 : decode cX7_rank 21 = .ok (.iload_n 2, 1) := by decide +kernel
theorem dX7_rank_22 : decode cX7_rank 22 = .ok (.invokevirtual 215, 3) := by decide +kernel
theorem dX7_rank_25 : decode cX7_rank 25 = .ok (.goto 5, 3) := by decide +kernel
theorem dX7_rank_28 : decode cX7_rank 28 = .ok (.bipush (-2), 2) := by decide +kernel
theorem dX7_rank_30 : decode cX7_rank 30 = .ok (.ireturn, 1) := by decide +kernel
abbrev kX7_rank (g : rk_G) (R : rk_R) (pc : Nat) : rk_K := rk_cut g cX7_rank 3 (some .int) RX7 11 R pc
abbrev aX7_rank (g : rk_G) (R : rk_R) (pc : Nat) (K : rk_K) : Prop := rk_AK g cX7_rank 3 (some .int) RX7 11 R pc K
abbrev sX7_rank (g : rk_G) (vs : List Value) (σ : rk_M) (R : rk_R) : Prop := rk_does g yX7_rank cX7_rank 3 (some .int) 11 vs σ R
abbrev tX7_rank (g : rk_G) (R : rk_R) (pc : Nat) (ls st : List Value) (σ : rk_M) : Prop := rk_At g cX7_rank 3 (some .int) RX7 11 R pc ls st σ
def bX7_rank_30 (g : rk_G) (R : rk_R) : rk_K := (rk_iret R)
theorem eX7_rank_30 (g : rk_G) (R : rk_R) (ls st : List Value) (σ : rk_M) : bX7_rank_30 g R ls st σ = (rk_iret R) ls st σ := rfl
theorem oX7_rank_30 {g : rk_G} {R : rk_R} : aX7_rank g R 30 (bX7_rank_30 g R) := (rk_iret_ok rfl dX7_rank_30)
def bX7_rank_28 (g : rk_G) (R : rk_R) : rk_K := (rk_ci (-2) (bX7_rank_30 g R))
theorem eX7_rank_28 (g : rk_G) (R : rk_R) (ls st : List Value) (σ : rk_M) : bX7_rank_28 g R ls st σ = (rk_ci (-2) (bX7_rank_30 g R)) ls st σ := rfl
theorem oX7_rank_28 {g : rk_G} {R : rk_R} : aX7_rank g R 28 (bX7_rank_28 g R) := (rk_bipush_ok dX7_rank_28 (by decide) oX7_rank_30)
def bX7_rank_0 (g : rk_G) (R : rk_R) : rk_K := (rk_iload 1 (rk_ci (0) (rk_ci (23) (rk_cS g 3 yX7_in cX7_in 3 (some .boolean) 0 (rk_if_eq (bX7_rank_28 g R) (rk_iload 2 (rk_ci (0) (rk_ci (1) (rk_cS g 3 yX7_in cX7_in 3 (some .boolean) 0 (rk_if_eq (bX7_rank_28 g R) (rk_aload 0 (rk_iload 1 (rk_iload 2 (rk_cV g 2 7 yX7_rankFor cX7_rankFor 5 (some .int) 10 (bX7_rank_30 g R)))))))))))))))
theorem eX7_rank_0 (g : rk_G) (R : rk_R) (ls st : List Value) (σ : rk_M) : bX7_rank_0 g R ls st σ = (rk_iload 1 (rk_ci (0) (rk_ci (23) (rk_cS g 3 yX7_in cX7_in 3 (some .boolean) 0 (rk_if_eq (bX7_rank_28 g R) (rk_iload 2 (rk_ci (0) (rk_ci (1) (rk_cS g 3 yX7_in cX7_in 3 (some .boolean) 0 (rk_if_eq (bX7_rank_28 g R) (rk_aload 0 (rk_iload 1 (rk_iload 2 (rk_cV g 2 7 yX7_rankFor cX7_rankFor 5 (some .int) 10 (bX7_rank_30 g R))))))))))))))) ls st σ := rfl
theorem oX7_rank_0 {g : rk_G} {R : rk_R} : aX7_rank g R 0 (bX7_rank_0 g R) := (rk_iload_n_ok dX7_rank_0 rfl (rk_iconst_ok dX7_rank_1 (by decide) (rk_bipush_ok dX7_rank_2 (by decide) (rk_cS_ok dX7_rank_4 npX7_in wmX7_81 wtX7_in wiX7 wdX7_in (by decide) (by decide) (rk_if_eq_ok (pc' := 28) dX7_rank_7 (by decide) oX7_rank_28 (rk_iload_n_ok dX7_rank_10 rfl (rk_iconst_ok dX7_rank_11 (by decide) (rk_iconst_ok dX7_rank_12 (by decide) (rk_cS_ok dX7_rank_13 npX7_in wmX7_81 wtX7_in wiX7 wdX7_in (by decide) (by decide) (rk_if_eq_ok (pc' := 28) dX7_rank_16 (by decide) oX7_rank_28 (rk_aload_n_ok dX7_rank_19 rfl (rk_iload_n_ok dX7_rank_20 rfl (rk_iload_n_ok dX7_rank_21 rfl (rk_cV_ok dX7_rank_22 rfl rfl npX7_rankFor wmX7_215 wvX7_rankFor weX7_rankFor wiX7 wdX7_rankFor (by decide) (by decide) (rk_goto_ok (pc' := 30) dX7_rank_25 (by decide) oX7_rank_30)))))))))))))))
theorem dX7_far_0 : decode cX7_far 0 = .ok (.aload_n 0, 1) := by decide +kernel
theorem dX7_far_1 : decode cX7_far 1 = .ok (.iload_n 1, 1) := by decide +kernel
theorem dX7_far_2 : decode cX7_far 2 = .ok (.invokevirtual 225, 3) := by decide +kernel
theorem dX7_far_5 : decode cX7_far 5 = .ok (.ifCond .eq 29, 3) := by decide +kernel
theorem dX7_far_8 : decode cX7_far 8 = .ok (.aload_n 0, 1) := by decide +kernel
theorem dX7_far_9 : decode cX7_far 9 = .ok (.iload_n 2, 1) := by decide +kernel
theorem dX7_far_10 : decode cX7_far 10 = .ok (.invokevirtual 91, 3) := by decide +kernel
theorem dX7_far_13 : decode cX7_far 13 = .ok (.ifCond .eq 21, 3) := by decide +kernel
theorem dX7_far_16 : decode cX7_far 16 = .ok (.aload_n 0, 1) := by decide +kernel
theorem dX7_far_17 : decode cX7_far 17 = .ok (.iload_n 3, 1) := by decide +kernel
theorem dX7_far_18 : decode cX7_far 18 = .ok (.invokevirtual 91, 3) := by decide +kernel
theorem dX7_far_21 : decode cX7_far 21 = .ok (.ifCond .eq 13, 3) := by decide +kernel
theorem dX7_far_24 : decode cX7_far 24 = .ok (.aload_n 0, 1) := by decide +kernel
theorem dX7_far_25 : decode cX7_far 25 = .ok (.iload_n 1, 1) := by decide +kernel
theorem dX7_far_26 : decode cX7_far 26 = .ok (.iload_n 2, 1) := by decide +kernel
theorem dX7_far_27 : decode cX7_far 27 = .ok (.iload_n 3, 1) := by decide +kernel
theorem dX7_far_28 : decode cX7_far 28 = .ok (.invokevirtual 228, 3) := by decide +kernel
theorem dX7_far_31 : decode cX7_far 31 = .ok (.goto 5, 3) := by decide +kernel
theorem dX7_far_34 : decode cX7_far 34 = .ok (.bipush (-2), 2) := by decide +kernel
theorem dX7_far_36 : decode cX7_far 36 = .ok (.ireturn, 1) := by decide +kernel
abbrev kX7_far (g : rk_G) (R : rk_R) (pc : Nat) : rk_K := rk_cut g cX7_far 4 (some .int) RX7 11 R pc
abbrev aX7_far (g : rk_G) (R : rk_R) (pc : Nat) (K : rk_K) : Prop := rk_AK g cX7_far 4 (some .int) RX7 11 R pc K
abbrev sX7_far (g : rk_G) (vs : List Value) (σ : rk_M) (R : rk_R) : Prop := rk_does g yX7_far cX7_far 4 (some .int) 11 vs σ R
abbrev tX7_far (g : rk_G) (R : rk_R) (pc : Nat) (ls st : List Value) (σ : rk_M) : Prop := rk_At g cX7_far 4 (some .int) RX7 11 R pc ls st σ
def bX7_far_36 (g : rk_G) (R : rk_R) : rk_K := (rk_iret R)
theorem eX7_far_36 (g : rk_G) (R : rk_R) (ls st : List Value) (σ : rk_M) : bX7_far_36 g R ls st σ = (rk_iret R) ls st σ := rfl
theorem oX7_far_36 {g : rk_G} {R : rk_R} : aX7_far g R 36 (bX7_far_36 g R) := (rk_iret_ok rfl dX7_far_36)
def bX7_far_34 (g : rk_G) (R : rk_R) : rk_K := (rk_ci (-2) (bX7_far_36 g R))
theorem eX7_far_34 (g : rk_G) (R : rk_R) (ls st : List Value) (σ : rk_M) : bX7_far_34 g R ls st σ = (rk_ci (-2) (bX7_far_36 g R)) ls st σ := rfl
theorem oX7_far_34 {g : rk_G} {R : rk_R} : aX7_far g R 34 (bX7_far_34 g R) := (rk_bipush_ok dX7_far_34 (by decide) oX7_far_36)
def bX7_far_0 (g : rk_G) (R : rk_R) : rk_K := (rk_aload 0 (rk_iload 1 (rk_cV g 1 7 yX7_isNet cX7_isNet 2 (some .boolean) 10 (rk_if_eq (bX7_far_34 g R) (rk_aload 0 (rk_iload 2 (rk_cV g 1 7 yX7_isMeeting cX7_isMeeting 2 (some .boolean) 1 (rk_if_eq (bX7_far_34 g R) (rk_aload 0 (rk_iload 3 (rk_cV g 1 7 yX7_isMeeting cX7_isMeeting 2 (some .boolean) 1 (rk_if_eq (bX7_far_34 g R) (rk_aload 0 (rk_iload 1 (rk_iload 2 (rk_iload 3 (rk_cV g 3 7 yX7_farOf cX7_farOf 4 (some .int) 3 (bX7_far_36 g R))))))))))))))))))
theorem eX7_far_0 (g : rk_G) (R : rk_R) (ls st : List Value) (σ : rk_M) : bX7_far_0 g R ls st σ = (rk_aload 0 (rk_iload 1 (rk_cV g 1 7 yX7_isNet cX7_isNet 2 (some .boolean) 10 (rk_if_eq (bX7_far_34 g R) (rk_aload 0 (rk_iload 2 (rk_cV g 1 7 yX7_isMeeting cX7_isMeeting 2 (some .boolean) 1 (rk_if_eq (bX7_far_34 g R) (rk_aload 0 (rk_iload 3 (rk_cV g 1 7 yX7_isMeeting cX7_isMeeting 2 (some .boolean) 1 (rk_if_eq (bX7_far_34 g R) (rk_aload 0 (rk_iload 1 (rk_iload 2 (rk_iload 3 (rk_cV g 3 7 yX7_farOf cX7_farOf 4 (some .int) 3 (bX7_far_36 g R)))))))))))))))))) ls st σ := rfl
theorem oX7_far_0 {g : rk_G} {R : rk_R} : aX7_far g R 0 (bX7_far_0 g R) := (rk_aload_n_ok dX7_far_0 rfl (rk_iload_n_ok dX7_far_1 rfl (rk_cV_ok dX7_far_2 rfl rfl npX7_isNet wmX7_225 wvX7_isNet weX7_isNet wiX7 wdX7_isNet (by decide) (by decide) (rk_if_eq_ok (pc' := 34) dX7_far_5 (by decide) oX7_far_34 (rk_aload_n_ok dX7_far_8 rfl (rk_iload_n_ok dX7_far_9 rfl (rk_cV_ok dX7_far_10 rfl rfl npX7_isMeeting wmX7_91 wvX7_isMeeting weX7_isMeeting wiX7 wdX7_isMeeting (by decide) (by decide) (rk_if_eq_ok (pc' := 34) dX7_far_13 (by decide) oX7_far_34 (rk_aload_n_ok dX7_far_16 rfl (rk_iload_n_ok dX7_far_17 rfl (rk_cV_ok dX7_far_18 rfl rfl npX7_isMeeting wmX7_91 wvX7_isMeeting weX7_isMeeting wiX7 wdX7_isMeeting (by decide) (by decide) (rk_if_eq_ok (pc' := 34) dX7_far_21 (by decide) oX7_far_34 (rk_aload_n_ok dX7_far_24 rfl (rk_iload_n_ok dX7_far_25 rfl (rk_iload_n_ok dX7_far_26 rfl (rk_iload_n_ok dX7_far_27 rfl (rk_cV_ok dX7_far_28 rfl rfl npX7_farOf wmX7_228 wvX7_farOf weX7_farOf wiX7 wdX7_farOf (by decide) (by decide) (rk_goto_ok (pc' := 36) dX7_far_31 (by decide) oX7_far_36))))))))))))))))))
theorem dX7_cut_0 : decode cX7_cut 0 = .ok (.aload_n 0, 1) := by decide +kernel
theorem dX7_cut_1 : decode cX7_cut 1 = .ok (.iload_n 1, 1) := by decide +kernel
theorem dX7_cut_2 : decode cX7_cut 2 = .ok (.invokevirtual 225, 3) := by decide +kernel
theorem dX7_cut_5 : decode cX7_cut 5 = .ok (.ifCond .eq 33, 3) := by decide +kernel
theorem dX7_cut_8 : decode cX7_cut 8 = .ok (.iload_n 2, 1) := by decide +kernel
theorem dX7_cut_9 : decode cX7_cut 9 = .ok (.iconst 0, 1) := by decide +kernel
theorem dX7_cut_10 : decode cX7_cut 10 = .ok (.sipush 9999, 3) := by decide +kernel
theorem dX7_cut_13 : decode cX7_cut 13 = .ok (.invokestatic 81, 3) := by decide +kernel
theorem dX7_cut_16 : decode cX7_cut 16 = .ok (.ifCond .eq 22, 3) := by decide +kernel
theorem dX7_cut_19 : decode cX7_cut 19 = .ok (.iload_n 3, 1) := by decide +kernel
theorem dX7_cut_20 : decode cX7_cut 20 = .ok (.iconst 0, 1) := by decide +kernel
theorem dX7_cut_21 : decode cX7_cut 21 = .ok (.iconst 3, 1) := by decide +kernel
theorem dX7_cut_22 : decode cX7_cut 22 = .ok (.invokestatic 81, 3) := by decide +kernel
theorem dX7_cut_25 : decode cX7_cut 25 = .ok (.ifCond .eq 13, 3) := by decide +kernel
theorem dX7_cut_28 : decode cX7_cut 28 = .ok (.aload_n 0, 1) := by decide +kernel
theorem dX7_cut_29 : decode cX7_cut 29 = .ok (.iload_n 1, 1) := by decide +kernel
theorem dX7_cut_30 : decode cX7_cut 30 = .ok (.iload_n 2, 1) := by decide +kernel
theorem dX7_cut_31 : decode cX7_cut 31 = .ok (.iload_n 3, 1) := by decide +kernel
theorem dX7_cut_32 : decode cX7_cut 32 = .ok (.invokevirtual 259, 3) := by decide +kernel
theorem dX7_cut_35 : decode cX7_cut 35 = .ok (.goto 5, 3) := by decide +kernel
theorem dX7_cut_38 : decode cX7_cut 38 = .ok (.bipush (-2), 2) := by decide +kernel
theorem dX7_cut_40 : decode cX7_cut 40 = .ok (.ireturn, 1) := by decide +kernel
abbrev kX7_cut (g : rk_G) (R : rk_R) (pc : Nat) : rk_K := rk_cut g cX7_cut 4 (some .int) RX7 11 R pc
abbrev aX7_cut (g : rk_G) (R : rk_R) (pc : Nat) (K : rk_K) : Prop := rk_AK g cX7_cut 4 (some .int) RX7 11 R pc K
abbrev sX7_cut (g : rk_G) (vs : List Value) (σ : rk_M) (R : rk_R) : Prop := rk_does g yX7_cut cX7_cut 4 (some .int) 11 vs σ R
abbrev tX7_cut (g : rk_G) (R : rk_R) (pc : Nat) (ls st : List Value) (σ : rk_M) : Prop := rk_At g cX7_cut 4 (some .int) RX7 11 R pc ls st σ
def bX7_cut_40 (g : rk_G) (R : rk_R) : rk_K := (rk_iret R)
theorem eX7_cut_40 (g : rk_G) (R : rk_R) (ls st : List Value) (σ : rk_M) : bX7_cut_40 g R ls st σ = (rk_iret R) ls st σ := rfl
theorem oX7_cut_40 {g : rk_G} {R : rk_R} : aX7_cut g R 40 (bX7_cut_40 g R) := (rk_iret_ok rfl dX7_cut_40)
def bX7_cut_38 (g : rk_G) (R : rk_R) : rk_K := (rk_ci (-2) (bX7_cut_40 g R))
theorem eX7_cut_38 (g : rk_G) (R : rk_R) (ls st : List Value) (σ : rk_M) : bX7_cut_38 g R ls st σ = (rk_ci (-2) (bX7_cut_40 g R)) ls st σ := rfl
theorem oX7_cut_38 {g : rk_G} {R : rk_R} : aX7_cut g R 38 (bX7_cut_38 g R) := (rk_bipush_ok dX7_cut_38 (by decide) oX7_cut_40)
def bX7_cut_0 (g : rk_G) (R : rk_R) : rk_K := (rk_aload 0 (rk_iload 1 (rk_cV g 1 7 yX7_isNet cX7_isNet 2 (some .boolean) 10 (rk_if_eq (bX7_cut_38 g R) (rk_iload 2 (rk_ci (0) (rk_ci (9999) (rk_cS g 3 yX7_in cX7_in 3 (some .boolean) 0 (rk_if_eq (bX7_cut_38 g R) (rk_iload 3 (rk_ci (0) (rk_ci (3) (rk_cS g 3 yX7_in cX7_in 3 (some .boolean) 0 (rk_if_eq (bX7_cut_38 g R) (rk_aload 0 (rk_iload 1 (rk_iload 2 (rk_iload 3 (rk_cV g 3 7 yX7_cutOf cX7_cutOf 6 (some .int) 5 (bX7_cut_40 g R))))))))))))))))))))
theorem eX7_cut_0 (g : rk_G) (R : rk_R) (ls st : List Value) (σ : rk_M) : bX7_cut_0 g R ls st σ = (rk_aload 0 (rk_iload 1 (rk_cV g 1 7 yX7_isNet cX7_isNet 2 (some .boolean) 10 (rk_if_eq (bX7_cut_38 g R) (rk_iload 2 (rk_ci (0) (rk_ci (9999) (rk_cS g 3 yX7_in cX7_in 3 (some .boolean) 0 (rk_if_eq (bX7_cut_38 g R) (rk_iload 3 (rk_ci (0) (rk_ci (3) (rk_cS g 3 yX7_in cX7_in 3 (some .boolean) 0 (rk_if_eq (bX7_cut_38 g R) (rk_aload 0 (rk_iload 1 (rk_iload 2 (rk_iload 3 (rk_cV g 3 7 yX7_cutOf cX7_cutOf 6 (some .int) 5 (bX7_cut_40 g R)))))))))))))))))))) ls st σ := rfl
theorem oX7_cut_0 {g : rk_G} {R : rk_R} : aX7_cut g R 0 (bX7_cut_0 g R) := (rk_aload_n_ok dX7_cut_0 rfl (rk_iload_n_ok dX7_cut_1 rfl (rk_cV_ok dX7_cut_2 rfl rfl npX7_isNet wmX7_225 wvX7_isNet weX7_isNet wiX7 wdX7_isNet (by decide) (by decide) (rk_if_eq_ok (pc' := 38) dX7_cut_5 (by decide) oX7_cut_38 (rk_iload_n_ok dX7_cut_8 rfl (rk_iconst_ok dX7_cut_9 (by decide) (rk_sipush_ok dX7_cut_10 (by decide) (rk_cS_ok dX7_cut_13 npX7_in wmX7_81 wtX7_in wiX7 wdX7_in (by decide) (by decide) (rk_if_eq_ok (pc' := 38) dX7_cut_16 (by decide) oX7_cut_38 (rk_iload_n_ok dX7_cut_19 rfl (rk_iconst_ok dX7_cut_20 (by decide) (rk_iconst_ok dX7_cut_21 (by decide) (rk_cS_ok dX7_cut_22 npX7_in wmX7_81 wtX7_in wiX7 wdX7_in (by decide) (by decide) (rk_if_eq_ok (pc' := 38) dX7_cut_25 (by decide) oX7_cut_38 (rk_aload_n_ok dX7_cut_28 rfl (rk_iload_n_ok dX7_cut_29 rfl (rk_iload_n_ok dX7_cut_30 rfl (rk_iload_n_ok dX7_cut_31 rfl (rk_cV_ok dX7_cut_32 rfl rfl npX7_cutOf wmX7_259 wvX7_cutOf weX7_cutOf wiX7 wdX7_cutOf (by decide) (by decide) (rk_goto_ok (pc' := 40) dX7_cut_35 (by decide) oX7_cut_40))))))))))))))))))))
theorem dX7_bridges_0 : decode cX7_bridges 0 = .ok (.aload_n 0, 1) := by decide +kernel
theorem dX7_bridges_1 : decode cX7_bridges 1 = .ok (.iload_n 1, 1) := by decide +kernel
theorem dX7_bridges_2 : decode cX7_bridges 2 = .ok (.invokevirtual 225, 3) := by decide +kernel
theorem dX7_bridges_5 : decode cX7_bridges 5 = .ok (.ifCond .eq 11, 3) := by decide +kernel
theorem dX7_bridges_8 : decode cX7_bridges 8 = .ok (.aload_n 0, 1) := by decide +kernel
theorem dX7_bridges_9 : decode cX7_bridges 9 = .ok (.iload_n 1, 1) := by decide +kernel
theorem dX7_bridges_10 : decode cX7_bridges 10 = .ok (.invokevirtual 262, 3) := by decide +kernel
theorem dX7_bridges_13 : decode cX7_bridges 13 = .ok (.goto 5, 3) := by decide +kernel
theorem dX7_bridges_16 : decode cX7_bridges 16 = .ok (.bipush (-2), 2) := by decide +kernel
theorem dX7_bridges_18 : decode cX7_bridges 18 = .ok (.ireturn, 1) := by decide +kernel
abbrev kX7_bridges (g : rk_G) (R : rk_R) (pc : Nat) : rk_K := rk_cut g cX7_bridges 2 (some .int) RX7 11 R pc
abbrev aX7_bridges (g : rk_G) (R : rk_R) (pc : Nat) (K : rk_K) : Prop := rk_AK g cX7_bridges 2 (some .int) RX7 11 R pc K
abbrev sX7_bridges (g : rk_G) (vs : List Value) (σ : rk_M) (R : rk_R) : Prop := rk_does g yX7_bridges cX7_bridges 2 (some .int) 11 vs σ R
abbrev tX7_bridges (g : rk_G) (R : rk_R) (pc : Nat) (ls st : List Value) (σ : rk_M) : Prop := rk_At g cX7_bridges 2 (some .int) RX7 11 R pc ls st σ
def bX7_bridges_18 (g : rk_G) (R : rk_R) : rk_K := (rk_iret R)
theorem eX7_bridges_18 (g : rk_G) (R : rk_R) (ls st : List Value) (σ : rk_M) : bX7_bridges_18 g R ls st σ = (rk_iret R) ls st σ := rfl
theorem oX7_bridges_18 {g : rk_G} {R : rk_R} : aX7_bridges g R 18 (bX7_bridges_18 g R) := (rk_iret_ok rfl dX7_bridges_18)
def bX7_bridges_0 (g : rk_G) (R : rk_R) : rk_K := (rk_aload 0 (rk_iload 1 (rk_cV g 1 7 yX7_isNet cX7_isNet 2 (some .boolean) 10 (rk_if_eq (rk_ci (-2) (bX7_bridges_18 g R)) (rk_aload 0 (rk_iload 1 (rk_cV g 1 7 yX7_bridgesOf cX7_bridgesOf 6 (some .int) 3 (bX7_bridges_18 g R))))))))
theorem eX7_bridges_0 (g : rk_G) (R : rk_R) (ls st : List Value) (σ : rk_M) : bX7_bridges_0 g R ls st σ = (rk_aload 0 (rk_iload 1 (rk_cV g 1 7 yX7_isNet cX7_isNet 2 (some .boolean) 10 (rk_if_eq (rk_ci (-2) (bX7_bridges_18 g R)) (rk_aload 0 (rk_iload 1 (rk_cV g 1 7 yX7_bridgesOf cX7_bridgesOf 6 (some .int) 3 (bX7_bridges_18 g R)))))))) ls st σ := rfl
theorem oX7_bridges_0 {g : rk_G} {R : rk_R} : aX7_bridges g R 0 (bX7_bridges_0 g R) := (rk_aload_n_ok dX7_bridges_0 rfl (rk_iload_n_ok dX7_bridges_1 rfl (rk_cV_ok dX7_bridges_2 rfl rfl npX7_isNet wmX7_225 wvX7_isNet weX7_isNet wiX7 wdX7_isNet (by decide) (by decide) (rk_if_eq_ok (pc' := 16) dX7_bridges_5 (by decide) (rk_bipush_ok dX7_bridges_16 (by decide) oX7_bridges_18) (rk_aload_n_ok dX7_bridges_8 rfl (rk_iload_n_ok dX7_bridges_9 rfl (rk_cV_ok dX7_bridges_10 rfl rfl npX7_bridgesOf wmX7_262 wvX7_bridgesOf weX7_bridgesOf wiX7 wdX7_bridgesOf (by decide) (by decide) (rk_goto_ok (pc' := 18) dX7_bridges_13 (by decide) oX7_bridges_18))))))))
theorem dX7_count_0 : decode cX7_count 0 = .ok (.iload_n 1, 1) := by decide +kernel
theorem dX7_count_1 : decode cX7_count 1 = .ok (.tableswitch 72 0 8 #[51, 56, 61, 61, 61, 61, 61, 61, 67], 51) := by decide +kernel
theorem dX7_count_52 : decode cX7_count 52 = .ok (.aload_n 0, 1) := by decide +kernel
theorem dX7_count_53 : decode cX7_count 53 = .ok (.getfield 77, 3) := by decide +kernel
theorem dX7_count_56 : decode cX7_count 56 = .ok (.ireturn, 1) := by decide +kernel
theorem dX7_count_57 : decode cX7_count 57 = .ok (.aload_n 0, 1) := by decide +kernel
theorem dX7_count_58 : decode cX7_count 58 = .ok (.getfield 85, 3) := by decide +kernel
theorem dX7_count_61 : decode cX7_count 61 = .ok (.ireturn, 1) := by decide +kernel
theorem dX7_count_62 : decode cX7_count 62 = .ok (.aload_n 0, 1) := by decide +kernel
theorem dX7_count_63 : decode cX7_count 63 = .ok (.iload_n 1, 1) := by decide +kernel
theorem dX7_count_64 : decode cX7_count 64 = .ok (.invokevirtual 282, 3) := by decide +kernel
theorem dX7_count_67 : decode cX7_count 67 = .ok (.ireturn, 1) := by decide +kernel
theorem dX7_count_68 : decode cX7_count 68 = .ok (.aload_n 0, 1) := by decide +kernel
theorem dX7_count_69 : decode cX7_count 69 = .ok (.getfield 271, 3) := by decide +kernel
theorem dX7_count_72 : decode cX7_count 72 = .ok (.ireturn, 1) := by decide +kernel
theorem dX7_count_73 : decode cX7_count 73 = .ok (.bipush (-2), 2) := by decide +kernel
theorem dX7_count_75 : decode cX7_count 75 = .ok (.ireturn, 1) := by decide +kernel
abbrev kX7_count (g : rk_G) (R : rk_R) (pc : Nat) : rk_K := rk_cut g cX7_count 2 (some .int) RX7 11 R pc
abbrev aX7_count (g : rk_G) (R : rk_R) (pc : Nat) (K : rk_K) : Prop := rk_AK g cX7_count 2 (some .int) RX7 11 R pc K
abbrev sX7_count (g : rk_G) (vs : List Value) (σ : rk_M) (R : rk_R) : Prop := rk_does g yX7_count cX7_count 2 (some .int) 11 vs σ R
abbrev tX7_count (g : rk_G) (R : rk_R) (pc : Nat) (ls st : List Value) (σ : rk_M) : Prop := rk_At g cX7_count 2 (some .int) RX7 11 R pc ls st σ
def bX7_count_62 (g : rk_G) (R : rk_R) : rk_K := (rk_aload 0 (rk_iload 1 (rk_cV g 1 7 yX7_sumOf cX7_sumOf 6 (some .int) 10 (rk_iret R))))
theorem eX7_count_62 (g : rk_G) (R : rk_R) (ls st : List Value) (σ : rk_M) : bX7_count_62 g R ls st σ = (rk_aload 0 (rk_iload 1 (rk_cV g 1 7 yX7_sumOf cX7_sumOf 6 (some .int) 10 (rk_iret R)))) ls st σ := rfl
theorem oX7_count_62 {g : rk_G} {R : rk_R} : aX7_count g R 62 (bX7_count_62 g R) := (rk_aload_n_ok dX7_count_62 rfl (rk_iload_n_ok dX7_count_63 rfl (rk_cV_ok dX7_count_64 rfl rfl npX7_sumOf wmX7_282 wvX7_sumOf weX7_sumOf wiX7 wdX7_sumOf (by decide) (by decide) (rk_iret_ok rfl dX7_count_67))))
def bX7_count_0 (g : rk_G) (R : rk_R) : rk_K := (rk_iload 1 (rk_sw 0 [(rk_aload 0 (rk_gI 7 0 (rk_iret R))), (rk_aload 0 (rk_gI 7 3 (rk_iret R))), (bX7_count_62 g R), (bX7_count_62 g R), (bX7_count_62 g R), (bX7_count_62 g R), (bX7_count_62 g R), (bX7_count_62 g R), (rk_aload 0 (rk_gI 7 32 (rk_iret R)))] (rk_ci (-2) (rk_iret R))))
theorem eX7_count_0 (g : rk_G) (R : rk_R) (ls st : List Value) (σ : rk_M) : bX7_count_0 g R ls st σ = (rk_iload 1 (rk_sw 0 [(rk_aload 0 (rk_gI 7 0 (rk_iret R))), (rk_aload 0 (rk_gI 7 3 (rk_iret R))), (bX7_count_62 g R), (bX7_count_62 g R), (bX7_count_62 g R), (bX7_count_62 g R), (bX7_count_62 g R), (bX7_count_62 g R), (rk_aload 0 (rk_gI 7 32 (rk_iret R)))] (rk_ci (-2) (rk_iret R)))) ls st σ := rfl
theorem oX7_count_0 {g : rk_G} {R : rk_R} : aX7_count g R 0 (bX7_count_0 g R) := (rk_iload_n_ok dX7_count_0 rfl (rk_table_ok (pc' := 73) (tg := [52, 57, 62, 62, 62, 62, 62, 62, 68]) dX7_count_1 rfl (by decide) rfl (by decide) (fun j t K ht hk => match j, t, K, ht, hk with | 0, _, _, ht, hk => by cases ht; cases hk; exact (rk_aload_n_ok dX7_count_52 rfl (rk_gI_ok dX7_count_53 rfl iX7 (by decide) rfl wfX7_77 (rk_iret_ok rfl dX7_count_56))) | 1, _, _, ht, hk => by cases ht; cases hk; exact (rk_aload_n_ok dX7_count_57 rfl (rk_gI_ok dX7_count_58 rfl iX7 (by decide) rfl wfX7_85 (rk_iret_ok rfl dX7_count_61))) | 2, _, _, ht, hk => by cases ht; cases hk; exact oX7_count_62 | 3, _, _, ht, hk => by cases ht; cases hk; exact oX7_count_62 | 4, _, _, ht, hk => by cases ht; cases hk; exact oX7_count_62 | 5, _, _, ht, hk => by cases ht; cases hk; exact oX7_count_62 | 6, _, _, ht, hk => by cases ht; cases hk; exact oX7_count_62 | 7, _, _, ht, hk => by cases ht; cases hk; exact oX7_count_62 | 8, _, _, ht, hk => by cases ht; cases hk; exact (rk_aload_n_ok dX7_count_68 rfl (rk_gI_ok dX7_count_69 rfl iX7 (by decide) rfl wfX7_271 (rk_iret_ok rfl dX7_count_72))) | (j + 9), _, _, ht, hk => by cases ht) (rk_bipush_ok dX7_count_73 (by decide) (rk_iret_ok rfl dX7_count_75))))
theorem dX7_roadDigest_0 : decode cX7_roadDigest 0 = .ok (.lload_n 1, 1) := by decide +kernel
theorem dX7_roadDigest_1 : decode cX7_roadDigest 1 = .ok (.lstore 4, 2) := by decide +kernel
theorem dX7_roadDigest_3 : decode cX7_roadDigest 3 = .ok (.iconst 0, 1) := by decide +kernel
theorem dX7_roadDigest_4 : decode cX7_roadDigest 4 = .ok (.istore 6, 2) := by decide +kernel
theorem dX7_roadDigest_6 : decode cX7_roadDigest 6 = .ok (.iload 6, 2) := by decide +kernel
theorem dX7_roadDigest_8 : decode cX7_roadDigest 8 = .ok (.bipush 7, 2) := by decide +kernel
theorem dX7_roadDigest_10 : decode cX7_roadDigest 10 = .ok (.if_icmp .ge 26, 3) := by decide +kernel
theorem dX7_roadDigest_13 : decode cX7_roadDigest 13 = .ok (.ldc2_w 285, 3) := by decide +kernel
theorem dX7_roadDigest_16 : decode cX7_roadDigest 16 = .ok (.lload 4, 2) := by decide +kernel
theorem dX7_roadDigest_18 : decode cX7_roadDigest 18 = .ok (.lmul, 1) := by decide +kernel
theorem dX7_roadDigest_19 : decode cX7_roadDigest 19 = .ok (.aload_n 0, 1) := by decide +kernel
theorem dX7_roadDigest_20 : decode cX7_roadDigest 20 = .ok (.iload_n 3, 1) := by decide +kernel
theorem dX7_roadDigest_21 : decode cX7_roadDigest 21 = .ok (.iload 6, 2) := by decide +kernel
theorem dX7_roadDigest_23 : decode cX7_roadDigest 23 = .ok (.invokevirtual 194, 3) := by decide +kernel
theorem dX7_roadDigest_26 : decode cX7_roadDigest 26 = .ok (.i2l, 1) := by decide +kernel
theorem dX7_roadDigest_27 : decode cX7_roadDigest 27 = .ok (.ladd, 1) := by decide +kernel
theorem dX7_roadDigest_28 : decode cX7_roadDigest 28 = .ok (.lstore 4, 2) := by decide +kernel
theorem dX7_roadDigest_30 : decode cX7_roadDigest 30 = .ok (.iinc 6 1, 3) := by decide +kernel
theorem dX7_roadDigest_33 : decode cX7_roadDigest 33 = .ok (.goto (-27), 3) := by decide +kernel
theorem dX7_roadDigest_36 : decode cX7_roadDigest 36 = .ok (.ldc2_w 285, 3) := by decide +kernel
theorem dX7_roadDigest_39 : decode cX7_roadDigest 39 = .ok (.lload 4, 2) := by decide +kernel
theorem dX7_roadDigest_41 : decode cX7_roadDigest 41 = .ok (.lmul, 1) := by decide +kernel
theorem dX7_roadDigest_42 : decode cX7_roadDigest 42 = .ok (.aload_n 0, 1) := by decide +kernel
theorem dX7_roadDigest_43 : decode cX7_roadDigest 43 = .ok (.aload_n 0, 1) := by decide +kernel
theorem dX7_roadDigest_44 : decode cX7_roadDigest 44 = .ok (.getfield 16, 3) := by decide +kernel
theorem dX7_roadDigest_47 : decode cX7_roadDigest 47 = .ok (.iconst 2, 1) := by decide +kernel
theorem dX7_roadDigest_48 : decode cX7_roadDigest 48 = .ok (.iload_n 3, 1) := by decide +kernel
theorem dX7_roadDigest_49 : decode cX7_roadDigest 49 = .ok (.imul, 1) := by decide +kernel
theorem dX7_roadDigest_50 : decode cX7_roadDigest 50 = .ok (.iaload, 1) := by decide +kernel
theorem dX7_roadDigest_51 : decode cX7_roadDigest 51 = .ok (.iload_n 3, 1) := by decide +kernel
theorem dX7_roadDigest_52 : decode cX7_roadDigest 52 = .ok (.invokevirtual 197, 3) := by decide +kernel
theorem dX7_roadDigest_55 : decode cX7_roadDigest 55 = .ok (.i2l, 1) := by decide +kernel
theorem dX7_roadDigest_56 : decode cX7_roadDigest 56 = .ok (.ladd, 1) := by decide +kernel
theorem dX7_roadDigest_57 : decode cX7_roadDigest 57 = .ok (.lstore 4, 2) := by decide +kernel
theorem dX7_roadDigest_59 : decode cX7_roadDigest 59 = .ok (.ldc2_w 285, 3) := by decide +kernel
theorem dX7_roadDigest_62 : decode cX7_roadDigest 62 = .ok (.lload 4, 2) := by decide +kernel
theorem dX7_roadDigest_64 : decode cX7_roadDigest 64 = .ok (.lmul, 1) := by decide +kernel
theorem dX7_roadDigest_65 : decode cX7_roadDigest 65 = .ok (.aload_n 0, 1) := by decide +kernel
theorem dX7_roadDigest_66 : decode cX7_roadDigest 66 = .ok (.aload_n 0, 1) := by decide +kernel
theorem dX7_roadDigest_67 : decode cX7_roadDigest 67 = .ok (.getfield 16, 3) := by decide +kernel
theorem dX7_roadDigest_70 : decode cX7_roadDigest 70 = .ok (.iconst 2, 1) := by decide +kernel
theorem dX7_roadDigest_71 : decode cX7_roadDigest 71 = .ok (.iload_n 3, 1) := by decide +kernel
theorem dX7_roadDigest_72 : decode cX7_roadDigest 72 = .ok (.imul, 1) := by decide +kernel
theorem dX7_roadDigest_73 : decode cX7_roadDigest 73 = .ok (.iconst 1, 1) := by decide +kernel
theorem dX7_roadDigest_74 : decode cX7_roadDigest 74 = .ok (.iadd, 1) := by decide +kernel
theorem dX7_roadDigest_75 : decode cX7_roadDigest 75 = .ok (.iaload, 1) := by decide +kernel
theorem dX7_roadDigest_76 : decode cX7_roadDigest 76 = .ok (.iload_n 3, 1) := by decide +kernel
theorem dX7_roadDigest_77 : decode cX7_roadDigest 77 = .ok (.invokevirtual 197, 3) := by decide +kernel
theorem dX7_roadDigest_80 : decode cX7_roadDigest 80 = .ok (.i2l, 1) := by decide +kernel
theorem dX7_roadDigest_81 : decode cX7_roadDigest 81 = .ok (.ladd, 1) := by decide +kernel
theorem dX7_roadDigest_82 : decode cX7_roadDigest 82 = .ok (.lstore 4, 2) := by decide +kernel
theorem dX7_roadDigest_84 : decode cX7_roadDigest 84 = .ok (.ldc2_w 285, 3) := by decide +kernel
theorem dX7_roadDigest_87 : decode cX7_roadDigest 87 = .ok (.lload 4, 2) := by decide +kernel
theorem dX7_roadDigest_89 : decode cX7_roadDigest 89 = .ok (.lmul, 1) := by decide +kernel
theorem dX7_roadDigest_90 : decode cX7_roadDigest 90 = .ok (.aload_n 0, 1) := by decide +kernel
theorem dX7_roadDigest_91 : decode cX7_roadDigest 91 = .ok (.iload_n 3, 1) := by decide +kernel
theorem dX7_roadDigest_92 : decode cX7_roadDigest 92 = .ok (.invokevirtual 265, 3) := by decide +kernel
theorem dX7_roadDigest_95 : decode cX7_roadDigest 95 = .ok (.i2l, 1) := by decide +kernel
theorem dX7_roadDigest_96 : decode cX7_roadDigest 96 = .ok (.ladd, 1) := by decide +kernel
theorem dX7_roadDigest_97 : decode cX7_roadDigest 97 = .ok (.lreturn, 1) := by decide +kernel
abbrev kX7_roadDigest (g : rk_G) (R : rk_R) (pc : Nat) : rk_K := rk_cut g cX7_roadDigest 7 (some .long) RX7 11 R pc
abbrev aX7_roadDigest (g : rk_G) (R : rk_R) (pc : Nat) (K : rk_K) : Prop := rk_AK g cX7_roadDigest 7 (some .long) RX7 11 R pc K
abbrev sX7_roadDigest (g : rk_G) (vs : List Value) (σ : rk_M) (R : rk_R) : Prop := rk_does g yX7_roadDigest cX7_roadDigest 7 (some .long) 11 vs σ R
abbrev tX7_roadDigest (g : rk_G) (R : rk_R) (pc : Nat) (ls st : List Value) (σ : rk_M) : Prop := rk_At g cX7_roadDigest 7 (some .long) RX7 11 R pc ls st σ
def bX7_roadDigest_6 (g : rk_G) (R : rk_R) : rk_K := (rk_iload 6 (rk_ci (7) (rk_icmp_ge (rk_cj (31) (rk_lload 4 (rk_lmul (rk_aload 0 (rk_aload 0 (rk_gR 7 4 (rk_ci (2) (rk_iload 3 (rk_imul (rk_iald (rk_iload 3 (rk_cV g 2 7 yX7_joinedOf cX7_joinedOf 3 (some .int) 10 (rk_i2l (rk_ladd (rk_lstore 4 (rk_cj (31) (rk_lload 4 (rk_lmul (rk_aload 0 (rk_aload 0 (rk_gR 7 4 (rk_ci (2) (rk_iload 3 (rk_imul (rk_ci (1) (rk_iadd (rk_iald (rk_iload 3 (rk_cV g 2 7 yX7_joinedOf cX7_joinedOf 3 (some .int) 10 (rk_i2l (rk_ladd (rk_lstore 4 (rk_cj (31) (rk_lload 4 (rk_lmul (rk_aload 0 (rk_iload 3 (rk_cV g 1 7 yX7_detourOf cX7_detourOf 3 (some .int) 3 (rk_i2l (rk_ladd (rk_lret R))))))))))))))))))))))))))))))))))))))))) (rk_cj (31) (rk_lload 4 (rk_lmul (rk_aload 0 (rk_iload 3 (rk_iload 6 (rk_cV g 2 7 yX7_infoOf cX7_infoOf 3 (some .int) 10 (rk_i2l (rk_ladd (rk_lstore 4 (rk_iinc 6 (1) (kX7_roadDigest g R 6)))))))))))))))
theorem eX7_roadDigest_6 (g : rk_G) (R : rk_R) (ls st : List Value) (σ : rk_M) : bX7_roadDigest_6 g R ls st σ = (rk_iload 6 (rk_ci (7) (rk_icmp_ge (rk_cj (31) (rk_lload 4 (rk_lmul (rk_aload 0 (rk_aload 0 (rk_gR 7 4 (rk_ci (2) (rk_iload 3 (rk_imul (rk_iald (rk_iload 3 (rk_cV g 2 7 yX7_joinedOf cX7_joinedOf 3 (some .int) 10 (rk_i2l (rk_ladd (rk_lstore 4 (rk_cj (31) (rk_lload 4 (rk_lmul (rk_aload 0 (rk_aload 0 (rk_gR 7 4 (rk_ci (2) (rk_iload 3 (rk_imul (rk_ci (1) (rk_iadd (rk_iald (rk_iload 3 (rk_cV g 2 7 yX7_joinedOf cX7_joinedOf 3 (some .int) 10 (rk_i2l (rk_ladd (rk_lstore 4 (rk_cj (31) (rk_lload 4 (rk_lmul (rk_aload 0 (rk_iload 3 (rk_cV g 1 7 yX7_detourOf cX7_detourOf 3 (some .int) 3 (rk_i2l (rk_ladd (rk_lret R))))))))))))))))))))))))))))))))))))))))) (rk_cj (31) (rk_lload 4 (rk_lmul (rk_aload 0 (rk_iload 3 (rk_iload 6 (rk_cV g 2 7 yX7_infoOf cX7_infoOf 3 (some .int) 10 (rk_i2l (rk_ladd (rk_lstore 4 (rk_iinc 6 (1) (kX7_roadDigest g R 6))))))))))))))) ls st σ := rfl
theorem oX7_roadDigest_6 {g : rk_G} {R : rk_R} : aX7_roadDigest g R 6 (bX7_roadDigest_6 g R) := (rk_iload_ok dX7_roadDigest_6 (rk_bipush_ok dX7_roadDigest_8 (by decide) (rk_icmp_ge_ok (pc' := 36) dX7_roadDigest_10 (by decide) (rk_ldc2_ok dX7_roadDigest_36 wjX7_285 (rk_lload_ok dX7_roadDigest_39 (rk_lmul_ok dX7_roadDigest_41 (rk_aload_n_ok dX7_roadDigest_42 rfl (rk_aload_n_ok dX7_roadDigest_43 rfl (rk_gR_ok dX7_roadDigest_44 rfl iX7 (by decide) rfl wfX7_16 (rk_iconst_ok dX7_roadDigest_47 (by decide) (rk_iload_n_ok dX7_roadDigest_48 rfl (rk_imul_ok dX7_roadDigest_49 (rk_iald_ok dX7_roadDigest_50 (rk_iload_n_ok dX7_roadDigest_51 rfl (rk_cV_ok dX7_roadDigest_52 rfl rfl npX7_joinedOf wmX7_197 wvX7_joinedOf weX7_joinedOf wiX7 wdX7_joinedOf (by decide) (by decide) (rk_i2l_ok dX7_roadDigest_55 (rk_ladd_ok dX7_roadDigest_56 (rk_lstore_ok dX7_roadDigest_57 (by decide) (rk_ldc2_ok dX7_roadDigest_59 wjX7_285 (rk_lload_ok dX7_roadDigest_62 (rk_lmul_ok dX7_roadDigest_64 (rk_aload_n_ok dX7_roadDigest_65 rfl (rk_aload_n_ok dX7_roadDigest_66 rfl (rk_gR_ok dX7_roadDigest_67 rfl iX7 (by decide) rfl wfX7_16 (rk_iconst_ok dX7_roadDigest_70 (by decide) (rk_iload_n_ok dX7_roadDigest_71 rfl (rk_imul_ok dX7_roadDigest_72 (rk_iconst_ok dX7_roadDigest_73 (by decide) (rk_iadd_ok dX7_roadDigest_74 (rk_iald_ok dX7_roadDigest_75 (rk_iload_n_ok dX7_roadDigest_76 rfl (rk_cV_ok dX7_roadDigest_77 rfl rfl npX7_joinedOf wmX7_197 wvX7_joinedOf weX7_joinedOf wiX7 wdX7_joinedOf (by decide) (by decide) (rk_i2l_ok dX7_roadDigest_80 (rk_ladd_ok dX7_roadDigest_81 (rk_lstore_ok dX7_roadDigest_82 (by decide) (rk_ldc2_ok dX7_roadDigest_84 wjX7_285 (rk_lload_ok dX7_roadDigest_87 (rk_lmul_ok dX7_roadDigest_89 (rk_aload_n_ok dX7_roadDigest_90 rfl (rk_iload_n_ok dX7_roadDigest_91 rfl (rk_cV_ok dX7_roadDigest_92 rfl rfl npX7_detourOf wmX7_265 wvX7_detourOf weX7_detourOf wiX7 wdX7_detourOf (by decide) (by decide) (rk_i2l_ok dX7_roadDigest_95 (rk_ladd_ok dX7_roadDigest_96 (rk_lret_ok rfl dX7_roadDigest_97))))))))))))))))))))))))))))))))))))))))) (rk_ldc2_ok dX7_roadDigest_13 wjX7_285 (rk_lload_ok dX7_roadDigest_16 (rk_lmul_ok dX7_roadDigest_18 (rk_aload_n_ok dX7_roadDigest_19 rfl (rk_iload_n_ok dX7_roadDigest_20 rfl (rk_iload_ok dX7_roadDigest_21 (rk_cV_ok dX7_roadDigest_23 rfl rfl npX7_infoOf wmX7_194 wvX7_infoOf weX7_infoOf wiX7 wdX7_infoOf (by decide) (by decide) (rk_i2l_ok dX7_roadDigest_26 (rk_ladd_ok dX7_roadDigest_27 (rk_lstore_ok dX7_roadDigest_28 (by decide) (rk_iinc_ok dX7_roadDigest_30 (by decide) (by decide) (rk_goto_ok (pc' := 6) dX7_roadDigest_33 (by decide) rk_cut_ok)))))))))))))))
def bX7_roadDigest_0 (g : rk_G) (R : rk_R) : rk_K := (rk_lload 1 (rk_lstore 4 (rk_ci (0) (rk_istore 6 (kX7_roadDigest g R 6)))))
theorem eX7_roadDigest_0 (g : rk_G) (R : rk_R) (ls st : List Value) (σ : rk_M) : bX7_roadDigest_0 g R ls st σ = (rk_lload 1 (rk_lstore 4 (rk_ci (0) (rk_istore 6 (kX7_roadDigest g R 6))))) ls st σ := rfl
theorem oX7_roadDigest_0 {g : rk_G} {R : rk_R} : aX7_roadDigest g R 0 (bX7_roadDigest_0 g R) := (rk_lload_n_ok dX7_roadDigest_0 rfl (rk_lstore_ok dX7_roadDigest_1 (by decide) (rk_iconst_ok dX7_roadDigest_3 (by decide) (rk_istore_ok dX7_roadDigest_4 (by decide) rk_cut_ok))))
theorem dX7_netDigest_0 : decode cX7_netDigest 0 = .ok (.ldc2_w 285, 3) := by decide +kernel
theorem dX7_netDigest_3 : decode cX7_netDigest 3 = .ok (.lload_n 1, 1) := by decide +kernel
theorem dX7_netDigest_4 : decode cX7_netDigest 4 = .ok (.lmul, 1) := by decide +kernel
theorem dX7_netDigest_5 : decode cX7_netDigest 5 = .ok (.aload_n 0, 1) := by decide +kernel
theorem dX7_netDigest_6 : decode cX7_netDigest 6 = .ok (.iload_n 3, 1) := by decide +kernel
theorem dX7_netDigest_7 : decode cX7_netDigest 7 = .ok (.invokevirtual 262, 3) := by decide +kernel
theorem dX7_netDigest_10 : decode cX7_netDigest 10 = .ok (.i2l, 1) := by decide +kernel
theorem dX7_netDigest_11 : decode cX7_netDigest 11 = .ok (.ladd, 1) := by decide +kernel
theorem dX7_netDigest_12 : decode cX7_netDigest 12 = .ok (.lstore 4, 2) := by decide +kernel
theorem dX7_netDigest_14 : decode cX7_netDigest 14 = .ok (.iconst 0, 1) := by decide +kernel
theorem dX7_netDigest_15 : decode cX7_netDigest 15 = .ok (.istore 6, 2) := by decide +kernel
theorem dX7_netDigest_17 : decode cX7_netDigest 17 = .ok (.iload 6, 2) := by decide +kernel
theorem dX7_netDigest_19 : decode cX7_netDigest 19 = .ok (.iconst 4, 1) := by decide +kernel
theorem dX7_netDigest_20 : decode cX7_netDigest 20 = .ok (.if_icmp .ge 28, 3) := by decide +kernel
theorem dX7_netDigest_23 : decode cX7_netDigest 23 = .ok (.ldc2_w 285, 3) := by decide +kernel
theorem dX7_netDigest_26 : decode cX7_netDigest 26 = .ok (.lload 4, 2) := by decide +kernel
theorem dX7_netDigest_28 : decode cX7_netDigest 28 = .ok (.lmul, 1) := by decide +kernel
theorem dX7_netDigest_29 : decode cX7_netDigest 29 = .ok (.aload_n 0, 1) := by decide +kernel
theorem dX7_netDigest_30 : decode cX7_netDigest 30 = .ok (.iload_n 3, 1) := by decide +kernel
theorem dX7_netDigest_31 : decode cX7_netDigest 31 = .ok (.bipush 40, 2) := by decide +kernel
theorem dX7_netDigest_33 : decode cX7_netDigest 33 = .ok (.iload 6, 2) := by decide +kernel
theorem dX7_netDigest_35 : decode cX7_netDigest 35 = .ok (.invokevirtual 259, 3) := by decide +kernel
theorem dX7_netDigest_38 : decode cX7_netDigest 38 = .ok (.i2l, 1) := by decide +kernel
theorem dX7_netDigest_39 : decode cX7_netDigest 39 = .ok (.ladd, 1) := by decide +kernel
theorem dX7_netDigest_40 : decode cX7_netDigest 40 = .ok (.lstore 4, 2) := by decide +kernel
theorem dX7_netDigest_42 : decode cX7_netDigest 42 = .ok (.iinc 6 1, 3) := by decide +kernel
theorem dX7_netDigest_45 : decode cX7_netDigest 45 = .ok (.goto (-28), 3) := by decide +kernel
theorem dX7_netDigest_48 : decode cX7_netDigest 48 = .ok (.ldc2_w 285, 3) := by decide +kernel
theorem dX7_netDigest_51 : decode cX7_netDigest 51 = .ok (.lload 4, 2) := by decide +kernel
theorem dX7_netDigest_53 : decode cX7_netDigest 53 = .ok (.lmul, 1) := by decide +kernel
theorem dX7_netDigest_54 : decode cX7_netDigest 54 = .ok (.aload_n 0, 1) := by decide +kernel
theorem dX7_netDigest_55 : decode cX7_netDigest 55 = .ok (.iload_n 3, 1) := by decide +kernel
theorem dX7_netDigest_56 : decode cX7_netDigest 56 = .ok (.iconst 0, 1) := by decide +kernel
theorem dX7_netDigest_57 : decode cX7_netDigest 57 = .ok (.iconst 1, 1) := by decide +kernel
theorem dX7_netDigest_58 : decode cX7_netDigest 58 = .ok (.invokevirtual 287, 3) := by decide +kernel
theorem dX7_netDigest_61 : decode cX7_netDigest 61 = .ok (.i2l, 1) := by decide +kernel
theorem dX7_netDigest_62 : decode cX7_netDigest 62 = .ok (.ladd, 1) := by decide +kernel
theorem dX7_netDigest_63 : decode cX7_netDigest 63 = .ok (.lstore 4, 2) := by decide +kernel
theorem dX7_netDigest_65 : decode cX7_netDigest 65 = .ok (.ldc2_w 285, 3) := by decide +kernel
theorem dX7_netDigest_68 : decode cX7_netDigest 68 = .ok (.lload 4, 2) := by decide +kernel
theorem dX7_netDigest_70 : decode cX7_netDigest 70 = .ok (.lmul, 1) := by decide +kernel
theorem dX7_netDigest_71 : decode cX7_netDigest 71 = .ok (.aload_n 0, 1) := by decide +kernel
theorem dX7_netDigest_72 : decode cX7_netDigest 72 = .ok (.iload_n 3, 1) := by decide +kernel
theorem dX7_netDigest_73 : decode cX7_netDigest 73 = .ok (.iconst 0, 1) := by decide +kernel
theorem dX7_netDigest_74 : decode cX7_netDigest 74 = .ok (.aload_n 0, 1) := by decide +kernel
theorem dX7_netDigest_75 : decode cX7_netDigest 75 = .ok (.getfield 77, 3) := by decide +kernel
theorem dX7_netDigest_78 : decode cX7_netDigest 78 = .ok (.iconst 1, 1) := by decide +kernel
theorem dX7_netDigest_79 : decode cX7_netDigest 79 = .ok (.isub, 1) := by decide +kernel
theorem dX7_netDigest_80 : decode cX7_netDigest 80 = .ok (.invokevirtual 287, 3) := by decide +kernel
theorem dX7_netDigest_83 : decode cX7_netDigest 83 = .ok (.i2l, 1) := by decide +kernel
theorem dX7_netDigest_84 : decode cX7_netDigest 84 = .ok (.ladd, 1) := by decide +kernel
theorem dX7_netDigest_85 : decode cX7_netDigest 85 = .ok (.lreturn, 1) := by decide +kernel
abbrev kX7_netDigest (g : rk_G) (R : rk_R) (pc : Nat) : rk_K := rk_cut g cX7_netDigest 7 (some .long) RX7 12 R pc
abbrev aX7_netDigest (g : rk_G) (R : rk_R) (pc : Nat) (K : rk_K) : Prop := rk_AK g cX7_netDigest 7 (some .long) RX7 12 R pc K
abbrev sX7_netDigest (g : rk_G) (vs : List Value) (σ : rk_M) (R : rk_R) : Prop := rk_does g yX7_netDigest cX7_netDigest 7 (some .long) 12 vs σ R
abbrev tX7_netDigest (g : rk_G) (R : rk_R) (pc : Nat) (ls st : List Value) (σ : rk_M) : Prop := rk_At g cX7_netDigest 7 (some .long) RX7 12 R pc ls st σ
def bX7_netDigest_17 (g : rk_G) (R : rk_R) : rk_K := (rk_iload 6 (rk_ci (4) (rk_icmp_ge (rk_cj (31) (rk_lload 4 (rk_lmul (rk_aload 0 (rk_iload 3 (rk_ci (0) (rk_ci (1) (rk_cV g 3 7 yX7_far cX7_far 4 (some .int) 11 (rk_i2l (rk_ladd (rk_lstore 4 (rk_cj (31) (rk_lload 4 (rk_lmul (rk_aload 0 (rk_iload 3 (rk_ci (0) (rk_aload 0 (rk_gI 7 0 (rk_ci (1) (rk_isub (rk_cV g 3 7 yX7_far cX7_far 4 (some .int) 11 (rk_i2l (rk_ladd (rk_lret R))))))))))))))))))))))))) (rk_cj (31) (rk_lload 4 (rk_lmul (rk_aload 0 (rk_iload 3 (rk_ci (40) (rk_iload 6 (rk_cV g 3 7 yX7_cutOf cX7_cutOf 6 (some .int) 5 (rk_i2l (rk_ladd (rk_lstore 4 (rk_iinc 6 (1) (kX7_netDigest g R 17))))))))))))))))
theorem eX7_netDigest_17 (g : rk_G) (R : rk_R) (ls st : List Value) (σ : rk_M) : bX7_netDigest_17 g R ls st σ = (rk_iload 6 (rk_ci (4) (rk_icmp_ge (rk_cj (31) (rk_lload 4 (rk_lmul (rk_aload 0 (rk_iload 3 (rk_ci (0) (rk_ci (1) (rk_cV g 3 7 yX7_far cX7_far 4 (some .int) 11 (rk_i2l (rk_ladd (rk_lstore 4 (rk_cj (31) (rk_lload 4 (rk_lmul (rk_aload 0 (rk_iload 3 (rk_ci (0) (rk_aload 0 (rk_gI 7 0 (rk_ci (1) (rk_isub (rk_cV g 3 7 yX7_far cX7_far 4 (some .int) 11 (rk_i2l (rk_ladd (rk_lret R))))))))))))))))))))))))) (rk_cj (31) (rk_lload 4 (rk_lmul (rk_aload 0 (rk_iload 3 (rk_ci (40) (rk_iload 6 (rk_cV g 3 7 yX7_cutOf cX7_cutOf 6 (some .int) 5 (rk_i2l (rk_ladd (rk_lstore 4 (rk_iinc 6 (1) (kX7_netDigest g R 17)))))))))))))))) ls st σ := rfl
theorem oX7_netDigest_17 {g : rk_G} {R : rk_R} : aX7_netDigest g R 17 (bX7_netDigest_17 g R) := (rk_iload_ok dX7_netDigest_17 (rk_iconst_ok dX7_netDigest_19 (by decide) (rk_icmp_ge_ok (pc' := 48) dX7_netDigest_20 (by decide) (rk_ldc2_ok dX7_netDigest_48 wjX7_285 (rk_lload_ok dX7_netDigest_51 (rk_lmul_ok dX7_netDigest_53 (rk_aload_n_ok dX7_netDigest_54 rfl (rk_iload_n_ok dX7_netDigest_55 rfl (rk_iconst_ok dX7_netDigest_56 (by decide) (rk_iconst_ok dX7_netDigest_57 (by decide) (rk_cV_ok dX7_netDigest_58 rfl rfl npX7_far wmX7_287 wvX7_far weX7_far wiX7 wdX7_far (by decide) (by decide) (rk_i2l_ok dX7_netDigest_61 (rk_ladd_ok dX7_netDigest_62 (rk_lstore_ok dX7_netDigest_63 (by decide) (rk_ldc2_ok dX7_netDigest_65 wjX7_285 (rk_lload_ok dX7_netDigest_68 (rk_lmul_ok dX7_netDigest_70 (rk_aload_n_ok dX7_netDigest_71 rfl (rk_iload_n_ok dX7_netDigest_72 rfl (rk_iconst_ok dX7_netDigest_73 (by decide) (rk_aload_n_ok dX7_netDigest_74 rfl (rk_gI_ok dX7_netDigest_75 rfl iX7 (by decide) rfl wfX7_77 (rk_iconst_ok dX7_netDigest_78 (by decide) (rk_isub_ok dX7_netDigest_79 (rk_cV_ok dX7_netDigest_80 rfl rfl npX7_far wmX7_287 wvX7_far weX7_far wiX7 wdX7_far (by decide) (by decide) (rk_i2l_ok dX7_netDigest_83 (rk_ladd_ok dX7_netDigest_84 (rk_lret_ok rfl dX7_netDigest_85))))))))))))))))))))))))) (rk_ldc2_ok dX7_netDigest_23 wjX7_285 (rk_lload_ok dX7_netDigest_26 (rk_lmul_ok dX7_netDigest_28 (rk_aload_n_ok dX7_netDigest_29 rfl (rk_iload_n_ok dX7_netDigest_30 rfl (rk_bipush_ok dX7_netDigest_31 (by decide) (rk_iload_ok dX7_netDigest_33 (rk_cV_ok dX7_netDigest_35 rfl rfl npX7_cutOf wmX7_259 wvX7_cutOf weX7_cutOf wiX7 wdX7_cutOf (by decide) (by decide) (rk_i2l_ok dX7_netDigest_38 (rk_ladd_ok dX7_netDigest_39 (rk_lstore_ok dX7_netDigest_40 (by decide) (rk_iinc_ok dX7_netDigest_42 (by decide) (by decide) (rk_goto_ok (pc' := 17) dX7_netDigest_45 (by decide) rk_cut_ok))))))))))))))))
def bX7_netDigest_0 (g : rk_G) (R : rk_R) : rk_K := (rk_cj (31) (rk_lload 1 (rk_lmul (rk_aload 0 (rk_iload 3 (rk_cV g 1 7 yX7_bridgesOf cX7_bridgesOf 6 (some .int) 3 (rk_i2l (rk_ladd (rk_lstore 4 (rk_ci (0) (rk_istore 6 (kX7_netDigest g R 17))))))))))))
theorem eX7_netDigest_0 (g : rk_G) (R : rk_R) (ls st : List Value) (σ : rk_M) : bX7_netDigest_0 g R ls st σ = (rk_cj (31) (rk_lload 1 (rk_lmul (rk_aload 0 (rk_iload 3 (rk_cV g 1 7 yX7_bridgesOf cX7_bridgesOf 6 (some .int) 3 (rk_i2l (rk_ladd (rk_lstore 4 (rk_ci (0) (rk_istore 6 (kX7_netDigest g R 17)))))))))))) ls st σ := rfl
theorem oX7_netDigest_0 {g : rk_G} {R : rk_R} : aX7_netDigest g R 0 (bX7_netDigest_0 g R) := (rk_ldc2_ok dX7_netDigest_0 wjX7_285 (rk_lload_n_ok dX7_netDigest_3 rfl (rk_lmul_ok dX7_netDigest_4 (rk_aload_n_ok dX7_netDigest_5 rfl (rk_iload_n_ok dX7_netDigest_6 rfl (rk_cV_ok dX7_netDigest_7 rfl rfl npX7_bridgesOf wmX7_262 wvX7_bridgesOf weX7_bridgesOf wiX7 wdX7_bridgesOf (by decide) (by decide) (rk_i2l_ok dX7_netDigest_10 (rk_ladd_ok dX7_netDigest_11 (rk_lstore_ok dX7_netDigest_12 (by decide) (rk_iconst_ok dX7_netDigest_14 (by decide) (rk_istore_ok dX7_netDigest_15 (by decide) rk_cut_ok)))))))))))
theorem dX7_digest_0 : decode cX7_digest 0 = .ok (.ldc2_w 290, 3) := by decide +kernel
theorem dX7_digest_3 : decode cX7_digest 3 = .ok (.lstore_n 1, 1) := by decide +kernel
theorem dX7_digest_4 : decode cX7_digest 4 = .ok (.iconst 0, 1) := by decide +kernel
theorem dX7_digest_5 : decode cX7_digest 5 = .ok (.istore_n 3, 1) := by decide +kernel
theorem dX7_digest_6 : decode cX7_digest 6 = .ok (.iload_n 3, 1) := by decide +kernel
theorem dX7_digest_7 : decode cX7_digest 7 = .ok (.bipush 8, 2) := by decide +kernel
theorem dX7_digest_9 : decode cX7_digest 9 = .ok (.if_icmp .ge 22, 3) := by decide +kernel
theorem dX7_digest_12 : decode cX7_digest 12 = .ok (.ldc2_w 285, 3) := by decide +kernel
theorem dX7_digest_15 : decode cX7_digest 15 = .ok (.lload_n 1, 1) := by decide +kernel
theorem dX7_digest_16 : decode cX7_digest 16 = .ok (.lmul, 1) := by decide +kernel
theorem dX7_digest_17 : decode cX7_digest 17 = .ok (.aload_n 0, 1) := by decide +kernel
theorem dX7_digest_18 : decode cX7_digest 18 = .ok (.iload_n 3, 1) := by decide +kernel
theorem dX7_digest_19 : decode cX7_digest 19 = .ok (.invokevirtual 292, 3) := by decide +kernel
theorem dX7_digest_22 : decode cX7_digest 22 = .ok (.i2l, 1) := by decide +kernel
theorem dX7_digest_23 : decode cX7_digest 23 = .ok (.ladd, 1) := by decide +kernel
theorem dX7_digest_24 : decode cX7_digest 24 = .ok (.lstore_n 1, 1) := by decide +kernel
theorem dX7_digest_25 : decode cX7_digest 25 = .ok (.iinc 3 1, 3) := by decide +kernel
theorem dX7_digest_28 : decode cX7_digest 28 = .ok (.goto (-22), 3) := by decide +kernel
theorem dX7_digest_31 : decode cX7_digest 31 = .ok (.iconst 0, 1) := by decide +kernel
theorem dX7_digest_32 : decode cX7_digest 32 = .ok (.istore_n 3, 1) := by decide +kernel
theorem dX7_digest_33 : decode cX7_digest 33 = .ok (.iload_n 3, 1) := by decide +kernel
theorem dX7_digest_34 : decode cX7_digest 34 = .ok (.aload_n 0, 1) := by decide +kernel
theorem dX7_digest_35 : decode cX7_digest 35 = .ok (.getfield 77, 3) := by decide +kernel
theorem dX7_digest_38 : decode cX7_digest 38 = .ok (.if_icmp .ge 39, 3) := by decide +kernel
theorem dX7_digest_41 : decode cX7_digest 41 = .ok (.iconst 0, 1) := by decide +kernel
theorem dX7_digest_42 : decode cX7_digest 42 = .ok (.istore 4, 2) := by decide +kernel
theorem dX7_digest_44 : decode cX7_digest 44 = .ok (.iload 4, 2) := by decide +kernel
theorem dX7_digest_46 : decode cX7_digest 46 = .ok (.iconst 3, 1) := by decide +kernel
theorem dX7_digest_47 : decode cX7_digest 47 = .ok (.if_icmp .ge 24, 3) := by decide +kernel
theorem dX7_digest_50 : decode cX7_digest 50 = .ok (.ldc2_w 285, 3) := by decide +kernel
theorem dX7_digest_53 : decode cX7_digest 53 = .ok (.lload_n 1, 1) := by decide +kernel
theorem dX7_digest_54 : decode cX7_digest 54 = .ok (.lmul, 1) := by decide +kernel
theorem dX7_digest_55 : decode cX7_digest 55 = .ok (.aload_n 0, 1) := by decide +kernel
theorem dX7_digest_56 : decode cX7_digest 56 = .ok (.iload_n 3, 1) := by decide +kernel
theorem dX7_digest_57 : decode cX7_digest 57 = .ok (.iload 4, 2) := by decide +kernel
theorem dX7_digest_59 : decode cX7_digest 59 = .ok (.invokevirtual 119, 3) := by decide +kernel
theorem dX7_digest_62 : decode cX7_digest 62 = .ok (.i2l, 1) := by decide +kernel
theorem dX7_digest_63 : decode cX7_digest 63 = .ok (.ladd, 1) := by decide +kernel
theorem dX7_digest_64 : decode cX7_digest 64 = .ok (.lstore_n 1, 1) := by decide +kernel
theorem dX7_digest_65 : decode cX7_digest 65 = .ok (.iinc 4 1, 3) := by decide +kernel
theorem dX7_digest_68 : decode cX7_digest 68 = .ok (.goto (-24), 3) := by decide +kernel
theorem dX7_digest_71 : decode cX7_digest 71 = .ok (.iinc 3 1, 3) := by decide +kernel
theorem dX7_digest_74 : decode cX7_digest 74 = .ok (.goto (-41), 3) := by decide +kernel
theorem dX7_digest_77 : decode cX7_digest 77 = .ok (.iconst 0, 1) := by decide +kernel
theorem dX7_digest_78 : decode cX7_digest 78 = .ok (.istore_n 3, 1) := by decide +kernel
theorem dX7_digest_79 : decode cX7_digest 79 = .ok (.iload_n 3, 1) := by decide +kernel
theorem dX7_digest_80 : decode cX7_digest 80 = .ok (.aload_n 0, 1) := by decide +kernel
theorem dX7_digest_81 : decode cX7_digest 81 = .ok (.getfield 85, 3) := by decide +kernel
theorem dX7_digest_84 : decode cX7_digest 84 = .ok (.if_icmp .ge 16, 3) := by decide +kernel
theorem dX7_digest_87 : decode cX7_digest 87 = .ok (.aload_n 0, 1) := by decide +kernel
theorem dX7_digest_88 : decode cX7_digest 88 = .ok (.lload_n 1, 1) := by decide +kernel
theorem dX7_digest_89 : decode cX7_digest 89 = .ok (.iload_n 3, 1) := by decide +kernel
theorem dX7_digest_90 : decode cX7_digest 90 = .ok (.invokevirtual 295, 3) := by decide +kernel
theorem dX7_digest_93 : decode cX7_digest 93 = .ok (.lstore_n 1, 1) := by decide +kernel
theorem dX7_digest_94 : decode cX7_digest 94 = .ok (.iinc 3 1, 3) := by decide +kernel
theorem dX7_digest_97 : decode cX7_digest 97 = .ok (.goto (-18), 3) := by decide +kernel
theorem dX7_digest_100 : decode cX7_digest 100 = .ok (.aload_n 0, 1) := by decide +kernel
theorem dX7_digest_101 : decode cX7_digest 101 = .ok (.invokevirtual 191, 3) := by decide +kernel
theorem dX7_digest_104 : decode cX7_digest 104 = .ok (.iconst 0, 1) := by decide +kernel
theorem dX7_digest_105 : decode cX7_digest 105 = .ok (.istore_n 3, 1) := by decide +kernel
theorem dX7_digest_106 : decode cX7_digest 106 = .ok (.iload_n 3, 1) := by decide +kernel
theorem dX7_digest_107 : decode cX7_digest 107 = .ok (.aload_n 0, 1) := by decide +kernel
theorem dX7_digest_108 : decode cX7_digest 108 = .ok (.getfield 165, 3) := by decide +kernel
theorem dX7_digest_111 : decode cX7_digest 111 = .ok (.if_icmp .ge 68, 3) := by decide +kernel
theorem dX7_digest_114 : decode cX7_digest 114 = .ok (.iconst 0, 1) := by decide +kernel
theorem dX7_digest_115 : decode cX7_digest 115 = .ok (.istore 4, 2) := by decide +kernel
theorem dX7_digest_117 : decode cX7_digest 117 = .ok (.iload 4, 2) := by decide +kernel
theorem dX7_digest_119 : decode cX7_digest 119 = .ok (.bipush 7, 2) := by decide +kernel
theorem dX7_digest_121 : decode cX7_digest 121 = .ok (.if_icmp .ge 24, 3) := by decide +kernel
theorem dX7_digest_124 : decode cX7_digest 124 = .ok (.ldc2_w 285, 3) := by decide +kernel
theorem dX7_digest_127 : decode cX7_digest 127 = .ok (.lload_n 1, 1) := by decide +kernel
theorem dX7_digest_128 : decode cX7_digest 128 = .ok (.lmul, 1) := by decide +kernel
theorem dX7_digest_129 : decode cX7_digest 129 = .ok (.aload_n 0, 1) := by decide +kernel
theorem dX7_digest_130 : decode cX7_digest 130 = .ok (.iload_n 3, 1) := by decide +kernel
theorem dX7_digest_131 : decode cX7_digest 131 = .ok (.iload 4, 2) := by decide +kernel
theorem dX7_digest_133 : decode cX7_digest 133 = .ok (.invokevirtual 213, 3) := by decide +kernel
theorem dX7_digest_136 : decode cX7_digest 136 = .ok (.i2l, 1) := by decide +kernel
theorem dX7_digest_137 : decode cX7_digest 137 = .ok (.ladd, 1) := by decide +kernel
theorem dX7_digest_138 : decode cX7_digest 138 = .ok (.lstore_n 1, 1) := by decide +kernel
theorem dX7_digest_139 : decode cX7_digest 139 = .ok (.iinc 4 1, 3) := by decide +kernel
theorem dX7_digest_142 : decode cX7_digest 142 = .ok (.goto (-25), 3) := by decide +kernel
theorem dX7_digest_145 : decode cX7_digest 145 = .ok (.ldc2_w 285, 3) := by decide +kernel
theorem dX7_digest_148 : decode cX7_digest 148 = .ok (.lload_n 1, 1) := by decide +kernel
theorem dX7_digest_149 : decode cX7_digest 149 = .ok (.lmul, 1) := by decide +kernel
theorem dX7_digest_150 : decode cX7_digest 150 = .ok (.aload_n 0, 1) := by decide +kernel
theorem dX7_digest_151 : decode cX7_digest 151 = .ok (.iload_n 3, 1) := by decide +kernel
theorem dX7_digest_152 : decode cX7_digest 152 = .ok (.iconst 0, 1) := by decide +kernel
theorem dX7_digest_153 : decode cX7_digest 153 = .ok (.invokevirtual 215, 3) := by decide +kernel
theorem dX7_digest_156 : decode cX7_digest 156 = .ok (.i2l, 1) := by decide +kernel
theorem dX7_digest_157 : decode cX7_digest 157 = .ok (.ladd, 1) := by decide +kernel
theorem dX7_digest_158 : decode cX7_digest 158 = .ok (.lstore_n 1, 1) := by decide +kernel
theorem dX7_digest_159 : decode cX7_digest 159 = .ok (.ldc2_w 285, 3) := by decide +kernel
theorem dX7_digest_162 : decode cX7_digest 162 = .ok (.lload_n 1, 1) := by decide +kernel
theorem dX7_digest_163 : decode cX7_digest 163 = .ok (.lmul, 1) := by decide +kernel
theorem dX7_digest_164 : decode cX7_digest 164 = .ok (.aload_n 0, 1) := by decide +kernel
theorem dX7_digest_165 : decode cX7_digest 165 = .ok (.iload_n 3, 1) := by decide +kernel
theorem dX7_digest_166 : decode cX7_digest 166 = .ok (.iconst 1, 1) := by decide +kernel
theorem dX7_digest_167 : decode cX7_digest 167 = .ok (.invokevirtual 215, 3) := by decide +kernel
theorem dX7_digest_170 : decode cX7_digest 170 = .ok (.i2l, 1) := by decide +kernel
theorem dX7_digest_171 : decode cX7_digest 171 = .ok (.ladd, 1) := by decide +kernel
theorem dX7_digest_172 : decode cX7_digest 172 = .ok (.lstore_n 1, 1) := by decide +kernel
theorem dX7_digest_173 : decode cX7_digest 173 = .ok (.iinc 3 1, 3) := by decide +kernel
theorem dX7_digest_176 : decode cX7_digest 176 = .ok (.goto (-70), 3) := by decide +kernel
theorem dX7_digest_179 : decode cX7_digest 179 = .ok (.iconst 0, 1) := by decide +kernel
theorem dX7_digest_180 : decode cX7_digest 180 = .ok (.istore_n 3, 1) := by decide +kernel
theorem dX7_digest_181 : decode cX7_digest 181 = .ok (.iload_n 3, 1) := by decide +kernel
theorem dX7_digest_182 : decode cX7_digest 182 = .ok (.aload_n 0, 1) := by decide +kernel
theorem dX7_digest_183 : decode cX7_digest 183 = .ok (.getfield 165, 3) := by decide +kernel
theorem dX7_digest_186 : decode cX7_digest 186 = .ok (.if_icmp .gt 16, 3) := by decide +kernel
theorem dX7_digest_189 : decode cX7_digest 189 = .ok (.aload_n 0, 1) := by decide +kernel
theorem dX7_digest_190 : decode cX7_digest 190 = .ok (.lload_n 1, 1) := by decide +kernel
theorem dX7_digest_191 : decode cX7_digest 191 = .ok (.iload_n 3, 1) := by decide +kernel
theorem dX7_digest_192 : decode cX7_digest 192 = .ok (.invokevirtual 299, 3) := by decide +kernel
theorem dX7_digest_195 : decode cX7_digest 195 = .ok (.lstore_n 1, 1) := by decide +kernel
theorem dX7_digest_196 : decode cX7_digest 196 = .ok (.iinc 3 1, 3) := by decide +kernel
theorem dX7_digest_199 : decode cX7_digest 199 = .ok (.goto (-18), 3) := by decide +kernel
theorem dX7_digest_202 : decode cX7_digest 202 = .ok (.ldc2_w 285, 3) := by decide +kernel
theorem dX7_digest_205 : decode cX7_digest 205 = .ok (.lload_n 1, 1) := by decide +kernel
theorem dX7_digest_206 : decode cX7_digest 206 = .ok (.lmul, 1) := by decide +kernel
theorem dX7_digest_207 : decode cX7_digest 207 = .ok (.aload_n 0, 1) := by decide +kernel
theorem dX7_digest_208 : decode cX7_digest 208 = .ok (.iconst 0, 1) := by decide +kernel
theorem dX7_digest_209 : decode cX7_digest 209 = .ok (.invokevirtual 268, 3) := by decide +kernel
theorem dX7_digest_212 : decode cX7_digest 212 = .ok (.i2l, 1) := by decide +kernel
theorem dX7_digest_213 : decode cX7_digest 213 = .ok (.ladd, 1) := by decide +kernel
theorem dX7_digest_214 : decode cX7_digest 214 = .ok (.lstore_n 1, 1) := by decide +kernel
theorem dX7_digest_215 : decode cX7_digest 215 = .ok (.ldc2_w 285, 3) := by decide +kernel
theorem dX7_digest_218 : decode cX7_digest 218 = .ok (.lload_n 1, 1) := by decide +kernel
theorem dX7_digest_219 : decode cX7_digest 219 = .ok (.lmul, 1) := by decide +kernel
theorem dX7_digest_220 : decode cX7_digest 220 = .ok (.aload_n 0, 1) := by decide +kernel
theorem dX7_digest_221 : decode cX7_digest 221 = .ok (.iconst 1, 1) := by decide +kernel
theorem dX7_digest_222 : decode cX7_digest 222 = .ok (.invokevirtual 268, 3) := by decide +kernel
theorem dX7_digest_225 : decode cX7_digest 225 = .ok (.i2l, 1) := by decide +kernel
theorem dX7_digest_226 : decode cX7_digest 226 = .ok (.ladd, 1) := by decide +kernel
theorem dX7_digest_227 : decode cX7_digest 227 = .ok (.lreturn, 1) := by decide +kernel
abbrev kX7_digest (g : rk_G) (R : rk_R) (pc : Nat) : rk_K := rk_cut g cX7_digest 5 (some .long) RX7 13 R pc
abbrev aX7_digest (g : rk_G) (R : rk_R) (pc : Nat) (K : rk_K) : Prop := rk_AK g cX7_digest 5 (some .long) RX7 13 R pc K
abbrev sX7_digest (g : rk_G) (vs : List Value) (σ : rk_M) (R : rk_R) : Prop := rk_does g yX7_digest cX7_digest 5 (some .long) 13 vs σ R
abbrev tX7_digest (g : rk_G) (R : rk_R) (pc : Nat) (ls st : List Value) (σ : rk_M) : Prop := rk_At g cX7_digest 5 (some .long) RX7 13 R pc ls st σ
def bX7_digest_181 (g : rk_G) (R : rk_R) : rk_K := (rk_iload 3 (rk_aload 0 (rk_gI 7 11 (rk_icmp_gt (rk_cj (31) (rk_lload 1 (rk_lmul (rk_aload 0 (rk_ci (0) (rk_cV g 1 7 yX7_usefulOf cX7_usefulOf 6 (some .int) 9 (rk_i2l (rk_ladd (rk_lstore 1 (rk_cj (31) (rk_lload 1 (rk_lmul (rk_aload 0 (rk_ci (1) (rk_cV g 1 7 yX7_usefulOf cX7_usefulOf 6 (some .int) 9 (rk_i2l (rk_ladd (rk_lret R)))))))))))))))))) (rk_aload 0 (rk_lload 1 (rk_iload 3 (rk_cV g 2 7 yX7_netDigest cX7_netDigest 7 (some .long) 12 (rk_lstore 1 (rk_iinc 3 (1) (kX7_digest g R 181)))))))))))
theorem eX7_digest_181 (g : rk_G) (R : rk_R) (ls st : List Value) (σ : rk_M) : bX7_digest_181 g R ls st σ = (rk_iload 3 (rk_aload 0 (rk_gI 7 11 (rk_icmp_gt (rk_cj (31) (rk_lload 1 (rk_lmul (rk_aload 0 (rk_ci (0) (rk_cV g 1 7 yX7_usefulOf cX7_usefulOf 6 (some .int) 9 (rk_i2l (rk_ladd (rk_lstore 1 (rk_cj (31) (rk_lload 1 (rk_lmul (rk_aload 0 (rk_ci (1) (rk_cV g 1 7 yX7_usefulOf cX7_usefulOf 6 (some .int) 9 (rk_i2l (rk_ladd (rk_lret R)))))))))))))))))) (rk_aload 0 (rk_lload 1 (rk_iload 3 (rk_cV g 2 7 yX7_netDigest cX7_netDigest 7 (some .long) 12 (rk_lstore 1 (rk_iinc 3 (1) (kX7_digest g R 181))))))))))) ls st σ := rfl
theorem oX7_digest_181 {g : rk_G} {R : rk_R} : aX7_digest g R 181 (bX7_digest_181 g R) := (rk_iload_n_ok dX7_digest_181 rfl (rk_aload_n_ok dX7_digest_182 rfl (rk_gI_ok dX7_digest_183 rfl iX7 (by decide) rfl wfX7_165 (rk_icmp_gt_ok (pc' := 202) dX7_digest_186 (by decide) (rk_ldc2_ok dX7_digest_202 wjX7_285 (rk_lload_n_ok dX7_digest_205 rfl (rk_lmul_ok dX7_digest_206 (rk_aload_n_ok dX7_digest_207 rfl (rk_iconst_ok dX7_digest_208 (by decide) (rk_cV_ok dX7_digest_209 rfl rfl npX7_usefulOf wmX7_268 wvX7_usefulOf weX7_usefulOf wiX7 wdX7_usefulOf (by decide) (by decide) (rk_i2l_ok dX7_digest_212 (rk_ladd_ok dX7_digest_213 (rk_lstore_n_ok dX7_digest_214 rfl (by decide) (rk_ldc2_ok dX7_digest_215 wjX7_285 (rk_lload_n_ok dX7_digest_218 rfl (rk_lmul_ok dX7_digest_219 (rk_aload_n_ok dX7_digest_220 rfl (rk_iconst_ok dX7_digest_221 (by decide) (rk_cV_ok dX7_digest_222 rfl rfl npX7_usefulOf wmX7_268 wvX7_usefulOf weX7_usefulOf wiX7 wdX7_usefulOf (by decide) (by decide) (rk_i2l_ok dX7_digest_225 (rk_ladd_ok dX7_digest_226 (rk_lret_ok rfl dX7_digest_227)))))))))))))))))) (rk_aload_n_ok dX7_digest_189 rfl (rk_lload_n_ok dX7_digest_190 rfl (rk_iload_n_ok dX7_digest_191 rfl (rk_cV_ok dX7_digest_192 rfl rfl npX7_netDigest wmX7_299 wvX7_netDigest weX7_netDigest wiX7 wdX7_netDigest (by decide) (by decide) (rk_lstore_n_ok dX7_digest_195 rfl (by decide) (rk_iinc_ok dX7_digest_196 (by decide) (by decide) (rk_goto_ok (pc' := 181) dX7_digest_199 (by decide) rk_cut_ok)))))))))))
def bX7_digest_117 (g : rk_G) (R : rk_R) : rk_K := (rk_iload 4 (rk_ci (7) (rk_icmp_ge (rk_cj (31) (rk_lload 1 (rk_lmul (rk_aload 0 (rk_iload 3 (rk_ci (0) (rk_cV g 2 7 yX7_rankFor cX7_rankFor 5 (some .int) 10 (rk_i2l (rk_ladd (rk_lstore 1 (rk_cj (31) (rk_lload 1 (rk_lmul (rk_aload 0 (rk_iload 3 (rk_ci (1) (rk_cV g 2 7 yX7_rankFor cX7_rankFor 5 (some .int) 10 (rk_i2l (rk_ladd (rk_lstore 1 (rk_iinc 3 (1) (kX7_digest g R 106)))))))))))))))))))))) (rk_cj (31) (rk_lload 1 (rk_lmul (rk_aload 0 (rk_iload 3 (rk_iload 4 (rk_cV g 2 7 yX7_strokeOf cX7_strokeOf 3 (some .int) 2 (rk_i2l (rk_ladd (rk_lstore 1 (rk_iinc 4 (1) (kX7_digest g R 117)))))))))))))))
theorem eX7_digest_117 (g : rk_G) (R : rk_R) (ls st : List Value) (σ : rk_M) : bX7_digest_117 g R ls st σ = (rk_iload 4 (rk_ci (7) (rk_icmp_ge (rk_cj (31) (rk_lload 1 (rk_lmul (rk_aload 0 (rk_iload 3 (rk_ci (0) (rk_cV g 2 7 yX7_rankFor cX7_rankFor 5 (some .int) 10 (rk_i2l (rk_ladd (rk_lstore 1 (rk_cj (31) (rk_lload 1 (rk_lmul (rk_aload 0 (rk_iload 3 (rk_ci (1) (rk_cV g 2 7 yX7_rankFor cX7_rankFor 5 (some .int) 10 (rk_i2l (rk_ladd (rk_lstore 1 (rk_iinc 3 (1) (kX7_digest g R 106)))))))))))))))))))))) (rk_cj (31) (rk_lload 1 (rk_lmul (rk_aload 0 (rk_iload 3 (rk_iload 4 (rk_cV g 2 7 yX7_strokeOf cX7_strokeOf 3 (some .int) 2 (rk_i2l (rk_ladd (rk_lstore 1 (rk_iinc 4 (1) (kX7_digest g R 117))))))))))))))) ls st σ := rfl
theorem oX7_digest_117 {g : rk_G} {R : rk_R} : aX7_digest g R 117 (bX7_digest_117 g R) := (rk_iload_ok dX7_digest_117 (rk_bipush_ok dX7_digest_119 (by decide) (rk_icmp_ge_ok (pc' := 145) dX7_digest_121 (by decide) (rk_ldc2_ok dX7_digest_145 wjX7_285 (rk_lload_n_ok dX7_digest_148 rfl (rk_lmul_ok dX7_digest_149 (rk_aload_n_ok dX7_digest_150 rfl (rk_iload_n_ok dX7_digest_151 rfl (rk_iconst_ok dX7_digest_152 (by decide) (rk_cV_ok dX7_digest_153 rfl rfl npX7_rankFor wmX7_215 wvX7_rankFor weX7_rankFor wiX7 wdX7_rankFor (by decide) (by decide) (rk_i2l_ok dX7_digest_156 (rk_ladd_ok dX7_digest_157 (rk_lstore_n_ok dX7_digest_158 rfl (by decide) (rk_ldc2_ok dX7_digest_159 wjX7_285 (rk_lload_n_ok dX7_digest_162 rfl (rk_lmul_ok dX7_digest_163 (rk_aload_n_ok dX7_digest_164 rfl (rk_iload_n_ok dX7_digest_165 rfl (rk_iconst_ok dX7_digest_166 (by decide) (rk_cV_ok dX7_digest_167 rfl rfl npX7_rankFor wmX7_215 wvX7_rankFor weX7_rankFor wiX7 wdX7_rankFor (by decide) (by decide) (rk_i2l_ok dX7_digest_170 (rk_ladd_ok dX7_digest_171 (rk_lstore_n_ok dX7_digest_172 rfl (by decide) (rk_iinc_ok dX7_digest_173 (by decide) (by decide) (rk_goto_ok (pc' := 106) dX7_digest_176 (by decide) rk_cut_ok)))))))))))))))))))))) (rk_ldc2_ok dX7_digest_124 wjX7_285 (rk_lload_n_ok dX7_digest_127 rfl (rk_lmul_ok dX7_digest_128 (rk_aload_n_ok dX7_digest_129 rfl (rk_iload_n_ok dX7_digest_130 rfl (rk_iload_ok dX7_digest_131 (rk_cV_ok dX7_digest_133 rfl rfl npX7_strokeOf wmX7_213 wvX7_strokeOf weX7_strokeOf wiX7 wdX7_strokeOf (by decide) (by decide) (rk_i2l_ok dX7_digest_136 (rk_ladd_ok dX7_digest_137 (rk_lstore_n_ok dX7_digest_138 rfl (by decide) (rk_iinc_ok dX7_digest_139 (by decide) (by decide) (rk_goto_ok (pc' := 117) dX7_digest_142 (by decide) rk_cut_ok)))))))))))))))
def bX7_digest_106 (g : rk_G) (R : rk_R) : rk_K := (rk_iload 3 (rk_aload 0 (rk_gI 7 11 (rk_icmp_ge (rk_ci (0) (rk_istore 3 (kX7_digest g R 181))) (rk_ci (0) (rk_istore 4 (kX7_digest g R 117)))))))
theorem eX7_digest_106 (g : rk_G) (R : rk_R) (ls st : List Value) (σ : rk_M) : bX7_digest_106 g R ls st σ = (rk_iload 3 (rk_aload 0 (rk_gI 7 11 (rk_icmp_ge (rk_ci (0) (rk_istore 3 (kX7_digest g R 181))) (rk_ci (0) (rk_istore 4 (kX7_digest g R 117))))))) ls st σ := rfl
theorem oX7_digest_106 {g : rk_G} {R : rk_R} : aX7_digest g R 106 (bX7_digest_106 g R) := (rk_iload_n_ok dX7_digest_106 rfl (rk_aload_n_ok dX7_digest_107 rfl (rk_gI_ok dX7_digest_108 rfl iX7 (by decide) rfl wfX7_165 (rk_icmp_ge_ok (pc' := 179) dX7_digest_111 (by decide) (rk_iconst_ok dX7_digest_179 (by decide) (rk_istore_n_ok dX7_digest_180 rfl (by decide) rk_cut_ok)) (rk_iconst_ok dX7_digest_114 (by decide) (rk_istore_ok dX7_digest_115 (by decide) rk_cut_ok))))))
def bX7_digest_79 (g : rk_G) (R : rk_R) : rk_K := (rk_iload 3 (rk_aload 0 (rk_gI 7 3 (rk_icmp_ge (rk_aload 0 (rk_cV g 0 7 yX7_finds cX7_finds 1 none 9 (rk_ci (0) (rk_istore 3 (kX7_digest g R 106))))) (rk_aload 0 (rk_lload 1 (rk_iload 3 (rk_cV g 2 7 yX7_roadDigest cX7_roadDigest 7 (some .long) 11 (rk_lstore 1 (rk_iinc 3 (1) (kX7_digest g R 79)))))))))))
theorem eX7_digest_79 (g : rk_G) (R : rk_R) (ls st : List Value) (σ : rk_M) : bX7_digest_79 g R ls st σ = (rk_iload 3 (rk_aload 0 (rk_gI 7 3 (rk_icmp_ge (rk_aload 0 (rk_cV g 0 7 yX7_finds cX7_finds 1 none 9 (rk_ci (0) (rk_istore 3 (kX7_digest g R 106))))) (rk_aload 0 (rk_lload 1 (rk_iload 3 (rk_cV g 2 7 yX7_roadDigest cX7_roadDigest 7 (some .long) 11 (rk_lstore 1 (rk_iinc 3 (1) (kX7_digest g R 79))))))))))) ls st σ := rfl
theorem oX7_digest_79 {g : rk_G} {R : rk_R} : aX7_digest g R 79 (bX7_digest_79 g R) := (rk_iload_n_ok dX7_digest_79 rfl (rk_aload_n_ok dX7_digest_80 rfl (rk_gI_ok dX7_digest_81 rfl iX7 (by decide) rfl wfX7_85 (rk_icmp_ge_ok (pc' := 100) dX7_digest_84 (by decide) (rk_aload_n_ok dX7_digest_100 rfl (rk_cV_ok dX7_digest_101 rfl rfl npX7_finds wmX7_191 wvX7_finds weX7_finds wiX7 wdX7_finds (by decide) (by decide) (rk_iconst_ok dX7_digest_104 (by decide) (rk_istore_n_ok dX7_digest_105 rfl (by decide) rk_cut_ok)))) (rk_aload_n_ok dX7_digest_87 rfl (rk_lload_n_ok dX7_digest_88 rfl (rk_iload_n_ok dX7_digest_89 rfl (rk_cV_ok dX7_digest_90 rfl rfl npX7_roadDigest wmX7_295 wvX7_roadDigest weX7_roadDigest wiX7 wdX7_roadDigest (by decide) (by decide) (rk_lstore_n_ok dX7_digest_93 rfl (by decide) (rk_iinc_ok dX7_digest_94 (by decide) (by decide) (rk_goto_ok (pc' := 79) dX7_digest_97 (by decide) rk_cut_ok)))))))))))
def bX7_digest_44 (g : rk_G) (R : rk_R) : rk_K := (rk_iload 4 (rk_ci (3) (rk_icmp_ge (rk_iinc 3 (1) (kX7_digest g R 33)) (rk_cj (31) (rk_lload 1 (rk_lmul (rk_aload 0 (rk_iload 3 (rk_iload 4 (rk_cV g 2 7 yX7_atOf cX7_atOf 3 (some .int) 2 (rk_i2l (rk_ladd (rk_lstore 1 (rk_iinc 4 (1) (kX7_digest g R 44)))))))))))))))
theorem eX7_digest_44 (g : rk_G) (R : rk_R) (ls st : List Value) (σ : rk_M) : bX7_digest_44 g R ls st σ = (rk_iload 4 (rk_ci (3) (rk_icmp_ge (rk_iinc 3 (1) (kX7_digest g R 33)) (rk_cj (31) (rk_lload 1 (rk_lmul (rk_aload 0 (rk_iload 3 (rk_iload 4 (rk_cV g 2 7 yX7_atOf cX7_atOf 3 (some .int) 2 (rk_i2l (rk_ladd (rk_lstore 1 (rk_iinc 4 (1) (kX7_digest g R 44))))))))))))))) ls st σ := rfl
theorem oX7_digest_44 {g : rk_G} {R : rk_R} : aX7_digest g R 44 (bX7_digest_44 g R) := (rk_iload_ok dX7_digest_44 (rk_iconst_ok dX7_digest_46 (by decide) (rk_icmp_ge_ok (pc' := 71) dX7_digest_47 (by decide) (rk_iinc_ok dX7_digest_71 (by decide) (by decide) (rk_goto_ok (pc' := 33) dX7_digest_74 (by decide) rk_cut_ok)) (rk_ldc2_ok dX7_digest_50 wjX7_285 (rk_lload_n_ok dX7_digest_53 rfl (rk_lmul_ok dX7_digest_54 (rk_aload_n_ok dX7_digest_55 rfl (rk_iload_n_ok dX7_digest_56 rfl (rk_iload_ok dX7_digest_57 (rk_cV_ok dX7_digest_59 rfl rfl npX7_atOf wmX7_119 wvX7_atOf weX7_atOf wiX7 wdX7_atOf (by decide) (by decide) (rk_i2l_ok dX7_digest_62 (rk_ladd_ok dX7_digest_63 (rk_lstore_n_ok dX7_digest_64 rfl (by decide) (rk_iinc_ok dX7_digest_65 (by decide) (by decide) (rk_goto_ok (pc' := 44) dX7_digest_68 (by decide) rk_cut_ok)))))))))))))))
def bX7_digest_33 (g : rk_G) (R : rk_R) : rk_K := (rk_iload 3 (rk_aload 0 (rk_gI 7 0 (rk_icmp_ge (rk_ci (0) (rk_istore 3 (kX7_digest g R 79))) (rk_ci (0) (rk_istore 4 (kX7_digest g R 44)))))))
theorem eX7_digest_33 (g : rk_G) (R : rk_R) (ls st : List Value) (σ : rk_M) : bX7_digest_33 g R ls st σ = (rk_iload 3 (rk_aload 0 (rk_gI 7 0 (rk_icmp_ge (rk_ci (0) (rk_istore 3 (kX7_digest g R 79))) (rk_ci (0) (rk_istore 4 (kX7_digest g R 44))))))) ls st σ := rfl
theorem oX7_digest_33 {g : rk_G} {R : rk_R} : aX7_digest g R 33 (bX7_digest_33 g R) := (rk_iload_n_ok dX7_digest_33 rfl (rk_aload_n_ok dX7_digest_34 rfl (rk_gI_ok dX7_digest_35 rfl iX7 (by decide) rfl wfX7_77 (rk_icmp_ge_ok (pc' := 77) dX7_digest_38 (by decide) (rk_iconst_ok dX7_digest_77 (by decide) (rk_istore_n_ok dX7_digest_78 rfl (by decide) rk_cut_ok)) (rk_iconst_ok dX7_digest_41 (by decide) (rk_istore_ok dX7_digest_42 (by decide) rk_cut_ok))))))
def bX7_digest_6 (g : rk_G) (R : rk_R) : rk_K := (rk_iload 3 (rk_ci (8) (rk_icmp_ge (rk_ci (0) (rk_istore 3 (kX7_digest g R 33))) (rk_cj (31) (rk_lload 1 (rk_lmul (rk_aload 0 (rk_iload 3 (rk_cV g 1 7 yX7_count cX7_count 2 (some .int) 11 (rk_i2l (rk_ladd (rk_lstore 1 (rk_iinc 3 (1) (kX7_digest g R 6))))))))))))))
theorem eX7_digest_6 (g : rk_G) (R : rk_R) (ls st : List Value) (σ : rk_M) : bX7_digest_6 g R ls st σ = (rk_iload 3 (rk_ci (8) (rk_icmp_ge (rk_ci (0) (rk_istore 3 (kX7_digest g R 33))) (rk_cj (31) (rk_lload 1 (rk_lmul (rk_aload 0 (rk_iload 3 (rk_cV g 1 7 yX7_count cX7_count 2 (some .int) 11 (rk_i2l (rk_ladd (rk_lstore 1 (rk_iinc 3 (1) (kX7_digest g R 6)))))))))))))) ls st σ := rfl
theorem oX7_digest_6 {g : rk_G} {R : rk_R} : aX7_digest g R 6 (bX7_digest_6 g R) := (rk_iload_n_ok dX7_digest_6 rfl (rk_bipush_ok dX7_digest_7 (by decide) (rk_icmp_ge_ok (pc' := 31) dX7_digest_9 (by decide) (rk_iconst_ok dX7_digest_31 (by decide) (rk_istore_n_ok dX7_digest_32 rfl (by decide) rk_cut_ok)) (rk_ldc2_ok dX7_digest_12 wjX7_285 (rk_lload_n_ok dX7_digest_15 rfl (rk_lmul_ok dX7_digest_16 (rk_aload_n_ok dX7_digest_17 rfl (rk_iload_n_ok dX7_digest_18 rfl (rk_cV_ok dX7_digest_19 rfl rfl npX7_count wmX7_292 wvX7_count weX7_count wiX7 wdX7_count (by decide) (by decide) (rk_i2l_ok dX7_digest_22 (rk_ladd_ok dX7_digest_23 (rk_lstore_n_ok dX7_digest_24 rfl (by decide) (rk_iinc_ok dX7_digest_25 (by decide) (by decide) (rk_goto_ok (pc' := 6) dX7_digest_28 (by decide) rk_cut_ok))))))))))))))
def bX7_digest_0 (g : rk_G) (R : rk_R) : rk_K := (rk_cj (17) (rk_lstore 1 (rk_ci (0) (rk_istore 3 (kX7_digest g R 6)))))
theorem eX7_digest_0 (g : rk_G) (R : rk_R) (ls st : List Value) (σ : rk_M) : bX7_digest_0 g R ls st σ = (rk_cj (17) (rk_lstore 1 (rk_ci (0) (rk_istore 3 (kX7_digest g R 6))))) ls st σ := rfl
theorem oX7_digest_0 {g : rk_G} {R : rk_R} : aX7_digest g R 0 (bX7_digest_0 g R) := (rk_ldc2_ok dX7_digest_0 wjX7_290 (rk_lstore_n_ok dX7_digest_3 rfl (by decide) (rk_iconst_ok dX7_digest_4 (by decide) (rk_istore_n_ok dX7_digest_5 rfl (by decide) rk_cut_ok))))
