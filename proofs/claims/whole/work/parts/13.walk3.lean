theorem dX6_write_0 : decode cX6_write 0 = .ok (.iload_n 1, 1) := by decide +kernel
theorem dX6_write_1 : decode cX6_write 1 = .ok (.invokestatic 93, 3) := by decide +kernel
theorem dX6_write_4 : decode cX6_write 4 = .ok (.ifCond .ne 6, 3) := by decide +kernel
theorem dX6_write_7 : decode cX6_write 7 = .ok (.bipush (-2), 2) := by decide +kernel
theorem dX6_write_9 : decode cX6_write 9 = .ok (.ireturn, 1) := by decide +kernel
theorem dX6_write_10 : decode cX6_write 10 = .ok (.aload_n 0, 1) := by decide +kernel
theorem dX6_write_11 : decode cX6_write 11 = .ok (.getfield 52, 3) := by decide +kernel
theorem dX6_write_14 : decode cX6_write 14 = .ok (.iload_n 1, 1) := by decide +kernel
theorem dX6_write_15 : decode cX6_write 15 = .ok (.aaload, 1) := by decide +kernel
theorem dX6_write_16 : decode cX6_write 16 = .ok (.astore_n 2, 1) := by decide +kernel
theorem dX6_write_17 : decode cX6_write 17 = .ok (.aload_n 2, 1) := by decide +kernel
theorem dX6_write_18 : decode cX6_write 18 = .ok (.invokevirtual 96, 3) := by decide +kernel
theorem dX6_write_21 : decode cX6_write 21 = .ok (.ifCond .eq 9, 3) := by decide +kernel
theorem dX6_write_24 : decode cX6_write 24 = .ok (.aload_n 0, 1) := by decide +kernel
theorem dX6_write_25 : decode cX6_write 25 = .ok (.iconst 1, 1) := by decide +kernel
theorem dX6_write_26 : decode cX6_write 26 = .ok (.invokevirtual 100, 3) := by decide +kernel
theorem dX6_write_29 : decode cX6_write 29 = .ok (.ireturn, 1) := by decide +kernel
theorem dX6_write_30 : decode cX6_write 30 = .ok (.aload_n 2, 1) := by decide +kernel
theorem dX6_write_31 : decode cX6_write 31 = .ok (.getfield 107, 3) := by decide +kernel
theorem dX6_write_34 : decode cX6_write 34 = .ok (.aload_n 0, 1) := by decide +kernel
theorem dX6_write_35 : decode cX6_write 35 = .ok (.getfield 30, 3) := by decide +kernel
theorem dX6_write_38 : decode cX6_write 38 = .ok (.getfield 172, 3) := by decide +kernel
theorem dX6_write_41 : decode cX6_write 41 = .ok (.invokestatic 240, 3) := by decide +kernel
theorem dX6_write_44 : decode cX6_write 44 = .ok (.istore_n 3, 1) := by decide +kernel
theorem dX6_write_45 : decode cX6_write 45 = .ok (.iconst 0, 1) := by decide +kernel
theorem dX6_write_46 : decode cX6_write 46 = .ok (.istore 4, 2) := by decide +kernel
theorem dX6_write_48 : decode cX6_write 48 = .ok (.iload 4, 2) := by decide +kernel
theorem dX6_write_50 : decode cX6_write 50 = .ok (.iload_n 3, 1) := by decide +kernel
theorem dX6_write_51 : decode cX6_write 51 = .ok (.if_icmp .ge 26, 3) := by decide +kernel
theorem dX6_write_54 : decode cX6_write 54 = .ok (.aload_n 2, 1) := by decide +kernel
theorem dX6_write_55 : decode cX6_write 55 = .ok (.getfield 104, 3) := by decide +kernel
theorem dX6_write_58 : decode cX6_write 58 = .ok (.iload 4, 2) := by decide +kernel
theorem dX6_write_60 : decode cX6_write 60 = .ok (.aload_n 0, 1) := by decide +kernel
theorem dX6_write_61 : decode cX6_write 61 = .ok (.getfield 30, 3) := by decide +kernel
theorem dX6_write_64 : decode cX6_write 64 = .ok (.getfield 175, 3) := by decide +kernel
theorem dX6_write_67 : decode cX6_write 67 = .ok (.iload 4, 2) := by decide +kernel
theorem dX6_write_69 : decode cX6_write 69 = .ok (.iaload, 1) := by decide +kernel
theorem dX6_write_70 : decode cX6_write 70 = .ok (.iastore, 1) := by decide +kernel
theorem dX6_write_71 : decode cX6_write 71 = .ok (.iinc 4 1, 3) := by decide +kernel
theorem dX6_write_74 : decode cX6_write 74 = .ok (.goto (-26), 3) := by decide +kernel
theorem dX6_write_77 : decode cX6_write 77 = .ok (.iload_n 3, 1) := by decide +kernel
theorem dX6_write_78 : decode cX6_write 78 = .ok (.ireturn, 1) := by decide +kernel
abbrev kX6_write (g : rk_G) (R : rk_R) (pc : Nat) : rk_K := rk_cut g cX6_write 5 (some .int) RX6 1 R pc
abbrev aX6_write (g : rk_G) (R : rk_R) (pc : Nat) (K : rk_K) : Prop := rk_AK g cX6_write 5 (some .int) RX6 1 R pc K
abbrev sX6_write (g : rk_G) (vs : List Value) (σ : rk_M) (R : rk_R) : Prop := rk_does g yX6_write cX6_write 5 (some .int) 1 vs σ R
abbrev tX6_write (g : rk_G) (R : rk_R) (pc : Nat) (ls st : List Value) (σ : rk_M) : Prop := rk_At g cX6_write 5 (some .int) RX6 1 R pc ls st σ
def bX6_write_48 (g : rk_G) (R : rk_R) : rk_K := (rk_iload 4 (rk_iload 3 (rk_icmp_ge (rk_iload 3 (rk_iret R)) (rk_aload 2 (rk_gR 3 0 (rk_iload 4 (rk_aload 0 (rk_gR 6 2 (rk_gR 4 7 (rk_iload 4 (rk_iald (rk_iast (rk_iinc 4 (1) (kX6_write g R 48))))))))))))))
theorem eX6_write_48 (g : rk_G) (R : rk_R) (ls st : List Value) (σ : rk_M) : bX6_write_48 g R ls st σ = (rk_iload 4 (rk_iload 3 (rk_icmp_ge (rk_iload 3 (rk_iret R)) (rk_aload 2 (rk_gR 3 0 (rk_iload 4 (rk_aload 0 (rk_gR 6 2 (rk_gR 4 7 (rk_iload 4 (rk_iald (rk_iast (rk_iinc 4 (1) (kX6_write g R 48)))))))))))))) ls st σ := rfl
theorem oX6_write_48 {g : rk_G} {R : rk_R} : aX6_write g R 48 (bX6_write_48 g R) := (rk_iload_ok dX6_write_48 (rk_iload_n_ok dX6_write_50 rfl (rk_icmp_ge_ok (pc' := 77) dX6_write_51 (by decide) (rk_iload_n_ok dX6_write_77 rfl (rk_iret_ok rfl dX6_write_78)) (rk_aload_n_ok dX6_write_54 rfl (rk_gR_ok dX6_write_55 rfl iX3 (by decide) rfl wfX6_104 (rk_iload_ok dX6_write_58 (rk_aload_n_ok dX6_write_60 rfl (rk_gR_ok dX6_write_61 rfl iX6 (by decide) rfl wfX6_30 (rk_gR_ok dX6_write_64 rfl iX4 (by decide) rfl wfX6_175 (rk_iload_ok dX6_write_67 (rk_iald_ok dX6_write_69 (rk_iast_ok dX6_write_70 (rk_iinc_ok dX6_write_71 (by decide) (by decide) (rk_goto_ok (pc' := 48) dX6_write_74 (by decide) rk_cut_ok))))))))))))))
def bX6_write_0 (g : rk_G) (R : rk_R) : rk_K := (rk_iload 1 (rk_cS g 1 yX6_isRow cX6_isRow 1 (some .boolean) 0 (rk_if_ne (rk_aload 0 (rk_gR 6 5 (rk_iload 1 (rk_aald (rk_astore 2 (rk_aload 2 (rk_cV g 0 3 yX3_isLost cX3_isLost 1 (some .boolean) 0 (rk_if_eq (rk_aload 2 (rk_gI 3 2 (rk_aload 0 (rk_gR 6 2 (rk_gI 4 11 (rk_mmin (rk_istore 3 (rk_ci (0) (rk_istore 4 (kX6_write g R 48)))))))))) (rk_aload 0 (rk_ci (1) (rk_cV g 1 6 yX6_found cX6_found 2 (some .int) 0 (rk_iret R)))))))))))) (rk_ci (-2) (rk_iret R)))))
theorem eX6_write_0 (g : rk_G) (R : rk_R) (ls st : List Value) (σ : rk_M) : bX6_write_0 g R ls st σ = (rk_iload 1 (rk_cS g 1 yX6_isRow cX6_isRow 1 (some .boolean) 0 (rk_if_ne (rk_aload 0 (rk_gR 6 5 (rk_iload 1 (rk_aald (rk_astore 2 (rk_aload 2 (rk_cV g 0 3 yX3_isLost cX3_isLost 1 (some .boolean) 0 (rk_if_eq (rk_aload 2 (rk_gI 3 2 (rk_aload 0 (rk_gR 6 2 (rk_gI 4 11 (rk_mmin (rk_istore 3 (rk_ci (0) (rk_istore 4 (kX6_write g R 48)))))))))) (rk_aload 0 (rk_ci (1) (rk_cV g 1 6 yX6_found cX6_found 2 (some .int) 0 (rk_iret R)))))))))))) (rk_ci (-2) (rk_iret R))))) ls st σ := rfl
theorem oX6_write_0 {g : rk_G} {R : rk_R} : aX6_write g R 0 (bX6_write_0 g R) := (rk_iload_n_ok dX6_write_0 rfl (rk_cS_ok dX6_write_1 npX6_isRow wmX6_93 wtX6_isRow wiX6 wdX6_isRow (by decide) (by decide) (rk_if_ne_ok (pc' := 10) dX6_write_4 (by decide) (rk_aload_n_ok dX6_write_10 rfl (rk_gR_ok dX6_write_11 rfl iX6 (by decide) rfl wfX6_52 (rk_iload_n_ok dX6_write_14 rfl (rk_aald_ok dX6_write_15 (rk_astore_n_ok dX6_write_16 rfl (by decide) (rk_aload_n_ok dX6_write_17 rfl (rk_cV_ok dX6_write_18 rfl rfl npX3_isLost wmX6_96 wvX3_isLost weX3_isLost wiX3 wdX3_isLost (by decide) (by decide) (rk_if_eq_ok (pc' := 30) dX6_write_21 (by decide) (rk_aload_n_ok dX6_write_30 rfl (rk_gI_ok dX6_write_31 rfl iX3 (by decide) rfl wfX6_107 (rk_aload_n_ok dX6_write_34 rfl (rk_gR_ok dX6_write_35 rfl iX6 (by decide) rfl wfX6_30 (rk_gI_ok dX6_write_38 rfl iX4 (by decide) rfl wfX6_172 (rk_mmin_ok dX6_write_41 wmX6_240 ws_mmin wiMath wd_mmin (by decide) (rk_istore_n_ok dX6_write_44 rfl (by decide) (rk_iconst_ok dX6_write_45 (by decide) (rk_istore_ok dX6_write_46 (by decide) rk_cut_ok))))))))) (rk_aload_n_ok dX6_write_24 rfl (rk_iconst_ok dX6_write_25 (by decide) (rk_cV_ok dX6_write_26 rfl rfl npX6_found wmX6_100 wvX6_found weX6_found wiX6 wdX6_found (by decide) (by decide) (rk_iret_ok rfl dX6_write_29)))))))))))) (rk_bipush_ok dX6_write_7 (by decide) (rk_iret_ok rfl dX6_write_9)))))
theorem dX6_firstWorthIfWide_0 : decode cX6_firstWorthIfWide 0 = .ok (.aload_n 0, 1) := by decide +kernel
theorem dX6_firstWorthIfWide_1 : decode cX6_firstWorthIfWide 1 = .ok (.getfield 10, 3) := by decide +kernel
theorem dX6_firstWorthIfWide_4 : decode cX6_firstWorthIfWide 4 = .ok (.iload_n 1, 1) := by decide +kernel
theorem dX6_firstWorthIfWide_5 : decode cX6_firstWorthIfWide 5 = .ok (.bipush 9, 2) := by decide +kernel
theorem dX6_firstWorthIfWide_7 : decode cX6_firstWorthIfWide 7 = .ok (.invokevirtual 131, 3) := by decide +kernel
theorem dX6_firstWorthIfWide_10 : decode cX6_firstWorthIfWide 10 = .ok (.aload_n 0, 1) := by decide +kernel
theorem dX6_firstWorthIfWide_11 : decode cX6_firstWorthIfWide 11 = .ok (.getfield 10, 3) := by decide +kernel
theorem dX6_firstWorthIfWide_14 : decode cX6_firstWorthIfWide 14 = .ok (.iload_n 1, 1) := by decide +kernel
theorem dX6_firstWorthIfWide_15 : decode cX6_firstWorthIfWide 15 = .ok (.aload_n 0, 1) := by decide +kernel
theorem dX6_firstWorthIfWide_16 : decode cX6_firstWorthIfWide 16 = .ok (.getfield 10, 3) := by decide +kernel
theorem dX6_firstWorthIfWide_19 : decode cX6_firstWorthIfWide 19 = .ok (.getfield 90, 3) := by decide +kernel
theorem dX6_firstWorthIfWide_22 : decode cX6_firstWorthIfWide 22 = .ok (.iload_n 1, 1) := by decide +kernel
theorem dX6_firstWorthIfWide_23 : decode cX6_firstWorthIfWide 23 = .ok (.iaload, 1) := by decide +kernel
theorem dX6_firstWorthIfWide_24 : decode cX6_firstWorthIfWide 24 = .ok (.invokevirtual 131, 3) := by decide +kernel
theorem dX6_firstWorthIfWide_27 : decode cX6_firstWorthIfWide 27 = .ok (.isub, 1) := by decide +kernel
theorem dX6_firstWorthIfWide_28 : decode cX6_firstWorthIfWide 28 = .ok (.istore_n 2, 1) := by decide +kernel
theorem dX6_firstWorthIfWide_29 : decode cX6_firstWorthIfWide 29 = .ok (.aload_n 0, 1) := by decide +kernel
theorem dX6_firstWorthIfWide_30 : decode cX6_firstWorthIfWide 30 = .ok (.getfield 30, 3) := by decide +kernel
theorem dX6_firstWorthIfWide_33 : decode cX6_firstWorthIfWide 33 = .ok (.getfield 160, 3) := by decide +kernel
theorem dX6_firstWorthIfWide_36 : decode cX6_firstWorthIfWide 36 = .ok (.aload_n 0, 1) := by decide +kernel
theorem dX6_firstWorthIfWide_37 : decode cX6_firstWorthIfWide 37 = .ok (.getfield 30, 3) := by decide +kernel
theorem dX6_firstWorthIfWide_40 : decode cX6_firstWorthIfWide 40 = .ok (.getfield 134, 3) := by decide +kernel
theorem dX6_firstWorthIfWide_43 : decode cX6_firstWorthIfWide 43 = .ok (.iload_n 1, 1) := by decide +kernel
theorem dX6_firstWorthIfWide_44 : decode cX6_firstWorthIfWide 44 = .ok (.iaload, 1) := by decide +kernel
theorem dX6_firstWorthIfWide_45 : decode cX6_firstWorthIfWide 45 = .ok (.iaload, 1) := by decide +kernel
theorem dX6_firstWorthIfWide_46 : decode cX6_firstWorthIfWide 46 = .ok (.iload_n 2, 1) := by decide +kernel
theorem dX6_firstWorthIfWide_47 : decode cX6_firstWorthIfWide 47 = .ok (.iadd, 1) := by decide +kernel
theorem dX6_firstWorthIfWide_48 : decode cX6_firstWorthIfWide 48 = .ok (.istore_n 3, 1) := by decide +kernel
theorem dX6_firstWorthIfWide_49 : decode cX6_firstWorthIfWide 49 = .ok (.iload_n 3, 1) := by decide +kernel
theorem dX6_firstWorthIfWide_50 : decode cX6_firstWorthIfWide 50 = .ok (.aload_n 0, 1) := by decide +kernel
theorem dX6_firstWorthIfWide_51 : decode cX6_firstWorthIfWide 51 = .ok (.getfield 30, 3) := by decide +kernel
theorem dX6_firstWorthIfWide_54 : decode cX6_firstWorthIfWide 54 = .ok (.getfield 160, 3) := by decide +kernel
theorem dX6_firstWorthIfWide_57 : decode cX6_firstWorthIfWide 57 = .ok (.aload_n 0, 1) := by decide +kernel
theorem dX6_firstWorthIfWide_58 : decode cX6_firstWorthIfWide 58 = .ok (.getfield 30, 3) := by decide +kernel
theorem dX6_firstWorthIfWide_61 : decode cX6_firstWorthIfWide 61 = .ok (.getfield 175, 3) := by decide +kernel
theorem dX6_firstWorthIfWide_64 : decode cX6_firstWorthIfWide 64 = .ok (.iconst 0, 1) := by decide +kernel
theorem dX6_firstWorthIfWide_65 : decode cX6_firstWorthIfWide 65 = .ok (.iaload, 1) := by decide +kernel
theorem dX6_firstWorthIfWide_66 : decode cX6_firstWorthIfWide 66 = .ok (.iaload, 1) := by decide +kernel
theorem dX6_firstWorthIfWide_67 : decode cX6_firstWorthIfWide 67 = .ok (.invokestatic 314, 3) := by decide +kernel
theorem dX6_firstWorthIfWide_70 : decode cX6_firstWorthIfWide 70 = .ok (.ireturn, 1) := by decide +kernel
abbrev kX6_firstWorthIfWide (g : rk_G) (R : rk_R) (pc : Nat) : rk_K := rk_cut g cX6_firstWorthIfWide 4 (some .int) RX6 1 R pc
abbrev aX6_firstWorthIfWide (g : rk_G) (R : rk_R) (pc : Nat) (K : rk_K) : Prop := rk_AK g cX6_firstWorthIfWide 4 (some .int) RX6 1 R pc K
abbrev sX6_firstWorthIfWide (g : rk_G) (vs : List Value) (σ : rk_M) (R : rk_R) : Prop := rk_does g yX6_firstWorthIfWide cX6_firstWorthIfWide 4 (some .int) 1 vs σ R
abbrev tX6_firstWorthIfWide (g : rk_G) (R : rk_R) (pc : Nat) (ls st : List Value) (σ : rk_M) : Prop := rk_At g cX6_firstWorthIfWide 4 (some .int) RX6 1 R pc ls st σ
def bX6_firstWorthIfWide_0 (g : rk_G) (R : rk_R) : rk_K := (rk_aload 0 (rk_gR 6 0 (rk_iload 1 (rk_ci (9) (rk_cV g 2 2 yX2_worthOf cX2_worthOf 4 (some .int) 0 (rk_aload 0 (rk_gR 6 0 (rk_iload 1 (rk_aload 0 (rk_gR 6 0 (rk_gR 2 5 (rk_iload 1 (rk_iald (rk_cV g 2 2 yX2_worthOf cX2_worthOf 4 (some .int) 0 (rk_isub (rk_istore 2 (rk_aload 0 (rk_gR 6 2 (rk_gR 4 3 (rk_aload 0 (rk_gR 6 2 (rk_gR 4 0 (rk_iload 1 (rk_iald (rk_iald (rk_iload 2 (rk_iadd (rk_istore 3 (rk_iload 3 (rk_aload 0 (rk_gR 6 2 (rk_gR 4 3 (rk_aload 0 (rk_gR 6 2 (rk_gR 4 7 (rk_ci (0) (rk_iald (rk_iald (rk_mmax (rk_iret R))))))))))))))))))))))))))))))))))))))))
theorem eX6_firstWorthIfWide_0 (g : rk_G) (R : rk_R) (ls st : List Value) (σ : rk_M) : bX6_firstWorthIfWide_0 g R ls st σ = (rk_aload 0 (rk_gR 6 0 (rk_iload 1 (rk_ci (9) (rk_cV g 2 2 yX2_worthOf cX2_worthOf 4 (some .int) 0 (rk_aload 0 (rk_gR 6 0 (rk_iload 1 (rk_aload 0 (rk_gR 6 0 (rk_gR 2 5 (rk_iload 1 (rk_iald (rk_cV g 2 2 yX2_worthOf cX2_worthOf 4 (some .int) 0 (rk_isub (rk_istore 2 (rk_aload 0 (rk_gR 6 2 (rk_gR 4 3 (rk_aload 0 (rk_gR 6 2 (rk_gR 4 0 (rk_iload 1 (rk_iald (rk_iald (rk_iload 2 (rk_iadd (rk_istore 3 (rk_iload 3 (rk_aload 0 (rk_gR 6 2 (rk_gR 4 3 (rk_aload 0 (rk_gR 6 2 (rk_gR 4 7 (rk_ci (0) (rk_iald (rk_iald (rk_mmax (rk_iret R)))))))))))))))))))))))))))))))))))))))) ls st σ := rfl
theorem oX6_firstWorthIfWide_0 {g : rk_G} {R : rk_R} : aX6_firstWorthIfWide g R 0 (bX6_firstWorthIfWide_0 g R) := (rk_aload_n_ok dX6_firstWorthIfWide_0 rfl (rk_gR_ok dX6_firstWorthIfWide_1 rfl iX6 (by decide) rfl wfX6_10 (rk_iload_n_ok dX6_firstWorthIfWide_4 rfl (rk_bipush_ok dX6_firstWorthIfWide_5 (by decide) (rk_cV_ok dX6_firstWorthIfWide_7 rfl rfl npX2_worthOf wmX6_131 wvX2_worthOf weX2_worthOf wiX2 wdX2_worthOf (by decide) (by decide) (rk_aload_n_ok dX6_firstWorthIfWide_10 rfl (rk_gR_ok dX6_firstWorthIfWide_11 rfl iX6 (by decide) rfl wfX6_10 (rk_iload_n_ok dX6_firstWorthIfWide_14 rfl (rk_aload_n_ok dX6_firstWorthIfWide_15 rfl (rk_gR_ok dX6_firstWorthIfWide_16 rfl iX6 (by decide) rfl wfX6_10 (rk_gR_ok dX6_firstWorthIfWide_19 rfl iX2 (by decide) rfl wfX6_90 (rk_iload_n_ok dX6_firstWorthIfWide_22 rfl (rk_iald_ok dX6_firstWorthIfWide_23 (rk_cV_ok dX6_firstWorthIfWide_24 rfl rfl npX2_worthOf wmX6_131 wvX2_worthOf weX2_worthOf wiX2 wdX2_worthOf (by decide) (by decide) (rk_isub_ok dX6_firstWorthIfWide_27 (rk_istore_n_ok dX6_firstWorthIfWide_28 rfl (by decide) (rk_aload_n_ok dX6_firstWorthIfWide_29 rfl (rk_gR_ok dX6_firstWorthIfWide_30 rfl iX6 (by decide) rfl wfX6_30 (rk_gR_ok dX6_firstWorthIfWide_33 rfl iX4 (by decide) rfl wfX6_160 (rk_aload_n_ok dX6_firstWorthIfWide_36 rfl (rk_gR_ok dX6_firstWorthIfWide_37 rfl iX6 (by decide) rfl wfX6_30 (rk_gR_ok dX6_firstWorthIfWide_40 rfl iX4 (by decide) rfl wfX6_134 (rk_iload_n_ok dX6_firstWorthIfWide_43 rfl (rk_iald_ok dX6_firstWorthIfWide_44 (rk_iald_ok dX6_firstWorthIfWide_45 (rk_iload_n_ok dX6_firstWorthIfWide_46 rfl (rk_iadd_ok dX6_firstWorthIfWide_47 (rk_istore_n_ok dX6_firstWorthIfWide_48 rfl (by decide) (rk_iload_n_ok dX6_firstWorthIfWide_49 rfl (rk_aload_n_ok dX6_firstWorthIfWide_50 rfl (rk_gR_ok dX6_firstWorthIfWide_51 rfl iX6 (by decide) rfl wfX6_30 (rk_gR_ok dX6_firstWorthIfWide_54 rfl iX4 (by decide) rfl wfX6_160 (rk_aload_n_ok dX6_firstWorthIfWide_57 rfl (rk_gR_ok dX6_firstWorthIfWide_58 rfl iX6 (by decide) rfl wfX6_30 (rk_gR_ok dX6_firstWorthIfWide_61 rfl iX4 (by decide) rfl wfX6_175 (rk_iconst_ok dX6_firstWorthIfWide_64 (by decide) (rk_iald_ok dX6_firstWorthIfWide_65 (rk_iald_ok dX6_firstWorthIfWide_66 (rk_mmax_ok dX6_firstWorthIfWide_67 wmX6_314 ws_mmax wiMath wd_mmax (by decide) (rk_iret_ok rfl dX6_firstWorthIfWide_70))))))))))))))))))))))))))))))))))))))))
theorem dX6_reached_0 : decode cX6_reached 0 = .ok (.iload_n 0, 1) := by decide +kernel
theorem dX6_reached_1 : decode cX6_reached 1 = .ok (.iload_n 1, 1) := by decide +kernel
theorem dX6_reached_2 : decode cX6_reached 2 = .ok (.iand, 1) := by decide +kernel
theorem dX6_reached_3 : decode cX6_reached 3 = .ok (.istore_n 3, 1) := by decide +kernel
theorem dX6_reached_4 : decode cX6_reached 4 = .ok (.iconst 0, 1) := by decide +kernel
theorem dX6_reached_5 : decode cX6_reached 5 = .ok (.istore 4, 2) := by decide +kernel
theorem dX6_reached_7 : decode cX6_reached 7 = .ok (.iload 4, 2) := by decide +kernel
theorem dX6_reached_9 : decode cX6_reached 9 = .ok (.aload_n 2, 1) := by decide +kernel
theorem dX6_reached_10 : decode cX6_reached 10 = .ok (.arraylength, 1) := by decide +kernel
theorem dX6_reached_11 : decode cX6_reached 11 = .ok (.if_icmp .ge 61, 3) := by decide +kernel
theorem dX6_reached_14 : decode cX6_reached 14 = .ok (.iload_n 3, 1) := by decide +kernel
theorem dX6_reached_15 : decode cX6_reached 15 = .ok (.istore 5, 2) := by decide +kernel
theorem dX6_reached_17 : decode cX6_reached 17 = .ok (.iconst 0, 1) := by decide +kernel
theorem dX6_reached_18 : decode cX6_reached 18 = .ok (.istore 6, 2) := by decide +kernel
theorem dX6_reached_20 : decode cX6_reached 20 = .ok (.iload 6, 2) := by decide +kernel
theorem dX6_reached_22 : decode cX6_reached 22 = .ok (.aload_n 2, 1) := by decide +kernel
theorem dX6_reached_23 : decode cX6_reached 23 = .ok (.arraylength, 1) := by decide +kernel
theorem dX6_reached_24 : decode cX6_reached 24 = .ok (.if_icmp .ge 30, 3) := by decide +kernel
theorem dX6_reached_27 : decode cX6_reached 27 = .ok (.iload 5, 2) := by decide +kernel
theorem dX6_reached_29 : decode cX6_reached 29 = .ok (.iload 6, 2) := by decide +kernel
theorem dX6_reached_31 : decode cX6_reached 31 = .ok (.invokestatic 317, 3) := by decide +kernel
theorem dX6_reached_34 : decode cX6_reached 34 = .ok (.ifCond .eq 14, 3) := by decide +kernel
theorem dX6_reached_37 : decode cX6_reached 37 = .ok (.iload 5, 2) := by decide +kernel
theorem dX6_reached_39 : decode cX6_reached 39 = .ok (.aload_n 2, 1) := by decide +kernel
theorem dX6_reached_40 : decode cX6_reached 40 = .ok (.iload 6, 2) := by decide +kernel
theorem dX6_reached_42 : decode cX6_reached 42 = .ok (.iaload, 1) := by decide +kernel
theorem dX6_reached_43 : decode cX6_reached 43 = .ok (.iload_n 1, 1) := by decide +kernel
theorem dX6_reached_44 : decode cX6_reached 44 = .ok (.iand, 1) := by decide +kernel
theorem dX6_reached_45 : decode cX6_reached 45 = .ok (.ior, 1) := by decide +kernel
theorem dX6_reached_46 : decode cX6_reached 46 = .ok (.istore 5, 2) := by decide +kernel
theorem dX6_reached_48 : decode cX6_reached 48 = .ok (.iinc 6 1, 3) := by decide +kernel
theorem dX6_reached_51 : decode cX6_reached 51 = .ok (.goto (-31), 3) := by decide +kernel
theorem dX6_reached_54 : decode cX6_reached 54 = .ok (.iload 5, 2) := by decide +kernel
theorem dX6_reached_56 : decode cX6_reached 56 = .ok (.iload_n 3, 1) := by decide +kernel
theorem dX6_reached_57 : decode cX6_reached 57 = .ok (.if_icmp .ne 6, 3) := by decide +kernel
theorem dX6_reached_60 : decode cX6_reached 60 = .ok (.goto 12, 3) := by decide +kernel
theorem dX6_reached_63 : decode cX6_reached 63 = .ok (.iload 5, 2) := by decide +kernel
theorem dX6_reached_65 : decode cX6_reached 65 = .ok (.istore_n 3, 1) := by decide +kernel
theorem dX6_reached_66 : decode cX6_reached 66 = .ok (.iinc 4 1, 3) := by decide +kernel
theorem dX6_reached_69 : decode cX6_reached 69 = .ok (.goto (-62), 3) := by decide +kernel
theorem dX6_reached_72 : decode cX6_reached 72 = .ok (.iload_n 3, 1) := by decide +kernel
theorem dX6_reached_73 : decode cX6_reached 73 = .ok (.ireturn, 1) := by decide +kernel
abbrev kX6_reached (g : rk_G) (R : rk_R) (pc : Nat) : rk_K := rk_cut g cX6_reached 7 (some .int) RX6 1 R pc
abbrev aX6_reached (g : rk_G) (R : rk_R) (pc : Nat) (K : rk_K) : Prop := rk_AK g cX6_reached 7 (some .int) RX6 1 R pc K
abbrev sX6_reached (g : rk_G) (vs : List Value) (σ : rk_M) (R : rk_R) : Prop := rk_does g yX6_reached cX6_reached 7 (some .int) 1 vs σ R
abbrev tX6_reached (g : rk_G) (R : rk_R) (pc : Nat) (ls st : List Value) (σ : rk_M) : Prop := rk_At g cX6_reached 7 (some .int) RX6 1 R pc ls st σ
def bX6_reached_72 (g : rk_G) (R : rk_R) : rk_K := (rk_iload 3 (rk_iret R))
theorem eX6_reached_72 (g : rk_G) (R : rk_R) (ls st : List Value) (σ : rk_M) : bX6_reached_72 g R ls st σ = (rk_iload 3 (rk_iret R)) ls st σ := rfl
theorem oX6_reached_72 {g : rk_G} {R : rk_R} : aX6_reached g R 72 (bX6_reached_72 g R) := (rk_iload_n_ok dX6_reached_72 rfl (rk_iret_ok rfl dX6_reached_73))
def bX6_reached_48 (g : rk_G) (R : rk_R) : rk_K := (rk_iinc 6 (1) (kX6_reached g R 20))
theorem eX6_reached_48 (g : rk_G) (R : rk_R) (ls st : List Value) (σ : rk_M) : bX6_reached_48 g R ls st σ = (rk_iinc 6 (1) (kX6_reached g R 20)) ls st σ := rfl
theorem oX6_reached_48 {g : rk_G} {R : rk_R} : aX6_reached g R 48 (bX6_reached_48 g R) := (rk_iinc_ok dX6_reached_48 (by decide) (by decide) (rk_goto_ok (pc' := 20) dX6_reached_51 (by decide) rk_cut_ok))
def bX6_reached_20 (g : rk_G) (R : rk_R) : rk_K := (rk_iload 6 (rk_aload 2 (rk_alen (rk_icmp_ge (rk_iload 5 (rk_iload 3 (rk_icmp_ne (rk_iload 5 (rk_istore 3 (rk_iinc 4 (1) (kX6_reached g R 7)))) (bX6_reached_72 g R)))) (rk_iload 5 (rk_iload 6 (rk_cS g 2 yX6_hasBit cX6_hasBit 2 (some .boolean) 0 (rk_if_eq (bX6_reached_48 g R) (rk_iload 5 (rk_aload 2 (rk_iload 6 (rk_iald (rk_iload 1 (rk_iand (rk_ior (rk_istore 5 (bX6_reached_48 g R)))))))))))))))))
theorem eX6_reached_20 (g : rk_G) (R : rk_R) (ls st : List Value) (σ : rk_M) : bX6_reached_20 g R ls st σ = (rk_iload 6 (rk_aload 2 (rk_alen (rk_icmp_ge (rk_iload 5 (rk_iload 3 (rk_icmp_ne (rk_iload 5 (rk_istore 3 (rk_iinc 4 (1) (kX6_reached g R 7)))) (bX6_reached_72 g R)))) (rk_iload 5 (rk_iload 6 (rk_cS g 2 yX6_hasBit cX6_hasBit 2 (some .boolean) 0 (rk_if_eq (bX6_reached_48 g R) (rk_iload 5 (rk_aload 2 (rk_iload 6 (rk_iald (rk_iload 1 (rk_iand (rk_ior (rk_istore 5 (bX6_reached_48 g R))))))))))))))))) ls st σ := rfl
theorem oX6_reached_20 {g : rk_G} {R : rk_R} : aX6_reached g R 20 (bX6_reached_20 g R) := (rk_iload_ok dX6_reached_20 (rk_aload_n_ok dX6_reached_22 rfl (rk_alen_ok dX6_reached_23 (rk_icmp_ge_ok (pc' := 54) dX6_reached_24 (by decide) (rk_iload_ok dX6_reached_54 (rk_iload_n_ok dX6_reached_56 rfl (rk_icmp_ne_ok (pc' := 63) dX6_reached_57 (by decide) (rk_iload_ok dX6_reached_63 (rk_istore_n_ok dX6_reached_65 rfl (by decide) (rk_iinc_ok dX6_reached_66 (by decide) (by decide) (rk_goto_ok (pc' := 7) dX6_reached_69 (by decide) rk_cut_ok)))) (rk_goto_ok (pc' := 72) dX6_reached_60 (by decide) oX6_reached_72)))) (rk_iload_ok dX6_reached_27 (rk_iload_ok dX6_reached_29 (rk_cS_ok dX6_reached_31 npX6_hasBit wmX6_317 wtX6_hasBit wiX6 wdX6_hasBit (by decide) (by decide) (rk_if_eq_ok (pc' := 48) dX6_reached_34 (by decide) oX6_reached_48 (rk_iload_ok dX6_reached_37 (rk_aload_n_ok dX6_reached_39 rfl (rk_iload_ok dX6_reached_40 (rk_iald_ok dX6_reached_42 (rk_iload_n_ok dX6_reached_43 rfl (rk_iand_ok dX6_reached_44 (rk_ior_ok dX6_reached_45 (rk_istore_ok dX6_reached_46 (by decide) oX6_reached_48))))))))))))))))
def bX6_reached_7 (g : rk_G) (R : rk_R) : rk_K := (rk_iload 4 (rk_aload 2 (rk_alen (rk_icmp_ge (bX6_reached_72 g R) (rk_iload 3 (rk_istore 5 (rk_ci (0) (rk_istore 6 (kX6_reached g R 20)))))))))
theorem eX6_reached_7 (g : rk_G) (R : rk_R) (ls st : List Value) (σ : rk_M) : bX6_reached_7 g R ls st σ = (rk_iload 4 (rk_aload 2 (rk_alen (rk_icmp_ge (bX6_reached_72 g R) (rk_iload 3 (rk_istore 5 (rk_ci (0) (rk_istore 6 (kX6_reached g R 20))))))))) ls st σ := rfl
theorem oX6_reached_7 {g : rk_G} {R : rk_R} : aX6_reached g R 7 (bX6_reached_7 g R) := (rk_iload_ok dX6_reached_7 (rk_aload_n_ok dX6_reached_9 rfl (rk_alen_ok dX6_reached_10 (rk_icmp_ge_ok (pc' := 72) dX6_reached_11 (by decide) oX6_reached_72 (rk_iload_n_ok dX6_reached_14 rfl (rk_istore_ok dX6_reached_15 (by decide) (rk_iconst_ok dX6_reached_17 (by decide) (rk_istore_ok dX6_reached_18 (by decide) rk_cut_ok))))))))
def bX6_reached_0 (g : rk_G) (R : rk_R) : rk_K := (rk_iload 0 (rk_iload 1 (rk_iand (rk_istore 3 (rk_ci (0) (rk_istore 4 (kX6_reached g R 7)))))))
theorem eX6_reached_0 (g : rk_G) (R : rk_R) (ls st : List Value) (σ : rk_M) : bX6_reached_0 g R ls st σ = (rk_iload 0 (rk_iload 1 (rk_iand (rk_istore 3 (rk_ci (0) (rk_istore 4 (kX6_reached g R 7))))))) ls st σ := rfl
theorem oX6_reached_0 {g : rk_G} {R : rk_R} : aX6_reached g R 0 (bX6_reached_0 g R) := (rk_iload_n_ok dX6_reached_0 rfl (rk_iload_n_ok dX6_reached_1 rfl (rk_iand_ok dX6_reached_2 (rk_istore_n_ok dX6_reached_3 rfl (by decide) (rk_iconst_ok dX6_reached_4 (by decide) (rk_istore_ok dX6_reached_5 (by decide) rk_cut_ok))))))
theorem dX0_answer_0 : decode cX0_answer 0 = .ok (.iload_n 1, 1) := by decide +kernel
theorem dX0_answer_1 : decode cX0_answer 1 = .ok (.tableswitch 49 0 2 #[27, 32, 37], 27) := by decide +kernel
theorem dX0_answer_28 : decode cX0_answer 28 = .ok (.aload_n 0, 1) := by decide +kernel
theorem dX0_answer_29 : decode cX0_answer 29 = .ok (.getfield 15, 3) := by decide +kernel
theorem dX0_answer_32 : decode cX0_answer 32 = .ok (.ireturn, 1) := by decide +kernel
theorem dX0_answer_33 : decode cX0_answer 33 = .ok (.aload_n 0, 1) := by decide +kernel
theorem dX0_answer_34 : decode cX0_answer 34 = .ok (.getfield 9, 3) := by decide +kernel
theorem dX0_answer_37 : decode cX0_answer 37 = .ok (.ireturn, 1) := by decide +kernel
theorem dX0_answer_38 : decode cX0_answer 38 = .ok (.aload_n 0, 1) := by decide +kernel
theorem dX0_answer_39 : decode cX0_answer 39 = .ok (.getfield 21, 3) := by decide +kernel
theorem dX0_answer_42 : decode cX0_answer 42 = .ok (.aload_n 0, 1) := by decide +kernel
theorem dX0_answer_43 : decode cX0_answer 43 = .ok (.getfield 9, 3) := by decide +kernel
theorem dX0_answer_46 : decode cX0_answer 46 = .ok (.invokevirtual 29, 3) := by decide +kernel
theorem dX0_answer_49 : decode cX0_answer 49 = .ok (.ireturn, 1) := by decide +kernel
theorem dX0_answer_50 : decode cX0_answer 50 = .ok (.aload_n 0, 1) := by decide +kernel
theorem dX0_answer_51 : decode cX0_answer 51 = .ok (.getfield 18, 3) := by decide +kernel
theorem dX0_answer_54 : decode cX0_answer 54 = .ok (.ireturn, 1) := by decide +kernel
abbrev kX0_answer (g : rk_G) (R : rk_R) (pc : Nat) : rk_K := rk_cut g cX0_answer 2 (some .int) RX0 2 R pc
abbrev aX0_answer (g : rk_G) (R : rk_R) (pc : Nat) (K : rk_K) : Prop := rk_AK g cX0_answer 2 (some .int) RX0 2 R pc K
abbrev sX0_answer (g : rk_G) (vs : List Value) (σ : rk_M) (R : rk_R) : Prop := rk_does g yX0_answer cX0_answer 2 (some .int) 2 vs σ R
abbrev tX0_answer (g : rk_G) (R : rk_R) (pc : Nat) (ls st : List Value) (σ : rk_M) : Prop := rk_At g cX0_answer 2 (some .int) RX0 2 R pc ls st σ
def bX0_answer_0 (g : rk_G) (R : rk_R) : rk_K := (rk_iload 1 (rk_sw 0 [(rk_aload 0 (rk_gI 0 2 (rk_iret R))), (rk_aload 0 (rk_gI 0 1 (rk_iret R))), (rk_aload 0 (rk_gR 0 0 (rk_aload 0 (rk_gI 0 1 (rk_cV g 1 4 yX4_lengthOf cX4_lengthOf 4 (some .int) 1 (rk_iret R))))))] (rk_aload 0 (rk_gI 0 3 (rk_iret R)))))
theorem eX0_answer_0 (g : rk_G) (R : rk_R) (ls st : List Value) (σ : rk_M) : bX0_answer_0 g R ls st σ = (rk_iload 1 (rk_sw 0 [(rk_aload 0 (rk_gI 0 2 (rk_iret R))), (rk_aload 0 (rk_gI 0 1 (rk_iret R))), (rk_aload 0 (rk_gR 0 0 (rk_aload 0 (rk_gI 0 1 (rk_cV g 1 4 yX4_lengthOf cX4_lengthOf 4 (some .int) 1 (rk_iret R))))))] (rk_aload 0 (rk_gI 0 3 (rk_iret R))))) ls st σ := rfl
theorem oX0_answer_0 {g : rk_G} {R : rk_R} : aX0_answer g R 0 (bX0_answer_0 g R) := (rk_iload_n_ok dX0_answer_0 rfl (rk_table_ok (pc' := 50) (tg := [28, 33, 38]) dX0_answer_1 rfl (by decide) rfl (by decide) (fun j t K ht hk => match j, t, K, ht, hk with | 0, _, _, ht, hk => by cases ht; cases hk; exact (rk_aload_n_ok dX0_answer_28 rfl (rk_gI_ok dX0_answer_29 rfl iX0 (by decide) rfl wfX0_15 (rk_iret_ok rfl dX0_answer_32))) | 1, _, _, ht, hk => by cases ht; cases hk; exact (rk_aload_n_ok dX0_answer_33 rfl (rk_gI_ok dX0_answer_34 rfl iX0 (by decide) rfl wfX0_9 (rk_iret_ok rfl dX0_answer_37))) | 2, _, _, ht, hk => by cases ht; cases hk; exact (rk_aload_n_ok dX0_answer_38 rfl (rk_gR_ok dX0_answer_39 rfl iX0 (by decide) rfl wfX0_21 (rk_aload_n_ok dX0_answer_42 rfl (rk_gI_ok dX0_answer_43 rfl iX0 (by decide) rfl wfX0_9 (rk_cV_ok dX0_answer_46 rfl rfl npX4_lengthOf wmX0_29 wvX4_lengthOf weX4_lengthOf wiX4 wdX4_lengthOf (by decide) (by decide) (rk_iret_ok rfl dX0_answer_49)))))) | (j + 3), _, _, ht, hk => by cases ht) (rk_aload_n_ok dX0_answer_50 rfl (rk_gI_ok dX0_answer_51 rfl iX0 (by decide) rfl wfX0_18 (rk_iret_ok rfl dX0_answer_54)))))
theorem dX0_mayGo_0 : decode cX0_mayGo 0 = .ok (.aload_n 0, 1) := by decide +kernel
theorem dX0_mayGo_1 : decode cX0_mayGo 1 = .ok (.getfield 9, 3) := by decide +kernel
theorem dX0_mayGo_4 : decode cX0_mayGo 4 = .ok (.iconst 1, 1) := by decide +kernel
theorem dX0_mayGo_5 : decode cX0_mayGo 5 = .ok (.iload_n 1, 1) := by decide +kernel
theorem dX0_mayGo_6 : decode cX0_mayGo 6 = .ok (.ishl, 1) := by decide +kernel
theorem dX0_mayGo_7 : decode cX0_mayGo 7 = .ok (.iconst (-1), 1) := by decide +kernel
theorem dX0_mayGo_8 : decode cX0_mayGo 8 = .ok (.ixor, 1) := by decide +kernel
theorem dX0_mayGo_9 : decode cX0_mayGo 9 = .ok (.iand, 1) := by decide +kernel
theorem dX0_mayGo_10 : decode cX0_mayGo 10 = .ok (.istore_n 2, 1) := by decide +kernel
theorem dX0_mayGo_11 : decode cX0_mayGo 11 = .ok (.aload_n 0, 1) := by decide +kernel
theorem dX0_mayGo_12 : decode cX0_mayGo 12 = .ok (.getfield 21, 3) := by decide +kernel
theorem dX0_mayGo_15 : decode cX0_mayGo 15 = .ok (.getfield 49, 3) := by decide +kernel
theorem dX0_mayGo_18 : decode cX0_mayGo 18 = .ok (.iload_n 1, 1) := by decide +kernel
theorem dX0_mayGo_19 : decode cX0_mayGo 19 = .ok (.iaload, 1) := by decide +kernel
theorem dX0_mayGo_20 : decode cX0_mayGo 20 = .ok (.aload_n 0, 1) := by decide +kernel
theorem dX0_mayGo_21 : decode cX0_mayGo 21 = .ok (.getfield 21, 3) := by decide +kernel
theorem dX0_mayGo_24 : decode cX0_mayGo 24 = .ok (.iload_n 2, 1) := by decide +kernel
theorem dX0_mayGo_25 : decode cX0_mayGo 25 = .ok (.invokevirtual 52, 3) := by decide +kernel
theorem dX0_mayGo_28 : decode cX0_mayGo 28 = .ok (.iconst (-1), 1) := by decide +kernel
theorem dX0_mayGo_29 : decode cX0_mayGo 29 = .ok (.ixor, 1) := by decide +kernel
theorem dX0_mayGo_30 : decode cX0_mayGo 30 = .ok (.iand, 1) := by decide +kernel
theorem dX0_mayGo_31 : decode cX0_mayGo 31 = .ok (.ifCond .ne 5, 3) := by decide +kernel
theorem dX0_mayGo_34 : decode cX0_mayGo 34 = .ok (.iconst 0, 1) := by decide +kernel
theorem dX0_mayGo_35 : decode cX0_mayGo 35 = .ok (.ireturn, 1) := by decide +kernel
theorem dX0_mayGo_36 : decode cX0_mayGo 36 = .ok (.iload_n 2, 1) := by decide +kernel
theorem dX0_mayGo_37 : decode cX0_mayGo 37 = .ok (.aload_n 0, 1) := by decide +kernel
theorem dX0_mayGo_38 : decode cX0_mayGo 38 = .ok (.getfield 21, 3) := by decide +kernel
theorem dX0_mayGo_41 : decode cX0_mayGo 41 = .ok (.aload_n 0, 1) := by decide +kernel
theorem dX0_mayGo_42 : decode cX0_mayGo 42 = .ok (.getfield 21, 3) := by decide +kernel
theorem dX0_mayGo_45 : decode cX0_mayGo 45 = .ok (.getfield 55, 3) := by decide +kernel
theorem dX0_mayGo_48 : decode cX0_mayGo 48 = .ok (.iload_n 1, 1) := by decide +kernel
theorem dX0_mayGo_49 : decode cX0_mayGo 49 = .ok (.iaload, 1) := by decide +kernel
theorem dX0_mayGo_50 : decode cX0_mayGo 50 = .ok (.invokevirtual 58, 3) := by decide +kernel
theorem dX0_mayGo_53 : decode cX0_mayGo 53 = .ok (.iand, 1) := by decide +kernel
theorem dX0_mayGo_54 : decode cX0_mayGo 54 = .ok (.istore_n 3, 1) := by decide +kernel
theorem dX0_mayGo_55 : decode cX0_mayGo 55 = .ok (.iload_n 3, 1) := by decide +kernel
theorem dX0_mayGo_56 : decode cX0_mayGo 56 = .ok (.ifCond .eq 26, 3) := by decide +kernel
theorem dX0_mayGo_59 : decode cX0_mayGo 59 = .ok (.iload_n 3, 1) := by decide +kernel
theorem dX0_mayGo_60 : decode cX0_mayGo 60 = .ok (.iload_n 3, 1) := by decide +kernel
theorem dX0_mayGo_61 : decode cX0_mayGo 61 = .ok (.ineg, 1) := by decide +kernel
theorem dX0_mayGo_62 : decode cX0_mayGo 62 = .ok (.iand, 1) := by decide +kernel
theorem dX0_mayGo_63 : decode cX0_mayGo 63 = .ok (.iload_n 3, 1) := by decide +kernel
theorem dX0_mayGo_64 : decode cX0_mayGo 64 = .ok (.aload_n 0, 1) := by decide +kernel
theorem dX0_mayGo_65 : decode cX0_mayGo 65 = .ok (.getfield 21, 3) := by decide +kernel
theorem dX0_mayGo_68 : decode cX0_mayGo 68 = .ok (.getfield 61, 3) := by decide +kernel
theorem dX0_mayGo_71 : decode cX0_mayGo 71 = .ok (.invokestatic 64, 3) := by decide +kernel
theorem dX0_mayGo_74 : decode cX0_mayGo 74 = .ok (.iload_n 3, 1) := by decide +kernel
theorem dX0_mayGo_75 : decode cX0_mayGo 75 = .ok (.if_icmp .ne 7, 3) := by decide +kernel
theorem dX0_mayGo_78 : decode cX0_mayGo 78 = .ok (.iconst 1, 1) := by decide +kernel
theorem dX0_mayGo_79 : decode cX0_mayGo 79 = .ok (.goto 4, 3) := by decide +kernel
theorem dX0_mayGo_82 : decode cX0_mayGo 82 = .ok (.iconst 0, 1) := by decide +kernel
theorem dX0_mayGo_83 : decode cX0_mayGo 83 = .ok (.ireturn, 1) := by decide +kernel
abbrev kX0_mayGo (g : rk_G) (R : rk_R) (pc : Nat) : rk_K := rk_cut g cX0_mayGo 4 (some .boolean) RX0 2 R pc
abbrev aX0_mayGo (g : rk_G) (R : rk_R) (pc : Nat) (K : rk_K) : Prop := rk_AK g cX0_mayGo 4 (some .boolean) RX0 2 R pc K
abbrev sX0_mayGo (g : rk_G) (vs : List Value) (σ : rk_M) (R : rk_R) : Prop := rk_does g yX0_mayGo cX0_mayGo 4 (some .boolean) 2 vs σ R
abbrev tX0_mayGo (g : rk_G) (R : rk_R) (pc : Nat) (ls st : List Value) (σ : rk_M) : Prop := rk_At g cX0_mayGo 4 (some .boolean) RX0 2 R pc ls st σ
def bX0_mayGo_83 (g : rk_G) (R : rk_R) : rk_K := (rk_zret R)
theorem eX0_mayGo_83 (g : rk_G) (R : rk_R) (ls st : List Value) (σ : rk_M) : bX0_mayGo_83 g R ls st σ = (rk_zret R) ls st σ := rfl
theorem oX0_mayGo_83 {g : rk_G} {R : rk_R} : aX0_mayGo g R 83 (bX0_mayGo_83 g R) := (rk_zret_ok rfl dX0_mayGo_83)
def bX0_mayGo_82 (g : rk_G) (R : rk_R) : rk_K := (rk_ci (0) (bX0_mayGo_83 g R))
theorem eX0_mayGo_82 (g : rk_G) (R : rk_R) (ls st : List Value) (σ : rk_M) : bX0_mayGo_82 g R ls st σ = (rk_ci (0) (bX0_mayGo_83 g R)) ls st σ := rfl
theorem oX0_mayGo_82 {g : rk_G} {R : rk_R} : aX0_mayGo g R 82 (bX0_mayGo_82 g R) := (rk_iconst_ok dX0_mayGo_82 (by decide) oX0_mayGo_83)
def bX0_mayGo_0 (g : rk_G) (R : rk_R) : rk_K := (rk_aload 0 (rk_gI 0 1 (rk_ci (1) (rk_iload 1 (rk_ishl (rk_ci (-1) (rk_ixor (rk_iand (rk_istore 2 (rk_aload 0 (rk_gR 0 0 (rk_gR 4 5 (rk_iload 1 (rk_iald (rk_aload 0 (rk_gR 0 0 (rk_iload 2 (rk_cV g 1 4 yX4_meetingsOf cX4_meetingsOf 4 (some .int) 1 (rk_ci (-1) (rk_ixor (rk_iand (rk_if_ne (rk_iload 2 (rk_aload 0 (rk_gR 0 0 (rk_aload 0 (rk_gR 0 0 (rk_gR 4 9 (rk_iload 1 (rk_iald (rk_cV g 1 4 yX4_ofNet cX4_ofNet 4 (some .int) 0 (rk_iand (rk_istore 3 (rk_iload 3 (rk_if_eq (bX0_mayGo_82 g R) (rk_iload 3 (rk_iload 3 (rk_ineg (rk_iand (rk_iload 3 (rk_aload 0 (rk_gR 0 0 (rk_gR 4 6 (rk_cS g 3 yX6_reached cX6_reached 7 (some .int) 1 (rk_iload 3 (rk_icmp_ne (bX0_mayGo_82 g R) (rk_ci (1) (bX0_mayGo_83 g R)))))))))))))))))))))))))) (rk_ci (0) (rk_zret R))))))))))))))))))))))))
theorem eX0_mayGo_0 (g : rk_G) (R : rk_R) (ls st : List Value) (σ : rk_M) : bX0_mayGo_0 g R ls st σ = (rk_aload 0 (rk_gI 0 1 (rk_ci (1) (rk_iload 1 (rk_ishl (rk_ci (-1) (rk_ixor (rk_iand (rk_istore 2 (rk_aload 0 (rk_gR 0 0 (rk_gR 4 5 (rk_iload 1 (rk_iald (rk_aload 0 (rk_gR 0 0 (rk_iload 2 (rk_cV g 1 4 yX4_meetingsOf cX4_meetingsOf 4 (some .int) 1 (rk_ci (-1) (rk_ixor (rk_iand (rk_if_ne (rk_iload 2 (rk_aload 0 (rk_gR 0 0 (rk_aload 0 (rk_gR 0 0 (rk_gR 4 9 (rk_iload 1 (rk_iald (rk_cV g 1 4 yX4_ofNet cX4_ofNet 4 (some .int) 0 (rk_iand (rk_istore 3 (rk_iload 3 (rk_if_eq (bX0_mayGo_82 g R) (rk_iload 3 (rk_iload 3 (rk_ineg (rk_iand (rk_iload 3 (rk_aload 0 (rk_gR 0 0 (rk_gR 4 6 (rk_cS g 3 yX6_reached cX6_reached 7 (some .int) 1 (rk_iload 3 (rk_icmp_ne (bX0_mayGo_82 g R) (rk_ci (1) (bX0_mayGo_83 g R)))))))))))))))))))))))))) (rk_ci (0) (rk_zret R)))))))))))))))))))))))) ls st σ := rfl
theorem oX0_mayGo_0 {g : rk_G} {R : rk_R} : aX0_mayGo g R 0 (bX0_mayGo_0 g R) := (rk_aload_n_ok dX0_mayGo_0 rfl (rk_gI_ok dX0_mayGo_1 rfl iX0 (by decide) rfl wfX0_9 (rk_iconst_ok dX0_mayGo_4 (by decide) (rk_iload_n_ok dX0_mayGo_5 rfl (rk_ishl_ok dX0_mayGo_6 (rk_iconst_ok dX0_mayGo_7 (by decide) (rk_ixor_ok dX0_mayGo_8 (rk_iand_ok dX0_mayGo_9 (rk_istore_n_ok dX0_mayGo_10 rfl (by decide) (rk_aload_n_ok dX0_mayGo_11 rfl (rk_gR_ok dX0_mayGo_12 rfl iX0 (by decide) rfl wfX0_21 (rk_gR_ok dX0_mayGo_15 rfl iX4 (by decide) rfl wfX0_49 (rk_iload_n_ok dX0_mayGo_18 rfl (rk_iald_ok dX0_mayGo_19 (rk_aload_n_ok dX0_mayGo_20 rfl (rk_gR_ok dX0_mayGo_21 rfl iX0 (by decide) rfl wfX0_21 (rk_iload_n_ok dX0_mayGo_24 rfl (rk_cV_ok dX0_mayGo_25 rfl rfl npX4_meetingsOf wmX0_52 wvX4_meetingsOf weX4_meetingsOf wiX4 wdX4_meetingsOf (by decide) (by decide) (rk_iconst_ok dX0_mayGo_28 (by decide) (rk_ixor_ok dX0_mayGo_29 (rk_iand_ok dX0_mayGo_30 (rk_if_ne_ok (pc' := 36) dX0_mayGo_31 (by decide) (rk_iload_n_ok dX0_mayGo_36 rfl (rk_aload_n_ok dX0_mayGo_37 rfl (rk_gR_ok dX0_mayGo_38 rfl iX0 (by decide) rfl wfX0_21 (rk_aload_n_ok dX0_mayGo_41 rfl (rk_gR_ok dX0_mayGo_42 rfl iX0 (by decide) rfl wfX0_21 (rk_gR_ok dX0_mayGo_45 rfl iX4 (by decide) rfl wfX0_55 (rk_iload_n_ok dX0_mayGo_48 rfl (rk_iald_ok dX0_mayGo_49 (rk_cV_ok dX0_mayGo_50 rfl rfl npX4_ofNet wmX0_58 wvX4_ofNet weX4_ofNet wiX4 wdX4_ofNet (by decide) (by decide) (rk_iand_ok dX0_mayGo_53 (rk_istore_n_ok dX0_mayGo_54 rfl (by decide) (rk_iload_n_ok dX0_mayGo_55 rfl (rk_if_eq_ok (pc' := 82) dX0_mayGo_56 (by decide) oX0_mayGo_82 (rk_iload_n_ok dX0_mayGo_59 rfl (rk_iload_n_ok dX0_mayGo_60 rfl (rk_ineg_ok dX0_mayGo_61 (rk_iand_ok dX0_mayGo_62 (rk_iload_n_ok dX0_mayGo_63 rfl (rk_aload_n_ok dX0_mayGo_64 rfl (rk_gR_ok dX0_mayGo_65 rfl iX0 (by decide) rfl wfX0_21 (rk_gR_ok dX0_mayGo_68 rfl iX4 (by decide) rfl wfX0_61 (rk_cN_ok dX0_mayGo_71 npX6_reached wnX0_64 wtX6_reached wiX6 wdX6_reached (by decide) (by decide) (rk_iload_n_ok dX0_mayGo_74 rfl (rk_icmp_ne_ok (pc' := 82) dX0_mayGo_75 (by decide) oX0_mayGo_82 (rk_iconst_ok dX0_mayGo_78 (by decide) (rk_goto_ok (pc' := 83) dX0_mayGo_79 (by decide) oX0_mayGo_83)))))))))))))))))))))))))) (rk_iconst_ok dX0_mayGo_34 (by decide) (rk_zret_ok rfl dX0_mayGo_35))))))))))))))))))))))))
theorem dX1_findStraightest_0 : decode cX1_findStraightest 0 = .ok (.aload_n 0, 1) := by decide +kernel
theorem dX1_findStraightest_1 : decode cX1_findStraightest 1 = .ok (.iconst (-1), 1) := by decide +kernel
theorem dX1_findStraightest_2 : decode cX1_findStraightest 2 = .ok (.putfield 34, 3) := by decide +kernel
theorem dX1_findStraightest_5 : decode cX1_findStraightest 5 = .ok (.aload_n 0, 1) := by decide +kernel
theorem dX1_findStraightest_6 : decode cX1_findStraightest 6 = .ok (.iconst (-1), 1) := by decide +kernel
theorem dX1_findStraightest_7 : decode cX1_findStraightest 7 = .ok (.putfield 37, 3) := by decide +kernel
theorem dX1_findStraightest_10 : decode cX1_findStraightest 10 = .ok (.iconst 0, 1) := by decide +kernel
theorem dX1_findStraightest_11 : decode cX1_findStraightest 11 = .ok (.istore_n 1, 1) := by decide +kernel
theorem dX1_findStraightest_12 : decode cX1_findStraightest 12 = .ok (.iload_n 1, 1) := by decide +kernel
theorem dX1_findStraightest_13 : decode cX1_findStraightest 13 = .ok (.aload_n 0, 1) := by decide +kernel
theorem dX1_findStraightest_14 : decode cX1_findStraightest 14 = .ok (.getfield 31, 3) := by decide +kernel
theorem dX1_findStraightest_17 : decode cX1_findStraightest 17 = .ok (.if_icmp .ge 52, 3) := by decide +kernel
theorem dX1_findStraightest_20 : decode cX1_findStraightest 20 = .ok (.iload_n 1, 1) := by decide +kernel
theorem dX1_findStraightest_21 : decode cX1_findStraightest 21 = .ok (.iconst 1, 1) := by decide +kernel
theorem dX1_findStraightest_22 : decode cX1_findStraightest 22 = .ok (.iadd, 1) := by decide +kernel
theorem dX1_findStraightest_23 : decode cX1_findStraightest 23 = .ok (.istore_n 2, 1) := by decide +kernel
theorem dX1_findStraightest_24 : decode cX1_findStraightest 24 = .ok (.iload_n 2, 1) := by decide +kernel
theorem dX1_findStraightest_25 : decode cX1_findStraightest 25 = .ok (.aload_n 0, 1) := by decide +kernel
theorem dX1_findStraightest_26 : decode cX1_findStraightest 26 = .ok (.getfield 31, 3) := by decide +kernel
theorem dX1_findStraightest_29 : decode cX1_findStraightest 29 = .ok (.if_icmp .ge 34, 3) := by decide +kernel
theorem dX1_findStraightest_32 : decode cX1_findStraightest 32 = .ok (.aload_n 0, 1) := by decide +kernel
theorem dX1_findStraightest_33 : decode cX1_findStraightest 33 = .ok (.aload_n 0, 1) := by decide +kernel
theorem dX1_findStraightest_34 : decode cX1_findStraightest 34 = .ok (.getfield 22, 3) := by decide +kernel
theorem dX1_findStraightest_37 : decode cX1_findStraightest 37 = .ok (.iload_n 1, 1) := by decide +kernel
theorem dX1_findStraightest_38 : decode cX1_findStraightest 38 = .ok (.iaload, 1) := by decide +kernel
theorem dX1_findStraightest_39 : decode cX1_findStraightest 39 = .ok (.aload_n 0, 1) := by decide +kernel
theorem dX1_findStraightest_40 : decode cX1_findStraightest 40 = .ok (.getfield 22, 3) := by decide +kernel
theorem dX1_findStraightest_43 : decode cX1_findStraightest 43 = .ok (.iload_n 2, 1) := by decide +kernel
theorem dX1_findStraightest_44 : decode cX1_findStraightest 44 = .ok (.iaload, 1) := by decide +kernel
theorem dX1_findStraightest_45 : decode cX1_findStraightest 45 = .ok (.invokevirtual 103, 3) := by decide +kernel
theorem dX1_findStraightest_48 : decode cX1_findStraightest 48 = .ok (.ifCond .eq 9, 3) := by decide +kernel
theorem dX1_findStraightest_51 : decode cX1_findStraightest 51 = .ok (.aload_n 0, 1) := by decide +kernel
theorem dX1_findStraightest_52 : decode cX1_findStraightest 52 = .ok (.iload_n 1, 1) := by decide +kernel
theorem dX1_findStraightest_53 : decode cX1_findStraightest 53 = .ok (.iload_n 2, 1) := by decide +kernel
theorem dX1_findStraightest_54 : decode cX1_findStraightest 54 = .ok (.invokevirtual 106, 3) := by decide +kernel
theorem dX1_findStraightest_57 : decode cX1_findStraightest 57 = .ok (.iinc 2 1, 3) := by decide +kernel
theorem dX1_findStraightest_60 : decode cX1_findStraightest 60 = .ok (.goto (-36), 3) := by decide +kernel
theorem dX1_findStraightest_63 : decode cX1_findStraightest 63 = .ok (.iinc 1 1, 3) := by decide +kernel
theorem dX1_findStraightest_66 : decode cX1_findStraightest 66 = .ok (.goto (-54), 3) := by decide +kernel
theorem dX1_findStraightest_69 : decode cX1_findStraightest 69 = .ok (.return_, 1) := by decide +kernel
abbrev kX1_findStraightest (g : rk_G) (R : rk_R) (pc : Nat) : rk_K := rk_cut g cX1_findStraightest 3 none RX1 2 R pc
abbrev aX1_findStraightest (g : rk_G) (R : rk_R) (pc : Nat) (K : rk_K) : Prop := rk_AK g cX1_findStraightest 3 none RX1 2 R pc K
abbrev sX1_findStraightest (g : rk_G) (vs : List Value) (σ : rk_M) (R : rk_R) : Prop := rk_does g yX1_findStraightest cX1_findStraightest 3 none 2 vs σ R
abbrev tX1_findStraightest (g : rk_G) (R : rk_R) (pc : Nat) (ls st : List Value) (σ : rk_M) : Prop := rk_At g cX1_findStraightest 3 none RX1 2 R pc ls st σ
def bX1_findStraightest_57 (g : rk_G) (R : rk_R) : rk_K := (rk_iinc 2 (1) (kX1_findStraightest g R 24))
theorem eX1_findStraightest_57 (g : rk_G) (R : rk_R) (ls st : List Value) (σ : rk_M) : bX1_findStraightest_57 g R ls st σ = (rk_iinc 2 (1) (kX1_findStraightest g R 24)) ls st σ := rfl
theorem oX1_findStraightest_57 {g : rk_G} {R : rk_R} : aX1_findStraightest g R 57 (bX1_findStraightest_57 g R) := (rk_iinc_ok dX1_findStraightest_57 (by decide) (by decide) (rk_goto_ok (pc' := 24) dX1_findStraightest_60 (by decide) rk_cut_ok))
def bX1_findStraightest_24 (g : rk_G) (R : rk_R) : rk_K := (rk_iload 2 (rk_aload 0 (rk_gI 1 7 (rk_icmp_ge (rk_iinc 1 (1) (kX1_findStraightest g R 12)) (rk_aload 0 (rk_aload 0 (rk_gR 1 4 (rk_iload 1 (rk_iald (rk_aload 0 (rk_gR 1 4 (rk_iload 2 (rk_iald (rk_cV g 2 1 yX1_mayJoin cX1_mayJoin 5 (some .boolean) 0 (rk_if_eq (bX1_findStraightest_57 g R) (rk_aload 0 (rk_iload 1 (rk_iload 2 (rk_cV g 2 1 yX1_consider cX1_consider 9 none 1 (bX1_findStraightest_57 g R))))))))))))))))))))
theorem eX1_findStraightest_24 (g : rk_G) (R : rk_R) (ls st : List Value) (σ : rk_M) : bX1_findStraightest_24 g R ls st σ = (rk_iload 2 (rk_aload 0 (rk_gI 1 7 (rk_icmp_ge (rk_iinc 1 (1) (kX1_findStraightest g R 12)) (rk_aload 0 (rk_aload 0 (rk_gR 1 4 (rk_iload 1 (rk_iald (rk_aload 0 (rk_gR 1 4 (rk_iload 2 (rk_iald (rk_cV g 2 1 yX1_mayJoin cX1_mayJoin 5 (some .boolean) 0 (rk_if_eq (bX1_findStraightest_57 g R) (rk_aload 0 (rk_iload 1 (rk_iload 2 (rk_cV g 2 1 yX1_consider cX1_consider 9 none 1 (bX1_findStraightest_57 g R)))))))))))))))))))) ls st σ := rfl
theorem oX1_findStraightest_24 {g : rk_G} {R : rk_R} : aX1_findStraightest g R 24 (bX1_findStraightest_24 g R) := (rk_iload_n_ok dX1_findStraightest_24 rfl (rk_aload_n_ok dX1_findStraightest_25 rfl (rk_gI_ok dX1_findStraightest_26 rfl iX1 (by decide) rfl wfX1_31 (rk_icmp_ge_ok (pc' := 63) dX1_findStraightest_29 (by decide) (rk_iinc_ok dX1_findStraightest_63 (by decide) (by decide) (rk_goto_ok (pc' := 12) dX1_findStraightest_66 (by decide) rk_cut_ok)) (rk_aload_n_ok dX1_findStraightest_32 rfl (rk_aload_n_ok dX1_findStraightest_33 rfl (rk_gR_ok dX1_findStraightest_34 rfl iX1 (by decide) rfl wfX1_22 (rk_iload_n_ok dX1_findStraightest_37 rfl (rk_iald_ok dX1_findStraightest_38 (rk_aload_n_ok dX1_findStraightest_39 rfl (rk_gR_ok dX1_findStraightest_40 rfl iX1 (by decide) rfl wfX1_22 (rk_iload_n_ok dX1_findStraightest_43 rfl (rk_iald_ok dX1_findStraightest_44 (rk_cV_ok dX1_findStraightest_45 rfl rfl npX1_mayJoin wmX1_103 wvX1_mayJoin weX1_mayJoin wiX1 wdX1_mayJoin (by decide) (by decide) (rk_if_eq_ok (pc' := 57) dX1_findStraightest_48 (by decide) oX1_findStraightest_57 (rk_aload_n_ok dX1_findStraightest_51 rfl (rk_iload_n_ok dX1_findStraightest_52 rfl (rk_iload_n_ok dX1_findStraightest_53 rfl (rk_cV_ok dX1_findStraightest_54 rfl rfl npX1_consider wmX1_106 wvX1_consider weX1_consider wiX1 wdX1_consider (by decide) (by decide) oX1_findStraightest_57)))))))))))))))))))
def bX1_findStraightest_12 (g : rk_G) (R : rk_R) : rk_K := (rk_iload 1 (rk_aload 0 (rk_gI 1 7 (rk_icmp_ge (rk_vret R) (rk_iload 1 (rk_ci (1) (rk_iadd (rk_istore 2 (kX1_findStraightest g R 24)))))))))
theorem eX1_findStraightest_12 (g : rk_G) (R : rk_R) (ls st : List Value) (σ : rk_M) : bX1_findStraightest_12 g R ls st σ = (rk_iload 1 (rk_aload 0 (rk_gI 1 7 (rk_icmp_ge (rk_vret R) (rk_iload 1 (rk_ci (1) (rk_iadd (rk_istore 2 (kX1_findStraightest g R 24))))))))) ls st σ := rfl
theorem oX1_findStraightest_12 {g : rk_G} {R : rk_R} : aX1_findStraightest g R 12 (bX1_findStraightest_12 g R) := (rk_iload_n_ok dX1_findStraightest_12 rfl (rk_aload_n_ok dX1_findStraightest_13 rfl (rk_gI_ok dX1_findStraightest_14 rfl iX1 (by decide) rfl wfX1_31 (rk_icmp_ge_ok (pc' := 69) dX1_findStraightest_17 (by decide) (rk_vret_ok rfl dX1_findStraightest_69) (rk_iload_n_ok dX1_findStraightest_20 rfl (rk_iconst_ok dX1_findStraightest_21 (by decide) (rk_iadd_ok dX1_findStraightest_22 (rk_istore_n_ok dX1_findStraightest_23 rfl (by decide) rk_cut_ok))))))))
def bX1_findStraightest_0 (g : rk_G) (R : rk_R) : rk_K := (rk_aload 0 (rk_ci (-1) (rk_pI 1 8 (rk_aload 0 (rk_ci (-1) (rk_pI 1 9 (rk_ci (0) (rk_istore 1 (kX1_findStraightest g R 12)))))))))
theorem eX1_findStraightest_0 (g : rk_G) (R : rk_R) (ls st : List Value) (σ : rk_M) : bX1_findStraightest_0 g R ls st σ = (rk_aload 0 (rk_ci (-1) (rk_pI 1 8 (rk_aload 0 (rk_ci (-1) (rk_pI 1 9 (rk_ci (0) (rk_istore 1 (kX1_findStraightest g R 12))))))))) ls st σ := rfl
theorem oX1_findStraightest_0 {g : rk_G} {R : rk_R} : aX1_findStraightest g R 0 (bX1_findStraightest_0 g R) := (rk_aload_n_ok dX1_findStraightest_0 rfl (rk_iconst_ok dX1_findStraightest_1 (by decide) (rk_pI_ok dX1_findStraightest_2 rfl iX1 tyX1_ok nmX1 (by decide) rfl rfl (by decide +kernel) wfX1_34 (rk_aload_n_ok dX1_findStraightest_5 rfl (rk_iconst_ok dX1_findStraightest_6 (by decide) (rk_pI_ok dX1_findStraightest_7 rfl iX1 tyX1_ok nmX1 (by decide) rfl rfl (by decide +kernel) wfX1_37 (rk_iconst_ok dX1_findStraightest_10 (by decide) (rk_istore_n_ok dX1_findStraightest_11 rfl (by decide) rk_cut_ok))))))))
theorem dX2_addRoad_0 : decode cX2_addRoad 0 = .ok (.aload_n 0, 1) := by decide +kernel
theorem dX2_addRoad_1 : decode cX2_addRoad 1 = .ok (.iload_n 1, 1) := by decide +kernel
theorem dX2_addRoad_2 : decode cX2_addRoad 2 = .ok (.invokevirtual 52, 3) := by decide +kernel
theorem dX2_addRoad_5 : decode cX2_addRoad 5 = .ok (.ifCond .eq 31, 3) := by decide +kernel
theorem dX2_addRoad_8 : decode cX2_addRoad 8 = .ok (.aload_n 0, 1) := by decide +kernel
theorem dX2_addRoad_9 : decode cX2_addRoad 9 = .ok (.iload_n 2, 1) := by decide +kernel
theorem dX2_addRoad_10 : decode cX2_addRoad 10 = .ok (.invokevirtual 52, 3) := by decide +kernel
theorem dX2_addRoad_13 : decode cX2_addRoad 13 = .ok (.ifCond .eq 23, 3) := by decide +kernel
theorem dX2_addRoad_16 : decode cX2_addRoad 16 = .ok (.iload_n 1, 1) := by decide +kernel
theorem dX2_addRoad_17 : decode cX2_addRoad 17 = .ok (.iload_n 2, 1) := by decide +kernel
theorem dX2_addRoad_18 : decode cX2_addRoad 18 = .ok (.if_icmp .eq 18, 3) := by decide +kernel
theorem dX2_addRoad_21 : decode cX2_addRoad 21 = .ok (.iload_n 3, 1) := by decide +kernel
theorem dX2_addRoad_22 : decode cX2_addRoad 22 = .ok (.invokestatic 55, 3) := by decide +kernel
theorem dX2_addRoad_25 : decode cX2_addRoad 25 = .ok (.ifCond .eq 11, 3) := by decide +kernel
theorem dX2_addRoad_28 : decode cX2_addRoad 28 = .ok (.iload 4, 2) := by decide +kernel
theorem dX2_addRoad_30 : decode cX2_addRoad 30 = .ok (.invokestatic 58, 3) := by decide +kernel
theorem dX2_addRoad_33 : decode cX2_addRoad 33 = .ok (.ifCond .ne 6, 3) := by decide +kernel
theorem dX2_addRoad_36 : decode cX2_addRoad 36 = .ok (.bipush (-2), 2) := by decide +kernel
theorem dX2_addRoad_38 : decode cX2_addRoad 38 = .ok (.ireturn, 1) := by decide +kernel
theorem dX2_addRoad_39 : decode cX2_addRoad 39 = .ok (.aload_n 0, 1) := by decide +kernel
theorem dX2_addRoad_40 : decode cX2_addRoad 40 = .ok (.iload_n 1, 1) := by decide +kernel
theorem dX2_addRoad_41 : decode cX2_addRoad 41 = .ok (.iload_n 2, 1) := by decide +kernel
theorem dX2_addRoad_42 : decode cX2_addRoad 42 = .ok (.invokevirtual 61, 3) := by decide +kernel
theorem dX2_addRoad_45 : decode cX2_addRoad 45 = .ok (.ifCond .eq 6, 3) := by decide +kernel
theorem dX2_addRoad_48 : decode cX2_addRoad 48 = .ok (.bipush (-3), 2) := by decide +kernel
theorem dX2_addRoad_50 : decode cX2_addRoad 50 = .ok (.ireturn, 1) := by decide +kernel
theorem dX2_addRoad_51 : decode cX2_addRoad 51 = .ok (.aload_n 0, 1) := by decide +kernel
theorem dX2_addRoad_52 : decode cX2_addRoad 52 = .ok (.getfield 37, 3) := by decide +kernel
theorem dX2_addRoad_55 : decode cX2_addRoad 55 = .ok (.bipush 24, 2) := by decide +kernel
theorem dX2_addRoad_57 : decode cX2_addRoad 57 = .ok (.if_icmp .lt 6, 3) := by decide +kernel
theorem dX2_addRoad_60 : decode cX2_addRoad 60 = .ok (.bipush (-4), 2) := by decide +kernel
theorem dX2_addRoad_62 : decode cX2_addRoad 62 = .ok (.ireturn, 1) := by decide +kernel
theorem dX2_addRoad_63 : decode cX2_addRoad 63 = .ok (.aload_n 0, 1) := by decide +kernel
theorem dX2_addRoad_64 : decode cX2_addRoad 64 = .ok (.getfield 40, 3) := by decide +kernel
theorem dX2_addRoad_67 : decode cX2_addRoad 67 = .ok (.aload_n 0, 1) := by decide +kernel
theorem dX2_addRoad_68 : decode cX2_addRoad 68 = .ok (.getfield 33, 3) := by decide +kernel
theorem dX2_addRoad_71 : decode cX2_addRoad 71 = .ok (.aload_n 0, 1) := by decide +kernel
theorem dX2_addRoad_72 : decode cX2_addRoad 72 = .ok (.getfield 37, 3) := by decide +kernel
theorem dX2_addRoad_75 : decode cX2_addRoad 75 = .ok (.iadd, 1) := by decide +kernel
theorem dX2_addRoad_76 : decode cX2_addRoad 76 = .ok (.iconst 1, 1) := by decide +kernel
theorem dX2_addRoad_77 : decode cX2_addRoad 77 = .ok (.bastore, 1) := by decide +kernel
theorem dX2_addRoad_78 : decode cX2_addRoad 78 = .ok (.aload_n 0, 1) := by decide +kernel
theorem dX2_addRoad_79 : decode cX2_addRoad 79 = .ok (.getfield 18, 3) := by decide +kernel
theorem dX2_addRoad_82 : decode cX2_addRoad 82 = .ok (.aload_n 0, 1) := by decide +kernel
theorem dX2_addRoad_83 : decode cX2_addRoad 83 = .ok (.getfield 37, 3) := by decide +kernel
theorem dX2_addRoad_86 : decode cX2_addRoad 86 = .ok (.iload_n 1, 1) := by decide +kernel
theorem dX2_addRoad_87 : decode cX2_addRoad 87 = .ok (.iastore, 1) := by decide +kernel
theorem dX2_addRoad_88 : decode cX2_addRoad 88 = .ok (.aload_n 0, 1) := by decide +kernel
theorem dX2_addRoad_89 : decode cX2_addRoad 89 = .ok (.getfield 21, 3) := by decide +kernel
theorem dX2_addRoad_92 : decode cX2_addRoad 92 = .ok (.aload_n 0, 1) := by decide +kernel
theorem dX2_addRoad_93 : decode cX2_addRoad 93 = .ok (.getfield 37, 3) := by decide +kernel
theorem dX2_addRoad_96 : decode cX2_addRoad 96 = .ok (.iload_n 2, 1) := by decide +kernel
theorem dX2_addRoad_97 : decode cX2_addRoad 97 = .ok (.iastore, 1) := by decide +kernel
theorem dX2_addRoad_98 : decode cX2_addRoad 98 = .ok (.aload_n 0, 1) := by decide +kernel
theorem dX2_addRoad_99 : decode cX2_addRoad 99 = .ok (.getfield 24, 3) := by decide +kernel
theorem dX2_addRoad_102 : decode cX2_addRoad 102 = .ok (.aload_n 0, 1) := by decide +kernel
theorem dX2_addRoad_103 : decode cX2_addRoad 103 = .ok (.getfield 37, 3) := by decide +kernel
theorem dX2_addRoad_106 : decode cX2_addRoad 106 = .ok (.iload_n 3, 1) := by decide +kernel
theorem dX2_addRoad_107 : decode cX2_addRoad 107 = .ok (.iastore, 1) := by decide +kernel
theorem dX2_addRoad_108 : decode cX2_addRoad 108 = .ok (.aload_n 0, 1) := by decide +kernel
theorem dX2_addRoad_109 : decode cX2_addRoad 109 = .ok (.getfield 27, 3) := by decide +kernel
theorem dX2_addRoad_112 : decode cX2_addRoad 112 = .ok (.aload_n 0, 1) := by decide +kernel
theorem dX2_addRoad_113 : decode cX2_addRoad 113 = .ok (.getfield 37, 3) := by decide +kernel
theorem dX2_addRoad_116 : decode cX2_addRoad 116 = .ok (.iload 4, 2) := by decide +kernel
theorem dX2_addRoad_118 : decode cX2_addRoad 118 = .ok (.iastore, 1) := by decide +kernel
theorem dX2_addRoad_119 : decode cX2_addRoad 119 = .ok (.aload_n 0, 1) := by decide +kernel
theorem dX2_addRoad_120 : decode cX2_addRoad 120 = .ok (.getfield 30, 3) := by decide +kernel
theorem dX2_addRoad_123 : decode cX2_addRoad 123 = .ok (.aload_n 0, 1) := by decide +kernel
theorem dX2_addRoad_124 : decode cX2_addRoad 124 = .ok (.getfield 37, 3) := by decide +kernel
theorem dX2_addRoad_127 : decode cX2_addRoad 127 = .ok (.aload_n 0, 1) := by decide +kernel
theorem dX2_addRoad_128 : decode cX2_addRoad 128 = .ok (.getfield 9, 3) := by decide +kernel
theorem dX2_addRoad_131 : decode cX2_addRoad 131 = .ok (.iload_n 1, 1) := by decide +kernel
theorem dX2_addRoad_132 : decode cX2_addRoad 132 = .ok (.iaload, 1) := by decide +kernel
theorem dX2_addRoad_133 : decode cX2_addRoad 133 = .ok (.aload_n 0, 1) := by decide +kernel
theorem dX2_addRoad_134 : decode cX2_addRoad 134 = .ok (.getfield 9, 3) := by decide +kernel
theorem dX2_addRoad_137 : decode cX2_addRoad 137 = .ok (.iload_n 2, 1) := by decide +kernel
theorem dX2_addRoad_138 : decode cX2_addRoad 138 = .ok (.iaload, 1) := by decide +kernel
theorem dX2_addRoad_139 : decode cX2_addRoad 139 = .ok (.isub, 1) := by decide +kernel
theorem dX2_addRoad_140 : decode cX2_addRoad 140 = .ok (.invokestatic 64, 3) := by decide +kernel
theorem dX2_addRoad_143 : decode cX2_addRoad 143 = .ok (.aload_n 0, 1) := by decide +kernel
theorem dX2_addRoad_144 : decode cX2_addRoad 144 = .ok (.getfield 15, 3) := by decide +kernel
theorem dX2_addRoad_147 : decode cX2_addRoad 147 = .ok (.iload_n 1, 1) := by decide +kernel
theorem dX2_addRoad_148 : decode cX2_addRoad 148 = .ok (.iaload, 1) := by decide +kernel
theorem dX2_addRoad_149 : decode cX2_addRoad 149 = .ok (.aload_n 0, 1) := by decide +kernel
theorem dX2_addRoad_150 : decode cX2_addRoad 150 = .ok (.getfield 15, 3) := by decide +kernel
theorem dX2_addRoad_153 : decode cX2_addRoad 153 = .ok (.iload_n 2, 1) := by decide +kernel
theorem dX2_addRoad_154 : decode cX2_addRoad 154 = .ok (.iaload, 1) := by decide +kernel
theorem dX2_addRoad_155 : decode cX2_addRoad 155 = .ok (.isub, 1) := by decide +kernel
theorem dX2_addRoad_156 : decode cX2_addRoad 156 = .ok (.invokestatic 64, 3) := by decide +kernel
theorem dX2_addRoad_159 : decode cX2_addRoad 159 = .ok (.iadd, 1) := by decide +kernel
theorem dX2_addRoad_160 : decode cX2_addRoad 160 = .ok (.iastore, 1) := by decide +kernel
theorem dX2_addRoad_161 : decode cX2_addRoad 161 = .ok (.aload_n 0, 1) := by decide +kernel
theorem dX2_addRoad_162 : decode cX2_addRoad 162 = .ok (.dup, 1) := by decide +kernel
theorem dX2_addRoad_163 : decode cX2_addRoad 163 = .ok (.getfield 37, 3) := by decide +kernel
theorem dX2_addRoad_166 : decode cX2_addRoad 166 = .ok (.iconst 1, 1) := by decide +kernel
theorem dX2_addRoad_167 : decode cX2_addRoad 167 = .ok (.iadd, 1) := by decide +kernel
theorem dX2_addRoad_168 : decode cX2_addRoad 168 = .ok (.putfield 37, 3) := by decide +kernel
theorem dX2_addRoad_171 : decode cX2_addRoad 171 = .ok (.aload_n 0, 1) := by decide +kernel
theorem dX2_addRoad_172 : decode cX2_addRoad 172 = .ok (.getfield 37, 3) := by decide +kernel
theorem dX2_addRoad_175 : decode cX2_addRoad 175 = .ok (.ireturn, 1) := by decide +kernel
abbrev kX2_addRoad (g : rk_G) (R : rk_R) (pc : Nat) : rk_K := rk_cut g cX2_addRoad 5 (some .int) RX2 2 R pc
abbrev aX2_addRoad (g : rk_G) (R : rk_R) (pc : Nat) (K : rk_K) : Prop := rk_AK g cX2_addRoad 5 (some .int) RX2 2 R pc K
abbrev sX2_addRoad (g : rk_G) (vs : List Value) (σ : rk_M) (R : rk_R) : Prop := rk_does g yX2_addRoad cX2_addRoad 5 (some .int) 2 vs σ R
abbrev tX2_addRoad (g : rk_G) (R : rk_R) (pc : Nat) (ls st : List Value) (σ : rk_M) : Prop := rk_At g cX2_addRoad 5 (some .int) RX2 2 R pc ls st σ
def bX2_addRoad_36 (g : rk_G) (R : rk_R) : rk_K := (rk_ci (-2) (rk_iret R))
theorem eX2_addRoad_36 (g : rk_G) (R : rk_R) (ls st : List Value) (σ : rk_M) : bX2_addRoad_36 g R ls st σ = (rk_ci (-2) (rk_iret R)) ls st σ := rfl
theorem oX2_addRoad_36 {g : rk_G} {R : rk_R} : aX2_addRoad g R 36 (bX2_addRoad_36 g R) := (rk_bipush_ok dX2_addRoad_36 (by decide) (rk_iret_ok rfl dX2_addRoad_38))
def bX2_addRoad_0 (g : rk_G) (R : rk_R) : rk_K := (rk_aload 0 (rk_iload 1 (rk_cV g 1 2 yX2_hasMeeting cX2_hasMeeting 2 (some .boolean) 0 (rk_if_eq (bX2_addRoad_36 g R) (rk_aload 0 (rk_iload 2 (rk_cV g 1 2 yX2_hasMeeting cX2_hasMeeting 2 (some .boolean) 0 (rk_if_eq (bX2_addRoad_36 g R) (rk_iload 1 (rk_iload 2 (rk_icmp_eq (bX2_addRoad_36 g R) (rk_iload 3 (rk_cS g 1 yX6_isKind cX6_isKind 1 (some .boolean) 0 (rk_if_eq (bX2_addRoad_36 g R) (rk_iload 4 (rk_cS g 1 yX6_isUse cX6_isUse 1 (some .boolean) 0 (rk_if_ne (rk_aload 0 (rk_iload 1 (rk_iload 2 (rk_cV g 2 2 yX2_isLinked cX2_isLinked 4 (some .boolean) 1 (rk_if_eq (rk_aload 0 (rk_gI 2 8 (rk_ci (24) (rk_icmp_lt (rk_aload 0 (rk_gR 2 9 (rk_aload 0 (rk_gI 2 7 (rk_aload 0 (rk_gI 2 8 (rk_iadd (rk_ci (1) (rk_zast (rk_aload 0 (rk_gR 2 2 (rk_aload 0 (rk_gI 2 8 (rk_iload 1 (rk_iast (rk_aload 0 (rk_gR 2 3 (rk_aload 0 (rk_gI 2 8 (rk_iload 2 (rk_iast (rk_aload 0 (rk_gR 2 4 (rk_aload 0 (rk_gI 2 8 (rk_iload 3 (rk_iast (rk_aload 0 (rk_gR 2 5 (rk_aload 0 (rk_gI 2 8 (rk_iload 4 (rk_iast (rk_aload 0 (rk_gR 2 6 (rk_aload 0 (rk_gI 2 8 (rk_aload 0 (rk_gR 2 0 (rk_iload 1 (rk_iald (rk_aload 0 (rk_gR 2 0 (rk_iload 2 (rk_iald (rk_isub (rk_mabs (rk_aload 0 (rk_gR 2 1 (rk_iload 1 (rk_iald (rk_aload 0 (rk_gR 2 1 (rk_iload 2 (rk_iald (rk_isub (rk_mabs (rk_iadd (rk_iast (rk_aload 0 (rk_dup (rk_gI 2 8 (rk_ci (1) (rk_iadd (rk_pI 2 8 (rk_aload 0 (rk_gI 2 8 (rk_iret R)))))))))))))))))))))))))))))))))))))))))))))))))))))))))))))))))))) (rk_ci (-4) (rk_iret R)))))) (rk_ci (-3) (rk_iret R))))))) (bX2_addRoad_36 g R))))))))))))))))))
theorem eX2_addRoad_0 (g : rk_G) (R : rk_R) (ls st : List Value) (σ : rk_M) : bX2_addRoad_0 g R ls st σ = (rk_aload 0 (rk_iload 1 (rk_cV g 1 2 yX2_hasMeeting cX2_hasMeeting 2 (some .boolean) 0 (rk_if_eq (bX2_addRoad_36 g R) (rk_aload 0 (rk_iload 2 (rk_cV g 1 2 yX2_hasMeeting cX2_hasMeeting 2 (some .boolean) 0 (rk_if_eq (bX2_addRoad_36 g R) (rk_iload 1 (rk_iload 2 (rk_icmp_eq (bX2_addRoad_36 g R) (rk_iload 3 (rk_cS g 1 yX6_isKind cX6_isKind 1 (some .boolean) 0 (rk_if_eq (bX2_addRoad_36 g R) (rk_iload 4 (rk_cS g 1 yX6_isUse cX6_isUse 1 (some .boolean) 0 (rk_if_ne (rk_aload 0 (rk_iload 1 (rk_iload 2 (rk_cV g 2 2 yX2_isLinked cX2_isLinked 4 (some .boolean) 1 (rk_if_eq (rk_aload 0 (rk_gI 2 8 (rk_ci (24) (rk_icmp_lt (rk_aload 0 (rk_gR 2 9 (rk_aload 0 (rk_gI 2 7 (rk_aload 0 (rk_gI 2 8 (rk_iadd (rk_ci (1) (rk_zast (rk_aload 0 (rk_gR 2 2 (rk_aload 0 (rk_gI 2 8 (rk_iload 1 (rk_iast (rk_aload 0 (rk_gR 2 3 (rk_aload 0 (rk_gI 2 8 (rk_iload 2 (rk_iast (rk_aload 0 (rk_gR 2 4 (rk_aload 0 (rk_gI 2 8 (rk_iload 3 (rk_iast (rk_aload 0 (rk_gR 2 5 (rk_aload 0 (rk_gI 2 8 (rk_iload 4 (rk_iast (rk_aload 0 (rk_gR 2 6 (rk_aload 0 (rk_gI 2 8 (rk_aload 0 (rk_gR 2 0 (rk_iload 1 (rk_iald (rk_aload 0 (rk_gR 2 0 (rk_iload 2 (rk_iald (rk_isub (rk_mabs (rk_aload 0 (rk_gR 2 1 (rk_iload 1 (rk_iald (rk_aload 0 (rk_gR 2 1 (rk_iload 2 (rk_iald (rk_isub (rk_mabs (rk_iadd (rk_iast (rk_aload 0 (rk_dup (rk_gI 2 8 (rk_ci (1) (rk_iadd (rk_pI 2 8 (rk_aload 0 (rk_gI 2 8 (rk_iret R)))))))))))))))))))))))))))))))))))))))))))))))))))))))))))))))))))) (rk_ci (-4) (rk_iret R)))))) (rk_ci (-3) (rk_iret R))))))) (bX2_addRoad_36 g R)))))))))))))))))) ls st σ := rfl
theorem oX2_addRoad_0 {g : rk_G} {R : rk_R} : aX2_addRoad g R 0 (bX2_addRoad_0 g R) := (rk_aload_n_ok dX2_addRoad_0 rfl (rk_iload_n_ok dX2_addRoad_1 rfl (rk_cV_ok dX2_addRoad_2 rfl rfl npX2_hasMeeting wmX2_52 wvX2_hasMeeting weX2_hasMeeting wiX2 wdX2_hasMeeting (by decide) (by decide) (rk_if_eq_ok (pc' := 36) dX2_addRoad_5 (by decide) oX2_addRoad_36 (rk_aload_n_ok dX2_addRoad_8 rfl (rk_iload_n_ok dX2_addRoad_9 rfl (rk_cV_ok dX2_addRoad_10 rfl rfl npX2_hasMeeting wmX2_52 wvX2_hasMeeting weX2_hasMeeting wiX2 wdX2_hasMeeting (by decide) (by decide) (rk_if_eq_ok (pc' := 36) dX2_addRoad_13 (by decide) oX2_addRoad_36 (rk_iload_n_ok dX2_addRoad_16 rfl (rk_iload_n_ok dX2_addRoad_17 rfl (rk_icmp_eq_ok (pc' := 36) dX2_addRoad_18 (by decide) oX2_addRoad_36 (rk_iload_n_ok dX2_addRoad_21 rfl (rk_cN_ok dX2_addRoad_22 npX6_isKind wnX2_55 wtX6_isKind wiX6 wdX6_isKind (by decide) (by decide) (rk_if_eq_ok (pc' := 36) dX2_addRoad_25 (by decide) oX2_addRoad_36 (rk_iload_ok dX2_addRoad_28 (rk_cN_ok dX2_addRoad_30 npX6_isUse wnX2_58 wtX6_isUse wiX6 wdX6_isUse (by decide) (by decide) (rk_if_ne_ok (pc' := 39) dX2_addRoad_33 (by decide) (rk_aload_n_ok dX2_addRoad_39 rfl (rk_iload_n_ok dX2_addRoad_40 rfl (rk_iload_n_ok dX2_addRoad_41 rfl (rk_cV_ok dX2_addRoad_42 rfl rfl npX2_isLinked wmX2_61 wvX2_isLinked weX2_isLinked wiX2 wdX2_isLinked (by decide) (by decide) (rk_if_eq_ok (pc' := 51) dX2_addRoad_45 (by decide) (rk_aload_n_ok dX2_addRoad_51 rfl (rk_gI_ok dX2_addRoad_52 rfl iX2 (by decide) rfl wfX2_37 (rk_bipush_ok dX2_addRoad_55 (by decide) (rk_icmp_lt_ok (pc' := 63) dX2_addRoad_57 (by decide) (rk_aload_n_ok dX2_addRoad_63 rfl (rk_gR_ok dX2_addRoad_64 rfl iX2 (by decide) rfl wfX2_40 (rk_aload_n_ok dX2_addRoad_67 rfl (rk_gI_ok dX2_addRoad_68 rfl iX2 (by decide) rfl wfX2_33 (rk_aload_n_ok dX2_addRoad_71 rfl (rk_gI_ok dX2_addRoad_72 rfl iX2 (by decide) rfl wfX2_37 (rk_iadd_ok dX2_addRoad_75 (rk_iconst_ok dX2_addRoad_76 (by decide) (rk_zast_ok dX2_addRoad_77 (rk_aload_n_ok dX2_addRoad_78 rfl (rk_gR_ok dX2_addRoad_79 rfl iX2 (by decide) rfl wfX2_18 (rk_aload_n_ok dX2_addRoad_82 rfl (rk_gI_ok dX2_addRoad_83 rfl iX2 (by decide) rfl wfX2_37 (rk_iload_n_ok dX2_addRoad_86 rfl (rk_iast_ok dX2_addRoad_87 (rk_aload_n_ok dX2_addRoad_88 rfl (rk_gR_ok dX2_addRoad_89 rfl iX2 (by decide) rfl wfX2_21 (rk_aload_n_ok dX2_addRoad_92 rfl (rk_gI_ok dX2_addRoad_93 rfl iX2 (by decide) rfl wfX2_37 (rk_iload_n_ok dX2_addRoad_96 rfl (rk_iast_ok dX2_addRoad_97 (rk_aload_n_ok dX2_addRoad_98 rfl (rk_gR_ok dX2_addRoad_99 rfl iX2 (by decide) rfl wfX2_24 (rk_aload_n_ok dX2_addRoad_102 rfl (rk_gI_ok dX2_addRoad_103 rfl iX2 (by decide) rfl wfX2_37 (rk_iload_n_ok dX2_addRoad_106 rfl (rk_iast_ok dX2_addRoad_107 (rk_aload_n_ok dX2_addRoad_108 rfl (rk_gR_ok dX2_addRoad_109 rfl iX2 (by decide) rfl wfX2_27 (rk_aload_n_ok dX2_addRoad_112 rfl (rk_gI_ok dX2_addRoad_113 rfl iX2 (by decide) rfl wfX2_37 (rk_iload_ok dX2_addRoad_116 (rk_iast_ok dX2_addRoad_118 (rk_aload_n_ok dX2_addRoad_119 rfl (rk_gR_ok dX2_addRoad_120 rfl iX2 (by decide) rfl wfX2_30 (rk_aload_n_ok dX2_addRoad_123 rfl (rk_gI_ok dX2_addRoad_124 rfl iX2 (by decide) rfl wfX2_37 (rk_aload_n_ok dX2_addRoad_127 rfl (rk_gR_ok dX2_addRoad_128 rfl iX2 (by decide) rfl wfX2_9 (rk_iload_n_ok dX2_addRoad_131 rfl (rk_iald_ok dX2_addRoad_132 (rk_aload_n_ok dX2_addRoad_133 rfl (rk_gR_ok dX2_addRoad_134 rfl iX2 (by decide) rfl wfX2_9 (rk_iload_n_ok dX2_addRoad_137 rfl (rk_iald_ok dX2_addRoad_138 (rk_isub_ok dX2_addRoad_139 (rk_mabs_ok dX2_addRoad_140 wmX2_64 ws_mabs wiMath wd_mabs (by decide) (rk_aload_n_ok dX2_addRoad_143 rfl (rk_gR_ok dX2_addRoad_144 rfl iX2 (by decide) rfl wfX2_15 (rk_iload_n_ok dX2_addRoad_147 rfl (rk_iald_ok dX2_addRoad_148 (rk_aload_n_ok dX2_addRoad_149 rfl (rk_gR_ok dX2_addRoad_150 rfl iX2 (by decide) rfl wfX2_15 (rk_iload_n_ok dX2_addRoad_153 rfl (rk_iald_ok dX2_addRoad_154 (rk_isub_ok dX2_addRoad_155 (rk_mabs_ok dX2_addRoad_156 wmX2_64 ws_mabs wiMath wd_mabs (by decide) (rk_iadd_ok dX2_addRoad_159 (rk_iast_ok dX2_addRoad_160 (rk_aload_n_ok dX2_addRoad_161 rfl (rk_dup_ok dX2_addRoad_162 (rk_gI_ok dX2_addRoad_163 rfl iX2 (by decide) rfl wfX2_37 (rk_iconst_ok dX2_addRoad_166 (by decide) (rk_iadd_ok dX2_addRoad_167 (rk_pI_ok dX2_addRoad_168 rfl iX2 tyX2_ok nmX2 (by decide) rfl rfl (by decide +kernel) wfX2_37 (rk_aload_n_ok dX2_addRoad_171 rfl (rk_gI_ok dX2_addRoad_172 rfl iX2 (by decide) rfl wfX2_37 (rk_iret_ok rfl dX2_addRoad_175)))))))))))))))))))))))))))))))))))))))))))))))))))))))))))))))))))) (rk_bipush_ok dX2_addRoad_60 (by decide) (rk_iret_ok rfl dX2_addRoad_62)))))) (rk_bipush_ok dX2_addRoad_48 (by decide) (rk_iret_ok rfl dX2_addRoad_50))))))) oX2_addRoad_36)))))))))))))))))
theorem dX4_gatherRoads_0 : decode cX4_gatherRoads 0 = .ok (.iconst 0, 1) := by decide +kernel
theorem dX4_gatherRoads_1 : decode cX4_gatherRoads 1 = .ok (.istore_n 1, 1) := by decide +kernel
theorem dX4_gatherRoads_2 : decode cX4_gatherRoads 2 = .ok (.iload_n 1, 1) := by decide +kernel
theorem dX4_gatherRoads_3 : decode cX4_gatherRoads 3 = .ok (.bipush 24, 2) := by decide +kernel
theorem dX4_gatherRoads_5 : decode cX4_gatherRoads 5 = .ok (.if_icmp .ge 38, 3) := by decide +kernel
theorem dX4_gatherRoads_8 : decode cX4_gatherRoads 8 = .ok (.aload_n 0, 1) := by decide +kernel
theorem dX4_gatherRoads_9 : decode cX4_gatherRoads 9 = .ok (.getfield 52, 3) := by decide +kernel
theorem dX4_gatherRoads_12 : decode cX4_gatherRoads 12 = .ok (.iload_n 1, 1) := by decide +kernel
theorem dX4_gatherRoads_13 : decode cX4_gatherRoads 13 = .ok (.iload_n 1, 1) := by decide +kernel
theorem dX4_gatherRoads_14 : decode cX4_gatherRoads 14 = .ok (.aload_n 0, 1) := by decide +kernel
theorem dX4_gatherRoads_15 : decode cX4_gatherRoads 15 = .ok (.getfield 55, 3) := by decide +kernel
theorem dX4_gatherRoads_18 : decode cX4_gatherRoads 18 = .ok (.getfield 85, 3) := by decide +kernel
theorem dX4_gatherRoads_21 : decode cX4_gatherRoads 21 = .ok (.if_icmp .ge 14, 3) := by decide +kernel
theorem dX4_gatherRoads_24 : decode cX4_gatherRoads 24 = .ok (.aload_n 0, 1) := by decide +kernel
theorem dX4_gatherRoads_25 : decode cX4_gatherRoads 25 = .ok (.getfield 59, 3) := by decide +kernel
theorem dX4_gatherRoads_28 : decode cX4_gatherRoads 28 = .ok (.iload_n 1, 1) := by decide +kernel
theorem dX4_gatherRoads_29 : decode cX4_gatherRoads 29 = .ok (.invokevirtual 89, 3) := by decide +kernel
theorem dX4_gatherRoads_32 : decode cX4_gatherRoads 32 = .ok (.goto 4, 3) := by decide +kernel
theorem dX4_gatherRoads_35 : decode cX4_gatherRoads 35 = .ok (.iconst 0, 1) := by decide +kernel
theorem dX4_gatherRoads_36 : decode cX4_gatherRoads 36 = .ok (.iastore, 1) := by decide +kernel
theorem dX4_gatherRoads_37 : decode cX4_gatherRoads 37 = .ok (.iinc 1 1, 3) := by decide +kernel
theorem dX4_gatherRoads_40 : decode cX4_gatherRoads 40 = .ok (.goto (-38), 3) := by decide +kernel
theorem dX4_gatherRoads_43 : decode cX4_gatherRoads 43 = .ok (.aload_n 0, 1) := by decide +kernel
theorem dX4_gatherRoads_44 : decode cX4_gatherRoads 44 = .ok (.iconst 0, 1) := by decide +kernel
theorem dX4_gatherRoads_45 : decode cX4_gatherRoads 45 = .ok (.putfield 45, 3) := by decide +kernel
theorem dX4_gatherRoads_48 : decode cX4_gatherRoads 48 = .ok (.iconst 0, 1) := by decide +kernel
theorem dX4_gatherRoads_49 : decode cX4_gatherRoads 49 = .ok (.istore_n 1, 1) := by decide +kernel
theorem dX4_gatherRoads_50 : decode cX4_gatherRoads 50 = .ok (.iconst 0, 1) := by decide +kernel
theorem dX4_gatherRoads_51 : decode cX4_gatherRoads 51 = .ok (.istore_n 2, 1) := by decide +kernel
theorem dX4_gatherRoads_52 : decode cX4_gatherRoads 52 = .ok (.iload_n 2, 1) := by decide +kernel
theorem dX4_gatherRoads_53 : decode cX4_gatherRoads 53 = .ok (.aload_n 0, 1) := by decide +kernel
theorem dX4_gatherRoads_54 : decode cX4_gatherRoads 54 = .ok (.getfield 55, 3) := by decide +kernel
theorem dX4_gatherRoads_57 : decode cX4_gatherRoads 57 = .ok (.getfield 85, 3) := by decide +kernel
theorem dX4_gatherRoads_60 : decode cX4_gatherRoads 60 = .ok (.if_icmp .ge 65, 3) := by decide +kernel
theorem dX4_gatherRoads_63 : decode cX4_gatherRoads 63 = .ok (.iload_n 1, 1) := by decide +kernel
theorem dX4_gatherRoads_64 : decode cX4_gatherRoads 64 = .ok (.iload_n 2, 1) := by decide +kernel
theorem dX4_gatherRoads_65 : decode cX4_gatherRoads 65 = .ok (.invokestatic 77, 3) := by decide +kernel
theorem dX4_gatherRoads_68 : decode cX4_gatherRoads 68 = .ok (.ifCond .ne 51, 3) := by decide +kernel
theorem dX4_gatherRoads_71 : decode cX4_gatherRoads 71 = .ok (.aload_n 0, 1) := by decide +kernel
theorem dX4_gatherRoads_72 : decode cX4_gatherRoads 72 = .ok (.getfield 15, 3) := by decide +kernel
theorem dX4_gatherRoads_75 : decode cX4_gatherRoads 75 = .ok (.aload_n 0, 1) := by decide +kernel
theorem dX4_gatherRoads_76 : decode cX4_gatherRoads 76 = .ok (.getfield 45, 3) := by decide +kernel
theorem dX4_gatherRoads_79 : decode cX4_gatherRoads 79 = .ok (.iconst 1, 1) := by decide +kernel
theorem dX4_gatherRoads_80 : decode cX4_gatherRoads 80 = .ok (.iload_n 2, 1) := by decide +kernel
theorem dX4_gatherRoads_81 : decode cX4_gatherRoads 81 = .ok (.ishl, 1) := by decide +kernel
theorem dX4_gatherRoads_82 : decode cX4_gatherRoads 82 = .ok (.aload_n 0, 1) := by decide +kernel
theorem dX4_gatherRoads_83 : decode cX4_gatherRoads 83 = .ok (.getfield 55, 3) := by decide +kernel
theorem dX4_gatherRoads_86 : decode cX4_gatherRoads 86 = .ok (.invokevirtual 94, 3) := by decide +kernel
theorem dX4_gatherRoads_89 : decode cX4_gatherRoads 89 = .ok (.aload_n 0, 1) := by decide +kernel
theorem dX4_gatherRoads_90 : decode cX4_gatherRoads 90 = .ok (.getfield 52, 3) := by decide +kernel
theorem dX4_gatherRoads_93 : decode cX4_gatherRoads 93 = .ok (.invokestatic 98, 3) := by decide +kernel
theorem dX4_gatherRoads_96 : decode cX4_gatherRoads 96 = .ok (.iastore, 1) := by decide +kernel
theorem dX4_gatherRoads_97 : decode cX4_gatherRoads 97 = .ok (.iload_n 1, 1) := by decide +kernel
theorem dX4_gatherRoads_98 : decode cX4_gatherRoads 98 = .ok (.aload_n 0, 1) := by decide +kernel
theorem dX4_gatherRoads_99 : decode cX4_gatherRoads 99 = .ok (.getfield 15, 3) := by decide +kernel
theorem dX4_gatherRoads_102 : decode cX4_gatherRoads 102 = .ok (.aload_n 0, 1) := by decide +kernel
theorem dX4_gatherRoads_103 : decode cX4_gatherRoads 103 = .ok (.getfield 45, 3) := by decide +kernel
theorem dX4_gatherRoads_106 : decode cX4_gatherRoads 106 = .ok (.iaload, 1) := by decide +kernel
theorem dX4_gatherRoads_107 : decode cX4_gatherRoads 107 = .ok (.ior, 1) := by decide +kernel
theorem dX4_gatherRoads_108 : decode cX4_gatherRoads 108 = .ok (.istore_n 1, 1) := by decide +kernel
theorem dX4_gatherRoads_109 : decode cX4_gatherRoads 109 = .ok (.aload_n 0, 1) := by decide +kernel
theorem dX4_gatherRoads_110 : decode cX4_gatherRoads 110 = .ok (.dup, 1) := by decide +kernel
theorem dX4_gatherRoads_111 : decode cX4_gatherRoads 111 = .ok (.getfield 45, 3) := by decide +kernel
theorem dX4_gatherRoads_114 : decode cX4_gatherRoads 114 = .ok (.iconst 1, 1) := by decide +kernel
theorem dX4_gatherRoads_115 : decode cX4_gatherRoads 115 = .ok (.iadd, 1) := by decide +kernel
theorem dX4_gatherRoads_116 : decode cX4_gatherRoads 116 = .ok (.putfield 45, 3) := by decide +kernel
theorem dX4_gatherRoads_119 : decode cX4_gatherRoads 119 = .ok (.iinc 2 1, 3) := by decide +kernel
theorem dX4_gatherRoads_122 : decode cX4_gatherRoads 122 = .ok (.goto (-70), 3) := by decide +kernel
theorem dX4_gatherRoads_125 : decode cX4_gatherRoads 125 = .ok (.return_, 1) := by decide +kernel
abbrev kX4_gatherRoads (g : rk_G) (R : rk_R) (pc : Nat) : rk_K := rk_cut g cX4_gatherRoads 3 none RX4 2 R pc
abbrev aX4_gatherRoads (g : rk_G) (R : rk_R) (pc : Nat) (K : rk_K) : Prop := rk_AK g cX4_gatherRoads 3 none RX4 2 R pc K
abbrev sX4_gatherRoads (g : rk_G) (vs : List Value) (σ : rk_M) (R : rk_R) : Prop := rk_does g yX4_gatherRoads cX4_gatherRoads 3 none 2 vs σ R
abbrev tX4_gatherRoads (g : rk_G) (R : rk_R) (pc : Nat) (ls st : List Value) (σ : rk_M) : Prop := rk_At g cX4_gatherRoads 3 none RX4 2 R pc ls st σ
def bX4_gatherRoads_119 (g : rk_G) (R : rk_R) : rk_K := (rk_iinc 2 (1) (kX4_gatherRoads g R 52))
theorem eX4_gatherRoads_119 (g : rk_G) (R : rk_R) (ls st : List Value) (σ : rk_M) : bX4_gatherRoads_119 g R ls st σ = (rk_iinc 2 (1) (kX4_gatherRoads g R 52)) ls st σ := rfl
theorem oX4_gatherRoads_119 {g : rk_G} {R : rk_R} : aX4_gatherRoads g R 119 (bX4_gatherRoads_119 g R) := (rk_iinc_ok dX4_gatherRoads_119 (by decide) (by decide) (rk_goto_ok (pc' := 52) dX4_gatherRoads_122 (by decide) rk_cut_ok))
def bX4_gatherRoads_52 (g : rk_G) (R : rk_R) : rk_K := (rk_iload 2 (rk_aload 0 (rk_gR 4 13 (rk_gI 2 8 (rk_icmp_ge (rk_vret R) (rk_iload 1 (rk_iload 2 (rk_cS g 2 yX6_hasBit cX6_hasBit 2 (some .boolean) 0 (rk_if_ne (bX4_gatherRoads_119 g R) (rk_aload 0 (rk_gR 4 1 (rk_aload 0 (rk_gI 4 11 (rk_ci (1) (rk_iload 2 (rk_ishl (rk_aload 0 (rk_gR 4 13 (rk_cV g 0 2 yX2_allRoads cX2_allRoads 1 (some .int) 0 (rk_aload 0 (rk_gR 4 15 (rk_cS g 3 yX6_reached cX6_reached 7 (some .int) 1 (rk_iast (rk_iload 1 (rk_aload 0 (rk_gR 4 1 (rk_aload 0 (rk_gI 4 11 (rk_iald (rk_ior (rk_istore 1 (rk_aload 0 (rk_dup (rk_gI 4 11 (rk_ci (1) (rk_iadd (rk_pI 4 11 (bX4_gatherRoads_119 g R))))))))))))))))))))))))))))))))))))))
theorem eX4_gatherRoads_52 (g : rk_G) (R : rk_R) (ls st : List Value) (σ : rk_M) : bX4_gatherRoads_52 g R ls st σ = (rk_iload 2 (rk_aload 0 (rk_gR 4 13 (rk_gI 2 8 (rk_icmp_ge (rk_vret R) (rk_iload 1 (rk_iload 2 (rk_cS g 2 yX6_hasBit cX6_hasBit 2 (some .boolean) 0 (rk_if_ne (bX4_gatherRoads_119 g R) (rk_aload 0 (rk_gR 4 1 (rk_aload 0 (rk_gI 4 11 (rk_ci (1) (rk_iload 2 (rk_ishl (rk_aload 0 (rk_gR 4 13 (rk_cV g 0 2 yX2_allRoads cX2_allRoads 1 (some .int) 0 (rk_aload 0 (rk_gR 4 15 (rk_cS g 3 yX6_reached cX6_reached 7 (some .int) 1 (rk_iast (rk_iload 1 (rk_aload 0 (rk_gR 4 1 (rk_aload 0 (rk_gI 4 11 (rk_iald (rk_ior (rk_istore 1 (rk_aload 0 (rk_dup (rk_gI 4 11 (rk_ci (1) (rk_iadd (rk_pI 4 11 (bX4_gatherRoads_119 g R)))))))))))))))))))))))))))))))))))))) ls st σ := rfl
theorem oX4_gatherRoads_52 {g : rk_G} {R : rk_R} : aX4_gatherRoads g R 52 (bX4_gatherRoads_52 g R) := (rk_iload_n_ok dX4_gatherRoads_52 rfl (rk_aload_n_ok dX4_gatherRoads_53 rfl (rk_gR_ok dX4_gatherRoads_54 rfl iX4 (by decide) rfl wfX4_55 (rk_gI_ok dX4_gatherRoads_57 rfl iX2 (by decide) rfl wfX4_85 (rk_icmp_ge_ok (pc' := 125) dX4_gatherRoads_60 (by decide) (rk_vret_ok rfl dX4_gatherRoads_125) (rk_iload_n_ok dX4_gatherRoads_63 rfl (rk_iload_n_ok dX4_gatherRoads_64 rfl (rk_cN_ok dX4_gatherRoads_65 npX6_hasBit wnX4_77 wtX6_hasBit wiX6 wdX6_hasBit (by decide) (by decide) (rk_if_ne_ok (pc' := 119) dX4_gatherRoads_68 (by decide) oX4_gatherRoads_119 (rk_aload_n_ok dX4_gatherRoads_71 rfl (rk_gR_ok dX4_gatherRoads_72 rfl iX4 (by decide) rfl wfX4_15 (rk_aload_n_ok dX4_gatherRoads_75 rfl (rk_gI_ok dX4_gatherRoads_76 rfl iX4 (by decide) rfl wfX4_45 (rk_iconst_ok dX4_gatherRoads_79 (by decide) (rk_iload_n_ok dX4_gatherRoads_80 rfl (rk_ishl_ok dX4_gatherRoads_81 (rk_aload_n_ok dX4_gatherRoads_82 rfl (rk_gR_ok dX4_gatherRoads_83 rfl iX4 (by decide) rfl wfX4_55 (rk_cV_ok dX4_gatherRoads_86 rfl rfl npX2_allRoads wmX4_94 wvX2_allRoads weX2_allRoads wiX2 wdX2_allRoads (by decide) (by decide) (rk_aload_n_ok dX4_gatherRoads_89 rfl (rk_gR_ok dX4_gatherRoads_90 rfl iX4 (by decide) rfl wfX4_52 (rk_cN_ok dX4_gatherRoads_93 npX6_reached wnX4_98 wtX6_reached wiX6 wdX6_reached (by decide) (by decide) (rk_iast_ok dX4_gatherRoads_96 (rk_iload_n_ok dX4_gatherRoads_97 rfl (rk_aload_n_ok dX4_gatherRoads_98 rfl (rk_gR_ok dX4_gatherRoads_99 rfl iX4 (by decide) rfl wfX4_15 (rk_aload_n_ok dX4_gatherRoads_102 rfl (rk_gI_ok dX4_gatherRoads_103 rfl iX4 (by decide) rfl wfX4_45 (rk_iald_ok dX4_gatherRoads_106 (rk_ior_ok dX4_gatherRoads_107 (rk_istore_n_ok dX4_gatherRoads_108 rfl (by decide) (rk_aload_n_ok dX4_gatherRoads_109 rfl (rk_dup_ok dX4_gatherRoads_110 (rk_gI_ok dX4_gatherRoads_111 rfl iX4 (by decide) rfl wfX4_45 (rk_iconst_ok dX4_gatherRoads_114 (by decide) (rk_iadd_ok dX4_gatherRoads_115 (rk_pI_ok dX4_gatherRoads_116 rfl iX4 tyX4_ok nmX4 (by decide) rfl rfl (by decide +kernel) wfX4_45 oX4_gatherRoads_119)))))))))))))))))))))))))))))))))))))
def bX4_gatherRoads_36 (g : rk_G) (R : rk_R) : rk_K := (rk_iast (rk_iinc 1 (1) (kX4_gatherRoads g R 2)))
theorem eX4_gatherRoads_36 (g : rk_G) (R : rk_R) (ls st : List Value) (σ : rk_M) : bX4_gatherRoads_36 g R ls st σ = (rk_iast (rk_iinc 1 (1) (kX4_gatherRoads g R 2))) ls st σ := rfl
theorem oX4_gatherRoads_36 {g : rk_G} {R : rk_R} : aX4_gatherRoads g R 36 (bX4_gatherRoads_36 g R) := (rk_iast_ok dX4_gatherRoads_36 (rk_iinc_ok dX4_gatherRoads_37 (by decide) (by decide) (rk_goto_ok (pc' := 2) dX4_gatherRoads_40 (by decide) rk_cut_ok)))
def bX4_gatherRoads_2 (g : rk_G) (R : rk_R) : rk_K := (rk_iload 1 (rk_ci (24) (rk_icmp_ge (rk_aload 0 (rk_ci (0) (rk_pI 4 11 (rk_ci (0) (rk_istore 1 (rk_ci (0) (rk_istore 2 (kX4_gatherRoads g R 52)))))))) (rk_aload 0 (rk_gR 4 15 (rk_iload 1 (rk_iload 1 (rk_aload 0 (rk_gR 4 13 (rk_gI 2 8 (rk_icmp_ge (rk_ci (0) (bX4_gatherRoads_36 g R)) (rk_aload 0 (rk_gR 4 14 (rk_iload 1 (rk_cV g 1 1 yX1_partnersOf cX1_partnersOf 3 (some .int) 1 (bX4_gatherRoads_36 g R))))))))))))))))
theorem eX4_gatherRoads_2 (g : rk_G) (R : rk_R) (ls st : List Value) (σ : rk_M) : bX4_gatherRoads_2 g R ls st σ = (rk_iload 1 (rk_ci (24) (rk_icmp_ge (rk_aload 0 (rk_ci (0) (rk_pI 4 11 (rk_ci (0) (rk_istore 1 (rk_ci (0) (rk_istore 2 (kX4_gatherRoads g R 52)))))))) (rk_aload 0 (rk_gR 4 15 (rk_iload 1 (rk_iload 1 (rk_aload 0 (rk_gR 4 13 (rk_gI 2 8 (rk_icmp_ge (rk_ci (0) (bX4_gatherRoads_36 g R)) (rk_aload 0 (rk_gR 4 14 (rk_iload 1 (rk_cV g 1 1 yX1_partnersOf cX1_partnersOf 3 (some .int) 1 (bX4_gatherRoads_36 g R)))))))))))))))) ls st σ := rfl
theorem oX4_gatherRoads_2 {g : rk_G} {R : rk_R} : aX4_gatherRoads g R 2 (bX4_gatherRoads_2 g R) := (rk_iload_n_ok dX4_gatherRoads_2 rfl (rk_bipush_ok dX4_gatherRoads_3 (by decide) (rk_icmp_ge_ok (pc' := 43) dX4_gatherRoads_5 (by decide) (rk_aload_n_ok dX4_gatherRoads_43 rfl (rk_iconst_ok dX4_gatherRoads_44 (by decide) (rk_pI_ok dX4_gatherRoads_45 rfl iX4 tyX4_ok nmX4 (by decide) rfl rfl (by decide +kernel) wfX4_45 (rk_iconst_ok dX4_gatherRoads_48 (by decide) (rk_istore_n_ok dX4_gatherRoads_49 rfl (by decide) (rk_iconst_ok dX4_gatherRoads_50 (by decide) (rk_istore_n_ok dX4_gatherRoads_51 rfl (by decide) rk_cut_ok))))))) (rk_aload_n_ok dX4_gatherRoads_8 rfl (rk_gR_ok dX4_gatherRoads_9 rfl iX4 (by decide) rfl wfX4_52 (rk_iload_n_ok dX4_gatherRoads_12 rfl (rk_iload_n_ok dX4_gatherRoads_13 rfl (rk_aload_n_ok dX4_gatherRoads_14 rfl (rk_gR_ok dX4_gatherRoads_15 rfl iX4 (by decide) rfl wfX4_55 (rk_gI_ok dX4_gatherRoads_18 rfl iX2 (by decide) rfl wfX4_85 (rk_icmp_ge_ok (pc' := 35) dX4_gatherRoads_21 (by decide) (rk_iconst_ok dX4_gatherRoads_35 (by decide) oX4_gatherRoads_36) (rk_aload_n_ok dX4_gatherRoads_24 rfl (rk_gR_ok dX4_gatherRoads_25 rfl iX4 (by decide) rfl wfX4_59 (rk_iload_n_ok dX4_gatherRoads_28 rfl (rk_cV_ok dX4_gatherRoads_29 rfl rfl npX1_partnersOf wmX4_89 wvX1_partnersOf weX1_partnersOf wiX1 wdX1_partnersOf (by decide) (by decide) (rk_goto_ok (pc' := 36) dX4_gatherRoads_32 (by decide) oX4_gatherRoads_36))))))))))))))))
def bX4_gatherRoads_0 (g : rk_G) (R : rk_R) : rk_K := (rk_ci (0) (rk_istore 1 (kX4_gatherRoads g R 2)))
theorem eX4_gatherRoads_0 (g : rk_G) (R : rk_R) (ls st : List Value) (σ : rk_M) : bX4_gatherRoads_0 g R ls st σ = (rk_ci (0) (rk_istore 1 (kX4_gatherRoads g R 2))) ls st σ := rfl
theorem oX4_gatherRoads_0 {g : rk_G} {R : rk_R} : aX4_gatherRoads g R 0 (bX4_gatherRoads_0 g R) := (rk_iconst_ok dX4_gatherRoads_0 (by decide) (rk_istore_n_ok dX4_gatherRoads_1 rfl (by decide) rk_cut_ok))
theorem dX4_measure_0 : decode cX4_measure 0 = .ok (.aload_n 0, 1) := by decide +kernel
theorem dX4_measure_1 : decode cX4_measure 1 = .ok (.getfield 18, 3) := by decide +kernel
theorem dX4_measure_4 : decode cX4_measure 4 = .ok (.iload_n 1, 1) := by decide +kernel
theorem dX4_measure_5 : decode cX4_measure 5 = .ok (.iconst 0, 1) := by decide +kernel
theorem dX4_measure_6 : decode cX4_measure 6 = .ok (.iastore, 1) := by decide +kernel
theorem dX4_measure_7 : decode cX4_measure 7 = .ok (.aload_n 0, 1) := by decide +kernel
theorem dX4_measure_8 : decode cX4_measure 8 = .ok (.getfield 21, 3) := by decide +kernel
theorem dX4_measure_11 : decode cX4_measure 11 = .ok (.iload_n 1, 1) := by decide +kernel
theorem dX4_measure_12 : decode cX4_measure 12 = .ok (.iconst 0, 1) := by decide +kernel
theorem dX4_measure_13 : decode cX4_measure 13 = .ok (.iastore, 1) := by decide +kernel
theorem dX4_measure_14 : decode cX4_measure 14 = .ok (.aload_n 0, 1) := by decide +kernel
theorem dX4_measure_15 : decode cX4_measure 15 = .ok (.getfield 24, 3) := by decide +kernel
theorem dX4_measure_18 : decode cX4_measure 18 = .ok (.iload_n 1, 1) := by decide +kernel
theorem dX4_measure_19 : decode cX4_measure 19 = .ok (.iconst 0, 1) := by decide +kernel
theorem dX4_measure_20 : decode cX4_measure 20 = .ok (.iastore, 1) := by decide +kernel
theorem dX4_measure_21 : decode cX4_measure 21 = .ok (.aload_n 0, 1) := by decide +kernel
theorem dX4_measure_22 : decode cX4_measure 22 = .ok (.getfield 27, 3) := by decide +kernel
theorem dX4_measure_25 : decode cX4_measure 25 = .ok (.iload_n 1, 1) := by decide +kernel
theorem dX4_measure_26 : decode cX4_measure 26 = .ok (.iconst 0, 1) := by decide +kernel
theorem dX4_measure_27 : decode cX4_measure 27 = .ok (.iastore, 1) := by decide +kernel
theorem dX4_measure_28 : decode cX4_measure 28 = .ok (.iconst 0, 1) := by decide +kernel
theorem dX4_measure_29 : decode cX4_measure 29 = .ok (.istore_n 2, 1) := by decide +kernel
theorem dX4_measure_30 : decode cX4_measure 30 = .ok (.iload_n 2, 1) := by decide +kernel
theorem dX4_measure_31 : decode cX4_measure 31 = .ok (.aload_n 0, 1) := by decide +kernel
theorem dX4_measure_32 : decode cX4_measure 32 = .ok (.getfield 55, 3) := by decide +kernel
theorem dX4_measure_35 : decode cX4_measure 35 = .ok (.getfield 85, 3) := by decide +kernel
theorem dX4_measure_38 : decode cX4_measure 38 = .ok (.if_icmp .ge 35, 3) := by decide +kernel
theorem dX4_measure_41 : decode cX4_measure 41 = .ok (.aload_n 0, 1) := by decide +kernel
theorem dX4_measure_42 : decode cX4_measure 42 = .ok (.getfield 15, 3) := by decide +kernel
theorem dX4_measure_45 : decode cX4_measure 45 = .ok (.iload_n 1, 1) := by decide +kernel
theorem dX4_measure_46 : decode cX4_measure 46 = .ok (.iaload, 1) := by decide +kernel
theorem dX4_measure_47 : decode cX4_measure 47 = .ok (.iload_n 2, 1) := by decide +kernel
theorem dX4_measure_48 : decode cX4_measure 48 = .ok (.invokestatic 77, 3) := by decide +kernel
theorem dX4_measure_51 : decode cX4_measure 51 = .ok (.ifCond .eq 16, 3) := by decide +kernel
theorem dX4_measure_54 : decode cX4_measure 54 = .ok (.aload_n 0, 1) := by decide +kernel
theorem dX4_measure_55 : decode cX4_measure 55 = .ok (.getfield 9, 3) := by decide +kernel
theorem dX4_measure_58 : decode cX4_measure 58 = .ok (.iload_n 2, 1) := by decide +kernel
theorem dX4_measure_59 : decode cX4_measure 59 = .ok (.iload_n 1, 1) := by decide +kernel
theorem dX4_measure_60 : decode cX4_measure 60 = .ok (.iastore, 1) := by decide +kernel
theorem dX4_measure_61 : decode cX4_measure 61 = .ok (.aload_n 0, 1) := by decide +kernel
theorem dX4_measure_62 : decode cX4_measure 62 = .ok (.iload_n 1, 1) := by decide +kernel
theorem dX4_measure_63 : decode cX4_measure 63 = .ok (.iload_n 2, 1) := by decide +kernel
theorem dX4_measure_64 : decode cX4_measure 64 = .ok (.invokevirtual 102, 3) := by decide +kernel
theorem dX4_measure_67 : decode cX4_measure 67 = .ok (.iinc 2 1, 3) := by decide +kernel
theorem dX4_measure_70 : decode cX4_measure 70 = .ok (.goto (-40), 3) := by decide +kernel
theorem dX4_measure_73 : decode cX4_measure 73 = .ok (.return_, 1) := by decide +kernel
abbrev kX4_measure (g : rk_G) (R : rk_R) (pc : Nat) : rk_K := rk_cut g cX4_measure 3 none RX4 2 R pc
abbrev aX4_measure (g : rk_G) (R : rk_R) (pc : Nat) (K : rk_K) : Prop := rk_AK g cX4_measure 3 none RX4 2 R pc K
abbrev sX4_measure (g : rk_G) (vs : List Value) (σ : rk_M) (R : rk_R) : Prop := rk_does g yX4_measure cX4_measure 3 none 2 vs σ R
abbrev tX4_measure (g : rk_G) (R : rk_R) (pc : Nat) (ls st : List Value) (σ : rk_M) : Prop := rk_At g cX4_measure 3 none RX4 2 R pc ls st σ
def bX4_measure_67 (g : rk_G) (R : rk_R) : rk_K := (rk_iinc 2 (1) (kX4_measure g R 30))
theorem eX4_measure_67 (g : rk_G) (R : rk_R) (ls st : List Value) (σ : rk_M) : bX4_measure_67 g R ls st σ = (rk_iinc 2 (1) (kX4_measure g R 30)) ls st σ := rfl
theorem oX4_measure_67 {g : rk_G} {R : rk_R} : aX4_measure g R 67 (bX4_measure_67 g R) := (rk_iinc_ok dX4_measure_67 (by decide) (by decide) (rk_goto_ok (pc' := 30) dX4_measure_70 (by decide) rk_cut_ok))
def bX4_measure_30 (g : rk_G) (R : rk_R) : rk_K := (rk_iload 2 (rk_aload 0 (rk_gR 4 13 (rk_gI 2 8 (rk_icmp_ge (rk_vret R) (rk_aload 0 (rk_gR 4 1 (rk_iload 1 (rk_iald (rk_iload 2 (rk_cS g 2 yX6_hasBit cX6_hasBit 2 (some .boolean) 0 (rk_if_eq (bX4_measure_67 g R) (rk_aload 0 (rk_gR 4 0 (rk_iload 2 (rk_iload 1 (rk_iast (rk_aload 0 (rk_iload 1 (rk_iload 2 (rk_cV g 2 4 yX4_measureRoad cX4_measureRoad 5 none 1 (bX4_measure_67 g R))))))))))))))))))))))
theorem eX4_measure_30 (g : rk_G) (R : rk_R) (ls st : List Value) (σ : rk_M) : bX4_measure_30 g R ls st σ = (rk_iload 2 (rk_aload 0 (rk_gR 4 13 (rk_gI 2 8 (rk_icmp_ge (rk_vret R) (rk_aload 0 (rk_gR 4 1 (rk_iload 1 (rk_iald (rk_iload 2 (rk_cS g 2 yX6_hasBit cX6_hasBit 2 (some .boolean) 0 (rk_if_eq (bX4_measure_67 g R) (rk_aload 0 (rk_gR 4 0 (rk_iload 2 (rk_iload 1 (rk_iast (rk_aload 0 (rk_iload 1 (rk_iload 2 (rk_cV g 2 4 yX4_measureRoad cX4_measureRoad 5 none 1 (bX4_measure_67 g R)))))))))))))))))))))) ls st σ := rfl
theorem oX4_measure_30 {g : rk_G} {R : rk_R} : aX4_measure g R 30 (bX4_measure_30 g R) := (rk_iload_n_ok dX4_measure_30 rfl (rk_aload_n_ok dX4_measure_31 rfl (rk_gR_ok dX4_measure_32 rfl iX4 (by decide) rfl wfX4_55 (rk_gI_ok dX4_measure_35 rfl iX2 (by decide) rfl wfX4_85 (rk_icmp_ge_ok (pc' := 73) dX4_measure_38 (by decide) (rk_vret_ok rfl dX4_measure_73) (rk_aload_n_ok dX4_measure_41 rfl (rk_gR_ok dX4_measure_42 rfl iX4 (by decide) rfl wfX4_15 (rk_iload_n_ok dX4_measure_45 rfl (rk_iald_ok dX4_measure_46 (rk_iload_n_ok dX4_measure_47 rfl (rk_cN_ok dX4_measure_48 npX6_hasBit wnX4_77 wtX6_hasBit wiX6 wdX6_hasBit (by decide) (by decide) (rk_if_eq_ok (pc' := 67) dX4_measure_51 (by decide) oX4_measure_67 (rk_aload_n_ok dX4_measure_54 rfl (rk_gR_ok dX4_measure_55 rfl iX4 (by decide) rfl wfX4_9 (rk_iload_n_ok dX4_measure_58 rfl (rk_iload_n_ok dX4_measure_59 rfl (rk_iast_ok dX4_measure_60 (rk_aload_n_ok dX4_measure_61 rfl (rk_iload_n_ok dX4_measure_62 rfl (rk_iload_n_ok dX4_measure_63 rfl (rk_cV_ok dX4_measure_64 rfl rfl npX4_measureRoad wmX4_102 wvX4_measureRoad weX4_measureRoad wiX4 wdX4_measureRoad (by decide) (by decide) oX4_measure_67)))))))))))))))))))))
def bX4_measure_0 (g : rk_G) (R : rk_R) : rk_K := (rk_aload 0 (rk_gR 4 2 (rk_iload 1 (rk_ci (0) (rk_iast (rk_aload 0 (rk_gR 4 3 (rk_iload 1 (rk_ci (0) (rk_iast (rk_aload 0 (rk_gR 4 4 (rk_iload 1 (rk_ci (0) (rk_iast (rk_aload 0 (rk_gR 4 5 (rk_iload 1 (rk_ci (0) (rk_iast (rk_ci (0) (rk_istore 2 (kX4_measure g R 30)))))))))))))))))))))))
theorem eX4_measure_0 (g : rk_G) (R : rk_R) (ls st : List Value) (σ : rk_M) : bX4_measure_0 g R ls st σ = (rk_aload 0 (rk_gR 4 2 (rk_iload 1 (rk_ci (0) (rk_iast (rk_aload 0 (rk_gR 4 3 (rk_iload 1 (rk_ci (0) (rk_iast (rk_aload 0 (rk_gR 4 4 (rk_iload 1 (rk_ci (0) (rk_iast (rk_aload 0 (rk_gR 4 5 (rk_iload 1 (rk_ci (0) (rk_iast (rk_ci (0) (rk_istore 2 (kX4_measure g R 30))))))))))))))))))))))) ls st σ := rfl
theorem oX4_measure_0 {g : rk_G} {R : rk_R} : aX4_measure g R 0 (bX4_measure_0 g R) := (rk_aload_n_ok dX4_measure_0 rfl (rk_gR_ok dX4_measure_1 rfl iX4 (by decide) rfl wfX4_18 (rk_iload_n_ok dX4_measure_4 rfl (rk_iconst_ok dX4_measure_5 (by decide) (rk_iast_ok dX4_measure_6 (rk_aload_n_ok dX4_measure_7 rfl (rk_gR_ok dX4_measure_8 rfl iX4 (by decide) rfl wfX4_21 (rk_iload_n_ok dX4_measure_11 rfl (rk_iconst_ok dX4_measure_12 (by decide) (rk_iast_ok dX4_measure_13 (rk_aload_n_ok dX4_measure_14 rfl (rk_gR_ok dX4_measure_15 rfl iX4 (by decide) rfl wfX4_24 (rk_iload_n_ok dX4_measure_18 rfl (rk_iconst_ok dX4_measure_19 (by decide) (rk_iast_ok dX4_measure_20 (rk_aload_n_ok dX4_measure_21 rfl (rk_gR_ok dX4_measure_22 rfl iX4 (by decide) rfl wfX4_27 (rk_iload_n_ok dX4_measure_25 rfl (rk_iconst_ok dX4_measure_26 (by decide) (rk_iast_ok dX4_measure_27 (rk_iconst_ok dX4_measure_28 (by decide) (rk_istore_n_ok dX4_measure_29 rfl (by decide) rk_cut_ok))))))))))))))))))))))
theorem dX4_giveRanks_0 : decode cX4_giveRanks 0 = .ok (.aload_n 0, 1) := by decide +kernel
theorem dX4_giveRanks_1 : decode cX4_giveRanks 1 = .ok (.iconst 0, 1) := by decide +kernel
theorem dX4_giveRanks_2 : decode cX4_giveRanks 2 = .ok (.putfield 49, 3) := by decide +kernel
theorem dX4_giveRanks_5 : decode cX4_giveRanks 5 = .ok (.aload_n 0, 1) := by decide +kernel
theorem dX4_giveRanks_6 : decode cX4_giveRanks 6 = .ok (.invokevirtual 126, 3) := by decide +kernel
theorem dX4_giveRanks_9 : decode cX4_giveRanks 9 = .ok (.istore_n 1, 1) := by decide +kernel
theorem dX4_giveRanks_10 : decode cX4_giveRanks 10 = .ok (.iconst 0, 1) := by decide +kernel
theorem dX4_giveRanks_11 : decode cX4_giveRanks 11 = .ok (.istore_n 2, 1) := by decide +kernel
theorem dX4_giveRanks_12 : decode cX4_giveRanks 12 = .ok (.iconst 0, 1) := by decide +kernel
theorem dX4_giveRanks_13 : decode cX4_giveRanks 13 = .ok (.istore_n 3, 1) := by decide +kernel
theorem dX4_giveRanks_14 : decode cX4_giveRanks 14 = .ok (.iconst 0, 1) := by decide +kernel
theorem dX4_giveRanks_15 : decode cX4_giveRanks 15 = .ok (.istore 4, 2) := by decide +kernel
theorem dX4_giveRanks_17 : decode cX4_giveRanks 17 = .ok (.iload 4, 2) := by decide +kernel
theorem dX4_giveRanks_19 : decode cX4_giveRanks 19 = .ok (.aload_n 0, 1) := by decide +kernel
theorem dX4_giveRanks_20 : decode cX4_giveRanks 20 = .ok (.getfield 45, 3) := by decide +kernel
theorem dX4_giveRanks_23 : decode cX4_giveRanks 23 = .ok (.if_icmp .ge 118, 3) := by decide +kernel
theorem dX4_giveRanks_26 : decode cX4_giveRanks 26 = .ok (.aload_n 0, 1) := by decide +kernel
theorem dX4_giveRanks_27 : decode cX4_giveRanks 27 = .ok (.iload_n 2, 1) := by decide +kernel
theorem dX4_giveRanks_28 : decode cX4_giveRanks 28 = .ok (.iload_n 1, 1) := by decide +kernel
theorem dX4_giveRanks_29 : decode cX4_giveRanks 29 = .ok (.iand, 1) := by decide +kernel
theorem dX4_giveRanks_30 : decode cX4_giveRanks 30 = .ok (.invokevirtual 129, 3) := by decide +kernel
theorem dX4_giveRanks_33 : decode cX4_giveRanks 33 = .ok (.istore 5, 2) := by decide +kernel
theorem dX4_giveRanks_35 : decode cX4_giveRanks 35 = .ok (.iload 5, 2) := by decide +kernel
theorem dX4_giveRanks_37 : decode cX4_giveRanks 37 = .ok (.iconst (-1), 1) := by decide +kernel
theorem dX4_giveRanks_38 : decode cX4_giveRanks 38 = .ok (.if_icmp .ne 20, 3) := by decide +kernel
theorem dX4_giveRanks_41 : decode cX4_giveRanks 41 = .ok (.aload_n 0, 1) := by decide +kernel
theorem dX4_giveRanks_42 : decode cX4_giveRanks 42 = .ok (.dup, 1) := by decide +kernel
theorem dX4_giveRanks_43 : decode cX4_giveRanks 43 = .ok (.getfield 49, 3) := by decide +kernel
theorem dX4_giveRanks_46 : decode cX4_giveRanks 46 = .ok (.iconst 1, 1) := by decide +kernel
theorem dX4_giveRanks_47 : decode cX4_giveRanks 47 = .ok (.iadd, 1) := by decide +kernel
theorem dX4_giveRanks_48 : decode cX4_giveRanks 48 = .ok (.putfield 49, 3) := by decide +kernel
theorem dX4_giveRanks_51 : decode cX4_giveRanks 51 = .ok (.aload_n 0, 1) := by decide +kernel
theorem dX4_giveRanks_52 : decode cX4_giveRanks 52 = .ok (.iload_n 1, 1) := by decide +kernel
theorem dX4_giveRanks_53 : decode cX4_giveRanks 53 = .ok (.invokevirtual 129, 3) := by decide +kernel
theorem dX4_giveRanks_56 : decode cX4_giveRanks 56 = .ok (.istore 5, 2) := by decide +kernel
theorem dX4_giveRanks_58 : decode cX4_giveRanks 58 = .ok (.iload 5, 2) := by decide +kernel
theorem dX4_giveRanks_60 : decode cX4_giveRanks 60 = .ok (.iconst (-1), 1) := by decide +kernel
theorem dX4_giveRanks_61 : decode cX4_giveRanks 61 = .ok (.if_icmp .ne 6, 3) := by decide +kernel
theorem dX4_giveRanks_64 : decode cX4_giveRanks 64 = .ok (.goto 77, 3) := by decide +kernel
theorem dX4_giveRanks_67 : decode cX4_giveRanks 67 = .ok (.iload_n 3, 1) := by decide +kernel
theorem dX4_giveRanks_68 : decode cX4_giveRanks 68 = .ok (.aload_n 0, 1) := by decide +kernel
theorem dX4_giveRanks_69 : decode cX4_giveRanks 69 = .ok (.getfield 21, 3) := by decide +kernel
theorem dX4_giveRanks_72 : decode cX4_giveRanks 72 = .ok (.iload 5, 2) := by decide +kernel
theorem dX4_giveRanks_74 : decode cX4_giveRanks 74 = .ok (.iaload, 1) := by decide +kernel
theorem dX4_giveRanks_75 : decode cX4_giveRanks 75 = .ok (.iadd, 1) := by decide +kernel
theorem dX4_giveRanks_76 : decode cX4_giveRanks 76 = .ok (.istore_n 3, 1) := by decide +kernel
theorem dX4_giveRanks_77 : decode cX4_giveRanks 77 = .ok (.aload_n 0, 1) := by decide +kernel
theorem dX4_giveRanks_78 : decode cX4_giveRanks 78 = .ok (.getfield 33, 3) := by decide +kernel
theorem dX4_giveRanks_81 : decode cX4_giveRanks 81 = .ok (.iload 4, 2) := by decide +kernel
theorem dX4_giveRanks_83 : decode cX4_giveRanks 83 = .ok (.iload 5, 2) := by decide +kernel
theorem dX4_giveRanks_85 : decode cX4_giveRanks 85 = .ok (.iastore, 1) := by decide +kernel
theorem dX4_giveRanks_86 : decode cX4_giveRanks 86 = .ok (.aload_n 0, 1) := by decide +kernel
theorem dX4_giveRanks_87 : decode cX4_giveRanks 87 = .ok (.getfield 36, 3) := by decide +kernel
theorem dX4_giveRanks_90 : decode cX4_giveRanks 90 = .ok (.iload 5, 2) := by decide +kernel
theorem dX4_giveRanks_92 : decode cX4_giveRanks 92 = .ok (.iload 4, 2) := by decide +kernel
theorem dX4_giveRanks_94 : decode cX4_giveRanks 94 = .ok (.iastore, 1) := by decide +kernel
theorem dX4_giveRanks_95 : decode cX4_giveRanks 95 = .ok (.aload_n 0, 1) := by decide +kernel
theorem dX4_giveRanks_96 : decode cX4_giveRanks 96 = .ok (.getfield 39, 3) := by decide +kernel
theorem dX4_giveRanks_99 : decode cX4_giveRanks 99 = .ok (.iload 5, 2) := by decide +kernel
theorem dX4_giveRanks_101 : decode cX4_giveRanks 101 = .ok (.aload_n 0, 1) := by decide +kernel
theorem dX4_giveRanks_102 : decode cX4_giveRanks 102 = .ok (.getfield 49, 3) := by decide +kernel
theorem dX4_giveRanks_105 : decode cX4_giveRanks 105 = .ok (.iconst 1, 1) := by decide +kernel
theorem dX4_giveRanks_106 : decode cX4_giveRanks 106 = .ok (.isub, 1) := by decide +kernel
theorem dX4_giveRanks_107 : decode cX4_giveRanks 107 = .ok (.iastore, 1) := by decide +kernel
theorem dX4_giveRanks_108 : decode cX4_giveRanks 108 = .ok (.aload_n 0, 1) := by decide +kernel
theorem dX4_giveRanks_109 : decode cX4_giveRanks 109 = .ok (.getfield 42, 3) := by decide +kernel
theorem dX4_giveRanks_112 : decode cX4_giveRanks 112 = .ok (.iload 4, 2) := by decide +kernel
theorem dX4_giveRanks_114 : decode cX4_giveRanks 114 = .ok (.iload_n 3, 1) := by decide +kernel
theorem dX4_giveRanks_115 : decode cX4_giveRanks 115 = .ok (.iastore, 1) := by decide +kernel
theorem dX4_giveRanks_116 : decode cX4_giveRanks 116 = .ok (.iload_n 1, 1) := by decide +kernel
theorem dX4_giveRanks_117 : decode cX4_giveRanks 117 = .ok (.iconst 1, 1) := by decide +kernel
theorem dX4_giveRanks_118 : decode cX4_giveRanks 118 = .ok (.iload 5, 2) := by decide +kernel
theorem dX4_giveRanks_120 : decode cX4_giveRanks 120 = .ok (.ishl, 1) := by decide +kernel
theorem dX4_giveRanks_121 : decode cX4_giveRanks 121 = .ok (.iconst (-1), 1) := by decide +kernel
theorem dX4_giveRanks_122 : decode cX4_giveRanks 122 = .ok (.ixor, 1) := by decide +kernel
theorem dX4_giveRanks_123 : decode cX4_giveRanks 123 = .ok (.iand, 1) := by decide +kernel
theorem dX4_giveRanks_124 : decode cX4_giveRanks 124 = .ok (.istore_n 1, 1) := by decide +kernel
theorem dX4_giveRanks_125 : decode cX4_giveRanks 125 = .ok (.iload_n 2, 1) := by decide +kernel
theorem dX4_giveRanks_126 : decode cX4_giveRanks 126 = .ok (.aload_n 0, 1) := by decide +kernel
theorem dX4_giveRanks_127 : decode cX4_giveRanks 127 = .ok (.getfield 30, 3) := by decide +kernel
theorem dX4_giveRanks_130 : decode cX4_giveRanks 130 = .ok (.iload 5, 2) := by decide +kernel
theorem dX4_giveRanks_132 : decode cX4_giveRanks 132 = .ok (.iaload, 1) := by decide +kernel
theorem dX4_giveRanks_133 : decode cX4_giveRanks 133 = .ok (.ior, 1) := by decide +kernel
theorem dX4_giveRanks_134 : decode cX4_giveRanks 134 = .ok (.istore_n 2, 1) := by decide +kernel
theorem dX4_giveRanks_135 : decode cX4_giveRanks 135 = .ok (.iinc 4 1, 3) := by decide +kernel
theorem dX4_giveRanks_138 : decode cX4_giveRanks 138 = .ok (.goto (-121), 3) := by decide +kernel
theorem dX4_giveRanks_141 : decode cX4_giveRanks 141 = .ok (.return_, 1) := by decide +kernel
abbrev kX4_giveRanks (g : rk_G) (R : rk_R) (pc : Nat) : rk_K := rk_cut g cX4_giveRanks 6 none RX4 2 R pc
abbrev aX4_giveRanks (g : rk_G) (R : rk_R) (pc : Nat) (K : rk_K) : Prop := rk_AK g cX4_giveRanks 6 none RX4 2 R pc K
abbrev sX4_giveRanks (g : rk_G) (vs : List Value) (σ : rk_M) (R : rk_R) : Prop := rk_does g yX4_giveRanks cX4_giveRanks 6 none 2 vs σ R
abbrev tX4_giveRanks (g : rk_G) (R : rk_R) (pc : Nat) (ls st : List Value) (σ : rk_M) : Prop := rk_At g cX4_giveRanks 6 none RX4 2 R pc ls st σ
def bX4_giveRanks_141 (g : rk_G) (R : rk_R) : rk_K := (rk_vret R)
theorem eX4_giveRanks_141 (g : rk_G) (R : rk_R) (ls st : List Value) (σ : rk_M) : bX4_giveRanks_141 g R ls st σ = (rk_vret R) ls st σ := rfl
theorem oX4_giveRanks_141 {g : rk_G} {R : rk_R} : aX4_giveRanks g R 141 (bX4_giveRanks_141 g R) := (rk_vret_ok rfl dX4_giveRanks_141)
def bX4_giveRanks_58 (g : rk_G) (R : rk_R) : rk_K := (rk_iload 5 (rk_ci (-1) (rk_icmp_ne (rk_iload 3 (rk_aload 0 (rk_gR 4 3 (rk_iload 5 (rk_iald (rk_iadd (rk_istore 3 (rk_aload 0 (rk_gR 4 7 (rk_iload 4 (rk_iload 5 (rk_iast (rk_aload 0 (rk_gR 4 8 (rk_iload 5 (rk_iload 4 (rk_iast (rk_aload 0 (rk_gR 4 9 (rk_iload 5 (rk_aload 0 (rk_gI 4 12 (rk_ci (1) (rk_isub (rk_iast (rk_aload 0 (rk_gR 4 10 (rk_iload 4 (rk_iload 3 (rk_iast (rk_iload 1 (rk_ci (1) (rk_iload 5 (rk_ishl (rk_ci (-1) (rk_ixor (rk_iand (rk_istore 1 (rk_iload 2 (rk_aload 0 (rk_gR 4 6 (rk_iload 5 (rk_iald (rk_ior (rk_istore 2 (rk_iinc 4 (1) (kX4_giveRanks g R 17))))))))))))))))))))))))))))))))))))))))))))))) (bX4_giveRanks_141 g R))))
theorem eX4_giveRanks_58 (g : rk_G) (R : rk_R) (ls st : List Value) (σ : rk_M) : bX4_giveRanks_58 g R ls st σ = (rk_iload 5 (rk_ci (-1) (rk_icmp_ne (rk_iload 3 (rk_aload 0 (rk_gR 4 3 (rk_iload 5 (rk_iald (rk_iadd (rk_istore 3 (rk_aload 0 (rk_gR 4 7 (rk_iload 4 (rk_iload 5 (rk_iast (rk_aload 0 (rk_gR 4 8 (rk_iload 5 (rk_iload 4 (rk_iast (rk_aload 0 (rk_gR 4 9 (rk_iload 5 (rk_aload 0 (rk_gI 4 12 (rk_ci (1) (rk_isub (rk_iast (rk_aload 0 (rk_gR 4 10 (rk_iload 4 (rk_iload 3 (rk_iast (rk_iload 1 (rk_ci (1) (rk_iload 5 (rk_ishl (rk_ci (-1) (rk_ixor (rk_iand (rk_istore 1 (rk_iload 2 (rk_aload 0 (rk_gR 4 6 (rk_iload 5 (rk_iald (rk_ior (rk_istore 2 (rk_iinc 4 (1) (kX4_giveRanks g R 17))))))))))))))))))))))))))))))))))))))))))))))) (bX4_giveRanks_141 g R)))) ls st σ := rfl
theorem oX4_giveRanks_58 {g : rk_G} {R : rk_R} : aX4_giveRanks g R 58 (bX4_giveRanks_58 g R) := (rk_iload_ok dX4_giveRanks_58 (rk_iconst_ok dX4_giveRanks_60 (by decide) (rk_icmp_ne_ok (pc' := 67) dX4_giveRanks_61 (by decide) (rk_iload_n_ok dX4_giveRanks_67 rfl (rk_aload_n_ok dX4_giveRanks_68 rfl (rk_gR_ok dX4_giveRanks_69 rfl iX4 (by decide) rfl wfX4_21 (rk_iload_ok dX4_giveRanks_72 (rk_iald_ok dX4_giveRanks_74 (rk_iadd_ok dX4_giveRanks_75 (rk_istore_n_ok dX4_giveRanks_76 rfl (by decide) (rk_aload_n_ok dX4_giveRanks_77 rfl (rk_gR_ok dX4_giveRanks_78 rfl iX4 (by decide) rfl wfX4_33 (rk_iload_ok dX4_giveRanks_81 (rk_iload_ok dX4_giveRanks_83 (rk_iast_ok dX4_giveRanks_85 (rk_aload_n_ok dX4_giveRanks_86 rfl (rk_gR_ok dX4_giveRanks_87 rfl iX4 (by decide) rfl wfX4_36 (rk_iload_ok dX4_giveRanks_90 (rk_iload_ok dX4_giveRanks_92 (rk_iast_ok dX4_giveRanks_94 (rk_aload_n_ok dX4_giveRanks_95 rfl (rk_gR_ok dX4_giveRanks_96 rfl iX4 (by decide) rfl wfX4_39 (rk_iload_ok dX4_giveRanks_99 (rk_aload_n_ok dX4_giveRanks_101 rfl (rk_gI_ok dX4_giveRanks_102 rfl iX4 (by decide) rfl wfX4_49 (rk_iconst_ok dX4_giveRanks_105 (by decide) (rk_isub_ok dX4_giveRanks_106 (rk_iast_ok dX4_giveRanks_107 (rk_aload_n_ok dX4_giveRanks_108 rfl (rk_gR_ok dX4_giveRanks_109 rfl iX4 (by decide) rfl wfX4_42 (rk_iload_ok dX4_giveRanks_112 (rk_iload_n_ok dX4_giveRanks_114 rfl (rk_iast_ok dX4_giveRanks_115 (rk_iload_n_ok dX4_giveRanks_116 rfl (rk_iconst_ok dX4_giveRanks_117 (by decide) (rk_iload_ok dX4_giveRanks_118 (rk_ishl_ok dX4_giveRanks_120 (rk_iconst_ok dX4_giveRanks_121 (by decide) (rk_ixor_ok dX4_giveRanks_122 (rk_iand_ok dX4_giveRanks_123 (rk_istore_n_ok dX4_giveRanks_124 rfl (by decide) (rk_iload_n_ok dX4_giveRanks_125 rfl (rk_aload_n_ok dX4_giveRanks_126 rfl (rk_gR_ok dX4_giveRanks_127 rfl iX4 (by decide) rfl wfX4_30 (rk_iload_ok dX4_giveRanks_130 (rk_iald_ok dX4_giveRanks_132 (rk_ior_ok dX4_giveRanks_133 (rk_istore_n_ok dX4_giveRanks_134 rfl (by decide) (rk_iinc_ok dX4_giveRanks_135 (by decide) (by decide) (rk_goto_ok (pc' := 17) dX4_giveRanks_138 (by decide) rk_cut_ok))))))))))))))))))))))))))))))))))))))))))))))) (rk_goto_ok (pc' := 141) dX4_giveRanks_64 (by decide) oX4_giveRanks_141))))
def bX4_giveRanks_17 (g : rk_G) (R : rk_R) : rk_K := (rk_iload 4 (rk_aload 0 (rk_gI 4 11 (rk_icmp_ge (bX4_giveRanks_141 g R) (rk_aload 0 (rk_iload 2 (rk_iload 1 (rk_iand (rk_cV g 1 4 yX4_worthiest cX4_worthiest 4 (some .int) 1 (rk_istore 5 (rk_iload 5 (rk_ci (-1) (rk_icmp_ne (bX4_giveRanks_58 g R) (rk_aload 0 (rk_dup (rk_gI 4 12 (rk_ci (1) (rk_iadd (rk_pI 4 12 (rk_aload 0 (rk_iload 1 (rk_cV g 1 4 yX4_worthiest cX4_worthiest 4 (some .int) 1 (rk_istore 5 (bX4_giveRanks_58 g R))))))))))))))))))))))))
theorem eX4_giveRanks_17 (g : rk_G) (R : rk_R) (ls st : List Value) (σ : rk_M) : bX4_giveRanks_17 g R ls st σ = (rk_iload 4 (rk_aload 0 (rk_gI 4 11 (rk_icmp_ge (bX4_giveRanks_141 g R) (rk_aload 0 (rk_iload 2 (rk_iload 1 (rk_iand (rk_cV g 1 4 yX4_worthiest cX4_worthiest 4 (some .int) 1 (rk_istore 5 (rk_iload 5 (rk_ci (-1) (rk_icmp_ne (bX4_giveRanks_58 g R) (rk_aload 0 (rk_dup (rk_gI 4 12 (rk_ci (1) (rk_iadd (rk_pI 4 12 (rk_aload 0 (rk_iload 1 (rk_cV g 1 4 yX4_worthiest cX4_worthiest 4 (some .int) 1 (rk_istore 5 (bX4_giveRanks_58 g R)))))))))))))))))))))))) ls st σ := rfl
theorem oX4_giveRanks_17 {g : rk_G} {R : rk_R} : aX4_giveRanks g R 17 (bX4_giveRanks_17 g R) := (rk_iload_ok dX4_giveRanks_17 (rk_aload_n_ok dX4_giveRanks_19 rfl (rk_gI_ok dX4_giveRanks_20 rfl iX4 (by decide) rfl wfX4_45 (rk_icmp_ge_ok (pc' := 141) dX4_giveRanks_23 (by decide) oX4_giveRanks_141 (rk_aload_n_ok dX4_giveRanks_26 rfl (rk_iload_n_ok dX4_giveRanks_27 rfl (rk_iload_n_ok dX4_giveRanks_28 rfl (rk_iand_ok dX4_giveRanks_29 (rk_cV_ok dX4_giveRanks_30 rfl rfl npX4_worthiest wmX4_129 wvX4_worthiest weX4_worthiest wiX4 wdX4_worthiest (by decide) (by decide) (rk_istore_ok dX4_giveRanks_33 (by decide) (rk_iload_ok dX4_giveRanks_35 (rk_iconst_ok dX4_giveRanks_37 (by decide) (rk_icmp_ne_ok (pc' := 58) dX4_giveRanks_38 (by decide) oX4_giveRanks_58 (rk_aload_n_ok dX4_giveRanks_41 rfl (rk_dup_ok dX4_giveRanks_42 (rk_gI_ok dX4_giveRanks_43 rfl iX4 (by decide) rfl wfX4_49 (rk_iconst_ok dX4_giveRanks_46 (by decide) (rk_iadd_ok dX4_giveRanks_47 (rk_pI_ok dX4_giveRanks_48 rfl iX4 tyX4_ok nmX4 (by decide) rfl rfl (by decide +kernel) wfX4_49 (rk_aload_n_ok dX4_giveRanks_51 rfl (rk_iload_n_ok dX4_giveRanks_52 rfl (rk_cV_ok dX4_giveRanks_53 rfl rfl npX4_worthiest wmX4_129 wvX4_worthiest weX4_worthiest wiX4 wdX4_worthiest (by decide) (by decide) (rk_istore_ok dX4_giveRanks_56 (by decide) oX4_giveRanks_58)))))))))))))))))))))))
def bX4_giveRanks_0 (g : rk_G) (R : rk_R) : rk_K := (rk_aload 0 (rk_ci (0) (rk_pI 4 12 (rk_aload 0 (rk_cV g 0 4 yX4_all cX4_all 1 (some .int) 0 (rk_istore 1 (rk_ci (0) (rk_istore 2 (rk_ci (0) (rk_istore 3 (rk_ci (0) (rk_istore 4 (kX4_giveRanks g R 17)))))))))))))
theorem eX4_giveRanks_0 (g : rk_G) (R : rk_R) (ls st : List Value) (σ : rk_M) : bX4_giveRanks_0 g R ls st σ = (rk_aload 0 (rk_ci (0) (rk_pI 4 12 (rk_aload 0 (rk_cV g 0 4 yX4_all cX4_all 1 (some .int) 0 (rk_istore 1 (rk_ci (0) (rk_istore 2 (rk_ci (0) (rk_istore 3 (rk_ci (0) (rk_istore 4 (kX4_giveRanks g R 17))))))))))))) ls st σ := rfl
theorem oX4_giveRanks_0 {g : rk_G} {R : rk_R} : aX4_giveRanks g R 0 (bX4_giveRanks_0 g R) := (rk_aload_n_ok dX4_giveRanks_0 rfl (rk_iconst_ok dX4_giveRanks_1 (by decide) (rk_pI_ok dX4_giveRanks_2 rfl iX4 tyX4_ok nmX4 (by decide) rfl rfl (by decide +kernel) wfX4_49 (rk_aload_n_ok dX4_giveRanks_5 rfl (rk_cV_ok dX4_giveRanks_6 rfl rfl npX4_all wmX4_126 wvX4_all weX4_all wiX4 wdX4_all (by decide) (by decide) (rk_istore_n_ok dX4_giveRanks_9 rfl (by decide) (rk_iconst_ok dX4_giveRanks_10 (by decide) (rk_istore_n_ok dX4_giveRanks_11 rfl (by decide) (rk_iconst_ok dX4_giveRanks_12 (by decide) (rk_istore_n_ok dX4_giveRanks_13 rfl (by decide) (rk_iconst_ok dX4_giveRanks_14 (by decide) (rk_istore_ok dX4_giveRanks_15 (by decide) rk_cut_ok))))))))))))
