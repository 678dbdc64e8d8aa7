theorem dX7_gathers_0 : decode cX7_gathers 0 = .ok (.aload_n 0, 1) := by decide +kernel
theorem dX7_gathers_1 : decode cX7_gathers 1 = .ok (.getfield 34, 3) := by decide +kernel
theorem dX7_gathers_4 : decode cX7_gathers 4 = .ok (.iload_n 1, 1) := by decide +kernel
theorem dX7_gathers_5 : decode cX7_gathers 5 = .ok (.iconst 0, 1) := by decide +kernel
theorem dX7_gathers_6 : decode cX7_gathers 6 = .ok (.iastore, 1) := by decide +kernel
theorem dX7_gathers_7 : decode cX7_gathers 7 = .ok (.aload_n 0, 1) := by decide +kernel
theorem dX7_gathers_8 : decode cX7_gathers 8 = .ok (.getfield 37, 3) := by decide +kernel
theorem dX7_gathers_11 : decode cX7_gathers 11 = .ok (.iload_n 1, 1) := by decide +kernel
theorem dX7_gathers_12 : decode cX7_gathers 12 = .ok (.iconst 0, 1) := by decide +kernel
theorem dX7_gathers_13 : decode cX7_gathers 13 = .ok (.iastore, 1) := by decide +kernel
theorem dX7_gathers_14 : decode cX7_gathers 14 = .ok (.aload_n 0, 1) := by decide +kernel
theorem dX7_gathers_15 : decode cX7_gathers 15 = .ok (.getfield 40, 3) := by decide +kernel
theorem dX7_gathers_18 : decode cX7_gathers 18 = .ok (.iload_n 1, 1) := by decide +kernel
theorem dX7_gathers_19 : decode cX7_gathers 19 = .ok (.iconst 0, 1) := by decide +kernel
theorem dX7_gathers_20 : decode cX7_gathers 20 = .ok (.iastore, 1) := by decide +kernel
theorem dX7_gathers_21 : decode cX7_gathers 21 = .ok (.aload_n 0, 1) := by decide +kernel
theorem dX7_gathers_22 : decode cX7_gathers 22 = .ok (.getfield 43, 3) := by decide +kernel
theorem dX7_gathers_25 : decode cX7_gathers 25 = .ok (.iload_n 1, 1) := by decide +kernel
theorem dX7_gathers_26 : decode cX7_gathers 26 = .ok (.iconst 0, 1) := by decide +kernel
theorem dX7_gathers_27 : decode cX7_gathers 27 = .ok (.iastore, 1) := by decide +kernel
theorem dX7_gathers_28 : decode cX7_gathers 28 = .ok (.aload_n 0, 1) := by decide +kernel
theorem dX7_gathers_29 : decode cX7_gathers 29 = .ok (.getfield 46, 3) := by decide +kernel
theorem dX7_gathers_32 : decode cX7_gathers 32 = .ok (.iload_n 1, 1) := by decide +kernel
theorem dX7_gathers_33 : decode cX7_gathers 33 = .ok (.iconst 1, 1) := by decide +kernel
theorem dX7_gathers_34 : decode cX7_gathers 34 = .ok (.iastore, 1) := by decide +kernel
theorem dX7_gathers_35 : decode cX7_gathers 35 = .ok (.iconst 0, 1) := by decide +kernel
theorem dX7_gathers_36 : decode cX7_gathers 36 = .ok (.istore_n 2, 1) := by decide +kernel
theorem dX7_gathers_37 : decode cX7_gathers 37 = .ok (.iload_n 2, 1) := by decide +kernel
theorem dX7_gathers_38 : decode cX7_gathers 38 = .ok (.aload_n 0, 1) := by decide +kernel
theorem dX7_gathers_39 : decode cX7_gathers 39 = .ok (.getfield 85, 3) := by decide +kernel
theorem dX7_gathers_42 : decode cX7_gathers 42 = .ok (.if_icmp .ge 133, 3) := by decide +kernel
theorem dX7_gathers_45 : decode cX7_gathers 45 = .ok (.aload_n 0, 1) := by decide +kernel
theorem dX7_gathers_46 : decode cX7_gathers 46 = .ok (.getfield 31, 3) := by decide +kernel
theorem dX7_gathers_49 : decode cX7_gathers 49 = .ok (.iload_n 2, 1) := by decide +kernel
theorem dX7_gathers_50 : decode cX7_gathers 50 = .ok (.iaload, 1) := by decide +kernel
theorem dX7_gathers_51 : decode cX7_gathers 51 = .ok (.iload_n 1, 1) := by decide +kernel
theorem dX7_gathers_52 : decode cX7_gathers 52 = .ok (.if_icmp .ne 117, 3) := by decide +kernel
theorem dX7_gathers_55 : decode cX7_gathers 55 = .ok (.aload_n 0, 1) := by decide +kernel
theorem dX7_gathers_56 : decode cX7_gathers 56 = .ok (.getfield 34, 3) := by decide +kernel
theorem dX7_gathers_59 : decode cX7_gathers 59 = .ok (.iload_n 1, 1) := by decide +kernel
theorem dX7_gathers_60 : decode cX7_gathers 60 = .ok (.dup2, 1) := by decide +kernel
theorem dX7_gathers_61 : decode cX7_gathers 61 = .ok (.iaload, 1) := by decide +kernel
theorem dX7_gathers_62 : decode cX7_gathers 62 = .ok (.iconst 1, 1) := by decide +kernel
theorem dX7_gathers_63 : decode cX7_gathers 63 = .ok (.iload_n 2, 1) := by decide +kernel
theorem dX7_gathers_64 : decode cX7_gathers 64 = .ok (.ishl, 1) := by decide +kernel
theorem dX7_gathers_65 : decode cX7_gathers 65 = .ok (.ior, 1) := by decide +kernel
theorem dX7_gathers_66 : decode cX7_gathers 66 = .ok (.iastore, 1) := by decide +kernel
theorem dX7_gathers_67 : decode cX7_gathers 67 = .ok (.aload_n 0, 1) := by decide +kernel
theorem dX7_gathers_68 : decode cX7_gathers 68 = .ok (.getfield 37, 3) := by decide +kernel
theorem dX7_gathers_71 : decode cX7_gathers 71 = .ok (.iload_n 1, 1) := by decide +kernel
theorem dX7_gathers_72 : decode cX7_gathers 72 = .ok (.dup2, 1) := by decide +kernel
theorem dX7_gathers_73 : decode cX7_gathers 73 = .ok (.iaload, 1) := by decide +kernel
theorem dX7_gathers_74 : decode cX7_gathers 74 = .ok (.iconst 1, 1) := by decide +kernel
theorem dX7_gathers_75 : decode cX7_gathers 75 = .ok (.aload_n 0, 1) := by decide +kernel
theorem dX7_gathers_76 : decode cX7_gathers 76 = .ok (.getfield 16, 3) := by decide +kernel
theorem dX7_gathers_79 : decode cX7_gathers 79 = .ok (.iconst 2, 1) := by decide +kernel
theorem dX7_gathers_80 : decode cX7_gathers 80 = .ok (.iload_n 2, 1) := by decide +kernel
theorem dX7_gathers_81 : decode cX7_gathers 81 = .ok (.imul, 1) := by decide +kernel
theorem dX7_gathers_82 : decode cX7_gathers 82 = .ok (.iaload, 1) := by decide +kernel
theorem dX7_gathers_83 : decode cX7_gathers 83 = .ok (.ishl, 1) := by decide +kernel
theorem dX7_gathers_84 : decode cX7_gathers 84 = .ok (.iconst 1, 1) := by decide +kernel
theorem dX7_gathers_85 : decode cX7_gathers 85 = .ok (.aload_n 0, 1) := by decide +kernel
theorem dX7_gathers_86 : decode cX7_gathers 86 = .ok (.getfield 16, 3) := by decide +kernel
theorem dX7_gathers_89 : decode cX7_gathers 89 = .ok (.iconst 2, 1) := by decide +kernel
theorem dX7_gathers_90 : decode cX7_gathers 90 = .ok (.iload_n 2, 1) := by decide +kernel
theorem dX7_gathers_91 : decode cX7_gathers 91 = .ok (.imul, 1) := by decide +kernel
theorem dX7_gathers_92 : decode cX7_gathers 92 = .ok (.iconst 1, 1) := by decide +kernel
theorem dX7_gathers_93 : decode cX7_gathers 93 = .ok (.iadd, 1) := by decide +kernel
theorem dX7_gathers_94 : decode cX7_gathers 94 = .ok (.iaload, 1) := by decide +kernel
theorem dX7_gathers_95 : decode cX7_gathers 95 = .ok (.ishl, 1) := by decide +kernel
theorem dX7_gathers_96 : decode cX7_gathers 96 = .ok (.ior, 1) := by decide +kernel
theorem dX7_gathers_97 : decode cX7_gathers 97 = .ok (.ior, 1) := by decide +kernel
theorem dX7_gathers_98 : decode cX7_gathers 98 = .ok (.iastore, 1) := by decide +kernel
theorem dX7_gathers_99 : decode cX7_gathers 99 = .ok (.aload_n 0, 1) := by decide +kernel
theorem dX7_gathers_100 : decode cX7_gathers 100 = .ok (.getfield 40, 3) := by decide +kernel
theorem dX7_gathers_103 : decode cX7_gathers 103 = .ok (.iload_n 1, 1) := by decide +kernel
theorem dX7_gathers_104 : decode cX7_gathers 104 = .ok (.dup2, 1) := by decide +kernel
theorem dX7_gathers_105 : decode cX7_gathers 105 = .ok (.iaload, 1) := by decide +kernel
theorem dX7_gathers_106 : decode cX7_gathers 106 = .ok (.aload_n 0, 1) := by decide +kernel
theorem dX7_gathers_107 : decode cX7_gathers 107 = .ok (.iload_n 2, 1) := by decide +kernel
theorem dX7_gathers_108 : decode cX7_gathers 108 = .ok (.invokevirtual 156, 3) := by decide +kernel
theorem dX7_gathers_111 : decode cX7_gathers 111 = .ok (.iadd, 1) := by decide +kernel
theorem dX7_gathers_112 : decode cX7_gathers 112 = .ok (.iastore, 1) := by decide +kernel
theorem dX7_gathers_113 : decode cX7_gathers 113 = .ok (.aload_n 0, 1) := by decide +kernel
theorem dX7_gathers_114 : decode cX7_gathers 114 = .ok (.getfield 43, 3) := by decide +kernel
theorem dX7_gathers_117 : decode cX7_gathers 117 = .ok (.iload_n 1, 1) := by decide +kernel
theorem dX7_gathers_118 : decode cX7_gathers 118 = .ok (.dup2, 1) := by decide +kernel
theorem dX7_gathers_119 : decode cX7_gathers 119 = .ok (.iaload, 1) := by decide +kernel
theorem dX7_gathers_120 : decode cX7_gathers 120 = .ok (.aload_n 0, 1) := by decide +kernel
theorem dX7_gathers_121 : decode cX7_gathers 121 = .ok (.iload_n 2, 1) := by decide +kernel
theorem dX7_gathers_122 : decode cX7_gathers 122 = .ok (.invokevirtual 175, 3) := by decide +kernel
theorem dX7_gathers_125 : decode cX7_gathers 125 = .ok (.iadd, 1) := by decide +kernel
theorem dX7_gathers_126 : decode cX7_gathers 126 = .ok (.iastore, 1) := by decide +kernel
theorem dX7_gathers_127 : decode cX7_gathers 127 = .ok (.aload_n 0, 1) := by decide +kernel
theorem dX7_gathers_128 : decode cX7_gathers 128 = .ok (.getfield 46, 3) := by decide +kernel
theorem dX7_gathers_131 : decode cX7_gathers 131 = .ok (.iload_n 1, 1) := by decide +kernel
theorem dX7_gathers_132 : decode cX7_gathers 132 = .ok (.aload_n 0, 1) := by decide +kernel
theorem dX7_gathers_133 : decode cX7_gathers 133 = .ok (.getfield 28, 3) := by decide +kernel
theorem dX7_gathers_136 : decode cX7_gathers 136 = .ok (.iconst 2, 1) := by decide +kernel
theorem dX7_gathers_137 : decode cX7_gathers 137 = .ok (.iload_n 2, 1) := by decide +kernel
theorem dX7_gathers_138 : decode cX7_gathers 138 = .ok (.imul, 1) := by decide +kernel
theorem dX7_gathers_139 : decode cX7_gathers 139 = .ok (.iaload, 1) := by decide +kernel
theorem dX7_gathers_140 : decode cX7_gathers 140 = .ok (.iconst (-1), 1) := by decide +kernel
theorem dX7_gathers_141 : decode cX7_gathers 141 = .ok (.if_icmp .eq 17, 3) := by decide +kernel
theorem dX7_gathers_144 : decode cX7_gathers 144 = .ok (.aload_n 0, 1) := by decide +kernel
theorem dX7_gathers_145 : decode cX7_gathers 145 = .ok (.getfield 28, 3) := by decide +kernel
theorem dX7_gathers_148 : decode cX7_gathers 148 = .ok (.iconst 2, 1) := by decide +kernel
theorem dX7_gathers_149 : decode cX7_gathers 149 = .ok (.iload_n 2, 1) := by decide +kernel
theorem dX7_gathers_150 : decode cX7_gathers 150 = .ok (.imul, 1) := by decide +kernel
theorem dX7_gathers_151 : decode cX7_gathers 151 = .ok (.iconst 1, 1) := by decide +kernel
theorem dX7_gathers_152 : decode cX7_gathers 152 = .ok (.iadd, 1) := by decide +kernel
theorem dX7_gathers_153 : decode cX7_gathers 153 = .ok (.iaload, 1) := by decide +kernel
theorem dX7_gathers_154 : decode cX7_gathers 154 = .ok (.iconst (-1), 1) := by decide +kernel
theorem dX7_gathers_155 : decode cX7_gathers 155 = .ok (.if_icmp .ne 7, 3) := by decide +kernel
theorem dX7_gathers_158 : decode cX7_gathers 158 = .ok (.iconst 0, 1) := by decide +kernel
theorem dX7_gathers_159 : decode cX7_gathers 159 = .ok (.goto 9, 3) := by decide +kernel
theorem dX7_gathers_162 : decode cX7_gathers 162 = .ok (.aload_n 0, 1) := by decide +kernel
theorem dX7_gathers_163 : decode cX7_gathers 163 = .ok (.getfield 46, 3) := by decide +kernel
theorem dX7_gathers_166 : decode cX7_gathers 166 = .ok (.iload_n 1, 1) := by decide +kernel
theorem dX7_gathers_167 : decode cX7_gathers 167 = .ok (.iaload, 1) := by decide +kernel
theorem dX7_gathers_168 : decode cX7_gathers 168 = .ok (.iastore, 1) := by decide +kernel
theorem dX7_gathers_169 : decode cX7_gathers 169 = .ok (.iinc 2 1, 3) := by decide +kernel
theorem dX7_gathers_172 : decode cX7_gathers 172 = .ok (.goto (-135), 3) := by decide +kernel
theorem dX7_gathers_175 : decode cX7_gathers 175 = .ok (.return_, 1) := by decide +kernel
abbrev kX7_gathers (g : rk_G) (R : rk_R) (pc : Nat) : rk_K := rk_cut g cX7_gathers 3 none RX7 3 R pc
abbrev aX7_gathers (g : rk_G) (R : rk_R) (pc : Nat) (K : rk_K) : Prop := rk_AK g cX7_gathers 3 none RX7 3 R pc K
abbrev sX7_gathers (g : rk_G) (vs : List Value) (σ : rk_M) (R : rk_R) : Prop := rk_does g yX7_gathers cX7_gathers 3 none 3 vs σ R
abbrev tX7_gathers (g : rk_G) (R : rk_R) (pc : Nat) (ls st : List Value) (σ : rk_M) : Prop := rk_At g cX7_gathers 3 none RX7 3 R pc ls st σ
def bX7_gathers_169 (g : rk_G) (R : rk_R) : rk_K := (rk_iinc 2 (1) (kX7_gathers g R 37))
theorem eX7_gathers_169 (g : rk_G) (R : rk_R) (ls st : List Value) (σ : rk_M) : bX7_gathers_169 g R ls st σ = (rk_iinc 2 (1) (kX7_gathers g R 37)) ls st σ := rfl
theorem oX7_gathers_169 {g : rk_G} {R : rk_R} : aX7_gathers g R 169 (bX7_gathers_169 g R) := (rk_iinc_ok dX7_gathers_169 (by decide) (by decide) (rk_goto_ok (pc' := 37) dX7_gathers_172 (by decide) rk_cut_ok))
def bX7_gathers_168 (g : rk_G) (R : rk_R) : rk_K := (rk_iast (bX7_gathers_169 g R))
theorem eX7_gathers_168 (g : rk_G) (R : rk_R) (ls st : List Value) (σ : rk_M) : bX7_gathers_168 g R ls st σ = (rk_iast (bX7_gathers_169 g R)) ls st σ := rfl
theorem oX7_gathers_168 {g : rk_G} {R : rk_R} : aX7_gathers g R 168 (bX7_gathers_168 g R) := (rk_iast_ok dX7_gathers_168 oX7_gathers_169)
def bX7_gathers_158 (g : rk_G) (R : rk_R) : rk_K := (rk_ci (0) (bX7_gathers_168 g R))
theorem eX7_gathers_158 (g : rk_G) (R : rk_R) (ls st : List Value) (σ : rk_M) : bX7_gathers_158 g R ls st σ = (rk_ci (0) (bX7_gathers_168 g R)) ls st σ := rfl
theorem oX7_gathers_158 {g : rk_G} {R : rk_R} : aX7_gathers g R 158 (bX7_gathers_158 g R) := (rk_iconst_ok dX7_gathers_158 (by decide) (rk_goto_ok (pc' := 168) dX7_gathers_159 (by decide) oX7_gathers_168))
def bX7_gathers_37 (g : rk_G) (R : rk_R) : rk_K := (rk_iload 2 (rk_aload 0 (rk_gI 7 3 (rk_icmp_ge (rk_vret R) (rk_aload 0 (rk_gR 7 12 (rk_iload 2 (rk_iald (rk_iload 1 (rk_icmp_ne (bX7_gathers_169 g R) (rk_aload 0 (rk_gR 7 13 (rk_iload 1 (rk_dup2 (rk_iald (rk_ci (1) (rk_iload 2 (rk_ishl (rk_ior (rk_iast (rk_aload 0 (rk_gR 7 14 (rk_iload 1 (rk_dup2 (rk_iald (rk_ci (1) (rk_aload 0 (rk_gR 7 4 (rk_ci (2) (rk_iload 2 (rk_imul (rk_iald (rk_ishl (rk_ci (1) (rk_aload 0 (rk_gR 7 4 (rk_ci (2) (rk_iload 2 (rk_imul (rk_ci (1) (rk_iadd (rk_iald (rk_ishl (rk_ior (rk_ior (rk_iast (rk_aload 0 (rk_gR 7 15 (rk_iload 1 (rk_dup2 (rk_iald (rk_aload 0 (rk_iload 2 (rk_cV g 1 7 yX7_length cX7_length 4 (some .int) 1 (rk_iadd (rk_iast (rk_aload 0 (rk_gR 7 16 (rk_iload 1 (rk_dup2 (rk_iald (rk_aload 0 (rk_iload 2 (rk_cV g 1 7 yX7_worth cX7_worth 4 (some .int) 2 (rk_iadd (rk_iast (rk_aload 0 (rk_gR 7 17 (rk_iload 1 (rk_aload 0 (rk_gR 7 9 (rk_ci (2) (rk_iload 2 (rk_imul (rk_iald (rk_ci (-1) (rk_icmp_eq (bX7_gathers_158 g R) (rk_aload 0 (rk_gR 7 9 (rk_ci (2) (rk_iload 2 (rk_imul (rk_ci (1) (rk_iadd (rk_iald (rk_ci (-1) (rk_icmp_ne (rk_aload 0 (rk_gR 7 17 (rk_iload 1 (rk_iald (bX7_gathers_168 g R))))) (bX7_gathers_158 g R))))))))))))))))))))))))))))))))))))))))))))))))))))))))))))))))))))))))))))))))))))))))
theorem eX7_gathers_37 (g : rk_G) (R : rk_R) (ls st : List Value) (σ : rk_M) : bX7_gathers_37 g R ls st σ = (rk_iload 2 (rk_aload 0 (rk_gI 7 3 (rk_icmp_ge (rk_vret R) (rk_aload 0 (rk_gR 7 12 (rk_iload 2 (rk_iald (rk_iload 1 (rk_icmp_ne (bX7_gathers_169 g R) (rk_aload 0 (rk_gR 7 13 (rk_iload 1 (rk_dup2 (rk_iald (rk_ci (1) (rk_iload 2 (rk_ishl (rk_ior (rk_iast (rk_aload 0 (rk_gR 7 14 (rk_iload 1 (rk_dup2 (rk_iald (rk_ci (1) (rk_aload 0 (rk_gR 7 4 (rk_ci (2) (rk_iload 2 (rk_imul (rk_iald (rk_ishl (rk_ci (1) (rk_aload 0 (rk_gR 7 4 (rk_ci (2) (rk_iload 2 (rk_imul (rk_ci (1) (rk_iadd (rk_iald (rk_ishl (rk_ior (rk_ior (rk_iast (rk_aload 0 (rk_gR 7 15 (rk_iload 1 (rk_dup2 (rk_iald (rk_aload 0 (rk_iload 2 (rk_cV g 1 7 yX7_length cX7_length 4 (some .int) 1 (rk_iadd (rk_iast (rk_aload 0 (rk_gR 7 16 (rk_iload 1 (rk_dup2 (rk_iald (rk_aload 0 (rk_iload 2 (rk_cV g 1 7 yX7_worth cX7_worth 4 (some .int) 2 (rk_iadd (rk_iast (rk_aload 0 (rk_gR 7 17 (rk_iload 1 (rk_aload 0 (rk_gR 7 9 (rk_ci (2) (rk_iload 2 (rk_imul (rk_iald (rk_ci (-1) (rk_icmp_eq (bX7_gathers_158 g R) (rk_aload 0 (rk_gR 7 9 (rk_ci (2) (rk_iload 2 (rk_imul (rk_ci (1) (rk_iadd (rk_iald (rk_ci (-1) (rk_icmp_ne (rk_aload 0 (rk_gR 7 17 (rk_iload 1 (rk_iald (bX7_gathers_168 g R))))) (bX7_gathers_158 g R)))))))))))))))))))))))))))))))))))))))))))))))))))))))))))))))))))))))))))))))))))))))) ls st σ := rfl
theorem oX7_gathers_37 {g : rk_G} {R : rk_R} : aX7_gathers g R 37 (bX7_gathers_37 g R) := (rk_iload_n_ok dX7_gathers_37 rfl (rk_aload_n_ok dX7_gathers_38 rfl (rk_gI_ok dX7_gathers_39 rfl iX7 (by decide) rfl wfX7_85 (rk_icmp_ge_ok (pc' := 175) dX7_gathers_42 (by decide) (rk_vret_ok rfl dX7_gathers_175) (rk_aload_n_ok dX7_gathers_45 rfl (rk_gR_ok dX7_gathers_46 rfl iX7 (by decide) rfl wfX7_31 (rk_iload_n_ok dX7_gathers_49 rfl (rk_iald_ok dX7_gathers_50 (rk_iload_n_ok dX7_gathers_51 rfl (rk_icmp_ne_ok (pc' := 169) dX7_gathers_52 (by decide) oX7_gathers_169 (rk_aload_n_ok dX7_gathers_55 rfl (rk_gR_ok dX7_gathers_56 rfl iX7 (by decide) rfl wfX7_34 (rk_iload_n_ok dX7_gathers_59 rfl (rk_dup2_ok dX7_gathers_60 (rk_iald_ok dX7_gathers_61 (rk_iconst_ok dX7_gathers_62 (by decide) (rk_iload_n_ok dX7_gathers_63 rfl (rk_ishl_ok dX7_gathers_64 (rk_ior_ok dX7_gathers_65 (rk_iast_ok dX7_gathers_66 (rk_aload_n_ok dX7_gathers_67 rfl (rk_gR_ok dX7_gathers_68 rfl iX7 (by decide) rfl wfX7_37 (rk_iload_n_ok dX7_gathers_71 rfl (rk_dup2_ok dX7_gathers_72 (rk_iald_ok dX7_gathers_73 (rk_iconst_ok dX7_gathers_74 (by decide) (rk_aload_n_ok dX7_gathers_75 rfl (rk_gR_ok dX7_gathers_76 rfl iX7 (by decide) rfl wfX7_16 (rk_iconst_ok dX7_gathers_79 (by decide) (rk_iload_n_ok dX7_gathers_80 rfl (rk_imul_ok dX7_gathers_81 (rk_iald_ok dX7_gathers_82 (rk_ishl_ok dX7_gathers_83 (rk_iconst_ok dX7_gathers_84 (by decide) (rk_aload_n_ok dX7_gathers_85 rfl (rk_gR_ok dX7_gathers_86 rfl iX7 (by decide) rfl wfX7_16 (rk_iconst_ok dX7_gathers_89 (by decide) (rk_iload_n_ok dX7_gathers_90 rfl (rk_imul_ok dX7_gathers_91 (rk_iconst_ok dX7_gathers_92 (by decide) (rk_iadd_ok dX7_gathers_93 (rk_iald_ok dX7_gathers_94 (rk_ishl_ok dX7_gathers_95 (rk_ior_ok dX7_gathers_96 (rk_ior_ok dX7_gathers_97 (rk_iast_ok dX7_gathers_98 (rk_aload_n_ok dX7_gathers_99 rfl (rk_gR_ok dX7_gathers_100 rfl iX7 (by decide) rfl wfX7_40 (rk_iload_n_ok dX7_gathers_103 rfl (rk_dup2_ok dX7_gathers_104 (rk_iald_ok dX7_gathers_105 (rk_aload_n_ok dX7_gathers_106 rfl (rk_iload_n_ok dX7_gathers_107 rfl (rk_cV_ok dX7_gathers_108 rfl rfl npX7_length wmX7_156 wvX7_length weX7_length wiX7 wdX7_length (by decide) (by decide) (rk_iadd_ok dX7_gathers_111 (rk_iast_ok dX7_gathers_112 (rk_aload_n_ok dX7_gathers_113 rfl (rk_gR_ok dX7_gathers_114 rfl iX7 (by decide) rfl wfX7_43 (rk_iload_n_ok dX7_gathers_117 rfl (rk_dup2_ok dX7_gathers_118 (rk_iald_ok dX7_gathers_119 (rk_aload_n_ok dX7_gathers_120 rfl (rk_iload_n_ok dX7_gathers_121 rfl (rk_cV_ok dX7_gathers_122 rfl rfl npX7_worth wmX7_175 wvX7_worth weX7_worth wiX7 wdX7_worth (by decide) (by decide) (rk_iadd_ok dX7_gathers_125 (rk_iast_ok dX7_gathers_126 (rk_aload_n_ok dX7_gathers_127 rfl (rk_gR_ok dX7_gathers_128 rfl iX7 (by decide) rfl wfX7_46 (rk_iload_n_ok dX7_gathers_131 rfl (rk_aload_n_ok dX7_gathers_132 rfl (rk_gR_ok dX7_gathers_133 rfl iX7 (by decide) rfl wfX7_28 (rk_iconst_ok dX7_gathers_136 (by decide) (rk_iload_n_ok dX7_gathers_137 rfl (rk_imul_ok dX7_gathers_138 (rk_iald_ok dX7_gathers_139 (rk_iconst_ok dX7_gathers_140 (by decide) (rk_icmp_eq_ok (pc' := 158) dX7_gathers_141 (by decide) oX7_gathers_158 (rk_aload_n_ok dX7_gathers_144 rfl (rk_gR_ok dX7_gathers_145 rfl iX7 (by decide) rfl wfX7_28 (rk_iconst_ok dX7_gathers_148 (by decide) (rk_iload_n_ok dX7_gathers_149 rfl (rk_imul_ok dX7_gathers_150 (rk_iconst_ok dX7_gathers_151 (by decide) (rk_iadd_ok dX7_gathers_152 (rk_iald_ok dX7_gathers_153 (rk_iconst_ok dX7_gathers_154 (by decide) (rk_icmp_ne_ok (pc' := 162) dX7_gathers_155 (by decide) (rk_aload_n_ok dX7_gathers_162 rfl (rk_gR_ok dX7_gathers_163 rfl iX7 (by decide) rfl wfX7_46 (rk_iload_n_ok dX7_gathers_166 rfl (rk_iald_ok dX7_gathers_167 oX7_gathers_168)))) oX7_gathers_158)))))))))))))))))))))))))))))))))))))))))))))))))))))))))))))))))))))))))))))))))))))))
def bX7_gathers_0 (g : rk_G) (R : rk_R) : rk_K := (rk_aload 0 (rk_gR 7 13 (rk_iload 1 (rk_ci (0) (rk_iast (rk_aload 0 (rk_gR 7 14 (rk_iload 1 (rk_ci (0) (rk_iast (rk_aload 0 (rk_gR 7 15 (rk_iload 1 (rk_ci (0) (rk_iast (rk_aload 0 (rk_gR 7 16 (rk_iload 1 (rk_ci (0) (rk_iast (rk_aload 0 (rk_gR 7 17 (rk_iload 1 (rk_ci (1) (rk_iast (rk_ci (0) (rk_istore 2 (kX7_gathers g R 37))))))))))))))))))))))))))))
theorem eX7_gathers_0 (g : rk_G) (R : rk_R) (ls st : List Value) (σ : rk_M) : bX7_gathers_0 g R ls st σ = (rk_aload 0 (rk_gR 7 13 (rk_iload 1 (rk_ci (0) (rk_iast (rk_aload 0 (rk_gR 7 14 (rk_iload 1 (rk_ci (0) (rk_iast (rk_aload 0 (rk_gR 7 15 (rk_iload 1 (rk_ci (0) (rk_iast (rk_aload 0 (rk_gR 7 16 (rk_iload 1 (rk_ci (0) (rk_iast (rk_aload 0 (rk_gR 7 17 (rk_iload 1 (rk_ci (1) (rk_iast (rk_ci (0) (rk_istore 2 (kX7_gathers g R 37)))))))))))))))))))))))))))) ls st σ := rfl
theorem oX7_gathers_0 {g : rk_G} {R : rk_R} : aX7_gathers g R 0 (bX7_gathers_0 g R) := (rk_aload_n_ok dX7_gathers_0 rfl (rk_gR_ok dX7_gathers_1 rfl iX7 (by decide) rfl wfX7_34 (rk_iload_n_ok dX7_gathers_4 rfl (rk_iconst_ok dX7_gathers_5 (by decide) (rk_iast_ok dX7_gathers_6 (rk_aload_n_ok dX7_gathers_7 rfl (rk_gR_ok dX7_gathers_8 rfl iX7 (by decide) rfl wfX7_37 (rk_iload_n_ok dX7_gathers_11 rfl (rk_iconst_ok dX7_gathers_12 (by decide) (rk_iast_ok dX7_gathers_13 (rk_aload_n_ok dX7_gathers_14 rfl (rk_gR_ok dX7_gathers_15 rfl iX7 (by decide) rfl wfX7_40 (rk_iload_n_ok dX7_gathers_18 rfl (rk_iconst_ok dX7_gathers_19 (by decide) (rk_iast_ok dX7_gathers_20 (rk_aload_n_ok dX7_gathers_21 rfl (rk_gR_ok dX7_gathers_22 rfl iX7 (by decide) rfl wfX7_43 (rk_iload_n_ok dX7_gathers_25 rfl (rk_iconst_ok dX7_gathers_26 (by decide) (rk_iast_ok dX7_gathers_27 (rk_aload_n_ok dX7_gathers_28 rfl (rk_gR_ok dX7_gathers_29 rfl iX7 (by decide) rfl wfX7_46 (rk_iload_n_ok dX7_gathers_32 rfl (rk_iconst_ok dX7_gathers_33 (by decide) (rk_iast_ok dX7_gathers_34 (rk_iconst_ok dX7_gathers_35 (by decide) (rk_istore_n_ok dX7_gathers_36 rfl (by decide) rk_cut_ok)))))))))))))))))))))))))))
theorem dX7_farOf_0 : decode cX7_farOf 0 = .ok (.aload_n 0, 1) := by decide +kernel
theorem dX7_farOf_1 : decode cX7_farOf 1 = .ok (.aload_n 0, 1) := by decide +kernel
theorem dX7_farOf_2 : decode cX7_farOf 2 = .ok (.iload_n 1, 1) := by decide +kernel
theorem dX7_farOf_3 : decode cX7_farOf 3 = .ok (.invokevirtual 219, 3) := by decide +kernel
theorem dX7_farOf_6 : decode cX7_farOf 6 = .ok (.iload_n 2, 1) := by decide +kernel
theorem dX7_farOf_7 : decode cX7_farOf 7 = .ok (.iload_n 3, 1) := by decide +kernel
theorem dX7_farOf_8 : decode cX7_farOf 8 = .ok (.invokevirtual 222, 3) := by decide +kernel
theorem dX7_farOf_11 : decode cX7_farOf 11 = .ok (.ireturn, 1) := by decide +kernel
abbrev kX7_farOf (g : rk_G) (R : rk_R) (pc : Nat) : rk_K := rk_cut g cX7_farOf 4 (some .int) RX7 3 R pc
abbrev aX7_farOf (g : rk_G) (R : rk_R) (pc : Nat) (K : rk_K) : Prop := rk_AK g cX7_farOf 4 (some .int) RX7 3 R pc K
abbrev sX7_farOf (g : rk_G) (vs : List Value) (σ : rk_M) (R : rk_R) : Prop := rk_does g yX7_farOf cX7_farOf 4 (some .int) 3 vs σ R
abbrev tX7_farOf (g : rk_G) (R : rk_R) (pc : Nat) (ls st : List Value) (σ : rk_M) : Prop := rk_At g cX7_farOf 4 (some .int) RX7 3 R pc ls st σ
def bX7_farOf_0 (g : rk_G) (R : rk_R) : rk_K := (rk_aload 0 (rk_aload 0 (rk_iload 1 (rk_cV g 1 7 yX7_sheetBits cX7_sheetBits 4 (some .int) 0 (rk_iload 2 (rk_iload 3 (rk_cV g 3 7 yX7_farBy cX7_farBy 9 (some .int) 2 (rk_iret R))))))))
theorem eX7_farOf_0 (g : rk_G) (R : rk_R) (ls st : List Value) (σ : rk_M) : bX7_farOf_0 g R ls st σ = (rk_aload 0 (rk_aload 0 (rk_iload 1 (rk_cV g 1 7 yX7_sheetBits cX7_sheetBits 4 (some .int) 0 (rk_iload 2 (rk_iload 3 (rk_cV g 3 7 yX7_farBy cX7_farBy 9 (some .int) 2 (rk_iret R)))))))) ls st σ := rfl
theorem oX7_farOf_0 {g : rk_G} {R : rk_R} : aX7_farOf g R 0 (bX7_farOf_0 g R) := (rk_aload_n_ok dX7_farOf_0 rfl (rk_aload_n_ok dX7_farOf_1 rfl (rk_iload_n_ok dX7_farOf_2 rfl (rk_cV_ok dX7_farOf_3 rfl rfl npX7_sheetBits wmX7_219 wvX7_sheetBits weX7_sheetBits wiX7 wdX7_sheetBits (by decide) (by decide) (rk_iload_n_ok dX7_farOf_6 rfl (rk_iload_n_ok dX7_farOf_7 rfl (rk_cV_ok dX7_farOf_8 rfl rfl npX7_farBy wmX7_222 wvX7_farBy weX7_farBy wiX7 wdX7_farBy (by decide) (by decide) (rk_iret_ok rfl dX7_farOf_11))))))))
theorem dX7_isCut_0 : decode cX7_isCut 0 = .ok (.aload_n 0, 1) := by decide +kernel
theorem dX7_isCut_1 : decode cX7_isCut 1 = .ok (.getfield 231, 3) := by decide +kernel
theorem dX7_isCut_4 : decode cX7_isCut 4 = .ok (.iload_n 1, 1) := by decide +kernel
theorem dX7_isCut_5 : decode cX7_isCut 5 = .ok (.invokestatic 204, 3) := by decide +kernel
theorem dX7_isCut_8 : decode cX7_isCut 8 = .ok (.ifCond .eq 26, 3) := by decide +kernel
theorem dX7_isCut_11 : decode cX7_isCut 11 = .ok (.aload_n 0, 1) := by decide +kernel
theorem dX7_isCut_12 : decode cX7_isCut 12 = .ok (.getfield 43, 3) := by decide +kernel
theorem dX7_isCut_15 : decode cX7_isCut 15 = .ok (.iload_n 1, 1) := by decide +kernel
theorem dX7_isCut_16 : decode cX7_isCut 16 = .ok (.iaload, 1) := by decide +kernel
theorem dX7_isCut_17 : decode cX7_isCut 17 = .ok (.iload_n 2, 1) := by decide +kernel
theorem dX7_isCut_18 : decode cX7_isCut 18 = .ok (.if_icmp .ge 16, 3) := by decide +kernel
theorem dX7_isCut_21 : decode cX7_isCut 21 = .ok (.aload_n 0, 1) := by decide +kernel
theorem dX7_isCut_22 : decode cX7_isCut 22 = .ok (.getfield 46, 3) := by decide +kernel
theorem dX7_isCut_25 : decode cX7_isCut 25 = .ok (.iload_n 1, 1) := by decide +kernel
theorem dX7_isCut_26 : decode cX7_isCut 26 = .ok (.iaload, 1) := by decide +kernel
theorem dX7_isCut_27 : decode cX7_isCut 27 = .ok (.ifCond .ne 7, 3) := by decide +kernel
theorem dX7_isCut_30 : decode cX7_isCut 30 = .ok (.iconst 1, 1) := by decide +kernel
theorem dX7_isCut_31 : decode cX7_isCut 31 = .ok (.goto 4, 3) := by decide +kernel
theorem dX7_isCut_34 : decode cX7_isCut 34 = .ok (.iconst 0, 1) := by decide +kernel
theorem dX7_isCut_35 : decode cX7_isCut 35 = .ok (.istore_n 3, 1) := by decide +kernel
theorem dX7_isCut_36 : decode cX7_isCut 36 = .ok (.iload_n 3, 1) := by decide +kernel
theorem dX7_isCut_37 : decode cX7_isCut 37 = .ok (.ifCond .eq 37, 3) := by decide +kernel
theorem dX7_isCut_40 : decode cX7_isCut 40 = .ok (.aload_n 0, 1) := by decide +kernel
theorem dX7_isCut_41 : decode cX7_isCut 41 = .ok (.aload_n 0, 1) := by decide +kernel
theorem dX7_isCut_42 : decode cX7_isCut 42 = .ok (.getfield 55, 3) := by decide +kernel
theorem dX7_isCut_45 : decode cX7_isCut 45 = .ok (.iload_n 1, 1) := by decide +kernel
theorem dX7_isCut_46 : decode cX7_isCut 46 = .ok (.iaload, 1) := by decide +kernel
theorem dX7_isCut_47 : decode cX7_isCut 47 = .ok (.iload_n 1, 1) := by decide +kernel
theorem dX7_isCut_48 : decode cX7_isCut 48 = .ok (.invokevirtual 237, 3) := by decide +kernel
theorem dX7_isCut_51 : decode cX7_isCut 51 = .ok (.ifCond .le 23, 3) := by decide +kernel
theorem dX7_isCut_54 : decode cX7_isCut 54 = .ok (.aload_n 0, 1) := by decide +kernel
theorem dX7_isCut_55 : decode cX7_isCut 55 = .ok (.iload_n 1, 1) := by decide +kernel
theorem dX7_isCut_56 : decode cX7_isCut 56 = .ok (.invokevirtual 240, 3) := by decide +kernel
theorem dX7_isCut_59 : decode cX7_isCut 59 = .ok (.ifCond .eq 15, 3) := by decide +kernel
theorem dX7_isCut_62 : decode cX7_isCut 62 = .ok (.aload_n 0, 1) := by decide +kernel
theorem dX7_isCut_63 : decode cX7_isCut 63 = .ok (.iload_n 1, 1) := by decide +kernel
theorem dX7_isCut_64 : decode cX7_isCut 64 = .ok (.invokevirtual 243, 3) := by decide +kernel
theorem dX7_isCut_67 : decode cX7_isCut 67 = .ok (.ifCond .eq 7, 3) := by decide +kernel
theorem dX7_isCut_70 : decode cX7_isCut 70 = .ok (.iconst 1, 1) := by decide +kernel
theorem dX7_isCut_71 : decode cX7_isCut 71 = .ok (.goto 4, 3) := by decide +kernel
theorem dX7_isCut_74 : decode cX7_isCut 74 = .ok (.iconst 0, 1) := by decide +kernel
theorem dX7_isCut_75 : decode cX7_isCut 75 = .ok (.ireturn, 1) := by decide +kernel
abbrev kX7_isCut (g : rk_G) (R : rk_R) (pc : Nat) : rk_K := rk_cut g cX7_isCut 4 (some .boolean) RX7 3 R pc
abbrev aX7_isCut (g : rk_G) (R : rk_R) (pc : Nat) (K : rk_K) : Prop := rk_AK g cX7_isCut 4 (some .boolean) RX7 3 R pc K
abbrev sX7_isCut (g : rk_G) (vs : List Value) (σ : rk_M) (R : rk_R) : Prop := rk_does g yX7_isCut cX7_isCut 4 (some .boolean) 3 vs σ R
abbrev tX7_isCut (g : rk_G) (R : rk_R) (pc : Nat) (ls st : List Value) (σ : rk_M) : Prop := rk_At g cX7_isCut 4 (some .boolean) RX7 3 R pc ls st σ
def bX7_isCut_75 (g : rk_G) (R : rk_R) : rk_K := (rk_zret R)
theorem eX7_isCut_75 (g : rk_G) (R : rk_R) (ls st : List Value) (σ : rk_M) : bX7_isCut_75 g R ls st σ = (rk_zret R) ls st σ := rfl
theorem oX7_isCut_75 {g : rk_G} {R : rk_R} : aX7_isCut g R 75 (bX7_isCut_75 g R) := (rk_zret_ok rfl dX7_isCut_75)
def bX7_isCut_74 (g : rk_G) (R : rk_R) : rk_K := (rk_ci (0) (bX7_isCut_75 g R))
theorem eX7_isCut_74 (g : rk_G) (R : rk_R) (ls st : List Value) (σ : rk_M) : bX7_isCut_74 g R ls st σ = (rk_ci (0) (bX7_isCut_75 g R)) ls st σ := rfl
theorem oX7_isCut_74 {g : rk_G} {R : rk_R} : aX7_isCut g R 74 (bX7_isCut_74 g R) := (rk_iconst_ok dX7_isCut_74 (by decide) oX7_isCut_75)
def bX7_isCut_35 (g : rk_G) (R : rk_R) : rk_K := (rk_istore 3 (rk_iload 3 (rk_if_eq (bX7_isCut_74 g R) (rk_aload 0 (rk_aload 0 (rk_gR 7 22 (rk_iload 1 (rk_iald (rk_iload 1 (rk_cV g 2 7 yX7_leftOf cX7_leftOf 5 (some .int) 1 (rk_if_le (bX7_isCut_74 g R) (rk_aload 0 (rk_iload 1 (rk_cV g 1 7 yX7_hasLooseEnd cX7_hasLooseEnd 6 (some .boolean) 2 (rk_if_eq (bX7_isCut_74 g R) (rk_aload 0 (rk_iload 1 (rk_cV g 1 7 yX7_isWhole cX7_isWhole 7 (some .boolean) 2 (rk_if_eq (bX7_isCut_74 g R) (rk_ci (1) (bX7_isCut_75 g R)))))))))))))))))))))
theorem eX7_isCut_35 (g : rk_G) (R : rk_R) (ls st : List Value) (σ : rk_M) : bX7_isCut_35 g R ls st σ = (rk_istore 3 (rk_iload 3 (rk_if_eq (bX7_isCut_74 g R) (rk_aload 0 (rk_aload 0 (rk_gR 7 22 (rk_iload 1 (rk_iald (rk_iload 1 (rk_cV g 2 7 yX7_leftOf cX7_leftOf 5 (some .int) 1 (rk_if_le (bX7_isCut_74 g R) (rk_aload 0 (rk_iload 1 (rk_cV g 1 7 yX7_hasLooseEnd cX7_hasLooseEnd 6 (some .boolean) 2 (rk_if_eq (bX7_isCut_74 g R) (rk_aload 0 (rk_iload 1 (rk_cV g 1 7 yX7_isWhole cX7_isWhole 7 (some .boolean) 2 (rk_if_eq (bX7_isCut_74 g R) (rk_ci (1) (bX7_isCut_75 g R))))))))))))))))))))) ls st σ := rfl
theorem oX7_isCut_35 {g : rk_G} {R : rk_R} : aX7_isCut g R 35 (bX7_isCut_35 g R) := (rk_istore_n_ok dX7_isCut_35 rfl (by decide) (rk_iload_n_ok dX7_isCut_36 rfl (rk_if_eq_ok (pc' := 74) dX7_isCut_37 (by decide) oX7_isCut_74 (rk_aload_n_ok dX7_isCut_40 rfl (rk_aload_n_ok dX7_isCut_41 rfl (rk_gR_ok dX7_isCut_42 rfl iX7 (by decide) rfl wfX7_55 (rk_iload_n_ok dX7_isCut_45 rfl (rk_iald_ok dX7_isCut_46 (rk_iload_n_ok dX7_isCut_47 rfl (rk_cV_ok dX7_isCut_48 rfl rfl npX7_leftOf wmX7_237 wvX7_leftOf weX7_leftOf wiX7 wdX7_leftOf (by decide) (by decide) (rk_if_le_ok (pc' := 74) dX7_isCut_51 (by decide) oX7_isCut_74 (rk_aload_n_ok dX7_isCut_54 rfl (rk_iload_n_ok dX7_isCut_55 rfl (rk_cV_ok dX7_isCut_56 rfl rfl npX7_hasLooseEnd wmX7_240 wvX7_hasLooseEnd weX7_hasLooseEnd wiX7 wdX7_hasLooseEnd (by decide) (by decide) (rk_if_eq_ok (pc' := 74) dX7_isCut_59 (by decide) oX7_isCut_74 (rk_aload_n_ok dX7_isCut_62 rfl (rk_iload_n_ok dX7_isCut_63 rfl (rk_cV_ok dX7_isCut_64 rfl rfl npX7_isWhole wmX7_243 wvX7_isWhole weX7_isWhole wiX7 wdX7_isWhole (by decide) (by decide) (rk_if_eq_ok (pc' := 74) dX7_isCut_67 (by decide) oX7_isCut_74 (rk_iconst_ok dX7_isCut_70 (by decide) (rk_goto_ok (pc' := 75) dX7_isCut_71 (by decide) oX7_isCut_75)))))))))))))))))))))
def bX7_isCut_34 (g : rk_G) (R : rk_R) : rk_K := (rk_ci (0) (bX7_isCut_35 g R))
theorem eX7_isCut_34 (g : rk_G) (R : rk_R) (ls st : List Value) (σ : rk_M) : bX7_isCut_34 g R ls st σ = (rk_ci (0) (bX7_isCut_35 g R)) ls st σ := rfl
theorem oX7_isCut_34 {g : rk_G} {R : rk_R} : aX7_isCut g R 34 (bX7_isCut_34 g R) := (rk_iconst_ok dX7_isCut_34 (by decide) oX7_isCut_35)
def bX7_isCut_0 (g : rk_G) (R : rk_R) : rk_K := (rk_aload 0 (rk_gI 7 24 (rk_iload 1 (rk_cS g 2 yX7_isIn cX7_isIn 2 (some .boolean) 0 (rk_if_eq (bX7_isCut_34 g R) (rk_aload 0 (rk_gR 7 16 (rk_iload 1 (rk_iald (rk_iload 2 (rk_icmp_ge (bX7_isCut_34 g R) (rk_aload 0 (rk_gR 7 17 (rk_iload 1 (rk_iald (rk_if_ne (bX7_isCut_34 g R) (rk_ci (1) (bX7_isCut_35 g R))))))))))))))))))
theorem eX7_isCut_0 (g : rk_G) (R : rk_R) (ls st : List Value) (σ : rk_M) : bX7_isCut_0 g R ls st σ = (rk_aload 0 (rk_gI 7 24 (rk_iload 1 (rk_cS g 2 yX7_isIn cX7_isIn 2 (some .boolean) 0 (rk_if_eq (bX7_isCut_34 g R) (rk_aload 0 (rk_gR 7 16 (rk_iload 1 (rk_iald (rk_iload 2 (rk_icmp_ge (bX7_isCut_34 g R) (rk_aload 0 (rk_gR 7 17 (rk_iload 1 (rk_iald (rk_if_ne (bX7_isCut_34 g R) (rk_ci (1) (bX7_isCut_35 g R)))))))))))))))))) ls st σ := rfl
theorem oX7_isCut_0 {g : rk_G} {R : rk_R} : aX7_isCut g R 0 (bX7_isCut_0 g R) := (rk_aload_n_ok dX7_isCut_0 rfl (rk_gI_ok dX7_isCut_1 rfl iX7 (by decide) rfl wfX7_231 (rk_iload_n_ok dX7_isCut_4 rfl (rk_cS_ok dX7_isCut_5 npX7_isIn wmX7_204 wtX7_isIn wiX7 wdX7_isIn (by decide) (by decide) (rk_if_eq_ok (pc' := 34) dX7_isCut_8 (by decide) oX7_isCut_34 (rk_aload_n_ok dX7_isCut_11 rfl (rk_gR_ok dX7_isCut_12 rfl iX7 (by decide) rfl wfX7_43 (rk_iload_n_ok dX7_isCut_15 rfl (rk_iald_ok dX7_isCut_16 (rk_iload_n_ok dX7_isCut_17 rfl (rk_icmp_ge_ok (pc' := 34) dX7_isCut_18 (by decide) oX7_isCut_34 (rk_aload_n_ok dX7_isCut_21 rfl (rk_gR_ok dX7_isCut_22 rfl iX7 (by decide) rfl wfX7_46 (rk_iload_n_ok dX7_isCut_25 rfl (rk_iald_ok dX7_isCut_26 (rk_if_ne_ok (pc' := 34) dX7_isCut_27 (by decide) oX7_isCut_34 (rk_iconst_ok dX7_isCut_30 (by decide) (rk_goto_ok (pc' := 35) dX7_isCut_31 (by decide) oX7_isCut_35))))))))))))))))))
theorem dX7_bridgesOf_0 : decode cX7_bridgesOf 0 = .ok (.aload_n 0, 1) := by decide +kernel
theorem dX7_bridgesOf_1 : decode cX7_bridgesOf 1 = .ok (.iload_n 1, 1) := by decide +kernel
theorem dX7_bridgesOf_2 : decode cX7_bridgesOf 2 = .ok (.invokevirtual 219, 3) := by decide +kernel
theorem dX7_bridgesOf_5 : decode cX7_bridgesOf 5 = .ok (.istore_n 2, 1) := by decide +kernel
theorem dX7_bridgesOf_6 : decode cX7_bridgesOf 6 = .ok (.iconst 0, 1) := by decide +kernel
theorem dX7_bridgesOf_7 : decode cX7_bridgesOf 7 = .ok (.istore_n 3, 1) := by decide +kernel
theorem dX7_bridgesOf_8 : decode cX7_bridgesOf 8 = .ok (.iconst 0, 1) := by decide +kernel
theorem dX7_bridgesOf_9 : decode cX7_bridgesOf 9 = .ok (.istore 4, 2) := by decide +kernel
theorem dX7_bridgesOf_11 : decode cX7_bridgesOf 11 = .ok (.iload 4, 2) := by decide +kernel
theorem dX7_bridgesOf_13 : decode cX7_bridgesOf 13 = .ok (.aload_n 0, 1) := by decide +kernel
theorem dX7_bridgesOf_14 : decode cX7_bridgesOf 14 = .ok (.getfield 85, 3) := by decide +kernel
theorem dX7_bridgesOf_17 : decode cX7_bridgesOf 17 = .ok (.if_icmp .ge 77, 3) := by decide +kernel
theorem dX7_bridgesOf_20 : decode cX7_bridgesOf 20 = .ok (.iload_n 2, 1) := by decide +kernel
theorem dX7_bridgesOf_21 : decode cX7_bridgesOf 21 = .ok (.iload 4, 2) := by decide +kernel
theorem dX7_bridgesOf_23 : decode cX7_bridgesOf 23 = .ok (.invokestatic 204, 3) := by decide +kernel
theorem dX7_bridgesOf_26 : decode cX7_bridgesOf 26 = .ok (.ifCond .eq 43, 3) := by decide +kernel
theorem dX7_bridgesOf_29 : decode cX7_bridgesOf 29 = .ok (.aload_n 0, 1) := by decide +kernel
theorem dX7_bridgesOf_30 : decode cX7_bridgesOf 30 = .ok (.iload_n 2, 1) := by decide +kernel
theorem dX7_bridgesOf_31 : decode cX7_bridgesOf 31 = .ok (.iconst 1, 1) := by decide +kernel
theorem dX7_bridgesOf_32 : decode cX7_bridgesOf 32 = .ok (.iload 4, 2) := by decide +kernel
theorem dX7_bridgesOf_34 : decode cX7_bridgesOf 34 = .ok (.ishl, 1) := by decide +kernel
theorem dX7_bridgesOf_35 : decode cX7_bridgesOf 35 = .ok (.iconst (-1), 1) := by decide +kernel
theorem dX7_bridgesOf_36 : decode cX7_bridgesOf 36 = .ok (.ixor, 1) := by decide +kernel
theorem dX7_bridgesOf_37 : decode cX7_bridgesOf 37 = .ok (.iand, 1) := by decide +kernel
theorem dX7_bridgesOf_38 : decode cX7_bridgesOf 38 = .ok (.aload_n 0, 1) := by decide +kernel
theorem dX7_bridgesOf_39 : decode cX7_bridgesOf 39 = .ok (.getfield 16, 3) := by decide +kernel
theorem dX7_bridgesOf_42 : decode cX7_bridgesOf 42 = .ok (.iconst 2, 1) := by decide +kernel
theorem dX7_bridgesOf_43 : decode cX7_bridgesOf 43 = .ok (.iload 4, 2) := by decide +kernel
theorem dX7_bridgesOf_45 : decode cX7_bridgesOf 45 = .ok (.imul, 1) := by decide +kernel
theorem dX7_bridgesOf_46 : decode cX7_bridgesOf 46 = .ok (.iaload, 1) := by decide +kernel
theorem dX7_bridgesOf_47 : decode cX7_bridgesOf 47 = .ok (.aload_n 0, 1) := by decide +kernel
theorem dX7_bridgesOf_48 : decode cX7_bridgesOf 48 = .ok (.getfield 16, 3) := by decide +kernel
theorem dX7_bridgesOf_51 : decode cX7_bridgesOf 51 = .ok (.iconst 2, 1) := by decide +kernel
theorem dX7_bridgesOf_52 : decode cX7_bridgesOf 52 = .ok (.iload 4, 2) := by decide +kernel
theorem dX7_bridgesOf_54 : decode cX7_bridgesOf 54 = .ok (.imul, 1) := by decide +kernel
theorem dX7_bridgesOf_55 : decode cX7_bridgesOf 55 = .ok (.iconst 1, 1) := by decide +kernel
theorem dX7_bridgesOf_56 : decode cX7_bridgesOf 56 = .ok (.iadd, 1) := by decide +kernel
theorem dX7_bridgesOf_57 : decode cX7_bridgesOf 57 = .ok (.iaload, 1) := by decide +kernel
theorem dX7_bridgesOf_58 : decode cX7_bridgesOf 58 = .ok (.invokevirtual 222, 3) := by decide +kernel
theorem dX7_bridgesOf_61 : decode cX7_bridgesOf 61 = .ok (.iconst (-1), 1) := by decide +kernel
theorem dX7_bridgesOf_62 : decode cX7_bridgesOf 62 = .ok (.if_icmp .ne 7, 3) := by decide +kernel
theorem dX7_bridgesOf_65 : decode cX7_bridgesOf 65 = .ok (.iconst 1, 1) := by decide +kernel
theorem dX7_bridgesOf_66 : decode cX7_bridgesOf 66 = .ok (.goto 4, 3) := by decide +kernel
theorem dX7_bridgesOf_69 : decode cX7_bridgesOf 69 = .ok (.iconst 0, 1) := by decide +kernel
theorem dX7_bridgesOf_70 : decode cX7_bridgesOf 70 = .ok (.istore 5, 2) := by decide +kernel
theorem dX7_bridgesOf_72 : decode cX7_bridgesOf 72 = .ok (.iload_n 3, 1) := by decide +kernel
theorem dX7_bridgesOf_73 : decode cX7_bridgesOf 73 = .ok (.iload 5, 2) := by decide +kernel
theorem dX7_bridgesOf_75 : decode cX7_bridgesOf 75 = .ok (.ifCond .eq 10, 3) := by decide +kernel
theorem dX7_bridgesOf_78 : decode cX7_bridgesOf 78 = .ok (.iconst 1, 1) := by decide +kernel
theorem dX7_bridgesOf_79 : decode cX7_bridgesOf 79 = .ok (.iload 4, 2) := by decide +kernel
theorem dX7_bridgesOf_81 : decode cX7_bridgesOf 81 = .ok (.ishl, 1) := by decide +kernel
theorem dX7_bridgesOf_82 : decode cX7_bridgesOf 82 = .ok (.goto 4, 3) := by decide +kernel
theorem dX7_bridgesOf_85 : decode cX7_bridgesOf 85 = .ok (.iconst 0, 1) := by decide +kernel
theorem dX7_bridgesOf_86 : decode cX7_bridgesOf 86 = .ok (.ior, 1) := by decide +kernel
theorem dX7_bridgesOf_87 : decode cX7_bridgesOf 87 = .ok (.istore_n 3, 1) := by decide +kernel
theorem dX7_bridgesOf_88 : decode cX7_bridgesOf 88 = .ok (.iinc 4 1, 3) := by decide +kernel
theorem dX7_bridgesOf_91 : decode cX7_bridgesOf 91 = .ok (.goto (-80), 3) := by decide +kernel
theorem dX7_bridgesOf_94 : decode cX7_bridgesOf 94 = .ok (.iload_n 3, 1) := by decide +kernel
theorem dX7_bridgesOf_95 : decode cX7_bridgesOf 95 = .ok (.ireturn, 1) := by decide +kernel
abbrev kX7_bridgesOf (g : rk_G) (R : rk_R) (pc : Nat) : rk_K := rk_cut g cX7_bridgesOf 6 (some .int) RX7 3 R pc
abbrev aX7_bridgesOf (g : rk_G) (R : rk_R) (pc : Nat) (K : rk_K) : Prop := rk_AK g cX7_bridgesOf 6 (some .int) RX7 3 R pc K
abbrev sX7_bridgesOf (g : rk_G) (vs : List Value) (σ : rk_M) (R : rk_R) : Prop := rk_does g yX7_bridgesOf cX7_bridgesOf 6 (some .int) 3 vs σ R
abbrev tX7_bridgesOf (g : rk_G) (R : rk_R) (pc : Nat) (ls st : List Value) (σ : rk_M) : Prop := rk_At g cX7_bridgesOf 6 (some .int) RX7 3 R pc ls st σ
def bX7_bridgesOf_86 (g : rk_G) (R : rk_R) : rk_K := (rk_ior (rk_istore 3 (rk_iinc 4 (1) (kX7_bridgesOf g R 11))))
theorem eX7_bridgesOf_86 (g : rk_G) (R : rk_R) (ls st : List Value) (σ : rk_M) : bX7_bridgesOf_86 g R ls st σ = (rk_ior (rk_istore 3 (rk_iinc 4 (1) (kX7_bridgesOf g R 11)))) ls st σ := rfl
theorem oX7_bridgesOf_86 {g : rk_G} {R : rk_R} : aX7_bridgesOf g R 86 (bX7_bridgesOf_86 g R) := (rk_ior_ok dX7_bridgesOf_86 (rk_istore_n_ok dX7_bridgesOf_87 rfl (by decide) (rk_iinc_ok dX7_bridgesOf_88 (by decide) (by decide) (rk_goto_ok (pc' := 11) dX7_bridgesOf_91 (by decide) rk_cut_ok))))
def bX7_bridgesOf_70 (g : rk_G) (R : rk_R) : rk_K := (rk_istore 5 (rk_iload 3 (rk_iload 5 (rk_if_eq (rk_ci (0) (bX7_bridgesOf_86 g R)) (rk_ci (1) (rk_iload 4 (rk_ishl (bX7_bridgesOf_86 g R))))))))
theorem eX7_bridgesOf_70 (g : rk_G) (R : rk_R) (ls st : List Value) (σ : rk_M) : bX7_bridgesOf_70 g R ls st σ = (rk_istore 5 (rk_iload 3 (rk_iload 5 (rk_if_eq (rk_ci (0) (bX7_bridgesOf_86 g R)) (rk_ci (1) (rk_iload 4 (rk_ishl (bX7_bridgesOf_86 g R)))))))) ls st σ := rfl
theorem oX7_bridgesOf_70 {g : rk_G} {R : rk_R} : aX7_bridgesOf g R 70 (bX7_bridgesOf_70 g R) := (rk_istore_ok dX7_bridgesOf_70 (by decide) (rk_iload_n_ok dX7_bridgesOf_72 rfl (rk_iload_ok dX7_bridgesOf_73 (rk_if_eq_ok (pc' := 85) dX7_bridgesOf_75 (by decide) (rk_iconst_ok dX7_bridgesOf_85 (by decide) oX7_bridgesOf_86) (rk_iconst_ok dX7_bridgesOf_78 (by decide) (rk_iload_ok dX7_bridgesOf_79 (rk_ishl_ok dX7_bridgesOf_81 (rk_goto_ok (pc' := 86) dX7_bridgesOf_82 (by decide) oX7_bridgesOf_86))))))))
def bX7_bridgesOf_69 (g : rk_G) (R : rk_R) : rk_K := (rk_ci (0) (bX7_bridgesOf_70 g R))
theorem eX7_bridgesOf_69 (g : rk_G) (R : rk_R) (ls st : List Value) (σ : rk_M) : bX7_bridgesOf_69 g R ls st σ = (rk_ci (0) (bX7_bridgesOf_70 g R)) ls st σ := rfl
theorem oX7_bridgesOf_69 {g : rk_G} {R : rk_R} : aX7_bridgesOf g R 69 (bX7_bridgesOf_69 g R) := (rk_iconst_ok dX7_bridgesOf_69 (by decide) oX7_bridgesOf_70)
def bX7_bridgesOf_11 (g : rk_G) (R : rk_R) : rk_K := (rk_iload 4 (rk_aload 0 (rk_gI 7 3 (rk_icmp_ge (rk_iload 3 (rk_iret R)) (rk_iload 2 (rk_iload 4 (rk_cS g 2 yX7_isIn cX7_isIn 2 (some .boolean) 0 (rk_if_eq (bX7_bridgesOf_69 g R) (rk_aload 0 (rk_iload 2 (rk_ci (1) (rk_iload 4 (rk_ishl (rk_ci (-1) (rk_ixor (rk_iand (rk_aload 0 (rk_gR 7 4 (rk_ci (2) (rk_iload 4 (rk_imul (rk_iald (rk_aload 0 (rk_gR 7 4 (rk_ci (2) (rk_iload 4 (rk_imul (rk_ci (1) (rk_iadd (rk_iald (rk_cV g 3 7 yX7_farBy cX7_farBy 9 (some .int) 2 (rk_ci (-1) (rk_icmp_ne (bX7_bridgesOf_69 g R) (rk_ci (1) (bX7_bridgesOf_70 g R)))))))))))))))))))))))))))))))))))
theorem eX7_bridgesOf_11 (g : rk_G) (R : rk_R) (ls st : List Value) (σ : rk_M) : bX7_bridgesOf_11 g R ls st σ = (rk_iload 4 (rk_aload 0 (rk_gI 7 3 (rk_icmp_ge (rk_iload 3 (rk_iret R)) (rk_iload 2 (rk_iload 4 (rk_cS g 2 yX7_isIn cX7_isIn 2 (some .boolean) 0 (rk_if_eq (bX7_bridgesOf_69 g R) (rk_aload 0 (rk_iload 2 (rk_ci (1) (rk_iload 4 (rk_ishl (rk_ci (-1) (rk_ixor (rk_iand (rk_aload 0 (rk_gR 7 4 (rk_ci (2) (rk_iload 4 (rk_imul (rk_iald (rk_aload 0 (rk_gR 7 4 (rk_ci (2) (rk_iload 4 (rk_imul (rk_ci (1) (rk_iadd (rk_iald (rk_cV g 3 7 yX7_farBy cX7_farBy 9 (some .int) 2 (rk_ci (-1) (rk_icmp_ne (bX7_bridgesOf_69 g R) (rk_ci (1) (bX7_bridgesOf_70 g R))))))))))))))))))))))))))))))))))) ls st σ := rfl
theorem oX7_bridgesOf_11 {g : rk_G} {R : rk_R} : aX7_bridgesOf g R 11 (bX7_bridgesOf_11 g R) := (rk_iload_ok dX7_bridgesOf_11 (rk_aload_n_ok dX7_bridgesOf_13 rfl (rk_gI_ok dX7_bridgesOf_14 rfl iX7 (by decide) rfl wfX7_85 (rk_icmp_ge_ok (pc' := 94) dX7_bridgesOf_17 (by decide) (rk_iload_n_ok dX7_bridgesOf_94 rfl (rk_iret_ok rfl dX7_bridgesOf_95)) (rk_iload_n_ok dX7_bridgesOf_20 rfl (rk_iload_ok dX7_bridgesOf_21 (rk_cS_ok dX7_bridgesOf_23 npX7_isIn wmX7_204 wtX7_isIn wiX7 wdX7_isIn (by decide) (by decide) (rk_if_eq_ok (pc' := 69) dX7_bridgesOf_26 (by decide) oX7_bridgesOf_69 (rk_aload_n_ok dX7_bridgesOf_29 rfl (rk_iload_n_ok dX7_bridgesOf_30 rfl (rk_iconst_ok dX7_bridgesOf_31 (by decide) (rk_iload_ok dX7_bridgesOf_32 (rk_ishl_ok dX7_bridgesOf_34 (rk_iconst_ok dX7_bridgesOf_35 (by decide) (rk_ixor_ok dX7_bridgesOf_36 (rk_iand_ok dX7_bridgesOf_37 (rk_aload_n_ok dX7_bridgesOf_38 rfl (rk_gR_ok dX7_bridgesOf_39 rfl iX7 (by decide) rfl wfX7_16 (rk_iconst_ok dX7_bridgesOf_42 (by decide) (rk_iload_ok dX7_bridgesOf_43 (rk_imul_ok dX7_bridgesOf_45 (rk_iald_ok dX7_bridgesOf_46 (rk_aload_n_ok dX7_bridgesOf_47 rfl (rk_gR_ok dX7_bridgesOf_48 rfl iX7 (by decide) rfl wfX7_16 (rk_iconst_ok dX7_bridgesOf_51 (by decide) (rk_iload_ok dX7_bridgesOf_52 (rk_imul_ok dX7_bridgesOf_54 (rk_iconst_ok dX7_bridgesOf_55 (by decide) (rk_iadd_ok dX7_bridgesOf_56 (rk_iald_ok dX7_bridgesOf_57 (rk_cV_ok dX7_bridgesOf_58 rfl rfl npX7_farBy wmX7_222 wvX7_farBy weX7_farBy wiX7 wdX7_farBy (by decide) (by decide) (rk_iconst_ok dX7_bridgesOf_61 (by decide) (rk_icmp_ne_ok (pc' := 69) dX7_bridgesOf_62 (by decide) oX7_bridgesOf_69 (rk_iconst_ok dX7_bridgesOf_65 (by decide) (rk_goto_ok (pc' := 70) dX7_bridgesOf_66 (by decide) oX7_bridgesOf_70)))))))))))))))))))))))))))))))))))
def bX7_bridgesOf_0 (g : rk_G) (R : rk_R) : rk_K := (rk_aload 0 (rk_iload 1 (rk_cV g 1 7 yX7_sheetBits cX7_sheetBits 4 (some .int) 0 (rk_istore 2 (rk_ci (0) (rk_istore 3 (rk_ci (0) (rk_istore 4 (kX7_bridgesOf g R 11)))))))))
theorem eX7_bridgesOf_0 (g : rk_G) (R : rk_R) (ls st : List Value) (σ : rk_M) : bX7_bridgesOf_0 g R ls st σ = (rk_aload 0 (rk_iload 1 (rk_cV g 1 7 yX7_sheetBits cX7_sheetBits 4 (some .int) 0 (rk_istore 2 (rk_ci (0) (rk_istore 3 (rk_ci (0) (rk_istore 4 (kX7_bridgesOf g R 11))))))))) ls st σ := rfl
theorem oX7_bridgesOf_0 {g : rk_G} {R : rk_R} : aX7_bridgesOf g R 0 (bX7_bridgesOf_0 g R) := (rk_aload_n_ok dX7_bridgesOf_0 rfl (rk_iload_n_ok dX7_bridgesOf_1 rfl (rk_cV_ok dX7_bridgesOf_2 rfl rfl npX7_sheetBits wmX7_219 wvX7_sheetBits weX7_sheetBits wiX7 wdX7_sheetBits (by decide) (by decide) (rk_istore_n_ok dX7_bridgesOf_5 rfl (by decide) (rk_iconst_ok dX7_bridgesOf_6 (by decide) (rk_istore_n_ok dX7_bridgesOf_7 rfl (by decide) (rk_iconst_ok dX7_bridgesOf_8 (by decide) (rk_istore_ok dX7_bridgesOf_9 (by decide) rk_cut_ok))))))))
theorem dX7_detourOf_0 : decode cX7_detourOf 0 = .ok (.aload_n 0, 1) := by decide +kernel
theorem dX7_detourOf_1 : decode cX7_detourOf 1 = .ok (.iconst 1, 1) := by decide +kernel
theorem dX7_detourOf_2 : decode cX7_detourOf 2 = .ok (.aload_n 0, 1) := by decide +kernel
theorem dX7_detourOf_3 : decode cX7_detourOf 3 = .ok (.getfield 85, 3) := by decide +kernel
theorem dX7_detourOf_6 : decode cX7_detourOf 6 = .ok (.ishl, 1) := by decide +kernel
theorem dX7_detourOf_7 : decode cX7_detourOf 7 = .ok (.iconst 1, 1) := by decide +kernel
theorem dX7_detourOf_8 : decode cX7_detourOf 8 = .ok (.isub, 1) := by decide +kernel
theorem dX7_detourOf_9 : decode cX7_detourOf 9 = .ok (.iconst 1, 1) := by decide +kernel
theorem dX7_detourOf_10 : decode cX7_detourOf 10 = .ok (.iload_n 1, 1) := by decide +kernel
theorem dX7_detourOf_11 : decode cX7_detourOf 11 = .ok (.ishl, 1) := by decide +kernel
theorem dX7_detourOf_12 : decode cX7_detourOf 12 = .ok (.iconst (-1), 1) := by decide +kernel
theorem dX7_detourOf_13 : decode cX7_detourOf 13 = .ok (.ixor, 1) := by decide +kernel
theorem dX7_detourOf_14 : decode cX7_detourOf 14 = .ok (.iand, 1) := by decide +kernel
theorem dX7_detourOf_15 : decode cX7_detourOf 15 = .ok (.aload_n 0, 1) := by decide +kernel
theorem dX7_detourOf_16 : decode cX7_detourOf 16 = .ok (.getfield 16, 3) := by decide +kernel
theorem dX7_detourOf_19 : decode cX7_detourOf 19 = .ok (.iconst 2, 1) := by decide +kernel
theorem dX7_detourOf_20 : decode cX7_detourOf 20 = .ok (.iload_n 1, 1) := by decide +kernel
theorem dX7_detourOf_21 : decode cX7_detourOf 21 = .ok (.imul, 1) := by decide +kernel
theorem dX7_detourOf_22 : decode cX7_detourOf 22 = .ok (.iaload, 1) := by decide +kernel
theorem dX7_detourOf_23 : decode cX7_detourOf 23 = .ok (.aload_n 0, 1) := by decide +kernel
theorem dX7_detourOf_24 : decode cX7_detourOf 24 = .ok (.getfield 16, 3) := by decide +kernel
theorem dX7_detourOf_27 : decode cX7_detourOf 27 = .ok (.iconst 2, 1) := by decide +kernel
theorem dX7_detourOf_28 : decode cX7_detourOf 28 = .ok (.iload_n 1, 1) := by decide +kernel
theorem dX7_detourOf_29 : decode cX7_detourOf 29 = .ok (.imul, 1) := by decide +kernel
theorem dX7_detourOf_30 : decode cX7_detourOf 30 = .ok (.iconst 1, 1) := by decide +kernel
theorem dX7_detourOf_31 : decode cX7_detourOf 31 = .ok (.iadd, 1) := by decide +kernel
theorem dX7_detourOf_32 : decode cX7_detourOf 32 = .ok (.iaload, 1) := by decide +kernel
theorem dX7_detourOf_33 : decode cX7_detourOf 33 = .ok (.invokevirtual 222, 3) := by decide +kernel
theorem dX7_detourOf_36 : decode cX7_detourOf 36 = .ok (.istore_n 2, 1) := by decide +kernel
theorem dX7_detourOf_37 : decode cX7_detourOf 37 = .ok (.iload_n 2, 1) := by decide +kernel
theorem dX7_detourOf_38 : decode cX7_detourOf 38 = .ok (.iconst (-1), 1) := by decide +kernel
theorem dX7_detourOf_39 : decode cX7_detourOf 39 = .ok (.if_icmp .ne 7, 3) := by decide +kernel
theorem dX7_detourOf_42 : decode cX7_detourOf 42 = .ok (.iconst (-1), 1) := by decide +kernel
theorem dX7_detourOf_43 : decode cX7_detourOf 43 = .ok (.goto 10, 3) := by decide +kernel
theorem dX7_detourOf_46 : decode cX7_detourOf 46 = .ok (.iload_n 2, 1) := by decide +kernel
theorem dX7_detourOf_47 : decode cX7_detourOf 47 = .ok (.aload_n 0, 1) := by decide +kernel
theorem dX7_detourOf_48 : decode cX7_detourOf 48 = .ok (.iload_n 1, 1) := by decide +kernel
theorem dX7_detourOf_49 : decode cX7_detourOf 49 = .ok (.invokevirtual 156, 3) := by decide +kernel
theorem dX7_detourOf_52 : decode cX7_detourOf 52 = .ok (.isub, 1) := by decide +kernel
theorem dX7_detourOf_53 : decode cX7_detourOf 53 = .ok (.ireturn, 1) := by decide +kernel
abbrev kX7_detourOf (g : rk_G) (R : rk_R) (pc : Nat) : rk_K := rk_cut g cX7_detourOf 3 (some .int) RX7 3 R pc
abbrev aX7_detourOf (g : rk_G) (R : rk_R) (pc : Nat) (K : rk_K) : Prop := rk_AK g cX7_detourOf 3 (some .int) RX7 3 R pc K
abbrev sX7_detourOf (g : rk_G) (vs : List Value) (σ : rk_M) (R : rk_R) : Prop := rk_does g yX7_detourOf cX7_detourOf 3 (some .int) 3 vs σ R
abbrev tX7_detourOf (g : rk_G) (R : rk_R) (pc : Nat) (ls st : List Value) (σ : rk_M) : Prop := rk_At g cX7_detourOf 3 (some .int) RX7 3 R pc ls st σ
def bX7_detourOf_53 (g : rk_G) (R : rk_R) : rk_K := (rk_iret R)
theorem eX7_detourOf_53 (g : rk_G) (R : rk_R) (ls st : List Value) (σ : rk_M) : bX7_detourOf_53 g R ls st σ = (rk_iret R) ls st σ := rfl
theorem oX7_detourOf_53 {g : rk_G} {R : rk_R} : aX7_detourOf g R 53 (bX7_detourOf_53 g R) := (rk_iret_ok rfl dX7_detourOf_53)
def bX7_detourOf_0 (g : rk_G) (R : rk_R) : rk_K := (rk_aload 0 (rk_ci (1) (rk_aload 0 (rk_gI 7 3 (rk_ishl (rk_ci (1) (rk_isub (rk_ci (1) (rk_iload 1 (rk_ishl (rk_ci (-1) (rk_ixor (rk_iand (rk_aload 0 (rk_gR 7 4 (rk_ci (2) (rk_iload 1 (rk_imul (rk_iald (rk_aload 0 (rk_gR 7 4 (rk_ci (2) (rk_iload 1 (rk_imul (rk_ci (1) (rk_iadd (rk_iald (rk_cV g 3 7 yX7_farBy cX7_farBy 9 (some .int) 2 (rk_istore 2 (rk_iload 2 (rk_ci (-1) (rk_icmp_ne (rk_iload 2 (rk_aload 0 (rk_iload 1 (rk_cV g 1 7 yX7_length cX7_length 4 (some .int) 1 (rk_isub (bX7_detourOf_53 g R)))))) (rk_ci (-1) (bX7_detourOf_53 g R))))))))))))))))))))))))))))))))))
theorem eX7_detourOf_0 (g : rk_G) (R : rk_R) (ls st : List Value) (σ : rk_M) : bX7_detourOf_0 g R ls st σ = (rk_aload 0 (rk_ci (1) (rk_aload 0 (rk_gI 7 3 (rk_ishl (rk_ci (1) (rk_isub (rk_ci (1) (rk_iload 1 (rk_ishl (rk_ci (-1) (rk_ixor (rk_iand (rk_aload 0 (rk_gR 7 4 (rk_ci (2) (rk_iload 1 (rk_imul (rk_iald (rk_aload 0 (rk_gR 7 4 (rk_ci (2) (rk_iload 1 (rk_imul (rk_ci (1) (rk_iadd (rk_iald (rk_cV g 3 7 yX7_farBy cX7_farBy 9 (some .int) 2 (rk_istore 2 (rk_iload 2 (rk_ci (-1) (rk_icmp_ne (rk_iload 2 (rk_aload 0 (rk_iload 1 (rk_cV g 1 7 yX7_length cX7_length 4 (some .int) 1 (rk_isub (bX7_detourOf_53 g R)))))) (rk_ci (-1) (bX7_detourOf_53 g R)))))))))))))))))))))))))))))))))) ls st σ := rfl
theorem oX7_detourOf_0 {g : rk_G} {R : rk_R} : aX7_detourOf g R 0 (bX7_detourOf_0 g R) := (rk_aload_n_ok dX7_detourOf_0 rfl (rk_iconst_ok dX7_detourOf_1 (by decide) (rk_aload_n_ok dX7_detourOf_2 rfl (rk_gI_ok dX7_detourOf_3 rfl iX7 (by decide) rfl wfX7_85 (rk_ishl_ok dX7_detourOf_6 (rk_iconst_ok dX7_detourOf_7 (by decide) (rk_isub_ok dX7_detourOf_8 (rk_iconst_ok dX7_detourOf_9 (by decide) (rk_iload_n_ok dX7_detourOf_10 rfl (rk_ishl_ok dX7_detourOf_11 (rk_iconst_ok dX7_detourOf_12 (by decide) (rk_ixor_ok dX7_detourOf_13 (rk_iand_ok dX7_detourOf_14 (rk_aload_n_ok dX7_detourOf_15 rfl (rk_gR_ok dX7_detourOf_16 rfl iX7 (by decide) rfl wfX7_16 (rk_iconst_ok dX7_detourOf_19 (by decide) (rk_iload_n_ok dX7_detourOf_20 rfl (rk_imul_ok dX7_detourOf_21 (rk_iald_ok dX7_detourOf_22 (rk_aload_n_ok dX7_detourOf_23 rfl (rk_gR_ok dX7_detourOf_24 rfl iX7 (by decide) rfl wfX7_16 (rk_iconst_ok dX7_detourOf_27 (by decide) (rk_iload_n_ok dX7_detourOf_28 rfl (rk_imul_ok dX7_detourOf_29 (rk_iconst_ok dX7_detourOf_30 (by decide) (rk_iadd_ok dX7_detourOf_31 (rk_iald_ok dX7_detourOf_32 (rk_cV_ok dX7_detourOf_33 rfl rfl npX7_farBy wmX7_222 wvX7_farBy weX7_farBy wiX7 wdX7_farBy (by decide) (by decide) (rk_istore_n_ok dX7_detourOf_36 rfl (by decide) (rk_iload_n_ok dX7_detourOf_37 rfl (rk_iconst_ok dX7_detourOf_38 (by decide) (rk_icmp_ne_ok (pc' := 46) dX7_detourOf_39 (by decide) (rk_iload_n_ok dX7_detourOf_46 rfl (rk_aload_n_ok dX7_detourOf_47 rfl (rk_iload_n_ok dX7_detourOf_48 rfl (rk_cV_ok dX7_detourOf_49 rfl rfl npX7_length wmX7_156 wvX7_length weX7_length wiX7 wdX7_length (by decide) (by decide) (rk_isub_ok dX7_detourOf_52 oX7_detourOf_53))))) (rk_iconst_ok dX7_detourOf_42 (by decide) (rk_goto_ok (pc' := 53) dX7_detourOf_43 (by decide) oX7_detourOf_53))))))))))))))))))))))))))))))))))
theorem dX7_mayJoin_0 : decode cX7_mayJoin 0 = .ok (.aload_n 0, 1) := by decide +kernel
theorem dX7_mayJoin_1 : decode cX7_mayJoin 1 = .ok (.getfield 19, 3) := by decide +kernel
theorem dX7_mayJoin_4 : decode cX7_mayJoin 4 = .ok (.iload_n 2, 1) := by decide +kernel
theorem dX7_mayJoin_5 : decode cX7_mayJoin 5 = .ok (.iaload, 1) := by decide +kernel
theorem dX7_mayJoin_6 : decode cX7_mayJoin 6 = .ok (.iconst 2, 1) := by decide +kernel
theorem dX7_mayJoin_7 : decode cX7_mayJoin 7 = .ok (.if_icmp .ne 12, 3) := by decide +kernel
theorem dX7_mayJoin_10 : decode cX7_mayJoin 10 = .ok (.aload_n 0, 1) := by decide +kernel
theorem dX7_mayJoin_11 : decode cX7_mayJoin 11 = .ok (.getfield 19, 3) := by decide +kernel
theorem dX7_mayJoin_14 : decode cX7_mayJoin 14 = .ok (.iload_n 3, 1) := by decide +kernel
theorem dX7_mayJoin_15 : decode cX7_mayJoin 15 = .ok (.iaload, 1) := by decide +kernel
theorem dX7_mayJoin_16 : decode cX7_mayJoin 16 = .ok (.ifCond .eq 22, 3) := by decide +kernel
theorem dX7_mayJoin_19 : decode cX7_mayJoin 19 = .ok (.aload_n 0, 1) := by decide +kernel
theorem dX7_mayJoin_20 : decode cX7_mayJoin 20 = .ok (.getfield 19, 3) := by decide +kernel
theorem dX7_mayJoin_23 : decode cX7_mayJoin 23 = .ok (.iload_n 2, 1) := by decide +kernel
theorem dX7_mayJoin_24 : decode cX7_mayJoin 24 = .ok (.iaload, 1) := by decide +kernel
theorem dX7_mayJoin_25 : decode cX7_mayJoin 25 = .ok (.ifCond .ne 17, 3) := by decide +kernel
theorem dX7_mayJoin_28 : decode cX7_mayJoin 28 = .ok (.aload_n 0, 1) := by decide +kernel
theorem dX7_mayJoin_29 : decode cX7_mayJoin 29 = .ok (.getfield 19, 3) := by decide +kernel
theorem dX7_mayJoin_32 : decode cX7_mayJoin 32 = .ok (.iload_n 3, 1) := by decide +kernel
theorem dX7_mayJoin_33 : decode cX7_mayJoin 33 = .ok (.iaload, 1) := by decide +kernel
theorem dX7_mayJoin_34 : decode cX7_mayJoin 34 = .ok (.iconst 2, 1) := by decide +kernel
theorem dX7_mayJoin_35 : decode cX7_mayJoin 35 = .ok (.if_icmp .ne 7, 3) := by decide +kernel
theorem dX7_mayJoin_38 : decode cX7_mayJoin 38 = .ok (.iconst 1, 1) := by decide +kernel
theorem dX7_mayJoin_39 : decode cX7_mayJoin 39 = .ok (.goto 4, 3) := by decide +kernel
theorem dX7_mayJoin_42 : decode cX7_mayJoin 42 = .ok (.iconst 0, 1) := by decide +kernel
theorem dX7_mayJoin_43 : decode cX7_mayJoin 43 = .ok (.istore 4, 2) := by decide +kernel
theorem dX7_mayJoin_45 : decode cX7_mayJoin 45 = .ok (.iload 4, 2) := by decide +kernel
theorem dX7_mayJoin_47 : decode cX7_mayJoin 47 = .ok (.ifCond .ne 17, 3) := by decide +kernel
theorem dX7_mayJoin_50 : decode cX7_mayJoin 50 = .ok (.aload_n 0, 1) := by decide +kernel
theorem dX7_mayJoin_51 : decode cX7_mayJoin 51 = .ok (.iload_n 1, 1) := by decide +kernel
theorem dX7_mayJoin_52 : decode cX7_mayJoin 52 = .ok (.iload_n 2, 1) := by decide +kernel
theorem dX7_mayJoin_53 : decode cX7_mayJoin 53 = .ok (.iload_n 3, 1) := by decide +kernel
theorem dX7_mayJoin_54 : decode cX7_mayJoin 54 = .ok (.invokevirtual 138, 3) := by decide +kernel
theorem dX7_mayJoin_57 : decode cX7_mayJoin 57 = .ok (.ifCond .eq 7, 3) := by decide +kernel
theorem dX7_mayJoin_60 : decode cX7_mayJoin 60 = .ok (.iconst 1, 1) := by decide +kernel
theorem dX7_mayJoin_61 : decode cX7_mayJoin 61 = .ok (.goto 4, 3) := by decide +kernel
theorem dX7_mayJoin_64 : decode cX7_mayJoin 64 = .ok (.iconst 0, 1) := by decide +kernel
theorem dX7_mayJoin_65 : decode cX7_mayJoin 65 = .ok (.ireturn, 1) := by decide +kernel
abbrev kX7_mayJoin (g : rk_G) (R : rk_R) (pc : Nat) : rk_K := rk_cut g cX7_mayJoin 5 (some .boolean) RX7 4 R pc
abbrev aX7_mayJoin (g : rk_G) (R : rk_R) (pc : Nat) (K : rk_K) : Prop := rk_AK g cX7_mayJoin 5 (some .boolean) RX7 4 R pc K
abbrev sX7_mayJoin (g : rk_G) (vs : List Value) (σ : rk_M) (R : rk_R) : Prop := rk_does g yX7_mayJoin cX7_mayJoin 5 (some .boolean) 4 vs σ R
abbrev tX7_mayJoin (g : rk_G) (R : rk_R) (pc : Nat) (ls st : List Value) (σ : rk_M) : Prop := rk_At g cX7_mayJoin 5 (some .boolean) RX7 4 R pc ls st σ
def bX7_mayJoin_65 (g : rk_G) (R : rk_R) : rk_K := (rk_zret R)
theorem eX7_mayJoin_65 (g : rk_G) (R : rk_R) (ls st : List Value) (σ : rk_M) : bX7_mayJoin_65 g R ls st σ = (rk_zret R) ls st σ := rfl
theorem oX7_mayJoin_65 {g : rk_G} {R : rk_R} : aX7_mayJoin g R 65 (bX7_mayJoin_65 g R) := (rk_zret_ok rfl dX7_mayJoin_65)
def bX7_mayJoin_64 (g : rk_G) (R : rk_R) : rk_K := (rk_ci (0) (bX7_mayJoin_65 g R))
theorem eX7_mayJoin_64 (g : rk_G) (R : rk_R) (ls st : List Value) (σ : rk_M) : bX7_mayJoin_64 g R ls st σ = (rk_ci (0) (bX7_mayJoin_65 g R)) ls st σ := rfl
theorem oX7_mayJoin_64 {g : rk_G} {R : rk_R} : aX7_mayJoin g R 64 (bX7_mayJoin_64 g R) := (rk_iconst_ok dX7_mayJoin_64 (by decide) oX7_mayJoin_65)
def bX7_mayJoin_43 (g : rk_G) (R : rk_R) : rk_K := (rk_istore 4 (rk_iload 4 (rk_if_ne (bX7_mayJoin_64 g R) (rk_aload 0 (rk_iload 1 (rk_iload 2 (rk_iload 3 (rk_cV g 3 7 yX7_isAlong cX7_isAlong 6 (some .boolean) 3 (rk_if_eq (bX7_mayJoin_64 g R) (rk_ci (1) (bX7_mayJoin_65 g R)))))))))))
theorem eX7_mayJoin_43 (g : rk_G) (R : rk_R) (ls st : List Value) (σ : rk_M) : bX7_mayJoin_43 g R ls st σ = (rk_istore 4 (rk_iload 4 (rk_if_ne (bX7_mayJoin_64 g R) (rk_aload 0 (rk_iload 1 (rk_iload 2 (rk_iload 3 (rk_cV g 3 7 yX7_isAlong cX7_isAlong 6 (some .boolean) 3 (rk_if_eq (bX7_mayJoin_64 g R) (rk_ci (1) (bX7_mayJoin_65 g R))))))))))) ls st σ := rfl
theorem oX7_mayJoin_43 {g : rk_G} {R : rk_R} : aX7_mayJoin g R 43 (bX7_mayJoin_43 g R) := (rk_istore_ok dX7_mayJoin_43 (by decide) (rk_iload_ok dX7_mayJoin_45 (rk_if_ne_ok (pc' := 64) dX7_mayJoin_47 (by decide) oX7_mayJoin_64 (rk_aload_n_ok dX7_mayJoin_50 rfl (rk_iload_n_ok dX7_mayJoin_51 rfl (rk_iload_n_ok dX7_mayJoin_52 rfl (rk_iload_n_ok dX7_mayJoin_53 rfl (rk_cV_ok dX7_mayJoin_54 rfl rfl npX7_isAlong wmX7_138 wvX7_isAlong weX7_isAlong wiX7 wdX7_isAlong (by decide) (by decide) (rk_if_eq_ok (pc' := 64) dX7_mayJoin_57 (by decide) oX7_mayJoin_64 (rk_iconst_ok dX7_mayJoin_60 (by decide) (rk_goto_ok (pc' := 65) dX7_mayJoin_61 (by decide) oX7_mayJoin_65)))))))))))
def bX7_mayJoin_42 (g : rk_G) (R : rk_R) : rk_K := (rk_ci (0) (bX7_mayJoin_43 g R))
theorem eX7_mayJoin_42 (g : rk_G) (R : rk_R) (ls st : List Value) (σ : rk_M) : bX7_mayJoin_42 g R ls st σ = (rk_ci (0) (bX7_mayJoin_43 g R)) ls st σ := rfl
theorem oX7_mayJoin_42 {g : rk_G} {R : rk_R} : aX7_mayJoin g R 42 (bX7_mayJoin_42 g R) := (rk_iconst_ok dX7_mayJoin_42 (by decide) oX7_mayJoin_43)
def bX7_mayJoin_38 (g : rk_G) (R : rk_R) : rk_K := (rk_ci (1) (bX7_mayJoin_43 g R))
theorem eX7_mayJoin_38 (g : rk_G) (R : rk_R) (ls st : List Value) (σ : rk_M) : bX7_mayJoin_38 g R ls st σ = (rk_ci (1) (bX7_mayJoin_43 g R)) ls st σ := rfl
theorem oX7_mayJoin_38 {g : rk_G} {R : rk_R} : aX7_mayJoin g R 38 (bX7_mayJoin_38 g R) := (rk_iconst_ok dX7_mayJoin_38 (by decide) (rk_goto_ok (pc' := 43) dX7_mayJoin_39 (by decide) oX7_mayJoin_43))
def bX7_mayJoin_19 (g : rk_G) (R : rk_R) : rk_K := (rk_aload 0 (rk_gR 7 5 (rk_iload 2 (rk_iald (rk_if_ne (bX7_mayJoin_42 g R) (rk_aload 0 (rk_gR 7 5 (rk_iload 3 (rk_iald (rk_ci (2) (rk_icmp_ne (bX7_mayJoin_42 g R) (bX7_mayJoin_38 g R))))))))))))
theorem eX7_mayJoin_19 (g : rk_G) (R : rk_R) (ls st : List Value) (σ : rk_M) : bX7_mayJoin_19 g R ls st σ = (rk_aload 0 (rk_gR 7 5 (rk_iload 2 (rk_iald (rk_if_ne (bX7_mayJoin_42 g R) (rk_aload 0 (rk_gR 7 5 (rk_iload 3 (rk_iald (rk_ci (2) (rk_icmp_ne (bX7_mayJoin_42 g R) (bX7_mayJoin_38 g R)))))))))))) ls st σ := rfl
theorem oX7_mayJoin_19 {g : rk_G} {R : rk_R} : aX7_mayJoin g R 19 (bX7_mayJoin_19 g R) := (rk_aload_n_ok dX7_mayJoin_19 rfl (rk_gR_ok dX7_mayJoin_20 rfl iX7 (by decide) rfl wfX7_19 (rk_iload_n_ok dX7_mayJoin_23 rfl (rk_iald_ok dX7_mayJoin_24 (rk_if_ne_ok (pc' := 42) dX7_mayJoin_25 (by decide) oX7_mayJoin_42 (rk_aload_n_ok dX7_mayJoin_28 rfl (rk_gR_ok dX7_mayJoin_29 rfl iX7 (by decide) rfl wfX7_19 (rk_iload_n_ok dX7_mayJoin_32 rfl (rk_iald_ok dX7_mayJoin_33 (rk_iconst_ok dX7_mayJoin_34 (by decide) (rk_icmp_ne_ok (pc' := 42) dX7_mayJoin_35 (by decide) oX7_mayJoin_42 oX7_mayJoin_38)))))))))))
def bX7_mayJoin_0 (g : rk_G) (R : rk_R) : rk_K := (rk_aload 0 (rk_gR 7 5 (rk_iload 2 (rk_iald (rk_ci (2) (rk_icmp_ne (bX7_mayJoin_19 g R) (rk_aload 0 (rk_gR 7 5 (rk_iload 3 (rk_iald (rk_if_eq (bX7_mayJoin_38 g R) (bX7_mayJoin_19 g R))))))))))))
theorem eX7_mayJoin_0 (g : rk_G) (R : rk_R) (ls st : List Value) (σ : rk_M) : bX7_mayJoin_0 g R ls st σ = (rk_aload 0 (rk_gR 7 5 (rk_iload 2 (rk_iald (rk_ci (2) (rk_icmp_ne (bX7_mayJoin_19 g R) (rk_aload 0 (rk_gR 7 5 (rk_iload 3 (rk_iald (rk_if_eq (bX7_mayJoin_38 g R) (bX7_mayJoin_19 g R)))))))))))) ls st σ := rfl
theorem oX7_mayJoin_0 {g : rk_G} {R : rk_R} : aX7_mayJoin g R 0 (bX7_mayJoin_0 g R) := (rk_aload_n_ok dX7_mayJoin_0 rfl (rk_gR_ok dX7_mayJoin_1 rfl iX7 (by decide) rfl wfX7_19 (rk_iload_n_ok dX7_mayJoin_4 rfl (rk_iald_ok dX7_mayJoin_5 (rk_iconst_ok dX7_mayJoin_6 (by decide) (rk_icmp_ne_ok (pc' := 19) dX7_mayJoin_7 (by decide) oX7_mayJoin_19 (rk_aload_n_ok dX7_mayJoin_10 rfl (rk_gR_ok dX7_mayJoin_11 rfl iX7 (by decide) rfl wfX7_19 (rk_iload_n_ok dX7_mayJoin_14 rfl (rk_iald_ok dX7_mayJoin_15 (rk_if_eq_ok (pc' := 38) dX7_mayJoin_16 (by decide) oX7_mayJoin_38 oX7_mayJoin_19)))))))))))
theorem dX7_alongOf_0 : decode cX7_alongOf 0 = .ok (.iload_n 2, 1) := by decide +kernel
theorem dX7_alongOf_1 : decode cX7_alongOf 1 = .ok (.iload_n 3, 1) := by decide +kernel
theorem dX7_alongOf_2 : decode cX7_alongOf 2 = .ok (.if_icmp .eq 21, 3) := by decide +kernel
theorem dX7_alongOf_5 : decode cX7_alongOf 5 = .ok (.aload_n 0, 1) := by decide +kernel
theorem dX7_alongOf_6 : decode cX7_alongOf 6 = .ok (.iload_n 2, 1) := by decide +kernel
theorem dX7_alongOf_7 : decode cX7_alongOf 7 = .ok (.iload_n 1, 1) := by decide +kernel
theorem dX7_alongOf_8 : decode cX7_alongOf 8 = .ok (.invokevirtual 112, 3) := by decide +kernel
theorem dX7_alongOf_11 : decode cX7_alongOf 11 = .ok (.ifCond .eq 12, 3) := by decide +kernel
theorem dX7_alongOf_14 : decode cX7_alongOf 14 = .ok (.aload_n 0, 1) := by decide +kernel
theorem dX7_alongOf_15 : decode cX7_alongOf 15 = .ok (.iload_n 3, 1) := by decide +kernel
theorem dX7_alongOf_16 : decode cX7_alongOf 16 = .ok (.iload_n 1, 1) := by decide +kernel
theorem dX7_alongOf_17 : decode cX7_alongOf 17 = .ok (.invokevirtual 112, 3) := by decide +kernel
theorem dX7_alongOf_20 : decode cX7_alongOf 20 = .ok (.ifCond .ne 8, 3) := by decide +kernel
theorem dX7_alongOf_23 : decode cX7_alongOf 23 = .ok (.bipush (-3), 2) := by decide +kernel
theorem dX7_alongOf_25 : decode cX7_alongOf 25 = .ok (.goto 18, 3) := by decide +kernel
theorem dX7_alongOf_28 : decode cX7_alongOf 28 = .ok (.aload_n 0, 1) := by decide +kernel
theorem dX7_alongOf_29 : decode cX7_alongOf 29 = .ok (.iload_n 1, 1) := by decide +kernel
theorem dX7_alongOf_30 : decode cX7_alongOf 30 = .ok (.iload_n 2, 1) := by decide +kernel
theorem dX7_alongOf_31 : decode cX7_alongOf 31 = .ok (.iload_n 3, 1) := by decide +kernel
theorem dX7_alongOf_32 : decode cX7_alongOf 32 = .ok (.invokevirtual 138, 3) := by decide +kernel
theorem dX7_alongOf_35 : decode cX7_alongOf 35 = .ok (.ifCond .eq 7, 3) := by decide +kernel
theorem dX7_alongOf_38 : decode cX7_alongOf 38 = .ok (.iconst 1, 1) := by decide +kernel
theorem dX7_alongOf_39 : decode cX7_alongOf 39 = .ok (.goto 4, 3) := by decide +kernel
theorem dX7_alongOf_42 : decode cX7_alongOf 42 = .ok (.iconst 0, 1) := by decide +kernel
theorem dX7_alongOf_43 : decode cX7_alongOf 43 = .ok (.ireturn, 1) := by decide +kernel
abbrev kX7_alongOf (g : rk_G) (R : rk_R) (pc : Nat) : rk_K := rk_cut g cX7_alongOf 4 (some .int) RX7 4 R pc
abbrev aX7_alongOf (g : rk_G) (R : rk_R) (pc : Nat) (K : rk_K) : Prop := rk_AK g cX7_alongOf 4 (some .int) RX7 4 R pc K
abbrev sX7_alongOf (g : rk_G) (vs : List Value) (σ : rk_M) (R : rk_R) : Prop := rk_does g yX7_alongOf cX7_alongOf 4 (some .int) 4 vs σ R
abbrev tX7_alongOf (g : rk_G) (R : rk_R) (pc : Nat) (ls st : List Value) (σ : rk_M) : Prop := rk_At g cX7_alongOf 4 (some .int) RX7 4 R pc ls st σ
def bX7_alongOf_43 (g : rk_G) (R : rk_R) : rk_K := (rk_iret R)
theorem eX7_alongOf_43 (g : rk_G) (R : rk_R) (ls st : List Value) (σ : rk_M) : bX7_alongOf_43 g R ls st σ = (rk_iret R) ls st σ := rfl
theorem oX7_alongOf_43 {g : rk_G} {R : rk_R} : aX7_alongOf g R 43 (bX7_alongOf_43 g R) := (rk_iret_ok rfl dX7_alongOf_43)
def bX7_alongOf_23 (g : rk_G) (R : rk_R) : rk_K := (rk_ci (-3) (bX7_alongOf_43 g R))
theorem eX7_alongOf_23 (g : rk_G) (R : rk_R) (ls st : List Value) (σ : rk_M) : bX7_alongOf_23 g R ls st σ = (rk_ci (-3) (bX7_alongOf_43 g R)) ls st σ := rfl
theorem oX7_alongOf_23 {g : rk_G} {R : rk_R} : aX7_alongOf g R 23 (bX7_alongOf_23 g R) := (rk_bipush_ok dX7_alongOf_23 (by decide) (rk_goto_ok (pc' := 43) dX7_alongOf_25 (by decide) oX7_alongOf_43))
def bX7_alongOf_0 (g : rk_G) (R : rk_R) : rk_K := (rk_iload 2 (rk_iload 3 (rk_icmp_eq (bX7_alongOf_23 g R) (rk_aload 0 (rk_iload 2 (rk_iload 1 (rk_cV g 2 7 yX7_isAt cX7_isAt 3 (some .boolean) 0 (rk_if_eq (bX7_alongOf_23 g R) (rk_aload 0 (rk_iload 3 (rk_iload 1 (rk_cV g 2 7 yX7_isAt cX7_isAt 3 (some .boolean) 0 (rk_if_ne (rk_aload 0 (rk_iload 1 (rk_iload 2 (rk_iload 3 (rk_cV g 3 7 yX7_isAlong cX7_isAlong 6 (some .boolean) 3 (rk_if_eq (rk_ci (0) (bX7_alongOf_43 g R)) (rk_ci (1) (bX7_alongOf_43 g R)))))))) (bX7_alongOf_23 g R))))))))))))))
theorem eX7_alongOf_0 (g : rk_G) (R : rk_R) (ls st : List Value) (σ : rk_M) : bX7_alongOf_0 g R ls st σ = (rk_iload 2 (rk_iload 3 (rk_icmp_eq (bX7_alongOf_23 g R) (rk_aload 0 (rk_iload 2 (rk_iload 1 (rk_cV g 2 7 yX7_isAt cX7_isAt 3 (some .boolean) 0 (rk_if_eq (bX7_alongOf_23 g R) (rk_aload 0 (rk_iload 3 (rk_iload 1 (rk_cV g 2 7 yX7_isAt cX7_isAt 3 (some .boolean) 0 (rk_if_ne (rk_aload 0 (rk_iload 1 (rk_iload 2 (rk_iload 3 (rk_cV g 3 7 yX7_isAlong cX7_isAlong 6 (some .boolean) 3 (rk_if_eq (rk_ci (0) (bX7_alongOf_43 g R)) (rk_ci (1) (bX7_alongOf_43 g R)))))))) (bX7_alongOf_23 g R)))))))))))))) ls st σ := rfl
theorem oX7_alongOf_0 {g : rk_G} {R : rk_R} : aX7_alongOf g R 0 (bX7_alongOf_0 g R) := (rk_iload_n_ok dX7_alongOf_0 rfl (rk_iload_n_ok dX7_alongOf_1 rfl (rk_icmp_eq_ok (pc' := 23) dX7_alongOf_2 (by decide) oX7_alongOf_23 (rk_aload_n_ok dX7_alongOf_5 rfl (rk_iload_n_ok dX7_alongOf_6 rfl (rk_iload_n_ok dX7_alongOf_7 rfl (rk_cV_ok dX7_alongOf_8 rfl rfl npX7_isAt wmX7_112 wvX7_isAt weX7_isAt wiX7 wdX7_isAt (by decide) (by decide) (rk_if_eq_ok (pc' := 23) dX7_alongOf_11 (by decide) oX7_alongOf_23 (rk_aload_n_ok dX7_alongOf_14 rfl (rk_iload_n_ok dX7_alongOf_15 rfl (rk_iload_n_ok dX7_alongOf_16 rfl (rk_cV_ok dX7_alongOf_17 rfl rfl npX7_isAt wmX7_112 wvX7_isAt weX7_isAt wiX7 wdX7_isAt (by decide) (by decide) (rk_if_ne_ok (pc' := 28) dX7_alongOf_20 (by decide) (rk_aload_n_ok dX7_alongOf_28 rfl (rk_iload_n_ok dX7_alongOf_29 rfl (rk_iload_n_ok dX7_alongOf_30 rfl (rk_iload_n_ok dX7_alongOf_31 rfl (rk_cV_ok dX7_alongOf_32 rfl rfl npX7_isAlong wmX7_138 wvX7_isAlong weX7_isAlong wiX7 wdX7_isAlong (by decide) (by decide) (rk_if_eq_ok (pc' := 42) dX7_alongOf_35 (by decide) (rk_iconst_ok dX7_alongOf_42 (by decide) oX7_alongOf_43) (rk_iconst_ok dX7_alongOf_38 (by decide) (rk_goto_ok (pc' := 43) dX7_alongOf_39 (by decide) oX7_alongOf_43)))))))) oX7_alongOf_23)))))))))))))
theorem dX7_cuts_0 : decode cX7_cuts 0 = .ok (.aload_n 0, 1) := by decide +kernel
theorem dX7_cuts_1 : decode cX7_cuts 1 = .ok (.iconst 0, 1) := by decide +kernel
theorem dX7_cuts_2 : decode cX7_cuts 2 = .ok (.putfield 231, 3) := by decide +kernel
theorem dX7_cuts_5 : decode cX7_cuts 5 = .ok (.aload_n 0, 1) := by decide +kernel
theorem dX7_cuts_6 : decode cX7_cuts 6 = .ok (.iconst 0, 1) := by decide +kernel
theorem dX7_cuts_7 : decode cX7_cuts 7 = .ok (.putfield 246, 3) := by decide +kernel
theorem dX7_cuts_10 : decode cX7_cuts 10 = .ok (.aload_n 0, 1) := by decide +kernel
theorem dX7_cuts_11 : decode cX7_cuts 11 = .ok (.iconst (-1), 1) := by decide +kernel
theorem dX7_cuts_12 : decode cX7_cuts 12 = .ok (.putfield 249, 3) := by decide +kernel
theorem dX7_cuts_15 : decode cX7_cuts 15 = .ok (.iconst 0, 1) := by decide +kernel
theorem dX7_cuts_16 : decode cX7_cuts 16 = .ok (.istore_n 3, 1) := by decide +kernel
theorem dX7_cuts_17 : decode cX7_cuts 17 = .ok (.iload_n 3, 1) := by decide +kernel
theorem dX7_cuts_18 : decode cX7_cuts 18 = .ok (.iload_n 1, 1) := by decide +kernel
theorem dX7_cuts_19 : decode cX7_cuts 19 = .ok (.if_icmp .ge 26, 3) := by decide +kernel
theorem dX7_cuts_22 : decode cX7_cuts 22 = .ok (.aload_n 0, 1) := by decide +kernel
theorem dX7_cuts_23 : decode cX7_cuts 23 = .ok (.dup, 1) := by decide +kernel
theorem dX7_cuts_24 : decode cX7_cuts 24 = .ok (.getfield 231, 3) := by decide +kernel
theorem dX7_cuts_27 : decode cX7_cuts 27 = .ok (.iconst 1, 1) := by decide +kernel
theorem dX7_cuts_28 : decode cX7_cuts 28 = .ok (.aload_n 0, 1) := by decide +kernel
theorem dX7_cuts_29 : decode cX7_cuts 29 = .ok (.getfield 49, 3) := by decide +kernel
theorem dX7_cuts_32 : decode cX7_cuts 32 = .ok (.iload_n 3, 1) := by decide +kernel
theorem dX7_cuts_33 : decode cX7_cuts 33 = .ok (.iaload, 1) := by decide +kernel
theorem dX7_cuts_34 : decode cX7_cuts 34 = .ok (.ishl, 1) := by decide +kernel
theorem dX7_cuts_35 : decode cX7_cuts 35 = .ok (.ior, 1) := by decide +kernel
theorem dX7_cuts_36 : decode cX7_cuts 36 = .ok (.putfield 231, 3) := by decide +kernel
theorem dX7_cuts_39 : decode cX7_cuts 39 = .ok (.iinc 3 1, 3) := by decide +kernel
theorem dX7_cuts_42 : decode cX7_cuts 42 = .ok (.goto (-25), 3) := by decide +kernel
theorem dX7_cuts_45 : decode cX7_cuts 45 = .ok (.iconst 1, 1) := by decide +kernel
theorem dX7_cuts_46 : decode cX7_cuts 46 = .ok (.istore_n 3, 1) := by decide +kernel
theorem dX7_cuts_47 : decode cX7_cuts 47 = .ok (.iload_n 3, 1) := by decide +kernel
theorem dX7_cuts_48 : decode cX7_cuts 48 = .ok (.ifCond .eq 131, 3) := by decide +kernel
theorem dX7_cuts_51 : decode cX7_cuts 51 = .ok (.iconst (-1), 1) := by decide +kernel
theorem dX7_cuts_52 : decode cX7_cuts 52 = .ok (.istore 4, 2) := by decide +kernel
theorem dX7_cuts_54 : decode cX7_cuts 54 = .ok (.iconst 0, 1) := by decide +kernel
theorem dX7_cuts_55 : decode cX7_cuts 55 = .ok (.istore 5, 2) := by decide +kernel
theorem dX7_cuts_57 : decode cX7_cuts 57 = .ok (.iload 5, 2) := by decide +kernel
theorem dX7_cuts_59 : decode cX7_cuts 59 = .ok (.aload_n 0, 1) := by decide +kernel
theorem dX7_cuts_60 : decode cX7_cuts 60 = .ok (.getfield 165, 3) := by decide +kernel
theorem dX7_cuts_63 : decode cX7_cuts 63 = .ok (.if_icmp .ge 51, 3) := by decide +kernel
theorem dX7_cuts_66 : decode cX7_cuts 66 = .ok (.aload_n 0, 1) := by decide +kernel
theorem dX7_cuts_67 : decode cX7_cuts 67 = .ok (.iload 5, 2) := by decide +kernel
theorem dX7_cuts_69 : decode cX7_cuts 69 = .ok (.iload_n 2, 1) := by decide +kernel
theorem dX7_cuts_70 : decode cX7_cuts 70 = .ok (.invokevirtual 252, 3) := by decide +kernel
theorem dX7_cuts_73 : decode cX7_cuts 73 = .ok (.ifCond .eq 31, 3) := by decide +kernel
theorem dX7_cuts_76 : decode cX7_cuts 76 = .ok (.iload 4, 2) := by decide +kernel
theorem dX7_cuts_78 : decode cX7_cuts 78 = .ok (.iconst (-1), 1) := by decide +kernel
theorem dX7_cuts_79 : decode cX7_cuts 79 = .ok (.if_icmp .eq 20, 3) := by decide +kernel
theorem dX7_cuts_82 : decode cX7_cuts 82 = .ok (.aload_n 0, 1) := by decide +kernel
theorem dX7_cuts_83 : decode cX7_cuts 83 = .ok (.getfield 43, 3) := by decide +kernel
theorem dX7_cuts_86 : decode cX7_cuts 86 = .ok (.iload 5, 2) := by decide +kernel
theorem dX7_cuts_88 : decode cX7_cuts 88 = .ok (.iaload, 1) := by decide +kernel
theorem dX7_cuts_89 : decode cX7_cuts 89 = .ok (.aload_n 0, 1) := by decide +kernel
theorem dX7_cuts_90 : decode cX7_cuts 90 = .ok (.getfield 43, 3) := by decide +kernel
theorem dX7_cuts_93 : decode cX7_cuts 93 = .ok (.iload 4, 2) := by decide +kernel
theorem dX7_cuts_95 : decode cX7_cuts 95 = .ok (.iaload, 1) := by decide +kernel
theorem dX7_cuts_96 : decode cX7_cuts 96 = .ok (.if_icmp .gt 8, 3) := by decide +kernel
theorem dX7_cuts_99 : decode cX7_cuts 99 = .ok (.iload 5, 2) := by decide +kernel
theorem dX7_cuts_101 : decode cX7_cuts 101 = .ok (.goto 5, 3) := by decide +kernel
theorem dX7_cuts_104 : decode cX7_cuts 104 = .ok (.iload 4, 2) := by decide +kernel
theorem dX7_cuts_106 : decode cX7_cuts 106 = .ok (.istore 4, 2) := by decide +kernel
theorem dX7_cuts_108 : decode cX7_cuts 108 = .ok (.iinc 5 1, 3) := by decide +kernel
theorem dX7_cuts_111 : decode cX7_cuts 111 = .ok (.goto (-54), 3) := by decide +kernel
theorem dX7_cuts_114 : decode cX7_cuts 114 = .ok (.iload 4, 2) := by decide +kernel
theorem dX7_cuts_116 : decode cX7_cuts 116 = .ok (.iconst (-1), 1) := by decide +kernel
theorem dX7_cuts_117 : decode cX7_cuts 117 = .ok (.if_icmp .eq 7, 3) := by decide +kernel
theorem dX7_cuts_120 : decode cX7_cuts 120 = .ok (.iconst 1, 1) := by decide +kernel
theorem dX7_cuts_121 : decode cX7_cuts 121 = .ok (.goto 4, 3) := by decide +kernel
theorem dX7_cuts_124 : decode cX7_cuts 124 = .ok (.iconst 0, 1) := by decide +kernel
theorem dX7_cuts_125 : decode cX7_cuts 125 = .ok (.istore_n 3, 1) := by decide +kernel
theorem dX7_cuts_126 : decode cX7_cuts 126 = .ok (.iload_n 3, 1) := by decide +kernel
theorem dX7_cuts_127 : decode cX7_cuts 127 = .ok (.ifCond .eq 49, 3) := by decide +kernel
theorem dX7_cuts_130 : decode cX7_cuts 130 = .ok (.aload_n 0, 1) := by decide +kernel
theorem dX7_cuts_131 : decode cX7_cuts 131 = .ok (.dup, 1) := by decide +kernel
theorem dX7_cuts_132 : decode cX7_cuts 132 = .ok (.getfield 231, 3) := by decide +kernel
theorem dX7_cuts_135 : decode cX7_cuts 135 = .ok (.iconst 1, 1) := by decide +kernel
theorem dX7_cuts_136 : decode cX7_cuts 136 = .ok (.iload 4, 2) := by decide +kernel
theorem dX7_cuts_138 : decode cX7_cuts 138 = .ok (.ishl, 1) := by decide +kernel
theorem dX7_cuts_139 : decode cX7_cuts 139 = .ok (.iconst (-1), 1) := by decide +kernel
theorem dX7_cuts_140 : decode cX7_cuts 140 = .ok (.ixor, 1) := by decide +kernel
theorem dX7_cuts_141 : decode cX7_cuts 141 = .ok (.iand, 1) := by decide +kernel
theorem dX7_cuts_142 : decode cX7_cuts 142 = .ok (.putfield 231, 3) := by decide +kernel
theorem dX7_cuts_145 : decode cX7_cuts 145 = .ok (.aload_n 0, 1) := by decide +kernel
theorem dX7_cuts_146 : decode cX7_cuts 146 = .ok (.dup, 1) := by decide +kernel
theorem dX7_cuts_147 : decode cX7_cuts 147 = .ok (.getfield 246, 3) := by decide +kernel
theorem dX7_cuts_150 : decode cX7_cuts 150 = .ok (.iconst 1, 1) := by decide +kernel
theorem dX7_cuts_151 : decode cX7_cuts 151 = .ok (.iadd, 1) := by decide +kernel
theorem dX7_cuts_152 : decode cX7_cuts 152 = .ok (.putfield 246, 3) := by decide +kernel
theorem dX7_cuts_155 : decode cX7_cuts 155 = .ok (.aload_n 0, 1) := by decide +kernel
theorem dX7_cuts_156 : decode cX7_cuts 156 = .ok (.aload_n 0, 1) := by decide +kernel
theorem dX7_cuts_157 : decode cX7_cuts 157 = .ok (.getfield 249, 3) := by decide +kernel
theorem dX7_cuts_160 : decode cX7_cuts 160 = .ok (.iconst (-1), 1) := by decide +kernel
theorem dX7_cuts_161 : decode cX7_cuts 161 = .ok (.if_icmp .ne 8, 3) := by decide +kernel
theorem dX7_cuts_164 : decode cX7_cuts 164 = .ok (.iload 4, 2) := by decide +kernel
theorem dX7_cuts_166 : decode cX7_cuts 166 = .ok (.goto 7, 3) := by decide +kernel
theorem dX7_cuts_169 : decode cX7_cuts 169 = .ok (.aload_n 0, 1) := by decide +kernel
theorem dX7_cuts_170 : decode cX7_cuts 170 = .ok (.getfield 249, 3) := by decide +kernel
theorem dX7_cuts_173 : decode cX7_cuts 173 = .ok (.putfield 249, 3) := by decide +kernel
theorem dX7_cuts_176 : decode cX7_cuts 176 = .ok (.goto (-129), 3) := by decide +kernel
theorem dX7_cuts_179 : decode cX7_cuts 179 = .ok (.return_, 1) := by decide +kernel
abbrev kX7_cuts (g : rk_G) (R : rk_R) (pc : Nat) : rk_K := rk_cut g cX7_cuts 6 none RX7 4 R pc
abbrev aX7_cuts (g : rk_G) (R : rk_R) (pc : Nat) (K : rk_K) : Prop := rk_AK g cX7_cuts 6 none RX7 4 R pc K
abbrev sX7_cuts (g : rk_G) (vs : List Value) (σ : rk_M) (R : rk_R) : Prop := rk_does g yX7_cuts cX7_cuts 6 none 4 vs σ R
abbrev tX7_cuts (g : rk_G) (R : rk_R) (pc : Nat) (ls st : List Value) (σ : rk_M) : Prop := rk_At g cX7_cuts 6 none RX7 4 R pc ls st σ
def bX7_cuts_176 (g : rk_G) (R : rk_R) : rk_K := (kX7_cuts g R 47)
theorem eX7_cuts_176 (g : rk_G) (R : rk_R) (ls st : List Value) (σ : rk_M) : bX7_cuts_176 g R ls st σ = (kX7_cuts g R 47) ls st σ := rfl
theorem oX7_cuts_176 {g : rk_G} {R : rk_R} : aX7_cuts g R 176 (bX7_cuts_176 g R) := (rk_goto_ok (pc' := 47) dX7_cuts_176 (by decide) rk_cut_ok)
def bX7_cuts_173 (g : rk_G) (R : rk_R) : rk_K := (rk_pI 7 26 (bX7_cuts_176 g R))
theorem eX7_cuts_173 (g : rk_G) (R : rk_R) (ls st : List Value) (σ : rk_M) : bX7_cuts_173 g R ls st σ = (rk_pI 7 26 (bX7_cuts_176 g R)) ls st σ := rfl
theorem oX7_cuts_173 {g : rk_G} {R : rk_R} : aX7_cuts g R 173 (bX7_cuts_173 g R) := (rk_pI_ok dX7_cuts_173 rfl iX7 tyX7_ok nmX7 (by decide) rfl rfl (by decide +kernel) wfX7_249 oX7_cuts_176)
def bX7_cuts_125 (g : rk_G) (R : rk_R) : rk_K := (rk_istore 3 (rk_iload 3 (rk_if_eq (bX7_cuts_176 g R) (rk_aload 0 (rk_dup (rk_gI 7 24 (rk_ci (1) (rk_iload 4 (rk_ishl (rk_ci (-1) (rk_ixor (rk_iand (rk_pI 7 24 (rk_aload 0 (rk_dup (rk_gI 7 25 (rk_ci (1) (rk_iadd (rk_pI 7 25 (rk_aload 0 (rk_aload 0 (rk_gI 7 26 (rk_ci (-1) (rk_icmp_ne (rk_aload 0 (rk_gI 7 26 (bX7_cuts_173 g R))) (rk_iload 4 (bX7_cuts_173 g R))))))))))))))))))))))))))
theorem eX7_cuts_125 (g : rk_G) (R : rk_R) (ls st : List Value) (σ : rk_M) : bX7_cuts_125 g R ls st σ = (rk_istore 3 (rk_iload 3 (rk_if_eq (bX7_cuts_176 g R) (rk_aload 0 (rk_dup (rk_gI 7 24 (rk_ci (1) (rk_iload 4 (rk_ishl (rk_ci (-1) (rk_ixor (rk_iand (rk_pI 7 24 (rk_aload 0 (rk_dup (rk_gI 7 25 (rk_ci (1) (rk_iadd (rk_pI 7 25 (rk_aload 0 (rk_aload 0 (rk_gI 7 26 (rk_ci (-1) (rk_icmp_ne (rk_aload 0 (rk_gI 7 26 (bX7_cuts_173 g R))) (rk_iload 4 (bX7_cuts_173 g R)))))))))))))))))))))))))) ls st σ := rfl
theorem oX7_cuts_125 {g : rk_G} {R : rk_R} : aX7_cuts g R 125 (bX7_cuts_125 g R) := (rk_istore_n_ok dX7_cuts_125 rfl (by decide) (rk_iload_n_ok dX7_cuts_126 rfl (rk_if_eq_ok (pc' := 176) dX7_cuts_127 (by decide) oX7_cuts_176 (rk_aload_n_ok dX7_cuts_130 rfl (rk_dup_ok dX7_cuts_131 (rk_gI_ok dX7_cuts_132 rfl iX7 (by decide) rfl wfX7_231 (rk_iconst_ok dX7_cuts_135 (by decide) (rk_iload_ok dX7_cuts_136 (rk_ishl_ok dX7_cuts_138 (rk_iconst_ok dX7_cuts_139 (by decide) (rk_ixor_ok dX7_cuts_140 (rk_iand_ok dX7_cuts_141 (rk_pI_ok dX7_cuts_142 rfl iX7 tyX7_ok nmX7 (by decide) rfl rfl (by decide +kernel) wfX7_231 (rk_aload_n_ok dX7_cuts_145 rfl (rk_dup_ok dX7_cuts_146 (rk_gI_ok dX7_cuts_147 rfl iX7 (by decide) rfl wfX7_246 (rk_iconst_ok dX7_cuts_150 (by decide) (rk_iadd_ok dX7_cuts_151 (rk_pI_ok dX7_cuts_152 rfl iX7 tyX7_ok nmX7 (by decide) rfl rfl (by decide +kernel) wfX7_246 (rk_aload_n_ok dX7_cuts_155 rfl (rk_aload_n_ok dX7_cuts_156 rfl (rk_gI_ok dX7_cuts_157 rfl iX7 (by decide) rfl wfX7_249 (rk_iconst_ok dX7_cuts_160 (by decide) (rk_icmp_ne_ok (pc' := 169) dX7_cuts_161 (by decide) (rk_aload_n_ok dX7_cuts_169 rfl (rk_gI_ok dX7_cuts_170 rfl iX7 (by decide) rfl wfX7_249 oX7_cuts_173)) (rk_iload_ok dX7_cuts_164 (rk_goto_ok (pc' := 173) dX7_cuts_166 (by decide) oX7_cuts_173))))))))))))))))))))))))))
def bX7_cuts_106 (g : rk_G) (R : rk_R) : rk_K := (rk_istore 4 (rk_iinc 5 (1) (kX7_cuts g R 57)))
theorem eX7_cuts_106 (g : rk_G) (R : rk_R) (ls st : List Value) (σ : rk_M) : bX7_cuts_106 g R ls st σ = (rk_istore 4 (rk_iinc 5 (1) (kX7_cuts g R 57))) ls st σ := rfl
theorem oX7_cuts_106 {g : rk_G} {R : rk_R} : aX7_cuts g R 106 (bX7_cuts_106 g R) := (rk_istore_ok dX7_cuts_106 (by decide) (rk_iinc_ok dX7_cuts_108 (by decide) (by decide) (rk_goto_ok (pc' := 57) dX7_cuts_111 (by decide) rk_cut_ok)))
def bX7_cuts_104 (g : rk_G) (R : rk_R) : rk_K := (rk_iload 4 (bX7_cuts_106 g R))
theorem eX7_cuts_104 (g : rk_G) (R : rk_R) (ls st : List Value) (σ : rk_M) : bX7_cuts_104 g R ls st σ = (rk_iload 4 (bX7_cuts_106 g R)) ls st σ := rfl
theorem oX7_cuts_104 {g : rk_G} {R : rk_R} : aX7_cuts g R 104 (bX7_cuts_104 g R) := (rk_iload_ok dX7_cuts_104 oX7_cuts_106)
def bX7_cuts_99 (g : rk_G) (R : rk_R) : rk_K := (rk_iload 5 (bX7_cuts_106 g R))
theorem eX7_cuts_99 (g : rk_G) (R : rk_R) (ls st : List Value) (σ : rk_M) : bX7_cuts_99 g R ls st σ = (rk_iload 5 (bX7_cuts_106 g R)) ls st σ := rfl
theorem oX7_cuts_99 {g : rk_G} {R : rk_R} : aX7_cuts g R 99 (bX7_cuts_99 g R) := (rk_iload_ok dX7_cuts_99 (rk_goto_ok (pc' := 106) dX7_cuts_101 (by decide) oX7_cuts_106))
def bX7_cuts_57 (g : rk_G) (R : rk_R) : rk_K := (rk_iload 5 (rk_aload 0 (rk_gI 7 11 (rk_icmp_ge (rk_iload 4 (rk_ci (-1) (rk_icmp_eq (rk_ci (0) (bX7_cuts_125 g R)) (rk_ci (1) (bX7_cuts_125 g R))))) (rk_aload 0 (rk_iload 5 (rk_iload 2 (rk_cV g 2 7 yX7_isCut cX7_isCut 4 (some .boolean) 3 (rk_if_eq (bX7_cuts_104 g R) (rk_iload 4 (rk_ci (-1) (rk_icmp_eq (bX7_cuts_99 g R) (rk_aload 0 (rk_gR 7 16 (rk_iload 5 (rk_iald (rk_aload 0 (rk_gR 7 16 (rk_iload 4 (rk_iald (rk_icmp_gt (bX7_cuts_104 g R) (bX7_cuts_99 g R))))))))))))))))))))))
theorem eX7_cuts_57 (g : rk_G) (R : rk_R) (ls st : List Value) (σ : rk_M) : bX7_cuts_57 g R ls st σ = (rk_iload 5 (rk_aload 0 (rk_gI 7 11 (rk_icmp_ge (rk_iload 4 (rk_ci (-1) (rk_icmp_eq (rk_ci (0) (bX7_cuts_125 g R)) (rk_ci (1) (bX7_cuts_125 g R))))) (rk_aload 0 (rk_iload 5 (rk_iload 2 (rk_cV g 2 7 yX7_isCut cX7_isCut 4 (some .boolean) 3 (rk_if_eq (bX7_cuts_104 g R) (rk_iload 4 (rk_ci (-1) (rk_icmp_eq (bX7_cuts_99 g R) (rk_aload 0 (rk_gR 7 16 (rk_iload 5 (rk_iald (rk_aload 0 (rk_gR 7 16 (rk_iload 4 (rk_iald (rk_icmp_gt (bX7_cuts_104 g R) (bX7_cuts_99 g R)))))))))))))))))))))) ls st σ := rfl
theorem oX7_cuts_57 {g : rk_G} {R : rk_R} : aX7_cuts g R 57 (bX7_cuts_57 g R) := (rk_iload_ok dX7_cuts_57 (rk_aload_n_ok dX7_cuts_59 rfl (rk_gI_ok dX7_cuts_60 rfl iX7 (by decide) rfl wfX7_165 (rk_icmp_ge_ok (pc' := 114) dX7_cuts_63 (by decide) (rk_iload_ok dX7_cuts_114 (rk_iconst_ok dX7_cuts_116 (by decide) (rk_icmp_eq_ok (pc' := 124) dX7_cuts_117 (by decide) (rk_iconst_ok dX7_cuts_124 (by decide) oX7_cuts_125) (rk_iconst_ok dX7_cuts_120 (by decide) (rk_goto_ok (pc' := 125) dX7_cuts_121 (by decide) oX7_cuts_125))))) (rk_aload_n_ok dX7_cuts_66 rfl (rk_iload_ok dX7_cuts_67 (rk_iload_n_ok dX7_cuts_69 rfl (rk_cV_ok dX7_cuts_70 rfl rfl npX7_isCut wmX7_252 wvX7_isCut weX7_isCut wiX7 wdX7_isCut (by decide) (by decide) (rk_if_eq_ok (pc' := 104) dX7_cuts_73 (by decide) oX7_cuts_104 (rk_iload_ok dX7_cuts_76 (rk_iconst_ok dX7_cuts_78 (by decide) (rk_icmp_eq_ok (pc' := 99) dX7_cuts_79 (by decide) oX7_cuts_99 (rk_aload_n_ok dX7_cuts_82 rfl (rk_gR_ok dX7_cuts_83 rfl iX7 (by decide) rfl wfX7_43 (rk_iload_ok dX7_cuts_86 (rk_iald_ok dX7_cuts_88 (rk_aload_n_ok dX7_cuts_89 rfl (rk_gR_ok dX7_cuts_90 rfl iX7 (by decide) rfl wfX7_43 (rk_iload_ok dX7_cuts_93 (rk_iald_ok dX7_cuts_95 (rk_icmp_gt_ok (pc' := 104) dX7_cuts_96 (by decide) oX7_cuts_104 oX7_cuts_99)))))))))))))))))))))
def bX7_cuts_47 (g : rk_G) (R : rk_R) : rk_K := (rk_iload 3 (rk_if_eq (rk_vret R) (rk_ci (-1) (rk_istore 4 (rk_ci (0) (rk_istore 5 (kX7_cuts g R 57)))))))
theorem eX7_cuts_47 (g : rk_G) (R : rk_R) (ls st : List Value) (σ : rk_M) : bX7_cuts_47 g R ls st σ = (rk_iload 3 (rk_if_eq (rk_vret R) (rk_ci (-1) (rk_istore 4 (rk_ci (0) (rk_istore 5 (kX7_cuts g R 57))))))) ls st σ := rfl
theorem oX7_cuts_47 {g : rk_G} {R : rk_R} : aX7_cuts g R 47 (bX7_cuts_47 g R) := (rk_iload_n_ok dX7_cuts_47 rfl (rk_if_eq_ok (pc' := 179) dX7_cuts_48 (by decide) (rk_vret_ok rfl dX7_cuts_179) (rk_iconst_ok dX7_cuts_51 (by decide) (rk_istore_ok dX7_cuts_52 (by decide) (rk_iconst_ok dX7_cuts_54 (by decide) (rk_istore_ok dX7_cuts_55 (by decide) rk_cut_ok))))))
def bX7_cuts_17 (g : rk_G) (R : rk_R) : rk_K := (rk_iload 3 (rk_iload 1 (rk_icmp_ge (rk_ci (1) (rk_istore 3 (kX7_cuts g R 47))) (rk_aload 0 (rk_dup (rk_gI 7 24 (rk_ci (1) (rk_aload 0 (rk_gR 7 20 (rk_iload 3 (rk_iald (rk_ishl (rk_ior (rk_pI 7 24 (rk_iinc 3 (1) (kX7_cuts g R 17))))))))))))))))
theorem eX7_cuts_17 (g : rk_G) (R : rk_R) (ls st : List Value) (σ : rk_M) : bX7_cuts_17 g R ls st σ = (rk_iload 3 (rk_iload 1 (rk_icmp_ge (rk_ci (1) (rk_istore 3 (kX7_cuts g R 47))) (rk_aload 0 (rk_dup (rk_gI 7 24 (rk_ci (1) (rk_aload 0 (rk_gR 7 20 (rk_iload 3 (rk_iald (rk_ishl (rk_ior (rk_pI 7 24 (rk_iinc 3 (1) (kX7_cuts g R 17)))))))))))))))) ls st σ := rfl
theorem oX7_cuts_17 {g : rk_G} {R : rk_R} : aX7_cuts g R 17 (bX7_cuts_17 g R) := (rk_iload_n_ok dX7_cuts_17 rfl (rk_iload_n_ok dX7_cuts_18 rfl (rk_icmp_ge_ok (pc' := 45) dX7_cuts_19 (by decide) (rk_iconst_ok dX7_cuts_45 (by decide) (rk_istore_n_ok dX7_cuts_46 rfl (by decide) rk_cut_ok)) (rk_aload_n_ok dX7_cuts_22 rfl (rk_dup_ok dX7_cuts_23 (rk_gI_ok dX7_cuts_24 rfl iX7 (by decide) rfl wfX7_231 (rk_iconst_ok dX7_cuts_27 (by decide) (rk_aload_n_ok dX7_cuts_28 rfl (rk_gR_ok dX7_cuts_29 rfl iX7 (by decide) rfl wfX7_49 (rk_iload_n_ok dX7_cuts_32 rfl (rk_iald_ok dX7_cuts_33 (rk_ishl_ok dX7_cuts_34 (rk_ior_ok dX7_cuts_35 (rk_pI_ok dX7_cuts_36 rfl iX7 tyX7_ok nmX7 (by decide) rfl rfl (by decide +kernel) wfX7_231 (rk_iinc_ok dX7_cuts_39 (by decide) (by decide) (rk_goto_ok (pc' := 17) dX7_cuts_42 (by decide) rk_cut_ok))))))))))))))))
def bX7_cuts_0 (g : rk_G) (R : rk_R) : rk_K := (rk_aload 0 (rk_ci (0) (rk_pI 7 24 (rk_aload 0 (rk_ci (0) (rk_pI 7 25 (rk_aload 0 (rk_ci (-1) (rk_pI 7 26 (rk_ci (0) (rk_istore 3 (kX7_cuts g R 17))))))))))))
theorem eX7_cuts_0 (g : rk_G) (R : rk_R) (ls st : List Value) (σ : rk_M) : bX7_cuts_0 g R ls st σ = (rk_aload 0 (rk_ci (0) (rk_pI 7 24 (rk_aload 0 (rk_ci (0) (rk_pI 7 25 (rk_aload 0 (rk_ci (-1) (rk_pI 7 26 (rk_ci (0) (rk_istore 3 (kX7_cuts g R 17)))))))))))) ls st σ := rfl
theorem oX7_cuts_0 {g : rk_G} {R : rk_R} : aX7_cuts g R 0 (bX7_cuts_0 g R) := (rk_aload_n_ok dX7_cuts_0 rfl (rk_iconst_ok dX7_cuts_1 (by decide) (rk_pI_ok dX7_cuts_2 rfl iX7 tyX7_ok nmX7 (by decide) rfl rfl (by decide +kernel) wfX7_231 (rk_aload_n_ok dX7_cuts_5 rfl (rk_iconst_ok dX7_cuts_6 (by decide) (rk_pI_ok dX7_cuts_7 rfl iX7 tyX7_ok nmX7 (by decide) rfl rfl (by decide +kernel) wfX7_246 (rk_aload_n_ok dX7_cuts_10 rfl (rk_iconst_ok dX7_cuts_11 (by decide) (rk_pI_ok dX7_cuts_12 rfl iX7 tyX7_ok nmX7 (by decide) rfl rfl (by decide +kernel) wfX7_249 (rk_iconst_ok dX7_cuts_15 (by decide) (rk_istore_n_ok dX7_cuts_16 rfl (by decide) rk_cut_ok)))))))))))
theorem dX7_detour_0 : decode cX7_detour 0 = .ok (.aload_n 0, 1) := by decide +kernel
theorem dX7_detour_1 : decode cX7_detour 1 = .ok (.iload_n 1, 1) := by decide +kernel
theorem dX7_detour_2 : decode cX7_detour 2 = .ok (.invokevirtual 102, 3) := by decide +kernel
theorem dX7_detour_5 : decode cX7_detour 5 = .ok (.ifCond .eq 11, 3) := by decide +kernel
theorem dX7_detour_8 : decode cX7_detour 8 = .ok (.aload_n 0, 1) := by decide +kernel
theorem dX7_detour_9 : decode cX7_detour 9 = .ok (.iload_n 1, 1) := by decide +kernel
theorem dX7_detour_10 : decode cX7_detour 10 = .ok (.invokevirtual 265, 3) := by decide +kernel
theorem dX7_detour_13 : decode cX7_detour 13 = .ok (.goto 5, 3) := by decide +kernel
theorem dX7_detour_16 : decode cX7_detour 16 = .ok (.bipush (-2), 2) := by decide +kernel
theorem dX7_detour_18 : decode cX7_detour 18 = .ok (.ireturn, 1) := by decide +kernel
abbrev kX7_detour (g : rk_G) (R : rk_R) (pc : Nat) : rk_K := rk_cut g cX7_detour 2 (some .int) RX7 4 R pc
abbrev aX7_detour (g : rk_G) (R : rk_R) (pc : Nat) (K : rk_K) : Prop := rk_AK g cX7_detour 2 (some .int) RX7 4 R pc K
abbrev sX7_detour (g : rk_G) (vs : List Value) (σ : rk_M) (R : rk_R) : Prop := rk_does g yX7_detour cX7_detour 2 (some .int) 4 vs σ R
abbrev tX7_detour (g : rk_G) (R : rk_R) (pc : Nat) (ls st : List Value) (σ : rk_M) : Prop := rk_At g cX7_detour 2 (some .int) RX7 4 R pc ls st σ
def bX7_detour_18 (g : rk_G) (R : rk_R) : rk_K := (rk_iret R)
theorem eX7_detour_18 (g : rk_G) (R : rk_R) (ls st : List Value) (σ : rk_M) : bX7_detour_18 g R ls st σ = (rk_iret R) ls st σ := rfl
theorem oX7_detour_18 {g : rk_G} {R : rk_R} : aX7_detour g R 18 (bX7_detour_18 g R) := (rk_iret_ok rfl dX7_detour_18)
def bX7_detour_0 (g : rk_G) (R : rk_R) : rk_K := (rk_aload 0 (rk_iload 1 (rk_cV g 1 7 yX7_isRoad cX7_isRoad 2 (some .boolean) 1 (rk_if_eq (rk_ci (-2) (bX7_detour_18 g R)) (rk_aload 0 (rk_iload 1 (rk_cV g 1 7 yX7_detourOf cX7_detourOf 3 (some .int) 3 (bX7_detour_18 g R))))))))
theorem eX7_detour_0 (g : rk_G) (R : rk_R) (ls st : List Value) (σ : rk_M) : bX7_detour_0 g R ls st σ = (rk_aload 0 (rk_iload 1 (rk_cV g 1 7 yX7_isRoad cX7_isRoad 2 (some .boolean) 1 (rk_if_eq (rk_ci (-2) (bX7_detour_18 g R)) (rk_aload 0 (rk_iload 1 (rk_cV g 1 7 yX7_detourOf cX7_detourOf 3 (some .int) 3 (bX7_detour_18 g R)))))))) ls st σ := rfl
theorem oX7_detour_0 {g : rk_G} {R : rk_R} : aX7_detour g R 0 (bX7_detour_0 g R) := (rk_aload_n_ok dX7_detour_0 rfl (rk_iload_n_ok dX7_detour_1 rfl (rk_cV_ok dX7_detour_2 rfl rfl npX7_isRoad wmX7_102 wvX7_isRoad weX7_isRoad wiX7 wdX7_isRoad (by decide) (by decide) (rk_if_eq_ok (pc' := 16) dX7_detour_5 (by decide) (rk_bipush_ok dX7_detour_16 (by decide) oX7_detour_18) (rk_aload_n_ok dX7_detour_8 rfl (rk_iload_n_ok dX7_detour_9 rfl (rk_cV_ok dX7_detour_10 rfl rfl npX7_detourOf wmX7_265 wvX7_detourOf weX7_detourOf wiX7 wdX7_detourOf (by decide) (by decide) (rk_goto_ok (pc' := 18) dX7_detour_13 (by decide) oX7_detour_18))))))))
theorem dX7_joinsOne_0 : decode cX7_joinsOne 0 = .ok (.iconst (-1), 1) := by decide +kernel
theorem dX7_joinsOne_1 : decode cX7_joinsOne 1 = .ok (.istore_n 2, 1) := by decide +kernel
theorem dX7_joinsOne_2 : decode cX7_joinsOne 2 = .ok (.iconst (-1), 1) := by decide +kernel
theorem dX7_joinsOne_3 : decode cX7_joinsOne 3 = .ok (.istore_n 3, 1) := by decide +kernel
theorem dX7_joinsOne_4 : decode cX7_joinsOne 4 = .ok (.iconst 0, 1) := by decide +kernel
theorem dX7_joinsOne_5 : decode cX7_joinsOne 5 = .ok (.istore 4, 2) := by decide +kernel
theorem dX7_joinsOne_7 : decode cX7_joinsOne 7 = .ok (.iload 4, 2) := by decide +kernel
theorem dX7_joinsOne_9 : decode cX7_joinsOne 9 = .ok (.aload_n 0, 1) := by decide +kernel
theorem dX7_joinsOne_10 : decode cX7_joinsOne 10 = .ok (.getfield 85, 3) := by decide +kernel
theorem dX7_joinsOne_13 : decode cX7_joinsOne 13 = .ok (.if_icmp .ge 159, 3) := by decide +kernel
theorem dX7_joinsOne_16 : decode cX7_joinsOne 16 = .ok (.iload 4, 2) := by decide +kernel
theorem dX7_joinsOne_18 : decode cX7_joinsOne 18 = .ok (.iconst 1, 1) := by decide +kernel
theorem dX7_joinsOne_19 : decode cX7_joinsOne 19 = .ok (.iadd, 1) := by decide +kernel
theorem dX7_joinsOne_20 : decode cX7_joinsOne 20 = .ok (.istore 5, 2) := by decide +kernel
theorem dX7_joinsOne_22 : decode cX7_joinsOne 22 = .ok (.iload 5, 2) := by decide +kernel
theorem dX7_joinsOne_24 : decode cX7_joinsOne 24 = .ok (.aload_n 0, 1) := by decide +kernel
theorem dX7_joinsOne_25 : decode cX7_joinsOne 25 = .ok (.getfield 85, 3) := by decide +kernel
theorem dX7_joinsOne_28 : decode cX7_joinsOne 28 = .ok (.if_icmp .ge 138, 3) := by decide +kernel
theorem dX7_joinsOne_31 : decode cX7_joinsOne 31 = .ok (.aload_n 0, 1) := by decide +kernel
theorem dX7_joinsOne_32 : decode cX7_joinsOne 32 = .ok (.iload 4, 2) := by decide +kernel
theorem dX7_joinsOne_34 : decode cX7_joinsOne 34 = .ok (.iload_n 1, 1) := by decide +kernel
theorem dX7_joinsOne_35 : decode cX7_joinsOne 35 = .ok (.invokevirtual 144, 3) := by decide +kernel
theorem dX7_joinsOne_38 : decode cX7_joinsOne 38 = .ok (.ifCond .eq 122, 3) := by decide +kernel
theorem dX7_joinsOne_41 : decode cX7_joinsOne 41 = .ok (.aload_n 0, 1) := by decide +kernel
theorem dX7_joinsOne_42 : decode cX7_joinsOne 42 = .ok (.iload 5, 2) := by decide +kernel
theorem dX7_joinsOne_44 : decode cX7_joinsOne 44 = .ok (.iload_n 1, 1) := by decide +kernel
theorem dX7_joinsOne_45 : decode cX7_joinsOne 45 = .ok (.invokevirtual 144, 3) := by decide +kernel
theorem dX7_joinsOne_48 : decode cX7_joinsOne 48 = .ok (.ifCond .eq 112, 3) := by decide +kernel
theorem dX7_joinsOne_51 : decode cX7_joinsOne 51 = .ok (.aload_n 0, 1) := by decide +kernel
theorem dX7_joinsOne_52 : decode cX7_joinsOne 52 = .ok (.iload_n 1, 1) := by decide +kernel
theorem dX7_joinsOne_53 : decode cX7_joinsOne 53 = .ok (.iload 4, 2) := by decide +kernel
theorem dX7_joinsOne_55 : decode cX7_joinsOne 55 = .ok (.iload 5, 2) := by decide +kernel
theorem dX7_joinsOne_57 : decode cX7_joinsOne 57 = .ok (.invokevirtual 147, 3) := by decide +kernel
theorem dX7_joinsOne_60 : decode cX7_joinsOne 60 = .ok (.ifCond .eq 100, 3) := by decide +kernel
theorem dX7_joinsOne_63 : decode cX7_joinsOne 63 = .ok (.aload_n 0, 1) := by decide +kernel
theorem dX7_joinsOne_64 : decode cX7_joinsOne 64 = .ok (.iload_n 1, 1) := by decide +kernel
theorem dX7_joinsOne_65 : decode cX7_joinsOne 65 = .ok (.iload 4, 2) := by decide +kernel
theorem dX7_joinsOne_67 : decode cX7_joinsOne 67 = .ok (.iload 5, 2) := by decide +kernel
theorem dX7_joinsOne_69 : decode cX7_joinsOne 69 = .ok (.invokevirtual 129, 3) := by decide +kernel
theorem dX7_joinsOne_72 : decode cX7_joinsOne 72 = .ok (.lstore 6, 2) := by decide +kernel
theorem dX7_joinsOne_74 : decode cX7_joinsOne 74 = .ok (.iload_n 2, 1) := by decide +kernel
theorem dX7_joinsOne_75 : decode cX7_joinsOne 75 = .ok (.iconst (-1), 1) := by decide +kernel
theorem dX7_joinsOne_76 : decode cX7_joinsOne 76 = .ok (.if_icmp .ne 7, 3) := by decide +kernel
theorem dX7_joinsOne_79 : decode cX7_joinsOne 79 = .ok (.lconst 0, 1) := by decide +kernel
theorem dX7_joinsOne_80 : decode cX7_joinsOne 80 = .ok (.goto 10, 3) := by decide +kernel
theorem dX7_joinsOne_83 : decode cX7_joinsOne 83 = .ok (.aload_n 0, 1) := by decide +kernel
theorem dX7_joinsOne_84 : decode cX7_joinsOne 84 = .ok (.iload_n 1, 1) := by decide +kernel
theorem dX7_joinsOne_85 : decode cX7_joinsOne 85 = .ok (.iload_n 2, 1) := by decide +kernel
theorem dX7_joinsOne_86 : decode cX7_joinsOne 86 = .ok (.iload_n 3, 1) := by decide +kernel
theorem dX7_joinsOne_87 : decode cX7_joinsOne 87 = .ok (.invokevirtual 129, 3) := by decide +kernel
theorem dX7_joinsOne_90 : decode cX7_joinsOne 90 = .ok (.lstore 8, 2) := by decide +kernel
theorem dX7_joinsOne_92 : decode cX7_joinsOne 92 = .ok (.iload_n 2, 1) := by decide +kernel
theorem dX7_joinsOne_93 : decode cX7_joinsOne 93 = .ok (.iconst (-1), 1) := by decide +kernel
theorem dX7_joinsOne_94 : decode cX7_joinsOne 94 = .ok (.if_icmp .eq 35, 3) := by decide +kernel
theorem dX7_joinsOne_97 : decode cX7_joinsOne 97 = .ok (.lload 6, 2) := by decide +kernel
theorem dX7_joinsOne_99 : decode cX7_joinsOne 99 = .ok (.lload 6, 2) := by decide +kernel
theorem dX7_joinsOne_101 : decode cX7_joinsOne 101 = .ok (.lmul, 1) := by decide +kernel
theorem dX7_joinsOne_102 : decode cX7_joinsOne 102 = .ok (.aload_n 0, 1) := by decide +kernel
theorem dX7_joinsOne_103 : decode cX7_joinsOne 103 = .ok (.iload_n 1, 1) := by decide +kernel
theorem dX7_joinsOne_104 : decode cX7_joinsOne 104 = .ok (.iload_n 2, 1) := by decide +kernel
theorem dX7_joinsOne_105 : decode cX7_joinsOne 105 = .ok (.iload_n 3, 1) := by decide +kernel
theorem dX7_joinsOne_106 : decode cX7_joinsOne 106 = .ok (.invokevirtual 135, 3) := by decide +kernel
theorem dX7_joinsOne_109 : decode cX7_joinsOne 109 = .ok (.lmul, 1) := by decide +kernel
theorem dX7_joinsOne_110 : decode cX7_joinsOne 110 = .ok (.lload 8, 2) := by decide +kernel
theorem dX7_joinsOne_112 : decode cX7_joinsOne 112 = .ok (.lload 8, 2) := by decide +kernel
theorem dX7_joinsOne_114 : decode cX7_joinsOne 114 = .ok (.lmul, 1) := by decide +kernel
theorem dX7_joinsOne_115 : decode cX7_joinsOne 115 = .ok (.aload_n 0, 1) := by decide +kernel
theorem dX7_joinsOne_116 : decode cX7_joinsOne 116 = .ok (.iload_n 1, 1) := by decide +kernel
theorem dX7_joinsOne_117 : decode cX7_joinsOne 117 = .ok (.iload 4, 2) := by decide +kernel
theorem dX7_joinsOne_119 : decode cX7_joinsOne 119 = .ok (.iload 5, 2) := by decide +kernel
theorem dX7_joinsOne_121 : decode cX7_joinsOne 121 = .ok (.invokevirtual 135, 3) := by decide +kernel
theorem dX7_joinsOne_124 : decode cX7_joinsOne 124 = .ok (.lmul, 1) := by decide +kernel
theorem dX7_joinsOne_125 : decode cX7_joinsOne 125 = .ok (.lcmp, 1) := by decide +kernel
theorem dX7_joinsOne_126 : decode cX7_joinsOne 126 = .ok (.ifCond .le 7, 3) := by decide +kernel
theorem dX7_joinsOne_129 : decode cX7_joinsOne 129 = .ok (.iconst 1, 1) := by decide +kernel
theorem dX7_joinsOne_130 : decode cX7_joinsOne 130 = .ok (.goto 4, 3) := by decide +kernel
theorem dX7_joinsOne_133 : decode cX7_joinsOne 133 = .ok (.iconst 0, 1) := by decide +kernel
theorem dX7_joinsOne_134 : decode cX7_joinsOne 134 = .ok (.istore 10, 2) := by decide +kernel
theorem dX7_joinsOne_136 : decode cX7_joinsOne 136 = .ok (.iload 10, 2) := by decide +kernel
theorem dX7_joinsOne_138 : decode cX7_joinsOne 138 = .ok (.ifCond .eq 8, 3) := by decide +kernel
theorem dX7_joinsOne_141 : decode cX7_joinsOne 141 = .ok (.iload 4, 2) := by decide +kernel
theorem dX7_joinsOne_143 : decode cX7_joinsOne 143 = .ok (.goto 4, 3) := by decide +kernel
theorem dX7_joinsOne_146 : decode cX7_joinsOne 146 = .ok (.iload_n 2, 1) := by decide +kernel
theorem dX7_joinsOne_147 : decode cX7_joinsOne 147 = .ok (.istore_n 2, 1) := by decide +kernel
theorem dX7_joinsOne_148 : decode cX7_joinsOne 148 = .ok (.iload 10, 2) := by decide +kernel
theorem dX7_joinsOne_150 : decode cX7_joinsOne 150 = .ok (.ifCond .eq 8, 3) := by decide +kernel
theorem dX7_joinsOne_153 : decode cX7_joinsOne 153 = .ok (.iload 5, 2) := by decide +kernel
theorem dX7_joinsOne_155 : decode cX7_joinsOne 155 = .ok (.goto 4, 3) := by decide +kernel
theorem dX7_joinsOne_158 : decode cX7_joinsOne 158 = .ok (.iload_n 3, 1) := by decide +kernel
theorem dX7_joinsOne_159 : decode cX7_joinsOne 159 = .ok (.istore_n 3, 1) := by decide +kernel
theorem dX7_joinsOne_160 : decode cX7_joinsOne 160 = .ok (.iinc 5 1, 3) := by decide +kernel
theorem dX7_joinsOne_163 : decode cX7_joinsOne 163 = .ok (.goto (-141), 3) := by decide +kernel
theorem dX7_joinsOne_166 : decode cX7_joinsOne 166 = .ok (.iinc 4 1, 3) := by decide +kernel
theorem dX7_joinsOne_169 : decode cX7_joinsOne 169 = .ok (.goto (-162), 3) := by decide +kernel
theorem dX7_joinsOne_172 : decode cX7_joinsOne 172 = .ok (.iload_n 2, 1) := by decide +kernel
theorem dX7_joinsOne_173 : decode cX7_joinsOne 173 = .ok (.iconst (-1), 1) := by decide +kernel
theorem dX7_joinsOne_174 : decode cX7_joinsOne 174 = .ok (.if_icmp .ne 5, 3) := by decide +kernel
theorem dX7_joinsOne_177 : decode cX7_joinsOne 177 = .ok (.iconst 0, 1) := by decide +kernel
theorem dX7_joinsOne_178 : decode cX7_joinsOne 178 = .ok (.ireturn, 1) := by decide +kernel
theorem dX7_joinsOne_179 : decode cX7_joinsOne 179 = .ok (.aload_n 0, 1) := by decide +kernel
theorem dX7_joinsOne_180 : decode cX7_joinsOne 180 = .ok (.getfield 28, 3) := by decide +kernel
theorem dX7_joinsOne_183 : decode cX7_joinsOne 183 = .ok (.aload_n 0, 1) := by decide +kernel
theorem dX7_joinsOne_184 : decode cX7_joinsOne 184 = .ok (.iload_n 2, 1) := by decide +kernel
theorem dX7_joinsOne_185 : decode cX7_joinsOne 185 = .ok (.iload_n 1, 1) := by decide +kernel
theorem dX7_joinsOne_186 : decode cX7_joinsOne 186 = .ok (.invokevirtual 141, 3) := by decide +kernel
theorem dX7_joinsOne_189 : decode cX7_joinsOne 189 = .ok (.iload_n 3, 1) := by decide +kernel
theorem dX7_joinsOne_190 : decode cX7_joinsOne 190 = .ok (.iastore, 1) := by decide +kernel
theorem dX7_joinsOne_191 : decode cX7_joinsOne 191 = .ok (.aload_n 0, 1) := by decide +kernel
theorem dX7_joinsOne_192 : decode cX7_joinsOne 192 = .ok (.getfield 28, 3) := by decide +kernel
theorem dX7_joinsOne_195 : decode cX7_joinsOne 195 = .ok (.aload_n 0, 1) := by decide +kernel
theorem dX7_joinsOne_196 : decode cX7_joinsOne 196 = .ok (.iload_n 3, 1) := by decide +kernel
theorem dX7_joinsOne_197 : decode cX7_joinsOne 197 = .ok (.iload_n 1, 1) := by decide +kernel
theorem dX7_joinsOne_198 : decode cX7_joinsOne 198 = .ok (.invokevirtual 141, 3) := by decide +kernel
theorem dX7_joinsOne_201 : decode cX7_joinsOne 201 = .ok (.iload_n 2, 1) := by decide +kernel
theorem dX7_joinsOne_202 : decode cX7_joinsOne 202 = .ok (.iastore, 1) := by decide +kernel
theorem dX7_joinsOne_203 : decode cX7_joinsOne 203 = .ok (.aload_n 0, 1) := by decide +kernel
theorem dX7_joinsOne_204 : decode cX7_joinsOne 204 = .ok (.dup, 1) := by decide +kernel
theorem dX7_joinsOne_205 : decode cX7_joinsOne 205 = .ok (.getfield 150, 3) := by decide +kernel
theorem dX7_joinsOne_208 : decode cX7_joinsOne 208 = .ok (.iconst 1, 1) := by decide +kernel
theorem dX7_joinsOne_209 : decode cX7_joinsOne 209 = .ok (.iadd, 1) := by decide +kernel
theorem dX7_joinsOne_210 : decode cX7_joinsOne 210 = .ok (.putfield 150, 3) := by decide +kernel
theorem dX7_joinsOne_213 : decode cX7_joinsOne 213 = .ok (.iconst 1, 1) := by decide +kernel
theorem dX7_joinsOne_214 : decode cX7_joinsOne 214 = .ok (.ireturn, 1) := by decide +kernel
abbrev kX7_joinsOne (g : rk_G) (R : rk_R) (pc : Nat) : rk_K := rk_cut g cX7_joinsOne 11 (some .boolean) RX7 5 R pc
abbrev aX7_joinsOne (g : rk_G) (R : rk_R) (pc : Nat) (K : rk_K) : Prop := rk_AK g cX7_joinsOne 11 (some .boolean) RX7 5 R pc K
abbrev sX7_joinsOne (g : rk_G) (vs : List Value) (σ : rk_M) (R : rk_R) : Prop := rk_does g yX7_joinsOne cX7_joinsOne 11 (some .boolean) 5 vs σ R
abbrev tX7_joinsOne (g : rk_G) (R : rk_R) (pc : Nat) (ls st : List Value) (σ : rk_M) : Prop := rk_At g cX7_joinsOne 11 (some .boolean) RX7 5 R pc ls st σ
def bX7_joinsOne_160 (g : rk_G) (R : rk_R) : rk_K := (rk_iinc 5 (1) (kX7_joinsOne g R 22))
theorem eX7_joinsOne_160 (g : rk_G) (R : rk_R) (ls st : List Value) (σ : rk_M) : bX7_joinsOne_160 g R ls st σ = (rk_iinc 5 (1) (kX7_joinsOne g R 22)) ls st σ := rfl
theorem oX7_joinsOne_160 {g : rk_G} {R : rk_R} : aX7_joinsOne g R 160 (bX7_joinsOne_160 g R) := (rk_iinc_ok dX7_joinsOne_160 (by decide) (by decide) (rk_goto_ok (pc' := 22) dX7_joinsOne_163 (by decide) rk_cut_ok))
def bX7_joinsOne_159 (g : rk_G) (R : rk_R) : rk_K := (rk_istore 3 (bX7_joinsOne_160 g R))
theorem eX7_joinsOne_159 (g : rk_G) (R : rk_R) (ls st : List Value) (σ : rk_M) : bX7_joinsOne_159 g R ls st σ = (rk_istore 3 (bX7_joinsOne_160 g R)) ls st σ := rfl
theorem oX7_joinsOne_159 {g : rk_G} {R : rk_R} : aX7_joinsOne g R 159 (bX7_joinsOne_159 g R) := (rk_istore_n_ok dX7_joinsOne_159 rfl (by decide) oX7_joinsOne_160)
def bX7_joinsOne_147 (g : rk_G) (R : rk_R) : rk_K := (rk_istore 2 (rk_iload 10 (rk_if_eq (rk_iload 3 (bX7_joinsOne_159 g R)) (rk_iload 5 (bX7_joinsOne_159 g R)))))
theorem eX7_joinsOne_147 (g : rk_G) (R : rk_R) (ls st : List Value) (σ : rk_M) : bX7_joinsOne_147 g R ls st σ = (rk_istore 2 (rk_iload 10 (rk_if_eq (rk_iload 3 (bX7_joinsOne_159 g R)) (rk_iload 5 (bX7_joinsOne_159 g R))))) ls st σ := rfl
theorem oX7_joinsOne_147 {g : rk_G} {R : rk_R} : aX7_joinsOne g R 147 (bX7_joinsOne_147 g R) := (rk_istore_n_ok dX7_joinsOne_147 rfl (by decide) (rk_iload_ok dX7_joinsOne_148 (rk_if_eq_ok (pc' := 158) dX7_joinsOne_150 (by decide) (rk_iload_n_ok dX7_joinsOne_158 rfl oX7_joinsOne_159) (rk_iload_ok dX7_joinsOne_153 (rk_goto_ok (pc' := 159) dX7_joinsOne_155 (by decide) oX7_joinsOne_159)))))
def bX7_joinsOne_134 (g : rk_G) (R : rk_R) : rk_K := (rk_istore 10 (rk_iload 10 (rk_if_eq (rk_iload 2 (bX7_joinsOne_147 g R)) (rk_iload 4 (bX7_joinsOne_147 g R)))))
theorem eX7_joinsOne_134 (g : rk_G) (R : rk_R) (ls st : List Value) (σ : rk_M) : bX7_joinsOne_134 g R ls st σ = (rk_istore 10 (rk_iload 10 (rk_if_eq (rk_iload 2 (bX7_joinsOne_147 g R)) (rk_iload 4 (bX7_joinsOne_147 g R))))) ls st σ := rfl
theorem oX7_joinsOne_134 {g : rk_G} {R : rk_R} : aX7_joinsOne g R 134 (bX7_joinsOne_134 g R) := (rk_istore_ok dX7_joinsOne_134 (by decide) (rk_iload_ok dX7_joinsOne_136 (rk_if_eq_ok (pc' := 146) dX7_joinsOne_138 (by decide) (rk_iload_n_ok dX7_joinsOne_146 rfl oX7_joinsOne_147) (rk_iload_ok dX7_joinsOne_141 (rk_goto_ok (pc' := 147) dX7_joinsOne_143 (by decide) oX7_joinsOne_147)))))
def bX7_joinsOne_129 (g : rk_G) (R : rk_R) : rk_K := (rk_ci (1) (bX7_joinsOne_134 g R))
theorem eX7_joinsOne_129 (g : rk_G) (R : rk_R) (ls st : List Value) (σ : rk_M) : bX7_joinsOne_129 g R ls st σ = (rk_ci (1) (bX7_joinsOne_134 g R)) ls st σ := rfl
theorem oX7_joinsOne_129 {g : rk_G} {R : rk_R} : aX7_joinsOne g R 129 (bX7_joinsOne_129 g R) := (rk_iconst_ok dX7_joinsOne_129 (by decide) (rk_goto_ok (pc' := 134) dX7_joinsOne_130 (by decide) oX7_joinsOne_134))
def bX7_joinsOne_90 (g : rk_G) (R : rk_R) : rk_K := (rk_lstore 8 (rk_iload 2 (rk_ci (-1) (rk_icmp_eq (bX7_joinsOne_129 g R) (rk_lload 6 (rk_lload 6 (rk_lmul (rk_aload 0 (rk_iload 1 (rk_iload 2 (rk_iload 3 (rk_cV g 3 7 yX7_own cX7_own 4 (some .long) 2 (rk_lmul (rk_lload 8 (rk_lload 8 (rk_lmul (rk_aload 0 (rk_iload 1 (rk_iload 4 (rk_iload 5 (rk_cV g 3 7 yX7_own cX7_own 4 (some .long) 2 (rk_lmul (rk_lcmp (rk_if_le (rk_ci (0) (bX7_joinsOne_134 g R)) (bX7_joinsOne_129 g R)))))))))))))))))))))))))
theorem eX7_joinsOne_90 (g : rk_G) (R : rk_R) (ls st : List Value) (σ : rk_M) : bX7_joinsOne_90 g R ls st σ = (rk_lstore 8 (rk_iload 2 (rk_ci (-1) (rk_icmp_eq (bX7_joinsOne_129 g R) (rk_lload 6 (rk_lload 6 (rk_lmul (rk_aload 0 (rk_iload 1 (rk_iload 2 (rk_iload 3 (rk_cV g 3 7 yX7_own cX7_own 4 (some .long) 2 (rk_lmul (rk_lload 8 (rk_lload 8 (rk_lmul (rk_aload 0 (rk_iload 1 (rk_iload 4 (rk_iload 5 (rk_cV g 3 7 yX7_own cX7_own 4 (some .long) 2 (rk_lmul (rk_lcmp (rk_if_le (rk_ci (0) (bX7_joinsOne_134 g R)) (bX7_joinsOne_129 g R))))))))))))))))))))))))) ls st σ := rfl
theorem oX7_joinsOne_90 {g : rk_G} {R : rk_R} : aX7_joinsOne g R 90 (bX7_joinsOne_90 g R) := (rk_lstore_ok dX7_joinsOne_90 (by decide) (rk_iload_n_ok dX7_joinsOne_92 rfl (rk_iconst_ok dX7_joinsOne_93 (by decide) (rk_icmp_eq_ok (pc' := 129) dX7_joinsOne_94 (by decide) oX7_joinsOne_129 (rk_lload_ok dX7_joinsOne_97 (rk_lload_ok dX7_joinsOne_99 (rk_lmul_ok dX7_joinsOne_101 (rk_aload_n_ok dX7_joinsOne_102 rfl (rk_iload_n_ok dX7_joinsOne_103 rfl (rk_iload_n_ok dX7_joinsOne_104 rfl (rk_iload_n_ok dX7_joinsOne_105 rfl (rk_cV_ok dX7_joinsOne_106 rfl rfl npX7_own wmX7_135 wvX7_own weX7_own wiX7 wdX7_own (by decide) (by decide) (rk_lmul_ok dX7_joinsOne_109 (rk_lload_ok dX7_joinsOne_110 (rk_lload_ok dX7_joinsOne_112 (rk_lmul_ok dX7_joinsOne_114 (rk_aload_n_ok dX7_joinsOne_115 rfl (rk_iload_n_ok dX7_joinsOne_116 rfl (rk_iload_ok dX7_joinsOne_117 (rk_iload_ok dX7_joinsOne_119 (rk_cV_ok dX7_joinsOne_121 rfl rfl npX7_own wmX7_135 wvX7_own weX7_own wiX7 wdX7_own (by decide) (by decide) (rk_lmul_ok dX7_joinsOne_124 (rk_lcmp_ok dX7_joinsOne_125 (rk_if_le_ok (pc' := 133) dX7_joinsOne_126 (by decide) (rk_iconst_ok dX7_joinsOne_133 (by decide) oX7_joinsOne_134) oX7_joinsOne_129))))))))))))))))))))))))
def bX7_joinsOne_22 (g : rk_G) (R : rk_R) : rk_K := (rk_iload 5 (rk_aload 0 (rk_gI 7 3 (rk_icmp_ge (rk_iinc 4 (1) (kX7_joinsOne g R 7)) (rk_aload 0 (rk_iload 4 (rk_iload 1 (rk_cV g 2 7 yX7_isFree cX7_isFree 3 (some .boolean) 1 (rk_if_eq (bX7_joinsOne_160 g R) (rk_aload 0 (rk_iload 5 (rk_iload 1 (rk_cV g 2 7 yX7_isFree cX7_isFree 3 (some .boolean) 1 (rk_if_eq (bX7_joinsOne_160 g R) (rk_aload 0 (rk_iload 1 (rk_iload 4 (rk_iload 5 (rk_cV g 3 7 yX7_mayJoin cX7_mayJoin 5 (some .boolean) 4 (rk_if_eq (bX7_joinsOne_160 g R) (rk_aload 0 (rk_iload 1 (rk_iload 4 (rk_iload 5 (rk_cV g 3 7 yX7_product cX7_product 6 (some .long) 1 (rk_lstore 6 (rk_iload 2 (rk_ci (-1) (rk_icmp_ne (rk_aload 0 (rk_iload 1 (rk_iload 2 (rk_iload 3 (rk_cV g 3 7 yX7_product cX7_product 6 (some .long) 1 (bX7_joinsOne_90 g R)))))) (rk_cj (0) (bX7_joinsOne_90 g R)))))))))))))))))))))))))))))))
theorem eX7_joinsOne_22 (g : rk_G) (R : rk_R) (ls st : List Value) (σ : rk_M) : bX7_joinsOne_22 g R ls st σ = (rk_iload 5 (rk_aload 0 (rk_gI 7 3 (rk_icmp_ge (rk_iinc 4 (1) (kX7_joinsOne g R 7)) (rk_aload 0 (rk_iload 4 (rk_iload 1 (rk_cV g 2 7 yX7_isFree cX7_isFree 3 (some .boolean) 1 (rk_if_eq (bX7_joinsOne_160 g R) (rk_aload 0 (rk_iload 5 (rk_iload 1 (rk_cV g 2 7 yX7_isFree cX7_isFree 3 (some .boolean) 1 (rk_if_eq (bX7_joinsOne_160 g R) (rk_aload 0 (rk_iload 1 (rk_iload 4 (rk_iload 5 (rk_cV g 3 7 yX7_mayJoin cX7_mayJoin 5 (some .boolean) 4 (rk_if_eq (bX7_joinsOne_160 g R) (rk_aload 0 (rk_iload 1 (rk_iload 4 (rk_iload 5 (rk_cV g 3 7 yX7_product cX7_product 6 (some .long) 1 (rk_lstore 6 (rk_iload 2 (rk_ci (-1) (rk_icmp_ne (rk_aload 0 (rk_iload 1 (rk_iload 2 (rk_iload 3 (rk_cV g 3 7 yX7_product cX7_product 6 (some .long) 1 (bX7_joinsOne_90 g R)))))) (rk_cj (0) (bX7_joinsOne_90 g R))))))))))))))))))))))))))))))) ls st σ := rfl
theorem oX7_joinsOne_22 {g : rk_G} {R : rk_R} : aX7_joinsOne g R 22 (bX7_joinsOne_22 g R) := (rk_iload_ok dX7_joinsOne_22 (rk_aload_n_ok dX7_joinsOne_24 rfl (rk_gI_ok dX7_joinsOne_25 rfl iX7 (by decide) rfl wfX7_85 (rk_icmp_ge_ok (pc' := 166) dX7_joinsOne_28 (by decide) (rk_iinc_ok dX7_joinsOne_166 (by decide) (by decide) (rk_goto_ok (pc' := 7) dX7_joinsOne_169 (by decide) rk_cut_ok)) (rk_aload_n_ok dX7_joinsOne_31 rfl (rk_iload_ok dX7_joinsOne_32 (rk_iload_n_ok dX7_joinsOne_34 rfl (rk_cV_ok dX7_joinsOne_35 rfl rfl npX7_isFree wmX7_144 wvX7_isFree weX7_isFree wiX7 wdX7_isFree (by decide) (by decide) (rk_if_eq_ok (pc' := 160) dX7_joinsOne_38 (by decide) oX7_joinsOne_160 (rk_aload_n_ok dX7_joinsOne_41 rfl (rk_iload_ok dX7_joinsOne_42 (rk_iload_n_ok dX7_joinsOne_44 rfl (rk_cV_ok dX7_joinsOne_45 rfl rfl npX7_isFree wmX7_144 wvX7_isFree weX7_isFree wiX7 wdX7_isFree (by decide) (by decide) (rk_if_eq_ok (pc' := 160) dX7_joinsOne_48 (by decide) oX7_joinsOne_160 (rk_aload_n_ok dX7_joinsOne_51 rfl (rk_iload_n_ok dX7_joinsOne_52 rfl (rk_iload_ok dX7_joinsOne_53 (rk_iload_ok dX7_joinsOne_55 (rk_cV_ok dX7_joinsOne_57 rfl rfl npX7_mayJoin wmX7_147 wvX7_mayJoin weX7_mayJoin wiX7 wdX7_mayJoin (by decide) (by decide) (rk_if_eq_ok (pc' := 160) dX7_joinsOne_60 (by decide) oX7_joinsOne_160 (rk_aload_n_ok dX7_joinsOne_63 rfl (rk_iload_n_ok dX7_joinsOne_64 rfl (rk_iload_ok dX7_joinsOne_65 (rk_iload_ok dX7_joinsOne_67 (rk_cV_ok dX7_joinsOne_69 rfl rfl npX7_product wmX7_129 wvX7_product weX7_product wiX7 wdX7_product (by decide) (by decide) (rk_lstore_ok dX7_joinsOne_72 (by decide) (rk_iload_n_ok dX7_joinsOne_74 rfl (rk_iconst_ok dX7_joinsOne_75 (by decide) (rk_icmp_ne_ok (pc' := 83) dX7_joinsOne_76 (by decide) (rk_aload_n_ok dX7_joinsOne_83 rfl (rk_iload_n_ok dX7_joinsOne_84 rfl (rk_iload_n_ok dX7_joinsOne_85 rfl (rk_iload_n_ok dX7_joinsOne_86 rfl (rk_cV_ok dX7_joinsOne_87 rfl rfl npX7_product wmX7_129 wvX7_product weX7_product wiX7 wdX7_product (by decide) (by decide) oX7_joinsOne_90))))) (rk_lconst_ok dX7_joinsOne_79 (by decide) (rk_goto_ok (pc' := 90) dX7_joinsOne_80 (by decide) oX7_joinsOne_90)))))))))))))))))))))))))))))))
def bX7_joinsOne_7 (g : rk_G) (R : rk_R) : rk_K := (rk_iload 4 (rk_aload 0 (rk_gI 7 3 (rk_icmp_ge (rk_iload 2 (rk_ci (-1) (rk_icmp_ne (rk_aload 0 (rk_gR 7 9 (rk_aload 0 (rk_iload 2 (rk_iload 1 (rk_cV g 2 7 yX7_endOf cX7_endOf 3 (some .int) 0 (rk_iload 3 (rk_iast (rk_aload 0 (rk_gR 7 9 (rk_aload 0 (rk_iload 3 (rk_iload 1 (rk_cV g 2 7 yX7_endOf cX7_endOf 3 (some .int) 0 (rk_iload 2 (rk_iast (rk_aload 0 (rk_dup (rk_gI 7 10 (rk_ci (1) (rk_iadd (rk_pI 7 10 (rk_ci (1) (rk_zret R)))))))))))))))))))))))) (rk_ci (0) (rk_zret R))))) (rk_iload 4 (rk_ci (1) (rk_iadd (rk_istore 5 (kX7_joinsOne g R 22)))))))))
theorem eX7_joinsOne_7 (g : rk_G) (R : rk_R) (ls st : List Value) (σ : rk_M) : bX7_joinsOne_7 g R ls st σ = (rk_iload 4 (rk_aload 0 (rk_gI 7 3 (rk_icmp_ge (rk_iload 2 (rk_ci (-1) (rk_icmp_ne (rk_aload 0 (rk_gR 7 9 (rk_aload 0 (rk_iload 2 (rk_iload 1 (rk_cV g 2 7 yX7_endOf cX7_endOf 3 (some .int) 0 (rk_iload 3 (rk_iast (rk_aload 0 (rk_gR 7 9 (rk_aload 0 (rk_iload 3 (rk_iload 1 (rk_cV g 2 7 yX7_endOf cX7_endOf 3 (some .int) 0 (rk_iload 2 (rk_iast (rk_aload 0 (rk_dup (rk_gI 7 10 (rk_ci (1) (rk_iadd (rk_pI 7 10 (rk_ci (1) (rk_zret R)))))))))))))))))))))))) (rk_ci (0) (rk_zret R))))) (rk_iload 4 (rk_ci (1) (rk_iadd (rk_istore 5 (kX7_joinsOne g R 22))))))))) ls st σ := rfl
theorem oX7_joinsOne_7 {g : rk_G} {R : rk_R} : aX7_joinsOne g R 7 (bX7_joinsOne_7 g R) := (rk_iload_ok dX7_joinsOne_7 (rk_aload_n_ok dX7_joinsOne_9 rfl (rk_gI_ok dX7_joinsOne_10 rfl iX7 (by decide) rfl wfX7_85 (rk_icmp_ge_ok (pc' := 172) dX7_joinsOne_13 (by decide) (rk_iload_n_ok dX7_joinsOne_172 rfl (rk_iconst_ok dX7_joinsOne_173 (by decide) (rk_icmp_ne_ok (pc' := 179) dX7_joinsOne_174 (by decide) (rk_aload_n_ok dX7_joinsOne_179 rfl (rk_gR_ok dX7_joinsOne_180 rfl iX7 (by decide) rfl wfX7_28 (rk_aload_n_ok dX7_joinsOne_183 rfl (rk_iload_n_ok dX7_joinsOne_184 rfl (rk_iload_n_ok dX7_joinsOne_185 rfl (rk_cV_ok dX7_joinsOne_186 rfl rfl npX7_endOf wmX7_141 wvX7_endOf weX7_endOf wiX7 wdX7_endOf (by decide) (by decide) (rk_iload_n_ok dX7_joinsOne_189 rfl (rk_iast_ok dX7_joinsOne_190 (rk_aload_n_ok dX7_joinsOne_191 rfl (rk_gR_ok dX7_joinsOne_192 rfl iX7 (by decide) rfl wfX7_28 (rk_aload_n_ok dX7_joinsOne_195 rfl (rk_iload_n_ok dX7_joinsOne_196 rfl (rk_iload_n_ok dX7_joinsOne_197 rfl (rk_cV_ok dX7_joinsOne_198 rfl rfl npX7_endOf wmX7_141 wvX7_endOf weX7_endOf wiX7 wdX7_endOf (by decide) (by decide) (rk_iload_n_ok dX7_joinsOne_201 rfl (rk_iast_ok dX7_joinsOne_202 (rk_aload_n_ok dX7_joinsOne_203 rfl (rk_dup_ok dX7_joinsOne_204 (rk_gI_ok dX7_joinsOne_205 rfl iX7 (by decide) rfl wfX7_150 (rk_iconst_ok dX7_joinsOne_208 (by decide) (rk_iadd_ok dX7_joinsOne_209 (rk_pI_ok dX7_joinsOne_210 rfl iX7 tyX7_ok nmX7 (by decide) rfl rfl (by decide +kernel) wfX7_150 (rk_iconst_ok dX7_joinsOne_213 (by decide) (rk_zret_ok rfl dX7_joinsOne_214)))))))))))))))))))))))) (rk_iconst_ok dX7_joinsOne_177 (by decide) (rk_zret_ok rfl dX7_joinsOne_178))))) (rk_iload_ok dX7_joinsOne_16 (rk_iconst_ok dX7_joinsOne_18 (by decide) (rk_iadd_ok dX7_joinsOne_19 (rk_istore_ok dX7_joinsOne_20 (by decide) rk_cut_ok))))))))
def bX7_joinsOne_0 (g : rk_G) (R : rk_R) : rk_K := (rk_ci (-1) (rk_istore 2 (rk_ci (-1) (rk_istore 3 (rk_ci (0) (rk_istore 4 (kX7_joinsOne g R 7)))))))
theorem eX7_joinsOne_0 (g : rk_G) (R : rk_R) (ls st : List Value) (σ : rk_M) : bX7_joinsOne_0 g R ls st σ = (rk_ci (-1) (rk_istore 2 (rk_ci (-1) (rk_istore 3 (rk_ci (0) (rk_istore 4 (kX7_joinsOne g R 7))))))) ls st σ := rfl
theorem oX7_joinsOne_0 {g : rk_G} {R : rk_R} : aX7_joinsOne g R 0 (bX7_joinsOne_0 g R) := (rk_iconst_ok dX7_joinsOne_0 (by decide) (rk_istore_n_ok dX7_joinsOne_1 rfl (by decide) (rk_iconst_ok dX7_joinsOne_2 (by decide) (rk_istore_n_ok dX7_joinsOne_3 rfl (by decide) (rk_iconst_ok dX7_joinsOne_4 (by decide) (rk_istore_ok dX7_joinsOne_5 (by decide) rk_cut_ok))))))
