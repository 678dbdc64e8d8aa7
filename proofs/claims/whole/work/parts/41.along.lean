/-! ===== angles ===== -/
def n_ot (N : Nt) (r m : Nat) : Nat := if n_a N r = m then n_b N r else n_a N r
def n_dx (N : Nt) (m r : Nat) : Int32 := n_x N (n_ot N r m) - n_x N m
def n_dy (N : Nt) (m r : Nat) : Int32 := n_y N (n_ot N r m) - n_y N m
def n_pr (N : Nt) (m a b : Nat) : Int64 := (n_dx N m a).toInt64 * (n_dx N m b).toInt64 + (n_dy N m a).toInt64 * (n_dy N m b).toInt64
def n_own (N : Nt) (m a b : Nat) : Int64 := n_pr N m a a * n_pr N m b b
abbrev n_al (N : Nt) (m a b : Nat) : Prop := n_pr N m a b < 0 ∧ ¬ 2 * n_pr N m a b * n_pr N m a b < n_own N m a b
theorem lg_lt0 (x y : Int64) : (lg_cmp x y < 0) = (x < y) := by
  unfold lg_cmp
  apply propext
  by_cases h : x > y
  · rw [if_pos h]
    exact ⟨fun q => absurd q (by decide), fun q => absurd q (fun z => by rw [gt_iff_lt, fa_lt64] at h; rw [fa_lt64] at z; omega)⟩
  · rw [if_neg h]
    by_cases h2 : x = y
    · rw [if_pos h2]
      exact ⟨fun q => absurd q (by decide), fun q => by rw [h2, fa_lt64] at q; omega⟩
    · rw [if_neg h2]
      refine ⟨fun _ => ?_, fun _ => by decide⟩
      rw [gt_iff_lt, fa_lt64] at h
      rw [fa_eq64] at h2
      rw [fa_lt64]
      omega
theorem lg_gt0 (x y : Int64) : (0 < lg_cmp x y) = (y < x) := by
  unfold lg_cmp
  apply propext
  by_cases h : x > y
  · rw [if_pos h]
    exact ⟨fun _ => h, fun _ => by decide⟩
  · rw [if_neg h]
    by_cases h2 : x = y
    · rw [if_pos h2]
      exact ⟨fun q => absurd q (by decide), fun q => absurd q h⟩
    · rw [if_neg h2]
      exact ⟨fun q => absurd q (by decide), fun q => absurd q h⟩
theorem sm_d {x y : Int32} (hx : n_in 0 30 x) (hy : n_in 0 30 y) : -30 ≤ (x - y).toInt ∧ (x - y).toInt ≤ 30 := by
  have a1 := (fa_le _ _).mp hx.1
  have a2 := (fa_le _ _).mp hx.2
  have a3 := (fa_le _ _).mp hy.1
  have a4 := (fa_le _ _).mp hy.2
  have e0 : (0 : Int32).toInt = 0 := rfl
  have e30 : (30 : Int32).toInt = 30 := rfl
  rw [fb_subI (by omega) (by omega)]
  omega
theorem sm_mul {x y : Int} (h1 : -30 ≤ x ∧ x ≤ 30) (h2 : -30 ≤ y ∧ y ≤ 30) : -900 ≤ x * y ∧ x * y ≤ 900 := by
  have a := Int.mul_nonneg (show 0 ≤ 30 - x by omega) (show 0 ≤ 30 - y by omega)
  have b := Int.mul_nonneg (show 0 ≤ 30 - x by omega) (show 0 ≤ 30 + y by omega)
  have c := Int.mul_nonneg (show 0 ≤ 30 + x by omega) (show 0 ≤ 30 - y by omega)
  have d := Int.mul_nonneg (show 0 ≤ 30 + x by omega) (show 0 ≤ 30 + y by omega)
  simp only [Int.sub_mul, Int.mul_sub, Int.add_mul, Int.mul_add] at a b c d
  omega
theorem mulL {x y : Int64} (h1 : -9223372036854775808 ≤ x.toInt * y.toInt) (h2 : x.toInt * y.toInt < 9223372036854775808) : (x * y).toInt = x.toInt * y.toInt := by
  rw [Int64.toInt_mul]
  exact Int.bmod_eq_of_le (by omega) (by omega)
theorem addL {x y : Int64} (h1 : -9223372036854775808 ≤ x.toInt + y.toInt) (h2 : x.toInt + y.toInt < 9223372036854775808) : (x + y).toInt = x.toInt + y.toInt := by
  rw [Int64.toInt_add]
  exact Int.bmod_eq_of_le (by omega) (by omega)
theorem pr_int {ux uy vx vy : Int32} (h1 : -30 ≤ ux.toInt ∧ ux.toInt ≤ 30) (h2 : -30 ≤ uy.toInt ∧ uy.toInt ≤ 30) (h3 : -30 ≤ vx.toInt ∧ vx.toInt ≤ 30) (h4 : -30 ≤ vy.toInt ∧ vy.toInt ≤ 30) : (ux * vx + uy * vy).toInt64 = ux.toInt64 * vx.toInt64 + uy.toInt64 * vy.toInt64 := by
  have m1 := sm_mul h1 h3
  have m2 := sm_mul h2 h4
  have e1 : (ux * vx).toInt = ux.toInt * vx.toInt := fb_mulI (by omega) (by omega)
  have e2 : (uy * vy).toInt = uy.toInt * vy.toInt := fb_mulI (by omega) (by omega)
  have l1 : (ux.toInt64 * vx.toInt64).toInt = ux.toInt * vx.toInt := by rw [mulL (by rw [Int32.toInt_toInt64, Int32.toInt_toInt64]; omega) (by rw [Int32.toInt_toInt64, Int32.toInt_toInt64]; omega), Int32.toInt_toInt64, Int32.toInt_toInt64]
  have l2 : (uy.toInt64 * vy.toInt64).toInt = uy.toInt * vy.toInt := by rw [mulL (by rw [Int32.toInt_toInt64, Int32.toInt_toInt64]; omega) (by rw [Int32.toInt_toInt64, Int32.toInt_toInt64]; omega), Int32.toInt_toInt64, Int32.toInt_toInt64]
  rw [fa_eq64, Int32.toInt_toInt64, fb_addI (by omega) (by omega), addL (by omega) (by omega), e1, e2, l1, l2]
section Along
variable {g : rk_G} {R : rk_R} {σ : rk_M} {N : Nt}
theorem n_ot_lt (hW : Wf N) {r m : Nat} (hr : r < n_r N) : n_ot N r m < n_m N := by
  unfold n_ot
  by_cases h : n_a N r = m
  · rw [if_pos h]; exact hW.b hr
  · rw [if_neg h]; exact hW.a hr
theorem n_dx_sm (hW : Wf N) {r m : Nat} (hr : r < n_r N) (hm : m < n_m N) : -30 ≤ (n_dx N m r).toInt ∧ (n_dx N m r).toInt ≤ 30 := sm_d (hW.2.1 _ (n_ot_lt hW hr)).1 (hW.2.1 m hm).1
theorem n_dy_sm (hW : Wf N) {r m : Nat} (hr : r < n_r N) (hm : m < n_m N) : -30 ≤ (n_dy N m r).toInt ∧ (n_dy N m r).toInt ≤ 30 := sm_d (hW.2.1 _ (n_ot_lt hW hr)).2 (hW.2.1 m hm).2
theorem n_pr_int (hW : Wf N) {a b m : Nat} (ha : a < n_r N) (hb : b < n_r N) (hm : m < n_m N) : (n_dx N m a * n_dx N m b + n_dy N m a * n_dy N m b).toInt64 = n_pr N m a b := pr_int (n_dx_sm hW ha hm) (n_dy_sm hW ha hm) (n_dx_sm hW hb hm) (n_dy_sm hW hb hm)
theorem c_stepX {r m : Nat} (hN : CN σ N) (hW : Wf N) (hr : r < n_r N) (hm : m < n_m N) (k : R (some (.int (n_dx N m r))) σ) : sX2_stepX g [.ref 1, .int (nI r), .int (nI m)] σ R := by
  have h16 := hW.m
  have h24 := hW.r
  have la := hW.a hr
  have lb := hW.b hr
  have hc : (nI r).toNatClampNeg = r := nI_clamp (by omega)
  have hv : vp_in (nI r) 24 := vp_in_nI (by omega) (by omega)
  have hcm : (nI m).toNatClampNeg = m := nI_clamp (by omega)
  have hvm : vp_in (nI m) 16 := vp_in_nI (by omega) (by omega)
  have hca : (nI (n_a N r)).toNatClampNeg = n_a N r := nI_clamp (by omega)
  have hva : vp_in (nI (n_a N r)) 16 := vp_in_nI (by omega) (by omega)
  have hcb : (nI (n_b N r)).toNatClampNeg = n_b N r := nI_clamp (by omega)
  have hvb : vp_in (nI (n_b N r)) 16 := vp_in_nI (by omega) (by omega)
  have q : (nI (n_a N r) = nI m) = (n_a N r = m) := propext (nI_eq (by omega) (by omega))
  refine rk_entry (own := RX2) rfl rfl rfl (Nat.le_of_ble_eq_true rfl) (oX2_stepX_0 _ _ _ ?_)
  simp only [hc, hv, hN.a hr, hN.b hr, q, hca, hva, hcb, hvb, hcm, hvm, hN.x la, hN.x lb, hN.x hm, eX2_stepX_0, eX2_stepX_49, rk_ci_e, rk_cj_e, rk_iload_e, rk_lload_e, rk_aload_e, rk_istore_e, rk_astore_e, rk_lstore_e, rk_iinc_e, rk_iadd_e, rk_isub_e, rk_imul_e, rk_iand_e, rk_ior_e, rk_ixor_e, rk_ladd_e, rk_lmul_e, rk_lsub_e, rk_ishl_e, rk_ishr_e, rk_iushr_e, rk_lcmp_e, rk_ineg_e, rk_i2l_e, rk_i2b_e, rk_i2s_e, rk_dup_e, rk_pop_e, rk_dup2_e, rk_if_eq_e, rk_icmp_eq_e, rk_if_ne_e, rk_icmp_ne_e, rk_if_lt_e, rk_icmp_lt_e, rk_if_ge_e, rk_icmp_ge_e, rk_if_gt_e, rk_icmp_gt_e, rk_if_le_e, rk_icmp_le_e, rk_sw01_e, rk_iret_e, rk_zret_e, rk_lret_e, rk_vret_e, rk_gI_e, rk_gJ_e, rk_gR_e, rk_pI_e, rk_pJ_e, rk_iald_e, rk_zald_e, rk_aald_e, rk_alen_e, rk_iast_e, rk_zast_e, rk_cV_e0, rk_cV_e1, rk_cV_e2, rk_cV_e3, rk_cV_e4, rk_cS_e1, rk_cS_e2, rk_cS_e3, rk_cS_e4, rk_mmin_e, rk_mmax_e, rk_mabs_e, rk_cpy_e, rk_cut_e, rk_kont_i, rk_kont_j, rk_kont_n, rk_ent_0, rk_ent_i, rk_ent_r, rk_ent_j, List.getElem?_cons_zero, List.getElem?_cons_succ, rk_st_0, rk_st_1i, rk_st_1r, rk_st_1n, rk_st_1j, rk_st_ss, rk_st2_0, rk_st2_1i, rk_st2_1r, rk_st2_1n, rk_st2_1j, rk_st2_ss, List.nil_append, List.cons_append, rk_sml, rk_cat_i, rk_cat_j, rk_cat_r, true_and, and_true, List.length_cons, List.length_nil, Nat.reduceLeDiff, Nat.reduceAdd, Nat.reduceSub, Nat.zero_le, List.reduceReplicate, List.map_nil, List.map_cons, List.sum_nil, List.sum_cons, true_or, or_true, rk_row_ob, rk_row_rf, rk_itm_kd, rk_itm_ln, rk_le_lt, Classical.not_not, not_true_eq_false, not_false_eq_true, rk_f_imp, rk_t_imp, rk_10, rk_01, rk_ob_0, rk_ob_1, rk_ob_2, rk_kd_2, rk_ln_2, rk_ob_3, rk_kd_3, rk_ln_3, rk_ob_4, rk_kd_4, rk_ln_4, rk_ob_5, rk_kd_5, rk_ln_5, rk_ob_6, rk_kd_6, rk_ln_6, rk_ob_7, rk_kd_7, rk_ln_7, rk_ob_8, rk_kd_8, rk_ln_8, rk_ob_9, rk_kd_9, rk_ln_9, rk_ob_10, rk_ob_11, rk_kd_11, rk_ln_11, rk_ob_12, rk_kd_12, rk_ln_12, rk_ob_13, rk_kd_13, rk_ln_13, rk_ob_14, rk_kd_14, rk_ln_14, rk_ob_15, rk_kd_15, rk_ln_15, rk_ob_16, rk_ob_17, rk_kd_17, rk_ln_17, rk_ob_18, rk_kd_18, rk_ln_18, rk_ob_19, rk_kd_19, rk_ln_19, rk_ob_20, rk_kd_20, rk_ln_20, rk_ob_21, rk_kd_21, rk_ln_21, rk_ob_22, rk_kd_22, rk_ln_22, rk_ob_23, rk_kd_23, rk_ln_23, rk_ob_24, rk_kd_24, rk_ln_24, rk_ob_25, rk_kd_25, rk_ln_25, rk_ob_26, rk_kd_26, rk_ln_26, rk_ob_27, rk_kd_27, rk_ln_27, rk_ob_28, rk_kd_28, rk_ln_28, rk_ob_29, rk_ob_30, rk_kd_30, rk_ln_30, rk_ob_31, rk_kd_31, rk_ln_31, rk_ob_32, rk_ob_33, rk_kd_33, rk_ln_33, rk_ob_34, rk_ob_35, rk_kd_35, rk_ln_35, rk_ob_36, rk_ob_37, rk_kd_37, rk_ln_37, rk_ob_38, rk_ob_39, rk_kd_39, rk_ln_39, rk_ob_40, rk_ob_41, rk_kd_41, rk_ln_41, rk_ob_42, rk_ob_43, rk_kd_43, rk_ln_43, rk_ob_44, rk_kd_44, rk_ln_44, rk_ob_45, rk_kd_45, rk_ln_45, rk_ob_46, rk_kd_46, rk_ln_46, rk_ob_47, rk_kd_47, rk_ln_47, rk_ob_48, rk_kd_48, rk_ln_48, rk_ob_49, rk_kd_49, rk_ln_49, rk_ob_50, rk_kd_50, rk_ln_50, rk_ob_51, rk_kd_51, rk_ln_51, rk_ob_52, rk_kd_52, rk_ln_52, rk_ob_53, rk_kd_53, rk_ln_53, rk_ob_54, rk_kd_54, rk_ln_54, rk_ob_55, rk_kd_55, rk_ln_55, rk_ob_56, rk_kd_56, rk_ln_56, rk_ob_57, rk_kd_57, rk_ln_57, rk_ob_58, rk_kd_58, rk_ln_58, rk_ob_59, rk_kd_59, rk_ln_59, rk_ob_60, rk_kd_60, rk_ln_60, rk_ob_61, rk_kd_61, rk_ln_61, rk_ob_62, rk_kd_62, rk_ln_62, rk_ob_63, rk_kd_63, rk_ln_63, rk_ob_64, rk_kd_64, rk_ln_64, rk_rf_0_0, rk_rf_0_1, rk_rf_0_2, rk_rf_0_3, rk_rf_0_4, rk_rf_0_5, rk_rf_1_0, rk_rf_1_1, rk_rf_1_2, rk_rf_1_3, rk_rf_1_4, rk_rf_1_5, rk_rf_1_6, rk_rf_1_9, rk_rf_10_1, rk_rf_10_2, rk_rf_10_3, rk_rf_10_4, rk_rf_10_5, rk_rf_10_6, rk_rf_16_0, rk_rf_16_1, rk_rf_16_2, rk_rf_16_3, rk_rf_16_4, rk_rf_16_5, rk_rf_16_6, rk_rf_16_7, rk_rf_16_8, rk_rf_16_9, rk_rf_16_10, rk_rf_16_13, rk_rf_16_14, rk_rf_16_15, rk_rf_29_0, rk_rf_29_1, rk_rf_29_2, rk_rf_32_0, rk_rf_34_0, rk_rf_36_0, rk_rf_38_0, rk_rf_40_0, rk_rf_42_1, rk_rf_42_2, rk_rf_42_4, rk_rf_42_5, rk_rf_42_6, rk_rf_42_8, rk_rf_42_9, rk_rf_42_12, rk_rf_42_13, rk_rf_42_14, rk_rf_42_15, rk_rf_42_16, rk_rf_42_17, rk_rf_42_20, rk_rf_42_21, rk_rf_42_22, rk_rf_42_23, rk_rf_42_27, rk_rf_42_28, rk_rf_42_29, rk_rf_42_30, rk_rf_42_31]
  unfold n_dx n_ot at k
  by_cases e : n_a N r = m
  · rw [if_pos e] at k
    simp only [eq_true e, rk_f_imp, rk_t_imp, not_true_eq_false, and_true, true_and]
    exact k
  · rw [if_neg e] at k
    simp only [eq_false e, rk_f_imp, rk_t_imp, not_false_eq_true, and_true, true_and]
    exact k
theorem c_stepY {r m : Nat} (hN : CN σ N) (hW : Wf N) (hr : r < n_r N) (hm : m < n_m N) (k : R (some (.int (n_dy N m r))) σ) : sX2_stepY g [.ref 1, .int (nI r), .int (nI m)] σ R := by
  have h16 := hW.m
  have h24 := hW.r
  have la := hW.a hr
  have lb := hW.b hr
  have hc : (nI r).toNatClampNeg = r := nI_clamp (by omega)
  have hv : vp_in (nI r) 24 := vp_in_nI (by omega) (by omega)
  have hcm : (nI m).toNatClampNeg = m := nI_clamp (by omega)
  have hvm : vp_in (nI m) 16 := vp_in_nI (by omega) (by omega)
  have hca : (nI (n_a N r)).toNatClampNeg = n_a N r := nI_clamp (by omega)
  have hva : vp_in (nI (n_a N r)) 16 := vp_in_nI (by omega) (by omega)
  have hcb : (nI (n_b N r)).toNatClampNeg = n_b N r := nI_clamp (by omega)
  have hvb : vp_in (nI (n_b N r)) 16 := vp_in_nI (by omega) (by omega)
  have q : (nI (n_a N r) = nI m) = (n_a N r = m) := propext (nI_eq (by omega) (by omega))
  refine rk_entry (own := RX2) rfl rfl rfl (Nat.le_of_ble_eq_true rfl) (oX2_stepY_0 _ _ _ ?_)
  simp only [hc, hv, hN.a hr, hN.b hr, q, hca, hva, hcb, hvb, hcm, hvm, hN.y la, hN.y lb, hN.y hm, eX2_stepY_0, eX2_stepY_49, rk_ci_e, rk_cj_e, rk_iload_e, rk_lload_e, rk_aload_e, rk_istore_e, rk_astore_e, rk_lstore_e, rk_iinc_e, rk_iadd_e, rk_isub_e, rk_imul_e, rk_iand_e, rk_ior_e, rk_ixor_e, rk_ladd_e, rk_lmul_e, rk_lsub_e, rk_ishl_e, rk_ishr_e, rk_iushr_e, rk_lcmp_e, rk_ineg_e, rk_i2l_e, rk_i2b_e, rk_i2s_e, rk_dup_e, rk_pop_e, rk_dup2_e, rk_if_eq_e, rk_icmp_eq_e, rk_if_ne_e, rk_icmp_ne_e, rk_if_lt_e, rk_icmp_lt_e, rk_if_ge_e, rk_icmp_ge_e, rk_if_gt_e, rk_icmp_gt_e, rk_if_le_e, rk_icmp_le_e, rk_sw01_e, rk_iret_e, rk_zret_e, rk_lret_e, rk_vret_e, rk_gI_e, rk_gJ_e, rk_gR_e, rk_pI_e, rk_pJ_e, rk_iald_e, rk_zald_e, rk_aald_e, rk_alen_e, rk_iast_e, rk_zast_e, rk_cV_e0, rk_cV_e1, rk_cV_e2, rk_cV_e3, rk_cV_e4, rk_cS_e1, rk_cS_e2, rk_cS_e3, rk_cS_e4, rk_mmin_e, rk_mmax_e, rk_mabs_e, rk_cpy_e, rk_cut_e, rk_kont_i, rk_kont_j, rk_kont_n, rk_ent_0, rk_ent_i, rk_ent_r, rk_ent_j, List.getElem?_cons_zero, List.getElem?_cons_succ, rk_st_0, rk_st_1i, rk_st_1r, rk_st_1n, rk_st_1j, rk_st_ss, rk_st2_0, rk_st2_1i, rk_st2_1r, rk_st2_1n, rk_st2_1j, rk_st2_ss, List.nil_append, List.cons_append, rk_sml, rk_cat_i, rk_cat_j, rk_cat_r, true_and, and_true, List.length_cons, List.length_nil, Nat.reduceLeDiff, Nat.reduceAdd, Nat.reduceSub, Nat.zero_le, List.reduceReplicate, List.map_nil, List.map_cons, List.sum_nil, List.sum_cons, true_or, or_true, rk_row_ob, rk_row_rf, rk_itm_kd, rk_itm_ln, rk_le_lt, Classical.not_not, not_true_eq_false, not_false_eq_true, rk_f_imp, rk_t_imp, rk_10, rk_01, rk_ob_0, rk_ob_1, rk_ob_2, rk_kd_2, rk_ln_2, rk_ob_3, rk_kd_3, rk_ln_3, rk_ob_4, rk_kd_4, rk_ln_4, rk_ob_5, rk_kd_5, rk_ln_5, rk_ob_6, rk_kd_6, rk_ln_6, rk_ob_7, rk_kd_7, rk_ln_7, rk_ob_8, rk_kd_8, rk_ln_8, rk_ob_9, rk_kd_9, rk_ln_9, rk_ob_10, rk_ob_11, rk_kd_11, rk_ln_11, rk_ob_12, rk_kd_12, rk_ln_12, rk_ob_13, rk_kd_13, rk_ln_13, rk_ob_14, rk_kd_14, rk_ln_14, rk_ob_15, rk_kd_15, rk_ln_15, rk_ob_16, rk_ob_17, rk_kd_17, rk_ln_17, rk_ob_18, rk_kd_18, rk_ln_18, rk_ob_19, rk_kd_19, rk_ln_19, rk_ob_20, rk_kd_20, rk_ln_20, rk_ob_21, rk_kd_21, rk_ln_21, rk_ob_22, rk_kd_22, rk_ln_22, rk_ob_23, rk_kd_23, rk_ln_23, rk_ob_24, rk_kd_24, rk_ln_24, rk_ob_25, rk_kd_25, rk_ln_25, rk_ob_26, rk_kd_26, rk_ln_26, rk_ob_27, rk_kd_27, rk_ln_27, rk_ob_28, rk_kd_28, rk_ln_28, rk_ob_29, rk_ob_30, rk_kd_30, rk_ln_30, rk_ob_31, rk_kd_31, rk_ln_31, rk_ob_32, rk_ob_33, rk_kd_33, rk_ln_33, rk_ob_34, rk_ob_35, rk_kd_35, rk_ln_35, rk_ob_36, rk_ob_37, rk_kd_37, rk_ln_37, rk_ob_38, rk_ob_39, rk_kd_39, rk_ln_39, rk_ob_40, rk_ob_41, rk_kd_41, rk_ln_41, rk_ob_42, rk_ob_43, rk_kd_43, rk_ln_43, rk_ob_44, rk_kd_44, rk_ln_44, rk_ob_45, rk_kd_45, rk_ln_45, rk_ob_46, rk_kd_46, rk_ln_46, rk_ob_47, rk_kd_47, rk_ln_47, rk_ob_48, rk_kd_48, rk_ln_48, rk_ob_49, rk_kd_49, rk_ln_49, rk_ob_50, rk_kd_50, rk_ln_50, rk_ob_51, rk_kd_51, rk_ln_51, rk_ob_52, rk_kd_52, rk_ln_52, rk_ob_53, rk_kd_53, rk_ln_53, rk_ob_54, rk_kd_54, rk_ln_54, rk_ob_55, rk_kd_55, rk_ln_55, rk_ob_56, rk_kd_56, rk_ln_56, rk_ob_57, rk_kd_57, rk_ln_57, rk_ob_58, rk_kd_58, rk_ln_58, rk_ob_59, rk_kd_59, rk_ln_59, rk_ob_60, rk_kd_60, rk_ln_60, rk_ob_61, rk_kd_61, rk_ln_61, rk_ob_62, rk_kd_62, rk_ln_62, rk_ob_63, rk_kd_63, rk_ln_63, rk_ob_64, rk_kd_64, rk_ln_64, rk_rf_0_0, rk_rf_0_1, rk_rf_0_2, rk_rf_0_3, rk_rf_0_4, rk_rf_0_5, rk_rf_1_0, rk_rf_1_1, rk_rf_1_2, rk_rf_1_3, rk_rf_1_4, rk_rf_1_5, rk_rf_1_6, rk_rf_1_9, rk_rf_10_1, rk_rf_10_2, rk_rf_10_3, rk_rf_10_4, rk_rf_10_5, rk_rf_10_6, rk_rf_16_0, rk_rf_16_1, rk_rf_16_2, rk_rf_16_3, rk_rf_16_4, rk_rf_16_5, rk_rf_16_6, rk_rf_16_7, rk_rf_16_8, rk_rf_16_9, rk_rf_16_10, rk_rf_16_13, rk_rf_16_14, rk_rf_16_15, rk_rf_29_0, rk_rf_29_1, rk_rf_29_2, rk_rf_32_0, rk_rf_34_0, rk_rf_36_0, rk_rf_38_0, rk_rf_40_0, rk_rf_42_1, rk_rf_42_2, rk_rf_42_4, rk_rf_42_5, rk_rf_42_6, rk_rf_42_8, rk_rf_42_9, rk_rf_42_12, rk_rf_42_13, rk_rf_42_14, rk_rf_42_15, rk_rf_42_16, rk_rf_42_17, rk_rf_42_20, rk_rf_42_21, rk_rf_42_22, rk_rf_42_23, rk_rf_42_27, rk_rf_42_28, rk_rf_42_29, rk_rf_42_30, rk_rf_42_31]
  unfold n_dy n_ot at k
  by_cases e : n_a N r = m
  · rw [if_pos e] at k
    simp only [eq_true e, rk_f_imp, rk_t_imp, not_true_eq_false, and_true, true_and]
    exact k
  · rw [if_neg e] at k
    simp only [eq_false e, rk_f_imp, rk_t_imp, not_false_eq_true, and_true, true_and]
    exact k
theorem c_product {a b c d : Int32} (k : R (some (.long ((a * c + b * d).toInt64))) σ) : sX1_product g [.int a, .int b, .int c, .int d] σ R := by
  refine rk_entry (own := RX1) rfl rfl rfl (Nat.le_of_ble_eq_true rfl) (oX1_product_0 _ _ _ ?_)
  simp only [and_self, eX1_product_0, rk_ci_e, rk_cj_e, rk_iload_e, rk_lload_e, rk_aload_e, rk_istore_e, rk_astore_e, rk_lstore_e, rk_iinc_e, rk_iadd_e, rk_isub_e, rk_imul_e, rk_iand_e, rk_ior_e, rk_ixor_e, rk_ladd_e, rk_lmul_e, rk_lsub_e, rk_ishl_e, rk_ishr_e, rk_iushr_e, rk_lcmp_e, rk_ineg_e, rk_i2l_e, rk_i2b_e, rk_i2s_e, rk_dup_e, rk_pop_e, rk_dup2_e, rk_if_eq_e, rk_icmp_eq_e, rk_if_ne_e, rk_icmp_ne_e, rk_if_lt_e, rk_icmp_lt_e, rk_if_ge_e, rk_icmp_ge_e, rk_if_gt_e, rk_icmp_gt_e, rk_if_le_e, rk_icmp_le_e, rk_sw01_e, rk_iret_e, rk_zret_e, rk_lret_e, rk_vret_e, rk_gI_e, rk_gJ_e, rk_gR_e, rk_pI_e, rk_pJ_e, rk_iald_e, rk_zald_e, rk_aald_e, rk_alen_e, rk_iast_e, rk_zast_e, rk_cV_e0, rk_cV_e1, rk_cV_e2, rk_cV_e3, rk_cV_e4, rk_cS_e1, rk_cS_e2, rk_cS_e3, rk_cS_e4, rk_mmin_e, rk_mmax_e, rk_mabs_e, rk_cpy_e, rk_cut_e, rk_kont_i, rk_kont_j, rk_kont_n, rk_ent_0, rk_ent_i, rk_ent_r, rk_ent_j, List.getElem?_cons_zero, List.getElem?_cons_succ, rk_st_0, rk_st_1i, rk_st_1r, rk_st_1n, rk_st_1j, rk_st_ss, rk_st2_0, rk_st2_1i, rk_st2_1r, rk_st2_1n, rk_st2_1j, rk_st2_ss, List.nil_append, List.cons_append, rk_sml, rk_cat_i, rk_cat_j, rk_cat_r, true_and, and_true, List.length_cons, List.length_nil, Nat.reduceLeDiff, Nat.reduceAdd, Nat.reduceSub, Nat.zero_le, List.reduceReplicate, List.map_nil, List.map_cons, List.sum_nil, List.sum_cons, true_or, or_true, rk_row_ob, rk_row_rf, rk_itm_kd, rk_itm_ln, rk_le_lt, Classical.not_not, not_true_eq_false, not_false_eq_true, rk_f_imp, rk_t_imp, rk_10, rk_01, rk_ob_0, rk_ob_1, rk_ob_2, rk_kd_2, rk_ln_2, rk_ob_3, rk_kd_3, rk_ln_3, rk_ob_4, rk_kd_4, rk_ln_4, rk_ob_5, rk_kd_5, rk_ln_5, rk_ob_6, rk_kd_6, rk_ln_6, rk_ob_7, rk_kd_7, rk_ln_7, rk_ob_8, rk_kd_8, rk_ln_8, rk_ob_9, rk_kd_9, rk_ln_9, rk_ob_10, rk_ob_11, rk_kd_11, rk_ln_11, rk_ob_12, rk_kd_12, rk_ln_12, rk_ob_13, rk_kd_13, rk_ln_13, rk_ob_14, rk_kd_14, rk_ln_14, rk_ob_15, rk_kd_15, rk_ln_15, rk_ob_16, rk_ob_17, rk_kd_17, rk_ln_17, rk_ob_18, rk_kd_18, rk_ln_18, rk_ob_19, rk_kd_19, rk_ln_19, rk_ob_20, rk_kd_20, rk_ln_20, rk_ob_21, rk_kd_21, rk_ln_21, rk_ob_22, rk_kd_22, rk_ln_22, rk_ob_23, rk_kd_23, rk_ln_23, rk_ob_24, rk_kd_24, rk_ln_24, rk_ob_25, rk_kd_25, rk_ln_25, rk_ob_26, rk_kd_26, rk_ln_26, rk_ob_27, rk_kd_27, rk_ln_27, rk_ob_28, rk_kd_28, rk_ln_28, rk_ob_29, rk_ob_30, rk_kd_30, rk_ln_30, rk_ob_31, rk_kd_31, rk_ln_31, rk_ob_32, rk_ob_33, rk_kd_33, rk_ln_33, rk_ob_34, rk_ob_35, rk_kd_35, rk_ln_35, rk_ob_36, rk_ob_37, rk_kd_37, rk_ln_37, rk_ob_38, rk_ob_39, rk_kd_39, rk_ln_39, rk_ob_40, rk_ob_41, rk_kd_41, rk_ln_41, rk_ob_42, rk_ob_43, rk_kd_43, rk_ln_43, rk_ob_44, rk_kd_44, rk_ln_44, rk_ob_45, rk_kd_45, rk_ln_45, rk_ob_46, rk_kd_46, rk_ln_46, rk_ob_47, rk_kd_47, rk_ln_47, rk_ob_48, rk_kd_48, rk_ln_48, rk_ob_49, rk_kd_49, rk_ln_49, rk_ob_50, rk_kd_50, rk_ln_50, rk_ob_51, rk_kd_51, rk_ln_51, rk_ob_52, rk_kd_52, rk_ln_52, rk_ob_53, rk_kd_53, rk_ln_53, rk_ob_54, rk_kd_54, rk_ln_54, rk_ob_55, rk_kd_55, rk_ln_55, rk_ob_56, rk_kd_56, rk_ln_56, rk_ob_57, rk_kd_57, rk_ln_57, rk_ob_58, rk_kd_58, rk_ln_58, rk_ob_59, rk_kd_59, rk_ln_59, rk_ob_60, rk_kd_60, rk_ln_60, rk_ob_61, rk_kd_61, rk_ln_61, rk_ob_62, rk_kd_62, rk_ln_62, rk_ob_63, rk_kd_63, rk_ln_63, rk_ob_64, rk_kd_64, rk_ln_64, rk_rf_0_0, rk_rf_0_1, rk_rf_0_2, rk_rf_0_3, rk_rf_0_4, rk_rf_0_5, rk_rf_1_0, rk_rf_1_1, rk_rf_1_2, rk_rf_1_3, rk_rf_1_4, rk_rf_1_5, rk_rf_1_6, rk_rf_1_9, rk_rf_10_1, rk_rf_10_2, rk_rf_10_3, rk_rf_10_4, rk_rf_10_5, rk_rf_10_6, rk_rf_16_0, rk_rf_16_1, rk_rf_16_2, rk_rf_16_3, rk_rf_16_4, rk_rf_16_5, rk_rf_16_6, rk_rf_16_7, rk_rf_16_8, rk_rf_16_9, rk_rf_16_10, rk_rf_16_13, rk_rf_16_14, rk_rf_16_15, rk_rf_29_0, rk_rf_29_1, rk_rf_29_2, rk_rf_32_0, rk_rf_34_0, rk_rf_36_0, rk_rf_38_0, rk_rf_40_0, rk_rf_42_1, rk_rf_42_2, rk_rf_42_4, rk_rf_42_5, rk_rf_42_6, rk_rf_42_8, rk_rf_42_9, rk_rf_42_12, rk_rf_42_13, rk_rf_42_14, rk_rf_42_15, rk_rf_42_16, rk_rf_42_17, rk_rf_42_20, rk_rf_42_21, rk_rf_42_22, rk_rf_42_23, rk_rf_42_27, rk_rf_42_28, rk_rf_42_29, rk_rf_42_30, rk_rf_42_31]
  exact k
theorem c_isWide {p o : Int64} [Decidable (p < 0 ∧ ¬ 2 * p * p < o)] (k : R (some (.int (rk_b (p < 0 ∧ ¬ 2 * p * p < o)))) σ) : sX1_isWide g [.long p, .long o] σ R := by
  refine rk_entry (own := RX1) rfl rfl rfl (Nat.le_of_ble_eq_true rfl) (oX1_isWide_0 _ _ _ ?_)
  simp only [lg_lt0, lg_gt0, eX1_isWide_0, eX1_isWide_22, eX1_isWide_23, rk_ci_e, rk_cj_e, rk_iload_e, rk_lload_e, rk_aload_e, rk_istore_e, rk_astore_e, rk_lstore_e, rk_iinc_e, rk_iadd_e, rk_isub_e, rk_imul_e, rk_iand_e, rk_ior_e, rk_ixor_e, rk_ladd_e, rk_lmul_e, rk_lsub_e, rk_ishl_e, rk_ishr_e, rk_iushr_e, rk_lcmp_e, rk_ineg_e, rk_i2l_e, rk_i2b_e, rk_i2s_e, rk_dup_e, rk_pop_e, rk_dup2_e, rk_if_eq_e, rk_icmp_eq_e, rk_if_ne_e, rk_icmp_ne_e, rk_if_lt_e, rk_icmp_lt_e, rk_if_ge_e, rk_icmp_ge_e, rk_if_gt_e, rk_icmp_gt_e, rk_if_le_e, rk_icmp_le_e, rk_sw01_e, rk_iret_e, rk_zret_e, rk_lret_e, rk_vret_e, rk_gI_e, rk_gJ_e, rk_gR_e, rk_pI_e, rk_pJ_e, rk_iald_e, rk_zald_e, rk_aald_e, rk_alen_e, rk_iast_e, rk_zast_e, rk_cV_e0, rk_cV_e1, rk_cV_e2, rk_cV_e3, rk_cV_e4, rk_cS_e1, rk_cS_e2, rk_cS_e3, rk_cS_e4, rk_mmin_e, rk_mmax_e, rk_mabs_e, rk_cpy_e, rk_cut_e, rk_kont_i, rk_kont_j, rk_kont_n, rk_ent_0, rk_ent_i, rk_ent_r, rk_ent_j, List.getElem?_cons_zero, List.getElem?_cons_succ, rk_st_0, rk_st_1i, rk_st_1r, rk_st_1n, rk_st_1j, rk_st_ss, rk_st2_0, rk_st2_1i, rk_st2_1r, rk_st2_1n, rk_st2_1j, rk_st2_ss, List.nil_append, List.cons_append, rk_sml, rk_cat_i, rk_cat_j, rk_cat_r, true_and, and_true, List.length_cons, List.length_nil, Nat.reduceLeDiff, Nat.reduceAdd, Nat.reduceSub, Nat.zero_le, List.reduceReplicate, List.map_nil, List.map_cons, List.sum_nil, List.sum_cons, true_or, or_true, rk_row_ob, rk_row_rf, rk_itm_kd, rk_itm_ln, rk_le_lt, Classical.not_not, not_true_eq_false, not_false_eq_true, rk_f_imp, rk_t_imp, rk_10, rk_01, rk_ob_0, rk_ob_1, rk_ob_2, rk_kd_2, rk_ln_2, rk_ob_3, rk_kd_3, rk_ln_3, rk_ob_4, rk_kd_4, rk_ln_4, rk_ob_5, rk_kd_5, rk_ln_5, rk_ob_6, rk_kd_6, rk_ln_6, rk_ob_7, rk_kd_7, rk_ln_7, rk_ob_8, rk_kd_8, rk_ln_8, rk_ob_9, rk_kd_9, rk_ln_9, rk_ob_10, rk_ob_11, rk_kd_11, rk_ln_11, rk_ob_12, rk_kd_12, rk_ln_12, rk_ob_13, rk_kd_13, rk_ln_13, rk_ob_14, rk_kd_14, rk_ln_14, rk_ob_15, rk_kd_15, rk_ln_15, rk_ob_16, rk_ob_17, rk_kd_17, rk_ln_17, rk_ob_18, rk_kd_18, rk_ln_18, rk_ob_19, rk_kd_19, rk_ln_19, rk_ob_20, rk_kd_20, rk_ln_20, rk_ob_21, rk_kd_21, rk_ln_21, rk_ob_22, rk_kd_22, rk_ln_22, rk_ob_23, rk_kd_23, rk_ln_23, rk_ob_24, rk_kd_24, rk_ln_24, rk_ob_25, rk_kd_25, rk_ln_25, rk_ob_26, rk_kd_26, rk_ln_26, rk_ob_27, rk_kd_27, rk_ln_27, rk_ob_28, rk_kd_28, rk_ln_28, rk_ob_29, rk_ob_30, rk_kd_30, rk_ln_30, rk_ob_31, rk_kd_31, rk_ln_31, rk_ob_32, rk_ob_33, rk_kd_33, rk_ln_33, rk_ob_34, rk_ob_35, rk_kd_35, rk_ln_35, rk_ob_36, rk_ob_37, rk_kd_37, rk_ln_37, rk_ob_38, rk_ob_39, rk_kd_39, rk_ln_39, rk_ob_40, rk_ob_41, rk_kd_41, rk_ln_41, rk_ob_42, rk_ob_43, rk_kd_43, rk_ln_43, rk_ob_44, rk_kd_44, rk_ln_44, rk_ob_45, rk_kd_45, rk_ln_45, rk_ob_46, rk_kd_46, rk_ln_46, rk_ob_47, rk_kd_47, rk_ln_47, rk_ob_48, rk_kd_48, rk_ln_48, rk_ob_49, rk_kd_49, rk_ln_49, rk_ob_50, rk_kd_50, rk_ln_50, rk_ob_51, rk_kd_51, rk_ln_51, rk_ob_52, rk_kd_52, rk_ln_52, rk_ob_53, rk_kd_53, rk_ln_53, rk_ob_54, rk_kd_54, rk_ln_54, rk_ob_55, rk_kd_55, rk_ln_55, rk_ob_56, rk_kd_56, rk_ln_56, rk_ob_57, rk_kd_57, rk_ln_57, rk_ob_58, rk_kd_58, rk_ln_58, rk_ob_59, rk_kd_59, rk_ln_59, rk_ob_60, rk_kd_60, rk_ln_60, rk_ob_61, rk_kd_61, rk_ln_61, rk_ob_62, rk_kd_62, rk_ln_62, rk_ob_63, rk_kd_63, rk_ln_63, rk_ob_64, rk_kd_64, rk_ln_64, rk_rf_0_0, rk_rf_0_1, rk_rf_0_2, rk_rf_0_3, rk_rf_0_4, rk_rf_0_5, rk_rf_1_0, rk_rf_1_1, rk_rf_1_2, rk_rf_1_3, rk_rf_1_4, rk_rf_1_5, rk_rf_1_6, rk_rf_1_9, rk_rf_10_1, rk_rf_10_2, rk_rf_10_3, rk_rf_10_4, rk_rf_10_5, rk_rf_10_6, rk_rf_16_0, rk_rf_16_1, rk_rf_16_2, rk_rf_16_3, rk_rf_16_4, rk_rf_16_5, rk_rf_16_6, rk_rf_16_7, rk_rf_16_8, rk_rf_16_9, rk_rf_16_10, rk_rf_16_13, rk_rf_16_14, rk_rf_16_15, rk_rf_29_0, rk_rf_29_1, rk_rf_29_2, rk_rf_32_0, rk_rf_34_0, rk_rf_36_0, rk_rf_38_0, rk_rf_40_0, rk_rf_42_1, rk_rf_42_2, rk_rf_42_4, rk_rf_42_5, rk_rf_42_6, rk_rf_42_8, rk_rf_42_9, rk_rf_42_12, rk_rf_42_13, rk_rf_42_14, rk_rf_42_15, rk_rf_42_16, rk_rf_42_17, rk_rf_42_20, rk_rf_42_21, rk_rf_42_22, rk_rf_42_23, rk_rf_42_27, rk_rf_42_28, rk_rf_42_29, rk_rf_42_30, rk_rf_42_31]
  by_cases e1 : p < 0
  · by_cases e2 : 2 * p * p < o
    · rw [rk_b_f (fun z => z.2 e2)] at k
      simp only [e1, e2, rk_f_imp, rk_t_imp, not_true_eq_false, and_true, true_and]
      exact k
    · rw [rk_b_t ⟨e1, e2⟩] at k
      simp only [e1, e2, rk_f_imp, rk_t_imp, not_true_eq_false, not_false_eq_true, and_true, true_and]
      exact k
  · rw [rk_b_f (fun z => e1 z.1)] at k
    simp only [e1, rk_f_imp, rk_t_imp, not_true_eq_false, not_false_eq_true, and_true, true_and]
    exact k
end Along
