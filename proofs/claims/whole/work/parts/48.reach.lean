/-! ===== bits, and what is reached ===== -/
theorem b_1 : ∀ i, i < 32 → bt 1 i = decide (i = 0) := by decide +kernel
theorem hb_iff (x : Int32) {n : Nat} (hn : n < 32) : (x >>> (nI n &&& 31) &&& 1 = 0) = (bt x n = false) := by
  apply propext
  have e0 : bt (x >>> (nI n &&& 31) &&& 1) 0 = bt x n := by
    rw [b_and, b_sshr n hn x (by omega), b_1 0 (by omega)]
    simp [hn]
  constructor
  · intro h
    rw [h, b_0] at e0
    exact e0.symm
  · intro h
    apply b_ext
    intro i hi
    rw [b_0]
    by_cases h0 : i = 0
    · subst h0; rw [e0]; exact h
    · rw [b_and, b_1 i hi]; simp [h0]
theorem b_shl1 {n : Nat} (hn : n < 32) {i : Nat} (hi : i < 32) : bt ((1 : Int32) <<< (nI n &&& 31)) i = decide (i = n) := by
  rw [b_shl n hn 1 hi]
  by_cases h : n ≤ i
  · rw [b_1 (i - n) (by omega)]
    by_cases e : i = n
    · simp [e]
    · have : ¬ i - n = 0 := by omega
      simp [e, this]
  · have : ¬ i = n := by omega
    simp [h, this]
def bs (x y : Int32) : Prop := ∀ i, i < 32 → bt x i = true → bt y i = true
theorem bs_rfl (x : Int32) : bs x x := fun _ _ h => h
theorem bs_trans {x y z : Int32} (h : bs x y) (h' : bs y z) : bs x z := fun i hi q => h' i hi (h i hi q)
theorem bs_anti {x y : Int32} (h : bs x y) (h' : bs y x) : x = y := b_ext fun i hi => by
  cases hx : bt x i with
  | true => exact (h i hi hx).symm
  | false =>
    cases hy : bt y i with
    | true => rw [h' i hi hy] at hx; cases hx
    | false => rfl
/-- one round -/
def R_in (f : Nat → Int32) (w : Int32) (i : Nat) (s : Int32) : Int32 := if bt s i = true then s ||| (f i &&& w) else s
theorem R_in_up (f : Nat → Int32) (w : Int32) (i : Nat) (s : Int32) : bs s (R_in f w i s) := by
  unfold R_in
  by_cases h : bt s i = true
  · rw [if_pos h]
    intro j hj q
    rw [b_or, q]; rfl
  · rw [if_neg h]; exact bs_rfl s
theorem R_bi_up (f : Nat → Int32) (w : Int32) : ∀ (n i : Nat) (s : Int32), bs s (bi (R_in f w) n i s)
  | 0, i, s => bs_rfl s
  | n + 1, i, s => by rw [bi_s]; exact bs_trans (R_in_up f w i s) (R_bi_up f w n (i + 1) _)
theorem R_bi_S (f : Nat → Int32) (w : Int32) (S : Nat → Prop) : ∀ (n i : Nat) (s : Int32), (∀ q j, i ≤ q → q < i + n → j < 32 → S q → bt (f q) j = true → bt w j = true → S j) → i + n ≤ 32 → (∀ j, j < 32 → bt s j = true → S j) → ∀ j, j < 32 → bt (bi (R_in f w) n i s) j = true → S j
  | 0, i, s, _, _, hs => hs
  | n + 1, i, s, hc, hn, hs => by
    rw [bi_s]
    refine R_bi_S f w S n (i + 1) _ (fun q j h1 h2 => hc q j (by omega) (by omega)) (by omega) (fun j hj q => ?_)
    unfold R_in at q
    by_cases h : bt s i = true
    · rw [if_pos h, b_or, Bool.or_eq_true, b_and, Bool.and_eq_true] at q
      rcases q with q | q
      · exact hs j hj q
      · exact hc i j (Nat.le_refl i) (by omega) hj (hs i (by omega) h) q.1 q.2
    · rw [if_neg h] at q; exact hs j hj q
theorem R_bi_fix (f : Nat → Int32) (w : Int32) : ∀ (n i : Nat) (s : Int32), i + n ≤ 32 → bi (R_in f w) n i s = s → ∀ q, i ≤ q → q < i + n → bt s q = true → ∀ j, j < 32 → bt (f q) j = true → bt w j = true → bt s j = true
  | 0, i, s, _, _, q, h1, h2 => by omega
  | n + 1, i, s, hn, he, q, h1, h2 => by
    rw [bi_s] at he
    have e : R_in f w i s = s := bs_anti (fun j hj z => by have := R_bi_up f w n (i + 1) (R_in f w i s) j hj z; rw [he] at this; exact this) (R_in_up f w i s)
    intro hq j hj a b
    by_cases hqi : q = i
    · subst hqi
      unfold R_in at e
      rw [if_pos hq] at e
      rw [← e, b_or, b_and, a, b]
      simp
    · rw [e] at he
      exact R_bi_fix f w n (i + 1) s (by omega) he q (by omega) (by omega) hq j hj a b
/-- what is reached: m -/
def Rea (f : Nat → Int32) (L : Nat) (st w m : Int32) : Prop := bs m w ∧ (∀ j, j < 32 → bt st j = true → bt w j = true → bt m j = true) ∧ (∀ i j, i < L → j < 32 → bt m i = true → bt (f i) j = true → bt w j = true → bt m j = true) ∧
  ∀ S : Nat → Prop, (∀ j, j < 32 → bt st j = true → bt w j = true → S j) → (∀ i j, i < L → j < 32 → S i → bt (f i) j = true → bt w j = true → S j) → ∀ j, j < 32 → bt m j = true → S j
def bc (x : Int32) : Nat := fb_ct (fun i => bt x i) 32
theorem bc_lt {x y : Int32} (h : bs x y) (hne : ¬ y = x) : bc x < bc y := by
  have hle : bc x ≤ bc y := fb_ct_sub (fun k hk q => h k hk q)
  rcases Nat.lt_or_ge (bc x) (bc y) with q | q
  · exact q
  · exfalso
    apply hne
    apply bs_anti _ h
    intro i hi hy
    cases hx : bt x i with
    | true => rfl
    | false =>
      exfalso
      have e := fb_ct_upd (fun k => bt y k) false hi
      have e2 : fb_ct (fun k => bt x k) 32 ≤ fb_ct (fun k => if k = i then false else bt y k) 32 := fb_ct_sub (fun k hk z => by
        by_cases e3 : k = i
        · subst e3; rw [hx] at z; cases z
        · simp only [if_neg e3]; exact h k hk z)
      unfold bc at q
      rw [if_pos hy, if_neg (by decide)] at e
      omega
theorem bc_le {x : Int32} {L : Nat} (h : ∀ j, L ≤ j → bt x j = false) (hL : L ≤ 32) : bc x ≤ L := by
  unfold bc
  have := fb_ct_split (fun i => bt x i) L (32 - L)
  rw [show L + (32 - L) = 32 by omega] at this
  rw [this]
  have e : fb_ct (fun k => bt x (L + k)) (32 - L) = 0 := fb_ct_zero.mpr (fun k _ => h (L + k) (by omega))
  rw [e]
  exact fb_ct_le _ _
section CReach
variable {g : rk_G} {R : rk_R} {σ : rk_M}
theorem c_hasBit {x : Int32} {n : Nat} (hn : n < 32) (k : R (some (.int (rk_b (bt x n = true)))) σ) : sX6_hasBit g [.int x, .int (nI n)] σ R := by
  refine rk_entry (own := RX6) rfl rfl rfl (Nat.le_of_ble_eq_true rfl) (oX6_hasBit_0 _ _ _ ?_)
  simp only [hb_iff x hn, eX6_hasBit_0, eX6_hasBit_13, rk_ci_e, rk_cj_e, rk_iload_e, rk_lload_e, rk_aload_e, rk_istore_e, rk_astore_e, rk_lstore_e, rk_iinc_e, rk_iadd_e, rk_isub_e, rk_imul_e, rk_iand_e, rk_ior_e, rk_ixor_e, rk_ladd_e, rk_lmul_e, rk_lsub_e, rk_ishl_e, rk_ishr_e, rk_iushr_e, rk_lcmp_e, rk_ineg_e, rk_i2l_e, rk_i2b_e, rk_i2s_e, rk_dup_e, rk_pop_e, rk_dup2_e, rk_if_eq_e, rk_icmp_eq_e, rk_if_ne_e, rk_icmp_ne_e, rk_if_lt_e, rk_icmp_lt_e, rk_if_ge_e, rk_icmp_ge_e, rk_if_gt_e, rk_icmp_gt_e, rk_if_le_e, rk_icmp_le_e, rk_sw01_e, rk_iret_e, rk_zret_e, rk_lret_e, rk_vret_e, rk_gI_e, rk_gJ_e, rk_gR_e, rk_pI_e, rk_pJ_e, rk_iald_e, rk_zald_e, rk_aald_e, rk_alen_e, rk_iast_e, rk_zast_e, rk_cV_e0, rk_cV_e1, rk_cV_e2, rk_cV_e3, rk_cV_e4, rk_cS_e1, rk_cS_e2, rk_cS_e3, rk_cS_e4, rk_mmin_e, rk_mmax_e, rk_mabs_e, rk_cpy_e, rk_cut_e, rk_kont_i, rk_kont_j, rk_kont_n, rk_ent_0, rk_ent_i, rk_ent_r, rk_ent_j, List.getElem?_cons_zero, List.getElem?_cons_succ, rk_st_0, rk_st_1i, rk_st_1r, rk_st_1n, rk_st_1j, rk_st_ss, rk_st2_0, rk_st2_1i, rk_st2_1r, rk_st2_1n, rk_st2_1j, rk_st2_ss, List.nil_append, List.cons_append, rk_sml, rk_cat_i, rk_cat_j, rk_cat_r, true_and, and_true, List.length_cons, List.length_nil, Nat.reduceLeDiff, Nat.reduceAdd, Nat.reduceSub, Nat.zero_le, List.reduceReplicate, List.map_nil, List.map_cons, List.sum_nil, List.sum_cons, true_or, or_true, rk_row_ob, rk_row_rf, rk_itm_kd, rk_itm_ln, rk_le_lt, Classical.not_not, not_true_eq_false, not_false_eq_true, rk_f_imp, rk_t_imp, rk_10, rk_01, rk_ob_0, rk_ob_1, rk_ob_2, rk_kd_2, rk_ln_2, rk_ob_3, rk_kd_3, rk_ln_3, rk_ob_4, rk_kd_4, rk_ln_4, rk_ob_5, rk_kd_5, rk_ln_5, rk_ob_6, rk_kd_6, rk_ln_6, rk_ob_7, rk_kd_7, rk_ln_7, rk_ob_8, rk_kd_8, rk_ln_8, rk_ob_9, rk_kd_9, rk_ln_9, rk_ob_10, rk_ob_11, rk_kd_11, rk_ln_11, rk_ob_12, rk_kd_12, rk_ln_12, rk_ob_13, rk_kd_13, rk_ln_13, rk_ob_14, rk_kd_14, rk_ln_14, rk_ob_15, rk_kd_15, rk_ln_15, rk_ob_16, rk_ob_17, rk_kd_17, rk_ln_17, rk_ob_18, rk_kd_18, rk_ln_18, rk_ob_19, rk_kd_19, rk_ln_19, rk_ob_20, rk_kd_20, rk_ln_20, rk_ob_21, rk_kd_21, rk_ln_21, rk_ob_22, rk_kd_22, rk_ln_22, rk_ob_23, rk_kd_23, rk_ln_23, rk_ob_24, rk_kd_24, rk_ln_24, rk_ob_25, rk_kd_25, rk_ln_25, rk_ob_26, rk_kd_26, rk_ln_26, rk_ob_27, rk_kd_27, rk_ln_27, rk_ob_28, rk_kd_28, rk_ln_28, rk_ob_29, rk_ob_30, rk_kd_30, rk_ln_30, rk_ob_31, rk_kd_31, rk_ln_31, rk_ob_32, rk_ob_33, rk_kd_33, rk_ln_33, rk_ob_34, rk_ob_35, rk_kd_35, rk_ln_35, rk_ob_36, rk_ob_37, rk_kd_37, rk_ln_37, rk_ob_38, rk_ob_39, rk_kd_39, rk_ln_39, rk_ob_40, rk_ob_41, rk_kd_41, rk_ln_41, rk_ob_42, rk_ob_43, rk_kd_43, rk_ln_43, rk_ob_44, rk_kd_44, rk_ln_44, rk_ob_45, rk_kd_45, rk_ln_45, rk_ob_46, rk_kd_46, rk_ln_46, rk_ob_47, rk_kd_47, rk_ln_47, rk_ob_48, rk_kd_48, rk_ln_48, rk_ob_49, rk_kd_49, rk_ln_49, rk_ob_50, rk_kd_50, rk_ln_50, rk_ob_51, rk_kd_51, rk_ln_51, rk_ob_52, rk_kd_52, rk_ln_52, rk_ob_53, rk_kd_53, rk_ln_53, rk_ob_54, rk_kd_54, rk_ln_54, rk_ob_55, rk_kd_55, rk_ln_55, rk_ob_56, rk_kd_56, rk_ln_56, rk_ob_57, rk_kd_57, rk_ln_57, rk_ob_58, rk_kd_58, rk_ln_58, rk_ob_59, rk_kd_59, rk_ln_59, rk_ob_60, rk_kd_60, rk_ln_60, rk_ob_61, rk_kd_61, rk_ln_61, rk_ob_62, rk_kd_62, rk_ln_62, rk_ob_63, rk_kd_63, rk_ln_63, rk_ob_64, rk_kd_64, rk_ln_64, rk_rf_0_0, rk_rf_0_1, rk_rf_0_2, rk_rf_0_3, rk_rf_0_4, rk_rf_0_5, rk_rf_1_0, rk_rf_1_1, rk_rf_1_2, rk_rf_1_3, rk_rf_1_4, rk_rf_1_5, rk_rf_1_6, rk_rf_1_9, rk_rf_10_1, rk_rf_10_2, rk_rf_10_3, rk_rf_10_4, rk_rf_10_5, rk_rf_10_6, rk_rf_16_0, rk_rf_16_1, rk_rf_16_2, rk_rf_16_3, rk_rf_16_4, rk_rf_16_5, rk_rf_16_6, rk_rf_16_7, rk_rf_16_8, rk_rf_16_9, rk_rf_16_10, rk_rf_16_13, rk_rf_16_14, rk_rf_16_15, rk_rf_29_0, rk_rf_29_1, rk_rf_29_2, rk_rf_32_0, rk_rf_34_0, rk_rf_36_0, rk_rf_38_0, rk_rf_40_0, rk_rf_42_1, rk_rf_42_2, rk_rf_42_4, rk_rf_42_5, rk_rf_42_6, rk_rf_42_8, rk_rf_42_9, rk_rf_42_12, rk_rf_42_13, rk_rf_42_14, rk_rf_42_15, rk_rf_42_16, rk_rf_42_17, rk_rf_42_20, rk_rf_42_21, rk_rf_42_22, rk_rf_42_23, rk_rf_42_27, rk_rf_42_28, rk_rf_42_29, rk_rf_42_30, rk_rf_42_31]
  cases h : bt x n with
  | true =>
    rw [rk_b_t h] at k
    simp only [reduceCtorEq, rk_f_imp, rk_t_imp, not_true_eq_false, not_false_eq_true, and_true, true_and]
    exact k
  | false =>
    rw [rk_b_f (by rw [h]; decide)] at k
    simp only [reduceCtorEq, rk_f_imp, rk_t_imp, not_true_eq_false, not_false_eq_true, and_true, true_and]
    exact k
theorem c_re_in {c L : Nat} {st w sn rd : Int32} (hk : rk_kd c = 1) (hl : rk_ln c = L) (hL : L ≤ 24) : ∀ (n i : Nat) (s : Int32), i + n = L →
    (¬ bi (R_in (σ.1 c) w) n i s = sn → tX6_reached g R 7 [.int st, .int w, .ref c, .int (bi (R_in (σ.1 c) w) n i s), .int (rd + 1), .null, .null] [] σ) → (bi (R_in (σ.1 c) w) n i s = sn → R (some (.int sn)) σ) → tX6_reached g R 20 [.int st, .int w, .ref c, .int sn, .int rd, .int s, .int (nI i)] [] σ := by
  intro n
  induction n with
  | zero =>
    intro i s hi k1 k2
    obtain rfl : i = L := by omega
    rw [bi_0] at k1 k2
    refine oX6_reached_20 _ _ _ ?_
    have h0 : ¬ nI i < Int32.ofNat i := Int32.lt_irrefl
    simp only [hk, hl, h0, eX6_reached_0, eX6_reached_7, eX6_reached_20, eX6_reached_48, eX6_reached_72, rk_ci_e, rk_cj_e, rk_iload_e, rk_lload_e, rk_aload_e, rk_istore_e, rk_astore_e, rk_lstore_e, rk_iinc_e, rk_iadd_e, rk_isub_e, rk_imul_e, rk_iand_e, rk_ior_e, rk_ixor_e, rk_ladd_e, rk_lmul_e, rk_lsub_e, rk_ishl_e, rk_ishr_e, rk_iushr_e, rk_lcmp_e, rk_ineg_e, rk_i2l_e, rk_i2b_e, rk_i2s_e, rk_dup_e, rk_pop_e, rk_dup2_e, rk_if_eq_e, rk_icmp_eq_e, rk_if_ne_e, rk_icmp_ne_e, rk_if_lt_e, rk_icmp_lt_e, rk_if_ge_e, rk_icmp_ge_e, rk_if_gt_e, rk_icmp_gt_e, rk_if_le_e, rk_icmp_le_e, rk_sw01_e, rk_iret_e, rk_zret_e, rk_lret_e, rk_vret_e, rk_gI_e, rk_gJ_e, rk_gR_e, rk_pI_e, rk_pJ_e, rk_iald_e, rk_zald_e, rk_aald_e, rk_alen_e, rk_iast_e, rk_zast_e, rk_cV_e0, rk_cV_e1, rk_cV_e2, rk_cV_e3, rk_cV_e4, rk_cS_e1, rk_cS_e2, rk_cS_e3, rk_cS_e4, rk_mmin_e, rk_mmax_e, rk_mabs_e, rk_cpy_e, rk_cut_e, rk_kont_i, rk_kont_j, rk_kont_n, rk_ent_0, rk_ent_i, rk_ent_r, rk_ent_j, List.getElem?_cons_zero, List.getElem?_cons_succ, rk_st_0, rk_st_1i, rk_st_1r, rk_st_1n, rk_st_1j, rk_st_ss, rk_st2_0, rk_st2_1i, rk_st2_1r, rk_st2_1n, rk_st2_1j, rk_st2_ss, List.nil_append, List.cons_append, rk_sml, rk_cat_i, rk_cat_j, rk_cat_r, true_and, and_true, List.length_cons, List.length_nil, Nat.reduceLeDiff, Nat.reduceAdd, Nat.reduceSub, Nat.zero_le, List.reduceReplicate, List.map_nil, List.map_cons, List.sum_nil, List.sum_cons, true_or, or_true, rk_row_ob, rk_row_rf, rk_itm_kd, rk_itm_ln, rk_le_lt, Classical.not_not, not_true_eq_false, not_false_eq_true, rk_f_imp, rk_t_imp, rk_10, rk_01, rk_ob_0, rk_ob_1, rk_ob_2, rk_kd_2, rk_ln_2, rk_ob_3, rk_kd_3, rk_ln_3, rk_ob_4, rk_kd_4, rk_ln_4, rk_ob_5, rk_kd_5, rk_ln_5, rk_ob_6, rk_kd_6, rk_ln_6, rk_ob_7, rk_kd_7, rk_ln_7, rk_ob_8, rk_kd_8, rk_ln_8, rk_ob_9, rk_kd_9, rk_ln_9, rk_ob_10, rk_ob_11, rk_kd_11, rk_ln_11, rk_ob_12, rk_kd_12, rk_ln_12, rk_ob_13, rk_kd_13, rk_ln_13, rk_ob_14, rk_kd_14, rk_ln_14, rk_ob_15, rk_kd_15, rk_ln_15, rk_ob_16, rk_ob_17, rk_kd_17, rk_ln_17, rk_ob_18, rk_kd_18, rk_ln_18, rk_ob_19, rk_kd_19, rk_ln_19, rk_ob_20, rk_kd_20, rk_ln_20, rk_ob_21, rk_kd_21, rk_ln_21, rk_ob_22, rk_kd_22, rk_ln_22, rk_ob_23, rk_kd_23, rk_ln_23, rk_ob_24, rk_kd_24, rk_ln_24, rk_ob_25, rk_kd_25, rk_ln_25, rk_ob_26, rk_kd_26, rk_ln_26, rk_ob_27, rk_kd_27, rk_ln_27, rk_ob_28, rk_kd_28, rk_ln_28, rk_ob_29, rk_ob_30, rk_kd_30, rk_ln_30, rk_ob_31, rk_kd_31, rk_ln_31, rk_ob_32, rk_ob_33, rk_kd_33, rk_ln_33, rk_ob_34, rk_ob_35, rk_kd_35, rk_ln_35, rk_ob_36, rk_ob_37, rk_kd_37, rk_ln_37, rk_ob_38, rk_ob_39, rk_kd_39, rk_ln_39, rk_ob_40, rk_ob_41, rk_kd_41, rk_ln_41, rk_ob_42, rk_ob_43, rk_kd_43, rk_ln_43, rk_ob_44, rk_kd_44, rk_ln_44, rk_ob_45, rk_kd_45, rk_ln_45, rk_ob_46, rk_kd_46, rk_ln_46, rk_ob_47, rk_kd_47, rk_ln_47, rk_ob_48, rk_kd_48, rk_ln_48, rk_ob_49, rk_kd_49, rk_ln_49, rk_ob_50, rk_kd_50, rk_ln_50, rk_ob_51, rk_kd_51, rk_ln_51, rk_ob_52, rk_kd_52, rk_ln_52, rk_ob_53, rk_kd_53, rk_ln_53, rk_ob_54, rk_kd_54, rk_ln_54, rk_ob_55, rk_kd_55, rk_ln_55, rk_ob_56, rk_kd_56, rk_ln_56, rk_ob_57, rk_kd_57, rk_ln_57, rk_ob_58, rk_kd_58, rk_ln_58, rk_ob_59, rk_kd_59, rk_ln_59, rk_ob_60, rk_kd_60, rk_ln_60, rk_ob_61, rk_kd_61, rk_ln_61, rk_ob_62, rk_kd_62, rk_ln_62, rk_ob_63, rk_kd_63, rk_ln_63, rk_ob_64, rk_kd_64, rk_ln_64, rk_rf_0_0, rk_rf_0_1, rk_rf_0_2, rk_rf_0_3, rk_rf_0_4, rk_rf_0_5, rk_rf_1_0, rk_rf_1_1, rk_rf_1_2, rk_rf_1_3, rk_rf_1_4, rk_rf_1_5, rk_rf_1_6, rk_rf_1_9, rk_rf_10_1, rk_rf_10_2, rk_rf_10_3, rk_rf_10_4, rk_rf_10_5, rk_rf_10_6, rk_rf_16_0, rk_rf_16_1, rk_rf_16_2, rk_rf_16_3, rk_rf_16_4, rk_rf_16_5, rk_rf_16_6, rk_rf_16_7, rk_rf_16_8, rk_rf_16_9, rk_rf_16_10, rk_rf_16_13, rk_rf_16_14, rk_rf_16_15, rk_rf_29_0, rk_rf_29_1, rk_rf_29_2, rk_rf_32_0, rk_rf_34_0, rk_rf_36_0, rk_rf_38_0, rk_rf_40_0, rk_rf_42_1, rk_rf_42_2, rk_rf_42_4, rk_rf_42_5, rk_rf_42_6, rk_rf_42_8, rk_rf_42_9, rk_rf_42_12, rk_rf_42_13, rk_rf_42_14, rk_rf_42_15, rk_rf_42_16, rk_rf_42_17, rk_rf_42_20, rk_rf_42_21, rk_rf_42_22, rk_rf_42_23, rk_rf_42_27, rk_rf_42_28, rk_rf_42_29, rk_rf_42_30, rk_rf_42_31]
    exact ⟨fun h => rk_At_w (k1 h) (by simp [rk_wk]), k2⟩
  | succ n ih =>
    intro i s hi k1 k2
    rw [bi_s] at k1 k2
    refine oX6_reached_20 _ _ _ ?_
    have h0 : nI i < Int32.ofNat L := nI_lt (b := L) (by omega) (by omega)
    have hc : (nI i).toNatClampNeg = i := nI_clamp (by omega)
    have hv : vp_in (nI i) L := vp_in_nI (by omega) (by omega)
    have nx := ih (i + 1) (R_in (σ.1 c) w i s) (by omega) k1 k2
    simp only [hk, hl, h0, eX6_reached_0, eX6_reached_7, eX6_reached_20, eX6_reached_48, eX6_reached_72, rk_ci_e, rk_cj_e, rk_iload_e, rk_lload_e, rk_aload_e, rk_istore_e, rk_astore_e, rk_lstore_e, rk_iinc_e, rk_iadd_e, rk_isub_e, rk_imul_e, rk_iand_e, rk_ior_e, rk_ixor_e, rk_ladd_e, rk_lmul_e, rk_lsub_e, rk_ishl_e, rk_ishr_e, rk_iushr_e, rk_lcmp_e, rk_ineg_e, rk_i2l_e, rk_i2b_e, rk_i2s_e, rk_dup_e, rk_pop_e, rk_dup2_e, rk_if_eq_e, rk_icmp_eq_e, rk_if_ne_e, rk_icmp_ne_e, rk_if_lt_e, rk_icmp_lt_e, rk_if_ge_e, rk_icmp_ge_e, rk_if_gt_e, rk_icmp_gt_e, rk_if_le_e, rk_icmp_le_e, rk_sw01_e, rk_iret_e, rk_zret_e, rk_lret_e, rk_vret_e, rk_gI_e, rk_gJ_e, rk_gR_e, rk_pI_e, rk_pJ_e, rk_iald_e, rk_zald_e, rk_aald_e, rk_alen_e, rk_iast_e, rk_zast_e, rk_cV_e0, rk_cV_e1, rk_cV_e2, rk_cV_e3, rk_cV_e4, rk_cS_e1, rk_cS_e2, rk_cS_e3, rk_cS_e4, rk_mmin_e, rk_mmax_e, rk_mabs_e, rk_cpy_e, rk_cut_e, rk_kont_i, rk_kont_j, rk_kont_n, rk_ent_0, rk_ent_i, rk_ent_r, rk_ent_j, List.getElem?_cons_zero, List.getElem?_cons_succ, rk_st_0, rk_st_1i, rk_st_1r, rk_st_1n, rk_st_1j, rk_st_ss, rk_st2_0, rk_st2_1i, rk_st2_1r, rk_st2_1n, rk_st2_1j, rk_st2_ss, List.nil_append, List.cons_append, rk_sml, rk_cat_i, rk_cat_j, rk_cat_r, true_and, and_true, List.length_cons, List.length_nil, Nat.reduceLeDiff, Nat.reduceAdd, Nat.reduceSub, Nat.zero_le, List.reduceReplicate, List.map_nil, List.map_cons, List.sum_nil, List.sum_cons, true_or, or_true, rk_row_ob, rk_row_rf, rk_itm_kd, rk_itm_ln, rk_le_lt, Classical.not_not, not_true_eq_false, not_false_eq_true, rk_f_imp, rk_t_imp, rk_10, rk_01, rk_ob_0, rk_ob_1, rk_ob_2, rk_kd_2, rk_ln_2, rk_ob_3, rk_kd_3, rk_ln_3, rk_ob_4, rk_kd_4, rk_ln_4, rk_ob_5, rk_kd_5, rk_ln_5, rk_ob_6, rk_kd_6, rk_ln_6, rk_ob_7, rk_kd_7, rk_ln_7, rk_ob_8, rk_kd_8, rk_ln_8, rk_ob_9, rk_kd_9, rk_ln_9, rk_ob_10, rk_ob_11, rk_kd_11, rk_ln_11, rk_ob_12, rk_kd_12, rk_ln_12, rk_ob_13, rk_kd_13, rk_ln_13, rk_ob_14, rk_kd_14, rk_ln_14, rk_ob_15, rk_kd_15, rk_ln_15, rk_ob_16, rk_ob_17, rk_kd_17, rk_ln_17, rk_ob_18, rk_kd_18, rk_ln_18, rk_ob_19, rk_kd_19, rk_ln_19, rk_ob_20, rk_kd_20, rk_ln_20, rk_ob_21, rk_kd_21, rk_ln_21, rk_ob_22, rk_kd_22, rk_ln_22, rk_ob_23, rk_kd_23, rk_ln_23, rk_ob_24, rk_kd_24, rk_ln_24, rk_ob_25, rk_kd_25, rk_ln_25, rk_ob_26, rk_kd_26, rk_ln_26, rk_ob_27, rk_kd_27, rk_ln_27, rk_ob_28, rk_kd_28, rk_ln_28, rk_ob_29, rk_ob_30, rk_kd_30, rk_ln_30, rk_ob_31, rk_kd_31, rk_ln_31, rk_ob_32, rk_ob_33, rk_kd_33, rk_ln_33, rk_ob_34, rk_ob_35, rk_kd_35, rk_ln_35, rk_ob_36, rk_ob_37, rk_kd_37, rk_ln_37, rk_ob_38, rk_ob_39, rk_kd_39, rk_ln_39, rk_ob_40, rk_ob_41, rk_kd_41, rk_ln_41, rk_ob_42, rk_ob_43, rk_kd_43, rk_ln_43, rk_ob_44, rk_kd_44, rk_ln_44, rk_ob_45, rk_kd_45, rk_ln_45, rk_ob_46, rk_kd_46, rk_ln_46, rk_ob_47, rk_kd_47, rk_ln_47, rk_ob_48, rk_kd_48, rk_ln_48, rk_ob_49, rk_kd_49, rk_ln_49, rk_ob_50, rk_kd_50, rk_ln_50, rk_ob_51, rk_kd_51, rk_ln_51, rk_ob_52, rk_kd_52, rk_ln_52, rk_ob_53, rk_kd_53, rk_ln_53, rk_ob_54, rk_kd_54, rk_ln_54, rk_ob_55, rk_kd_55, rk_ln_55, rk_ob_56, rk_kd_56, rk_ln_56, rk_ob_57, rk_kd_57, rk_ln_57, rk_ob_58, rk_kd_58, rk_ln_58, rk_ob_59, rk_kd_59, rk_ln_59, rk_ob_60, rk_kd_60, rk_ln_60, rk_ob_61, rk_kd_61, rk_ln_61, rk_ob_62, rk_kd_62, rk_ln_62, rk_ob_63, rk_kd_63, rk_ln_63, rk_ob_64, rk_kd_64, rk_ln_64, rk_rf_0_0, rk_rf_0_1, rk_rf_0_2, rk_rf_0_3, rk_rf_0_4, rk_rf_0_5, rk_rf_1_0, rk_rf_1_1, rk_rf_1_2, rk_rf_1_3, rk_rf_1_4, rk_rf_1_5, rk_rf_1_6, rk_rf_1_9, rk_rf_10_1, rk_rf_10_2, rk_rf_10_3, rk_rf_10_4, rk_rf_10_5, rk_rf_10_6, rk_rf_16_0, rk_rf_16_1, rk_rf_16_2, rk_rf_16_3, rk_rf_16_4, rk_rf_16_5, rk_rf_16_6, rk_rf_16_7, rk_rf_16_8, rk_rf_16_9, rk_rf_16_10, rk_rf_16_13, rk_rf_16_14, rk_rf_16_15, rk_rf_29_0, rk_rf_29_1, rk_rf_29_2, rk_rf_32_0, rk_rf_34_0, rk_rf_36_0, rk_rf_38_0, rk_rf_40_0, rk_rf_42_1, rk_rf_42_2, rk_rf_42_4, rk_rf_42_5, rk_rf_42_6, rk_rf_42_8, rk_rf_42_9, rk_rf_42_12, rk_rf_42_13, rk_rf_42_14, rk_rf_42_15, rk_rf_42_16, rk_rf_42_17, rk_rf_42_20, rk_rf_42_21, rk_rf_42_22, rk_rf_42_23, rk_rf_42_27, rk_rf_42_28, rk_rf_42_29, rk_rf_42_30, rk_rf_42_31]
    refine c_hasBit (by omega) ?_
    by_cases e : bt s i = true
    · rw [rk_b_t e]
      have er : R_in (σ.1 c) w i s = s ||| (σ.1 c i &&& w) := if_pos e
      rw [er] at nx
      simp only [hk, hl, hc, hv, nI_1, eX6_reached_0, eX6_reached_7, eX6_reached_20, eX6_reached_48, eX6_reached_72, rk_ci_e, rk_cj_e, rk_iload_e, rk_lload_e, rk_aload_e, rk_istore_e, rk_astore_e, rk_lstore_e, rk_iinc_e, rk_iadd_e, rk_isub_e, rk_imul_e, rk_iand_e, rk_ior_e, rk_ixor_e, rk_ladd_e, rk_lmul_e, rk_lsub_e, rk_ishl_e, rk_ishr_e, rk_iushr_e, rk_lcmp_e, rk_ineg_e, rk_i2l_e, rk_i2b_e, rk_i2s_e, rk_dup_e, rk_pop_e, rk_dup2_e, rk_if_eq_e, rk_icmp_eq_e, rk_if_ne_e, rk_icmp_ne_e, rk_if_lt_e, rk_icmp_lt_e, rk_if_ge_e, rk_icmp_ge_e, rk_if_gt_e, rk_icmp_gt_e, rk_if_le_e, rk_icmp_le_e, rk_sw01_e, rk_iret_e, rk_zret_e, rk_lret_e, rk_vret_e, rk_gI_e, rk_gJ_e, rk_gR_e, rk_pI_e, rk_pJ_e, rk_iald_e, rk_zald_e, rk_aald_e, rk_alen_e, rk_iast_e, rk_zast_e, rk_cV_e0, rk_cV_e1, rk_cV_e2, rk_cV_e3, rk_cV_e4, rk_cS_e1, rk_cS_e2, rk_cS_e3, rk_cS_e4, rk_mmin_e, rk_mmax_e, rk_mabs_e, rk_cpy_e, rk_cut_e, rk_kont_i, rk_kont_j, rk_kont_n, rk_ent_0, rk_ent_i, rk_ent_r, rk_ent_j, List.getElem?_cons_zero, List.getElem?_cons_succ, rk_st_0, rk_st_1i, rk_st_1r, rk_st_1n, rk_st_1j, rk_st_ss, rk_st2_0, rk_st2_1i, rk_st2_1r, rk_st2_1n, rk_st2_1j, rk_st2_ss, List.nil_append, List.cons_append, rk_sml, rk_cat_i, rk_cat_j, rk_cat_r, true_and, and_true, List.length_cons, List.length_nil, Nat.reduceLeDiff, Nat.reduceAdd, Nat.reduceSub, Nat.zero_le, List.reduceReplicate, List.map_nil, List.map_cons, List.sum_nil, List.sum_cons, true_or, or_true, rk_row_ob, rk_row_rf, rk_itm_kd, rk_itm_ln, rk_le_lt, Classical.not_not, not_true_eq_false, not_false_eq_true, rk_f_imp, rk_t_imp, rk_10, rk_01, rk_ob_0, rk_ob_1, rk_ob_2, rk_kd_2, rk_ln_2, rk_ob_3, rk_kd_3, rk_ln_3, rk_ob_4, rk_kd_4, rk_ln_4, rk_ob_5, rk_kd_5, rk_ln_5, rk_ob_6, rk_kd_6, rk_ln_6, rk_ob_7, rk_kd_7, rk_ln_7, rk_ob_8, rk_kd_8, rk_ln_8, rk_ob_9, rk_kd_9, rk_ln_9, rk_ob_10, rk_ob_11, rk_kd_11, rk_ln_11, rk_ob_12, rk_kd_12, rk_ln_12, rk_ob_13, rk_kd_13, rk_ln_13, rk_ob_14, rk_kd_14, rk_ln_14, rk_ob_15, rk_kd_15, rk_ln_15, rk_ob_16, rk_ob_17, rk_kd_17, rk_ln_17, rk_ob_18, rk_kd_18, rk_ln_18, rk_ob_19, rk_kd_19, rk_ln_19, rk_ob_20, rk_kd_20, rk_ln_20, rk_ob_21, rk_kd_21, rk_ln_21, rk_ob_22, rk_kd_22, rk_ln_22, rk_ob_23, rk_kd_23, rk_ln_23, rk_ob_24, rk_kd_24, rk_ln_24, rk_ob_25, rk_kd_25, rk_ln_25, rk_ob_26, rk_kd_26, rk_ln_26, rk_ob_27, rk_kd_27, rk_ln_27, rk_ob_28, rk_kd_28, rk_ln_28, rk_ob_29, rk_ob_30, rk_kd_30, rk_ln_30, rk_ob_31, rk_kd_31, rk_ln_31, rk_ob_32, rk_ob_33, rk_kd_33, rk_ln_33, rk_ob_34, rk_ob_35, rk_kd_35, rk_ln_35, rk_ob_36, rk_ob_37, rk_kd_37, rk_ln_37, rk_ob_38, rk_ob_39, rk_kd_39, rk_ln_39, rk_ob_40, rk_ob_41, rk_kd_41, rk_ln_41, rk_ob_42, rk_ob_43, rk_kd_43, rk_ln_43, rk_ob_44, rk_kd_44, rk_ln_44, rk_ob_45, rk_kd_45, rk_ln_45, rk_ob_46, rk_kd_46, rk_ln_46, rk_ob_47, rk_kd_47, rk_ln_47, rk_ob_48, rk_kd_48, rk_ln_48, rk_ob_49, rk_kd_49, rk_ln_49, rk_ob_50, rk_kd_50, rk_ln_50, rk_ob_51, rk_kd_51, rk_ln_51, rk_ob_52, rk_kd_52, rk_ln_52, rk_ob_53, rk_kd_53, rk_ln_53, rk_ob_54, rk_kd_54, rk_ln_54, rk_ob_55, rk_kd_55, rk_ln_55, rk_ob_56, rk_kd_56, rk_ln_56, rk_ob_57, rk_kd_57, rk_ln_57, rk_ob_58, rk_kd_58, rk_ln_58, rk_ob_59, rk_kd_59, rk_ln_59, rk_ob_60, rk_kd_60, rk_ln_60, rk_ob_61, rk_kd_61, rk_ln_61, rk_ob_62, rk_kd_62, rk_ln_62, rk_ob_63, rk_kd_63, rk_ln_63, rk_ob_64, rk_kd_64, rk_ln_64, rk_rf_0_0, rk_rf_0_1, rk_rf_0_2, rk_rf_0_3, rk_rf_0_4, rk_rf_0_5, rk_rf_1_0, rk_rf_1_1, rk_rf_1_2, rk_rf_1_3, rk_rf_1_4, rk_rf_1_5, rk_rf_1_6, rk_rf_1_9, rk_rf_10_1, rk_rf_10_2, rk_rf_10_3, rk_rf_10_4, rk_rf_10_5, rk_rf_10_6, rk_rf_16_0, rk_rf_16_1, rk_rf_16_2, rk_rf_16_3, rk_rf_16_4, rk_rf_16_5, rk_rf_16_6, rk_rf_16_7, rk_rf_16_8, rk_rf_16_9, rk_rf_16_10, rk_rf_16_13, rk_rf_16_14, rk_rf_16_15, rk_rf_29_0, rk_rf_29_1, rk_rf_29_2, rk_rf_32_0, rk_rf_34_0, rk_rf_36_0, rk_rf_38_0, rk_rf_40_0, rk_rf_42_1, rk_rf_42_2, rk_rf_42_4, rk_rf_42_5, rk_rf_42_6, rk_rf_42_8, rk_rf_42_9, rk_rf_42_12, rk_rf_42_13, rk_rf_42_14, rk_rf_42_15, rk_rf_42_16, rk_rf_42_17, rk_rf_42_20, rk_rf_42_21, rk_rf_42_22, rk_rf_42_23, rk_rf_42_27, rk_rf_42_28, rk_rf_42_29, rk_rf_42_30, rk_rf_42_31]
      exact nx
    · rw [rk_b_f e]
      have er : R_in (σ.1 c) w i s = s := if_neg e
      rw [er] at nx
      simp only [hk, hl, hc, hv, nI_1, eX6_reached_0, eX6_reached_7, eX6_reached_20, eX6_reached_48, eX6_reached_72, rk_ci_e, rk_cj_e, rk_iload_e, rk_lload_e, rk_aload_e, rk_istore_e, rk_astore_e, rk_lstore_e, rk_iinc_e, rk_iadd_e, rk_isub_e, rk_imul_e, rk_iand_e, rk_ior_e, rk_ixor_e, rk_ladd_e, rk_lmul_e, rk_lsub_e, rk_ishl_e, rk_ishr_e, rk_iushr_e, rk_lcmp_e, rk_ineg_e, rk_i2l_e, rk_i2b_e, rk_i2s_e, rk_dup_e, rk_pop_e, rk_dup2_e, rk_if_eq_e, rk_icmp_eq_e, rk_if_ne_e, rk_icmp_ne_e, rk_if_lt_e, rk_icmp_lt_e, rk_if_ge_e, rk_icmp_ge_e, rk_if_gt_e, rk_icmp_gt_e, rk_if_le_e, rk_icmp_le_e, rk_sw01_e, rk_iret_e, rk_zret_e, rk_lret_e, rk_vret_e, rk_gI_e, rk_gJ_e, rk_gR_e, rk_pI_e, rk_pJ_e, rk_iald_e, rk_zald_e, rk_aald_e, rk_alen_e, rk_iast_e, rk_zast_e, rk_cV_e0, rk_cV_e1, rk_cV_e2, rk_cV_e3, rk_cV_e4, rk_cS_e1, rk_cS_e2, rk_cS_e3, rk_cS_e4, rk_mmin_e, rk_mmax_e, rk_mabs_e, rk_cpy_e, rk_cut_e, rk_kont_i, rk_kont_j, rk_kont_n, rk_ent_0, rk_ent_i, rk_ent_r, rk_ent_j, List.getElem?_cons_zero, List.getElem?_cons_succ, rk_st_0, rk_st_1i, rk_st_1r, rk_st_1n, rk_st_1j, rk_st_ss, rk_st2_0, rk_st2_1i, rk_st2_1r, rk_st2_1n, rk_st2_1j, rk_st2_ss, List.nil_append, List.cons_append, rk_sml, rk_cat_i, rk_cat_j, rk_cat_r, true_and, and_true, List.length_cons, List.length_nil, Nat.reduceLeDiff, Nat.reduceAdd, Nat.reduceSub, Nat.zero_le, List.reduceReplicate, List.map_nil, List.map_cons, List.sum_nil, List.sum_cons, true_or, or_true, rk_row_ob, rk_row_rf, rk_itm_kd, rk_itm_ln, rk_le_lt, Classical.not_not, not_true_eq_false, not_false_eq_true, rk_f_imp, rk_t_imp, rk_10, rk_01, rk_ob_0, rk_ob_1, rk_ob_2, rk_kd_2, rk_ln_2, rk_ob_3, rk_kd_3, rk_ln_3, rk_ob_4, rk_kd_4, rk_ln_4, rk_ob_5, rk_kd_5, rk_ln_5, rk_ob_6, rk_kd_6, rk_ln_6, rk_ob_7, rk_kd_7, rk_ln_7, rk_ob_8, rk_kd_8, rk_ln_8, rk_ob_9, rk_kd_9, rk_ln_9, rk_ob_10, rk_ob_11, rk_kd_11, rk_ln_11, rk_ob_12, rk_kd_12, rk_ln_12, rk_ob_13, rk_kd_13, rk_ln_13, rk_ob_14, rk_kd_14, rk_ln_14, rk_ob_15, rk_kd_15, rk_ln_15, rk_ob_16, rk_ob_17, rk_kd_17, rk_ln_17, rk_ob_18, rk_kd_18, rk_ln_18, rk_ob_19, rk_kd_19, rk_ln_19, rk_ob_20, rk_kd_20, rk_ln_20, rk_ob_21, rk_kd_21, rk_ln_21, rk_ob_22, rk_kd_22, rk_ln_22, rk_ob_23, rk_kd_23, rk_ln_23, rk_ob_24, rk_kd_24, rk_ln_24, rk_ob_25, rk_kd_25, rk_ln_25, rk_ob_26, rk_kd_26, rk_ln_26, rk_ob_27, rk_kd_27, rk_ln_27, rk_ob_28, rk_kd_28, rk_ln_28, rk_ob_29, rk_ob_30, rk_kd_30, rk_ln_30, rk_ob_31, rk_kd_31, rk_ln_31, rk_ob_32, rk_ob_33, rk_kd_33, rk_ln_33, rk_ob_34, rk_ob_35, rk_kd_35, rk_ln_35, rk_ob_36, rk_ob_37, rk_kd_37, rk_ln_37, rk_ob_38, rk_ob_39, rk_kd_39, rk_ln_39, rk_ob_40, rk_ob_41, rk_kd_41, rk_ln_41, rk_ob_42, rk_ob_43, rk_kd_43, rk_ln_43, rk_ob_44, rk_kd_44, rk_ln_44, rk_ob_45, rk_kd_45, rk_ln_45, rk_ob_46, rk_kd_46, rk_ln_46, rk_ob_47, rk_kd_47, rk_ln_47, rk_ob_48, rk_kd_48, rk_ln_48, rk_ob_49, rk_kd_49, rk_ln_49, rk_ob_50, rk_kd_50, rk_ln_50, rk_ob_51, rk_kd_51, rk_ln_51, rk_ob_52, rk_kd_52, rk_ln_52, rk_ob_53, rk_kd_53, rk_ln_53, rk_ob_54, rk_kd_54, rk_ln_54, rk_ob_55, rk_kd_55, rk_ln_55, rk_ob_56, rk_kd_56, rk_ln_56, rk_ob_57, rk_kd_57, rk_ln_57, rk_ob_58, rk_kd_58, rk_ln_58, rk_ob_59, rk_kd_59, rk_ln_59, rk_ob_60, rk_kd_60, rk_ln_60, rk_ob_61, rk_kd_61, rk_ln_61, rk_ob_62, rk_kd_62, rk_ln_62, rk_ob_63, rk_kd_63, rk_ln_63, rk_ob_64, rk_kd_64, rk_ln_64, rk_rf_0_0, rk_rf_0_1, rk_rf_0_2, rk_rf_0_3, rk_rf_0_4, rk_rf_0_5, rk_rf_1_0, rk_rf_1_1, rk_rf_1_2, rk_rf_1_3, rk_rf_1_4, rk_rf_1_5, rk_rf_1_6, rk_rf_1_9, rk_rf_10_1, rk_rf_10_2, rk_rf_10_3, rk_rf_10_4, rk_rf_10_5, rk_rf_10_6, rk_rf_16_0, rk_rf_16_1, rk_rf_16_2, rk_rf_16_3, rk_rf_16_4, rk_rf_16_5, rk_rf_16_6, rk_rf_16_7, rk_rf_16_8, rk_rf_16_9, rk_rf_16_10, rk_rf_16_13, rk_rf_16_14, rk_rf_16_15, rk_rf_29_0, rk_rf_29_1, rk_rf_29_2, rk_rf_32_0, rk_rf_34_0, rk_rf_36_0, rk_rf_38_0, rk_rf_40_0, rk_rf_42_1, rk_rf_42_2, rk_rf_42_4, rk_rf_42_5, rk_rf_42_6, rk_rf_42_8, rk_rf_42_9, rk_rf_42_12, rk_rf_42_13, rk_rf_42_14, rk_rf_42_15, rk_rf_42_16, rk_rf_42_17, rk_rf_42_20, rk_rf_42_21, rk_rf_42_22, rk_rf_42_23, rk_rf_42_27, rk_rf_42_28, rk_rf_42_29, rk_rf_42_30, rk_rf_42_31]
      exact nx
theorem c_re_out {c L : Nat} {st w : Int32} (hk : rk_kd c = 1) (hl : rk_ln c = L) (hL : L ≤ 24) (hL0 : 0 < L) (hw : ∀ j, L ≤ j → bt w j = false) (k : ∀ m, Rea (σ.1 c) L st w m → R (some (.int m)) σ) : ∀ (n i : Nat) (s : Int32), i + n = L → bs s w → (∀ j, j < 32 → bt st j = true → bt w j = true → bt s j = true) →
    (∀ S : Nat → Prop, (∀ j, j < 32 → bt st j = true → bt w j = true → S j) → (∀ i j, i < L → j < 32 → S i → bt (σ.1 c i) j = true → bt w j = true → S j) → ∀ j, j < 32 → bt s j = true → S j) → (0 < i → i < bc s) →
    tX6_reached g R 7 [.int st, .int w, .ref c, .int s, .int (nI i), .null, .null] [] σ := by
  intro n
  induction n with
  | zero =>
    intro i s hi h1 h2 h3 h4
    have := bc_le (x := s) (L := L) (fun j hj => by
      cases hb : bt s j with
      | false => rfl
      | true =>
        have hj32 : j < 32 := by
          rcases Nat.lt_or_ge j 32 with q | q
          · exact q
          · rw [b_big q] at hb; cases hb
        have := h1 j hj32 hb
        rw [hw j hj] at this; cases this) (by omega)
    have := h4 (by omega)
    omega
  | succ n ih =>
    intro i s hi h1 h2 h3 h4
    refine oX6_reached_7 _ _ _ ?_
    have h0 : nI i < Int32.ofNat L := nI_lt (b := L) (by omega) (by omega)
    simp only [hk, hl, h0, eX6_reached_0, eX6_reached_7, eX6_reached_20, eX6_reached_48, eX6_reached_72, rk_ci_e, rk_cj_e, rk_iload_e, rk_lload_e, rk_aload_e, rk_istore_e, rk_astore_e, rk_lstore_e, rk_iinc_e, rk_iadd_e, rk_isub_e, rk_imul_e, rk_iand_e, rk_ior_e, rk_ixor_e, rk_ladd_e, rk_lmul_e, rk_lsub_e, rk_ishl_e, rk_ishr_e, rk_iushr_e, rk_lcmp_e, rk_ineg_e, rk_i2l_e, rk_i2b_e, rk_i2s_e, rk_dup_e, rk_pop_e, rk_dup2_e, rk_if_eq_e, rk_icmp_eq_e, rk_if_ne_e, rk_icmp_ne_e, rk_if_lt_e, rk_icmp_lt_e, rk_if_ge_e, rk_icmp_ge_e, rk_if_gt_e, rk_icmp_gt_e, rk_if_le_e, rk_icmp_le_e, rk_sw01_e, rk_iret_e, rk_zret_e, rk_lret_e, rk_vret_e, rk_gI_e, rk_gJ_e, rk_gR_e, rk_pI_e, rk_pJ_e, rk_iald_e, rk_zald_e, rk_aald_e, rk_alen_e, rk_iast_e, rk_zast_e, rk_cV_e0, rk_cV_e1, rk_cV_e2, rk_cV_e3, rk_cV_e4, rk_cS_e1, rk_cS_e2, rk_cS_e3, rk_cS_e4, rk_mmin_e, rk_mmax_e, rk_mabs_e, rk_cpy_e, rk_cut_e, rk_kont_i, rk_kont_j, rk_kont_n, rk_ent_0, rk_ent_i, rk_ent_r, rk_ent_j, List.getElem?_cons_zero, List.getElem?_cons_succ, rk_st_0, rk_st_1i, rk_st_1r, rk_st_1n, rk_st_1j, rk_st_ss, rk_st2_0, rk_st2_1i, rk_st2_1r, rk_st2_1n, rk_st2_1j, rk_st2_ss, List.nil_append, List.cons_append, rk_sml, rk_cat_i, rk_cat_j, rk_cat_r, true_and, and_true, List.length_cons, List.length_nil, Nat.reduceLeDiff, Nat.reduceAdd, Nat.reduceSub, Nat.zero_le, List.reduceReplicate, List.map_nil, List.map_cons, List.sum_nil, List.sum_cons, true_or, or_true, rk_row_ob, rk_row_rf, rk_itm_kd, rk_itm_ln, rk_le_lt, Classical.not_not, not_true_eq_false, not_false_eq_true, rk_f_imp, rk_t_imp, rk_10, rk_01, rk_ob_0, rk_ob_1, rk_ob_2, rk_kd_2, rk_ln_2, rk_ob_3, rk_kd_3, rk_ln_3, rk_ob_4, rk_kd_4, rk_ln_4, rk_ob_5, rk_kd_5, rk_ln_5, rk_ob_6, rk_kd_6, rk_ln_6, rk_ob_7, rk_kd_7, rk_ln_7, rk_ob_8, rk_kd_8, rk_ln_8, rk_ob_9, rk_kd_9, rk_ln_9, rk_ob_10, rk_ob_11, rk_kd_11, rk_ln_11, rk_ob_12, rk_kd_12, rk_ln_12, rk_ob_13, rk_kd_13, rk_ln_13, rk_ob_14, rk_kd_14, rk_ln_14, rk_ob_15, rk_kd_15, rk_ln_15, rk_ob_16, rk_ob_17, rk_kd_17, rk_ln_17, rk_ob_18, rk_kd_18, rk_ln_18, rk_ob_19, rk_kd_19, rk_ln_19, rk_ob_20, rk_kd_20, rk_ln_20, rk_ob_21, rk_kd_21, rk_ln_21, rk_ob_22, rk_kd_22, rk_ln_22, rk_ob_23, rk_kd_23, rk_ln_23, rk_ob_24, rk_kd_24, rk_ln_24, rk_ob_25, rk_kd_25, rk_ln_25, rk_ob_26, rk_kd_26, rk_ln_26, rk_ob_27, rk_kd_27, rk_ln_27, rk_ob_28, rk_kd_28, rk_ln_28, rk_ob_29, rk_ob_30, rk_kd_30, rk_ln_30, rk_ob_31, rk_kd_31, rk_ln_31, rk_ob_32, rk_ob_33, rk_kd_33, rk_ln_33, rk_ob_34, rk_ob_35, rk_kd_35, rk_ln_35, rk_ob_36, rk_ob_37, rk_kd_37, rk_ln_37, rk_ob_38, rk_ob_39, rk_kd_39, rk_ln_39, rk_ob_40, rk_ob_41, rk_kd_41, rk_ln_41, rk_ob_42, rk_ob_43, rk_kd_43, rk_ln_43, rk_ob_44, rk_kd_44, rk_ln_44, rk_ob_45, rk_kd_45, rk_ln_45, rk_ob_46, rk_kd_46, rk_ln_46, rk_ob_47, rk_kd_47, rk_ln_47, rk_ob_48, rk_kd_48, rk_ln_48, rk_ob_49, rk_kd_49, rk_ln_49, rk_ob_50, rk_kd_50, rk_ln_50, rk_ob_51, rk_kd_51, rk_ln_51, rk_ob_52, rk_kd_52, rk_ln_52, rk_ob_53, rk_kd_53, rk_ln_53, rk_ob_54, rk_kd_54, rk_ln_54, rk_ob_55, rk_kd_55, rk_ln_55, rk_ob_56, rk_kd_56, rk_ln_56, rk_ob_57, rk_kd_57, rk_ln_57, rk_ob_58, rk_kd_58, rk_ln_58, rk_ob_59, rk_kd_59, rk_ln_59, rk_ob_60, rk_kd_60, rk_ln_60, rk_ob_61, rk_kd_61, rk_ln_61, rk_ob_62, rk_kd_62, rk_ln_62, rk_ob_63, rk_kd_63, rk_ln_63, rk_ob_64, rk_kd_64, rk_ln_64, rk_rf_0_0, rk_rf_0_1, rk_rf_0_2, rk_rf_0_3, rk_rf_0_4, rk_rf_0_5, rk_rf_1_0, rk_rf_1_1, rk_rf_1_2, rk_rf_1_3, rk_rf_1_4, rk_rf_1_5, rk_rf_1_6, rk_rf_1_9, rk_rf_10_1, rk_rf_10_2, rk_rf_10_3, rk_rf_10_4, rk_rf_10_5, rk_rf_10_6, rk_rf_16_0, rk_rf_16_1, rk_rf_16_2, rk_rf_16_3, rk_rf_16_4, rk_rf_16_5, rk_rf_16_6, rk_rf_16_7, rk_rf_16_8, rk_rf_16_9, rk_rf_16_10, rk_rf_16_13, rk_rf_16_14, rk_rf_16_15, rk_rf_29_0, rk_rf_29_1, rk_rf_29_2, rk_rf_32_0, rk_rf_34_0, rk_rf_36_0, rk_rf_38_0, rk_rf_40_0, rk_rf_42_1, rk_rf_42_2, rk_rf_42_4, rk_rf_42_5, rk_rf_42_6, rk_rf_42_8, rk_rf_42_9, rk_rf_42_12, rk_rf_42_13, rk_rf_42_14, rk_rf_42_15, rk_rf_42_16, rk_rf_42_17, rk_rf_42_20, rk_rf_42_21, rk_rf_42_22, rk_rf_42_23, rk_rf_42_27, rk_rf_42_28, rk_rf_42_29, rk_rf_42_30, rk_rf_42_31]
    have up := R_bi_up (σ.1 c) w L 0 s
    refine c_re_in hk hl hL L 0 s (by omega) (fun hne => ?_) (fun he => ?_)
    · rw [nI_1]
      have lt := bc_lt up hne
      refine ih (i + 1) _ (by omega) ?_ (fun j hj a b => up j hj (h2 j hj a b)) (fun S a b => ?_) (fun _ => ?_)
      · exact R_bi_S (σ.1 c) w (fun j => bt w j = true) L 0 s (fun q j _ _ _ _ _ z => z) (by omega) h1
      · exact R_bi_S (σ.1 c) w S L 0 s (fun q j _ h hj => b q j (by omega) hj) (by omega) (h3 S a b)
      · rcases Nat.eq_zero_or_pos i with z | z
        · subst z
          rcases Nat.eq_zero_or_pos (bc s) with z2 | z2
          · exfalso
            apply hne
            have zz : ∀ j, j < 32 → bt s j = false := fb_ct_zero.mp z2
            have key : ∀ (n i : Nat), i + n ≤ 32 → bi (R_in (σ.1 c) w) n i s = s := by
              intro n
              induction n with
              | zero => intro i _; rfl
              | succ n ih => intro i hin; rw [bi_s, show R_in (σ.1 c) w i s = s from if_neg (by rw [zz i (by omega)]; decide)]; exact ih (i + 1) (by omega)
            exact key L 0 (by omega)
          · omega
        · have := h4 z; omega
    · refine k s ⟨h1, h2, fun q j hq hj a b d => R_bi_fix (σ.1 c) w L 0 s (by omega) he q (by omega) (by omega) a j hj b d, h3⟩
theorem c_reached {c L : Nat} {st w : Int32} (hk : rk_kd c = 1) (hl : rk_ln c = L) (hL : L ≤ 24) (hL0 : 0 < L) (hw : ∀ j, L ≤ j → bt w j = false) (k : ∀ m, Rea (σ.1 c) L st w m → R (some (.int m)) σ) : sX6_reached g [.int st, .int w, .ref c] σ R := by
  refine rk_entry (own := RX6) rfl rfl rfl (Nat.le_of_ble_eq_true rfl) (oX6_reached_0 _ _ _ ?_)
  simp only [and_self, eX6_reached_0, eX6_reached_7, eX6_reached_20, eX6_reached_48, eX6_reached_72, rk_ci_e, rk_cj_e, rk_iload_e, rk_lload_e, rk_aload_e, rk_istore_e, rk_astore_e, rk_lstore_e, rk_iinc_e, rk_iadd_e, rk_isub_e, rk_imul_e, rk_iand_e, rk_ior_e, rk_ixor_e, rk_ladd_e, rk_lmul_e, rk_lsub_e, rk_ishl_e, rk_ishr_e, rk_iushr_e, rk_lcmp_e, rk_ineg_e, rk_i2l_e, rk_i2b_e, rk_i2s_e, rk_dup_e, rk_pop_e, rk_dup2_e, rk_if_eq_e, rk_icmp_eq_e, rk_if_ne_e, rk_icmp_ne_e, rk_if_lt_e, rk_icmp_lt_e, rk_if_ge_e, rk_icmp_ge_e, rk_if_gt_e, rk_icmp_gt_e, rk_if_le_e, rk_icmp_le_e, rk_sw01_e, rk_iret_e, rk_zret_e, rk_lret_e, rk_vret_e, rk_gI_e, rk_gJ_e, rk_gR_e, rk_pI_e, rk_pJ_e, rk_iald_e, rk_zald_e, rk_aald_e, rk_alen_e, rk_iast_e, rk_zast_e, rk_cV_e0, rk_cV_e1, rk_cV_e2, rk_cV_e3, rk_cV_e4, rk_cS_e1, rk_cS_e2, rk_cS_e3, rk_cS_e4, rk_mmin_e, rk_mmax_e, rk_mabs_e, rk_cpy_e, rk_cut_e, rk_kont_i, rk_kont_j, rk_kont_n, rk_ent_0, rk_ent_i, rk_ent_r, rk_ent_j, List.getElem?_cons_zero, List.getElem?_cons_succ, rk_st_0, rk_st_1i, rk_st_1r, rk_st_1n, rk_st_1j, rk_st_ss, rk_st2_0, rk_st2_1i, rk_st2_1r, rk_st2_1n, rk_st2_1j, rk_st2_ss, List.nil_append, List.cons_append, rk_sml, rk_cat_i, rk_cat_j, rk_cat_r, true_and, and_true, List.length_cons, List.length_nil, Nat.reduceLeDiff, Nat.reduceAdd, Nat.reduceSub, Nat.zero_le, List.reduceReplicate, List.map_nil, List.map_cons, List.sum_nil, List.sum_cons, true_or, or_true, rk_row_ob, rk_row_rf, rk_itm_kd, rk_itm_ln, rk_le_lt, Classical.not_not, not_true_eq_false, not_false_eq_true, rk_f_imp, rk_t_imp, rk_10, rk_01, rk_ob_0, rk_ob_1, rk_ob_2, rk_kd_2, rk_ln_2, rk_ob_3, rk_kd_3, rk_ln_3, rk_ob_4, rk_kd_4, rk_ln_4, rk_ob_5, rk_kd_5, rk_ln_5, rk_ob_6, rk_kd_6, rk_ln_6, rk_ob_7, rk_kd_7, rk_ln_7, rk_ob_8, rk_kd_8, rk_ln_8, rk_ob_9, rk_kd_9, rk_ln_9, rk_ob_10, rk_ob_11, rk_kd_11, rk_ln_11, rk_ob_12, rk_kd_12, rk_ln_12, rk_ob_13, rk_kd_13, rk_ln_13, rk_ob_14, rk_kd_14, rk_ln_14, rk_ob_15, rk_kd_15, rk_ln_15, rk_ob_16, rk_ob_17, rk_kd_17, rk_ln_17, rk_ob_18, rk_kd_18, rk_ln_18, rk_ob_19, rk_kd_19, rk_ln_19, rk_ob_20, rk_kd_20, rk_ln_20, rk_ob_21, rk_kd_21, rk_ln_21, rk_ob_22, rk_kd_22, rk_ln_22, rk_ob_23, rk_kd_23, rk_ln_23, rk_ob_24, rk_kd_24, rk_ln_24, rk_ob_25, rk_kd_25, rk_ln_25, rk_ob_26, rk_kd_26, rk_ln_26, rk_ob_27, rk_kd_27, rk_ln_27, rk_ob_28, rk_kd_28, rk_ln_28, rk_ob_29, rk_ob_30, rk_kd_30, rk_ln_30, rk_ob_31, rk_kd_31, rk_ln_31, rk_ob_32, rk_ob_33, rk_kd_33, rk_ln_33, rk_ob_34, rk_ob_35, rk_kd_35, rk_ln_35, rk_ob_36, rk_ob_37, rk_kd_37, rk_ln_37, rk_ob_38, rk_ob_39, rk_kd_39, rk_ln_39, rk_ob_40, rk_ob_41, rk_kd_41, rk_ln_41, rk_ob_42, rk_ob_43, rk_kd_43, rk_ln_43, rk_ob_44, rk_kd_44, rk_ln_44, rk_ob_45, rk_kd_45, rk_ln_45, rk_ob_46, rk_kd_46, rk_ln_46, rk_ob_47, rk_kd_47, rk_ln_47, rk_ob_48, rk_kd_48, rk_ln_48, rk_ob_49, rk_kd_49, rk_ln_49, rk_ob_50, rk_kd_50, rk_ln_50, rk_ob_51, rk_kd_51, rk_ln_51, rk_ob_52, rk_kd_52, rk_ln_52, rk_ob_53, rk_kd_53, rk_ln_53, rk_ob_54, rk_kd_54, rk_ln_54, rk_ob_55, rk_kd_55, rk_ln_55, rk_ob_56, rk_kd_56, rk_ln_56, rk_ob_57, rk_kd_57, rk_ln_57, rk_ob_58, rk_kd_58, rk_ln_58, rk_ob_59, rk_kd_59, rk_ln_59, rk_ob_60, rk_kd_60, rk_ln_60, rk_ob_61, rk_kd_61, rk_ln_61, rk_ob_62, rk_kd_62, rk_ln_62, rk_ob_63, rk_kd_63, rk_ln_63, rk_ob_64, rk_kd_64, rk_ln_64, rk_rf_0_0, rk_rf_0_1, rk_rf_0_2, rk_rf_0_3, rk_rf_0_4, rk_rf_0_5, rk_rf_1_0, rk_rf_1_1, rk_rf_1_2, rk_rf_1_3, rk_rf_1_4, rk_rf_1_5, rk_rf_1_6, rk_rf_1_9, rk_rf_10_1, rk_rf_10_2, rk_rf_10_3, rk_rf_10_4, rk_rf_10_5, rk_rf_10_6, rk_rf_16_0, rk_rf_16_1, rk_rf_16_2, rk_rf_16_3, rk_rf_16_4, rk_rf_16_5, rk_rf_16_6, rk_rf_16_7, rk_rf_16_8, rk_rf_16_9, rk_rf_16_10, rk_rf_16_13, rk_rf_16_14, rk_rf_16_15, rk_rf_29_0, rk_rf_29_1, rk_rf_29_2, rk_rf_32_0, rk_rf_34_0, rk_rf_36_0, rk_rf_38_0, rk_rf_40_0, rk_rf_42_1, rk_rf_42_2, rk_rf_42_4, rk_rf_42_5, rk_rf_42_6, rk_rf_42_8, rk_rf_42_9, rk_rf_42_12, rk_rf_42_13, rk_rf_42_14, rk_rf_42_15, rk_rf_42_16, rk_rf_42_17, rk_rf_42_20, rk_rf_42_21, rk_rf_42_22, rk_rf_42_23, rk_rf_42_27, rk_rf_42_28, rk_rf_42_29, rk_rf_42_30, rk_rf_42_31]
  refine c_re_out hk hl hL hL0 hw k L 0 (st &&& w) (by omega) (fun j hj q => ?_) (fun j hj a b => ?_) (fun S a b j hj q => ?_) (fun z => absurd z (Nat.not_lt_zero 0))
  · rw [b_and, Bool.and_eq_true] at q; exact q.2
  · rw [b_and, a, b]; rfl
  · rw [b_and, Bool.and_eq_true] at q; exact a j hj q.1 q.2
end CReach
