/-! ===== how many bits ===== -/
theorem bt_nI (n : Nat) {i : Nat} (hi : i < 32) : bt (nI n) i = n.testBit i := by
  unfold bt
  show (BitVec.ofNat 32 n).getLsbD i = _
  rw [BitVec.getLsbD_ofNat]
  simp [hi]
theorem nI_sub {a b : Nat} (h : b ≤ a) : nI a - nI b = nI (a - b) := by
  have e : nI a = nI (a - b) + nI b := by rw [nI_add, Nat.sub_add_cancel h]
  rw [e, Int32.add_sub_cancel]
theorem nI_ushr {a n : Nat} (ha : a < 2 ^ 32) (hn : n < 32) : ((nI a).toUInt32 >>> ((nI n).toUInt32 &&& Int32.toUInt32 31)).toInt32 = nI (a / 2 ^ n) := by
  apply b_ext
  intro i hi
  rw [b_ushr n hn, bt_nI _ hi, Nat.testBit_div_two_pow]
  by_cases h : n + i < 32
  · rw [bt_nI _ h, Nat.add_comm]
  · rw [b_big (by omega), Nat.testBit_lt_two_pow (Nat.lt_of_lt_of_le ha (Nat.pow_le_pow_right (by decide) (by omega)))]
theorem and_sp {k a b c d : Nat} (hb : b < 2 ^ k) (hd : d < 2 ^ k) : (2 ^ k * a + b) &&& (2 ^ k * c + d) = 2 ^ k * (a &&& c) + (b &&& d) := by
  apply Nat.eq_of_testBit_eq
  intro j
  rw [Nat.testBit_and, Nat.testBit_two_pow_mul_add _ hb, Nat.testBit_two_pow_mul_add _ hd, Nat.testBit_two_pow_mul_add _ (Nat.lt_of_le_of_lt Nat.and_le_left hb)]
  by_cases h : j < k
  · simp [h]
  · simp [h]
theorem and3 {a0 a1 a2 m : Nat} (h0 : a0 < 256) (h1 : a1 < 256) (hm : m < 256) : (65536 * a2 + 256 * a1 + a0) &&& (16777216 * m + 65536 * m + 256 * m + m) = 65536 * (a2 &&& (256 * m + m)) + 256 * (a1 &&& m) + (a0 &&& m) := by
  have e1 : 65536 * a2 + 256 * a1 + a0 = 2 ^ 8 * (2 ^ 8 * a2 + a1) + a0 := by omega
  have e2 : 16777216 * m + 65536 * m + 256 * m + m = 2 ^ 8 * (2 ^ 8 * (256 * m + m) + m) + m := by omega
  rw [e1, e2, and_sp (k := 8) h0 hm, and_sp (k := 8) h1 hm]
  omega
theorem and_b {a m : Nat} (h : a < 256) (hm : m < 256) : a &&& (256 * m + m) = a &&& m := by
  have := and_sp (k := 8) (a := 0) (b := a) (c := m) (d := m) h hm
  have e : 2 ^ 8 * 0 + a = a := by omega
  rw [e] at this
  rw [show 256 * m + m = 2 ^ 8 * m + m from rfl, this, Nat.zero_and]
  omega
def pq (l : Nat) : Nat := l - (l / 2 &&& 85)
def pr (l : Nat) : Nat := (pq l &&& 51) + (pq l / 4 &&& 51)
def pp (l : Nat) : Nat := (pr l + pr l / 16) % 16
theorem p_1 : (List.range 256).all (fun l => (List.range 2).all (fun b => (l + 256 * b) / 2 &&& 85 == (l / 2 &&& 85))) = true := by decide +kernel
theorem p_2 : (List.range 256).all (fun l => (List.range 4).all (fun b => (l + 256 * b) / 4 &&& 51 == (l / 4 &&& 51))) = true := by decide +kernel
theorem p_3 : (List.range 256).all (fun l => decide (l / 2 &&& 85 ≤ l) && decide (pr l ≤ 68) && decide (pr l % 16 ≤ 4) && decide (pp l ≤ 8) && pp l == fb_ct (fun i => l.testBit i) 8) = true := by decide +kernel
theorem p1 {l b : Nat} (hl : l < 256) (hb : b < 2) : (l + 256 * b) / 2 &&& 85 = (l / 2 &&& 85) := by
  have := List.all_eq_true.mp (List.all_eq_true.mp p_1 l (List.mem_range.mpr hl)) b (List.mem_range.mpr hb)
  exact beq_iff_eq.mp this
theorem p2 {l b : Nat} (hl : l < 256) (hb : b < 4) : (l + 256 * b) / 4 &&& 51 = (l / 4 &&& 51) := by
  have := List.all_eq_true.mp (List.all_eq_true.mp p_2 l (List.mem_range.mpr hl)) b (List.mem_range.mpr hb)
  exact beq_iff_eq.mp this
theorem p3 {l : Nat} (hl : l < 256) : (l / 2 &&& 85) ≤ l ∧ pr l ≤ 68 ∧ pr l % 16 ≤ 4 ∧ pp l ≤ 8 ∧ pp l = fb_ct (fun i => l.testBit i) 8 := by
  have := List.all_eq_true.mp p_3 l (List.mem_range.mpr hl)
  simp only [Bool.and_eq_true, decide_eq_true_eq, beq_iff_eq] at this
  exact ⟨this.1.1.1.1, this.1.1.1.2, this.1.1.2, this.1.2, this.2⟩
def pc1 (x : Nat) : Nat := x - (x / 2 &&& 1431655765)
def pc2 (x : Nat) : Nat := (x &&& 858993459) + (x / 4 &&& 858993459)
def pc3 (x : Nat) : Nat := (x + x / 16) &&& 252645135
def pc4 (x : Nat) : Nat := x + x / 256
def pc5 (x : Nat) : Nat := x + x / 65536
theorem pq_lt {l : Nat} (h : l < 256) : pq l < 256 := by unfold pq; omega
theorem pc1_e {a b c : Nat} (ha : a < 256) (hb : b < 256) (hc : c < 256) : pc1 (65536 * c + 256 * b + a) = 65536 * pq c + 256 * pq b + pq a := by
  unfold pc1
  have e : (65536 * c + 256 * b + a) / 2 = 65536 * (c / 2) + 256 * ((b + 256 * (c % 2)) / 2) + (a + 256 * (b % 2)) / 2 := by omega
  have m : 1431655765 = 16777216 * 85 + 65536 * 85 + 256 * 85 + 85 := rfl
  rw [e, m, and3 (by omega) (by omega) (by omega), and_b (by omega) (by omega), p1 hb (by omega), p1 ha (by omega)]
  have h1 := (p3 ha).1
  have h2 := (p3 hb).1
  have h3 := (p3 hc).1
  unfold pq
  omega
theorem pc2_e {a b c : Nat} (ha : a < 256) (hb : b < 256) (hc : c < 256) : pc2 (65536 * c + 256 * b + a) = 65536 * ((c &&& 51) + (c / 4 &&& 51)) + 256 * ((b &&& 51) + (b / 4 &&& 51)) + ((a &&& 51) + (a / 4 &&& 51)) := by
  unfold pc2
  have e : (65536 * c + 256 * b + a) / 4 = 65536 * (c / 4) + 256 * ((b + 256 * (c % 4)) / 4) + (a + 256 * (b % 4)) / 4 := by omega
  have m : 858993459 = 16777216 * 51 + 65536 * 51 + 256 * 51 + 51 := rfl
  rw [e, m, and3 (by omega) (by omega) (by omega), and3 (by omega) (by omega) (by omega), and_b (by omega) (by omega), and_b (by omega) (by omega), p2 hb (by omega), p2 ha (by omega)]
  omega
theorem pc3_e {a b c : Nat} (ha : a ≤ 68) (hb : b ≤ 68) (hc : c ≤ 68) (hb2 : b % 16 ≤ 4) (hc2 : c % 16 ≤ 4) : pc3 (65536 * c + 256 * b + a) = 65536 * ((c + c / 16) % 16) + 256 * ((b + b / 16) % 16) + (a + a / 16) % 16 := by
  unfold pc3
  have e : 65536 * c + 256 * b + a + (65536 * c + 256 * b + a) / 16 = 65536 * (c + c / 16) + 256 * (b + b / 16 + 16 * (c % 16)) + (a + a / 16 + 16 * (b % 16)) := by omega
  have m : 252645135 = 16777216 * 15 + 65536 * 15 + 256 * 15 + 15 := rfl
  have z : ∀ x : Nat, x &&& 15 = x % 16 := fun x => Nat.and_two_pow_sub_one_eq_mod x 4
  rw [e, m, and3 (by omega) (by omega) (by omega), and_b (by omega) (by omega), z, z, z]
  omega
theorem pc_all {a b c : Nat} (ha : a < 256) (hb : b < 256) (hc : c < 256) : pc5 (pc4 (pc3 (pc2 (pc1 (65536 * c + 256 * b + a))))) % 64 = pp a + pp b + pp c := by
  rw [pc1_e ha hb hc, pc2_e (pq_lt ha) (pq_lt hb) (pq_lt hc)]
  have ta := p3 ha
  have tb := p3 hb
  have tc := p3 hc
  show pc5 (pc4 (pc3 (65536 * pr c + 256 * pr b + pr a))) % 64 = _
  rw [pc3_e ta.2.1 tb.2.1 tc.2.1 tb.2.2.1 tc.2.2.1]
  show pc5 (pc4 (65536 * pp c + 256 * pp b + pp a)) % 64 = _
  have := ta.2.2.2.1
  have := tb.2.2.2.1
  have := tc.2.2.2.1
  unfold pc5 pc4
  generalize pp a = u at *
  generalize pp b = v at *
  generalize pp c = w at *
  clear ta tb tc
  have e1 : (65536 * w + 256 * v + u) / 256 = 256 * w + v := by omega
  rw [e1]
  have e2 : (65536 * w + 256 * v + u + (256 * w + v)) / 65536 = w := by omega
  rw [e2]
  have e3 : 65536 * w + 256 * v + u + (256 * w + v) + w = 64 * (1024 * w + 4 * v + 4 * w) + (u + v + w) := by omega
  rw [e3]
  omega
theorem pc_ct {X : Nat} (h : X < 2 ^ 24) : pc5 (pc4 (pc3 (pc2 (pc1 X)))) % 64 = fb_ct (fun i => X.testBit i) 24 := by
  have e : X = 65536 * (X / 65536) + 256 * (X / 256 % 256) + X % 256 := by omega
  have h2 : X / 65536 < 256 := by omega
  have pe := pc_all (a := X % 256) (b := X / 256 % 256) (c := X / 65536) (by omega) (by omega) h2
  rw [← e] at pe
  rw [pe, (p3 (l := X % 256) (by omega)).2.2.2.2, (p3 (l := X / 256 % 256) (by omega)).2.2.2.2, (p3 h2).2.2.2.2]
  rw [show 24 = 8 + (8 + 8) from rfl, fb_ct_split, fb_ct_split]
  have t0 : fb_ct (fun i => (X % 256).testBit i) 8 = fb_ct (fun i => X.testBit i) 8 := fb_ct_cong (fun k hk => by
    show (X % 2 ^ 8).testBit k = _
    rw [Nat.testBit_mod_two_pow]; simp [hk])
  have t1 : fb_ct (fun i => (X / 256 % 256).testBit i) 8 = fb_ct (fun i => X.testBit (8 + i)) 8 := fb_ct_cong (fun k hk => by
    show (X / 2 ^ 8 % 2 ^ 8).testBit k = _
    rw [Nat.testBit_mod_two_pow, Nat.testBit_div_two_pow]; simp [hk, Nat.add_comm])
  have t2 : fb_ct (fun i => (X / 65536).testBit i) 8 = fb_ct (fun i => X.testBit (8 + (8 + i))) 8 := fb_ct_cong (fun k hk => by
    show (X / 2 ^ 16).testBit k = _
    rw [Nat.testBit_div_two_pow, show k + 16 = 8 + (8 + k) by omega])
  rw [t0, t1, t2]
  omega
theorem bt_of {x : Int32} (h : ∀ j, 24 ≤ j → bt x j = false) : ∃ X, X < 2 ^ 24 ∧ x = nI X := by
  refine ⟨x.toBitVec.toNat, ?_, ?_⟩
  · apply Nat.lt_pow_two_of_testBit
    intro i hi
    exact h i hi
  · apply Int32.toBitVec_inj.mp
    show x.toBitVec = BitVec.ofNat 32 x.toBitVec.toNat
    rw [BitVec.ofNat_toNat, BitVec.setWidth_eq]
def F_b1 (x : Int32) : Int32 := x - ((x.toUInt32 >>> ((1 : Int32).toUInt32 &&& Int32.toUInt32 31)).toInt32 &&& 1431655765)
def F_b2 (x : Int32) : Int32 := (x &&& 858993459) + ((x.toUInt32 >>> ((2 : Int32).toUInt32 &&& Int32.toUInt32 31)).toInt32 &&& 858993459)
def F_b3 (x : Int32) : Int32 := (x + (x.toUInt32 >>> ((4 : Int32).toUInt32 &&& Int32.toUInt32 31)).toInt32) &&& 252645135
def F_b4 (x : Int32) : Int32 := x + (x.toUInt32 >>> ((8 : Int32).toUInt32 &&& Int32.toUInt32 31)).toInt32
def F_b5 (x : Int32) : Int32 := x + (x.toUInt32 >>> ((16 : Int32).toUInt32 &&& Int32.toUInt32 31)).toInt32
theorem F_b1_e {X : Nat} (h : X < 2 ^ 32) : F_b1 (nI X) = nI (pc1 X) := by
  show nI X - (((nI X).toUInt32 >>> ((nI 1).toUInt32 &&& Int32.toUInt32 31)).toInt32 &&& nI 1431655765) = _
  rw [nI_ushr h (by omega), fa_and, nI_sub (Nat.le_trans Nat.and_le_left (Nat.div_le_self _ _))]
  rfl
theorem F_b2_e {X : Nat} (h : X < 2 ^ 32) : F_b2 (nI X) = nI (pc2 X) := by
  show (nI X &&& nI 858993459) + (((nI X).toUInt32 >>> ((nI 2).toUInt32 &&& Int32.toUInt32 31)).toInt32 &&& nI 858993459) = _
  rw [nI_ushr h (by omega), fa_and, fa_and, nI_add]
  rfl
theorem F_b3_e {X : Nat} (h : X < 2 ^ 32) : F_b3 (nI X) = nI (pc3 X) := by
  show (nI X + ((nI X).toUInt32 >>> ((nI 4).toUInt32 &&& Int32.toUInt32 31)).toInt32) &&& nI 252645135 = _
  rw [nI_ushr h (by omega), nI_add, fa_and]
  rfl
theorem F_b4_e {X : Nat} (h : X < 2 ^ 32) : F_b4 (nI X) = nI (pc4 X) := by
  show nI X + ((nI X).toUInt32 >>> ((nI 8).toUInt32 &&& Int32.toUInt32 31)).toInt32 = _
  rw [nI_ushr h (by omega), nI_add]
  rfl
theorem F_b5_e {X : Nat} (h : X < 2 ^ 32) : F_b5 (nI X) = nI (pc5 X) := by
  show nI X + ((nI X).toUInt32 >>> ((nI 16).toUInt32 &&& Int32.toUInt32 31)).toInt32 = _
  rw [nI_ushr h (by omega), nI_add]
  rfl
theorem pc_lt {X : Nat} (h : X < 2 ^ 24) : pc1 X < 2 ^ 32 ∧ pc2 (pc1 X) < 2 ^ 32 ∧ pc3 (pc2 (pc1 X)) < 2 ^ 32 ∧ pc4 (pc3 (pc2 (pc1 X))) < 2 ^ 32 := by
  have h1 : pc1 X ≤ X := Nat.sub_le _ _
  have h2 : pc2 (pc1 X) ≤ pc1 X + pc1 X / 4 := Nat.add_le_add Nat.and_le_left Nat.and_le_left
  have h3 : pc3 (pc2 (pc1 X)) ≤ 252645135 := Nat.and_le_right
  have h4 : pc4 (pc3 (pc2 (pc1 X))) = pc3 (pc2 (pc1 X)) + pc3 (pc2 (pc1 X)) / 256 := rfl
  omega
theorem bc24 {x : Int32} (h : ∀ j, 24 ≤ j → bt x j = false) : F_b5 (F_b4 (F_b3 (F_b2 (F_b1 x)))) &&& 63 = nI (fb_ct (fun i => bt x i) 24) := by
  obtain ⟨X, hX, rfl⟩ := bt_of h
  obtain ⟨q1, q2, q3, q4⟩ := pc_lt hX
  rw [F_b1_e (by omega), F_b2_e q1, F_b3_e q2, F_b4_e q3, F_b5_e q4]
  show nI _ &&& nI (2 ^ 6 - 1) = _
  rw [fa_mask]
  show nI (_ % 64) = _
  rw [pc_ct hX]
  exact congrArg nI (fb_ct_cong (fun k hk => (bt_nI X (by omega)).symm))
section Many
variable {g : rk_G} {R : rk_R} {σ : rk_M}
theorem c_bitCount {x : Int32} (h : ∀ j, 24 ≤ j → bt x j = false) (k : R (some (.int (nI (fb_ct (fun i => bt x i) 24)))) σ) : sJ6_bitCount_0f7a4 g [.int x] σ R := by
  rw [← bc24 h] at k
  refine rk_entry (own := RJ6) rfl rfl rfl (Nat.le_of_ble_eq_true rfl) (oJ6_bitCount_0f7a4_0 _ _ _ ?_)
  simp only [and_self, eJ6_bitCount_0f7a4_0, rk_ci_e, rk_cj_e, rk_iload_e, rk_lload_e, rk_aload_e, rk_istore_e, rk_astore_e, rk_lstore_e, rk_iinc_e, rk_iadd_e, rk_isub_e, rk_imul_e, rk_iand_e, rk_ior_e, rk_ixor_e, rk_ladd_e, rk_lmul_e, rk_lsub_e, rk_ishl_e, rk_ishr_e, rk_iushr_e, rk_lcmp_e, rk_ineg_e, rk_i2l_e, rk_i2b_e, rk_i2s_e, rk_dup_e, rk_pop_e, rk_dup2_e, rk_if_eq_e, rk_icmp_eq_e, rk_if_ne_e, rk_icmp_ne_e, rk_if_lt_e, rk_icmp_lt_e, rk_if_ge_e, rk_icmp_ge_e, rk_if_gt_e, rk_icmp_gt_e, rk_if_le_e, rk_icmp_le_e, rk_sw01_e, rk_iret_e, rk_zret_e, rk_lret_e, rk_vret_e, rk_gI_e, rk_gJ_e, rk_gR_e, rk_pI_e, rk_pJ_e, rk_iald_e, rk_zald_e, rk_aald_e, rk_alen_e, rk_iast_e, rk_zast_e, rk_cV_e0, rk_cV_e1, rk_cV_e2, rk_cV_e3, rk_cV_e4, rk_cS_e1, rk_cS_e2, rk_cS_e3, rk_cS_e4, rk_mmin_e, rk_mmax_e, rk_mabs_e, rk_cpy_e, rk_cut_e, rk_kont_i, rk_kont_j, rk_kont_n, rk_ent_0, rk_ent_i, rk_ent_r, rk_ent_j, List.getElem?_cons_zero, List.getElem?_cons_succ, rk_st_0, rk_st_1i, rk_st_1r, rk_st_1n, rk_st_1j, rk_st_ss, rk_st2_0, rk_st2_1i, rk_st2_1r, rk_st2_1n, rk_st2_1j, rk_st2_ss, List.nil_append, List.cons_append, rk_sml, rk_cat_i, rk_cat_j, rk_cat_r, true_and, and_true, List.length_cons, List.length_nil, Nat.reduceLeDiff, Nat.reduceAdd, Nat.reduceSub, Nat.zero_le, List.reduceReplicate, List.map_nil, List.map_cons, List.sum_nil, List.sum_cons, true_or, or_true, rk_row_ob, rk_row_rf, rk_itm_kd, rk_itm_ln, rk_le_lt, Classical.not_not, not_true_eq_false, not_false_eq_true, rk_f_imp, rk_t_imp, rk_10, rk_01, rk_ob_0, rk_ob_1, rk_ob_2, rk_kd_2, rk_ln_2, rk_ob_3, rk_kd_3, rk_ln_3, rk_ob_4, rk_kd_4, rk_ln_4, rk_ob_5, rk_kd_5, rk_ln_5, rk_ob_6, rk_kd_6, rk_ln_6, rk_ob_7, rk_kd_7, rk_ln_7, rk_ob_8, rk_kd_8, rk_ln_8, rk_ob_9, rk_kd_9, rk_ln_9, rk_ob_10, rk_ob_11, rk_kd_11, rk_ln_11, rk_ob_12, rk_kd_12, rk_ln_12, rk_ob_13, rk_kd_13, rk_ln_13, rk_ob_14, rk_kd_14, rk_ln_14, rk_ob_15, rk_kd_15, rk_ln_15, rk_ob_16, rk_ob_17, rk_kd_17, rk_ln_17, rk_ob_18, rk_kd_18, rk_ln_18, rk_ob_19, rk_kd_19, rk_ln_19, rk_ob_20, rk_kd_20, rk_ln_20, rk_ob_21, rk_kd_21, rk_ln_21, rk_ob_22, rk_kd_22, rk_ln_22, rk_ob_23, rk_kd_23, rk_ln_23, rk_ob_24, rk_kd_24, rk_ln_24, rk_ob_25, rk_kd_25, rk_ln_25, rk_ob_26, rk_kd_26, rk_ln_26, rk_ob_27, rk_kd_27, rk_ln_27, rk_ob_28, rk_kd_28, rk_ln_28, rk_ob_29, rk_ob_30, rk_kd_30, rk_ln_30, rk_ob_31, rk_kd_31, rk_ln_31, rk_ob_32, rk_ob_33, rk_kd_33, rk_ln_33, rk_ob_34, rk_ob_35, rk_kd_35, rk_ln_35, rk_ob_36, rk_ob_37, rk_kd_37, rk_ln_37, rk_ob_38, rk_ob_39, rk_kd_39, rk_ln_39, rk_ob_40, rk_ob_41, rk_kd_41, rk_ln_41, rk_ob_42, rk_ob_43, rk_kd_43, rk_ln_43, rk_ob_44, rk_kd_44, rk_ln_44, rk_ob_45, rk_kd_45, rk_ln_45, rk_ob_46, rk_kd_46, rk_ln_46, rk_ob_47, rk_kd_47, rk_ln_47, rk_ob_48, rk_kd_48, rk_ln_48, rk_ob_49, rk_kd_49, rk_ln_49, rk_ob_50, rk_kd_50, rk_ln_50, rk_ob_51, rk_kd_51, rk_ln_51, rk_ob_52, rk_kd_52, rk_ln_52, rk_ob_53, rk_kd_53, rk_ln_53, rk_ob_54, rk_kd_54, rk_ln_54, rk_ob_55, rk_kd_55, rk_ln_55, rk_ob_56, rk_kd_56, rk_ln_56, rk_ob_57, rk_kd_57, rk_ln_57, rk_ob_58, rk_kd_58, rk_ln_58, rk_ob_59, rk_kd_59, rk_ln_59, rk_ob_60, rk_kd_60, rk_ln_60, rk_ob_61, rk_kd_61, rk_ln_61, rk_ob_62, rk_kd_62, rk_ln_62, rk_ob_63, rk_kd_63, rk_ln_63, rk_ob_64, rk_kd_64, rk_ln_64, rk_rf_0_0, rk_rf_0_1, rk_rf_0_2, rk_rf_0_3, rk_rf_0_4, rk_rf_0_5, rk_rf_1_0, rk_rf_1_1, rk_rf_1_2, rk_rf_1_3, rk_rf_1_4, rk_rf_1_5, rk_rf_1_6, rk_rf_1_9, rk_rf_10_1, rk_rf_10_2, rk_rf_10_3, rk_rf_10_4, rk_rf_10_5, rk_rf_10_6, rk_rf_16_0, rk_rf_16_1, rk_rf_16_2, rk_rf_16_3, rk_rf_16_4, rk_rf_16_5, rk_rf_16_6, rk_rf_16_7, rk_rf_16_8, rk_rf_16_9, rk_rf_16_10, rk_rf_16_13, rk_rf_16_14, rk_rf_16_15, rk_rf_29_0, rk_rf_29_1, rk_rf_29_2, rk_rf_32_0, rk_rf_34_0, rk_rf_36_0, rk_rf_38_0, rk_rf_40_0, rk_rf_42_1, rk_rf_42_2, rk_rf_42_4, rk_rf_42_5, rk_rf_42_6, rk_rf_42_8, rk_rf_42_9, rk_rf_42_12, rk_rf_42_13, rk_rf_42_14, rk_rf_42_15, rk_rf_42_16, rk_rf_42_17, rk_rf_42_20, rk_rf_42_21, rk_rf_42_22, rk_rf_42_23, rk_rf_42_27, rk_rf_42_28, rk_rf_42_29, rk_rf_42_30, rk_rf_42_31]
  exact k
theorem hb_1 (x : Int32) {n : Nat} (hn : n < 32) : (x >>> (nI n &&& 31) &&& 1 = 1) = (bt x n = true) := by
  apply propext
  have e0 : bt (x >>> (nI n &&& 31) &&& 1) 0 = bt x n := by
    rw [b_and, b_sshr n hn x (by omega), b_1 0 (by omega)]
    simp [hn]
  constructor
  · intro h
    rw [h, b_1 0 (by omega)] at e0
    rw [← e0]
    rfl
  · intro h
    apply b_ext
    intro i hi
    rw [b_1 i hi]
    by_cases h0 : i = 0
    · subst h0; rw [e0, h]; rfl
    · rw [b_and, b_1 i hi]; simp [h0]
theorem m_isIn {x : Int32} {n : Nat} (hn : n < 32) (k : R (some (.int (rk_b (bt x n = true)))) σ) : sX7_isIn g [.int x, .int (nI n)] σ R := by
  refine rk_entry (own := RX7) rfl rfl rfl (Nat.le_of_ble_eq_true rfl) (oX7_isIn_0 _ _ _ ?_)
  simp only [hb_1 x hn, eX7_isIn_0, eX7_isIn_14, rk_ci_e, rk_cj_e, rk_iload_e, rk_lload_e, rk_aload_e, rk_istore_e, rk_astore_e, rk_lstore_e, rk_iinc_e, rk_iadd_e, rk_isub_e, rk_imul_e, rk_iand_e, rk_ior_e, rk_ixor_e, rk_ladd_e, rk_lmul_e, rk_lsub_e, rk_ishl_e, rk_ishr_e, rk_iushr_e, rk_lcmp_e, rk_ineg_e, rk_i2l_e, rk_i2b_e, rk_i2s_e, rk_dup_e, rk_pop_e, rk_dup2_e, rk_if_eq_e, rk_icmp_eq_e, rk_if_ne_e, rk_icmp_ne_e, rk_if_lt_e, rk_icmp_lt_e, rk_if_ge_e, rk_icmp_ge_e, rk_if_gt_e, rk_icmp_gt_e, rk_if_le_e, rk_icmp_le_e, rk_sw01_e, rk_iret_e, rk_zret_e, rk_lret_e, rk_vret_e, rk_gI_e, rk_gJ_e, rk_gR_e, rk_pI_e, rk_pJ_e, rk_iald_e, rk_zald_e, rk_aald_e, rk_alen_e, rk_iast_e, rk_zast_e, rk_cV_e0, rk_cV_e1, rk_cV_e2, rk_cV_e3, rk_cV_e4, rk_cS_e1, rk_cS_e2, rk_cS_e3, rk_cS_e4, rk_mmin_e, rk_mmax_e, rk_mabs_e, rk_cpy_e, rk_cut_e, rk_kont_i, rk_kont_j, rk_kont_n, rk_ent_0, rk_ent_i, rk_ent_r, rk_ent_j, List.getElem?_cons_zero, List.getElem?_cons_succ, rk_st_0, rk_st_1i, rk_st_1r, rk_st_1n, rk_st_1j, rk_st_ss, rk_st2_0, rk_st2_1i, rk_st2_1r, rk_st2_1n, rk_st2_1j, rk_st2_ss, List.nil_append, List.cons_append, rk_sml, rk_cat_i, rk_cat_j, rk_cat_r, true_and, and_true, List.length_cons, List.length_nil, Nat.reduceLeDiff, Nat.reduceAdd, Nat.reduceSub, Nat.zero_le, List.reduceReplicate, List.map_nil, List.map_cons, List.sum_nil, List.sum_cons, true_or, or_true, rk_row_ob, rk_row_rf, rk_itm_kd, rk_itm_ln, rk_le_lt, Classical.not_not, not_true_eq_false, not_false_eq_true, rk_f_imp, rk_t_imp, rk_10, rk_01, rk_ob_0, rk_ob_1, rk_ob_2, rk_kd_2, rk_ln_2, rk_ob_3, rk_kd_3, rk_ln_3, rk_ob_4, rk_kd_4, rk_ln_4, rk_ob_5, rk_kd_5, rk_ln_5, rk_ob_6, rk_kd_6, rk_ln_6, rk_ob_7, rk_kd_7, rk_ln_7, rk_ob_8, rk_kd_8, rk_ln_8, rk_ob_9, rk_kd_9, rk_ln_9, rk_ob_10, rk_ob_11, rk_kd_11, rk_ln_11, rk_ob_12, rk_kd_12, rk_ln_12, rk_ob_13, rk_kd_13, rk_ln_13, rk_ob_14, rk_kd_14, rk_ln_14, rk_ob_15, rk_kd_15, rk_ln_15, rk_ob_16, rk_ob_17, rk_kd_17, rk_ln_17, rk_ob_18, rk_kd_18, rk_ln_18, rk_ob_19, rk_kd_19, rk_ln_19, rk_ob_20, rk_kd_20, rk_ln_20, rk_ob_21, rk_kd_21, rk_ln_21, rk_ob_22, rk_kd_22, rk_ln_22, rk_ob_23, rk_kd_23, rk_ln_23, rk_ob_24, rk_kd_24, rk_ln_24, rk_ob_25, rk_kd_25, rk_ln_25, rk_ob_26, rk_kd_26, rk_ln_26, rk_ob_27, rk_kd_27, rk_ln_27, rk_ob_28, rk_kd_28, rk_ln_28, rk_ob_29, rk_ob_30, rk_kd_30, rk_ln_30, rk_ob_31, rk_kd_31, rk_ln_31, rk_ob_32, rk_ob_33, rk_kd_33, rk_ln_33, rk_ob_34, rk_ob_35, rk_kd_35, rk_ln_35, rk_ob_36, rk_ob_37, rk_kd_37, rk_ln_37, rk_ob_38, rk_ob_39, rk_kd_39, rk_ln_39, rk_ob_40, rk_ob_41, rk_kd_41, rk_ln_41, rk_ob_42, rk_ob_43, rk_kd_43, rk_ln_43, rk_ob_44, rk_kd_44, rk_ln_44, rk_ob_45, rk_kd_45, rk_ln_45, rk_ob_46, rk_kd_46, rk_ln_46, rk_ob_47, rk_kd_47, rk_ln_47, rk_ob_48, rk_kd_48, rk_ln_48, rk_ob_49, rk_kd_49, rk_ln_49, rk_ob_50, rk_kd_50, rk_ln_50, rk_ob_51, rk_kd_51, rk_ln_51, rk_ob_52, rk_kd_52, rk_ln_52, rk_ob_53, rk_kd_53, rk_ln_53, rk_ob_54, rk_kd_54, rk_ln_54, rk_ob_55, rk_kd_55, rk_ln_55, rk_ob_56, rk_kd_56, rk_ln_56, rk_ob_57, rk_kd_57, rk_ln_57, rk_ob_58, rk_kd_58, rk_ln_58, rk_ob_59, rk_kd_59, rk_ln_59, rk_ob_60, rk_kd_60, rk_ln_60, rk_ob_61, rk_kd_61, rk_ln_61, rk_ob_62, rk_kd_62, rk_ln_62, rk_ob_63, rk_kd_63, rk_ln_63, rk_ob_64, rk_kd_64, rk_ln_64, rk_rf_0_0, rk_rf_0_1, rk_rf_0_2, rk_rf_0_3, rk_rf_0_4, rk_rf_0_5, rk_rf_1_0, rk_rf_1_1, rk_rf_1_2, rk_rf_1_3, rk_rf_1_4, rk_rf_1_5, rk_rf_1_6, rk_rf_1_9, rk_rf_10_1, rk_rf_10_2, rk_rf_10_3, rk_rf_10_4, rk_rf_10_5, rk_rf_10_6, rk_rf_16_0, rk_rf_16_1, rk_rf_16_2, rk_rf_16_3, rk_rf_16_4, rk_rf_16_5, rk_rf_16_6, rk_rf_16_7, rk_rf_16_8, rk_rf_16_9, rk_rf_16_10, rk_rf_16_13, rk_rf_16_14, rk_rf_16_15, rk_rf_29_0, rk_rf_29_1, rk_rf_29_2, rk_rf_32_0, rk_rf_34_0, rk_rf_36_0, rk_rf_38_0, rk_rf_40_0, rk_rf_42_1, rk_rf_42_2, rk_rf_42_4, rk_rf_42_5, rk_rf_42_6, rk_rf_42_8, rk_rf_42_9, rk_rf_42_12, rk_rf_42_13, rk_rf_42_14, rk_rf_42_15, rk_rf_42_16, rk_rf_42_17, rk_rf_42_20, rk_rf_42_21, rk_rf_42_22, rk_rf_42_23, rk_rf_42_27, rk_rf_42_28, rk_rf_42_29, rk_rf_42_30, rk_rf_42_31]
  cases h : bt x n with
  | true =>
    rw [rk_b_t h] at k
    simp only [reduceCtorEq, rk_f_imp, rk_t_imp, not_true_eq_false, not_false_eq_true, and_true, true_and]
    exact k
  | false =>
    rw [rk_b_f (by rw [h]; decide)] at k
    simp only [reduceCtorEq, rk_f_imp, rk_t_imp, not_true_eq_false, not_false_eq_true, and_true, true_and]
    exact k
theorem m_many_loop {x : Int32} (k : R (some (.int (nI (fb_ct (fun i => bt x i) 24)))) σ) : ∀ (n i : Nat), i + n = 24 → tX7_many g R 4 [.int x, .int (nI (fb_ct (fun i => bt x i) i)), .int (nI i)] [] σ := by
  intro n
  induction n with
  | zero =>
    intro i hi
    obtain rfl : i = 24 := by omega
    refine oX7_many_4 _ _ _ ?_
    have h0 : ¬ nI 24 < 24 := by decide
    simp only [h0, eX7_many_0, eX7_many_4, eX7_many_24, rk_ci_e, rk_cj_e, rk_iload_e, rk_lload_e, rk_aload_e, rk_istore_e, rk_astore_e, rk_lstore_e, rk_iinc_e, rk_iadd_e, rk_isub_e, rk_imul_e, rk_iand_e, rk_ior_e, rk_ixor_e, rk_ladd_e, rk_lmul_e, rk_lsub_e, rk_ishl_e, rk_ishr_e, rk_iushr_e, rk_lcmp_e, rk_ineg_e, rk_i2l_e, rk_i2b_e, rk_i2s_e, rk_dup_e, rk_pop_e, rk_dup2_e, rk_if_eq_e, rk_icmp_eq_e, rk_if_ne_e, rk_icmp_ne_e, rk_if_lt_e, rk_icmp_lt_e, rk_if_ge_e, rk_icmp_ge_e, rk_if_gt_e, rk_icmp_gt_e, rk_if_le_e, rk_icmp_le_e, rk_sw01_e, rk_iret_e, rk_zret_e, rk_lret_e, rk_vret_e, rk_gI_e, rk_gJ_e, rk_gR_e, rk_pI_e, rk_pJ_e, rk_iald_e, rk_zald_e, rk_aald_e, rk_alen_e, rk_iast_e, rk_zast_e, rk_cV_e0, rk_cV_e1, rk_cV_e2, rk_cV_e3, rk_cV_e4, rk_cS_e1, rk_cS_e2, rk_cS_e3, rk_cS_e4, rk_mmin_e, rk_mmax_e, rk_mabs_e, rk_cpy_e, rk_cut_e, rk_kont_i, rk_kont_j, rk_kont_n, rk_ent_0, rk_ent_i, rk_ent_r, rk_ent_j, List.getElem?_cons_zero, List.getElem?_cons_succ, rk_st_0, rk_st_1i, rk_st_1r, rk_st_1n, rk_st_1j, rk_st_ss, rk_st2_0, rk_st2_1i, rk_st2_1r, rk_st2_1n, rk_st2_1j, rk_st2_ss, List.nil_append, List.cons_append, rk_sml, rk_cat_i, rk_cat_j, rk_cat_r, true_and, and_true, List.length_cons, List.length_nil, Nat.reduceLeDiff, Nat.reduceAdd, Nat.reduceSub, Nat.zero_le, List.reduceReplicate, List.map_nil, List.map_cons, List.sum_nil, List.sum_cons, true_or, or_true, rk_row_ob, rk_row_rf, rk_itm_kd, rk_itm_ln, rk_le_lt, Classical.not_not, not_true_eq_false, not_false_eq_true, rk_f_imp, rk_t_imp, rk_10, rk_01, rk_ob_0, rk_ob_1, rk_ob_2, rk_kd_2, rk_ln_2, rk_ob_3, rk_kd_3, rk_ln_3, rk_ob_4, rk_kd_4, rk_ln_4, rk_ob_5, rk_kd_5, rk_ln_5, rk_ob_6, rk_kd_6, rk_ln_6, rk_ob_7, rk_kd_7, rk_ln_7, rk_ob_8, rk_kd_8, rk_ln_8, rk_ob_9, rk_kd_9, rk_ln_9, rk_ob_10, rk_ob_11, rk_kd_11, rk_ln_11, rk_ob_12, rk_kd_12, rk_ln_12, rk_ob_13, rk_kd_13, rk_ln_13, rk_ob_14, rk_kd_14, rk_ln_14, rk_ob_15, rk_kd_15, rk_ln_15, rk_ob_16, rk_ob_17, rk_kd_17, rk_ln_17, rk_ob_18, rk_kd_18, rk_ln_18, rk_ob_19, rk_kd_19, rk_ln_19, rk_ob_20, rk_kd_20, rk_ln_20, rk_ob_21, rk_kd_21, rk_ln_21, rk_ob_22, rk_kd_22, rk_ln_22, rk_ob_23, rk_kd_23, rk_ln_23, rk_ob_24, rk_kd_24, rk_ln_24, rk_ob_25, rk_kd_25, rk_ln_25, rk_ob_26, rk_kd_26, rk_ln_26, rk_ob_27, rk_kd_27, rk_ln_27, rk_ob_28, rk_kd_28, rk_ln_28, rk_ob_29, rk_ob_30, rk_kd_30, rk_ln_30, rk_ob_31, rk_kd_31, rk_ln_31, rk_ob_32, rk_ob_33, rk_kd_33, rk_ln_33, rk_ob_34, rk_ob_35, rk_kd_35, rk_ln_35, rk_ob_36, rk_ob_37, rk_kd_37, rk_ln_37, rk_ob_38, rk_ob_39, rk_kd_39, rk_ln_39, rk_ob_40, rk_ob_41, rk_kd_41, rk_ln_41, rk_ob_42, rk_ob_43, rk_kd_43, rk_ln_43, rk_ob_44, rk_kd_44, rk_ln_44, rk_ob_45, rk_kd_45, rk_ln_45, rk_ob_46, rk_kd_46, rk_ln_46, rk_ob_47, rk_kd_47, rk_ln_47, rk_ob_48, rk_kd_48, rk_ln_48, rk_ob_49, rk_kd_49, rk_ln_49, rk_ob_50, rk_kd_50, rk_ln_50, rk_ob_51, rk_kd_51, rk_ln_51, rk_ob_52, rk_kd_52, rk_ln_52, rk_ob_53, rk_kd_53, rk_ln_53, rk_ob_54, rk_kd_54, rk_ln_54, rk_ob_55, rk_kd_55, rk_ln_55, rk_ob_56, rk_kd_56, rk_ln_56, rk_ob_57, rk_kd_57, rk_ln_57, rk_ob_58, rk_kd_58, rk_ln_58, rk_ob_59, rk_kd_59, rk_ln_59, rk_ob_60, rk_kd_60, rk_ln_60, rk_ob_61, rk_kd_61, rk_ln_61, rk_ob_62, rk_kd_62, rk_ln_62, rk_ob_63, rk_kd_63, rk_ln_63, rk_ob_64, rk_kd_64, rk_ln_64, rk_rf_0_0, rk_rf_0_1, rk_rf_0_2, rk_rf_0_3, rk_rf_0_4, rk_rf_0_5, rk_rf_1_0, rk_rf_1_1, rk_rf_1_2, rk_rf_1_3, rk_rf_1_4, rk_rf_1_5, rk_rf_1_6, rk_rf_1_9, rk_rf_10_1, rk_rf_10_2, rk_rf_10_3, rk_rf_10_4, rk_rf_10_5, rk_rf_10_6, rk_rf_16_0, rk_rf_16_1, rk_rf_16_2, rk_rf_16_3, rk_rf_16_4, rk_rf_16_5, rk_rf_16_6, rk_rf_16_7, rk_rf_16_8, rk_rf_16_9, rk_rf_16_10, rk_rf_16_13, rk_rf_16_14, rk_rf_16_15, rk_rf_29_0, rk_rf_29_1, rk_rf_29_2, rk_rf_32_0, rk_rf_34_0, rk_rf_36_0, rk_rf_38_0, rk_rf_40_0, rk_rf_42_1, rk_rf_42_2, rk_rf_42_4, rk_rf_42_5, rk_rf_42_6, rk_rf_42_8, rk_rf_42_9, rk_rf_42_12, rk_rf_42_13, rk_rf_42_14, rk_rf_42_15, rk_rf_42_16, rk_rf_42_17, rk_rf_42_20, rk_rf_42_21, rk_rf_42_22, rk_rf_42_23, rk_rf_42_27, rk_rf_42_28, rk_rf_42_29, rk_rf_42_30, rk_rf_42_31]
    exact k
  | succ n ih =>
    intro i hi
    refine oX7_many_4 _ _ _ ?_
    have h0 : nI i < 24 := nI_lt (b := 24) (by omega) (by omega)
    have nx := ih (i + 1) (by omega)
    simp only [h0, eX7_many_0, eX7_many_4, eX7_many_24, rk_ci_e, rk_cj_e, rk_iload_e, rk_lload_e, rk_aload_e, rk_istore_e, rk_astore_e, rk_lstore_e, rk_iinc_e, rk_iadd_e, rk_isub_e, rk_imul_e, rk_iand_e, rk_ior_e, rk_ixor_e, rk_ladd_e, rk_lmul_e, rk_lsub_e, rk_ishl_e, rk_ishr_e, rk_iushr_e, rk_lcmp_e, rk_ineg_e, rk_i2l_e, rk_i2b_e, rk_i2s_e, rk_dup_e, rk_pop_e, rk_dup2_e, rk_if_eq_e, rk_icmp_eq_e, rk_if_ne_e, rk_icmp_ne_e, rk_if_lt_e, rk_icmp_lt_e, rk_if_ge_e, rk_icmp_ge_e, rk_if_gt_e, rk_icmp_gt_e, rk_if_le_e, rk_icmp_le_e, rk_sw01_e, rk_iret_e, rk_zret_e, rk_lret_e, rk_vret_e, rk_gI_e, rk_gJ_e, rk_gR_e, rk_pI_e, rk_pJ_e, rk_iald_e, rk_zald_e, rk_aald_e, rk_alen_e, rk_iast_e, rk_zast_e, rk_cV_e0, rk_cV_e1, rk_cV_e2, rk_cV_e3, rk_cV_e4, rk_cS_e1, rk_cS_e2, rk_cS_e3, rk_cS_e4, rk_mmin_e, rk_mmax_e, rk_mabs_e, rk_cpy_e, rk_cut_e, rk_kont_i, rk_kont_j, rk_kont_n, rk_ent_0, rk_ent_i, rk_ent_r, rk_ent_j, List.getElem?_cons_zero, List.getElem?_cons_succ, rk_st_0, rk_st_1i, rk_st_1r, rk_st_1n, rk_st_1j, rk_st_ss, rk_st2_0, rk_st2_1i, rk_st2_1r, rk_st2_1n, rk_st2_1j, rk_st2_ss, List.nil_append, List.cons_append, rk_sml, rk_cat_i, rk_cat_j, rk_cat_r, true_and, and_true, List.length_cons, List.length_nil, Nat.reduceLeDiff, Nat.reduceAdd, Nat.reduceSub, Nat.zero_le, List.reduceReplicate, List.map_nil, List.map_cons, List.sum_nil, List.sum_cons, true_or, or_true, rk_row_ob, rk_row_rf, rk_itm_kd, rk_itm_ln, rk_le_lt, Classical.not_not, not_true_eq_false, not_false_eq_true, rk_f_imp, rk_t_imp, rk_10, rk_01, rk_ob_0, rk_ob_1, rk_ob_2, rk_kd_2, rk_ln_2, rk_ob_3, rk_kd_3, rk_ln_3, rk_ob_4, rk_kd_4, rk_ln_4, rk_ob_5, rk_kd_5, rk_ln_5, rk_ob_6, rk_kd_6, rk_ln_6, rk_ob_7, rk_kd_7, rk_ln_7, rk_ob_8, rk_kd_8, rk_ln_8, rk_ob_9, rk_kd_9, rk_ln_9, rk_ob_10, rk_ob_11, rk_kd_11, rk_ln_11, rk_ob_12, rk_kd_12, rk_ln_12, rk_ob_13, rk_kd_13, rk_ln_13, rk_ob_14, rk_kd_14, rk_ln_14, rk_ob_15, rk_kd_15, rk_ln_15, rk_ob_16, rk_ob_17, rk_kd_17, rk_ln_17, rk_ob_18, rk_kd_18, rk_ln_18, rk_ob_19, rk_kd_19, rk_ln_19, rk_ob_20, rk_kd_20, rk_ln_20, rk_ob_21, rk_kd_21, rk_ln_21, rk_ob_22, rk_kd_22, rk_ln_22, rk_ob_23, rk_kd_23, rk_ln_23, rk_ob_24, rk_kd_24, rk_ln_24, rk_ob_25, rk_kd_25, rk_ln_25, rk_ob_26, rk_kd_26, rk_ln_26, rk_ob_27, rk_kd_27, rk_ln_27, rk_ob_28, rk_kd_28, rk_ln_28, rk_ob_29, rk_ob_30, rk_kd_30, rk_ln_30, rk_ob_31, rk_kd_31, rk_ln_31, rk_ob_32, rk_ob_33, rk_kd_33, rk_ln_33, rk_ob_34, rk_ob_35, rk_kd_35, rk_ln_35, rk_ob_36, rk_ob_37, rk_kd_37, rk_ln_37, rk_ob_38, rk_ob_39, rk_kd_39, rk_ln_39, rk_ob_40, rk_ob_41, rk_kd_41, rk_ln_41, rk_ob_42, rk_ob_43, rk_kd_43, rk_ln_43, rk_ob_44, rk_kd_44, rk_ln_44, rk_ob_45, rk_kd_45, rk_ln_45, rk_ob_46, rk_kd_46, rk_ln_46, rk_ob_47, rk_kd_47, rk_ln_47, rk_ob_48, rk_kd_48, rk_ln_48, rk_ob_49, rk_kd_49, rk_ln_49, rk_ob_50, rk_kd_50, rk_ln_50, rk_ob_51, rk_kd_51, rk_ln_51, rk_ob_52, rk_kd_52, rk_ln_52, rk_ob_53, rk_kd_53, rk_ln_53, rk_ob_54, rk_kd_54, rk_ln_54, rk_ob_55, rk_kd_55, rk_ln_55, rk_ob_56, rk_kd_56, rk_ln_56, rk_ob_57, rk_kd_57, rk_ln_57, rk_ob_58, rk_kd_58, rk_ln_58, rk_ob_59, rk_kd_59, rk_ln_59, rk_ob_60, rk_kd_60, rk_ln_60, rk_ob_61, rk_kd_61, rk_ln_61, rk_ob_62, rk_kd_62, rk_ln_62, rk_ob_63, rk_kd_63, rk_ln_63, rk_ob_64, rk_kd_64, rk_ln_64, rk_rf_0_0, rk_rf_0_1, rk_rf_0_2, rk_rf_0_3, rk_rf_0_4, rk_rf_0_5, rk_rf_1_0, rk_rf_1_1, rk_rf_1_2, rk_rf_1_3, rk_rf_1_4, rk_rf_1_5, rk_rf_1_6, rk_rf_1_9, rk_rf_10_1, rk_rf_10_2, rk_rf_10_3, rk_rf_10_4, rk_rf_10_5, rk_rf_10_6, rk_rf_16_0, rk_rf_16_1, rk_rf_16_2, rk_rf_16_3, rk_rf_16_4, rk_rf_16_5, rk_rf_16_6, rk_rf_16_7, rk_rf_16_8, rk_rf_16_9, rk_rf_16_10, rk_rf_16_13, rk_rf_16_14, rk_rf_16_15, rk_rf_29_0, rk_rf_29_1, rk_rf_29_2, rk_rf_32_0, rk_rf_34_0, rk_rf_36_0, rk_rf_38_0, rk_rf_40_0, rk_rf_42_1, rk_rf_42_2, rk_rf_42_4, rk_rf_42_5, rk_rf_42_6, rk_rf_42_8, rk_rf_42_9, rk_rf_42_12, rk_rf_42_13, rk_rf_42_14, rk_rf_42_15, rk_rf_42_16, rk_rf_42_17, rk_rf_42_20, rk_rf_42_21, rk_rf_42_22, rk_rf_42_23, rk_rf_42_27, rk_rf_42_28, rk_rf_42_29, rk_rf_42_30, rk_rf_42_31]
    refine m_isIn (by omega) ?_
    rw [fb_ct_succ] at nx
    by_cases e : bt x i = true
    · rw [rk_b_t e]
      rw [if_pos e] at nx
      simp only [nI_1, eX7_many_0, eX7_many_4, eX7_many_24, rk_ci_e, rk_cj_e, rk_iload_e, rk_lload_e, rk_aload_e, rk_istore_e, rk_astore_e, rk_lstore_e, rk_iinc_e, rk_iadd_e, rk_isub_e, rk_imul_e, rk_iand_e, rk_ior_e, rk_ixor_e, rk_ladd_e, rk_lmul_e, rk_lsub_e, rk_ishl_e, rk_ishr_e, rk_iushr_e, rk_lcmp_e, rk_ineg_e, rk_i2l_e, rk_i2b_e, rk_i2s_e, rk_dup_e, rk_pop_e, rk_dup2_e, rk_if_eq_e, rk_icmp_eq_e, rk_if_ne_e, rk_icmp_ne_e, rk_if_lt_e, rk_icmp_lt_e, rk_if_ge_e, rk_icmp_ge_e, rk_if_gt_e, rk_icmp_gt_e, rk_if_le_e, rk_icmp_le_e, rk_sw01_e, rk_iret_e, rk_zret_e, rk_lret_e, rk_vret_e, rk_gI_e, rk_gJ_e, rk_gR_e, rk_pI_e, rk_pJ_e, rk_iald_e, rk_zald_e, rk_aald_e, rk_alen_e, rk_iast_e, rk_zast_e, rk_cV_e0, rk_cV_e1, rk_cV_e2, rk_cV_e3, rk_cV_e4, rk_cS_e1, rk_cS_e2, rk_cS_e3, rk_cS_e4, rk_mmin_e, rk_mmax_e, rk_mabs_e, rk_cpy_e, rk_cut_e, rk_kont_i, rk_kont_j, rk_kont_n, rk_ent_0, rk_ent_i, rk_ent_r, rk_ent_j, List.getElem?_cons_zero, List.getElem?_cons_succ, rk_st_0, rk_st_1i, rk_st_1r, rk_st_1n, rk_st_1j, rk_st_ss, rk_st2_0, rk_st2_1i, rk_st2_1r, rk_st2_1n, rk_st2_1j, rk_st2_ss, List.nil_append, List.cons_append, rk_sml, rk_cat_i, rk_cat_j, rk_cat_r, true_and, and_true, List.length_cons, List.length_nil, Nat.reduceLeDiff, Nat.reduceAdd, Nat.reduceSub, Nat.zero_le, List.reduceReplicate, List.map_nil, List.map_cons, List.sum_nil, List.sum_cons, true_or, or_true, rk_row_ob, rk_row_rf, rk_itm_kd, rk_itm_ln, rk_le_lt, Classical.not_not, not_true_eq_false, not_false_eq_true, rk_f_imp, rk_t_imp, rk_10, rk_01, rk_ob_0, rk_ob_1, rk_ob_2, rk_kd_2, rk_ln_2, rk_ob_3, rk_kd_3, rk_ln_3, rk_ob_4, rk_kd_4, rk_ln_4, rk_ob_5, rk_kd_5, rk_ln_5, rk_ob_6, rk_kd_6, rk_ln_6, rk_ob_7, rk_kd_7, rk_ln_7, rk_ob_8, rk_kd_8, rk_ln_8, rk_ob_9, rk_kd_9, rk_ln_9, rk_ob_10, rk_ob_11, rk_kd_11, rk_ln_11, rk_ob_12, rk_kd_12, rk_ln_12, rk_ob_13, rk_kd_13, rk_ln_13, rk_ob_14, rk_kd_14, rk_ln_14, rk_ob_15, rk_kd_15, rk_ln_15, rk_ob_16, rk_ob_17, rk_kd_17, rk_ln_17, rk_ob_18, rk_kd_18, rk_ln_18, rk_ob_19, rk_kd_19, rk_ln_19, rk_ob_20, rk_kd_20, rk_ln_20, rk_ob_21, rk_kd_21, rk_ln_21, rk_ob_22, rk_kd_22, rk_ln_22, rk_ob_23, rk_kd_23, rk_ln_23, rk_ob_24, rk_kd_24, rk_ln_24, rk_ob_25, rk_kd_25, rk_ln_25, rk_ob_26, rk_kd_26, rk_ln_26, rk_ob_27, rk_kd_27, rk_ln_27, rk_ob_28, rk_kd_28, rk_ln_28, rk_ob_29, rk_ob_30, rk_kd_30, rk_ln_30, rk_ob_31, rk_kd_31, rk_ln_31, rk_ob_32, rk_ob_33, rk_kd_33, rk_ln_33, rk_ob_34, rk_ob_35, rk_kd_35, rk_ln_35, rk_ob_36, rk_ob_37, rk_kd_37, rk_ln_37, rk_ob_38, rk_ob_39, rk_kd_39, rk_ln_39, rk_ob_40, rk_ob_41, rk_kd_41, rk_ln_41, rk_ob_42, rk_ob_43, rk_kd_43, rk_ln_43, rk_ob_44, rk_kd_44, rk_ln_44, rk_ob_45, rk_kd_45, rk_ln_45, rk_ob_46, rk_kd_46, rk_ln_46, rk_ob_47, rk_kd_47, rk_ln_47, rk_ob_48, rk_kd_48, rk_ln_48, rk_ob_49, rk_kd_49, rk_ln_49, rk_ob_50, rk_kd_50, rk_ln_50, rk_ob_51, rk_kd_51, rk_ln_51, rk_ob_52, rk_kd_52, rk_ln_52, rk_ob_53, rk_kd_53, rk_ln_53, rk_ob_54, rk_kd_54, rk_ln_54, rk_ob_55, rk_kd_55, rk_ln_55, rk_ob_56, rk_kd_56, rk_ln_56, rk_ob_57, rk_kd_57, rk_ln_57, rk_ob_58, rk_kd_58, rk_ln_58, rk_ob_59, rk_kd_59, rk_ln_59, rk_ob_60, rk_kd_60, rk_ln_60, rk_ob_61, rk_kd_61, rk_ln_61, rk_ob_62, rk_kd_62, rk_ln_62, rk_ob_63, rk_kd_63, rk_ln_63, rk_ob_64, rk_kd_64, rk_ln_64, rk_rf_0_0, rk_rf_0_1, rk_rf_0_2, rk_rf_0_3, rk_rf_0_4, rk_rf_0_5, rk_rf_1_0, rk_rf_1_1, rk_rf_1_2, rk_rf_1_3, rk_rf_1_4, rk_rf_1_5, rk_rf_1_6, rk_rf_1_9, rk_rf_10_1, rk_rf_10_2, rk_rf_10_3, rk_rf_10_4, rk_rf_10_5, rk_rf_10_6, rk_rf_16_0, rk_rf_16_1, rk_rf_16_2, rk_rf_16_3, rk_rf_16_4, rk_rf_16_5, rk_rf_16_6, rk_rf_16_7, rk_rf_16_8, rk_rf_16_9, rk_rf_16_10, rk_rf_16_13, rk_rf_16_14, rk_rf_16_15, rk_rf_29_0, rk_rf_29_1, rk_rf_29_2, rk_rf_32_0, rk_rf_34_0, rk_rf_36_0, rk_rf_38_0, rk_rf_40_0, rk_rf_42_1, rk_rf_42_2, rk_rf_42_4, rk_rf_42_5, rk_rf_42_6, rk_rf_42_8, rk_rf_42_9, rk_rf_42_12, rk_rf_42_13, rk_rf_42_14, rk_rf_42_15, rk_rf_42_16, rk_rf_42_17, rk_rf_42_20, rk_rf_42_21, rk_rf_42_22, rk_rf_42_23, rk_rf_42_27, rk_rf_42_28, rk_rf_42_29, rk_rf_42_30, rk_rf_42_31]
      exact nx
    · rw [rk_b_f e]
      rw [if_neg e, ← nI_add] at nx
      simp only [nI_1, eX7_many_0, eX7_many_4, eX7_many_24, rk_ci_e, rk_cj_e, rk_iload_e, rk_lload_e, rk_aload_e, rk_istore_e, rk_astore_e, rk_lstore_e, rk_iinc_e, rk_iadd_e, rk_isub_e, rk_imul_e, rk_iand_e, rk_ior_e, rk_ixor_e, rk_ladd_e, rk_lmul_e, rk_lsub_e, rk_ishl_e, rk_ishr_e, rk_iushr_e, rk_lcmp_e, rk_ineg_e, rk_i2l_e, rk_i2b_e, rk_i2s_e, rk_dup_e, rk_pop_e, rk_dup2_e, rk_if_eq_e, rk_icmp_eq_e, rk_if_ne_e, rk_icmp_ne_e, rk_if_lt_e, rk_icmp_lt_e, rk_if_ge_e, rk_icmp_ge_e, rk_if_gt_e, rk_icmp_gt_e, rk_if_le_e, rk_icmp_le_e, rk_sw01_e, rk_iret_e, rk_zret_e, rk_lret_e, rk_vret_e, rk_gI_e, rk_gJ_e, rk_gR_e, rk_pI_e, rk_pJ_e, rk_iald_e, rk_zald_e, rk_aald_e, rk_alen_e, rk_iast_e, rk_zast_e, rk_cV_e0, rk_cV_e1, rk_cV_e2, rk_cV_e3, rk_cV_e4, rk_cS_e1, rk_cS_e2, rk_cS_e3, rk_cS_e4, rk_mmin_e, rk_mmax_e, rk_mabs_e, rk_cpy_e, rk_cut_e, rk_kont_i, rk_kont_j, rk_kont_n, rk_ent_0, rk_ent_i, rk_ent_r, rk_ent_j, List.getElem?_cons_zero, List.getElem?_cons_succ, rk_st_0, rk_st_1i, rk_st_1r, rk_st_1n, rk_st_1j, rk_st_ss, rk_st2_0, rk_st2_1i, rk_st2_1r, rk_st2_1n, rk_st2_1j, rk_st2_ss, List.nil_append, List.cons_append, rk_sml, rk_cat_i, rk_cat_j, rk_cat_r, true_and, and_true, List.length_cons, List.length_nil, Nat.reduceLeDiff, Nat.reduceAdd, Nat.reduceSub, Nat.zero_le, List.reduceReplicate, List.map_nil, List.map_cons, List.sum_nil, List.sum_cons, true_or, or_true, rk_row_ob, rk_row_rf, rk_itm_kd, rk_itm_ln, rk_le_lt, Classical.not_not, not_true_eq_false, not_false_eq_true, rk_f_imp, rk_t_imp, rk_10, rk_01, rk_ob_0, rk_ob_1, rk_ob_2, rk_kd_2, rk_ln_2, rk_ob_3, rk_kd_3, rk_ln_3, rk_ob_4, rk_kd_4, rk_ln_4, rk_ob_5, rk_kd_5, rk_ln_5, rk_ob_6, rk_kd_6, rk_ln_6, rk_ob_7, rk_kd_7, rk_ln_7, rk_ob_8, rk_kd_8, rk_ln_8, rk_ob_9, rk_kd_9, rk_ln_9, rk_ob_10, rk_ob_11, rk_kd_11, rk_ln_11, rk_ob_12, rk_kd_12, rk_ln_12, rk_ob_13, rk_kd_13, rk_ln_13, rk_ob_14, rk_kd_14, rk_ln_14, rk_ob_15, rk_kd_15, rk_ln_15, rk_ob_16, rk_ob_17, rk_kd_17, rk_ln_17, rk_ob_18, rk_kd_18, rk_ln_18, rk_ob_19, rk_kd_19, rk_ln_19, rk_ob_20, rk_kd_20, rk_ln_20, rk_ob_21, rk_kd_21, rk_ln_21, rk_ob_22, rk_kd_22, rk_ln_22, rk_ob_23, rk_kd_23, rk_ln_23, rk_ob_24, rk_kd_24, rk_ln_24, rk_ob_25, rk_kd_25, rk_ln_25, rk_ob_26, rk_kd_26, rk_ln_26, rk_ob_27, rk_kd_27, rk_ln_27, rk_ob_28, rk_kd_28, rk_ln_28, rk_ob_29, rk_ob_30, rk_kd_30, rk_ln_30, rk_ob_31, rk_kd_31, rk_ln_31, rk_ob_32, rk_ob_33, rk_kd_33, rk_ln_33, rk_ob_34, rk_ob_35, rk_kd_35, rk_ln_35, rk_ob_36, rk_ob_37, rk_kd_37, rk_ln_37, rk_ob_38, rk_ob_39, rk_kd_39, rk_ln_39, rk_ob_40, rk_ob_41, rk_kd_41, rk_ln_41, rk_ob_42, rk_ob_43, rk_kd_43, rk_ln_43, rk_ob_44, rk_kd_44, rk_ln_44, rk_ob_45, rk_kd_45, rk_ln_45, rk_ob_46, rk_kd_46, rk_ln_46, rk_ob_47, rk_kd_47, rk_ln_47, rk_ob_48, rk_kd_48, rk_ln_48, rk_ob_49, rk_kd_49, rk_ln_49, rk_ob_50, rk_kd_50, rk_ln_50, rk_ob_51, rk_kd_51, rk_ln_51, rk_ob_52, rk_kd_52, rk_ln_52, rk_ob_53, rk_kd_53, rk_ln_53, rk_ob_54, rk_kd_54, rk_ln_54, rk_ob_55, rk_kd_55, rk_ln_55, rk_ob_56, rk_kd_56, rk_ln_56, rk_ob_57, rk_kd_57, rk_ln_57, rk_ob_58, rk_kd_58, rk_ln_58, rk_ob_59, rk_kd_59, rk_ln_59, rk_ob_60, rk_kd_60, rk_ln_60, rk_ob_61, rk_kd_61, rk_ln_61, rk_ob_62, rk_kd_62, rk_ln_62, rk_ob_63, rk_kd_63, rk_ln_63, rk_ob_64, rk_kd_64, rk_ln_64, rk_rf_0_0, rk_rf_0_1, rk_rf_0_2, rk_rf_0_3, rk_rf_0_4, rk_rf_0_5, rk_rf_1_0, rk_rf_1_1, rk_rf_1_2, rk_rf_1_3, rk_rf_1_4, rk_rf_1_5, rk_rf_1_6, rk_rf_1_9, rk_rf_10_1, rk_rf_10_2, rk_rf_10_3, rk_rf_10_4, rk_rf_10_5, rk_rf_10_6, rk_rf_16_0, rk_rf_16_1, rk_rf_16_2, rk_rf_16_3, rk_rf_16_4, rk_rf_16_5, rk_rf_16_6, rk_rf_16_7, rk_rf_16_8, rk_rf_16_9, rk_rf_16_10, rk_rf_16_13, rk_rf_16_14, rk_rf_16_15, rk_rf_29_0, rk_rf_29_1, rk_rf_29_2, rk_rf_32_0, rk_rf_34_0, rk_rf_36_0, rk_rf_38_0, rk_rf_40_0, rk_rf_42_1, rk_rf_42_2, rk_rf_42_4, rk_rf_42_5, rk_rf_42_6, rk_rf_42_8, rk_rf_42_9, rk_rf_42_12, rk_rf_42_13, rk_rf_42_14, rk_rf_42_15, rk_rf_42_16, rk_rf_42_17, rk_rf_42_20, rk_rf_42_21, rk_rf_42_22, rk_rf_42_23, rk_rf_42_27, rk_rf_42_28, rk_rf_42_29, rk_rf_42_30, rk_rf_42_31]
      exact nx
theorem m_many {x : Int32} (k : R (some (.int (nI (fb_ct (fun i => bt x i) 24)))) σ) : sX7_many g [.int x] σ R := by
  refine rk_entry (own := RX7) rfl rfl rfl (Nat.le_of_ble_eq_true rfl) (oX7_many_0 _ _ _ ?_)
  simp only [and_self, eX7_many_0, eX7_many_4, eX7_many_24, rk_ci_e, rk_cj_e, rk_iload_e, rk_lload_e, rk_aload_e, rk_istore_e, rk_astore_e, rk_lstore_e, rk_iinc_e, rk_iadd_e, rk_isub_e, rk_imul_e, rk_iand_e, rk_ior_e, rk_ixor_e, rk_ladd_e, rk_lmul_e, rk_lsub_e, rk_ishl_e, rk_ishr_e, rk_iushr_e, rk_lcmp_e, rk_ineg_e, rk_i2l_e, rk_i2b_e, rk_i2s_e, rk_dup_e, rk_pop_e, rk_dup2_e, rk_if_eq_e, rk_icmp_eq_e, rk_if_ne_e, rk_icmp_ne_e, rk_if_lt_e, rk_icmp_lt_e, rk_if_ge_e, rk_icmp_ge_e, rk_if_gt_e, rk_icmp_gt_e, rk_if_le_e, rk_icmp_le_e, rk_sw01_e, rk_iret_e, rk_zret_e, rk_lret_e, rk_vret_e, rk_gI_e, rk_gJ_e, rk_gR_e, rk_pI_e, rk_pJ_e, rk_iald_e, rk_zald_e, rk_aald_e, rk_alen_e, rk_iast_e, rk_zast_e, rk_cV_e0, rk_cV_e1, rk_cV_e2, rk_cV_e3, rk_cV_e4, rk_cS_e1, rk_cS_e2, rk_cS_e3, rk_cS_e4, rk_mmin_e, rk_mmax_e, rk_mabs_e, rk_cpy_e, rk_cut_e, rk_kont_i, rk_kont_j, rk_kont_n, rk_ent_0, rk_ent_i, rk_ent_r, rk_ent_j, List.getElem?_cons_zero, List.getElem?_cons_succ, rk_st_0, rk_st_1i, rk_st_1r, rk_st_1n, rk_st_1j, rk_st_ss, rk_st2_0, rk_st2_1i, rk_st2_1r, rk_st2_1n, rk_st2_1j, rk_st2_ss, List.nil_append, List.cons_append, rk_sml, rk_cat_i, rk_cat_j, rk_cat_r, true_and, and_true, List.length_cons, List.length_nil, Nat.reduceLeDiff, Nat.reduceAdd, Nat.reduceSub, Nat.zero_le, List.reduceReplicate, List.map_nil, List.map_cons, List.sum_nil, List.sum_cons, true_or, or_true, rk_row_ob, rk_row_rf, rk_itm_kd, rk_itm_ln, rk_le_lt, Classical.not_not, not_true_eq_false, not_false_eq_true, rk_f_imp, rk_t_imp, rk_10, rk_01, rk_ob_0, rk_ob_1, rk_ob_2, rk_kd_2, rk_ln_2, rk_ob_3, rk_kd_3, rk_ln_3, rk_ob_4, rk_kd_4, rk_ln_4, rk_ob_5, rk_kd_5, rk_ln_5, rk_ob_6, rk_kd_6, rk_ln_6, rk_ob_7, rk_kd_7, rk_ln_7, rk_ob_8, rk_kd_8, rk_ln_8, rk_ob_9, rk_kd_9, rk_ln_9, rk_ob_10, rk_ob_11, rk_kd_11, rk_ln_11, rk_ob_12, rk_kd_12, rk_ln_12, rk_ob_13, rk_kd_13, rk_ln_13, rk_ob_14, rk_kd_14, rk_ln_14, rk_ob_15, rk_kd_15, rk_ln_15, rk_ob_16, rk_ob_17, rk_kd_17, rk_ln_17, rk_ob_18, rk_kd_18, rk_ln_18, rk_ob_19, rk_kd_19, rk_ln_19, rk_ob_20, rk_kd_20, rk_ln_20, rk_ob_21, rk_kd_21, rk_ln_21, rk_ob_22, rk_kd_22, rk_ln_22, rk_ob_23, rk_kd_23, rk_ln_23, rk_ob_24, rk_kd_24, rk_ln_24, rk_ob_25, rk_kd_25, rk_ln_25, rk_ob_26, rk_kd_26, rk_ln_26, rk_ob_27, rk_kd_27, rk_ln_27, rk_ob_28, rk_kd_28, rk_ln_28, rk_ob_29, rk_ob_30, rk_kd_30, rk_ln_30, rk_ob_31, rk_kd_31, rk_ln_31, rk_ob_32, rk_ob_33, rk_kd_33, rk_ln_33, rk_ob_34, rk_ob_35, rk_kd_35, rk_ln_35, rk_ob_36, rk_ob_37, rk_kd_37, rk_ln_37, rk_ob_38, rk_ob_39, rk_kd_39, rk_ln_39, rk_ob_40, rk_ob_41, rk_kd_41, rk_ln_41, rk_ob_42, rk_ob_43, rk_kd_43, rk_ln_43, rk_ob_44, rk_kd_44, rk_ln_44, rk_ob_45, rk_kd_45, rk_ln_45, rk_ob_46, rk_kd_46, rk_ln_46, rk_ob_47, rk_kd_47, rk_ln_47, rk_ob_48, rk_kd_48, rk_ln_48, rk_ob_49, rk_kd_49, rk_ln_49, rk_ob_50, rk_kd_50, rk_ln_50, rk_ob_51, rk_kd_51, rk_ln_51, rk_ob_52, rk_kd_52, rk_ln_52, rk_ob_53, rk_kd_53, rk_ln_53, rk_ob_54, rk_kd_54, rk_ln_54, rk_ob_55, rk_kd_55, rk_ln_55, rk_ob_56, rk_kd_56, rk_ln_56, rk_ob_57, rk_kd_57, rk_ln_57, rk_ob_58, rk_kd_58, rk_ln_58, rk_ob_59, rk_kd_59, rk_ln_59, rk_ob_60, rk_kd_60, rk_ln_60, rk_ob_61, rk_kd_61, rk_ln_61, rk_ob_62, rk_kd_62, rk_ln_62, rk_ob_63, rk_kd_63, rk_ln_63, rk_ob_64, rk_kd_64, rk_ln_64, rk_rf_0_0, rk_rf_0_1, rk_rf_0_2, rk_rf_0_3, rk_rf_0_4, rk_rf_0_5, rk_rf_1_0, rk_rf_1_1, rk_rf_1_2, rk_rf_1_3, rk_rf_1_4, rk_rf_1_5, rk_rf_1_6, rk_rf_1_9, rk_rf_10_1, rk_rf_10_2, rk_rf_10_3, rk_rf_10_4, rk_rf_10_5, rk_rf_10_6, rk_rf_16_0, rk_rf_16_1, rk_rf_16_2, rk_rf_16_3, rk_rf_16_4, rk_rf_16_5, rk_rf_16_6, rk_rf_16_7, rk_rf_16_8, rk_rf_16_9, rk_rf_16_10, rk_rf_16_13, rk_rf_16_14, rk_rf_16_15, rk_rf_29_0, rk_rf_29_1, rk_rf_29_2, rk_rf_32_0, rk_rf_34_0, rk_rf_36_0, rk_rf_38_0, rk_rf_40_0, rk_rf_42_1, rk_rf_42_2, rk_rf_42_4, rk_rf_42_5, rk_rf_42_6, rk_rf_42_8, rk_rf_42_9, rk_rf_42_12, rk_rf_42_13, rk_rf_42_14, rk_rf_42_15, rk_rf_42_16, rk_rf_42_17, rk_rf_42_20, rk_rf_42_21, rk_rf_42_22, rk_rf_42_23, rk_rf_42_27, rk_rf_42_28, rk_rf_42_29, rk_rf_42_30, rk_rf_42_31]
  exact m_many_loop k 24 0 (by omega)
end Many
