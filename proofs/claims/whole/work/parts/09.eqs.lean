section RK9
variable {K K' K0 K1 : rk_K} {R : rk_R} {ls st r : List Value} {σ : rk_M}
theorem rk_ci_e {v : Int32} : rk_ci v K ls st σ = K ls (.int v :: st) σ := rfl
theorem rk_cj_e {v : Int64} : rk_cj v K ls st σ = K ls (.long v :: st) σ := rfl
theorem rk_iload_e {i : Nat} : rk_iload i K ls st σ = (match ls[i]? with
  | some (.int x) => K ls (.int x :: st) σ
  | _ => False) := rfl
theorem rk_lload_e {i : Nat} : rk_lload i K ls st σ = (match ls[i]? with
  | some (.long x) => K ls (.long x :: st) σ
  | _ => False) := rfl
theorem rk_aload_e {i : Nat} : rk_aload i K ls st σ = (match ls[i]? with
  | some (.ref x) => K ls (.ref x :: st) σ
  | _ => False) := rfl
theorem rk_istore_e {i : Nat} {x : Int32} : rk_istore i K ls (.int x :: r) σ = K (rk_st ls i (.int x)) r σ := rfl
theorem rk_astore_e {i : Nat} {x : Nat} : rk_astore i K ls (.ref x :: r) σ = K (rk_st ls i (.ref x)) r σ := rfl
theorem rk_lstore_e {i : Nat} {x : Int64} : rk_lstore i K ls (.long x :: r) σ = K (rk_st2 ls i (.long x)) r σ := rfl
theorem rk_iinc_e {i : Nat} {v : Int32} : rk_iinc i v K ls st σ = (match ls[i]? with
  | some (.int x) => K (rk_st ls i (.int (x + v))) st σ
  | _ => False) := rfl
theorem rk_iadd_e {x y : Int32} : rk_iadd K ls (.int y :: .int x :: r) σ = K ls (.int (x + y) :: r) σ := rfl
theorem rk_isub_e {x y : Int32} : rk_isub K ls (.int y :: .int x :: r) σ = K ls (.int (x - y) :: r) σ := rfl
theorem rk_imul_e {x y : Int32} : rk_imul K ls (.int y :: .int x :: r) σ = K ls (.int (x * y) :: r) σ := rfl
theorem rk_iand_e {x y : Int32} : rk_iand K ls (.int y :: .int x :: r) σ = K ls (.int (x &&& y) :: r) σ := rfl
theorem rk_ior_e {x y : Int32} : rk_ior K ls (.int y :: .int x :: r) σ = K ls (.int (x ||| y) :: r) σ := rfl
theorem rk_ixor_e {x y : Int32} : rk_ixor K ls (.int y :: .int x :: r) σ = K ls (.int (x ^^^ y) :: r) σ := rfl
theorem rk_ladd_e {x y : Int64} : rk_ladd K ls (.long y :: .long x :: r) σ = K ls (.long (x + y) :: r) σ := rfl
theorem rk_lmul_e {x y : Int64} : rk_lmul K ls (.long y :: .long x :: r) σ = K ls (.long (x * y) :: r) σ := rfl
theorem rk_lsub_e {x y : Int64} : rk_lsub K ls (.long y :: .long x :: r) σ = K ls (.long (x - y) :: r) σ := rfl
theorem rk_ishl_e {x y : Int32} : rk_ishl K ls (.int y :: .int x :: r) σ = K ls (.int (x <<< (y &&& 31)) :: r) σ := rfl
theorem rk_ishr_e {x y : Int32} : rk_ishr K ls (.int y :: .int x :: r) σ = K ls (.int (x >>> (y &&& 31)) :: r) σ := rfl
theorem rk_iushr_e {x y : Int32} : rk_iushr K ls (.int y :: .int x :: r) σ = K ls (.int ((x.toUInt32 >>> (y.toUInt32 &&& Int32.toUInt32 31)).toInt32) :: r) σ := rfl
theorem rk_lcmp_e {x y : Int64} : rk_lcmp K ls (.long y :: .long x :: r) σ = K ls (.int (lg_cmp x y) :: r) σ := rfl
theorem rk_ineg_e {x : Int32} : rk_ineg K ls (.int x :: r) σ = K ls (.int (-x) :: r) σ := rfl
theorem rk_i2l_e {x : Int32} : rk_i2l K ls (.int x :: r) σ = K ls (.long (x.toInt64) :: r) σ := rfl
theorem rk_i2b_e {x : Int32} : rk_i2b K ls (.int x :: r) σ = K ls (.int (x.toInt8.toInt32) :: r) σ := rfl
theorem rk_i2s_e {x : Int32} : rk_i2s K ls (.int x :: r) σ = K ls (.int (x.toInt16.toInt32) :: r) σ := rfl
theorem rk_dup_e {v : Value} : rk_dup K ls (v :: r) σ = (v.category = 1 ∧ K ls (v :: v :: r) σ) := rfl
theorem rk_pop_e {v : Value} : rk_pop K ls (v :: r) σ = (v.category = 1 ∧ K ls r σ) := rfl
theorem rk_dup2_e {v w : Value} : rk_dup2 K ls (v :: w :: r) σ = ((v.category = 1 ∧ w.category = 1) ∧ K ls (v :: w :: v :: w :: r) σ) := rfl
theorem rk_if_eq_e {x : Int32} : rk_if_eq K K' ls (.int x :: r) σ = ((x = 0 → K ls r σ) ∧ (¬ (x = 0) → K' ls r σ)) := rfl
theorem rk_icmp_eq_e {x y : Int32} : rk_icmp_eq K K' ls (.int y :: .int x :: r) σ = ((x = y → K ls r σ) ∧ (¬ (x = y) → K' ls r σ)) := rfl
theorem rk_if_ne_e {x : Int32} : rk_if_ne K K' ls (.int x :: r) σ = ((¬ x = 0 → K ls r σ) ∧ (x = 0 → K' ls r σ)) := rfl
theorem rk_icmp_ne_e {x y : Int32} : rk_icmp_ne K K' ls (.int y :: .int x :: r) σ = ((¬ x = y → K ls r σ) ∧ (x = y → K' ls r σ)) := rfl
theorem rk_if_lt_e {x : Int32} : rk_if_lt K K' ls (.int x :: r) σ = ((x < 0 → K ls r σ) ∧ (¬ (x < 0) → K' ls r σ)) := rfl
theorem rk_icmp_lt_e {x y : Int32} : rk_icmp_lt K K' ls (.int y :: .int x :: r) σ = ((x < y → K ls r σ) ∧ (¬ (x < y) → K' ls r σ)) := rfl
theorem rk_if_ge_e {x : Int32} : rk_if_ge K K' ls (.int x :: r) σ = ((0 ≤ x → K ls r σ) ∧ (¬ (0 ≤ x) → K' ls r σ)) := rfl
theorem rk_icmp_ge_e {x y : Int32} : rk_icmp_ge K K' ls (.int y :: .int x :: r) σ = ((y ≤ x → K ls r σ) ∧ (¬ (y ≤ x) → K' ls r σ)) := rfl
theorem rk_if_gt_e {x : Int32} : rk_if_gt K K' ls (.int x :: r) σ = ((0 < x → K ls r σ) ∧ (¬ (0 < x) → K' ls r σ)) := rfl
theorem rk_icmp_gt_e {x y : Int32} : rk_icmp_gt K K' ls (.int y :: .int x :: r) σ = ((y < x → K ls r σ) ∧ (¬ (y < x) → K' ls r σ)) := rfl
theorem rk_if_le_e {x : Int32} : rk_if_le K K' ls (.int x :: r) σ = ((x ≤ 0 → K ls r σ) ∧ (¬ (x ≤ 0) → K' ls r σ)) := rfl
theorem rk_icmp_le_e {x y : Int32} : rk_icmp_le K K' ls (.int y :: .int x :: r) σ = ((x ≤ y → K ls r σ) ∧ (¬ (x ≤ y) → K' ls r σ)) := rfl
theorem rk_sw_e {lo : Int} {Ks : List rk_K} {x : Int32} : rk_sw lo Ks K' ls (.int x :: r) σ = ((∀ (j : Nat) (K : rk_K), Ks[j]? = some K → x.toInt = lo + j → K ls r σ) ∧ ((x.toInt < lo ∨ lo + Ks.length ≤ x.toInt) → K' ls r σ)) := rfl
theorem rk_sw01_e {x : Int32} : rk_sw01 K0 K1 K' ls (.int x :: r) σ = ((x = 0 → K0 ls r σ) ∧ (x = 1 → K1 ls r σ) ∧ (¬ x = 0 → ¬ x = 1 → K' ls r σ)) := rfl
theorem rk_iret_e {v : Int32} : rk_iret R ls [.int v] σ = R (some (.int v)) σ := rfl
theorem rk_zret_e {v : Int32} : rk_zret R ls [.int v] σ = ((v = 0 ∨ v = 1) ∧ R (some (.int v)) σ) := rfl
theorem rk_lret_e {v : Int64} : rk_lret R ls [.long v] σ = R (some (.long v)) σ := rfl
theorem rk_vret_e : rk_vret R ls [] σ = R none σ := rfl
theorem rk_gI_e {ci k c : Nat} : rk_gI ci k K ls (.ref c :: r) σ = (rk_ob c = ci + 1 ∧ K ls (.int (σ.1 c k) :: r) σ) := rfl
theorem rk_gJ_e {ci k c : Nat} : rk_gJ ci k K ls (.ref c :: r) σ = (rk_ob c = ci + 1 ∧ K ls (.long (σ.2 c k) :: r) σ) := rfl
theorem rk_gR_e {ci k c : Nat} : rk_gR ci k K ls (.ref c :: r) σ = (rk_ob c = ci + 1 ∧ K ls (.ref (rk_rf c k) :: r) σ) := rfl
theorem rk_pI_e {ci k c : Nat} {v : Int32} : rk_pI ci k K ls (.int v :: .ref c :: r) σ = (rk_ob c = ci + 1 ∧ K ls r (rk_mi σ c k v)) := rfl
theorem rk_pJ_e {ci k c : Nat} {v : Int64} : rk_pJ ci k K ls (.long v :: .ref c :: r) σ = (rk_ob c = ci + 1 ∧ K ls r (rk_ml σ c k v)) := rfl
theorem rk_iald_e {i : Int32} {c : Nat} : rk_iald K ls (.int i :: .ref c :: r) σ = ((rk_kd c = 1 ∧ vp_in i (rk_ln c)) ∧ K ls (.int (σ.1 c i.toNatClampNeg) :: r) σ) := rfl
theorem rk_zald_e {i : Int32} {c : Nat} : rk_zald K ls (.int i :: .ref c :: r) σ = ((rk_kd c = 2 ∧ vp_in i (rk_ln c)) ∧ K ls (.int (σ.1 c i.toNatClampNeg) :: r) σ) := rfl
theorem rk_aald_e {i : Int32} {c : Nat} : rk_aald K ls (.int i :: .ref c :: r) σ = ((rk_kd c = 3 ∧ vp_in i 4) ∧ K ls (.ref (rk_row i.toNatClampNeg) :: r) σ) := rfl
theorem rk_alen_e {c : Nat} : rk_alen K ls (.ref c :: r) σ = (rk_kd c = 1 ∧ K ls (.int (Int32.ofNat (rk_ln c)) :: r) σ) := rfl
theorem rk_iast_e {x i : Int32} {c : Nat} : rk_iast K ls (.int x :: .int i :: .ref c :: r) σ = ((rk_kd c = 1 ∧ vp_in i (rk_ln c)) ∧ K ls r (rk_mi σ c i.toNatClampNeg x)) := rfl
theorem rk_zast_e {x i : Int32} {c : Nat} : rk_zast K ls (.int x :: .int i :: .ref c :: r) σ = ((rk_kd c = 2 ∧ vp_in i (rk_ln c)) ∧ K ls r (rk_mi σ c i.toNatClampNeg (vp_nar .boolean x))) := rfl
theorem rk_cV_e0 {g : rk_G} {ci maxL h c : Nat} {y : MethodName} {bytes : ByteArray} {ret : Option FieldType} : rk_cV g 0 ci y bytes maxL ret h K ls (.ref c :: r) σ = ((rk_ob c = ci + 1 ∧ rk_small r ∧ 0 ≤ (Value.ref c :: r).length) ∧ rk_does g y bytes maxL ret h [.ref c] σ (rk_kont K ls r)) := rfl
theorem rk_cV_e1 {g : rk_G} {ci maxL h c : Nat} {y : MethodName} {bytes : ByteArray} {ret : Option FieldType} {v1 : Value} : rk_cV g 1 ci y bytes maxL ret h K ls (v1 :: .ref c :: r) σ = ((rk_ob c = ci + 1 ∧ rk_small r ∧ 1 ≤ (v1 :: Value.ref c :: r).length) ∧ rk_does g y bytes maxL ret h [.ref c, v1] σ (rk_kont K ls r)) := rfl
theorem rk_cV_e2 {g : rk_G} {ci maxL h c : Nat} {y : MethodName} {bytes : ByteArray} {ret : Option FieldType} {v1 v2 : Value} : rk_cV g 2 ci y bytes maxL ret h K ls (v2 :: v1 :: .ref c :: r) σ = ((rk_ob c = ci + 1 ∧ rk_small r ∧ 2 ≤ (v2 :: v1 :: Value.ref c :: r).length) ∧ rk_does g y bytes maxL ret h [.ref c, v1, v2] σ (rk_kont K ls r)) := rfl
theorem rk_cV_e3 {g : rk_G} {ci maxL h c : Nat} {y : MethodName} {bytes : ByteArray} {ret : Option FieldType} {v1 v2 v3 : Value} : rk_cV g 3 ci y bytes maxL ret h K ls (v3 :: v2 :: v1 :: .ref c :: r) σ = ((rk_ob c = ci + 1 ∧ rk_small r ∧ 3 ≤ (v3 :: v2 :: v1 :: Value.ref c :: r).length) ∧ rk_does g y bytes maxL ret h [.ref c, v1, v2, v3] σ (rk_kont K ls r)) := rfl
theorem rk_cV_e4 {g : rk_G} {ci maxL h c : Nat} {y : MethodName} {bytes : ByteArray} {ret : Option FieldType} {v1 v2 v3 v4 : Value} : rk_cV g 4 ci y bytes maxL ret h K ls (v4 :: v3 :: v2 :: v1 :: .ref c :: r) σ = ((rk_ob c = ci + 1 ∧ rk_small r ∧ 4 ≤ (v4 :: v3 :: v2 :: v1 :: Value.ref c :: r).length) ∧ rk_does g y bytes maxL ret h [.ref c, v1, v2, v3, v4] σ (rk_kont K ls r)) := rfl
theorem rk_cS_e1 {g : rk_G} {maxL h : Nat} {y : MethodName} {bytes : ByteArray} {ret : Option FieldType} {v1 : Value} : rk_cS g 1 y bytes maxL ret h K ls (v1 :: r) σ = ((rk_small r ∧ 1 ≤ (v1 :: r).length) ∧ rk_does g y bytes maxL ret h [v1] σ (rk_kont K ls r)) := rfl
theorem rk_cS_e2 {g : rk_G} {maxL h : Nat} {y : MethodName} {bytes : ByteArray} {ret : Option FieldType} {v1 v2 : Value} : rk_cS g 2 y bytes maxL ret h K ls (v2 :: v1 :: r) σ = ((rk_small r ∧ 2 ≤ (v2 :: v1 :: r).length) ∧ rk_does g y bytes maxL ret h [v1, v2] σ (rk_kont K ls r)) := rfl
theorem rk_cS_e3 {g : rk_G} {maxL h : Nat} {y : MethodName} {bytes : ByteArray} {ret : Option FieldType} {v1 v2 v3 : Value} : rk_cS g 3 y bytes maxL ret h K ls (v3 :: v2 :: v1 :: r) σ = ((rk_small r ∧ 3 ≤ (v3 :: v2 :: v1 :: r).length) ∧ rk_does g y bytes maxL ret h [v1, v2, v3] σ (rk_kont K ls r)) := rfl
theorem rk_cS_e4 {g : rk_G} {maxL h : Nat} {y : MethodName} {bytes : ByteArray} {ret : Option FieldType} {v1 v2 v3 v4 : Value} : rk_cS g 4 y bytes maxL ret h K ls (v4 :: v3 :: v2 :: v1 :: r) σ = ((rk_small r ∧ 4 ≤ (v4 :: v3 :: v2 :: v1 :: r).length) ∧ rk_does g y bytes maxL ret h [v1, v2, v3, v4] σ (rk_kont K ls r)) := rfl
theorem rk_mmin_e {x y : Int32} : rk_mmin K ls (.int y :: .int x :: r) σ = (rk_small r ∧ K ls (.int (if y < x then y else x) :: r) σ) := rfl
theorem rk_mmax_e {x y : Int32} : rk_mmax K ls (.int y :: .int x :: r) σ = (rk_small r ∧ K ls (.int (if x < y then y else x) :: r) σ) := rfl
theorem rk_mabs_e {x : Int32} : rk_mabs K ls (.int x :: r) σ = (rk_small r ∧ K ls (.int (if 0 ≤ x then x else 0 - x) :: r) σ) := rfl
theorem rk_cpy_e {n dp sp : Int32} {c0 c1 : Nat} : rk_cpy K ls (.int n :: .int dp :: .ref c1 :: .int sp :: .ref c0 :: r) σ = ((rk_kd c0 = 1 ∧ rk_kd c1 = 1 ∧ ¬ sp < 0 ∧ ¬ dp < 0 ∧ ¬ n < 0 ∧ sp.toNatClampNeg + n.toNatClampNeg ≤ rk_ln c0 ∧ dp.toNatClampNeg + n.toNatClampNeg ≤ rk_ln c1 ∧ rk_small r) ∧ K ls r (rk_mf σ c1 (va_cpy (σ.1 c0) (σ.1 c1) sp.toNatClampNeg dp.toNatClampNeg n.toNatClampNeg))) := rfl
theorem rk_cut_e {g : rk_G} {cc : ByteArray} {nL h pc : Nat} {ret : Option FieldType} {own : String} : rk_cut g cc nL ret own h R pc ls st σ = rk_At g cc nL ret own h R pc ls st σ := rfl
theorem rk_kont_i {x : Int32} : rk_kont K ls r (some (.int x)) σ = K ls (.int x :: r) σ := by unfold rk_kont; simp
theorem rk_kont_j {x : Int64} : rk_kont K ls r (some (.long x)) σ = K ls (.long x :: r) σ := by unfold rk_kont; simp
theorem rk_kont_n : rk_kont K ls r none σ = K ls r σ := by unfold rk_kont; simp
theorem rk_ent_0 : rk_ent [] = [] := rfl
theorem rk_ent_i {x : Int32} {vs : List Value} : rk_ent (.int x :: vs) = .int x :: rk_ent vs := rfl
theorem rk_ent_r {x : Nat} {vs : List Value} : rk_ent (.ref x :: vs) = .ref x :: rk_ent vs := rfl
theorem rk_ent_j {x : Int64} {vs : List Value} : rk_ent (.long x :: vs) = .long x :: .null :: rk_ent vs := rfl
end RK9
