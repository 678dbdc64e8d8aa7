section RK5
variable {g : rk_G} {cc : ByteArray} {nL : Nat} {ret : Option FieldType} {own : String} {h : Nat} {R : rk_R} {pc pc' : Nat} {K K' : rk_K}
/-- a place further on -/
def rk_cut (g : rk_G) (cc : ByteArray) (nL : Nat) (ret : Option FieldType) (own : String) (h : Nat) (R : rk_R) (pc : Nat) : rk_K := fun ls st σ => rk_At g cc nL ret own h R pc ls st σ
theorem rk_cut_ok : rk_AK g cc nL ret own h R pc (rk_cut g cc nL ret own h R pc) := fun _ _ _ q => q
def rk_ci (v : Int32) (K : rk_K) : rk_K := fun ls st σ => K ls (.int v :: st) σ
def rk_cj (v : Int64) (K : rk_K) : rk_K := fun ls st σ => K ls (.long v :: st) σ
theorem rk_iconst_ok {n : Int} {v : Int32} (hd : decode cc pc = .ok (.iconst n, 1)) (hv : Int32.ofInt n = v) (k : rk_AK g cc nL ret own h R (pc + 1) K) : rk_AK g cc nL ret own h R pc (rk_ci v K) := by
  intro ls st σ hK p e s m args below meth c A H locs lsA X hl hP hD hS
  exact lv_iconst X.1 X.2.1 hd hv (k _ _ _ hK p e s m args below meth c A H locs lsA X hl hP hD hS)
theorem rk_bipush_ok {n : Int} {v : Int32} (hd : decode cc pc = .ok (.bipush n, 2)) (hv : (Int8.ofInt n).toInt32 = v) (k : rk_AK g cc nL ret own h R (pc + 2) K) : rk_AK g cc nL ret own h R pc (rk_ci v K) := by
  intro ls st σ hK p e s m args below meth c A H locs lsA X hl hP hD hS
  exact lv_bipush X.1 X.2.1 hd hv (k _ _ _ hK p e s m args below meth c A H locs lsA X hl hP hD hS)
theorem rk_sipush_ok {n : Int} {v : Int32} (hd : decode cc pc = .ok (.sipush n, 3)) (hv : (Int16.ofInt n).toInt32 = v) (k : rk_AK g cc nL ret own h R (pc + 3) K) : rk_AK g cc nL ret own h R pc (rk_ci v K) := by
  intro ls st σ hK p e s m args below meth c A H locs lsA X hl hP hD hS
  exact lv_sipush X.1 X.2.1 hd hv (k _ _ _ hK p e s m args below meth c A H locs lsA X hl hP hD hS)
theorem rk_lconst_ok {n : Fin 2} {v : Int64} (hd : decode cc pc = .ok (.lconst n, 1)) (hv : Int64.ofNat (n : Nat) = v) (k : rk_AK g cc nL ret own h R (pc + 1) K) : rk_AK g cc nL ret own h R pc (rk_cj v K) := by
  intro ls st σ hK p e s m args below meth c A H locs lsA X hl hP hD hS
  exact lv_lconst X.1 X.2.1 hd hv (k _ _ _ hK p e s m args below meth c A H locs lsA X hl hP hD hS)
theorem rk_ldc_ok {i : Nat} {v : Int32} (hd : decode cc pc = .ok (.ldc i, 2)) (hw : Cond.constant own i v ∈ rk_T) (k : rk_AK g cc nL ret own h R (pc + 2) K) : rk_AK g cc nL ret own h R pc (rk_ci v K) := by
  intro ls st σ hK p e s m args below meth c A H locs lsA X hl hP hD hS
  exact lv_ldc X.1 X.2.1 X.2.2.2.2.2.1 (X.2.2.2.2.2.2.1 _ hw) hd (k _ _ _ hK p e s m args below meth c A H locs lsA X hl hP hD hS)
theorem rk_ldcw_ok {i : Nat} {v : Int32} (hd : decode cc pc = .ok (.ldc_w i, 3)) (hw : Cond.constant own i v ∈ rk_T) (k : rk_AK g cc nL ret own h R (pc + 3) K) : rk_AK g cc nL ret own h R pc (rk_ci v K) := by
  intro ls st σ hK p e s m args below meth c A H locs lsA X hl hP hD hS
  exact lv_ldcw X.1 X.2.1 X.2.2.2.2.2.1 (X.2.2.2.2.2.2.1 _ hw) hd (k _ _ _ hK p e s m args below meth c A H locs lsA X hl hP hD hS)
theorem rk_ldc2_ok {i : Nat} {v : Int64} (hd : decode cc pc = .ok (.ldc2_w i, 3)) (hw : Cond.constantLong own i v ∈ rk_T) (k : rk_AK g cc nL ret own h R (pc + 3) K) : rk_AK g cc nL ret own h R pc (rk_cj v K) := by
  intro ls st σ hK p e s m args below meth c A H locs lsA X hl hP hD hS
  exact lv_ldc2 X.1 X.2.1 X.2.2.2.2.2.1 (X.2.2.2.2.2.2.1 _ hw) hd (k _ _ _ hK p e s m args below meth c A H locs lsA X hl hP hD hS)
def rk_iload (i : Nat) (K : rk_K) : rk_K := fun ls st σ => match ls[i]? with
  | some (.int x) => K ls (.int x :: st) σ
  | _ => False
theorem rk_iload_n_ok {i : Nat} {k4 : Fin 4} (hd : decode cc pc = .ok (.iload_n k4, 1)) (hi : (k4 : Nat) = i) (k : rk_AK g cc nL ret own h R (pc + 1) K) : rk_AK g cc nL ret own h R pc (rk_iload i K) := by
  intro ls st σ hK p e s m args below meth c A H locs lsA X hl hP hD hS
  unfold rk_iload at hK
  split at hK
  · rename_i x hx
    exact lv_iload_n X.1 X.2.1 hd hi (rk_lv_at hl hx (fun z => by cases z)) (k _ _ _ hK p e s m args below meth c A H locs lsA X hl hP hD hS)
  · exact hK.elim
theorem rk_iload_ok {i : Nat} (hd : decode cc pc = .ok (.iload i, 2)) (k : rk_AK g cc nL ret own h R (pc + 2) K) : rk_AK g cc nL ret own h R pc (rk_iload i K) := by
  intro ls st σ hK p e s m args below meth c A H locs lsA X hl hP hD hS
  unfold rk_iload at hK
  split at hK
  · rename_i x hx
    exact lv_iload X.1 X.2.1 hd (rk_lv_at hl hx (fun z => by cases z)) (k _ _ _ hK p e s m args below meth c A H locs lsA X hl hP hD hS)
  · exact hK.elim
def rk_lload (i : Nat) (K : rk_K) : rk_K := fun ls st σ => match ls[i]? with
  | some (.long x) => K ls (.long x :: st) σ
  | _ => False
theorem rk_lload_n_ok {i : Nat} {k4 : Fin 4} (hd : decode cc pc = .ok (.lload_n k4, 1)) (hi : (k4 : Nat) = i) (k : rk_AK g cc nL ret own h R (pc + 1) K) : rk_AK g cc nL ret own h R pc (rk_lload i K) := by
  intro ls st σ hK p e s m args below meth c A H locs lsA X hl hP hD hS
  unfold rk_lload at hK
  split at hK
  · rename_i x hx
    exact lv_lload_n X.1 X.2.1 hd hi (rk_lv_at hl hx (fun z => by cases z)) (k _ _ _ hK p e s m args below meth c A H locs lsA X hl hP hD hS)
  · exact hK.elim
theorem rk_lload_ok {i : Nat} (hd : decode cc pc = .ok (.lload i, 2)) (k : rk_AK g cc nL ret own h R (pc + 2) K) : rk_AK g cc nL ret own h R pc (rk_lload i K) := by
  intro ls st σ hK p e s m args below meth c A H locs lsA X hl hP hD hS
  unfold rk_lload at hK
  split at hK
  · rename_i x hx
    exact lv_lload X.1 X.2.1 hd (rk_lv_at hl hx (fun z => by cases z)) (k _ _ _ hK p e s m args below meth c A H locs lsA X hl hP hD hS)
  · exact hK.elim
def rk_aload (i : Nat) (K : rk_K) : rk_K := fun ls st σ => match ls[i]? with
  | some (.ref x) => K ls (.ref x :: st) σ
  | _ => False
theorem rk_aload_n_ok {i : Nat} {k4 : Fin 4} (hd : decode cc pc = .ok (.aload_n k4, 1)) (hi : (k4 : Nat) = i) (k : rk_AK g cc nL ret own h R (pc + 1) K) : rk_AK g cc nL ret own h R pc (rk_aload i K) := by
  intro ls st σ hK p e s m args below meth c A H locs lsA X hl hP hD hS
  unfold rk_aload at hK
  split at hK
  · rename_i x hx
    exact lv_aload_n X.1 X.2.1 hd hi (rk_lv_at hl hx (fun z => by cases z)) (k _ _ _ hK p e s m args below meth c A H locs lsA X hl hP hD hS)
  · exact hK.elim
theorem rk_aload_ok {i : Nat} (hd : decode cc pc = .ok (.aload i, 2)) (k : rk_AK g cc nL ret own h R (pc + 2) K) : rk_AK g cc nL ret own h R pc (rk_aload i K) := by
  intro ls st σ hK p e s m args below meth c A H locs lsA X hl hP hD hS
  unfold rk_aload at hK
  split at hK
  · rename_i x hx
    exact lv_aload X.1 X.2.1 hd (rk_lv_at hl hx (fun z => by cases z)) (k _ _ _ hK p e s m args below meth c A H locs lsA X hl hP hD hS)
  · exact hK.elim
def rk_istore (i : Nat) (K : rk_K) : rk_K := fun ls st σ => match st with
  | .int x :: r => K (rk_st ls i (.int x)) r σ
  | _ => False
theorem rk_istore_n_ok {i : Nat} {k4 : Fin 4} (hd : decode cc pc = .ok (.istore_n k4, 1)) (hi : (k4 : Nat) = i) (hn : i < nL) (k : rk_AK g cc nL ret own h R (pc + 1) K) : rk_AK g cc nL ret own h R pc (rk_istore i K) := by
  intro ls st σ hK p e s m args below meth c A H locs lsA X hl hP hD hS
  unfold rk_istore at hK
  split at hK
  · exact lv_istore_n X.1 X.2.1 hd hi hl hn rfl (fun lsB hlB => k _ _ _ hK p e s m args below meth c A H locs lsB X (rk_has_mono hlB rk_st_sub) hP hD hS)
  · exact hK.elim
theorem rk_istore_ok {i : Nat} (hd : decode cc pc = .ok (.istore i, 2)) (hn : i < nL) (k : rk_AK g cc nL ret own h R (pc + 2) K) : rk_AK g cc nL ret own h R pc (rk_istore i K) := by
  intro ls st σ hK p e s m args below meth c A H locs lsA X hl hP hD hS
  unfold rk_istore at hK
  split at hK
  · exact lv_istore X.1 X.2.1 hd hl hn rfl (fun lsB hlB => k _ _ _ hK p e s m args below meth c A H locs lsB X (rk_has_mono hlB rk_st_sub) hP hD hS)
  · exact hK.elim
def rk_astore (i : Nat) (K : rk_K) : rk_K := fun ls st σ => match st with
  | .ref x :: r => K (rk_st ls i (.ref x)) r σ
  | _ => False
theorem rk_astore_n_ok {i : Nat} {k4 : Fin 4} (hd : decode cc pc = .ok (.astore_n k4, 1)) (hi : (k4 : Nat) = i) (hn : i < nL) (k : rk_AK g cc nL ret own h R (pc + 1) K) : rk_AK g cc nL ret own h R pc (rk_astore i K) := by
  intro ls st σ hK p e s m args below meth c A H locs lsA X hl hP hD hS
  unfold rk_astore at hK
  split at hK
  · exact lv_astore_n X.1 X.2.1 hd hi hl hn rfl (fun lsB hlB => k _ _ _ hK p e s m args below meth c A H locs lsB X (rk_has_mono hlB rk_st_sub) hP hD hS)
  · exact hK.elim
theorem rk_astore_ok {i : Nat} (hd : decode cc pc = .ok (.astore i, 2)) (hn : i < nL) (k : rk_AK g cc nL ret own h R (pc + 2) K) : rk_AK g cc nL ret own h R pc (rk_astore i K) := by
  intro ls st σ hK p e s m args below meth c A H locs lsA X hl hP hD hS
  unfold rk_astore at hK
  split at hK
  · exact lv_astore X.1 X.2.1 hd hl hn rfl (fun lsB hlB => k _ _ _ hK p e s m args below meth c A H locs lsB X (rk_has_mono hlB rk_st_sub) hP hD hS)
  · exact hK.elim
def rk_lstore (i : Nat) (K : rk_K) : rk_K := fun ls st σ => match st with
  | .long x :: r => K (rk_st2 ls i (.long x)) r σ
  | _ => False
theorem rk_lstore_n_ok {i : Nat} {k4 : Fin 4} (hd : decode cc pc = .ok (.lstore_n k4, 1)) (hi : (k4 : Nat) = i) (hn : i + 1 < nL) (k : rk_AK g cc nL ret own h R (pc + 1) K) : rk_AK g cc nL ret own h R pc (rk_lstore i K) := by
  intro ls st σ hK p e s m args below meth c A H locs lsA X hl hP hD hS
  unfold rk_lstore at hK
  split at hK
  · exact lv_lstore_n X.1 X.2.1 hd hi hl hn rfl (fun lsB hlB => k _ _ _ hK p e s m args below meth c A H locs lsB X (rk_has_mono hlB rk_st2_sub) hP hD hS)
  · exact hK.elim
theorem rk_lstore_ok {i : Nat} (hd : decode cc pc = .ok (.lstore i, 2)) (hn : i + 1 < nL) (k : rk_AK g cc nL ret own h R (pc + 2) K) : rk_AK g cc nL ret own h R pc (rk_lstore i K) := by
  intro ls st σ hK p e s m args below meth c A H locs lsA X hl hP hD hS
  unfold rk_lstore at hK
  split at hK
  · exact lv_lstore X.1 X.2.1 hd hl hn rfl (fun lsB hlB => k _ _ _ hK p e s m args below meth c A H locs lsB X (rk_has_mono hlB rk_st2_sub) hP hD hS)
  · exact hK.elim
def rk_iinc (i : Nat) (v : Int32) (K : rk_K) : rk_K := fun ls st σ => match ls[i]? with
  | some (.int x) => K (rk_st ls i (.int (x + v))) st σ
  | _ => False
theorem rk_iinc_ok {i : Nat} {n : Int} {v : Int32} (hd : decode cc pc = .ok (.iinc i n, 3)) (hv : Int32.ofInt n = v) (hn : i < nL) (k : rk_AK g cc nL ret own h R (pc + 3) K) : rk_AK g cc nL ret own h R pc (rk_iinc i v K) := by
  intro ls st σ hK p e s m args below meth c A H locs lsA X hl hP hD hS
  unfold rk_iinc at hK
  split at hK
  · rename_i x hx
    obtain ⟨kq, hkq⟩ := List.getElem?_of_mem (rk_lv_mem.mpr ⟨_, hx, (fun z => by cases z), rfl⟩ : (i, rk_cv g.2.2.1 (.int x)) ∈ rk_lv g.2.2.1 ls)
    exact lv_iinc (v := x + v) X.1 X.2.1 hd hl hkq (by rw [hv]) hn rfl (fun lsB hlB => k _ _ _ hK p e s m args below meth c A H locs lsB X (rk_has_mono hlB rk_st_sub) hP hD hS)
  · exact hK.elim
def rk_iadd (K : rk_K) : rk_K := fun ls st σ => match st with
  | .int y :: .int x :: r => K ls (.int (x + y) :: r) σ
  | _ => False
theorem rk_iadd_ok (hd : decode cc pc = .ok (.iadd, 1)) (k : rk_AK g cc nL ret own h R (pc + 1) K) : rk_AK g cc nL ret own h R pc (rk_iadd K) := by
  intro ls st σ hK p e s m args below meth c A H locs lsA X hl hP hD hS
  unfold rk_iadd at hK
  split at hK
  · exact lv_iadd X.1 X.2.1 hd (k _ _ _ hK p e s m args below meth c A H locs lsA X hl hP hD hS)
  · exact hK.elim
def rk_isub (K : rk_K) : rk_K := fun ls st σ => match st with
  | .int y :: .int x :: r => K ls (.int (x - y) :: r) σ
  | _ => False
theorem rk_isub_ok (hd : decode cc pc = .ok (.isub, 1)) (k : rk_AK g cc nL ret own h R (pc + 1) K) : rk_AK g cc nL ret own h R pc (rk_isub K) := by
  intro ls st σ hK p e s m args below meth c A H locs lsA X hl hP hD hS
  unfold rk_isub at hK
  split at hK
  · exact lv_isub X.1 X.2.1 hd (k _ _ _ hK p e s m args below meth c A H locs lsA X hl hP hD hS)
  · exact hK.elim
def rk_imul (K : rk_K) : rk_K := fun ls st σ => match st with
  | .int y :: .int x :: r => K ls (.int (x * y) :: r) σ
  | _ => False
theorem rk_imul_ok (hd : decode cc pc = .ok (.imul, 1)) (k : rk_AK g cc nL ret own h R (pc + 1) K) : rk_AK g cc nL ret own h R pc (rk_imul K) := by
  intro ls st σ hK p e s m args below meth c A H locs lsA X hl hP hD hS
  unfold rk_imul at hK
  split at hK
  · exact lv_imul X.1 X.2.1 hd (k _ _ _ hK p e s m args below meth c A H locs lsA X hl hP hD hS)
  · exact hK.elim
def rk_iand (K : rk_K) : rk_K := fun ls st σ => match st with
  | .int y :: .int x :: r => K ls (.int (x &&& y) :: r) σ
  | _ => False
theorem rk_iand_ok (hd : decode cc pc = .ok (.iand, 1)) (k : rk_AK g cc nL ret own h R (pc + 1) K) : rk_AK g cc nL ret own h R pc (rk_iand K) := by
  intro ls st σ hK p e s m args below meth c A H locs lsA X hl hP hD hS
  unfold rk_iand at hK
  split at hK
  · exact lv_iand X.1 X.2.1 hd (k _ _ _ hK p e s m args below meth c A H locs lsA X hl hP hD hS)
  · exact hK.elim
def rk_ior (K : rk_K) : rk_K := fun ls st σ => match st with
  | .int y :: .int x :: r => K ls (.int (x ||| y) :: r) σ
  | _ => False
theorem rk_ior_ok (hd : decode cc pc = .ok (.ior, 1)) (k : rk_AK g cc nL ret own h R (pc + 1) K) : rk_AK g cc nL ret own h R pc (rk_ior K) := by
  intro ls st σ hK p e s m args below meth c A H locs lsA X hl hP hD hS
  unfold rk_ior at hK
  split at hK
  · exact lv_ior X.1 X.2.1 hd (k _ _ _ hK p e s m args below meth c A H locs lsA X hl hP hD hS)
  · exact hK.elim
def rk_ixor (K : rk_K) : rk_K := fun ls st σ => match st with
  | .int y :: .int x :: r => K ls (.int (x ^^^ y) :: r) σ
  | _ => False
theorem rk_ixor_ok (hd : decode cc pc = .ok (.ixor, 1)) (k : rk_AK g cc nL ret own h R (pc + 1) K) : rk_AK g cc nL ret own h R pc (rk_ixor K) := by
  intro ls st σ hK p e s m args below meth c A H locs lsA X hl hP hD hS
  unfold rk_ixor at hK
  split at hK
  · exact lv_ixor X.1 X.2.1 hd (k _ _ _ hK p e s m args below meth c A H locs lsA X hl hP hD hS)
  · exact hK.elim
def rk_ladd (K : rk_K) : rk_K := fun ls st σ => match st with
  | .long y :: .long x :: r => K ls (.long (x + y) :: r) σ
  | _ => False
theorem rk_ladd_ok (hd : decode cc pc = .ok (.ladd, 1)) (k : rk_AK g cc nL ret own h R (pc + 1) K) : rk_AK g cc nL ret own h R pc (rk_ladd K) := by
  intro ls st σ hK p e s m args below meth c A H locs lsA X hl hP hD hS
  unfold rk_ladd at hK
  split at hK
  · exact lv_ladd X.1 X.2.1 hd (k _ _ _ hK p e s m args below meth c A H locs lsA X hl hP hD hS)
  · exact hK.elim
def rk_lmul (K : rk_K) : rk_K := fun ls st σ => match st with
  | .long y :: .long x :: r => K ls (.long (x * y) :: r) σ
  | _ => False
theorem rk_lmul_ok (hd : decode cc pc = .ok (.lmul, 1)) (k : rk_AK g cc nL ret own h R (pc + 1) K) : rk_AK g cc nL ret own h R pc (rk_lmul K) := by
  intro ls st σ hK p e s m args below meth c A H locs lsA X hl hP hD hS
  unfold rk_lmul at hK
  split at hK
  · exact lv_lmul X.1 X.2.1 hd (k _ _ _ hK p e s m args below meth c A H locs lsA X hl hP hD hS)
  · exact hK.elim
def rk_lsub (K : rk_K) : rk_K := fun ls st σ => match st with
  | .long y :: .long x :: r => K ls (.long (x - y) :: r) σ
  | _ => False
theorem rk_lsub_ok (hd : decode cc pc = .ok (.lsub, 1)) (k : rk_AK g cc nL ret own h R (pc + 1) K) : rk_AK g cc nL ret own h R pc (rk_lsub K) := by
  intro ls st σ hK p e s m args below meth c A H locs lsA X hl hP hD hS
  unfold rk_lsub at hK
  split at hK
  · exact lv_lsub X.1 X.2.1 hd (k _ _ _ hK p e s m args below meth c A H locs lsA X hl hP hD hS)
  · exact hK.elim
def rk_ishl (K : rk_K) : rk_K := fun ls st σ => match st with
  | .int y :: .int x :: r => K ls (.int (x <<< (y &&& 31)) :: r) σ
  | _ => False
theorem rk_ishl_ok (hd : decode cc pc = .ok (.ishl, 1)) (k : rk_AK g cc nL ret own h R (pc + 1) K) : rk_AK g cc nL ret own h R pc (rk_ishl K) := by
  intro ls st σ hK p e s m args below meth c A H locs lsA X hl hP hD hS
  unfold rk_ishl at hK
  split at hK
  · exact lv_ishl X.1 X.2.1 hd (k _ _ _ hK p e s m args below meth c A H locs lsA X hl hP hD hS)
  · exact hK.elim
def rk_ishr (K : rk_K) : rk_K := fun ls st σ => match st with
  | .int y :: .int x :: r => K ls (.int (x >>> (y &&& 31)) :: r) σ
  | _ => False
theorem rk_ishr_ok (hd : decode cc pc = .ok (.ishr, 1)) (k : rk_AK g cc nL ret own h R (pc + 1) K) : rk_AK g cc nL ret own h R pc (rk_ishr K) := by
  intro ls st σ hK p e s m args below meth c A H locs lsA X hl hP hD hS
  unfold rk_ishr at hK
  split at hK
  · exact lv_ishr X.1 X.2.1 hd (k _ _ _ hK p e s m args below meth c A H locs lsA X hl hP hD hS)
  · exact hK.elim
def rk_iushr (K : rk_K) : rk_K := fun ls st σ => match st with
  | .int y :: .int x :: r => K ls (.int ((x.toUInt32 >>> (y.toUInt32 &&& Int32.toUInt32 31)).toInt32) :: r) σ
  | _ => False
theorem rk_iushr_ok (hd : decode cc pc = .ok (.iushr, 1)) (k : rk_AK g cc nL ret own h R (pc + 1) K) : rk_AK g cc nL ret own h R pc (rk_iushr K) := by
  intro ls st σ hK p e s m args below meth c A H locs lsA X hl hP hD hS
  unfold rk_iushr at hK
  split at hK
  · exact lv_iushr X.1 X.2.1 hd rfl (k _ _ _ hK p e s m args below meth c A H locs lsA X hl hP hD hS)
  · exact hK.elim
def rk_lcmp (K : rk_K) : rk_K := fun ls st σ => match st with
  | .long y :: .long x :: r => K ls (.int (lg_cmp x y) :: r) σ
  | _ => False
theorem rk_lcmp_ok (hd : decode cc pc = .ok (.lcmp, 1)) (k : rk_AK g cc nL ret own h R (pc + 1) K) : rk_AK g cc nL ret own h R pc (rk_lcmp K) := by
  intro ls st σ hK p e s m args below meth c A H locs lsA X hl hP hD hS
  unfold rk_lcmp at hK
  split at hK
  · exact W.lcmp X.1 X.2.1 hd (k _ _ _ hK p e s m args below meth c A H locs lsA X hl hP hD hS)
  · exact hK.elim
def rk_ineg (K : rk_K) : rk_K := fun ls st σ => match st with
  | .int x :: r => K ls (.int (-x) :: r) σ
  | _ => False
theorem rk_ineg_ok (hd : decode cc pc = .ok (.ineg, 1)) (k : rk_AK g cc nL ret own h R (pc + 1) K) : rk_AK g cc nL ret own h R pc (rk_ineg K) := by
  intro ls st σ hK p e s m args below meth c A H locs lsA X hl hP hD hS
  unfold rk_ineg at hK
  split at hK
  · exact lv_ineg X.1 X.2.1 hd (k _ _ _ hK p e s m args below meth c A H locs lsA X hl hP hD hS)
  · exact hK.elim
def rk_i2l (K : rk_K) : rk_K := fun ls st σ => match st with
  | .int x :: r => K ls (.long (x.toInt64) :: r) σ
  | _ => False
theorem rk_i2l_ok (hd : decode cc pc = .ok (.i2l, 1)) (k : rk_AK g cc nL ret own h R (pc + 1) K) : rk_AK g cc nL ret own h R pc (rk_i2l K) := by
  intro ls st σ hK p e s m args below meth c A H locs lsA X hl hP hD hS
  unfold rk_i2l at hK
  split at hK
  · exact lv_i2l X.1 X.2.1 hd rfl (k _ _ _ hK p e s m args below meth c A H locs lsA X hl hP hD hS)
  · exact hK.elim
def rk_i2b (K : rk_K) : rk_K := fun ls st σ => match st with
  | .int x :: r => K ls (.int (x.toInt8.toInt32) :: r) σ
  | _ => False
theorem rk_i2b_ok (hd : decode cc pc = .ok (.i2b, 1)) (k : rk_AK g cc nL ret own h R (pc + 1) K) : rk_AK g cc nL ret own h R pc (rk_i2b K) := by
  intro ls st σ hK p e s m args below meth c A H locs lsA X hl hP hD hS
  unfold rk_i2b at hK
  split at hK
  · exact lv_i2b X.1 X.2.1 hd rfl (k _ _ _ hK p e s m args below meth c A H locs lsA X hl hP hD hS)
  · exact hK.elim
def rk_i2s (K : rk_K) : rk_K := fun ls st σ => match st with
  | .int x :: r => K ls (.int (x.toInt16.toInt32) :: r) σ
  | _ => False
theorem rk_i2s_ok (hd : decode cc pc = .ok (.i2s, 1)) (k : rk_AK g cc nL ret own h R (pc + 1) K) : rk_AK g cc nL ret own h R pc (rk_i2s K) := by
  intro ls st σ hK p e s m args below meth c A H locs lsA X hl hP hD hS
  unfold rk_i2s at hK
  split at hK
  · exact lv_i2s X.1 X.2.1 hd rfl (k _ _ _ hK p e s m args below meth c A H locs lsA X hl hP hD hS)
  · exact hK.elim
def rk_dup (K : rk_K) : rk_K := fun ls st σ => match st with
  | v :: r => v.category = 1 ∧ K ls (v :: v :: r) σ
  | _ => False
theorem rk_dup_ok (hd : decode cc pc = .ok (.dup, 1)) (k : rk_AK g cc nL ret own h R (pc + 1) K) : rk_AK g cc nL ret own h R pc (rk_dup K) := by
  intro ls st σ hK p e s m args below meth c A H locs lsA X hl hP hD hS
  unfold rk_dup at hK
  split at hK
  · exact lv_dup X.1 X.2.1 hd (rk_cv_cat.trans hK.1) (k _ _ _ hK.2 p e s m args below meth c A H locs lsA X hl hP hD hS)
  · exact hK.elim
def rk_pop (K : rk_K) : rk_K := fun ls st σ => match st with
  | v :: r => v.category = 1 ∧ K ls r σ
  | _ => False
theorem rk_pop_ok (hd : decode cc pc = .ok (.pop, 1)) (k : rk_AK g cc nL ret own h R (pc + 1) K) : rk_AK g cc nL ret own h R pc (rk_pop K) := by
  intro ls st σ hK p e s m args below meth c A H locs lsA X hl hP hD hS
  unfold rk_pop at hK
  split at hK
  · exact lv_pop X.1 X.2.1 hd (rk_cv_cat.trans hK.1) (k _ _ _ hK.2 p e s m args below meth c A H locs lsA X hl hP hD hS)
  · exact hK.elim
def rk_dup2 (K : rk_K) : rk_K := fun ls st σ => match st with
  | v :: w :: r => (v.category = 1 ∧ w.category = 1) ∧ K ls (v :: w :: v :: w :: r) σ
  | _ => False
theorem rk_dup2_ok (hd : decode cc pc = .ok (.dup2, 1)) (k : rk_AK g cc nL ret own h R (pc + 1) K) : rk_AK g cc nL ret own h R pc (rk_dup2 K) := by
  intro ls st σ hK p e s m args below meth c A H locs lsA X hl hP hD hS
  unfold rk_dup2 at hK
  split at hK
  · exact lv_dup2_11 X.1 X.2.1 hd (rk_cv_cat.trans hK.1.1) (rk_cv_cat.trans hK.1.2) (k _ _ _ hK.2 p e s m args below meth c A H locs lsA X hl hP hD hS)
  · exact hK.elim
def rk_if_eq (K K' : rk_K) : rk_K := fun ls st σ => match st with
  | .int x :: r => (x = 0 → K ls r σ) ∧ (¬ (x = 0) → K' ls r σ)
  | _ => False
theorem rk_if_eq_ok {off : Int} (hd : decode cc pc = .ok (.ifCond .eq off, 3)) (ht : (pc : Int) + off = (pc' : Int)) (k1 : rk_AK g cc nL ret own h R pc' K) (k2 : rk_AK g cc nL ret own h R (pc + 3) K') : rk_AK g cc nL ret own h R pc (rk_if_eq K K') := by
  intro ls st σ hK p e s m args below meth c A H locs lsA X hl hP hD hS
  unfold rk_if_eq at hK
  split at hK
  · exact lv_if_eq X.1 X.2.1 hd ht (fun q => k1 _ _ _ (hK.1 q) p e s m args below meth c A H locs lsA X hl hP hD hS) (fun q => k2 _ _ _ (hK.2 q) p e s m args below meth c A H locs lsA X hl hP hD hS)
  · exact hK.elim
def rk_icmp_eq (K K' : rk_K) : rk_K := fun ls st σ => match st with
  | .int y :: .int x :: r => (x = y → K ls r σ) ∧ (¬ (x = y) → K' ls r σ)
  | _ => False
theorem rk_icmp_eq_ok {off : Int} (hd : decode cc pc = .ok (.if_icmp .eq off, 3)) (ht : (pc : Int) + off = (pc' : Int)) (k1 : rk_AK g cc nL ret own h R pc' K) (k2 : rk_AK g cc nL ret own h R (pc + 3) K') : rk_AK g cc nL ret own h R pc (rk_icmp_eq K K') := by
  intro ls st σ hK p e s m args below meth c A H locs lsA X hl hP hD hS
  unfold rk_icmp_eq at hK
  split at hK
  · exact lv_icmp_eq X.1 X.2.1 hd ht (fun q => k1 _ _ _ (hK.1 q) p e s m args below meth c A H locs lsA X hl hP hD hS) (fun q => k2 _ _ _ (hK.2 q) p e s m args below meth c A H locs lsA X hl hP hD hS)
  · exact hK.elim
def rk_if_ne (K K' : rk_K) : rk_K := fun ls st σ => match st with
  | .int x :: r => (¬ x = 0 → K ls r σ) ∧ (x = 0 → K' ls r σ)
  | _ => False
theorem rk_if_ne_ok {off : Int} (hd : decode cc pc = .ok (.ifCond .ne off, 3)) (ht : (pc : Int) + off = (pc' : Int)) (k1 : rk_AK g cc nL ret own h R pc' K) (k2 : rk_AK g cc nL ret own h R (pc + 3) K') : rk_AK g cc nL ret own h R pc (rk_if_ne K K') := by
  intro ls st σ hK p e s m args below meth c A H locs lsA X hl hP hD hS
  unfold rk_if_ne at hK
  split at hK
  · exact lv_if_ne X.1 X.2.1 hd ht (fun q => k1 _ _ _ (hK.1 q) p e s m args below meth c A H locs lsA X hl hP hD hS) (fun q => k2 _ _ _ (hK.2 q) p e s m args below meth c A H locs lsA X hl hP hD hS)
  · exact hK.elim
def rk_icmp_ne (K K' : rk_K) : rk_K := fun ls st σ => match st with
  | .int y :: .int x :: r => (¬ x = y → K ls r σ) ∧ (x = y → K' ls r σ)
  | _ => False
theorem rk_icmp_ne_ok {off : Int} (hd : decode cc pc = .ok (.if_icmp .ne off, 3)) (ht : (pc : Int) + off = (pc' : Int)) (k1 : rk_AK g cc nL ret own h R pc' K) (k2 : rk_AK g cc nL ret own h R (pc + 3) K') : rk_AK g cc nL ret own h R pc (rk_icmp_ne K K') := by
  intro ls st σ hK p e s m args below meth c A H locs lsA X hl hP hD hS
  unfold rk_icmp_ne at hK
  split at hK
  · exact lv_icmp_ne X.1 X.2.1 hd ht (fun q => k1 _ _ _ (hK.1 q) p e s m args below meth c A H locs lsA X hl hP hD hS) (fun q => k2 _ _ _ (hK.2 q) p e s m args below meth c A H locs lsA X hl hP hD hS)
  · exact hK.elim
def rk_if_lt (K K' : rk_K) : rk_K := fun ls st σ => match st with
  | .int x :: r => (x < 0 → K ls r σ) ∧ (¬ (x < 0) → K' ls r σ)
  | _ => False
theorem rk_if_lt_ok {off : Int} (hd : decode cc pc = .ok (.ifCond .lt off, 3)) (ht : (pc : Int) + off = (pc' : Int)) (k1 : rk_AK g cc nL ret own h R pc' K) (k2 : rk_AK g cc nL ret own h R (pc + 3) K') : rk_AK g cc nL ret own h R pc (rk_if_lt K K') := by
  intro ls st σ hK p e s m args below meth c A H locs lsA X hl hP hD hS
  unfold rk_if_lt at hK
  split at hK
  · exact lv_if_lt X.1 X.2.1 hd ht (fun q => k1 _ _ _ (hK.1 q) p e s m args below meth c A H locs lsA X hl hP hD hS) (fun q => k2 _ _ _ (hK.2 q) p e s m args below meth c A H locs lsA X hl hP hD hS)
  · exact hK.elim
def rk_icmp_lt (K K' : rk_K) : rk_K := fun ls st σ => match st with
  | .int y :: .int x :: r => (x < y → K ls r σ) ∧ (¬ (x < y) → K' ls r σ)
  | _ => False
theorem rk_icmp_lt_ok {off : Int} (hd : decode cc pc = .ok (.if_icmp .lt off, 3)) (ht : (pc : Int) + off = (pc' : Int)) (k1 : rk_AK g cc nL ret own h R pc' K) (k2 : rk_AK g cc nL ret own h R (pc + 3) K') : rk_AK g cc nL ret own h R pc (rk_icmp_lt K K') := by
  intro ls st σ hK p e s m args below meth c A H locs lsA X hl hP hD hS
  unfold rk_icmp_lt at hK
  split at hK
  · exact lv_icmp_lt X.1 X.2.1 hd ht (fun q => k1 _ _ _ (hK.1 q) p e s m args below meth c A H locs lsA X hl hP hD hS) (fun q => k2 _ _ _ (hK.2 q) p e s m args below meth c A H locs lsA X hl hP hD hS)
  · exact hK.elim
def rk_if_ge (K K' : rk_K) : rk_K := fun ls st σ => match st with
  | .int x :: r => (0 ≤ x → K ls r σ) ∧ (¬ (0 ≤ x) → K' ls r σ)
  | _ => False
theorem rk_if_ge_ok {off : Int} (hd : decode cc pc = .ok (.ifCond .ge off, 3)) (ht : (pc : Int) + off = (pc' : Int)) (k1 : rk_AK g cc nL ret own h R pc' K) (k2 : rk_AK g cc nL ret own h R (pc + 3) K') : rk_AK g cc nL ret own h R pc (rk_if_ge K K') := by
  intro ls st σ hK p e s m args below meth c A H locs lsA X hl hP hD hS
  unfold rk_if_ge at hK
  split at hK
  · exact lv_if_ge X.1 X.2.1 hd ht (fun q => k1 _ _ _ (hK.1 q) p e s m args below meth c A H locs lsA X hl hP hD hS) (fun q => k2 _ _ _ (hK.2 q) p e s m args below meth c A H locs lsA X hl hP hD hS)
  · exact hK.elim
def rk_icmp_ge (K K' : rk_K) : rk_K := fun ls st σ => match st with
  | .int y :: .int x :: r => (y ≤ x → K ls r σ) ∧ (¬ (y ≤ x) → K' ls r σ)
  | _ => False
theorem rk_icmp_ge_ok {off : Int} (hd : decode cc pc = .ok (.if_icmp .ge off, 3)) (ht : (pc : Int) + off = (pc' : Int)) (k1 : rk_AK g cc nL ret own h R pc' K) (k2 : rk_AK g cc nL ret own h R (pc + 3) K') : rk_AK g cc nL ret own h R pc (rk_icmp_ge K K') := by
  intro ls st σ hK p e s m args below meth c A H locs lsA X hl hP hD hS
  unfold rk_icmp_ge at hK
  split at hK
  · exact lv_icmp_ge X.1 X.2.1 hd ht (fun q => k1 _ _ _ (hK.1 q) p e s m args below meth c A H locs lsA X hl hP hD hS) (fun q => k2 _ _ _ (hK.2 q) p e s m args below meth c A H locs lsA X hl hP hD hS)
  · exact hK.elim
def rk_if_gt (K K' : rk_K) : rk_K := fun ls st σ => match st with
  | .int x :: r => (0 < x → K ls r σ) ∧ (¬ (0 < x) → K' ls r σ)
  | _ => False
theorem rk_if_gt_ok {off : Int} (hd : decode cc pc = .ok (.ifCond .gt off, 3)) (ht : (pc : Int) + off = (pc' : Int)) (k1 : rk_AK g cc nL ret own h R pc' K) (k2 : rk_AK g cc nL ret own h R (pc + 3) K') : rk_AK g cc nL ret own h R pc (rk_if_gt K K') := by
  intro ls st σ hK p e s m args below meth c A H locs lsA X hl hP hD hS
  unfold rk_if_gt at hK
  split at hK
  · exact lv_if_gt X.1 X.2.1 hd ht (fun q => k1 _ _ _ (hK.1 q) p e s m args below meth c A H locs lsA X hl hP hD hS) (fun q => k2 _ _ _ (hK.2 q) p e s m args below meth c A H locs lsA X hl hP hD hS)
  · exact hK.elim
def rk_icmp_gt (K K' : rk_K) : rk_K := fun ls st σ => match st with
  | .int y :: .int x :: r => (y < x → K ls r σ) ∧ (¬ (y < x) → K' ls r σ)
  | _ => False
theorem rk_icmp_gt_ok {off : Int} (hd : decode cc pc = .ok (.if_icmp .gt off, 3)) (ht : (pc : Int) + off = (pc' : Int)) (k1 : rk_AK g cc nL ret own h R pc' K) (k2 : rk_AK g cc nL ret own h R (pc + 3) K') : rk_AK g cc nL ret own h R pc (rk_icmp_gt K K') := by
  intro ls st σ hK p e s m args below meth c A H locs lsA X hl hP hD hS
  unfold rk_icmp_gt at hK
  split at hK
  · exact lv_icmp_gt X.1 X.2.1 hd ht (fun q => k1 _ _ _ (hK.1 q) p e s m args below meth c A H locs lsA X hl hP hD hS) (fun q => k2 _ _ _ (hK.2 q) p e s m args below meth c A H locs lsA X hl hP hD hS)
  · exact hK.elim
def rk_if_le (K K' : rk_K) : rk_K := fun ls st σ => match st with
  | .int x :: r => (x ≤ 0 → K ls r σ) ∧ (¬ (x ≤ 0) → K' ls r σ)
  | _ => False
theorem rk_if_le_ok {off : Int} (hd : decode cc pc = .ok (.ifCond .le off, 3)) (ht : (pc : Int) + off = (pc' : Int)) (k1 : rk_AK g cc nL ret own h R pc' K) (k2 : rk_AK g cc nL ret own h R (pc + 3) K') : rk_AK g cc nL ret own h R pc (rk_if_le K K') := by
  intro ls st σ hK p e s m args below meth c A H locs lsA X hl hP hD hS
  unfold rk_if_le at hK
  split at hK
  · exact lv_if_le X.1 X.2.1 hd ht (fun q => k1 _ _ _ (hK.1 q) p e s m args below meth c A H locs lsA X hl hP hD hS) (fun q => k2 _ _ _ (hK.2 q) p e s m args below meth c A H locs lsA X hl hP hD hS)
  · exact hK.elim
def rk_icmp_le (K K' : rk_K) : rk_K := fun ls st σ => match st with
  | .int y :: .int x :: r => (x ≤ y → K ls r σ) ∧ (¬ (x ≤ y) → K' ls r σ)
  | _ => False
theorem rk_icmp_le_ok {off : Int} (hd : decode cc pc = .ok (.if_icmp .le off, 3)) (ht : (pc : Int) + off = (pc' : Int)) (k1 : rk_AK g cc nL ret own h R pc' K) (k2 : rk_AK g cc nL ret own h R (pc + 3) K') : rk_AK g cc nL ret own h R pc (rk_icmp_le K K') := by
  intro ls st σ hK p e s m args below meth c A H locs lsA X hl hP hD hS
  unfold rk_icmp_le at hK
  split at hK
  · exact lv_icmp_le X.1 X.2.1 hd ht (fun q => k1 _ _ _ (hK.1 q) p e s m args below meth c A H locs lsA X hl hP hD hS) (fun q => k2 _ _ _ (hK.2 q) p e s m args below meth c A H locs lsA X hl hP hD hS)
  · exact hK.elim
theorem rk_goto_ok {off : Int} (hd : decode cc pc = .ok (.goto off, 3)) (ht : (pc : Int) + off = (pc' : Int)) (k1 : rk_AK g cc nL ret own h R pc' K) : rk_AK g cc nL ret own h R pc K := by
  intro ls st σ hK p e s m args below meth c A H locs lsA X hl hP hD hS
  exact lv_goto X.1 X.2.1 hd ht (k1 _ _ _ hK p e s m args below meth c A H locs lsA X hl hP hD hS)
/-- a switch: which goes where, by its number; else the last -/
def rk_sw (lo : Int) (Ks : List rk_K) (K' : rk_K) : rk_K := fun ls st σ => match st with
  | .int x :: r => (∀ (j : Nat) (K : rk_K), Ks[j]? = some K → x.toInt = lo + j → K ls r σ) ∧ ((x.toInt < lo ∨ lo + Ks.length ≤ x.toInt) → K' ls r σ)
  | _ => False
theorem rk_table_ok {dflt lo hi : Int} {offs : Array Int} {len : Nat} {Ks : List rk_K} {tg : List Nat} (hd : decode cc pc = .ok (.tableswitch dflt lo hi offs, len)) (hhi : hi + 1 = lo + Ks.length) (hto : offs.toList.map (fun o => (pc : Int) + o) = tg.map (fun t : Nat => (t : Int))) (hlen : tg.length = Ks.length) (ht : (pc : Int) + dflt = (pc' : Int))
    (k1 : ∀ (j : Nat) (t : Nat) (K : rk_K), tg[j]? = some t → Ks[j]? = some K → rk_AK g cc nL ret own h R t K) (k2 : rk_AK g cc nL ret own h R pc' K') : rk_AK g cc nL ret own h R pc (rk_sw lo Ks K') := by
  intro ls st σ hK p e s m args below meth c A H locs lsA X hl hP hD hS
  unfold rk_sw at hK
  split at hK
  · rename_i x r
    by_cases hlo : x.toInt < lo
    · exact lv_tableOut X.1 X.2.1 hd (Or.inl hlo) ht (k2 _ _ _ (hK.2 (Or.inl hlo)) p e s m args below meth c A H locs lsA X hl hP hD hS)
    · by_cases hhi2 : hi < x.toInt
      · exact lv_tableOut X.1 X.2.1 hd (Or.inr hhi2) ht (k2 _ _ _ (hK.2 (Or.inr (by omega))) p e s m args below meth c A H locs lsA X hl hP hD hS)
      · obtain ⟨j, hj⟩ : ∃ j : Nat, x.toInt = lo + j := ⟨(x.toInt - lo).toNat, by omega⟩
        have hjl : j < Ks.length := by omega
        have hjt : j < tg.length := by omega
        have e1 : Ks[j]? = some Ks[j] := List.getElem?_eq_getElem hjl
        have e2 : tg[j]? = some tg[j] := List.getElem?_eq_getElem hjt
        have e3 : (offs.toList.map (fun o => (pc : Int) + o))[j]? = some ((tg[j] : Nat) : Int) := by rw [hto, List.getElem?_map, e2]; rfl
        rw [List.getElem?_map] at e3
        cases ho : offs.toList[j]? with
        | none => rw [ho] at e3; cases e3
        | some o =>
          rw [ho] at e3
          have e4 : (pc : Int) + o = ((tg[j] : Nat) : Int) := Option.some.inj e3
          have e5 : offs[(x.toInt - lo).toNat]? = some o := by rw [show (x.toInt - lo).toNat = j by omega, ← Array.getElem?_toList]; exact ho
          exact lv_tableIn X.1 X.2.1 hd hlo hhi2 e5 e4 (k1 j _ _ e2 e1 _ _ _ (hK.1 j _ e1 hj) p e s m args below meth c A H locs lsA X hl hP hD hS)
  · exact hK.elim
/-- a switch on 0, 1, else -/
def rk_sw01 (K0 K1 K' : rk_K) : rk_K := fun ls st σ => match st with
  | .int x :: r => (x = 0 → K0 ls r σ) ∧ (x = 1 → K1 ls r σ) ∧ (¬ x = 0 → ¬ x = 1 → K' ls r σ)
  | _ => False
theorem rk_sw01_ok {dflt o0 o1 : Int} {len p0 p1 : Nat} {K0 K1 : rk_K} (hd : decode cc pc = .ok (.lookupswitch dflt #[(0, o0), (1, o1)], len)) (h0 : (pc : Int) + o0 = (p0 : Int)) (h1 : (pc : Int) + o1 = (p1 : Int)) (ht : (pc : Int) + dflt = (pc' : Int)) (k0 : rk_AK g cc nL ret own h R p0 K0) (k1 : rk_AK g cc nL ret own h R p1 K1) (k2 : rk_AK g cc nL ret own h R pc' K') : rk_AK g cc nL ret own h R pc (rk_sw01 K0 K1 K') := by
  intro ls st σ hK p e s m args below meth c A H locs lsA X hl hP hD hS
  unfold rk_sw01 at hK
  split at hK
  · rename_i x r
    by_cases e0 : x = 0
    · exact lv_lookup (off := o0) X.1 X.2.1 hd rfl (by rw [e0]; rfl) h0 (k0 _ _ _ (hK.1 e0) p e s m args below meth c A H locs lsA X hl hP hD hS)
    · have n0 := lv_neT (k := 0) (a := 0) e0 rfl
      by_cases e1 : x = 1
      · exact lv_lookup (off := o1) X.1 X.2.1 hd rfl (by rw [e1]; rfl) h1 (k1 _ _ _ (hK.2.1 e1) p e s m args below meth c A H locs lsA X hl hP hD hS)
      · have n1 := lv_neT (k := 1) (a := 1) e1 rfl
        exact lv_lookup (off := dflt) X.1 X.2.1 hd rfl (by show (if (0 : Int) = x.toInt then o0 else if (1 : Int) = x.toInt then o1 else dflt) = dflt; rw [if_neg (fun z => n0 z.symm), if_neg (fun z => n1 z.symm)]) ht (k2 _ _ _ (hK.2.2 e0 e1) p e s m args below meth c A H locs lsA X hl hP hD hS)
  · exact hK.elim
def rk_iret (R : rk_R) : rk_K := fun _ st σ => match st with
  | [.int v] => R (some (.int v)) σ
  | _ => False
theorem rk_iret_ok (hr : ret = some .int) (hd : decode cc pc = .ok (.ireturn, 1)) : rk_AK g cc nL ret own h R pc (rk_iret R) := by
  intro ls st σ hK p e s m args below meth c A H locs lsA X hl hP hD hS
  unfold rk_iret at hK
  split at hK
  · rename_i v
    exact W.iret (v := v) X.1 X.2.1 (X.2.2.2.1.trans hr) (fun t ht hW => ⟨⟨some (.int v), σ, rfl, hK, by rw [ht]; exact hP, rk_Kk.moved hW X.2.2.2.2.2.2.2.1, hD⟩, hS.F ht⟩) hS.2.2 hd X.2.2.2.2.1
  · exact hK.elim
def rk_zret (R : rk_R) : rk_K := fun _ st σ => match st with
  | [.int v] => (v = 0 ∨ v = 1) ∧ R (some (.int v)) σ
  | _ => False
theorem rk_zret_ok (hr : ret = some .boolean) (hd : decode cc pc = .ok (.ireturn, 1)) : rk_AK g cc nL ret own h R pc (rk_zret R) := by
  intro ls st σ hK p e s m args below meth c A H locs lsA X hl hP hD hS
  unfold rk_zret at hK
  split at hK
  · rename_i v
    exact W.zret (v := v) (ty := .boolean) X.1 X.2.1 (X.2.2.2.1.trans hr) (by rcases hK.1 with rfl | rfl <;> rfl) (fun t ht hW => ⟨⟨some (.int v), σ, rfl, hK.2, by rw [ht]; exact hP, rk_Kk.moved hW X.2.2.2.2.2.2.2.1, hD⟩, hS.F ht⟩) hS.2.2 hd X.2.2.2.2.1
  · exact hK.elim
def rk_lret (R : rk_R) : rk_K := fun _ st σ => match st with
  | [.long v] => R (some (.long v)) σ
  | _ => False
theorem rk_lret_ok (hr : ret = some .long) (hd : decode cc pc = .ok (.lreturn, 1)) : rk_AK g cc nL ret own h R pc (rk_lret R) := by
  intro ls st σ hK p e s m args below meth c A H locs lsA X hl hP hD hS
  unfold rk_lret at hK
  split at hK
  · rename_i v
    exact W.lret (v := v) X.1 X.2.1 (X.2.2.2.1.trans hr) (fun t ht hW => ⟨⟨some (.long v), σ, rfl, hK, by rw [ht]; exact hP, rk_Kk.moved hW X.2.2.2.2.2.2.2.1, hD⟩, hS.F ht⟩) hS.2.2 hd X.2.2.2.2.1
  · exact hK.elim
def rk_vret (R : rk_R) : rk_K := fun _ st σ => match st with
  | [] => R none σ
  | _ => False
theorem rk_vret_ok (hr : ret = none) (hd : decode cc pc = .ok (.return_, 1)) : rk_AK g cc nL ret own h R pc (rk_vret R) := by
  intro ls st σ hK p e s m args below meth c A H locs lsA X hl hP hD hS
  unfold rk_vret at hK
  split at hK
  · exact W.vret X.1 X.2.1 (X.2.2.2.1.trans hr) (fun t ht hW => ⟨⟨none, σ, rfl, hK, by rw [ht]; exact hP, rk_Kk.moved hW X.2.2.2.2.2.2.2.1, hD⟩, hS.F ht⟩) hS.2.2 hd X.2.2.2.2.1
  · exact hK.elim
end RK5
