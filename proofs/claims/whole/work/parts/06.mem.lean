section RK6
variable {g : rk_G} {cc : ByteArray} {nL : Nat} {ret : Option FieldType} {own : String} {h : Nat} {R : rk_R} {pc pc' : Nat} {K K' : rk_K}
theorem rk_obN {c ci : Nat} (hc : rk_ob c = ci + 1) : c < rk_N := by
  rcases Nat.lt_or_ge c rk_N with h | h
  · exact h
  · unfold rk_ob at hc
    rw [List.getD_eq_getElem?_getD, List.getElem?_eq_none (by exact h)] at hc
    cases hc
theorem rk_kdN {c n : Nat} (hc : rk_kd c = n + 1) : c < rk_N := by
  rcases Nat.lt_or_ge c rk_N with h | h
  · exact h
  · unfold rk_kd at hc
    rw [List.getD_eq_getElem?_getD, List.getElem?_eq_none (by exact h)] at hc
    cases hc
theorem rk_kdO_all : (List.range rk_N).all (fun c => (rk_kd c == 0) || (rk_ob c == 0)) = true := by decide +kernel
theorem rk_kdO {c n : Nat} (hc : rk_kd c = n + 1) : rk_ob c = 0 := by
  have h := List.all_eq_true.mp rk_kdO_all c (List.mem_range.mpr (rk_kdN hc))
  simp only [Bool.or_eq_true, beq_iff_eq] at h
  omega
def rk_gI (ci k : Nat) (K : rk_K) : rk_K := fun ls st σ => match st with
  | .ref c :: r => rk_ob c = ci + 1 ∧ K ls (.int (σ.1 c k) :: r) σ
  | _ => False
theorem rk_gI_ok {ci k index N : Nat} {C : String} {T : u_T} (hd : decode cc pc = .ok (.getfield index, 3)) (hcl : vwCl[ci]? = some (C, T, N)) (hin : ∀ w ∈ u_ws C T N, w ∈ rk_T) (hk : k < N) (hf : (rk_fk ci)[k]? = some 0) (hw : Cond.fieldLink own index (T k).1 (T k).2.1 (T k).2.2.1 ∈ rk_T) (kk : rk_AK g cc nL ret own h R (pc + 3) K) : rk_AK g cc nL ret own h R pc (rk_gI ci k K) := by
  intro ls st σ hK p e s m args below meth c A H locs lsA X hl hP hD hS
  unfold rk_gI at hK
  split at hK
  · rename_i c0 r
    obtain ⟨h0, hK⟩ := hK
    have he := rk_wg (a := g.2.2.1) (cA := g.2.2.2) (σ := σ) (rk_obN h0)
    rw [rk_e_obj h0] at he
    exact va_get (D := g.2.1) (cl := vwCl) (tys := rk_tys g.2.2.2) (ws := rk_w g.2.2.1 g.2.2.2 σ) X.1 X.2.1 X.2.2.2.2.2.2.1 hin X.2.2.2.2.2.1 X.2.2.2.2.2.2.2.1.1 hP c0 he hcl k hk (X.2.2.2.2.2.2.1 _ hw) (fun _ z => z) (by rw [List.getElem?_mapIdx, hf]; rfl) hd (kk _ _ _ hK p e s m args below meth c A H locs lsA X hl hP hD hS)
  · exact hK.elim
def rk_gJ (ci k : Nat) (K : rk_K) : rk_K := fun ls st σ => match st with
  | .ref c :: r => rk_ob c = ci + 1 ∧ K ls (.long (σ.2 c k) :: r) σ
  | _ => False
theorem rk_gJ_ok {ci k index N : Nat} {C : String} {T : u_T} (hd : decode cc pc = .ok (.getfield index, 3)) (hcl : vwCl[ci]? = some (C, T, N)) (hin : ∀ w ∈ u_ws C T N, w ∈ rk_T) (hk : k < N) (hf : (rk_fk ci)[k]? = some 1) (hw : Cond.fieldLink own index (T k).1 (T k).2.1 (T k).2.2.1 ∈ rk_T) (kk : rk_AK g cc nL ret own h R (pc + 3) K) : rk_AK g cc nL ret own h R pc (rk_gJ ci k K) := by
  intro ls st σ hK p e s m args below meth c A H locs lsA X hl hP hD hS
  unfold rk_gJ at hK
  split at hK
  · rename_i c0 r
    obtain ⟨h0, hK⟩ := hK
    have he := rk_wg (a := g.2.2.1) (cA := g.2.2.2) (σ := σ) (rk_obN h0)
    rw [rk_e_obj h0] at he
    exact va_get (D := g.2.1) (cl := vwCl) (tys := rk_tys g.2.2.2) (ws := rk_w g.2.2.1 g.2.2.2 σ) X.1 X.2.1 X.2.2.2.2.2.2.1 hin X.2.2.2.2.2.1 X.2.2.2.2.2.2.2.1.1 hP c0 he hcl k hk (X.2.2.2.2.2.2.1 _ hw) (fun _ z => z) (by rw [List.getElem?_mapIdx, hf]; rfl) hd (kk _ _ _ hK p e s m args below meth c A H locs lsA X hl hP hD hS)
  · exact hK.elim
def rk_gR (ci k : Nat) (K : rk_K) : rk_K := fun ls st σ => match st with
  | .ref c :: r => rk_ob c = ci + 1 ∧ K ls (.ref (rk_rf c k) :: r) σ
  | _ => False
theorem rk_gR_ok {ci k index N : Nat} {C : String} {T : u_T} (hd : decode cc pc = .ok (.getfield index, 3)) (hcl : vwCl[ci]? = some (C, T, N)) (hin : ∀ w ∈ u_ws C T N, w ∈ rk_T) (hk : k < N) (hf : (rk_fk ci)[k]? = some 2) (hw : Cond.fieldLink own index (T k).1 (T k).2.1 (T k).2.2.1 ∈ rk_T) (kk : rk_AK g cc nL ret own h R (pc + 3) K) : rk_AK g cc nL ret own h R pc (rk_gR ci k K) := by
  intro ls st σ hK p e s m args below meth c A H locs lsA X hl hP hD hS
  unfold rk_gR at hK
  split at hK
  · rename_i c0 r
    obtain ⟨h0, hK⟩ := hK
    have he := rk_wg (a := g.2.2.1) (cA := g.2.2.2) (σ := σ) (rk_obN h0)
    rw [rk_e_obj h0] at he
    exact va_get (D := g.2.1) (cl := vwCl) (tys := rk_tys g.2.2.2) (ws := rk_w g.2.2.1 g.2.2.2 σ) X.1 X.2.1 X.2.2.2.2.2.2.1 hin X.2.2.2.2.2.1 X.2.2.2.2.2.2.2.1.1 hP c0 he hcl k hk (X.2.2.2.2.2.2.1 _ hw) (fun _ z => z) (by rw [List.getElem?_mapIdx, hf]; rfl) hd (kk _ _ _ hK p e s m args below meth c A H locs lsA X hl hP hD hS)
  · exact hK.elim
def rk_pI (ci k : Nat) (K : rk_K) : rk_K := fun ls st σ => match st with
  | .int v :: .ref c :: r => rk_ob c = ci + 1 ∧ K ls r (rk_mi σ c k v)
  | _ => False
theorem rk_pI_ok {ci k index N : Nat} {C : String} {T : u_T} {ty0 : Nat → FieldType} (hd : decode cc pc = .ok (.putfield index, 3)) (hcl : vwCl[ci]? = some (C, T, N)) (hin : ∀ w ∈ u_ws C T N, w ∈ rk_T) (hty : ∀ k, k < N → parseFieldDescriptor (T k).2.2.1 = some (ty0 k)) (hnm : ∀ a, a < N → ∀ b, b < N → a ≠ b → (T a).2.1 ≠ (T b).2.1) (hk : k < N) (hf : (rk_fk ci)[k]? = some 0) (hnf : (T k).2.2.2 = false) (hd1 : parseFieldDescriptor (T k).2.2.1 = some .int) (hw : Cond.fieldLink own index (T k).1 (T k).2.1 (T k).2.2.1 ∈ rk_T) (kk : rk_AK g cc nL ret own h R (pc + 3) K) : rk_AK g cc nL ret own h R pc (rk_pI ci k K) := by
  intro ls st σ hK p e s m args below meth c A H locs lsA X hl hP hD hS
  unfold rk_pI at hK
  split at hK
  · rename_i v c0 r
    obtain ⟨h0, hK⟩ := hK
    have he := rk_wg (a := g.2.2.1) (cA := g.2.2.2) (σ := σ) (rk_obN h0)
    rw [rk_e_obj h0] at he
    have hset := rk_wset (a := g.2.2.1) (cA := g.2.2.2) (σ := σ) (σ' := rk_mi σ c0 k v) (rk_obN h0) (by rw [rk_e_obj h0, rk_fs_seti hf]) (fun c' z => rk_e_ext (rk_mi_ne z) rfl)
    refine va_put (D := g.2.1) (cl := vwCl) (tys := rk_tys g.2.2.2) (ws := rk_w g.2.2.1 g.2.2.2 σ) X.1 X.2.1 X.2.2.2.2.2.2.1 hin ty0 hty hnm X.2.2.2.2.2.1 X.2.2.2.2.2.2.2.1.1 hP hD hS c0 he hcl k hk (X.2.2.2.2.2.2.1 _ hw) (fun _ z => z) hnf (v := .int v) hd1 rfl rfl (by rw [List.length_mapIdx]; exact (List.getElem?_eq_some_iff.mp hf).1) hd (fun H1 locs1 hP1 hD1 hS1 => ?_)
    rw [hset] at hP1 hD1
    exact kk _ _ _ hK p e s m args below meth c A H1 locs1 lsA X hl hP1 hD1 hS1
  · exact hK.elim
def rk_pJ (ci k : Nat) (K : rk_K) : rk_K := fun ls st σ => match st with
  | .long v :: .ref c :: r => rk_ob c = ci + 1 ∧ K ls r (rk_ml σ c k v)
  | _ => False
theorem rk_pJ_ok {ci k index N : Nat} {C : String} {T : u_T} {ty0 : Nat → FieldType} (hd : decode cc pc = .ok (.putfield index, 3)) (hcl : vwCl[ci]? = some (C, T, N)) (hin : ∀ w ∈ u_ws C T N, w ∈ rk_T) (hty : ∀ k, k < N → parseFieldDescriptor (T k).2.2.1 = some (ty0 k)) (hnm : ∀ a, a < N → ∀ b, b < N → a ≠ b → (T a).2.1 ≠ (T b).2.1) (hk : k < N) (hf : (rk_fk ci)[k]? = some 1) (hnf : (T k).2.2.2 = false) (hd1 : parseFieldDescriptor (T k).2.2.1 = some .long) (hw : Cond.fieldLink own index (T k).1 (T k).2.1 (T k).2.2.1 ∈ rk_T) (kk : rk_AK g cc nL ret own h R (pc + 3) K) : rk_AK g cc nL ret own h R pc (rk_pJ ci k K) := by
  intro ls st σ hK p e s m args below meth c A H locs lsA X hl hP hD hS
  unfold rk_pJ at hK
  split at hK
  · rename_i v c0 r
    obtain ⟨h0, hK⟩ := hK
    have he := rk_wg (a := g.2.2.1) (cA := g.2.2.2) (σ := σ) (rk_obN h0)
    rw [rk_e_obj h0] at he
    have hset := rk_wset (a := g.2.2.1) (cA := g.2.2.2) (σ := σ) (σ' := rk_ml σ c0 k v) (rk_obN h0) (by rw [rk_e_obj h0, rk_fs_setl hf]) (fun c' z => rk_e_ext rfl (rk_ml_ne z))
    refine va_put (D := g.2.1) (cl := vwCl) (tys := rk_tys g.2.2.2) (ws := rk_w g.2.2.1 g.2.2.2 σ) X.1 X.2.1 X.2.2.2.2.2.2.1 hin ty0 hty hnm X.2.2.2.2.2.1 X.2.2.2.2.2.2.2.1.1 hP hD hS c0 he hcl k hk (X.2.2.2.2.2.2.1 _ hw) (fun _ z => z) hnf (v := .long v) hd1 rfl rfl (by rw [List.length_mapIdx]; exact (List.getElem?_eq_some_iff.mp hf).1) hd (fun H1 locs1 hP1 hD1 hS1 => ?_)
    rw [hset] at hP1 hD1
    exact kk _ _ _ hK p e s m args below meth c A H1 locs1 lsA X hl hP1 hD1 hS1
  · exact hK.elim
def rk_iald (K : rk_K) : rk_K := fun ls st σ => match st with
  | .int i :: .ref c :: r => (rk_kd c = 1 ∧ vp_in i (rk_ln c)) ∧ K ls (.int (σ.1 c i.toNatClampNeg) :: r) σ
  | _ => False
theorem rk_iald_ok (hd : decode cc pc = .ok (.iaload, 1)) (kk : rk_AK g cc nL ret own h R (pc + 1) K) : rk_AK g cc nL ret own h R pc (rk_iald K) := by
  intro ls st σ hK p e s m args below meth c A H locs lsA X hl hP hD hS
  unfold rk_iald at hK
  split at hK
  · rename_i i c0 r
    obtain ⟨⟨h0, hin⟩, hK⟩ := hK
    have he := rk_wg (a := g.2.2.1) (cA := g.2.2.2) (σ := σ) (rk_kdN h0)
    rw [rk_e_arr (rk_kdO h0) (by omega), h0] at he
    exact va_iald (D := g.2.1) (cl := vwCl) (tys := rk_tys g.2.2.2) X.1 X.2.1 X.2.2.2.2.2.2.2.1.1 hP c0 0 he rfl hin hd (kk _ _ _ hK p e s m args below meth c A H locs lsA X hl hP hD hS)
  · exact hK.elim
def rk_zald (K : rk_K) : rk_K := fun ls st σ => match st with
  | .int i :: .ref c :: r => (rk_kd c = 2 ∧ vp_in i (rk_ln c)) ∧ K ls (.int (σ.1 c i.toNatClampNeg) :: r) σ
  | _ => False
theorem rk_zald_ok (hd : decode cc pc = .ok (.baload, 1)) (kk : rk_AK g cc nL ret own h R (pc + 1) K) : rk_AK g cc nL ret own h R pc (rk_zald K) := by
  intro ls st σ hK p e s m args below meth c A H locs lsA X hl hP hD hS
  unfold rk_zald at hK
  split at hK
  · rename_i i c0 r
    obtain ⟨⟨h0, hin⟩, hK⟩ := hK
    have he := rk_wg (a := g.2.2.1) (cA := g.2.2.2) (σ := σ) (rk_kdN h0)
    rw [rk_e_arr (rk_kdO h0) (by omega), h0] at he
    exact va_zald (D := g.2.1) (cl := vwCl) (tys := rk_tys g.2.2.2) X.1 X.2.1 X.2.2.2.2.2.2.2.1.1 hP c0 1 he rfl hin hd (kk _ _ _ hK p e s m args below meth c A H locs lsA X hl hP hD hS)
  · exact hK.elim
def rk_aald (K : rk_K) : rk_K := fun ls st σ => match st with
  | .int i :: .ref c :: r => (rk_kd c = 3 ∧ vp_in i 4) ∧ K ls (.ref (rk_row i.toNatClampNeg) :: r) σ
  | _ => False
theorem rk_aald_ok (hd : decode cc pc = .ok (.aaload, 1)) (kk : rk_AK g cc nL ret own h R (pc + 1) K) : rk_AK g cc nL ret own h R pc (rk_aald K) := by
  intro ls st σ hK p e s m args below meth c A H locs lsA X hl hP hD hS
  unfold rk_aald at hK
  split at hK
  · rename_i i c0 r
    obtain ⟨⟨h0, hin⟩, hK⟩ := hK
    have he := rk_wg (a := g.2.2.1) (cA := g.2.2.2) (σ := σ) (rk_kdN h0)
    rw [rk_e_rows (rk_kdO h0) h0] at he
    exact va_aldq (D := g.2.1) (cl := vwCl) (tys := rk_tys g.2.2.2) X.1 X.2.1 X.2.2.2.2.2.2.2.1.1 hP c0 2 he rfl hin hd (kk _ _ _ hK p e s m args below meth c A H locs lsA X hl hP hD hS)
  · exact hK.elim
def rk_alen (K : rk_K) : rk_K := fun ls st σ => match st with
  | .ref c :: r => rk_kd c = 1 ∧ K ls (.int (Int32.ofNat (rk_ln c)) :: r) σ
  | _ => False
theorem rk_alen_ok (hd : decode cc pc = .ok (.arraylength, 1)) (kk : rk_AK g cc nL ret own h R (pc + 1) K) : rk_AK g cc nL ret own h R pc (rk_alen K) := by
  intro ls st σ hK p e s m args below meth c A H locs lsA X hl hP hD hS
  unfold rk_alen at hK
  split at hK
  · rename_i c0 r
    obtain ⟨h0, hK⟩ := hK
    have he := rk_wg (a := g.2.2.1) (cA := g.2.2.2) (σ := σ) (rk_kdN h0)
    rw [rk_e_arr (rk_kdO h0) (by omega), h0] at he
    exact va_alen (D := g.2.1) (cl := vwCl) (tys := rk_tys g.2.2.2) X.1 X.2.1 X.2.2.2.2.2.2.2.1.1 hP c0 0 he rfl rfl hd (kk _ _ _ hK p e s m args below meth c A H locs lsA X hl hP hD hS)
  · exact hK.elim
def rk_iast (K : rk_K) : rk_K := fun ls st σ => match st with
  | .int x :: .int i :: .ref c :: r => (rk_kd c = 1 ∧ vp_in i (rk_ln c)) ∧ K ls r (rk_mi σ c i.toNatClampNeg x)
  | _ => False
theorem rk_iast_ok (hd : decode cc pc = .ok (.iastore, 1)) (kk : rk_AK g cc nL ret own h R (pc + 1) K) : rk_AK g cc nL ret own h R pc (rk_iast K) := by
  intro ls st σ hK p e s m args below meth c A H locs lsA X hl hP hD hS
  unfold rk_iast at hK
  split at hK
  · rename_i x i c0 r
    obtain ⟨⟨h0, hin⟩, hK⟩ := hK
    have he := rk_wg (a := g.2.2.1) (cA := g.2.2.2) (σ := σ) (rk_kdN h0)
    rw [rk_e_arr (rk_kdO h0) (by omega), h0] at he
    have hset := rk_wset (a := g.2.2.1) (cA := g.2.2.2) (σ := σ) (σ' := rk_mi σ c0 i.toNatClampNeg x) (rk_kdN h0) (by rw [rk_e_arr (rk_kdO h0) (by omega), h0, rk_mi_eq]) (fun c' z => rk_e_ext (rk_mi_ne z) rfl)
    refine va_iast (D := g.2.1) (cl := vwCl) (tys := rk_tys g.2.2.2) X.1 X.2.1 X.2.2.2.2.2.2.2.1.1 hP hD hS c0 0 he rfl hin hd (fun H1 locs1 hP1 hD1 hS1 => ?_)
    erw [hset] at hP1 hD1
    exact kk _ _ _ hK p e s m args below meth c A H1 locs1 lsA X hl hP1 hD1 hS1
  · exact hK.elim
def rk_zast (K : rk_K) : rk_K := fun ls st σ => match st with
  | .int x :: .int i :: .ref c :: r => (rk_kd c = 2 ∧ vp_in i (rk_ln c)) ∧ K ls r (rk_mi σ c i.toNatClampNeg (vp_nar .boolean x))
  | _ => False
theorem rk_zast_ok (hd : decode cc pc = .ok (.bastore, 1)) (kk : rk_AK g cc nL ret own h R (pc + 1) K) : rk_AK g cc nL ret own h R pc (rk_zast K) := by
  intro ls st σ hK p e s m args below meth c A H locs lsA X hl hP hD hS
  unfold rk_zast at hK
  split at hK
  · rename_i x i c0 r
    obtain ⟨⟨h0, hin⟩, hK⟩ := hK
    have he := rk_wg (a := g.2.2.1) (cA := g.2.2.2) (σ := σ) (rk_kdN h0)
    rw [rk_e_arr (rk_kdO h0) (by omega), h0] at he
    have hset := rk_wset (a := g.2.2.1) (cA := g.2.2.2) (σ := σ) (σ' := rk_mi σ c0 i.toNatClampNeg (vp_nar .boolean x)) (rk_kdN h0) (by rw [rk_e_arr (rk_kdO h0) (by omega), h0, rk_mi_eq]) (fun c' z => rk_e_ext (rk_mi_ne z) rfl)
    refine va_zast (D := g.2.1) (cl := vwCl) (tys := rk_tys g.2.2.2) X.1 X.2.1 X.2.2.2.2.2.2.2.1.1 hP hD hS c0 1 he rfl hin hd (fun H1 locs1 hP1 hD1 hS1 => ?_)
    erw [hset] at hP1 hD1
    exact kk _ _ _ hK p e s m args below meth c A H1 locs1 lsA X hl hP1 hD1 hS1
  · exact hK.elim
def rk_small (r : List Value) : Prop := (r.map fun v => v.category).sum ≤ 8
theorem rk_small_cv {a : Nat → Nat} {r : List Value} (h : rk_small r) : ((r.map (rk_cv a)).map fun v => v.category).sum ≤ 8 := by
  rw [List.map_map]
  have : (Value.category ∘ rk_cv a) = Value.category := by funext v; exact rk_cv_cat
  rw [show ((fun v => v.category) ∘ rk_cv a) = (fun v : Value => v.category) from this]
  exact h
/-- behind a call -/
theorem rk_after {p : Program} {e : Env} {s : State} {m : MethodId} {args : Array Value} {below : List Frame} {meth : Method} {c : Code} {A : Nat → Prop} {H : Heap} {locs : List Loc} {lsA : Array Slot} {σ : rk_M} {R0 : rk_R} {av : Array Value} {ls st0 r : List Value} (X : rk_Cx g cc nL ret own p s m args meth c A) (hl : lv_has lsA nL (rk_lv g.2.2.1 ls)) (hD : va_D A (rk_w g.2.2.1 g.2.2.2 σ)) (hS : va_S A s.heap H locs)
    (hrun : va_Run p g.1 e (rk_rm h) s m args below meth c H locs 0 0 0 0 (F0 m pc lsA st0) (r.map (rk_cv g.2.2.1)) (rk_Q g R0 (va_A (rk_w g.2.2.1 g.2.2.2 σ) H.size) av) (va_A (rk_w g.2.2.1 g.2.2.2 σ) H.size)) (hR0 : ∀ v σ', R0 v σ' → (∀ a, v ≠ some (.ref a)) ∧ K ls (v.toList ++ r) σ') (kk : rk_AK g cc nL ret own h R (pc + 3) K) :
    W p g.1 e (rk_rm h) s m args below meth c H locs 0 0 (MQ below (rk_Q g R A) args s 0 0 A) (F0 m pc lsA st0) := by
  have hfree : ∀ q, va_A (rk_w g.2.2.1 g.2.2.2 σ) H.size q → A q := by
    intro q hq
    rcases hq with ⟨k, e0, hk⟩ | hq
    · exact hD.2 k _ hk
    · exact X.2.2.2.2.2.2.2.2 q (Nat.le_trans hS.1 hq)
  intro T hT XT
  obtain ⟨v, st₀, t, T', L, h0, X', hL, e1, e2, ⟨⟨v', σ', hv, hr, hP1, hK1, hD1⟩, hz, hk⟩, st⟩ := hrun T hT XT
  cases hv
  rw [h0] at hz hk
  obtain ⟨hnr, hKK⟩ := hR0 v σ' hr
  have hst : (v.toList ++ r).map (rk_cv g.2.2.1) = v.toList ++ r.map (rk_cv g.2.2.1) := by
    rw [List.map_append]
    congr 1
    cases v with
    | none => rfl
    | some w =>
      cases w with
      | ref a => exact absurd rfl (hnr a)
      | _ => rfl
  have hS1 : va_S A s.heap T'.heap (locs ++ L) := ⟨Nat.le_trans hS.1 (by rw [e1]; exact hz), fun q h1 h2 => by rw [e1, hk q (Nat.lt_of_lt_of_le h1 hS.1) (fun z => h2 (hfree q z))]; exact hS.2.1 q h1 h2, fun q hq => by
      rcases List.mem_append.mp hq with h | h
      · exact hS.2.2 q h
      · exact hfree _ (hL q h)⟩
  have hw := kk ls (v.toList ++ r) σ' hKK p e s m args below meth c A T'.heap (locs ++ L) lsA X hl (by rw [e1]; exact hP1) (hD1.weaken (fun _ q _ z => hfree q.1 z)) hS1
  rw [hst] at hw
  obtain ⟨t2, a1, b1⟩ := hw T' rfl X'
  exact ⟨t2, st t2 a1, b1⟩
theorem rk_pre_blind {vs : List Value} {σ : rk_M} {sz : Nat} : FrameBlind (rk_Pre g vs σ sz) := fun a U f mk q => by
  obtain ⟨q0, q1, qP, qK, qD⟩ := q
  exact ⟨q0, q1, qP, rk_Kk.same (u := U) (U := U.calling f mk a) rfl qK, qD⟩
theorem rk_pre_of {s : State} {H : Heap} {A : Nat → Prop} {σ : rk_M} {vs : List Value} (hK : rk_Kk g s) (hP : va_P g.2.1 vwCl (rk_w g.2.2.1 g.2.2.2 σ) H) (hD : va_D A (rk_w g.2.2.1 g.2.2.2 σ)) : ∀ U : State, U.heap = H → s.WarmedH U.vm → rk_Pre g vs σ H.size (vs.map (rk_cv g.2.2.1)).toArray U := fun U hU hW => ⟨rfl, by rw [hU], by rw [hU]; exact hP, rk_Kk.moved hW hK, hD.weaken (fun _ _ _ _ => trivial)⟩
theorem rk_goodIn {y : MethodName} {bytes : ByteArray} {maxL : Nat} {ret : Option FieldType} (hc : Cond.code y bytes maxL ret ∈ rk_T) : GoodIn rk_T (rk_ws y bytes maxL ret) := by
  intro w hw
  rcases List.mem_cons.mp hw with rfl | hw
  · exact ⟨hc, rk_good hc⟩
  · exact ⟨hw, rk_good hw⟩
theorem rk_roomy {h h' maxL : Nat} (hh : h' < h) (hm : maxL ≤ 21) : (rk_rm h').frames + 1 ≤ (rk_rm h).frames ∧ 8 + (maxL + 11) + (rk_rm h').locals ≤ (rk_rm h).locals := by
  unfold rk_rm
  dsimp only
  omega
def rk_kont (K : rk_K) (ls r : List Value) : rk_R := fun v σ' => (∀ a, v ≠ some (.ref a)) ∧ K ls (v.toList ++ r) σ'
/-- an own instance method, or one of another own class -/
def rk_cV (g : rk_G) (n ci : Nat) (y : MethodName) (bytes : ByteArray) (maxL : Nat) (ret : Option FieldType) (h : Nat) (K : rk_K) : rk_K := fun ls st σ => match st.drop n with
  | .ref c :: r => (rk_ob c = ci + 1 ∧ rk_small r ∧ n ≤ st.length) ∧ rk_does g y bytes maxL ret h (.ref c :: (st.take n).reverse) σ (rk_kont K ls r)
  | _ => False
theorem rk_cV_ok {n ci index maxL h' N : Nat} {C : String} {T : u_T} {y : MethodName} {bytes : ByteArray} {ret' : Option FieldType} (hd : decode cc pc = .ok (.invokevirtual index, 3)) (hcl : vwCl[ci]? = some (C, T, N)) (hy : y.cls = C) (hp : y.cls ≠ "java/lang/invoke/MethodHandle" ∧ y.cls ≠ "java/lang/invoke/VarHandle" ∧ (parseMethodDescriptor y.desc).map (fun d => d.parameters.length) = some n)
    (h1 : Cond.methodLink own index y ∈ rk_T) (h2 : Cond.instanceMethod y ∈ rk_T) (h3 : Cond.selects C y y ∈ rk_T) (h4 : Cond.initialized C ∈ rk_T) (h5 : Cond.code y bytes maxL ret' ∈ rk_T) (hh : h' < h) (hm : maxL ≤ 21) (kk : rk_AK g cc nL ret own h R (pc + 3) K) : rk_AK g cc nL ret own h R pc (rk_cV g n ci y bytes maxL ret' h' K) := by
  intro ls st σ hK p e s m args below meth c A H locs lsA X hl hP hD hS
  unfold rk_cV at hK
  split at hK
  · rename_i c0 r hst
    obtain ⟨⟨h0, hsm, hlen⟩, R0, hmet, hR0⟩ := hK
    have he := rk_wg (a := g.2.2.1) (cA := g.2.2.2) (σ := σ) (rk_obN h0)
    rw [rk_e_obj h0] at he
    have hts := X.2.2.2.2.2.2.1
    have hB : CallB (rk_rm h) s args own index y bytes maxL ret' (rk_ws y bytes maxL ret') (rk_rm h') 0 0 n := callB_of n hts (rk_goodIn h5) rfl rfl rfl (by rw [hy]; exact hts _ h4) (hts _ h1) hp (rk_roomy hh hm)
    have hW : CallW (rk_rm h) s args own C index y bytes maxL ret' (rk_ws y bytes maxL ret') (rk_rm h') 0 0 n := ⟨hB, hts _ h2, hts _ h3⟩
    have hstk : st.map (rk_cv g.2.2.1) = (((st.take n).reverse.map (rk_cv g.2.2.1))).reverse ++ .ref (g.2.2.1 c0) :: r.map (rk_cv g.2.2.1) := by
      rw [List.map_reverse, List.reverse_reverse]
      conv => lhs; rw [← List.take_append_drop n st, hst, List.map_append]
      rfl
    refine rk_after X hl hD hS (va_runV (As := (st.take n).reverse.map (rk_cv g.2.2.1)) (rest := r.map (rk_cv g.2.2.1)) (b := g.2.2.1 c0) ⟨X.1, X.2.1, X.2.2.1, X.2.2.2.2.2.1, hts⟩ (hmet H.size) hW ⟨rk_pre_blind, va_recv X.2.2.2.2.2.2.2.1.1 hP (q0 := c0) hcl he, rk_pre_of X.2.2.2.2.2.2.2.1 hP hD⟩ rfl (by rw [List.length_map, List.length_reverse, List.length_take]; omega) hl.1 hstk (lv_room (rk_small_cv hsm)) hd ⟨Nat.le_refl 0, Nat.le_refl 0⟩) hR0 kk
  · exact hK.elim
/-- a static method: of the own class, or of another one -/
def rk_cS (g : rk_G) (n : Nat) (y : MethodName) (bytes : ByteArray) (maxL : Nat) (ret : Option FieldType) (h : Nat) (K : rk_K) : rk_K := fun ls st σ =>
  (rk_small (st.drop n) ∧ n ≤ st.length) ∧ rk_does g y bytes maxL ret h (st.take n).reverse σ (rk_kont K ls (st.drop n))
theorem rk_cS_ok {n index maxL h' : Nat} {y : MethodName} {bytes : ByteArray} {ret' : Option FieldType} (hd : decode cc pc = .ok (.invokestatic index, 3)) (hp : y.cls ≠ "java/lang/invoke/MethodHandle" ∧ y.cls ≠ "java/lang/invoke/VarHandle" ∧ (parseMethodDescriptor y.desc).map (fun d => d.parameters.length) = some n)
    (h1 : Cond.methodLink own index y ∈ rk_T) (h2 : Cond.static y ∈ rk_T) (h4 : Cond.initialized y.cls ∈ rk_T) (h5 : Cond.code y bytes maxL ret' ∈ rk_T) (hh : h' < h) (hm : maxL ≤ 21) (kk : rk_AK g cc nL ret own h R (pc + 3) K) : rk_AK g cc nL ret own h R pc (rk_cS g n y bytes maxL ret' h' K) := by
  intro ls st σ hK p e s m args below meth c A H locs lsA X hl hP hD hS
  obtain ⟨⟨hsm, hlen⟩, R0, hmet, hR0⟩ := hK
  have hts := X.2.2.2.2.2.2.1
  have hB : CallB (rk_rm h) s args own index y bytes maxL ret' (rk_ws y bytes maxL ret') (rk_rm h') 0 0 n := callB_of n hts (rk_goodIn h5) rfl rfl rfl (hts _ h4) (hts _ h1) hp (rk_roomy hh hm)
  have hstk : st.map (rk_cv g.2.2.1) = (((st.take n).reverse.map (rk_cv g.2.2.1))).reverse ++ (st.drop n).map (rk_cv g.2.2.1) := by
    rw [List.map_reverse, List.reverse_reverse, ← List.map_append, List.take_append_drop]
  exact rk_after X hl hD hS (va_runS (As := (st.take n).reverse.map (rk_cv g.2.2.1)) (rest := (st.drop n).map (rk_cv g.2.2.1)) ⟨X.1, X.2.1, X.2.2.1, X.2.2.2.2.2.1, hts⟩ (hmet H.size) ⟨hB, hts _ h2⟩ ⟨rk_pre_blind, rk_pre_of X.2.2.2.2.2.2.2.1 hP hD⟩ rfl (by rw [List.length_map, List.length_reverse, List.length_take]; omega) hl.1 hstk (lv_room (rk_small_cv hsm)) hd ⟨Nat.le_refl 0, Nat.le_refl 0⟩) hR0 kk
theorem rk_cN_ok {n index maxL h' : Nat} {y : MethodName} {bytes : ByteArray} {ret' : Option FieldType} (hd : decode cc pc = .ok (.invokestatic index, 3)) (hp : y.cls ≠ "java/lang/invoke/MethodHandle" ∧ y.cls ≠ "java/lang/invoke/VarHandle" ∧ (parseMethodDescriptor y.desc).map (fun d => d.parameters.length) = some n)
    (h1 : (own, index, y) ∈ rk_nest) (h2 : Cond.static y ∈ rk_T) (h4 : Cond.initialized y.cls ∈ rk_T) (h5 : Cond.code y bytes maxL ret' ∈ rk_T) (hh : h' < h) (hm : maxL ≤ 21) (kk : rk_AK g cc nL ret own h R (pc + 3) K) : rk_AK g cc nL ret own h R pc (rk_cS g n y bytes maxL ret' h' K) := by
  intro ls st σ hK p e s m args below meth c A H locs lsA X hl hP hD hS
  obtain ⟨⟨hsm, hlen⟩, R0, hmet, hR0⟩ := hK
  have hts := X.2.2.2.2.2.2.1
  have hB : va_CN (rk_rm h) s args own index y RX6 bytes maxL ret' (rk_ws y bytes maxL ret') (rk_rm h') 0 0 n := va_cnB n hts (rk_goodIn h5) rfl rfl rfl (X.2.2.2.2.2.2.2.1.2 _ h1) (hts _ h4) hp (rk_roomy hh hm)
  have hstk : st.map (rk_cv g.2.2.1) = (((st.take n).reverse.map (rk_cv g.2.2.1))).reverse ++ (st.drop n).map (rk_cv g.2.2.1) := by
    rw [List.map_reverse, List.reverse_reverse, ← List.map_append, List.take_append_drop]
  exact rk_after X hl hD hS (va_runSN (As := (st.take n).reverse.map (rk_cv g.2.2.1)) (rest := (st.drop n).map (rk_cv g.2.2.1)) ⟨X.1, X.2.1, X.2.2.1, X.2.2.2.2.2.1, hts⟩ (hmet H.size) ⟨hB, hts _ h2, trivial⟩ ⟨rk_pre_blind, rk_pre_of X.2.2.2.2.2.2.2.1 hP hD⟩ rfl (by rw [List.length_map, List.length_reverse, List.length_take]; omega) hl.1 hstk (lv_room (rk_small_cv hsm)) hd ⟨Nat.le_refl 0, Nat.le_refl 0⟩) hR0 kk
def rk_mmin (K : rk_K) : rk_K := fun ls st σ => match st with
  | .int y :: .int x :: r => rk_small r ∧ K ls (.int (if y < x then y else x) :: r) σ
  | _ => False
theorem rk_mmin_ok {index : Nat} (hd : decode cc pc = .ok (.invokestatic index, 3)) (h1 : Cond.methodLink own index Lib.Math.min.name ∈ rk_T) (h2 : Cond.static Lib.Math.min.name ∈ rk_T) (h4 : Cond.initialized "java/lang/Math" ∈ rk_T) (h5 : Cond.code Lib.Math.min.name Lib.Math.min.code 2 (some .int) ∈ rk_T) (hh : 0 < h) (kk : rk_AK g cc nL ret own h R (pc + 3) K) : rk_AK g cc nL ret own h R pc (rk_mmin K) := by
  intro ls st σ hK p e s m args below meth c A H locs lsA X hl hP hD hS
  unfold rk_mmin at hK
  split at hK
  · rename_i y x r
    have hts := X.2.2.2.2.2.2.1
    have hsm := rk_small_cv (a := g.2.2.1) hK.1
    exact va_mmin X.1 X.2.1 (X.2.2.1.trans hl.1.symm) X.2.2.2.2.2.1 (hts _ h1) (hts _ h2) (hts _ h4) (hts _ h5) (by unfold rk_rm; dsimp only; omega) (by unfold rk_rm; dsimp only; omega) (Nat.le_refl 0) (Nat.le_refl 0) hd (kk _ _ _ hK.2 p e s m args below meth c A H locs lsA X hl hP hD hS)
  · exact hK.elim
def rk_mmax (K : rk_K) : rk_K := fun ls st σ => match st with
  | .int y :: .int x :: r => rk_small r ∧ K ls (.int (if x < y then y else x) :: r) σ
  | _ => False
theorem rk_mmax_ok {index : Nat} (hd : decode cc pc = .ok (.invokestatic index, 3)) (h1 : Cond.methodLink own index Lib.Math.max.name ∈ rk_T) (h2 : Cond.static Lib.Math.max.name ∈ rk_T) (h4 : Cond.initialized "java/lang/Math" ∈ rk_T) (h5 : Cond.code Lib.Math.max.name Lib.Math.max.code 2 (some .int) ∈ rk_T) (hh : 0 < h) (kk : rk_AK g cc nL ret own h R (pc + 3) K) : rk_AK g cc nL ret own h R pc (rk_mmax K) := by
  intro ls st σ hK p e s m args below meth c A H locs lsA X hl hP hD hS
  unfold rk_mmax at hK
  split at hK
  · rename_i y x r
    have hts := X.2.2.2.2.2.2.1
    have hsm := rk_small_cv (a := g.2.2.1) hK.1
    exact va_mmax X.1 X.2.1 (X.2.2.1.trans hl.1.symm) X.2.2.2.2.2.1 (hts _ h1) (hts _ h2) (hts _ h4) (hts _ h5) (by unfold rk_rm; dsimp only; omega) (by unfold rk_rm; dsimp only; omega) (Nat.le_refl 0) (Nat.le_refl 0) hd (kk _ _ _ hK.2 p e s m args below meth c A H locs lsA X hl hP hD hS)
  · exact hK.elim
def rk_mabs (K : rk_K) : rk_K := fun ls st σ => match st with
  | .int x :: r => rk_small r ∧ K ls (.int (if 0 ≤ x then x else 0 - x) :: r) σ
  | _ => False
theorem rk_mabs_ok {index : Nat} (hd : decode cc pc = .ok (.invokestatic index, 3)) (h1 : Cond.methodLink own index Lib.Math.abs.name ∈ rk_T) (h2 : Cond.static Lib.Math.abs.name ∈ rk_T) (h4 : Cond.initialized "java/lang/Math" ∈ rk_T) (h5 : Cond.code Lib.Math.abs.name Lib.Math.abs.code 1 (some .int) ∈ rk_T) (hh : 0 < h) (kk : rk_AK g cc nL ret own h R (pc + 3) K) : rk_AK g cc nL ret own h R pc (rk_mabs K) := by
  intro ls st σ hK p e s m args below meth c A H locs lsA X hl hP hD hS
  unfold rk_mabs at hK
  split at hK
  · rename_i x r
    have hts := X.2.2.2.2.2.2.1
    have hsm := rk_small_cv (a := g.2.2.1) hK.1
    exact va_mabs X.1 X.2.1 (X.2.2.1.trans hl.1.symm) X.2.2.2.2.2.1 (hts _ h1) (hts _ h2) (hts _ h4) (hts _ h5) (by unfold rk_rm; dsimp only; omega) (by unfold rk_rm; dsimp only; omega) (Nat.le_refl 0) (Nat.le_refl 0) hd (kk _ _ _ hK.2 p e s m args below meth c A H locs lsA X hl hP hD hS)
  · exact hK.elim
def rk_mf (σ : rk_M) (c : Nat) (f : Nat → Int32) : rk_M := (fun c' => if c' = c then f else σ.1 c', σ.2)
theorem rk_mf_ne {σ : rk_M} {c c' : Nat} {f : Nat → Int32} (h : c' ≠ c) : (rk_mf σ c f).1 c' = σ.1 c' := by unfold rk_mf; exact if_neg h
theorem rk_mf_eq {σ : rk_M} {c : Nat} {f : Nat → Int32} : (rk_mf σ c f).1 c = f := by unfold rk_mf; exact if_pos rfl
theorem rk_mf_2 {σ : rk_M} {c : Nat} {f : Nat → Int32} : (rk_mf σ c f).2 = σ.2 := rfl
def rk_cpy (K : rk_K) : rk_K := fun ls st σ => match st with
  | .int n :: .int dp :: .ref c1 :: .int sp :: .ref c0 :: r => (rk_kd c0 = 1 ∧ rk_kd c1 = 1 ∧ ¬ sp < 0 ∧ ¬ dp < 0 ∧ ¬ n < 0 ∧ sp.toNatClampNeg + n.toNatClampNeg ≤ rk_ln c0 ∧ dp.toNatClampNeg + n.toNatClampNeg ≤ rk_ln c1 ∧ rk_small r) ∧ K ls r (rk_mf σ c1 (va_cpy (σ.1 c0) (σ.1 c1) sp.toNatClampNeg dp.toNatClampNeg n.toNatClampNeg))
  | _ => False
theorem rk_cpy_ok {index : Nat} (hd : decode cc pc = .ok (.invokestatic index, 3)) (h1 : Cond.methodLink own index arraycopyName ∈ rk_T) (h2 : Cond.native arraycopyName ∈ rk_T) (h3 : Cond.static arraycopyName ∈ rk_T) (h4 : Cond.initialized "java/lang/System" ∈ rk_T) (hh : 0 < h) (kk : rk_AK g cc nL ret own h R (pc + 3) K) : rk_AK g cc nL ret own h R pc (rk_cpy K) := by
  intro ls st σ hK p e s m args below meth c A H locs lsA X hl hP hD hS
  unfold rk_cpy at hK
  split at hK
  · rename_i n dp c1 sp c0 r
    obtain ⟨⟨k0, k1, a1, a2, a3, a4, a5, hsm⟩, hK⟩ := hK
    have hts := X.2.2.2.2.2.2.1
    have hsm := rk_small_cv (a := g.2.2.1) hsm
    have he0 := rk_wg (a := g.2.2.1) (cA := g.2.2.2) (σ := σ) (rk_kdN k0)
    rw [rk_e_arr (rk_kdO k0) (by omega), k0] at he0
    have he1 := rk_wg (a := g.2.2.1) (cA := g.2.2.2) (σ := σ) (rk_kdN k1)
    rw [rk_e_arr (rk_kdO k1) (by omega), k1] at he1
    have hset := rk_wset (a := g.2.2.1) (cA := g.2.2.2) (σ := σ) (σ' := rk_mf σ c1 (va_cpy (σ.1 c0) (σ.1 c1) sp.toNatClampNeg dp.toNatClampNeg n.toNatClampNeg)) (rk_kdN k1) (by rw [rk_e_arr (rk_kdO k1) (by omega), k1, rk_mf_eq]) (fun c' z => rk_e_ext (rk_mf_ne z) rfl)
    have hwd : nativeFrameWords "java/lang/System" "arraycopy" 5 ≤ 20 := by decide +kernel
    refine va_copyi (D := g.2.1) (cl := vwCl) (tys := rk_tys g.2.2.2) (ty := .int) X.1 X.2.1 (X.2.2.1.trans hl.1.symm) X.2.2.2.2.2.1 (hts _ h1) (hts _ h2) (hts _ h3) (hts _ h4) X.2.2.2.2.2.2.2.1.1 hP hD hS c0 c1 0 0 he0 he1 rfl rfl rfl a1 a2 a3 a4 a5 (fun _ _ => rfl) (by unfold rk_rm; dsimp only; omega) (by unfold rk_rm; dsimp only; omega) hd (fun H1 locs1 hP1 hD1 hS1 => ?_)
    erw [hset] at hP1 hD1
    exact kk _ _ _ hK p e s m args below meth c A H1 locs1 lsA X hl hP1 hD1 hS1
  · exact hK.elim
end RK6
