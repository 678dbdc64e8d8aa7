/-! ===== the frame: a run of calls over cells whose shape stays: what is held is σ (ints by cell and place, longs likewise) ===== -/
abbrev rk_M : Type := (Nat → Nat → Int32) × (Nat → Nat → Int64)
abbrev rk_K : Type := List Value → List Value → rk_M → Prop
abbrev rk_G : Type := Launch × va_G × (Nat → Nat) × (Nat → ClassId)
abbrev rk_R : Type := Option Value → rk_M → Prop
def rk_cv (a : Nat → Nat) : Value → Value
  | .ref k => .ref (a k)
  | v => v
def rk_fv (a : Nat → Nat) (σ : rk_M) (c k f : Nat) : Value := match f with
  | 0 => .int (σ.1 c k)
  | 1 => .long (σ.2 c k)
  | _ => .ref (a (rk_rf c k))
def rk_e (a : Nat → Nat) (cA : Nat → ClassId) (σ : rk_M) (c : Nat) : va_E := match rk_ob c with
  | ci + 1 => .inr (ci, (rk_fk ci).mapIdx (fun k f => rk_fv a σ c k f))
  | 0 => if rk_kd c = 3 then .inl (cA 2, 4, .inr (.inr (.inr (.inr (fun i => some (a (rk_row i)))))))
    else .inl (cA (rk_kd c - 1), rk_ln c, .inl (σ.1 c))
def rk_w (a : Nat → Nat) (cA : Nat → ClassId) (σ : rk_M) : va_W := (List.range rk_N).map (fun c => (a c, rk_e a cA σ c))
def rk_tys (cA : Nat → ClassId) : List (ClassId × FieldType) := [(cA 0, .int), (cA 1, .boolean), (cA 2, .object "RoadStrokes$Row")]
def rk_mi (σ : rk_M) (c j : Nat) (v : Int32) : rk_M := (fun c' => if c' = c then upd (σ.1 c) j v else σ.1 c', σ.2)
def rk_ml (σ : rk_M) (c j : Nat) (v : Int64) : rk_M := (σ.1, fun c' => if c' = c then vp_updL (σ.2 c) j v else σ.2 c')
theorem rk_wg {a : Nat → Nat} {cA : Nat → ClassId} {σ : rk_M} {c : Nat} (h : c < rk_N) : (rk_w a cA σ)[c]? = some (a c, rk_e a cA σ c) := by
  unfold rk_w
  rw [List.getElem?_map, List.getElem?_range h]
  rfl
theorem rk_wlen {a : Nat → Nat} {cA : Nat → ClassId} {σ : rk_M} : (rk_w a cA σ).length = rk_N := by
  unfold rk_w
  rw [List.length_map, List.length_range]
theorem rk_wset {a : Nat → Nat} {cA : Nat → ClassId} {σ σ' : rk_M} {c : Nat} {e' : va_E} (h : c < rk_N) (he : rk_e a cA σ' c = e') (ho : ∀ c', c' ≠ c → rk_e a cA σ' c' = rk_e a cA σ c') : (rk_w a cA σ).set c (a c, e') = rk_w a cA σ' := by
  apply List.ext_getElem?
  intro k
  by_cases hk : k = c
  · subst hk
    rw [List.getElem?_set_self (by rw [rk_wlen]; exact h), rk_wg h, he]
  · rw [List.getElem?_set_ne (Ne.symm hk)]
    by_cases hN : k < rk_N
    · rw [rk_wg hN, rk_wg hN, ho k hk]
    · rw [List.getElem?_eq_none (by rw [rk_wlen]; omega), List.getElem?_eq_none (by rw [rk_wlen]; omega)]
theorem rk_e_obj {a : Nat → Nat} {cA : Nat → ClassId} {σ : rk_M} {c ci : Nat} (h : rk_ob c = ci + 1) : rk_e a cA σ c = .inr (ci, (rk_fk ci).mapIdx (fun k f => rk_fv a σ c k f)) := by
  unfold rk_e
  rw [h]
theorem rk_e_arr {a : Nat → Nat} {cA : Nat → ClassId} {σ : rk_M} {c : Nat} (h : rk_ob c = 0) (h3 : ¬ rk_kd c = 3) : rk_e a cA σ c = .inl (cA (rk_kd c - 1), rk_ln c, .inl (σ.1 c)) := by
  unfold rk_e
  rw [h]
  simp only [if_neg h3]
theorem rk_e_rows {a : Nat → Nat} {cA : Nat → ClassId} {σ : rk_M} {c : Nat} (h : rk_ob c = 0) (h3 : rk_kd c = 3) : rk_e a cA σ c = .inl (cA 2, 4, .inr (.inr (.inr (.inr (fun i => some (a (rk_row i))))))) := by
  unfold rk_e
  rw [h]
  simp only [if_pos h3]
theorem rk_e_ext {a : Nat → Nat} {cA : Nat → ClassId} {σ σ' : rk_M} {c : Nat} (h1 : σ'.1 c = σ.1 c) (h2 : σ'.2 c = σ.2 c) : rk_e a cA σ' c = rk_e a cA σ c := by
  unfold rk_e
  have hf : ∀ k f, rk_fv a σ' c k f = rk_fv a σ c k f := by
    intro k f
    unfold rk_fv
    rw [h1, h2]
  simp only [hf, h1]
theorem rk_mi_ne {σ : rk_M} {c c' j : Nat} {v : Int32} (h : c' ≠ c) : (rk_mi σ c j v).1 c' = σ.1 c' := by unfold rk_mi; exact if_neg h
theorem rk_mi_eq {σ : rk_M} {c j : Nat} {v : Int32} : (rk_mi σ c j v).1 c = upd (σ.1 c) j v := by unfold rk_mi; exact if_pos rfl
theorem rk_mi_2 {σ : rk_M} {c j : Nat} {v : Int32} : (rk_mi σ c j v).2 = σ.2 := rfl
theorem rk_ml_ne {σ : rk_M} {c c' j : Nat} {v : Int64} (h : c' ≠ c) : (rk_ml σ c j v).2 c' = σ.2 c' := by unfold rk_ml; exact if_neg h
theorem rk_ml_eq {σ : rk_M} {c j : Nat} {v : Int64} : (rk_ml σ c j v).2 c = vp_updL (σ.2 c) j v := by unfold rk_ml; exact if_pos rfl
theorem rk_ml_1 {σ : rk_M} {c j : Nat} {v : Int64} : (rk_ml σ c j v).1 = σ.1 := rfl
theorem rk_fs_seti {a : Nat → Nat} {σ : rk_M} {c k ci : Nat} {v : Int32} (hk : (rk_fk ci)[k]? = some 0) : (rk_fk ci).mapIdx (fun j f => rk_fv a (rk_mi σ c k v) c j f) = ((rk_fk ci).mapIdx (fun j f => rk_fv a σ c j f)).set k (.int v) := by
  apply List.ext_getElem?
  intro j
  by_cases hj : j = k
  · subst hj
    have hl : j < (rk_fk ci).length := (List.getElem?_eq_some_iff.mp hk).1
    rw [List.getElem?_set_self (by rw [List.length_mapIdx]; exact hl), List.getElem?_mapIdx, hk]
    show some (Value.int ((rk_mi σ c j v).1 c j)) = _
    rw [rk_mi_eq, pk_us]
  · rw [List.getElem?_set_ne (Ne.symm hj), List.getElem?_mapIdx, List.getElem?_mapIdx]
    cases hf : (rk_fk ci)[j]? with
    | none => rfl
    | some f =>
      show some (rk_fv a (rk_mi σ c k v) c j f) = some (rk_fv a σ c j f)
      unfold rk_fv
      rw [rk_mi_eq, rk_mi_2, pk_un hj]
theorem rk_fs_setl {a : Nat → Nat} {σ : rk_M} {c k ci : Nat} {v : Int64} (hk : (rk_fk ci)[k]? = some 1) : (rk_fk ci).mapIdx (fun j f => rk_fv a (rk_ml σ c k v) c j f) = ((rk_fk ci).mapIdx (fun j f => rk_fv a σ c j f)).set k (.long v) := by
  apply List.ext_getElem?
  intro j
  by_cases hj : j = k
  · subst hj
    have hl : j < (rk_fk ci).length := (List.getElem?_eq_some_iff.mp hk).1
    rw [List.getElem?_set_self (by rw [List.length_mapIdx]; exact hl), List.getElem?_mapIdx, hk]
    show some (Value.long ((rk_ml σ c j v).2 c j)) = _
    rw [rk_ml_eq, pk_uLs]
  · rw [List.getElem?_set_ne (Ne.symm hj), List.getElem?_mapIdx, List.getElem?_mapIdx]
    cases hf : (rk_fk ci)[j]? with
    | none => rfl
    | some f =>
      show some (rk_fv a (rk_ml σ c k v) c j f) = some (rk_fv a σ c j f)
      unfold rk_fv
      rw [rk_ml_eq, rk_ml_1, pk_uLn hj]
/-- the words that every method has: all of the tables' that stay -/
def rk_T : List Cond := lw_tbl.filter goodWord
theorem rk_in {w : Cond} (i : Nat) (h : tables_1[i]? = some w) (hg : goodWord w = true) : w ∈ rk_T := List.mem_filter.mpr ⟨List.mem_append_right _ (List.mem_of_getElem? h), hg⟩
theorem rk_inS {w : Cond} (i : Nat) (h : (k2_sels lw_privs)[i]? = some w) (hg : goodWord w = true) : w ∈ rk_T := List.mem_filter.mpr ⟨List.mem_append_left _ (List.mem_of_getElem? h), hg⟩
theorem rk_good {w : Cond} (h : w ∈ rk_T) : (w.onTables && w.keeps) = true ∨ ∃ ty, w = .arrayClass ty := good_of_word (List.mem_filter.mp h).2
def rk_ws (y : MethodName) (bytes : ByteArray) (maxL : Nat) (ret : Option FieldType) : List Cond := .code y bytes maxL ret :: rk_T
def rk_rm (h : Nat) : Room := { frames := h, cells := 0, slots := 0, locals := 40 * h }
def rk_Kk (g : rk_G) (U : State) : Prop := va_K g.2.1 vwCl (rk_tys g.2.2.2) U ∧ ∀ q ∈ rk_nest, va_Nw (.methodLinkNest q.1 q.2.1 q.2.2 RX6) U
def rk_B (g : rk_G) (A : Nat → Prop) (σ : rk_M) (t : State) : Prop := va_P g.2.1 vwCl (rk_w g.2.2.1 g.2.2.2 σ) t.heap ∧ rk_Kk g t ∧ va_D A (rk_w g.2.2.1 g.2.2.2 σ)
def rk_Pre (g : rk_G) (vs : List Value) (σ : rk_M) (sz : Nat) : Array Value → State → Prop := va_Pc (vs.map (rk_cv g.2.2.1)) (fun U => U.heap.size = sz ∧ rk_B g (fun _ => True) σ U)
def rk_Q (g : rk_G) (R : rk_R) (A : Nat → Prop) : Array Value → State → Outcome → State → Prop := fun _ st o t => (∃ (v : Option Value) (σ' : rk_M), o = .returned v ∧ R v σ' ∧ rk_B g A σ' t) ∧ va_F A st t
def rk_met (g : rk_G) (y : MethodName) (bytes : ByteArray) (maxL : Nat) (ret : Option FieldType) (h : Nat) (vs : List Value) (σ : rk_M) (R : rk_R) : Prop :=
  ∀ sz, Met g.1 y (rk_ws y bytes maxL ret) (rk_rm h) (rk_Pre g vs σ sz) (rk_Q g R (va_A (rk_w g.2.2.1 g.2.2.2 σ) sz)) 0 0 (va_A (rk_w g.2.2.1 g.2.2.2 σ) sz)
def rk_does (g : rk_G) (y : MethodName) (bytes : ByteArray) (maxL : Nat) (ret : Option FieldType) (h : Nat) (vs : List Value) (σ : rk_M) (R : rk_R) : Prop := ∃ R0 : rk_R, rk_met g y bytes maxL ret h vs σ R0 ∧ ∀ v σ', R0 v σ' → R v σ'
theorem rk_does.mono {g : rk_G} {y : MethodName} {bytes : ByteArray} {maxL : Nat} {ret : Option FieldType} {h : Nat} {vs : List Value} {σ : rk_M} {R R' : rk_R} (hd : rk_does g y bytes maxL ret h vs σ R) (k : ∀ v σ', R v σ' → R' v σ') : rk_does g y bytes maxL ret h vs σ R' := by
  obtain ⟨R0, h1, h2⟩ := hd
  exact ⟨R0, h1, fun v σ' q => k v σ' (h2 v σ' q)⟩
/-! the locals: by their places; .null: nothing is known -/
def rk_lv (a : Nat → Nat) (ls : List Value) : List (Nat × Value) := (List.range ls.length).filterMap (fun j => match ls[j]? with
  | some v => if v = .null then none else some (j, rk_cv a v)
  | none => none)
theorem rk_lv_mem {a : Nat → Nat} {ls : List Value} {q : Nat × Value} : q ∈ rk_lv a ls ↔ ∃ v, ls[q.1]? = some v ∧ v ≠ .null ∧ q.2 = rk_cv a v := by
  unfold rk_lv
  rw [List.mem_filterMap]
  constructor
  · rintro ⟨j, -, h⟩
    cases hv : ls[j]? with
    | none => rw [hv] at h; cases h
    | some v =>
      rw [hv] at h
      by_cases hn : v = .null
      · simp only [if_pos hn] at h; cases h
      · simp only [if_neg hn] at h
        cases h
        exact ⟨v, hv, hn, rfl⟩
  · rintro ⟨v, hv, hn, h2⟩
    refine ⟨q.1, List.mem_range.mpr (List.getElem?_eq_some_iff.mp hv).1, ?_⟩
    rw [hv]
    simp only [if_neg hn]
    rw [← h2]
theorem rk_lv_at {a : Nat → Nat} {lsA : Array Slot} {nL : Nat} {ls : List Value} {i : Nat} {v : Value} (h : lv_has lsA nL (rk_lv a ls)) (hi : ls[i]? = some v) (hn : v ≠ .null) : lsA[i]? = some (.val (rk_cv a v)) := h.2.2 (i, rk_cv a v) (rk_lv_mem.mpr ⟨v, hi, hn, rfl⟩)
def rk_kill (ls : List Value) (i : Nat) : List Value := match i with
  | 0 => ls
  | k + 1 => match ls[k]? with
    | some (.long _) => ls.set k .null
    | some (.double _) => ls.set k .null
    | _ => ls
def rk_st (ls : List Value) (i : Nat) (v : Value) : List Value := (rk_kill ls i).set i v
def rk_st2 (ls : List Value) (i : Nat) (v : Value) : List Value := ((rk_kill ls i).set i v).set (i + 1) .null
theorem rk_kill_at {ls : List Value} {i j : Nat} {v : Value} (hn : v ≠ .null) (h : (rk_kill ls i)[j]? = some v) : ls[j]? = some v ∧ ¬ (j + 1 = i ∧ v.category = 2) := by
  unfold rk_kill at h
  cases i with
  | zero => exact ⟨h, fun q => by omega⟩
  | succ k =>
    dsimp only at h
    by_cases hj : j = k
    · subst hj
      cases hl : ls[j]? with
      | none => rw [hl] at h; dsimp only at h; rw [hl] at h; cases h
      | some w =>
        have hlt : j < ls.length := (List.getElem?_eq_some_iff.mp hl).1
        rw [hl] at h
        cases w with
        | long x => dsimp only at h; rw [List.getElem?_set_self hlt] at h; cases h; exact absurd rfl hn
        | double x => dsimp only at h; rw [List.getElem?_set_self hlt] at h; cases h; exact absurd rfl hn
        | _ => dsimp only at h; rw [hl] at h; cases h; exact ⟨rfl, fun q => by simp [Value.category] at q⟩
    · refine ⟨?_, fun q => by omega⟩
      cases hl : ls[k]? with
      | none => rw [hl] at h; dsimp only at h; exact h
      | some w =>
        rw [hl] at h
        cases w with
        | long x => dsimp only at h; rw [List.getElem?_set_ne (Ne.symm hj)] at h; exact h
        | double x => dsimp only at h; rw [List.getElem?_set_ne (Ne.symm hj)] at h; exact h
        | _ => dsimp only at h; exact h
theorem rk_cv_cat {a : Nat → Nat} {v : Value} : (rk_cv a v).category = v.category := by cases v <;> rfl
theorem rk_has_mono {lsA : Array Slot} {nL : Nat} {l l' : List (Nat × Value)} (h : lv_has lsA nL l) (hs : ∀ q ∈ l', q ∈ l) : lv_has lsA nL l' := ⟨h.1, h.2.1, fun q hq => h.2.2 q (hs q hq)⟩
theorem rk_st_sub {a : Nat → Nat} {ls : List Value} {i : Nat} {v : Value} : ∀ q ∈ rk_lv a (rk_st ls i v), q ∈ (i, rk_cv a v) :: (rk_lv a ls).filter (fun q => !(q.1 == i) && !(q.1 + 1 == i && q.2.category == 2)) := by
  intro q hq
  obtain ⟨w, h1, h2, h3⟩ := rk_lv_mem.mp hq
  unfold rk_st at h1
  by_cases hi : q.1 = i
  · have hlt : i < (rk_kill ls i).length := by
      have := (List.getElem?_eq_some_iff.mp h1).1
      rw [List.length_set] at this
      omega
    rw [hi, List.getElem?_set_self hlt] at h1
    cases h1
    refine List.mem_cons.mpr (Or.inl ?_)
    rw [← hi, ← h3]
  · rw [List.getElem?_set_ne (Ne.symm hi)] at h1
    obtain ⟨h4, h5⟩ := rk_kill_at h2 h1
    refine List.mem_cons_of_mem _ (List.mem_filter.mpr ⟨rk_lv_mem.mpr ⟨w, h4, h2, h3⟩, ?_⟩)
    rw [h3, rk_cv_cat]
    simp only [Bool.and_eq_true, Bool.not_eq_true', beq_eq_false_iff_ne, ne_eq, Bool.and_eq_false_iff]
    refine ⟨hi, ?_⟩
    by_cases hz : q.1 + 1 = i
    · exact Or.inr fun hc => h5 ⟨hz, hc⟩
    · exact Or.inl hz
theorem rk_st2_sub {a : Nat → Nat} {ls : List Value} {i : Nat} {v : Value} : ∀ q ∈ rk_lv a (rk_st2 ls i v), q ∈ (i, rk_cv a v) :: (rk_lv a ls).filter (fun q => !(q.1 == i) && (!(q.1 == i + 1) && !(q.1 + 1 == i && q.2.category == 2))) := by
  intro q hq
  obtain ⟨w, h1, h2, h3⟩ := rk_lv_mem.mp hq
  unfold rk_st2 at h1
  by_cases hi1 : q.1 = i + 1
  · have hlt : i + 1 < ((rk_kill ls i).set i v).length := by
      have := (List.getElem?_eq_some_iff.mp h1).1
      rw [List.length_set] at this
      omega
    rw [hi1, List.getElem?_set_self hlt] at h1
    cases h1
    exact absurd rfl h2
  · rw [List.getElem?_set_ne (Ne.symm hi1)] at h1
    by_cases hi : q.1 = i
    · have hlt : i < (rk_kill ls i).length := by
        have := (List.getElem?_eq_some_iff.mp h1).1
        rw [List.length_set] at this
        omega
      rw [hi, List.getElem?_set_self hlt] at h1
      cases h1
      refine List.mem_cons.mpr (Or.inl ?_)
      rw [← hi, ← h3]
    · rw [List.getElem?_set_ne (Ne.symm hi)] at h1
      obtain ⟨h4, h5⟩ := rk_kill_at h2 h1
      refine List.mem_cons_of_mem _ (List.mem_filter.mpr ⟨rk_lv_mem.mpr ⟨w, h4, h2, h3⟩, ?_⟩)
      rw [h3, rk_cv_cat]
      simp only [Bool.and_eq_true, Bool.not_eq_true', beq_eq_false_iff_ne, ne_eq, Bool.and_eq_false_iff]
      refine ⟨hi, hi1, ?_⟩
      by_cases hz : q.1 + 1 = i
      · exact Or.inr fun hc => h5 ⟨hz, hc⟩
      · exact Or.inl hz
/-! a place in a method -/
def rk_Cx (g : rk_G) (cc : ByteArray) (nL : Nat) (ret : Option FieldType) (own : String) (p : Program) (s : State) (m : MethodId) (args : Array Value) (meth : Method) (c : Code) (A : Nat → Prop) : Prop :=
  p.tables.exec = Jvm.exec ∧ c.code = cc ∧ c.maxLocals = nL ∧ meth.sig.returnType = ret ∧ meth.locks = false ∧ s.vm.findClass own = some m.cls ∧ (∀ w ∈ rk_T, w.before args s = true) ∧ rk_Kk g s ∧ ∀ q, s.heap.size ≤ q → A q
def rk_At (g : rk_G) (cc : ByteArray) (nL : Nat) (ret : Option FieldType) (own : String) (h : Nat) (R : rk_R) (pc : Nat) (ls st : List Value) (σ : rk_M) : Prop :=
  ∀ (p : Program) (e : Env) (s : State) (m : MethodId) (args : Array Value) (below : List Frame) (meth : Method) (c : Code) (A : Nat → Prop) (H : Heap) (locs : List Loc) (lsA : Array Slot),
    rk_Cx g cc nL ret own p s m args meth c A → lv_has lsA nL (rk_lv g.2.2.1 ls) → va_P g.2.1 vwCl (rk_w g.2.2.1 g.2.2.2 σ) H → va_D A (rk_w g.2.2.1 g.2.2.2 σ) → va_S A s.heap H locs →
    W p g.1 e (rk_rm h) s m args below meth c H locs 0 0 (MQ below (rk_Q g R A) args s 0 0 A) (F0 m pc lsA (st.map (rk_cv g.2.2.1)))
def rk_AK (g : rk_G) (cc : ByteArray) (nL : Nat) (ret : Option FieldType) (own : String) (h : Nat) (R : rk_R) (pc : Nat) (K : rk_K) : Prop := ∀ ls st σ, K ls st σ → rk_At g cc nL ret own h R pc ls st σ
/-- the locals at a method's beginning -/
def rk_ent : List Value → List Value
  | [] => []
  | v :: vs => if v.category = 2 then v :: .null :: rk_ent vs else v :: rk_ent vs
theorem rk_ent_sub {a : Nat → Nat} (n : Nat) : ∀ (vs : List Value) (i j : Nat) (w : Value), (rk_ent vs ++ List.replicate n .null)[j]? = some w → w ≠ .null → (i + j, rk_cv a w) ∈ lv_args i (vs.map (rk_cv a)) := by
  intro vs
  induction vs with
  | nil =>
    intro i j w h hn
    simp only [rk_ent, List.nil_append] at h
    obtain ⟨h1, h2⟩ := List.getElem?_eq_some_iff.mp h
    rw [List.getElem_replicate] at h2
    exact absurd h2.symm hn
  | cons v vs ih =>
    intro i j w h hn
    rw [List.map_cons, lv_args, rk_cv_cat]
    by_cases hc : v.category = 2
    · rw [rk_ent, if_pos hc] at h
      rw [if_pos hc]
      match j, h with
      | 0, h => cases h; exact List.mem_cons_self
      | 1, h => cases h; exact absurd rfl hn
      | j + 2, h =>
        have := ih (i + 2) j w h hn
        rw [show i + 2 + j = i + (j + 2) by omega] at this
        exact List.mem_cons_of_mem _ this
    · rw [rk_ent, if_neg hc] at h
      rw [if_neg hc]
      match j, h with
      | 0, h => cases h; exact List.mem_cons_self
      | j + 1, h =>
        have := ih (i + 1) j w h hn
        rw [show i + 1 + j = i + (j + 1) by omega] at this
        exact List.mem_cons_of_mem _ this
theorem rk_slen {a : Nat → Nat} (vs : List Value) : (lg_sl (vs.map (rk_cv a))).length = (rk_ent vs).length := by
  induction vs with
  | nil => rfl
  | cons v vs ih =>
    unfold lg_sl at ih ⊢
    rw [List.map_cons, List.flatMap_cons, List.length_append, ih, rk_cv_cat, rk_ent]
    by_cases hc : v.category = 2
    · rw [if_pos hc, if_pos hc]; simp; omega
    · rw [if_neg hc, if_neg hc]; simp; omega
theorem rk_Kk.moved {g : rk_G} {u U : State} (hW : u.WarmedH U.vm) (h : rk_Kk g u) : rk_Kk g U := ⟨va_K.moved hW.alike h.1, fun q hq => va_Nw.warmM hW (h.2 q hq)⟩
theorem rk_Kk.same {g : rk_G} {u U : State} (hv : u.vm = U.vm) (h : rk_Kk g u) : rk_Kk g U := ⟨va_K.moved (by rw [← hv]; exact Vm.Alike.refl _) h.1, fun q hq => va_Nw.same rfl hv (h.2 q hq)⟩
theorem rk_entry {g : rk_G} {y : MethodName} {cc : ByteArray} {nL : Nat} {ret : Option FieldType} {own : String} {h : Nat} {R : rk_R} {vs ls : List Value} {σ : rk_M} (hy : plainName y.cls = true) (ho : y.cls = own) (hls : rk_ent vs ++ List.replicate (nL - (rk_ent vs).length) .null = ls) (hlen : (rk_ent vs).length ≤ nL)
    (k : rk_At g cc nL ret own h R 0 ls [] σ) : rk_does g y cc nL ret h vs σ R := by
  refine ⟨R, fun sz => ?_, fun _ _ q => q⟩
  refine Met.ofW (cc := cc) (maxL := nL) (ret := ret) hy rfl ?_
  intro p e s m args below meth c s₁ B hml hv
  obtain ⟨rfl, hsz, hP, hK, hD0⟩ := hv
  have hts := atoms_spec (ws := rk_ws y cc nL ret) B.pre
  have hown : s.vm.findClass own = some m.cls := by rw [← ho]; exact findClass_of_methodNamed B.named
  subst hsz
  have hD := hD0.self (sz := s.heap.size)
  have hA : ∀ q : Nat, s.heap.size ≤ q → va_A (rk_w g.2.2.1 g.2.2.2 σ) s.heap.size q := fun q h => Or.inr h
  have hl := lv_entry (vs.map (rk_cv g.2.2.1)) (n := nL) (by rw [rk_slen]; exact hlen)
  rw [lg_entry_eq]
  have hl2 : lv_has ((lg_sl (vs.map (rk_cv g.2.2.1)) ++ List.replicate (nL - (lg_sl (vs.map (rk_cv g.2.2.1))).length) Slot.unset).toArray) nL (rk_lv g.2.2.1 ls) := by
    refine rk_has_mono hl (fun q hq => ?_)
    obtain ⟨w, h1, h2, h3⟩ := rk_lv_mem.mp hq
    rw [← hls] at h1
    have := rk_ent_sub (a := g.2.2.1) _ vs 0 q.1 w h1 h2
    rw [Nat.zero_add, ← h3] at this
    exact this
  exact k p e s m _ below meth c _ s.heap [] _ ⟨B.exec, B.bytes, hml, B.returns, B.notSynchronized, hown, fun w hw => hts w (List.mem_cons_of_mem _ hw), hK, hA⟩ hl2 hP hD va_S.rf
