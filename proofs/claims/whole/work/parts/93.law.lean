/-! ===== the law ===== -/
def lw_X (g : rk_G) (p : Program) (s : State) (m : MethodId) (meth : Method) (c : Code) (b L : Nat) (xs : Nat → Int32) : Prop := lw_At p s m meth c b L xs ∧ rk_Kk g s
def lw_I (g : rk_G) (s : State) (b i : Nat) (H : Heap) (locs : List Loc) (ls : Array Slot) (σ : rk_M) : Prop := lv_has ls 4 [(3, .int (nI i)), (2, .ref (g.2.2.1 42)), (1, .ref (g.2.2.1 0)), (0, .ref b)] ∧ va_P g.2.1 vwCl (rk_w g.2.2.1 g.2.2.2 σ) H ∧ va_D (fun q : Nat => s.heap.size ≤ q) (rk_w g.2.2.1 g.2.2.2 σ) ∧ va_S (fun q : Nat => s.heap.size ≤ q) s.heap H locs
abbrev lw_W (g : rk_G) (p : Program) (e : Env) (s : State) (m : MethodId) (below : List Frame) (meth : Method) (c : Code) (b pc : Nat) (H : Heap) (locs : List Loc) (ls : Array Slot) (st : List Value) : Prop := W p g.1 e room_1 s m #[Value.ref b] below meth c H locs 65 1733 (lw_Z below #[Value.ref b] s) (F0 m pc ls st)
def lw_K (g : rk_G) (p : Program) (e : Env) (s : State) (m : MethodId) (below : List Frame) (meth : Method) (c : Code) (b i pc : Nat) : Prop := ∀ (H : Heap) (locs : List Loc) (ls : Array Slot) (σ : rk_M), lw_I g s b i H locs ls σ → Inv σ → lw_W g p e s m below meth c b pc H locs ls []
theorem lg_cmp_self (z : Int64) : lg_cmp z z = 0 := by
  unfold lg_cmp
  rw [if_neg (Int64.lt_irrefl), if_pos rfl]
theorem and31 (y : Int32) : ∃ j, j < 32 ∧ y &&& 31 = nI j := by
  refine ⟨y.toBitVec.toNat % 32, Nat.mod_lt _ (by decide), ?_⟩
  apply Int32.toBitVec_inj.mp
  apply BitVec.eq_of_toNat_eq
  rw [Int32.toBitVec_and, BitVec.toNat_and]
  show y.toBitVec.toNat &&& 31 = (BitVec.ofNat 32 (y.toBitVec.toNat % 32)).toNat
  rw [BitVec.toNat_ofNat, Nat.and_two_pow_sub_one_eq_mod _ 5]
  omega
section Law
variable {p : Program} {e : Env} {s : State} {m : MethodId} {below : List Frame} {meth : Method} {c : Code} {b L i : Nat} {xs : Nat → Int32} {g : rk_G} {H : Heap} {locs : List Loc} {ls : Array Slot} {σ : rk_M} {pc : Nat} {rest : List Value}
theorem lw_hts (X : lw_X g p s m meth c b L xs) : ∀ w ∈ rk_T, w.before #[Value.ref b] s = true := fun w hw => X.1.2.2.2.2.2.1 w (List.mem_filter.mp hw).1
/-- an int of the script -/
theorem lw_arg (X : lw_X g p s m meth c b L xs) (hL : L ≤ 3072) (hl : lv_has ls 4 [(3, .int (nI i)), (2, .ref (g.2.2.1 42)), (1, .ref (g.2.2.1 0)), (0, .ref b)]) (hS : va_S (fun q : Nat => s.heap.size ≤ q) s.heap H locs) {k : Nat} {k' : Int} (hik : i + k < L) (d0 : decode code pc = .ok (.aload_n 0, 1)) (d1 : decode code (pc + 1) = .ok (.iload_n 3, 1)) (d2 : decode code (pc + 2) = .ok (.iconst k', 1)) (hk : Int32.ofInt k' = nI k) (d3 : decode code (pc + 3) = .ok (.iadd, 1)) (d4 : decode code (pc + 4) = .ok (.iaload, 1))
    (kk : lw_W g p e s m below meth c b (pc + 5) H locs ls (.int (xs (i + k)) :: rest)) : lw_W g p e s m below meth c b pc H locs ls rest := by
  have hbA : ¬ (fun q : Nat => s.heap.size ≤ q) b := Nat.not_le.mpr X.1.2.2.2.2.2.2.2.1
  refine lv_aload_n X.1.1 X.1.2.1 d0 rfl (lv_at hl 3 rfl) ?_
  refine lv_iload_n X.1.1 X.1.2.1 d1 rfl (lv_at hl 0 rfl) ?_
  refine lv_iconst X.1.1 X.1.2.1 d2 hk ?_
  refine lv_iadd X.1.1 X.1.2.1 d3 ?_
  rw [nI_add]
  refine va_sld X.1.1 X.1.2.1 X.1.2.2.2.2.2.2.1 X.1.2.2.2.2.2.2.2.1 hbA hS (vp_in_nI hik (by omega)) d4 ?_
  rw [nI_clamp (by omega)]
  exact kk
/-- a call -/
theorem lw_cV (X : lw_X g p s m meth c b L xs) {n ci index maxL h' N c0 : Nat} {C : String} {T : u_T} {y : MethodName} {bytes : ByteArray} {ret' : Option FieldType} {As st : List Value} {R : rk_R} {lv : List (Nat × Value)} (hl : lv_has ls 4 lv) (hP : va_P g.2.1 vwCl (rk_w g.2.2.1 g.2.2.2 σ) H) (hD : va_D (fun q : Nat => s.heap.size ≤ q) (rk_w g.2.2.1 g.2.2.2 σ)) (hS : va_S (fun q : Nat => s.heap.size ≤ q) s.heap H locs) (hst : st = (As.map (rk_cv g.2.2.1)).reverse ++ .ref (g.2.2.1 c0) :: rest) (hd : decode code pc = .ok (.invokevirtual index, 3)) (hcl : vwCl[ci]? = some (C, T, N)) (hy : y.cls = C) (hp : y.cls ≠ "java/lang/invoke/MethodHandle" ∧ y.cls ≠ "java/lang/invoke/VarHandle" ∧ (parseMethodDescriptor y.desc).map (fun d => d.parameters.length) = some n)
    (h1 : Cond.methodLink RL index y ∈ rk_T) (h2 : Cond.instanceMethod y ∈ rk_T) (h3 : Cond.selects C y y ∈ rk_T) (h4 : Cond.initialized C ∈ rk_T) (h5 : Cond.code y bytes maxL ret' ∈ rk_T) (hh : h' ≤ 13) (hm : maxL ≤ 21) (h0 : rk_ob c0 = ci + 1) (hlen : As.length = n) (hsm : (rest.map fun v => v.category).sum ≤ 8) (hdo : rk_does g y bytes maxL ret' h' (.ref c0 :: As) σ R)
    (kk : ∀ (v : Option Value) (σ1 : rk_M) (H1 : Heap) (locs1 : List Loc), R v σ1 → va_P g.2.1 vwCl (rk_w g.2.2.1 g.2.2.2 σ1) H1 → va_D (fun q : Nat => s.heap.size ≤ q) (rk_w g.2.2.1 g.2.2.2 σ1) → va_S (fun q : Nat => s.heap.size ≤ q) s.heap H1 locs1 → lw_W g p e s m below meth c b (pc + 3) H1 locs1 ls (v.toList ++ rest)) : lw_W g p e s m below meth c b pc H locs ls st := by
  subst hst
  obtain ⟨R0, hmet, hR0⟩ := hdo
  have hts := lw_hts X
  have he := rk_wg (a := g.2.2.1) (cA := g.2.2.2) (σ := σ) (rk_obN h0)
  rw [rk_e_obj h0] at he
  have hB : CallB room_1 s #[Value.ref b] RL index y bytes maxL ret' (rk_ws y bytes maxL ret') (rk_rm h') 0 0 n := callB_of n hts (rk_goodIn h5) rfl rfl rfl (by rw [hy]; exact hts _ h4) (hts _ h1) hp (by unfold rk_rm room_1; dsimp only; omega)
  have hW : CallW room_1 s #[Value.ref b] RL C index y bytes maxL ret' (rk_ws y bytes maxL ret') (rk_rm h') 0 0 n := ⟨hB, hts _ h2, hts _ h3⟩
  have hfree : ∀ q, va_A (rk_w g.2.2.1 g.2.2.2 σ) H.size q → (fun q : Nat => s.heap.size ≤ q) q := by
    intro q hq
    rcases hq with ⟨k, e0, hk⟩ | hq
    · exact hD.2 k _ hk
    · exact Nat.le_trans hS.1 hq
  have hrun := va_runV (p := p) (l := g.1) (e := e) (R := room_1) (below := below) (meth := meth) (H := H) (locs := locs) (cells := 65) (slots := 1733) (As := As.map (rk_cv g.2.2.1)) (rest := rest) (b := g.2.2.1 c0) (g := F0 m pc ls ((As.map (rk_cv g.2.2.1)).reverse ++ .ref (g.2.2.1 c0) :: rest)) ⟨X.1.1, X.1.2.1, X.1.2.2.2.1, X.1.2.2.2.2.1, hts⟩ (hmet H.size) hW ⟨rk_pre_blind, va_recv X.2.1 hP (q0 := c0) hcl he, rk_pre_of (vs := .ref c0 :: As) X.2 hP hD⟩ rfl (by rw [List.length_map]; exact hlen) hl.1 rfl (lv_room hsm) hd ⟨Nat.le_of_ble_eq_true rfl, Nat.le_of_ble_eq_true rfl⟩
  intro T hT XT
  obtain ⟨v, st₀, t, T', L', h0', X', hL', e1, e2, ⟨⟨v', σ', hv, hr, hP1, hK1, hD1⟩, hz, hk⟩, stp⟩ := hrun T hT XT
  cases hv
  rw [h0'] at hz hk
  have hS1 : va_S (fun q : Nat => s.heap.size ≤ q) s.heap T'.heap (locs ++ L') := ⟨Nat.le_trans hS.1 (by rw [e1]; exact hz), fun q h1 h2 => by rw [e1, hk q (Nat.lt_of_lt_of_le h1 hS.1) (fun z => h2 (hfree q z))]; exact hS.2.1 q h1 h2, fun q hq => by
      rcases List.mem_append.mp hq with h | h
      · exact hS.2.2 q h
      · exact hfree _ (hL' q h)⟩
  obtain ⟨t2, a1, b1⟩ := kk v σ' T'.heap (locs ++ L') (hR0 v σ' hr) (by rw [e1]; exact hP1) (hD1.weaken (fun _ q _ z => hfree q.1 z)) hS1 T' rfl X'
  exact ⟨t2, stp t2 a1, b1⟩
end Law
