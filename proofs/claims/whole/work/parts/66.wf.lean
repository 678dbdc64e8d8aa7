/-! ===== nets stay nets ===== -/
section WfP
variable {N : Nt} {h : Hi}
theorem n_tk_f {x y : Int32} (ht : ¬ n_tk N x y = true) {i : Nat} (hi : i < n_m N) (e1 : n_x N i = x) (e2 : n_y N i = y) : False := by
  apply ht
  unfold n_tk
  refine an_iff.mpr ⟨i, Nat.zero_le _, by omega, ?_⟩
  simp [e1, e2]
theorem Wf_addm {x y : Int32} (hW : Wf N) (hx : n_in 0 30 x) (hy : n_in 0 30 y) (ht : ¬ n_tk N x y = true) (hm : ¬ n_m N = 16) : Wf (n_addm N x y) := by
  have h16 := hW.m
  have ex : ∀ i, i < n_m N → n_x (n_addm N x y) i = n_x N i := fun i hi => pk_un (by omega)
  have ey : ∀ i, i < n_m N → n_y (n_addm N x y) i = n_y N i := fun i hi => pk_un (by omega)
  have ex0 : n_x (n_addm N x y) (n_m N) = x := pk_us
  have ey0 : n_y (n_addm N x y) (n_m N) = y := pk_us
  refine ⟨⟨?_, hW.1.2⟩, fun i hi => ?_, fun i j hi hj e1 e2 => ?_, fun r hr => ?_, hW.2.2.2.2.1, hW.2.2.2.2.2⟩
  · show n_m N + 1 ≤ 16
    omega
  · have hi : i < n_m N + 1 := hi
    by_cases e : i = n_m N
    · rw [e, ex0, ey0]; exact ⟨hx, hy⟩
    · rw [ex i (by omega), ey i (by omega)]; exact hW.2.1 i (by omega)
  · have hi : i < n_m N + 1 := hi
    have hj : j < n_m N + 1 := hj
    by_cases a : i = n_m N
    · by_cases b : j = n_m N
      · omega
      · rw [a, ex0, ex j (by omega)] at e1
        rw [a, ey0, ey j (by omega)] at e2
        exact (n_tk_f ht (show j < n_m N by omega) e1.symm e2.symm).elim
    · by_cases b : j = n_m N
      · rw [b, ex0, ex i (by omega)] at e1
        rw [b, ey0, ey i (by omega)] at e2
        exact (n_tk_f ht (show i < n_m N by omega) e1 e2).elim
      · rw [ex i (by omega), ex j (by omega)] at e1
        rw [ey i (by omega), ey j (by omega)] at e2
        exact hW.2.2.1 i j (by omega) (by omega) e1 e2
  · have := hW.2.2.2.1 r hr
    show n_a N r < n_m N + 1 ∧ n_b N r < n_m N + 1 ∧ n_a N r ≠ n_b N r
    exact ⟨by omega, by omega, this.2.2⟩
theorem n_lk_f {a b : Nat} (ht : ¬ n_lk N a b = true) {q : Nat} (hq : q < n_r N) : ¬ n_lkp N a b q = true := fun z => ht (an_iff.mpr ⟨q, Nat.zero_le _, by omega, z⟩)
theorem n_lkp_t {a b q : Nat} (h : n_a N q = a ∧ n_b N q = b ∨ n_a N q = b ∧ n_b N q = a) : n_lkp N a b q = true := by
  unfold n_lkp
  rcases h with ⟨h1, h2⟩ | ⟨h1, h2⟩ <;> simp [h1, h2]
theorem Wf_addr {a b : Nat} {kd us : Int32} (hW : Wf N) (ha : a < n_m N) (hb : b < n_m N) (hab : a ≠ b) (hk : n_in 0 2 kd) (hu : n_in 0 9 us) (ht : ¬ n_lk N a b = true) (hr : ¬ n_r N = 24) : Wf (n_addr N a b kd us) := by
  have h24 := hW.r
  have ea : ∀ i, i < n_r N → n_a (n_addr N a b kd us) i = n_a N i := fun i hi => updN_n (by omega)
  have eb : ∀ i, i < n_r N → n_b (n_addr N a b kd us) i = n_b N i := fun i hi => updN_n (by omega)
  have ek : ∀ i, i < n_r N → n_k (n_addr N a b kd us) i = n_k N i := fun i hi => pk_un (by omega)
  have eu : ∀ i, i < n_r N → n_u (n_addr N a b kd us) i = n_u N i := fun i hi => pk_un (by omega)
  have ea0 : n_a (n_addr N a b kd us) (n_r N) = a := updN_s
  have eb0 : n_b (n_addr N a b kd us) (n_r N) = b := updN_s
  have ek0 : n_k (n_addr N a b kd us) (n_r N) = kd := pk_us
  have eu0 : n_u (n_addr N a b kd us) (n_r N) = us := pk_us
  refine ⟨⟨hW.1.1, ?_⟩, hW.2.1, hW.2.2.1, fun r hr => ?_, fun r hr => ?_, fun r q hr hq e => ?_⟩
  · show n_r N + 1 ≤ 24
    omega
  · have hr : r < n_r N + 1 := hr
    show n_a (n_addr N a b kd us) r < n_m N ∧ n_b (n_addr N a b kd us) r < n_m N ∧ _
    by_cases e : r = n_r N
    · rw [e, ea0, eb0]; exact ⟨ha, hb, hab⟩
    · rw [ea r (by omega), eb r (by omega)]; exact hW.2.2.2.1 r (by omega)
  · have hr : r < n_r N + 1 := hr
    by_cases e : r = n_r N
    · rw [e, ek0, eu0]; exact ⟨hk, hu⟩
    · rw [ek r (by omega), eu r (by omega)]; exact hW.2.2.2.2.1 r (by omega)
  · have hr : r < n_r N + 1 := hr
    have hq : q < n_r N + 1 := hq
    by_cases e1 : r = n_r N
    · by_cases e2 : q = n_r N
      · omega
      · rw [e1, ea0, eb0, ea q (by omega), eb q (by omega)] at e
        exact (n_lk_f ht (show q < n_r N by omega) (n_lkp_t (by rcases e with e | e; exact Or.inl ⟨e.1.symm, e.2.symm⟩; exact Or.inr ⟨e.2.symm, e.1.symm⟩))).elim
    · by_cases e2 : q = n_r N
      · rw [e2, ea0, eb0, ea r (by omega), eb r (by omega)] at e
        exact (n_lk_f ht (show r < n_r N by omega) (n_lkp_t e)).elim
      · rw [ea r (by omega), eb r (by omega), ea q (by omega), eb q (by omega)] at e
        exact hW.2.2.2.2.2 r q (by omega) (by omega) e
theorem Wf_cutr (hW : Wf N) : Wf (n_cut N (n_m N) (n_r N - 1)) := by
  have l : ∀ {r}, r < n_r (n_cut N (n_m N) (n_r N - 1)) → r < n_r N := fun {r} hr => by
    have hr : r < n_r N - 1 := hr
    omega
  refine ⟨⟨hW.1.1, ?_⟩, hW.2.1, hW.2.2.1, fun r hr => hW.2.2.2.1 r (l hr), fun r hr => hW.2.2.2.2.1 r (l hr), fun r q hr hq => hW.2.2.2.2.2 r q (l hr) (l hq)⟩
  have := hW.1.2
  show n_r N - 1 ≤ 24
  omega
theorem Wf_cutm (hW : Wf N) (hH : Hw (n_cut N (n_m N - 1) (n_r N)) h) : Wf (n_cut N (n_m N - 1) (n_r N)) := by
  have l : ∀ {r}, r < n_m (n_cut N (n_m N - 1) (n_r N)) → r < n_m N := fun {r} hr => by
    have hr : r < n_m N - 1 := hr
    omega
  refine ⟨⟨?_, hW.1.2⟩, fun i hi => hW.2.1 i (l hi), fun i j hi hj => hW.2.2.1 i j (l hi) (l hj), fun r hr => ?_, hW.2.2.2.2.1, hW.2.2.2.2.2⟩
  · have := hW.1.1
    show n_m N - 1 ≤ 16
    omega
  · have := hw_lt hH r hr
    exact ⟨this.1, this.2, (hW.2.2.2.1 r hr).2.2⟩
def Ok (N : Nt) (h : Hi) : Prop := Wf N ∧ Hw N h
theorem Ok_meeting {x y : Int32} (hO : Ok N h) : Ok (sp_meeting N h x y).2.1 (sp_meeting N h x y).2.2 := by
  unfold sp_meeting
  by_cases h1 : F_in 0 30 x = 0
  · rw [if_pos h1]; exact hO
  rw [if_neg h1]
  by_cases h2 : F_in 0 30 y = 0
  · rw [if_pos h2]; exact hO
  rw [if_neg h2]
  by_cases h3 : n_tk N x y = true
  · rw [if_pos h3]; exact hO
  rw [if_neg h3]
  by_cases h4 : n_m N = 16
  · rw [if_pos h4]; exact hO
  rw [if_neg h4]
  refine ⟨Wf_addm hO.1 (F_in_1 h1) (F_in_1 h2) h3 h4, ?_⟩
  show hw (n_a N) (n_b N) (upd h (n_m N + n_r N) 0) (n_m N + 1 + n_r N) (n_m N + 1) (n_r N)
  rw [show n_m N + 1 + n_r N = n_m N + n_r N + 1 by omega]
  exact Or.inl ⟨pk_us, n_m N, rfl, hw_cong hO.2 (fun s hs => pk_un (by omega)) (fun _ _ => ⟨rfl, rfl⟩)⟩
theorem Ok_road {a b kd us : Int32} (hO : Ok N h) : Ok (sp_road N h a b kd us).2.1 (sp_road N h a b kd us).2.2 := by
  have h16 := hO.1.m
  unfold sp_road
  by_cases h1 : F_has (nI (n_m N)) a = 0
  · rw [if_pos h1]; exact hO
  rw [if_neg h1]
  by_cases h2 : F_has (nI (n_m N)) b = 0
  · rw [if_pos h2]; exact hO
  rw [if_neg h2]
  by_cases h3 : a = b
  · rw [if_pos h3]; exact hO
  rw [if_neg h3]
  by_cases h4 : F_in 0 2 kd = 0
  · rw [if_pos h4]; exact hO
  rw [if_neg h4]
  by_cases h5 : F_in 0 9 us = 0
  · rw [if_pos h5]; exact hO
  rw [if_neg h5]
  obtain ⟨a, ha, rfl⟩ := F_has_1 (by omega) h1
  obtain ⟨b, hb, rfl⟩ := F_has_1 (by omega) h2
  rw [nI_clamp (by omega), nI_clamp (by omega)]
  by_cases h6 : n_lk N a b = true
  · rw [if_pos h6]; exact hO
  rw [if_neg h6]
  by_cases h7 : n_r N = 24
  · rw [if_pos h7]; exact hO
  rw [if_neg h7]
  refine ⟨Wf_addr hO.1 ha hb (fun z => h3 (by rw [z])) (F_in_1 h4) (F_in_1 h5) h6 h7, ?_⟩
  show hw (updN (n_a N) (n_r N) a) (updN (n_b N) (n_r N) b) (upd h (n_m N + n_r N) 1) (n_m N + n_r N + 1) (n_m N) (n_r N + 1)
  refine Or.inr ⟨pk_us, n_r N, rfl, ?_, ?_, hw_cong hO.2 (fun s hs => pk_un (by omega)) (fun q hq => ⟨updN_n (by omega), updN_n (by omega)⟩)⟩
  · rw [updN_s]; exact ha
  · rw [updN_s]; exact hb
theorem Ok_undo (hO : Ok N h) : Ok (sp_undo N h).2.1 (sp_undo N h).2.2 := by
  unfold sp_undo
  by_cases h1 : n_m N + n_r N = 0
  · rw [if_pos h1]; exact hO
  rw [if_neg h1]
  rcases hO.2.pos (by omega) with ⟨w1, w2, w3⟩ | ⟨w1, w2, w3⟩
  · rw [if_pos w1]
    exact ⟨Wf_cutm hO.1 w3, w3⟩
  · rw [if_neg (by rw [w1]; decide)]
    exact ⟨Wf_cutr hO.1, w3⟩
def n_setk (N : Nt) (r : Nat) (v : Int32) : Nt := (N.1, N.2.1, N.2.2.1, (upd (n_k N) r v, n_u N))
def n_setu (N : Nt) (r : Nat) (v : Int32) : Nt := (N.1, N.2.1, N.2.2.1, (n_k N, upd (n_u N) r v))
theorem Wf_setk {r : Nat} {v : Int32} (hW : Wf N) (hv : n_in 0 2 v) : Wf (n_setk N r v) := by
  refine ⟨hW.1, hW.2.1, hW.2.2.1, hW.2.2.2.1, fun q hq => ⟨?_, (hW.2.2.2.2.1 q hq).2⟩, hW.2.2.2.2.2⟩
  show n_in 0 2 (upd (n_k N) r v q)
  by_cases e : q = r
  · rw [e, pk_us]; exact hv
  · rw [pk_un e]; exact (hW.2.2.2.2.1 q hq).1
theorem Wf_setu {r : Nat} {v : Int32} (hW : Wf N) (hv : n_in 0 9 v) : Wf (n_setu N r v) := by
  refine ⟨hW.1, hW.2.1, hW.2.2.1, hW.2.2.2.1, fun q hq => ⟨(hW.2.2.2.2.1 q hq).1, ?_⟩, hW.2.2.2.2.2⟩
  show n_in 0 9 (upd (n_u N) r v q)
  by_cases e : q = r
  · rw [e, pk_us]; exact hv
  · rw [pk_un e]; exact (hW.2.2.2.2.1 q hq).2
def sp_alter (N : Nt) (road what v : Int32) : Int32 × Nt := if F_has (nI (n_r N)) road = 0 then (-2, N) else if what = 0 then (if F_in 0 2 v = 0 then (-2, N) else (n_k N road.toNatClampNeg, n_setk N road.toNatClampNeg v)) else if what = 1 then (if F_in 0 9 v = 0 then (-2, N) else (n_u N road.toNatClampNeg, n_setu N road.toNatClampNeg v)) else (-2, N)
theorem Ok_alter {road what v : Int32} (hO : Ok N h) : Ok (sp_alter N road what v).2 h := by
  unfold sp_alter
  by_cases h1 : F_has (nI (n_r N)) road = 0
  · rw [if_pos h1]; exact hO
  rw [if_neg h1]
  by_cases h2 : what = 0
  · rw [if_pos h2]
    by_cases h3 : F_in 0 2 v = 0
    · rw [if_pos h3]; exact hO
    · rw [if_neg h3]; exact ⟨Wf_setk hO.1 (F_in_1 h3), hO.2⟩
  rw [if_neg h2]
  by_cases h4 : what = 1
  · rw [if_pos h4]
    by_cases h3 : F_in 0 9 v = 0
    · rw [if_pos h3]; exact hO
    · rw [if_neg h3]; exact ⟨Wf_setu hO.1 (F_in_1 h3), hO.2⟩
  · rw [if_neg h4]; exact hO
end WfP
