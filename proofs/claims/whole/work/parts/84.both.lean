/-! ===== both sides, call by call ===== -/
def SC (σ : rk_M) (N : Nt) (h : Hi) (w : Rw) (fi : Int32) : Prop := CN σ N ∧ HC σ N h ∧ Der σ N ∧ RwC σ w ∧ σ.1 0 6 = fi
def SM (σ : rk_M) (N : Nt) (h : Hi) (w : Rw) (fi : Int32) : Prop := MN σ N ∧ HM σ N h ∧ RwM σ w ∧ σ.1 42 32 = fi
def Inv (σ : rk_M) : Prop := ∃ (N : Nt) (h : Hi) (w : Rw) (fi : Int32), Ok N h ∧ RwW w ∧ SC σ N h w fi ∧ SM σ N h w fi
def Bth (s6 s7 : rk_M → rk_R → Prop) : Prop := ∀ σ, Inv σ → s6 σ (fun r σ1 => ∃ z : Int32, r = some (.int z) ∧ s7 σ1 (fun r2 σ2 => r2 = some (.int z) ∧ Inv σ2))
theorem RwW_set {w : Rw} {s : Nat} {e : Bool × Int32 × Int32 × (Nat → Int32)} (h : RwW w) (he : e.1 = true → n_in 0 2 e.2.1 ∧ n_in 0 60 e.2.2.1) : RwW (rw_set w s e) := by
  intro q hq
  unfold rw_set
  by_cases z : q = s
  · rw [if_pos z]; exact he
  · rw [if_neg z]; exact h q hq
theorem RwW_sheet {w : Rw} {fi s form n : Int32} (h : RwW w) : RwW (sp_sheet w fi s form n).2.1 := by
  unfold sp_sheet
  by_cases h1 : F_in 0 3 s = 0
  · rw [if_pos h1]; exact h
  rw [if_neg h1]
  by_cases h2 : F_in 0 2 form = 0
  · rw [if_pos h2]; exact h
  rw [if_neg h2]
  by_cases h3 : 60 < n
  · rw [if_pos h3]; exact h
  rw [if_neg h3]
  by_cases h4 : n < 0
  · rw [if_pos h4]; exact h
  rw [if_neg h4]
  exact RwW_set h (fun _ => ⟨F_in_1 h2, fa_of_nlt h4, fa_of_nlt h3⟩)
theorem RwW_lose {w : Rw} {fi s : Int32} (h : RwW w) : RwW (sp_lose w fi s).2.1 := by
  unfold sp_lose
  by_cases h1 : F_in 0 3 s = 0
  · rw [if_pos h1]; exact h
  rw [if_neg h1]
  by_cases h2 : (w s.toNatClampNeg).1 = false
  · rw [if_pos h2]; exact h
  rw [if_neg h2]
  exact RwW_set h (fun z => by cases z)
theorem RwW_in {w : Rw} {s : Int32} (h : RwW w) (h1 : ¬ F_in 0 3 s = 0) (h2 : ¬ (w s.toNatClampNeg).1 = false) : n_in 0 2 (w s.toNatClampNeg).2.1 ∧ n_in 0 60 (w s.toNatClampNeg).2.2.1 := by
  obtain ⟨s, hs, rfl⟩ := n_in_row h1
  rw [nI_clamp (by omega)] at h2 ⊢
  exact h s hs (by cases e : (w s).1 with
    | true => rfl
    | false => exact absurd e h2)
theorem RwW_put {w : Rw} {fi s form i v : Int32} (h : RwW w) : RwW (sp_put w fi s form i v).2.1 := by
  unfold sp_put
  by_cases h1 : F_in 0 3 s = 0
  · rw [if_pos h1]; exact h
  rw [if_neg h1]
  by_cases h2 : F_in 0 2 form = 0
  · rw [if_pos h2]; exact h
  rw [if_neg h2]
  by_cases h3 : sp_lack (w s.toNatClampNeg) form i = 0
  · rw [if_pos h3]
    have h4 : ¬ (w s.toNatClampNeg).1 = false := fun z => by
      unfold sp_lack at h3
      rw [if_pos z] at h3
      cases h3
    exact RwW_set h (fun _ => RwW_in h h1 h4)
  · rw [if_neg h3]; exact h
theorem RwW_get {w : Rw} {fi s form i : Int32} (h : RwW w) : RwW (sp_get w fi s form i).2.1 := by
  unfold sp_get
  by_cases h1 : F_in 0 3 s = 0
  · rw [if_pos h1]; exact h
  rw [if_neg h1]
  by_cases h2 : F_in 0 2 form = 0
  · rw [if_pos h2]; exact h
  rw [if_neg h2]
  by_cases h3 : sp_lack (w s.toNatClampNeg) form i = 0
  · rw [if_pos h3]; exact h
  · rw [if_neg h3]; exact h
theorem RwW_copy {w : Rw} {fi s i t j n : Int32} (h : RwW w) : RwW (sp_copy w fi s i t j n).2.1 := by
  unfold sp_copy
  by_cases h1 : F_in 0 3 s = 0
  · rw [if_pos h1]; exact h
  rw [if_neg h1]
  by_cases h2 : F_in 0 3 t = 0
  · rw [if_pos h2]; exact h
  rw [if_neg h2]
  by_cases h3 : (w s.toNatClampNeg).1 = false
  · rw [if_pos h3]; exact h
  rw [if_neg h3]
  by_cases h4 : (w t.toNatClampNeg).1 = false
  · rw [if_pos h4]; exact h
  rw [if_neg h4]
  by_cases h5 : (w s.toNatClampNeg).2.1 = (w t.toNatClampNeg).2.1
  · rw [if_pos h5]
    by_cases h6 : F_items (w s.toNatClampNeg).2.2.1 i n = 0
    · rw [if_pos h6]; exact h
    rw [if_neg h6]
    by_cases h7 : F_items (w t.toNatClampNeg).2.2.1 j n = 0
    · rw [if_pos h7]; exact h
    rw [if_neg h7]
    exact RwW_set h (fun _ => RwW_in h h2 h4)
  · rw [if_neg h5]; exact h
theorem RwW_write {w : Rw} {N : Nt} {fi s : Int32} (h : RwW w) : RwW (sp_write w N fi s).2.1 := by
  unfold sp_write
  by_cases h1 : F_in 0 3 s = 0
  · rw [if_pos h1]; exact h
  rw [if_neg h1]
  by_cases h2 : (w s.toNatClampNeg).1 = false
  · rw [if_pos h2]; exact h
  rw [if_neg h2]
  exact RwW_set h (fun _ => RwW_in h h1 h2)
theorem sp_alter_mr {N : Nt} {road what v : Int32} : n_m (sp_alter N road what v).2 = n_m N ∧ n_r (sp_alter N road what v).2 = n_r N := by
  unfold sp_alter
  by_cases h1 : F_has (nI (n_r N)) road = 0
  · rw [if_pos h1]; exact ⟨rfl, rfl⟩
  rw [if_neg h1]
  by_cases h2 : what = 0
  · rw [if_pos h2]
    by_cases h3 : F_in 0 2 v = 0
    · rw [if_pos h3]; exact ⟨rfl, rfl⟩
    · rw [if_neg h3]; exact ⟨rfl, rfl⟩
  rw [if_neg h2]
  by_cases h4 : what = 1
  · rw [if_pos h4]
    by_cases h3 : F_in 0 9 v = 0
    · rw [if_pos h3]; exact ⟨rfl, rfl⟩
    · rw [if_neg h3]; exact ⟨rfl, rfl⟩
  · rw [if_neg h4]; exact ⟨rfl, rfl⟩
section Bt
variable {g : rk_G} {R : rk_R} {σ σ' : rk_M} {N : Nt} {h : Hi} {w : Rw} {fi : Int32}
theorem SC.keep (H : SC σ N h w fi) (hs : ∀ c, c < 42 → (c < 30 ∨ 33 ≤ c) → σ'.1 c = σ.1 c) : SC σ' N h w fi := ⟨H.1.keep (fun c _ _ => hs c (by omega) (by omega)), fun t ht => by rw [hs 9 (by omega) (by omega)]; exact H.2.1 t ht, H.2.2.1.keep (hs 11 (by omega) (by omega)) (hs 12 (by omega) (by omega)) (by rw [hs 10 (by omega) (by omega)]) (fun c _ _ => hs c (by omega) (by omega)), H.2.2.2.1.keep (fun c _ _ => hs c (by omega) (by omega)), by rw [hs 0 (by omega) (by omega)]; exact H.2.2.2.2⟩
theorem HM.keep (H : HM σ N h) (h7 : σ'.1 42 7 = σ.1 42 7) (h48 : σ'.1 48 = σ.1 48) : HM σ' N h := ⟨h7.trans H.1, fun t ht => by rw [h48]; exact H.2 t ht⟩
theorem RwM.keep (H : RwM σ w) (hs : ∀ c, 60 ≤ c → c < 64 → σ'.1 c = σ.1 c) : RwM σ' w := fun s h4 => by
  rw [hs 60 (by omega) (by omega), hs 61 (by omega) (by omega), hs 62 (by omega) (by omega), hs 63 (by omega) (by omega)]
  exact H s h4
theorem SM.keep (H : SM σ N h w fi) (hs : ∀ c, 42 ≤ c → σ'.1 c = σ.1 c) : SM σ' N h w fi := ⟨H.1.keep (fun c _ _ => hs c (by omega)) (by rw [hs 42 (by omega)]) (by rw [hs 42 (by omega)]), H.2.1.keep (by rw [hs 42 (by omega)]) (hs 48 (by omega)), H.2.2.1.keep (fun c _ _ => hs c (by omega)), by rw [hs 42 (by omega)]; exact H.2.2.2⟩
theorem SM.q (H : SM σ N h w fi) (f : FrQ σ σ') : SM σ' N h w fi := ⟨f.mn H.1, H.2.1.keep (f.2 7 (by omega) (by omega) (by omega) (by omega) (by omega) (by omega) (by omega)) (f.1 48 (by omega)).1, f.rw H.2.2.1, f.f32.trans H.2.2.2⟩
theorem SC.q (H : SC σ N h w fi) (f : FrQ σ σ') : SC σ' N h w fi := H.keep (fun c hc _ => (f.1 c (by omega)).1)
theorem SC.one {c0 : Nat} (H : SC σ N h w fi) (f : Fr1 c0 σ σ') (h1 : 30 ≤ c0) (h2 : c0 ≤ 32) : SC σ' N h w fi := H.keep (fun c hc _ => f.1 c (by omega))
theorem SM.one {c0 : Nat} (H : SM σ N h w fi) (f : Fr1 c0 σ σ') (h2 : c0 ≤ 32) : SM σ' N h w fi := H.keep (fun c hc => f.1 c (by omega))
theorem SC.x (H : SC σ N h w fi) (f : FrX σ σ') : SC σ' N h w fi := H.keep (fun c hc h2 => f.1 c (by omega))
theorem SM.x (H : SM σ N h w fi) (f : FrX σ σ') : SM σ' N h w fi := H.keep (fun c hc => f.1 c (by omega))
/-- a question that leaves the class as it was -/
theorem B_q {s6 s7 : rk_M → rk_R → Prop} {z : Nt → Int32 → Int32} (h6 : ∀ {σ : rk_M} {R : rk_R} {N : Nt} {h : Hi} {w : Rw} {fi : Int32}, Wf N → SC σ N h w fi → (∀ τ, FrX σ τ → R (some (.int (z N fi))) τ) → s6 σ R) (h7 : ∀ {σ : rk_M} {R : rk_R} {N : Nt} {h : Hi} {w : Rw} {fi : Int32}, Wf N → SM σ N h w fi → (∀ τ, FrQ σ τ → R (some (.int (z N fi))) τ) → s7 σ R) : Bth s6 s7 := by
  rintro σ ⟨N, h, w, fi, hO, hR, hC, hM⟩
  refine h6 hO.1 hC (fun τ f => ⟨z N fi, rfl, ?_⟩)
  exact h7 hO.1 (hM.x f) (fun τ2 f2 => ⟨rfl, N, h, w, fi, hO, hR, (hC.x f).q f2, (hM.x f).q f2⟩)
theorem B_at {a b : Int32} : Bth (sX6_at g [.ref 0, .int a, .int b]) (sX7_at g [.ref 42, .int a, .int b]) := B_q (z := fun N _ => sp_at N a b) (fun hW hC k => C_at hC.1 hW (k _ FrX.rfl')) (fun hW hM k => M_at hM.1 hW (k _ FrQ.rfl'))
theorem B_info {a b : Int32} : Bth (sX6_info g [.ref 0, .int a, .int b]) (sX7_info g [.ref 42, .int a, .int b]) := B_q (z := fun N _ => sp_info N a b) (fun hW hC k => C_info hC.1 hC.2.2.1 hW (k _ FrX.rfl')) (fun hW hM k => M_info hM.1 hW k)
theorem B_joined {a b : Int32} : Bth (sX6_joined g [.ref 0, .int a, .int b]) (sX7_joined g [.ref 42, .int a, .int b]) := B_q (z := fun N _ => sp_joined N a b) (fun hW hC k => C_joined hC.1 hC.2.2.1 hW (k _ FrX.rfl')) (fun hW hM k => M_joined hM.1 hW k)
theorem B_along {a b d : Int32} : Bth (sX6_along g [.ref 0, .int a, .int b, .int d]) (sX7_along g [.ref 42, .int a, .int b, .int d]) := B_q (z := fun N _ => sp_along N a b d) (fun hW hC k => C_along hC.1 hW (k _ FrX.rfl')) (fun hW hM k => M_along hM.1 hW (k _ FrQ.rfl'))
theorem B_stroke {a b : Int32} : Bth (sX6_stroke g [.ref 0, .int a, .int b]) (sX7_stroke g [.ref 42, .int a, .int b]) := B_q (z := fun N _ => sp_stroke N a b) (fun hW hC k => C_stroke hC.2.2.1 hW (k _ FrX.rfl')) (fun hW hM k => M_stroke hM.1 hW k)
theorem B_rank {a b : Int32} : Bth (sX6_rank g [.ref 0, .int a, .int b]) (sX7_rank g [.ref 42, .int a, .int b]) := B_q (z := fun N _ => sp_rank N a b) (fun hW hC k => C_rank hC.2.2.1 hW (k _ FrX.rfl')) (fun hW hM k => M_rank hM.1 hW k)
theorem B_far {a b d : Int32} : Bth (sX6_far g [.ref 0, .int a, .int b, .int d]) (sX7_far g [.ref 42, .int a, .int b, .int d]) := B_q (z := fun N _ => sp_far N a b d) (fun hW hC k => C_far hC.1 hC.2.2.1 hW (fun τ f => k τ (f.x (by omega) (by omega)))) (fun hW hM k => M_far hM.1 hW k)
theorem B_cut {a b d : Int32} : Bth (sX6_cut g [.ref 0, .int a, .int b, .int d]) (sX7_cut g [.ref 42, .int a, .int b, .int d]) := B_q (z := fun N _ => sp_cut N a b d) (fun hW hC k => C_cut hC.2.2.1 hW (fun τ f => k τ (f.x (by omega) (by omega)))) (fun hW hM k => M_cut hM.1 hW k)
theorem B_bridges {a : Int32} : Bth (sX6_bridges g [.ref 0, .int a]) (sX7_bridges g [.ref 42, .int a]) := B_q (z := fun N _ => sp_bridges N a) (fun hW hC k => C_bridges hC.1 hC.2.2.1 hW (fun τ f => k τ (f.x (by omega) (by omega)))) (fun hW hM k => M_bridges hM.1 hW k)
theorem B_detour {a : Int32} : Bth (sX6_detour g [.ref 0, .int a]) (sX7_detour g [.ref 42, .int a]) := B_q (z := fun N _ => sp_detour N a) (fun hW hC k => C_detour hC.1 hW (fun τ f => k τ (f.x (by omega) (by omega)))) (fun hW hM k => M_detour hM.1 hW k)
theorem B_useful {a : Int32} : Bth (sX6_useful g [.ref 0, .int a]) (sX7_useful g [.ref 42, .int a]) := B_q (z := fun N _ => sp_useful N a) (fun hW hC k => C_useful hC.1 hC.2.2.1 hW (k _ FrX.rfl')) (fun hW hM k => M_useful hM.1 hW k)
theorem B_count {a : Int32} : Bth (sX6_count g [.ref 0, .int a]) (sX7_count g [.ref 42, .int a]) := B_q (z := fun N fi => sp_count N fi a) (fun hW hC k => C_count hC.1 hC.2.2.1 hW hC.2.2.2.2 (k _ FrX.rfl')) (fun hW hM k => M_count hM.1 hW hM.2.2.2 k)
/-- a call that deals with rows -/
theorem B_r {s6 s7 : rk_M → rk_R → Prop} {z : Rw → Nt → Int32 → Int32 × Rw × Int32} (hz : ∀ {w : Rw} {N : Nt} {fi : Int32}, RwW w → RwW (z w N fi).2.1) (h6 : ∀ {σ : rk_M} {R : rk_R} {N : Nt} {h : Hi} {w : Rw} {fi : Int32}, Wf N → RwW w → SC σ N h w fi → KR R σ (z w N fi) → s6 σ R) (h7 : ∀ {σ : rk_M} {R : rk_R} {N : Nt} {h : Hi} {w : Rw} {fi : Int32}, Wf N → RwW w → SM σ N h w fi → KMQ R σ (z w N fi) → s7 σ R) : Bth s6 s7 := by
  rintro σ ⟨N, h, w, fi, hO, hR, hC, hM⟩
  refine h6 hO.1 hR hC (fun σ1 c1 c2 f => ⟨_, rfl, ?_⟩)
  have hM1 : SM σ1 N h w fi := hM.keep (fun c hc => (f c (by omega)).1)
  have hC1 : SC σ1 N h (z w N fi).2.1 (z w N fi).2.2 := by
    refine ⟨hC.1.keep (fun c _ _ => (f c (by omega)).1), fun t ht => by rw [(f 9 (by omega)).1]; exact hC.2.1 t ht, ?_, c1, c2⟩
    exact hC.2.2.1.keep (f 11 (by omega)).1 (f 12 (by omega)).1 (by rw [(f 10 (by omega)).1]) (fun c _ _ => (f c (by omega)).1)
  refine h7 hO.1 hR hM1 (fun τ σ2 q m1 m2 f2 => ⟨rfl, N, h, (z w N fi).2.1, (z w N fi).2.2, hO, hz hR, ?_, ?_⟩)
  · exact hC1.keep (fun c hc _ => ((f2.1 c (by omega)).1).trans (q.1 c (by omega)).1)
  · have hMq := hM1.q q
    exact ⟨hMq.1.keep (fun c _ _ => (f2.1 c (by omega)).1) (f2.2 0 (by omega)) (f2.2 3 (by omega)), hMq.2.1.keep (f2.2 7 (by omega)) (f2.1 48 (by omega)).1, m1, m2⟩
theorem KMQ.m {p : Int32 × Rw × Int32} (k : KMQ R σ p) : KM R σ p := fun σ' a b c => k σ σ' FrQ.rfl' a b c
theorem B_sheet {a b d : Int32} : Bth (sX6_sheet g [.ref 0, .int a, .int b, .int d]) (sX7_sheet g [.ref 42, .int a, .int b, .int d]) := B_r (z := fun w _ fi => sp_sheet w fi a b d) RwW_sheet (fun _ hR hC k => C_sheet hC.2.2.2.1 hC.2.2.2.2 k) (fun _ hR hM k => M_sheet hM.2.2.1 hM.2.2.2 k.m)
theorem B_lose {a : Int32} : Bth (sX6_lose g [.ref 0, .int a]) (sX7_lose g [.ref 42, .int a]) := B_r (z := fun w _ fi => sp_lose w fi a) RwW_lose (fun _ hR hC k => C_lose hC.2.2.2.1 hR hC.2.2.2.2 k) (fun _ hR hM k => M_lose hM.2.2.1 hM.2.2.2 k.m)
theorem B_put {a b d e : Int32} : Bth (sX6_put g [.ref 0, .int a, .int b, .int d, .int e]) (sX7_put g [.ref 42, .int a, .int b, .int d, .int e]) := B_r (z := fun w _ fi => sp_put w fi a b d e) RwW_put (fun _ hR hC k => C_put hC.2.2.2.1 hR hC.2.2.2.2 k) (fun _ hR hM k => M_put hM.2.2.1 hR hM.2.2.2 k.m)
theorem B_get {a b d : Int32} : Bth (sX6_get g [.ref 0, .int a, .int b, .int d]) (sX7_get g [.ref 42, .int a, .int b, .int d]) := B_r (z := fun w _ fi => sp_get w fi a b d) RwW_get (fun _ hR hC k => C_get hC.2.2.2.1 hR hC.2.2.2.2 k) (fun _ hR hM k => M_get hM.2.2.1 hR hM.2.2.2 k.m)
theorem B_copy {a b d e f : Int32} : Bth (sX6_copy g [.ref 0, .int a, .int b, .int d, .int e, .int f]) (sX7_copy g [.ref 42, .int a, .int b, .int d, .int e, .int f]) := B_r (z := fun w _ fi => sp_copy w fi a b d e f) RwW_copy (fun _ hR hC k => C_copy hC.2.2.2.1 hR hC.2.2.2.2 k) (fun _ hR hM k => M_copy hM.2.2.1 hR hM.2.2.2 k.m)
theorem B_write {a : Int32} : Bth (sX6_write g [.ref 0, .int a]) (sX7_write g [.ref 42, .int a]) := B_r (z := fun w N fi => sp_write w N fi a) RwW_write (fun hW hR hC k => C_write hC.2.2.2.1 hR hC.2.2.1 hW hC.2.2.2.2 k) (fun hW hR hM k => M_write hM.2.2.1 hR hM.1 hW hM.2.2.2 k)
/-- a call that changes the net -/
theorem B_n {s6 s7 : rk_M → rk_R → Prop} {z : Nt → Hi → Int32 × Nt × Hi} (hz : ∀ {N : Nt} {h : Hi}, Ok N h → Ok (z N h).2.1 (z N h).2.2) (h6 : ∀ {σ : rk_M} {R : rk_R} {N : Nt} {h : Hi} {w : Rw} {fi : Int32}, Ok N h → SC σ N h w fi → KC R σ (z N h) → s6 σ R) (h7 : ∀ {σ : rk_M} {R : rk_R} {N : Nt} {h : Hi} {w : Rw} {fi : Int32}, Ok N h → SM σ N h w fi → KNM R σ (z N h) → s7 σ R) : Bth s6 s7 := by
  rintro σ ⟨N, h, w, fi, hO, hR, hC, hM⟩
  refine h6 hO hC (fun σ1 c1 c2 c3 f => ⟨_, rfl, ?_⟩)
  have hM1 : SM σ1 N h w fi := hM.keep (fun c hc => (f c (by omega)).1)
  have hC1 : SC σ1 (z N h).2.1 (z N h).2.2 w fi := ⟨c1, c2, c3, hC.2.2.2.1.keep (fun c _ _ => (f c (by omega)).1), by rw [(f 0 (by omega)).1]; exact hC.2.2.2.2⟩
  refine h7 hO hM1 (fun σ2 m1 m2 f2 => ⟨rfl, (z N h).2.1, (z N h).2.2, w, fi, hz hO, hR, ?_, m1, m2, ?_, ?_⟩)
  · exact hC1.keep (fun c hc _ => (f2.1 c (by omega)).1)
  · exact hM1.2.2.1.keep (fun c _ _ => (f2.1 c (by omega)).1)
  · rw [f2.2 32 (by omega) (by omega) (by omega)]; exact hM1.2.2.2
theorem B_meeting {a b : Int32} : Bth (sX6_meeting g [.ref 0, .int a, .int b]) (sX7_meeting g [.ref 42, .int a, .int b]) := B_n (z := fun N h => sp_meeting N h a b) Ok_meeting (fun hO hC k => C_meeting hC.1 hC.2.1 hC.2.2.1 hO.1 k) (fun hO hM k => M_meeting hM.1 hM.2.1 hO.1 k)
theorem B_road {a b d e : Int32} : Bth (sX6_road g [.ref 0, .int a, .int b, .int d, .int e]) (sX7_road g [.ref 42, .int a, .int b, .int d, .int e]) := B_n (z := fun N h => sp_road N h a b d e) Ok_road (fun hO hC k => C_road hC.1 hC.2.1 hC.2.2.1 hO k) (fun hO hM k => M_road hM.1 hM.2.1 hO.1 k)
theorem B_undo : Bth (sX6_undo g [.ref 0]) (sX7_undo g [.ref 42]) := B_n (z := fun N h => sp_undo N h) Ok_undo (fun hO hC k => C_undo hC.1 hC.2.1 hC.2.2.1 hO k) (fun hO hM k => M_undo hM.1 hM.2.1 hO.1 hO.2 k)
theorem B_alter {a b d : Int32} : Bth (sX6_alter g [.ref 0, .int a, .int b, .int d]) (sX7_alter g [.ref 42, .int a, .int b, .int d]) := by
  rintro σ ⟨N, h, w, fi, hO, hR, hC, hM⟩
  have mr := sp_alter_mr (N := N) (road := a) (what := b) (v := d)
  refine C_alter hC.1 hC.2.2.1 hO.1 (fun σ1 c1 c2 c3 f => ⟨_, rfl, ?_⟩)
  have hM1 : SM σ1 N h w fi := hM.keep (fun c hc => (f c (by omega)).1)
  have hC1 : SC σ1 (sp_alter N a b d).2 h w fi := ⟨c1, fun t ht => by rw [mr.1, mr.2] at ht; rw [c2]; exact hC.2.1 t ht, c3, hC.2.2.2.1.keep (fun c _ _ => (f c (by omega)).1), by rw [(f 0 (by omega)).1]; exact hC.2.2.2.2⟩
  refine M_alter hM1.1 hO.1 (fun σ2 m1 m2 m3 f2 => ⟨rfl, (sp_alter N a b d).2, h, w, fi, Ok_alter hO, hR, ?_, m1, ⟨?_, fun t ht => ?_⟩, ?_, ?_⟩)
  · exact hC1.keep (fun c hc _ => (f2.1 c (by omega)).1)
  · rw [m3, mr.1, mr.2]; exact hM1.2.1.1
  · rw [mr.1, mr.2] at ht; rw [m2]; exact hM1.2.1.2 t ht
  · exact hM1.2.2.1.keep (fun c _ _ => (f2.1 c (by omega)).1)
  · rw [m3]; exact hM1.2.2.2
theorem B_read {a : Int32} : Bth (sX6_read g [.ref 0, .int a]) (sX7_read g [.ref 42, .int a]) := by
  rintro σ ⟨N, h, w, fi, hO, hR, hC, hM⟩
  refine C_read hC.2.2.2.1 hR hC.1 hC.2.1 hC.2.2.1 hO hC.2.2.2.2 (fun σ1 c1 c2 c3 c4 f => ⟨_, rfl, ?_⟩)
  have hM1 : SM σ1 N h w fi := hM.keep (fun c hc => (f c (by omega)).1)
  refine M_read hM1.2.2.1 hR hM1.1 hM1.2.1 hO hM1.2.2.2 (fun _ σ2 _ m1 m2 m3 m4 f2 => ⟨rfl, (sp_read w N h fi a).1.2.1, (sp_read w N h fi a).1.2.2, w, (sp_read w N h fi a).2, Ok_read hO, hR, ?_, m1, m2, m4, m3⟩)
  have hC1 : SC σ1 (sp_read w N h fi a).1.2.1 (sp_read w N h fi a).1.2.2 w (sp_read w N h fi a).2 := ⟨c1, c2, c3, hC.2.2.2.1.keep (fun c _ _ => (f c (by omega)).1), c4⟩
  exact hC1.keep (fun c hc _ => (f2 c (by omega)).1)
theorem B_digest : ∀ σ, Inv σ → sX6_digest g [.ref 0] σ (fun r σ1 => ∃ z : Int64, r = some (.long z) ∧ sX7_digest g [.ref 42] σ1 (fun r2 σ2 => r2 = some (.long z) ∧ Inv σ2)) := by
  rintro σ ⟨N, h, w, fi, hO, hR, hC, hM⟩
  refine C_digest hC.1 hC.2.2.1 hO.1 hC.2.2.2.2 (fun τ f => ⟨_, rfl, ?_⟩)
  have hM1 := hM.x f
  exact M_digest hM1.1 hO.1 hM1.2.2.2 (fun τ2 f2 => ⟨rfl, N, h, w, fi, hO, hR, (hC.x f).q f2, hM1.q f2⟩)
end Bt
