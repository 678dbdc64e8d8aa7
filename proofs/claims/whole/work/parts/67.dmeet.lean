/-! ===== a meeting more changes nothing that follows ===== -/
theorem fold_cong {α : Type} {f f' : Nat → α → α} {P : α → Prop} : ∀ (l : List Nat) (s : α), P s → (∀ b s, b ∈ l → P s → f b s = f' b s ∧ P (f b s)) → l.foldl (fun s b => f b s) s = l.foldl (fun s b => f' b s) s ∧ P (l.foldl (fun s b => f b s) s)
  | [], s, h, _ => ⟨rfl, h⟩
  | b :: l, s, h, hs => by
    obtain ⟨h1, h2⟩ := hs b s List.mem_cons_self h
    rw [List.foldl_cons, List.foldl_cons, ← h1]
    exact fold_cong l (f b s) h2 (fun b s hb => hs b s (List.mem_cons_of_mem _ hb))
theorem pf_congP {α : Type} {f f' : Nat → Nat → α → α} {P : α → Prop} : ∀ (l : List Nat) (s : α), P s → (∀ a b s, a ∈ l → b ∈ l → P s → f a b s = f' a b s ∧ P (f a b s)) → pf f l s = pf f' l s
  | [], s, _, _ => rfl
  | a :: l, s, h, hs => by
    unfold pf
    obtain ⟨h1, h2⟩ := fold_cong (f := f a) (f' := f' a) l s h (fun b s hb => hs a b s List.mem_cons_self (List.mem_cons_of_mem _ hb))
    rw [← h1]
    exact pf_congP l _ h2 (fun a b s ha hb => hs a b s (List.mem_cons_of_mem _ ha) (List.mem_cons_of_mem _ hb))
theorem pf_id {α : Type} {f : Nat → Nat → α → α} : ∀ (l : List Nat) (s : α), (∀ a b, a ∈ l → b ∈ l → f a b s = s) → pf f l s = s
  | [], s, _ => rfl
  | a :: l, s, hs => by
    unfold pf
    have e : l.foldl (fun s b => f a b s) s = s := by
      have key : ∀ (l' : List Nat), (∀ b, b ∈ l' → b ∈ l) → l'.foldl (fun s b => f a b s) s = s := by
        intro l'
        induction l' with
        | nil => intro _; rfl
        | cons b l' ih =>
          intro hb
          rw [List.foldl_cons, hs a b List.mem_cons_self (List.mem_cons_of_mem _ (hb b List.mem_cons_self))]
          exact ih (fun b' h' => hb b' (List.mem_cons_of_mem _ h'))
      exact key l (fun _ h => h)
    rw [e]
    exact pf_id l s (fun a b ha hb => hs a b (List.mem_cons_of_mem _ ha) (List.mem_cons_of_mem _ hb))
section DMeet
variable {N : Nt} {x y : Int32}
theorem am_x {i : Nat} (hi : i < n_m N) : n_x (n_addm N x y) i = n_x N i := pk_un (by omega)
theorem am_y {i : Nat} (hi : i < n_m N) : n_y (n_addm N x y) i = n_y N i := pk_un (by omega)
theorem am_len (hW : Wf N) {r : Nat} (hr : r < n_r N) : n_len (n_addm N x y) r = n_len N r := by
  unfold n_len
  show ab (n_x (n_addm N x y) (n_a N r) - n_x (n_addm N x y) (n_b N r)) + ab (n_y (n_addm N x y) (n_a N r) - n_y (n_addm N x y) (n_b N r)) = _
  rw [am_x (hW.a hr), am_x (hW.b hr), am_y (hW.a hr), am_y (hW.b hr)]
theorem am_w (hW : Wf N) {r : Nat} (hr : r < n_r N) : n_w (n_addm N x y) r = n_w N r := by
  unfold n_w n_wo
  rw [am_len hW hr]
  rfl
theorem am_pr (hW : Wf N) {m a b : Nat} (hm : m < n_m N) (ha : a < n_r N) (hb : b < n_r N) : n_pr (n_addm N x y) m a b = n_pr N m a b := by
  have dx : ∀ r, r < n_r N → n_dx (n_addm N x y) m r = n_dx N m r := fun r hr => by
    show n_x (n_addm N x y) (n_ot N r m) - n_x (n_addm N x y) m = _
    rw [am_x (n_ot_lt hW hr), am_x hm]
    rfl
  have dy : ∀ r, r < n_r N → n_dy (n_addm N x y) m r = n_dy N m r := fun r hr => by
    show n_y (n_addm N x y) (n_ot N r m) - n_y (n_addm N x y) m = _
    rw [am_y (n_ot_lt hW hr), am_y hm]
    rfl
  unfold n_pr
  rw [dx a ha, dx b hb, dy a ha, dy b hb]
theorem am_own (hW : Wf N) {m a b : Nat} (hm : m < n_m N) (ha : a < n_r N) (hb : b < n_r N) : n_own (n_addm N x y) m a b = n_own N m a b := by
  unfold n_own
  rw [am_pr hW hm ha ha, am_pr hW hm hb hb]
theorem am_up (hW : Wf N) {m a b : Nat} {acc : Option (Nat × Nat)} (hm : m < n_m N) (ha : a < n_r N) (hb : b < n_r N) (hacc : ∀ q, acc = some q → q.1 < n_r N ∧ q.2 < n_r N) : J_up (n_addm N x y) m a b acc = J_up N m a b acc := by
  cases acc with
  | none => rfl
  | some q =>
    obtain ⟨h1, h2⟩ := hacc q rfl
    unfold J_up
    dsimp only
    have e : J_bt (n_addm N x y) m a b q.1 q.2 ↔ J_bt N m a b q.1 q.2 := by
      unfold J_bt
      rw [am_pr hW hm h1 h2, am_pr hW hm ha hb, am_own hW hm ha hb, am_own hW hm h1 h2]
    by_cases z : J_bt N m a b q.1 q.2
    · rw [if_pos z, if_pos (e.mpr z)]
    · rw [if_neg z, if_neg (fun u => z (e.mp u))]
theorem am_best (hW : Wf N) {m : Nat} {J : Hi} (hm : m < n_m N) : J_best (n_addm N x y) m J = J_best N m J := by
  unfold J_best
  show pf (J_st (n_addm N x y) m J) (List.range' 0 (n_r N)) none = _
  symm
  refine pf_congP (P := fun acc => ∀ q, acc = some q → q.1 < n_r N ∧ q.2 < n_r N) _ _ (fun q hq => by cases hq) (fun a b s ha hb hs => ?_)
  have ha : a < n_r N := by have := List.mem_range'_1.mp ha; omega
  have hb : b < n_r N := by have := List.mem_range'_1.mp hb; omega
  have e : J_ok (n_addm N x y) m J a b ↔ J_ok N m J a b := by
    have : n_al (n_addm N x y) m a b ↔ n_al N m a b := by
      unfold n_al
      rw [am_pr hW hm ha hb, am_own hW hm ha hb]
    exact ⟨fun z => ⟨z.1, z.2.1, z.2.2.1, this.mp z.2.2.2⟩, fun z => ⟨z.1, z.2.1, z.2.2.1, this.mpr z.2.2.2⟩⟩
  unfold J_st
  by_cases z : J_ok N m J a b
  · rw [if_pos z, if_pos (e.mpr z), am_up hW hm ha hb hs]
    refine ⟨rfl, fun q hq => ?_⟩
    unfold J_up at hq
    cases s with
    | none => obtain rfl := Option.some.inj hq; exact ⟨ha, hb⟩
    | some p =>
      dsimp only at hq
      by_cases u : J_bt N m a b p.1 p.2
      · rw [if_pos u] at hq; obtain rfl := Option.some.inj hq; exact ⟨ha, hb⟩
      · rw [if_neg u] at hq; exact hs q hq
  · rw [if_neg z, if_neg (fun u => z (e.mp u))]
    exact ⟨rfl, hs⟩
theorem am_best0 (hW : Wf N) {J : Hi} : J_best (n_addm N x y) (n_m N) J = none := by
  unfold J_best
  refine pf_id _ _ (fun a b ha hb => ?_)
  have ha : a < n_r N := by have q := (List.mem_range'_1.mp ha).2; rw [Nat.zero_add] at q; exact q
  refine if_neg (fun z => ?_)
  have la := hW.a ha
  have lb := hW.b ha
  have z1 : n_a N a = n_m N ∨ n_b N a = n_m N := z.1.1
  omega
theorem am_at (hW : Wf N) {m : Nat} (hm : m < n_m N) : ∀ (k : Nat) (s : Hi × Nat), J_at (n_addm N x y) m k s = J_at N m k s
  | 0, s => rfl
  | k + 1, s => by
    rw [J_at, J_at, am_best hW hm]
    cases J_best N m s.1 with
    | none => rfl
    | some q => exact am_at hW hm k _
theorem am_all (hW : Wf N) : J_all (n_addm N x y) = J_all N := by
  unfold J_all
  show bi (fun m s => J_at (n_addm N x y) m 24 s) (n_m N + 1) 0 (fun _ => -1, 0) = _
  rw [bi_snoc, Nat.zero_add, J_at, am_best0 hW]
  dsimp only
  exact bi_cong _ _ _ (fun m s _ hm => am_at hW (by omega) 24 s)
theorem am_J (hW : Wf N) : d_J (n_addm N x y) = d_J N := congrArg Prod.fst (am_all hW)
theorem am_n (hW : Wf N) : d_n (n_addm N x y) = d_n N := by
  show lcn (n_addm N x y) (d_J (n_addm N x y)) = lcn N (d_J N)
  rw [am_J hW]
  rfl
theorem am_W (hW : Wf N) : d_W (n_addm N x y) (n_w (n_addm N x y)) = d_W N (n_w N) := by
  funext t
  unfold d_W T_wor
  rw [am_J hW]
  show bi (acc1 (lp N (d_J N) t) (n_w (n_addm N x y))) (n_r N) 0 0 = _
  refine bi_cong _ _ _ (fun r s _ hr => ?_)
  unfold acc1
  rw [am_w hW (by omega)]
theorem am_len_t (hW : Wf N) (t : Nat) : T_len (n_addm N x y) (d_J N) t = T_len N (d_J N) t := by
  unfold T_len
  show bi (acc1 (lp N (d_J N) t) (n_len (n_addm N x y))) (n_r N) 0 0 = _
  refine bi_cong _ _ _ (fun r s _ hr => ?_)
  unfold acc1
  rw [am_len hW (by omega)]
theorem am_T (hW : Wf N) : d_T (n_addm N x y) = d_T N := by
  funext a b
  unfold d_T
  rw [am_J hW]
  rfl
theorem am_K (hW : Wf N) : d_K (n_addm N x y) (n_w (n_addm N x y)) = d_K N (n_w N) := by
  unfold d_K
  rw [am_n hW, am_W hW, am_T hW]
theorem am_Der {σ : rk_M} (hW : Wf N) (hD : Der σ N) : Der σ (n_addm N x y) := by
  obtain ⟨⟨a1, a2⟩, a3, a4, a5, a6, a7⟩ := hD
  refine ⟨⟨?_, ?_⟩, ?_, ?_, ?_, ?_, ?_⟩
  · rw [am_J hW]; exact a1
  · rw [am_all hW]; exact a2
  · rw [am_n hW]; exact a3
  · rw [am_n hW, am_J hW]; exact a4
  · rw [am_n hW, am_J hW]
    refine ⟨fun t ht => ?_, a5.2⟩
    obtain ⟨b1, b2, b3, b4⟩ := a5.1 t ht
    refine ⟨b1.trans (am_len_t hW t).symm, ?_, b3, b4⟩
    have := congrFun (am_W (x := x) (y := y) hW) t
    unfold d_W at this
    rw [am_J hW] at this
    exact b2.trans this.symm
  · unfold CTo
    rw [am_n hW, am_J hW]
    exact a6
  · rw [am_n hW, am_W hW, am_K hW]; exact a7
end DMeet
