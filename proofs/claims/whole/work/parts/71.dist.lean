/-! ===== the least way ===== -/
section Dist
variable {N : Nt} {p : Nat → Bool} {s f : Nat}
def n_ln (N : Nt) (r : Nat) : Nat := (n_len N r).toNatClampNeg
theorem ab_nat {z : Int32} (h : -30 ≤ z.toInt ∧ z.toInt ≤ 30) : ∃ j, j ≤ 30 ∧ ab z = nI j ∧ (j = 0 → z = 0) := by
  unfold ab
  by_cases e : z < 0
  · rw [if_pos e]
    rw [fa_lt] at e
    have e0 : z.toInt < 0 := e
    refine ⟨(-z.toInt).toNat, by omega, ?_, fun q => by omega⟩
    rw [fa_eq, fb_negI (by omega), nI_toInt (by omega)]
    omega
  · rw [if_neg e]
    rw [fa_lt] at e
    have e0 : ¬ z.toInt < 0 := e
    refine ⟨z.toInt.toNat, by omega, ?_, fun q => ?_⟩
    · rw [fa_eq, nI_toInt (by omega)]
      omega
    · rw [fa_eq]
      show z.toInt = 0
      omega
theorem sub_0 {x y : Int32} (h : x - y = 0) : x = y := by
  have : x - y + y = 0 + y := by rw [h]
  rw [Int32.sub_add_cancel, Int32.zero_add] at this
  exact this
theorem n_ln_e (hW : Wf N) {r : Nat} (hr : r < n_r N) : n_len N r = nI (n_ln N r) ∧ 1 ≤ n_ln N r ∧ n_ln N r ≤ 60 := by
  have la := hW.a hr
  have lb := hW.b hr
  obtain ⟨i, h1, h2, h3⟩ := ab_nat (sm_d (hW.2.1 _ la).1 (hW.2.1 _ lb).1)
  obtain ⟨j, h4, h5, h6⟩ := ab_nat (sm_d (hW.2.1 _ la).2 (hW.2.1 _ lb).2)
  have e : n_len N r = nI (i + j) := by unfold n_len; rw [h2, h5, nI_add]
  have e2 : n_ln N r = i + j := by unfold n_ln; rw [e, nI_clamp (by omega)]
  rw [e2]
  refine ⟨e, ?_, by omega⟩
  rcases Nat.eq_zero_or_pos (i + j) with z | z
  · exfalso
    exact hW.ab hr (hW.2.2.1 _ _ la lb (sub_0 (h3 (by omega))) (sub_0 (h6 (by omega))))
  · exact z
def dst (N : Nt) (p : Nat → Bool) (r : Nat) (d : Nat → Nat) : Nat → Nat := if p r = true then (if d (n_a N r) + n_ln N r < d (n_b N r) then updN d (n_b N r) (d (n_a N r) + n_ln N r) else if d (n_b N r) + n_ln N r < d (n_a N r) then updN d (n_a N r) (d (n_b N r) + n_ln N r) else d) else d
def drd (N : Nt) (p : Nat → Bool) (d : Nat → Nat) : Nat → Nat := bi (dst N p) (n_r N) 0 d
/-- an edge between u and v, as long as l -/
def Ed (N : Nt) (p : Nat → Bool) (u v l : Nat) : Prop := ∃ r, r < n_r N ∧ p r = true ∧ n_ln N r = l ∧ (n_a N r = u ∧ n_b N r = v ∨ n_a N r = v ∧ n_b N r = u)
theorem Ed.symm {u v l : Nat} (h : Ed N p u v l) : Ed N p v u l := by
  obtain ⟨r, h1, h2, h3, h4⟩ := h
  exact ⟨r, h1, h2, h3, h4.symm⟩
theorem Ed.lt (hW : Wf N) {u v l : Nat} (h : Ed N p u v l) : u < n_m N ∧ v < n_m N ∧ 1 ≤ l ∧ l ≤ 60 ∧ u ≠ v := by
  obtain ⟨r, h1, h2, h3, h4⟩ := h
  have la := hW.a h1
  have lb := hW.b h1
  have ne := hW.ab h1
  have := n_ln_e hW h1
  rcases h4 with h4 | h4
  · exact ⟨by omega, by omega, by omega, by omega, by omega⟩
  · exact ⟨by omega, by omega, by omega, by omega, by omega⟩
def IsD (N : Nt) (p : Nat → Bool) (s f : Nat) (E : Nat → Nat) : Prop := E s = 0 ∧ (∀ v, v < n_m N → E v ≤ f) ∧ (∀ u v l, Ed N p u v l → E v ≤ E u + l) ∧ ∀ v, v < n_m N → v ≠ s → E v < f → ∃ u l, Ed N p u v l ∧ E u + l = E v
def Iv (N : Nt) (p : Nat → Bool) (s f : Nat) (d : Nat → Nat) : Prop := d s = 0 ∧ (∀ v, v < n_m N → d v ≤ f) ∧ ∀ v, v < n_m N → v ≠ s → d v < f → ∃ u l, Ed N p u v l ∧ d u + l ≤ d v
/-- one road: nothing, or one of its ends comes nearer -/
theorem dst_or (N : Nt) (p : Nat → Bool) (r : Nat) (d : Nat → Nat) : dst N p r d = d ∨ (p r = true ∧ ∃ u v, (n_a N r = u ∧ n_b N r = v ∨ n_a N r = v ∧ n_b N r = u) ∧ d u + n_ln N r < d v ∧ dst N p r d = updN d v (d u + n_ln N r)) := by
  unfold dst
  by_cases h : p r = true
  · rw [if_pos h]
    by_cases h1 : d (n_a N r) + n_ln N r < d (n_b N r)
    · rw [if_pos h1]; exact Or.inr ⟨h, _, _, Or.inl ⟨rfl, rfl⟩, h1, rfl⟩
    · rw [if_neg h1]
      by_cases h2 : d (n_b N r) + n_ln N r < d (n_a N r)
      · rw [if_pos h2]; exact Or.inr ⟨h, _, _, Or.inr ⟨rfl, rfl⟩, h2, rfl⟩
      · rw [if_neg h2]; exact Or.inl rfl
  · rw [if_neg h]; exact Or.inl rfl
theorem updN_le {d : Nat → Nat} {v x : Nat} (h : x ≤ d v) (q : Nat) : updN d v x q ≤ d q := by
  by_cases e : q = v
  · subst e; rw [updN_s]; exact h
  · rw [updN_n e]; exact Nat.le_refl _
theorem dst_le (r : Nat) (d : Nat → Nat) (q : Nat) : dst N p r d q ≤ d q := by
  rcases dst_or N p r d with e | ⟨_, u, v, _, h2, e⟩
  · rw [e]; exact Nat.le_refl _
  · rw [e]; exact updN_le (by omega) q
theorem dst_Iv (hW : Wf N) {r : Nat} {d : Nat → Nat} (hr : r < n_r N) (h : Iv N p s f d) : Iv N p s f (dst N p r d) := by
  rcases dst_or N p r d with e | ⟨hp, u, v, h1, h2, e⟩
  · rw [e]; exact h
  · have ed : Ed N p u v (n_ln N r) := ⟨r, hr, hp, rfl, h1⟩
    have l := ed.lt hW
    have hvs : v ≠ s := fun z => by subst z; rw [h.1] at h2; omega
    rw [e]
    have le := fun q => updN_le (d := d) (v := v) (x := d u + n_ln N r) (by omega) q
    refine ⟨by rw [updN_n (Ne.symm hvs)]; exact h.1, fun q hq => Nat.le_trans (le q) (h.2.1 q hq), fun q hq hqs hf => ?_⟩
    by_cases eq : q = v
    · subst eq
      refine ⟨u, _, ed, ?_⟩
      rw [updN_s, updN_n l.2.2.2.2]
      exact Nat.le_refl _
    · rw [updN_n eq] at hf ⊢
      obtain ⟨x, l2, h3, h4⟩ := h.2.2 q hq hqs hf
      exact ⟨x, l2, h3, Nat.le_trans (Nat.add_le_add_right (le x) l2) h4⟩
theorem dst_ge {r : Nat} {d E : Nat → Nat} (hr : r < n_r N) (hE : IsD N p s f E) (hd : ∀ v, E v ≤ d v) (q : Nat) : E q ≤ dst N p r d q := by
  rcases dst_or N p r d with e | ⟨hp, u, v, h1, h2, e⟩
  · rw [e]; exact hd q
  · rw [e]
    by_cases eq : q = v
    · subst eq
      rw [updN_s]
      have := hE.2.2.1 u q (n_ln N r) ⟨r, hr, hp, rfl, h1⟩
      have := hd u
      omega
    · rw [updN_n eq]; exact hd q
/-- after a road both of its ends are near enough -/
theorem dst_near {r : Nat} {d : Nat → Nat} (hp : p r = true) (hab : n_a N r ≠ n_b N r) : dst N p r d (n_b N r) ≤ d (n_a N r) + n_ln N r ∧ dst N p r d (n_a N r) ≤ d (n_b N r) + n_ln N r := by
  unfold dst
  rw [if_pos hp]
  by_cases h1 : d (n_a N r) + n_ln N r < d (n_b N r)
  · rw [if_pos h1, updN_s, updN_n hab]; omega
  · rw [if_neg h1]
    by_cases h2 : d (n_b N r) + n_ln N r < d (n_a N r)
    · rw [if_pos h2, updN_s, updN_n (Ne.symm hab)]; omega
    · rw [if_neg h2]; omega
theorem drd_le : ∀ (n i : Nat) (d : Nat → Nat) (q : Nat), bi (dst N p) n i d q ≤ d q
  | 0, i, d, q => by rw [bi_0]; exact Nat.le_refl _
  | n + 1, i, d, q => by rw [bi_s]; exact Nat.le_trans (drd_le n (i + 1) _ q) (dst_le i d q)
theorem drd_Iv (hW : Wf N) : ∀ (n i : Nat) (d : Nat → Nat), i + n ≤ n_r N → Iv N p s f d → Iv N p s f (bi (dst N p) n i d)
  | 0, i, d, _, h => by rw [bi_0]; exact h
  | n + 1, i, d, hi, h => by rw [bi_s]; exact drd_Iv hW n (i + 1) _ (by omega) (dst_Iv hW (by omega) h)
theorem drd_ge {E : Nat → Nat} (hE : IsD N p s f E) : ∀ (n i : Nat) (d : Nat → Nat), i + n ≤ n_r N → (∀ v, E v ≤ d v) → ∀ q, E q ≤ bi (dst N p) n i d q
  | 0, i, d, _, h, q => by rw [bi_0]; exact h q
  | n + 1, i, d, hi, h, q => by rw [bi_s]; exact drd_ge hE n (i + 1) _ (by omega) (dst_ge (by omega) hE h) q
theorem drd_near {r u v : Nat} (hp : p r = true) (hab : n_a N r ≠ n_b N r) (huv : n_a N r = u ∧ n_b N r = v ∨ n_a N r = v ∧ n_b N r = u) : ∀ (n i : Nat) (d : Nat → Nat), i ≤ r → r < i + n → bi (dst N p) n i d v ≤ d u + n_ln N r
  | 0, i, d, h1, h2 => by omega
  | n + 1, i, d, h1, h2 => by
    rw [bi_s]
    by_cases e : i = r
    · subst e
      have q := dst_near (d := d) hp hab
      rcases huv with ⟨e1, e2⟩ | ⟨e1, e2⟩
      · subst e1; subst e2
        exact Nat.le_trans (drd_le n (i + 1) _ _) q.1
      · subst e1; subst e2
        exact Nat.le_trans (drd_le n (i + 1) _ _) q.2
    · exact Nat.le_trans (drd_near hp hab huv n (i + 1) _ (by omega) (by omega)) (Nat.add_le_add_right (dst_le i d u) _)
def d_0 (s f : Nat) : Nat → Nat := fun v => if v = s then 0 else f
theorem d_0_Iv (hf : 0 < f) : Iv N p s f (d_0 s f) := by
  refine ⟨if_pos rfl, fun v _ => ?_, fun v _ hv h => ?_⟩
  · unfold d_0; split <;> omega
  · unfold d_0 at h
    rw [if_neg hv] at h
    omega
theorem IsD_ex0 (hW : Wf N) : ∀ (S : Nat) (d : Nat → Nat), fb_sm d (n_m N) ≤ S → Iv N p s f d → ∃ E, IsD N p s f E := by
  intro S
  induction S with
  | zero =>
    intro d hS h
    refine ⟨d, h.1, h.2.1, fun u v l e => ?_, fun v hv hvs hf => ?_⟩
    · have := fb_sm_zero (Nat.le_zero.mp hS) v (e.lt hW).2.1
      omega
    · obtain ⟨u, l, h1, h2⟩ := h.2.2 v hv hvs hf
      have := fb_sm_zero (Nat.le_zero.mp hS) v hv
      have := h1.lt hW
      omega
  | succ S ih =>
    intro d hS h
    by_cases c : ∀ u v l, Ed N p u v l → d v ≤ d u + l
    · refine ⟨d, h.1, h.2.1, c, fun v hv hvs hf => ?_⟩
      obtain ⟨u, l, h1, h2⟩ := h.2.2 v hv hvs hf
      have := c u v l h1
      exact ⟨u, l, h1, by omega⟩
    · have : ∃ u v l, Ed N p u v l ∧ d u + l < d v := by
        apply Classical.byContradiction
        intro z
        apply c
        intro u v l e
        rcases Nat.lt_or_ge (d u + l) (d v) with q | q
        · exact (z ⟨u, v, l, e, q⟩).elim
        · exact q
      obtain ⟨u, v, l, e, hlt⟩ := this
      have lt := e.lt hW
      have le := fun q => updN_le (d := d) (v := v) (x := d u + l) (by omega) q
      have hvs : v ≠ s := fun z => by subst z; rw [h.1] at hlt; omega
      refine ih (updN d v (d u + l)) ?_ ⟨by rw [updN_n (Ne.symm hvs)]; exact h.1, fun q hq => Nat.le_trans (le q) (h.2.1 q hq), fun q hq hqs hf => ?_⟩
      · have := fb_sm_upd d (d u + l) (i := v) (n := n_m N) lt.2.1
        show fb_sm (fun k => if k = v then d u + l else d k) (n_m N) ≤ S
        omega
      · by_cases eq : q = v
        · subst eq
          refine ⟨u, _, e, ?_⟩
          rw [updN_s, updN_n lt.2.2.2.2]
          exact Nat.le_refl _
        · rw [updN_n eq] at hf ⊢
          obtain ⟨x, l2, h3, h4⟩ := h.2.2 q hq hqs hf
          exact ⟨x, l2, h3, Nat.le_trans (Nat.add_le_add_right (le x) l2) h4⟩
theorem IsD_ex (hW : Wf N) (hf : 0 < f) : ∃ E, IsD N p s f E := IsD_ex0 hW _ (d_0 s f) (Nat.le_refl _) (d_0_Iv hf)
/-- where d has come down to E -/
def Fin_ (N : Nt) (d E : Nat → Nat) : Nat → Bool := fun v => decide (d v = E v)
theorem grow0 (hW : Wf N) {d E : Nat → Nat} (hE : IsD N p s f E) (hd : Iv N p s f d) (hge : ∀ v, E v ≤ d v) : ∀ (x v : Nat), E v ≤ x → v < n_m N → ¬ d v = E v → ∃ u v' r, r < n_r N ∧ p r = true ∧ v' < n_m N ∧ ¬ d v' = E v' ∧ d u = E u ∧ E u + n_ln N r = E v' ∧ (n_a N r = u ∧ n_b N r = v' ∨ n_a N r = v' ∧ n_b N r = u) := by
  intro x
  induction x with
  | zero =>
    intro v hx hv hne
    have hvs : v ≠ s := fun z => by subst z; rw [hd.1, hE.1] at hne; exact hne rfl
    have h1 := hge v
    have h2 := hd.2.1 v hv
    obtain ⟨u, l, e, h3⟩ := hE.2.2.2 v hv hvs (by omega)
    have := (e.lt hW).2.2.1
    omega
  | succ x ih =>
    intro v hx hv hne
    have hvs : v ≠ s := fun z => by subst z; rw [hd.1, hE.1] at hne; exact hne rfl
    have h1 := hge v
    have h2 := hd.2.1 v hv
    obtain ⟨u, l, e, h3⟩ := hE.2.2.2 v hv hvs (by omega)
    have lt := e.lt hW
    by_cases hu : d u = E u
    · obtain ⟨r, r1, r2, r3, r4⟩ := e
      exact ⟨u, v, r, r1, r2, hv, hne, hu, by omega, r4⟩
    · exact ih u (by omega) lt.1 hu
theorem grow (hW : Wf N) {d E : Nat → Nat} (hE : IsD N p s f E) (hd : Iv N p s f d) (hge : ∀ v, E v ≤ d v) (hn : ∃ v, v < n_m N ∧ ¬ d v = E v) : fb_ct (Fin_ N d E) (n_m N) < fb_ct (Fin_ N (drd N p d) E) (n_m N) := by
  obtain ⟨v, hv, hne⟩ := hn
  obtain ⟨u, v', r, r1, r2, r3, r4, r5, r6, r7⟩ := grow0 hW hE hd hge (E v) v (Nat.le_refl _) hv hne
  have near := drd_near (d := d) r2 (hW.ab r1) r7 (n_r N) 0 (Nat.zero_le _) (by omega)
  have ge := drd_ge (p := p) hE (n_r N) 0 d (by omega) hge
  have le := drd_le (N := N) (p := p) (n_r N) 0 d
  have hv' : drd N p d v' = E v' := by
    have := ge v'
    unfold drd
    omega
  have key := fb_ct_upd (Fin_ N d E) true (i := v') (n := n_m N) r3
  have f0 : ¬ Fin_ N d E v' = true := fun z => r4 (of_decide_eq_true z)
  rw [if_neg f0, if_pos rfl] at key
  have sub : fb_ct (fun k => if k = v' then true else Fin_ N d E k) (n_m N) ≤ fb_ct (Fin_ N (drd N p d) E) (n_m N) := fb_ct_sub (fun k hk z => by
    by_cases e : k = v'
    · subst e; exact decide_eq_true hv'
    · simp only [if_neg e] at z
      have z := of_decide_eq_true z
      refine decide_eq_true ?_
      have h1 := ge k
      have h2 := le k
      unfold drd
      omega)
  omega
theorem drd_E {d E : Nat → Nat} (hE : IsD N p s f E) (hge : ∀ v, E v ≤ d v) {v : Nat} (h : d v = E v) : drd N p d v = E v := by
  have h1 := drd_ge (p := p) hE (n_r N) 0 d (by omega) hge v
  have h2 := drd_le (N := N) (p := p) (n_r N) 0 d v
  unfold drd
  omega
/-- a finite value is not great -/
theorem IsD_fin (hW : Wf N) {E : Nat → Nat} (hE : IsD N p s f E) : ∀ (x v : Nat), E v ≤ x → v < n_m N → E v < f → E v ≤ 60 * fb_ct (fun u => decide (E u < E v)) (n_m N) := by
  intro x
  induction x with
  | zero => intro v hx _ _; omega
  | succ x ih =>
    intro v hx hv hf
    by_cases hvs : v = s
    · subst hvs; rw [hE.1]; omega
    · obtain ⟨u, l, e, h3⟩ := hE.2.2.2 v hv hvs hf
      have lt := e.lt hW
      have hu := ih u (by omega) lt.1 (by omega)
      have key := fb_ct_upd (fun w => decide (E w < E u)) true (i := u) (n := n_m N) lt.1
      rw [if_neg (show ¬ decide (E u < E u) = true by simp), if_pos rfl] at key
      have sub : fb_ct (fun k => if k = u then true else decide (E k < E u)) (n_m N) ≤ fb_ct (fun w => decide (E w < E v)) (n_m N) := fb_ct_sub (fun k hk z => by
        by_cases ek : k = u
        · subst ek; exact decide_eq_true (by omega)
        · simp only [if_neg ek] at z
          have z := of_decide_eq_true z
          exact decide_eq_true (by omega))
      omega
theorem IsD_960 (hW : Wf N) {E : Nat → Nat} (hE : IsD N p s f E) {v : Nat} (hv : v < n_m N) (hf : E v < f) : E v ≤ 960 := by
  have h1 := IsD_fin hW hE (E v) v (Nat.le_refl _) hv hf
  have h2 := fb_ct_le (fun u => decide (E u < E v)) (n_m N)
  have := hW.m
  omega
theorem IsD_cmp (hW : Wf N) {f' : Nat} {E E' : Nat → Nat} (hE : IsD N p s f E) (hE' : IsD N p s f' E') : ∀ (x v : Nat), E v ≤ x → v < n_m N → E v < f → E' v ≤ E v := by
  intro x
  induction x with
  | zero =>
    intro v hx hv hf
    by_cases hvs : v = s
    · subst hvs; rw [hE'.1]; omega
    · obtain ⟨u, l, e, h3⟩ := hE.2.2.2 v hv hvs hf
      have lt := e.lt hW
      omega
  | succ x ih =>
    intro v hx hv hf
    by_cases hvs : v = s
    · subst hvs; rw [hE'.1]; omega
    · obtain ⟨u, l, e, h3⟩ := hE.2.2.2 v hv hvs hf
      have lt := e.lt hW
      have hu := ih u (by omega) lt.1 (by omega)
      have := hE'.2.2.1 u v l e
      omega
noncomputable def d_E (N : Nt) (p : Nat → Bool) (s : Nat) : Nat → Nat := @ite _ (∃ E, IsD N p s 99999 E) (Classical.propDecidable _) (Classical.epsilon (fun E => IsD N p s 99999 E)) (fun _ => 0)
theorem d_E_is (hW : Wf N) : IsD N p s 99999 (d_E N p s) := by
  have h : ∃ E, IsD N p s 99999 E := IsD_ex hW (by omega)
  unfold d_E
  rw [if_pos h]
  exact Classical.epsilon_spec h
noncomputable def d_far (N : Nt) (p : Nat → Bool) (s v : Nat) : Int32 := if d_E N p s v < 99999 then nI (d_E N p s v) else -1
theorem d_far_e (hW : Wf N) {E : Nat → Nat} (hf : 99999 ≤ f) (hE : IsD N p s f E) {v : Nat} (hv : v < n_m N) : (if E v < f then nI (E v) else -1) = d_far N p s v := by
  have hD := d_E_is (p := p) (s := s) hW
  unfold d_far
  by_cases h : E v < f
  · have h1 := IsD_960 hW hE hv h
    have h2 := IsD_cmp hW hE hD (E v) v (Nat.le_refl _) hv h
    have h3 := IsD_cmp hW hD hE (d_E N p s v) v (Nat.le_refl _) hv (by omega)
    rw [if_pos h, if_pos (by omega), show d_E N p s v = E v by omega]
  · rw [if_neg h]
    by_cases h2 : d_E N p s v < 99999
    · have h3 := IsD_cmp hW hD hE (d_E N p s v) v (Nat.le_refl _) hv h2
      have h4 := hE.2.1 v hv
      omega
    · rw [if_neg h2]
theorem d_far_lt (hW : Wf N) {v : Nat} (hv : v < n_m N) : (¬ d_far N p s v = -1) ↔ d_E N p s v < 99999 := by
  unfold d_far
  by_cases h : d_E N p s v < 99999
  · have := IsD_960 hW (d_E_is (p := p) (s := s) hW) hv h
    rw [if_pos h]
    exact ⟨fun _ => h, fun _ => nI_ne_m1 (by omega)⟩
  · rw [if_neg h]
    exact ⟨fun z => absurd rfl z, fun z => absurd z h⟩
end Dist
