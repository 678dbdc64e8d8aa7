/-! ===== ranks ===== -/
section Rank
def bp1 (W : Nat → Int32) (p : Nat → Bool) (t : Nat) (acc : Option Nat) : Option Nat := if p t = true then (match acc with
  | none => some t
  | some b => if W b < W t then some t else some b) else acc
def bp (n : Nat) (W : Nat → Int32) (p : Nat → Bool) : Option Nat := bi (bp1 W p) n 0 none
def e_o (acc : Option Nat) : Int32 := match acc with
  | none => -1
  | some t => nI t
theorem bp1_n {W : Nat → Int32} {p : Nat → Bool} {t : Nat} {acc : Option Nat} (h : p t = false) : bp1 W p t acc = acc := if_neg (by rw [h]; decide)
theorem bp1_0 {W : Nat → Int32} {p : Nat → Bool} {t : Nat} (h : p t = true) : bp1 W p t none = some t := if_pos h
theorem bp1_1 {W : Nat → Int32} {p : Nat → Bool} {t b : Nat} (h : p t = true) (hw : W b < W t) : bp1 W p t (some b) = some t := (if_pos h).trans (if_pos hw)
theorem bp1_2 {W : Nat → Int32} {p : Nat → Bool} {t b : Nat} (h : p t = true) (hw : ¬ W b < W t) : bp1 W p t (some b) = some b := (if_pos h).trans (if_neg hw)
theorem bp1_lt {n : Nat} {W : Nat → Int32} {p : Nat → Bool} {t : Nat} {acc : Option Nat} (ht : t < n) (ha : ∀ b, acc = some b → b < n) : ∀ b, bp1 W p t acc = some b → b < n := by
  intro b hb
  cases e : p t with
  | false => rw [bp1_n e] at hb; exact ha b hb
  | true =>
    cases acc with
    | none => rw [bp1_0 e] at hb; obtain rfl := Option.some.inj hb; exact ht
    | some d =>
      by_cases e2 : W d < W t
      · rw [bp1_1 e e2] at hb; obtain rfl := Option.some.inj hb; exact ht
      · rw [bp1_2 e e2] at hb; exact ha b hb
theorem bp1_cong {n : Nat} {W W' : Nat → Int32} {p q : Nat → Bool} {t : Nat} {acc : Option Nat} (hw : ∀ t, t < n → W t = W' t) (ht : t < n) (h : p t = q t) (ha : ∀ b, acc = some b → b < n) : bp1 W p t acc = bp1 W' q t acc := by
  cases e : p t with
  | false => rw [bp1_n e, bp1_n (by rw [← h]; exact e)]
  | true =>
    have e' : q t = true := by rw [← h]; exact e
    cases acc with
    | none => rw [bp1_0 e, bp1_0 e']
    | some d =>
      have w1 := hw t ht
      have w2 := hw d (ha d rfl)
      by_cases e2 : W d < W t
      · rw [bp1_1 e e2, bp1_1 e' (by rw [← w1, ← w2]; exact e2)]
      · rw [bp1_2 e e2, bp1_2 e' (by rw [← w1, ← w2]; exact e2)]
theorem bp_cong0 {n : Nat} {W W' : Nat → Int32} {p q : Nat → Bool} (h : ∀ t, t < n → p t = q t) (hw : ∀ t, t < n → W t = W' t) : ∀ (k i : Nat) (acc : Option Nat), i + k ≤ n → (∀ b, acc = some b → b < n) → bi (bp1 W p) k i acc = bi (bp1 W' q) k i acc
  | 0, i, acc, _, _ => by rw [bi_0, bi_0]
  | k + 1, i, acc, hi, ha => by
    rw [bi_s, bi_s, bp1_cong hw (by omega) (h i (by omega)) ha]
    exact bp_cong0 h hw k (i + 1) _ (by omega) (bp1_lt (by omega) ha)
theorem bp_cong {n : Nat} {W W' : Nat → Int32} {p q : Nat → Bool} (h : ∀ t, t < n → p t = q t) (hw : ∀ t, t < n → W t = W' t) : bp n W p = bp n W' q := bp_cong0 h hw n 0 none (by omega) (fun b hb => by cases hb)
theorem bp_some {W : Nat → Int32} {p : Nat → Bool} : ∀ (k i : Nat) (acc : Option Nat) (n : Nat), i + k ≤ n → (∀ b, acc = some b → b < n ∧ p b = true) → ∀ b, bi (bp1 W p) k i acc = some b → b < n ∧ p b = true
  | 0, i, acc, n, _, h => h
  | k + 1, i, acc, n, hi, h => by
    rw [bi_s]
    refine bp_some k (i + 1) _ n (by omega) (fun b hb => ?_)
    unfold bp1 at hb
    by_cases e1 : p i = true
    · rw [if_pos e1] at hb
      cases acc with
      | none => obtain rfl := Option.some.inj hb; exact ⟨by omega, e1⟩
      | some c0 =>
        dsimp only at hb
        by_cases e2 : W c0 < W i
        · rw [if_pos e2] at hb; obtain rfl := Option.some.inj hb; exact ⟨by omega, e1⟩
        · rw [if_neg e2] at hb; exact h b hb
    · rw [if_neg e1] at hb; exact h b hb
theorem bp_in {n : Nat} {W : Nat → Int32} {p : Nat → Bool} {b : Nat} (h : bp n W p = some b) : b < n ∧ p b = true := bp_some n 0 none n (by omega) (fun b hb => by cases hb) b h
theorem bp_none {W : Nat → Int32} {p : Nat → Bool} : ∀ (k i : Nat) (acc : Option Nat), bi (bp1 W p) k i acc = none → acc = none ∧ ∀ t, i ≤ t → t < i + k → p t = false
  | 0, i, acc, h => ⟨h, fun t h1 h2 => by omega⟩
  | k + 1, i, acc, h => by
    rw [bi_s] at h
    obtain ⟨h1, h2⟩ := bp_none k (i + 1) _ h
    unfold bp1 at h1
    by_cases e1 : p i = true
    · rw [if_pos e1] at h1
      cases acc with
      | none => cases h1
      | some c =>
        dsimp only at h1
        by_cases e2 : W c < W i
        · rw [if_pos e2] at h1; cases h1
        · rw [if_neg e2] at h1; cases h1
    · rw [if_neg e1] at h1
      refine ⟨h1, fun t h3 h4 => ?_⟩
      by_cases e : t = i
      · subst e; exact Bool.eq_false_iff.mpr e1
      · exact h2 t (by omega) (by omega)
theorem bp_no {n : Nat} {W : Nat → Int32} {p : Nat → Bool} (h : bp n W p = none) {t : Nat} (ht : t < n) : p t = false := (bp_none n 0 none h).2 t (by omega) (by omega)
abbrev Ks : Type := (Nat → Bool) × Nat × (Nat → Nat) × (Nat → Nat) × (Nat → Nat)
def k_tr (n : Nat) (T : Nat → Nat → Bool) (Q : Nat → Bool) (t : Nat) : Bool := an (fun s => Q s && T t s) n 0
def k_pick (n : Nat) (W : Nat → Int32) (T : Nat → Nat → Bool) (Q : Nat → Bool) : Option (Nat × Nat) := match bp n W (fun t => !Q t && k_tr n T Q t) with
  | some t => some (t, 0)
  | none => match bp n W (fun t => !Q t) with
    | some t => some (t, 1)
    | none => none
def k_set (i : Nat) (s : Ks) (t b : Nat) : Ks := (fun q => decide (q = t) || s.1 q, s.2.1 + b, updN s.2.2.1 i t, updN s.2.2.2.1 t i, updN s.2.2.2.2 t (s.2.1 + b - 1))
def k_st (n : Nat) (W : Nat → Int32) (T : Nat → Nat → Bool) (i : Nat) (s : Ks) : Ks := match k_pick n W T s.1 with
  | none => s
  | some q => k_set i s q.1 q.2
def k_0 : Ks := (fun _ => false, 0, fun _ => 0, fun _ => 0, fun _ => 0)
def k_all (n : Nat) (W : Nat → Int32) (T : Nat → Nat → Bool) : Ks := bi (k_st n W T) n 0 k_0
theorem k_ct {n : Nat} {Q : Nat → Bool} {t : Nat} (ht : t < n) (hQ : Q t = false) : fb_ct (fun q => decide (q = t) || Q q) n = fb_ct Q n + 1 := by
  have e := fb_ct_upd Q true ht
  rw [hQ, if_neg (by decide), if_pos rfl] at e
  have e2 : fb_ct (fun q => decide (q = t) || Q q) n = fb_ct (fun k => if k = t then true else Q k) n := fb_ct_cong (fun k _ => by
    by_cases z : k = t
    · simp [z]
    · simp [z])
  omega
theorem k_pick_in {n : Nat} {W : Nat → Int32} {T : Nat → Nat → Bool} {Q : Nat → Bool} {q : Nat × Nat} (h : k_pick n W T Q = some q) : q.1 < n ∧ Q q.1 = false := by
  unfold k_pick at h
  cases h1 : bp n W (fun t => !Q t && k_tr n T Q t) with
  | some t =>
    rw [h1] at h
    cases h
    have := bp_in h1
    simp only [Bool.and_eq_true, Bool.not_eq_true'] at this
    exact ⟨this.1, this.2.1⟩
  | none =>
    rw [h1] at h
    dsimp only at h
    cases h2 : bp n W (fun t => !Q t) with
    | some t =>
      rw [h2] at h
      cases h
      have := bp_in h2
      simp only [Bool.not_eq_true'] at this
      exact this
    | none => rw [h2] at h; cases h
theorem k_pick_ex {n : Nat} {W : Nat → Int32} {T : Nat → Nat → Bool} {Q : Nat → Bool} (h : fb_ct Q n < n) : ∃ q, k_pick n W T Q = some q := by
  unfold k_pick
  cases h1 : bp n W (fun t => !Q t && k_tr n T Q t) with
  | some t => exact ⟨_, rfl⟩
  | none =>
    dsimp only
    cases h2 : bp n W (fun t => !Q t) with
    | some t => exact ⟨_, rfl⟩
    | none =>
      exfalso
      have : fb_ct Q n = n := fb_ct_all.mpr (fun k hk => by have := bp_no h2 hk; simpa using this)
      omega
/-- what holds while ranks are given -/
def K_I (n i : Nat) (s : Ks) : Prop := fb_ct s.1 n = i ∧ (∀ j, j < i → s.2.2.1 j < n ∧ s.1 (s.2.2.1 j) = true) ∧ (∀ t, s.1 t = true → t < n ∧ s.2.2.2.1 t < i ∧ s.2.2.1 (s.2.2.2.1 t) = t ∧ s.2.2.2.2 t < s.2.1) ∧ s.2.1 ≤ i ∧ (0 < i → 0 < s.2.1)
theorem K_I_set {n i : Nat} {s : Ks} (h : K_I n i s) {q : Nat × Nat} {W : Nat → Int32} {T : Nat → Nat → Bool} (hq : k_pick n W T s.1 = some q) (hb : q.2 ≤ 1) (h0 : i = 0 → q.2 = 1) : K_I n (i + 1) (k_set i s q.1 q.2) := by
  obtain ⟨h1, h2, h3, h4, h5⟩ := h
  obtain ⟨q1, q2⟩ := k_pick_in hq
  unfold k_set
  refine ⟨?_, fun j hj => ?_, fun t ht => ?_, ?_, fun _ => ?_⟩
  · show fb_ct (fun x => decide (x = q.1) || s.1 x) n = i + 1
    rw [k_ct q1 q2, h1]
  · show updN _ _ _ j < n ∧ (decide (updN _ _ _ j = q.1) || s.1 (updN _ _ _ j)) = true
    by_cases e : j = i
    · subst e; rw [updN_s]; exact ⟨q1, by simp⟩
    · rw [updN_n e]
      obtain ⟨a, b⟩ := h2 j (by omega)
      exact ⟨a, by rw [b]; simp⟩
  · show t < n ∧ updN _ _ _ t < i + 1 ∧ updN s.2.2.1 i q.1 (updN _ _ _ t) = t ∧ updN _ _ _ t < s.2.1 + q.2
    have ht : (decide (t = q.1) || s.1 t) = true := ht
    by_cases e : t = q.1
    · subst e
      rw [updN_s, updN_s, updN_s]
      refine ⟨q1, by omega, rfl, ?_⟩
      rcases Nat.eq_zero_or_pos i with z | z
      · have := h0 z; omega
      · have := h5 z; omega
    · have ht' : s.1 t = true := by simpa [e] using ht
      obtain ⟨a, b, c, d⟩ := h3 t ht'
      rw [updN_n e, updN_n (by omega), updN_n e]
      exact ⟨a, by omega, c, by omega⟩
  · show s.2.1 + q.2 ≤ i + 1
    omega
  · show 0 < s.2.1 + q.2
    rcases Nat.eq_zero_or_pos i with z | z
    · have := h0 z; omega
    · have := h5 z; omega
theorem k_pick_b {n : Nat} {W : Nat → Int32} {T : Nat → Nat → Bool} {Q : Nat → Bool} {q : Nat × Nat} (h : k_pick n W T Q = some q) : q.2 ≤ 1 ∧ (fb_ct Q n = 0 → q.2 = 1) := by
  unfold k_pick at h
  cases h1 : bp n W (fun t => !Q t && k_tr n T Q t) with
  | some t =>
    rw [h1] at h
    cases h
    refine ⟨by omega, fun hz => ?_⟩
    exfalso
    have := (bp_in h1).2
    simp only [Bool.and_eq_true] at this
    obtain ⟨j, _, hj, hq⟩ := an_iff.mp this.2
    simp only [Bool.and_eq_true] at hq
    have := fb_ct_zero.mp hz j (by omega)
    rw [hq.1] at this
    cases this
  | none =>
    rw [h1] at h
    dsimp only at h
    cases h2 : bp n W (fun t => !Q t) with
    | some t => rw [h2] at h; cases h; exact ⟨Nat.le_refl 1, fun _ => rfl⟩
    | none => rw [h2] at h; cases h
theorem K_I_st {n i : Nat} {s : Ks} (h : K_I n i s) (hi : i < n) (W : Nat → Int32) (T : Nat → Nat → Bool) : ∃ q, k_pick n W T s.1 = some q ∧ k_st n W T i s = k_set i s q.1 q.2 ∧ K_I n (i + 1) (k_st n W T i s) := by
  obtain ⟨q, hq⟩ := k_pick_ex (n := n) (W := W) (T := T) (Q := s.1) (by have := h.1; omega)
  obtain ⟨b1, b2⟩ := k_pick_b hq
  have e : k_st n W T i s = k_set i s q.1 q.2 := by unfold k_st; rw [hq]
  refine ⟨q, hq, e, ?_⟩
  rw [e]
  exact K_I_set h hq b1 (fun z => b2 (by have := h.1; omega))
theorem K_I_0 {n : Nat} : K_I n 0 k_0 := ⟨fb_ct_zero.mpr (fun _ _ => rfl), fun j hj => absurd hj (Nat.not_lt_zero j), fun t ht => (by cases ht), Nat.le_refl 0, fun z => absurd z (Nat.lt_irrefl 0)⟩
theorem K_I_bi {n : Nat} (W : Nat → Int32) (T : Nat → Nat → Bool) : ∀ (k i : Nat) (s : Ks), i + k = n → K_I n i s → K_I n n (bi (k_st n W T) k i s)
  | 0, i, s, hi, h => by obtain rfl : i = n := by omega
                         exact h
  | k + 1, i, s, hi, h => by
    rw [bi_s]
    obtain ⟨q, h1, h2, h3⟩ := K_I_st h (by omega) W T
    exact K_I_bi W T k (i + 1) _ (by omega) h3
theorem K_I_all {n : Nat} (W : Nat → Int32) (T : Nat → Nat → Bool) : K_I n n (k_all n W T) := K_I_bi W T n 0 k_0 (by omega) K_I_0
end Rank
