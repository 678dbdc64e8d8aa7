/-! ===== strokes and ranks, asked ===== -/
theorem acc2_bit {p : Nat → Bool} {f : Nat → Int32} {j : Nat} : ∀ (n i : Nat) (s : Int32), bt (bi (acc2 p f) n i s) j = true ↔ bt s j = true ∨ ∃ r, i ≤ r ∧ r < i + n ∧ p r = true ∧ bt (f r) j = true
  | 0, i, s => by
    rw [bi_0]
    exact ⟨Or.inl, fun h => h.elim id (fun ⟨r, h1, h2, _⟩ => by omega)⟩
  | n + 1, i, s => by
    rw [bi_s, acc2_bit n (i + 1)]
    unfold acc2
    by_cases h : p i = true
    · rw [if_pos h, b_or, Bool.or_eq_true]
      constructor
      · rintro ((q | q) | ⟨r, h1, h2, h3⟩)
        · exact Or.inl q
        · exact Or.inr ⟨i, Nat.le_refl i, by omega, h, q⟩
        · exact Or.inr ⟨r, by omega, by omega, h3⟩
      · rintro (q | ⟨r, h1, h2, h3⟩)
        · exact Or.inl (Or.inl q)
        · by_cases e : r = i
          · subst e; exact Or.inl (Or.inr h3.2)
          · exact Or.inr ⟨r, by omega, by omega, h3⟩
    · rw [if_neg h]
      constructor
      · rintro (q | ⟨r, h1, h2, h3⟩)
        · exact Or.inl q
        · exact Or.inr ⟨r, by omega, by omega, h3⟩
      · rintro (q | ⟨r, h1, h2, h3⟩)
        · exact Or.inl q
        · by_cases e : r = i
          · subst e; exact absurd h3.1 h
          · exact Or.inr ⟨r, by omega, by omega, h3⟩
theorem acc1_cong {p q : Nat → Bool} {f : Nat → Int32} {r : Nat} {s : Int32} (h : p r = q r) : acc1 p f r s = acc1 q f r s := by unfold acc1; rw [h]
theorem acc1_shift {p : Nat → Bool} {f : Nat → Int32} (c : Int32) : ∀ (n i : Nat) (s : Int32), bi (acc1 p f) n i (s + c) = bi (acc1 p f) n i s + c
  | 0, i, s => by rw [bi_0, bi_0]
  | n + 1, i, s => by
    rw [bi_s, bi_s]
    unfold acc1
    by_cases h : p i = true
    · rw [if_pos h, if_pos h, show s + c + f i = s + f i + c by rw [Int32.add_assoc, Int32.add_assoc, Int32.add_comm c]]
      exact acc1_shift c n (i + 1) _
    · rw [if_neg h, if_neg h]
      exact acc1_shift c n (i + 1) _
theorem acc1_more {p : Nat → Bool} {f : Nat → Int32} {t : Nat} (ht : p t = false) : ∀ (n i : Nat) (s : Int32), i ≤ t → t < i + n → bi (acc1 (fun q => decide (q = t) || p q) f) n i s = bi (acc1 p f) n i s + f t
  | 0, i, s, h1, h2 => by omega
  | n + 1, i, s, h1, h2 => by
    rw [bi_s, bi_s]
    by_cases e : i = t
    · subst e
      have e1 : acc1 (fun q => decide (q = i) || p q) f i s = s + f i := if_pos (by simp)
      have e2 : acc1 p f i s = s := if_neg (by rw [ht]; decide)
      rw [e1, e2, acc1_shift]
      congr 1
      refine bi_cong _ _ _ (fun r v h3 h4 => ?_)
      have : decide (r = i) = false := by simp; omega
      exact acc1_cong (by rw [this, Bool.false_or])
    · have e1 : acc1 (fun q => decide (q = t) || p q) f i s = acc1 p f i s := by
        have : decide (i = t) = false := by simp; omega
        exact acc1_cong (by rw [this, Bool.false_or])
      rw [e1]
      exact acc1_more ht n (i + 1) _ (by omega) (by omega)
theorem acc1_none {p : Nat → Bool} {f : Nat → Int32} : ∀ (n i : Nat) (s : Int32), (∀ r, i ≤ r → r < i + n → p r = false) → bi (acc1 p f) n i s = s
  | 0, i, s, _ => bi_0 _ _ _
  | n + 1, i, s, h => by
    rw [bi_s, show acc1 p f i s = s from if_neg (by rw [h i (Nat.le_refl i) (by omega)]; decide)]
    exact acc1_none n (i + 1) s (fun r h1 h2 => h r (by omega) (by omega))
/-- a sum in another order -/
theorem sum_perm {n : Nat} {f : Nat → Nat} {W : Nat → Int32} (hf : ∀ q, q < n → f q < n) (hi : ∀ a b, a < b → b < n → f a ≠ f b) : ∀ (k : Nat), k ≤ n → bi (fun q v => v + W (f q)) k 0 0 = bi (acc1 (fun t => decide (∃ q, q < k ∧ f q = t)) W) n 0 0
  | 0, _ => by
    rw [bi_0, acc1_none]
    intro r _ _
    simp
  | k + 1, hk => by
    rw [bi_snoc, sum_perm hf hi k (by omega), Nat.zero_add]
    have hp : (fun t => decide (∃ q, q < k ∧ f q = t)) (f k) = false := by
      simp only [decide_eq_false_iff_not]
      rintro ⟨q, h1, h2⟩
      exact hi q k h1 (by omega) h2
    rw [← acc1_more (p := fun t => decide (∃ q, q < k ∧ f q = t)) hp n 0 0 (Nat.zero_le _) (by have := hf k (by omega); omega)]
    refine bi_cong _ _ _ (fun r v _ _ => ?_)
    have : (decide (r = f k) || decide (∃ q, q < k ∧ f q = r)) = decide (∃ q, q < k + 1 ∧ f q = r) := by
      rw [Bool.eq_iff_iff]
      simp only [Bool.or_eq_true, decide_eq_true_eq]
      constructor
      · rintro (h | ⟨q, h1, h2⟩)
        · exact ⟨k, by omega, h.symm⟩
        · exact ⟨q, by omega, h2⟩
      · rintro ⟨q, h1, h2⟩
        by_cases e : q = k
        · subst e; exact Or.inl h2.symm
        · exact Or.inr ⟨q, by omega, h2⟩
    exact acc1_cong this
section T
variable {N : Nt} {J : Hi}
theorem n_p1_bit {m j : Nat} (hm : m < 32) (hj : j < 32) : bt (n_p1 m) j = true ↔ j = m := by
  unfold n_p1
  rw [b_shl1 hm hj]
  simp
theorem T_rb_bit (hW : Wf N) {t j : Nat} (hj : j < 32) : bt (T_rb N J t) j = true ↔ j < n_r N ∧ lab N J j = t := by
  have h24 := hW.r
  unfold T_rb
  rw [acc2_bit]
  constructor
  · rintro (h | ⟨r, _, h2, h3, h4⟩)
    · rw [b_0] at h; cases h
    · obtain rfl := (n_p1_bit (by omega) hj).mp h4
      exact ⟨by omega, of_decide_eq_true h3⟩
  · rintro ⟨h1, h2⟩
    exact Or.inr ⟨j, Nat.zero_le _, by omega, decide_eq_true h2, (n_p1_bit hj hj).mpr rfl⟩
theorem T_rb_hi (hW : Wf N) {t j : Nat} (hj : 24 ≤ j) : bt (T_rb N J t) j = false := by
  have h24 := hW.r
  rcases Nat.lt_or_ge j 32 with h | h
  · cases hb : bt (T_rb N J t) j with
    | false => rfl
    | true => have := (T_rb_bit hW h).mp hb; omega
  · exact b_big h
theorem CSr.rb {τ : rk_M} {n t : Nat} (hW : Wf N) (h : CSr τ N J n) (ht : t < n) : τ.1 18 t = T_rb N J t := b_ext fun j hj => by
  have a := h t j ht hj
  have b := T_rb_bit (J := J) hW (t := t) hj
  rw [Bool.eq_iff_iff]
  exact a.trans b.symm
theorem n_ee_bit (hW : Wf N) {r j : Nat} (hr : r < n_r N) (hj : j < 32) : bt (n_ee N J r) j = true ↔ (J (2 * r) = -1 ∧ j = n_a N r) ∨ (J (2 * r + 1) = -1 ∧ j = n_b N r) := by
  have h16 := hW.m
  have la := hW.a hr
  have lb := hW.b hr
  unfold n_ee
  rw [b_or, Bool.or_eq_true]
  by_cases e1 : J (2 * r) = -1
  · by_cases e2 : J (2 * r + 1) = -1
    · rw [if_pos e1, if_pos e2, n_p1_bit (by omega) hj, n_p1_bit (by omega) hj]; simp [e1, e2]
    · rw [if_pos e1, if_neg e2, n_p1_bit (by omega) hj, b_0]; simp [e1, e2]
  · by_cases e2 : J (2 * r + 1) = -1
    · rw [if_neg e1, if_pos e2, n_p1_bit (by omega) hj, b_0]; simp [e1, e2]
    · rw [if_neg e1, if_neg e2, b_0]; simp [e1, e2]
theorem T_end_bit (hW : Wf N) {t j : Nat} (hj : j < 32) : bt (T_end N J t) j = true ↔ ∃ r, r < n_r N ∧ lab N J r = t ∧ ((J (2 * r) = -1 ∧ j = n_a N r) ∨ (J (2 * r + 1) = -1 ∧ j = n_b N r)) := by
  unfold T_end
  rw [acc2_bit]
  constructor
  · rintro (h | ⟨r, _, h2, h3, h4⟩)
    · rw [b_0] at h; cases h
    · exact ⟨r, by omega, of_decide_eq_true h3, (n_ee_bit hW (by omega) hj).mp h4⟩
  · rintro ⟨r, h1, h2, h3⟩
    exact Or.inr ⟨r, Nat.zero_le _, by omega, decide_eq_true h2, (n_ee_bit hW h1 hj).mpr h3⟩
theorem T_mee_bit (hW : Wf N) {t j : Nat} (hj : j < 32) : bt (T_mee N J t) j = true ↔ ∃ r, r < n_r N ∧ lab N J r = t ∧ (j = n_a N r ∨ j = n_b N r) := by
  have h16 := hW.m
  unfold T_mee
  rw [acc2_bit]
  constructor
  · rintro (h | ⟨r, _, h2, h3, h4⟩)
    · rw [b_0] at h; cases h
    · have la := hW.a (r := r) (by omega)
      have lb := hW.b (r := r) (by omega)
      unfold n_mm at h4
      rw [b_or, Bool.or_eq_true, n_p1_bit (by omega) hj, n_p1_bit (by omega) hj] at h4
      exact ⟨r, by omega, of_decide_eq_true h3, h4⟩
  · rintro ⟨r, h1, h2, h3⟩
    have la := hW.a h1
    have lb := hW.b h1
    refine Or.inr ⟨r, Nat.zero_le _, by omega, decide_eq_true h2, ?_⟩
    unfold n_mm
    rw [b_or, Bool.or_eq_true, n_p1_bit (by omega) hj, n_p1_bit (by omega) hj]
    exact h3
theorem accC_1 {p : Nat → Bool} : ∀ (n i : Nat) (s : Int32), (s = 0 ∨ s = 1) → (bi (accC p J) n i s = 0 ∨ bi (accC p J) n i s = 1) ∧ (bi (accC p J) n i s = 1 ↔ s = 1 ∧ ∀ r, i ≤ r → r < i + n → p r = true → ¬ J (2 * r) = -1 ∧ ¬ J (2 * r + 1) = -1)
  | 0, i, s, hs => by
    rw [bi_0]
    exact ⟨hs, fun h => ⟨h, fun r h1 h2 => by omega⟩, fun h => h.1⟩
  | n + 1, i, s, hs => by
    rw [bi_s]
    unfold accC
    by_cases h : p i = true
    · rw [if_pos h]
      by_cases e : J (2 * i) = -1 ∨ J (2 * i + 1) = -1
      · rw [if_pos e]
        obtain ⟨q1, q2⟩ := accC_1 (p := p) n (i + 1) 0 (Or.inl rfl)
        refine ⟨q1, fun z => absurd (q2.mp z).1 (by decide), fun z => ?_⟩
        have := z.2 i (Nat.le_refl i) (by omega) h
        exact absurd e (fun z => z.elim this.1 this.2)
      · rw [if_neg e]
        obtain ⟨q1, q2⟩ := accC_1 (p := p) n (i + 1) s hs
        refine ⟨q1, fun z => ⟨(q2.mp z).1, fun r h1 h2 h3 => ?_⟩, fun z => q2.mpr ⟨z.1, fun r h1 h2 => z.2 r (by omega) (by omega)⟩⟩
        by_cases er : r = i
        · subst er; exact ⟨fun y => e (Or.inl y), fun y => e (Or.inr y)⟩
        · exact (q2.mp z).2 r (by omega) (by omega) h3
    · rw [if_neg h]
      obtain ⟨q1, q2⟩ := accC_1 (p := p) n (i + 1) s hs
      refine ⟨q1, fun z => ⟨(q2.mp z).1, fun r h1 h2 h3 => ?_⟩, fun z => q2.mpr ⟨z.1, fun r h1 h2 => z.2 r (by omega) (by omega)⟩⟩
      by_cases er : r = i
      · subst er; exact absurd h3 h
      · exact (q2.mp z).2 r (by omega) (by omega) h3
theorem T_clo_end (hW : Wf N) {t : Nat} : rk_b (T_end N J t = 0) = T_clo N J t := by
  have h16 := hW.m
  obtain ⟨q1, q2⟩ := accC_1 (J := J) (p := lp N J t) (n_r N) 0 1 (Or.inr rfl)
  have key : T_end N J t = 0 ↔ T_clo N J t = 1 := by
    unfold T_clo
    rw [q2]
    constructor
    · intro h
      refine ⟨rfl, fun r _ h2 h3 => ?_⟩
      have hr : r < n_r N := by omega
      have la := hW.a hr
      have lb := hW.b hr
      constructor
      · intro z
        have := (T_end_bit (J := J) hW (t := t) (j := n_a N r) (by omega)).mpr ⟨r, hr, of_decide_eq_true h3, Or.inl ⟨z, rfl⟩⟩
        rw [h, b_0] at this; cases this
      · intro z
        have := (T_end_bit (J := J) hW (t := t) (j := n_b N r) (by omega)).mpr ⟨r, hr, of_decide_eq_true h3, Or.inr ⟨z, rfl⟩⟩
        rw [h, b_0] at this; cases this
    · intro h
      refine bz_iff.mpr (fun j hj => ?_)
      cases hb : bt (T_end N J t) j with
      | false => rfl
      | true =>
        obtain ⟨r, h1, h2, h3⟩ := (T_end_bit hW hj).mp hb
        have := h.2 r (Nat.zero_le _) (by omega) (decide_eq_true h2)
        rcases h3 with h3 | h3
        · exact absurd h3.1 this.1
        · exact absurd h3.1 this.2
  by_cases e : T_end N J t = 0
  · rw [rk_b_t e, key.mp e]
  · rw [rk_b_f e]
    rcases q1 with z | z
    · exact z.symm
    · exact absurd (key.mpr z) e
theorem d_K_all (w : Nat → Int32) {t : Nat} (ht : t < d_n N) : (d_K N w).1 t = true := fb_ct_all.mp (K_I_all (d_W N w) (d_T N)).1 t ht
theorem d_K_by (w : Nat → Int32) {i : Nat} (hi : i < d_n N) : (d_K N w).2.2.1 i < d_n N := ((K_I_all (n := d_n N) (d_W N w) (d_T N)).2.1 i hi).1
theorem d_K_rank (w : Nat → Int32) {t : Nat} (ht : t < d_n N) : (d_K N w).2.2.2.1 t < d_n N ∧ (d_K N w).2.2.1 ((d_K N w).2.2.2.1 t) = t ∧ (d_K N w).2.2.2.2 t < (d_K N w).2.1 := ((K_I_all (n := d_n N) (d_W N w) (d_T N)).2.2.1 t (d_K_all w ht)).2
theorem d_K_nets (w : Nat → Int32) : (d_K N w).2.1 ≤ d_n N := (K_I_all (n := d_n N) (d_W N w) (d_T N)).2.2.2.1
theorem d_K_inj (w : Nat → Int32) : ∀ a b, a < b → b < d_n N → (d_K N w).2.2.1 a ≠ (d_K N w).2.2.1 b := by
  intro a b hab hb e
  have hn : ∀ t, t < d_n N → (d_K N w).2.2.2.1 t < d_n N := fun t ht => (d_K_rank w ht).1
  have onto : ∃ q, q < d_n N ∧ (d_K N w).2.2.2.1 q = a := fb_onto hn (fun i j hij hj z => by
    have h1 := (d_K_rank w (show i < d_n N by omega)).2.1
    have h2 := (d_K_rank w hj).2.1
    rw [z] at h1
    omega) (by omega)
  have onto2 : ∃ q, q < d_n N ∧ (d_K N w).2.2.2.1 q = b := fb_onto hn (fun i j hij hj z => by
    have h1 := (d_K_rank w (show i < d_n N by omega)).2.1
    have h2 := (d_K_rank w hj).2.1
    rw [z] at h1
    omega) hb
  obtain ⟨q, hq, eq⟩ := onto
  obtain ⟨q', hq', eq'⟩ := onto2
  have h1 := (d_K_rank w hq).2.1
  have h2 := (d_K_rank w hq').2.1
  rw [eq] at h1
  rw [eq'] at h2
  rw [e, h2] at h1
  subst h1
  omega
end T
