/-! simple facts by which the transformers are read -/
theorem rk_st_0 (a : Value) (ls : List Value) (v : Value) : rk_st (a :: ls) 0 v = v :: ls := rfl
theorem rk_st_1i (x : Int32) (b : Value) (ls : List Value) (v : Value) : rk_st (.int x :: b :: ls) 1 v = .int x :: v :: ls := rfl
theorem rk_st_1r (x : Nat) (b : Value) (ls : List Value) (v : Value) : rk_st (.ref x :: b :: ls) 1 v = .ref x :: v :: ls := rfl
theorem rk_st_1n (b : Value) (ls : List Value) (v : Value) : rk_st (.null :: b :: ls) 1 v = .null :: v :: ls := rfl
theorem rk_st_1j (x : Int64) (b : Value) (ls : List Value) (v : Value) : rk_st (.long x :: b :: ls) 1 v = .null :: v :: ls := rfl
theorem rk_kill_ss (a : Value) (ls : List Value) (n : Nat) : rk_kill (a :: ls) (n + 2) = a :: rk_kill ls (n + 1) := by
  unfold rk_kill
  simp only [List.getElem?_cons_succ]
  cases h : ls[n]? with
  | none => rfl
  | some w => cases w <;> rfl
theorem rk_st_ss (a : Value) (ls : List Value) (n : Nat) (v : Value) : rk_st (a :: ls) (n + 2) v = a :: rk_st ls (n + 1) v := by
  unfold rk_st
  rw [rk_kill_ss, List.set_cons_succ]
theorem rk_st2_0 (a b : Value) (ls : List Value) (v : Value) : rk_st2 (a :: b :: ls) 0 v = v :: .null :: ls := rfl
theorem rk_st2_1i (x : Int32) (b d : Value) (ls : List Value) (v : Value) : rk_st2 (.int x :: b :: d :: ls) 1 v = .int x :: v :: .null :: ls := rfl
theorem rk_st2_1r (x : Nat) (b d : Value) (ls : List Value) (v : Value) : rk_st2 (.ref x :: b :: d :: ls) 1 v = .ref x :: v :: .null :: ls := rfl
theorem rk_st2_1n (b d : Value) (ls : List Value) (v : Value) : rk_st2 (.null :: b :: d :: ls) 1 v = .null :: v :: .null :: ls := rfl
theorem rk_st2_1j (x : Int64) (b d : Value) (ls : List Value) (v : Value) : rk_st2 (.long x :: b :: d :: ls) 1 v = .null :: v :: .null :: ls := rfl
theorem rk_st2_ss (a : Value) (ls : List Value) (n : Nat) (v : Value) : rk_st2 (a :: ls) (n + 2) v = a :: rk_st2 ls (n + 1) v := by
  unfold rk_st2
  rw [rk_kill_ss, List.set_cons_succ, List.set_cons_succ]
theorem rk_cat_i (x : Int32) : (Value.int x).category = 1 := rfl
theorem rk_cat_j (x : Int64) : (Value.long x).category = 2 := rfl
theorem rk_cat_r (x : Nat) : (Value.ref x).category = 1 := rfl
theorem rk_sml (r : List Value) : rk_small r = ((r.map fun v => v.category).sum ≤ 8) := rfl
theorem rk_row_all : (List.range 4).all (fun s => rk_ob (rk_row s) == 4 && (rk_rf (rk_row s) 0 == rk_row s + 1 && (rk_kd (rk_row s + 1) == 1 && rk_ln (rk_row s + 1) == 60))) = true := by decide +kernel
theorem rk_row_f {s : Nat} (h : s < 4) : rk_ob (rk_row s) = 4 ∧ rk_rf (rk_row s) 0 = rk_row s + 1 ∧ rk_kd (rk_row s + 1) = 1 ∧ rk_ln (rk_row s + 1) = 60 := by
  have := List.all_eq_true.mp rk_row_all s (List.mem_range.mpr h)
  simp only [Bool.and_eq_true, beq_iff_eq] at this
  exact this
theorem rk_row_ob {s : Nat} (h : s < 4) : rk_ob (rk_row s) = 4 := (rk_row_f h).1
theorem rk_row_rf {s : Nat} (h : s < 4) : rk_rf (rk_row s) 0 = rk_row s + 1 := (rk_row_f h).2.1
theorem rk_itm_kd {s : Nat} (h : s < 4) : rk_kd (rk_row s + 1) = 1 := (rk_row_f h).2.2.1
theorem rk_itm_ln {s : Nat} (h : s < 4) : rk_ln (rk_row s + 1) = 60 := (rk_row_f h).2.2.2
def rk_b (p : Prop) [Decidable p] : Int32 := if p then 1 else 0
/-- a loop: k times, from lo on -/
def bi {α : Type} (f : Nat → α → α) : Nat → Nat → α → α
  | 0, _, s => s
  | k + 1, lo, s => bi f k (lo + 1) (f lo s)
theorem bi_0 {α : Type} (f : Nat → α → α) (lo : Nat) (s : α) : bi f 0 lo s = s := rfl
theorem bi_s {α : Type} (f : Nat → α → α) (k lo : Nat) (s : α) : bi f (k + 1) lo s = bi f k (lo + 1) (f lo s) := rfl
theorem bi_inv {α : Type} {f : Nat → α → α} (P : Nat → α → Prop) : ∀ (k lo : Nat) (s : α), P lo s → (∀ i s, lo ≤ i → i < lo + k → P i s → P (i + 1) (f i s)) → P (lo + k) (bi f k lo s)
  | 0, lo, s, h, _ => h
  | k + 1, lo, s, h, hs => by
    rw [bi_s]
    have := bi_inv P k (lo + 1) (f lo s) (hs lo s (Nat.le_refl lo) (by omega) h) (fun i s h1 h2 => hs i s (by omega) (by omega))
    rw [show lo + (k + 1) = lo + 1 + k by omega]
    exact this
theorem bi_cong {α : Type} {f f' : Nat → α → α} : ∀ (k lo : Nat) (s : α), (∀ i s, lo ≤ i → i < lo + k → f i s = f' i s) → bi f k lo s = bi f' k lo s
  | 0, lo, s, _ => rfl
  | k + 1, lo, s, h => by
    rw [bi_s, bi_s, h lo s (Nat.le_refl lo) (by omega)]
    exact bi_cong k (lo + 1) _ (fun i s h1 h2 => h i s (by omega) (by omega))
theorem bi_snoc {α : Type} (f : Nat → α → α) : ∀ (k lo : Nat) (s : α), bi f (k + 1) lo s = f (lo + k) (bi f k lo s)
  | 0, lo, s => rfl
  | k + 1, lo, s => by
    rw [bi_s, bi_snoc f k (lo + 1), bi_s]
    rw [show lo + 1 + k = lo + (k + 1) by omega]
theorem rk_b_t {p : Prop} [Decidable p] (h : p) : rk_b p = 1 := if_pos h
theorem rk_b_f {p : Prop} [Decidable p] (h : ¬ p) : rk_b p = 0 := if_neg h
theorem rk_b_01 (p : Prop) [Decidable p] : rk_b p = 0 ∨ rk_b p = 1 := by by_cases h : p; exact Or.inr (rk_b_t h); exact Or.inl (rk_b_f h)
theorem rk_b_0 (p : Prop) [Decidable p] : rk_b p = 0 ↔ ¬ p := by by_cases h : p; simp [rk_b, h]; simp [rk_b, h]
theorem rk_b_1 (p : Prop) [Decidable p] : rk_b p = 1 ↔ p := by by_cases h : p; simp [rk_b, h]; simp [rk_b, h]
theorem rk_b_i {p q : Prop} [Decidable p] [Decidable q] (h : p ↔ q) : rk_b p = rk_b q := by by_cases hp : p; rw [rk_b_t hp, rk_b_t (h.mp hp)]; rw [rk_b_f hp, rk_b_f (fun z => hp (h.mpr z))]
theorem rk_le_lt (a b : Int32) : (a ≤ b) = ¬ (b < a) := propext Int32.not_lt.symm
theorem rk_f_imp (p : Prop) : (False → p) = True := by simp
theorem rk_t_imp (p : Prop) : (True → p) = p := by simp
theorem rk_10 : ((1 : Int32) = 0) = False := by simp
theorem rk_01 : ((0 : Int32) = 1) = False := by simp
