/-! ===== strokes: classes of joined roads, by their least ===== -/
section Lab
variable {N : Nt} {J : Hi}
def PR (N : Nt) (J : Hi) (r s : Nat) : Prop := J (2 * r) = nI s ∨ J (2 * r + 1) = nI s
def J_v (N : Nt) (x : Int32) : Prop := x = -1 ∨ ∃ s, s < n_r N ∧ x = nI s
def JP (N : Nt) (J : Hi) : Prop := (∀ r, r < n_r N → J_v N (J (2 * r)) ∧ J_v N (J (2 * r + 1))) ∧ ∀ r s, r < n_r N → s < n_r N → PR N J r s → PR N J s r
theorem PR_e {r s : Nat} : PR N J r s ↔ ∃ e, (e = 2 * r ∨ e = 2 * r + 1) ∧ J e = nI s := by
  unfold PR
  constructor
  · rintro (h | h)
    · exact ⟨_, Or.inl rfl, h⟩
    · exact ⟨_, Or.inr rfl, h⟩
  · rintro ⟨e, rfl | rfl, h⟩
    · exact Or.inl h
    · exact Or.inr h
theorem n_eo_or {r m : Nat} : n_eo N r m = 2 * r ∨ n_eo N r m = 2 * r + 1 := by
  unfold n_eo
  split
  · exact Or.inl rfl
  · exact Or.inr rfl
theorem JP_set (hW : Wf N) {m : Nat} {q : Nat × Nat} (h : JP N J) (hb : J_best N m J = some q) : JP N (J_set N m J q.1 q.2) := by
  have h24 := hW.r
  obtain ⟨l1, l2⟩ := J_best_in (N := N) q hb
  obtain ⟨f1, f2⟩ := J_ok_best hb
  have ne : n_eo N q.1 m ≠ n_eo N q.2 m := n_eo_ne (by omega)
  have a1 : J_set N m J q.1 q.2 (n_eo N q.1 m) = nI q.2 := by unfold J_set; rw [pk_un ne, pk_us]
  have a2 : J_set N m J q.1 q.2 (n_eo N q.2 m) = nI q.1 := by unfold J_set; rw [pk_us]
  have a3 : ∀ e, e ≠ n_eo N q.1 m → e ≠ n_eo N q.2 m → J_set N m J q.1 q.2 e = J e := fun e h1 h2 => by unfold J_set; rw [pk_un h2, pk_un h1]
  have val : ∀ e, J_v N (J e) → J_v N (J_set N m J q.1 q.2 e) := by
    intro e he
    by_cases e1 : e = n_eo N q.1 m
    · subst e1; rw [a1]; exact Or.inr ⟨_, l2, rfl⟩
    · by_cases e2 : e = n_eo N q.2 m
      · subst e2; rw [a2]; exact Or.inr ⟨_, by omega, rfl⟩
      · rw [a3 e e1 e2]; exact he
  refine ⟨fun r hr => ⟨val _ (h.1 r hr).1, val _ (h.1 r hr).2⟩, fun r s hr hs hp => ?_⟩
  obtain ⟨e, he, hj⟩ := PR_e.mp hp
  refine PR_e.mpr ?_
  by_cases e1 : e = n_eo N q.1 m
  · have hrq : r = q.1 := by rcases n_eo_or (N := N) (r := q.1) (m := m) with z | z <;> omega
    rw [e1, a1] at hj
    have hsq : q.2 = s := (nI_eq (by omega) (by omega)).mp hj
    subst hrq; subst hsq
    exact ⟨_, n_eo_or, a2⟩
  · by_cases e2 : e = n_eo N q.2 m
    · have hrq : r = q.2 := by rcases n_eo_or (N := N) (r := q.2) (m := m) with z | z <;> omega
      rw [e2, a2] at hj
      have hsq : q.1 = s := (nI_eq (by omega) (by omega)).mp hj
      subst hrq; subst hsq
      exact ⟨_, n_eo_or, a1⟩
    · rw [a3 e e1 e2] at hj
      obtain ⟨e', he', hj'⟩ := PR_e.mp (h.2 r s hr hs (PR_e.mpr ⟨e, he, hj⟩))
      refine ⟨e', he', ?_⟩
      rw [a3 e' (fun z => ?_) (fun z => ?_)]
      · exact hj'
      · rw [z, f1.2] at hj'; exact nI_ne_m1 (n := r) (by omega) hj'.symm
      · rw [z, f2.2] at hj'; exact nI_ne_m1 (n := r) (by omega) hj'.symm
theorem JP_at (hW : Wf N) {m : Nat} : ∀ (k : Nat) (J : Hi) (p : Nat), JP N J → JP N (J_at N m k (J, p)).1
  | 0, J, p, h => h
  | k + 1, J, p, h => by
    rw [J_at]
    dsimp only
    cases hb : J_best N m J with
    | none => exact h
    | some q => exact JP_at hW k _ _ (JP_set hW h hb)
theorem JP_all (hW : Wf N) : JP N (J_all N).1 := by
  unfold J_all
  have key : ∀ (n m : Nat) (J : Hi) (p : Nat), JP N J → JP N (bi (fun m s => J_at N m 24 s) n m (J, p)).1 := by
    intro n
    induction n with
    | zero => intro m J p h; exact h
    | succ n ih =>
      intro m J p h
      rw [bi_s]
      exact ih (m + 1) _ _ (JP_at hW 24 J p h)
  refine key _ _ _ _ ⟨fun r _ => ⟨Or.inl rfl, Or.inl rfl⟩, fun r s hr hs hp => ?_⟩
  have := hW.r
  rcases hp with hp | hp
  · exact absurd hp.symm (nI_ne_m1 (by omega))
  · exact absurd hp.symm (nI_ne_m1 (by omega))
/-- joined, perhaps over others -/
def Cl (N : Nt) (J : Hi) (r s : Nat) : Prop := ∀ S : Nat → Prop, S r → (∀ a b, a < n_r N → b < n_r N → S a → PR N J a b → S b) → S s
theorem Cl.rfl' {r : Nat} : Cl N J r r := fun _ h _ => h
theorem Cl.trans {r s t : Nat} (h : Cl N J r s) (h' : Cl N J s t) : Cl N J r t := fun S a b => h' S (h S a b) b
theorem Cl.step {r s : Nat} (hr : r < n_r N) (hs : s < n_r N) (h : PR N J r s) : Cl N J r s := fun _ a b => b r s hr hs a h
theorem Cl.symm (hJ : JP N J) {r s : Nat} (h : Cl N J r s) : Cl N J s r := h (fun x => Cl N J x r) Cl.rfl' (fun a b ha hb q p => (Cl.step hb ha (hJ.2 a b ha hb p)).trans q)
theorem Cl.lt {r s : Nat} (hr : r < n_r N) (h : Cl N J r s) : s < n_r N := h (fun x => x < n_r N) hr (fun _ _ _ hb _ _ => hb)
noncomputable def n_ld (N : Nt) (J : Hi) (r : Nat) : Nat := Classical.choose (pk_least (fun s => Cl N J r s) ⟨r, Cl.rfl'⟩)
theorem n_ld_cl {r : Nat} : Cl N J r (n_ld N J r) := (Classical.choose_spec (pk_least (fun s => Cl N J r s) ⟨r, Cl.rfl'⟩)).1
theorem n_ld_least {r j : Nat} (h : Cl N J r j) : n_ld N J r ≤ j := by
  rcases Nat.lt_or_ge j (n_ld N J r) with q | q
  · exact absurd h ((Classical.choose_spec (pk_least (fun s => Cl N J r s) ⟨r, Cl.rfl'⟩)).2 j q)
  · exact q
theorem n_ld_le {r : Nat} : n_ld N J r ≤ r := n_ld_least Cl.rfl'
theorem n_ld_eq (hJ : JP N J) {r s : Nat} (h : Cl N J r s) : n_ld N J r = n_ld N J s := Nat.le_antisymm (n_ld_least (h.trans n_ld_cl)) (n_ld_least ((h.symm hJ).trans n_ld_cl))
theorem n_ld_iff (hJ : JP N J) {r s : Nat} : Cl N J r s ↔ n_ld N J r = n_ld N J s := ⟨n_ld_eq hJ, fun e => by have := n_ld_cl (N := N) (J := J) (r := r); rw [e] at this; exact this.trans (n_ld_cl.symm hJ)⟩
theorem n_ld_ld (hJ : JP N J) {r : Nat} : n_ld N J (n_ld N J r) = n_ld N J r := (n_ld_eq hJ n_ld_cl).symm
noncomputable def ldB (N : Nt) (J : Hi) (s : Nat) : Bool := decide (n_ld N J s = s)
theorem ldB_t {s : Nat} : ldB N J s = true ↔ n_ld N J s = s := decide_eq_true_iff
noncomputable def lab (N : Nt) (J : Hi) (r : Nat) : Nat := fb_ct (ldB N J) (n_ld N J r)
noncomputable def lcn (N : Nt) (J : Hi) : Nat := fb_ct (ldB N J) (n_r N)
theorem lab_cl (hJ : JP N J) {r s : Nat} : lab N J r = lab N J s ↔ Cl N J r s := by
  rw [n_ld_iff hJ]
  constructor
  · intro h
    exact fb_ct_kth_one (p := ldB N J) (ldB_t.mpr (n_ld_ld hJ)) (ldB_t.mpr (n_ld_ld hJ)) h
  · intro h
    unfold lab
    rw [h]
/-- how a road's stroke stands to the strokes begun before road i -/
theorem lab_lt (hJ : JP N J) {r i : Nat} : lab N J r < fb_ct (ldB N J) i ↔ n_ld N J r < i := by
  have hl : ldB N J (n_ld N J r) = true := ldB_t.mpr (n_ld_ld hJ)
  constructor
  · intro h
    rcases Nat.lt_or_ge (n_ld N J r) i with q | q
    · exact q
    · have := fb_ct_mono (ldB N J) q
      unfold lab at h
      omega
  · intro h
    have h1 := fb_ct_mono (ldB N J) (show n_ld N J r + 1 ≤ i by omega)
    rw [fb_ct_succ, if_pos hl] at h1
    unfold lab
    omega
theorem lab_lcn (hJ : JP N J) {r : Nat} (hr : r < n_r N) : lab N J r < lcn N J := (lab_lt hJ).mpr (Nat.lt_of_le_of_lt n_ld_le hr)
theorem lab_new (hJ : JP N J) {i : Nat} (h : n_ld N J i = i) : lab N J i = fb_ct (ldB N J) i := by unfold lab; rw [h]
theorem lcn_le (hW : Wf N) : lcn N J ≤ 24 := Nat.le_trans (fb_ct_le _ _) hW.r
theorem lab_ex {t : Nat} (h : t < lcn N J) : ∃ r, r < n_r N ∧ lab N J r = t := by
  obtain ⟨i, h1, h2, h3⟩ := fb_ct_kth h
  exact ⟨i, h1, by unfold lab; rw [ldB_t.mp h2]; exact h3⟩
end Lab
