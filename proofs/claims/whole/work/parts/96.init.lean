/-! ===== what is held at the start ===== -/
def s0r : Nat → Int32 := fun k => if k = 1 then -1 else 0
def s0i : Nat → Nat → Int32 := fun c => if c = 10 then (fun k => if k = 8 then -1 else if k = 9 then -1 else 0) else if c = 32 then (fun k => if k = 3 then -1 else 0) else if c = 34 then s0r else if c = 36 then s0r else if c = 38 then s0r else if c = 40 then s0r else fun _ => 0
def s0j : Nat → Nat → Int64 := fun c => if c = 10 then (fun k => if k = 11 then 1 else 0) else fun _ => 0
def rk_s0 : rk_M := (s0i, s0j)
def Nt0 : Nt := ((0, 0), (fun _ => 0, fun _ => 0), (fun _ => 0, fun _ => 0), (fun _ => 0, fun _ => 0))
def Rw0 : Rw := fun _ => (false, 0, 0, fun _ => 0)
theorem Inv_0 : Inv rk_s0 := by
  have z : ∀ {i : Nat} {P : Prop}, i < 0 → P := fun h => absurd h (Nat.not_lt_zero _)
  have hn : d_n Nt0 = 0 := rfl
  refine ⟨Nt0, fun _ => 0, Rw0, 0, ⟨⟨⟨Nat.zero_le _, Nat.zero_le _⟩, fun i h => z h, fun i j h => z h, fun r h => z h, fun r h => z h, fun r q h => z h⟩, ⟨rfl, rfl⟩⟩, (fun s _ h => by cases h), ⟨?_, ?_, ?_, ?_, rfl⟩, ⟨?_, ?_, ?_, rfl⟩⟩
  · exact ⟨⟨rfl, rfl⟩, fun i h => z h, fun r h => z h, fun r h => z h⟩
  · exact fun t h => z h
  · refine ⟨⟨fun r h => z h, rfl⟩, ?_, ?_, ?_, ?_, ?_⟩
    · rw [hn]; rfl
    · rw [hn]; exact fun t j h => z h
    · rw [hn]; exact ⟨fun t h => z h, fun r h => z h⟩
    · rw [hn]; exact fun t h => z h
    · unfold d_K
      rw [hn]
      exact ⟨rfl, fun j h => z h, (fun t h => by cases h)⟩
  · intro s h4
    refine ⟨(fun h => by cases h), fun _ => ?_⟩
    rcases (show s = 0 ∨ s = 1 ∨ s = 2 ∨ s = 3 by omega) with rfl | rfl | rfl | rfl <;> rfl
  · exact ⟨⟨rfl, rfl⟩, fun i h => z h, fun r h => z h, fun r h => z h⟩
  · exact ⟨rfl, fun t h => z h⟩
  · exact fun s h4 => ⟨(fun h => by cases h), fun _ => rfl⟩
def mk_a (l : List Nat) : Nat → Nat := fun c => l.getD c 0
