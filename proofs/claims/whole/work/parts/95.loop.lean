/-! ===== the law's loop ===== -/
section LawLoop
variable {p : Program} {e : Env} {s : State} {m : MethodId} {below : List Frame} {meth : Method} {c : Code} {b L : Nat} {xs : Nat → Int32} {g : rk_G}
theorem lw_lim {i : Nat} (hL : L ≤ 3072) (hi : i ≤ L) : (Int32.ofNat L - 6 < nI i) ↔ L < i + 6 := by
  show (nI L - nI 6 < nI i) ↔ _
  rw [fa_lt, pk_sub_toInt (by omega) (by omega), nI_toInt (by omega)]
  omega
theorem law_loop (X : lw_X g p s m meth c b L xs) (hL : L ≤ 3072) : ∀ (n i : Nat) (H : Heap) (locs : List Loc) (ls : Array Slot) (σ : rk_M), i ≤ L → L - i < n → lw_I g s b i H locs ls σ → Inv σ → lw_W g p e s m below meth c b 18 H locs ls [] := by
  have hx := X.1.1
  have hb := X.1.2.1
  have hX := X.1.2.2.2.2.2.2.1
  have hbl := X.1.2.2.2.2.2.2.2.1
  have hbA : ¬ (fun q : Nat => s.heap.size ≤ q) b := Nat.not_le.mpr hbl
  intro n
  induction n with
  | zero => intro i H locs ls σ h1 h2; omega
  | succ n ih =>
    intro i H locs ls σ hi hn I J
    obtain ⟨hl, hP, hD, hS⟩ := id I
    refine lv_iload_n hx hb dL_law_18 rfl (lv_at hl 0 rfl) ?_
    refine lv_aload_n hx hb dL_law_19 rfl (lv_at hl 3 rfl) ?_
    refine va_slen hx hb hX hbl hbA hS dL_law_20 ?_
    refine lv_bipush (v := 6) hx hb dL_law_21 (by decide) ?_
    refine lv_isub hx hb dL_law_23 ?_
    refine lv_icmp_gt (tgt := 963) hx hb dL_law_24 (by decide) (fun h => ?_) (fun h => ?_)
    · refine lv_iconst (v := 1) hx hb dL_law_963 (by decide) ?_
      refine va_forget (fun q hq => hS.2.2 q hq) ?_
      refine W.widen (k := 600000) (n := 7302250) (Nat.le_of_ble_eq_true rfl) (Nat.le_of_ble_eq_true rfl) ?_
      exact lw_ret hx hb X.1.2.2.1 X.1.2.2.2.2.2.2.2.2.1 dL_law_964
    · rw [lw_lim hL hi] at h
      have hi6 : i + 6 ≤ L := by omega
      refine lv_aload_n hx hb dL_law_27 rfl (lv_at hl 3 rfl) ?_
      refine lv_iload_n hx hb dL_law_28 rfl (lv_at hl 0 rfl) ?_
      refine va_sld hx hb hX hbl hbA hS (vp_in_nI (show i < L by omega) (by omega)) dL_law_29 ?_
      refine lv_bipush (v := 31) hx hb dL_law_30 (by decide) ?_
      refine lv_iand hx hb dL_law_32 ?_
      have hk : lw_K g p e s m below meth c b i 957 := by
        intro H2 locs2 ls2 σ2 I2 J2
        obtain ⟨hl2, hP2, hD2, hS2⟩ := I2
        refine lv_iinc (v := nI (i + 6)) (lv' := [(3, .int (nI (i + 6))), (2, .ref (g.2.2.1 42)), (1, .ref (g.2.2.1 0)), (0, .ref b)]) hx hb dL_law_957 hl2 (k := 0) rfl (by rw [show Int32.ofInt 6 = nI 6 from by decide, nI_add]) (by decide) rfl (fun ls3 hl3 => ?_)
        refine lv_goto (tgt := 18) hx hb dL_law_960 (by decide) ?_
        exact ih (i + 6) H2 locs2 ls3 σ2 (by omega) (by omega) ⟨hl3, hP2, hD2, hS2⟩ J2
      obtain ⟨j, hj, ej⟩ := and31 (xs (nI i).toNatClampNeg)
      rw [ej]
      rcases (show j = 0 ∨ j = 1 ∨ j = 2 ∨ j = 3 ∨ j = 4 ∨ j = 5 ∨ j = 6 ∨ j = 7 ∨ j = 8 ∨ j = 9 ∨ j = 10 ∨ j = 11 ∨ j = 12 ∨ j = 13 ∨ j = 14 ∨ j = 15 ∨ j = 16 ∨ j = 17 ∨ j = 18 ∨ j = 19 ∨ j = 20 ∨ j = 21 ∨ j = 22 ∨ j = 23 ∨ 24 ≤ j by omega) with rfl | rfl | rfl | rfl | rfl | rfl | rfl | rfl | rfl | rfl | rfl | rfl | rfl | rfl | rfl | rfl | rfl | rfl | rfl | rfl | rfl | rfl | rfl | rfl | h24
      · exact lv_tableIn (tgt := 144) (off := 111) hx hb dL_law_33 (by decide) (by decide) (by decide) (by decide) (lc_0 X hL hi6 I J hk)
      · exact lv_tableIn (tgt := 177) (off := 144) hx hb dL_law_33 (by decide) (by decide) (by decide) (by decide) (lc_1 X hL hi6 I J hk)
      · exact lv_tableIn (tgt := 230) (off := 197) hx hb dL_law_33 (by decide) (by decide) (by decide) (by decide) (lc_2 X hL hi6 I J hk)
      · exact lv_tableIn (tgt := 243) (off := 210) hx hb dL_law_33 (by decide) (by decide) (by decide) (by decide) (lc_3 X hL hi6 I J hk)
      · exact lv_tableIn (tgt := 286) (off := 253) hx hb dL_law_33 (by decide) (by decide) (by decide) (by decide) (lc_4 X hL hi6 I J hk)
      · exact lv_tableIn (tgt := 309) (off := 276) hx hb dL_law_33 (by decide) (by decide) (by decide) (by decide) (lc_5 X hL hi6 I J hk)
      · exact lv_tableIn (tgt := 342) (off := 309) hx hb dL_law_33 (by decide) (by decide) (by decide) (by decide) (lc_6 X hL hi6 I J hk)
      · exact lv_tableIn (tgt := 375) (off := 342) hx hb dL_law_33 (by decide) (by decide) (by decide) (by decide) (lc_7 X hL hi6 I J hk)
      · exact lv_tableIn (tgt := 408) (off := 375) hx hb dL_law_33 (by decide) (by decide) (by decide) (by decide) (lc_8 X hL hi6 I J hk)
      · exact lv_tableIn (tgt := 451) (off := 418) hx hb dL_law_33 (by decide) (by decide) (by decide) (by decide) (lc_9 X hL hi6 I J hk)
      · exact lv_tableIn (tgt := 484) (off := 451) hx hb dL_law_33 (by decide) (by decide) (by decide) (by decide) (lc_10 X hL hi6 I J hk)
      · exact lv_tableIn (tgt := 517) (off := 484) hx hb dL_law_33 (by decide) (by decide) (by decide) (by decide) (lc_11 X hL hi6 I J hk)
      · exact lv_tableIn (tgt := 560) (off := 527) hx hb dL_law_33 (by decide) (by decide) (by decide) (by decide) (lc_12 X hL hi6 I J hk)
      · exact lv_tableIn (tgt := 603) (off := 570) hx hb dL_law_33 (by decide) (by decide) (by decide) (by decide) (lc_13 X hL hi6 I J hk)
      · exact lv_tableIn (tgt := 626) (off := 593) hx hb dL_law_33 (by decide) (by decide) (by decide) (by decide) (lc_14 X hL hi6 I J hk)
      · exact lv_tableIn (tgt := 649) (off := 616) hx hb dL_law_33 (by decide) (by decide) (by decide) (by decide) (lc_15 X hL hi6 I J hk)
      · exact lv_tableIn (tgt := 672) (off := 639) hx hb dL_law_33 (by decide) (by decide) (by decide) (by decide) (lc_16 X hL hi6 I J hk)
      · exact lv_tableIn (tgt := 715) (off := 682) hx hb dL_law_33 (by decide) (by decide) (by decide) (by decide) (lc_17 X hL hi6 I J hk)
      · exact lv_tableIn (tgt := 738) (off := 705) hx hb dL_law_33 (by decide) (by decide) (by decide) (by decide) (lc_18 X hL hi6 I J hk)
      · exact lv_tableIn (tgt := 791) (off := 758) hx hb dL_law_33 (by decide) (by decide) (by decide) (by decide) (lc_19 X hL hi6 I J hk)
      · exact lv_tableIn (tgt := 834) (off := 801) hx hb dL_law_33 (by decide) (by decide) (by decide) (by decide) (lc_20 X hL hi6 I J hk)
      · exact lv_tableIn (tgt := 897) (off := 864) hx hb dL_law_33 (by decide) (by decide) (by decide) (by decide) (lc_21 X hL hi6 I J hk)
      · exact lv_tableIn (tgt := 920) (off := 887) hx hb dL_law_33 (by decide) (by decide) (by decide) (by decide) (lc_22 X hL hi6 I J hk)
      · exact lv_tableIn (tgt := 943) (off := 910) hx hb dL_law_33 (by decide) (by decide) (by decide) (by decide) (lc_23 X hL hi6 I J hk)
      · exact lv_tableOut (tgt := 957) hx hb dL_law_33 (Or.inr (by rw [nI_toInt (by omega)]; omega)) (by decide) (hk _ _ _ _ I J)
end LawLoop
