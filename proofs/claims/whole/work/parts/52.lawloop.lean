set_option maxHeartbeats 4000000 in
set_option maxRecDepth 100000 in
/-- THE LAW'S LOOP: at its head, with k calls made -/
theorem law_loop {p : Program} {l : Launch} {e : Env} {s : State} {m : MethodId} {below : List Frame} {meth : Method} {c : Code} {b L : Nat} {xs : Nat → Int32} {D : va_G} {cI cJ cO : ClassId} (hL : L ≤ 2048) (C0 : lw_At p s m meth c b L xs) (hK : cy_K D cI cJ cO s) : ∀ (f k n : Nat) (σ : cy_S) (pl : Nat → Int32) (hi : Int32) (ad : Nat → Nat) (H : Heap) (locs : List Loc) (ls : Array Slot), L + 4 ≤ 4 * k + 4 * f → 4 * k ≤ L + 3 → lw_St D cI cJ cO s b k n σ pl hi ad H locs ls → W p l e room_1 s m #[Value.ref b] below meth c H locs (19 + 2 * k) (1460 + 9 * k) (lw_Z below #[Value.ref b] s) (F0 m 18 ls []) := by
  intro f
  induction f with
  | zero =>
    intro k n σ pl hi ad H locs ls h1 h2
    exact absurd h1 (by omega)
  | succ f ih =>
    intro k n σ pl hi ad H locs ls h1 h2 hst
    have C1 := C0
    obtain ⟨hx, hb, hr, hml, hown, hts0, hX, hbl, hlocks, hgv⟩ := C1
    have hbA : ¬ s.heap.size ≤ b := Nat.not_le.mpr hbl
    have hst0 := hst
    obtain ⟨hinv, hI, hS, hl⟩ := hst
    refine lv_iload_n hx hb dL_law_18 rfl (lv_at hl 0 rfl) ?_
    refine lv_aload_n hx hb dL_law_19 rfl (lv_at hl 1 rfl) ?_
    refine va_slen hx hb hX hbl hbA hS dL_law_20 ?_
    refine lv_iconst (v := 4) hx hb dL_law_21 (by decide) ?_
    refine lv_isub hx hb dL_law_22 ?_
    have hsub : (Int32.ofNat L - 4).toInt = (L : Int) - 4 := pk_sub_toInt (a := L) (b := 4) (by omega) (by decide)
    refine lv_icmp_gt (tgt := 737) hx hb dL_law_23 (by decide) (fun h3 => ?_) (fun h3 => ?_)
    · refine lv_iconst (v := 1) hx hb dL_law_737 (by decide) ?_
      refine va_forget (fun q hq => hS.2.2 q hq) ?_
      refine W.widen (k := 600000) (n := 7302250) (by omega) (by omega) ?_
      exact lw_ret hx hb hr hlocks dL_law_738
    · have hk : 4 * k + 4 ≤ L := by
        rw [Int32.lt_iff_toInt_lt, hsub, nI_toInt (by omega)] at h3
        omega
      have kk : ∀ (n : Nat) (σ : cy_S) (pl : Nat → Int32) (hi : Int32) (ad : Nat → Nat) (H : Heap) (locs : List Loc) (ls : Array Slot), lw_St D cI cJ cO s b k n σ pl hi ad H locs ls → W p l e room_1 s m #[Value.ref b] below meth c H locs (19 + 2 * (k + 1)) (1460 + 9 * (k + 1)) (lw_Z below #[Value.ref b] s) (F0 m 731 ls []) := by
        intro n σ pl hi ad H locs ls hst
        obtain ⟨hinv, hI, hS, hl⟩ := hst
        refine lv_iinc (v := nI (4 * (k + 1))) (lv' := [(3, .int (nI (4 * (k + 1)))), (0, .ref b), (1, .ref (ad 0)), (2, .ref (ad 20))]) hx hb dL_law_731 hl (k := 0) rfl (show nI (4 * k) + nI 4 = nI (4 * (k + 1)) by rw [nI_add]; rfl) (by decide) rfl (fun ls hl => ?_)
        refine lv_goto (tgt := 18) hx hb dL_law_734 (by decide) ?_
        exact ih (k + 1) n σ pl hi ad H locs ls (by omega) (by omega) ⟨hinv, hI, hS, hl⟩
      refine lv_aload_n hx hb dL_law_26 rfl (lv_at hl 1 rfl) ?_
      refine lv_iload_n hx hb dL_law_27 rfl (lv_at hl 0 rfl) ?_
      refine cy_sld (k := 4 * k) hx hb hX hbl hbA hS (by omega) (by omega) dL_law_28 ?_
      refine lv_bipush (v := 31) hx hb dL_law_29 (by decide) ?_
      refine lv_iand hx hb dL_law_31 ?_
      rcases cy_sw0_19 (xs (4 * k) &&& 31) with w | w | w | w | w | w | w | w | w | w | w | w | w | w | w | w | w | w | w | w | ⟨w, -⟩
      · refine lv_tableIn (off := 96) (tgt := 128) hx hb dL_law_32 (by rw [w]; decide) (by rw [w]; decide) (by rw [w]; rfl) (by decide) ?_
        exact lc_load hL C0 hK hk hst0 kk
      · refine lv_tableIn (off := 129) (tgt := 161) hx hb dL_law_32 (by rw [w]; decide) (by rw [w]; decide) (by rw [w]; rfl) (by decide) ?_
        exact lc_set hL C0 hK hk hst0 kk
      · refine lv_tableIn (off := 172) (tgt := 204) hx hb dL_law_32 (by rw [w]; decide) (by rw [w]; decide) (by rw [w]; rfl) (by decide) ?_
        exact lc_number hL C0 hK hk hst0 kk
      · refine lv_tableIn (off := 206) (tgt := 238) hx hb dL_law_32 (by rw [w]; decide) (by rw [w]; decide) (by rw [w]; rfl) (by decide) ?_
        exact lc_put hL C0 hK hk hst0 kk
      · refine lv_tableIn (off := 249) (tgt := 281) hx hb dL_law_32 (by rw [w]; decide) (by rw [w]; decide) (by rw [w]; rfl) (by decide) ?_
        exact lc_at hL C0 hK hk hst0 kk
      · refine lv_tableIn (off := 282) (tgt := 314) hx hb dL_law_32 (by rw [w]; decide) (by rw [w]; decide) (by rw [w]; rfl) (by decide) ?_
        exact lc_is hL C0 hK hk hst0 kk
      · refine lv_tableIn (off := 315) (tgt := 347) hx hb dL_law_32 (by rw [w]; decide) (by rw [w]; decide) (by rw [w]; rfl) (by decide) ?_
        exact lc_take hL C0 hK hk hst0 kk
      · refine lv_tableIn (off := 348) (tgt := 380) hx hb dL_law_32 (by rw [w]; decide) (by rw [w]; decide) (by rw [w]; rfl) (by decide) ?_
        exact lc_sort hL C0 hK hk hst0 kk
      · refine lv_tableIn (off := 371) (tgt := 403) hx hb dL_law_32 (by rw [w]; decide) (by rw [w]; decide) (by rw [w]; rfl) (by decide) ?_
        exact lc_weight hL C0 hK hk hst0 kk
      · refine lv_tableIn (off := 395) (tgt := 427) hx hb dL_law_32 (by rw [w]; decide) (by rw [w]; decide) (by rw [w]; rfl) (by decide) ?_
        exact lc_inside hL C0 hK hk hst0 kk
      · refine lv_tableIn (off := 428) (tgt := 460) hx hb dL_law_32 (by rw [w]; decide) (by rw [w]; decide) (by rw [w]; rfl) (by decide) ?_
        exact lc_hold hL C0 hK hk hst0 kk
      · refine lv_tableIn (off := 461) (tgt := 493) hx hb dL_law_32 (by rw [w]; decide) (by rw [w]; decide) (by rw [w]; rfl) (by decide) ?_
        exact lc_bay hL C0 hK hk hst0 kk
      · refine lv_tableIn (off := 494) (tgt := 526) hx hb dL_law_32 (by rw [w]; decide) (by rw [w]; decide) (by rw [w]; rfl) (by decide) ?_
        exact lc_gate hL C0 hK hk hst0 kk
      · refine lv_tableIn (off := 527) (tgt := 559) hx hb dL_law_32 (by rw [w]; decide) (by rw [w]; decide) (by rw [w]; rfl) (by decide) ?_
        exact lc_pass hL C0 hK hk hst0 kk
      · refine lv_tableIn (off := 560) (tgt := 592) hx hb dL_law_32 (by rw [w]; decide) (by rw [w]; decide) (by rw [w]; rfl) (by decide) ?_
        exact lc_passed hL C0 hK hk hst0 kk
      · refine lv_tableIn (off := 584) (tgt := 616) hx hb dL_law_32 (by rw [w]; decide) (by rw [w]; decide) (by rw [w]; rfl) (by decide) ?_
        exact lc_tariff hL C0 hK hk hst0 kk
      · refine lv_tableIn (off := 617) (tgt := 649) hx hb dL_law_32 (by rw [w]; decide) (by rw [w]; decide) (by rw [w]; rfl) (by decide) ?_
        exact lc_duty hL C0 hK hk hst0 kk
      · refine lv_tableIn (off := 640) (tgt := 672) hx hb dL_law_32 (by rw [w]; decide) (by rw [w]; decide) (by rw [w]; rfl) (by decide) ?_
        exact lc_line hL C0 hK hk hst0 kk
      · refine lv_tableIn (off := 663) (tgt := 695) hx hb dL_law_32 (by rw [w]; decide) (by rw [w]; decide) (by rw [w]; rfl) (by decide) ?_
        exact lc_refused hL C0 hK hk hst0 kk
      · refine lv_tableIn (off := 676) (tgt := 708) hx hb dL_law_32 (by rw [w]; decide) (by rw [w]; decide) (by rw [w]; rfl) (by decide) ?_
        exact lc_count hL C0 hK hk hst0 kk
      · refine lv_tableOut (tgt := 731) hx hb dL_law_32 w (by decide) ?_
        refine W.widen (k := 19 + 2 * (k + 1)) (n := 1460 + 9 * (k + 1)) (by omega) (by omega) ?_
        exact kk n σ pl hi ad H locs ls hst0
/-- the first state: nothing anywhere -/
def cy_s0 : cy_S := (fun i _ => if i = 5 then -1 else if i = 6 then -1 else 0, fun _ _ => 0)
theorem cy_inv0 : cy_inv 0 cy_s0 := ⟨⟨by decide, rfl, fun k hk => absurd hk (Nat.not_lt_zero _), fun j _ => Or.inl rfl, 0, by decide, rfl⟩, fun _ _ => rfl⟩
/-- the addresses of the first cells -/
def cy_a0 (y : Nat) : Nat → Nat := fun j => if j < 20 then y + j else y + (j - 13)
theorem cy_W0 {D : va_G} {cI cJ cO : ClassId} {y : Nat} {H : Heap} (hy : va_at D vwCl (y, .inr (3, [.ref (y + 1 + 0), .int 0, .ref (y + 1 + 1), .ref (y + 1 + 2), .ref (y + 1 + 3), .ref (y + 1 + 4), .ref (y + 1 + 5), .int 0, .int 0, .int 0, .int 0, .int 0, .int 0])) H) (hA : ∀ i, i < 6 → va_at D vwCl (y + 1 + i, va_up (cy_csY cI cJ cO) 2 (.inl (cI, 6, .inl (fun _ => -1))) i) H) (hm : va_at D vwCl (y + 7, .inr (4, [.int 0, .ref (y + 8 + 0), .ref (y + 8 + 1), .ref (y + 8 + 2), .ref (y + 8 + 3), .ref (y + 8 + 4), .ref (y + 8 + 5), .ref (y + 8 + 6), .ref (y + 8 + 7), .int 0, .ref (y + 8 + 8), .ref (y + 8 + 9), .int 0, .int 0, .int 0, .int 0, .int 0, .ref (y + 8 + 10), .int 0])) H) (hB : ∀ i, i < 11 → va_at D vwCl (y + 8 + i, va_up (va_up (cy_csT cI cJ) 5 (.inl (cI, 12, .inl (fun _ => -1)))) 6 (.inl (cI, 6, .inl (fun _ => -1))) i) H) : cy_W D y (cy_CT cI cJ cO 0 0 cy_s0 cy_s0 (fun _ => 0) 0 (cy_a0 y)) (cy_a0 y) H := by
  have hY : ∀ i, i < 7 → va_at D vwCl (cy_a0 y i, cy_Y cI cJ cO 0 cy_s0 (cy_a0 y) i) H := by
    refine cy_lt7 ?_ ?_ ?_ ?_ ?_ ?_ ?_
    · exact hy
    · have e1 : (fun j => if j < 0 then some (cy_a0 y (100 + 2 * j)) else none) = (fun _ => (none : Option Nat)) := by funext j; rw [if_neg (Nat.not_lt_zero _)]
      rw [cy_Yc1, e1]
      exact hA 0 (by decide)
    · have e2 : (fun j => cy_rf (cy_a0 y) (cy_s0.1 5 j)) = (fun _ => (none : Option Nat)) := by funext j; exact cy_rf_n rfl
      rw [cy_Yc2, e2]
      exact hA 1 (by decide)
    · rw [cy_Yc3]
      exact hA 2 (by decide)
    · rw [cy_Yc4]
      exact hA 3 (by decide)
    · rw [cy_Yc5]
      exact hA 4 (by decide)
    · rw [cy_Yc6]
      exact hA 5 (by decide)
  have hT : ∀ i, i < 12 → va_at D vwCl (cy_a0 y (20 + i), cy_T cI cJ cy_s0 (fun _ => 0) 0 (cy_a0 y) i) H := by
    refine cy_lt12 ?_ ?_ ?_ ?_ ?_ ?_ ?_ ?_ ?_ ?_ ?_ ?_
    · exact hm
    · exact hB 0 (by decide)
    · exact hB 1 (by decide)
    · exact hB 2 (by decide)
    · exact hB 3 (by decide)
    · exact hB 4 (by decide)
    · exact hB 5 (by decide)
    · exact hB 6 (by decide)
    · exact hB 7 (by decide)
    · exact hB 8 (by decide)
    · exact hB 9 (by decide)
    · exact hB 10 (by decide)
  have hd : ∀ j e, cy_CT cI cJ cO 0 0 cy_s0 cy_s0 (fun _ => 0) 0 (cy_a0 y) j = some e → (j < 7 ∧ e = cy_Y cI cJ cO 0 cy_s0 (cy_a0 y) j) ∨ (20 ≤ j ∧ j < 32 ∧ e = cy_T cI cJ cy_s0 (fun _ => 0) 0 (cy_a0 y) (j - 20)) := by
    intro j e hj
    unfold cy_CT at hj
    by_cases h7 : j < 7
    · rw [if_pos h7] at hj
      exact Or.inl ⟨h7, (Option.some.inj hj).symm⟩
    · rw [if_neg h7] at hj
      by_cases h20 : j < 20
      · rw [if_pos h20] at hj; cases hj
      · rw [if_neg h20] at hj
        by_cases h32 : j < 32
        · rw [if_pos h32] at hj
          exact Or.inr ⟨by omega, h32, (Option.some.inj hj).symm⟩
        · rw [if_neg h32] at hj
          by_cases h100 : j < 100
          · rw [if_pos h100] at hj; cases hj
          · rw [if_neg h100, if_neg (Nat.not_lt_zero _)] at hj; cases hj
  refine ⟨fun j e hj => ?_, fun i j hi hj hij => ?_⟩
  · rcases hd j e hj with ⟨h1, rfl⟩ | ⟨h1, h2, rfl⟩
    · refine ⟨hY j h1, ?_⟩
      unfold cy_a0
      split <;> omega
    · have h := hT (j - 20) (by omega)
      rw [show 20 + (j - 20) = j by omega] at h
      refine ⟨h, ?_⟩
      unfold cy_a0
      split <;> omega
  · have k1 : ∀ i, cy_CT cI cJ cO 0 0 cy_s0 cy_s0 (fun _ => 0) 0 (cy_a0 y) i ≠ none → i < 7 ∨ (20 ≤ i ∧ i < 32) := by
      intro i hi
      cases hc : cy_CT cI cJ cO 0 0 cy_s0 cy_s0 (fun _ => 0) 0 (cy_a0 y) i with
      | none => exact absurd hc hi
      | some e =>
        rcases hd i e hc with ⟨h1, -⟩ | ⟨h1, h2, -⟩
        · exact Or.inl h1
        · exact Or.inr ⟨h1, h2⟩
    have q1 := k1 i hi
    have q2 := k1 j hj
    unfold cy_a0 at hij
    split at hij <;> split at hij <;> omega
