theorem cy_ne1 {t : Nat} (h : t < 2 ^ 31) : ¬ nI t = -1 := fun q => absurd (q ▸ nI_pos h) (by decide)
theorem cy_lt10 {q : Nat} (h : q ≤ 10) (h1 : ¬ nI q = 10) : q < 10 := by
  rcases Nat.lt_or_ge q 10 with h2 | h2
  · exact h2
  · exact absurd (show nI q = 10 by rw [show q = 10 by omega]; rfl) h1
theorem cy_nb2 (σ : cy_S) : cy_no (cy_i σ 0 2 0) (-2) = cy_i σ 0 2 (-2) := cy_no_bad σ (-2) (by decide) (by decide) (by decide)
theorem hin5_X5_hold : ∀ w ∈ u_ws RX5 TX5 19, w ∈ wsX5_hold := by decide +kernel
theorem hin5_X5_bay : ∀ w ∈ u_ws RX5 TX5 19, w ∈ wsX5_bay := by decide +kernel
theorem hin5_X5_gate : ∀ w ∈ u_ws RX5 TX5 19, w ∈ wsX5_gate := by decide +kernel
theorem hin5_X5_passed : ∀ w ∈ u_ws RX5 TX5 19, w ∈ wsX5_passed := by decide +kernel
theorem hin5_X5_tariff : ∀ w ∈ u_ws RX5 TX5 19, w ∈ wsX5_tariff := by decide +kernel
set_option maxHeartbeats 4000000 in
set_option maxRecDepth 100000 in
theorem c_X5_hold (l : Launch) (D : va_G) (cI cJ cO : ClassId) (z n na : Nat) (σ τ : cy_S) (pl : Nat → Int32) (hi : Int32) (ad : Nat → Nat) (nt : Nat) (hok : cy_ok nt τ) (b x : Int32)  : Met l yX5_hold wsX5_hold { frames := 2, cells := 0, slots := 0, locals := 43 } (cy_P D cI cJ cO (fun H => cy_W D z (cy_CT cI cJ cO n na σ τ pl hi ad) ad H) [.ref (ad 20), .int b, .int x]) (cy_M (S := Unit) z (fun _ => some (.int (cy_oHold nt τ b x).1)) (fun _ H => cy_W D z (cy_CT cI cJ cO n na σ (cy_oHold nt τ b x).2 pl hi ad) ad H)) 0 0 (fun q => z ≤ q) := by
  refine Met.ofW (cc := cX5_hold) (maxL := 4) (ret := (some .int)) (by decide) rfl ?_
  intro p e s m args below meth c s₁ B hml hv
  obtain ⟨rfl, hK, hI⟩ := hv
  have hx := B.exec
  have hb := B.bytes
  have hr := B.returns
  have hts := atoms_spec (ws := wsX5_hold) B.pre
  have hown : s.vm.findClass RX5 = some m.cls := findClass_of_methodNamed B.named
  have hlocks := B.notSynchronized
  have hS : va_S (fun q => z ≤ q) s.heap s.heap [] := va_S.rf
  have hl := lv_entry ([.ref (ad 20), .int b, .int x]) (n := 4) (Nat.le_of_ble_eq_true rfl)
  rw [lg_entry_eq]
  generalize (lg_sl ([.ref (ad 20), .int b, .int x]) ++ List.replicate (4 - (lg_sl ([.ref (ad 20), .int b, .int x])).length) Slot.unset).toArray = ls at hl ⊢
  have hl : lv_has ls 4 [(0, .ref (ad 20)), (1, .int b), (2, .int x)] := hl
  have hin5 := hin5_X5_hold
  have h0 := hok.2.1
  have hn := hok.1
  refine lv_aload_n hx hb dX5_hold_0 rfl (lv_at hl 0 rfl) ?_
  refine lv_iconst (v := 0) hx hb dX5_hold_1 (by decide) ?_
  refine cy_putT (v := 0) hx hb hts hin5 hown hK hI hS 12 2 (by decide) (hts (.fieldLink RX5 52 "CustomsYardModel" "refused" "I") (by decide +kernel)) rfl (by decide +kernel) rfl dX5_hold_2 (fun H locs hI hS => ?_)
  refine lv_iload_n hx hb dX5_hold_5 rfl (lv_at hl 1 rfl) ?_
  refine lv_iconst (v := 0) hx hb dX5_hold_6 (by decide) ?_
  refine lv_bipush (v := 11) hx hb dX5_hold_7 (by decide) ?_
  refine cy_callp (v := .int (cy_b (cy_isIn b 0 11))) (va_runS (As := [.int b, .int 0, .int 11]) (rest := []) ⟨hx, hb, hml, hown, hts⟩ (c_X5_isIn l b 0 11) (va_cwS 3 hts gX5_hold_X5_isIn rfl rfl rfl (by decide +kernel) ⟨Nat.le_of_ble_eq_true rfl, Nat.le_of_ble_eq_true rfl⟩) preEq rfl rfl hl.1 rfl (lv_room (Nat.le_of_ble_eq_true rfl)) dX5_hold_9 ⟨Nat.le_of_ble_eq_true rfl, Nat.le_of_ble_eq_true rfl⟩) ?_
  cases b1 : (cy_isIn b 0 11)
  · refine lv_if_eq (tgt := 28) hx hb dX5_hold_12 (by decide) (fun h2 => ?_) (fun h2 => absurd (by decide) h2)
    refine lv_aload_n hx hb dX5_hold_28 rfl (lv_at hl 0 rfl) ?_
    refine lv_bipush (v := -2) hx hb dX5_hold_29 (by decide) ?_
    refine cy_callm (va_runV (As := [.int (-2)]) (rest := []) ⟨hx, hb, hml, hown, hts⟩ (c_X5_no l D cI cJ cO z n na σ (cy_i τ 0 2 0) pl hi ad (-2)) (cwV 1 hts gX5_hold_X5_no rfl rfl rfl (by decide +kernel) ⟨Nat.le_of_ble_eq_true rfl, Nat.le_of_ble_eq_true rfl⟩) (cy_preV hK hI (cy_recv hK (hI.1 20 _ cy_CR).1 rfl)) rfl rfl hl.1 rfl (lv_room (Nat.le_of_ble_eq_true rfl)) dX5_hold_31 ⟨Nat.le_of_ble_eq_true rfl, Nat.le_of_ble_eq_true rfl⟩) hS (fun u H locs hI hz hS => ?_)
    have hI : cy_W D z (cy_CT cI cJ cO n na σ (cy_no (cy_i τ 0 2 0) (-2)) pl hi ad) ad H := hI
    refine W.eq (g2 := F0 m 34 ls [.int (-2)]) rfl ?_
    have E : cy_oHold nt τ b x = ((-2), cy_no (cy_i τ 0 2 0) (-2)) := by simp [cy_oHold, cy_z, b1]
    rw [E]
    exact W.iret (v := (-2)) hx hb hr (fun t ht hW => ⟨(), rfl, by rw [ht]; exact hI, hS.F ht⟩) hS.2.2 dX5_hold_34
  · obtain ⟨j, hj, rfl⟩ := (cy_in12 _).mp b1
    refine lv_if_eq (tgt := 28) hx hb dX5_hold_12 (by decide) (fun h3 => absurd h3 (by decide)) (fun h3 => ?_)
    refine lv_iload_n hx hb dX5_hold_15 rfl (lv_at hl 2 rfl) ?_
    refine lv_iconst (v := -1) hx hb dX5_hold_16 (by decide) ?_
    refine lv_icmp_eq (tgt := 35) hx hb dX5_hold_17 (by decide) (fun h4 => ?_) (fun h4 => ?_)
    · refine lv_aload_n hx hb dX5_hold_35 rfl (lv_at hl 0 rfl) ?_
      refine cy_getT (v := .ref (ad 26)) hx hb hts hin5 hown hK hI 6 (by decide) (hts (.fieldLink RX5 26 "CustomsYardModel" "bays" "[I") (by decide +kernel)) rfl dX5_hold_36 ?_
      refine lv_iload_n hx hb dX5_hold_39 rfl (lv_at hl 1 rfl) ?_
      refine cy_iald (f := τ.1 5) (k := j) hx hb hK.1 hI 0 (x := 26) rfl rfl (by omega) (by decide) dX5_hold_40 ?_
      refine lv_istore_n (lv' := [(3, .int (τ.1 5 j)), (0, .ref (ad 20)), (1, .int (nI j)), (2, .int x)]) hx hb dX5_hold_41 rfl hl (by decide) rfl (fun ls hl => ?_)
      refine lv_aload_n hx hb dX5_hold_42 rfl (lv_at hl 1 rfl) ?_
      refine cy_getT (v := .ref (ad 26)) hx hb hts hin5 hown hK hI 6 (by decide) (hts (.fieldLink RX5 26 "CustomsYardModel" "bays" "[I") (by decide +kernel)) rfl dX5_hold_43 ?_
      refine lv_iload_n hx hb dX5_hold_46 rfl (lv_at hl 2 rfl) ?_
      refine lv_iload_n hx hb dX5_hold_47 rfl (lv_at hl 3 rfl) ?_
      refine cy_stT6 (k := j) (v := x) hx hb hK hI hS (by omega) dX5_hold_48 (fun H locs hI hS => ?_)
      refine lv_iload_n hx hb dX5_hold_49 rfl (lv_at hl 0 rfl) ?_
      have E : cy_oHold nt τ (nI j) x = (τ.1 5 j, cy_i (cy_i τ 0 2 0) 5 j x) := by first | (simp [cy_oHold, cy_z, nI_clamp (show j < 2 ^ 31 by omega), b1]; done) | (simp [cy_oHold, cy_z, nI_clamp (show j < 2 ^ 31 by omega), b1]; simp [h4]; done) | (simp [cy_oHold, cy_z, nI_clamp (show j < 2 ^ 31 by omega), b1, h4]; done)
      rw [E]
      exact W.iret (v := τ.1 5 j) hx hb hr (fun t ht hW => ⟨(), rfl, by rw [ht]; exact hI, hS.F ht⟩) hS.2.2 dX5_hold_50
    · refine lv_aload_n hx hb dX5_hold_20 rfl (lv_at hl 0 rfl) ?_
      refine lv_iload_n hx hb dX5_hold_21 rfl (lv_at hl 2 rfl) ?_
      refine cy_callp (v := .int (cy_b (cy_ld nt x))) (va_runV (As := [.int x]) (rest := []) ⟨hx, hb, hml, hown, hts⟩ (c_X5_isLoad l D cI cJ cO z n na σ (cy_i τ 0 2 0) pl hi ad nt h0 x) (cwV 1 hts gX5_hold_X5_isLoad rfl rfl rfl (by decide +kernel) ⟨Nat.le_of_ble_eq_true rfl, Nat.le_of_ble_eq_true rfl⟩) (cy_preV hK hI (cy_recv hK (hI.1 20 _ cy_CR).1 rfl)) rfl rfl hl.1 rfl (lv_room (Nat.le_of_ble_eq_true rfl)) dX5_hold_22 ⟨Nat.le_of_ble_eq_true rfl, Nat.le_of_ble_eq_true rfl⟩) ?_
      cases b5 : (cy_ld nt x)
      · refine lv_if_ne (tgt := 35) hx hb dX5_hold_25 (by decide) (fun h6 => absurd (by decide) h6) (fun h6 => ?_)
        refine lv_aload_n hx hb dX5_hold_28 rfl (lv_at hl 0 rfl) ?_
        refine lv_bipush (v := -2) hx hb dX5_hold_29 (by decide) ?_
        refine cy_callm (va_runV (As := [.int (-2)]) (rest := []) ⟨hx, hb, hml, hown, hts⟩ (c_X5_no l D cI cJ cO z n na σ (cy_i τ 0 2 0) pl hi ad (-2)) (cwV 1 hts gX5_hold_X5_no rfl rfl rfl (by decide +kernel) ⟨Nat.le_of_ble_eq_true rfl, Nat.le_of_ble_eq_true rfl⟩) (cy_preV hK hI (cy_recv hK (hI.1 20 _ cy_CR).1 rfl)) rfl rfl hl.1 rfl (lv_room (Nat.le_of_ble_eq_true rfl)) dX5_hold_31 ⟨Nat.le_of_ble_eq_true rfl, Nat.le_of_ble_eq_true rfl⟩) hS (fun u H locs hI hz hS => ?_)
        have hI : cy_W D z (cy_CT cI cJ cO n na σ (cy_no (cy_i τ 0 2 0) (-2)) pl hi ad) ad H := hI
        refine W.eq (g2 := F0 m 34 ls [.int (-2)]) rfl ?_
        have E : cy_oHold nt τ (nI j) x = ((-2), cy_no (cy_i τ 0 2 0) (-2)) := by first | (simp [cy_oHold, cy_z, nI_clamp (show j < 2 ^ 31 by omega), b1, b5]; done) | (simp [cy_oHold, cy_z, nI_clamp (show j < 2 ^ 31 by omega), b1, b5]; simp [h4]; done) | (simp [cy_oHold, cy_z, nI_clamp (show j < 2 ^ 31 by omega), b1, b5, h4]; done)
        rw [E]
        exact W.iret (v := (-2)) hx hb hr (fun t ht hW => ⟨(), rfl, by rw [ht]; exact hI, hS.F ht⟩) hS.2.2 dX5_hold_34
      · obtain ⟨kx, hkx, rfl⟩ := (cy_ld_iff hn _).mp b5
        refine lv_if_ne (tgt := 35) hx hb dX5_hold_25 (by decide) (fun h7 => ?_) (fun h7 => absurd h7 (by decide))
        refine lv_aload_n hx hb dX5_hold_35 rfl (lv_at hl 0 rfl) ?_
        refine cy_getT (v := .ref (ad 26)) hx hb hts hin5 hown hK hI 6 (by decide) (hts (.fieldLink RX5 26 "CustomsYardModel" "bays" "[I") (by decide +kernel)) rfl dX5_hold_36 ?_
        refine lv_iload_n hx hb dX5_hold_39 rfl (lv_at hl 1 rfl) ?_
        refine cy_iald (f := τ.1 5) (k := j) hx hb hK.1 hI 0 (x := 26) rfl rfl (by omega) (by decide) dX5_hold_40 ?_
        refine lv_istore_n (lv' := [(3, .int (τ.1 5 j)), (0, .ref (ad 20)), (1, .int (nI j)), (2, .int (nI kx))]) hx hb dX5_hold_41 rfl hl (by decide) rfl (fun ls hl => ?_)
        refine lv_aload_n hx hb dX5_hold_42 rfl (lv_at hl 1 rfl) ?_
        refine cy_getT (v := .ref (ad 26)) hx hb hts hin5 hown hK hI 6 (by decide) (hts (.fieldLink RX5 26 "CustomsYardModel" "bays" "[I") (by decide +kernel)) rfl dX5_hold_43 ?_
        refine lv_iload_n hx hb dX5_hold_46 rfl (lv_at hl 2 rfl) ?_
        refine lv_iload_n hx hb dX5_hold_47 rfl (lv_at hl 3 rfl) ?_
        refine cy_stT6 (k := j) (v := nI kx) hx hb hK hI hS (by omega) dX5_hold_48 (fun H locs hI hS => ?_)
        refine lv_iload_n hx hb dX5_hold_49 rfl (lv_at hl 0 rfl) ?_
        have E : cy_oHold nt τ (nI j) (nI kx) = (τ.1 5 j, cy_i (cy_i τ 0 2 0) 5 j (nI kx)) := by first | (simp [cy_oHold, cy_z, nI_clamp (show j < 2 ^ 31 by omega), nI_clamp (show kx < 2 ^ 31 by omega), b1, b5]; done) | (simp [cy_oHold, cy_z, nI_clamp (show j < 2 ^ 31 by omega), nI_clamp (show kx < 2 ^ 31 by omega), b1, b5]; simp [h4]; done) | (simp [cy_oHold, cy_z, nI_clamp (show j < 2 ^ 31 by omega), nI_clamp (show kx < 2 ^ 31 by omega), b1, b5, h4]; done)
        rw [E]
        exact W.iret (v := τ.1 5 j) hx hb hr (fun t ht hW => ⟨(), rfl, by rw [ht]; exact hI, hS.F ht⟩) hS.2.2 dX5_hold_50

set_option maxHeartbeats 4000000 in
set_option maxRecDepth 100000 in
theorem c_X5_bay (l : Launch) (D : va_G) (cI cJ cO : ClassId) (z n na : Nat) (σ τ : cy_S) (pl : Nat → Int32) (hi : Int32) (ad : Nat → Nat) (nt : Nat) (hok : cy_ok nt τ) (b v : Int32)  : Met l yX5_bay wsX5_bay { frames := 3, cells := 0, slots := 0, locals := 64 } (cy_P D cI cJ cO (fun H => cy_W D z (cy_CT cI cJ cO n na σ τ pl hi ad) ad H) [.ref (ad 20), .int b, .int v]) (cy_M (S := Unit) z (fun _ => some (.int (cy_oBay τ b v).1)) (fun _ H => cy_W D z (cy_CT cI cJ cO n na σ (cy_oBay τ b v).2 pl hi ad) ad H)) 0 0 (fun q => z ≤ q) := by
  refine Met.ofW (cc := cX5_bay) (maxL := 4) (ret := (some .int)) (by decide) rfl ?_
  intro p e s m args below meth c s₁ B hml hv
  obtain ⟨rfl, hK, hI⟩ := hv
  have hx := B.exec
  have hb := B.bytes
  have hr := B.returns
  have hts := atoms_spec (ws := wsX5_bay) B.pre
  have hown : s.vm.findClass RX5 = some m.cls := findClass_of_methodNamed B.named
  have hlocks := B.notSynchronized
  have hS : va_S (fun q => z ≤ q) s.heap s.heap [] := va_S.rf
  have hl := lv_entry ([.ref (ad 20), .int b, .int v]) (n := 4) (Nat.le_of_ble_eq_true rfl)
  rw [lg_entry_eq]
  generalize (lg_sl ([.ref (ad 20), .int b, .int v]) ++ List.replicate (4 - (lg_sl ([.ref (ad 20), .int b, .int v])).length) Slot.unset).toArray = ls at hl ⊢
  have hl : lv_has ls 4 [(0, .ref (ad 20)), (1, .int b), (2, .int v)] := hl
  have hin5 := hin5_X5_bay
  have h0 := hok.2.1
  have hn := hok.1
  refine lv_aload_n hx hb dX5_bay_0 rfl (lv_at hl 0 rfl) ?_
  refine lv_iconst (v := 0) hx hb dX5_bay_1 (by decide) ?_
  refine cy_putT (v := 0) hx hb hts hin5 hown hK hI hS 12 2 (by decide) (hts (.fieldLink RX5 52 "CustomsYardModel" "refused" "I") (by decide +kernel)) rfl (by decide +kernel) rfl dX5_bay_2 (fun H locs hI hS => ?_)
  refine lv_iload_n hx hb dX5_bay_5 rfl (lv_at hl 1 rfl) ?_
  refine lv_iconst (v := 0) hx hb dX5_bay_6 (by decide) ?_
  refine lv_bipush (v := 11) hx hb dX5_bay_7 (by decide) ?_
  refine cy_callp (v := .int (cy_b (cy_isIn b 0 11))) (va_runS (As := [.int b, .int 0, .int 11]) (rest := []) ⟨hx, hb, hml, hown, hts⟩ (c_X5_isIn l b 0 11) (va_cwS 3 hts gX5_bay_X5_isIn rfl rfl rfl (by decide +kernel) ⟨Nat.le_of_ble_eq_true rfl, Nat.le_of_ble_eq_true rfl⟩) preEq rfl rfl hl.1 rfl (lv_room (Nat.le_of_ble_eq_true rfl)) dX5_bay_9 ⟨Nat.le_of_ble_eq_true rfl, Nat.le_of_ble_eq_true rfl⟩) ?_
  cases b1 : (cy_isIn b 0 11)
  · refine lv_if_eq (tgt := 22) hx hb dX5_bay_12 (by decide) (fun h2 => ?_) (fun h2 => absurd (by decide) h2)
    refine lv_aload_n hx hb dX5_bay_22 rfl (lv_at hl 0 rfl) ?_
    refine lv_bipush (v := -2) hx hb dX5_bay_23 (by decide) ?_
    refine cy_callm (va_runV (As := [.int (-2)]) (rest := []) ⟨hx, hb, hml, hown, hts⟩ (c_X5_no l D cI cJ cO z n na σ (cy_i τ 0 2 0) pl hi ad (-2)) (cwV 1 hts gX5_bay_X5_no rfl rfl rfl (by decide +kernel) ⟨Nat.le_of_ble_eq_true rfl, Nat.le_of_ble_eq_true rfl⟩) (cy_preV hK hI (cy_recv hK (hI.1 20 _ cy_CR).1 rfl)) rfl rfl hl.1 rfl (lv_room (Nat.le_of_ble_eq_true rfl)) dX5_bay_25 ⟨Nat.le_of_ble_eq_true rfl, Nat.le_of_ble_eq_true rfl⟩) hS (fun u H locs hI hz hS => ?_)
    have hI : cy_W D z (cy_CT cI cJ cO n na σ (cy_no (cy_i τ 0 2 0) (-2)) pl hi ad) ad H := hI
    refine W.eq (g2 := F0 m 28 ls [.int (-2)]) rfl ?_
    have E : cy_oBay τ b v = ((-2), cy_no (cy_i τ 0 2 0) (-2)) := by simp [cy_oBay, cy_z, cy_co_z, b1]
    rw [E]
    exact W.iret (v := (-2)) hx hb hr (fun t ht hW => ⟨(), rfl, by rw [ht]; exact hI, hS.F ht⟩) hS.2.2 dX5_bay_28
  · obtain ⟨j, hj, rfl⟩ := (cy_in12 _).mp b1
    refine lv_if_eq (tgt := 22) hx hb dX5_bay_12 (by decide) (fun h3 => absurd h3 (by decide)) (fun h3 => ?_)
    refine lv_iload_n hx hb dX5_bay_15 rfl (lv_at hl 2 rfl) ?_
    refine cy_callp (v := .int (cy_b (cy_vw v))) (va_runS (As := [.int v]) (rest := []) ⟨hx, hb, hml, hown, hts⟩ (c_X5_isView l v) (va_cwS 1 hts gX5_bay_X5_isView rfl rfl rfl (by decide +kernel) ⟨Nat.le_of_ble_eq_true rfl, Nat.le_of_ble_eq_true rfl⟩) preEq rfl rfl hl.1 rfl (lv_room (Nat.le_of_ble_eq_true rfl)) dX5_bay_16 ⟨Nat.le_of_ble_eq_true rfl, Nat.le_of_ble_eq_true rfl⟩) ?_
    cases b4 : (cy_vw v)
    · refine lv_if_ne (tgt := 29) hx hb dX5_bay_19 (by decide) (fun h5 => absurd (by decide) h5) (fun h5 => ?_)
      refine lv_aload_n hx hb dX5_bay_22 rfl (lv_at hl 0 rfl) ?_
      refine lv_bipush (v := -2) hx hb dX5_bay_23 (by decide) ?_
      refine cy_callm (va_runV (As := [.int (-2)]) (rest := []) ⟨hx, hb, hml, hown, hts⟩ (c_X5_no l D cI cJ cO z n na σ (cy_i τ 0 2 0) pl hi ad (-2)) (cwV 1 hts gX5_bay_X5_no rfl rfl rfl (by decide +kernel) ⟨Nat.le_of_ble_eq_true rfl, Nat.le_of_ble_eq_true rfl⟩) (cy_preV hK hI (cy_recv hK (hI.1 20 _ cy_CR).1 rfl)) rfl rfl hl.1 rfl (lv_room (Nat.le_of_ble_eq_true rfl)) dX5_bay_25 ⟨Nat.le_of_ble_eq_true rfl, Nat.le_of_ble_eq_true rfl⟩) hS (fun u H locs hI hz hS => ?_)
      have hI : cy_W D z (cy_CT cI cJ cO n na σ (cy_no (cy_i τ 0 2 0) (-2)) pl hi ad) ad H := hI
      refine W.eq (g2 := F0 m 28 ls [.int (-2)]) rfl ?_
      have E : cy_oBay τ (nI j) v = ((-2), cy_no (cy_i τ 0 2 0) (-2)) := by simp [cy_oBay, cy_z, cy_co_z, nI_clamp (show j < 2 ^ 31 by omega), b1, b4]
      rw [E]
      exact W.iret (v := (-2)) hx hb hr (fun t ht hW => ⟨(), rfl, by rw [ht]; exact hI, hS.F ht⟩) hS.2.2 dX5_bay_28
    · refine lv_if_ne (tgt := 29) hx hb dX5_bay_19 (by decide) (fun h6 => ?_) (fun h6 => absurd h6 (by decide))
      refine lv_aload_n hx hb dX5_bay_29 rfl (lv_at hl 0 rfl) ?_
      refine cy_getT (v := .ref (ad 26)) hx hb hts hin5 hown hK hI 6 (by decide) (hts (.fieldLink RX5 26 "CustomsYardModel" "bays" "[I") (by decide +kernel)) rfl dX5_bay_30 ?_
      refine lv_iload_n hx hb dX5_bay_33 rfl (lv_at hl 1 rfl) ?_
      refine cy_iald (f := τ.1 5) (k := j) hx hb hK.1 hI 0 (x := 26) rfl rfl (by omega) (by decide) dX5_bay_34 ?_
      rcases hok.2.2.2.1 j hj with e7 | ⟨t0, ht0, e7⟩
      · refine cy_topi e7 ?_
        refine lv_istore_n (lv' := [(3, .int (-1)), (0, .ref (ad 20)), (1, .int (nI j)), (2, .int v)]) hx hb dX5_bay_35 rfl hl (by decide) rfl (fun ls hl => ?_)
        refine lv_iload_n hx hb dX5_bay_36 rfl (lv_at hl 0 rfl) ?_
        refine lv_iconst (v := -1) hx hb dX5_bay_37 (by decide) ?_
        refine lv_icmp_ne (tgt := 43) hx hb dX5_bay_38 (by decide) (fun h8 => absurd (by decide) h8) (fun h8 => ?_)
        refine lv_iconst (v := -1) hx hb dX5_bay_41 (by decide) ?_
        have E : cy_oBay τ (nI j) v = ((-1), cy_i τ 0 2 0) := by first | (simp [cy_oBay, cy_z, cy_co_z, nI_clamp (show j < 2 ^ 31 by omega), b1, b4]; done) | (simp [cy_oBay, cy_z, cy_co_z, nI_clamp (show j < 2 ^ 31 by omega), b1, b4]; simp [e7]; done) | (simp [cy_oBay, cy_z, cy_co_z, nI_clamp (show j < 2 ^ 31 by omega), b1, b4, e7]; done)
        rw [E]
        exact W.iret (v := (-1)) hx hb hr (fun t ht hW => ⟨(), rfl, by rw [ht]; exact hI, hS.F ht⟩) hS.2.2 dX5_bay_42
      · have ne0 := cy_ne1 (show t0 < 2 ^ 31 by omega)
        refine cy_topi e7 ?_
        refine lv_istore_n (lv' := [(3, .int (nI t0)), (0, .ref (ad 20)), (1, .int (nI j)), (2, .int v)]) hx hb dX5_bay_35 rfl hl (by decide) rfl (fun ls hl => ?_)
        refine lv_iload_n hx hb dX5_bay_36 rfl (lv_at hl 0 rfl) ?_
        refine lv_iconst (v := -1) hx hb dX5_bay_37 (by decide) ?_
        refine lv_icmp_ne (tgt := 43) hx hb dX5_bay_38 (by decide) (fun h9 => ?_) (fun h9 => absurd h9 (ne0))
        refine lv_aload_n hx hb dX5_bay_43 rfl (lv_at hl 1 rfl) ?_
        refine cy_getT (v := .ref (ad 21)) hx hb hts hin5 hown hK hI 1 (by decide) (hts (.fieldLink RX5 7 "CustomsYardModel" "sorts" "[I") (by decide +kernel)) rfl dX5_bay_44 ?_
        refine lv_iload_n hx hb dX5_bay_47 rfl (lv_at hl 0 rfl) ?_
        refine cy_iald (f := τ.1 1) (k := t0) hx hb hK.1 hI 0 (x := 21) rfl rfl (by omega) (by decide) dX5_bay_48 ?_
        refine lv_iload_n hx hb dX5_bay_49 rfl (lv_at hl 3 rfl) ?_
        refine cy_callp (v := .int (cy_b (cy_go (τ.1 1 t0) v))) (va_runS (As := [.int (τ.1 1 t0), .int v]) (rest := []) ⟨hx, hb, hml, hown, hts⟩ (c_X5_goes l (τ.1 1 t0) v) (va_cwS 2 hts gX5_bay_X5_goes rfl rfl rfl (by decide +kernel) ⟨Nat.le_of_ble_eq_true rfl, Nat.le_of_ble_eq_true rfl⟩) preEq rfl rfl hl.1 rfl (lv_room (Nat.le_of_ble_eq_true rfl)) dX5_bay_50 ⟨Nat.le_of_ble_eq_true rfl, Nat.le_of_ble_eq_true rfl⟩) ?_
        cases b10 : (cy_go (τ.1 1 t0) v)
        · refine lv_if_eq (tgt := 65) hx hb dX5_bay_53 (by decide) (fun h11 => ?_) (fun h11 => absurd (by decide) h11)
          refine lv_aload_n hx hb dX5_bay_65 rfl (lv_at hl 1 rfl) ?_
          refine lv_bipush (v := -4) hx hb dX5_bay_66 (by decide) ?_
          refine cy_callm (va_runV (As := [.int (-4)]) (rest := []) ⟨hx, hb, hml, hown, hts⟩ (c_X5_no l D cI cJ cO z n na σ (cy_i τ 0 2 0) pl hi ad (-4)) (cwV 1 hts gX5_bay_X5_no rfl rfl rfl (by decide +kernel) ⟨Nat.le_of_ble_eq_true rfl, Nat.le_of_ble_eq_true rfl⟩) (cy_preV hK hI (cy_recv hK (hI.1 20 _ cy_CR).1 rfl)) rfl rfl hl.1 rfl (lv_room (Nat.le_of_ble_eq_true rfl)) dX5_bay_68 ⟨Nat.le_of_ble_eq_true rfl, Nat.le_of_ble_eq_true rfl⟩) hS (fun u H locs hI hz hS => ?_)
          have hI : cy_W D z (cy_CT cI cJ cO n na σ (cy_no (cy_i τ 0 2 0) (-4)) pl hi ad) ad H := hI
          refine W.eq (g2 := F0 m 71 ls [.int (-4)]) rfl ?_
          have E : cy_oBay τ (nI j) v = ((-4), cy_no (cy_i τ 0 2 0) (-4)) := by first | (simp [cy_oBay, cy_z, cy_co_z, nI_clamp (show j < 2 ^ 31 by omega), nI_clamp (show t0 < 2 ^ 31 by omega), b1, b4, b10]; done) | (simp [cy_oBay, cy_z, cy_co_z, nI_clamp (show j < 2 ^ 31 by omega), nI_clamp (show t0 < 2 ^ 31 by omega), b1, b4, b10]; simp [e7, ne0]; done) | (simp [cy_oBay, cy_z, cy_co_z, nI_clamp (show j < 2 ^ 31 by omega), nI_clamp (show t0 < 2 ^ 31 by omega), b1, b4, b10, e7, ne0]; done)
          rw [E]
          exact W.iret (v := (-4)) hx hb hr (fun t ht hW => ⟨(), rfl, by rw [ht]; exact hI, hS.F ht⟩) hS.2.2 dX5_bay_71
        · refine lv_if_eq (tgt := 65) hx hb dX5_bay_53 (by decide) (fun h12 => absurd h12 (by decide)) (fun h12 => ?_)
          refine lv_aload_n hx hb dX5_bay_56 rfl (lv_at hl 1 rfl) ?_
          refine lv_iload_n hx hb dX5_bay_57 rfl (lv_at hl 0 rfl) ?_
          refine lv_iload_n hx hb dX5_bay_58 rfl (lv_at hl 3 rfl) ?_
          refine cy_callp (v := .int (cy_co (cy_i τ 0 2 0) t0 v)) (va_runV (As := [.int (nI t0), .int v]) (rest := []) ⟨hx, hb, hml, hown, hts⟩ (c_X5_comes l D cI cJ cO z n na σ (cy_i τ 0 2 0) pl hi ad t0 (by omega) v) (cwV 2 hts gX5_bay_X5_comes rfl rfl rfl (by decide +kernel) ⟨Nat.le_of_ble_eq_true rfl, Nat.le_of_ble_eq_true rfl⟩) (cy_preV hK hI (cy_recv hK (hI.1 20 _ cy_CR).1 rfl)) rfl rfl hl.1 rfl (lv_room (Nat.le_of_ble_eq_true rfl)) dX5_bay_59 ⟨Nat.le_of_ble_eq_true rfl, Nat.le_of_ble_eq_true rfl⟩) ?_
          refine lv_goto (tgt := 71) hx hb dX5_bay_62 (by decide) ?_
          have E : cy_oBay τ (nI j) v = (cy_co (cy_i τ 0 2 0) t0 v, cy_i τ 0 2 0) := by first | (simp [cy_oBay, cy_z, cy_co_z, nI_clamp (show j < 2 ^ 31 by omega), nI_clamp (show t0 < 2 ^ 31 by omega), b1, b4, b10]; done) | (simp [cy_oBay, cy_z, cy_co_z, nI_clamp (show j < 2 ^ 31 by omega), nI_clamp (show t0 < 2 ^ 31 by omega), b1, b4, b10]; simp [e7, ne0]; done) | (simp [cy_oBay, cy_z, cy_co_z, nI_clamp (show j < 2 ^ 31 by omega), nI_clamp (show t0 < 2 ^ 31 by omega), b1, b4, b10, e7, ne0]; done)
          rw [E]
          exact W.iret (v := cy_co (cy_i τ 0 2 0) t0 v) hx hb hr (fun t ht hW => ⟨(), rfl, by rw [ht]; exact hI, hS.F ht⟩) hS.2.2 dX5_bay_71

set_option maxHeartbeats 4000000 in
set_option maxRecDepth 100000 in
theorem c_X5_gate (l : Launch) (D : va_G) (cI cJ cO : ClassId) (z n na : Nat) (σ τ : cy_S) (pl : Nat → Int32) (hi : Int32) (ad : Nat → Nat) (nt : Nat) (hok : cy_ok nt τ) (g v : Int32)  : Met l yX5_gate wsX5_gate { frames := 2, cells := 0, slots := 0, locals := 42 } (cy_P D cI cJ cO (fun H => cy_W D z (cy_CT cI cJ cO n na σ τ pl hi ad) ad H) [.ref (ad 20), .int g, .int v]) (cy_M (S := Unit) z (fun _ => some (.int (cy_oGate τ g v).1)) (fun _ H => cy_W D z (cy_CT cI cJ cO n na σ (cy_oGate τ g v).2 pl hi ad) ad H)) 0 0 (fun q => z ≤ q) := by
  refine Met.ofW (cc := cX5_gate) (maxL := 4) (ret := (some .int)) (by decide) rfl ?_
  intro p e s m args below meth c s₁ B hml hv
  obtain ⟨rfl, hK, hI⟩ := hv
  have hx := B.exec
  have hb := B.bytes
  have hr := B.returns
  have hts := atoms_spec (ws := wsX5_gate) B.pre
  have hown : s.vm.findClass RX5 = some m.cls := findClass_of_methodNamed B.named
  have hlocks := B.notSynchronized
  have hS : va_S (fun q => z ≤ q) s.heap s.heap [] := va_S.rf
  have hl := lv_entry ([.ref (ad 20), .int g, .int v]) (n := 4) (Nat.le_of_ble_eq_true rfl)
  rw [lg_entry_eq]
  generalize (lg_sl ([.ref (ad 20), .int g, .int v]) ++ List.replicate (4 - (lg_sl ([.ref (ad 20), .int g, .int v])).length) Slot.unset).toArray = ls at hl ⊢
  have hl : lv_has ls 4 [(0, .ref (ad 20)), (1, .int g), (2, .int v)] := hl
  have hin5 := hin5_X5_gate
  have h0 := hok.2.1
  have hn := hok.1
  refine lv_aload_n hx hb dX5_gate_0 rfl (lv_at hl 0 rfl) ?_
  refine lv_iconst (v := 0) hx hb dX5_gate_1 (by decide) ?_
  refine cy_putT (v := 0) hx hb hts hin5 hown hK hI hS 12 2 (by decide) (hts (.fieldLink RX5 52 "CustomsYardModel" "refused" "I") (by decide +kernel)) rfl (by decide +kernel) rfl dX5_gate_2 (fun H locs hI hS => ?_)
  refine lv_iload_n hx hb dX5_gate_5 rfl (lv_at hl 1 rfl) ?_
  refine cy_callp (v := .int (cy_b (cy_gt g))) (va_runS (As := [.int g]) (rest := []) ⟨hx, hb, hml, hown, hts⟩ (c_X5_isGate l g) (va_cwS 1 hts gX5_gate_X5_isGate rfl rfl rfl (by decide +kernel) ⟨Nat.le_of_ble_eq_true rfl, Nat.le_of_ble_eq_true rfl⟩) preEq rfl rfl hl.1 rfl (lv_room (Nat.le_of_ble_eq_true rfl)) dX5_gate_6 ⟨Nat.le_of_ble_eq_true rfl, Nat.le_of_ble_eq_true rfl⟩) ?_
  cases b1 : (cy_gt g)
  · refine lv_if_eq (tgt := 24) hx hb dX5_gate_9 (by decide) (fun h2 => ?_) (fun h2 => absurd (by decide) h2)
    refine lv_aload_n hx hb dX5_gate_24 rfl (lv_at hl 0 rfl) ?_
    refine lv_bipush (v := -2) hx hb dX5_gate_25 (by decide) ?_
    refine cy_callm (va_runV (As := [.int (-2)]) (rest := []) ⟨hx, hb, hml, hown, hts⟩ (c_X5_no l D cI cJ cO z n na σ (cy_i τ 0 2 0) pl hi ad (-2)) (cwV 1 hts gX5_gate_X5_no rfl rfl rfl (by decide +kernel) ⟨Nat.le_of_ble_eq_true rfl, Nat.le_of_ble_eq_true rfl⟩) (cy_preV hK hI (cy_recv hK (hI.1 20 _ cy_CR).1 rfl)) rfl rfl hl.1 rfl (lv_room (Nat.le_of_ble_eq_true rfl)) dX5_gate_27 ⟨Nat.le_of_ble_eq_true rfl, Nat.le_of_ble_eq_true rfl⟩) hS (fun u H locs hI hz hS => ?_)
    have hI : cy_W D z (cy_CT cI cJ cO n na σ (cy_no (cy_i τ 0 2 0) (-2)) pl hi ad) ad H := hI
    refine W.eq (g2 := F0 m 30 ls [.int (-2)]) rfl ?_
    have E : cy_oGate τ g v = ((-2), cy_no (cy_i τ 0 2 0) (-2)) := by simp [cy_oGate, cy_z, b1]
    rw [E]
    exact W.iret (v := (-2)) hx hb hr (fun t ht hW => ⟨(), rfl, by rw [ht]; exact hI, hS.F ht⟩) hS.2.2 dX5_gate_30
  · obtain ⟨j, hj, rfl⟩ := (cy_in6 _).mp b1
    refine lv_if_eq (tgt := 24) hx hb dX5_gate_9 (by decide) (fun h3 => absurd h3 (by decide)) (fun h3 => ?_)
    refine lv_iload_n hx hb dX5_gate_12 rfl (lv_at hl 2 rfl) ?_
    refine lv_iconst (v := -1) hx hb dX5_gate_13 (by decide) ?_
    refine lv_icmp_eq (tgt := 31) hx hb dX5_gate_14 (by decide) (fun h4 => ?_) (fun h4 => ?_)
    · refine lv_aload_n hx hb dX5_gate_31 rfl (lv_at hl 0 rfl) ?_
      refine cy_getT (v := .ref (ad 27)) hx hb hts hin5 hown hK hI 7 (by decide) (hts (.fieldLink RX5 29 "CustomsYardModel" "gates" "[I") (by decide +kernel)) rfl dX5_gate_32 ?_
      refine lv_iload_n hx hb dX5_gate_35 rfl (lv_at hl 1 rfl) ?_
      refine cy_iald (f := τ.1 6) (k := j) hx hb hK.1 hI 0 (x := 27) rfl rfl (by omega) (by decide) dX5_gate_36 ?_
      refine lv_istore_n (lv' := [(3, .int (τ.1 6 j)), (0, .ref (ad 20)), (1, .int (nI j)), (2, .int v)]) hx hb dX5_gate_37 rfl hl (by decide) rfl (fun ls hl => ?_)
      refine lv_aload_n hx hb dX5_gate_38 rfl (lv_at hl 1 rfl) ?_
      refine cy_getT (v := .ref (ad 27)) hx hb hts hin5 hown hK hI 7 (by decide) (hts (.fieldLink RX5 29 "CustomsYardModel" "gates" "[I") (by decide +kernel)) rfl dX5_gate_39 ?_
      refine lv_iload_n hx hb dX5_gate_42 rfl (lv_at hl 2 rfl) ?_
      refine lv_iload_n hx hb dX5_gate_43 rfl (lv_at hl 3 rfl) ?_
      refine cy_stT7 (k := j) (v := v) hx hb hK hI hS (by omega) dX5_gate_44 (fun H locs hI hS => ?_)
      refine lv_aload_n hx hb dX5_gate_45 rfl (lv_at hl 1 rfl) ?_
      refine cy_getT (v := .ref (ad 28)) hx hb hts hin5 hown hK hI 8 (by decide) (hts (.fieldLink RX5 32 "CustomsYardModel" "sums" "[J") (by decide +kernel)) rfl dX5_gate_46 ?_
      refine lv_iload_n hx hb dX5_gate_49 rfl (lv_at hl 2 rfl) ?_
      refine lv_lconst (v := 0) hx hb dX5_gate_50 (by decide) ?_
      refine cy_stT8 (k := j) (v := 0) hx hb hK hI hS (by omega) dX5_gate_51 (fun H locs hI hS => ?_)
      refine lv_iload_n hx hb dX5_gate_52 rfl (lv_at hl 0 rfl) ?_
      have E : cy_oGate τ (nI j) v = (τ.1 6 j, cy_l (cy_i (cy_i τ 0 2 0) 6 j v) 1 j 0) := by first | (simp [cy_oGate, cy_z, nI_clamp (show j < 2 ^ 31 by omega), b1]; done) | (simp [cy_oGate, cy_z, nI_clamp (show j < 2 ^ 31 by omega), b1]; simp [h4]; done) | (simp [cy_oGate, cy_z, nI_clamp (show j < 2 ^ 31 by omega), b1, h4]; done)
      rw [E]
      exact W.iret (v := τ.1 6 j) hx hb hr (fun t ht hW => ⟨(), rfl, by rw [ht]; exact hI, hS.F ht⟩) hS.2.2 dX5_gate_53
    · refine lv_iload_n hx hb dX5_gate_17 rfl (lv_at hl 2 rfl) ?_
      refine cy_callp (v := .int (cy_b (cy_vw v))) (va_runS (As := [.int v]) (rest := []) ⟨hx, hb, hml, hown, hts⟩ (c_X5_isView l v) (va_cwS 1 hts gX5_gate_X5_isView rfl rfl rfl (by decide +kernel) ⟨Nat.le_of_ble_eq_true rfl, Nat.le_of_ble_eq_true rfl⟩) preEq rfl rfl hl.1 rfl (lv_room (Nat.le_of_ble_eq_true rfl)) dX5_gate_18 ⟨Nat.le_of_ble_eq_true rfl, Nat.le_of_ble_eq_true rfl⟩) ?_
      cases b5 : (cy_vw v)
      · refine lv_if_ne (tgt := 31) hx hb dX5_gate_21 (by decide) (fun h6 => absurd (by decide) h6) (fun h6 => ?_)
        refine lv_aload_n hx hb dX5_gate_24 rfl (lv_at hl 0 rfl) ?_
        refine lv_bipush (v := -2) hx hb dX5_gate_25 (by decide) ?_
        refine cy_callm (va_runV (As := [.int (-2)]) (rest := []) ⟨hx, hb, hml, hown, hts⟩ (c_X5_no l D cI cJ cO z n na σ (cy_i τ 0 2 0) pl hi ad (-2)) (cwV 1 hts gX5_gate_X5_no rfl rfl rfl (by decide +kernel) ⟨Nat.le_of_ble_eq_true rfl, Nat.le_of_ble_eq_true rfl⟩) (cy_preV hK hI (cy_recv hK (hI.1 20 _ cy_CR).1 rfl)) rfl rfl hl.1 rfl (lv_room (Nat.le_of_ble_eq_true rfl)) dX5_gate_27 ⟨Nat.le_of_ble_eq_true rfl, Nat.le_of_ble_eq_true rfl⟩) hS (fun u H locs hI hz hS => ?_)
        have hI : cy_W D z (cy_CT cI cJ cO n na σ (cy_no (cy_i τ 0 2 0) (-2)) pl hi ad) ad H := hI
        refine W.eq (g2 := F0 m 30 ls [.int (-2)]) rfl ?_
        have E : cy_oGate τ (nI j) v = ((-2), cy_no (cy_i τ 0 2 0) (-2)) := by first | (simp [cy_oGate, cy_z, nI_clamp (show j < 2 ^ 31 by omega), b1, b5]; done) | (simp [cy_oGate, cy_z, nI_clamp (show j < 2 ^ 31 by omega), b1, b5]; simp [h4]; done) | (simp [cy_oGate, cy_z, nI_clamp (show j < 2 ^ 31 by omega), b1, b5, h4]; done)
        rw [E]
        exact W.iret (v := (-2)) hx hb hr (fun t ht hW => ⟨(), rfl, by rw [ht]; exact hI, hS.F ht⟩) hS.2.2 dX5_gate_30
      · refine lv_if_ne (tgt := 31) hx hb dX5_gate_21 (by decide) (fun h7 => ?_) (fun h7 => absurd h7 (by decide))
        refine lv_aload_n hx hb dX5_gate_31 rfl (lv_at hl 0 rfl) ?_
        refine cy_getT (v := .ref (ad 27)) hx hb hts hin5 hown hK hI 7 (by decide) (hts (.fieldLink RX5 29 "CustomsYardModel" "gates" "[I") (by decide +kernel)) rfl dX5_gate_32 ?_
        refine lv_iload_n hx hb dX5_gate_35 rfl (lv_at hl 1 rfl) ?_
        refine cy_iald (f := τ.1 6) (k := j) hx hb hK.1 hI 0 (x := 27) rfl rfl (by omega) (by decide) dX5_gate_36 ?_
        refine lv_istore_n (lv' := [(3, .int (τ.1 6 j)), (0, .ref (ad 20)), (1, .int (nI j)), (2, .int v)]) hx hb dX5_gate_37 rfl hl (by decide) rfl (fun ls hl => ?_)
        refine lv_aload_n hx hb dX5_gate_38 rfl (lv_at hl 1 rfl) ?_
        refine cy_getT (v := .ref (ad 27)) hx hb hts hin5 hown hK hI 7 (by decide) (hts (.fieldLink RX5 29 "CustomsYardModel" "gates" "[I") (by decide +kernel)) rfl dX5_gate_39 ?_
        refine lv_iload_n hx hb dX5_gate_42 rfl (lv_at hl 2 rfl) ?_
        refine lv_iload_n hx hb dX5_gate_43 rfl (lv_at hl 3 rfl) ?_
        refine cy_stT7 (k := j) (v := v) hx hb hK hI hS (by omega) dX5_gate_44 (fun H locs hI hS => ?_)
        refine lv_aload_n hx hb dX5_gate_45 rfl (lv_at hl 1 rfl) ?_
        refine cy_getT (v := .ref (ad 28)) hx hb hts hin5 hown hK hI 8 (by decide) (hts (.fieldLink RX5 32 "CustomsYardModel" "sums" "[J") (by decide +kernel)) rfl dX5_gate_46 ?_
        refine lv_iload_n hx hb dX5_gate_49 rfl (lv_at hl 2 rfl) ?_
        refine lv_lconst (v := 0) hx hb dX5_gate_50 (by decide) ?_
        refine cy_stT8 (k := j) (v := 0) hx hb hK hI hS (by omega) dX5_gate_51 (fun H locs hI hS => ?_)
        refine lv_iload_n hx hb dX5_gate_52 rfl (lv_at hl 0 rfl) ?_
        have E : cy_oGate τ (nI j) v = (τ.1 6 j, cy_l (cy_i (cy_i τ 0 2 0) 6 j v) 1 j 0) := by first | (simp [cy_oGate, cy_z, nI_clamp (show j < 2 ^ 31 by omega), b1, b5]; done) | (simp [cy_oGate, cy_z, nI_clamp (show j < 2 ^ 31 by omega), b1, b5]; simp [h4]; done) | (simp [cy_oGate, cy_z, nI_clamp (show j < 2 ^ 31 by omega), b1, b5, h4]; done)
        rw [E]
        exact W.iret (v := τ.1 6 j) hx hb hr (fun t ht hW => ⟨(), rfl, by rw [ht]; exact hI, hS.F ht⟩) hS.2.2 dX5_gate_53

set_option maxHeartbeats 4000000 in
set_option maxRecDepth 100000 in
theorem c_X5_passed (l : Launch) (D : va_G) (cI cJ cO : ClassId) (z n na : Nat) (σ τ : cy_S) (pl : Nat → Int32) (hi : Int32) (ad : Nat → Nat) (nt : Nat) (hok : cy_ok nt τ) (g : Int32)  : Met l yX5_passed wsX5_passed { frames := 2, cells := 0, slots := 0, locals := 42 } (cy_P D cI cJ cO (fun H => cy_W D z (cy_CT cI cJ cO n na σ τ pl hi ad) ad H) [.ref (ad 20), .int g]) (cy_M (S := Unit) z (fun _ => some (.long (cy_oPassed τ g).1)) (fun _ H => cy_W D z (cy_CT cI cJ cO n na σ (cy_oPassed τ g).2 pl hi ad) ad H)) 0 0 (fun q => z ≤ q) := by
  refine Met.ofW (cc := cX5_passed) (maxL := 2) (ret := (some .long)) (by decide) rfl ?_
  intro p e s m args below meth c s₁ B hml hv
  obtain ⟨rfl, hK, hI⟩ := hv
  have hx := B.exec
  have hb := B.bytes
  have hr := B.returns
  have hts := atoms_spec (ws := wsX5_passed) B.pre
  have hown : s.vm.findClass RX5 = some m.cls := findClass_of_methodNamed B.named
  have hlocks := B.notSynchronized
  have hS : va_S (fun q => z ≤ q) s.heap s.heap [] := va_S.rf
  have hl := lv_entry ([.ref (ad 20), .int g]) (n := 2) (Nat.le_of_ble_eq_true rfl)
  rw [lg_entry_eq]
  generalize (lg_sl ([.ref (ad 20), .int g]) ++ List.replicate (2 - (lg_sl ([.ref (ad 20), .int g])).length) Slot.unset).toArray = ls at hl ⊢
  have hl : lv_has ls 2 [(0, .ref (ad 20)), (1, .int g)] := hl
  have hin5 := hin5_X5_passed
  have h0 := hok.2.1
  have hn := hok.1
  refine lv_aload_n hx hb dX5_passed_0 rfl (lv_at hl 0 rfl) ?_
  refine lv_iload_n hx hb dX5_passed_1 rfl (lv_at hl 1 rfl) ?_
  refine cy_callp (v := .int (cy_b (cy_gt g))) (va_runS (As := [.int g]) (rest := [.ref (ad 20)]) ⟨hx, hb, hml, hown, hts⟩ (c_X5_isGate l g) (va_cwS 1 hts gX5_passed_X5_isGate rfl rfl rfl (by decide +kernel) ⟨Nat.le_of_ble_eq_true rfl, Nat.le_of_ble_eq_true rfl⟩) preEq rfl rfl hl.1 rfl (lv_room (Nat.le_of_ble_eq_true rfl)) dX5_passed_2 ⟨Nat.le_of_ble_eq_true rfl, Nat.le_of_ble_eq_true rfl⟩) ?_
  cases b1 : (cy_gt g)
  · refine lv_if_eq (tgt := 12) hx hb dX5_passed_5 (by decide) (fun h2 => ?_) (fun h2 => absurd (by decide) h2)
    refine lv_bipush (v := -2) hx hb dX5_passed_12 (by decide) ?_
    refine cy_putT (v := (-2)) hx hb hts hin5 hown hK hI hS 12 2 (by decide) (hts (.fieldLink RX5 52 "CustomsYardModel" "refused" "I") (by decide +kernel)) rfl (by decide +kernel) rfl dX5_passed_14 (fun H locs hI hS => ?_)
    refine lv_aload_n hx hb dX5_passed_17 rfl (lv_at hl 0 rfl) ?_
    refine cy_getT (v := .int (-2)) hx hb hts hin5 hown hK hI 12 (by decide) (hts (.fieldLink RX5 52 "CustomsYardModel" "refused" "I") (by decide +kernel)) rfl dX5_passed_18 ?_
    refine lv_if_ne (tgt := 33) hx hb dX5_passed_21 (by decide) (fun h3 => ?_) (fun h3 => absurd h3 (by decide))
    refine lv_lconst (v := 0) hx hb dX5_passed_33 (by decide) ?_
    have E : cy_oPassed τ g = (0, cy_i τ 0 2 (-2)) := by simp [cy_oPassed, cy_z, cy_nb2, b1]
    rw [E]
    exact W.lret (v := 0) hx hb hr (fun t ht hW => ⟨(), rfl, by rw [ht]; exact hI, hS.F ht⟩) hS.2.2 dX5_passed_34
  · obtain ⟨j, hj, rfl⟩ := (cy_in6 _).mp b1
    refine lv_if_eq (tgt := 12) hx hb dX5_passed_5 (by decide) (fun h4 => absurd h4 (by decide)) (fun h4 => ?_)
    refine lv_iconst (v := 0) hx hb dX5_passed_8 (by decide) ?_
    refine lv_goto (tgt := 14) hx hb dX5_passed_9 (by decide) ?_
    refine cy_putT (v := 0) hx hb hts hin5 hown hK hI hS 12 2 (by decide) (hts (.fieldLink RX5 52 "CustomsYardModel" "refused" "I") (by decide +kernel)) rfl (by decide +kernel) rfl dX5_passed_14 (fun H locs hI hS => ?_)
    refine lv_aload_n hx hb dX5_passed_17 rfl (lv_at hl 0 rfl) ?_
    refine cy_getT (v := .int 0) hx hb hts hin5 hown hK hI 12 (by decide) (hts (.fieldLink RX5 52 "CustomsYardModel" "refused" "I") (by decide +kernel)) rfl dX5_passed_18 ?_
    refine lv_if_ne (tgt := 33) hx hb dX5_passed_21 (by decide) (fun h5 => absurd (by decide) h5) (fun h5 => ?_)
    refine lv_aload_n hx hb dX5_passed_24 rfl (lv_at hl 0 rfl) ?_
    refine cy_getT (v := .ref (ad 28)) hx hb hts hin5 hown hK hI 8 (by decide) (hts (.fieldLink RX5 32 "CustomsYardModel" "sums" "[J") (by decide +kernel)) rfl dX5_passed_25 ?_
    refine lv_iload_n hx hb dX5_passed_28 rfl (lv_at hl 1 rfl) ?_
    refine cy_lald (f := τ.2 1) (k := j) hx hb hK.1 hI 1 (x := 28) rfl rfl (by omega) (by decide) dX5_passed_29 ?_
    refine lv_goto (tgt := 34) hx hb dX5_passed_30 (by decide) ?_
    have E : cy_oPassed τ (nI j) = (τ.2 1 j, cy_i τ 0 2 0) := by simp [cy_oPassed, cy_z, cy_nb2, nI_clamp (show j < 2 ^ 31 by omega), b1]
    rw [E]
    exact W.lret (v := τ.2 1 j) hx hb hr (fun t ht hW => ⟨(), rfl, by rw [ht]; exact hI, hS.F ht⟩) hS.2.2 dX5_passed_34

set_option maxHeartbeats 4000000 in
set_option maxRecDepth 100000 in
theorem c_X5_tariff (l : Launch) (D : va_G) (cI cJ cO : ClassId) (z n na : Nat) (σ τ : cy_S) (pl : Nat → Int32) (hi : Int32) (ad : Nat → Nat) (nt : Nat) (hok : cy_ok nt τ) (v r : Int32)  : Met l yX5_tariff wsX5_tariff { frames := 2, cells := 0, slots := 0, locals := 42 } (cy_P D cI cJ cO (fun H => cy_W D z (cy_CT cI cJ cO n na σ τ pl hi ad) ad H) [.ref (ad 20), .int v, .int r]) (cy_M (S := Unit) z (fun _ => some (.int (cy_oTariff τ v r).1)) (fun _ H => cy_W D z (cy_CT cI cJ cO n na σ (cy_oTariff τ v r).2 pl hi ad) ad H)) 0 0 (fun q => z ≤ q) := by
  refine Met.ofW (cc := cX5_tariff) (maxL := 3) (ret := (some .int)) (by decide) rfl ?_
  intro p e s m args below meth c s₁ B hml hv
  obtain ⟨rfl, hK, hI⟩ := hv
  have hx := B.exec
  have hb := B.bytes
  have hr := B.returns
  have hts := atoms_spec (ws := wsX5_tariff) B.pre
  have hown : s.vm.findClass RX5 = some m.cls := findClass_of_methodNamed B.named
  have hlocks := B.notSynchronized
  have hS : va_S (fun q => z ≤ q) s.heap s.heap [] := va_S.rf
  have hl := lv_entry ([.ref (ad 20), .int v, .int r]) (n := 3) (Nat.le_of_ble_eq_true rfl)
  rw [lg_entry_eq]
  generalize (lg_sl ([.ref (ad 20), .int v, .int r]) ++ List.replicate (3 - (lg_sl ([.ref (ad 20), .int v, .int r])).length) Slot.unset).toArray = ls at hl ⊢
  have hl : lv_has ls 3 [(0, .ref (ad 20)), (1, .int v), (2, .int r)] := hl
  have hin5 := hin5_X5_tariff
  have h0 := hok.2.1
  have hn := hok.1
  obtain ⟨q, hq, eq⟩ := hok.2.2.2.2
  refine lv_aload_n hx hb dX5_tariff_0 rfl (lv_at hl 0 rfl) ?_
  refine lv_iconst (v := 0) hx hb dX5_tariff_1 (by decide) ?_
  refine cy_putT (v := 0) hx hb hts hin5 hown hK hI hS 12 2 (by decide) (hts (.fieldLink RX5 52 "CustomsYardModel" "refused" "I") (by decide +kernel)) rfl (by decide +kernel) rfl dX5_tariff_2 (fun H locs hI hS => ?_)
  refine lv_iload_n hx hb dX5_tariff_5 rfl (lv_at hl 1 rfl) ?_
  refine cy_callp (v := .int (cy_b (cy_vw v))) (va_runS (As := [.int v]) (rest := []) ⟨hx, hb, hml, hown, hts⟩ (c_X5_isView l v) (va_cwS 1 hts gX5_tariff_X5_isView rfl rfl rfl (by decide +kernel) ⟨Nat.le_of_ble_eq_true rfl, Nat.le_of_ble_eq_true rfl⟩) preEq rfl rfl hl.1 rfl (lv_room (Nat.le_of_ble_eq_true rfl)) dX5_tariff_6 ⟨Nat.le_of_ble_eq_true rfl, Nat.le_of_ble_eq_true rfl⟩) ?_
  cases b1 : (cy_vw v)
  · refine lv_if_eq (tgt := 23) hx hb dX5_tariff_9 (by decide) (fun h2 => ?_) (fun h2 => absurd (by decide) h2)
    refine lv_aload_n hx hb dX5_tariff_23 rfl (lv_at hl 0 rfl) ?_
    refine lv_bipush (v := -2) hx hb dX5_tariff_24 (by decide) ?_
    refine cy_callm (va_runV (As := [.int (-2)]) (rest := []) ⟨hx, hb, hml, hown, hts⟩ (c_X5_no l D cI cJ cO z n na σ (cy_i τ 0 2 0) pl hi ad (-2)) (cwV 1 hts gX5_tariff_X5_no rfl rfl rfl (by decide +kernel) ⟨Nat.le_of_ble_eq_true rfl, Nat.le_of_ble_eq_true rfl⟩) (cy_preV hK hI (cy_recv hK (hI.1 20 _ cy_CR).1 rfl)) rfl rfl hl.1 rfl (lv_room (Nat.le_of_ble_eq_true rfl)) dX5_tariff_26 ⟨Nat.le_of_ble_eq_true rfl, Nat.le_of_ble_eq_true rfl⟩) hS (fun u H locs hI hz hS => ?_)
    have hI : cy_W D z (cy_CT cI cJ cO n na σ (cy_no (cy_i τ 0 2 0) (-2)) pl hi ad) ad H := hI
    refine W.eq (g2 := F0 m 29 ls [.int (-2)]) rfl ?_
    have E : cy_oTariff τ v r = ((-2), cy_no (cy_i τ 0 2 0) (-2)) := by simp [cy_oTariff, cy_z, b1, eq, nI_clamp (show q < 2 ^ 31 by omega), nI_1]
    rw [E]
    exact W.iret (v := (-2)) hx hb hr (fun t ht hW => ⟨(), rfl, by rw [ht]; exact hI, hS.F ht⟩) hS.2.2 dX5_tariff_29
  · refine lv_if_eq (tgt := 23) hx hb dX5_tariff_9 (by decide) (fun h3 => absurd h3 (by decide)) (fun h3 => ?_)
    refine lv_iload_n hx hb dX5_tariff_12 rfl (lv_at hl 2 rfl) ?_
    refine lv_bipush (v := -100) hx hb dX5_tariff_13 (by decide) ?_
    refine lv_bipush (v := 100) hx hb dX5_tariff_15 (by decide) ?_
    refine cy_callp (v := .int (cy_b (cy_isIn r (-100) 100))) (va_runS (As := [.int r, .int (-100), .int 100]) (rest := []) ⟨hx, hb, hml, hown, hts⟩ (c_X5_isIn l r (-100) 100) (va_cwS 3 hts gX5_tariff_X5_isIn rfl rfl rfl (by decide +kernel) ⟨Nat.le_of_ble_eq_true rfl, Nat.le_of_ble_eq_true rfl⟩) preEq rfl rfl hl.1 rfl (lv_room (Nat.le_of_ble_eq_true rfl)) dX5_tariff_17 ⟨Nat.le_of_ble_eq_true rfl, Nat.le_of_ble_eq_true rfl⟩) ?_
    cases b4 : (cy_isIn r (-100) 100)
    · refine lv_if_ne (tgt := 30) hx hb dX5_tariff_20 (by decide) (fun h5 => absurd (by decide) h5) (fun h5 => ?_)
      refine lv_aload_n hx hb dX5_tariff_23 rfl (lv_at hl 0 rfl) ?_
      refine lv_bipush (v := -2) hx hb dX5_tariff_24 (by decide) ?_
      refine cy_callm (va_runV (As := [.int (-2)]) (rest := []) ⟨hx, hb, hml, hown, hts⟩ (c_X5_no l D cI cJ cO z n na σ (cy_i τ 0 2 0) pl hi ad (-2)) (cwV 1 hts gX5_tariff_X5_no rfl rfl rfl (by decide +kernel) ⟨Nat.le_of_ble_eq_true rfl, Nat.le_of_ble_eq_true rfl⟩) (cy_preV hK hI (cy_recv hK (hI.1 20 _ cy_CR).1 rfl)) rfl rfl hl.1 rfl (lv_room (Nat.le_of_ble_eq_true rfl)) dX5_tariff_26 ⟨Nat.le_of_ble_eq_true rfl, Nat.le_of_ble_eq_true rfl⟩) hS (fun u H locs hI hz hS => ?_)
      have hI : cy_W D z (cy_CT cI cJ cO n na σ (cy_no (cy_i τ 0 2 0) (-2)) pl hi ad) ad H := hI
      refine W.eq (g2 := F0 m 29 ls [.int (-2)]) rfl ?_
      have E : cy_oTariff τ v r = ((-2), cy_no (cy_i τ 0 2 0) (-2)) := by simp [cy_oTariff, cy_z, b1, b4, eq, nI_clamp (show q < 2 ^ 31 by omega), nI_1]
      rw [E]
      exact W.iret (v := (-2)) hx hb hr (fun t ht hW => ⟨(), rfl, by rw [ht]; exact hI, hS.F ht⟩) hS.2.2 dX5_tariff_29
    · refine lv_if_ne (tgt := 30) hx hb dX5_tariff_20 (by decide) (fun h6 => ?_) (fun h6 => absurd h6 (by decide))
      refine lv_aload_n hx hb dX5_tariff_30 rfl (lv_at hl 0 rfl) ?_
      refine cy_getT (v := .int (τ.1 0 1)) hx hb hts hin5 hown hK hI 9 (by decide) (hts (.fieldLink RX5 122 "CustomsYardModel" "lines" "I") (by decide +kernel)) rfl dX5_tariff_31 ?_
      refine cy_topi (y := nI q) (eq) ?_
      refine lv_bipush (v := 10) hx hb dX5_tariff_34 (by decide) ?_
      refine lv_icmp_ne (tgt := 46) hx hb dX5_tariff_36 (by decide) (fun h7 => ?_) (fun h7 => ?_)
      · refine lv_aload_n hx hb dX5_tariff_46 rfl (lv_at hl 0 rfl) ?_
        refine cy_getT (v := .ref (ad 29)) hx hb hts hin5 hown hK hI 10 (by decide) (hts (.fieldLink RX5 35 "CustomsYardModel" "views" "[I") (by decide +kernel)) rfl dX5_tariff_47 ?_
        refine lv_aload_n hx hb dX5_tariff_50 rfl (lv_at hl 0 rfl) ?_
        refine cy_getT (v := .int (τ.1 0 1)) hx hb hts hin5 hown hK hI 9 (by decide) (hts (.fieldLink RX5 122 "CustomsYardModel" "lines" "I") (by decide +kernel)) rfl dX5_tariff_51 ?_
        refine cy_topi (y := nI q) (eq) ?_
        refine lv_iload_n hx hb dX5_tariff_54 rfl (lv_at hl 1 rfl) ?_
        refine cy_stT9 (k := q) (v := v) hx hb hK hI hS (cy_lt10 hq (by assumption)) dX5_tariff_55 (fun H locs hI hS => ?_)
        refine lv_aload_n hx hb dX5_tariff_56 rfl (lv_at hl 0 rfl) ?_
        refine cy_getT (v := .ref (ad 30)) hx hb hts hin5 hown hK hI 11 (by decide) (hts (.fieldLink RX5 38 "CustomsYardModel" "rates" "[I") (by decide +kernel)) rfl dX5_tariff_57 ?_
        refine lv_aload_n hx hb dX5_tariff_60 rfl (lv_at hl 0 rfl) ?_
        refine cy_getT (v := .int (τ.1 0 1)) hx hb hts hin5 hown hK hI 9 (by decide) (hts (.fieldLink RX5 122 "CustomsYardModel" "lines" "I") (by decide +kernel)) rfl dX5_tariff_61 ?_
        refine cy_topi (y := nI q) (eq) ?_
        refine lv_iload_n hx hb dX5_tariff_64 rfl (lv_at hl 2 rfl) ?_
        refine cy_stT10 (k := q) (v := r) hx hb hK hI hS (cy_lt10 hq (by assumption)) dX5_tariff_65 (fun H locs hI hS => ?_)
        refine lv_aload_n hx hb dX5_tariff_66 rfl (lv_at hl 0 rfl) ?_
        refine lv_dup hx hb dX5_tariff_67 rfl ?_
        refine cy_getT (v := .int (τ.1 0 1)) hx hb hts hin5 hown hK hI 9 (by decide) (hts (.fieldLink RX5 122 "CustomsYardModel" "lines" "I") (by decide +kernel)) rfl dX5_tariff_68 ?_
        refine cy_topi (y := nI q) (eq) ?_
        refine lv_iconst (v := 1) hx hb dX5_tariff_71 (by decide) ?_
        refine lv_iadd hx hb dX5_tariff_72 ?_
        refine cy_topi (y := nI (q + 1)) (nI_1 q) ?_
        refine cy_putT (v := nI (q + 1)) hx hb hts hin5 hown hK hI hS 9 1 (by decide) (hts (.fieldLink RX5 122 "CustomsYardModel" "lines" "I") (by decide +kernel)) rfl (by decide +kernel) rfl dX5_tariff_73 (fun H locs hI hS => ?_)
        refine lv_aload_n hx hb dX5_tariff_76 rfl (lv_at hl 0 rfl) ?_
        refine cy_getT (v := .int (nI (q + 1))) hx hb hts hin5 hown hK hI 9 (by decide) (hts (.fieldLink RX5 122 "CustomsYardModel" "lines" "I") (by decide +kernel)) rfl dX5_tariff_77 ?_
        have E : cy_oTariff τ v r = (nI (q + 1), cy_i (cy_i (cy_i (cy_i τ 0 2 0) 7 q v) 8 q r) 0 1 (nI (q + 1))) := by simp [cy_oTariff, cy_z, b1, b4, eq, nI_clamp (show q < 2 ^ 31 by omega), nI_1, h7]
        rw [E]
        exact W.iret (v := nI (q + 1)) hx hb hr (fun t ht hW => ⟨(), rfl, by rw [ht]; exact hI, hS.F ht⟩) hS.2.2 dX5_tariff_80
      · refine lv_aload_n hx hb dX5_tariff_39 rfl (lv_at hl 0 rfl) ?_
        refine lv_bipush (v := -3) hx hb dX5_tariff_40 (by decide) ?_
        refine cy_callm (va_runV (As := [.int (-3)]) (rest := []) ⟨hx, hb, hml, hown, hts⟩ (c_X5_no l D cI cJ cO z n na σ (cy_i τ 0 2 0) pl hi ad (-3)) (cwV 1 hts gX5_tariff_X5_no rfl rfl rfl (by decide +kernel) ⟨Nat.le_of_ble_eq_true rfl, Nat.le_of_ble_eq_true rfl⟩) (cy_preV hK hI (cy_recv hK (hI.1 20 _ cy_CR).1 rfl)) rfl rfl hl.1 rfl (lv_room (Nat.le_of_ble_eq_true rfl)) dX5_tariff_42 ⟨Nat.le_of_ble_eq_true rfl, Nat.le_of_ble_eq_true rfl⟩) hS (fun u H locs hI hz hS => ?_)
        have hI : cy_W D z (cy_CT cI cJ cO n na σ (cy_no (cy_i τ 0 2 0) (-3)) pl hi ad) ad H := hI
        refine W.eq (g2 := F0 m 45 ls [.int (-3)]) rfl ?_
        have E : cy_oTariff τ v r = ((-3), cy_no (cy_i τ 0 2 0) (-3)) := by simp [cy_oTariff, cy_z, b1, b4, eq, nI_clamp (show q < 2 ^ 31 by omega), nI_1, h7]
        rw [E]
        exact W.iret (v := (-3)) hx hb hr (fun t ht hW => ⟨(), rfl, by rw [ht]; exact hI, hS.F ht⟩) hS.2.2 dX5_tariff_45
