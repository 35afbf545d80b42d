theorem cy_zr1 (σ : cy_S) (w : Int32) (j : Nat) : (cy_i σ 0 2 w).1 1 j = σ.1 1 j := rfl
theorem cy_zr2 (σ : cy_S) (w : Int32) (j : Nat) : (cy_i σ 0 2 w).1 2 j = σ.1 2 j := rfl
theorem cy_no_re (σ : cy_S) (w : Int32) : (cy_no σ w).1 0 2 = w := by simp [cy_no, cy_i, cy_u]
theorem cy_kd0 {n : Nat} {σ : cy_S} (hok : cy_ok n σ) {k : Nat} (hk : k < n) (h : cy_nu (σ.1 1 k) = true) : cy_kd (σ.1 1 k) = 0 := by
  rcases cy_kd3 hok hk with h1 | h1 | h1
  · exact h1.1
  · rw [h1.2.1] at h; cases h
  · rw [h1.2.1] at h; cases h
theorem hin1_X4_set : ∀ w ∈ u_ws RX1 TX1 3, w ∈ wsX4_set := by decide +kernel
theorem hin2_X4_set : ∀ w ∈ u_ws RX2 TX2 3, w ∈ wsX4_set := by decide +kernel
theorem hin3_X4_set : ∀ w ∈ u_ws RX3 TX3 3, w ∈ wsX4_set := by decide +kernel
theorem hin4_X4_set : ∀ w ∈ u_ws RX4 TX4 13, w ∈ wsX4_set := by decide +kernel
theorem hin1_X4_number : ∀ w ∈ u_ws RX1 TX1 3, w ∈ wsX4_number := by decide +kernel
theorem hin4_X4_number : ∀ w ∈ u_ws RX4 TX4 13, w ∈ wsX4_number := by decide +kernel
theorem hin1_X4_put : ∀ w ∈ u_ws RX1 TX1 3, w ∈ wsX4_put := by decide +kernel
theorem hin2_X4_put : ∀ w ∈ u_ws RX2 TX2 3, w ∈ wsX4_put := by decide +kernel
theorem hin3_X4_put : ∀ w ∈ u_ws RX3 TX3 3, w ∈ wsX4_put := by decide +kernel
theorem hin4_X4_put : ∀ w ∈ u_ws RX4 TX4 13, w ∈ wsX4_put := by decide +kernel
theorem hin1_X4_at : ∀ w ∈ u_ws RX1 TX1 3, w ∈ wsX4_at := by decide +kernel
theorem hin2_X4_at : ∀ w ∈ u_ws RX2 TX2 3, w ∈ wsX4_at := by decide +kernel
theorem hin3_X4_at : ∀ w ∈ u_ws RX3 TX3 3, w ∈ wsX4_at := by decide +kernel
theorem hin4_X4_at : ∀ w ∈ u_ws RX4 TX4 13, w ∈ wsX4_at := by decide +kernel
theorem hin1_X4_is : ∀ w ∈ u_ws RX1 TX1 3, w ∈ wsX4_is := by decide +kernel
theorem hin2_X4_is : ∀ w ∈ u_ws RX2 TX2 3, w ∈ wsX4_is := by decide +kernel
theorem hin3_X4_is : ∀ w ∈ u_ws RX3 TX3 3, w ∈ wsX4_is := by decide +kernel
theorem hin4_X4_is : ∀ w ∈ u_ws RX4 TX4 13, w ∈ wsX4_is := by decide +kernel
theorem hin1_X4_take : ∀ w ∈ u_ws RX1 TX1 3, w ∈ wsX4_take := by decide +kernel
theorem hin2_X4_take : ∀ w ∈ u_ws RX2 TX2 3, w ∈ wsX4_take := by decide +kernel
theorem hin3_X4_take : ∀ w ∈ u_ws RX3 TX3 3, w ∈ wsX4_take := by decide +kernel
theorem hin4_X4_take : ∀ w ∈ u_ws RX4 TX4 13, w ∈ wsX4_take := by decide +kernel
theorem hin1_X4_sort : ∀ w ∈ u_ws RX1 TX1 3, w ∈ wsX4_sort := by decide +kernel
theorem hin2_X4_sort : ∀ w ∈ u_ws RX2 TX2 3, w ∈ wsX4_sort := by decide +kernel
theorem hin3_X4_sort : ∀ w ∈ u_ws RX3 TX3 3, w ∈ wsX4_sort := by decide +kernel
theorem hin4_X4_sort : ∀ w ∈ u_ws RX4 TX4 13, w ∈ wsX4_sort := by decide +kernel
set_option maxHeartbeats 4000000 in
set_option maxRecDepth 100000 in
theorem c_X4_set (l : Launch) (D : va_G) (cI cJ cO : ClassId) (z n : Nat) (σ τ : cy_S) (pl : Nat → Int32) (hi : Int32) (ad : Nat → Nat) (hok : cy_ok n σ) (x i v : Int32)  : Met l yX4_set wsX4_set { frames := 2, cells := 0, slots := 0, locals := 45 } (cy_P D cI cJ cO (fun H => cy_W D z (cy_CT cI cJ cO n n σ τ pl hi ad) ad H) [.ref (ad 0), .int x, .int i, .int v]) (cy_M (S := Unit) z (fun _ => some (.int (cy_oSet n σ x i v).1)) (fun _ H => cy_W D z (cy_CT cI cJ cO n n (cy_oSet n σ x i v).2 τ pl hi ad) ad H)) 0 0 (fun q => z ≤ q) := by
  refine Met.ofW (cc := cX4_set) (maxL := 5) (ret := (some .int)) (by decide) rfl ?_
  intro p e s m args below meth c s₁ B hml hv
  obtain ⟨rfl, hK, hI⟩ := hv
  have hx := B.exec
  have hb := B.bytes
  have hr := B.returns
  have hts := atoms_spec (ws := wsX4_set) B.pre
  have hown : s.vm.findClass RX4 = some m.cls := findClass_of_methodNamed B.named
  have hlocks := B.notSynchronized
  have hS : va_S (fun q => z ≤ q) s.heap s.heap [] := va_S.rf
  have hl := lv_entry ([.ref (ad 0), .int x, .int i, .int v]) (n := 5) (Nat.le_of_ble_eq_true rfl)
  rw [lg_entry_eq]
  generalize (lg_sl ([.ref (ad 0), .int x, .int i, .int v]) ++ List.replicate (5 - (lg_sl ([.ref (ad 0), .int x, .int i, .int v])).length) Slot.unset).toArray = ls at hl ⊢
  have hl : lv_has ls 5 [(0, .ref (ad 0)), (1, .int x), (2, .int i), (3, .int v)] := hl
  have hin1 := hin1_X4_set
  have hin2 := hin2_X4_set
  have hin3 := hin3_X4_set
  have hin4 := hin4_X4_set
  have h0 := hok.2.1
  have hn := hok.1
  refine lv_aload_n hx hb dX4_set_0 rfl (lv_at hl 0 rfl) ?_
  refine lv_iconst (v := 0) hx hb dX4_set_1 (by decide) ?_
  refine cy_putY (v := 0) hx hb hts hin4 hown hK hI hS 8 2 (by decide) (hts (.fieldLink RX4 38 "CustomsYard" "refusal" "I") (by decide +kernel)) rfl (by decide +kernel) rfl dX4_set_2 (fun H locs hI hS => ?_)
  refine lv_aload_n hx hb dX4_set_5 rfl (lv_at hl 0 rfl) ?_
  refine lv_iload_n hx hb dX4_set_6 rfl (lv_at hl 1 rfl) ?_
  refine lv_iload_n hx hb dX4_set_7 rfl (lv_at hl 2 rfl) ?_
  cases b1 : cy_ld n x
  · have c1 := c_X4_numbersWith l D cI cJ cO z n (cy_i σ 0 2 0) τ pl hi ad hok x i
    rw [show cy_nw n (cy_i σ 0 2 0) ad x i = (none, cy_no (cy_i σ 0 2 0) (-2)) from by simp [cy_nw, cy_zr1, cy_zr2, b1]] at c1
    refine cy_callm (va_runV (As := [.int x, .int i]) (rest := []) ⟨hx, hb, hml, hown, hts⟩ (c1) (cwV 2 hts gX4_set_X4_numbersWith rfl rfl rfl (by decide +kernel) ⟨Nat.le_of_ble_eq_true rfl, Nat.le_of_ble_eq_true rfl⟩) (cy_preV hK hI (cy_recv hK (hI.1 0 _ cy_CY).1 rfl)) rfl rfl hl.1 rfl (lv_room (Nat.le_of_ble_eq_true rfl)) dX4_set_8 ⟨Nat.le_of_ble_eq_true rfl, Nat.le_of_ble_eq_true rfl⟩) hS (fun u H locs hI hz hS => ?_)
    have hI : cy_W D z (cy_CT cI cJ cO n n (cy_no (cy_i σ 0 2 0) (-2)) τ pl hi ad) ad H := hI
    refine W.eq (g2 := F0 m 11 ls [.null]) rfl ?_
    refine lv_astoreN (lv' := [(4, .null), (0, .ref (ad 0)), (1, .int x), (2, .int i), (3, .int v)]) hx hb dX4_set_11 hl (by decide) rfl (fun ls hl => ?_)
    refine lv_aloadN hx hb dX4_set_13 (lv_at hl 0 rfl) ?_
    refine lv_ifnonnullN hx hb dX4_set_15 ?_
    refine lv_aload_n hx hb dX4_set_18 rfl (lv_at hl 1 rfl) ?_
    refine cy_getY (v := .int ((cy_no (cy_i σ 0 2 0) (-2)).1 0 2)) hx hb hts hin4 hown hK hI 8 (by decide) (hts (.fieldLink RX4 38 "CustomsYard" "refusal" "I") (by decide +kernel)) rfl dX4_set_19 ?_
    have E : cy_oSet n σ x i v = ((cy_no (cy_i σ 0 2 0) (-2)).1 0 2, cy_no (cy_i σ 0 2 0) (-2)) := by simp [cy_oSet, cy_z, cy_no_re, b1]
    rw [E]
    exact W.iret (v := (cy_no (cy_i σ 0 2 0) (-2)).1 0 2) hx hb hr (fun t ht hW => ⟨(), rfl, by rw [ht]; exact hI, hS.F ht⟩) hS.2.2 dX4_set_22
  · obtain ⟨kx, hkx, rfl⟩ := (cy_ld_iff hn _).mp b1
    obtain ⟨pkx, hpkx, epkx⟩ := (hok.2.2.1 kx hkx).2.1
    cases b2 : cy_nu (σ.1 1 kx)
    · have c1 := c_X4_numbersWith l D cI cJ cO z n (cy_i σ 0 2 0) τ pl hi ad hok (nI kx) i
      rw [show cy_nw n (cy_i σ 0 2 0) ad (nI kx) i = (none, cy_no (cy_i σ 0 2 0) (-4)) from by simp [cy_nw, cy_zr1, cy_zr2, nI_clamp (show kx < 2 ^ 31 by omega), b1, b2]] at c1
      refine cy_callm (va_runV (As := [.int (nI kx), .int i]) (rest := []) ⟨hx, hb, hml, hown, hts⟩ (c1) (cwV 2 hts gX4_set_X4_numbersWith rfl rfl rfl (by decide +kernel) ⟨Nat.le_of_ble_eq_true rfl, Nat.le_of_ble_eq_true rfl⟩) (cy_preV hK hI (cy_recv hK (hI.1 0 _ cy_CY).1 rfl)) rfl rfl hl.1 rfl (lv_room (Nat.le_of_ble_eq_true rfl)) dX4_set_8 ⟨Nat.le_of_ble_eq_true rfl, Nat.le_of_ble_eq_true rfl⟩) hS (fun u H locs hI hz hS => ?_)
      have hI : cy_W D z (cy_CT cI cJ cO n n (cy_no (cy_i σ 0 2 0) (-4)) τ pl hi ad) ad H := hI
      refine W.eq (g2 := F0 m 11 ls [.null]) rfl ?_
      refine lv_astoreN (lv' := [(4, .null), (0, .ref (ad 0)), (1, .int (nI kx)), (2, .int i), (3, .int v)]) hx hb dX4_set_11 hl (by decide) rfl (fun ls hl => ?_)
      refine lv_aloadN hx hb dX4_set_13 (lv_at hl 0 rfl) ?_
      refine lv_ifnonnullN hx hb dX4_set_15 ?_
      refine lv_aload_n hx hb dX4_set_18 rfl (lv_at hl 1 rfl) ?_
      refine cy_getY (v := .int ((cy_no (cy_i σ 0 2 0) (-4)).1 0 2)) hx hb hts hin4 hown hK hI 8 (by decide) (hts (.fieldLink RX4 38 "CustomsYard" "refusal" "I") (by decide +kernel)) rfl dX4_set_19 ?_
      have E : cy_oSet n σ (nI kx) i v = ((cy_no (cy_i σ 0 2 0) (-4)).1 0 2, cy_no (cy_i σ 0 2 0) (-4)) := by simp [cy_oSet, cy_z, cy_no_re, nI_clamp (show kx < 2 ^ 31 by omega), b1, b2]
      rw [E]
      exact W.iret (v := (cy_no (cy_i σ 0 2 0) (-4)).1 0 2) hx hb hr (fun t ht hW => ⟨(), rfl, by rw [ht]; exact hI, hS.F ht⟩) hS.2.2 dX4_set_22
    · have kdkx : cy_kd (σ.1 1 kx) = 0 := cy_kd0 hok hkx b2
      cases b3 : cy_pl (σ.1 2 kx) i
      · have c1 := c_X4_numbersWith l D cI cJ cO z n (cy_i σ 0 2 0) τ pl hi ad hok (nI kx) i
        rw [show cy_nw n (cy_i σ 0 2 0) ad (nI kx) i = (none, cy_no (cy_i σ 0 2 0) (-5)) from by simp [cy_nw, cy_zr1, cy_zr2, nI_clamp (show kx < 2 ^ 31 by omega), b1, b2, b3]] at c1
        refine cy_callm (va_runV (As := [.int (nI kx), .int i]) (rest := []) ⟨hx, hb, hml, hown, hts⟩ (c1) (cwV 2 hts gX4_set_X4_numbersWith rfl rfl rfl (by decide +kernel) ⟨Nat.le_of_ble_eq_true rfl, Nat.le_of_ble_eq_true rfl⟩) (cy_preV hK hI (cy_recv hK (hI.1 0 _ cy_CY).1 rfl)) rfl rfl hl.1 rfl (lv_room (Nat.le_of_ble_eq_true rfl)) dX4_set_8 ⟨Nat.le_of_ble_eq_true rfl, Nat.le_of_ble_eq_true rfl⟩) hS (fun u H locs hI hz hS => ?_)
        have hI : cy_W D z (cy_CT cI cJ cO n n (cy_no (cy_i σ 0 2 0) (-5)) τ pl hi ad) ad H := hI
        refine W.eq (g2 := F0 m 11 ls [.null]) rfl ?_
        refine lv_astoreN (lv' := [(4, .null), (0, .ref (ad 0)), (1, .int (nI kx)), (2, .int i), (3, .int v)]) hx hb dX4_set_11 hl (by decide) rfl (fun ls hl => ?_)
        refine lv_aloadN hx hb dX4_set_13 (lv_at hl 0 rfl) ?_
        refine lv_ifnonnullN hx hb dX4_set_15 ?_
        refine lv_aload_n hx hb dX4_set_18 rfl (lv_at hl 1 rfl) ?_
        refine cy_getY (v := .int ((cy_no (cy_i σ 0 2 0) (-5)).1 0 2)) hx hb hts hin4 hown hK hI 8 (by decide) (hts (.fieldLink RX4 38 "CustomsYard" "refusal" "I") (by decide +kernel)) rfl dX4_set_19 ?_
        have E : cy_oSet n σ (nI kx) i v = ((cy_no (cy_i σ 0 2 0) (-5)).1 0 2, cy_no (cy_i σ 0 2 0) (-5)) := by simp [cy_oSet, cy_z, cy_no_re, nI_clamp (show kx < 2 ^ 31 by omega), b1, b2, b3]
        rw [E]
        exact W.iret (v := (cy_no (cy_i σ 0 2 0) (-5)).1 0 2) hx hb hr (fun t ht hW => ⟨(), rfl, by rw [ht]; exact hI, hS.F ht⟩) hS.2.2 dX4_set_22
      · obtain ⟨ji, hji, rfl⟩ := (cy_pl_iff (p := pkx) (by omega) _).mp (by rw [← epkx]; exact b3)
        have c1 := c_X4_numbersWith l D cI cJ cO z n (cy_i σ 0 2 0) τ pl hi ad hok (nI kx) (nI ji)
        rw [show cy_nw n (cy_i σ 0 2 0) ad (nI kx) (nI ji) = (some (ad (100 + 2 * kx)), cy_i σ 0 2 0) from by simp [cy_nw, cy_zr1, cy_zr2, nI_clamp (show kx < 2 ^ 31 by omega), nI_clamp (show ji < 2 ^ 31 by omega), b1, b2, b3]] at c1
        refine cy_callm (va_runV (As := [.int (nI kx), .int (nI ji)]) (rest := []) ⟨hx, hb, hml, hown, hts⟩ (c1) (cwV 2 hts gX4_set_X4_numbersWith rfl rfl rfl (by decide +kernel) ⟨Nat.le_of_ble_eq_true rfl, Nat.le_of_ble_eq_true rfl⟩) (cy_preV hK hI (cy_recv hK (hI.1 0 _ cy_CY).1 rfl)) rfl rfl hl.1 rfl (lv_room (Nat.le_of_ble_eq_true rfl)) dX4_set_8 ⟨Nat.le_of_ble_eq_true rfl, Nat.le_of_ble_eq_true rfl⟩) hS (fun u H locs hI hz hS => ?_)
        have hI : cy_W D z (cy_CT cI cJ cO n n (cy_i σ 0 2 0) τ pl hi ad) ad H := hI
        refine W.eq (g2 := F0 m 11 ls [.ref (ad (100 + 2 * kx))]) rfl ?_
        refine lv_astore (lv' := [(4, .ref (ad (100 + 2 * kx))), (0, .ref (ad 0)), (1, .int (nI kx)), (2, .int (nI ji)), (3, .int v)]) hx hb dX4_set_11 hl (by decide) rfl (fun ls hl => ?_)
        refine lv_aload hx hb dX4_set_13 (lv_at hl 0 rfl) ?_
        refine lv_ifnonnull (tgt := 23) hx hb dX4_set_15 (by decide) ?_
        refine lv_aload hx hb dX4_set_23 (lv_at hl 0 rfl) ?_
        refine cy_getNp hx hb hts hin1 hown hK hI hkx kdkx (hts (.fieldLink RX4 60 "CustomsYard$Numbers" "places" "[J") (by decide +kernel)) dX4_set_25 ?_
        refine lv_iload_n hx hb dX4_set_28 rfl (lv_at hl 3 rfl) ?_
        refine lv_aload hx hb dX4_set_29 (lv_at hl 0 rfl) ?_
        refine cy_getSort hx hb hts hin1 hin2 hin3 hown hK hI hkx (hts (.fieldLink RX4 65 "CustomsYard$Numbers" "sort" "I") (by decide +kernel)) (fun x h9 => u_same (hts (.sameField "CustomsYard$Numbers" "CustomsYard$Load" "sort" "I") (by decide +kernel)) x h9) dX4_set_31 ?_
        refine cy_topi (y := σ.1 1 kx) rfl ?_
        refine lv_iconst (v := 1) hx hb dX4_set_34 (by decide) ?_
        refine lv_icmp_ne (tgt := 44) hx hb dX4_set_35 (by decide) (fun h1 => ?_) (fun h1 => ?_)
        · refine lv_iload_n hx hb dX4_set_44 rfl (lv_at hl 4 rfl) ?_
          refine lv_i2l (v := v.toInt64) hx hb dX4_set_45 rfl ?_
          refine cy_stN (j := ji) (v := v.toInt64) hx hb hK hI hS hkx kdkx hpkx epkx (by omega) dX4_set_46 (fun H locs hI hS => ?_)
          refine lv_iconst (v := 1) hx hb dX4_set_47 (by decide) ?_
          have E : cy_oSet n σ (nI kx) (nI ji) v = (1, cy_l (cy_i σ 0 2 0) 0 (6 * kx + ji) v.toInt64) := by first | (simp [cy_oSet, cy_z, cy_no_re, nI_clamp (show kx < 2 ^ 31 by omega), nI_clamp (show ji < 2 ^ 31 by omega), b1, b2, b3]; done) | (simp [cy_oSet, cy_z, cy_no_re, nI_clamp (show kx < 2 ^ 31 by omega), nI_clamp (show ji < 2 ^ 31 by omega), b1, b2, b3]; simp [h1]; done) | (simp [cy_oSet, cy_z, cy_no_re, nI_clamp (show kx < 2 ^ 31 by omega), nI_clamp (show ji < 2 ^ 31 by omega), b1, b2, b3, h1]; done)
          rw [E]
          exact W.iret (v := 1) hx hb hr (fun t ht hW => ⟨(), rfl, by rw [ht]; exact hI, hS.F ht⟩) hS.2.2 dX4_set_48
        · refine lv_iload_n hx hb dX4_set_38 rfl (lv_at hl 4 rfl) ?_
          refine lv_i2b (v := v.toInt8.toInt32) hx hb dX4_set_39 rfl ?_
          refine lv_i2l (v := v.toInt8.toInt32.toInt64) hx hb dX4_set_40 rfl ?_
          refine lv_goto (tgt := 46) hx hb dX4_set_41 (by decide) ?_
          refine cy_stN (j := ji) (v := v.toInt8.toInt32.toInt64) hx hb hK hI hS hkx kdkx hpkx epkx (by omega) dX4_set_46 (fun H locs hI hS => ?_)
          refine lv_iconst (v := 1) hx hb dX4_set_47 (by decide) ?_
          have E : cy_oSet n σ (nI kx) (nI ji) v = (1, cy_l (cy_i σ 0 2 0) 0 (6 * kx + ji) v.toInt8.toInt32.toInt64) := by first | (simp [cy_oSet, cy_z, cy_no_re, nI_clamp (show kx < 2 ^ 31 by omega), nI_clamp (show ji < 2 ^ 31 by omega), b1, b2, b3]; done) | (simp [cy_oSet, cy_z, cy_no_re, nI_clamp (show kx < 2 ^ 31 by omega), nI_clamp (show ji < 2 ^ 31 by omega), b1, b2, b3]; simp [h1]; done) | (simp [cy_oSet, cy_z, cy_no_re, nI_clamp (show kx < 2 ^ 31 by omega), nI_clamp (show ji < 2 ^ 31 by omega), b1, b2, b3, h1]; done)
          rw [E]
          exact W.iret (v := 1) hx hb hr (fun t ht hW => ⟨(), rfl, by rw [ht]; exact hI, hS.F ht⟩) hS.2.2 dX4_set_48

set_option maxHeartbeats 4000000 in
set_option maxRecDepth 100000 in
theorem c_X4_number (l : Launch) (D : va_G) (cI cJ cO : ClassId) (z n : Nat) (σ τ : cy_S) (pl : Nat → Int32) (hi : Int32) (ad : Nat → Nat) (hok : cy_ok n σ) (x i : Int32)  : Met l yX4_number wsX4_number { frames := 2, cells := 0, slots := 0, locals := 45 } (cy_P D cI cJ cO (fun H => cy_W D z (cy_CT cI cJ cO n n σ τ pl hi ad) ad H) [.ref (ad 0), .int x, .int i]) (cy_M (S := Unit) z (fun _ => some (.long (cy_oNum n σ x i).1)) (fun _ H => cy_W D z (cy_CT cI cJ cO n n (cy_oNum n σ x i).2 τ pl hi ad) ad H)) 0 0 (fun q => z ≤ q) := by
  refine Met.ofW (cc := cX4_number) (maxL := 4) (ret := (some .long)) (by decide) rfl ?_
  intro p e s m args below meth c s₁ B hml hv
  obtain ⟨rfl, hK, hI⟩ := hv
  have hx := B.exec
  have hb := B.bytes
  have hr := B.returns
  have hts := atoms_spec (ws := wsX4_number) B.pre
  have hown : s.vm.findClass RX4 = some m.cls := findClass_of_methodNamed B.named
  have hlocks := B.notSynchronized
  have hS : va_S (fun q => z ≤ q) s.heap s.heap [] := va_S.rf
  have hl := lv_entry ([.ref (ad 0), .int x, .int i]) (n := 4) (Nat.le_of_ble_eq_true rfl)
  rw [lg_entry_eq]
  generalize (lg_sl ([.ref (ad 0), .int x, .int i]) ++ List.replicate (4 - (lg_sl ([.ref (ad 0), .int x, .int i])).length) Slot.unset).toArray = ls at hl ⊢
  have hl : lv_has ls 4 [(0, .ref (ad 0)), (1, .int x), (2, .int i)] := hl
  have hin1 := hin1_X4_number
  have hin4 := hin4_X4_number
  have h0 := hok.2.1
  have hn := hok.1
  refine lv_aload_n hx hb dX4_number_0 rfl (lv_at hl 0 rfl) ?_
  refine lv_iconst (v := 0) hx hb dX4_number_1 (by decide) ?_
  refine cy_putY (v := 0) hx hb hts hin4 hown hK hI hS 8 2 (by decide) (hts (.fieldLink RX4 38 "CustomsYard" "refusal" "I") (by decide +kernel)) rfl (by decide +kernel) rfl dX4_number_2 (fun H locs hI hS => ?_)
  refine lv_aload_n hx hb dX4_number_5 rfl (lv_at hl 0 rfl) ?_
  refine lv_iload_n hx hb dX4_number_6 rfl (lv_at hl 1 rfl) ?_
  refine lv_iload_n hx hb dX4_number_7 rfl (lv_at hl 2 rfl) ?_
  cases b1 : cy_ld n x
  · have c1 := c_X4_numbersWith l D cI cJ cO z n (cy_i σ 0 2 0) τ pl hi ad hok x i
    rw [show cy_nw n (cy_i σ 0 2 0) ad x i = (none, cy_no (cy_i σ 0 2 0) (-2)) from by simp [cy_nw, cy_zr1, cy_zr2, b1]] at c1
    refine cy_callm (va_runV (As := [.int x, .int i]) (rest := []) ⟨hx, hb, hml, hown, hts⟩ (c1) (cwV 2 hts gX4_number_X4_numbersWith rfl rfl rfl (by decide +kernel) ⟨Nat.le_of_ble_eq_true rfl, Nat.le_of_ble_eq_true rfl⟩) (cy_preV hK hI (cy_recv hK (hI.1 0 _ cy_CY).1 rfl)) rfl rfl hl.1 rfl (lv_room (Nat.le_of_ble_eq_true rfl)) dX4_number_8 ⟨Nat.le_of_ble_eq_true rfl, Nat.le_of_ble_eq_true rfl⟩) hS (fun u H locs hI hz hS => ?_)
    have hI : cy_W D z (cy_CT cI cJ cO n n (cy_no (cy_i σ 0 2 0) (-2)) τ pl hi ad) ad H := hI
    refine W.eq (g2 := F0 m 11 ls [.null]) rfl ?_
    refine lv_astore_nN (lv' := [(3, .null), (0, .ref (ad 0)), (1, .int x), (2, .int i)]) hx hb dX4_number_11 rfl hl (by decide) rfl (fun ls hl => ?_)
    refine lv_aload_nN hx hb dX4_number_12 rfl (lv_at hl 0 rfl) ?_
    refine lv_ifnonnullN hx hb dX4_number_13 ?_
    refine lv_lconst (v := 0) hx hb dX4_number_16 (by decide) ?_
    refine lv_goto (tgt := 26) hx hb dX4_number_17 (by decide) ?_
    have E : cy_oNum n σ x i = (0, cy_no (cy_i σ 0 2 0) (-2)) := by simp [cy_oNum, cy_z, b1]
    rw [E]
    exact W.lret (v := 0) hx hb hr (fun t ht hW => ⟨(), rfl, by rw [ht]; exact hI, hS.F ht⟩) hS.2.2 dX4_number_26
  · obtain ⟨kx, hkx, rfl⟩ := (cy_ld_iff hn _).mp b1
    obtain ⟨pkx, hpkx, epkx⟩ := (hok.2.2.1 kx hkx).2.1
    cases b2 : cy_nu (σ.1 1 kx)
    · have c1 := c_X4_numbersWith l D cI cJ cO z n (cy_i σ 0 2 0) τ pl hi ad hok (nI kx) i
      rw [show cy_nw n (cy_i σ 0 2 0) ad (nI kx) i = (none, cy_no (cy_i σ 0 2 0) (-4)) from by simp [cy_nw, cy_zr1, cy_zr2, nI_clamp (show kx < 2 ^ 31 by omega), b1, b2]] at c1
      refine cy_callm (va_runV (As := [.int (nI kx), .int i]) (rest := []) ⟨hx, hb, hml, hown, hts⟩ (c1) (cwV 2 hts gX4_number_X4_numbersWith rfl rfl rfl (by decide +kernel) ⟨Nat.le_of_ble_eq_true rfl, Nat.le_of_ble_eq_true rfl⟩) (cy_preV hK hI (cy_recv hK (hI.1 0 _ cy_CY).1 rfl)) rfl rfl hl.1 rfl (lv_room (Nat.le_of_ble_eq_true rfl)) dX4_number_8 ⟨Nat.le_of_ble_eq_true rfl, Nat.le_of_ble_eq_true rfl⟩) hS (fun u H locs hI hz hS => ?_)
      have hI : cy_W D z (cy_CT cI cJ cO n n (cy_no (cy_i σ 0 2 0) (-4)) τ pl hi ad) ad H := hI
      refine W.eq (g2 := F0 m 11 ls [.null]) rfl ?_
      refine lv_astore_nN (lv' := [(3, .null), (0, .ref (ad 0)), (1, .int (nI kx)), (2, .int i)]) hx hb dX4_number_11 rfl hl (by decide) rfl (fun ls hl => ?_)
      refine lv_aload_nN hx hb dX4_number_12 rfl (lv_at hl 0 rfl) ?_
      refine lv_ifnonnullN hx hb dX4_number_13 ?_
      refine lv_lconst (v := 0) hx hb dX4_number_16 (by decide) ?_
      refine lv_goto (tgt := 26) hx hb dX4_number_17 (by decide) ?_
      have E : cy_oNum n σ (nI kx) i = (0, cy_no (cy_i σ 0 2 0) (-4)) := by simp [cy_oNum, cy_z, nI_clamp (show kx < 2 ^ 31 by omega), b1, b2]
      rw [E]
      exact W.lret (v := 0) hx hb hr (fun t ht hW => ⟨(), rfl, by rw [ht]; exact hI, hS.F ht⟩) hS.2.2 dX4_number_26
    · have kdkx : cy_kd (σ.1 1 kx) = 0 := cy_kd0 hok hkx b2
      cases b3 : cy_pl (σ.1 2 kx) i
      · have c1 := c_X4_numbersWith l D cI cJ cO z n (cy_i σ 0 2 0) τ pl hi ad hok (nI kx) i
        rw [show cy_nw n (cy_i σ 0 2 0) ad (nI kx) i = (none, cy_no (cy_i σ 0 2 0) (-5)) from by simp [cy_nw, cy_zr1, cy_zr2, nI_clamp (show kx < 2 ^ 31 by omega), b1, b2, b3]] at c1
        refine cy_callm (va_runV (As := [.int (nI kx), .int i]) (rest := []) ⟨hx, hb, hml, hown, hts⟩ (c1) (cwV 2 hts gX4_number_X4_numbersWith rfl rfl rfl (by decide +kernel) ⟨Nat.le_of_ble_eq_true rfl, Nat.le_of_ble_eq_true rfl⟩) (cy_preV hK hI (cy_recv hK (hI.1 0 _ cy_CY).1 rfl)) rfl rfl hl.1 rfl (lv_room (Nat.le_of_ble_eq_true rfl)) dX4_number_8 ⟨Nat.le_of_ble_eq_true rfl, Nat.le_of_ble_eq_true rfl⟩) hS (fun u H locs hI hz hS => ?_)
        have hI : cy_W D z (cy_CT cI cJ cO n n (cy_no (cy_i σ 0 2 0) (-5)) τ pl hi ad) ad H := hI
        refine W.eq (g2 := F0 m 11 ls [.null]) rfl ?_
        refine lv_astore_nN (lv' := [(3, .null), (0, .ref (ad 0)), (1, .int (nI kx)), (2, .int i)]) hx hb dX4_number_11 rfl hl (by decide) rfl (fun ls hl => ?_)
        refine lv_aload_nN hx hb dX4_number_12 rfl (lv_at hl 0 rfl) ?_
        refine lv_ifnonnullN hx hb dX4_number_13 ?_
        refine lv_lconst (v := 0) hx hb dX4_number_16 (by decide) ?_
        refine lv_goto (tgt := 26) hx hb dX4_number_17 (by decide) ?_
        have E : cy_oNum n σ (nI kx) i = (0, cy_no (cy_i σ 0 2 0) (-5)) := by simp [cy_oNum, cy_z, nI_clamp (show kx < 2 ^ 31 by omega), b1, b2, b3]
        rw [E]
        exact W.lret (v := 0) hx hb hr (fun t ht hW => ⟨(), rfl, by rw [ht]; exact hI, hS.F ht⟩) hS.2.2 dX4_number_26
      · obtain ⟨ji, hji, rfl⟩ := (cy_pl_iff (p := pkx) (by omega) _).mp (by rw [← epkx]; exact b3)
        have c1 := c_X4_numbersWith l D cI cJ cO z n (cy_i σ 0 2 0) τ pl hi ad hok (nI kx) (nI ji)
        rw [show cy_nw n (cy_i σ 0 2 0) ad (nI kx) (nI ji) = (some (ad (100 + 2 * kx)), cy_i σ 0 2 0) from by simp [cy_nw, cy_zr1, cy_zr2, nI_clamp (show kx < 2 ^ 31 by omega), nI_clamp (show ji < 2 ^ 31 by omega), b1, b2, b3]] at c1
        refine cy_callm (va_runV (As := [.int (nI kx), .int (nI ji)]) (rest := []) ⟨hx, hb, hml, hown, hts⟩ (c1) (cwV 2 hts gX4_number_X4_numbersWith rfl rfl rfl (by decide +kernel) ⟨Nat.le_of_ble_eq_true rfl, Nat.le_of_ble_eq_true rfl⟩) (cy_preV hK hI (cy_recv hK (hI.1 0 _ cy_CY).1 rfl)) rfl rfl hl.1 rfl (lv_room (Nat.le_of_ble_eq_true rfl)) dX4_number_8 ⟨Nat.le_of_ble_eq_true rfl, Nat.le_of_ble_eq_true rfl⟩) hS (fun u H locs hI hz hS => ?_)
        have hI : cy_W D z (cy_CT cI cJ cO n n (cy_i σ 0 2 0) τ pl hi ad) ad H := hI
        refine W.eq (g2 := F0 m 11 ls [.ref (ad (100 + 2 * kx))]) rfl ?_
        refine lv_astore_n (lv' := [(3, .ref (ad (100 + 2 * kx))), (0, .ref (ad 0)), (1, .int (nI kx)), (2, .int (nI ji))]) hx hb dX4_number_11 rfl hl (by decide) rfl (fun ls hl => ?_)
        refine lv_aload_n hx hb dX4_number_12 rfl (lv_at hl 0 rfl) ?_
        refine lv_ifnonnull (tgt := 20) hx hb dX4_number_13 (by decide) ?_
        refine lv_aload_n hx hb dX4_number_20 rfl (lv_at hl 0 rfl) ?_
        refine cy_getNp hx hb hts hin1 hown hK hI hkx kdkx (hts (.fieldLink RX4 60 "CustomsYard$Numbers" "places" "[J") (by decide +kernel)) dX4_number_21 ?_
        refine lv_iload_n hx hb dX4_number_24 rfl (lv_at hl 3 rfl) ?_
        refine cy_laldL (i := ji) hx hb hK hI hkx kdkx hpkx epkx (by omega) dX4_number_25 ?_
        have E : cy_oNum n σ (nI kx) (nI ji) = (σ.2 0 (6 * kx + ji), cy_i σ 0 2 0) := by simp [cy_oNum, cy_z, nI_clamp (show kx < 2 ^ 31 by omega), nI_clamp (show ji < 2 ^ 31 by omega), b1, b2, b3]
        rw [E]
        exact W.lret (v := σ.2 0 (6 * kx + ji)) hx hb hr (fun t ht hW => ⟨(), rfl, by rw [ht]; exact hI, hS.F ht⟩) hS.2.2 dX4_number_26

set_option maxHeartbeats 4000000 in
set_option maxRecDepth 100000 in
theorem c_X4_put (l : Launch) (D : va_G) (cI cJ cO : ClassId) (z n : Nat) (σ τ : cy_S) (pl : Nat → Int32) (hi : Int32) (ad : Nat → Nat) (hok : cy_ok n σ) (x i o : Int32)  : Met l yX4_put wsX4_put { frames := 2, cells := 0, slots := 0, locals := 40 } (cy_P D cI cJ cO (fun H => cy_W D z (cy_CT cI cJ cO n n σ τ pl hi ad) ad H) [.ref (ad 0), .int x, .int i, .int o]) (cy_M (S := Unit) z (fun _ => some (.int (cy_oPut n σ x i o).1)) (fun _ H => cy_W D z (cy_CT cI cJ cO n n (cy_oPut n σ x i o).2 τ pl hi ad) ad H)) 0 0 (fun q => z ≤ q) := by
  refine Met.ofW (cc := cX4_put) (maxL := 7) (ret := (some .int)) (by decide) rfl ?_
  intro p e s m args below meth c s₁ B hml hv
  obtain ⟨rfl, hK, hI⟩ := hv
  have hx := B.exec
  have hb := B.bytes
  have hr := B.returns
  have hts := atoms_spec (ws := wsX4_put) B.pre
  have hown : s.vm.findClass RX4 = some m.cls := findClass_of_methodNamed B.named
  have hlocks := B.notSynchronized
  have hS : va_S (fun q => z ≤ q) s.heap s.heap [] := va_S.rf
  have hl := lv_entry ([.ref (ad 0), .int x, .int i, .int o]) (n := 7) (Nat.le_of_ble_eq_true rfl)
  rw [lg_entry_eq]
  generalize (lg_sl ([.ref (ad 0), .int x, .int i, .int o]) ++ List.replicate (7 - (lg_sl ([.ref (ad 0), .int x, .int i, .int o])).length) Slot.unset).toArray = ls at hl ⊢
  have hl : lv_has ls 7 [(0, .ref (ad 0)), (1, .int x), (2, .int i), (3, .int o)] := hl
  have hin1 := hin1_X4_put
  have hin2 := hin2_X4_put
  have hin3 := hin3_X4_put
  have hin4 := hin4_X4_put
  have h0 := hok.2.1
  have hn := hok.1
  refine lv_aload_n hx hb dX4_put_0 rfl (lv_at hl 0 rfl) ?_
  refine lv_iconst (v := 0) hx hb dX4_put_1 (by decide) ?_
  refine cy_putY (v := 0) hx hb hts hin4 hown hK hI hS 8 2 (by decide) (hts (.fieldLink RX4 38 "CustomsYard" "refusal" "I") (by decide +kernel)) rfl (by decide +kernel) rfl dX4_put_2 (fun H locs hI hS => ?_)
  refine lv_aload_n hx hb dX4_put_5 rfl (lv_at hl 0 rfl) ?_
  refine lv_iload_n hx hb dX4_put_6 rfl (lv_at hl 1 rfl) ?_
  refine cy_callp (v := va_rf (cy_fd n ad x)) (va_runV (As := [.int x]) (rest := []) ⟨hx, hb, hml, hown, hts⟩ (c_X4_find l D cI cJ cO z n (cy_i σ 0 2 0) τ pl hi ad hok x) (cwV 1 hts gX4_put_X4_find rfl rfl rfl (by decide +kernel) ⟨Nat.le_of_ble_eq_true rfl, Nat.le_of_ble_eq_true rfl⟩) (cy_preV hK hI (cy_recv hK (hI.1 0 _ cy_CY).1 rfl)) rfl rfl hl.1 rfl (lv_room (Nat.le_of_ble_eq_true rfl)) dX4_put_7 ⟨Nat.le_of_ble_eq_true rfl, Nat.le_of_ble_eq_true rfl⟩) ?_
  cases b1 : cy_ld n x
  · refine cy_topq (cy_fd_f b1) ?_
    refine lv_astoreN (lv' := [(4, .null), (0, .ref (ad 0)), (1, .int x), (2, .int i), (3, .int o)]) hx hb dX4_put_10 hl (by decide) rfl (fun ls hl => ?_)
    refine lv_aload_n hx hb dX4_put_12 rfl (lv_at hl 1 rfl) ?_
    refine lv_iload_n hx hb dX4_put_13 rfl (lv_at hl 4 rfl) ?_
    refine cy_callp (v := va_rf (cy_fd n ad o)) (va_runV (As := [.int o]) (rest := []) ⟨hx, hb, hml, hown, hts⟩ (c_X4_find l D cI cJ cO z n (cy_i σ 0 2 0) τ pl hi ad hok o) (cwV 1 hts gX4_put_X4_find rfl rfl rfl (by decide +kernel) ⟨Nat.le_of_ble_eq_true rfl, Nat.le_of_ble_eq_true rfl⟩) (cy_preV hK hI (cy_recv hK (hI.1 0 _ cy_CY).1 rfl)) rfl rfl hl.1 rfl (lv_room (Nat.le_of_ble_eq_true rfl)) dX4_put_14 ⟨Nat.le_of_ble_eq_true rfl, Nat.le_of_ble_eq_true rfl⟩) ?_
    cases b2 : cy_ld n o
    · refine cy_topq (cy_fd_f b2) ?_
      refine lv_astoreN (lv' := [(5, .null), (4, .null), (0, .ref (ad 0)), (1, .int x), (2, .int i), (3, .int o)]) hx hb dX4_put_17 hl (by decide) rfl (fun ls hl => ?_)
      refine lv_aloadN hx hb dX4_put_19 (lv_at hl 1 rfl) ?_
      refine lv_ifnullN (tgt := 34) hx hb dX4_put_21 (by decide) ?_
      refine lv_aload_n hx hb dX4_put_34 rfl (lv_at hl 2 rfl) ?_
      refine lv_bipush (v := -2) hx hb dX4_put_35 (by decide) ?_
      refine cy_callm (va_runV (As := [.int (-2)]) (rest := []) ⟨hx, hb, hml, hown, hts⟩ (c_X4_refuse l D cI cJ cO z n (cy_i σ 0 2 0) τ pl hi ad (-2)) (cwV 1 hts gX4_put_X4_refuse rfl rfl rfl (by decide +kernel) ⟨Nat.le_of_ble_eq_true rfl, Nat.le_of_ble_eq_true rfl⟩) (cy_preV hK hI (cy_recv hK (hI.1 0 _ cy_CY).1 rfl)) rfl rfl hl.1 rfl (lv_room (Nat.le_of_ble_eq_true rfl)) dX4_put_37 ⟨Nat.le_of_ble_eq_true rfl, Nat.le_of_ble_eq_true rfl⟩) hS (fun u H locs hI hz hS => ?_)
      have hI : cy_W D z (cy_CT cI cJ cO n n (cy_no (cy_i σ 0 2 0) (-2)) τ pl hi ad) ad H := hI
      refine W.eq (g2 := F0 m 40 ls [.int (-2)]) rfl ?_
      have E : cy_oPut n σ x i o = ((-2), cy_no (cy_i σ 0 2 0) (-2)) := by simp [cy_oPut, cy_z, b1, b2]
      rw [E]
      exact W.iret (v := (-2)) hx hb hr (fun t ht hW => ⟨(), rfl, by rw [ht]; exact hI, hS.F ht⟩) hS.2.2 dX4_put_40
    · obtain ⟨ko, hko, rfl⟩ := (cy_ld_iff hn _).mp b2
      have neko := cy_ne1 (show ko < 2 ^ 31 by omega)
      refine cy_topq (cy_fd_t hn b2 hko) ?_
      refine lv_astore (lv' := [(5, .ref (ad (100 + 2 * ko))), (4, .null), (0, .ref (ad 0)), (1, .int x), (2, .int i), (3, .int (nI ko))]) hx hb dX4_put_17 hl (by decide) rfl (fun ls hl => ?_)
      refine lv_aloadN hx hb dX4_put_19 (lv_at hl 1 rfl) ?_
      refine lv_ifnullN (tgt := 34) hx hb dX4_put_21 (by decide) ?_
      refine lv_aload_n hx hb dX4_put_34 rfl (lv_at hl 2 rfl) ?_
      refine lv_bipush (v := -2) hx hb dX4_put_35 (by decide) ?_
      refine cy_callm (va_runV (As := [.int (-2)]) (rest := []) ⟨hx, hb, hml, hown, hts⟩ (c_X4_refuse l D cI cJ cO z n (cy_i σ 0 2 0) τ pl hi ad (-2)) (cwV 1 hts gX4_put_X4_refuse rfl rfl rfl (by decide +kernel) ⟨Nat.le_of_ble_eq_true rfl, Nat.le_of_ble_eq_true rfl⟩) (cy_preV hK hI (cy_recv hK (hI.1 0 _ cy_CY).1 rfl)) rfl rfl hl.1 rfl (lv_room (Nat.le_of_ble_eq_true rfl)) dX4_put_37 ⟨Nat.le_of_ble_eq_true rfl, Nat.le_of_ble_eq_true rfl⟩) hS (fun u H locs hI hz hS => ?_)
      have hI : cy_W D z (cy_CT cI cJ cO n n (cy_no (cy_i σ 0 2 0) (-2)) τ pl hi ad) ad H := hI
      refine W.eq (g2 := F0 m 40 ls [.int (-2)]) rfl ?_
      have E : cy_oPut n σ x i (nI ko) = ((-2), cy_no (cy_i σ 0 2 0) (-2)) := by first | (simp [cy_oPut, cy_z, nI_clamp (show ko < 2 ^ 31 by omega), b1, b2]; done) | (simp [cy_oPut, cy_z, nI_clamp (show ko < 2 ^ 31 by omega), b1, b2]; simp [neko]; done) | (simp [cy_oPut, cy_z, nI_clamp (show ko < 2 ^ 31 by omega), b1, b2, neko]; done)
      rw [E]
      exact W.iret (v := (-2)) hx hb hr (fun t ht hW => ⟨(), rfl, by rw [ht]; exact hI, hS.F ht⟩) hS.2.2 dX4_put_40
  · obtain ⟨kx, hkx, rfl⟩ := (cy_ld_iff hn _).mp b1
    have nekx := cy_ne1 (show kx < 2 ^ 31 by omega)
    refine cy_topq (cy_fd_t hn b1 hkx) ?_
    refine lv_astore (lv' := [(4, .ref (ad (100 + 2 * kx))), (0, .ref (ad 0)), (1, .int (nI kx)), (2, .int i), (3, .int o)]) hx hb dX4_put_10 hl (by decide) rfl (fun ls hl => ?_)
    refine lv_aload_n hx hb dX4_put_12 rfl (lv_at hl 1 rfl) ?_
    refine lv_iload_n hx hb dX4_put_13 rfl (lv_at hl 4 rfl) ?_
    refine cy_callp (v := va_rf (cy_fd n ad o)) (va_runV (As := [.int o]) (rest := []) ⟨hx, hb, hml, hown, hts⟩ (c_X4_find l D cI cJ cO z n (cy_i σ 0 2 0) τ pl hi ad hok o) (cwV 1 hts gX4_put_X4_find rfl rfl rfl (by decide +kernel) ⟨Nat.le_of_ble_eq_true rfl, Nat.le_of_ble_eq_true rfl⟩) (cy_preV hK hI (cy_recv hK (hI.1 0 _ cy_CY).1 rfl)) rfl rfl hl.1 rfl (lv_room (Nat.le_of_ble_eq_true rfl)) dX4_put_14 ⟨Nat.le_of_ble_eq_true rfl, Nat.le_of_ble_eq_true rfl⟩) ?_
    cases b3 : cy_ld n o
    · refine cy_topq (cy_fd_f b3) ?_
      refine lv_astoreN (lv' := [(5, .null), (4, .ref (ad (100 + 2 * kx))), (0, .ref (ad 0)), (1, .int (nI kx)), (2, .int i), (3, .int o)]) hx hb dX4_put_17 hl (by decide) rfl (fun ls hl => ?_)
      refine lv_aload hx hb dX4_put_19 (lv_at hl 1 rfl) ?_
      refine lv_ifnull hx hb dX4_put_21 ?_
      refine lv_aloadN hx hb dX4_put_24 (lv_at hl 0 rfl) ?_
      refine lv_ifnonnullN hx hb dX4_put_26 ?_
      refine lv_iload_n hx hb dX4_put_29 rfl (lv_at hl 5 rfl) ?_
      refine lv_iconst (v := -1) hx hb dX4_put_30 (by decide) ?_
      refine lv_icmp_eq (tgt := 41) hx hb dX4_put_31 (by decide) (fun h4 => ?_) (fun h4 => ?_)
      · refine lv_aload hx hb dX4_put_41 (lv_at hl 1 rfl) ?_
        obtain ⟨pkx, hpkx, epkx⟩ := (hok.2.2.1 kx hkx).2.1
        rcases cy_kd3 hok hkx with ⟨kdkx, nukx, sgkx, thkx⟩ | ⟨kdkx, nukx, sgkx, thkx⟩ | ⟨kdkx, nukx, sgkx, thkx⟩
        · refine va_instNo (C := RX1) (nm := RX3) hx hb hown (hts (.classLink RX4 72 RX3) (by decide +kernel)) hK.2.2.2.1 (cy_rv0 hK hI hkx kdkx) dX4_put_43 ?_
          refine lv_if_eq (tgt := 59) hx hb dX4_put_46 (by decide) (fun h5 => ?_) (fun h5 => absurd (by decide) h5)
          refine lv_aload_n hx hb dX4_put_59 rfl (lv_at hl 2 rfl) ?_
          refine lv_bipush (v := -4) hx hb dX4_put_60 (by decide) ?_
          refine cy_callm (va_runV (As := [.int (-4)]) (rest := []) ⟨hx, hb, hml, hown, hts⟩ (c_X4_refuse l D cI cJ cO z n (cy_i σ 0 2 0) τ pl hi ad (-4)) (cwV 1 hts gX4_put_X4_refuse rfl rfl rfl (by decide +kernel) ⟨Nat.le_of_ble_eq_true rfl, Nat.le_of_ble_eq_true rfl⟩) (cy_preV hK hI (cy_recv hK (hI.1 0 _ cy_CY).1 rfl)) rfl rfl hl.1 rfl (lv_room (Nat.le_of_ble_eq_true rfl)) dX4_put_62 ⟨Nat.le_of_ble_eq_true rfl, Nat.le_of_ble_eq_true rfl⟩) hS (fun u H locs hI hz hS => ?_)
          have hI : cy_W D z (cy_CT cI cJ cO n n (cy_no (cy_i σ 0 2 0) (-4)) τ pl hi ad) ad H := hI
          refine W.eq (g2 := F0 m 65 ls [.int (-4)]) rfl ?_
          have E : cy_oPut n σ (nI kx) i o = ((-4), cy_no (cy_i σ 0 2 0) (-4)) := by first | (simp [cy_oPut, cy_z, nI_clamp (show kx < 2 ^ 31 by omega), b1, b3, nukx, thkx]; done) | (simp [cy_oPut, cy_z, nI_clamp (show kx < 2 ^ 31 by omega), b1, b3, nukx, thkx]; simp [nekx, h4]; done) | (simp [cy_oPut, cy_z, nI_clamp (show kx < 2 ^ 31 by omega), b1, b3, nukx, thkx, nekx, h4]; done)
          rw [E]
          exact W.iret (v := (-4)) hx hb hr (fun t ht hW => ⟨(), rfl, by rw [ht]; exact hI, hS.F ht⟩) hS.2.2 dX4_put_65
        · refine va_instNo (C := RX2) (nm := RX3) hx hb hown (hts (.classLink RX4 72 RX3) (by decide +kernel)) hK.2.2.2.2.1 (cy_rv1 hK hI hkx kdkx) dX4_put_43 ?_
          refine lv_if_eq (tgt := 59) hx hb dX4_put_46 (by decide) (fun h6 => ?_) (fun h6 => absurd (by decide) h6)
          refine lv_aload_n hx hb dX4_put_59 rfl (lv_at hl 2 rfl) ?_
          refine lv_bipush (v := -4) hx hb dX4_put_60 (by decide) ?_
          refine cy_callm (va_runV (As := [.int (-4)]) (rest := []) ⟨hx, hb, hml, hown, hts⟩ (c_X4_refuse l D cI cJ cO z n (cy_i σ 0 2 0) τ pl hi ad (-4)) (cwV 1 hts gX4_put_X4_refuse rfl rfl rfl (by decide +kernel) ⟨Nat.le_of_ble_eq_true rfl, Nat.le_of_ble_eq_true rfl⟩) (cy_preV hK hI (cy_recv hK (hI.1 0 _ cy_CY).1 rfl)) rfl rfl hl.1 rfl (lv_room (Nat.le_of_ble_eq_true rfl)) dX4_put_62 ⟨Nat.le_of_ble_eq_true rfl, Nat.le_of_ble_eq_true rfl⟩) hS (fun u H locs hI hz hS => ?_)
          have hI : cy_W D z (cy_CT cI cJ cO n n (cy_no (cy_i σ 0 2 0) (-4)) τ pl hi ad) ad H := hI
          refine W.eq (g2 := F0 m 65 ls [.int (-4)]) rfl ?_
          have E : cy_oPut n σ (nI kx) i o = ((-4), cy_no (cy_i σ 0 2 0) (-4)) := by first | (simp [cy_oPut, cy_z, nI_clamp (show kx < 2 ^ 31 by omega), b1, b3, nukx, thkx]; done) | (simp [cy_oPut, cy_z, nI_clamp (show kx < 2 ^ 31 by omega), b1, b3, nukx, thkx]; simp [nekx, h4]; done) | (simp [cy_oPut, cy_z, nI_clamp (show kx < 2 ^ 31 by omega), b1, b3, nukx, thkx, nekx, h4]; done)
          rw [E]
          exact W.iret (v := (-4)) hx hb hr (fun t ht hW => ⟨(), rfl, by rw [ht]; exact hI, hS.F ht⟩) hS.2.2 dX4_put_65
        · refine va_instS (nm := RX3) (cC := D.1 2) hx hb hown (hts (.classLink RX4 72 RX3) (by decide +kernel)) (hK.1.1 2 _ rfl).2 (cy_rv2 hK hI hkx kdkx) dX4_put_43 ?_
          refine lv_if_eq (tgt := 59) hx hb dX4_put_46 (by decide) (fun h7 => absurd h7 (by decide)) (fun h7 => ?_)
          refine lv_aload hx hb dX4_put_49 (lv_at hl 1 rfl) ?_
          refine va_castS (nm := RX3) (cC := D.1 2) hx hb hown (hts (.classLink RX4 72 RX3) (by decide +kernel)) (hK.1.1 2 _ rfl).2 (cy_rv2 hK hI hkx kdkx) dX4_put_51 ?_
          refine lv_astore (lv' := [(6, .ref (ad (100 + 2 * kx))), (5, .null), (4, .ref (ad (100 + 2 * kx))), (0, .ref (ad 0)), (1, .int (nI kx)), (2, .int i), (3, .int o)]) hx hb dX4_put_54 hl (by decide) rfl (fun ls hl => ?_)
          refine lv_goto (tgt := 66) hx hb dX4_put_56 (by decide) ?_
          refine lv_aloadN hx hb dX4_put_66 (lv_at hl 1 rfl) ?_
          refine lv_ifnullN (tgt := 91) hx hb dX4_put_68 (by decide) ?_
          refine lv_aload hx hb dX4_put_91 (lv_at hl 0 rfl) ?_
          refine lv_iload_n hx hb dX4_put_93 rfl (lv_at hl 5 rfl) ?_
          refine cy_callp (v := .int (cy_b (cy_pl (σ.1 2 kx) i))) (va_runV (As := [.int i]) (rest := []) ⟨hx, hb, hml, hown, hts⟩ (c_X3_hasPlace l D cI cJ cO z n (cy_i σ 0 2 0) τ pl hi ad hok kx hkx kdkx i) (cwV 1 hts gX4_put_X3_hasPlace rfl rfl rfl (by decide +kernel) ⟨Nat.le_of_ble_eq_true rfl, Nat.le_of_ble_eq_true rfl⟩) (cy_preV hK hI (cy_rv2 hK hI hkx kdkx)) rfl rfl hl.1 rfl (lv_room (Nat.le_of_ble_eq_true rfl)) dX4_put_94 ⟨Nat.le_of_ble_eq_true rfl, Nat.le_of_ble_eq_true rfl⟩) ?_
          cases b8 : (cy_pl (σ.1 2 kx) i)
          · refine lv_if_ne (tgt := 107) hx hb dX4_put_97 (by decide) (fun h9 => absurd (by decide) h9) (fun h9 => ?_)
            refine lv_aload_n hx hb dX4_put_100 rfl (lv_at hl 3 rfl) ?_
            refine lv_bipush (v := -5) hx hb dX4_put_101 (by decide) ?_
            refine cy_callm (va_runV (As := [.int (-5)]) (rest := []) ⟨hx, hb, hml, hown, hts⟩ (c_X4_refuse l D cI cJ cO z n (cy_i σ 0 2 0) τ pl hi ad (-5)) (cwV 1 hts gX4_put_X4_refuse rfl rfl rfl (by decide +kernel) ⟨Nat.le_of_ble_eq_true rfl, Nat.le_of_ble_eq_true rfl⟩) (cy_preV hK hI (cy_recv hK (hI.1 0 _ cy_CY).1 rfl)) rfl rfl hl.1 rfl (lv_room (Nat.le_of_ble_eq_true rfl)) dX4_put_103 ⟨Nat.le_of_ble_eq_true rfl, Nat.le_of_ble_eq_true rfl⟩) hS (fun u H locs hI hz hS => ?_)
            have hI : cy_W D z (cy_CT cI cJ cO n n (cy_no (cy_i σ 0 2 0) (-5)) τ pl hi ad) ad H := hI
            refine W.eq (g2 := F0 m 106 ls [.int (-5)]) rfl ?_
            have E : cy_oPut n σ (nI kx) i o = ((-5), cy_no (cy_i σ 0 2 0) (-5)) := by first | (simp [cy_oPut, cy_z, nI_clamp (show kx < 2 ^ 31 by omega), b1, b3, nukx, thkx, b8]; done) | (simp [cy_oPut, cy_z, nI_clamp (show kx < 2 ^ 31 by omega), b1, b3, nukx, thkx, b8]; simp [nekx, h4]; done) | (simp [cy_oPut, cy_z, nI_clamp (show kx < 2 ^ 31 by omega), b1, b3, nukx, thkx, b8, nekx, h4]; done)
            rw [E]
            exact W.iret (v := (-5)) hx hb hr (fun t ht hW => ⟨(), rfl, by rw [ht]; exact hI, hS.F ht⟩) hS.2.2 dX4_put_106
          · obtain ⟨ji, hji, rfl⟩ := (cy_pl_iff (p := pkx) (by omega) _).mp (by rw [← epkx]; exact b8)
            refine lv_if_ne (tgt := 107) hx hb dX4_put_97 (by decide) (fun h10 => ?_) (fun h10 => absurd h10 (by decide))
            refine lv_aloadN hx hb dX4_put_107 (lv_at hl 1 rfl) ?_
            refine lv_ifnullN (tgt := 132) hx hb dX4_put_109 (by decide) ?_
            refine lv_aload hx hb dX4_put_132 (lv_at hl 0 rfl) ?_
            refine cy_getTp hx hb hts hin3 hown hK hI hkx kdkx (hts (.fieldLink RX4 88 "CustomsYard$Things" "places" "[LCustomsYard$Load;") (by decide +kernel)) dX4_put_134 ?_
            refine lv_iload_n hx hb dX4_put_137 rfl (lv_at hl 5 rfl) ?_
            refine lv_aloadN hx hb dX4_put_138 (lv_at hl 1 rfl) ?_
            refine cy_stPN (j := ji) hx hb hK hI hS hkx kdkx hpkx epkx (by omega) dX4_put_140 (fun H locs hI hS => ?_)
            refine lv_iconst (v := 1) hx hb dX4_put_141 (by decide) ?_
            have E : cy_oPut n σ (nI kx) (nI ji) o = (1, cy_i (cy_i σ 0 2 0) 4 (6 * kx + ji) (-1)) := by first | (simp [cy_oPut, cy_z, nI_clamp (show kx < 2 ^ 31 by omega), nI_clamp (show ji < 2 ^ 31 by omega), b1, b3, nukx, thkx, b8]; done) | (simp [cy_oPut, cy_z, nI_clamp (show kx < 2 ^ 31 by omega), nI_clamp (show ji < 2 ^ 31 by omega), b1, b3, nukx, thkx, b8]; simp [nekx, h4]; done) | (simp [cy_oPut, cy_z, nI_clamp (show kx < 2 ^ 31 by omega), nI_clamp (show ji < 2 ^ 31 by omega), b1, b3, nukx, thkx, b8, nekx, h4]; done)
            rw [E]
            exact W.iret (v := 1) hx hb hr (fun t ht hW => ⟨(), rfl, by rw [ht]; exact hI, hS.F ht⟩) hS.2.2 dX4_put_142
      · refine lv_aload_n hx hb dX4_put_34 rfl (lv_at hl 2 rfl) ?_
        refine lv_bipush (v := -2) hx hb dX4_put_35 (by decide) ?_
        refine cy_callm (va_runV (As := [.int (-2)]) (rest := []) ⟨hx, hb, hml, hown, hts⟩ (c_X4_refuse l D cI cJ cO z n (cy_i σ 0 2 0) τ pl hi ad (-2)) (cwV 1 hts gX4_put_X4_refuse rfl rfl rfl (by decide +kernel) ⟨Nat.le_of_ble_eq_true rfl, Nat.le_of_ble_eq_true rfl⟩) (cy_preV hK hI (cy_recv hK (hI.1 0 _ cy_CY).1 rfl)) rfl rfl hl.1 rfl (lv_room (Nat.le_of_ble_eq_true rfl)) dX4_put_37 ⟨Nat.le_of_ble_eq_true rfl, Nat.le_of_ble_eq_true rfl⟩) hS (fun u H locs hI hz hS => ?_)
        have hI : cy_W D z (cy_CT cI cJ cO n n (cy_no (cy_i σ 0 2 0) (-2)) τ pl hi ad) ad H := hI
        refine W.eq (g2 := F0 m 40 ls [.int (-2)]) rfl ?_
        have E : cy_oPut n σ (nI kx) i o = ((-2), cy_no (cy_i σ 0 2 0) (-2)) := by first | (simp [cy_oPut, cy_z, nI_clamp (show kx < 2 ^ 31 by omega), b1, b3]; done) | (simp [cy_oPut, cy_z, nI_clamp (show kx < 2 ^ 31 by omega), b1, b3]; simp [nekx, h4]; done) | (simp [cy_oPut, cy_z, nI_clamp (show kx < 2 ^ 31 by omega), b1, b3, nekx, h4]; done)
        rw [E]
        exact W.iret (v := (-2)) hx hb hr (fun t ht hW => ⟨(), rfl, by rw [ht]; exact hI, hS.F ht⟩) hS.2.2 dX4_put_40
    · obtain ⟨ko, hko, rfl⟩ := (cy_ld_iff hn _).mp b3
      have neko := cy_ne1 (show ko < 2 ^ 31 by omega)
      refine cy_topq (cy_fd_t hn b3 hko) ?_
      refine lv_astore (lv' := [(5, .ref (ad (100 + 2 * ko))), (4, .ref (ad (100 + 2 * kx))), (0, .ref (ad 0)), (1, .int (nI kx)), (2, .int i), (3, .int (nI ko))]) hx hb dX4_put_17 hl (by decide) rfl (fun ls hl => ?_)
      refine lv_aload hx hb dX4_put_19 (lv_at hl 1 rfl) ?_
      refine lv_ifnull hx hb dX4_put_21 ?_
      refine lv_aload hx hb dX4_put_24 (lv_at hl 0 rfl) ?_
      refine lv_ifnonnull (tgt := 41) hx hb dX4_put_26 (by decide) ?_
      refine lv_aload hx hb dX4_put_41 (lv_at hl 1 rfl) ?_
      obtain ⟨pkx, hpkx, epkx⟩ := (hok.2.2.1 kx hkx).2.1
      rcases cy_kd3 hok hkx with ⟨kdkx, nukx, sgkx, thkx⟩ | ⟨kdkx, nukx, sgkx, thkx⟩ | ⟨kdkx, nukx, sgkx, thkx⟩
      · refine va_instNo (C := RX1) (nm := RX3) hx hb hown (hts (.classLink RX4 72 RX3) (by decide +kernel)) hK.2.2.2.1 (cy_rv0 hK hI hkx kdkx) dX4_put_43 ?_
        refine lv_if_eq (tgt := 59) hx hb dX4_put_46 (by decide) (fun h11 => ?_) (fun h11 => absurd (by decide) h11)
        refine lv_aload_n hx hb dX4_put_59 rfl (lv_at hl 2 rfl) ?_
        refine lv_bipush (v := -4) hx hb dX4_put_60 (by decide) ?_
        refine cy_callm (va_runV (As := [.int (-4)]) (rest := []) ⟨hx, hb, hml, hown, hts⟩ (c_X4_refuse l D cI cJ cO z n (cy_i σ 0 2 0) τ pl hi ad (-4)) (cwV 1 hts gX4_put_X4_refuse rfl rfl rfl (by decide +kernel) ⟨Nat.le_of_ble_eq_true rfl, Nat.le_of_ble_eq_true rfl⟩) (cy_preV hK hI (cy_recv hK (hI.1 0 _ cy_CY).1 rfl)) rfl rfl hl.1 rfl (lv_room (Nat.le_of_ble_eq_true rfl)) dX4_put_62 ⟨Nat.le_of_ble_eq_true rfl, Nat.le_of_ble_eq_true rfl⟩) hS (fun u H locs hI hz hS => ?_)
        have hI : cy_W D z (cy_CT cI cJ cO n n (cy_no (cy_i σ 0 2 0) (-4)) τ pl hi ad) ad H := hI
        refine W.eq (g2 := F0 m 65 ls [.int (-4)]) rfl ?_
        have E : cy_oPut n σ (nI kx) i (nI ko) = ((-4), cy_no (cy_i σ 0 2 0) (-4)) := by first | (simp [cy_oPut, cy_z, nI_clamp (show kx < 2 ^ 31 by omega), nI_clamp (show ko < 2 ^ 31 by omega), b1, b3, nukx, thkx]; done) | (simp [cy_oPut, cy_z, nI_clamp (show kx < 2 ^ 31 by omega), nI_clamp (show ko < 2 ^ 31 by omega), b1, b3, nukx, thkx]; simp [nekx, neko]; done) | (simp [cy_oPut, cy_z, nI_clamp (show kx < 2 ^ 31 by omega), nI_clamp (show ko < 2 ^ 31 by omega), b1, b3, nukx, thkx, nekx, neko]; done)
        rw [E]
        exact W.iret (v := (-4)) hx hb hr (fun t ht hW => ⟨(), rfl, by rw [ht]; exact hI, hS.F ht⟩) hS.2.2 dX4_put_65
      · refine va_instNo (C := RX2) (nm := RX3) hx hb hown (hts (.classLink RX4 72 RX3) (by decide +kernel)) hK.2.2.2.2.1 (cy_rv1 hK hI hkx kdkx) dX4_put_43 ?_
        refine lv_if_eq (tgt := 59) hx hb dX4_put_46 (by decide) (fun h12 => ?_) (fun h12 => absurd (by decide) h12)
        refine lv_aload_n hx hb dX4_put_59 rfl (lv_at hl 2 rfl) ?_
        refine lv_bipush (v := -4) hx hb dX4_put_60 (by decide) ?_
        refine cy_callm (va_runV (As := [.int (-4)]) (rest := []) ⟨hx, hb, hml, hown, hts⟩ (c_X4_refuse l D cI cJ cO z n (cy_i σ 0 2 0) τ pl hi ad (-4)) (cwV 1 hts gX4_put_X4_refuse rfl rfl rfl (by decide +kernel) ⟨Nat.le_of_ble_eq_true rfl, Nat.le_of_ble_eq_true rfl⟩) (cy_preV hK hI (cy_recv hK (hI.1 0 _ cy_CY).1 rfl)) rfl rfl hl.1 rfl (lv_room (Nat.le_of_ble_eq_true rfl)) dX4_put_62 ⟨Nat.le_of_ble_eq_true rfl, Nat.le_of_ble_eq_true rfl⟩) hS (fun u H locs hI hz hS => ?_)
        have hI : cy_W D z (cy_CT cI cJ cO n n (cy_no (cy_i σ 0 2 0) (-4)) τ pl hi ad) ad H := hI
        refine W.eq (g2 := F0 m 65 ls [.int (-4)]) rfl ?_
        have E : cy_oPut n σ (nI kx) i (nI ko) = ((-4), cy_no (cy_i σ 0 2 0) (-4)) := by first | (simp [cy_oPut, cy_z, nI_clamp (show kx < 2 ^ 31 by omega), nI_clamp (show ko < 2 ^ 31 by omega), b1, b3, nukx, thkx]; done) | (simp [cy_oPut, cy_z, nI_clamp (show kx < 2 ^ 31 by omega), nI_clamp (show ko < 2 ^ 31 by omega), b1, b3, nukx, thkx]; simp [nekx, neko]; done) | (simp [cy_oPut, cy_z, nI_clamp (show kx < 2 ^ 31 by omega), nI_clamp (show ko < 2 ^ 31 by omega), b1, b3, nukx, thkx, nekx, neko]; done)
        rw [E]
        exact W.iret (v := (-4)) hx hb hr (fun t ht hW => ⟨(), rfl, by rw [ht]; exact hI, hS.F ht⟩) hS.2.2 dX4_put_65
      · refine va_instS (nm := RX3) (cC := D.1 2) hx hb hown (hts (.classLink RX4 72 RX3) (by decide +kernel)) (hK.1.1 2 _ rfl).2 (cy_rv2 hK hI hkx kdkx) dX4_put_43 ?_
        refine lv_if_eq (tgt := 59) hx hb dX4_put_46 (by decide) (fun h13 => absurd h13 (by decide)) (fun h13 => ?_)
        refine lv_aload hx hb dX4_put_49 (lv_at hl 1 rfl) ?_
        refine va_castS (nm := RX3) (cC := D.1 2) hx hb hown (hts (.classLink RX4 72 RX3) (by decide +kernel)) (hK.1.1 2 _ rfl).2 (cy_rv2 hK hI hkx kdkx) dX4_put_51 ?_
        refine lv_astore (lv' := [(6, .ref (ad (100 + 2 * kx))), (5, .ref (ad (100 + 2 * ko))), (4, .ref (ad (100 + 2 * kx))), (0, .ref (ad 0)), (1, .int (nI kx)), (2, .int i), (3, .int (nI ko))]) hx hb dX4_put_54 hl (by decide) rfl (fun ls hl => ?_)
        refine lv_goto (tgt := 66) hx hb dX4_put_56 (by decide) ?_
        refine lv_aload hx hb dX4_put_66 (lv_at hl 1 rfl) ?_
        refine lv_ifnull hx hb dX4_put_68 ?_
        refine lv_aload hx hb dX4_put_71 (lv_at hl 1 rfl) ?_
        refine lv_aload hx hb dX4_put_73 (lv_at hl 0 rfl) ?_
        refine cy_callp (v := .int (cy_va (σ.1 1 kx))) (va_runV (As := []) (rest := [.ref (ad (100 + 2 * ko))]) ⟨hx, hb, hml, hown, hts⟩ (c_X3_viewAsked l D cI cJ cO z n (cy_i σ 0 2 0) τ pl hi ad hok kx hkx kdkx ) (cwV 0 hts gX4_put_X3_viewAsked rfl rfl rfl (by decide +kernel) ⟨Nat.le_of_ble_eq_true rfl, Nat.le_of_ble_eq_true rfl⟩) (cy_preV hK hI (cy_rv2 hK hI hkx kdkx)) rfl rfl hl.1 rfl (lv_room (Nat.le_of_ble_eq_true rfl)) dX4_put_75 ⟨Nat.le_of_ble_eq_true rfl, Nat.le_of_ble_eq_true rfl⟩) ?_
        refine cy_topi (y := cy_wa (σ.1 1 kx)) ((cy_va_eq hok hkx thkx).1) ?_
        refine cy_callp (v := .int (cy_b (cy_go (σ.1 1 ko) (cy_wa (σ.1 1 kx))))) (rest := []) (a := (.ref (ad (100 + 2 * ko)) :: [.int (cy_wa (σ.1 1 kx))] : List Value).toArray) (by 
            rcases cy_kd3 hok hko with hq | hq | hq
            · exact va_runU (As := [.int (cy_wa (σ.1 1 kx))]) (rest := []) ⟨hx, hb, hml, hown, hts⟩ (c_X0_goesAs l D cI cJ cO z n (cy_i σ 0 2 0) τ pl hi ad hok ko hko (cy_wa (σ.1 1 kx))) (va_cwU 1 hts gX4_put_X0_goesAs_u78X1 rfl rfl rfl rfl (by decide +kernel) ⟨Nat.le_of_ble_eq_true rfl, Nat.le_of_ble_eq_true rfl⟩) (cy_preV hK hI (cy_rv0 hK hI hko hq.1)) rfl rfl hl.1 rfl (lv_room (Nat.le_of_ble_eq_true rfl)) dX4_put_78 ⟨Nat.le_of_ble_eq_true rfl, Nat.le_of_ble_eq_true rfl⟩
            · exact va_runU (As := [.int (cy_wa (σ.1 1 kx))]) (rest := []) ⟨hx, hb, hml, hown, hts⟩ (c_X0_goesAs l D cI cJ cO z n (cy_i σ 0 2 0) τ pl hi ad hok ko hko (cy_wa (σ.1 1 kx))) (va_cwU 1 hts gX4_put_X0_goesAs_u78X2 rfl rfl rfl rfl (by decide +kernel) ⟨Nat.le_of_ble_eq_true rfl, Nat.le_of_ble_eq_true rfl⟩) (cy_preV hK hI (cy_rv1 hK hI hko hq.1)) rfl rfl hl.1 rfl (lv_room (Nat.le_of_ble_eq_true rfl)) dX4_put_78 ⟨Nat.le_of_ble_eq_true rfl, Nat.le_of_ble_eq_true rfl⟩
            · exact va_runU (As := [.int (cy_wa (σ.1 1 kx))]) (rest := []) ⟨hx, hb, hml, hown, hts⟩ (c_X0_goesAs l D cI cJ cO z n (cy_i σ 0 2 0) τ pl hi ad hok ko hko (cy_wa (σ.1 1 kx))) (va_cwU 1 hts gX4_put_X0_goesAs_u78X3 rfl rfl rfl rfl (by decide +kernel) ⟨Nat.le_of_ble_eq_true rfl, Nat.le_of_ble_eq_true rfl⟩) (cy_preV hK hI (cy_rv2 hK hI hko hq.1)) rfl rfl hl.1 rfl (lv_room (Nat.le_of_ble_eq_true rfl)) dX4_put_78 ⟨Nat.le_of_ble_eq_true rfl, Nat.le_of_ble_eq_true rfl⟩) ?_
        cases b14 : (cy_go (σ.1 1 ko) (cy_wa (σ.1 1 kx)))
        · refine lv_if_ne (tgt := 91) hx hb dX4_put_81 (by decide) (fun h15 => absurd (by decide) h15) (fun h15 => ?_)
          refine lv_aload_n hx hb dX4_put_84 rfl (lv_at hl 3 rfl) ?_
          refine lv_bipush (v := -4) hx hb dX4_put_85 (by decide) ?_
          refine cy_callm (va_runV (As := [.int (-4)]) (rest := []) ⟨hx, hb, hml, hown, hts⟩ (c_X4_refuse l D cI cJ cO z n (cy_i σ 0 2 0) τ pl hi ad (-4)) (cwV 1 hts gX4_put_X4_refuse rfl rfl rfl (by decide +kernel) ⟨Nat.le_of_ble_eq_true rfl, Nat.le_of_ble_eq_true rfl⟩) (cy_preV hK hI (cy_recv hK (hI.1 0 _ cy_CY).1 rfl)) rfl rfl hl.1 rfl (lv_room (Nat.le_of_ble_eq_true rfl)) dX4_put_87 ⟨Nat.le_of_ble_eq_true rfl, Nat.le_of_ble_eq_true rfl⟩) hS (fun u H locs hI hz hS => ?_)
          have hI : cy_W D z (cy_CT cI cJ cO n n (cy_no (cy_i σ 0 2 0) (-4)) τ pl hi ad) ad H := hI
          refine W.eq (g2 := F0 m 90 ls [.int (-4)]) rfl ?_
          have E : cy_oPut n σ (nI kx) i (nI ko) = ((-4), cy_no (cy_i σ 0 2 0) (-4)) := by first | (simp [cy_oPut, cy_z, nI_clamp (show kx < 2 ^ 31 by omega), nI_clamp (show ko < 2 ^ 31 by omega), b1, b3, nukx, thkx, b14]; done) | (simp [cy_oPut, cy_z, nI_clamp (show kx < 2 ^ 31 by omega), nI_clamp (show ko < 2 ^ 31 by omega), b1, b3, nukx, thkx, b14]; simp [nekx, neko]; done) | (simp [cy_oPut, cy_z, nI_clamp (show kx < 2 ^ 31 by omega), nI_clamp (show ko < 2 ^ 31 by omega), b1, b3, nukx, thkx, b14, nekx, neko]; done)
          rw [E]
          exact W.iret (v := (-4)) hx hb hr (fun t ht hW => ⟨(), rfl, by rw [ht]; exact hI, hS.F ht⟩) hS.2.2 dX4_put_90
        · refine lv_if_ne (tgt := 91) hx hb dX4_put_81 (by decide) (fun h16 => ?_) (fun h16 => absurd h16 (by decide))
          refine lv_aload hx hb dX4_put_91 (lv_at hl 0 rfl) ?_
          refine lv_iload_n hx hb dX4_put_93 rfl (lv_at hl 5 rfl) ?_
          refine cy_callp (v := .int (cy_b (cy_pl (σ.1 2 kx) i))) (va_runV (As := [.int i]) (rest := []) ⟨hx, hb, hml, hown, hts⟩ (c_X3_hasPlace l D cI cJ cO z n (cy_i σ 0 2 0) τ pl hi ad hok kx hkx kdkx i) (cwV 1 hts gX4_put_X3_hasPlace rfl rfl rfl (by decide +kernel) ⟨Nat.le_of_ble_eq_true rfl, Nat.le_of_ble_eq_true rfl⟩) (cy_preV hK hI (cy_rv2 hK hI hkx kdkx)) rfl rfl hl.1 rfl (lv_room (Nat.le_of_ble_eq_true rfl)) dX4_put_94 ⟨Nat.le_of_ble_eq_true rfl, Nat.le_of_ble_eq_true rfl⟩) ?_
          cases b17 : (cy_pl (σ.1 2 kx) i)
          · refine lv_if_ne (tgt := 107) hx hb dX4_put_97 (by decide) (fun h18 => absurd (by decide) h18) (fun h18 => ?_)
            refine lv_aload_n hx hb dX4_put_100 rfl (lv_at hl 3 rfl) ?_
            refine lv_bipush (v := -5) hx hb dX4_put_101 (by decide) ?_
            refine cy_callm (va_runV (As := [.int (-5)]) (rest := []) ⟨hx, hb, hml, hown, hts⟩ (c_X4_refuse l D cI cJ cO z n (cy_i σ 0 2 0) τ pl hi ad (-5)) (cwV 1 hts gX4_put_X4_refuse rfl rfl rfl (by decide +kernel) ⟨Nat.le_of_ble_eq_true rfl, Nat.le_of_ble_eq_true rfl⟩) (cy_preV hK hI (cy_recv hK (hI.1 0 _ cy_CY).1 rfl)) rfl rfl hl.1 rfl (lv_room (Nat.le_of_ble_eq_true rfl)) dX4_put_103 ⟨Nat.le_of_ble_eq_true rfl, Nat.le_of_ble_eq_true rfl⟩) hS (fun u H locs hI hz hS => ?_)
            have hI : cy_W D z (cy_CT cI cJ cO n n (cy_no (cy_i σ 0 2 0) (-5)) τ pl hi ad) ad H := hI
            refine W.eq (g2 := F0 m 106 ls [.int (-5)]) rfl ?_
            have E : cy_oPut n σ (nI kx) i (nI ko) = ((-5), cy_no (cy_i σ 0 2 0) (-5)) := by first | (simp [cy_oPut, cy_z, nI_clamp (show kx < 2 ^ 31 by omega), nI_clamp (show ko < 2 ^ 31 by omega), b1, b3, nukx, thkx, b14, b17]; done) | (simp [cy_oPut, cy_z, nI_clamp (show kx < 2 ^ 31 by omega), nI_clamp (show ko < 2 ^ 31 by omega), b1, b3, nukx, thkx, b14, b17]; simp [nekx, neko]; done) | (simp [cy_oPut, cy_z, nI_clamp (show kx < 2 ^ 31 by omega), nI_clamp (show ko < 2 ^ 31 by omega), b1, b3, nukx, thkx, b14, b17, nekx, neko]; done)
            rw [E]
            exact W.iret (v := (-5)) hx hb hr (fun t ht hW => ⟨(), rfl, by rw [ht]; exact hI, hS.F ht⟩) hS.2.2 dX4_put_106
          · obtain ⟨ji, hji, rfl⟩ := (cy_pl_iff (p := pkx) (by omega) _).mp (by rw [← epkx]; exact b17)
            refine lv_if_ne (tgt := 107) hx hb dX4_put_97 (by decide) (fun h19 => ?_) (fun h19 => absurd h19 (by decide))
            refine lv_aload hx hb dX4_put_107 (lv_at hl 1 rfl) ?_
            refine lv_ifnull hx hb dX4_put_109 ?_
            refine lv_aload hx hb dX4_put_112 (lv_at hl 1 rfl) ?_
            refine lv_aload hx hb dX4_put_114 (lv_at hl 0 rfl) ?_
            refine cy_callp (v := .int (cy_vk (σ.1 1 kx))) (va_runV (As := []) (rest := [.ref (ad (100 + 2 * ko))]) ⟨hx, hb, hml, hown, hts⟩ (c_X3_viewKept l D cI cJ cO z n (cy_i σ 0 2 0) τ pl hi ad hok kx hkx kdkx ) (cwV 0 hts gX4_put_X3_viewKept rfl rfl rfl (by decide +kernel) ⟨Nat.le_of_ble_eq_true rfl, Nat.le_of_ble_eq_true rfl⟩) (cy_preV hK hI (cy_rv2 hK hI hkx kdkx)) rfl rfl hl.1 rfl (lv_room (Nat.le_of_ble_eq_true rfl)) dX4_put_116 ⟨Nat.le_of_ble_eq_true rfl, Nat.le_of_ble_eq_true rfl⟩) ?_
            refine cy_topi (y := cy_ha (σ.1 1 kx)) ((cy_va_eq hok hkx thkx).2) ?_
            refine cy_callp (v := .int (cy_b (cy_go (σ.1 1 ko) (cy_ha (σ.1 1 kx))))) (rest := []) (a := (.ref (ad (100 + 2 * ko)) :: [.int (cy_ha (σ.1 1 kx))] : List Value).toArray) (by 
                rcases cy_kd3 hok hko with hq | hq | hq
                · exact va_runU (As := [.int (cy_ha (σ.1 1 kx))]) (rest := []) ⟨hx, hb, hml, hown, hts⟩ (c_X0_goesAs l D cI cJ cO z n (cy_i σ 0 2 0) τ pl hi ad hok ko hko (cy_ha (σ.1 1 kx))) (va_cwU 1 hts gX4_put_X0_goesAs_u78X1 rfl rfl rfl rfl (by decide +kernel) ⟨Nat.le_of_ble_eq_true rfl, Nat.le_of_ble_eq_true rfl⟩) (cy_preV hK hI (cy_rv0 hK hI hko hq.1)) rfl rfl hl.1 rfl (lv_room (Nat.le_of_ble_eq_true rfl)) dX4_put_119 ⟨Nat.le_of_ble_eq_true rfl, Nat.le_of_ble_eq_true rfl⟩
                · exact va_runU (As := [.int (cy_ha (σ.1 1 kx))]) (rest := []) ⟨hx, hb, hml, hown, hts⟩ (c_X0_goesAs l D cI cJ cO z n (cy_i σ 0 2 0) τ pl hi ad hok ko hko (cy_ha (σ.1 1 kx))) (va_cwU 1 hts gX4_put_X0_goesAs_u78X2 rfl rfl rfl rfl (by decide +kernel) ⟨Nat.le_of_ble_eq_true rfl, Nat.le_of_ble_eq_true rfl⟩) (cy_preV hK hI (cy_rv1 hK hI hko hq.1)) rfl rfl hl.1 rfl (lv_room (Nat.le_of_ble_eq_true rfl)) dX4_put_119 ⟨Nat.le_of_ble_eq_true rfl, Nat.le_of_ble_eq_true rfl⟩
                · exact va_runU (As := [.int (cy_ha (σ.1 1 kx))]) (rest := []) ⟨hx, hb, hml, hown, hts⟩ (c_X0_goesAs l D cI cJ cO z n (cy_i σ 0 2 0) τ pl hi ad hok ko hko (cy_ha (σ.1 1 kx))) (va_cwU 1 hts gX4_put_X0_goesAs_u78X3 rfl rfl rfl rfl (by decide +kernel) ⟨Nat.le_of_ble_eq_true rfl, Nat.le_of_ble_eq_true rfl⟩) (cy_preV hK hI (cy_rv2 hK hI hko hq.1)) rfl rfl hl.1 rfl (lv_room (Nat.le_of_ble_eq_true rfl)) dX4_put_119 ⟨Nat.le_of_ble_eq_true rfl, Nat.le_of_ble_eq_true rfl⟩) ?_
            cases b20 : (cy_go (σ.1 1 ko) (cy_ha (σ.1 1 kx)))
            · refine lv_if_ne (tgt := 132) hx hb dX4_put_122 (by decide) (fun h21 => absurd (by decide) h21) (fun h21 => ?_)
              refine lv_aload_n hx hb dX4_put_125 rfl (lv_at hl 3 rfl) ?_
              refine lv_bipush (v := -6) hx hb dX4_put_126 (by decide) ?_
              refine cy_callm (va_runV (As := [.int (-6)]) (rest := []) ⟨hx, hb, hml, hown, hts⟩ (c_X4_refuse l D cI cJ cO z n (cy_i σ 0 2 0) τ pl hi ad (-6)) (cwV 1 hts gX4_put_X4_refuse rfl rfl rfl (by decide +kernel) ⟨Nat.le_of_ble_eq_true rfl, Nat.le_of_ble_eq_true rfl⟩) (cy_preV hK hI (cy_recv hK (hI.1 0 _ cy_CY).1 rfl)) rfl rfl hl.1 rfl (lv_room (Nat.le_of_ble_eq_true rfl)) dX4_put_128 ⟨Nat.le_of_ble_eq_true rfl, Nat.le_of_ble_eq_true rfl⟩) hS (fun u H locs hI hz hS => ?_)
              have hI : cy_W D z (cy_CT cI cJ cO n n (cy_no (cy_i σ 0 2 0) (-6)) τ pl hi ad) ad H := hI
              refine W.eq (g2 := F0 m 131 ls [.int (-6)]) rfl ?_
              have E : cy_oPut n σ (nI kx) (nI ji) (nI ko) = ((-6), cy_no (cy_i σ 0 2 0) (-6)) := by first | (simp [cy_oPut, cy_z, nI_clamp (show kx < 2 ^ 31 by omega), nI_clamp (show ko < 2 ^ 31 by omega), nI_clamp (show ji < 2 ^ 31 by omega), b1, b3, nukx, thkx, b14, b17, b20]; done) | (simp [cy_oPut, cy_z, nI_clamp (show kx < 2 ^ 31 by omega), nI_clamp (show ko < 2 ^ 31 by omega), nI_clamp (show ji < 2 ^ 31 by omega), b1, b3, nukx, thkx, b14, b17, b20]; simp [nekx, neko]; done) | (simp [cy_oPut, cy_z, nI_clamp (show kx < 2 ^ 31 by omega), nI_clamp (show ko < 2 ^ 31 by omega), nI_clamp (show ji < 2 ^ 31 by omega), b1, b3, nukx, thkx, b14, b17, b20, nekx, neko]; done)
              rw [E]
              exact W.iret (v := (-6)) hx hb hr (fun t ht hW => ⟨(), rfl, by rw [ht]; exact hI, hS.F ht⟩) hS.2.2 dX4_put_131
            · refine lv_if_ne (tgt := 132) hx hb dX4_put_122 (by decide) (fun h22 => ?_) (fun h22 => absurd h22 (by decide))
              refine lv_aload hx hb dX4_put_132 (lv_at hl 0 rfl) ?_
              refine cy_getTp hx hb hts hin3 hown hK hI hkx kdkx (hts (.fieldLink RX4 88 "CustomsYard$Things" "places" "[LCustomsYard$Load;") (by decide +kernel)) dX4_put_134 ?_
              refine lv_iload_n hx hb dX4_put_137 rfl (lv_at hl 5 rfl) ?_
              refine lv_aload hx hb dX4_put_138 (lv_at hl 1 rfl) ?_
              refine cy_stP (j := ji) (t := ko) hx hb hK hI hS hkx kdkx hpkx epkx (by omega) hko hn dX4_put_140 (fun H locs hI hS => ?_)
              refine lv_iconst (v := 1) hx hb dX4_put_141 (by decide) ?_
              have E : cy_oPut n σ (nI kx) (nI ji) (nI ko) = (1, cy_i (cy_i σ 0 2 0) 4 (6 * kx + ji) (nI ko)) := by first | (simp [cy_oPut, cy_z, nI_clamp (show kx < 2 ^ 31 by omega), nI_clamp (show ko < 2 ^ 31 by omega), nI_clamp (show ji < 2 ^ 31 by omega), b1, b3, nukx, thkx, b14, b17, b20]; done) | (simp [cy_oPut, cy_z, nI_clamp (show kx < 2 ^ 31 by omega), nI_clamp (show ko < 2 ^ 31 by omega), nI_clamp (show ji < 2 ^ 31 by omega), b1, b3, nukx, thkx, b14, b17, b20]; simp [nekx, neko]; done) | (simp [cy_oPut, cy_z, nI_clamp (show kx < 2 ^ 31 by omega), nI_clamp (show ko < 2 ^ 31 by omega), nI_clamp (show ji < 2 ^ 31 by omega), b1, b3, nukx, thkx, b14, b17, b20, nekx, neko]; done)
              rw [E]
              exact W.iret (v := 1) hx hb hr (fun t ht hW => ⟨(), rfl, by rw [ht]; exact hI, hS.F ht⟩) hS.2.2 dX4_put_142

set_option maxHeartbeats 4000000 in
set_option maxRecDepth 100000 in
theorem c_X4_at (l : Launch) (D : va_G) (cI cJ cO : ClassId) (z n : Nat) (σ τ : cy_S) (pl : Nat → Int32) (hi : Int32) (ad : Nat → Nat) (hok : cy_ok n σ) (x i : Int32)  : Met l yX4_at wsX4_at { frames := 1, cells := 0, slots := 0, locals := 21 } (cy_P D cI cJ cO (fun H => cy_W D z (cy_CT cI cJ cO n n σ τ pl hi ad) ad H) [.ref (ad 0), .int x, .int i]) (cy_M (S := Unit) z (fun _ => some (.int (cy_oAt n σ x i).1)) (fun _ H => cy_W D z (cy_CT cI cJ cO n n (cy_oAt n σ x i).2 τ pl hi ad) ad H)) 0 0 (fun q => z ≤ q) := by
  refine Met.ofW (cc := cX4_at) (maxL := 5) (ret := (some .int)) (by decide) rfl ?_
  intro p e s m args below meth c s₁ B hml hv
  obtain ⟨rfl, hK, hI⟩ := hv
  have hx := B.exec
  have hb := B.bytes
  have hr := B.returns
  have hts := atoms_spec (ws := wsX4_at) B.pre
  have hown : s.vm.findClass RX4 = some m.cls := findClass_of_methodNamed B.named
  have hlocks := B.notSynchronized
  have hS : va_S (fun q => z ≤ q) s.heap s.heap [] := va_S.rf
  have hl := lv_entry ([.ref (ad 0), .int x, .int i]) (n := 5) (Nat.le_of_ble_eq_true rfl)
  rw [lg_entry_eq]
  generalize (lg_sl ([.ref (ad 0), .int x, .int i]) ++ List.replicate (5 - (lg_sl ([.ref (ad 0), .int x, .int i])).length) Slot.unset).toArray = ls at hl ⊢
  have hl : lv_has ls 5 [(0, .ref (ad 0)), (1, .int x), (2, .int i)] := hl
  have hin1 := hin1_X4_at
  have hin2 := hin2_X4_at
  have hin3 := hin3_X4_at
  have hin4 := hin4_X4_at
  have h0 := hok.2.1
  have hn := hok.1
  refine lv_aload_n hx hb dX4_at_0 rfl (lv_at hl 0 rfl) ?_
  refine lv_iconst (v := 0) hx hb dX4_at_1 (by decide) ?_
  refine cy_putY (v := 0) hx hb hts hin4 hown hK hI hS 8 2 (by decide) (hts (.fieldLink RX4 38 "CustomsYard" "refusal" "I") (by decide +kernel)) rfl (by decide +kernel) rfl dX4_at_2 (fun H locs hI hS => ?_)
  refine lv_aload_n hx hb dX4_at_5 rfl (lv_at hl 0 rfl) ?_
  refine lv_iload_n hx hb dX4_at_6 rfl (lv_at hl 1 rfl) ?_
  refine cy_callp (v := va_rf (cy_fd n ad x)) (va_runV (As := [.int x]) (rest := []) ⟨hx, hb, hml, hown, hts⟩ (c_X4_find l D cI cJ cO z n (cy_i σ 0 2 0) τ pl hi ad hok x) (cwV 1 hts gX4_at_X4_find rfl rfl rfl (by decide +kernel) ⟨Nat.le_of_ble_eq_true rfl, Nat.le_of_ble_eq_true rfl⟩) (cy_preV hK hI (cy_recv hK (hI.1 0 _ cy_CY).1 rfl)) rfl rfl hl.1 rfl (lv_room (Nat.le_of_ble_eq_true rfl)) dX4_at_7 ⟨Nat.le_of_ble_eq_true rfl, Nat.le_of_ble_eq_true rfl⟩) ?_
  cases b1 : cy_ld n x
  · refine cy_topq (cy_fd_f b1) ?_
    refine lv_astore_nN (lv' := [(3, .null), (0, .ref (ad 0)), (1, .int x), (2, .int i)]) hx hb dX4_at_10 rfl hl (by decide) rfl (fun ls hl => ?_)
    refine lv_aload_nN hx hb dX4_at_11 rfl (lv_at hl 0 rfl) ?_
    refine lv_ifnonnullN hx hb dX4_at_12 ?_
    refine lv_aload_n hx hb dX4_at_15 rfl (lv_at hl 1 rfl) ?_
    refine lv_bipush (v := -2) hx hb dX4_at_16 (by decide) ?_
    refine cy_callm (va_runV (As := [.int (-2)]) (rest := []) ⟨hx, hb, hml, hown, hts⟩ (c_X4_refuse l D cI cJ cO z n (cy_i σ 0 2 0) τ pl hi ad (-2)) (cwV 1 hts gX4_at_X4_refuse rfl rfl rfl (by decide +kernel) ⟨Nat.le_of_ble_eq_true rfl, Nat.le_of_ble_eq_true rfl⟩) (cy_preV hK hI (cy_recv hK (hI.1 0 _ cy_CY).1 rfl)) rfl rfl hl.1 rfl (lv_room (Nat.le_of_ble_eq_true rfl)) dX4_at_18 ⟨Nat.le_of_ble_eq_true rfl, Nat.le_of_ble_eq_true rfl⟩) hS (fun u H locs hI hz hS => ?_)
    have hI : cy_W D z (cy_CT cI cJ cO n n (cy_no (cy_i σ 0 2 0) (-2)) τ pl hi ad) ad H := hI
    refine W.eq (g2 := F0 m 21 ls [.int (-2)]) rfl ?_
    have E : cy_oAt n σ x i = ((-2), cy_no (cy_i σ 0 2 0) (-2)) := by simp [cy_oAt, cy_z, b1]
    rw [E]
    exact W.iret (v := (-2)) hx hb hr (fun t ht hW => ⟨(), rfl, by rw [ht]; exact hI, hS.F ht⟩) hS.2.2 dX4_at_21
  · obtain ⟨kx, hkx, rfl⟩ := (cy_ld_iff hn _).mp b1
    have nekx := cy_ne1 (show kx < 2 ^ 31 by omega)
    refine cy_topq (cy_fd_t hn b1 hkx) ?_
    refine lv_astore_n (lv' := [(3, .ref (ad (100 + 2 * kx))), (0, .ref (ad 0)), (1, .int (nI kx)), (2, .int i)]) hx hb dX4_at_10 rfl hl (by decide) rfl (fun ls hl => ?_)
    refine lv_aload_n hx hb dX4_at_11 rfl (lv_at hl 0 rfl) ?_
    refine lv_ifnonnull (tgt := 22) hx hb dX4_at_12 (by decide) ?_
    refine lv_aload_n hx hb dX4_at_22 rfl (lv_at hl 0 rfl) ?_
    obtain ⟨pkx, hpkx, epkx⟩ := (hok.2.2.1 kx hkx).2.1
    rcases cy_kd3 hok hkx with ⟨kdkx, nukx, sgkx, thkx⟩ | ⟨kdkx, nukx, sgkx, thkx⟩ | ⟨kdkx, nukx, sgkx, thkx⟩
    · refine va_instNo (C := RX1) (nm := RX3) hx hb hown (hts (.classLink RX4 72 RX3) (by decide +kernel)) hK.2.2.2.1 (cy_rv0 hK hI hkx kdkx) dX4_at_23 ?_
      refine lv_if_eq (tgt := 38) hx hb dX4_at_26 (by decide) (fun h2 => ?_) (fun h2 => absurd (by decide) h2)
      refine lv_aload_n hx hb dX4_at_38 rfl (lv_at hl 1 rfl) ?_
      refine lv_bipush (v := -4) hx hb dX4_at_39 (by decide) ?_
      refine cy_callm (va_runV (As := [.int (-4)]) (rest := []) ⟨hx, hb, hml, hown, hts⟩ (c_X4_refuse l D cI cJ cO z n (cy_i σ 0 2 0) τ pl hi ad (-4)) (cwV 1 hts gX4_at_X4_refuse rfl rfl rfl (by decide +kernel) ⟨Nat.le_of_ble_eq_true rfl, Nat.le_of_ble_eq_true rfl⟩) (cy_preV hK hI (cy_recv hK (hI.1 0 _ cy_CY).1 rfl)) rfl rfl hl.1 rfl (lv_room (Nat.le_of_ble_eq_true rfl)) dX4_at_41 ⟨Nat.le_of_ble_eq_true rfl, Nat.le_of_ble_eq_true rfl⟩) hS (fun u H locs hI hz hS => ?_)
      have hI : cy_W D z (cy_CT cI cJ cO n n (cy_no (cy_i σ 0 2 0) (-4)) τ pl hi ad) ad H := hI
      refine W.eq (g2 := F0 m 44 ls [.int (-4)]) rfl ?_
      have E : cy_oAt n σ (nI kx) i = ((-4), cy_no (cy_i σ 0 2 0) (-4)) := by first | (simp [cy_oAt, cy_z, nI_clamp (show kx < 2 ^ 31 by omega), b1, nukx, thkx]; done) | (simp [cy_oAt, cy_z, nI_clamp (show kx < 2 ^ 31 by omega), b1, nukx, thkx]; simp [nekx]; done) | (simp [cy_oAt, cy_z, nI_clamp (show kx < 2 ^ 31 by omega), b1, nukx, thkx, nekx]; done)
      rw [E]
      exact W.iret (v := (-4)) hx hb hr (fun t ht hW => ⟨(), rfl, by rw [ht]; exact hI, hS.F ht⟩) hS.2.2 dX4_at_44
    · refine va_instNo (C := RX2) (nm := RX3) hx hb hown (hts (.classLink RX4 72 RX3) (by decide +kernel)) hK.2.2.2.2.1 (cy_rv1 hK hI hkx kdkx) dX4_at_23 ?_
      refine lv_if_eq (tgt := 38) hx hb dX4_at_26 (by decide) (fun h3 => ?_) (fun h3 => absurd (by decide) h3)
      refine lv_aload_n hx hb dX4_at_38 rfl (lv_at hl 1 rfl) ?_
      refine lv_bipush (v := -4) hx hb dX4_at_39 (by decide) ?_
      refine cy_callm (va_runV (As := [.int (-4)]) (rest := []) ⟨hx, hb, hml, hown, hts⟩ (c_X4_refuse l D cI cJ cO z n (cy_i σ 0 2 0) τ pl hi ad (-4)) (cwV 1 hts gX4_at_X4_refuse rfl rfl rfl (by decide +kernel) ⟨Nat.le_of_ble_eq_true rfl, Nat.le_of_ble_eq_true rfl⟩) (cy_preV hK hI (cy_recv hK (hI.1 0 _ cy_CY).1 rfl)) rfl rfl hl.1 rfl (lv_room (Nat.le_of_ble_eq_true rfl)) dX4_at_41 ⟨Nat.le_of_ble_eq_true rfl, Nat.le_of_ble_eq_true rfl⟩) hS (fun u H locs hI hz hS => ?_)
      have hI : cy_W D z (cy_CT cI cJ cO n n (cy_no (cy_i σ 0 2 0) (-4)) τ pl hi ad) ad H := hI
      refine W.eq (g2 := F0 m 44 ls [.int (-4)]) rfl ?_
      have E : cy_oAt n σ (nI kx) i = ((-4), cy_no (cy_i σ 0 2 0) (-4)) := by first | (simp [cy_oAt, cy_z, nI_clamp (show kx < 2 ^ 31 by omega), b1, nukx, thkx]; done) | (simp [cy_oAt, cy_z, nI_clamp (show kx < 2 ^ 31 by omega), b1, nukx, thkx]; simp [nekx]; done) | (simp [cy_oAt, cy_z, nI_clamp (show kx < 2 ^ 31 by omega), b1, nukx, thkx, nekx]; done)
      rw [E]
      exact W.iret (v := (-4)) hx hb hr (fun t ht hW => ⟨(), rfl, by rw [ht]; exact hI, hS.F ht⟩) hS.2.2 dX4_at_44
    · refine va_instS (nm := RX3) (cC := D.1 2) hx hb hown (hts (.classLink RX4 72 RX3) (by decide +kernel)) (hK.1.1 2 _ rfl).2 (cy_rv2 hK hI hkx kdkx) dX4_at_23 ?_
      refine lv_if_eq (tgt := 38) hx hb dX4_at_26 (by decide) (fun h4 => absurd h4 (by decide)) (fun h4 => ?_)
      refine lv_aload_n hx hb dX4_at_29 rfl (lv_at hl 0 rfl) ?_
      refine va_castS (nm := RX3) (cC := D.1 2) hx hb hown (hts (.classLink RX4 72 RX3) (by decide +kernel)) (hK.1.1 2 _ rfl).2 (cy_rv2 hK hI hkx kdkx) dX4_at_30 ?_
      refine lv_astore (lv' := [(4, .ref (ad (100 + 2 * kx))), (3, .ref (ad (100 + 2 * kx))), (0, .ref (ad 0)), (1, .int (nI kx)), (2, .int i)]) hx hb dX4_at_33 hl (by decide) rfl (fun ls hl => ?_)
      refine lv_goto (tgt := 45) hx hb dX4_at_35 (by decide) ?_
      refine lv_aload hx hb dX4_at_45 (lv_at hl 0 rfl) ?_
      refine lv_iload_n hx hb dX4_at_47 rfl (lv_at hl 4 rfl) ?_
      refine cy_callp (v := .int (cy_b (cy_pl (σ.1 2 kx) i))) (va_runV (As := [.int i]) (rest := []) ⟨hx, hb, hml, hown, hts⟩ (c_X3_hasPlace l D cI cJ cO z n (cy_i σ 0 2 0) τ pl hi ad hok kx hkx kdkx i) (cwV 1 hts gX4_at_X3_hasPlace rfl rfl rfl (by decide +kernel) ⟨Nat.le_of_ble_eq_true rfl, Nat.le_of_ble_eq_true rfl⟩) (cy_preV hK hI (cy_rv2 hK hI hkx kdkx)) rfl rfl hl.1 rfl (lv_room (Nat.le_of_ble_eq_true rfl)) dX4_at_48 ⟨Nat.le_of_ble_eq_true rfl, Nat.le_of_ble_eq_true rfl⟩) ?_
      cases b5 : (cy_pl (σ.1 2 kx) i)
      · refine lv_if_ne (tgt := 61) hx hb dX4_at_51 (by decide) (fun h6 => absurd (by decide) h6) (fun h6 => ?_)
        refine lv_aload_n hx hb dX4_at_54 rfl (lv_at hl 2 rfl) ?_
        refine lv_bipush (v := -5) hx hb dX4_at_55 (by decide) ?_
        refine cy_callm (va_runV (As := [.int (-5)]) (rest := []) ⟨hx, hb, hml, hown, hts⟩ (c_X4_refuse l D cI cJ cO z n (cy_i σ 0 2 0) τ pl hi ad (-5)) (cwV 1 hts gX4_at_X4_refuse rfl rfl rfl (by decide +kernel) ⟨Nat.le_of_ble_eq_true rfl, Nat.le_of_ble_eq_true rfl⟩) (cy_preV hK hI (cy_recv hK (hI.1 0 _ cy_CY).1 rfl)) rfl rfl hl.1 rfl (lv_room (Nat.le_of_ble_eq_true rfl)) dX4_at_57 ⟨Nat.le_of_ble_eq_true rfl, Nat.le_of_ble_eq_true rfl⟩) hS (fun u H locs hI hz hS => ?_)
        have hI : cy_W D z (cy_CT cI cJ cO n n (cy_no (cy_i σ 0 2 0) (-5)) τ pl hi ad) ad H := hI
        refine W.eq (g2 := F0 m 60 ls [.int (-5)]) rfl ?_
        have E : cy_oAt n σ (nI kx) i = ((-5), cy_no (cy_i σ 0 2 0) (-5)) := by first | (simp [cy_oAt, cy_z, nI_clamp (show kx < 2 ^ 31 by omega), b1, nukx, thkx, b5]; done) | (simp [cy_oAt, cy_z, nI_clamp (show kx < 2 ^ 31 by omega), b1, nukx, thkx, b5]; simp [nekx]; done) | (simp [cy_oAt, cy_z, nI_clamp (show kx < 2 ^ 31 by omega), b1, nukx, thkx, b5, nekx]; done)
        rw [E]
        exact W.iret (v := (-5)) hx hb hr (fun t ht hW => ⟨(), rfl, by rw [ht]; exact hI, hS.F ht⟩) hS.2.2 dX4_at_60
      · obtain ⟨ji, hji, rfl⟩ := (cy_pl_iff (p := pkx) (by omega) _).mp (by rw [← epkx]; exact b5)
        refine lv_if_ne (tgt := 61) hx hb dX4_at_51 (by decide) (fun h7 => ?_) (fun h7 => absurd h7 (by decide))
        refine lv_aload hx hb dX4_at_61 (lv_at hl 0 rfl) ?_
        refine cy_getTp hx hb hts hin3 hown hK hI hkx kdkx (hts (.fieldLink RX4 88 "CustomsYard$Things" "places" "[LCustomsYard$Load;") (by decide +kernel)) dX4_at_63 ?_
        refine lv_iload_n hx hb dX4_at_66 rfl (lv_at hl 4 rfl) ?_
        refine cy_aaldL (i := ji) hx hb hK hI hkx kdkx hpkx epkx (by omega) dX4_at_67 ?_
        rcases (hok.2.2.1 kx hkx).2.2.2.2.2 thkx ji (by omega) with e8 | ⟨t0, ht0, e8, -⟩
        · refine cy_topq (cy_rf_n e8) ?_
          refine cy_callp (v := .int (-1)) (va_runS (As := [.null]) (rest := []) ⟨hx, hb, hml, hown, hts⟩ (c_X4_numberOfN l) (va_cwS 1 hts gX4_at_X4_numberOf rfl rfl rfl (by decide +kernel) ⟨Nat.le_of_ble_eq_true rfl, Nat.le_of_ble_eq_true rfl⟩) preEq rfl rfl hl.1 rfl (lv_room (Nat.le_of_ble_eq_true rfl)) dX4_at_68 ⟨Nat.le_of_ble_eq_true rfl, Nat.le_of_ble_eq_true rfl⟩) ?_
          have E : cy_oAt n σ (nI kx) (nI ji) = ((-1), cy_i σ 0 2 0) := by first | (simp [cy_oAt, cy_z, nI_clamp (show kx < 2 ^ 31 by omega), nI_clamp (show ji < 2 ^ 31 by omega), b1, nukx, thkx, b5]; done) | (simp [cy_oAt, cy_z, nI_clamp (show kx < 2 ^ 31 by omega), nI_clamp (show ji < 2 ^ 31 by omega), b1, nukx, thkx, b5]; simp [nekx, e8]; done) | (simp [cy_oAt, cy_z, nI_clamp (show kx < 2 ^ 31 by omega), nI_clamp (show ji < 2 ^ 31 by omega), b1, nukx, thkx, b5, nekx, e8]; done)
          rw [E]
          exact W.iret (v := (-1)) hx hb hr (fun t ht hW => ⟨(), rfl, by rw [ht]; exact hI, hS.F ht⟩) hS.2.2 dX4_at_71
        · have ne0 := cy_ne1 (show t0 < 2 ^ 31 by omega)
          refine cy_topq (cy_rf_s (by omega) e8) ?_
          refine cy_callp (v := .int (nI t0)) (va_runS (As := [.ref (ad (100 + 2 * t0))]) (rest := []) ⟨hx, hb, hml, hown, hts⟩ (c_X4_numberOf l D cI cJ cO z n (cy_i σ 0 2 0) τ pl hi ad hok t0 ht0) (va_cwS 1 hts gX4_at_X4_numberOf rfl rfl rfl (by decide +kernel) ⟨Nat.le_of_ble_eq_true rfl, Nat.le_of_ble_eq_true rfl⟩) (cy_preS hK hI) rfl rfl hl.1 rfl (lv_room (Nat.le_of_ble_eq_true rfl)) dX4_at_68 ⟨Nat.le_of_ble_eq_true rfl, Nat.le_of_ble_eq_true rfl⟩) ?_
          have E : cy_oAt n σ (nI kx) (nI ji) = (nI t0, cy_i σ 0 2 0) := by first | (simp [cy_oAt, cy_z, nI_clamp (show kx < 2 ^ 31 by omega), nI_clamp (show ji < 2 ^ 31 by omega), nI_clamp (show t0 < 2 ^ 31 by omega), b1, nukx, thkx, b5]; done) | (simp [cy_oAt, cy_z, nI_clamp (show kx < 2 ^ 31 by omega), nI_clamp (show ji < 2 ^ 31 by omega), nI_clamp (show t0 < 2 ^ 31 by omega), b1, nukx, thkx, b5]; simp [nekx, e8, ne0]; done) | (simp [cy_oAt, cy_z, nI_clamp (show kx < 2 ^ 31 by omega), nI_clamp (show ji < 2 ^ 31 by omega), nI_clamp (show t0 < 2 ^ 31 by omega), b1, nukx, thkx, b5, nekx, e8, ne0]; done)
          rw [E]
          exact W.iret (v := nI t0) hx hb hr (fun t ht hW => ⟨(), rfl, by rw [ht]; exact hI, hS.F ht⟩) hS.2.2 dX4_at_71

set_option maxHeartbeats 4000000 in
set_option maxRecDepth 100000 in
theorem c_X4_is (l : Launch) (D : va_G) (cI cJ cO : ClassId) (z n : Nat) (σ τ : cy_S) (pl : Nat → Int32) (hi : Int32) (ad : Nat → Nat) (hok : cy_ok n σ) (x v : Int32)  : Met l yX4_is wsX4_is { frames := 1, cells := 0, slots := 0, locals := 21 } (cy_P D cI cJ cO (fun H => cy_W D z (cy_CT cI cJ cO n n σ τ pl hi ad) ad H) [.ref (ad 0), .int x, .int v]) (cy_M (S := Unit) z (fun _ => some (.int (cy_oIs n σ x v).1)) (fun _ H => cy_W D z (cy_CT cI cJ cO n n (cy_oIs n σ x v).2 τ pl hi ad) ad H)) 0 0 (fun q => z ≤ q) := by
  refine Met.ofW (cc := cX4_is) (maxL := 4) (ret := (some .int)) (by decide) rfl ?_
  intro p e s m args below meth c s₁ B hml hv
  obtain ⟨rfl, hK, hI⟩ := hv
  have hx := B.exec
  have hb := B.bytes
  have hr := B.returns
  have hts := atoms_spec (ws := wsX4_is) B.pre
  have hown : s.vm.findClass RX4 = some m.cls := findClass_of_methodNamed B.named
  have hlocks := B.notSynchronized
  have hS : va_S (fun q => z ≤ q) s.heap s.heap [] := va_S.rf
  have hl := lv_entry ([.ref (ad 0), .int x, .int v]) (n := 4) (Nat.le_of_ble_eq_true rfl)
  rw [lg_entry_eq]
  generalize (lg_sl ([.ref (ad 0), .int x, .int v]) ++ List.replicate (4 - (lg_sl ([.ref (ad 0), .int x, .int v])).length) Slot.unset).toArray = ls at hl ⊢
  have hl : lv_has ls 4 [(0, .ref (ad 0)), (1, .int x), (2, .int v)] := hl
  have hin1 := hin1_X4_is
  have hin2 := hin2_X4_is
  have hin3 := hin3_X4_is
  have hin4 := hin4_X4_is
  have h0 := hok.2.1
  have hn := hok.1
  refine lv_aload_n hx hb dX4_is_0 rfl (lv_at hl 0 rfl) ?_
  refine lv_iconst (v := 0) hx hb dX4_is_1 (by decide) ?_
  refine cy_putY (v := 0) hx hb hts hin4 hown hK hI hS 8 2 (by decide) (hts (.fieldLink RX4 38 "CustomsYard" "refusal" "I") (by decide +kernel)) rfl (by decide +kernel) rfl dX4_is_2 (fun H locs hI hS => ?_)
  refine lv_aload_n hx hb dX4_is_5 rfl (lv_at hl 0 rfl) ?_
  refine lv_iload_n hx hb dX4_is_6 rfl (lv_at hl 1 rfl) ?_
  refine cy_callp (v := va_rf (cy_fd n ad x)) (va_runV (As := [.int x]) (rest := []) ⟨hx, hb, hml, hown, hts⟩ (c_X4_find l D cI cJ cO z n (cy_i σ 0 2 0) τ pl hi ad hok x) (cwV 1 hts gX4_is_X4_find rfl rfl rfl (by decide +kernel) ⟨Nat.le_of_ble_eq_true rfl, Nat.le_of_ble_eq_true rfl⟩) (cy_preV hK hI (cy_recv hK (hI.1 0 _ cy_CY).1 rfl)) rfl rfl hl.1 rfl (lv_room (Nat.le_of_ble_eq_true rfl)) dX4_is_7 ⟨Nat.le_of_ble_eq_true rfl, Nat.le_of_ble_eq_true rfl⟩) ?_
  cases b1 : cy_ld n x
  · refine cy_topq (cy_fd_f b1) ?_
    refine lv_astore_nN (lv' := [(3, .null), (0, .ref (ad 0)), (1, .int x), (2, .int v)]) hx hb dX4_is_10 rfl hl (by decide) rfl (fun ls hl => ?_)
    refine lv_aload_nN hx hb dX4_is_11 rfl (lv_at hl 0 rfl) ?_
    refine lv_ifnullN (tgt := 22) hx hb dX4_is_12 (by decide) ?_
    refine lv_aload_n hx hb dX4_is_22 rfl (lv_at hl 1 rfl) ?_
    refine lv_bipush (v := -2) hx hb dX4_is_23 (by decide) ?_
    refine cy_callm (va_runV (As := [.int (-2)]) (rest := []) ⟨hx, hb, hml, hown, hts⟩ (c_X4_refuse l D cI cJ cO z n (cy_i σ 0 2 0) τ pl hi ad (-2)) (cwV 1 hts gX4_is_X4_refuse rfl rfl rfl (by decide +kernel) ⟨Nat.le_of_ble_eq_true rfl, Nat.le_of_ble_eq_true rfl⟩) (cy_preV hK hI (cy_recv hK (hI.1 0 _ cy_CY).1 rfl)) rfl rfl hl.1 rfl (lv_room (Nat.le_of_ble_eq_true rfl)) dX4_is_25 ⟨Nat.le_of_ble_eq_true rfl, Nat.le_of_ble_eq_true rfl⟩) hS (fun u H locs hI hz hS => ?_)
    have hI : cy_W D z (cy_CT cI cJ cO n n (cy_no (cy_i σ 0 2 0) (-2)) τ pl hi ad) ad H := hI
    refine W.eq (g2 := F0 m 28 ls [.int (-2)]) rfl ?_
    have E : cy_oIs n σ x v = ((-2), cy_no (cy_i σ 0 2 0) (-2)) := by simp [cy_oIs, cy_z, cy_b, b1]
    rw [E]
    exact W.iret (v := (-2)) hx hb hr (fun t ht hW => ⟨(), rfl, by rw [ht]; exact hI, hS.F ht⟩) hS.2.2 dX4_is_28
  · obtain ⟨kx, hkx, rfl⟩ := (cy_ld_iff hn _).mp b1
    have nekx := cy_ne1 (show kx < 2 ^ 31 by omega)
    refine cy_topq (cy_fd_t hn b1 hkx) ?_
    refine lv_astore_n (lv' := [(3, .ref (ad (100 + 2 * kx))), (0, .ref (ad 0)), (1, .int (nI kx)), (2, .int v)]) hx hb dX4_is_10 rfl hl (by decide) rfl (fun ls hl => ?_)
    refine lv_aload_n hx hb dX4_is_11 rfl (lv_at hl 0 rfl) ?_
    refine lv_ifnull hx hb dX4_is_12 ?_
    refine lv_iload_n hx hb dX4_is_15 rfl (lv_at hl 3 rfl) ?_
    refine cy_callp (v := .int (cy_b (cy_vw v))) (va_runS (As := [.int v]) (rest := []) ⟨hx, hb, hml, hown, hts⟩ (c_X4_isView l v) (va_cwS 1 hts gX4_is_X4_isView rfl rfl rfl (by decide +kernel) ⟨Nat.le_of_ble_eq_true rfl, Nat.le_of_ble_eq_true rfl⟩) preEq rfl rfl hl.1 rfl (lv_room (Nat.le_of_ble_eq_true rfl)) dX4_is_16 ⟨Nat.le_of_ble_eq_true rfl, Nat.le_of_ble_eq_true rfl⟩) ?_
    cases b2 : (cy_vw v)
    · refine lv_if_ne (tgt := 29) hx hb dX4_is_19 (by decide) (fun h3 => absurd (by decide) h3) (fun h3 => ?_)
      refine lv_aload_n hx hb dX4_is_22 rfl (lv_at hl 1 rfl) ?_
      refine lv_bipush (v := -2) hx hb dX4_is_23 (by decide) ?_
      refine cy_callm (va_runV (As := [.int (-2)]) (rest := []) ⟨hx, hb, hml, hown, hts⟩ (c_X4_refuse l D cI cJ cO z n (cy_i σ 0 2 0) τ pl hi ad (-2)) (cwV 1 hts gX4_is_X4_refuse rfl rfl rfl (by decide +kernel) ⟨Nat.le_of_ble_eq_true rfl, Nat.le_of_ble_eq_true rfl⟩) (cy_preV hK hI (cy_recv hK (hI.1 0 _ cy_CY).1 rfl)) rfl rfl hl.1 rfl (lv_room (Nat.le_of_ble_eq_true rfl)) dX4_is_25 ⟨Nat.le_of_ble_eq_true rfl, Nat.le_of_ble_eq_true rfl⟩) hS (fun u H locs hI hz hS => ?_)
      have hI : cy_W D z (cy_CT cI cJ cO n n (cy_no (cy_i σ 0 2 0) (-2)) τ pl hi ad) ad H := hI
      refine W.eq (g2 := F0 m 28 ls [.int (-2)]) rfl ?_
      have E : cy_oIs n σ (nI kx) v = ((-2), cy_no (cy_i σ 0 2 0) (-2)) := by first | (simp [cy_oIs, cy_z, cy_b, nI_clamp (show kx < 2 ^ 31 by omega), b1, b2]; done) | (simp [cy_oIs, cy_z, cy_b, nI_clamp (show kx < 2 ^ 31 by omega), b1, b2]; simp [nekx]; done) | (simp [cy_oIs, cy_z, cy_b, nI_clamp (show kx < 2 ^ 31 by omega), b1, b2, nekx]; done)
      rw [E]
      exact W.iret (v := (-2)) hx hb hr (fun t ht hW => ⟨(), rfl, by rw [ht]; exact hI, hS.F ht⟩) hS.2.2 dX4_is_28
    · refine lv_if_ne (tgt := 29) hx hb dX4_is_19 (by decide) (fun h4 => ?_) (fun h4 => absurd h4 (by decide))
      refine lv_aload_n hx hb dX4_is_29 rfl (lv_at hl 0 rfl) ?_
      refine lv_iload_n hx hb dX4_is_30 rfl (lv_at hl 3 rfl) ?_
      refine cy_callp (v := .int (cy_b (cy_go (σ.1 1 kx) v))) (rest := []) (a := (.ref (ad (100 + 2 * kx)) :: [.int v] : List Value).toArray) (by 
          rcases cy_kd3 hok hkx with hq | hq | hq
          · exact va_runU (As := [.int v]) (rest := []) ⟨hx, hb, hml, hown, hts⟩ (c_X0_goesAs l D cI cJ cO z n (cy_i σ 0 2 0) τ pl hi ad hok kx hkx v) (va_cwU 1 hts gX4_is_X0_goesAs_u78X1 rfl rfl rfl rfl (by decide +kernel) ⟨Nat.le_of_ble_eq_true rfl, Nat.le_of_ble_eq_true rfl⟩) (cy_preV hK hI (cy_rv0 hK hI hkx hq.1)) rfl rfl hl.1 rfl (lv_room (Nat.le_of_ble_eq_true rfl)) dX4_is_31 ⟨Nat.le_of_ble_eq_true rfl, Nat.le_of_ble_eq_true rfl⟩
          · exact va_runU (As := [.int v]) (rest := []) ⟨hx, hb, hml, hown, hts⟩ (c_X0_goesAs l D cI cJ cO z n (cy_i σ 0 2 0) τ pl hi ad hok kx hkx v) (va_cwU 1 hts gX4_is_X0_goesAs_u78X2 rfl rfl rfl rfl (by decide +kernel) ⟨Nat.le_of_ble_eq_true rfl, Nat.le_of_ble_eq_true rfl⟩) (cy_preV hK hI (cy_rv1 hK hI hkx hq.1)) rfl rfl hl.1 rfl (lv_room (Nat.le_of_ble_eq_true rfl)) dX4_is_31 ⟨Nat.le_of_ble_eq_true rfl, Nat.le_of_ble_eq_true rfl⟩
          · exact va_runU (As := [.int v]) (rest := []) ⟨hx, hb, hml, hown, hts⟩ (c_X0_goesAs l D cI cJ cO z n (cy_i σ 0 2 0) τ pl hi ad hok kx hkx v) (va_cwU 1 hts gX4_is_X0_goesAs_u78X3 rfl rfl rfl rfl (by decide +kernel) ⟨Nat.le_of_ble_eq_true rfl, Nat.le_of_ble_eq_true rfl⟩) (cy_preV hK hI (cy_rv2 hK hI hkx hq.1)) rfl rfl hl.1 rfl (lv_room (Nat.le_of_ble_eq_true rfl)) dX4_is_31 ⟨Nat.le_of_ble_eq_true rfl, Nat.le_of_ble_eq_true rfl⟩) ?_
      cases b5 : (cy_go (σ.1 1 kx) v)
      · refine lv_if_eq (tgt := 41) hx hb dX4_is_34 (by decide) (fun h6 => ?_) (fun h6 => absurd (by decide) h6)
        refine lv_iconst (v := 0) hx hb dX4_is_41 (by decide) ?_
        have E : cy_oIs n σ (nI kx) v = (0, cy_i σ 0 2 0) := by first | (simp [cy_oIs, cy_z, cy_b, nI_clamp (show kx < 2 ^ 31 by omega), b1, b2, b5]; done) | (simp [cy_oIs, cy_z, cy_b, nI_clamp (show kx < 2 ^ 31 by omega), b1, b2, b5]; simp [nekx]; done) | (simp [cy_oIs, cy_z, cy_b, nI_clamp (show kx < 2 ^ 31 by omega), b1, b2, b5, nekx]; done)
        rw [E]
        exact W.iret (v := 0) hx hb hr (fun t ht hW => ⟨(), rfl, by rw [ht]; exact hI, hS.F ht⟩) hS.2.2 dX4_is_42
      · refine lv_if_eq (tgt := 41) hx hb dX4_is_34 (by decide) (fun h7 => absurd h7 (by decide)) (fun h7 => ?_)
        refine lv_iconst (v := 1) hx hb dX4_is_37 (by decide) ?_
        refine lv_goto (tgt := 42) hx hb dX4_is_38 (by decide) ?_
        have E : cy_oIs n σ (nI kx) v = (1, cy_i σ 0 2 0) := by first | (simp [cy_oIs, cy_z, cy_b, nI_clamp (show kx < 2 ^ 31 by omega), b1, b2, b5]; done) | (simp [cy_oIs, cy_z, cy_b, nI_clamp (show kx < 2 ^ 31 by omega), b1, b2, b5]; simp [nekx]; done) | (simp [cy_oIs, cy_z, cy_b, nI_clamp (show kx < 2 ^ 31 by omega), b1, b2, b5, nekx]; done)
        rw [E]
        exact W.iret (v := 1) hx hb hr (fun t ht hW => ⟨(), rfl, by rw [ht]; exact hI, hS.F ht⟩) hS.2.2 dX4_is_42

set_option maxHeartbeats 4000000 in
set_option maxRecDepth 100000 in
theorem c_X4_take (l : Launch) (D : va_G) (cI cJ cO : ClassId) (z n : Nat) (σ τ : cy_S) (pl : Nat → Int32) (hi : Int32) (ad : Nat → Nat) (hok : cy_ok n σ) (x v : Int32)  : Met l yX4_take wsX4_take { frames := 3, cells := 0, slots := 0, locals := 63 } (cy_P D cI cJ cO (fun H => cy_W D z (cy_CT cI cJ cO n n σ τ pl hi ad) ad H) [.ref (ad 0), .int x, .int v]) (cy_M (S := Unit) z (fun _ => some (.int (cy_oTake n σ x v).1)) (fun _ H => cy_W D z (cy_CT cI cJ cO n n (cy_oTake n σ x v).2 τ pl hi ad) ad H)) 0 0 (fun q => z ≤ q) := by
  refine Met.ofW (cc := cX4_take) (maxL := 4) (ret := (some .int)) (by decide) rfl ?_
  intro p e s m args below meth c s₁ B hml hv
  obtain ⟨rfl, hK, hI⟩ := hv
  have hx := B.exec
  have hb := B.bytes
  have hr := B.returns
  have hts := atoms_spec (ws := wsX4_take) B.pre
  have hown : s.vm.findClass RX4 = some m.cls := findClass_of_methodNamed B.named
  have hlocks := B.notSynchronized
  have hS : va_S (fun q => z ≤ q) s.heap s.heap [] := va_S.rf
  have hl := lv_entry ([.ref (ad 0), .int x, .int v]) (n := 4) (Nat.le_of_ble_eq_true rfl)
  rw [lg_entry_eq]
  generalize (lg_sl ([.ref (ad 0), .int x, .int v]) ++ List.replicate (4 - (lg_sl ([.ref (ad 0), .int x, .int v])).length) Slot.unset).toArray = ls at hl ⊢
  have hl : lv_has ls 4 [(0, .ref (ad 0)), (1, .int x), (2, .int v)] := hl
  have hin1 := hin1_X4_take
  have hin2 := hin2_X4_take
  have hin3 := hin3_X4_take
  have hin4 := hin4_X4_take
  have h0 := hok.2.1
  have hn := hok.1
  refine lv_aload_n hx hb dX4_take_0 rfl (lv_at hl 0 rfl) ?_
  refine lv_iconst (v := 0) hx hb dX4_take_1 (by decide) ?_
  refine cy_putY (v := 0) hx hb hts hin4 hown hK hI hS 8 2 (by decide) (hts (.fieldLink RX4 38 "CustomsYard" "refusal" "I") (by decide +kernel)) rfl (by decide +kernel) rfl dX4_take_2 (fun H locs hI hS => ?_)
  refine lv_aload_n hx hb dX4_take_5 rfl (lv_at hl 0 rfl) ?_
  refine lv_iload_n hx hb dX4_take_6 rfl (lv_at hl 1 rfl) ?_
  refine cy_callp (v := va_rf (cy_fd n ad x)) (va_runV (As := [.int x]) (rest := []) ⟨hx, hb, hml, hown, hts⟩ (c_X4_find l D cI cJ cO z n (cy_i σ 0 2 0) τ pl hi ad hok x) (cwV 1 hts gX4_take_X4_find rfl rfl rfl (by decide +kernel) ⟨Nat.le_of_ble_eq_true rfl, Nat.le_of_ble_eq_true rfl⟩) (cy_preV hK hI (cy_recv hK (hI.1 0 _ cy_CY).1 rfl)) rfl rfl hl.1 rfl (lv_room (Nat.le_of_ble_eq_true rfl)) dX4_take_7 ⟨Nat.le_of_ble_eq_true rfl, Nat.le_of_ble_eq_true rfl⟩) ?_
  cases b1 : cy_ld n x
  · refine cy_topq (cy_fd_f b1) ?_
    refine lv_astore_nN (lv' := [(3, .null), (0, .ref (ad 0)), (1, .int x), (2, .int v)]) hx hb dX4_take_10 rfl hl (by decide) rfl (fun ls hl => ?_)
    refine lv_aload_nN hx hb dX4_take_11 rfl (lv_at hl 0 rfl) ?_
    refine lv_ifnullN (tgt := 22) hx hb dX4_take_12 (by decide) ?_
    refine lv_aload_n hx hb dX4_take_22 rfl (lv_at hl 1 rfl) ?_
    refine lv_bipush (v := -2) hx hb dX4_take_23 (by decide) ?_
    refine cy_callm (va_runV (As := [.int (-2)]) (rest := []) ⟨hx, hb, hml, hown, hts⟩ (c_X4_refuse l D cI cJ cO z n (cy_i σ 0 2 0) τ pl hi ad (-2)) (cwV 1 hts gX4_take_X4_refuse rfl rfl rfl (by decide +kernel) ⟨Nat.le_of_ble_eq_true rfl, Nat.le_of_ble_eq_true rfl⟩) (cy_preV hK hI (cy_recv hK (hI.1 0 _ cy_CY).1 rfl)) rfl rfl hl.1 rfl (lv_room (Nat.le_of_ble_eq_true rfl)) dX4_take_25 ⟨Nat.le_of_ble_eq_true rfl, Nat.le_of_ble_eq_true rfl⟩) hS (fun u H locs hI hz hS => ?_)
    have hI : cy_W D z (cy_CT cI cJ cO n n (cy_no (cy_i σ 0 2 0) (-2)) τ pl hi ad) ad H := hI
    refine W.eq (g2 := F0 m 28 ls [.int (-2)]) rfl ?_
    have E : cy_oTake n σ x v = ((-2), cy_no (cy_i σ 0 2 0) (-2)) := by simp [cy_oTake, cy_z, cy_co_z, b1]
    rw [E]
    exact W.iret (v := (-2)) hx hb hr (fun t ht hW => ⟨(), rfl, by rw [ht]; exact hI, hS.F ht⟩) hS.2.2 dX4_take_28
  · obtain ⟨kx, hkx, rfl⟩ := (cy_ld_iff hn _).mp b1
    have nekx := cy_ne1 (show kx < 2 ^ 31 by omega)
    refine cy_topq (cy_fd_t hn b1 hkx) ?_
    refine lv_astore_n (lv' := [(3, .ref (ad (100 + 2 * kx))), (0, .ref (ad 0)), (1, .int (nI kx)), (2, .int v)]) hx hb dX4_take_10 rfl hl (by decide) rfl (fun ls hl => ?_)
    refine lv_aload_n hx hb dX4_take_11 rfl (lv_at hl 0 rfl) ?_
    refine lv_ifnull hx hb dX4_take_12 ?_
    refine lv_iload_n hx hb dX4_take_15 rfl (lv_at hl 3 rfl) ?_
    refine cy_callp (v := .int (cy_b (cy_vw v))) (va_runS (As := [.int v]) (rest := []) ⟨hx, hb, hml, hown, hts⟩ (c_X4_isView l v) (va_cwS 1 hts gX4_take_X4_isView rfl rfl rfl (by decide +kernel) ⟨Nat.le_of_ble_eq_true rfl, Nat.le_of_ble_eq_true rfl⟩) preEq rfl rfl hl.1 rfl (lv_room (Nat.le_of_ble_eq_true rfl)) dX4_take_16 ⟨Nat.le_of_ble_eq_true rfl, Nat.le_of_ble_eq_true rfl⟩) ?_
    cases b2 : (cy_vw v)
    · refine lv_if_ne (tgt := 29) hx hb dX4_take_19 (by decide) (fun h3 => absurd (by decide) h3) (fun h3 => ?_)
      refine lv_aload_n hx hb dX4_take_22 rfl (lv_at hl 1 rfl) ?_
      refine lv_bipush (v := -2) hx hb dX4_take_23 (by decide) ?_
      refine cy_callm (va_runV (As := [.int (-2)]) (rest := []) ⟨hx, hb, hml, hown, hts⟩ (c_X4_refuse l D cI cJ cO z n (cy_i σ 0 2 0) τ pl hi ad (-2)) (cwV 1 hts gX4_take_X4_refuse rfl rfl rfl (by decide +kernel) ⟨Nat.le_of_ble_eq_true rfl, Nat.le_of_ble_eq_true rfl⟩) (cy_preV hK hI (cy_recv hK (hI.1 0 _ cy_CY).1 rfl)) rfl rfl hl.1 rfl (lv_room (Nat.le_of_ble_eq_true rfl)) dX4_take_25 ⟨Nat.le_of_ble_eq_true rfl, Nat.le_of_ble_eq_true rfl⟩) hS (fun u H locs hI hz hS => ?_)
      have hI : cy_W D z (cy_CT cI cJ cO n n (cy_no (cy_i σ 0 2 0) (-2)) τ pl hi ad) ad H := hI
      refine W.eq (g2 := F0 m 28 ls [.int (-2)]) rfl ?_
      have E : cy_oTake n σ (nI kx) v = ((-2), cy_no (cy_i σ 0 2 0) (-2)) := by first | (simp [cy_oTake, cy_z, cy_co_z, nI_clamp (show kx < 2 ^ 31 by omega), b1, b2]; done) | (simp [cy_oTake, cy_z, cy_co_z, nI_clamp (show kx < 2 ^ 31 by omega), b1, b2]; simp [nekx]; done) | (simp [cy_oTake, cy_z, cy_co_z, nI_clamp (show kx < 2 ^ 31 by omega), b1, b2, nekx]; done)
      rw [E]
      exact W.iret (v := (-2)) hx hb hr (fun t ht hW => ⟨(), rfl, by rw [ht]; exact hI, hS.F ht⟩) hS.2.2 dX4_take_28
    · refine lv_if_ne (tgt := 29) hx hb dX4_take_19 (by decide) (fun h4 => ?_) (fun h4 => absurd h4 (by decide))
      refine lv_aload_n hx hb dX4_take_29 rfl (lv_at hl 1 rfl) ?_
      refine lv_aload_n hx hb dX4_take_30 rfl (lv_at hl 0 rfl) ?_
      refine lv_iload_n hx hb dX4_take_31 rfl (lv_at hl 3 rfl) ?_
      cases bg : cy_go (σ.1 1 kx) v
      · have c1 := c_X4_takeAs l D cI cJ cO z n (cy_i σ 0 2 0) τ pl hi ad hok kx hkx v
        rw [show cy_ta (cy_i σ 0 2 0) kx v = ((-4), cy_no (cy_i σ 0 2 0) (-4)) from by unfold cy_ta; rw [if_pos (show cy_go ((cy_i σ 0 2 0).1 1 kx) v = false from bg)]] at c1
        refine cy_callm (va_runV (As := [.ref (ad (100 + 2 * kx)), .int v]) (rest := []) ⟨hx, hb, hml, hown, hts⟩ (c1) (cwV 2 hts gX4_take_X4_takeAs rfl rfl rfl (by decide +kernel) ⟨Nat.le_of_ble_eq_true rfl, Nat.le_of_ble_eq_true rfl⟩) (cy_preV hK hI (cy_recv hK (hI.1 0 _ cy_CY).1 rfl)) rfl rfl hl.1 rfl (lv_room (Nat.le_of_ble_eq_true rfl)) dX4_take_32 ⟨Nat.le_of_ble_eq_true rfl, Nat.le_of_ble_eq_true rfl⟩) hS (fun u H locs hI hz hS => ?_)
        have hI : cy_W D z (cy_CT cI cJ cO n n (cy_no (cy_i σ 0 2 0) (-4)) τ pl hi ad) ad H := hI
        refine W.eq (g2 := F0 m 35 ls [.int (-4)]) rfl ?_
        have E : cy_oTake n σ (nI kx) v = ((-4), cy_no (cy_i σ 0 2 0) (-4)) := by first | (simp [cy_oTake, cy_z, cy_co_z, nI_clamp (show kx < 2 ^ 31 by omega), b1, b2, bg]; done) | (simp [cy_oTake, cy_z, cy_co_z, nI_clamp (show kx < 2 ^ 31 by omega), b1, b2, bg]; simp [nekx]; done) | (simp [cy_oTake, cy_z, cy_co_z, nI_clamp (show kx < 2 ^ 31 by omega), b1, b2, bg, nekx]; done)
        rw [E]
        exact W.iret (v := (-4)) hx hb hr (fun t ht hW => ⟨(), rfl, by rw [ht]; exact hI, hS.F ht⟩) hS.2.2 dX4_take_35
      · have c1 := c_X4_takeAs l D cI cJ cO z n (cy_i σ 0 2 0) τ pl hi ad hok kx hkx v
        rw [show cy_ta (cy_i σ 0 2 0) kx v = (cy_co (cy_i σ 0 2 0) kx v, cy_i σ 0 2 0) from by unfold cy_ta; rw [if_neg (fun q => by rw [show cy_go ((cy_i σ 0 2 0).1 1 kx) v = true from bg] at q; cases q)]] at c1
        refine cy_callm (va_runV (As := [.ref (ad (100 + 2 * kx)), .int v]) (rest := []) ⟨hx, hb, hml, hown, hts⟩ (c1) (cwV 2 hts gX4_take_X4_takeAs rfl rfl rfl (by decide +kernel) ⟨Nat.le_of_ble_eq_true rfl, Nat.le_of_ble_eq_true rfl⟩) (cy_preV hK hI (cy_recv hK (hI.1 0 _ cy_CY).1 rfl)) rfl rfl hl.1 rfl (lv_room (Nat.le_of_ble_eq_true rfl)) dX4_take_32 ⟨Nat.le_of_ble_eq_true rfl, Nat.le_of_ble_eq_true rfl⟩) hS (fun u H locs hI hz hS => ?_)
        have hI : cy_W D z (cy_CT cI cJ cO n n (cy_i σ 0 2 0) τ pl hi ad) ad H := hI
        refine W.eq (g2 := F0 m 35 ls [.int (cy_co (cy_i σ 0 2 0) kx v)]) rfl ?_
        have E : cy_oTake n σ (nI kx) v = (cy_co (cy_i σ 0 2 0) kx v, cy_i σ 0 2 0) := by first | (simp [cy_oTake, cy_z, cy_co_z, nI_clamp (show kx < 2 ^ 31 by omega), b1, b2, bg]; done) | (simp [cy_oTake, cy_z, cy_co_z, nI_clamp (show kx < 2 ^ 31 by omega), b1, b2, bg]; simp [nekx]; done) | (simp [cy_oTake, cy_z, cy_co_z, nI_clamp (show kx < 2 ^ 31 by omega), b1, b2, bg, nekx]; done)
        rw [E]
        exact W.iret (v := cy_co (cy_i σ 0 2 0) kx v) hx hb hr (fun t ht hW => ⟨(), rfl, by rw [ht]; exact hI, hS.F ht⟩) hS.2.2 dX4_take_35

set_option maxHeartbeats 4000000 in
set_option maxRecDepth 100000 in
theorem c_X4_sort (l : Launch) (D : va_G) (cI cJ cO : ClassId) (z n : Nat) (σ τ : cy_S) (pl : Nat → Int32) (hi : Int32) (ad : Nat → Nat) (hok : cy_ok n σ) (x : Int32)  : Met l yX4_sort wsX4_sort { frames := 1, cells := 0, slots := 0, locals := 21 } (cy_P D cI cJ cO (fun H => cy_W D z (cy_CT cI cJ cO n n σ τ pl hi ad) ad H) [.ref (ad 0), .int x]) (cy_M (S := Unit) z (fun _ => some (.int (cy_oSort n σ x).1)) (fun _ H => cy_W D z (cy_CT cI cJ cO n n (cy_oSort n σ x).2 τ pl hi ad) ad H)) 0 0 (fun q => z ≤ q) := by
  refine Met.ofW (cc := cX4_sort) (maxL := 3) (ret := (some .int)) (by decide) rfl ?_
  intro p e s m args below meth c s₁ B hml hv
  obtain ⟨rfl, hK, hI⟩ := hv
  have hx := B.exec
  have hb := B.bytes
  have hr := B.returns
  have hts := atoms_spec (ws := wsX4_sort) B.pre
  have hown : s.vm.findClass RX4 = some m.cls := findClass_of_methodNamed B.named
  have hlocks := B.notSynchronized
  have hS : va_S (fun q => z ≤ q) s.heap s.heap [] := va_S.rf
  have hl := lv_entry ([.ref (ad 0), .int x]) (n := 3) (Nat.le_of_ble_eq_true rfl)
  rw [lg_entry_eq]
  generalize (lg_sl ([.ref (ad 0), .int x]) ++ List.replicate (3 - (lg_sl ([.ref (ad 0), .int x])).length) Slot.unset).toArray = ls at hl ⊢
  have hl : lv_has ls 3 [(0, .ref (ad 0)), (1, .int x)] := hl
  have hin1 := hin1_X4_sort
  have hin2 := hin2_X4_sort
  have hin3 := hin3_X4_sort
  have hin4 := hin4_X4_sort
  have h0 := hok.2.1
  have hn := hok.1
  refine lv_aload_n hx hb dX4_sort_0 rfl (lv_at hl 0 rfl) ?_
  refine lv_iconst (v := 0) hx hb dX4_sort_1 (by decide) ?_
  refine cy_putY (v := 0) hx hb hts hin4 hown hK hI hS 8 2 (by decide) (hts (.fieldLink RX4 38 "CustomsYard" "refusal" "I") (by decide +kernel)) rfl (by decide +kernel) rfl dX4_sort_2 (fun H locs hI hS => ?_)
  refine lv_aload_n hx hb dX4_sort_5 rfl (lv_at hl 0 rfl) ?_
  refine lv_iload_n hx hb dX4_sort_6 rfl (lv_at hl 1 rfl) ?_
  refine cy_callp (v := va_rf (cy_fd n ad x)) (va_runV (As := [.int x]) (rest := []) ⟨hx, hb, hml, hown, hts⟩ (c_X4_find l D cI cJ cO z n (cy_i σ 0 2 0) τ pl hi ad hok x) (cwV 1 hts gX4_sort_X4_find rfl rfl rfl (by decide +kernel) ⟨Nat.le_of_ble_eq_true rfl, Nat.le_of_ble_eq_true rfl⟩) (cy_preV hK hI (cy_recv hK (hI.1 0 _ cy_CY).1 rfl)) rfl rfl hl.1 rfl (lv_room (Nat.le_of_ble_eq_true rfl)) dX4_sort_7 ⟨Nat.le_of_ble_eq_true rfl, Nat.le_of_ble_eq_true rfl⟩) ?_
  cases b1 : cy_ld n x
  · refine cy_topq (cy_fd_f b1) ?_
    refine lv_astore_nN (lv' := [(2, .null), (0, .ref (ad 0)), (1, .int x)]) hx hb dX4_sort_10 rfl hl (by decide) rfl (fun ls hl => ?_)
    refine lv_aload_nN hx hb dX4_sort_11 rfl (lv_at hl 0 rfl) ?_
    refine lv_ifnonnullN hx hb dX4_sort_12 ?_
    refine lv_aload_n hx hb dX4_sort_15 rfl (lv_at hl 1 rfl) ?_
    refine lv_bipush (v := -2) hx hb dX4_sort_16 (by decide) ?_
    refine cy_callm (va_runV (As := [.int (-2)]) (rest := []) ⟨hx, hb, hml, hown, hts⟩ (c_X4_refuse l D cI cJ cO z n (cy_i σ 0 2 0) τ pl hi ad (-2)) (cwV 1 hts gX4_sort_X4_refuse rfl rfl rfl (by decide +kernel) ⟨Nat.le_of_ble_eq_true rfl, Nat.le_of_ble_eq_true rfl⟩) (cy_preV hK hI (cy_recv hK (hI.1 0 _ cy_CY).1 rfl)) rfl rfl hl.1 rfl (lv_room (Nat.le_of_ble_eq_true rfl)) dX4_sort_18 ⟨Nat.le_of_ble_eq_true rfl, Nat.le_of_ble_eq_true rfl⟩) hS (fun u H locs hI hz hS => ?_)
    have hI : cy_W D z (cy_CT cI cJ cO n n (cy_no (cy_i σ 0 2 0) (-2)) τ pl hi ad) ad H := hI
    refine W.eq (g2 := F0 m 21 ls [.int (-2)]) rfl ?_
    have E : cy_oSort n σ x = ((-2), cy_no (cy_i σ 0 2 0) (-2)) := by simp [cy_oSort, cy_z, b1]
    rw [E]
    exact W.iret (v := (-2)) hx hb hr (fun t ht hW => ⟨(), rfl, by rw [ht]; exact hI, hS.F ht⟩) hS.2.2 dX4_sort_21
  · obtain ⟨kx, hkx, rfl⟩ := (cy_ld_iff hn _).mp b1
    have nekx := cy_ne1 (show kx < 2 ^ 31 by omega)
    refine cy_topq (cy_fd_t hn b1 hkx) ?_
    refine lv_astore_n (lv' := [(2, .ref (ad (100 + 2 * kx))), (0, .ref (ad 0)), (1, .int (nI kx))]) hx hb dX4_sort_10 rfl hl (by decide) rfl (fun ls hl => ?_)
    refine lv_aload_n hx hb dX4_sort_11 rfl (lv_at hl 0 rfl) ?_
    refine lv_ifnonnull (tgt := 22) hx hb dX4_sort_12 (by decide) ?_
    refine lv_aload_n hx hb dX4_sort_22 rfl (lv_at hl 0 rfl) ?_
    refine cy_getSort hx hb hts hin1 hin2 hin3 hown hK hI hkx (hts (.fieldLink RX4 101 "CustomsYard$Load" "sort" "I") (by decide +kernel)) (fun _ h9 => h9) dX4_sort_23 ?_
    refine cy_topi (y := σ.1 1 kx) rfl ?_
    have E : cy_oSort n σ (nI kx) = (σ.1 1 kx, cy_i σ 0 2 0) := by first | (simp [cy_oSort, cy_z, nI_clamp (show kx < 2 ^ 31 by omega), b1]; done) | (simp [cy_oSort, cy_z, nI_clamp (show kx < 2 ^ 31 by omega), b1]; simp [nekx]; done) | (simp [cy_oSort, cy_z, nI_clamp (show kx < 2 ^ 31 by omega), b1, nekx]; done)
    rw [E]
    exact W.iret (v := σ.1 1 kx) hx hb hr (fun t ht hW => ⟨(), rfl, by rw [ht]; exact hI, hS.F ht⟩) hS.2.2 dX4_sort_26
