theorem cy_eq10 {q : Nat} (h : q ≤ 10) (h1 : ¬ nI q < 10) : nI q = 10 := by
  rcases Nat.lt_or_ge q 10 with h2 | h2
  · exact absurd (nI_lt (b := 10) h2 (by decide)) h1
  · rw [show q = 10 by omega]; rfl
theorem cy_ltq {q : Nat} (h : q ≤ 10) (h1 : nI q < 10) : q < 10 := by
  rcases Nat.lt_or_ge q 10 with h2 | h2
  · exact h2
  · rw [show q = 10 by omega] at h1
    exact absurd h1 (by decide)
theorem hin1_X4_weight : ∀ w ∈ u_ws RX1 TX1 3, w ∈ wsX4_weight := by decide +kernel
theorem hin2_X4_weight : ∀ w ∈ u_ws RX2 TX2 3, w ∈ wsX4_weight := by decide +kernel
theorem hin3_X4_weight : ∀ w ∈ u_ws RX3 TX3 3, w ∈ wsX4_weight := by decide +kernel
theorem hin4_X4_weight : ∀ w ∈ u_ws RX4 TX4 13, w ∈ wsX4_weight := by decide +kernel
theorem hin1_X4_inside : ∀ w ∈ u_ws RX1 TX1 3, w ∈ wsX4_inside := by decide +kernel
theorem hin2_X4_inside : ∀ w ∈ u_ws RX2 TX2 3, w ∈ wsX4_inside := by decide +kernel
theorem hin3_X4_inside : ∀ w ∈ u_ws RX3 TX3 3, w ∈ wsX4_inside := by decide +kernel
theorem hin4_X4_inside : ∀ w ∈ u_ws RX4 TX4 13, w ∈ wsX4_inside := by decide +kernel
theorem hin1_X4_hold : ∀ w ∈ u_ws RX1 TX1 3, w ∈ wsX4_hold := by decide +kernel
theorem hin2_X4_hold : ∀ w ∈ u_ws RX2 TX2 3, w ∈ wsX4_hold := by decide +kernel
theorem hin3_X4_hold : ∀ w ∈ u_ws RX3 TX3 3, w ∈ wsX4_hold := by decide +kernel
theorem hin4_X4_hold : ∀ w ∈ u_ws RX4 TX4 13, w ∈ wsX4_hold := by decide +kernel
theorem hin1_X4_bay : ∀ w ∈ u_ws RX1 TX1 3, w ∈ wsX4_bay := by decide +kernel
theorem hin2_X4_bay : ∀ w ∈ u_ws RX2 TX2 3, w ∈ wsX4_bay := by decide +kernel
theorem hin3_X4_bay : ∀ w ∈ u_ws RX3 TX3 3, w ∈ wsX4_bay := by decide +kernel
theorem hin4_X4_bay : ∀ w ∈ u_ws RX4 TX4 13, w ∈ wsX4_bay := by decide +kernel
theorem hin4_X4_gate : ∀ w ∈ u_ws RX4 TX4 13, w ∈ wsX4_gate := by decide +kernel
theorem hin1_X4_pass : ∀ w ∈ u_ws RX1 TX1 3, w ∈ wsX4_pass := by decide +kernel
theorem hin2_X4_pass : ∀ w ∈ u_ws RX2 TX2 3, w ∈ wsX4_pass := by decide +kernel
theorem hin3_X4_pass : ∀ w ∈ u_ws RX3 TX3 3, w ∈ wsX4_pass := by decide +kernel
theorem hin4_X4_pass : ∀ w ∈ u_ws RX4 TX4 13, w ∈ wsX4_pass := by decide +kernel
theorem hin4_X4_passed : ∀ w ∈ u_ws RX4 TX4 13, w ∈ wsX4_passed := by decide +kernel
theorem hin4_X4_tariff : ∀ w ∈ u_ws RX4 TX4 13, w ∈ wsX4_tariff := by decide +kernel
theorem hin1_X4_line : ∀ w ∈ u_ws RX1 TX1 3, w ∈ wsX4_line := by decide +kernel
theorem hin2_X4_line : ∀ w ∈ u_ws RX2 TX2 3, w ∈ wsX4_line := by decide +kernel
theorem hin3_X4_line : ∀ w ∈ u_ws RX3 TX3 3, w ∈ wsX4_line := by decide +kernel
theorem hin4_X4_line : ∀ w ∈ u_ws RX4 TX4 13, w ∈ wsX4_line := by decide +kernel
theorem hin1_X4_duty : ∀ w ∈ u_ws RX1 TX1 3, w ∈ wsX4_duty := by decide +kernel
theorem hin2_X4_duty : ∀ w ∈ u_ws RX2 TX2 3, w ∈ wsX4_duty := by decide +kernel
theorem hin3_X4_duty : ∀ w ∈ u_ws RX3 TX3 3, w ∈ wsX4_duty := by decide +kernel
theorem hin4_X4_duty : ∀ w ∈ u_ws RX4 TX4 13, w ∈ wsX4_duty := by decide +kernel
set_option maxHeartbeats 4000000 in
set_option maxRecDepth 100000 in
theorem c_X4_weight (l : Launch) (D : va_G) (cI cJ cO : ClassId) (z n : Nat) (σ τ : cy_S) (pl : Nat → Int32) (hi : Int32) (ad : Nat → Nat) (hok : cy_ok n σ) (x : Int32)  : Met l yX4_weight wsX4_weight { frames := 3, cells := 0, slots := 0, locals := 82 } (cy_P D cI cJ cO (fun H => cy_W D z (cy_CT cI cJ cO n n σ τ pl hi ad) ad H) [.ref (ad 0), .int x]) (cy_M (S := Unit) z (fun _ => some (.long (cy_oWeight n σ x).1)) (fun _ H => cy_W D z (cy_CT cI cJ cO n n (cy_oWeight n σ x).2 τ pl hi ad) ad H)) 0 0 (fun q => z ≤ q) := by
  refine Met.ofW (cc := cX4_weight) (maxL := 3) (ret := (some .long)) (by decide) rfl ?_
  intro p e s m args below meth c s₁ B hml hv
  obtain ⟨rfl, hK, hI⟩ := hv
  have hx := B.exec
  have hb := B.bytes
  have hr := B.returns
  have hts := atoms_spec (ws := wsX4_weight) B.pre
  have hown : s.vm.findClass RX4 = some m.cls := findClass_of_methodNamed B.named
  have hlocks := B.notSynchronized
  have hS : va_S (fun q => z ≤ q) s.heap s.heap [] := va_S.rf
  have hl := lv_entry ([.ref (ad 0), .int x]) (n := 3) (Nat.le_of_ble_eq_true rfl)
  rw [lg_entry_eq]
  generalize (lg_sl ([.ref (ad 0), .int x]) ++ List.replicate (3 - (lg_sl ([.ref (ad 0), .int x])).length) Slot.unset).toArray = ls at hl ⊢
  have hl : lv_has ls 3 [(0, .ref (ad 0)), (1, .int x)] := hl
  have hin1 := hin1_X4_weight
  have hin2 := hin2_X4_weight
  have hin3 := hin3_X4_weight
  have hin4 := hin4_X4_weight
  have h0 := hok.2.1
  have hn := hok.1
  refine lv_aload_n hx hb dX4_weight_0 rfl (lv_at hl 0 rfl) ?_
  refine lv_iconst (v := 0) hx hb dX4_weight_1 (by decide) ?_
  refine cy_putY (v := 0) hx hb hts hin4 hown hK hI hS 8 2 (by decide) (hts (.fieldLink RX4 38 "CustomsYard" "refusal" "I") (by decide +kernel)) rfl (by decide +kernel) rfl dX4_weight_2 (fun H locs hI hS => ?_)
  refine lv_aload_n hx hb dX4_weight_5 rfl (lv_at hl 0 rfl) ?_
  refine lv_iload_n hx hb dX4_weight_6 rfl (lv_at hl 1 rfl) ?_
  refine cy_callp (v := va_rf (cy_fd n ad x)) (va_runV (As := [.int x]) (rest := []) ⟨hx, hb, hml, hown, hts⟩ (c_X4_find l D cI cJ cO z n (cy_i σ 0 2 0) τ pl hi ad hok x) (cwV 1 hts gX4_weight_X4_find rfl rfl rfl (by decide +kernel) ⟨Nat.le_of_ble_eq_true rfl, Nat.le_of_ble_eq_true rfl⟩) (cy_preV hK hI (cy_recv hK (hI.1 0 _ cy_CY).1 rfl)) rfl rfl hl.1 rfl (lv_room (Nat.le_of_ble_eq_true rfl)) dX4_weight_7 ⟨Nat.le_of_ble_eq_true rfl, Nat.le_of_ble_eq_true rfl⟩) ?_
  cases b1 : cy_ld n x
  · refine cy_topq (cy_fd_f b1) ?_
    refine lv_astore_nN (lv' := [(2, .null), (0, .ref (ad 0)), (1, .int x)]) hx hb dX4_weight_10 rfl hl (by decide) rfl (fun ls hl => ?_)
    refine lv_aload_nN hx hb dX4_weight_11 rfl (lv_at hl 0 rfl) ?_
    refine lv_ifnonnullN hx hb dX4_weight_12 ?_
    refine lv_aload_n hx hb dX4_weight_15 rfl (lv_at hl 1 rfl) ?_
    refine lv_bipush (v := -2) hx hb dX4_weight_16 (by decide) ?_
    refine cy_callm (va_runV (As := [.int (-2)]) (rest := []) ⟨hx, hb, hml, hown, hts⟩ (c_X4_refuse l D cI cJ cO z n (cy_i σ 0 2 0) τ pl hi ad (-2)) (cwV 1 hts gX4_weight_X4_refuse rfl rfl rfl (by decide +kernel) ⟨Nat.le_of_ble_eq_true rfl, Nat.le_of_ble_eq_true rfl⟩) (cy_preV hK hI (cy_recv hK (hI.1 0 _ cy_CY).1 rfl)) rfl rfl hl.1 rfl (lv_room (Nat.le_of_ble_eq_true rfl)) dX4_weight_18 ⟨Nat.le_of_ble_eq_true rfl, Nat.le_of_ble_eq_true rfl⟩) hS (fun u H locs hI hz hS => ?_)
    have hI : cy_W D z (cy_CT cI cJ cO n n (cy_no (cy_i σ 0 2 0) (-2)) τ pl hi ad) ad H := hI
    refine W.eq (g2 := F0 m 21 ls [.int (-2)]) rfl ?_
    refine lv_pop hx hb dX4_weight_21 rfl ?_
    refine lv_lconst (v := 0) hx hb dX4_weight_22 (by decide) ?_
    have E : cy_oWeight n σ x = (0, cy_no (cy_i σ 0 2 0) (-2)) := by simp [cy_oWeight, cy_z, cy_wt_z, b1]
    rw [E]
    exact W.lret (v := 0) hx hb hr (fun t ht hW => ⟨(), rfl, by rw [ht]; exact hI, hS.F ht⟩) hS.2.2 dX4_weight_23
  · obtain ⟨kx, hkx, rfl⟩ := (cy_ld_iff hn _).mp b1
    have nekx := cy_ne1 (show kx < 2 ^ 31 by omega)
    refine cy_topq (cy_fd_t hn b1 hkx) ?_
    refine lv_astore_n (lv' := [(2, .ref (ad (100 + 2 * kx))), (0, .ref (ad 0)), (1, .int (nI kx))]) hx hb dX4_weight_10 rfl hl (by decide) rfl (fun ls hl => ?_)
    refine lv_aload_n hx hb dX4_weight_11 rfl (lv_at hl 0 rfl) ?_
    refine lv_ifnonnull (tgt := 24) hx hb dX4_weight_12 (by decide) ?_
    refine lv_aload_n hx hb dX4_weight_24 rfl (lv_at hl 0 rfl) ?_
    refine lv_iconst (v := 3) hx hb dX4_weight_25 (by decide) ?_
    refine cy_callp (v := .long (cy_wt (cy_i σ 0 2 0) 3 kx)) (rest := []) (a := (.ref (ad (100 + 2 * kx)) :: [.int 3] : List Value).toArray) (by 
        rcases cy_kd3 hok hkx with hq | hq | hq
        · exact va_runU (As := [.int 3]) (rest := []) ⟨hx, hb, hml, hown, hts⟩ (c_X1_weigh l D cI cJ cO z n (cy_i σ 0 2 0) τ pl hi ad hok kx hkx hq.1 3) (va_cwA 1 hts gX4_weight_X1_weigh_u102X1 rfl rfl rfl hK.dW (by decide +kernel) ⟨Nat.le_of_ble_eq_true rfl, Nat.le_of_ble_eq_true rfl⟩) (cy_preV hK hI (cy_rv0 hK hI hkx hq.1)) rfl rfl hl.1 rfl (lv_room (Nat.le_of_ble_eq_true rfl)) dX4_weight_26 ⟨Nat.le_of_ble_eq_true rfl, Nat.le_of_ble_eq_true rfl⟩
        · exact va_runU (As := [.int 3]) (rest := []) ⟨hx, hb, hml, hown, hts⟩ (c_X2_weigh l D cI cJ cO z n (cy_i σ 0 2 0) τ pl hi ad hok kx hkx hq.1 3) (va_cwA 1 hts gX4_weight_X2_weigh_u102X2 rfl rfl rfl hK.dW (by decide +kernel) ⟨Nat.le_of_ble_eq_true rfl, Nat.le_of_ble_eq_true rfl⟩) (cy_preV hK hI (cy_rv1 hK hI hkx hq.1)) rfl rfl hl.1 rfl (lv_room (Nat.le_of_ble_eq_true rfl)) dX4_weight_26 ⟨Nat.le_of_ble_eq_true rfl, Nat.le_of_ble_eq_true rfl⟩
        · exact va_runU (As := [.int 3]) (rest := []) ⟨hx, hb, hml, hown, hts⟩ (c_X3_weigh3 l D cI cJ cO z n (cy_i σ 0 2 0) τ pl hi ad hok kx hkx hq.1 (Nat.lt_succ_of_le (cy_rk2 hok hkx))) (va_cwA 1 hts gX4_weight_X3_weigh_u102X3 rfl rfl rfl hK.dW (by decide +kernel) ⟨Nat.le_of_ble_eq_true rfl, Nat.le_of_ble_eq_true rfl⟩) (cy_preV hK hI (cy_rv2 hK hI hkx hq.1)) rfl rfl hl.1 rfl (lv_room (Nat.le_of_ble_eq_true rfl)) dX4_weight_26 ⟨Nat.le_of_ble_eq_true rfl, Nat.le_of_ble_eq_true rfl⟩) ?_
    have E : cy_oWeight n σ (nI kx) = (cy_wt (cy_i σ 0 2 0) 3 kx, cy_i σ 0 2 0) := by first | (simp [cy_oWeight, cy_z, cy_wt_z, nI_clamp (show kx < 2 ^ 31 by omega), b1]; done) | (simp [cy_oWeight, cy_z, cy_wt_z, nI_clamp (show kx < 2 ^ 31 by omega), b1]; simp [nekx]; done) | (simp [cy_oWeight, cy_z, cy_wt_z, nI_clamp (show kx < 2 ^ 31 by omega), b1, nekx]; done)
    rw [E]
    exact W.lret (v := cy_wt (cy_i σ 0 2 0) 3 kx) hx hb hr (fun t ht hW => ⟨(), rfl, by rw [ht]; exact hI, hS.F ht⟩) hS.2.2 dX4_weight_29

set_option maxHeartbeats 4000000 in
set_option maxRecDepth 100000 in
theorem c_X4_inside (l : Launch) (D : va_G) (cI cJ cO : ClassId) (z n : Nat) (σ τ : cy_S) (pl : Nat → Int32) (hi : Int32) (ad : Nat → Nat) (hok : cy_ok n σ) (x v : Int32)  : Met l yX4_inside wsX4_inside { frames := 4, cells := 0, slots := 0, locals := 97 } (cy_P D cI cJ cO (fun H => cy_W D z (cy_CT cI cJ cO n n σ τ pl hi ad) ad H) [.ref (ad 0), .int x, .int v]) (cy_M (S := Unit) z (fun _ => some (.int (cy_oInside n σ x v).1)) (fun _ H => cy_W D z (cy_CT cI cJ cO n n (cy_oInside n σ x v).2 τ pl hi ad) ad H)) 0 0 (fun q => z ≤ q) := by
  refine Met.ofW (cc := cX4_inside) (maxL := 4) (ret := (some .int)) (by decide) rfl ?_
  intro p e s m args below meth c s₁ B hml hv
  obtain ⟨rfl, hK, hI⟩ := hv
  have hx := B.exec
  have hb := B.bytes
  have hr := B.returns
  have hts := atoms_spec (ws := wsX4_inside) B.pre
  have hown : s.vm.findClass RX4 = some m.cls := findClass_of_methodNamed B.named
  have hlocks := B.notSynchronized
  have hS : va_S (fun q => z ≤ q) s.heap s.heap [] := va_S.rf
  have hl := lv_entry ([.ref (ad 0), .int x, .int v]) (n := 4) (Nat.le_of_ble_eq_true rfl)
  rw [lg_entry_eq]
  generalize (lg_sl ([.ref (ad 0), .int x, .int v]) ++ List.replicate (4 - (lg_sl ([.ref (ad 0), .int x, .int v])).length) Slot.unset).toArray = ls at hl ⊢
  have hl : lv_has ls 4 [(0, .ref (ad 0)), (1, .int x), (2, .int v)] := hl
  have hin1 := hin1_X4_inside
  have hin2 := hin2_X4_inside
  have hin3 := hin3_X4_inside
  have hin4 := hin4_X4_inside
  have h0 := hok.2.1
  have hn := hok.1
  refine lv_aload_n hx hb dX4_inside_0 rfl (lv_at hl 0 rfl) ?_
  refine lv_iconst (v := 0) hx hb dX4_inside_1 (by decide) ?_
  refine cy_putY (v := 0) hx hb hts hin4 hown hK hI hS 8 2 (by decide) (hts (.fieldLink RX4 38 "CustomsYard" "refusal" "I") (by decide +kernel)) rfl (by decide +kernel) rfl dX4_inside_2 (fun H locs hI hS => ?_)
  refine lv_aload_n hx hb dX4_inside_5 rfl (lv_at hl 0 rfl) ?_
  refine lv_iload_n hx hb dX4_inside_6 rfl (lv_at hl 1 rfl) ?_
  refine cy_callp (v := va_rf (cy_fd n ad x)) (va_runV (As := [.int x]) (rest := []) ⟨hx, hb, hml, hown, hts⟩ (c_X4_find l D cI cJ cO z n (cy_i σ 0 2 0) τ pl hi ad hok x) (cwV 1 hts gX4_inside_X4_find rfl rfl rfl (by decide +kernel) ⟨Nat.le_of_ble_eq_true rfl, Nat.le_of_ble_eq_true rfl⟩) (cy_preV hK hI (cy_recv hK (hI.1 0 _ cy_CY).1 rfl)) rfl rfl hl.1 rfl (lv_room (Nat.le_of_ble_eq_true rfl)) dX4_inside_7 ⟨Nat.le_of_ble_eq_true rfl, Nat.le_of_ble_eq_true rfl⟩) ?_
  cases b1 : cy_ld n x
  · refine cy_topq (cy_fd_f b1) ?_
    refine lv_astore_nN (lv' := [(3, .null), (0, .ref (ad 0)), (1, .int x), (2, .int v)]) hx hb dX4_inside_10 rfl hl (by decide) rfl (fun ls hl => ?_)
    refine lv_aload_nN hx hb dX4_inside_11 rfl (lv_at hl 0 rfl) ?_
    refine lv_ifnullN (tgt := 22) hx hb dX4_inside_12 (by decide) ?_
    refine lv_aload_n hx hb dX4_inside_22 rfl (lv_at hl 1 rfl) ?_
    refine lv_bipush (v := -2) hx hb dX4_inside_23 (by decide) ?_
    refine cy_callm (va_runV (As := [.int (-2)]) (rest := []) ⟨hx, hb, hml, hown, hts⟩ (c_X4_refuse l D cI cJ cO z n (cy_i σ 0 2 0) τ pl hi ad (-2)) (cwV 1 hts gX4_inside_X4_refuse rfl rfl rfl (by decide +kernel) ⟨Nat.le_of_ble_eq_true rfl, Nat.le_of_ble_eq_true rfl⟩) (cy_preV hK hI (cy_recv hK (hI.1 0 _ cy_CY).1 rfl)) rfl rfl hl.1 rfl (lv_room (Nat.le_of_ble_eq_true rfl)) dX4_inside_25 ⟨Nat.le_of_ble_eq_true rfl, Nat.le_of_ble_eq_true rfl⟩) hS (fun u H locs hI hz hS => ?_)
    have hI : cy_W D z (cy_CT cI cJ cO n n (cy_no (cy_i σ 0 2 0) (-2)) τ pl hi ad) ad H := hI
    refine W.eq (g2 := F0 m 28 ls [.int (-2)]) rfl ?_
    have E : cy_oInside n σ x v = ((-2), cy_no (cy_i σ 0 2 0) (-2)) := by simp [cy_oInside, cy_z, cy_tl_z, b1]
    rw [E]
    exact W.iret (v := (-2)) hx hb hr (fun t ht hW => ⟨(), rfl, by rw [ht]; exact hI, hS.F ht⟩) hS.2.2 dX4_inside_28
  · obtain ⟨kx, hkx, rfl⟩ := (cy_ld_iff hn _).mp b1
    have nekx := cy_ne1 (show kx < 2 ^ 31 by omega)
    refine cy_topq (cy_fd_t hn b1 hkx) ?_
    refine lv_astore_n (lv' := [(3, .ref (ad (100 + 2 * kx))), (0, .ref (ad 0)), (1, .int (nI kx)), (2, .int v)]) hx hb dX4_inside_10 rfl hl (by decide) rfl (fun ls hl => ?_)
    refine lv_aload_n hx hb dX4_inside_11 rfl (lv_at hl 0 rfl) ?_
    refine lv_ifnull hx hb dX4_inside_12 ?_
    refine lv_iload_n hx hb dX4_inside_15 rfl (lv_at hl 3 rfl) ?_
    refine cy_callp (v := .int (cy_b (cy_vw v))) (va_runS (As := [.int v]) (rest := []) ⟨hx, hb, hml, hown, hts⟩ (c_X4_isView l v) (va_cwS 1 hts gX4_inside_X4_isView rfl rfl rfl (by decide +kernel) ⟨Nat.le_of_ble_eq_true rfl, Nat.le_of_ble_eq_true rfl⟩) preEq rfl rfl hl.1 rfl (lv_room (Nat.le_of_ble_eq_true rfl)) dX4_inside_16 ⟨Nat.le_of_ble_eq_true rfl, Nat.le_of_ble_eq_true rfl⟩) ?_
    cases b2 : (cy_vw v)
    · refine lv_if_ne (tgt := 29) hx hb dX4_inside_19 (by decide) (fun h3 => absurd (by decide) h3) (fun h3 => ?_)
      refine lv_aload_n hx hb dX4_inside_22 rfl (lv_at hl 1 rfl) ?_
      refine lv_bipush (v := -2) hx hb dX4_inside_23 (by decide) ?_
      refine cy_callm (va_runV (As := [.int (-2)]) (rest := []) ⟨hx, hb, hml, hown, hts⟩ (c_X4_refuse l D cI cJ cO z n (cy_i σ 0 2 0) τ pl hi ad (-2)) (cwV 1 hts gX4_inside_X4_refuse rfl rfl rfl (by decide +kernel) ⟨Nat.le_of_ble_eq_true rfl, Nat.le_of_ble_eq_true rfl⟩) (cy_preV hK hI (cy_recv hK (hI.1 0 _ cy_CY).1 rfl)) rfl rfl hl.1 rfl (lv_room (Nat.le_of_ble_eq_true rfl)) dX4_inside_25 ⟨Nat.le_of_ble_eq_true rfl, Nat.le_of_ble_eq_true rfl⟩) hS (fun u H locs hI hz hS => ?_)
      have hI : cy_W D z (cy_CT cI cJ cO n n (cy_no (cy_i σ 0 2 0) (-2)) τ pl hi ad) ad H := hI
      refine W.eq (g2 := F0 m 28 ls [.int (-2)]) rfl ?_
      have E : cy_oInside n σ (nI kx) v = ((-2), cy_no (cy_i σ 0 2 0) (-2)) := by first | (simp [cy_oInside, cy_z, cy_tl_z, nI_clamp (show kx < 2 ^ 31 by omega), b1, b2]; done) | (simp [cy_oInside, cy_z, cy_tl_z, nI_clamp (show kx < 2 ^ 31 by omega), b1, b2]; simp [nekx]; done) | (simp [cy_oInside, cy_z, cy_tl_z, nI_clamp (show kx < 2 ^ 31 by omega), b1, b2, nekx]; done)
      rw [E]
      exact W.iret (v := (-2)) hx hb hr (fun t ht hW => ⟨(), rfl, by rw [ht]; exact hI, hS.F ht⟩) hS.2.2 dX4_inside_28
    · refine lv_if_ne (tgt := 29) hx hb dX4_inside_19 (by decide) (fun h4 => ?_) (fun h4 => absurd h4 (by decide))
      refine lv_aload_n hx hb dX4_inside_29 rfl (lv_at hl 0 rfl) ?_
      refine lv_iload_n hx hb dX4_inside_30 rfl (lv_at hl 3 rfl) ?_
      refine lv_iconst (v := 3) hx hb dX4_inside_31 (by decide) ?_
      refine cy_callp (v := .int (cy_tl (cy_i σ 0 2 0) v 3 kx)) (rest := []) (a := (.ref (ad (100 + 2 * kx)) :: [.int v, .int 3] : List Value).toArray) (by 
          rcases cy_kd3 hok hkx with hq | hq | hq
          · exact va_runU (As := [.int v, .int 3]) (rest := []) ⟨hx, hb, hml, hown, hts⟩ (c_X0_tally l D cI cJ cO z n (cy_i σ 0 2 0) τ pl hi ad hok kx hkx (fun q => absurd (hq.1.symm.trans q) (by decide)) v 3) (va_cwU 2 hts gX4_inside_X0_tally_u106X1 rfl rfl rfl rfl (by decide +kernel) ⟨Nat.le_of_ble_eq_true rfl, Nat.le_of_ble_eq_true rfl⟩) (cy_preV hK hI (cy_rv0 hK hI hkx hq.1)) rfl rfl hl.1 rfl (lv_room (Nat.le_of_ble_eq_true rfl)) dX4_inside_32 ⟨Nat.le_of_ble_eq_true rfl, Nat.le_of_ble_eq_true rfl⟩
          · exact va_runU (As := [.int v, .int 3]) (rest := []) ⟨hx, hb, hml, hown, hts⟩ (c_X0_tally l D cI cJ cO z n (cy_i σ 0 2 0) τ pl hi ad hok kx hkx (fun q => absurd (hq.1.symm.trans q) (by decide)) v 3) (va_cwU 2 hts gX4_inside_X0_tally_u106X2 rfl rfl rfl rfl (by decide +kernel) ⟨Nat.le_of_ble_eq_true rfl, Nat.le_of_ble_eq_true rfl⟩) (cy_preV hK hI (cy_rv1 hK hI hkx hq.1)) rfl rfl hl.1 rfl (lv_room (Nat.le_of_ble_eq_true rfl)) dX4_inside_32 ⟨Nat.le_of_ble_eq_true rfl, Nat.le_of_ble_eq_true rfl⟩
          · exact va_runU (As := [.int v, .int 3]) (rest := []) ⟨hx, hb, hml, hown, hts⟩ (c_X3_tally3 l D cI cJ cO z n (cy_i σ 0 2 0) τ pl hi ad hok kx hkx hq.1 (Nat.lt_succ_of_le (cy_rk2 hok hkx)) v) (va_cwO 2 hts gX4_inside_X3_tally_u106X3 rfl rfl rfl (b0 := cX0_tally) (m0 := 3) (r0 := some .int) (by decide +kernel) (by decide +kernel) ⟨Nat.le_of_ble_eq_true rfl, Nat.le_of_ble_eq_true rfl⟩) (cy_preV hK hI (cy_rv2 hK hI hkx hq.1)) rfl rfl hl.1 rfl (lv_room (Nat.le_of_ble_eq_true rfl)) dX4_inside_32 ⟨Nat.le_of_ble_eq_true rfl, Nat.le_of_ble_eq_true rfl⟩) ?_
      have E : cy_oInside n σ (nI kx) v = (cy_tl (cy_i σ 0 2 0) v 3 kx, cy_i σ 0 2 0) := by first | (simp [cy_oInside, cy_z, cy_tl_z, nI_clamp (show kx < 2 ^ 31 by omega), b1, b2]; done) | (simp [cy_oInside, cy_z, cy_tl_z, nI_clamp (show kx < 2 ^ 31 by omega), b1, b2]; simp [nekx]; done) | (simp [cy_oInside, cy_z, cy_tl_z, nI_clamp (show kx < 2 ^ 31 by omega), b1, b2, nekx]; done)
      rw [E]
      exact W.iret (v := cy_tl (cy_i σ 0 2 0) v 3 kx) hx hb hr (fun t ht hW => ⟨(), rfl, by rw [ht]; exact hI, hS.F ht⟩) hS.2.2 dX4_inside_35

set_option maxHeartbeats 4000000 in
set_option maxRecDepth 100000 in
theorem c_X4_hold (l : Launch) (D : va_G) (cI cJ cO : ClassId) (z n : Nat) (σ τ : cy_S) (pl : Nat → Int32) (hi : Int32) (ad : Nat → Nat) (hok : cy_ok n σ) (b x : Int32)  : Met l yX4_hold wsX4_hold { frames := 1, cells := 0, slots := 0, locals := 21 } (cy_P D cI cJ cO (fun H => cy_W D z (cy_CT cI cJ cO n n σ τ pl hi ad) ad H) [.ref (ad 0), .int b, .int x]) (cy_M (S := Unit) z (fun _ => some (.int (cy_oHold n σ b x).1)) (fun _ H => cy_W D z (cy_CT cI cJ cO n n (cy_oHold n σ b x).2 τ pl hi ad) ad H)) 0 0 (fun q => z ≤ q) := by
  refine Met.ofW (cc := cX4_hold) (maxL := 5) (ret := (some .int)) (by decide) rfl ?_
  intro p e s m args below meth c s₁ B hml hv
  obtain ⟨rfl, hK, hI⟩ := hv
  have hx := B.exec
  have hb := B.bytes
  have hr := B.returns
  have hts := atoms_spec (ws := wsX4_hold) B.pre
  have hown : s.vm.findClass RX4 = some m.cls := findClass_of_methodNamed B.named
  have hlocks := B.notSynchronized
  have hS : va_S (fun q => z ≤ q) s.heap s.heap [] := va_S.rf
  have hl := lv_entry ([.ref (ad 0), .int b, .int x]) (n := 5) (Nat.le_of_ble_eq_true rfl)
  rw [lg_entry_eq]
  generalize (lg_sl ([.ref (ad 0), .int b, .int x]) ++ List.replicate (5 - (lg_sl ([.ref (ad 0), .int b, .int x])).length) Slot.unset).toArray = ls at hl ⊢
  have hl : lv_has ls 5 [(0, .ref (ad 0)), (1, .int b), (2, .int x)] := hl
  have hin1 := hin1_X4_hold
  have hin2 := hin2_X4_hold
  have hin3 := hin3_X4_hold
  have hin4 := hin4_X4_hold
  have h0 := hok.2.1
  have hn := hok.1
  refine lv_aload_n hx hb dX4_hold_0 rfl (lv_at hl 0 rfl) ?_
  refine lv_iconst (v := 0) hx hb dX4_hold_1 (by decide) ?_
  refine cy_putY (v := 0) hx hb hts hin4 hown hK hI hS 8 2 (by decide) (hts (.fieldLink RX4 38 "CustomsYard" "refusal" "I") (by decide +kernel)) rfl (by decide +kernel) rfl dX4_hold_2 (fun H locs hI hS => ?_)
  refine lv_aload_n hx hb dX4_hold_5 rfl (lv_at hl 0 rfl) ?_
  refine lv_iload_n hx hb dX4_hold_6 rfl (lv_at hl 2 rfl) ?_
  refine cy_callp (v := va_rf (cy_fd n ad x)) (va_runV (As := [.int x]) (rest := []) ⟨hx, hb, hml, hown, hts⟩ (c_X4_find l D cI cJ cO z n (cy_i σ 0 2 0) τ pl hi ad hok x) (cwV 1 hts gX4_hold_X4_find rfl rfl rfl (by decide +kernel) ⟨Nat.le_of_ble_eq_true rfl, Nat.le_of_ble_eq_true rfl⟩) (cy_preV hK hI (cy_recv hK (hI.1 0 _ cy_CY).1 rfl)) rfl rfl hl.1 rfl (lv_room (Nat.le_of_ble_eq_true rfl)) dX4_hold_7 ⟨Nat.le_of_ble_eq_true rfl, Nat.le_of_ble_eq_true rfl⟩) ?_
  cases b1 : cy_ld n x
  · refine cy_topq (cy_fd_f b1) ?_
    refine lv_astore_nN (lv' := [(3, .null), (0, .ref (ad 0)), (1, .int b), (2, .int x)]) hx hb dX4_hold_10 rfl hl (by decide) rfl (fun ls hl => ?_)
    refine lv_iload_n hx hb dX4_hold_11 rfl (lv_at hl 2 rfl) ?_
    refine cy_callp (v := .int (cy_b (cy_isIn b 0 11))) (va_runS (As := [.int b]) (rest := []) ⟨hx, hb, hml, hown, hts⟩ (c_X4_isBay l b) (va_cwS 1 hts gX4_hold_X4_isBay rfl rfl rfl (by decide +kernel) ⟨Nat.le_of_ble_eq_true rfl, Nat.le_of_ble_eq_true rfl⟩) preEq rfl rfl hl.1 rfl (lv_room (Nat.le_of_ble_eq_true rfl)) dX4_hold_12 ⟨Nat.le_of_ble_eq_true rfl, Nat.le_of_ble_eq_true rfl⟩) ?_
    cases b2 : (cy_isIn b 0 11)
    · refine lv_if_eq (tgt := 27) hx hb dX4_hold_15 (by decide) (fun h3 => ?_) (fun h3 => absurd (by decide) h3)
      refine lv_aload_n hx hb dX4_hold_27 rfl (lv_at hl 1 rfl) ?_
      refine lv_bipush (v := -2) hx hb dX4_hold_28 (by decide) ?_
      refine cy_callm (va_runV (As := [.int (-2)]) (rest := []) ⟨hx, hb, hml, hown, hts⟩ (c_X4_refuse l D cI cJ cO z n (cy_i σ 0 2 0) τ pl hi ad (-2)) (cwV 1 hts gX4_hold_X4_refuse rfl rfl rfl (by decide +kernel) ⟨Nat.le_of_ble_eq_true rfl, Nat.le_of_ble_eq_true rfl⟩) (cy_preV hK hI (cy_recv hK (hI.1 0 _ cy_CY).1 rfl)) rfl rfl hl.1 rfl (lv_room (Nat.le_of_ble_eq_true rfl)) dX4_hold_30 ⟨Nat.le_of_ble_eq_true rfl, Nat.le_of_ble_eq_true rfl⟩) hS (fun u H locs hI hz hS => ?_)
      have hI : cy_W D z (cy_CT cI cJ cO n n (cy_no (cy_i σ 0 2 0) (-2)) τ pl hi ad) ad H := hI
      refine W.eq (g2 := F0 m 33 ls [.int (-2)]) rfl ?_
      have E : cy_oHold n σ b x = ((-2), cy_no (cy_i σ 0 2 0) (-2)) := by simp [cy_oHold, cy_z, b1, b2]
      rw [E]
      exact W.iret (v := (-2)) hx hb hr (fun t ht hW => ⟨(), rfl, by rw [ht]; exact hI, hS.F ht⟩) hS.2.2 dX4_hold_33
    · obtain ⟨j, hj, rfl⟩ := (cy_in12 _).mp b2
      refine lv_if_eq (tgt := 27) hx hb dX4_hold_15 (by decide) (fun h4 => absurd h4 (by decide)) (fun h4 => ?_)
      refine lv_aload_nN hx hb dX4_hold_18 rfl (lv_at hl 0 rfl) ?_
      refine lv_ifnonnullN hx hb dX4_hold_19 ?_
      refine lv_iload_n hx hb dX4_hold_22 rfl (lv_at hl 3 rfl) ?_
      refine lv_iconst (v := -1) hx hb dX4_hold_23 (by decide) ?_
      refine lv_icmp_eq (tgt := 34) hx hb dX4_hold_24 (by decide) (fun h5 => ?_) (fun h5 => ?_)
      · refine lv_aload_n hx hb dX4_hold_34 rfl (lv_at hl 1 rfl) ?_
        refine cy_getY (v := .ref (ad 2)) hx hb hts hin4 hown hK hI 2 (by decide) (hts (.fieldLink RX4 15 "CustomsYard" "bays" "[LCustomsYard$Load;") (by decide +kernel)) rfl dX4_hold_35 ?_
        refine lv_iload_n hx hb dX4_hold_38 rfl (lv_at hl 2 rfl) ?_
        refine cy_aald (k := j) (f := fun j => cy_rf ad (σ.1 5 j)) hx hb hK.1 hI 2 (x := 2) rfl rfl (by omega) (by decide) dX4_hold_39 ?_
        rcases hok.2.2.2.1 j hj with e6 | ⟨t0, ht0, e6⟩
        · refine cy_topq (cy_rf_n e6) ?_
          refine cy_callp (v := .int (-1)) (va_runS (As := [.null]) (rest := []) ⟨hx, hb, hml, hown, hts⟩ (c_X4_numberOfN l) (va_cwS 1 hts gX4_hold_X4_numberOf rfl rfl rfl (by decide +kernel) ⟨Nat.le_of_ble_eq_true rfl, Nat.le_of_ble_eq_true rfl⟩) preEq rfl rfl hl.1 rfl (lv_room (Nat.le_of_ble_eq_true rfl)) dX4_hold_40 ⟨Nat.le_of_ble_eq_true rfl, Nat.le_of_ble_eq_true rfl⟩) ?_
          refine lv_istore (lv' := [(4, .int (-1)), (3, .null), (0, .ref (ad 0)), (1, .int (nI j)), (2, .int x)]) hx hb dX4_hold_43 hl (by decide) rfl (fun ls hl => ?_)
          refine lv_aload_n hx hb dX4_hold_45 rfl (lv_at hl 2 rfl) ?_
          refine cy_getY (v := .ref (ad 2)) hx hb hts hin4 hown hK hI 2 (by decide) (hts (.fieldLink RX4 15 "CustomsYard" "bays" "[LCustomsYard$Load;") (by decide +kernel)) rfl dX4_hold_46 ?_
          refine lv_iload_n hx hb dX4_hold_49 rfl (lv_at hl 3 rfl) ?_
          refine lv_aload_nN hx hb dX4_hold_50 rfl (lv_at hl 1 rfl) ?_
          refine cy_stBN (j := j) hx hb hK hI hS (by omega) dX4_hold_51 (fun H locs hI hS => ?_)
          refine lv_iload hx hb dX4_hold_52 (lv_at hl 0 rfl) ?_
          have E : cy_oHold n σ (nI j) x = ((-1), cy_i (cy_i σ 0 2 0) 5 j (-1)) := by first | (simp [cy_oHold, cy_z, nI_clamp (show j < 2 ^ 31 by omega), b1, b2]; done) | (simp [cy_oHold, cy_z, nI_clamp (show j < 2 ^ 31 by omega), b1, b2]; simp [h5, e6]; done) | (simp [cy_oHold, cy_z, nI_clamp (show j < 2 ^ 31 by omega), b1, b2, h5, e6]; done)
          rw [E]
          exact W.iret (v := (-1)) hx hb hr (fun t ht hW => ⟨(), rfl, by rw [ht]; exact hI, hS.F ht⟩) hS.2.2 dX4_hold_54
        · have ne0 := cy_ne1 (show t0 < 2 ^ 31 by omega)
          refine cy_topq (cy_rf_s (by omega) e6) ?_
          refine cy_callp (v := .int (nI t0)) (va_runS (As := [.ref (ad (100 + 2 * t0))]) (rest := []) ⟨hx, hb, hml, hown, hts⟩ (c_X4_numberOf l D cI cJ cO z n (cy_i σ 0 2 0) τ pl hi ad hok t0 ht0) (va_cwS 1 hts gX4_hold_X4_numberOf rfl rfl rfl (by decide +kernel) ⟨Nat.le_of_ble_eq_true rfl, Nat.le_of_ble_eq_true rfl⟩) (cy_preS hK hI) rfl rfl hl.1 rfl (lv_room (Nat.le_of_ble_eq_true rfl)) dX4_hold_40 ⟨Nat.le_of_ble_eq_true rfl, Nat.le_of_ble_eq_true rfl⟩) ?_
          refine lv_istore (lv' := [(4, .int (nI t0)), (3, .null), (0, .ref (ad 0)), (1, .int (nI j)), (2, .int x)]) hx hb dX4_hold_43 hl (by decide) rfl (fun ls hl => ?_)
          refine lv_aload_n hx hb dX4_hold_45 rfl (lv_at hl 2 rfl) ?_
          refine cy_getY (v := .ref (ad 2)) hx hb hts hin4 hown hK hI 2 (by decide) (hts (.fieldLink RX4 15 "CustomsYard" "bays" "[LCustomsYard$Load;") (by decide +kernel)) rfl dX4_hold_46 ?_
          refine lv_iload_n hx hb dX4_hold_49 rfl (lv_at hl 3 rfl) ?_
          refine lv_aload_nN hx hb dX4_hold_50 rfl (lv_at hl 1 rfl) ?_
          refine cy_stBN (j := j) hx hb hK hI hS (by omega) dX4_hold_51 (fun H locs hI hS => ?_)
          refine lv_iload hx hb dX4_hold_52 (lv_at hl 0 rfl) ?_
          have E : cy_oHold n σ (nI j) x = (nI t0, cy_i (cy_i σ 0 2 0) 5 j (-1)) := by first | (simp [cy_oHold, cy_z, nI_clamp (show j < 2 ^ 31 by omega), nI_clamp (show t0 < 2 ^ 31 by omega), b1, b2]; done) | (simp [cy_oHold, cy_z, nI_clamp (show j < 2 ^ 31 by omega), nI_clamp (show t0 < 2 ^ 31 by omega), b1, b2]; simp [h5, e6, ne0]; done) | (simp [cy_oHold, cy_z, nI_clamp (show j < 2 ^ 31 by omega), nI_clamp (show t0 < 2 ^ 31 by omega), b1, b2, h5, e6, ne0]; done)
          rw [E]
          exact W.iret (v := nI t0) hx hb hr (fun t ht hW => ⟨(), rfl, by rw [ht]; exact hI, hS.F ht⟩) hS.2.2 dX4_hold_54
      · refine lv_aload_n hx hb dX4_hold_27 rfl (lv_at hl 1 rfl) ?_
        refine lv_bipush (v := -2) hx hb dX4_hold_28 (by decide) ?_
        refine cy_callm (va_runV (As := [.int (-2)]) (rest := []) ⟨hx, hb, hml, hown, hts⟩ (c_X4_refuse l D cI cJ cO z n (cy_i σ 0 2 0) τ pl hi ad (-2)) (cwV 1 hts gX4_hold_X4_refuse rfl rfl rfl (by decide +kernel) ⟨Nat.le_of_ble_eq_true rfl, Nat.le_of_ble_eq_true rfl⟩) (cy_preV hK hI (cy_recv hK (hI.1 0 _ cy_CY).1 rfl)) rfl rfl hl.1 rfl (lv_room (Nat.le_of_ble_eq_true rfl)) dX4_hold_30 ⟨Nat.le_of_ble_eq_true rfl, Nat.le_of_ble_eq_true rfl⟩) hS (fun u H locs hI hz hS => ?_)
        have hI : cy_W D z (cy_CT cI cJ cO n n (cy_no (cy_i σ 0 2 0) (-2)) τ pl hi ad) ad H := hI
        refine W.eq (g2 := F0 m 33 ls [.int (-2)]) rfl ?_
        have E : cy_oHold n σ (nI j) x = ((-2), cy_no (cy_i σ 0 2 0) (-2)) := by first | (simp [cy_oHold, cy_z, nI_clamp (show j < 2 ^ 31 by omega), b1, b2]; done) | (simp [cy_oHold, cy_z, nI_clamp (show j < 2 ^ 31 by omega), b1, b2]; simp [h5]; done) | (simp [cy_oHold, cy_z, nI_clamp (show j < 2 ^ 31 by omega), b1, b2, h5]; done)
        rw [E]
        exact W.iret (v := (-2)) hx hb hr (fun t ht hW => ⟨(), rfl, by rw [ht]; exact hI, hS.F ht⟩) hS.2.2 dX4_hold_33
  · obtain ⟨kx, hkx, rfl⟩ := (cy_ld_iff hn _).mp b1
    have nekx := cy_ne1 (show kx < 2 ^ 31 by omega)
    refine cy_topq (cy_fd_t hn b1 hkx) ?_
    refine lv_astore_n (lv' := [(3, .ref (ad (100 + 2 * kx))), (0, .ref (ad 0)), (1, .int b), (2, .int (nI kx))]) hx hb dX4_hold_10 rfl hl (by decide) rfl (fun ls hl => ?_)
    refine lv_iload_n hx hb dX4_hold_11 rfl (lv_at hl 2 rfl) ?_
    refine cy_callp (v := .int (cy_b (cy_isIn b 0 11))) (va_runS (As := [.int b]) (rest := []) ⟨hx, hb, hml, hown, hts⟩ (c_X4_isBay l b) (va_cwS 1 hts gX4_hold_X4_isBay rfl rfl rfl (by decide +kernel) ⟨Nat.le_of_ble_eq_true rfl, Nat.le_of_ble_eq_true rfl⟩) preEq rfl rfl hl.1 rfl (lv_room (Nat.le_of_ble_eq_true rfl)) dX4_hold_12 ⟨Nat.le_of_ble_eq_true rfl, Nat.le_of_ble_eq_true rfl⟩) ?_
    cases b7 : (cy_isIn b 0 11)
    · refine lv_if_eq (tgt := 27) hx hb dX4_hold_15 (by decide) (fun h8 => ?_) (fun h8 => absurd (by decide) h8)
      refine lv_aload_n hx hb dX4_hold_27 rfl (lv_at hl 1 rfl) ?_
      refine lv_bipush (v := -2) hx hb dX4_hold_28 (by decide) ?_
      refine cy_callm (va_runV (As := [.int (-2)]) (rest := []) ⟨hx, hb, hml, hown, hts⟩ (c_X4_refuse l D cI cJ cO z n (cy_i σ 0 2 0) τ pl hi ad (-2)) (cwV 1 hts gX4_hold_X4_refuse rfl rfl rfl (by decide +kernel) ⟨Nat.le_of_ble_eq_true rfl, Nat.le_of_ble_eq_true rfl⟩) (cy_preV hK hI (cy_recv hK (hI.1 0 _ cy_CY).1 rfl)) rfl rfl hl.1 rfl (lv_room (Nat.le_of_ble_eq_true rfl)) dX4_hold_30 ⟨Nat.le_of_ble_eq_true rfl, Nat.le_of_ble_eq_true rfl⟩) hS (fun u H locs hI hz hS => ?_)
      have hI : cy_W D z (cy_CT cI cJ cO n n (cy_no (cy_i σ 0 2 0) (-2)) τ pl hi ad) ad H := hI
      refine W.eq (g2 := F0 m 33 ls [.int (-2)]) rfl ?_
      have E : cy_oHold n σ b (nI kx) = ((-2), cy_no (cy_i σ 0 2 0) (-2)) := by first | (simp [cy_oHold, cy_z, nI_clamp (show kx < 2 ^ 31 by omega), b1, b7]; done) | (simp [cy_oHold, cy_z, nI_clamp (show kx < 2 ^ 31 by omega), b1, b7]; simp [nekx]; done) | (simp [cy_oHold, cy_z, nI_clamp (show kx < 2 ^ 31 by omega), b1, b7, nekx]; done)
      rw [E]
      exact W.iret (v := (-2)) hx hb hr (fun t ht hW => ⟨(), rfl, by rw [ht]; exact hI, hS.F ht⟩) hS.2.2 dX4_hold_33
    · obtain ⟨j, hj, rfl⟩ := (cy_in12 _).mp b7
      refine lv_if_eq (tgt := 27) hx hb dX4_hold_15 (by decide) (fun h9 => absurd h9 (by decide)) (fun h9 => ?_)
      refine lv_aload_n hx hb dX4_hold_18 rfl (lv_at hl 0 rfl) ?_
      refine lv_ifnonnull (tgt := 34) hx hb dX4_hold_19 (by decide) ?_
      refine lv_aload_n hx hb dX4_hold_34 rfl (lv_at hl 1 rfl) ?_
      refine cy_getY (v := .ref (ad 2)) hx hb hts hin4 hown hK hI 2 (by decide) (hts (.fieldLink RX4 15 "CustomsYard" "bays" "[LCustomsYard$Load;") (by decide +kernel)) rfl dX4_hold_35 ?_
      refine lv_iload_n hx hb dX4_hold_38 rfl (lv_at hl 2 rfl) ?_
      refine cy_aald (k := j) (f := fun j => cy_rf ad (σ.1 5 j)) hx hb hK.1 hI 2 (x := 2) rfl rfl (by omega) (by decide) dX4_hold_39 ?_
      rcases hok.2.2.2.1 j hj with e10 | ⟨t0, ht0, e10⟩
      · refine cy_topq (cy_rf_n e10) ?_
        refine cy_callp (v := .int (-1)) (va_runS (As := [.null]) (rest := []) ⟨hx, hb, hml, hown, hts⟩ (c_X4_numberOfN l) (va_cwS 1 hts gX4_hold_X4_numberOf rfl rfl rfl (by decide +kernel) ⟨Nat.le_of_ble_eq_true rfl, Nat.le_of_ble_eq_true rfl⟩) preEq rfl rfl hl.1 rfl (lv_room (Nat.le_of_ble_eq_true rfl)) dX4_hold_40 ⟨Nat.le_of_ble_eq_true rfl, Nat.le_of_ble_eq_true rfl⟩) ?_
        refine lv_istore (lv' := [(4, .int (-1)), (3, .ref (ad (100 + 2 * kx))), (0, .ref (ad 0)), (1, .int (nI j)), (2, .int (nI kx))]) hx hb dX4_hold_43 hl (by decide) rfl (fun ls hl => ?_)
        refine lv_aload_n hx hb dX4_hold_45 rfl (lv_at hl 2 rfl) ?_
        refine cy_getY (v := .ref (ad 2)) hx hb hts hin4 hown hK hI 2 (by decide) (hts (.fieldLink RX4 15 "CustomsYard" "bays" "[LCustomsYard$Load;") (by decide +kernel)) rfl dX4_hold_46 ?_
        refine lv_iload_n hx hb dX4_hold_49 rfl (lv_at hl 3 rfl) ?_
        refine lv_aload_n hx hb dX4_hold_50 rfl (lv_at hl 1 rfl) ?_
        refine cy_stB (j := j) (t := kx) hx hb hK hI hS (by omega) hkx hn dX4_hold_51 (fun H locs hI hS => ?_)
        refine lv_iload hx hb dX4_hold_52 (lv_at hl 0 rfl) ?_
        have E : cy_oHold n σ (nI j) (nI kx) = ((-1), cy_i (cy_i σ 0 2 0) 5 j (nI kx)) := by first | (simp [cy_oHold, cy_z, nI_clamp (show kx < 2 ^ 31 by omega), nI_clamp (show j < 2 ^ 31 by omega), b1, b7]; done) | (simp [cy_oHold, cy_z, nI_clamp (show kx < 2 ^ 31 by omega), nI_clamp (show j < 2 ^ 31 by omega), b1, b7]; simp [nekx, e10]; done) | (simp [cy_oHold, cy_z, nI_clamp (show kx < 2 ^ 31 by omega), nI_clamp (show j < 2 ^ 31 by omega), b1, b7, nekx, e10]; done)
        rw [E]
        exact W.iret (v := (-1)) hx hb hr (fun t ht hW => ⟨(), rfl, by rw [ht]; exact hI, hS.F ht⟩) hS.2.2 dX4_hold_54
      · have ne0 := cy_ne1 (show t0 < 2 ^ 31 by omega)
        refine cy_topq (cy_rf_s (by omega) e10) ?_
        refine cy_callp (v := .int (nI t0)) (va_runS (As := [.ref (ad (100 + 2 * t0))]) (rest := []) ⟨hx, hb, hml, hown, hts⟩ (c_X4_numberOf l D cI cJ cO z n (cy_i σ 0 2 0) τ pl hi ad hok t0 ht0) (va_cwS 1 hts gX4_hold_X4_numberOf rfl rfl rfl (by decide +kernel) ⟨Nat.le_of_ble_eq_true rfl, Nat.le_of_ble_eq_true rfl⟩) (cy_preS hK hI) rfl rfl hl.1 rfl (lv_room (Nat.le_of_ble_eq_true rfl)) dX4_hold_40 ⟨Nat.le_of_ble_eq_true rfl, Nat.le_of_ble_eq_true rfl⟩) ?_
        refine lv_istore (lv' := [(4, .int (nI t0)), (3, .ref (ad (100 + 2 * kx))), (0, .ref (ad 0)), (1, .int (nI j)), (2, .int (nI kx))]) hx hb dX4_hold_43 hl (by decide) rfl (fun ls hl => ?_)
        refine lv_aload_n hx hb dX4_hold_45 rfl (lv_at hl 2 rfl) ?_
        refine cy_getY (v := .ref (ad 2)) hx hb hts hin4 hown hK hI 2 (by decide) (hts (.fieldLink RX4 15 "CustomsYard" "bays" "[LCustomsYard$Load;") (by decide +kernel)) rfl dX4_hold_46 ?_
        refine lv_iload_n hx hb dX4_hold_49 rfl (lv_at hl 3 rfl) ?_
        refine lv_aload_n hx hb dX4_hold_50 rfl (lv_at hl 1 rfl) ?_
        refine cy_stB (j := j) (t := kx) hx hb hK hI hS (by omega) hkx hn dX4_hold_51 (fun H locs hI hS => ?_)
        refine lv_iload hx hb dX4_hold_52 (lv_at hl 0 rfl) ?_
        have E : cy_oHold n σ (nI j) (nI kx) = (nI t0, cy_i (cy_i σ 0 2 0) 5 j (nI kx)) := by first | (simp [cy_oHold, cy_z, nI_clamp (show kx < 2 ^ 31 by omega), nI_clamp (show j < 2 ^ 31 by omega), nI_clamp (show t0 < 2 ^ 31 by omega), b1, b7]; done) | (simp [cy_oHold, cy_z, nI_clamp (show kx < 2 ^ 31 by omega), nI_clamp (show j < 2 ^ 31 by omega), nI_clamp (show t0 < 2 ^ 31 by omega), b1, b7]; simp [nekx, e10, ne0]; done) | (simp [cy_oHold, cy_z, nI_clamp (show kx < 2 ^ 31 by omega), nI_clamp (show j < 2 ^ 31 by omega), nI_clamp (show t0 < 2 ^ 31 by omega), b1, b7, nekx, e10, ne0]; done)
        rw [E]
        exact W.iret (v := nI t0) hx hb hr (fun t ht hW => ⟨(), rfl, by rw [ht]; exact hI, hS.F ht⟩) hS.2.2 dX4_hold_54

set_option maxHeartbeats 4000000 in
set_option maxRecDepth 100000 in
theorem c_X4_bay (l : Launch) (D : va_G) (cI cJ cO : ClassId) (z n : Nat) (σ τ : cy_S) (pl : Nat → Int32) (hi : Int32) (ad : Nat → Nat) (hok : cy_ok n σ) (b v : Int32)  : Met l yX4_bay wsX4_bay { frames := 3, cells := 0, slots := 0, locals := 63 } (cy_P D cI cJ cO (fun H => cy_W D z (cy_CT cI cJ cO n n σ τ pl hi ad) ad H) [.ref (ad 0), .int b, .int v]) (cy_M (S := Unit) z (fun _ => some (.int (cy_oBay σ b v).1)) (fun _ H => cy_W D z (cy_CT cI cJ cO n n (cy_oBay σ b v).2 τ pl hi ad) ad H)) 0 0 (fun q => z ≤ q) := by
  refine Met.ofW (cc := cX4_bay) (maxL := 4) (ret := (some .int)) (by decide) rfl ?_
  intro p e s m args below meth c s₁ B hml hv
  obtain ⟨rfl, hK, hI⟩ := hv
  have hx := B.exec
  have hb := B.bytes
  have hr := B.returns
  have hts := atoms_spec (ws := wsX4_bay) B.pre
  have hown : s.vm.findClass RX4 = some m.cls := findClass_of_methodNamed B.named
  have hlocks := B.notSynchronized
  have hS : va_S (fun q => z ≤ q) s.heap s.heap [] := va_S.rf
  have hl := lv_entry ([.ref (ad 0), .int b, .int v]) (n := 4) (Nat.le_of_ble_eq_true rfl)
  rw [lg_entry_eq]
  generalize (lg_sl ([.ref (ad 0), .int b, .int v]) ++ List.replicate (4 - (lg_sl ([.ref (ad 0), .int b, .int v])).length) Slot.unset).toArray = ls at hl ⊢
  have hl : lv_has ls 4 [(0, .ref (ad 0)), (1, .int b), (2, .int v)] := hl
  have hin1 := hin1_X4_bay
  have hin2 := hin2_X4_bay
  have hin3 := hin3_X4_bay
  have hin4 := hin4_X4_bay
  have h0 := hok.2.1
  have hn := hok.1
  refine lv_aload_n hx hb dX4_bay_0 rfl (lv_at hl 0 rfl) ?_
  refine lv_iconst (v := 0) hx hb dX4_bay_1 (by decide) ?_
  refine cy_putY (v := 0) hx hb hts hin4 hown hK hI hS 8 2 (by decide) (hts (.fieldLink RX4 38 "CustomsYard" "refusal" "I") (by decide +kernel)) rfl (by decide +kernel) rfl dX4_bay_2 (fun H locs hI hS => ?_)
  refine lv_iload_n hx hb dX4_bay_5 rfl (lv_at hl 1 rfl) ?_
  refine cy_callp (v := .int (cy_b (cy_isIn b 0 11))) (va_runS (As := [.int b]) (rest := []) ⟨hx, hb, hml, hown, hts⟩ (c_X4_isBay l b) (va_cwS 1 hts gX4_bay_X4_isBay rfl rfl rfl (by decide +kernel) ⟨Nat.le_of_ble_eq_true rfl, Nat.le_of_ble_eq_true rfl⟩) preEq rfl rfl hl.1 rfl (lv_room (Nat.le_of_ble_eq_true rfl)) dX4_bay_6 ⟨Nat.le_of_ble_eq_true rfl, Nat.le_of_ble_eq_true rfl⟩) ?_
  cases b1 : (cy_isIn b 0 11)
  · refine lv_if_eq (tgt := 19) hx hb dX4_bay_9 (by decide) (fun h2 => ?_) (fun h2 => absurd (by decide) h2)
    refine lv_aload_n hx hb dX4_bay_19 rfl (lv_at hl 0 rfl) ?_
    refine lv_bipush (v := -2) hx hb dX4_bay_20 (by decide) ?_
    refine cy_callm (va_runV (As := [.int (-2)]) (rest := []) ⟨hx, hb, hml, hown, hts⟩ (c_X4_refuse l D cI cJ cO z n (cy_i σ 0 2 0) τ pl hi ad (-2)) (cwV 1 hts gX4_bay_X4_refuse rfl rfl rfl (by decide +kernel) ⟨Nat.le_of_ble_eq_true rfl, Nat.le_of_ble_eq_true rfl⟩) (cy_preV hK hI (cy_recv hK (hI.1 0 _ cy_CY).1 rfl)) rfl rfl hl.1 rfl (lv_room (Nat.le_of_ble_eq_true rfl)) dX4_bay_22 ⟨Nat.le_of_ble_eq_true rfl, Nat.le_of_ble_eq_true rfl⟩) hS (fun u H locs hI hz hS => ?_)
    have hI : cy_W D z (cy_CT cI cJ cO n n (cy_no (cy_i σ 0 2 0) (-2)) τ pl hi ad) ad H := hI
    refine W.eq (g2 := F0 m 25 ls [.int (-2)]) rfl ?_
    have E : cy_oBay σ b v = ((-2), cy_no (cy_i σ 0 2 0) (-2)) := by simp [cy_oBay, cy_z, cy_co_z, b1]
    rw [E]
    exact W.iret (v := (-2)) hx hb hr (fun t ht hW => ⟨(), rfl, by rw [ht]; exact hI, hS.F ht⟩) hS.2.2 dX4_bay_25
  · obtain ⟨j, hj, rfl⟩ := (cy_in12 _).mp b1
    refine lv_if_eq (tgt := 19) hx hb dX4_bay_9 (by decide) (fun h3 => absurd h3 (by decide)) (fun h3 => ?_)
    refine lv_iload_n hx hb dX4_bay_12 rfl (lv_at hl 2 rfl) ?_
    refine cy_callp (v := .int (cy_b (cy_vw v))) (va_runS (As := [.int v]) (rest := []) ⟨hx, hb, hml, hown, hts⟩ (c_X4_isView l v) (va_cwS 1 hts gX4_bay_X4_isView rfl rfl rfl (by decide +kernel) ⟨Nat.le_of_ble_eq_true rfl, Nat.le_of_ble_eq_true rfl⟩) preEq rfl rfl hl.1 rfl (lv_room (Nat.le_of_ble_eq_true rfl)) dX4_bay_13 ⟨Nat.le_of_ble_eq_true rfl, Nat.le_of_ble_eq_true rfl⟩) ?_
    cases b4 : (cy_vw v)
    · refine lv_if_ne (tgt := 26) hx hb dX4_bay_16 (by decide) (fun h5 => absurd (by decide) h5) (fun h5 => ?_)
      refine lv_aload_n hx hb dX4_bay_19 rfl (lv_at hl 0 rfl) ?_
      refine lv_bipush (v := -2) hx hb dX4_bay_20 (by decide) ?_
      refine cy_callm (va_runV (As := [.int (-2)]) (rest := []) ⟨hx, hb, hml, hown, hts⟩ (c_X4_refuse l D cI cJ cO z n (cy_i σ 0 2 0) τ pl hi ad (-2)) (cwV 1 hts gX4_bay_X4_refuse rfl rfl rfl (by decide +kernel) ⟨Nat.le_of_ble_eq_true rfl, Nat.le_of_ble_eq_true rfl⟩) (cy_preV hK hI (cy_recv hK (hI.1 0 _ cy_CY).1 rfl)) rfl rfl hl.1 rfl (lv_room (Nat.le_of_ble_eq_true rfl)) dX4_bay_22 ⟨Nat.le_of_ble_eq_true rfl, Nat.le_of_ble_eq_true rfl⟩) hS (fun u H locs hI hz hS => ?_)
      have hI : cy_W D z (cy_CT cI cJ cO n n (cy_no (cy_i σ 0 2 0) (-2)) τ pl hi ad) ad H := hI
      refine W.eq (g2 := F0 m 25 ls [.int (-2)]) rfl ?_
      have E : cy_oBay σ (nI j) v = ((-2), cy_no (cy_i σ 0 2 0) (-2)) := by simp [cy_oBay, cy_z, cy_co_z, nI_clamp (show j < 2 ^ 31 by omega), b1, b4]
      rw [E]
      exact W.iret (v := (-2)) hx hb hr (fun t ht hW => ⟨(), rfl, by rw [ht]; exact hI, hS.F ht⟩) hS.2.2 dX4_bay_25
    · refine lv_if_ne (tgt := 26) hx hb dX4_bay_16 (by decide) (fun h6 => ?_) (fun h6 => absurd h6 (by decide))
      refine lv_aload_n hx hb dX4_bay_26 rfl (lv_at hl 0 rfl) ?_
      refine cy_getY (v := .ref (ad 2)) hx hb hts hin4 hown hK hI 2 (by decide) (hts (.fieldLink RX4 15 "CustomsYard" "bays" "[LCustomsYard$Load;") (by decide +kernel)) rfl dX4_bay_27 ?_
      refine lv_iload_n hx hb dX4_bay_30 rfl (lv_at hl 1 rfl) ?_
      refine cy_aald (k := j) (f := fun j => cy_rf ad (σ.1 5 j)) hx hb hK.1 hI 2 (x := 2) rfl rfl (by omega) (by decide) dX4_bay_31 ?_
      rcases hok.2.2.2.1 j hj with e7 | ⟨t0, ht0, e7⟩
      · refine cy_topq (cy_rf_n e7) ?_
        refine lv_astore_nN (lv' := [(3, .null), (0, .ref (ad 0)), (1, .int (nI j)), (2, .int v)]) hx hb dX4_bay_32 rfl hl (by decide) rfl (fun ls hl => ?_)
        refine lv_aload_nN hx hb dX4_bay_33 rfl (lv_at hl 0 rfl) ?_
        refine lv_ifnonnullN hx hb dX4_bay_34 ?_
        refine lv_iconst (v := -1) hx hb dX4_bay_37 (by decide) ?_
        have E : cy_oBay σ (nI j) v = ((-1), cy_i σ 0 2 0) := by first | (simp [cy_oBay, cy_z, cy_co_z, nI_clamp (show j < 2 ^ 31 by omega), b1, b4]; done) | (simp [cy_oBay, cy_z, cy_co_z, nI_clamp (show j < 2 ^ 31 by omega), b1, b4]; simp [e7]; done) | (simp [cy_oBay, cy_z, cy_co_z, nI_clamp (show j < 2 ^ 31 by omega), b1, b4, e7]; done)
        rw [E]
        exact W.iret (v := (-1)) hx hb hr (fun t ht hW => ⟨(), rfl, by rw [ht]; exact hI, hS.F ht⟩) hS.2.2 dX4_bay_38
      · have ne0 := cy_ne1 (show t0 < 2 ^ 31 by omega)
        refine cy_topq (cy_rf_s (by omega) e7) ?_
        refine lv_astore_n (lv' := [(3, .ref (ad (100 + 2 * t0))), (0, .ref (ad 0)), (1, .int (nI j)), (2, .int v)]) hx hb dX4_bay_32 rfl hl (by decide) rfl (fun ls hl => ?_)
        refine lv_aload_n hx hb dX4_bay_33 rfl (lv_at hl 0 rfl) ?_
        refine lv_ifnonnull (tgt := 39) hx hb dX4_bay_34 (by decide) ?_
        refine lv_aload_n hx hb dX4_bay_39 rfl (lv_at hl 1 rfl) ?_
        refine lv_aload_n hx hb dX4_bay_40 rfl (lv_at hl 0 rfl) ?_
        refine lv_iload_n hx hb dX4_bay_41 rfl (lv_at hl 3 rfl) ?_
        cases bg : cy_go (σ.1 1 t0) v
        · have c1 := c_X4_takeAs l D cI cJ cO z n (cy_i σ 0 2 0) τ pl hi ad hok t0 ht0 v
          rw [show cy_ta (cy_i σ 0 2 0) t0 v = ((-4), cy_no (cy_i σ 0 2 0) (-4)) from by unfold cy_ta; rw [if_pos (show cy_go ((cy_i σ 0 2 0).1 1 t0) v = false from bg)]] at c1
          refine cy_callm (va_runV (As := [.ref (ad (100 + 2 * t0)), .int v]) (rest := []) ⟨hx, hb, hml, hown, hts⟩ (c1) (cwV 2 hts gX4_bay_X4_takeAs rfl rfl rfl (by decide +kernel) ⟨Nat.le_of_ble_eq_true rfl, Nat.le_of_ble_eq_true rfl⟩) (cy_preV hK hI (cy_recv hK (hI.1 0 _ cy_CY).1 rfl)) rfl rfl hl.1 rfl (lv_room (Nat.le_of_ble_eq_true rfl)) dX4_bay_42 ⟨Nat.le_of_ble_eq_true rfl, Nat.le_of_ble_eq_true rfl⟩) hS (fun u H locs hI hz hS => ?_)
          have hI : cy_W D z (cy_CT cI cJ cO n n (cy_no (cy_i σ 0 2 0) (-4)) τ pl hi ad) ad H := hI
          refine W.eq (g2 := F0 m 45 ls [.int (-4)]) rfl ?_
          have E : cy_oBay σ (nI j) v = ((-4), cy_no (cy_i σ 0 2 0) (-4)) := by first | (simp [cy_oBay, cy_z, cy_co_z, nI_clamp (show j < 2 ^ 31 by omega), nI_clamp (show t0 < 2 ^ 31 by omega), b1, b4, bg]; done) | (simp [cy_oBay, cy_z, cy_co_z, nI_clamp (show j < 2 ^ 31 by omega), nI_clamp (show t0 < 2 ^ 31 by omega), b1, b4, bg]; simp [e7, ne0]; done) | (simp [cy_oBay, cy_z, cy_co_z, nI_clamp (show j < 2 ^ 31 by omega), nI_clamp (show t0 < 2 ^ 31 by omega), b1, b4, bg, e7, ne0]; done)
          rw [E]
          exact W.iret (v := (-4)) hx hb hr (fun t ht hW => ⟨(), rfl, by rw [ht]; exact hI, hS.F ht⟩) hS.2.2 dX4_bay_45
        · have c1 := c_X4_takeAs l D cI cJ cO z n (cy_i σ 0 2 0) τ pl hi ad hok t0 ht0 v
          rw [show cy_ta (cy_i σ 0 2 0) t0 v = (cy_co (cy_i σ 0 2 0) t0 v, cy_i σ 0 2 0) from by unfold cy_ta; rw [if_neg (fun q => by rw [show cy_go ((cy_i σ 0 2 0).1 1 t0) v = true from bg] at q; cases q)]] at c1
          refine cy_callm (va_runV (As := [.ref (ad (100 + 2 * t0)), .int v]) (rest := []) ⟨hx, hb, hml, hown, hts⟩ (c1) (cwV 2 hts gX4_bay_X4_takeAs rfl rfl rfl (by decide +kernel) ⟨Nat.le_of_ble_eq_true rfl, Nat.le_of_ble_eq_true rfl⟩) (cy_preV hK hI (cy_recv hK (hI.1 0 _ cy_CY).1 rfl)) rfl rfl hl.1 rfl (lv_room (Nat.le_of_ble_eq_true rfl)) dX4_bay_42 ⟨Nat.le_of_ble_eq_true rfl, Nat.le_of_ble_eq_true rfl⟩) hS (fun u H locs hI hz hS => ?_)
          have hI : cy_W D z (cy_CT cI cJ cO n n (cy_i σ 0 2 0) τ pl hi ad) ad H := hI
          refine W.eq (g2 := F0 m 45 ls [.int (cy_co (cy_i σ 0 2 0) t0 v)]) rfl ?_
          have E : cy_oBay σ (nI j) v = (cy_co (cy_i σ 0 2 0) t0 v, cy_i σ 0 2 0) := by first | (simp [cy_oBay, cy_z, cy_co_z, nI_clamp (show j < 2 ^ 31 by omega), nI_clamp (show t0 < 2 ^ 31 by omega), b1, b4, bg]; done) | (simp [cy_oBay, cy_z, cy_co_z, nI_clamp (show j < 2 ^ 31 by omega), nI_clamp (show t0 < 2 ^ 31 by omega), b1, b4, bg]; simp [e7, ne0]; done) | (simp [cy_oBay, cy_z, cy_co_z, nI_clamp (show j < 2 ^ 31 by omega), nI_clamp (show t0 < 2 ^ 31 by omega), b1, b4, bg, e7, ne0]; done)
          rw [E]
          exact W.iret (v := cy_co (cy_i σ 0 2 0) t0 v) hx hb hr (fun t ht hW => ⟨(), rfl, by rw [ht]; exact hI, hS.F ht⟩) hS.2.2 dX4_bay_45

set_option maxHeartbeats 4000000 in
set_option maxRecDepth 100000 in
theorem c_X4_gate (l : Launch) (D : va_G) (cI cJ cO : ClassId) (z n : Nat) (σ τ : cy_S) (pl : Nat → Int32) (hi : Int32) (ad : Nat → Nat) (hok : cy_ok n σ) (g v : Int32)  : Met l yX4_gate wsX4_gate { frames := 1, cells := 0, slots := 0, locals := 21 } (cy_P D cI cJ cO (fun H => cy_W D z (cy_CT cI cJ cO n n σ τ pl hi ad) ad H) [.ref (ad 0), .int g, .int v]) (cy_M (S := Unit) z (fun _ => some (.int (cy_oGate σ g v).1)) (fun _ H => cy_W D z (cy_CT cI cJ cO n n (cy_oGate σ g v).2 τ pl hi ad) ad H)) 0 0 (fun q => z ≤ q) := by
  refine Met.ofW (cc := cX4_gate) (maxL := 4) (ret := (some .int)) (by decide) rfl ?_
  intro p e s m args below meth c s₁ B hml hv
  obtain ⟨rfl, hK, hI⟩ := hv
  have hx := B.exec
  have hb := B.bytes
  have hr := B.returns
  have hts := atoms_spec (ws := wsX4_gate) B.pre
  have hown : s.vm.findClass RX4 = some m.cls := findClass_of_methodNamed B.named
  have hlocks := B.notSynchronized
  have hS : va_S (fun q => z ≤ q) s.heap s.heap [] := va_S.rf
  have hl := lv_entry ([.ref (ad 0), .int g, .int v]) (n := 4) (Nat.le_of_ble_eq_true rfl)
  rw [lg_entry_eq]
  generalize (lg_sl ([.ref (ad 0), .int g, .int v]) ++ List.replicate (4 - (lg_sl ([.ref (ad 0), .int g, .int v])).length) Slot.unset).toArray = ls at hl ⊢
  have hl : lv_has ls 4 [(0, .ref (ad 0)), (1, .int g), (2, .int v)] := hl
  have hin4 := hin4_X4_gate
  have h0 := hok.2.1
  have hn := hok.1
  refine lv_aload_n hx hb dX4_gate_0 rfl (lv_at hl 0 rfl) ?_
  refine lv_iconst (v := 0) hx hb dX4_gate_1 (by decide) ?_
  refine cy_putY (v := 0) hx hb hts hin4 hown hK hI hS 8 2 (by decide) (hts (.fieldLink RX4 38 "CustomsYard" "refusal" "I") (by decide +kernel)) rfl (by decide +kernel) rfl dX4_gate_2 (fun H locs hI hS => ?_)
  refine lv_iload_n hx hb dX4_gate_5 rfl (lv_at hl 1 rfl) ?_
  refine cy_callp (v := .int (cy_b (cy_gt g))) (va_runS (As := [.int g]) (rest := []) ⟨hx, hb, hml, hown, hts⟩ (c_X4_isGate l g) (va_cwS 1 hts gX4_gate_X4_isGate rfl rfl rfl (by decide +kernel) ⟨Nat.le_of_ble_eq_true rfl, Nat.le_of_ble_eq_true rfl⟩) preEq rfl rfl hl.1 rfl (lv_room (Nat.le_of_ble_eq_true rfl)) dX4_gate_6 ⟨Nat.le_of_ble_eq_true rfl, Nat.le_of_ble_eq_true rfl⟩) ?_
  cases b1 : (cy_gt g)
  · refine lv_if_eq (tgt := 24) hx hb dX4_gate_9 (by decide) (fun h2 => ?_) (fun h2 => absurd (by decide) h2)
    refine lv_aload_n hx hb dX4_gate_24 rfl (lv_at hl 0 rfl) ?_
    refine lv_bipush (v := -2) hx hb dX4_gate_25 (by decide) ?_
    refine cy_callm (va_runV (As := [.int (-2)]) (rest := []) ⟨hx, hb, hml, hown, hts⟩ (c_X4_refuse l D cI cJ cO z n (cy_i σ 0 2 0) τ pl hi ad (-2)) (cwV 1 hts gX4_gate_X4_refuse rfl rfl rfl (by decide +kernel) ⟨Nat.le_of_ble_eq_true rfl, Nat.le_of_ble_eq_true rfl⟩) (cy_preV hK hI (cy_recv hK (hI.1 0 _ cy_CY).1 rfl)) rfl rfl hl.1 rfl (lv_room (Nat.le_of_ble_eq_true rfl)) dX4_gate_27 ⟨Nat.le_of_ble_eq_true rfl, Nat.le_of_ble_eq_true rfl⟩) hS (fun u H locs hI hz hS => ?_)
    have hI : cy_W D z (cy_CT cI cJ cO n n (cy_no (cy_i σ 0 2 0) (-2)) τ pl hi ad) ad H := hI
    refine W.eq (g2 := F0 m 30 ls [.int (-2)]) rfl ?_
    have E : cy_oGate σ g v = ((-2), cy_no (cy_i σ 0 2 0) (-2)) := by simp [cy_oGate, cy_z, b1]
    rw [E]
    exact W.iret (v := (-2)) hx hb hr (fun t ht hW => ⟨(), rfl, by rw [ht]; exact hI, hS.F ht⟩) hS.2.2 dX4_gate_30
  · obtain ⟨j, hj, rfl⟩ := (cy_in6 _).mp b1
    refine lv_if_eq (tgt := 24) hx hb dX4_gate_9 (by decide) (fun h3 => absurd h3 (by decide)) (fun h3 => ?_)
    refine lv_iload_n hx hb dX4_gate_12 rfl (lv_at hl 2 rfl) ?_
    refine cy_callp (v := .int (cy_b (cy_vw v))) (va_runS (As := [.int v]) (rest := []) ⟨hx, hb, hml, hown, hts⟩ (c_X4_isView l v) (va_cwS 1 hts gX4_gate_X4_isView rfl rfl rfl (by decide +kernel) ⟨Nat.le_of_ble_eq_true rfl, Nat.le_of_ble_eq_true rfl⟩) preEq rfl rfl hl.1 rfl (lv_room (Nat.le_of_ble_eq_true rfl)) dX4_gate_13 ⟨Nat.le_of_ble_eq_true rfl, Nat.le_of_ble_eq_true rfl⟩) ?_
    cases b4 : (cy_vw v)
    · refine lv_if_ne (tgt := 31) hx hb dX4_gate_16 (by decide) (fun h5 => absurd (by decide) h5) (fun h5 => ?_)
      refine lv_iload_n hx hb dX4_gate_19 rfl (lv_at hl 2 rfl) ?_
      refine lv_iconst (v := -1) hx hb dX4_gate_20 (by decide) ?_
      refine lv_icmp_eq (tgt := 31) hx hb dX4_gate_21 (by decide) (fun h6 => ?_) (fun h6 => ?_)
      · refine lv_aload_n hx hb dX4_gate_31 rfl (lv_at hl 0 rfl) ?_
        refine cy_getY (v := .ref (ad 3)) hx hb hts hin4 hown hK hI 3 (by decide) (hts (.fieldLink RX4 18 "CustomsYard" "gateViews" "[I") (by decide +kernel)) rfl dX4_gate_32 ?_
        refine lv_iload_n hx hb dX4_gate_35 rfl (lv_at hl 1 rfl) ?_
        refine cy_iald (f := σ.1 6) (k := j) hx hb hK.1 hI 0 (x := 3) rfl rfl (by omega) (by decide) dX4_gate_36 ?_
        refine lv_istore_n (lv' := [(3, .int (σ.1 6 j)), (0, .ref (ad 0)), (1, .int (nI j)), (2, .int v)]) hx hb dX4_gate_37 rfl hl (by decide) rfl (fun ls hl => ?_)
        refine lv_aload_n hx hb dX4_gate_38 rfl (lv_at hl 1 rfl) ?_
        refine cy_getY (v := .ref (ad 3)) hx hb hts hin4 hown hK hI 3 (by decide) (hts (.fieldLink RX4 18 "CustomsYard" "gateViews" "[I") (by decide +kernel)) rfl dX4_gate_39 ?_
        refine lv_iload_n hx hb dX4_gate_42 rfl (lv_at hl 2 rfl) ?_
        refine lv_iload_n hx hb dX4_gate_43 rfl (lv_at hl 3 rfl) ?_
        refine cy_stY3 (k := j) (v := v) hx hb hK hI hS (by omega) dX4_gate_44 (fun H locs hI hS => ?_)
        refine lv_aload_n hx hb dX4_gate_45 rfl (lv_at hl 1 rfl) ?_
        refine cy_getY (v := .ref (ad 4)) hx hb hts hin4 hown hK hI 4 (by decide) (hts (.fieldLink RX4 22 "CustomsYard" "gateWeights" "[J") (by decide +kernel)) rfl dX4_gate_46 ?_
        refine lv_iload_n hx hb dX4_gate_49 rfl (lv_at hl 2 rfl) ?_
        refine lv_lconst (v := 0) hx hb dX4_gate_50 (by decide) ?_
        refine cy_stY4 (k := j) (v := 0) hx hb hK hI hS (by omega) dX4_gate_51 (fun H locs hI hS => ?_)
        refine lv_iload_n hx hb dX4_gate_52 rfl (lv_at hl 0 rfl) ?_
        have E : cy_oGate σ (nI j) v = (σ.1 6 j, cy_l (cy_i (cy_i σ 0 2 0) 6 j v) 1 j 0) := by first | (simp [cy_oGate, cy_z, nI_clamp (show j < 2 ^ 31 by omega), b1, b4]; done) | (simp [cy_oGate, cy_z, nI_clamp (show j < 2 ^ 31 by omega), b1, b4]; simp [h6]; done) | (simp [cy_oGate, cy_z, nI_clamp (show j < 2 ^ 31 by omega), b1, b4, h6]; done)
        rw [E]
        exact W.iret (v := σ.1 6 j) hx hb hr (fun t ht hW => ⟨(), rfl, by rw [ht]; exact hI, hS.F ht⟩) hS.2.2 dX4_gate_53
      · refine lv_aload_n hx hb dX4_gate_24 rfl (lv_at hl 0 rfl) ?_
        refine lv_bipush (v := -2) hx hb dX4_gate_25 (by decide) ?_
        refine cy_callm (va_runV (As := [.int (-2)]) (rest := []) ⟨hx, hb, hml, hown, hts⟩ (c_X4_refuse l D cI cJ cO z n (cy_i σ 0 2 0) τ pl hi ad (-2)) (cwV 1 hts gX4_gate_X4_refuse rfl rfl rfl (by decide +kernel) ⟨Nat.le_of_ble_eq_true rfl, Nat.le_of_ble_eq_true rfl⟩) (cy_preV hK hI (cy_recv hK (hI.1 0 _ cy_CY).1 rfl)) rfl rfl hl.1 rfl (lv_room (Nat.le_of_ble_eq_true rfl)) dX4_gate_27 ⟨Nat.le_of_ble_eq_true rfl, Nat.le_of_ble_eq_true rfl⟩) hS (fun u H locs hI hz hS => ?_)
        have hI : cy_W D z (cy_CT cI cJ cO n n (cy_no (cy_i σ 0 2 0) (-2)) τ pl hi ad) ad H := hI
        refine W.eq (g2 := F0 m 30 ls [.int (-2)]) rfl ?_
        have E : cy_oGate σ (nI j) v = ((-2), cy_no (cy_i σ 0 2 0) (-2)) := by first | (simp [cy_oGate, cy_z, nI_clamp (show j < 2 ^ 31 by omega), b1, b4]; done) | (simp [cy_oGate, cy_z, nI_clamp (show j < 2 ^ 31 by omega), b1, b4]; simp [h6]; done) | (simp [cy_oGate, cy_z, nI_clamp (show j < 2 ^ 31 by omega), b1, b4, h6]; done)
        rw [E]
        exact W.iret (v := (-2)) hx hb hr (fun t ht hW => ⟨(), rfl, by rw [ht]; exact hI, hS.F ht⟩) hS.2.2 dX4_gate_30
    · refine lv_if_ne (tgt := 31) hx hb dX4_gate_16 (by decide) (fun h7 => ?_) (fun h7 => absurd h7 (by decide))
      refine lv_aload_n hx hb dX4_gate_31 rfl (lv_at hl 0 rfl) ?_
      refine cy_getY (v := .ref (ad 3)) hx hb hts hin4 hown hK hI 3 (by decide) (hts (.fieldLink RX4 18 "CustomsYard" "gateViews" "[I") (by decide +kernel)) rfl dX4_gate_32 ?_
      refine lv_iload_n hx hb dX4_gate_35 rfl (lv_at hl 1 rfl) ?_
      refine cy_iald (f := σ.1 6) (k := j) hx hb hK.1 hI 0 (x := 3) rfl rfl (by omega) (by decide) dX4_gate_36 ?_
      refine lv_istore_n (lv' := [(3, .int (σ.1 6 j)), (0, .ref (ad 0)), (1, .int (nI j)), (2, .int v)]) hx hb dX4_gate_37 rfl hl (by decide) rfl (fun ls hl => ?_)
      refine lv_aload_n hx hb dX4_gate_38 rfl (lv_at hl 1 rfl) ?_
      refine cy_getY (v := .ref (ad 3)) hx hb hts hin4 hown hK hI 3 (by decide) (hts (.fieldLink RX4 18 "CustomsYard" "gateViews" "[I") (by decide +kernel)) rfl dX4_gate_39 ?_
      refine lv_iload_n hx hb dX4_gate_42 rfl (lv_at hl 2 rfl) ?_
      refine lv_iload_n hx hb dX4_gate_43 rfl (lv_at hl 3 rfl) ?_
      refine cy_stY3 (k := j) (v := v) hx hb hK hI hS (by omega) dX4_gate_44 (fun H locs hI hS => ?_)
      refine lv_aload_n hx hb dX4_gate_45 rfl (lv_at hl 1 rfl) ?_
      refine cy_getY (v := .ref (ad 4)) hx hb hts hin4 hown hK hI 4 (by decide) (hts (.fieldLink RX4 22 "CustomsYard" "gateWeights" "[J") (by decide +kernel)) rfl dX4_gate_46 ?_
      refine lv_iload_n hx hb dX4_gate_49 rfl (lv_at hl 2 rfl) ?_
      refine lv_lconst (v := 0) hx hb dX4_gate_50 (by decide) ?_
      refine cy_stY4 (k := j) (v := 0) hx hb hK hI hS (by omega) dX4_gate_51 (fun H locs hI hS => ?_)
      refine lv_iload_n hx hb dX4_gate_52 rfl (lv_at hl 0 rfl) ?_
      have E : cy_oGate σ (nI j) v = (σ.1 6 j, cy_l (cy_i (cy_i σ 0 2 0) 6 j v) 1 j 0) := by simp [cy_oGate, cy_z, nI_clamp (show j < 2 ^ 31 by omega), b1, b4]
      rw [E]
      exact W.iret (v := σ.1 6 j) hx hb hr (fun t ht hW => ⟨(), rfl, by rw [ht]; exact hI, hS.F ht⟩) hS.2.2 dX4_gate_53

set_option maxHeartbeats 4000000 in
set_option maxRecDepth 100000 in
theorem c_X4_pass (l : Launch) (D : va_G) (cI cJ cO : ClassId) (z n : Nat) (σ τ : cy_S) (pl : Nat → Int32) (hi : Int32) (ad : Nat → Nat) (hok : cy_ok n σ) (x g : Int32)  : Met l yX4_pass wsX4_pass { frames := 3, cells := 0, slots := 0, locals := 82 } (cy_P D cI cJ cO (fun H => cy_W D z (cy_CT cI cJ cO n n σ τ pl hi ad) ad H) [.ref (ad 0), .int x, .int g]) (cy_M (S := Unit) z (fun _ => some (.int (cy_oPass n σ x g).1)) (fun _ H => cy_W D z (cy_CT cI cJ cO n n (cy_oPass n σ x g).2 τ pl hi ad) ad H)) 0 0 (fun q => z ≤ q) := by
  refine Met.ofW (cc := cX4_pass) (maxL := 4) (ret := (some .int)) (by decide) rfl ?_
  intro p e s m args below meth c s₁ B hml hv
  obtain ⟨rfl, hK, hI⟩ := hv
  have hx := B.exec
  have hb := B.bytes
  have hr := B.returns
  have hts := atoms_spec (ws := wsX4_pass) B.pre
  have hown : s.vm.findClass RX4 = some m.cls := findClass_of_methodNamed B.named
  have hlocks := B.notSynchronized
  have hS : va_S (fun q => z ≤ q) s.heap s.heap [] := va_S.rf
  have hl := lv_entry ([.ref (ad 0), .int x, .int g]) (n := 4) (Nat.le_of_ble_eq_true rfl)
  rw [lg_entry_eq]
  generalize (lg_sl ([.ref (ad 0), .int x, .int g]) ++ List.replicate (4 - (lg_sl ([.ref (ad 0), .int x, .int g])).length) Slot.unset).toArray = ls at hl ⊢
  have hl : lv_has ls 4 [(0, .ref (ad 0)), (1, .int x), (2, .int g)] := hl
  have hin1 := hin1_X4_pass
  have hin2 := hin2_X4_pass
  have hin3 := hin3_X4_pass
  have hin4 := hin4_X4_pass
  have h0 := hok.2.1
  have hn := hok.1
  refine lv_aload_n hx hb dX4_pass_0 rfl (lv_at hl 0 rfl) ?_
  refine lv_iconst (v := 0) hx hb dX4_pass_1 (by decide) ?_
  refine cy_putY (v := 0) hx hb hts hin4 hown hK hI hS 8 2 (by decide) (hts (.fieldLink RX4 38 "CustomsYard" "refusal" "I") (by decide +kernel)) rfl (by decide +kernel) rfl dX4_pass_2 (fun H locs hI hS => ?_)
  refine lv_aload_n hx hb dX4_pass_5 rfl (lv_at hl 0 rfl) ?_
  refine lv_iload_n hx hb dX4_pass_6 rfl (lv_at hl 1 rfl) ?_
  refine cy_callp (v := va_rf (cy_fd n ad x)) (va_runV (As := [.int x]) (rest := []) ⟨hx, hb, hml, hown, hts⟩ (c_X4_find l D cI cJ cO z n (cy_i σ 0 2 0) τ pl hi ad hok x) (cwV 1 hts gX4_pass_X4_find rfl rfl rfl (by decide +kernel) ⟨Nat.le_of_ble_eq_true rfl, Nat.le_of_ble_eq_true rfl⟩) (cy_preV hK hI (cy_recv hK (hI.1 0 _ cy_CY).1 rfl)) rfl rfl hl.1 rfl (lv_room (Nat.le_of_ble_eq_true rfl)) dX4_pass_7 ⟨Nat.le_of_ble_eq_true rfl, Nat.le_of_ble_eq_true rfl⟩) ?_
  cases b1 : cy_ld n x
  · refine cy_topq (cy_fd_f b1) ?_
    refine lv_astore_nN (lv' := [(3, .null), (0, .ref (ad 0)), (1, .int x), (2, .int g)]) hx hb dX4_pass_10 rfl hl (by decide) rfl (fun ls hl => ?_)
    refine lv_aload_nN hx hb dX4_pass_11 rfl (lv_at hl 0 rfl) ?_
    refine lv_ifnullN (tgt := 32) hx hb dX4_pass_12 (by decide) ?_
    refine lv_aload_n hx hb dX4_pass_32 rfl (lv_at hl 1 rfl) ?_
    refine lv_bipush (v := -2) hx hb dX4_pass_33 (by decide) ?_
    refine cy_callm (va_runV (As := [.int (-2)]) (rest := []) ⟨hx, hb, hml, hown, hts⟩ (c_X4_refuse l D cI cJ cO z n (cy_i σ 0 2 0) τ pl hi ad (-2)) (cwV 1 hts gX4_pass_X4_refuse rfl rfl rfl (by decide +kernel) ⟨Nat.le_of_ble_eq_true rfl, Nat.le_of_ble_eq_true rfl⟩) (cy_preV hK hI (cy_recv hK (hI.1 0 _ cy_CY).1 rfl)) rfl rfl hl.1 rfl (lv_room (Nat.le_of_ble_eq_true rfl)) dX4_pass_35 ⟨Nat.le_of_ble_eq_true rfl, Nat.le_of_ble_eq_true rfl⟩) hS (fun u H locs hI hz hS => ?_)
    have hI : cy_W D z (cy_CT cI cJ cO n n (cy_no (cy_i σ 0 2 0) (-2)) τ pl hi ad) ad H := hI
    refine W.eq (g2 := F0 m 38 ls [.int (-2)]) rfl ?_
    have E : cy_oPass n σ x g = ((-2), cy_no (cy_i σ 0 2 0) (-2)) := by simp [cy_oPass, cy_z, cy_wt_z, b1]
    rw [E]
    exact W.iret (v := (-2)) hx hb hr (fun t ht hW => ⟨(), rfl, by rw [ht]; exact hI, hS.F ht⟩) hS.2.2 dX4_pass_38
  · obtain ⟨kx, hkx, rfl⟩ := (cy_ld_iff hn _).mp b1
    have nekx := cy_ne1 (show kx < 2 ^ 31 by omega)
    refine cy_topq (cy_fd_t hn b1 hkx) ?_
    refine lv_astore_n (lv' := [(3, .ref (ad (100 + 2 * kx))), (0, .ref (ad 0)), (1, .int (nI kx)), (2, .int g)]) hx hb dX4_pass_10 rfl hl (by decide) rfl (fun ls hl => ?_)
    refine lv_aload_n hx hb dX4_pass_11 rfl (lv_at hl 0 rfl) ?_
    refine lv_ifnull hx hb dX4_pass_12 ?_
    refine lv_iload_n hx hb dX4_pass_15 rfl (lv_at hl 3 rfl) ?_
    refine cy_callp (v := .int (cy_b (cy_gt g))) (va_runS (As := [.int g]) (rest := []) ⟨hx, hb, hml, hown, hts⟩ (c_X4_isGate l g) (va_cwS 1 hts gX4_pass_X4_isGate rfl rfl rfl (by decide +kernel) ⟨Nat.le_of_ble_eq_true rfl, Nat.le_of_ble_eq_true rfl⟩) preEq rfl rfl hl.1 rfl (lv_room (Nat.le_of_ble_eq_true rfl)) dX4_pass_16 ⟨Nat.le_of_ble_eq_true rfl, Nat.le_of_ble_eq_true rfl⟩) ?_
    cases b2 : (cy_gt g)
    · refine lv_if_eq (tgt := 32) hx hb dX4_pass_19 (by decide) (fun h3 => ?_) (fun h3 => absurd (by decide) h3)
      refine lv_aload_n hx hb dX4_pass_32 rfl (lv_at hl 1 rfl) ?_
      refine lv_bipush (v := -2) hx hb dX4_pass_33 (by decide) ?_
      refine cy_callm (va_runV (As := [.int (-2)]) (rest := []) ⟨hx, hb, hml, hown, hts⟩ (c_X4_refuse l D cI cJ cO z n (cy_i σ 0 2 0) τ pl hi ad (-2)) (cwV 1 hts gX4_pass_X4_refuse rfl rfl rfl (by decide +kernel) ⟨Nat.le_of_ble_eq_true rfl, Nat.le_of_ble_eq_true rfl⟩) (cy_preV hK hI (cy_recv hK (hI.1 0 _ cy_CY).1 rfl)) rfl rfl hl.1 rfl (lv_room (Nat.le_of_ble_eq_true rfl)) dX4_pass_35 ⟨Nat.le_of_ble_eq_true rfl, Nat.le_of_ble_eq_true rfl⟩) hS (fun u H locs hI hz hS => ?_)
      have hI : cy_W D z (cy_CT cI cJ cO n n (cy_no (cy_i σ 0 2 0) (-2)) τ pl hi ad) ad H := hI
      refine W.eq (g2 := F0 m 38 ls [.int (-2)]) rfl ?_
      have E : cy_oPass n σ (nI kx) g = ((-2), cy_no (cy_i σ 0 2 0) (-2)) := by first | (simp [cy_oPass, cy_z, cy_wt_z, nI_clamp (show kx < 2 ^ 31 by omega), b1, b2]; done) | (simp [cy_oPass, cy_z, cy_wt_z, nI_clamp (show kx < 2 ^ 31 by omega), b1, b2]; simp [nekx]; done) | (simp [cy_oPass, cy_z, cy_wt_z, nI_clamp (show kx < 2 ^ 31 by omega), b1, b2, nekx]; done)
      rw [E]
      exact W.iret (v := (-2)) hx hb hr (fun t ht hW => ⟨(), rfl, by rw [ht]; exact hI, hS.F ht⟩) hS.2.2 dX4_pass_38
    · obtain ⟨j, hj, rfl⟩ := (cy_in6 _).mp b2
      refine lv_if_eq (tgt := 32) hx hb dX4_pass_19 (by decide) (fun h4 => absurd h4 (by decide)) (fun h4 => ?_)
      refine lv_aload_n hx hb dX4_pass_22 rfl (lv_at hl 1 rfl) ?_
      refine cy_getY (v := .ref (ad 3)) hx hb hts hin4 hown hK hI 3 (by decide) (hts (.fieldLink RX4 18 "CustomsYard" "gateViews" "[I") (by decide +kernel)) rfl dX4_pass_23 ?_
      refine lv_iload_n hx hb dX4_pass_26 rfl (lv_at hl 3 rfl) ?_
      refine cy_iald (f := σ.1 6) (k := j) hx hb hK.1 hI 0 (x := 3) rfl rfl (by omega) (by decide) dX4_pass_27 ?_
      refine lv_iconst (v := -1) hx hb dX4_pass_28 (by decide) ?_
      refine lv_icmp_ne (tgt := 39) hx hb dX4_pass_29 (by decide) (fun h5 => ?_) (fun h5 => ?_)
      · refine lv_aload_n hx hb dX4_pass_39 rfl (lv_at hl 0 rfl) ?_
        refine lv_aload_n hx hb dX4_pass_40 rfl (lv_at hl 1 rfl) ?_
        refine cy_getY (v := .ref (ad 3)) hx hb hts hin4 hown hK hI 3 (by decide) (hts (.fieldLink RX4 18 "CustomsYard" "gateViews" "[I") (by decide +kernel)) rfl dX4_pass_41 ?_
        refine lv_iload_n hx hb dX4_pass_44 rfl (lv_at hl 3 rfl) ?_
        refine cy_iald (f := σ.1 6) (k := j) hx hb hK.1 hI 0 (x := 3) rfl rfl (by omega) (by decide) dX4_pass_45 ?_
        refine cy_callp (v := .int (cy_b (cy_go (σ.1 1 kx) (σ.1 6 j)))) (rest := []) (a := (.ref (ad (100 + 2 * kx)) :: [.int (σ.1 6 j)] : List Value).toArray) (by 
            rcases cy_kd3 hok hkx with hq | hq | hq
            · exact va_runU (As := [.int (σ.1 6 j)]) (rest := []) ⟨hx, hb, hml, hown, hts⟩ (c_X0_goesAs l D cI cJ cO z n (cy_i σ 0 2 0) τ pl hi ad hok kx hkx (σ.1 6 j)) (va_cwU 1 hts gX4_pass_X0_goesAs_u78X1 rfl rfl rfl rfl (by decide +kernel) ⟨Nat.le_of_ble_eq_true rfl, Nat.le_of_ble_eq_true rfl⟩) (cy_preV hK hI (cy_rv0 hK hI hkx hq.1)) rfl rfl hl.1 rfl (lv_room (Nat.le_of_ble_eq_true rfl)) dX4_pass_46 ⟨Nat.le_of_ble_eq_true rfl, Nat.le_of_ble_eq_true rfl⟩
            · exact va_runU (As := [.int (σ.1 6 j)]) (rest := []) ⟨hx, hb, hml, hown, hts⟩ (c_X0_goesAs l D cI cJ cO z n (cy_i σ 0 2 0) τ pl hi ad hok kx hkx (σ.1 6 j)) (va_cwU 1 hts gX4_pass_X0_goesAs_u78X2 rfl rfl rfl rfl (by decide +kernel) ⟨Nat.le_of_ble_eq_true rfl, Nat.le_of_ble_eq_true rfl⟩) (cy_preV hK hI (cy_rv1 hK hI hkx hq.1)) rfl rfl hl.1 rfl (lv_room (Nat.le_of_ble_eq_true rfl)) dX4_pass_46 ⟨Nat.le_of_ble_eq_true rfl, Nat.le_of_ble_eq_true rfl⟩
            · exact va_runU (As := [.int (σ.1 6 j)]) (rest := []) ⟨hx, hb, hml, hown, hts⟩ (c_X0_goesAs l D cI cJ cO z n (cy_i σ 0 2 0) τ pl hi ad hok kx hkx (σ.1 6 j)) (va_cwU 1 hts gX4_pass_X0_goesAs_u78X3 rfl rfl rfl rfl (by decide +kernel) ⟨Nat.le_of_ble_eq_true rfl, Nat.le_of_ble_eq_true rfl⟩) (cy_preV hK hI (cy_rv2 hK hI hkx hq.1)) rfl rfl hl.1 rfl (lv_room (Nat.le_of_ble_eq_true rfl)) dX4_pass_46 ⟨Nat.le_of_ble_eq_true rfl, Nat.le_of_ble_eq_true rfl⟩) ?_
        cases b6 : (cy_go (σ.1 1 kx) (σ.1 6 j))
        · refine lv_if_ne (tgt := 64) hx hb dX4_pass_49 (by decide) (fun h7 => absurd (by decide) h7) (fun h7 => ?_)
          refine lv_aload_n hx hb dX4_pass_52 rfl (lv_at hl 1 rfl) ?_
          refine lv_dup hx hb dX4_pass_53 rfl ?_
          refine cy_getY (v := .int (σ.1 0 6)) hx hb hts hin4 hown hK hI 12 (by decide) (hts (.fieldLink RX4 116 "CustomsYard" "turnedAway" "I") (by decide +kernel)) rfl dX4_pass_54 ?_
          refine lv_iconst (v := 1) hx hb dX4_pass_57 (by decide) ?_
          refine lv_iadd hx hb dX4_pass_58 ?_
          refine cy_putY (v := ((σ.1 0 6) + 1)) hx hb hts hin4 hown hK hI hS 12 6 (by decide) (hts (.fieldLink RX4 116 "CustomsYard" "turnedAway" "I") (by decide +kernel)) rfl (by decide +kernel) rfl dX4_pass_59 (fun H locs hI hS => ?_)
          refine lv_iconst (v := 0) hx hb dX4_pass_62 (by decide) ?_
          have E : cy_oPass n σ (nI kx) (nI j) = (0, cy_i (cy_i σ 0 2 0) 0 6 ((σ.1 0 6) + 1)) := by first | (simp [cy_oPass, cy_z, cy_wt_z, nI_clamp (show kx < 2 ^ 31 by omega), nI_clamp (show j < 2 ^ 31 by omega), b1, b2, b6]; done) | (simp [cy_oPass, cy_z, cy_wt_z, nI_clamp (show kx < 2 ^ 31 by omega), nI_clamp (show j < 2 ^ 31 by omega), b1, b2, b6]; simp [nekx, h5]; done) | (simp [cy_oPass, cy_z, cy_wt_z, nI_clamp (show kx < 2 ^ 31 by omega), nI_clamp (show j < 2 ^ 31 by omega), b1, b2, b6, nekx, h5]; done)
          rw [E]
          exact W.iret (v := 0) hx hb hr (fun t ht hW => ⟨(), rfl, by rw [ht]; exact hI, hS.F ht⟩) hS.2.2 dX4_pass_63
        · refine lv_if_ne (tgt := 64) hx hb dX4_pass_49 (by decide) (fun h8 => ?_) (fun h8 => absurd h8 (by decide))
          refine lv_aload_n hx hb dX4_pass_64 rfl (lv_at hl 1 rfl) ?_
          refine cy_getY (v := .ref (ad 4)) hx hb hts hin4 hown hK hI 4 (by decide) (hts (.fieldLink RX4 22 "CustomsYard" "gateWeights" "[J") (by decide +kernel)) rfl dX4_pass_65 ?_
          refine lv_iload_n hx hb dX4_pass_68 rfl (lv_at hl 3 rfl) ?_
          refine lv_dup2_11 hx hb dX4_pass_69 rfl rfl ?_
          refine cy_lald (f := σ.2 1) (k := j) hx hb hK.1 hI 1 (x := 4) rfl rfl (by omega) (by decide) dX4_pass_70 ?_
          refine lv_aload_n hx hb dX4_pass_71 rfl (lv_at hl 0 rfl) ?_
          refine lv_iconst (v := 3) hx hb dX4_pass_72 (by decide) ?_
          refine cy_callp (v := .long (cy_wt (cy_i σ 0 2 0) 3 kx)) (rest := [.long (σ.2 1 j), .int (nI j), .ref (ad 4)]) (a := (.ref (ad (100 + 2 * kx)) :: [.int 3] : List Value).toArray) (by 
              rcases cy_kd3 hok hkx with hq | hq | hq
              · exact va_runU (As := [.int 3]) (rest := [.long (σ.2 1 j), .int (nI j), .ref (ad 4)]) ⟨hx, hb, hml, hown, hts⟩ (c_X1_weigh l D cI cJ cO z n (cy_i σ 0 2 0) τ pl hi ad hok kx hkx hq.1 3) (va_cwA 1 hts gX4_pass_X1_weigh_u102X1 rfl rfl rfl hK.dW (by decide +kernel) ⟨Nat.le_of_ble_eq_true rfl, Nat.le_of_ble_eq_true rfl⟩) (cy_preV hK hI (cy_rv0 hK hI hkx hq.1)) rfl rfl hl.1 rfl (lv_room (Nat.le_of_ble_eq_true rfl)) dX4_pass_73 ⟨Nat.le_of_ble_eq_true rfl, Nat.le_of_ble_eq_true rfl⟩
              · exact va_runU (As := [.int 3]) (rest := [.long (σ.2 1 j), .int (nI j), .ref (ad 4)]) ⟨hx, hb, hml, hown, hts⟩ (c_X2_weigh l D cI cJ cO z n (cy_i σ 0 2 0) τ pl hi ad hok kx hkx hq.1 3) (va_cwA 1 hts gX4_pass_X2_weigh_u102X2 rfl rfl rfl hK.dW (by decide +kernel) ⟨Nat.le_of_ble_eq_true rfl, Nat.le_of_ble_eq_true rfl⟩) (cy_preV hK hI (cy_rv1 hK hI hkx hq.1)) rfl rfl hl.1 rfl (lv_room (Nat.le_of_ble_eq_true rfl)) dX4_pass_73 ⟨Nat.le_of_ble_eq_true rfl, Nat.le_of_ble_eq_true rfl⟩
              · exact va_runU (As := [.int 3]) (rest := [.long (σ.2 1 j), .int (nI j), .ref (ad 4)]) ⟨hx, hb, hml, hown, hts⟩ (c_X3_weigh3 l D cI cJ cO z n (cy_i σ 0 2 0) τ pl hi ad hok kx hkx hq.1 (Nat.lt_succ_of_le (cy_rk2 hok hkx))) (va_cwA 1 hts gX4_pass_X3_weigh_u102X3 rfl rfl rfl hK.dW (by decide +kernel) ⟨Nat.le_of_ble_eq_true rfl, Nat.le_of_ble_eq_true rfl⟩) (cy_preV hK hI (cy_rv2 hK hI hkx hq.1)) rfl rfl hl.1 rfl (lv_room (Nat.le_of_ble_eq_true rfl)) dX4_pass_73 ⟨Nat.le_of_ble_eq_true rfl, Nat.le_of_ble_eq_true rfl⟩) ?_
          refine lv_ladd hx hb dX4_pass_76 ?_
          refine cy_stY4 (k := j) (v := ((σ.2 1 j) + (cy_wt (cy_i σ 0 2 0) 3 kx))) hx hb hK hI hS (by omega) dX4_pass_77 (fun H locs hI hS => ?_)
          refine lv_iconst (v := 1) hx hb dX4_pass_78 (by decide) ?_
          have E : cy_oPass n σ (nI kx) (nI j) = (1, cy_l (cy_i σ 0 2 0) 1 j ((σ.2 1 j) + (cy_wt (cy_i σ 0 2 0) 3 kx))) := by first | (simp [cy_oPass, cy_z, cy_wt_z, nI_clamp (show kx < 2 ^ 31 by omega), nI_clamp (show j < 2 ^ 31 by omega), b1, b2, b6]; done) | (simp [cy_oPass, cy_z, cy_wt_z, nI_clamp (show kx < 2 ^ 31 by omega), nI_clamp (show j < 2 ^ 31 by omega), b1, b2, b6]; simp [nekx, h5]; done) | (simp [cy_oPass, cy_z, cy_wt_z, nI_clamp (show kx < 2 ^ 31 by omega), nI_clamp (show j < 2 ^ 31 by omega), b1, b2, b6, nekx, h5]; done)
          rw [E]
          exact W.iret (v := 1) hx hb hr (fun t ht hW => ⟨(), rfl, by rw [ht]; exact hI, hS.F ht⟩) hS.2.2 dX4_pass_79
      · refine lv_aload_n hx hb dX4_pass_32 rfl (lv_at hl 1 rfl) ?_
        refine lv_bipush (v := -2) hx hb dX4_pass_33 (by decide) ?_
        refine cy_callm (va_runV (As := [.int (-2)]) (rest := []) ⟨hx, hb, hml, hown, hts⟩ (c_X4_refuse l D cI cJ cO z n (cy_i σ 0 2 0) τ pl hi ad (-2)) (cwV 1 hts gX4_pass_X4_refuse rfl rfl rfl (by decide +kernel) ⟨Nat.le_of_ble_eq_true rfl, Nat.le_of_ble_eq_true rfl⟩) (cy_preV hK hI (cy_recv hK (hI.1 0 _ cy_CY).1 rfl)) rfl rfl hl.1 rfl (lv_room (Nat.le_of_ble_eq_true rfl)) dX4_pass_35 ⟨Nat.le_of_ble_eq_true rfl, Nat.le_of_ble_eq_true rfl⟩) hS (fun u H locs hI hz hS => ?_)
        have hI : cy_W D z (cy_CT cI cJ cO n n (cy_no (cy_i σ 0 2 0) (-2)) τ pl hi ad) ad H := hI
        refine W.eq (g2 := F0 m 38 ls [.int (-2)]) rfl ?_
        have E : cy_oPass n σ (nI kx) (nI j) = ((-2), cy_no (cy_i σ 0 2 0) (-2)) := by first | (simp [cy_oPass, cy_z, cy_wt_z, nI_clamp (show kx < 2 ^ 31 by omega), nI_clamp (show j < 2 ^ 31 by omega), b1, b2]; done) | (simp [cy_oPass, cy_z, cy_wt_z, nI_clamp (show kx < 2 ^ 31 by omega), nI_clamp (show j < 2 ^ 31 by omega), b1, b2]; simp [nekx, h5]; done) | (simp [cy_oPass, cy_z, cy_wt_z, nI_clamp (show kx < 2 ^ 31 by omega), nI_clamp (show j < 2 ^ 31 by omega), b1, b2, nekx, h5]; done)
        rw [E]
        exact W.iret (v := (-2)) hx hb hr (fun t ht hW => ⟨(), rfl, by rw [ht]; exact hI, hS.F ht⟩) hS.2.2 dX4_pass_38

set_option maxHeartbeats 4000000 in
set_option maxRecDepth 100000 in
theorem c_X4_passed (l : Launch) (D : va_G) (cI cJ cO : ClassId) (z n : Nat) (σ τ : cy_S) (pl : Nat → Int32) (hi : Int32) (ad : Nat → Nat) (hok : cy_ok n σ) (g : Int32)  : Met l yX4_passed wsX4_passed { frames := 1, cells := 0, slots := 0, locals := 21 } (cy_P D cI cJ cO (fun H => cy_W D z (cy_CT cI cJ cO n n σ τ pl hi ad) ad H) [.ref (ad 0), .int g]) (cy_M (S := Unit) z (fun _ => some (.long (cy_oPassed σ g).1)) (fun _ H => cy_W D z (cy_CT cI cJ cO n n (cy_oPassed σ g).2 τ pl hi ad) ad H)) 0 0 (fun q => z ≤ q) := by
  refine Met.ofW (cc := cX4_passed) (maxL := 2) (ret := (some .long)) (by decide) rfl ?_
  intro p e s m args below meth c s₁ B hml hv
  obtain ⟨rfl, hK, hI⟩ := hv
  have hx := B.exec
  have hb := B.bytes
  have hr := B.returns
  have hts := atoms_spec (ws := wsX4_passed) B.pre
  have hown : s.vm.findClass RX4 = some m.cls := findClass_of_methodNamed B.named
  have hlocks := B.notSynchronized
  have hS : va_S (fun q => z ≤ q) s.heap s.heap [] := va_S.rf
  have hl := lv_entry ([.ref (ad 0), .int g]) (n := 2) (Nat.le_of_ble_eq_true rfl)
  rw [lg_entry_eq]
  generalize (lg_sl ([.ref (ad 0), .int g]) ++ List.replicate (2 - (lg_sl ([.ref (ad 0), .int g])).length) Slot.unset).toArray = ls at hl ⊢
  have hl : lv_has ls 2 [(0, .ref (ad 0)), (1, .int g)] := hl
  have hin4 := hin4_X4_passed
  have h0 := hok.2.1
  have hn := hok.1
  refine lv_aload_n hx hb dX4_passed_0 rfl (lv_at hl 0 rfl) ?_
  refine lv_iconst (v := 0) hx hb dX4_passed_1 (by decide) ?_
  refine cy_putY (v := 0) hx hb hts hin4 hown hK hI hS 8 2 (by decide) (hts (.fieldLink RX4 38 "CustomsYard" "refusal" "I") (by decide +kernel)) rfl (by decide +kernel) rfl dX4_passed_2 (fun H locs hI hS => ?_)
  refine lv_iload_n hx hb dX4_passed_5 rfl (lv_at hl 1 rfl) ?_
  refine cy_callp (v := .int (cy_b (cy_gt g))) (va_runS (As := [.int g]) (rest := []) ⟨hx, hb, hml, hown, hts⟩ (c_X4_isGate l g) (va_cwS 1 hts gX4_passed_X4_isGate rfl rfl rfl (by decide +kernel) ⟨Nat.le_of_ble_eq_true rfl, Nat.le_of_ble_eq_true rfl⟩) preEq rfl rfl hl.1 rfl (lv_room (Nat.le_of_ble_eq_true rfl)) dX4_passed_6 ⟨Nat.le_of_ble_eq_true rfl, Nat.le_of_ble_eq_true rfl⟩) ?_
  cases b1 : (cy_gt g)
  · refine lv_if_ne (tgt := 21) hx hb dX4_passed_9 (by decide) (fun h2 => absurd (by decide) h2) (fun h2 => ?_)
    refine lv_aload_n hx hb dX4_passed_12 rfl (lv_at hl 0 rfl) ?_
    refine lv_bipush (v := -2) hx hb dX4_passed_13 (by decide) ?_
    refine cy_callm (va_runV (As := [.int (-2)]) (rest := []) ⟨hx, hb, hml, hown, hts⟩ (c_X4_refuse l D cI cJ cO z n (cy_i σ 0 2 0) τ pl hi ad (-2)) (cwV 1 hts gX4_passed_X4_refuse rfl rfl rfl (by decide +kernel) ⟨Nat.le_of_ble_eq_true rfl, Nat.le_of_ble_eq_true rfl⟩) (cy_preV hK hI (cy_recv hK (hI.1 0 _ cy_CY).1 rfl)) rfl rfl hl.1 rfl (lv_room (Nat.le_of_ble_eq_true rfl)) dX4_passed_15 ⟨Nat.le_of_ble_eq_true rfl, Nat.le_of_ble_eq_true rfl⟩) hS (fun u H locs hI hz hS => ?_)
    have hI : cy_W D z (cy_CT cI cJ cO n n (cy_no (cy_i σ 0 2 0) (-2)) τ pl hi ad) ad H := hI
    refine W.eq (g2 := F0 m 18 ls [.int (-2)]) rfl ?_
    refine lv_pop hx hb dX4_passed_18 rfl ?_
    refine lv_lconst (v := 0) hx hb dX4_passed_19 (by decide) ?_
    have E : cy_oPassed σ g = (0, cy_no (cy_i σ 0 2 0) (-2)) := by simp [cy_oPassed, cy_z, b1]
    rw [E]
    exact W.lret (v := 0) hx hb hr (fun t ht hW => ⟨(), rfl, by rw [ht]; exact hI, hS.F ht⟩) hS.2.2 dX4_passed_20
  · obtain ⟨j, hj, rfl⟩ := (cy_in6 _).mp b1
    refine lv_if_ne (tgt := 21) hx hb dX4_passed_9 (by decide) (fun h3 => ?_) (fun h3 => absurd h3 (by decide))
    refine lv_aload_n hx hb dX4_passed_21 rfl (lv_at hl 0 rfl) ?_
    refine cy_getY (v := .ref (ad 4)) hx hb hts hin4 hown hK hI 4 (by decide) (hts (.fieldLink RX4 22 "CustomsYard" "gateWeights" "[J") (by decide +kernel)) rfl dX4_passed_22 ?_
    refine lv_iload_n hx hb dX4_passed_25 rfl (lv_at hl 1 rfl) ?_
    refine cy_lald (f := σ.2 1) (k := j) hx hb hK.1 hI 1 (x := 4) rfl rfl (by omega) (by decide) dX4_passed_26 ?_
    have E : cy_oPassed σ (nI j) = (σ.2 1 j, cy_i σ 0 2 0) := by simp [cy_oPassed, cy_z, nI_clamp (show j < 2 ^ 31 by omega), b1]
    rw [E]
    exact W.lret (v := σ.2 1 j) hx hb hr (fun t ht hW => ⟨(), rfl, by rw [ht]; exact hI, hS.F ht⟩) hS.2.2 dX4_passed_27

set_option maxHeartbeats 4000000 in
set_option maxRecDepth 100000 in
theorem c_X4_tariff (l : Launch) (D : va_G) (cI cJ cO : ClassId) (z n : Nat) (σ τ : cy_S) (pl : Nat → Int32) (hi : Int32) (ad : Nat → Nat) (hok : cy_ok n σ) (v r : Int32)  : Met l yX4_tariff wsX4_tariff { frames := 1, cells := 0, slots := 0, locals := 21 } (cy_P D cI cJ cO (fun H => cy_W D z (cy_CT cI cJ cO n n σ τ pl hi ad) ad H) [.ref (ad 0), .int v, .int r]) (cy_M (S := Unit) z (fun _ => some (.int (cy_oTariff σ v r).1)) (fun _ H => cy_W D z (cy_CT cI cJ cO n n (cy_oTariff σ v r).2 τ pl hi ad) ad H)) 0 0 (fun q => z ≤ q) := by
  refine Met.ofW (cc := cX4_tariff) (maxL := 3) (ret := (some .int)) (by decide) rfl ?_
  intro p e s m args below meth c s₁ B hml hv
  obtain ⟨rfl, hK, hI⟩ := hv
  have hx := B.exec
  have hb := B.bytes
  have hr := B.returns
  have hts := atoms_spec (ws := wsX4_tariff) B.pre
  have hown : s.vm.findClass RX4 = some m.cls := findClass_of_methodNamed B.named
  have hlocks := B.notSynchronized
  have hS : va_S (fun q => z ≤ q) s.heap s.heap [] := va_S.rf
  have hl := lv_entry ([.ref (ad 0), .int v, .int r]) (n := 3) (Nat.le_of_ble_eq_true rfl)
  rw [lg_entry_eq]
  generalize (lg_sl ([.ref (ad 0), .int v, .int r]) ++ List.replicate (3 - (lg_sl ([.ref (ad 0), .int v, .int r])).length) Slot.unset).toArray = ls at hl ⊢
  have hl : lv_has ls 3 [(0, .ref (ad 0)), (1, .int v), (2, .int r)] := hl
  have hin4 := hin4_X4_tariff
  have h0 := hok.2.1
  have hn := hok.1
  obtain ⟨q, hq, eq⟩ := hok.2.2.2.2
  refine lv_aload_n hx hb dX4_tariff_0 rfl (lv_at hl 0 rfl) ?_
  refine lv_iconst (v := 0) hx hb dX4_tariff_1 (by decide) ?_
  refine cy_putY (v := 0) hx hb hts hin4 hown hK hI hS 8 2 (by decide) (hts (.fieldLink RX4 38 "CustomsYard" "refusal" "I") (by decide +kernel)) rfl (by decide +kernel) rfl dX4_tariff_2 (fun H locs hI hS => ?_)
  refine lv_iload_n hx hb dX4_tariff_5 rfl (lv_at hl 1 rfl) ?_
  refine cy_callp (v := .int (cy_b (cy_vw v))) (va_runS (As := [.int v]) (rest := []) ⟨hx, hb, hml, hown, hts⟩ (c_X4_isView l v) (va_cwS 1 hts gX4_tariff_X4_isView rfl rfl rfl (by decide +kernel) ⟨Nat.le_of_ble_eq_true rfl, Nat.le_of_ble_eq_true rfl⟩) preEq rfl rfl hl.1 rfl (lv_room (Nat.le_of_ble_eq_true rfl)) dX4_tariff_6 ⟨Nat.le_of_ble_eq_true rfl, Nat.le_of_ble_eq_true rfl⟩) ?_
  cases b1 : (cy_vw v)
  · refine lv_if_eq (tgt := 24) hx hb dX4_tariff_9 (by decide) (fun h2 => ?_) (fun h2 => absurd (by decide) h2)
    refine lv_aload_n hx hb dX4_tariff_24 rfl (lv_at hl 0 rfl) ?_
    refine lv_bipush (v := -2) hx hb dX4_tariff_25 (by decide) ?_
    refine cy_callm (va_runV (As := [.int (-2)]) (rest := []) ⟨hx, hb, hml, hown, hts⟩ (c_X4_refuse l D cI cJ cO z n (cy_i σ 0 2 0) τ pl hi ad (-2)) (cwV 1 hts gX4_tariff_X4_refuse rfl rfl rfl (by decide +kernel) ⟨Nat.le_of_ble_eq_true rfl, Nat.le_of_ble_eq_true rfl⟩) (cy_preV hK hI (cy_recv hK (hI.1 0 _ cy_CY).1 rfl)) rfl rfl hl.1 rfl (lv_room (Nat.le_of_ble_eq_true rfl)) dX4_tariff_27 ⟨Nat.le_of_ble_eq_true rfl, Nat.le_of_ble_eq_true rfl⟩) hS (fun u H locs hI hz hS => ?_)
    have hI : cy_W D z (cy_CT cI cJ cO n n (cy_no (cy_i σ 0 2 0) (-2)) τ pl hi ad) ad H := hI
    refine W.eq (g2 := F0 m 30 ls [.int (-2)]) rfl ?_
    have E : cy_oTariff σ v r = ((-2), cy_no (cy_i σ 0 2 0) (-2)) := by simp [cy_oTariff, cy_z, b1, cy_isIn, eq, nI_clamp (show q < 2 ^ 31 by omega), nI_1]
    rw [E]
    exact W.iret (v := (-2)) hx hb hr (fun t ht hW => ⟨(), rfl, by rw [ht]; exact hI, hS.F ht⟩) hS.2.2 dX4_tariff_30
  · refine lv_if_eq (tgt := 24) hx hb dX4_tariff_9 (by decide) (fun h3 => absurd h3 (by decide)) (fun h3 => ?_)
    refine lv_iload_n hx hb dX4_tariff_12 rfl (lv_at hl 2 rfl) ?_
    refine lv_bipush (v := -100) hx hb dX4_tariff_13 (by decide) ?_
    refine lv_icmp_lt (tgt := 24) hx hb dX4_tariff_15 (by decide) (fun h4 => ?_) (fun h4 => ?_)
    · refine lv_aload_n hx hb dX4_tariff_24 rfl (lv_at hl 0 rfl) ?_
      refine lv_bipush (v := -2) hx hb dX4_tariff_25 (by decide) ?_
      refine cy_callm (va_runV (As := [.int (-2)]) (rest := []) ⟨hx, hb, hml, hown, hts⟩ (c_X4_refuse l D cI cJ cO z n (cy_i σ 0 2 0) τ pl hi ad (-2)) (cwV 1 hts gX4_tariff_X4_refuse rfl rfl rfl (by decide +kernel) ⟨Nat.le_of_ble_eq_true rfl, Nat.le_of_ble_eq_true rfl⟩) (cy_preV hK hI (cy_recv hK (hI.1 0 _ cy_CY).1 rfl)) rfl rfl hl.1 rfl (lv_room (Nat.le_of_ble_eq_true rfl)) dX4_tariff_27 ⟨Nat.le_of_ble_eq_true rfl, Nat.le_of_ble_eq_true rfl⟩) hS (fun u H locs hI hz hS => ?_)
      have hI : cy_W D z (cy_CT cI cJ cO n n (cy_no (cy_i σ 0 2 0) (-2)) τ pl hi ad) ad H := hI
      refine W.eq (g2 := F0 m 30 ls [.int (-2)]) rfl ?_
      have E : cy_oTariff σ v r = ((-2), cy_no (cy_i σ 0 2 0) (-2)) := by simp [cy_oTariff, cy_z, b1, cy_isIn, eq, nI_clamp (show q < 2 ^ 31 by omega), nI_1, h4]
      rw [E]
      exact W.iret (v := (-2)) hx hb hr (fun t ht hW => ⟨(), rfl, by rw [ht]; exact hI, hS.F ht⟩) hS.2.2 dX4_tariff_30
    · refine lv_iload_n hx hb dX4_tariff_18 rfl (lv_at hl 2 rfl) ?_
      refine lv_bipush (v := 100) hx hb dX4_tariff_19 (by decide) ?_
      refine lv_icmp_le (tgt := 31) hx hb dX4_tariff_21 (by decide) (fun h5 => ?_) (fun h5 => ?_)
      · refine lv_aload_n hx hb dX4_tariff_31 rfl (lv_at hl 0 rfl) ?_
        refine cy_getY (v := .int (σ.1 0 1)) hx hb hts hin4 hown hK hI 7 (by decide) (hts (.fieldLink RX4 119 "CustomsYard" "lineCount" "I") (by decide +kernel)) rfl dX4_tariff_32 ?_
        refine cy_topi (y := nI q) (eq) ?_
        refine lv_bipush (v := 10) hx hb dX4_tariff_35 (by decide) ?_
        refine lv_icmp_lt (tgt := 47) hx hb dX4_tariff_37 (by decide) (fun h6 => ?_) (fun h6 => ?_)
        · refine lv_aload_n hx hb dX4_tariff_47 rfl (lv_at hl 0 rfl) ?_
          refine cy_getY (v := .ref (ad 5)) hx hb hts hin4 hown hK hI 5 (by decide) (hts (.fieldLink RX4 26 "CustomsYard" "lineViews" "[I") (by decide +kernel)) rfl dX4_tariff_48 ?_
          refine lv_aload_n hx hb dX4_tariff_51 rfl (lv_at hl 0 rfl) ?_
          refine cy_getY (v := .int (σ.1 0 1)) hx hb hts hin4 hown hK hI 7 (by decide) (hts (.fieldLink RX4 119 "CustomsYard" "lineCount" "I") (by decide +kernel)) rfl dX4_tariff_52 ?_
          refine cy_topi (y := nI q) (eq) ?_
          refine lv_iload_n hx hb dX4_tariff_55 rfl (lv_at hl 1 rfl) ?_
          refine cy_stY5 (k := q) (v := v) hx hb hK hI hS (cy_ltq hq (by assumption)) dX4_tariff_56 (fun H locs hI hS => ?_)
          refine lv_aload_n hx hb dX4_tariff_57 rfl (lv_at hl 0 rfl) ?_
          refine cy_getY (v := .ref (ad 6)) hx hb hts hin4 hown hK hI 6 (by decide) (hts (.fieldLink RX4 29 "CustomsYard" "lineRates" "[I") (by decide +kernel)) rfl dX4_tariff_58 ?_
          refine lv_aload_n hx hb dX4_tariff_61 rfl (lv_at hl 0 rfl) ?_
          refine cy_getY (v := .int (σ.1 0 1)) hx hb hts hin4 hown hK hI 7 (by decide) (hts (.fieldLink RX4 119 "CustomsYard" "lineCount" "I") (by decide +kernel)) rfl dX4_tariff_62 ?_
          refine cy_topi (y := nI q) (eq) ?_
          refine lv_iload_n hx hb dX4_tariff_65 rfl (lv_at hl 2 rfl) ?_
          refine cy_stY6 (k := q) (v := r) hx hb hK hI hS (cy_ltq hq (by assumption)) dX4_tariff_66 (fun H locs hI hS => ?_)
          refine lv_aload_n hx hb dX4_tariff_67 rfl (lv_at hl 0 rfl) ?_
          refine lv_dup hx hb dX4_tariff_68 rfl ?_
          refine cy_getY (v := .int (σ.1 0 1)) hx hb hts hin4 hown hK hI 7 (by decide) (hts (.fieldLink RX4 119 "CustomsYard" "lineCount" "I") (by decide +kernel)) rfl dX4_tariff_69 ?_
          refine cy_topi (y := nI q) (eq) ?_
          refine lv_iconst (v := 1) hx hb dX4_tariff_72 (by decide) ?_
          refine lv_iadd hx hb dX4_tariff_73 ?_
          refine cy_topi (y := nI (q + 1)) (nI_1 q) ?_
          refine cy_putY (v := nI (q + 1)) hx hb hts hin4 hown hK hI hS 7 1 (by decide) (hts (.fieldLink RX4 119 "CustomsYard" "lineCount" "I") (by decide +kernel)) rfl (by decide +kernel) rfl dX4_tariff_74 (fun H locs hI hS => ?_)
          refine lv_aload_n hx hb dX4_tariff_77 rfl (lv_at hl 0 rfl) ?_
          refine cy_getY (v := .int (nI (q + 1))) hx hb hts hin4 hown hK hI 7 (by decide) (hts (.fieldLink RX4 119 "CustomsYard" "lineCount" "I") (by decide +kernel)) rfl dX4_tariff_78 ?_
          have E : cy_oTariff σ v r = (nI (q + 1), cy_i (cy_i (cy_i (cy_i σ 0 2 0) 7 q v) 8 q r) 0 1 (nI (q + 1))) := by simp [cy_oTariff, cy_z, b1, cy_isIn, eq, nI_clamp (show q < 2 ^ 31 by omega), nI_1, h4, Int32.not_lt.mpr h5, show ¬ nI q = 10 from fun z0 => by rw [z0] at h6; revert h6; decide]
          rw [E]
          exact W.iret (v := nI (q + 1)) hx hb hr (fun t ht hW => ⟨(), rfl, by rw [ht]; exact hI, hS.F ht⟩) hS.2.2 dX4_tariff_81
        · refine lv_aload_n hx hb dX4_tariff_40 rfl (lv_at hl 0 rfl) ?_
          refine lv_bipush (v := -3) hx hb dX4_tariff_41 (by decide) ?_
          refine cy_callm (va_runV (As := [.int (-3)]) (rest := []) ⟨hx, hb, hml, hown, hts⟩ (c_X4_refuse l D cI cJ cO z n (cy_i σ 0 2 0) τ pl hi ad (-3)) (cwV 1 hts gX4_tariff_X4_refuse rfl rfl rfl (by decide +kernel) ⟨Nat.le_of_ble_eq_true rfl, Nat.le_of_ble_eq_true rfl⟩) (cy_preV hK hI (cy_recv hK (hI.1 0 _ cy_CY).1 rfl)) rfl rfl hl.1 rfl (lv_room (Nat.le_of_ble_eq_true rfl)) dX4_tariff_43 ⟨Nat.le_of_ble_eq_true rfl, Nat.le_of_ble_eq_true rfl⟩) hS (fun u H locs hI hz hS => ?_)
          have hI : cy_W D z (cy_CT cI cJ cO n n (cy_no (cy_i σ 0 2 0) (-3)) τ pl hi ad) ad H := hI
          refine W.eq (g2 := F0 m 46 ls [.int (-3)]) rfl ?_
          have E : cy_oTariff σ v r = ((-3), cy_no (cy_i σ 0 2 0) (-3)) := by simp [cy_oTariff, cy_z, b1, cy_isIn, eq, nI_clamp (show q < 2 ^ 31 by omega), nI_1, h4, Int32.not_lt.mpr h5, show nI q = 10 from cy_eq10 hq h6]
          rw [E]
          exact W.iret (v := (-3)) hx hb hr (fun t ht hW => ⟨(), rfl, by rw [ht]; exact hI, hS.F ht⟩) hS.2.2 dX4_tariff_46
      · refine lv_aload_n hx hb dX4_tariff_24 rfl (lv_at hl 0 rfl) ?_
        refine lv_bipush (v := -2) hx hb dX4_tariff_25 (by decide) ?_
        refine cy_callm (va_runV (As := [.int (-2)]) (rest := []) ⟨hx, hb, hml, hown, hts⟩ (c_X4_refuse l D cI cJ cO z n (cy_i σ 0 2 0) τ pl hi ad (-2)) (cwV 1 hts gX4_tariff_X4_refuse rfl rfl rfl (by decide +kernel) ⟨Nat.le_of_ble_eq_true rfl, Nat.le_of_ble_eq_true rfl⟩) (cy_preV hK hI (cy_recv hK (hI.1 0 _ cy_CY).1 rfl)) rfl rfl hl.1 rfl (lv_room (Nat.le_of_ble_eq_true rfl)) dX4_tariff_27 ⟨Nat.le_of_ble_eq_true rfl, Nat.le_of_ble_eq_true rfl⟩) hS (fun u H locs hI hz hS => ?_)
        have hI : cy_W D z (cy_CT cI cJ cO n n (cy_no (cy_i σ 0 2 0) (-2)) τ pl hi ad) ad H := hI
        refine W.eq (g2 := F0 m 30 ls [.int (-2)]) rfl ?_
        have E : cy_oTariff σ v r = ((-2), cy_no (cy_i σ 0 2 0) (-2)) := by simp [cy_oTariff, cy_z, b1, cy_isIn, eq, nI_clamp (show q < 2 ^ 31 by omega), nI_1, h4, Int32.not_le.mp h5]
        rw [E]
        exact W.iret (v := (-2)) hx hb hr (fun t ht hW => ⟨(), rfl, by rw [ht]; exact hI, hS.F ht⟩) hS.2.2 dX4_tariff_30

set_option maxHeartbeats 4000000 in
set_option maxRecDepth 100000 in
theorem c_X4_line (l : Launch) (D : va_G) (cI cJ cO : ClassId) (z n : Nat) (σ τ : cy_S) (pl : Nat → Int32) (hi : Int32) (ad : Nat → Nat) (hok : cy_ok n σ) (x : Int32)  : Met l yX4_line wsX4_line { frames := 2, cells := 0, slots := 0, locals := 43 } (cy_P D cI cJ cO (fun H => cy_W D z (cy_CT cI cJ cO n n σ τ pl hi ad) ad H) [.ref (ad 0), .int x]) (cy_M (S := Unit) z (fun _ => some (.int (cy_oLine n σ x).1)) (fun _ H => cy_W D z (cy_CT cI cJ cO n n (cy_oLine n σ x).2 τ pl hi ad) ad H)) 0 0 (fun q => z ≤ q) := by
  refine Met.ofW (cc := cX4_line) (maxL := 3) (ret := (some .int)) (by decide) rfl ?_
  intro p e s m args below meth c s₁ B hml hv
  obtain ⟨rfl, hK, hI⟩ := hv
  have hx := B.exec
  have hb := B.bytes
  have hr := B.returns
  have hts := atoms_spec (ws := wsX4_line) B.pre
  have hown : s.vm.findClass RX4 = some m.cls := findClass_of_methodNamed B.named
  have hlocks := B.notSynchronized
  have hS : va_S (fun q => z ≤ q) s.heap s.heap [] := va_S.rf
  have hl := lv_entry ([.ref (ad 0), .int x]) (n := 3) (Nat.le_of_ble_eq_true rfl)
  rw [lg_entry_eq]
  generalize (lg_sl ([.ref (ad 0), .int x]) ++ List.replicate (3 - (lg_sl ([.ref (ad 0), .int x])).length) Slot.unset).toArray = ls at hl ⊢
  have hl : lv_has ls 3 [(0, .ref (ad 0)), (1, .int x)] := hl
  have hin1 := hin1_X4_line
  have hin2 := hin2_X4_line
  have hin3 := hin3_X4_line
  have hin4 := hin4_X4_line
  have h0 := hok.2.1
  have hn := hok.1
  refine lv_aload_n hx hb dX4_line_0 rfl (lv_at hl 0 rfl) ?_
  refine lv_iconst (v := 0) hx hb dX4_line_1 (by decide) ?_
  refine cy_putY (v := 0) hx hb hts hin4 hown hK hI hS 8 2 (by decide) (hts (.fieldLink RX4 38 "CustomsYard" "refusal" "I") (by decide +kernel)) rfl (by decide +kernel) rfl dX4_line_2 (fun H locs hI hS => ?_)
  refine lv_aload_n hx hb dX4_line_5 rfl (lv_at hl 0 rfl) ?_
  refine lv_iload_n hx hb dX4_line_6 rfl (lv_at hl 1 rfl) ?_
  refine cy_callp (v := va_rf (cy_fd n ad x)) (va_runV (As := [.int x]) (rest := []) ⟨hx, hb, hml, hown, hts⟩ (c_X4_find l D cI cJ cO z n (cy_i σ 0 2 0) τ pl hi ad hok x) (cwV 1 hts gX4_line_X4_find rfl rfl rfl (by decide +kernel) ⟨Nat.le_of_ble_eq_true rfl, Nat.le_of_ble_eq_true rfl⟩) (cy_preV hK hI (cy_recv hK (hI.1 0 _ cy_CY).1 rfl)) rfl rfl hl.1 rfl (lv_room (Nat.le_of_ble_eq_true rfl)) dX4_line_7 ⟨Nat.le_of_ble_eq_true rfl, Nat.le_of_ble_eq_true rfl⟩) ?_
  cases b1 : cy_ld n x
  · refine cy_topq (cy_fd_f b1) ?_
    refine lv_astore_nN (lv' := [(2, .null), (0, .ref (ad 0)), (1, .int x)]) hx hb dX4_line_10 rfl hl (by decide) rfl (fun ls hl => ?_)
    refine lv_aload_nN hx hb dX4_line_11 rfl (lv_at hl 0 rfl) ?_
    refine lv_ifnonnullN hx hb dX4_line_12 ?_
    refine lv_aload_n hx hb dX4_line_15 rfl (lv_at hl 1 rfl) ?_
    refine lv_bipush (v := -2) hx hb dX4_line_16 (by decide) ?_
    refine cy_callm (va_runV (As := [.int (-2)]) (rest := []) ⟨hx, hb, hml, hown, hts⟩ (c_X4_refuse l D cI cJ cO z n (cy_i σ 0 2 0) τ pl hi ad (-2)) (cwV 1 hts gX4_line_X4_refuse rfl rfl rfl (by decide +kernel) ⟨Nat.le_of_ble_eq_true rfl, Nat.le_of_ble_eq_true rfl⟩) (cy_preV hK hI (cy_recv hK (hI.1 0 _ cy_CY).1 rfl)) rfl rfl hl.1 rfl (lv_room (Nat.le_of_ble_eq_true rfl)) dX4_line_18 ⟨Nat.le_of_ble_eq_true rfl, Nat.le_of_ble_eq_true rfl⟩) hS (fun u H locs hI hz hS => ?_)
    have hI : cy_W D z (cy_CT cI cJ cO n n (cy_no (cy_i σ 0 2 0) (-2)) τ pl hi ad) ad H := hI
    refine W.eq (g2 := F0 m 21 ls [.int (-2)]) rfl ?_
    have E : cy_oLine n σ x = ((-2), cy_no (cy_i σ 0 2 0) (-2)) := by simp [cy_oLine, cy_z, cy_li_z, b1]
    rw [E]
    exact W.iret (v := (-2)) hx hb hr (fun t ht hW => ⟨(), rfl, by rw [ht]; exact hI, hS.F ht⟩) hS.2.2 dX4_line_21
  · obtain ⟨kx, hkx, rfl⟩ := (cy_ld_iff hn _).mp b1
    have nekx := cy_ne1 (show kx < 2 ^ 31 by omega)
    refine cy_topq (cy_fd_t hn b1 hkx) ?_
    refine lv_astore_n (lv' := [(2, .ref (ad (100 + 2 * kx))), (0, .ref (ad 0)), (1, .int (nI kx))]) hx hb dX4_line_10 rfl hl (by decide) rfl (fun ls hl => ?_)
    refine lv_aload_n hx hb dX4_line_11 rfl (lv_at hl 0 rfl) ?_
    refine lv_ifnonnull (tgt := 22) hx hb dX4_line_12 (by decide) ?_
    refine lv_aload_n hx hb dX4_line_22 rfl (lv_at hl 1 rfl) ?_
    refine lv_aload_n hx hb dX4_line_23 rfl (lv_at hl 0 rfl) ?_
    refine cy_callp (v := .int (cy_li (cy_i σ 0 2 0) kx)) (va_runV (As := [.ref (ad (100 + 2 * kx))]) (rest := []) ⟨hx, hb, hml, hown, hts⟩ (c_X4_lineFor l D cI cJ cO z n (cy_i σ 0 2 0) τ pl hi ad hok kx hkx) (cwV 1 hts gX4_line_X4_lineFor rfl rfl rfl (by decide +kernel) ⟨Nat.le_of_ble_eq_true rfl, Nat.le_of_ble_eq_true rfl⟩) (cy_preV hK hI (cy_recv hK (hI.1 0 _ cy_CY).1 rfl)) rfl rfl hl.1 rfl (lv_room (Nat.le_of_ble_eq_true rfl)) dX4_line_24 ⟨Nat.le_of_ble_eq_true rfl, Nat.le_of_ble_eq_true rfl⟩) ?_
    have E : cy_oLine n σ (nI kx) = (cy_li (cy_i σ 0 2 0) kx, cy_i σ 0 2 0) := by first | (simp [cy_oLine, cy_z, cy_li_z, nI_clamp (show kx < 2 ^ 31 by omega), b1]; done) | (simp [cy_oLine, cy_z, cy_li_z, nI_clamp (show kx < 2 ^ 31 by omega), b1]; simp [nekx]; done) | (simp [cy_oLine, cy_z, cy_li_z, nI_clamp (show kx < 2 ^ 31 by omega), b1, nekx]; done)
    rw [E]
    exact W.iret (v := cy_li (cy_i σ 0 2 0) kx) hx hb hr (fun t ht hW => ⟨(), rfl, by rw [ht]; exact hI, hS.F ht⟩) hS.2.2 dX4_line_27

set_option maxHeartbeats 4000000 in
set_option maxRecDepth 100000 in
theorem c_X4_duty (l : Launch) (D : va_G) (cI cJ cO : ClassId) (z n : Nat) (σ τ : cy_S) (pl : Nat → Int32) (hi : Int32) (ad : Nat → Nat) (hok : cy_ok n σ) (x : Int32)  : Met l yX4_duty wsX4_duty { frames := 2, cells := 0, slots := 0, locals := 43 } (cy_P D cI cJ cO (fun H => cy_W D z (cy_CT cI cJ cO n n σ τ pl hi ad) ad H) [.ref (ad 0), .int x]) (cy_M (S := Unit) z (fun _ => some (.int (cy_oDuty n σ x).1)) (fun _ H => cy_W D z (cy_CT cI cJ cO n n (cy_oDuty n σ x).2 τ pl hi ad) ad H)) 0 0 (fun q => z ≤ q) := by
  refine Met.ofW (cc := cX4_duty) (maxL := 4) (ret := (some .int)) (by decide) rfl ?_
  intro p e s m args below meth c s₁ B hml hv
  obtain ⟨rfl, hK, hI⟩ := hv
  have hx := B.exec
  have hb := B.bytes
  have hr := B.returns
  have hts := atoms_spec (ws := wsX4_duty) B.pre
  have hown : s.vm.findClass RX4 = some m.cls := findClass_of_methodNamed B.named
  have hlocks := B.notSynchronized
  have hS : va_S (fun q => z ≤ q) s.heap s.heap [] := va_S.rf
  have hl := lv_entry ([.ref (ad 0), .int x]) (n := 4) (Nat.le_of_ble_eq_true rfl)
  rw [lg_entry_eq]
  generalize (lg_sl ([.ref (ad 0), .int x]) ++ List.replicate (4 - (lg_sl ([.ref (ad 0), .int x])).length) Slot.unset).toArray = ls at hl ⊢
  have hl : lv_has ls 4 [(0, .ref (ad 0)), (1, .int x)] := hl
  have hin1 := hin1_X4_duty
  have hin2 := hin2_X4_duty
  have hin3 := hin3_X4_duty
  have hin4 := hin4_X4_duty
  have h0 := hok.2.1
  have hn := hok.1
  obtain ⟨q, hq, eq⟩ := hok.2.2.2.2
  refine lv_aload_n hx hb dX4_duty_0 rfl (lv_at hl 0 rfl) ?_
  refine lv_iconst (v := 0) hx hb dX4_duty_1 (by decide) ?_
  refine cy_putY (v := 0) hx hb hts hin4 hown hK hI hS 8 2 (by decide) (hts (.fieldLink RX4 38 "CustomsYard" "refusal" "I") (by decide +kernel)) rfl (by decide +kernel) rfl dX4_duty_2 (fun H locs hI hS => ?_)
  refine lv_aload_n hx hb dX4_duty_5 rfl (lv_at hl 0 rfl) ?_
  refine lv_iload_n hx hb dX4_duty_6 rfl (lv_at hl 1 rfl) ?_
  refine cy_callp (v := va_rf (cy_fd n ad x)) (va_runV (As := [.int x]) (rest := []) ⟨hx, hb, hml, hown, hts⟩ (c_X4_find l D cI cJ cO z n (cy_i σ 0 2 0) τ pl hi ad hok x) (cwV 1 hts gX4_duty_X4_find rfl rfl rfl (by decide +kernel) ⟨Nat.le_of_ble_eq_true rfl, Nat.le_of_ble_eq_true rfl⟩) (cy_preV hK hI (cy_recv hK (hI.1 0 _ cy_CY).1 rfl)) rfl rfl hl.1 rfl (lv_room (Nat.le_of_ble_eq_true rfl)) dX4_duty_7 ⟨Nat.le_of_ble_eq_true rfl, Nat.le_of_ble_eq_true rfl⟩) ?_
  cases b1 : cy_ld n x
  · refine cy_topq (cy_fd_f b1) ?_
    refine lv_astore_nN (lv' := [(2, .null), (0, .ref (ad 0)), (1, .int x)]) hx hb dX4_duty_10 rfl hl (by decide) rfl (fun ls hl => ?_)
    refine lv_aload_nN hx hb dX4_duty_11 rfl (lv_at hl 0 rfl) ?_
    refine lv_ifnonnullN hx hb dX4_duty_12 ?_
    refine lv_aload_n hx hb dX4_duty_15 rfl (lv_at hl 1 rfl) ?_
    refine lv_bipush (v := -2) hx hb dX4_duty_16 (by decide) ?_
    refine cy_callm (va_runV (As := [.int (-2)]) (rest := []) ⟨hx, hb, hml, hown, hts⟩ (c_X4_refuse l D cI cJ cO z n (cy_i σ 0 2 0) τ pl hi ad (-2)) (cwV 1 hts gX4_duty_X4_refuse rfl rfl rfl (by decide +kernel) ⟨Nat.le_of_ble_eq_true rfl, Nat.le_of_ble_eq_true rfl⟩) (cy_preV hK hI (cy_recv hK (hI.1 0 _ cy_CY).1 rfl)) rfl rfl hl.1 rfl (lv_room (Nat.le_of_ble_eq_true rfl)) dX4_duty_18 ⟨Nat.le_of_ble_eq_true rfl, Nat.le_of_ble_eq_true rfl⟩) hS (fun u H locs hI hz hS => ?_)
    have hI : cy_W D z (cy_CT cI cJ cO n n (cy_no (cy_i σ 0 2 0) (-2)) τ pl hi ad) ad H := hI
    refine W.eq (g2 := F0 m 21 ls [.int (-2)]) rfl ?_
    refine lv_pop hx hb dX4_duty_21 rfl ?_
    refine lv_iconst (v := 0) hx hb dX4_duty_22 (by decide) ?_
    have E : cy_oDuty n σ x = (0, cy_no (cy_i σ 0 2 0) (-2)) := by simp [cy_oDuty, cy_z, cy_co_z, b1]
    rw [E]
    exact W.iret (v := 0) hx hb hr (fun t ht hW => ⟨(), rfl, by rw [ht]; exact hI, hS.F ht⟩) hS.2.2 dX4_duty_23
  · obtain ⟨kx, hkx, rfl⟩ := (cy_ld_iff hn _).mp b1
    have nekx := cy_ne1 (show kx < 2 ^ 31 by omega)
    refine cy_topq (cy_fd_t hn b1 hkx) ?_
    refine lv_astore_n (lv' := [(2, .ref (ad (100 + 2 * kx))), (0, .ref (ad 0)), (1, .int (nI kx))]) hx hb dX4_duty_10 rfl hl (by decide) rfl (fun ls hl => ?_)
    refine lv_aload_n hx hb dX4_duty_11 rfl (lv_at hl 0 rfl) ?_
    refine lv_ifnonnull (tgt := 24) hx hb dX4_duty_12 (by decide) ?_
    refine lv_aload_n hx hb dX4_duty_24 rfl (lv_at hl 1 rfl) ?_
    refine lv_aload_n hx hb dX4_duty_25 rfl (lv_at hl 0 rfl) ?_
    refine cy_callp (v := .int (cy_li (cy_i σ 0 2 0) kx)) (va_runV (As := [.ref (ad (100 + 2 * kx))]) (rest := []) ⟨hx, hb, hml, hown, hts⟩ (c_X4_lineFor l D cI cJ cO z n (cy_i σ 0 2 0) τ pl hi ad hok kx hkx) (cwV 1 hts gX4_duty_X4_lineFor rfl rfl rfl (by decide +kernel) ⟨Nat.le_of_ble_eq_true rfl, Nat.le_of_ble_eq_true rfl⟩) (cy_preV hK hI (cy_recv hK (hI.1 0 _ cy_CY).1 rfl)) rfl rfl hl.1 rfl (lv_room (Nat.le_of_ble_eq_true rfl)) dX4_duty_26 ⟨Nat.le_of_ble_eq_true rfl, Nat.le_of_ble_eq_true rfl⟩) ?_
    refine cy_topi (y := cy_li σ kx) (cy_li_z σ kx 0) ?_
    rcases cy_lf_cases σ kx q 0 with e2 | ⟨t0, -, ht0, e2⟩
    · have e2 : cy_li σ kx = -1 := by unfold cy_li; rw [eq, nI_clamp (by omega)]; exact e2
      refine cy_topi e2 ?_
      refine lv_istore_n (lv' := [(3, .int (-1)), (2, .ref (ad (100 + 2 * kx))), (0, .ref (ad 0)), (1, .int (nI kx))]) hx hb dX4_duty_29 rfl hl (by decide) rfl (fun ls hl => ?_)
      refine lv_iload_n hx hb dX4_duty_30 rfl (lv_at hl 0 rfl) ?_
      refine lv_iconst (v := -1) hx hb dX4_duty_31 (by decide) ?_
      refine lv_icmp_ne (tgt := 37) hx hb dX4_duty_32 (by decide) (fun h3 => absurd (by decide) h3) (fun h3 => ?_)
      refine lv_iconst (v := 0) hx hb dX4_duty_35 (by decide) ?_
      have E : cy_oDuty n σ (nI kx) = (0, cy_i σ 0 2 0) := by first | (simp [cy_oDuty, cy_z, cy_co_z, nI_clamp (show kx < 2 ^ 31 by omega), b1]; done) | (simp [cy_oDuty, cy_z, cy_co_z, nI_clamp (show kx < 2 ^ 31 by omega), b1]; simp [nekx, e2]; done) | (simp [cy_oDuty, cy_z, cy_co_z, nI_clamp (show kx < 2 ^ 31 by omega), b1, nekx, e2]; done)
      rw [E]
      exact W.iret (v := 0) hx hb hr (fun t ht hW => ⟨(), rfl, by rw [ht]; exact hI, hS.F ht⟩) hS.2.2 dX4_duty_36
    · have e2 : cy_li σ kx = nI t0 := by unfold cy_li; rw [eq, nI_clamp (by omega)]; exact e2
      have ne0 := cy_ne1 (show t0 < 2 ^ 31 by omega)
      refine cy_topi e2 ?_
      refine lv_istore_n (lv' := [(3, .int (nI t0)), (2, .ref (ad (100 + 2 * kx))), (0, .ref (ad 0)), (1, .int (nI kx))]) hx hb dX4_duty_29 rfl hl (by decide) rfl (fun ls hl => ?_)
      refine lv_iload_n hx hb dX4_duty_30 rfl (lv_at hl 0 rfl) ?_
      refine lv_iconst (v := -1) hx hb dX4_duty_31 (by decide) ?_
      refine lv_icmp_ne (tgt := 37) hx hb dX4_duty_32 (by decide) (fun h4 => ?_) (fun h4 => absurd h4 (ne0))
      refine lv_aload_n hx hb dX4_duty_37 rfl (lv_at hl 2 rfl) ?_
      refine cy_getY (v := .ref (ad 6)) hx hb hts hin4 hown hK hI 6 (by decide) (hts (.fieldLink RX4 29 "CustomsYard" "lineRates" "[I") (by decide +kernel)) rfl dX4_duty_38 ?_
      refine lv_iload_n hx hb dX4_duty_41 rfl (lv_at hl 0 rfl) ?_
      refine cy_iald (f := σ.1 8) (k := t0) hx hb hK.1 hI 0 (x := 6) rfl rfl (by omega) (by decide) dX4_duty_42 ?_
      refine lv_aload_n hx hb dX4_duty_43 rfl (lv_at hl 1 rfl) ?_
      refine lv_aload_n hx hb dX4_duty_44 rfl (lv_at hl 2 rfl) ?_
      refine cy_getY (v := .ref (ad 5)) hx hb hts hin4 hown hK hI 5 (by decide) (hts (.fieldLink RX4 26 "CustomsYard" "lineViews" "[I") (by decide +kernel)) rfl dX4_duty_45 ?_
      refine lv_iload_n hx hb dX4_duty_48 rfl (lv_at hl 0 rfl) ?_
      refine cy_iald (f := σ.1 7) (k := t0) hx hb hK.1 hI 0 (x := 5) rfl rfl (by omega) (by decide) dX4_duty_49 ?_
      refine cy_callp (v := .int (cy_co (cy_i σ 0 2 0) kx (σ.1 7 t0))) (rest := [.int (σ.1 8 t0)]) (a := (.ref (ad (100 + 2 * kx)) :: [.int (σ.1 7 t0)] : List Value).toArray) (by 
          rcases cy_kd3 hok hkx with hq | hq | hq
          · exact va_runU (As := [.int (σ.1 7 t0)]) (rest := [.int (σ.1 8 t0)]) ⟨hx, hb, hml, hown, hts⟩ (c_X1_comesAs l D cI cJ cO z n (cy_i σ 0 2 0) τ pl hi ad hok kx hkx hq.1 hq.2.2.1 (σ.1 7 t0)) (va_cwA 1 hts gX4_duty_X1_comesAs_u125X1 rfl rfl rfl hK.dC (by decide +kernel) ⟨Nat.le_of_ble_eq_true rfl, Nat.le_of_ble_eq_true rfl⟩) (cy_preV hK hI (cy_rv0 hK hI hkx hq.1)) rfl rfl hl.1 rfl (lv_room (Nat.le_of_ble_eq_true rfl)) dX4_duty_50 ⟨Nat.le_of_ble_eq_true rfl, Nat.le_of_ble_eq_true rfl⟩
          · exact va_runU (As := [.int (σ.1 7 t0)]) (rest := [.int (σ.1 8 t0)]) ⟨hx, hb, hml, hown, hts⟩ (c_X2_comesAs l D cI cJ cO z n (cy_i σ 0 2 0) τ pl hi ad hok kx hkx hq.1 hq.2.2.1 (σ.1 7 t0)) (va_cwA 1 hts gX4_duty_X2_comesAs_u125X2 rfl rfl rfl hK.dC (by decide +kernel) ⟨Nat.le_of_ble_eq_true rfl, Nat.le_of_ble_eq_true rfl⟩) (cy_preV hK hI (cy_rv1 hK hI hkx hq.1)) rfl rfl hl.1 rfl (lv_room (Nat.le_of_ble_eq_true rfl)) dX4_duty_50 ⟨Nat.le_of_ble_eq_true rfl, Nat.le_of_ble_eq_true rfl⟩
          · exact va_runU (As := [.int (σ.1 7 t0)]) (rest := [.int (σ.1 8 t0)]) ⟨hx, hb, hml, hown, hts⟩ (c_X3_comesAs l D cI cJ cO z n (cy_i σ 0 2 0) τ pl hi ad hok kx hkx hq.1 hq.2.2.1 (σ.1 7 t0)) (va_cwA 1 hts gX4_duty_X3_comesAs_u125X3 rfl rfl rfl hK.dC (by decide +kernel) ⟨Nat.le_of_ble_eq_true rfl, Nat.le_of_ble_eq_true rfl⟩) (cy_preV hK hI (cy_rv2 hK hI hkx hq.1)) rfl rfl hl.1 rfl (lv_room (Nat.le_of_ble_eq_true rfl)) dX4_duty_50 ⟨Nat.le_of_ble_eq_true rfl, Nat.le_of_ble_eq_true rfl⟩) ?_
      refine lv_imul hx hb dX4_duty_53 ?_
      have E : cy_oDuty n σ (nI kx) = (((σ.1 8 t0) * (cy_co (cy_i σ 0 2 0) kx (σ.1 7 t0))), cy_i σ 0 2 0) := by first | (simp [cy_oDuty, cy_z, cy_co_z, nI_clamp (show kx < 2 ^ 31 by omega), nI_clamp (show t0 < 2 ^ 31 by omega), b1]; done) | (simp [cy_oDuty, cy_z, cy_co_z, nI_clamp (show kx < 2 ^ 31 by omega), nI_clamp (show t0 < 2 ^ 31 by omega), b1]; simp [nekx, e2, ne0]; done) | (simp [cy_oDuty, cy_z, cy_co_z, nI_clamp (show kx < 2 ^ 31 by omega), nI_clamp (show t0 < 2 ^ 31 by omega), b1, nekx, e2, ne0]; done)
      rw [E]
      exact W.iret (v := ((σ.1 8 t0) * (cy_co (cy_i σ 0 2 0) kx (σ.1 7 t0)))) hx hb hr (fun t ht hW => ⟨(), rfl, by rw [ht]; exact hI, hS.F ht⟩) hS.2.2 dX4_duty_54
