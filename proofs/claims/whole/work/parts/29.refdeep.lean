theorem hin5_X5_weight : ∀ w ∈ u_ws RX5 TX5 19, w ∈ wsX5_weight := by decide +kernel
theorem hin5_X5_pass : ∀ w ∈ u_ws RX5 TX5 19, w ∈ wsX5_pass := by decide +kernel
theorem hin5_X5_inside : ∀ w ∈ u_ws RX5 TX5 19, w ∈ wsX5_inside := by decide +kernel
set_option maxHeartbeats 4000000 in
set_option maxRecDepth 100000 in
theorem c_X5_weight (l : Launch) (D : va_G) (cI cJ cO : ClassId) (z n na : Nat) (σ τ : cy_S) (pl : Nat → Int32) (hi : Int32) (ad : Nat → Nat) (nt : Nat) (hok : cy_ok nt τ) (x : Int32)  : Met l yX5_weight wsX5_weight { frames := 4, cells := 0, slots := 0, locals := 89 } (cy_P D cI cJ cO (fun H => cy_W D z (cy_CT cI cJ cO n na σ τ pl hi ad) ad H) [.ref (ad 20), .int x]) (cy_M (S := (Nat → Int32) × Int32) z (fun _ => some (.long (cy_oWeight nt τ x).1)) (fun u H => cy_W D z (cy_CT cI cJ cO n na σ (cy_oWeight nt τ x).2 u.1 u.2 ad) ad H)) 0 0 (fun q => z ≤ q) := by
  refine Met.ofW (cc := cX5_weight) (maxL := 2) (ret := (some .long)) (by decide) rfl ?_
  intro p e s m args below meth c s₁ B hml hv
  obtain ⟨rfl, hK, hI⟩ := hv
  have hx := B.exec
  have hb := B.bytes
  have hr := B.returns
  have hts := atoms_spec (ws := wsX5_weight) B.pre
  have hown : s.vm.findClass RX5 = some m.cls := findClass_of_methodNamed B.named
  have hlocks := B.notSynchronized
  have hS : va_S (fun q => z ≤ q) s.heap s.heap [] := va_S.rf
  have hl := lv_entry ([.ref (ad 20), .int x]) (n := 2) (Nat.le_of_ble_eq_true rfl)
  rw [lg_entry_eq]
  generalize (lg_sl ([.ref (ad 20), .int x]) ++ List.replicate (2 - (lg_sl ([.ref (ad 20), .int x])).length) Slot.unset).toArray = ls at hl ⊢
  have hl : lv_has ls 2 [(0, .ref (ad 20)), (1, .int x)] := hl
  have hin5 := hin5_X5_weight
  have h0 := hok.2.1
  have hn := hok.1
  refine lv_aload_n hx hb dX5_weight_0 rfl (lv_at hl 0 rfl) ?_
  refine lv_iconst (v := 0) hx hb dX5_weight_1 (by decide) ?_
  refine cy_putT (v := 0) hx hb hts hin5 hown hK hI hS 12 2 (by decide) (hts (.fieldLink RX5 52 "CustomsYardModel" "refused" "I") (by decide +kernel)) rfl (by decide +kernel) rfl dX5_weight_2 (fun H locs hI hS => ?_)
  refine lv_aload_n hx hb dX5_weight_5 rfl (lv_at hl 0 rfl) ?_
  refine lv_iload_n hx hb dX5_weight_6 rfl (lv_at hl 1 rfl) ?_
  refine cy_callp (v := .int (cy_b (cy_ld nt x))) (va_runV (As := [.int x]) (rest := []) ⟨hx, hb, hml, hown, hts⟩ (c_X5_isLoad l D cI cJ cO z n na σ (cy_i τ 0 2 0) pl hi ad nt h0 x) (cwV 1 hts gX5_weight_X5_isLoad rfl rfl rfl (by decide +kernel) ⟨Nat.le_of_ble_eq_true rfl, Nat.le_of_ble_eq_true rfl⟩) (cy_preV hK hI (cy_recv hK (hI.1 20 _ cy_CR).1 rfl)) rfl rfl hl.1 rfl (lv_room (Nat.le_of_ble_eq_true rfl)) dX5_weight_7 ⟨Nat.le_of_ble_eq_true rfl, Nat.le_of_ble_eq_true rfl⟩) ?_
  cases b1 : (cy_ld nt x)
  · refine lv_if_ne (tgt := 21) hx hb dX5_weight_10 (by decide) (fun h2 => absurd (by decide) h2) (fun h2 => ?_)
    refine lv_aload_n hx hb dX5_weight_13 rfl (lv_at hl 0 rfl) ?_
    refine lv_bipush (v := -2) hx hb dX5_weight_14 (by decide) ?_
    refine cy_putT (v := (-2)) hx hb hts hin5 hown hK hI hS 12 2 (by decide) (hts (.fieldLink RX5 52 "CustomsYardModel" "refused" "I") (by decide +kernel)) rfl (by decide +kernel) rfl dX5_weight_16 (fun H locs hI hS => ?_)
    refine lv_lconst (v := 0) hx hb dX5_weight_19 (by decide) ?_
    have E : cy_oWeight nt τ x = (0, cy_i (cy_i τ 0 2 0) 0 2 (-2)) := by simp [cy_oWeight, cy_z, cy_i_twice, cy_nb2, cy_wt_z, b1]
    rw [E]
    exact W.lret (v := 0) hx hb hr (fun t ht hW => ⟨(pl, hi), rfl, by rw [ht]; exact hI, hS.F ht⟩) hS.2.2 dX5_weight_20
  · obtain ⟨kx, hkx, rfl⟩ := (cy_ld_iff hn _).mp b1
    refine lv_if_ne (tgt := 21) hx hb dX5_weight_10 (by decide) (fun h3 => ?_) (fun h3 => absurd h3 (by decide))
    refine lv_aload_n hx hb dX5_weight_21 rfl (lv_at hl 0 rfl) ?_
    refine lv_iload_n hx hb dX5_weight_22 rfl (lv_at hl 1 rfl) ?_
    refine cy_callm (va_runV (As := [.int (nI kx)]) (rest := []) ⟨hx, hb, hml, hown, hts⟩ (c_X5_weightOf l D cI cJ cO z n na σ (cy_i τ 0 2 0) pl hi ad nt hok kx hkx) (cwV 1 hts gX5_weight_X5_weightOf rfl rfl rfl (by decide +kernel) ⟨Nat.le_of_ble_eq_true rfl, Nat.le_of_ble_eq_true rfl⟩) (cy_preV hK hI (cy_recv hK (hI.1 20 _ cy_CR).1 rfl)) rfl rfl hl.1 rfl (lv_room (Nat.le_of_ble_eq_true rfl)) dX5_weight_23 ⟨Nat.le_of_ble_eq_true rfl, Nat.le_of_ble_eq_true rfl⟩) hS (fun u H locs hI hz hS => ?_)
    have hI : cy_W D z (cy_CT cI cJ cO n na σ (cy_i τ 0 2 0) u.1 u.2 ad) ad H := hI
    refine W.eq (g2 := F0 m 26 ls [.long (cy_wt (cy_i τ 0 2 0) 3 kx)]) rfl ?_
    have E : cy_oWeight nt τ (nI kx) = (cy_wt (cy_i τ 0 2 0) 3 kx, cy_i τ 0 2 0) := by simp [cy_oWeight, cy_z, cy_i_twice, cy_nb2, cy_wt_z, nI_clamp (show kx < 2 ^ 31 by omega), b1]
    rw [E]
    exact W.lret (v := cy_wt (cy_i τ 0 2 0) 3 kx) hx hb hr (fun t ht hW => ⟨(u.1, u.2), rfl, by rw [ht]; exact hI, hS.F ht⟩) hS.2.2 dX5_weight_26

set_option maxHeartbeats 4000000 in
set_option maxRecDepth 100000 in
theorem c_X5_pass (l : Launch) (D : va_G) (cI cJ cO : ClassId) (z n na : Nat) (σ τ : cy_S) (pl : Nat → Int32) (hi : Int32) (ad : Nat → Nat) (nt : Nat) (hok : cy_ok nt τ) (x g : Int32)  : Met l yX5_pass wsX5_pass { frames := 4, cells := 0, slots := 0, locals := 89 } (cy_P D cI cJ cO (fun H => cy_W D z (cy_CT cI cJ cO n na σ τ pl hi ad) ad H) [.ref (ad 20), .int x, .int g]) (cy_M (S := (Nat → Int32) × Int32) z (fun _ => some (.int (cy_oPass nt τ x g).1)) (fun u H => cy_W D z (cy_CT cI cJ cO n na σ (cy_oPass nt τ x g).2 u.1 u.2 ad) ad H)) 0 0 (fun q => z ≤ q) := by
  refine Met.ofW (cc := cX5_pass) (maxL := 3) (ret := (some .int)) (by decide) rfl ?_
  intro p e s m args below meth c s₁ B hml hv
  obtain ⟨rfl, hK, hI⟩ := hv
  have hx := B.exec
  have hb := B.bytes
  have hr := B.returns
  have hts := atoms_spec (ws := wsX5_pass) B.pre
  have hown : s.vm.findClass RX5 = some m.cls := findClass_of_methodNamed B.named
  have hlocks := B.notSynchronized
  have hS : va_S (fun q => z ≤ q) s.heap s.heap [] := va_S.rf
  have hl := lv_entry ([.ref (ad 20), .int x, .int g]) (n := 3) (Nat.le_of_ble_eq_true rfl)
  rw [lg_entry_eq]
  generalize (lg_sl ([.ref (ad 20), .int x, .int g]) ++ List.replicate (3 - (lg_sl ([.ref (ad 20), .int x, .int g])).length) Slot.unset).toArray = ls at hl ⊢
  have hl : lv_has ls 3 [(0, .ref (ad 20)), (1, .int x), (2, .int g)] := hl
  have hin5 := hin5_X5_pass
  have h0 := hok.2.1
  have hn := hok.1
  refine lv_aload_n hx hb dX5_pass_0 rfl (lv_at hl 0 rfl) ?_
  refine lv_iconst (v := 0) hx hb dX5_pass_1 (by decide) ?_
  refine cy_putT (v := 0) hx hb hts hin5 hown hK hI hS 12 2 (by decide) (hts (.fieldLink RX5 52 "CustomsYardModel" "refused" "I") (by decide +kernel)) rfl (by decide +kernel) rfl dX5_pass_2 (fun H locs hI hS => ?_)
  refine lv_aload_n hx hb dX5_pass_5 rfl (lv_at hl 0 rfl) ?_
  refine lv_iload_n hx hb dX5_pass_6 rfl (lv_at hl 1 rfl) ?_
  refine cy_callp (v := .int (cy_b (cy_ld nt x))) (va_runV (As := [.int x]) (rest := []) ⟨hx, hb, hml, hown, hts⟩ (c_X5_isLoad l D cI cJ cO z n na σ (cy_i τ 0 2 0) pl hi ad nt h0 x) (cwV 1 hts gX5_pass_X5_isLoad rfl rfl rfl (by decide +kernel) ⟨Nat.le_of_ble_eq_true rfl, Nat.le_of_ble_eq_true rfl⟩) (cy_preV hK hI (cy_recv hK (hI.1 20 _ cy_CR).1 rfl)) rfl rfl hl.1 rfl (lv_room (Nat.le_of_ble_eq_true rfl)) dX5_pass_7 ⟨Nat.le_of_ble_eq_true rfl, Nat.le_of_ble_eq_true rfl⟩) ?_
  cases b1 : (cy_ld nt x)
  · refine lv_if_eq (tgt := 30) hx hb dX5_pass_10 (by decide) (fun h2 => ?_) (fun h2 => absurd (by decide) h2)
    refine lv_aload_n hx hb dX5_pass_30 rfl (lv_at hl 0 rfl) ?_
    refine lv_bipush (v := -2) hx hb dX5_pass_31 (by decide) ?_
    refine cy_callm (va_runV (As := [.int (-2)]) (rest := []) ⟨hx, hb, hml, hown, hts⟩ (c_X5_no l D cI cJ cO z n na σ (cy_i τ 0 2 0) pl hi ad (-2)) (cwV 1 hts gX5_pass_X5_no rfl rfl rfl (by decide +kernel) ⟨Nat.le_of_ble_eq_true rfl, Nat.le_of_ble_eq_true rfl⟩) (cy_preV hK hI (cy_recv hK (hI.1 20 _ cy_CR).1 rfl)) rfl rfl hl.1 rfl (lv_room (Nat.le_of_ble_eq_true rfl)) dX5_pass_33 ⟨Nat.le_of_ble_eq_true rfl, Nat.le_of_ble_eq_true rfl⟩) hS (fun u H locs hI hz hS => ?_)
    have hI : cy_W D z (cy_CT cI cJ cO n na σ (cy_no (cy_i τ 0 2 0) (-2)) pl hi ad) ad H := hI
    refine W.eq (g2 := F0 m 36 ls [.int (-2)]) rfl ?_
    have E : cy_oPass nt τ x g = ((-2), cy_no (cy_i τ 0 2 0) (-2)) := by simp [cy_oPass, cy_z, cy_wt_z, b1]
    rw [E]
    exact W.iret (v := (-2)) hx hb hr (fun t ht hW => ⟨(pl, hi), rfl, by rw [ht]; exact hI, hS.F ht⟩) hS.2.2 dX5_pass_36
  · obtain ⟨kx, hkx, rfl⟩ := (cy_ld_iff hn _).mp b1
    refine lv_if_eq (tgt := 30) hx hb dX5_pass_10 (by decide) (fun h3 => absurd h3 (by decide)) (fun h3 => ?_)
    refine lv_iload_n hx hb dX5_pass_13 rfl (lv_at hl 2 rfl) ?_
    refine cy_callp (v := .int (cy_b (cy_gt g))) (va_runS (As := [.int g]) (rest := []) ⟨hx, hb, hml, hown, hts⟩ (c_X5_isGate l g) (va_cwS 1 hts gX5_pass_X5_isGate rfl rfl rfl (by decide +kernel) ⟨Nat.le_of_ble_eq_true rfl, Nat.le_of_ble_eq_true rfl⟩) preEq rfl rfl hl.1 rfl (lv_room (Nat.le_of_ble_eq_true rfl)) dX5_pass_14 ⟨Nat.le_of_ble_eq_true rfl, Nat.le_of_ble_eq_true rfl⟩) ?_
    cases b4 : (cy_gt g)
    · refine lv_if_eq (tgt := 30) hx hb dX5_pass_17 (by decide) (fun h5 => ?_) (fun h5 => absurd (by decide) h5)
      refine lv_aload_n hx hb dX5_pass_30 rfl (lv_at hl 0 rfl) ?_
      refine lv_bipush (v := -2) hx hb dX5_pass_31 (by decide) ?_
      refine cy_callm (va_runV (As := [.int (-2)]) (rest := []) ⟨hx, hb, hml, hown, hts⟩ (c_X5_no l D cI cJ cO z n na σ (cy_i τ 0 2 0) pl hi ad (-2)) (cwV 1 hts gX5_pass_X5_no rfl rfl rfl (by decide +kernel) ⟨Nat.le_of_ble_eq_true rfl, Nat.le_of_ble_eq_true rfl⟩) (cy_preV hK hI (cy_recv hK (hI.1 20 _ cy_CR).1 rfl)) rfl rfl hl.1 rfl (lv_room (Nat.le_of_ble_eq_true rfl)) dX5_pass_33 ⟨Nat.le_of_ble_eq_true rfl, Nat.le_of_ble_eq_true rfl⟩) hS (fun u H locs hI hz hS => ?_)
      have hI : cy_W D z (cy_CT cI cJ cO n na σ (cy_no (cy_i τ 0 2 0) (-2)) pl hi ad) ad H := hI
      refine W.eq (g2 := F0 m 36 ls [.int (-2)]) rfl ?_
      have E : cy_oPass nt τ (nI kx) g = ((-2), cy_no (cy_i τ 0 2 0) (-2)) := by simp [cy_oPass, cy_z, cy_wt_z, nI_clamp (show kx < 2 ^ 31 by omega), b1, b4]
      rw [E]
      exact W.iret (v := (-2)) hx hb hr (fun t ht hW => ⟨(pl, hi), rfl, by rw [ht]; exact hI, hS.F ht⟩) hS.2.2 dX5_pass_36
    · obtain ⟨j, hj, rfl⟩ := (cy_in6 _).mp b4
      refine lv_if_eq (tgt := 30) hx hb dX5_pass_17 (by decide) (fun h6 => absurd h6 (by decide)) (fun h6 => ?_)
      refine lv_aload_n hx hb dX5_pass_20 rfl (lv_at hl 0 rfl) ?_
      refine cy_getT (v := .ref (ad 27)) hx hb hts hin5 hown hK hI 7 (by decide) (hts (.fieldLink RX5 29 "CustomsYardModel" "gates" "[I") (by decide +kernel)) rfl dX5_pass_21 ?_
      refine lv_iload_n hx hb dX5_pass_24 rfl (lv_at hl 2 rfl) ?_
      refine cy_iald (f := τ.1 6) (k := j) hx hb hK.1 hI 0 (x := 27) rfl rfl (by omega) (by decide) dX5_pass_25 ?_
      refine lv_iconst (v := -1) hx hb dX5_pass_26 (by decide) ?_
      refine lv_icmp_ne (tgt := 37) hx hb dX5_pass_27 (by decide) (fun h7 => ?_) (fun h7 => ?_)
      · refine lv_aload_n hx hb dX5_pass_37 rfl (lv_at hl 0 rfl) ?_
        refine cy_getT (v := .ref (ad 21)) hx hb hts hin5 hown hK hI 1 (by decide) (hts (.fieldLink RX5 7 "CustomsYardModel" "sorts" "[I") (by decide +kernel)) rfl dX5_pass_38 ?_
        refine lv_iload_n hx hb dX5_pass_41 rfl (lv_at hl 1 rfl) ?_
        refine cy_iald (f := τ.1 1) (k := kx) hx hb hK.1 hI 0 (x := 21) rfl rfl (by omega) (by decide) dX5_pass_42 ?_
        refine lv_aload_n hx hb dX5_pass_43 rfl (lv_at hl 0 rfl) ?_
        refine cy_getT (v := .ref (ad 27)) hx hb hts hin5 hown hK hI 7 (by decide) (hts (.fieldLink RX5 29 "CustomsYardModel" "gates" "[I") (by decide +kernel)) rfl dX5_pass_44 ?_
        refine lv_iload_n hx hb dX5_pass_47 rfl (lv_at hl 2 rfl) ?_
        refine cy_iald (f := τ.1 6) (k := j) hx hb hK.1 hI 0 (x := 27) rfl rfl (by omega) (by decide) dX5_pass_48 ?_
        refine cy_callp (v := .int (cy_b (cy_go (τ.1 1 kx) (τ.1 6 j)))) (va_runS (As := [.int (τ.1 1 kx), .int (τ.1 6 j)]) (rest := []) ⟨hx, hb, hml, hown, hts⟩ (c_X5_goes l (τ.1 1 kx) (τ.1 6 j)) (va_cwS 2 hts gX5_pass_X5_goes rfl rfl rfl (by decide +kernel) ⟨Nat.le_of_ble_eq_true rfl, Nat.le_of_ble_eq_true rfl⟩) preEq rfl rfl hl.1 rfl (lv_room (Nat.le_of_ble_eq_true rfl)) dX5_pass_49 ⟨Nat.le_of_ble_eq_true rfl, Nat.le_of_ble_eq_true rfl⟩) ?_
        cases b8 : (cy_go (τ.1 1 kx) (τ.1 6 j))
        · refine lv_if_ne (tgt := 67) hx hb dX5_pass_52 (by decide) (fun h9 => absurd (by decide) h9) (fun h9 => ?_)
          refine lv_aload_n hx hb dX5_pass_55 rfl (lv_at hl 0 rfl) ?_
          refine lv_dup hx hb dX5_pass_56 rfl ?_
          refine cy_getT (v := .int (τ.1 0 6)) hx hb hts hin5 hown hK hI 16 (by decide) (hts (.fieldLink RX5 119 "CustomsYardModel" "away" "I") (by decide +kernel)) rfl dX5_pass_57 ?_
          refine lv_iconst (v := 1) hx hb dX5_pass_60 (by decide) ?_
          refine lv_iadd hx hb dX5_pass_61 ?_
          refine cy_putT (v := ((τ.1 0 6) + 1)) hx hb hts hin5 hown hK hI hS 16 6 (by decide) (hts (.fieldLink RX5 119 "CustomsYardModel" "away" "I") (by decide +kernel)) rfl (by decide +kernel) rfl dX5_pass_62 (fun H locs hI hS => ?_)
          refine lv_iconst (v := 0) hx hb dX5_pass_65 (by decide) ?_
          have E : cy_oPass nt τ (nI kx) (nI j) = (0, cy_i (cy_i τ 0 2 0) 0 6 ((τ.1 0 6) + 1)) := by first | (simp [cy_oPass, cy_z, cy_wt_z, nI_clamp (show kx < 2 ^ 31 by omega), nI_clamp (show j < 2 ^ 31 by omega), b1, b4, b8]; done) | (simp [cy_oPass, cy_z, cy_wt_z, nI_clamp (show kx < 2 ^ 31 by omega), nI_clamp (show j < 2 ^ 31 by omega), b1, b4, b8]; simp [h7]; done) | (simp [cy_oPass, cy_z, cy_wt_z, nI_clamp (show kx < 2 ^ 31 by omega), nI_clamp (show j < 2 ^ 31 by omega), b1, b4, b8, h7]; done)
          rw [E]
          exact W.iret (v := 0) hx hb hr (fun t ht hW => ⟨(pl, hi), rfl, by rw [ht]; exact hI, hS.F ht⟩) hS.2.2 dX5_pass_66
        · refine lv_if_ne (tgt := 67) hx hb dX5_pass_52 (by decide) (fun h10 => ?_) (fun h10 => absurd h10 (by decide))
          refine lv_aload_n hx hb dX5_pass_67 rfl (lv_at hl 0 rfl) ?_
          refine cy_getT (v := .ref (ad 28)) hx hb hts hin5 hown hK hI 8 (by decide) (hts (.fieldLink RX5 32 "CustomsYardModel" "sums" "[J") (by decide +kernel)) rfl dX5_pass_68 ?_
          refine lv_iload_n hx hb dX5_pass_71 rfl (lv_at hl 2 rfl) ?_
          refine lv_dup2_11 hx hb dX5_pass_72 rfl rfl ?_
          refine cy_lald (f := τ.2 1) (k := j) hx hb hK.1 hI 1 (x := 28) rfl rfl (by omega) (by decide) dX5_pass_73 ?_
          refine lv_aload_n hx hb dX5_pass_74 rfl (lv_at hl 0 rfl) ?_
          refine lv_iload_n hx hb dX5_pass_75 rfl (lv_at hl 1 rfl) ?_
          refine cy_callm (va_runV (As := [.int (nI kx)]) (rest := [.long (τ.2 1 j), .int (nI j), .ref (ad 28)]) ⟨hx, hb, hml, hown, hts⟩ (c_X5_weightOf l D cI cJ cO z n na σ (cy_i τ 0 2 0) pl hi ad nt hok kx hkx) (cwV 1 hts gX5_pass_X5_weightOf rfl rfl rfl (by decide +kernel) ⟨Nat.le_of_ble_eq_true rfl, Nat.le_of_ble_eq_true rfl⟩) (cy_preV hK hI (cy_recv hK (hI.1 20 _ cy_CR).1 rfl)) rfl rfl hl.1 rfl (lv_room (Nat.le_of_ble_eq_true rfl)) dX5_pass_76 ⟨Nat.le_of_ble_eq_true rfl, Nat.le_of_ble_eq_true rfl⟩) hS (fun u H locs hI hz hS => ?_)
          have hI : cy_W D z (cy_CT cI cJ cO n na σ (cy_i τ 0 2 0) u.1 u.2 ad) ad H := hI
          refine W.eq (g2 := F0 m 79 ls [.long (cy_wt (cy_i τ 0 2 0) 3 kx), .long (τ.2 1 j), .int (nI j), .ref (ad 28)]) rfl ?_
          refine lv_ladd hx hb dX5_pass_79 ?_
          refine cy_stT8 (k := j) (v := ((τ.2 1 j) + (cy_wt (cy_i τ 0 2 0) 3 kx))) hx hb hK hI hS (by omega) dX5_pass_80 (fun H locs hI hS => ?_)
          refine lv_iconst (v := 1) hx hb dX5_pass_81 (by decide) ?_
          have E : cy_oPass nt τ (nI kx) (nI j) = (1, cy_l (cy_i τ 0 2 0) 1 j ((τ.2 1 j) + (cy_wt (cy_i τ 0 2 0) 3 kx))) := by first | (simp [cy_oPass, cy_z, cy_wt_z, nI_clamp (show kx < 2 ^ 31 by omega), nI_clamp (show j < 2 ^ 31 by omega), b1, b4, b8]; done) | (simp [cy_oPass, cy_z, cy_wt_z, nI_clamp (show kx < 2 ^ 31 by omega), nI_clamp (show j < 2 ^ 31 by omega), b1, b4, b8]; simp [h7]; done) | (simp [cy_oPass, cy_z, cy_wt_z, nI_clamp (show kx < 2 ^ 31 by omega), nI_clamp (show j < 2 ^ 31 by omega), b1, b4, b8, h7]; done)
          rw [E]
          exact W.iret (v := 1) hx hb hr (fun t ht hW => ⟨(u.1, u.2), rfl, by rw [ht]; exact hI, hS.F ht⟩) hS.2.2 dX5_pass_82
      · refine lv_aload_n hx hb dX5_pass_30 rfl (lv_at hl 0 rfl) ?_
        refine lv_bipush (v := -2) hx hb dX5_pass_31 (by decide) ?_
        refine cy_callm (va_runV (As := [.int (-2)]) (rest := []) ⟨hx, hb, hml, hown, hts⟩ (c_X5_no l D cI cJ cO z n na σ (cy_i τ 0 2 0) pl hi ad (-2)) (cwV 1 hts gX5_pass_X5_no rfl rfl rfl (by decide +kernel) ⟨Nat.le_of_ble_eq_true rfl, Nat.le_of_ble_eq_true rfl⟩) (cy_preV hK hI (cy_recv hK (hI.1 20 _ cy_CR).1 rfl)) rfl rfl hl.1 rfl (lv_room (Nat.le_of_ble_eq_true rfl)) dX5_pass_33 ⟨Nat.le_of_ble_eq_true rfl, Nat.le_of_ble_eq_true rfl⟩) hS (fun u H locs hI hz hS => ?_)
        have hI : cy_W D z (cy_CT cI cJ cO n na σ (cy_no (cy_i τ 0 2 0) (-2)) pl hi ad) ad H := hI
        refine W.eq (g2 := F0 m 36 ls [.int (-2)]) rfl ?_
        have E : cy_oPass nt τ (nI kx) (nI j) = ((-2), cy_no (cy_i τ 0 2 0) (-2)) := by first | (simp [cy_oPass, cy_z, cy_wt_z, nI_clamp (show kx < 2 ^ 31 by omega), nI_clamp (show j < 2 ^ 31 by omega), b1, b4]; done) | (simp [cy_oPass, cy_z, cy_wt_z, nI_clamp (show kx < 2 ^ 31 by omega), nI_clamp (show j < 2 ^ 31 by omega), b1, b4]; simp [h7]; done) | (simp [cy_oPass, cy_z, cy_wt_z, nI_clamp (show kx < 2 ^ 31 by omega), nI_clamp (show j < 2 ^ 31 by omega), b1, b4, h7]; done)
        rw [E]
        exact W.iret (v := (-2)) hx hb hr (fun t ht hW => ⟨(pl, hi), rfl, by rw [ht]; exact hI, hS.F ht⟩) hS.2.2 dX5_pass_36

set_option maxHeartbeats 4000000 in
set_option maxRecDepth 100000 in
theorem c_X5_inside (l : Launch) (D : va_G) (cI cJ cO : ClassId) (z n na : Nat) (σ τ : cy_S) (pl : Nat → Int32) (hi : Int32) (ad : Nat → Nat) (nt : Nat) (hok : cy_ok nt τ) (x v : Int32)  : Met l yX5_inside wsX5_inside { frames := 3, cells := 0, slots := 0, locals := 64 } (cy_P D cI cJ cO (fun H => cy_W D z (cy_CT cI cJ cO n na σ τ pl hi ad) ad H) [.ref (ad 20), .int x, .int v]) (cy_M (S := (Nat → Int32) × Int32) z (fun _ => some (.int (cy_oInside nt τ x v).1)) (fun u H => cy_W D z (cy_CT cI cJ cO n na σ (cy_oInside nt τ x v).2 u.1 u.2 ad) ad H)) 0 0 (fun q => z ≤ q) := by
  refine Met.ofW (cc := cX5_inside) (maxL := 5) (ret := (some .int)) (by decide) rfl ?_
  intro p e s m args below meth c s₁ B hml hv
  obtain ⟨rfl, hK, hI⟩ := hv
  have hx := B.exec
  have hb := B.bytes
  have hr := B.returns
  have hts := atoms_spec (ws := wsX5_inside) B.pre
  have hown : s.vm.findClass RX5 = some m.cls := findClass_of_methodNamed B.named
  have hlocks := B.notSynchronized
  have hS : va_S (fun q => z ≤ q) s.heap s.heap [] := va_S.rf
  have hl := lv_entry ([.ref (ad 20), .int x, .int v]) (n := 5) (Nat.le_of_ble_eq_true rfl)
  rw [lg_entry_eq]
  generalize (lg_sl ([.ref (ad 20), .int x, .int v]) ++ List.replicate (5 - (lg_sl ([.ref (ad 20), .int x, .int v])).length) Slot.unset).toArray = ls at hl ⊢
  have hl : lv_has ls 5 [(0, .ref (ad 20)), (1, .int x), (2, .int v)] := hl
  have hin5 := hin5_X5_inside
  have h0 := hok.2.1
  have hn := hok.1
  refine lv_aload_n hx hb dX5_inside_0 rfl (lv_at hl 0 rfl) ?_
  refine lv_iconst (v := 0) hx hb dX5_inside_1 (by decide) ?_
  refine cy_putT (v := 0) hx hb hts hin5 hown hK hI hS 12 2 (by decide) (hts (.fieldLink RX5 52 "CustomsYardModel" "refused" "I") (by decide +kernel)) rfl (by decide +kernel) rfl dX5_inside_2 (fun H locs hI hS => ?_)
  refine lv_aload_n hx hb dX5_inside_5 rfl (lv_at hl 0 rfl) ?_
  refine lv_iload_n hx hb dX5_inside_6 rfl (lv_at hl 1 rfl) ?_
  refine cy_callp (v := .int (cy_b (cy_ld nt x))) (va_runV (As := [.int x]) (rest := []) ⟨hx, hb, hml, hown, hts⟩ (c_X5_isLoad l D cI cJ cO z n na σ (cy_i τ 0 2 0) pl hi ad nt h0 x) (cwV 1 hts gX5_inside_X5_isLoad rfl rfl rfl (by decide +kernel) ⟨Nat.le_of_ble_eq_true rfl, Nat.le_of_ble_eq_true rfl⟩) (cy_preV hK hI (cy_recv hK (hI.1 20 _ cy_CR).1 rfl)) rfl rfl hl.1 rfl (lv_room (Nat.le_of_ble_eq_true rfl)) dX5_inside_7 ⟨Nat.le_of_ble_eq_true rfl, Nat.le_of_ble_eq_true rfl⟩) ?_
  cases b1 : (cy_ld nt x)
  · refine lv_if_eq (tgt := 20) hx hb dX5_inside_10 (by decide) (fun h2 => ?_) (fun h2 => absurd (by decide) h2)
    refine lv_aload_n hx hb dX5_inside_20 rfl (lv_at hl 0 rfl) ?_
    refine lv_bipush (v := -2) hx hb dX5_inside_21 (by decide) ?_
    refine cy_callm (va_runV (As := [.int (-2)]) (rest := []) ⟨hx, hb, hml, hown, hts⟩ (c_X5_no l D cI cJ cO z n na σ (cy_i τ 0 2 0) pl hi ad (-2)) (cwV 1 hts gX5_inside_X5_no rfl rfl rfl (by decide +kernel) ⟨Nat.le_of_ble_eq_true rfl, Nat.le_of_ble_eq_true rfl⟩) (cy_preV hK hI (cy_recv hK (hI.1 20 _ cy_CR).1 rfl)) rfl rfl hl.1 rfl (lv_room (Nat.le_of_ble_eq_true rfl)) dX5_inside_23 ⟨Nat.le_of_ble_eq_true rfl, Nat.le_of_ble_eq_true rfl⟩) hS (fun u H locs hI hz hS => ?_)
    have hI : cy_W D z (cy_CT cI cJ cO n na σ (cy_no (cy_i τ 0 2 0) (-2)) pl hi ad) ad H := hI
    refine W.eq (g2 := F0 m 26 ls [.int (-2)]) rfl ?_
    have E : cy_oInside nt τ x v = ((-2), cy_no (cy_i τ 0 2 0) (-2)) := by simp [cy_oInside, cy_z, b1]
    rw [E]
    exact W.iret (v := (-2)) hx hb hr (fun t ht hW => ⟨(pl, hi), rfl, by rw [ht]; exact hI, hS.F ht⟩) hS.2.2 dX5_inside_26
  · obtain ⟨kx, hkx, rfl⟩ := (cy_ld_iff hn _).mp b1
    refine lv_if_eq (tgt := 20) hx hb dX5_inside_10 (by decide) (fun h3 => absurd h3 (by decide)) (fun h3 => ?_)
    refine lv_iload_n hx hb dX5_inside_13 rfl (lv_at hl 2 rfl) ?_
    refine cy_callp (v := .int (cy_b (cy_vw v))) (va_runS (As := [.int v]) (rest := []) ⟨hx, hb, hml, hown, hts⟩ (c_X5_isView l v) (va_cwS 1 hts gX5_inside_X5_isView rfl rfl rfl (by decide +kernel) ⟨Nat.le_of_ble_eq_true rfl, Nat.le_of_ble_eq_true rfl⟩) preEq rfl rfl hl.1 rfl (lv_room (Nat.le_of_ble_eq_true rfl)) dX5_inside_14 ⟨Nat.le_of_ble_eq_true rfl, Nat.le_of_ble_eq_true rfl⟩) ?_
    cases b4 : (cy_vw v)
    · refine lv_if_ne (tgt := 27) hx hb dX5_inside_17 (by decide) (fun h5 => absurd (by decide) h5) (fun h5 => ?_)
      refine lv_aload_n hx hb dX5_inside_20 rfl (lv_at hl 0 rfl) ?_
      refine lv_bipush (v := -2) hx hb dX5_inside_21 (by decide) ?_
      refine cy_callm (va_runV (As := [.int (-2)]) (rest := []) ⟨hx, hb, hml, hown, hts⟩ (c_X5_no l D cI cJ cO z n na σ (cy_i τ 0 2 0) pl hi ad (-2)) (cwV 1 hts gX5_inside_X5_no rfl rfl rfl (by decide +kernel) ⟨Nat.le_of_ble_eq_true rfl, Nat.le_of_ble_eq_true rfl⟩) (cy_preV hK hI (cy_recv hK (hI.1 20 _ cy_CR).1 rfl)) rfl rfl hl.1 rfl (lv_room (Nat.le_of_ble_eq_true rfl)) dX5_inside_23 ⟨Nat.le_of_ble_eq_true rfl, Nat.le_of_ble_eq_true rfl⟩) hS (fun u H locs hI hz hS => ?_)
      have hI : cy_W D z (cy_CT cI cJ cO n na σ (cy_no (cy_i τ 0 2 0) (-2)) pl hi ad) ad H := hI
      refine W.eq (g2 := F0 m 26 ls [.int (-2)]) rfl ?_
      have E : cy_oInside nt τ (nI kx) v = ((-2), cy_no (cy_i τ 0 2 0) (-2)) := by simp [cy_oInside, cy_z, nI_clamp (show kx < 2 ^ 31 by omega), b1, b4]
      rw [E]
      exact W.iret (v := (-2)) hx hb hr (fun t ht hW => ⟨(pl, hi), rfl, by rw [ht]; exact hI, hS.F ht⟩) hS.2.2 dX5_inside_26
    · refine lv_if_ne (tgt := 27) hx hb dX5_inside_17 (by decide) (fun h6 => ?_) (fun h6 => absurd h6 (by decide))
      refine lv_iconst (v := 0) hx hb dX5_inside_27 (by decide) ?_
      refine lv_istore_n (lv' := [(3, .int 0), (0, .ref (ad 20)), (1, .int (nI kx)), (2, .int v)]) hx hb dX5_inside_28 rfl hl (by decide) rfl (fun ls hl => ?_)
      refine lv_aload_n hx hb dX5_inside_29 rfl (lv_at hl 1 rfl) ?_
      refine lv_iconst (v := 0) hx hb dX5_inside_30 (by decide) ?_
      refine cy_putH hx hb hts hin5 hown hK hI hS (hts (.fieldLink RX5 101 "CustomsYardModel" "high" "I") (by decide +kernel)) dX5_inside_31 (fun H locs hI hS => ?_)
      refine lv_aload_n hx hb dX5_inside_34 rfl (lv_at hl 1 rfl) ?_
      refine lv_iload_n hx hb dX5_inside_35 rfl (lv_at hl 2 rfl) ?_
      refine cy_callm (va_runV (As := [.int (nI kx)]) (rest := []) ⟨hx, hb, hml, hown, hts⟩ (c_X5_lay l D cI cJ cO z n na σ (cy_i τ 0 2 0) pl 0 ad 0 (by decide) rfl (nI kx)) (cwV 1 hts gX5_inside_X5_lay rfl rfl rfl (by decide +kernel) ⟨Nat.le_of_ble_eq_true rfl, Nat.le_of_ble_eq_true rfl⟩) (cy_preV hK hI (cy_recv hK (hI.1 20 _ cy_CR).1 rfl)) rfl rfl hl.1 rfl (lv_room (Nat.le_of_ble_eq_true rfl)) dX5_inside_36 ⟨Nat.le_of_ble_eq_true rfl, Nat.le_of_ble_eq_true rfl⟩) hS (fun u H locs hI hz hS => ?_)
      have hI : cy_W D z (cy_CT cI cJ cO n na σ (cy_i τ 0 2 0) (va_up pl 0 (nI kx)) (nI (0 + 1)) ad) ad H := hI
      refine W.eq (g2 := F0 m 39 ls []) rfl ?_
      have E : cy_oInside nt τ (nI kx) v = (cy_tl (cy_i τ 0 2 0) v 3 kx, cy_i τ 0 2 0) := by simp [cy_oInside, cy_z, cy_tl_z, nI_clamp (show kx < 2 ^ 31 by omega), b1, b4]
      rw [E]
      have hok1 : cy_ok nt (cy_i τ 0 2 0) := hok
      generalize cy_i τ 0 2 0 = τ1 at hok1 hI ⊢
      have loop : ∀ (M : Nat) (qs : List Nat) (pl' : Nat → Int32) (y : Int32) (H : Heap) (locs : List Loc) (ls : Array Slot), cy_smN (cy_ms τ1) qs < M → cy_smN (cy_ms τ1) qs ≤ 43 → (∀ t, t ∈ qs → t < nt) → cy_sk pl' qs → y + cy_smI (cy_tl τ1 v 3) qs = cy_tl τ1 v 3 kx → cy_W D z (cy_CT cI cJ cO n na σ τ1 pl' (nI qs.length) ad) ad H → va_S (fun q => z ≤ q) s.heap H locs → lv_has ls 5 [(3, .int y), (0, .ref (ad 20)), (1, .int (nI kx)), (2, .int v)] → W p l e (headSpec wsX5_inside { frames := 3, cells := 0, slots := 0, locals := 64 }).room s m #[Value.ref (ad 20), Value.int (nI kx), Value.int v] below meth c H locs 0 0 (MQ below (cy_M (S := (Nat → Int32) × Int32) z (fun _ => some (.int ((cy_tl τ1 v 3 kx, τ1) : Int32 × cy_S).1)) (fun u H => cy_W D z (cy_CT cI cJ cO n na σ ((cy_tl τ1 v 3 kx, τ1) : Int32 × cy_S).2 u.1 u.2 ad) ad H)) #[Value.ref (ad 20), Value.int (nI kx), Value.int v] s 0 0 (fun q => z ≤ q)) (F0 m 39 ls []) := by
        intro M
        induction M with
        | zero =>
          intro qs pl' y H locs ls hM
          exact absurd hM (Nat.not_lt_zero _)
        | succ M ih =>
          intro qs pl' y H locs ls hM h43 hall hq hE hI hS hl
          rcases Nat.eq_zero_or_pos qs.length with hz0 | hp
          · obtain rfl : qs = [] := List.length_eq_zero_iff.mp hz0
            refine lv_aload_n hx hb dX5_inside_39 rfl (lv_at hl 1 rfl) ?_
            refine cy_getT (v := .int (nI ([] : List Nat).length)) hx hb hts hin5 hown hK hI 18 (by decide) (hts (.fieldLink RX5 101 "CustomsYardModel" "high" "I") (by decide +kernel)) rfl dX5_inside_40 ?_
            refine lv_if_le (tgt := 77) hx hb dX5_inside_43 (by decide) (fun h11 => ?_) (fun h11 => absurd (by decide) h11)
            refine lv_iload_n hx hb dX5_inside_77 rfl (lv_at hl 0 rfl) ?_
            exact W.iret (v := y) hx hb hr (fun t ht hW => ⟨(pl', _), congrArg (fun q => Outcome.returned (some (Value.int q))) (by rw [← hE]; simp [cy_smI]), by rw [ht]; exact hI, hS.F ht⟩) hS.2.2 dX5_inside_78
          · obtain ⟨rs, t, rfl⟩ := cy_snoc qs hp
            have htn : t < nt := hall t (by simp)
            rw [cy_smN_app] at hM h43
            have hms := cy_ms_ch hok1 htn
            have e1 : cy_smN (cy_ms τ1) [t] = cy_ms τ1 t := by simp [cy_smN]
            rw [e1] at hM h43
            have hrl := cy_smN_len τ1 rs
            have hI : cy_W D z (cy_CT cI cJ cO n na σ τ1 pl' (nI (rs.length + 1)) ad) ad H := by rw [show rs.length + 1 = (rs ++ [t]).length by simp]; exact hI
            refine lv_aload_n hx hb dX5_inside_39 rfl (lv_at hl 1 rfl) ?_
            refine cy_getT (v := .int (nI (rs.length + 1))) hx hb hts hin5 hown hK hI 18 (by decide) (hts (.fieldLink RX5 101 "CustomsYardModel" "high" "I") (by decide +kernel)) rfl dX5_inside_40 ?_
            refine lv_if_le (tgt := 77) hx hb dX5_inside_43 (by decide) (fun h31 => absurd h31 (nI_nle (by omega) (by omega))) (fun h31 => ?_)
            refine lv_aload_n hx hb dX5_inside_46 rfl (lv_at hl 1 rfl) ?_
            refine cy_callm (va_runV (As := []) (rest := []) ⟨hx, hb, hml, hown, hts⟩ (c_X5_next l D cI cJ cO z n na σ τ1 (pl') (nI (rs.length + 1)) ad nt hok1 rs t htn hq rfl (by omega)) (cwV 0 hts gX5_inside_X5_next rfl rfl rfl (by decide +kernel) ⟨Nat.le_of_ble_eq_true rfl, Nat.le_of_ble_eq_true rfl⟩) (cy_preV hK hI (cy_recv hK (hI.1 20 _ cy_CR).1 rfl)) rfl rfl hl.1 rfl (lv_room (Nat.le_of_ble_eq_true rfl)) dX5_inside_47 ⟨Nat.le_of_ble_eq_true rfl, Nat.le_of_ble_eq_true rfl⟩) hS (fun u H locs hI hz hS => ?_)
            obtain ⟨hu, hI⟩ := hI
            have hI : cy_W D z (cy_CT cI cJ cO n na σ τ1 u (nI (rs ++ cy_ch τ1 t).length) ad) ad H := hI
            refine W.eq (g2 := F0 m 50 ls [.int (nI t)]) rfl ?_
            refine lv_istore (lv' := [(4, .int (nI t)), (3, .int y), (0, .ref (ad 20)), (1, .int (nI kx)), (2, .int v)]) hx hb dX5_inside_50 hl (by decide) rfl (fun ls hl => ?_)
            refine lv_iload_n hx hb dX5_inside_52 rfl (lv_at hl 1 rfl) ?_
            refine lv_aload_n hx hb dX5_inside_53 rfl (lv_at hl 2 rfl) ?_
            refine cy_getT (v := .ref (ad 21)) hx hb hts hin5 hown hK hI 1 (by decide) (hts (.fieldLink RX5 7 "CustomsYardModel" "sorts" "[I") (by decide +kernel)) rfl dX5_inside_54 ?_
            refine lv_iload hx hb dX5_inside_57 (lv_at hl 0 rfl) ?_
            refine cy_iald (f := τ1.1 1) (k := t) hx hb hK.1 hI 0 (x := 21) rfl rfl (by omega) (by decide) dX5_inside_59 ?_
            refine lv_iload_n hx hb dX5_inside_60 rfl (lv_at hl 4 rfl) ?_
            refine cy_callp (v := .int (cy_b (cy_go (τ1.1 1 t) v))) (va_runS (As := [.int (τ1.1 1 t), .int v]) (rest := [.int y]) ⟨hx, hb, hml, hown, hts⟩ (c_X5_goes l (τ1.1 1 t) v) (va_cwS 2 hts gX5_inside_X5_goes rfl rfl rfl (by decide +kernel) ⟨Nat.le_of_ble_eq_true rfl, Nat.le_of_ble_eq_true rfl⟩) preEq rfl rfl hl.1 rfl (lv_room (Nat.le_of_ble_eq_true rfl)) dX5_inside_61 ⟨Nat.le_of_ble_eq_true rfl, Nat.le_of_ble_eq_true rfl⟩) ?_
            cases b32 : (cy_go (τ1.1 1 t) v)
            · refine lv_if_eq (tgt := 71) hx hb dX5_inside_64 (by decide) (fun h33 => ?_) (fun h33 => absurd (by decide) h33)
              refine lv_iconst (v := 0) hx hb dX5_inside_71 (by decide) ?_
              refine lv_iadd hx hb dX5_inside_72 ?_
              refine lv_istore_n (lv' := [(3, .int (y + 0)), (4, .int (nI t)), (0, .ref (ad 20)), (1, .int (nI kx)), (2, .int v)]) hx hb dX5_inside_73 rfl hl (by decide) rfl (fun ls hl => ?_)
              refine lv_goto (tgt := 39) hx hb dX5_inside_74 (by decide) ?_
              have hE2 : (y + 0) + cy_smI (cy_tl τ1 v 3) (rs ++ cy_ch τ1 t) = cy_tl τ1 v 3 kx := by rw [cy_smI_app] at hE ⊢; exact cy_accI hE (by rw [cy_tl_eq v hok1 htn, b32]; rfl)
              exact ih (rs ++ cy_ch τ1 t) u (y + 0) H locs ls (by rw [cy_smN_app]; omega) (by rw [cy_smN_app]; omega) (fun a ha => (List.mem_append.mp ha).elim (fun h => hall a (by simp [h])) (fun h => (cy_ch_mem hok1 htn a h).1)) hu hE2 hI hS (lv_sub hl [0, 2, 3, 4] rfl)
            · refine lv_if_eq (tgt := 71) hx hb dX5_inside_64 (by decide) (fun h34 => absurd h34 (by decide)) (fun h34 => ?_)
              refine lv_iconst (v := 1) hx hb dX5_inside_67 (by decide) ?_
              refine lv_goto (tgt := 72) hx hb dX5_inside_68 (by decide) ?_
              refine lv_iadd hx hb dX5_inside_72 ?_
              refine lv_istore_n (lv' := [(3, .int (y + 1)), (4, .int (nI t)), (0, .ref (ad 20)), (1, .int (nI kx)), (2, .int v)]) hx hb dX5_inside_73 rfl hl (by decide) rfl (fun ls hl => ?_)
              refine lv_goto (tgt := 39) hx hb dX5_inside_74 (by decide) ?_
              have hE2 : (y + 1) + cy_smI (cy_tl τ1 v 3) (rs ++ cy_ch τ1 t) = cy_tl τ1 v 3 kx := by rw [cy_smI_app] at hE ⊢; exact cy_accI hE (by rw [cy_tl_eq v hok1 htn, b32]; rfl)
              exact ih (rs ++ cy_ch τ1 t) u (y + 1) H locs ls (by rw [cy_smN_app]; omega) (by rw [cy_smN_app]; omega) (fun a ha => (List.mem_append.mp ha).elim (fun h => hall a (by simp [h])) (fun h => (cy_ch_mem hok1 htn a h).1)) hu hE2 hI hS (lv_sub hl [0, 2, 3, 4] rfl)
      exact loop (cy_ms τ1 kx + 1) [kx] _ 0 _ _ ls (by simp [cy_smN]) (by have := cy_ms_le hok1 hkx; simp [cy_smN]; omega) (fun t ht => by rw [List.mem_singleton.mp ht]; exact hkx) (cy_sk_push (ps := []) (fun j hj => absurd hj (Nat.not_lt_zero _)) kx) (by simp [cy_smI]) hI hS hl
