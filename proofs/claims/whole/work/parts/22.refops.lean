theorem cy_co_z (σ : cy_S) (k : Nat) (v w : Int32) : cy_co (cy_i σ 0 2 w) k v = cy_co σ k v := rfl
theorem hin5_X5_set : ∀ w ∈ u_ws RX5 TX5 19, w ∈ wsX5_set := by decide +kernel
theorem hin5_X5_number : ∀ w ∈ u_ws RX5 TX5 19, w ∈ wsX5_number := by decide +kernel
theorem hin5_X5_put : ∀ w ∈ u_ws RX5 TX5 19, w ∈ wsX5_put := by decide +kernel
theorem hin5_X5_at : ∀ w ∈ u_ws RX5 TX5 19, w ∈ wsX5_at := by decide +kernel
theorem hin5_X5_is : ∀ w ∈ u_ws RX5 TX5 19, w ∈ wsX5_is := by decide +kernel
theorem hin5_X5_take : ∀ w ∈ u_ws RX5 TX5 19, w ∈ wsX5_take := by decide +kernel
theorem hin5_X5_sort : ∀ w ∈ u_ws RX5 TX5 19, w ∈ wsX5_sort := by decide +kernel
set_option maxHeartbeats 4000000 in
set_option maxRecDepth 100000 in
theorem c_X5_set (l : Launch) (D : va_G) (cI cJ cO : ClassId) (z n na : Nat) (σ τ : cy_S) (pl : Nat → Int32) (hi : Int32) (ad : Nat → Nat) (nt : Nat) (hok : cy_ok nt τ) (x i v : Int32)  : Met l yX5_set wsX5_set { frames := 2, cells := 0, slots := 0, locals := 44 } (cy_P D cI cJ cO (fun H => cy_W D z (cy_CT cI cJ cO n na σ τ pl hi ad) ad H) [.ref (ad 20), .int x, .int i, .int v]) (cy_M (S := Unit) z (fun _ => some (.int (cy_oSet nt τ x i v).1)) (fun _ H => cy_W D z (cy_CT cI cJ cO n na σ (cy_oSet nt τ x i v).2 pl hi ad) ad H)) 0 0 (fun q => z ≤ q) := by
  refine Met.ofW (cc := cX5_set) (maxL := 4) (ret := (some .int)) (by decide) rfl ?_
  intro p e s m args below meth c s₁ B hml hv
  obtain ⟨rfl, hK, hI⟩ := hv
  have hx := B.exec
  have hb := B.bytes
  have hr := B.returns
  have hts := atoms_spec (ws := wsX5_set) B.pre
  have hown : s.vm.findClass RX5 = some m.cls := findClass_of_methodNamed B.named
  have hlocks := B.notSynchronized
  have hS : va_S (fun q => z ≤ q) s.heap s.heap [] := va_S.rf
  have hl := lv_entry ([.ref (ad 20), .int x, .int i, .int v]) (n := 4) (Nat.le_of_ble_eq_true rfl)
  rw [lg_entry_eq]
  generalize (lg_sl ([.ref (ad 20), .int x, .int i, .int v]) ++ List.replicate (4 - (lg_sl ([.ref (ad 20), .int x, .int i, .int v])).length) Slot.unset).toArray = ls at hl ⊢
  have hl : lv_has ls 4 [(0, .ref (ad 20)), (1, .int x), (2, .int i), (3, .int v)] := hl
  have hin5 := hin5_X5_set
  have h0 := hok.2.1
  have hn := hok.1
  refine lv_aload_n hx hb dX5_set_0 rfl (lv_at hl 0 rfl) ?_
  refine lv_iconst (v := 0) hx hb dX5_set_1 (by decide) ?_
  refine cy_putT (v := 0) hx hb hts hin5 hown hK hI hS 12 2 (by decide) (hts (.fieldLink RX5 52 "CustomsYardModel" "refused" "I") (by decide +kernel)) rfl (by decide +kernel) rfl dX5_set_2 (fun H locs hI hS => ?_)
  refine lv_aload_n hx hb dX5_set_5 rfl (lv_at hl 0 rfl) ?_
  refine lv_iload_n hx hb dX5_set_6 rfl (lv_at hl 1 rfl) ?_
  refine cy_callp (v := .int (cy_b (cy_ld nt x))) (va_runV (As := [.int x]) (rest := []) ⟨hx, hb, hml, hown, hts⟩ (c_X5_isLoad l D cI cJ cO z n na σ (cy_i τ 0 2 0) pl hi ad nt h0 x) (cwV 1 hts gX5_set_X5_isLoad rfl rfl rfl (by decide +kernel) ⟨Nat.le_of_ble_eq_true rfl, Nat.le_of_ble_eq_true rfl⟩) (cy_preV hK hI (cy_recv hK (hI.1 20 _ cy_CR).1 rfl)) rfl rfl hl.1 rfl (lv_room (Nat.le_of_ble_eq_true rfl)) dX5_set_7 ⟨Nat.le_of_ble_eq_true rfl, Nat.le_of_ble_eq_true rfl⟩) ?_
  cases b1 : (cy_ld nt x)
  · refine lv_if_ne (tgt := 20) hx hb dX5_set_10 (by decide) (fun h2 => absurd (by decide) h2) (fun h2 => ?_)
    refine lv_aload_n hx hb dX5_set_13 rfl (lv_at hl 0 rfl) ?_
    refine lv_bipush (v := -2) hx hb dX5_set_14 (by decide) ?_
    refine cy_callm (va_runV (As := [.int (-2)]) (rest := []) ⟨hx, hb, hml, hown, hts⟩ (c_X5_no l D cI cJ cO z n na σ (cy_i τ 0 2 0) pl hi ad (-2)) (cwV 1 hts gX5_set_X5_no rfl rfl rfl (by decide +kernel) ⟨Nat.le_of_ble_eq_true rfl, Nat.le_of_ble_eq_true rfl⟩) (cy_preV hK hI (cy_recv hK (hI.1 20 _ cy_CR).1 rfl)) rfl rfl hl.1 rfl (lv_room (Nat.le_of_ble_eq_true rfl)) dX5_set_16 ⟨Nat.le_of_ble_eq_true rfl, Nat.le_of_ble_eq_true rfl⟩) hS (fun u H locs hI hz hS => ?_)
    have hI : cy_W D z (cy_CT cI cJ cO n na σ (cy_no (cy_i τ 0 2 0) (-2)) pl hi ad) ad H := hI
    refine W.eq (g2 := F0 m 19 ls [.int (-2)]) rfl ?_
    have E : cy_oSet nt τ x i v = ((-2), cy_no (cy_i τ 0 2 0) (-2)) := by simp [cy_oSet, cy_z, b1]
    rw [E]
    exact W.iret (v := (-2)) hx hb hr (fun t ht hW => ⟨(), rfl, by rw [ht]; exact hI, hS.F ht⟩) hS.2.2 dX5_set_19
  · obtain ⟨kx, hkx, rfl⟩ := (cy_ld_iff hn _).mp b1
    refine lv_if_ne (tgt := 20) hx hb dX5_set_10 (by decide) (fun h3 => ?_) (fun h3 => absurd h3 (by decide))
    refine lv_aload_n hx hb dX5_set_20 rfl (lv_at hl 0 rfl) ?_
    refine cy_getT (v := .ref (ad 21)) hx hb hts hin5 hown hK hI 1 (by decide) (hts (.fieldLink RX5 7 "CustomsYardModel" "sorts" "[I") (by decide +kernel)) rfl dX5_set_21 ?_
    refine lv_iload_n hx hb dX5_set_24 rfl (lv_at hl 1 rfl) ?_
    refine cy_iald (f := τ.1 1) (k := kx) hx hb hK.1 hI 0 (x := 21) rfl rfl (by omega) (by decide) dX5_set_25 ?_
    refine cy_callp (v := .int (cy_b (cy_nu (τ.1 1 kx)))) (va_runS (As := [.int (τ.1 1 kx)]) (rest := []) ⟨hx, hb, hml, hown, hts⟩ (c_X5_isOfNumbers l (τ.1 1 kx)) (va_cwS 1 hts gX5_set_X5_isOfNumbers rfl rfl rfl (by decide +kernel) ⟨Nat.le_of_ble_eq_true rfl, Nat.le_of_ble_eq_true rfl⟩) preEq rfl rfl hl.1 rfl (lv_room (Nat.le_of_ble_eq_true rfl)) dX5_set_26 ⟨Nat.le_of_ble_eq_true rfl, Nat.le_of_ble_eq_true rfl⟩) ?_
    cases b4 : (cy_nu (τ.1 1 kx))
    · refine lv_if_ne (tgt := 39) hx hb dX5_set_29 (by decide) (fun h5 => absurd (by decide) h5) (fun h5 => ?_)
      refine lv_aload_n hx hb dX5_set_32 rfl (lv_at hl 0 rfl) ?_
      refine lv_bipush (v := -4) hx hb dX5_set_33 (by decide) ?_
      refine cy_callm (va_runV (As := [.int (-4)]) (rest := []) ⟨hx, hb, hml, hown, hts⟩ (c_X5_no l D cI cJ cO z n na σ (cy_i τ 0 2 0) pl hi ad (-4)) (cwV 1 hts gX5_set_X5_no rfl rfl rfl (by decide +kernel) ⟨Nat.le_of_ble_eq_true rfl, Nat.le_of_ble_eq_true rfl⟩) (cy_preV hK hI (cy_recv hK (hI.1 20 _ cy_CR).1 rfl)) rfl rfl hl.1 rfl (lv_room (Nat.le_of_ble_eq_true rfl)) dX5_set_35 ⟨Nat.le_of_ble_eq_true rfl, Nat.le_of_ble_eq_true rfl⟩) hS (fun u H locs hI hz hS => ?_)
      have hI : cy_W D z (cy_CT cI cJ cO n na σ (cy_no (cy_i τ 0 2 0) (-4)) pl hi ad) ad H := hI
      refine W.eq (g2 := F0 m 38 ls [.int (-4)]) rfl ?_
      have E : cy_oSet nt τ (nI kx) i v = ((-4), cy_no (cy_i τ 0 2 0) (-4)) := by simp [cy_oSet, cy_z, nI_clamp (show kx < 2 ^ 31 by omega), b1, b4]
      rw [E]
      exact W.iret (v := (-4)) hx hb hr (fun t ht hW => ⟨(), rfl, by rw [ht]; exact hI, hS.F ht⟩) hS.2.2 dX5_set_38
    · refine lv_if_ne (tgt := 39) hx hb dX5_set_29 (by decide) (fun h6 => ?_) (fun h6 => absurd h6 (by decide))
      refine lv_aload_n hx hb dX5_set_39 rfl (lv_at hl 0 rfl) ?_
      refine lv_iload_n hx hb dX5_set_40 rfl (lv_at hl 1 rfl) ?_
      refine lv_iload_n hx hb dX5_set_41 rfl (lv_at hl 2 rfl) ?_
      refine cy_callp (v := .int (cy_b (cy_pl (τ.1 2 kx) i))) (va_runV (As := [.int (nI kx), .int i]) (rest := []) ⟨hx, hb, hml, hown, hts⟩ (c_X5_isPlace l D cI cJ cO z n na σ (cy_i τ 0 2 0) pl hi ad kx (by omega) i) (cwV 2 hts gX5_set_X5_isPlace rfl rfl rfl (by decide +kernel) ⟨Nat.le_of_ble_eq_true rfl, Nat.le_of_ble_eq_true rfl⟩) (cy_preV hK hI (cy_recv hK (hI.1 20 _ cy_CR).1 rfl)) rfl rfl hl.1 rfl (lv_room (Nat.le_of_ble_eq_true rfl)) dX5_set_42 ⟨Nat.le_of_ble_eq_true rfl, Nat.le_of_ble_eq_true rfl⟩) ?_
      cases b7 : (cy_pl (τ.1 2 kx) i)
      · refine lv_if_ne (tgt := 55) hx hb dX5_set_45 (by decide) (fun h8 => absurd (by decide) h8) (fun h8 => ?_)
        refine lv_aload_n hx hb dX5_set_48 rfl (lv_at hl 0 rfl) ?_
        refine lv_bipush (v := -5) hx hb dX5_set_49 (by decide) ?_
        refine cy_callm (va_runV (As := [.int (-5)]) (rest := []) ⟨hx, hb, hml, hown, hts⟩ (c_X5_no l D cI cJ cO z n na σ (cy_i τ 0 2 0) pl hi ad (-5)) (cwV 1 hts gX5_set_X5_no rfl rfl rfl (by decide +kernel) ⟨Nat.le_of_ble_eq_true rfl, Nat.le_of_ble_eq_true rfl⟩) (cy_preV hK hI (cy_recv hK (hI.1 20 _ cy_CR).1 rfl)) rfl rfl hl.1 rfl (lv_room (Nat.le_of_ble_eq_true rfl)) dX5_set_51 ⟨Nat.le_of_ble_eq_true rfl, Nat.le_of_ble_eq_true rfl⟩) hS (fun u H locs hI hz hS => ?_)
        have hI : cy_W D z (cy_CT cI cJ cO n na σ (cy_no (cy_i τ 0 2 0) (-5)) pl hi ad) ad H := hI
        refine W.eq (g2 := F0 m 54 ls [.int (-5)]) rfl ?_
        have E : cy_oSet nt τ (nI kx) i v = ((-5), cy_no (cy_i τ 0 2 0) (-5)) := by simp [cy_oSet, cy_z, nI_clamp (show kx < 2 ^ 31 by omega), b1, b4, b7]
        rw [E]
        exact W.iret (v := (-5)) hx hb hr (fun t ht hW => ⟨(), rfl, by rw [ht]; exact hI, hS.F ht⟩) hS.2.2 dX5_set_54
      · obtain ⟨pi, hpi, epi⟩ := (hok.2.2.1 kx hkx).2.1
        obtain ⟨ji, hji, rfl⟩ := (cy_pl_iff (p := pi) (by omega) _).mp (by rw [← epi]; exact b7)
        refine lv_if_ne (tgt := 55) hx hb dX5_set_45 (by decide) (fun h9 => ?_) (fun h9 => absurd h9 (by decide))
        refine lv_aload_n hx hb dX5_set_55 rfl (lv_at hl 0 rfl) ?_
        refine cy_getT (v := .ref (ad 24)) hx hb hts hin5 hown hK hI 4 (by decide) (hts (.fieldLink RX5 19 "CustomsYardModel" "numbers" "[J") (by decide +kernel)) rfl dX5_set_56 ?_
        refine lv_bipush (v := 6) hx hb dX5_set_59 (by decide) ?_
        refine lv_iload_n hx hb dX5_set_61 rfl (lv_at hl 1 rfl) ?_
        refine lv_imul hx hb dX5_set_62 ?_
        refine lv_iload_n hx hb dX5_set_63 rfl (lv_at hl 2 rfl) ?_
        refine lv_iadd hx hb dX5_set_64 ?_
        refine cy_topi (y := nI (6 * kx + ji)) (cy_ix kx ji) ?_
        refine lv_aload_n hx hb dX5_set_65 rfl (lv_at hl 0 rfl) ?_
        refine cy_getT (v := .ref (ad 21)) hx hb hts hin5 hown hK hI 1 (by decide) (hts (.fieldLink RX5 7 "CustomsYardModel" "sorts" "[I") (by decide +kernel)) rfl dX5_set_66 ?_
        refine lv_iload_n hx hb dX5_set_69 rfl (lv_at hl 1 rfl) ?_
        refine cy_iald (f := τ.1 1) (k := kx) hx hb hK.1 hI 0 (x := 21) rfl rfl (by omega) (by decide) dX5_set_70 ?_
        refine lv_iconst (v := 1) hx hb dX5_set_71 (by decide) ?_
        refine lv_icmp_ne (tgt := 81) hx hb dX5_set_72 (by decide) (fun h10 => ?_) (fun h10 => ?_)
        · refine lv_iload_n hx hb dX5_set_81 rfl (lv_at hl 3 rfl) ?_
          refine lv_i2l (v := v.toInt64) hx hb dX5_set_82 rfl ?_
          refine cy_stT4 (k := (6 * kx + ji)) (v := v.toInt64) hx hb hK hI hS (by omega) dX5_set_83 (fun H locs hI hS => ?_)
          refine lv_iconst (v := 1) hx hb dX5_set_84 (by decide) ?_
          have E : cy_oSet nt τ (nI kx) (nI ji) v = (1, cy_l (cy_i τ 0 2 0) 0 (6 * kx + ji) v.toInt64) := by first | (simp [cy_oSet, cy_z, nI_clamp (show kx < 2 ^ 31 by omega), nI_clamp (show ji < 2 ^ 31 by omega), b1, b4, b7]; done) | (simp [cy_oSet, cy_z, nI_clamp (show kx < 2 ^ 31 by omega), nI_clamp (show ji < 2 ^ 31 by omega), b1, b4, b7]; simp [h10]; done) | (simp [cy_oSet, cy_z, nI_clamp (show kx < 2 ^ 31 by omega), nI_clamp (show ji < 2 ^ 31 by omega), b1, b4, b7, h10]; done)
          rw [E]
          exact W.iret (v := 1) hx hb hr (fun t ht hW => ⟨(), rfl, by rw [ht]; exact hI, hS.F ht⟩) hS.2.2 dX5_set_85
        · refine lv_iload_n hx hb dX5_set_75 rfl (lv_at hl 3 rfl) ?_
          refine lv_i2b (v := v.toInt8.toInt32) hx hb dX5_set_76 rfl ?_
          refine lv_i2l (v := v.toInt8.toInt32.toInt64) hx hb dX5_set_77 rfl ?_
          refine lv_goto (tgt := 83) hx hb dX5_set_78 (by decide) ?_
          refine cy_stT4 (k := (6 * kx + ji)) (v := v.toInt8.toInt32.toInt64) hx hb hK hI hS (by omega) dX5_set_83 (fun H locs hI hS => ?_)
          refine lv_iconst (v := 1) hx hb dX5_set_84 (by decide) ?_
          have E : cy_oSet nt τ (nI kx) (nI ji) v = (1, cy_l (cy_i τ 0 2 0) 0 (6 * kx + ji) v.toInt8.toInt32.toInt64) := by first | (simp [cy_oSet, cy_z, nI_clamp (show kx < 2 ^ 31 by omega), nI_clamp (show ji < 2 ^ 31 by omega), b1, b4, b7]; done) | (simp [cy_oSet, cy_z, nI_clamp (show kx < 2 ^ 31 by omega), nI_clamp (show ji < 2 ^ 31 by omega), b1, b4, b7]; simp [h10]; done) | (simp [cy_oSet, cy_z, nI_clamp (show kx < 2 ^ 31 by omega), nI_clamp (show ji < 2 ^ 31 by omega), b1, b4, b7, h10]; done)
          rw [E]
          exact W.iret (v := 1) hx hb hr (fun t ht hW => ⟨(), rfl, by rw [ht]; exact hI, hS.F ht⟩) hS.2.2 dX5_set_85

set_option maxHeartbeats 4000000 in
set_option maxRecDepth 100000 in
theorem c_X5_number (l : Launch) (D : va_G) (cI cJ cO : ClassId) (z n na : Nat) (σ τ : cy_S) (pl : Nat → Int32) (hi : Int32) (ad : Nat → Nat) (nt : Nat) (hok : cy_ok nt τ) (x i : Int32)  : Met l yX5_number wsX5_number { frames := 2, cells := 0, slots := 0, locals := 44 } (cy_P D cI cJ cO (fun H => cy_W D z (cy_CT cI cJ cO n na σ τ pl hi ad) ad H) [.ref (ad 20), .int x, .int i]) (cy_M (S := Unit) z (fun _ => some (.long (cy_oNum nt τ x i).1)) (fun _ H => cy_W D z (cy_CT cI cJ cO n na σ (cy_oNum nt τ x i).2 pl hi ad) ad H)) 0 0 (fun q => z ≤ q) := by
  refine Met.ofW (cc := cX5_number) (maxL := 4) (ret := (some .long)) (by decide) rfl ?_
  intro p e s m args below meth c s₁ B hml hv
  obtain ⟨rfl, hK, hI⟩ := hv
  have hx := B.exec
  have hb := B.bytes
  have hr := B.returns
  have hts := atoms_spec (ws := wsX5_number) B.pre
  have hown : s.vm.findClass RX5 = some m.cls := findClass_of_methodNamed B.named
  have hlocks := B.notSynchronized
  have hS : va_S (fun q => z ≤ q) s.heap s.heap [] := va_S.rf
  have hl := lv_entry ([.ref (ad 20), .int x, .int i]) (n := 4) (Nat.le_of_ble_eq_true rfl)
  rw [lg_entry_eq]
  generalize (lg_sl ([.ref (ad 20), .int x, .int i]) ++ List.replicate (4 - (lg_sl ([.ref (ad 20), .int x, .int i])).length) Slot.unset).toArray = ls at hl ⊢
  have hl : lv_has ls 4 [(0, .ref (ad 20)), (1, .int x), (2, .int i)] := hl
  have hin5 := hin5_X5_number
  have h0 := hok.2.1
  have hn := hok.1
  refine lv_aload_n hx hb dX5_number_0 rfl (lv_at hl 0 rfl) ?_
  refine lv_iconst (v := 0) hx hb dX5_number_1 (by decide) ?_
  refine cy_putT (v := 0) hx hb hts hin5 hown hK hI hS 12 2 (by decide) (hts (.fieldLink RX5 52 "CustomsYardModel" "refused" "I") (by decide +kernel)) rfl (by decide +kernel) rfl dX5_number_2 (fun H locs hI hS => ?_)
  refine lv_aload_n hx hb dX5_number_5 rfl (lv_at hl 0 rfl) ?_
  refine lv_iload_n hx hb dX5_number_6 rfl (lv_at hl 1 rfl) ?_
  refine cy_callp (v := .int (cy_b (cy_ld nt x))) (va_runV (As := [.int x]) (rest := []) ⟨hx, hb, hml, hown, hts⟩ (c_X5_isLoad l D cI cJ cO z n na σ (cy_i τ 0 2 0) pl hi ad nt h0 x) (cwV 1 hts gX5_number_X5_isLoad rfl rfl rfl (by decide +kernel) ⟨Nat.le_of_ble_eq_true rfl, Nat.le_of_ble_eq_true rfl⟩) (cy_preV hK hI (cy_recv hK (hI.1 20 _ cy_CR).1 rfl)) rfl rfl hl.1 rfl (lv_room (Nat.le_of_ble_eq_true rfl)) dX5_number_7 ⟨Nat.le_of_ble_eq_true rfl, Nat.le_of_ble_eq_true rfl⟩) ?_
  cases b1 : (cy_ld nt x)
  · refine lv_if_ne (tgt := 18) hx hb dX5_number_10 (by decide) (fun h2 => absurd (by decide) h2) (fun h2 => ?_)
    refine lv_bipush (v := -2) hx hb dX5_number_13 (by decide) ?_
    refine lv_goto (tgt := 50) hx hb dX5_number_15 (by decide) ?_
    refine lv_istore_n (lv' := [(3, .int (-2)), (0, .ref (ad 20)), (1, .int x), (2, .int i)]) hx hb dX5_number_50 rfl hl (by decide) rfl (fun ls hl => ?_)
    refine lv_iload_n hx hb dX5_number_51 rfl (lv_at hl 0 rfl) ?_
    refine lv_if_eq (tgt := 63) hx hb dX5_number_52 (by decide) (fun h3 => absurd h3 (by decide)) (fun h3 => ?_)
    refine lv_aload_n hx hb dX5_number_55 rfl (lv_at hl 1 rfl) ?_
    refine lv_iload_n hx hb dX5_number_56 rfl (lv_at hl 0 rfl) ?_
    refine cy_callm (va_runV (As := [.int (-2)]) (rest := []) ⟨hx, hb, hml, hown, hts⟩ (c_X5_no l D cI cJ cO z n na σ (cy_i τ 0 2 0) pl hi ad (-2)) (cwV 1 hts gX5_number_X5_no rfl rfl rfl (by decide +kernel) ⟨Nat.le_of_ble_eq_true rfl, Nat.le_of_ble_eq_true rfl⟩) (cy_preV hK hI (cy_recv hK (hI.1 20 _ cy_CR).1 rfl)) rfl rfl hl.1 rfl (lv_room (Nat.le_of_ble_eq_true rfl)) dX5_number_57 ⟨Nat.le_of_ble_eq_true rfl, Nat.le_of_ble_eq_true rfl⟩) hS (fun u H locs hI hz hS => ?_)
    have hI : cy_W D z (cy_CT cI cJ cO n na σ (cy_no (cy_i τ 0 2 0) (-2)) pl hi ad) ad H := hI
    refine W.eq (g2 := F0 m 60 ls [.int (-2)]) rfl ?_
    refine lv_istore_n (lv' := [(3, .int (-2)), (0, .ref (ad 20)), (1, .int x), (2, .int i)]) hx hb dX5_number_60 rfl hl (by decide) rfl (fun ls hl => ?_)
    refine lv_lconst (v := 0) hx hb dX5_number_61 (by decide) ?_
    have E : cy_oNum nt τ x i = (0, cy_no (cy_i τ 0 2 0) (-2)) := by simp [cy_oNum, cy_z, b1]
    rw [E]
    exact W.lret (v := 0) hx hb hr (fun t ht hW => ⟨(), rfl, by rw [ht]; exact hI, hS.F ht⟩) hS.2.2 dX5_number_62
  · obtain ⟨kx, hkx, rfl⟩ := (cy_ld_iff hn _).mp b1
    refine lv_if_ne (tgt := 18) hx hb dX5_number_10 (by decide) (fun h4 => ?_) (fun h4 => absurd h4 (by decide))
    refine lv_aload_n hx hb dX5_number_18 rfl (lv_at hl 0 rfl) ?_
    refine cy_getT (v := .ref (ad 21)) hx hb hts hin5 hown hK hI 1 (by decide) (hts (.fieldLink RX5 7 "CustomsYardModel" "sorts" "[I") (by decide +kernel)) rfl dX5_number_19 ?_
    refine lv_iload_n hx hb dX5_number_22 rfl (lv_at hl 1 rfl) ?_
    refine cy_iald (f := τ.1 1) (k := kx) hx hb hK.1 hI 0 (x := 21) rfl rfl (by omega) (by decide) dX5_number_23 ?_
    refine cy_callp (v := .int (cy_b (cy_nu (τ.1 1 kx)))) (va_runS (As := [.int (τ.1 1 kx)]) (rest := []) ⟨hx, hb, hml, hown, hts⟩ (c_X5_isOfNumbers l (τ.1 1 kx)) (va_cwS 1 hts gX5_number_X5_isOfNumbers rfl rfl rfl (by decide +kernel) ⟨Nat.le_of_ble_eq_true rfl, Nat.le_of_ble_eq_true rfl⟩) preEq rfl rfl hl.1 rfl (lv_room (Nat.le_of_ble_eq_true rfl)) dX5_number_24 ⟨Nat.le_of_ble_eq_true rfl, Nat.le_of_ble_eq_true rfl⟩) ?_
    cases b5 : (cy_nu (τ.1 1 kx))
    · refine lv_if_ne (tgt := 35) hx hb dX5_number_27 (by decide) (fun h6 => absurd (by decide) h6) (fun h6 => ?_)
      refine lv_bipush (v := -4) hx hb dX5_number_30 (by decide) ?_
      refine lv_goto (tgt := 50) hx hb dX5_number_32 (by decide) ?_
      refine lv_istore_n (lv' := [(3, .int (-4)), (0, .ref (ad 20)), (1, .int (nI kx)), (2, .int i)]) hx hb dX5_number_50 rfl hl (by decide) rfl (fun ls hl => ?_)
      refine lv_iload_n hx hb dX5_number_51 rfl (lv_at hl 0 rfl) ?_
      refine lv_if_eq (tgt := 63) hx hb dX5_number_52 (by decide) (fun h7 => absurd h7 (by decide)) (fun h7 => ?_)
      refine lv_aload_n hx hb dX5_number_55 rfl (lv_at hl 1 rfl) ?_
      refine lv_iload_n hx hb dX5_number_56 rfl (lv_at hl 0 rfl) ?_
      refine cy_callm (va_runV (As := [.int (-4)]) (rest := []) ⟨hx, hb, hml, hown, hts⟩ (c_X5_no l D cI cJ cO z n na σ (cy_i τ 0 2 0) pl hi ad (-4)) (cwV 1 hts gX5_number_X5_no rfl rfl rfl (by decide +kernel) ⟨Nat.le_of_ble_eq_true rfl, Nat.le_of_ble_eq_true rfl⟩) (cy_preV hK hI (cy_recv hK (hI.1 20 _ cy_CR).1 rfl)) rfl rfl hl.1 rfl (lv_room (Nat.le_of_ble_eq_true rfl)) dX5_number_57 ⟨Nat.le_of_ble_eq_true rfl, Nat.le_of_ble_eq_true rfl⟩) hS (fun u H locs hI hz hS => ?_)
      have hI : cy_W D z (cy_CT cI cJ cO n na σ (cy_no (cy_i τ 0 2 0) (-4)) pl hi ad) ad H := hI
      refine W.eq (g2 := F0 m 60 ls [.int (-4)]) rfl ?_
      refine lv_istore_n (lv' := [(3, .int (-4)), (0, .ref (ad 20)), (1, .int (nI kx)), (2, .int i)]) hx hb dX5_number_60 rfl hl (by decide) rfl (fun ls hl => ?_)
      refine lv_lconst (v := 0) hx hb dX5_number_61 (by decide) ?_
      have E : cy_oNum nt τ (nI kx) i = (0, cy_no (cy_i τ 0 2 0) (-4)) := by simp [cy_oNum, cy_z, nI_clamp (show kx < 2 ^ 31 by omega), b1, b5]
      rw [E]
      exact W.lret (v := 0) hx hb hr (fun t ht hW => ⟨(), rfl, by rw [ht]; exact hI, hS.F ht⟩) hS.2.2 dX5_number_62
    · refine lv_if_ne (tgt := 35) hx hb dX5_number_27 (by decide) (fun h8 => ?_) (fun h8 => absurd h8 (by decide))
      refine lv_aload_n hx hb dX5_number_35 rfl (lv_at hl 0 rfl) ?_
      refine lv_iload_n hx hb dX5_number_36 rfl (lv_at hl 1 rfl) ?_
      refine lv_iload_n hx hb dX5_number_37 rfl (lv_at hl 2 rfl) ?_
      refine cy_callp (v := .int (cy_b (cy_pl (τ.1 2 kx) i))) (va_runV (As := [.int (nI kx), .int i]) (rest := []) ⟨hx, hb, hml, hown, hts⟩ (c_X5_isPlace l D cI cJ cO z n na σ (cy_i τ 0 2 0) pl hi ad kx (by omega) i) (cwV 2 hts gX5_number_X5_isPlace rfl rfl rfl (by decide +kernel) ⟨Nat.le_of_ble_eq_true rfl, Nat.le_of_ble_eq_true rfl⟩) (cy_preV hK hI (cy_recv hK (hI.1 20 _ cy_CR).1 rfl)) rfl rfl hl.1 rfl (lv_room (Nat.le_of_ble_eq_true rfl)) dX5_number_38 ⟨Nat.le_of_ble_eq_true rfl, Nat.le_of_ble_eq_true rfl⟩) ?_
      cases b9 : (cy_pl (τ.1 2 kx) i)
      · refine lv_if_ne (tgt := 49) hx hb dX5_number_41 (by decide) (fun h10 => absurd (by decide) h10) (fun h10 => ?_)
        refine lv_bipush (v := -5) hx hb dX5_number_44 (by decide) ?_
        refine lv_goto (tgt := 50) hx hb dX5_number_46 (by decide) ?_
        refine lv_istore_n (lv' := [(3, .int (-5)), (0, .ref (ad 20)), (1, .int (nI kx)), (2, .int i)]) hx hb dX5_number_50 rfl hl (by decide) rfl (fun ls hl => ?_)
        refine lv_iload_n hx hb dX5_number_51 rfl (lv_at hl 0 rfl) ?_
        refine lv_if_eq (tgt := 63) hx hb dX5_number_52 (by decide) (fun h11 => absurd h11 (by decide)) (fun h11 => ?_)
        refine lv_aload_n hx hb dX5_number_55 rfl (lv_at hl 1 rfl) ?_
        refine lv_iload_n hx hb dX5_number_56 rfl (lv_at hl 0 rfl) ?_
        refine cy_callm (va_runV (As := [.int (-5)]) (rest := []) ⟨hx, hb, hml, hown, hts⟩ (c_X5_no l D cI cJ cO z n na σ (cy_i τ 0 2 0) pl hi ad (-5)) (cwV 1 hts gX5_number_X5_no rfl rfl rfl (by decide +kernel) ⟨Nat.le_of_ble_eq_true rfl, Nat.le_of_ble_eq_true rfl⟩) (cy_preV hK hI (cy_recv hK (hI.1 20 _ cy_CR).1 rfl)) rfl rfl hl.1 rfl (lv_room (Nat.le_of_ble_eq_true rfl)) dX5_number_57 ⟨Nat.le_of_ble_eq_true rfl, Nat.le_of_ble_eq_true rfl⟩) hS (fun u H locs hI hz hS => ?_)
        have hI : cy_W D z (cy_CT cI cJ cO n na σ (cy_no (cy_i τ 0 2 0) (-5)) pl hi ad) ad H := hI
        refine W.eq (g2 := F0 m 60 ls [.int (-5)]) rfl ?_
        refine lv_istore_n (lv' := [(3, .int (-5)), (0, .ref (ad 20)), (1, .int (nI kx)), (2, .int i)]) hx hb dX5_number_60 rfl hl (by decide) rfl (fun ls hl => ?_)
        refine lv_lconst (v := 0) hx hb dX5_number_61 (by decide) ?_
        have E : cy_oNum nt τ (nI kx) i = (0, cy_no (cy_i τ 0 2 0) (-5)) := by simp [cy_oNum, cy_z, nI_clamp (show kx < 2 ^ 31 by omega), b1, b5, b9]
        rw [E]
        exact W.lret (v := 0) hx hb hr (fun t ht hW => ⟨(), rfl, by rw [ht]; exact hI, hS.F ht⟩) hS.2.2 dX5_number_62
      · obtain ⟨pi, hpi, epi⟩ := (hok.2.2.1 kx hkx).2.1
        obtain ⟨ji, hji, rfl⟩ := (cy_pl_iff (p := pi) (by omega) _).mp (by rw [← epi]; exact b9)
        refine lv_if_ne (tgt := 49) hx hb dX5_number_41 (by decide) (fun h12 => ?_) (fun h12 => absurd h12 (by decide))
        refine lv_iconst (v := 0) hx hb dX5_number_49 (by decide) ?_
        refine lv_istore_n (lv' := [(3, .int 0), (0, .ref (ad 20)), (1, .int (nI kx)), (2, .int (nI ji))]) hx hb dX5_number_50 rfl hl (by decide) rfl (fun ls hl => ?_)
        refine lv_iload_n hx hb dX5_number_51 rfl (lv_at hl 0 rfl) ?_
        refine lv_if_eq (tgt := 63) hx hb dX5_number_52 (by decide) (fun h13 => ?_) (fun h13 => absurd (by decide) h13)
        refine lv_aload_n hx hb dX5_number_63 rfl (lv_at hl 1 rfl) ?_
        refine cy_getT (v := .ref (ad 24)) hx hb hts hin5 hown hK hI 4 (by decide) (hts (.fieldLink RX5 19 "CustomsYardModel" "numbers" "[J") (by decide +kernel)) rfl dX5_number_64 ?_
        refine lv_bipush (v := 6) hx hb dX5_number_67 (by decide) ?_
        refine lv_iload_n hx hb dX5_number_69 rfl (lv_at hl 2 rfl) ?_
        refine lv_imul hx hb dX5_number_70 ?_
        refine lv_iload_n hx hb dX5_number_71 rfl (lv_at hl 3 rfl) ?_
        refine lv_iadd hx hb dX5_number_72 ?_
        refine cy_topi (y := nI (6 * kx + ji)) (cy_ix kx ji) ?_
        refine cy_lald (f := τ.2 0) (k := (6 * kx + ji)) hx hb hK.1 hI 1 (x := 24) rfl rfl (by omega) (by decide) dX5_number_73 ?_
        have E : cy_oNum nt τ (nI kx) (nI ji) = (τ.2 0 (6 * kx + ji), cy_i τ 0 2 0) := by simp [cy_oNum, cy_z, nI_clamp (show kx < 2 ^ 31 by omega), nI_clamp (show ji < 2 ^ 31 by omega), b1, b5, b9]
        rw [E]
        exact W.lret (v := τ.2 0 (6 * kx + ji)) hx hb hr (fun t ht hW => ⟨(), rfl, by rw [ht]; exact hI, hS.F ht⟩) hS.2.2 dX5_number_74

set_option maxHeartbeats 4000000 in
set_option maxRecDepth 100000 in
theorem c_X5_put (l : Launch) (D : va_G) (cI cJ cO : ClassId) (z n na : Nat) (σ τ : cy_S) (pl : Nat → Int32) (hi : Int32) (ad : Nat → Nat) (nt : Nat) (hok : cy_ok nt τ) (x i o : Int32)  : Met l yX5_put wsX5_put { frames := 2, cells := 0, slots := 0, locals := 44 } (cy_P D cI cJ cO (fun H => cy_W D z (cy_CT cI cJ cO n na σ τ pl hi ad) ad H) [.ref (ad 20), .int x, .int i, .int o]) (cy_M (S := Unit) z (fun _ => some (.int (cy_oPut nt τ x i o).1)) (fun _ H => cy_W D z (cy_CT cI cJ cO n na σ (cy_oPut nt τ x i o).2 pl hi ad) ad H)) 0 0 (fun q => z ≤ q) := by
  refine Met.ofW (cc := cX5_put) (maxL := 5) (ret := (some .int)) (by decide) rfl ?_
  intro p e s m args below meth c s₁ B hml hv
  obtain ⟨rfl, hK, hI⟩ := hv
  have hx := B.exec
  have hb := B.bytes
  have hr := B.returns
  have hts := atoms_spec (ws := wsX5_put) B.pre
  have hown : s.vm.findClass RX5 = some m.cls := findClass_of_methodNamed B.named
  have hlocks := B.notSynchronized
  have hS : va_S (fun q => z ≤ q) s.heap s.heap [] := va_S.rf
  have hl := lv_entry ([.ref (ad 20), .int x, .int i, .int o]) (n := 5) (Nat.le_of_ble_eq_true rfl)
  rw [lg_entry_eq]
  generalize (lg_sl ([.ref (ad 20), .int x, .int i, .int o]) ++ List.replicate (5 - (lg_sl ([.ref (ad 20), .int x, .int i, .int o])).length) Slot.unset).toArray = ls at hl ⊢
  have hl : lv_has ls 5 [(0, .ref (ad 20)), (1, .int x), (2, .int i), (3, .int o)] := hl
  have hin5 := hin5_X5_put
  have h0 := hok.2.1
  have hn := hok.1
  refine lv_aload_n hx hb dX5_put_0 rfl (lv_at hl 0 rfl) ?_
  refine lv_iconst (v := 0) hx hb dX5_put_1 (by decide) ?_
  refine cy_putT (v := 0) hx hb hts hin5 hown hK hI hS 12 2 (by decide) (hts (.fieldLink RX5 52 "CustomsYardModel" "refused" "I") (by decide +kernel)) rfl (by decide +kernel) rfl dX5_put_2 (fun H locs hI hS => ?_)
  refine lv_aload_n hx hb dX5_put_5 rfl (lv_at hl 0 rfl) ?_
  refine lv_iload_n hx hb dX5_put_6 rfl (lv_at hl 1 rfl) ?_
  refine cy_callp (v := .int (cy_b (cy_ld nt x))) (va_runV (As := [.int x]) (rest := []) ⟨hx, hb, hml, hown, hts⟩ (c_X5_isLoad l D cI cJ cO z n na σ (cy_i τ 0 2 0) pl hi ad nt h0 x) (cwV 1 hts gX5_put_X5_isLoad rfl rfl rfl (by decide +kernel) ⟨Nat.le_of_ble_eq_true rfl, Nat.le_of_ble_eq_true rfl⟩) (cy_preV hK hI (cy_recv hK (hI.1 20 _ cy_CR).1 rfl)) rfl rfl hl.1 rfl (lv_room (Nat.le_of_ble_eq_true rfl)) dX5_put_7 ⟨Nat.le_of_ble_eq_true rfl, Nat.le_of_ble_eq_true rfl⟩) ?_
  cases b1 : (cy_ld nt x)
  · refine lv_if_eq (tgt := 26) hx hb dX5_put_10 (by decide) (fun h2 => ?_) (fun h2 => absurd (by decide) h2)
    refine lv_aload_n hx hb dX5_put_26 rfl (lv_at hl 0 rfl) ?_
    refine lv_bipush (v := -2) hx hb dX5_put_27 (by decide) ?_
    refine cy_callm (va_runV (As := [.int (-2)]) (rest := []) ⟨hx, hb, hml, hown, hts⟩ (c_X5_no l D cI cJ cO z n na σ (cy_i τ 0 2 0) pl hi ad (-2)) (cwV 1 hts gX5_put_X5_no rfl rfl rfl (by decide +kernel) ⟨Nat.le_of_ble_eq_true rfl, Nat.le_of_ble_eq_true rfl⟩) (cy_preV hK hI (cy_recv hK (hI.1 20 _ cy_CR).1 rfl)) rfl rfl hl.1 rfl (lv_room (Nat.le_of_ble_eq_true rfl)) dX5_put_29 ⟨Nat.le_of_ble_eq_true rfl, Nat.le_of_ble_eq_true rfl⟩) hS (fun u H locs hI hz hS => ?_)
    have hI : cy_W D z (cy_CT cI cJ cO n na σ (cy_no (cy_i τ 0 2 0) (-2)) pl hi ad) ad H := hI
    refine W.eq (g2 := F0 m 32 ls [.int (-2)]) rfl ?_
    have E : cy_oPut nt τ x i o = ((-2), cy_no (cy_i τ 0 2 0) (-2)) := by simp [cy_oPut, cy_z, b1]
    rw [E]
    exact W.iret (v := (-2)) hx hb hr (fun t ht hW => ⟨(), rfl, by rw [ht]; exact hI, hS.F ht⟩) hS.2.2 dX5_put_32
  · obtain ⟨kx, hkx, rfl⟩ := (cy_ld_iff hn _).mp b1
    refine lv_if_eq (tgt := 26) hx hb dX5_put_10 (by decide) (fun h3 => absurd h3 (by decide)) (fun h3 => ?_)
    refine lv_iload_n hx hb dX5_put_13 rfl (lv_at hl 3 rfl) ?_
    refine lv_iconst (v := -1) hx hb dX5_put_14 (by decide) ?_
    refine lv_icmp_eq (tgt := 33) hx hb dX5_put_15 (by decide) (fun h4 => ?_) (fun h4 => ?_)
    · refine lv_aload_n hx hb dX5_put_33 rfl (lv_at hl 0 rfl) ?_
      refine cy_getT (v := .ref (ad 21)) hx hb hts hin5 hown hK hI 1 (by decide) (hts (.fieldLink RX5 7 "CustomsYardModel" "sorts" "[I") (by decide +kernel)) rfl dX5_put_34 ?_
      refine lv_iload_n hx hb dX5_put_37 rfl (lv_at hl 1 rfl) ?_
      refine cy_iald (f := τ.1 1) (k := kx) hx hb hK.1 hI 0 (x := 21) rfl rfl (by omega) (by decide) dX5_put_38 ?_
      refine lv_istore (lv' := [(4, .int (τ.1 1 kx)), (0, .ref (ad 20)), (1, .int (nI kx)), (2, .int i), (3, .int o)]) hx hb dX5_put_39 hl (by decide) rfl (fun ls hl => ?_)
      refine lv_iload hx hb dX5_put_41 (lv_at hl 0 rfl) ?_
      refine cy_callp (v := .int (cy_b (cy_th (τ.1 1 kx)))) (va_runS (As := [.int (τ.1 1 kx)]) (rest := []) ⟨hx, hb, hml, hown, hts⟩ (c_X5_isOfThings l (τ.1 1 kx)) (va_cwS 1 hts gX5_put_X5_isOfThings rfl rfl rfl (by decide +kernel) ⟨Nat.le_of_ble_eq_true rfl, Nat.le_of_ble_eq_true rfl⟩) preEq rfl rfl hl.1 rfl (lv_room (Nat.le_of_ble_eq_true rfl)) dX5_put_43 ⟨Nat.le_of_ble_eq_true rfl, Nat.le_of_ble_eq_true rfl⟩) ?_
      cases b5 : (cy_th (τ.1 1 kx))
      · refine lv_if_eq (tgt := 71) hx hb dX5_put_46 (by decide) (fun h6 => ?_) (fun h6 => absurd (by decide) h6)
        refine lv_aload_n hx hb dX5_put_71 rfl (lv_at hl 1 rfl) ?_
        refine lv_bipush (v := -4) hx hb dX5_put_72 (by decide) ?_
        refine cy_callm (va_runV (As := [.int (-4)]) (rest := []) ⟨hx, hb, hml, hown, hts⟩ (c_X5_no l D cI cJ cO z n na σ (cy_i τ 0 2 0) pl hi ad (-4)) (cwV 1 hts gX5_put_X5_no rfl rfl rfl (by decide +kernel) ⟨Nat.le_of_ble_eq_true rfl, Nat.le_of_ble_eq_true rfl⟩) (cy_preV hK hI (cy_recv hK (hI.1 20 _ cy_CR).1 rfl)) rfl rfl hl.1 rfl (lv_room (Nat.le_of_ble_eq_true rfl)) dX5_put_74 ⟨Nat.le_of_ble_eq_true rfl, Nat.le_of_ble_eq_true rfl⟩) hS (fun u H locs hI hz hS => ?_)
        have hI : cy_W D z (cy_CT cI cJ cO n na σ (cy_no (cy_i τ 0 2 0) (-4)) pl hi ad) ad H := hI
        refine W.eq (g2 := F0 m 77 ls [.int (-4)]) rfl ?_
        have E : cy_oPut nt τ (nI kx) i o = ((-4), cy_no (cy_i τ 0 2 0) (-4)) := by first | (simp [cy_oPut, cy_z, nI_clamp (show kx < 2 ^ 31 by omega), b1, b5]; done) | (simp [cy_oPut, cy_z, nI_clamp (show kx < 2 ^ 31 by omega), b1, b5]; simp [h4]; done) | (simp [cy_oPut, cy_z, nI_clamp (show kx < 2 ^ 31 by omega), b1, b5, h4]; done)
        rw [E]
        exact W.iret (v := (-4)) hx hb hr (fun t ht hW => ⟨(), rfl, by rw [ht]; exact hI, hS.F ht⟩) hS.2.2 dX5_put_77
      · refine lv_if_eq (tgt := 71) hx hb dX5_put_46 (by decide) (fun h7 => absurd h7 (by decide)) (fun h7 => ?_)
        refine lv_iload_n hx hb dX5_put_49 rfl (lv_at hl 4 rfl) ?_
        refine lv_iconst (v := -1) hx hb dX5_put_50 (by decide) ?_
        refine lv_icmp_eq (tgt := 78) hx hb dX5_put_51 (by decide) (fun h8 => ?_) (fun h8 => absurd (h4) h8)
        refine lv_aload_n hx hb dX5_put_78 rfl (lv_at hl 1 rfl) ?_
        refine lv_iload_n hx hb dX5_put_79 rfl (lv_at hl 2 rfl) ?_
        refine lv_iload_n hx hb dX5_put_80 rfl (lv_at hl 3 rfl) ?_
        refine cy_callp (v := .int (cy_b (cy_pl (τ.1 2 kx) i))) (va_runV (As := [.int (nI kx), .int i]) (rest := []) ⟨hx, hb, hml, hown, hts⟩ (c_X5_isPlace l D cI cJ cO z n na σ (cy_i τ 0 2 0) pl hi ad kx (by omega) i) (cwV 2 hts gX5_put_X5_isPlace rfl rfl rfl (by decide +kernel) ⟨Nat.le_of_ble_eq_true rfl, Nat.le_of_ble_eq_true rfl⟩) (cy_preV hK hI (cy_recv hK (hI.1 20 _ cy_CR).1 rfl)) rfl rfl hl.1 rfl (lv_room (Nat.le_of_ble_eq_true rfl)) dX5_put_81 ⟨Nat.le_of_ble_eq_true rfl, Nat.le_of_ble_eq_true rfl⟩) ?_
        cases b9 : (cy_pl (τ.1 2 kx) i)
        · refine lv_if_ne (tgt := 94) hx hb dX5_put_84 (by decide) (fun h10 => absurd (by decide) h10) (fun h10 => ?_)
          refine lv_aload_n hx hb dX5_put_87 rfl (lv_at hl 1 rfl) ?_
          refine lv_bipush (v := -5) hx hb dX5_put_88 (by decide) ?_
          refine cy_callm (va_runV (As := [.int (-5)]) (rest := []) ⟨hx, hb, hml, hown, hts⟩ (c_X5_no l D cI cJ cO z n na σ (cy_i τ 0 2 0) pl hi ad (-5)) (cwV 1 hts gX5_put_X5_no rfl rfl rfl (by decide +kernel) ⟨Nat.le_of_ble_eq_true rfl, Nat.le_of_ble_eq_true rfl⟩) (cy_preV hK hI (cy_recv hK (hI.1 20 _ cy_CR).1 rfl)) rfl rfl hl.1 rfl (lv_room (Nat.le_of_ble_eq_true rfl)) dX5_put_90 ⟨Nat.le_of_ble_eq_true rfl, Nat.le_of_ble_eq_true rfl⟩) hS (fun u H locs hI hz hS => ?_)
          have hI : cy_W D z (cy_CT cI cJ cO n na σ (cy_no (cy_i τ 0 2 0) (-5)) pl hi ad) ad H := hI
          refine W.eq (g2 := F0 m 93 ls [.int (-5)]) rfl ?_
          have E : cy_oPut nt τ (nI kx) i o = ((-5), cy_no (cy_i τ 0 2 0) (-5)) := by first | (simp [cy_oPut, cy_z, nI_clamp (show kx < 2 ^ 31 by omega), b1, b5, b9]; done) | (simp [cy_oPut, cy_z, nI_clamp (show kx < 2 ^ 31 by omega), b1, b5, b9]; simp [h4]; done) | (simp [cy_oPut, cy_z, nI_clamp (show kx < 2 ^ 31 by omega), b1, b5, b9, h4]; done)
          rw [E]
          exact W.iret (v := (-5)) hx hb hr (fun t ht hW => ⟨(), rfl, by rw [ht]; exact hI, hS.F ht⟩) hS.2.2 dX5_put_93
        · obtain ⟨pi, hpi, epi⟩ := (hok.2.2.1 kx hkx).2.1
          obtain ⟨ji, hji, rfl⟩ := (cy_pl_iff (p := pi) (by omega) _).mp (by rw [← epi]; exact b9)
          refine lv_if_ne (tgt := 94) hx hb dX5_put_84 (by decide) (fun h11 => ?_) (fun h11 => absurd h11 (by decide))
          refine lv_iload_n hx hb dX5_put_94 rfl (lv_at hl 4 rfl) ?_
          refine lv_iconst (v := -1) hx hb dX5_put_95 (by decide) ?_
          refine lv_icmp_eq (tgt := 123) hx hb dX5_put_96 (by decide) (fun h12 => ?_) (fun h12 => absurd (h4) h12)
          refine lv_aload_n hx hb dX5_put_123 rfl (lv_at hl 1 rfl) ?_
          refine cy_getT (v := .ref (ad 25)) hx hb hts hin5 hown hK hI 5 (by decide) (hts (.fieldLink RX5 23 "CustomsYardModel" "things" "[I") (by decide +kernel)) rfl dX5_put_124 ?_
          refine lv_bipush (v := 6) hx hb dX5_put_127 (by decide) ?_
          refine lv_iload_n hx hb dX5_put_129 rfl (lv_at hl 2 rfl) ?_
          refine lv_imul hx hb dX5_put_130 ?_
          refine lv_iload_n hx hb dX5_put_131 rfl (lv_at hl 3 rfl) ?_
          refine lv_iadd hx hb dX5_put_132 ?_
          refine cy_topi (y := nI (6 * kx + ji)) (cy_ix kx ji) ?_
          refine lv_iload_n hx hb dX5_put_133 rfl (lv_at hl 4 rfl) ?_
          refine cy_stT5 (k := (6 * kx + ji)) (v := o) hx hb hK hI hS (by omega) dX5_put_134 (fun H locs hI hS => ?_)
          refine lv_iconst (v := 1) hx hb dX5_put_135 (by decide) ?_
          have E : cy_oPut nt τ (nI kx) (nI ji) o = (1, cy_i (cy_i τ 0 2 0) 4 (6 * kx + ji) o) := by first | (simp [cy_oPut, cy_z, nI_clamp (show kx < 2 ^ 31 by omega), nI_clamp (show ji < 2 ^ 31 by omega), b1, b5, b9]; done) | (simp [cy_oPut, cy_z, nI_clamp (show kx < 2 ^ 31 by omega), nI_clamp (show ji < 2 ^ 31 by omega), b1, b5, b9]; simp [h4]; done) | (simp [cy_oPut, cy_z, nI_clamp (show kx < 2 ^ 31 by omega), nI_clamp (show ji < 2 ^ 31 by omega), b1, b5, b9, h4]; done)
          rw [E]
          exact W.iret (v := 1) hx hb hr (fun t ht hW => ⟨(), rfl, by rw [ht]; exact hI, hS.F ht⟩) hS.2.2 dX5_put_136
    · refine lv_aload_n hx hb dX5_put_18 rfl (lv_at hl 0 rfl) ?_
      refine lv_iload_n hx hb dX5_put_19 rfl (lv_at hl 3 rfl) ?_
      refine cy_callp (v := .int (cy_b (cy_ld nt o))) (va_runV (As := [.int o]) (rest := []) ⟨hx, hb, hml, hown, hts⟩ (c_X5_isLoad l D cI cJ cO z n na σ (cy_i τ 0 2 0) pl hi ad nt h0 o) (cwV 1 hts gX5_put_X5_isLoad rfl rfl rfl (by decide +kernel) ⟨Nat.le_of_ble_eq_true rfl, Nat.le_of_ble_eq_true rfl⟩) (cy_preV hK hI (cy_recv hK (hI.1 20 _ cy_CR).1 rfl)) rfl rfl hl.1 rfl (lv_room (Nat.le_of_ble_eq_true rfl)) dX5_put_20 ⟨Nat.le_of_ble_eq_true rfl, Nat.le_of_ble_eq_true rfl⟩) ?_
      cases b13 : (cy_ld nt o)
      · refine lv_if_ne (tgt := 33) hx hb dX5_put_23 (by decide) (fun h14 => absurd (by decide) h14) (fun h14 => ?_)
        refine lv_aload_n hx hb dX5_put_26 rfl (lv_at hl 0 rfl) ?_
        refine lv_bipush (v := -2) hx hb dX5_put_27 (by decide) ?_
        refine cy_callm (va_runV (As := [.int (-2)]) (rest := []) ⟨hx, hb, hml, hown, hts⟩ (c_X5_no l D cI cJ cO z n na σ (cy_i τ 0 2 0) pl hi ad (-2)) (cwV 1 hts gX5_put_X5_no rfl rfl rfl (by decide +kernel) ⟨Nat.le_of_ble_eq_true rfl, Nat.le_of_ble_eq_true rfl⟩) (cy_preV hK hI (cy_recv hK (hI.1 20 _ cy_CR).1 rfl)) rfl rfl hl.1 rfl (lv_room (Nat.le_of_ble_eq_true rfl)) dX5_put_29 ⟨Nat.le_of_ble_eq_true rfl, Nat.le_of_ble_eq_true rfl⟩) hS (fun u H locs hI hz hS => ?_)
        have hI : cy_W D z (cy_CT cI cJ cO n na σ (cy_no (cy_i τ 0 2 0) (-2)) pl hi ad) ad H := hI
        refine W.eq (g2 := F0 m 32 ls [.int (-2)]) rfl ?_
        have E : cy_oPut nt τ (nI kx) i o = ((-2), cy_no (cy_i τ 0 2 0) (-2)) := by first | (simp [cy_oPut, cy_z, nI_clamp (show kx < 2 ^ 31 by omega), b1, b13]; done) | (simp [cy_oPut, cy_z, nI_clamp (show kx < 2 ^ 31 by omega), b1, b13]; simp [h4]; done) | (simp [cy_oPut, cy_z, nI_clamp (show kx < 2 ^ 31 by omega), b1, b13, h4]; done)
        rw [E]
        exact W.iret (v := (-2)) hx hb hr (fun t ht hW => ⟨(), rfl, by rw [ht]; exact hI, hS.F ht⟩) hS.2.2 dX5_put_32
      · obtain ⟨ko, hko, rfl⟩ := (cy_ld_iff hn _).mp b13
        refine lv_if_ne (tgt := 33) hx hb dX5_put_23 (by decide) (fun h15 => ?_) (fun h15 => absurd h15 (by decide))
        refine lv_aload_n hx hb dX5_put_33 rfl (lv_at hl 0 rfl) ?_
        refine cy_getT (v := .ref (ad 21)) hx hb hts hin5 hown hK hI 1 (by decide) (hts (.fieldLink RX5 7 "CustomsYardModel" "sorts" "[I") (by decide +kernel)) rfl dX5_put_34 ?_
        refine lv_iload_n hx hb dX5_put_37 rfl (lv_at hl 1 rfl) ?_
        refine cy_iald (f := τ.1 1) (k := kx) hx hb hK.1 hI 0 (x := 21) rfl rfl (by omega) (by decide) dX5_put_38 ?_
        refine lv_istore (lv' := [(4, .int (τ.1 1 kx)), (0, .ref (ad 20)), (1, .int (nI kx)), (2, .int i), (3, .int (nI ko))]) hx hb dX5_put_39 hl (by decide) rfl (fun ls hl => ?_)
        refine lv_iload hx hb dX5_put_41 (lv_at hl 0 rfl) ?_
        refine cy_callp (v := .int (cy_b (cy_th (τ.1 1 kx)))) (va_runS (As := [.int (τ.1 1 kx)]) (rest := []) ⟨hx, hb, hml, hown, hts⟩ (c_X5_isOfThings l (τ.1 1 kx)) (va_cwS 1 hts gX5_put_X5_isOfThings rfl rfl rfl (by decide +kernel) ⟨Nat.le_of_ble_eq_true rfl, Nat.le_of_ble_eq_true rfl⟩) preEq rfl rfl hl.1 rfl (lv_room (Nat.le_of_ble_eq_true rfl)) dX5_put_43 ⟨Nat.le_of_ble_eq_true rfl, Nat.le_of_ble_eq_true rfl⟩) ?_
        cases b16 : (cy_th (τ.1 1 kx))
        · refine lv_if_eq (tgt := 71) hx hb dX5_put_46 (by decide) (fun h17 => ?_) (fun h17 => absurd (by decide) h17)
          refine lv_aload_n hx hb dX5_put_71 rfl (lv_at hl 1 rfl) ?_
          refine lv_bipush (v := -4) hx hb dX5_put_72 (by decide) ?_
          refine cy_callm (va_runV (As := [.int (-4)]) (rest := []) ⟨hx, hb, hml, hown, hts⟩ (c_X5_no l D cI cJ cO z n na σ (cy_i τ 0 2 0) pl hi ad (-4)) (cwV 1 hts gX5_put_X5_no rfl rfl rfl (by decide +kernel) ⟨Nat.le_of_ble_eq_true rfl, Nat.le_of_ble_eq_true rfl⟩) (cy_preV hK hI (cy_recv hK (hI.1 20 _ cy_CR).1 rfl)) rfl rfl hl.1 rfl (lv_room (Nat.le_of_ble_eq_true rfl)) dX5_put_74 ⟨Nat.le_of_ble_eq_true rfl, Nat.le_of_ble_eq_true rfl⟩) hS (fun u H locs hI hz hS => ?_)
          have hI : cy_W D z (cy_CT cI cJ cO n na σ (cy_no (cy_i τ 0 2 0) (-4)) pl hi ad) ad H := hI
          refine W.eq (g2 := F0 m 77 ls [.int (-4)]) rfl ?_
          have E : cy_oPut nt τ (nI kx) i (nI ko) = ((-4), cy_no (cy_i τ 0 2 0) (-4)) := by first | (simp [cy_oPut, cy_z, nI_clamp (show kx < 2 ^ 31 by omega), nI_clamp (show ko < 2 ^ 31 by omega), b1, b13, b16]; done) | (simp [cy_oPut, cy_z, nI_clamp (show kx < 2 ^ 31 by omega), nI_clamp (show ko < 2 ^ 31 by omega), b1, b13, b16]; simp [h4]; done) | (simp [cy_oPut, cy_z, nI_clamp (show kx < 2 ^ 31 by omega), nI_clamp (show ko < 2 ^ 31 by omega), b1, b13, b16, h4]; done)
          rw [E]
          exact W.iret (v := (-4)) hx hb hr (fun t ht hW => ⟨(), rfl, by rw [ht]; exact hI, hS.F ht⟩) hS.2.2 dX5_put_77
        · refine lv_if_eq (tgt := 71) hx hb dX5_put_46 (by decide) (fun h18 => absurd h18 (by decide)) (fun h18 => ?_)
          refine lv_iload_n hx hb dX5_put_49 rfl (lv_at hl 4 rfl) ?_
          refine lv_iconst (v := -1) hx hb dX5_put_50 (by decide) ?_
          refine lv_icmp_eq (tgt := 78) hx hb dX5_put_51 (by decide) (fun h19 => absurd h19 (h4)) (fun h19 => ?_)
          refine lv_aload_n hx hb dX5_put_54 rfl (lv_at hl 1 rfl) ?_
          refine cy_getT (v := .ref (ad 21)) hx hb hts hin5 hown hK hI 1 (by decide) (hts (.fieldLink RX5 7 "CustomsYardModel" "sorts" "[I") (by decide +kernel)) rfl dX5_put_55 ?_
          refine lv_iload_n hx hb dX5_put_58 rfl (lv_at hl 4 rfl) ?_
          refine cy_iald (f := τ.1 1) (k := ko) hx hb hK.1 hI 0 (x := 21) rfl rfl (by omega) (by decide) dX5_put_59 ?_
          refine lv_iload hx hb dX5_put_60 (lv_at hl 0 rfl) ?_
          refine cy_callp (v := .int (cy_wa (τ.1 1 kx))) (va_runS (As := [.int (τ.1 1 kx)]) (rest := [.int (τ.1 1 ko)]) ⟨hx, hb, hml, hown, hts⟩ (c_X5_wanted l (τ.1 1 kx)) (va_cwS 1 hts gX5_put_X5_wanted rfl rfl rfl (by decide +kernel) ⟨Nat.le_of_ble_eq_true rfl, Nat.le_of_ble_eq_true rfl⟩) preEq rfl rfl hl.1 rfl (lv_room (Nat.le_of_ble_eq_true rfl)) dX5_put_62 ⟨Nat.le_of_ble_eq_true rfl, Nat.le_of_ble_eq_true rfl⟩) ?_
          refine cy_callp (v := .int (cy_b (cy_go (τ.1 1 ko) (cy_wa (τ.1 1 kx))))) (va_runS (As := [.int (τ.1 1 ko), .int (cy_wa (τ.1 1 kx))]) (rest := []) ⟨hx, hb, hml, hown, hts⟩ (c_X5_goes l (τ.1 1 ko) (cy_wa (τ.1 1 kx))) (va_cwS 2 hts gX5_put_X5_goes rfl rfl rfl (by decide +kernel) ⟨Nat.le_of_ble_eq_true rfl, Nat.le_of_ble_eq_true rfl⟩) preEq rfl rfl hl.1 rfl (lv_room (Nat.le_of_ble_eq_true rfl)) dX5_put_65 ⟨Nat.le_of_ble_eq_true rfl, Nat.le_of_ble_eq_true rfl⟩) ?_
          cases b20 : (cy_go (τ.1 1 ko) (cy_wa (τ.1 1 kx)))
          · refine lv_if_ne (tgt := 78) hx hb dX5_put_68 (by decide) (fun h21 => absurd (by decide) h21) (fun h21 => ?_)
            refine lv_aload_n hx hb dX5_put_71 rfl (lv_at hl 1 rfl) ?_
            refine lv_bipush (v := -4) hx hb dX5_put_72 (by decide) ?_
            refine cy_callm (va_runV (As := [.int (-4)]) (rest := []) ⟨hx, hb, hml, hown, hts⟩ (c_X5_no l D cI cJ cO z n na σ (cy_i τ 0 2 0) pl hi ad (-4)) (cwV 1 hts gX5_put_X5_no rfl rfl rfl (by decide +kernel) ⟨Nat.le_of_ble_eq_true rfl, Nat.le_of_ble_eq_true rfl⟩) (cy_preV hK hI (cy_recv hK (hI.1 20 _ cy_CR).1 rfl)) rfl rfl hl.1 rfl (lv_room (Nat.le_of_ble_eq_true rfl)) dX5_put_74 ⟨Nat.le_of_ble_eq_true rfl, Nat.le_of_ble_eq_true rfl⟩) hS (fun u H locs hI hz hS => ?_)
            have hI : cy_W D z (cy_CT cI cJ cO n na σ (cy_no (cy_i τ 0 2 0) (-4)) pl hi ad) ad H := hI
            refine W.eq (g2 := F0 m 77 ls [.int (-4)]) rfl ?_
            have E : cy_oPut nt τ (nI kx) i (nI ko) = ((-4), cy_no (cy_i τ 0 2 0) (-4)) := by first | (simp [cy_oPut, cy_z, nI_clamp (show kx < 2 ^ 31 by omega), nI_clamp (show ko < 2 ^ 31 by omega), b1, b13, b16, b20]; done) | (simp [cy_oPut, cy_z, nI_clamp (show kx < 2 ^ 31 by omega), nI_clamp (show ko < 2 ^ 31 by omega), b1, b13, b16, b20]; simp [h4]; done) | (simp [cy_oPut, cy_z, nI_clamp (show kx < 2 ^ 31 by omega), nI_clamp (show ko < 2 ^ 31 by omega), b1, b13, b16, b20, h4]; done)
            rw [E]
            exact W.iret (v := (-4)) hx hb hr (fun t ht hW => ⟨(), rfl, by rw [ht]; exact hI, hS.F ht⟩) hS.2.2 dX5_put_77
          · refine lv_if_ne (tgt := 78) hx hb dX5_put_68 (by decide) (fun h22 => ?_) (fun h22 => absurd h22 (by decide))
            refine lv_aload_n hx hb dX5_put_78 rfl (lv_at hl 1 rfl) ?_
            refine lv_iload_n hx hb dX5_put_79 rfl (lv_at hl 2 rfl) ?_
            refine lv_iload_n hx hb dX5_put_80 rfl (lv_at hl 3 rfl) ?_
            refine cy_callp (v := .int (cy_b (cy_pl (τ.1 2 kx) i))) (va_runV (As := [.int (nI kx), .int i]) (rest := []) ⟨hx, hb, hml, hown, hts⟩ (c_X5_isPlace l D cI cJ cO z n na σ (cy_i τ 0 2 0) pl hi ad kx (by omega) i) (cwV 2 hts gX5_put_X5_isPlace rfl rfl rfl (by decide +kernel) ⟨Nat.le_of_ble_eq_true rfl, Nat.le_of_ble_eq_true rfl⟩) (cy_preV hK hI (cy_recv hK (hI.1 20 _ cy_CR).1 rfl)) rfl rfl hl.1 rfl (lv_room (Nat.le_of_ble_eq_true rfl)) dX5_put_81 ⟨Nat.le_of_ble_eq_true rfl, Nat.le_of_ble_eq_true rfl⟩) ?_
            cases b23 : (cy_pl (τ.1 2 kx) i)
            · refine lv_if_ne (tgt := 94) hx hb dX5_put_84 (by decide) (fun h24 => absurd (by decide) h24) (fun h24 => ?_)
              refine lv_aload_n hx hb dX5_put_87 rfl (lv_at hl 1 rfl) ?_
              refine lv_bipush (v := -5) hx hb dX5_put_88 (by decide) ?_
              refine cy_callm (va_runV (As := [.int (-5)]) (rest := []) ⟨hx, hb, hml, hown, hts⟩ (c_X5_no l D cI cJ cO z n na σ (cy_i τ 0 2 0) pl hi ad (-5)) (cwV 1 hts gX5_put_X5_no rfl rfl rfl (by decide +kernel) ⟨Nat.le_of_ble_eq_true rfl, Nat.le_of_ble_eq_true rfl⟩) (cy_preV hK hI (cy_recv hK (hI.1 20 _ cy_CR).1 rfl)) rfl rfl hl.1 rfl (lv_room (Nat.le_of_ble_eq_true rfl)) dX5_put_90 ⟨Nat.le_of_ble_eq_true rfl, Nat.le_of_ble_eq_true rfl⟩) hS (fun u H locs hI hz hS => ?_)
              have hI : cy_W D z (cy_CT cI cJ cO n na σ (cy_no (cy_i τ 0 2 0) (-5)) pl hi ad) ad H := hI
              refine W.eq (g2 := F0 m 93 ls [.int (-5)]) rfl ?_
              have E : cy_oPut nt τ (nI kx) i (nI ko) = ((-5), cy_no (cy_i τ 0 2 0) (-5)) := by first | (simp [cy_oPut, cy_z, nI_clamp (show kx < 2 ^ 31 by omega), nI_clamp (show ko < 2 ^ 31 by omega), b1, b13, b16, b20, b23]; done) | (simp [cy_oPut, cy_z, nI_clamp (show kx < 2 ^ 31 by omega), nI_clamp (show ko < 2 ^ 31 by omega), b1, b13, b16, b20, b23]; simp [h4]; done) | (simp [cy_oPut, cy_z, nI_clamp (show kx < 2 ^ 31 by omega), nI_clamp (show ko < 2 ^ 31 by omega), b1, b13, b16, b20, b23, h4]; done)
              rw [E]
              exact W.iret (v := (-5)) hx hb hr (fun t ht hW => ⟨(), rfl, by rw [ht]; exact hI, hS.F ht⟩) hS.2.2 dX5_put_93
            · obtain ⟨pi, hpi, epi⟩ := (hok.2.2.1 kx hkx).2.1
              obtain ⟨ji, hji, rfl⟩ := (cy_pl_iff (p := pi) (by omega) _).mp (by rw [← epi]; exact b23)
              refine lv_if_ne (tgt := 94) hx hb dX5_put_84 (by decide) (fun h25 => ?_) (fun h25 => absurd h25 (by decide))
              refine lv_iload_n hx hb dX5_put_94 rfl (lv_at hl 4 rfl) ?_
              refine lv_iconst (v := -1) hx hb dX5_put_95 (by decide) ?_
              refine lv_icmp_eq (tgt := 123) hx hb dX5_put_96 (by decide) (fun h26 => absurd h26 (h4)) (fun h26 => ?_)
              refine lv_aload_n hx hb dX5_put_99 rfl (lv_at hl 1 rfl) ?_
              refine cy_getT (v := .ref (ad 21)) hx hb hts hin5 hown hK hI 1 (by decide) (hts (.fieldLink RX5 7 "CustomsYardModel" "sorts" "[I") (by decide +kernel)) rfl dX5_put_100 ?_
              refine lv_iload_n hx hb dX5_put_103 rfl (lv_at hl 4 rfl) ?_
              refine cy_iald (f := τ.1 1) (k := ko) hx hb hK.1 hI 0 (x := 21) rfl rfl (by omega) (by decide) dX5_put_104 ?_
              refine lv_iload hx hb dX5_put_105 (lv_at hl 0 rfl) ?_
              refine cy_callp (v := .int (cy_ha (τ.1 1 kx))) (va_runS (As := [.int (τ.1 1 kx)]) (rest := [.int (τ.1 1 ko)]) ⟨hx, hb, hml, hown, hts⟩ (c_X5_had l (τ.1 1 kx)) (va_cwS 1 hts gX5_put_X5_had rfl rfl rfl (by decide +kernel) ⟨Nat.le_of_ble_eq_true rfl, Nat.le_of_ble_eq_true rfl⟩) preEq rfl rfl hl.1 rfl (lv_room (Nat.le_of_ble_eq_true rfl)) dX5_put_107 ⟨Nat.le_of_ble_eq_true rfl, Nat.le_of_ble_eq_true rfl⟩) ?_
              refine cy_callp (v := .int (cy_b (cy_go (τ.1 1 ko) (cy_ha (τ.1 1 kx))))) (va_runS (As := [.int (τ.1 1 ko), .int (cy_ha (τ.1 1 kx))]) (rest := []) ⟨hx, hb, hml, hown, hts⟩ (c_X5_goes l (τ.1 1 ko) (cy_ha (τ.1 1 kx))) (va_cwS 2 hts gX5_put_X5_goes rfl rfl rfl (by decide +kernel) ⟨Nat.le_of_ble_eq_true rfl, Nat.le_of_ble_eq_true rfl⟩) preEq rfl rfl hl.1 rfl (lv_room (Nat.le_of_ble_eq_true rfl)) dX5_put_110 ⟨Nat.le_of_ble_eq_true rfl, Nat.le_of_ble_eq_true rfl⟩) ?_
              cases b27 : (cy_go (τ.1 1 ko) (cy_ha (τ.1 1 kx)))
              · refine lv_if_ne (tgt := 123) hx hb dX5_put_113 (by decide) (fun h28 => absurd (by decide) h28) (fun h28 => ?_)
                refine lv_aload_n hx hb dX5_put_116 rfl (lv_at hl 1 rfl) ?_
                refine lv_bipush (v := -6) hx hb dX5_put_117 (by decide) ?_
                refine cy_callm (va_runV (As := [.int (-6)]) (rest := []) ⟨hx, hb, hml, hown, hts⟩ (c_X5_no l D cI cJ cO z n na σ (cy_i τ 0 2 0) pl hi ad (-6)) (cwV 1 hts gX5_put_X5_no rfl rfl rfl (by decide +kernel) ⟨Nat.le_of_ble_eq_true rfl, Nat.le_of_ble_eq_true rfl⟩) (cy_preV hK hI (cy_recv hK (hI.1 20 _ cy_CR).1 rfl)) rfl rfl hl.1 rfl (lv_room (Nat.le_of_ble_eq_true rfl)) dX5_put_119 ⟨Nat.le_of_ble_eq_true rfl, Nat.le_of_ble_eq_true rfl⟩) hS (fun u H locs hI hz hS => ?_)
                have hI : cy_W D z (cy_CT cI cJ cO n na σ (cy_no (cy_i τ 0 2 0) (-6)) pl hi ad) ad H := hI
                refine W.eq (g2 := F0 m 122 ls [.int (-6)]) rfl ?_
                have E : cy_oPut nt τ (nI kx) (nI ji) (nI ko) = ((-6), cy_no (cy_i τ 0 2 0) (-6)) := by first | (simp [cy_oPut, cy_z, nI_clamp (show kx < 2 ^ 31 by omega), nI_clamp (show ko < 2 ^ 31 by omega), nI_clamp (show ji < 2 ^ 31 by omega), b1, b13, b16, b20, b23, b27]; done) | (simp [cy_oPut, cy_z, nI_clamp (show kx < 2 ^ 31 by omega), nI_clamp (show ko < 2 ^ 31 by omega), nI_clamp (show ji < 2 ^ 31 by omega), b1, b13, b16, b20, b23, b27]; simp [h4]; done) | (simp [cy_oPut, cy_z, nI_clamp (show kx < 2 ^ 31 by omega), nI_clamp (show ko < 2 ^ 31 by omega), nI_clamp (show ji < 2 ^ 31 by omega), b1, b13, b16, b20, b23, b27, h4]; done)
                rw [E]
                exact W.iret (v := (-6)) hx hb hr (fun t ht hW => ⟨(), rfl, by rw [ht]; exact hI, hS.F ht⟩) hS.2.2 dX5_put_122
              · refine lv_if_ne (tgt := 123) hx hb dX5_put_113 (by decide) (fun h29 => ?_) (fun h29 => absurd h29 (by decide))
                refine lv_aload_n hx hb dX5_put_123 rfl (lv_at hl 1 rfl) ?_
                refine cy_getT (v := .ref (ad 25)) hx hb hts hin5 hown hK hI 5 (by decide) (hts (.fieldLink RX5 23 "CustomsYardModel" "things" "[I") (by decide +kernel)) rfl dX5_put_124 ?_
                refine lv_bipush (v := 6) hx hb dX5_put_127 (by decide) ?_
                refine lv_iload_n hx hb dX5_put_129 rfl (lv_at hl 2 rfl) ?_
                refine lv_imul hx hb dX5_put_130 ?_
                refine lv_iload_n hx hb dX5_put_131 rfl (lv_at hl 3 rfl) ?_
                refine lv_iadd hx hb dX5_put_132 ?_
                refine cy_topi (y := nI (6 * kx + ji)) (cy_ix kx ji) ?_
                refine lv_iload_n hx hb dX5_put_133 rfl (lv_at hl 4 rfl) ?_
                refine cy_stT5 (k := (6 * kx + ji)) (v := nI ko) hx hb hK hI hS (by omega) dX5_put_134 (fun H locs hI hS => ?_)
                refine lv_iconst (v := 1) hx hb dX5_put_135 (by decide) ?_
                have E : cy_oPut nt τ (nI kx) (nI ji) (nI ko) = (1, cy_i (cy_i τ 0 2 0) 4 (6 * kx + ji) (nI ko)) := by first | (simp [cy_oPut, cy_z, nI_clamp (show kx < 2 ^ 31 by omega), nI_clamp (show ko < 2 ^ 31 by omega), nI_clamp (show ji < 2 ^ 31 by omega), b1, b13, b16, b20, b23, b27]; done) | (simp [cy_oPut, cy_z, nI_clamp (show kx < 2 ^ 31 by omega), nI_clamp (show ko < 2 ^ 31 by omega), nI_clamp (show ji < 2 ^ 31 by omega), b1, b13, b16, b20, b23, b27]; simp [h4]; done) | (simp [cy_oPut, cy_z, nI_clamp (show kx < 2 ^ 31 by omega), nI_clamp (show ko < 2 ^ 31 by omega), nI_clamp (show ji < 2 ^ 31 by omega), b1, b13, b16, b20, b23, b27, h4]; done)
                rw [E]
                exact W.iret (v := 1) hx hb hr (fun t ht hW => ⟨(), rfl, by rw [ht]; exact hI, hS.F ht⟩) hS.2.2 dX5_put_136

set_option maxHeartbeats 4000000 in
set_option maxRecDepth 100000 in
theorem c_X5_at (l : Launch) (D : va_G) (cI cJ cO : ClassId) (z n na : Nat) (σ τ : cy_S) (pl : Nat → Int32) (hi : Int32) (ad : Nat → Nat) (nt : Nat) (hok : cy_ok nt τ) (x i : Int32)  : Met l yX5_at wsX5_at { frames := 2, cells := 0, slots := 0, locals := 44 } (cy_P D cI cJ cO (fun H => cy_W D z (cy_CT cI cJ cO n na σ τ pl hi ad) ad H) [.ref (ad 20), .int x, .int i]) (cy_M (S := Unit) z (fun _ => some (.int (cy_oAt nt τ x i).1)) (fun _ H => cy_W D z (cy_CT cI cJ cO n na σ (cy_oAt nt τ x i).2 pl hi ad) ad H)) 0 0 (fun q => z ≤ q) := by
  refine Met.ofW (cc := cX5_at) (maxL := 3) (ret := (some .int)) (by decide) rfl ?_
  intro p e s m args below meth c s₁ B hml hv
  obtain ⟨rfl, hK, hI⟩ := hv
  have hx := B.exec
  have hb := B.bytes
  have hr := B.returns
  have hts := atoms_spec (ws := wsX5_at) B.pre
  have hown : s.vm.findClass RX5 = some m.cls := findClass_of_methodNamed B.named
  have hlocks := B.notSynchronized
  have hS : va_S (fun q => z ≤ q) s.heap s.heap [] := va_S.rf
  have hl := lv_entry ([.ref (ad 20), .int x, .int i]) (n := 3) (Nat.le_of_ble_eq_true rfl)
  rw [lg_entry_eq]
  generalize (lg_sl ([.ref (ad 20), .int x, .int i]) ++ List.replicate (3 - (lg_sl ([.ref (ad 20), .int x, .int i])).length) Slot.unset).toArray = ls at hl ⊢
  have hl : lv_has ls 3 [(0, .ref (ad 20)), (1, .int x), (2, .int i)] := hl
  have hin5 := hin5_X5_at
  have h0 := hok.2.1
  have hn := hok.1
  refine lv_aload_n hx hb dX5_at_0 rfl (lv_at hl 0 rfl) ?_
  refine lv_iconst (v := 0) hx hb dX5_at_1 (by decide) ?_
  refine cy_putT (v := 0) hx hb hts hin5 hown hK hI hS 12 2 (by decide) (hts (.fieldLink RX5 52 "CustomsYardModel" "refused" "I") (by decide +kernel)) rfl (by decide +kernel) rfl dX5_at_2 (fun H locs hI hS => ?_)
  refine lv_aload_n hx hb dX5_at_5 rfl (lv_at hl 0 rfl) ?_
  refine lv_iload_n hx hb dX5_at_6 rfl (lv_at hl 1 rfl) ?_
  refine cy_callp (v := .int (cy_b (cy_ld nt x))) (va_runV (As := [.int x]) (rest := []) ⟨hx, hb, hml, hown, hts⟩ (c_X5_isLoad l D cI cJ cO z n na σ (cy_i τ 0 2 0) pl hi ad nt h0 x) (cwV 1 hts gX5_at_X5_isLoad rfl rfl rfl (by decide +kernel) ⟨Nat.le_of_ble_eq_true rfl, Nat.le_of_ble_eq_true rfl⟩) (cy_preV hK hI (cy_recv hK (hI.1 20 _ cy_CR).1 rfl)) rfl rfl hl.1 rfl (lv_room (Nat.le_of_ble_eq_true rfl)) dX5_at_7 ⟨Nat.le_of_ble_eq_true rfl, Nat.le_of_ble_eq_true rfl⟩) ?_
  cases b1 : (cy_ld nt x)
  · refine lv_if_ne (tgt := 20) hx hb dX5_at_10 (by decide) (fun h2 => absurd (by decide) h2) (fun h2 => ?_)
    refine lv_aload_n hx hb dX5_at_13 rfl (lv_at hl 0 rfl) ?_
    refine lv_bipush (v := -2) hx hb dX5_at_14 (by decide) ?_
    refine cy_callm (va_runV (As := [.int (-2)]) (rest := []) ⟨hx, hb, hml, hown, hts⟩ (c_X5_no l D cI cJ cO z n na σ (cy_i τ 0 2 0) pl hi ad (-2)) (cwV 1 hts gX5_at_X5_no rfl rfl rfl (by decide +kernel) ⟨Nat.le_of_ble_eq_true rfl, Nat.le_of_ble_eq_true rfl⟩) (cy_preV hK hI (cy_recv hK (hI.1 20 _ cy_CR).1 rfl)) rfl rfl hl.1 rfl (lv_room (Nat.le_of_ble_eq_true rfl)) dX5_at_16 ⟨Nat.le_of_ble_eq_true rfl, Nat.le_of_ble_eq_true rfl⟩) hS (fun u H locs hI hz hS => ?_)
    have hI : cy_W D z (cy_CT cI cJ cO n na σ (cy_no (cy_i τ 0 2 0) (-2)) pl hi ad) ad H := hI
    refine W.eq (g2 := F0 m 19 ls [.int (-2)]) rfl ?_
    have E : cy_oAt nt τ x i = ((-2), cy_no (cy_i τ 0 2 0) (-2)) := by simp [cy_oAt, cy_z, b1]
    rw [E]
    exact W.iret (v := (-2)) hx hb hr (fun t ht hW => ⟨(), rfl, by rw [ht]; exact hI, hS.F ht⟩) hS.2.2 dX5_at_19
  · obtain ⟨kx, hkx, rfl⟩ := (cy_ld_iff hn _).mp b1
    refine lv_if_ne (tgt := 20) hx hb dX5_at_10 (by decide) (fun h3 => ?_) (fun h3 => absurd h3 (by decide))
    refine lv_aload_n hx hb dX5_at_20 rfl (lv_at hl 0 rfl) ?_
    refine cy_getT (v := .ref (ad 21)) hx hb hts hin5 hown hK hI 1 (by decide) (hts (.fieldLink RX5 7 "CustomsYardModel" "sorts" "[I") (by decide +kernel)) rfl dX5_at_21 ?_
    refine lv_iload_n hx hb dX5_at_24 rfl (lv_at hl 1 rfl) ?_
    refine cy_iald (f := τ.1 1) (k := kx) hx hb hK.1 hI 0 (x := 21) rfl rfl (by omega) (by decide) dX5_at_25 ?_
    refine cy_callp (v := .int (cy_b (cy_th (τ.1 1 kx)))) (va_runS (As := [.int (τ.1 1 kx)]) (rest := []) ⟨hx, hb, hml, hown, hts⟩ (c_X5_isOfThings l (τ.1 1 kx)) (va_cwS 1 hts gX5_at_X5_isOfThings rfl rfl rfl (by decide +kernel) ⟨Nat.le_of_ble_eq_true rfl, Nat.le_of_ble_eq_true rfl⟩) preEq rfl rfl hl.1 rfl (lv_room (Nat.le_of_ble_eq_true rfl)) dX5_at_26 ⟨Nat.le_of_ble_eq_true rfl, Nat.le_of_ble_eq_true rfl⟩) ?_
    cases b4 : (cy_th (τ.1 1 kx))
    · refine lv_if_ne (tgt := 39) hx hb dX5_at_29 (by decide) (fun h5 => absurd (by decide) h5) (fun h5 => ?_)
      refine lv_aload_n hx hb dX5_at_32 rfl (lv_at hl 0 rfl) ?_
      refine lv_bipush (v := -4) hx hb dX5_at_33 (by decide) ?_
      refine cy_callm (va_runV (As := [.int (-4)]) (rest := []) ⟨hx, hb, hml, hown, hts⟩ (c_X5_no l D cI cJ cO z n na σ (cy_i τ 0 2 0) pl hi ad (-4)) (cwV 1 hts gX5_at_X5_no rfl rfl rfl (by decide +kernel) ⟨Nat.le_of_ble_eq_true rfl, Nat.le_of_ble_eq_true rfl⟩) (cy_preV hK hI (cy_recv hK (hI.1 20 _ cy_CR).1 rfl)) rfl rfl hl.1 rfl (lv_room (Nat.le_of_ble_eq_true rfl)) dX5_at_35 ⟨Nat.le_of_ble_eq_true rfl, Nat.le_of_ble_eq_true rfl⟩) hS (fun u H locs hI hz hS => ?_)
      have hI : cy_W D z (cy_CT cI cJ cO n na σ (cy_no (cy_i τ 0 2 0) (-4)) pl hi ad) ad H := hI
      refine W.eq (g2 := F0 m 38 ls [.int (-4)]) rfl ?_
      have E : cy_oAt nt τ (nI kx) i = ((-4), cy_no (cy_i τ 0 2 0) (-4)) := by simp [cy_oAt, cy_z, nI_clamp (show kx < 2 ^ 31 by omega), b1, b4]
      rw [E]
      exact W.iret (v := (-4)) hx hb hr (fun t ht hW => ⟨(), rfl, by rw [ht]; exact hI, hS.F ht⟩) hS.2.2 dX5_at_38
    · refine lv_if_ne (tgt := 39) hx hb dX5_at_29 (by decide) (fun h6 => ?_) (fun h6 => absurd h6 (by decide))
      refine lv_aload_n hx hb dX5_at_39 rfl (lv_at hl 0 rfl) ?_
      refine lv_iload_n hx hb dX5_at_40 rfl (lv_at hl 1 rfl) ?_
      refine lv_iload_n hx hb dX5_at_41 rfl (lv_at hl 2 rfl) ?_
      refine cy_callp (v := .int (cy_b (cy_pl (τ.1 2 kx) i))) (va_runV (As := [.int (nI kx), .int i]) (rest := []) ⟨hx, hb, hml, hown, hts⟩ (c_X5_isPlace l D cI cJ cO z n na σ (cy_i τ 0 2 0) pl hi ad kx (by omega) i) (cwV 2 hts gX5_at_X5_isPlace rfl rfl rfl (by decide +kernel) ⟨Nat.le_of_ble_eq_true rfl, Nat.le_of_ble_eq_true rfl⟩) (cy_preV hK hI (cy_recv hK (hI.1 20 _ cy_CR).1 rfl)) rfl rfl hl.1 rfl (lv_room (Nat.le_of_ble_eq_true rfl)) dX5_at_42 ⟨Nat.le_of_ble_eq_true rfl, Nat.le_of_ble_eq_true rfl⟩) ?_
      cases b7 : (cy_pl (τ.1 2 kx) i)
      · refine lv_if_eq (tgt := 62) hx hb dX5_at_45 (by decide) (fun h8 => ?_) (fun h8 => absurd (by decide) h8)
        refine lv_aload_n hx hb dX5_at_62 rfl (lv_at hl 0 rfl) ?_
        refine lv_bipush (v := -5) hx hb dX5_at_63 (by decide) ?_
        refine cy_callm (va_runV (As := [.int (-5)]) (rest := []) ⟨hx, hb, hml, hown, hts⟩ (c_X5_no l D cI cJ cO z n na σ (cy_i τ 0 2 0) pl hi ad (-5)) (cwV 1 hts gX5_at_X5_no rfl rfl rfl (by decide +kernel) ⟨Nat.le_of_ble_eq_true rfl, Nat.le_of_ble_eq_true rfl⟩) (cy_preV hK hI (cy_recv hK (hI.1 20 _ cy_CR).1 rfl)) rfl rfl hl.1 rfl (lv_room (Nat.le_of_ble_eq_true rfl)) dX5_at_65 ⟨Nat.le_of_ble_eq_true rfl, Nat.le_of_ble_eq_true rfl⟩) hS (fun u H locs hI hz hS => ?_)
        have hI : cy_W D z (cy_CT cI cJ cO n na σ (cy_no (cy_i τ 0 2 0) (-5)) pl hi ad) ad H := hI
        refine W.eq (g2 := F0 m 68 ls [.int (-5)]) rfl ?_
        have E : cy_oAt nt τ (nI kx) i = ((-5), cy_no (cy_i τ 0 2 0) (-5)) := by simp [cy_oAt, cy_z, nI_clamp (show kx < 2 ^ 31 by omega), b1, b4, b7]
        rw [E]
        exact W.iret (v := (-5)) hx hb hr (fun t ht hW => ⟨(), rfl, by rw [ht]; exact hI, hS.F ht⟩) hS.2.2 dX5_at_68
      · obtain ⟨pi, hpi, epi⟩ := (hok.2.2.1 kx hkx).2.1
        obtain ⟨ji, hji, rfl⟩ := (cy_pl_iff (p := pi) (by omega) _).mp (by rw [← epi]; exact b7)
        refine lv_if_eq (tgt := 62) hx hb dX5_at_45 (by decide) (fun h9 => absurd h9 (by decide)) (fun h9 => ?_)
        refine lv_aload_n hx hb dX5_at_48 rfl (lv_at hl 0 rfl) ?_
        refine cy_getT (v := .ref (ad 25)) hx hb hts hin5 hown hK hI 5 (by decide) (hts (.fieldLink RX5 23 "CustomsYardModel" "things" "[I") (by decide +kernel)) rfl dX5_at_49 ?_
        refine lv_bipush (v := 6) hx hb dX5_at_52 (by decide) ?_
        refine lv_iload_n hx hb dX5_at_54 rfl (lv_at hl 1 rfl) ?_
        refine lv_imul hx hb dX5_at_55 ?_
        refine lv_iload_n hx hb dX5_at_56 rfl (lv_at hl 2 rfl) ?_
        refine lv_iadd hx hb dX5_at_57 ?_
        refine cy_topi (y := nI (6 * kx + ji)) (cy_ix kx ji) ?_
        refine cy_iald (f := τ.1 4) (k := (6 * kx + ji)) hx hb hK.1 hI 0 (x := 25) rfl rfl (by omega) (by decide) dX5_at_58 ?_
        refine lv_goto (tgt := 68) hx hb dX5_at_59 (by decide) ?_
        have E : cy_oAt nt τ (nI kx) (nI ji) = (τ.1 4 (6 * kx + ji), cy_i τ 0 2 0) := by simp [cy_oAt, cy_z, nI_clamp (show kx < 2 ^ 31 by omega), nI_clamp (show ji < 2 ^ 31 by omega), b1, b4, b7]
        rw [E]
        exact W.iret (v := τ.1 4 (6 * kx + ji)) hx hb hr (fun t ht hW => ⟨(), rfl, by rw [ht]; exact hI, hS.F ht⟩) hS.2.2 dX5_at_68

set_option maxHeartbeats 4000000 in
set_option maxRecDepth 100000 in
theorem c_X5_is (l : Launch) (D : va_G) (cI cJ cO : ClassId) (z n na : Nat) (σ τ : cy_S) (pl : Nat → Int32) (hi : Int32) (ad : Nat → Nat) (nt : Nat) (hok : cy_ok nt τ) (x v : Int32)  : Met l yX5_is wsX5_is { frames := 2, cells := 0, slots := 0, locals := 43 } (cy_P D cI cJ cO (fun H => cy_W D z (cy_CT cI cJ cO n na σ τ pl hi ad) ad H) [.ref (ad 20), .int x, .int v]) (cy_M (S := Unit) z (fun _ => some (.int (cy_oIs nt τ x v).1)) (fun _ H => cy_W D z (cy_CT cI cJ cO n na σ (cy_oIs nt τ x v).2 pl hi ad) ad H)) 0 0 (fun q => z ≤ q) := by
  refine Met.ofW (cc := cX5_is) (maxL := 3) (ret := (some .int)) (by decide) rfl ?_
  intro p e s m args below meth c s₁ B hml hv
  obtain ⟨rfl, hK, hI⟩ := hv
  have hx := B.exec
  have hb := B.bytes
  have hr := B.returns
  have hts := atoms_spec (ws := wsX5_is) B.pre
  have hown : s.vm.findClass RX5 = some m.cls := findClass_of_methodNamed B.named
  have hlocks := B.notSynchronized
  have hS : va_S (fun q => z ≤ q) s.heap s.heap [] := va_S.rf
  have hl := lv_entry ([.ref (ad 20), .int x, .int v]) (n := 3) (Nat.le_of_ble_eq_true rfl)
  rw [lg_entry_eq]
  generalize (lg_sl ([.ref (ad 20), .int x, .int v]) ++ List.replicate (3 - (lg_sl ([.ref (ad 20), .int x, .int v])).length) Slot.unset).toArray = ls at hl ⊢
  have hl : lv_has ls 3 [(0, .ref (ad 20)), (1, .int x), (2, .int v)] := hl
  have hin5 := hin5_X5_is
  have h0 := hok.2.1
  have hn := hok.1
  refine lv_aload_n hx hb dX5_is_0 rfl (lv_at hl 0 rfl) ?_
  refine lv_iconst (v := 0) hx hb dX5_is_1 (by decide) ?_
  refine cy_putT (v := 0) hx hb hts hin5 hown hK hI hS 12 2 (by decide) (hts (.fieldLink RX5 52 "CustomsYardModel" "refused" "I") (by decide +kernel)) rfl (by decide +kernel) rfl dX5_is_2 (fun H locs hI hS => ?_)
  refine lv_aload_n hx hb dX5_is_5 rfl (lv_at hl 0 rfl) ?_
  refine lv_iload_n hx hb dX5_is_6 rfl (lv_at hl 1 rfl) ?_
  refine cy_callp (v := .int (cy_b (cy_ld nt x))) (va_runV (As := [.int x]) (rest := []) ⟨hx, hb, hml, hown, hts⟩ (c_X5_isLoad l D cI cJ cO z n na σ (cy_i τ 0 2 0) pl hi ad nt h0 x) (cwV 1 hts gX5_is_X5_isLoad rfl rfl rfl (by decide +kernel) ⟨Nat.le_of_ble_eq_true rfl, Nat.le_of_ble_eq_true rfl⟩) (cy_preV hK hI (cy_recv hK (hI.1 20 _ cy_CR).1 rfl)) rfl rfl hl.1 rfl (lv_room (Nat.le_of_ble_eq_true rfl)) dX5_is_7 ⟨Nat.le_of_ble_eq_true rfl, Nat.le_of_ble_eq_true rfl⟩) ?_
  cases b1 : (cy_ld nt x)
  · refine lv_if_eq (tgt := 20) hx hb dX5_is_10 (by decide) (fun h2 => ?_) (fun h2 => absurd (by decide) h2)
    refine lv_aload_n hx hb dX5_is_20 rfl (lv_at hl 0 rfl) ?_
    refine lv_bipush (v := -2) hx hb dX5_is_21 (by decide) ?_
    refine cy_callm (va_runV (As := [.int (-2)]) (rest := []) ⟨hx, hb, hml, hown, hts⟩ (c_X5_no l D cI cJ cO z n na σ (cy_i τ 0 2 0) pl hi ad (-2)) (cwV 1 hts gX5_is_X5_no rfl rfl rfl (by decide +kernel) ⟨Nat.le_of_ble_eq_true rfl, Nat.le_of_ble_eq_true rfl⟩) (cy_preV hK hI (cy_recv hK (hI.1 20 _ cy_CR).1 rfl)) rfl rfl hl.1 rfl (lv_room (Nat.le_of_ble_eq_true rfl)) dX5_is_23 ⟨Nat.le_of_ble_eq_true rfl, Nat.le_of_ble_eq_true rfl⟩) hS (fun u H locs hI hz hS => ?_)
    have hI : cy_W D z (cy_CT cI cJ cO n na σ (cy_no (cy_i τ 0 2 0) (-2)) pl hi ad) ad H := hI
    refine W.eq (g2 := F0 m 26 ls [.int (-2)]) rfl ?_
    have E : cy_oIs nt τ x v = ((-2), cy_no (cy_i τ 0 2 0) (-2)) := by simp [cy_oIs, cy_z, cy_b, b1]
    rw [E]
    exact W.iret (v := (-2)) hx hb hr (fun t ht hW => ⟨(), rfl, by rw [ht]; exact hI, hS.F ht⟩) hS.2.2 dX5_is_26
  · obtain ⟨kx, hkx, rfl⟩ := (cy_ld_iff hn _).mp b1
    refine lv_if_eq (tgt := 20) hx hb dX5_is_10 (by decide) (fun h3 => absurd h3 (by decide)) (fun h3 => ?_)
    refine lv_iload_n hx hb dX5_is_13 rfl (lv_at hl 2 rfl) ?_
    refine cy_callp (v := .int (cy_b (cy_vw v))) (va_runS (As := [.int v]) (rest := []) ⟨hx, hb, hml, hown, hts⟩ (c_X5_isView l v) (va_cwS 1 hts gX5_is_X5_isView rfl rfl rfl (by decide +kernel) ⟨Nat.le_of_ble_eq_true rfl, Nat.le_of_ble_eq_true rfl⟩) preEq rfl rfl hl.1 rfl (lv_room (Nat.le_of_ble_eq_true rfl)) dX5_is_14 ⟨Nat.le_of_ble_eq_true rfl, Nat.le_of_ble_eq_true rfl⟩) ?_
    cases b4 : (cy_vw v)
    · refine lv_if_ne (tgt := 27) hx hb dX5_is_17 (by decide) (fun h5 => absurd (by decide) h5) (fun h5 => ?_)
      refine lv_aload_n hx hb dX5_is_20 rfl (lv_at hl 0 rfl) ?_
      refine lv_bipush (v := -2) hx hb dX5_is_21 (by decide) ?_
      refine cy_callm (va_runV (As := [.int (-2)]) (rest := []) ⟨hx, hb, hml, hown, hts⟩ (c_X5_no l D cI cJ cO z n na σ (cy_i τ 0 2 0) pl hi ad (-2)) (cwV 1 hts gX5_is_X5_no rfl rfl rfl (by decide +kernel) ⟨Nat.le_of_ble_eq_true rfl, Nat.le_of_ble_eq_true rfl⟩) (cy_preV hK hI (cy_recv hK (hI.1 20 _ cy_CR).1 rfl)) rfl rfl hl.1 rfl (lv_room (Nat.le_of_ble_eq_true rfl)) dX5_is_23 ⟨Nat.le_of_ble_eq_true rfl, Nat.le_of_ble_eq_true rfl⟩) hS (fun u H locs hI hz hS => ?_)
      have hI : cy_W D z (cy_CT cI cJ cO n na σ (cy_no (cy_i τ 0 2 0) (-2)) pl hi ad) ad H := hI
      refine W.eq (g2 := F0 m 26 ls [.int (-2)]) rfl ?_
      have E : cy_oIs nt τ (nI kx) v = ((-2), cy_no (cy_i τ 0 2 0) (-2)) := by simp [cy_oIs, cy_z, cy_b, nI_clamp (show kx < 2 ^ 31 by omega), b1, b4]
      rw [E]
      exact W.iret (v := (-2)) hx hb hr (fun t ht hW => ⟨(), rfl, by rw [ht]; exact hI, hS.F ht⟩) hS.2.2 dX5_is_26
    · refine lv_if_ne (tgt := 27) hx hb dX5_is_17 (by decide) (fun h6 => ?_) (fun h6 => absurd h6 (by decide))
      refine lv_aload_n hx hb dX5_is_27 rfl (lv_at hl 0 rfl) ?_
      refine cy_getT (v := .ref (ad 21)) hx hb hts hin5 hown hK hI 1 (by decide) (hts (.fieldLink RX5 7 "CustomsYardModel" "sorts" "[I") (by decide +kernel)) rfl dX5_is_28 ?_
      refine lv_iload_n hx hb dX5_is_31 rfl (lv_at hl 1 rfl) ?_
      refine cy_iald (f := τ.1 1) (k := kx) hx hb hK.1 hI 0 (x := 21) rfl rfl (by omega) (by decide) dX5_is_32 ?_
      refine lv_iload_n hx hb dX5_is_33 rfl (lv_at hl 2 rfl) ?_
      refine cy_callp (v := .int (cy_b (cy_go (τ.1 1 kx) v))) (va_runS (As := [.int (τ.1 1 kx), .int v]) (rest := []) ⟨hx, hb, hml, hown, hts⟩ (c_X5_goes l (τ.1 1 kx) v) (va_cwS 2 hts gX5_is_X5_goes rfl rfl rfl (by decide +kernel) ⟨Nat.le_of_ble_eq_true rfl, Nat.le_of_ble_eq_true rfl⟩) preEq rfl rfl hl.1 rfl (lv_room (Nat.le_of_ble_eq_true rfl)) dX5_is_34 ⟨Nat.le_of_ble_eq_true rfl, Nat.le_of_ble_eq_true rfl⟩) ?_
      cases b7 : (cy_go (τ.1 1 kx) v)
      · refine lv_if_eq (tgt := 44) hx hb dX5_is_37 (by decide) (fun h8 => ?_) (fun h8 => absurd (by decide) h8)
        refine lv_iconst (v := 0) hx hb dX5_is_44 (by decide) ?_
        have E : cy_oIs nt τ (nI kx) v = (0, cy_i τ 0 2 0) := by simp [cy_oIs, cy_z, cy_b, nI_clamp (show kx < 2 ^ 31 by omega), b1, b4, b7]
        rw [E]
        exact W.iret (v := 0) hx hb hr (fun t ht hW => ⟨(), rfl, by rw [ht]; exact hI, hS.F ht⟩) hS.2.2 dX5_is_45
      · refine lv_if_eq (tgt := 44) hx hb dX5_is_37 (by decide) (fun h9 => absurd h9 (by decide)) (fun h9 => ?_)
        refine lv_iconst (v := 1) hx hb dX5_is_40 (by decide) ?_
        refine lv_goto (tgt := 45) hx hb dX5_is_41 (by decide) ?_
        have E : cy_oIs nt τ (nI kx) v = (1, cy_i τ 0 2 0) := by simp [cy_oIs, cy_z, cy_b, nI_clamp (show kx < 2 ^ 31 by omega), b1, b4, b7]
        rw [E]
        exact W.iret (v := 1) hx hb hr (fun t ht hW => ⟨(), rfl, by rw [ht]; exact hI, hS.F ht⟩) hS.2.2 dX5_is_45

set_option maxHeartbeats 4000000 in
set_option maxRecDepth 100000 in
theorem c_X5_take (l : Launch) (D : va_G) (cI cJ cO : ClassId) (z n na : Nat) (σ τ : cy_S) (pl : Nat → Int32) (hi : Int32) (ad : Nat → Nat) (nt : Nat) (hok : cy_ok nt τ) (x v : Int32)  : Met l yX5_take wsX5_take { frames := 3, cells := 0, slots := 0, locals := 64 } (cy_P D cI cJ cO (fun H => cy_W D z (cy_CT cI cJ cO n na σ τ pl hi ad) ad H) [.ref (ad 20), .int x, .int v]) (cy_M (S := Unit) z (fun _ => some (.int (cy_oTake nt τ x v).1)) (fun _ H => cy_W D z (cy_CT cI cJ cO n na σ (cy_oTake nt τ x v).2 pl hi ad) ad H)) 0 0 (fun q => z ≤ q) := by
  refine Met.ofW (cc := cX5_take) (maxL := 3) (ret := (some .int)) (by decide) rfl ?_
  intro p e s m args below meth c s₁ B hml hv
  obtain ⟨rfl, hK, hI⟩ := hv
  have hx := B.exec
  have hb := B.bytes
  have hr := B.returns
  have hts := atoms_spec (ws := wsX5_take) B.pre
  have hown : s.vm.findClass RX5 = some m.cls := findClass_of_methodNamed B.named
  have hlocks := B.notSynchronized
  have hS : va_S (fun q => z ≤ q) s.heap s.heap [] := va_S.rf
  have hl := lv_entry ([.ref (ad 20), .int x, .int v]) (n := 3) (Nat.le_of_ble_eq_true rfl)
  rw [lg_entry_eq]
  generalize (lg_sl ([.ref (ad 20), .int x, .int v]) ++ List.replicate (3 - (lg_sl ([.ref (ad 20), .int x, .int v])).length) Slot.unset).toArray = ls at hl ⊢
  have hl : lv_has ls 3 [(0, .ref (ad 20)), (1, .int x), (2, .int v)] := hl
  have hin5 := hin5_X5_take
  have h0 := hok.2.1
  have hn := hok.1
  refine lv_aload_n hx hb dX5_take_0 rfl (lv_at hl 0 rfl) ?_
  refine lv_iconst (v := 0) hx hb dX5_take_1 (by decide) ?_
  refine cy_putT (v := 0) hx hb hts hin5 hown hK hI hS 12 2 (by decide) (hts (.fieldLink RX5 52 "CustomsYardModel" "refused" "I") (by decide +kernel)) rfl (by decide +kernel) rfl dX5_take_2 (fun H locs hI hS => ?_)
  refine lv_aload_n hx hb dX5_take_5 rfl (lv_at hl 0 rfl) ?_
  refine lv_iload_n hx hb dX5_take_6 rfl (lv_at hl 1 rfl) ?_
  refine cy_callp (v := .int (cy_b (cy_ld nt x))) (va_runV (As := [.int x]) (rest := []) ⟨hx, hb, hml, hown, hts⟩ (c_X5_isLoad l D cI cJ cO z n na σ (cy_i τ 0 2 0) pl hi ad nt h0 x) (cwV 1 hts gX5_take_X5_isLoad rfl rfl rfl (by decide +kernel) ⟨Nat.le_of_ble_eq_true rfl, Nat.le_of_ble_eq_true rfl⟩) (cy_preV hK hI (cy_recv hK (hI.1 20 _ cy_CR).1 rfl)) rfl rfl hl.1 rfl (lv_room (Nat.le_of_ble_eq_true rfl)) dX5_take_7 ⟨Nat.le_of_ble_eq_true rfl, Nat.le_of_ble_eq_true rfl⟩) ?_
  cases b1 : (cy_ld nt x)
  · refine lv_if_eq (tgt := 20) hx hb dX5_take_10 (by decide) (fun h2 => ?_) (fun h2 => absurd (by decide) h2)
    refine lv_aload_n hx hb dX5_take_20 rfl (lv_at hl 0 rfl) ?_
    refine lv_bipush (v := -2) hx hb dX5_take_21 (by decide) ?_
    refine cy_callm (va_runV (As := [.int (-2)]) (rest := []) ⟨hx, hb, hml, hown, hts⟩ (c_X5_no l D cI cJ cO z n na σ (cy_i τ 0 2 0) pl hi ad (-2)) (cwV 1 hts gX5_take_X5_no rfl rfl rfl (by decide +kernel) ⟨Nat.le_of_ble_eq_true rfl, Nat.le_of_ble_eq_true rfl⟩) (cy_preV hK hI (cy_recv hK (hI.1 20 _ cy_CR).1 rfl)) rfl rfl hl.1 rfl (lv_room (Nat.le_of_ble_eq_true rfl)) dX5_take_23 ⟨Nat.le_of_ble_eq_true rfl, Nat.le_of_ble_eq_true rfl⟩) hS (fun u H locs hI hz hS => ?_)
    have hI : cy_W D z (cy_CT cI cJ cO n na σ (cy_no (cy_i τ 0 2 0) (-2)) pl hi ad) ad H := hI
    refine W.eq (g2 := F0 m 26 ls [.int (-2)]) rfl ?_
    have E : cy_oTake nt τ x v = ((-2), cy_no (cy_i τ 0 2 0) (-2)) := by simp [cy_oTake, cy_z, cy_co_z, b1]
    rw [E]
    exact W.iret (v := (-2)) hx hb hr (fun t ht hW => ⟨(), rfl, by rw [ht]; exact hI, hS.F ht⟩) hS.2.2 dX5_take_26
  · obtain ⟨kx, hkx, rfl⟩ := (cy_ld_iff hn _).mp b1
    refine lv_if_eq (tgt := 20) hx hb dX5_take_10 (by decide) (fun h3 => absurd h3 (by decide)) (fun h3 => ?_)
    refine lv_iload_n hx hb dX5_take_13 rfl (lv_at hl 2 rfl) ?_
    refine cy_callp (v := .int (cy_b (cy_vw v))) (va_runS (As := [.int v]) (rest := []) ⟨hx, hb, hml, hown, hts⟩ (c_X5_isView l v) (va_cwS 1 hts gX5_take_X5_isView rfl rfl rfl (by decide +kernel) ⟨Nat.le_of_ble_eq_true rfl, Nat.le_of_ble_eq_true rfl⟩) preEq rfl rfl hl.1 rfl (lv_room (Nat.le_of_ble_eq_true rfl)) dX5_take_14 ⟨Nat.le_of_ble_eq_true rfl, Nat.le_of_ble_eq_true rfl⟩) ?_
    cases b4 : (cy_vw v)
    · refine lv_if_ne (tgt := 27) hx hb dX5_take_17 (by decide) (fun h5 => absurd (by decide) h5) (fun h5 => ?_)
      refine lv_aload_n hx hb dX5_take_20 rfl (lv_at hl 0 rfl) ?_
      refine lv_bipush (v := -2) hx hb dX5_take_21 (by decide) ?_
      refine cy_callm (va_runV (As := [.int (-2)]) (rest := []) ⟨hx, hb, hml, hown, hts⟩ (c_X5_no l D cI cJ cO z n na σ (cy_i τ 0 2 0) pl hi ad (-2)) (cwV 1 hts gX5_take_X5_no rfl rfl rfl (by decide +kernel) ⟨Nat.le_of_ble_eq_true rfl, Nat.le_of_ble_eq_true rfl⟩) (cy_preV hK hI (cy_recv hK (hI.1 20 _ cy_CR).1 rfl)) rfl rfl hl.1 rfl (lv_room (Nat.le_of_ble_eq_true rfl)) dX5_take_23 ⟨Nat.le_of_ble_eq_true rfl, Nat.le_of_ble_eq_true rfl⟩) hS (fun u H locs hI hz hS => ?_)
      have hI : cy_W D z (cy_CT cI cJ cO n na σ (cy_no (cy_i τ 0 2 0) (-2)) pl hi ad) ad H := hI
      refine W.eq (g2 := F0 m 26 ls [.int (-2)]) rfl ?_
      have E : cy_oTake nt τ (nI kx) v = ((-2), cy_no (cy_i τ 0 2 0) (-2)) := by simp [cy_oTake, cy_z, cy_co_z, nI_clamp (show kx < 2 ^ 31 by omega), b1, b4]
      rw [E]
      exact W.iret (v := (-2)) hx hb hr (fun t ht hW => ⟨(), rfl, by rw [ht]; exact hI, hS.F ht⟩) hS.2.2 dX5_take_26
    · refine lv_if_ne (tgt := 27) hx hb dX5_take_17 (by decide) (fun h6 => ?_) (fun h6 => absurd h6 (by decide))
      refine lv_aload_n hx hb dX5_take_27 rfl (lv_at hl 0 rfl) ?_
      refine cy_getT (v := .ref (ad 21)) hx hb hts hin5 hown hK hI 1 (by decide) (hts (.fieldLink RX5 7 "CustomsYardModel" "sorts" "[I") (by decide +kernel)) rfl dX5_take_28 ?_
      refine lv_iload_n hx hb dX5_take_31 rfl (lv_at hl 1 rfl) ?_
      refine cy_iald (f := τ.1 1) (k := kx) hx hb hK.1 hI 0 (x := 21) rfl rfl (by omega) (by decide) dX5_take_32 ?_
      refine lv_iload_n hx hb dX5_take_33 rfl (lv_at hl 2 rfl) ?_
      refine cy_callp (v := .int (cy_b (cy_go (τ.1 1 kx) v))) (va_runS (As := [.int (τ.1 1 kx), .int v]) (rest := []) ⟨hx, hb, hml, hown, hts⟩ (c_X5_goes l (τ.1 1 kx) v) (va_cwS 2 hts gX5_take_X5_goes rfl rfl rfl (by decide +kernel) ⟨Nat.le_of_ble_eq_true rfl, Nat.le_of_ble_eq_true rfl⟩) preEq rfl rfl hl.1 rfl (lv_room (Nat.le_of_ble_eq_true rfl)) dX5_take_34 ⟨Nat.le_of_ble_eq_true rfl, Nat.le_of_ble_eq_true rfl⟩) ?_
      cases b7 : (cy_go (τ.1 1 kx) v)
      · refine lv_if_eq (tgt := 49) hx hb dX5_take_37 (by decide) (fun h8 => ?_) (fun h8 => absurd (by decide) h8)
        refine lv_aload_n hx hb dX5_take_49 rfl (lv_at hl 0 rfl) ?_
        refine lv_bipush (v := -4) hx hb dX5_take_50 (by decide) ?_
        refine cy_callm (va_runV (As := [.int (-4)]) (rest := []) ⟨hx, hb, hml, hown, hts⟩ (c_X5_no l D cI cJ cO z n na σ (cy_i τ 0 2 0) pl hi ad (-4)) (cwV 1 hts gX5_take_X5_no rfl rfl rfl (by decide +kernel) ⟨Nat.le_of_ble_eq_true rfl, Nat.le_of_ble_eq_true rfl⟩) (cy_preV hK hI (cy_recv hK (hI.1 20 _ cy_CR).1 rfl)) rfl rfl hl.1 rfl (lv_room (Nat.le_of_ble_eq_true rfl)) dX5_take_52 ⟨Nat.le_of_ble_eq_true rfl, Nat.le_of_ble_eq_true rfl⟩) hS (fun u H locs hI hz hS => ?_)
        have hI : cy_W D z (cy_CT cI cJ cO n na σ (cy_no (cy_i τ 0 2 0) (-4)) pl hi ad) ad H := hI
        refine W.eq (g2 := F0 m 55 ls [.int (-4)]) rfl ?_
        have E : cy_oTake nt τ (nI kx) v = ((-4), cy_no (cy_i τ 0 2 0) (-4)) := by simp [cy_oTake, cy_z, cy_co_z, nI_clamp (show kx < 2 ^ 31 by omega), b1, b4, b7]
        rw [E]
        exact W.iret (v := (-4)) hx hb hr (fun t ht hW => ⟨(), rfl, by rw [ht]; exact hI, hS.F ht⟩) hS.2.2 dX5_take_55
      · refine lv_if_eq (tgt := 49) hx hb dX5_take_37 (by decide) (fun h9 => absurd h9 (by decide)) (fun h9 => ?_)
        refine lv_aload_n hx hb dX5_take_40 rfl (lv_at hl 0 rfl) ?_
        refine lv_iload_n hx hb dX5_take_41 rfl (lv_at hl 1 rfl) ?_
        refine lv_iload_n hx hb dX5_take_42 rfl (lv_at hl 2 rfl) ?_
        refine cy_callp (v := .int (cy_co (cy_i τ 0 2 0) kx v)) (va_runV (As := [.int (nI kx), .int v]) (rest := []) ⟨hx, hb, hml, hown, hts⟩ (c_X5_comes l D cI cJ cO z n na σ (cy_i τ 0 2 0) pl hi ad kx (by omega) v) (cwV 2 hts gX5_take_X5_comes rfl rfl rfl (by decide +kernel) ⟨Nat.le_of_ble_eq_true rfl, Nat.le_of_ble_eq_true rfl⟩) (cy_preV hK hI (cy_recv hK (hI.1 20 _ cy_CR).1 rfl)) rfl rfl hl.1 rfl (lv_room (Nat.le_of_ble_eq_true rfl)) dX5_take_43 ⟨Nat.le_of_ble_eq_true rfl, Nat.le_of_ble_eq_true rfl⟩) ?_
        refine lv_goto (tgt := 55) hx hb dX5_take_46 (by decide) ?_
        have E : cy_oTake nt τ (nI kx) v = (cy_co (cy_i τ 0 2 0) kx v, cy_i τ 0 2 0) := by simp [cy_oTake, cy_z, cy_co_z, nI_clamp (show kx < 2 ^ 31 by omega), b1, b4, b7]
        rw [E]
        exact W.iret (v := cy_co (cy_i τ 0 2 0) kx v) hx hb hr (fun t ht hW => ⟨(), rfl, by rw [ht]; exact hI, hS.F ht⟩) hS.2.2 dX5_take_55

set_option maxHeartbeats 4000000 in
set_option maxRecDepth 100000 in
theorem c_X5_sort (l : Launch) (D : va_G) (cI cJ cO : ClassId) (z n na : Nat) (σ τ : cy_S) (pl : Nat → Int32) (hi : Int32) (ad : Nat → Nat) (nt : Nat) (hok : cy_ok nt τ) (x : Int32)  : Met l yX5_sort wsX5_sort { frames := 2, cells := 0, slots := 0, locals := 43 } (cy_P D cI cJ cO (fun H => cy_W D z (cy_CT cI cJ cO n na σ τ pl hi ad) ad H) [.ref (ad 20), .int x]) (cy_M (S := Unit) z (fun _ => some (.int (cy_oSort nt τ x).1)) (fun _ H => cy_W D z (cy_CT cI cJ cO n na σ (cy_oSort nt τ x).2 pl hi ad) ad H)) 0 0 (fun q => z ≤ q) := by
  refine Met.ofW (cc := cX5_sort) (maxL := 2) (ret := (some .int)) (by decide) rfl ?_
  intro p e s m args below meth c s₁ B hml hv
  obtain ⟨rfl, hK, hI⟩ := hv
  have hx := B.exec
  have hb := B.bytes
  have hr := B.returns
  have hts := atoms_spec (ws := wsX5_sort) B.pre
  have hown : s.vm.findClass RX5 = some m.cls := findClass_of_methodNamed B.named
  have hlocks := B.notSynchronized
  have hS : va_S (fun q => z ≤ q) s.heap s.heap [] := va_S.rf
  have hl := lv_entry ([.ref (ad 20), .int x]) (n := 2) (Nat.le_of_ble_eq_true rfl)
  rw [lg_entry_eq]
  generalize (lg_sl ([.ref (ad 20), .int x]) ++ List.replicate (2 - (lg_sl ([.ref (ad 20), .int x])).length) Slot.unset).toArray = ls at hl ⊢
  have hl : lv_has ls 2 [(0, .ref (ad 20)), (1, .int x)] := hl
  have hin5 := hin5_X5_sort
  have h0 := hok.2.1
  have hn := hok.1
  refine lv_aload_n hx hb dX5_sort_0 rfl (lv_at hl 0 rfl) ?_
  refine lv_iconst (v := 0) hx hb dX5_sort_1 (by decide) ?_
  refine cy_putT (v := 0) hx hb hts hin5 hown hK hI hS 12 2 (by decide) (hts (.fieldLink RX5 52 "CustomsYardModel" "refused" "I") (by decide +kernel)) rfl (by decide +kernel) rfl dX5_sort_2 (fun H locs hI hS => ?_)
  refine lv_aload_n hx hb dX5_sort_5 rfl (lv_at hl 0 rfl) ?_
  refine lv_iload_n hx hb dX5_sort_6 rfl (lv_at hl 1 rfl) ?_
  refine cy_callp (v := .int (cy_b (cy_ld nt x))) (va_runV (As := [.int x]) (rest := []) ⟨hx, hb, hml, hown, hts⟩ (c_X5_isLoad l D cI cJ cO z n na σ (cy_i τ 0 2 0) pl hi ad nt h0 x) (cwV 1 hts gX5_sort_X5_isLoad rfl rfl rfl (by decide +kernel) ⟨Nat.le_of_ble_eq_true rfl, Nat.le_of_ble_eq_true rfl⟩) (cy_preV hK hI (cy_recv hK (hI.1 20 _ cy_CR).1 rfl)) rfl rfl hl.1 rfl (lv_room (Nat.le_of_ble_eq_true rfl)) dX5_sort_7 ⟨Nat.le_of_ble_eq_true rfl, Nat.le_of_ble_eq_true rfl⟩) ?_
  cases b1 : (cy_ld nt x)
  · refine lv_if_eq (tgt := 22) hx hb dX5_sort_10 (by decide) (fun h2 => ?_) (fun h2 => absurd (by decide) h2)
    refine lv_aload_n hx hb dX5_sort_22 rfl (lv_at hl 0 rfl) ?_
    refine lv_bipush (v := -2) hx hb dX5_sort_23 (by decide) ?_
    refine cy_callm (va_runV (As := [.int (-2)]) (rest := []) ⟨hx, hb, hml, hown, hts⟩ (c_X5_no l D cI cJ cO z n na σ (cy_i τ 0 2 0) pl hi ad (-2)) (cwV 1 hts gX5_sort_X5_no rfl rfl rfl (by decide +kernel) ⟨Nat.le_of_ble_eq_true rfl, Nat.le_of_ble_eq_true rfl⟩) (cy_preV hK hI (cy_recv hK (hI.1 20 _ cy_CR).1 rfl)) rfl rfl hl.1 rfl (lv_room (Nat.le_of_ble_eq_true rfl)) dX5_sort_25 ⟨Nat.le_of_ble_eq_true rfl, Nat.le_of_ble_eq_true rfl⟩) hS (fun u H locs hI hz hS => ?_)
    have hI : cy_W D z (cy_CT cI cJ cO n na σ (cy_no (cy_i τ 0 2 0) (-2)) pl hi ad) ad H := hI
    refine W.eq (g2 := F0 m 28 ls [.int (-2)]) rfl ?_
    have E : cy_oSort nt τ x = ((-2), cy_no (cy_i τ 0 2 0) (-2)) := by simp [cy_oSort, cy_z, b1]
    rw [E]
    exact W.iret (v := (-2)) hx hb hr (fun t ht hW => ⟨(), rfl, by rw [ht]; exact hI, hS.F ht⟩) hS.2.2 dX5_sort_28
  · obtain ⟨kx, hkx, rfl⟩ := (cy_ld_iff hn _).mp b1
    refine lv_if_eq (tgt := 22) hx hb dX5_sort_10 (by decide) (fun h3 => absurd h3 (by decide)) (fun h3 => ?_)
    refine lv_aload_n hx hb dX5_sort_13 rfl (lv_at hl 0 rfl) ?_
    refine cy_getT (v := .ref (ad 21)) hx hb hts hin5 hown hK hI 1 (by decide) (hts (.fieldLink RX5 7 "CustomsYardModel" "sorts" "[I") (by decide +kernel)) rfl dX5_sort_14 ?_
    refine lv_iload_n hx hb dX5_sort_17 rfl (lv_at hl 1 rfl) ?_
    refine cy_iald (f := τ.1 1) (k := kx) hx hb hK.1 hI 0 (x := 21) rfl rfl (by omega) (by decide) dX5_sort_18 ?_
    refine lv_goto (tgt := 28) hx hb dX5_sort_19 (by decide) ?_
    have E : cy_oSort nt τ (nI kx) = (τ.1 1 kx, cy_i τ 0 2 0) := by simp [cy_oSort, cy_z, nI_clamp (show kx < 2 ^ 31 by omega), b1]
    rw [E]
    exact W.iret (v := τ.1 1 kx) hx hb hr (fun t ht hW => ⟨(), rfl, by rw [ht]; exact hI, hS.F ht⟩) hS.2.2 dX5_sort_28
