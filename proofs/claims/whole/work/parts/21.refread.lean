theorem hin5_X5_isLoad : ∀ w ∈ u_ws RX5 TX5 19, w ∈ wsX5_isLoad := by decide +kernel
theorem hin5_X5_isPlace : ∀ w ∈ u_ws RX5 TX5 19, w ∈ wsX5_isPlace := by decide +kernel
theorem hin5_X5_no : ∀ w ∈ u_ws RX5 TX5 19, w ∈ wsX5_no := by decide +kernel
theorem hin5_X5_comes : ∀ w ∈ u_ws RX5 TX5 19, w ∈ wsX5_comes := by decide +kernel
theorem hin5_X5_refused : ∀ w ∈ u_ws RX5 TX5 19, w ∈ wsX5_refused := by decide +kernel
theorem hin5_X5_count : ∀ w ∈ u_ws RX5 TX5 19, w ∈ wsX5_count := by decide +kernel
set_option maxHeartbeats 4000000 in
set_option maxRecDepth 100000 in
theorem c_X5_isLoad (l : Launch) (D : va_G) (cI cJ cO : ClassId) (z n na : Nat) (σ τ : cy_S) (pl : Nat → Int32) (hi : Int32) (ad : Nat → Nat) (nt : Nat) (h0 : τ.1 0 0 = nI nt) (v : Int32)  : Met l yX5_isLoad wsX5_isLoad { frames := 1, cells := 0, slots := 0, locals := 22 } (cy_P D cI cJ cO (fun H => cy_W D z (cy_CT cI cJ cO n na σ τ pl hi ad) ad H) [.ref (ad 20), .int v]) (cy_Q (.int (cy_b (cy_ld nt v)))) 0 0 (fun _ => False) := by
  refine Met.ofW (cc := cX5_isLoad) (maxL := 2) (ret := (some .boolean)) (by decide) rfl ?_
  intro p e s m args below meth c s₁ B hml hv
  obtain ⟨rfl, hK, hI⟩ := hv
  have hx := B.exec
  have hb := B.bytes
  have hr := B.returns
  have hts := atoms_spec (ws := wsX5_isLoad) B.pre
  have hown : s.vm.findClass RX5 = some m.cls := findClass_of_methodNamed B.named
  have hlocks := B.notSynchronized
  have hl := lv_entry ([.ref (ad 20), .int v]) (n := 2) (Nat.le_of_ble_eq_true rfl)
  rw [lg_entry_eq]
  generalize (lg_sl ([.ref (ad 20), .int v]) ++ List.replicate (2 - (lg_sl ([.ref (ad 20), .int v])).length) Slot.unset).toArray = ls at hl ⊢
  have hl : lv_has ls 2 [(0, .ref (ad 20)), (1, .int v)] := hl
  have hin5 := hin5_X5_isLoad
  refine lv_iload_n hx hb dX5_isLoad_0 rfl (lv_at hl 1 rfl) ?_
  refine lv_iconst (v := 0) hx hb dX5_isLoad_1 (by decide) ?_
  refine lv_aload_n hx hb dX5_isLoad_2 rfl (lv_at hl 0 rfl) ?_
  refine cy_getT (v := .int (τ.1 0 0)) hx hb hts hin5 hown hK hI 0 (by decide) (hts (.fieldLink RX5 44 "CustomsYardModel" "loads" "I") (by decide +kernel)) rfl dX5_isLoad_3 ?_
  refine lv_iconst (v := 1) hx hb dX5_isLoad_6 (by decide) ?_
  refine lv_isub hx hb dX5_isLoad_7 ?_
  refine cy_callp (v := .int (cy_b (cy_isIn v 0 ((τ.1 0 0) - 1)))) (va_runS (As := [.int v, .int 0, .int ((τ.1 0 0) - 1)]) (rest := []) ⟨hx, hb, hml, hown, hts⟩ (c_X5_isIn l v 0 ((τ.1 0 0) - 1)) (va_cwS 3 hts gX5_isLoad_X5_isIn rfl rfl rfl (by decide +kernel) ⟨Nat.le_of_ble_eq_true rfl, Nat.le_of_ble_eq_true rfl⟩) preEq rfl rfl hl.1 rfl (lv_room (Nat.le_of_ble_eq_true rfl)) dX5_isLoad_8 ⟨Nat.le_of_ble_eq_true rfl, Nat.le_of_ble_eq_true rfl⟩) ?_
  exact W.zret (v := cy_b (cy_isIn v 0 ((τ.1 0 0) - 1))) hx hb hr (cy_nb _) (fun t ht hW => ⟨congrArg (fun q => Outcome.returned (some (Value.int q))) (by unfold cy_ld; rw [← h0]), ht⟩) (fun q h => by cases h) dX5_isLoad_11

set_option maxHeartbeats 4000000 in
set_option maxRecDepth 100000 in
theorem c_X5_isPlace (l : Launch) (D : va_G) (cI cJ cO : ClassId) (z n na : Nat) (σ τ : cy_S) (pl : Nat → Int32) (hi : Int32) (ad : Nat → Nat) (k : Nat) (hk : k < 80) (i : Int32)  : Met l yX5_isPlace wsX5_isPlace { frames := 1, cells := 0, slots := 0, locals := 22 } (cy_P D cI cJ cO (fun H => cy_W D z (cy_CT cI cJ cO n na σ τ pl hi ad) ad H) [.ref (ad 20), .int (nI k), .int i]) (cy_Q (.int (cy_b (cy_pl (τ.1 2 k) i)))) 0 0 (fun _ => False) := by
  refine Met.ofW (cc := cX5_isPlace) (maxL := 3) (ret := (some .boolean)) (by decide) rfl ?_
  intro p e s m args below meth c s₁ B hml hv
  obtain ⟨rfl, hK, hI⟩ := hv
  have hx := B.exec
  have hb := B.bytes
  have hr := B.returns
  have hts := atoms_spec (ws := wsX5_isPlace) B.pre
  have hown : s.vm.findClass RX5 = some m.cls := findClass_of_methodNamed B.named
  have hlocks := B.notSynchronized
  have hl := lv_entry ([.ref (ad 20), .int (nI k), .int i]) (n := 3) (Nat.le_of_ble_eq_true rfl)
  rw [lg_entry_eq]
  generalize (lg_sl ([.ref (ad 20), .int (nI k), .int i]) ++ List.replicate (3 - (lg_sl ([.ref (ad 20), .int (nI k), .int i])).length) Slot.unset).toArray = ls at hl ⊢
  have hl : lv_has ls 3 [(0, .ref (ad 20)), (1, .int (nI k)), (2, .int i)] := hl
  have hin5 := hin5_X5_isPlace
  refine lv_iload_n hx hb dX5_isPlace_0 rfl (lv_at hl 2 rfl) ?_
  refine lv_iconst (v := 0) hx hb dX5_isPlace_1 (by decide) ?_
  refine lv_aload_n hx hb dX5_isPlace_2 rfl (lv_at hl 0 rfl) ?_
  refine cy_getT (v := .ref (ad 22)) hx hb hts hin5 hown hK hI 2 (by decide) (hts (.fieldLink RX5 13 "CustomsYardModel" "sizes" "[I") (by decide +kernel)) rfl dX5_isPlace_3 ?_
  refine lv_iload_n hx hb dX5_isPlace_6 rfl (lv_at hl 1 rfl) ?_
  refine cy_iald (f := τ.1 2) (k := k) hx hb hK.1 hI 0 (x := 22) rfl rfl (by omega) (by decide) dX5_isPlace_7 ?_
  refine lv_iconst (v := 1) hx hb dX5_isPlace_8 (by decide) ?_
  refine lv_isub hx hb dX5_isPlace_9 ?_
  refine cy_callp (v := .int (cy_b (cy_isIn i 0 ((τ.1 2 k) - 1)))) (va_runS (As := [.int i, .int 0, .int ((τ.1 2 k) - 1)]) (rest := []) ⟨hx, hb, hml, hown, hts⟩ (c_X5_isIn l i 0 ((τ.1 2 k) - 1)) (va_cwS 3 hts gX5_isPlace_X5_isIn rfl rfl rfl (by decide +kernel) ⟨Nat.le_of_ble_eq_true rfl, Nat.le_of_ble_eq_true rfl⟩) preEq rfl rfl hl.1 rfl (lv_room (Nat.le_of_ble_eq_true rfl)) dX5_isPlace_10 ⟨Nat.le_of_ble_eq_true rfl, Nat.le_of_ble_eq_true rfl⟩) ?_
  exact W.zret (v := cy_b (cy_isIn i 0 ((τ.1 2 k) - 1))) hx hb hr (cy_nb _) (fun t ht hW => ⟨congrArg (fun q => Outcome.returned (some (Value.int q))) (rfl), ht⟩) (fun q h => by cases h) dX5_isPlace_13

set_option maxHeartbeats 4000000 in
set_option maxRecDepth 100000 in
theorem c_X5_no (l : Launch) (D : va_G) (cI cJ cO : ClassId) (z n na : Nat) (σ τ : cy_S) (pl : Nat → Int32) (hi : Int32) (ad : Nat → Nat) (w : Int32)  : Met l yX5_no wsX5_no { frames := 0, cells := 0, slots := 0, locals := 0 } (cy_P D cI cJ cO (fun H => cy_W D z (cy_CT cI cJ cO n na σ τ pl hi ad) ad H) [.ref (ad 20), .int w]) (cy_M (S := Unit) z (fun _ => some (.int w)) (fun _ H => cy_W D z (cy_CT cI cJ cO n na σ (cy_no τ w) pl hi ad) ad H)) 0 0 (fun q => z ≤ q) := by
  refine Met.ofW (cc := cX5_no) (maxL := 2) (ret := (some .int)) (by decide) rfl ?_
  intro p e s m args below meth c s₁ B hml hv
  obtain ⟨rfl, hK, hI⟩ := hv
  have hx := B.exec
  have hb := B.bytes
  have hr := B.returns
  have hts := atoms_spec (ws := wsX5_no) B.pre
  have hown : s.vm.findClass RX5 = some m.cls := findClass_of_methodNamed B.named
  have hlocks := B.notSynchronized
  have hS : va_S (fun q => z ≤ q) s.heap s.heap [] := va_S.rf
  have hl := lv_entry ([.ref (ad 20), .int w]) (n := 2) (Nat.le_of_ble_eq_true rfl)
  rw [lg_entry_eq]
  generalize (lg_sl ([.ref (ad 20), .int w]) ++ List.replicate (2 - (lg_sl ([.ref (ad 20), .int w])).length) Slot.unset).toArray = ls at hl ⊢
  have hl : lv_has ls 2 [(0, .ref (ad 20)), (1, .int w)] := hl
  have hin5 := hin5_X5_no
  refine lv_aload_n hx hb dX5_no_0 rfl (lv_at hl 0 rfl) ?_
  refine lv_iload_n hx hb dX5_no_1 rfl (lv_at hl 1 rfl) ?_
  refine cy_putT (v := w) hx hb hts hin5 hown hK hI hS 12 2 (by decide) (hts (.fieldLink RX5 52 "CustomsYardModel" "refused" "I") (by decide +kernel)) rfl (by decide +kernel) rfl dX5_no_2 (fun H locs hI hS => ?_)
  refine lv_aload_n hx hb dX5_no_5 rfl (lv_at hl 0 rfl) ?_
  refine lv_dup hx hb dX5_no_6 rfl ?_
  refine cy_getT (v := .int (τ.1 0 3)) hx hb hts hin5 hown hK hI 13 (by decide) (hts (.fieldLink RX5 55 "CustomsYardModel" "casts" "I") (by decide +kernel)) rfl dX5_no_7 ?_
  refine lv_iload_n hx hb dX5_no_10 rfl (lv_at hl 1 rfl) ?_
  refine lv_bipush (v := -4) hx hb dX5_no_11 (by decide) ?_
  refine lv_icmp_ne (tgt := 20) hx hb dX5_no_13 (by decide) (fun h1 => ?_) (fun h1 => ?_)
  · refine lv_iconst (v := 0) hx hb dX5_no_20 (by decide) ?_
    refine lv_iadd hx hb dX5_no_21 ?_
    refine cy_putT (v := ((τ.1 0 3) + 0)) hx hb hts hin5 hown hK hI hS 13 3 (by decide) (hts (.fieldLink RX5 55 "CustomsYardModel" "casts" "I") (by decide +kernel)) rfl (by decide +kernel) rfl dX5_no_22 (fun H locs hI hS => ?_)
    refine lv_aload_n hx hb dX5_no_25 rfl (lv_at hl 0 rfl) ?_
    refine lv_dup hx hb dX5_no_26 rfl ?_
    refine cy_getT (v := .int (τ.1 0 4)) hx hb hts hin5 hown hK hI 14 (by decide) (hts (.fieldLink RX5 58 "CustomsYardModel" "indexes" "I") (by decide +kernel)) rfl dX5_no_27 ?_
    refine lv_iload_n hx hb dX5_no_30 rfl (lv_at hl 1 rfl) ?_
    refine lv_bipush (v := -5) hx hb dX5_no_31 (by decide) ?_
    refine lv_icmp_ne (tgt := 40) hx hb dX5_no_33 (by decide) (fun h2 => ?_) (fun h2 => ?_)
    · refine lv_iconst (v := 0) hx hb dX5_no_40 (by decide) ?_
      refine lv_iadd hx hb dX5_no_41 ?_
      refine cy_putT (v := ((τ.1 0 4) + 0)) hx hb hts hin5 hown hK hI hS 14 4 (by decide) (hts (.fieldLink RX5 58 "CustomsYardModel" "indexes" "I") (by decide +kernel)) rfl (by decide +kernel) rfl dX5_no_42 (fun H locs hI hS => ?_)
      refine lv_aload_n hx hb dX5_no_45 rfl (lv_at hl 0 rfl) ?_
      refine lv_dup hx hb dX5_no_46 rfl ?_
      refine cy_getT (v := .int (τ.1 0 5)) hx hb hts hin5 hown hK hI 15 (by decide) (hts (.fieldLink RX5 61 "CustomsYardModel" "stores" "I") (by decide +kernel)) rfl dX5_no_47 ?_
      refine lv_iload_n hx hb dX5_no_50 rfl (lv_at hl 1 rfl) ?_
      refine lv_bipush (v := -6) hx hb dX5_no_51 (by decide) ?_
      refine lv_icmp_ne (tgt := 60) hx hb dX5_no_53 (by decide) (fun h3 => ?_) (fun h3 => ?_)
      · refine lv_iconst (v := 0) hx hb dX5_no_60 (by decide) ?_
        refine lv_iadd hx hb dX5_no_61 ?_
        refine cy_putT (v := ((τ.1 0 5) + 0)) hx hb hts hin5 hown hK hI hS 15 5 (by decide) (hts (.fieldLink RX5 61 "CustomsYardModel" "stores" "I") (by decide +kernel)) rfl (by decide +kernel) rfl dX5_no_62 (fun H locs hI hS => ?_)
        refine lv_iload_n hx hb dX5_no_65 rfl (lv_at hl 1 rfl) ?_
        exact W.iret (v := w) hx hb hr (fun t ht hW => ⟨(), rfl, by rw [ht]; exact (by rw [show cy_no τ w = cy_i (cy_i (cy_i (cy_i τ 0 2 w) 0 3 ((τ.1 0 3) + 0)) 0 4 ((τ.1 0 4) + 0)) 0 5 ((τ.1 0 5) + 0) from by simp [cy_no, cy_b, h1, h2, h3]]; exact hI), hS.F ht⟩) hS.2.2 dX5_no_66
      · refine lv_iconst (v := 1) hx hb dX5_no_56 (by decide) ?_
        refine lv_goto (tgt := 61) hx hb dX5_no_57 (by decide) ?_
        refine lv_iadd hx hb dX5_no_61 ?_
        refine cy_putT (v := ((τ.1 0 5) + 1)) hx hb hts hin5 hown hK hI hS 15 5 (by decide) (hts (.fieldLink RX5 61 "CustomsYardModel" "stores" "I") (by decide +kernel)) rfl (by decide +kernel) rfl dX5_no_62 (fun H locs hI hS => ?_)
        refine lv_iload_n hx hb dX5_no_65 rfl (lv_at hl 1 rfl) ?_
        exact W.iret (v := w) hx hb hr (fun t ht hW => ⟨(), rfl, by rw [ht]; exact (by rw [show cy_no τ w = cy_i (cy_i (cy_i (cy_i τ 0 2 w) 0 3 ((τ.1 0 3) + 0)) 0 4 ((τ.1 0 4) + 0)) 0 5 ((τ.1 0 5) + 1) from by simp [cy_no, cy_b, h1, h2, h3]]; exact hI), hS.F ht⟩) hS.2.2 dX5_no_66
    · refine lv_iconst (v := 1) hx hb dX5_no_36 (by decide) ?_
      refine lv_goto (tgt := 41) hx hb dX5_no_37 (by decide) ?_
      refine lv_iadd hx hb dX5_no_41 ?_
      refine cy_putT (v := ((τ.1 0 4) + 1)) hx hb hts hin5 hown hK hI hS 14 4 (by decide) (hts (.fieldLink RX5 58 "CustomsYardModel" "indexes" "I") (by decide +kernel)) rfl (by decide +kernel) rfl dX5_no_42 (fun H locs hI hS => ?_)
      refine lv_aload_n hx hb dX5_no_45 rfl (lv_at hl 0 rfl) ?_
      refine lv_dup hx hb dX5_no_46 rfl ?_
      refine cy_getT (v := .int (τ.1 0 5)) hx hb hts hin5 hown hK hI 15 (by decide) (hts (.fieldLink RX5 61 "CustomsYardModel" "stores" "I") (by decide +kernel)) rfl dX5_no_47 ?_
      refine lv_iload_n hx hb dX5_no_50 rfl (lv_at hl 1 rfl) ?_
      refine lv_bipush (v := -6) hx hb dX5_no_51 (by decide) ?_
      refine lv_icmp_ne (tgt := 60) hx hb dX5_no_53 (by decide) (fun h4 => ?_) (fun h4 => absurd h4 (fun q => absurd (h2.symm.trans q) (by decide)))
      refine lv_iconst (v := 0) hx hb dX5_no_60 (by decide) ?_
      refine lv_iadd hx hb dX5_no_61 ?_
      refine cy_putT (v := ((τ.1 0 5) + 0)) hx hb hts hin5 hown hK hI hS 15 5 (by decide) (hts (.fieldLink RX5 61 "CustomsYardModel" "stores" "I") (by decide +kernel)) rfl (by decide +kernel) rfl dX5_no_62 (fun H locs hI hS => ?_)
      refine lv_iload_n hx hb dX5_no_65 rfl (lv_at hl 1 rfl) ?_
      exact W.iret (v := w) hx hb hr (fun t ht hW => ⟨(), rfl, by rw [ht]; exact (by rw [show cy_no τ w = cy_i (cy_i (cy_i (cy_i τ 0 2 w) 0 3 ((τ.1 0 3) + 0)) 0 4 ((τ.1 0 4) + 1)) 0 5 ((τ.1 0 5) + 0) from by simp [cy_no, cy_b, h1, h2]]; exact hI), hS.F ht⟩) hS.2.2 dX5_no_66
  · refine lv_iconst (v := 1) hx hb dX5_no_16 (by decide) ?_
    refine lv_goto (tgt := 21) hx hb dX5_no_17 (by decide) ?_
    refine lv_iadd hx hb dX5_no_21 ?_
    refine cy_putT (v := ((τ.1 0 3) + 1)) hx hb hts hin5 hown hK hI hS 13 3 (by decide) (hts (.fieldLink RX5 55 "CustomsYardModel" "casts" "I") (by decide +kernel)) rfl (by decide +kernel) rfl dX5_no_22 (fun H locs hI hS => ?_)
    refine lv_aload_n hx hb dX5_no_25 rfl (lv_at hl 0 rfl) ?_
    refine lv_dup hx hb dX5_no_26 rfl ?_
    refine cy_getT (v := .int (τ.1 0 4)) hx hb hts hin5 hown hK hI 14 (by decide) (hts (.fieldLink RX5 58 "CustomsYardModel" "indexes" "I") (by decide +kernel)) rfl dX5_no_27 ?_
    refine lv_iload_n hx hb dX5_no_30 rfl (lv_at hl 1 rfl) ?_
    refine lv_bipush (v := -5) hx hb dX5_no_31 (by decide) ?_
    refine lv_icmp_ne (tgt := 40) hx hb dX5_no_33 (by decide) (fun h5 => ?_) (fun h5 => absurd h5 (fun q => absurd (h1.symm.trans q) (by decide)))
    refine lv_iconst (v := 0) hx hb dX5_no_40 (by decide) ?_
    refine lv_iadd hx hb dX5_no_41 ?_
    refine cy_putT (v := ((τ.1 0 4) + 0)) hx hb hts hin5 hown hK hI hS 14 4 (by decide) (hts (.fieldLink RX5 58 "CustomsYardModel" "indexes" "I") (by decide +kernel)) rfl (by decide +kernel) rfl dX5_no_42 (fun H locs hI hS => ?_)
    refine lv_aload_n hx hb dX5_no_45 rfl (lv_at hl 0 rfl) ?_
    refine lv_dup hx hb dX5_no_46 rfl ?_
    refine cy_getT (v := .int (τ.1 0 5)) hx hb hts hin5 hown hK hI 15 (by decide) (hts (.fieldLink RX5 61 "CustomsYardModel" "stores" "I") (by decide +kernel)) rfl dX5_no_47 ?_
    refine lv_iload_n hx hb dX5_no_50 rfl (lv_at hl 1 rfl) ?_
    refine lv_bipush (v := -6) hx hb dX5_no_51 (by decide) ?_
    refine lv_icmp_ne (tgt := 60) hx hb dX5_no_53 (by decide) (fun h6 => ?_) (fun h6 => absurd h6 (fun q => absurd (h1.symm.trans q) (by decide)))
    refine lv_iconst (v := 0) hx hb dX5_no_60 (by decide) ?_
    refine lv_iadd hx hb dX5_no_61 ?_
    refine cy_putT (v := ((τ.1 0 5) + 0)) hx hb hts hin5 hown hK hI hS 15 5 (by decide) (hts (.fieldLink RX5 61 "CustomsYardModel" "stores" "I") (by decide +kernel)) rfl (by decide +kernel) rfl dX5_no_62 (fun H locs hI hS => ?_)
    refine lv_iload_n hx hb dX5_no_65 rfl (lv_at hl 1 rfl) ?_
    exact W.iret (v := w) hx hb hr (fun t ht hW => ⟨(), rfl, by rw [ht]; exact (by rw [show cy_no τ w = cy_i (cy_i (cy_i (cy_i τ 0 2 w) 0 3 ((τ.1 0 3) + 1)) 0 4 ((τ.1 0 4) + 0)) 0 5 ((τ.1 0 5) + 0) from by simp [cy_no, cy_b, h1]]; exact hI), hS.F ht⟩) hS.2.2 dX5_no_66

set_option maxHeartbeats 4000000 in
set_option maxRecDepth 100000 in
theorem c_X5_comes (l : Launch) (D : va_G) (cI cJ cO : ClassId) (z n na : Nat) (σ τ : cy_S) (pl : Nat → Int32) (hi : Int32) (ad : Nat → Nat) (k : Nat) (hk : k < 80) (v : Int32)  : Met l yX5_comes wsX5_comes { frames := 2, cells := 0, slots := 0, locals := 42 } (cy_P D cI cJ cO (fun H => cy_W D z (cy_CT cI cJ cO n na σ τ pl hi ad) ad H) [.ref (ad 20), .int (nI k), .int v]) (cy_Q (.int (cy_co τ k v))) 0 0 (fun _ => False) := by
  refine Met.ofW (cc := cX5_comes) (maxL := 3) (ret := (some .int)) (by decide) rfl ?_
  intro p e s m args below meth c s₁ B hml hv
  obtain ⟨rfl, hK, hI⟩ := hv
  have hx := B.exec
  have hb := B.bytes
  have hr := B.returns
  have hts := atoms_spec (ws := wsX5_comes) B.pre
  have hown : s.vm.findClass RX5 = some m.cls := findClass_of_methodNamed B.named
  have hlocks := B.notSynchronized
  have hl := lv_entry ([.ref (ad 20), .int (nI k), .int v]) (n := 3) (Nat.le_of_ble_eq_true rfl)
  rw [lg_entry_eq]
  generalize (lg_sl ([.ref (ad 20), .int (nI k), .int v]) ++ List.replicate (3 - (lg_sl ([.ref (ad 20), .int (nI k), .int v])).length) Slot.unset).toArray = ls at hl ⊢
  have hl : lv_has ls 3 [(0, .ref (ad 20)), (1, .int (nI k)), (2, .int v)] := hl
  have hin5 := hin5_X5_comes
  refine lv_aload_n hx hb dX5_comes_0 rfl (lv_at hl 0 rfl) ?_
  refine cy_getT (v := .ref (ad 21)) hx hb hts hin5 hown hK hI 1 (by decide) (hts (.fieldLink RX5 7 "CustomsYardModel" "sorts" "[I") (by decide +kernel)) rfl dX5_comes_1 ?_
  refine lv_iload_n hx hb dX5_comes_4 rfl (lv_at hl 1 rfl) ?_
  refine cy_iald (f := τ.1 1) (k := k) hx hb hK.1 hI 0 (x := 21) rfl rfl (by omega) (by decide) dX5_comes_5 ?_
  refine cy_callp (v := .int (cy_b (cy_sg (τ.1 1 k)))) (va_runS (As := [.int (τ.1 1 k)]) (rest := []) ⟨hx, hb, hml, hown, hts⟩ (c_X5_isSingle l (τ.1 1 k)) (va_cwS 1 hts gX5_comes_X5_isSingle rfl rfl rfl (by decide +kernel) ⟨Nat.le_of_ble_eq_true rfl, Nat.le_of_ble_eq_true rfl⟩) preEq rfl rfl hl.1 rfl (lv_room (Nat.le_of_ble_eq_true rfl)) dX5_comes_6 ⟨Nat.le_of_ble_eq_true rfl, Nat.le_of_ble_eq_true rfl⟩) ?_
  cases b1 : (cy_sg (τ.1 1 k))
  · refine lv_if_ne (tgt := 19) hx hb dX5_comes_9 (by decide) (fun h2 => absurd (by decide) h2) (fun h2 => ?_)
    refine lv_aload_n hx hb dX5_comes_12 rfl (lv_at hl 0 rfl) ?_
    refine cy_getT (v := .ref (ad 22)) hx hb hts hin5 hown hK hI 2 (by decide) (hts (.fieldLink RX5 13 "CustomsYardModel" "sizes" "[I") (by decide +kernel)) rfl dX5_comes_13 ?_
    refine lv_iload_n hx hb dX5_comes_16 rfl (lv_at hl 1 rfl) ?_
    refine cy_iald (f := τ.1 2) (k := k) hx hb hK.1 hI 0 (x := 22) rfl rfl (by omega) (by decide) dX5_comes_17 ?_
    exact W.iret (v := τ.1 2 k) hx hb hr (fun t ht hW => ⟨congrArg (fun q => Outcome.returned (some (Value.int q))) (by unfold cy_co; simp only [b1]; simp []), ht⟩) (fun q h => by cases h) dX5_comes_18
  · refine lv_if_ne (tgt := 19) hx hb dX5_comes_9 (by decide) (fun h3 => ?_) (fun h3 => absurd h3 (by decide))
    refine lv_iload_n hx hb dX5_comes_19 rfl (lv_at hl 2 rfl) ?_
    refine lv_bipush (v := 13) hx hb dX5_comes_20 (by decide) ?_
    refine lv_icmp_eq (tgt := 34) hx hb dX5_comes_22 (by decide) (fun h4 => ?_) (fun h4 => ?_)
    · refine lv_aload_n hx hb dX5_comes_34 rfl (lv_at hl 0 rfl) ?_
      refine cy_getT (v := .ref (ad 21)) hx hb hts hin5 hown hK hI 1 (by decide) (hts (.fieldLink RX5 7 "CustomsYardModel" "sorts" "[I") (by decide +kernel)) rfl dX5_comes_35 ?_
      refine lv_iload_n hx hb dX5_comes_38 rfl (lv_at hl 1 rfl) ?_
      refine cy_iald (f := τ.1 1) (k := k) hx hb hK.1 hI 0 (x := 21) rfl rfl (by omega) (by decide) dX5_comes_39 ?_
      refine lv_iconst (v := 5) hx hb dX5_comes_40 (by decide) ?_
      refine lv_icmp_ne (tgt := 57) hx hb dX5_comes_41 (by decide) (fun h5 => ?_) (fun h5 => ?_)
      · refine lv_iconst (v := 2) hx hb dX5_comes_57 (by decide) ?_
        refine lv_aload_n hx hb dX5_comes_58 rfl (lv_at hl 0 rfl) ?_
        refine cy_getT (v := .ref (ad 23)) hx hb hts hin5 hown hK hI 3 (by decide) (hts (.fieldLink RX5 16 "CustomsYardModel" "weights" "[I") (by decide +kernel)) rfl dX5_comes_59 ?_
        refine lv_iload_n hx hb dX5_comes_62 rfl (lv_at hl 1 rfl) ?_
        refine cy_iald (f := τ.1 3) (k := k) hx hb hK.1 hI 0 (x := 23) rfl rfl (by omega) (by decide) dX5_comes_63 ?_
        refine lv_imul hx hb dX5_comes_64 ?_
        exact W.iret (v := (2 * (τ.1 3 k))) hx hb hr (fun t ht hW => ⟨congrArg (fun q => Outcome.returned (some (Value.int q))) (by unfold cy_co; simp only [b1]; simp [h4, h5]), ht⟩) (fun q h => by cases h) dX5_comes_65
      · refine lv_aload_n hx hb dX5_comes_44 rfl (lv_at hl 0 rfl) ?_
        refine cy_getT (v := .ref (ad 23)) hx hb hts hin5 hown hK hI 3 (by decide) (hts (.fieldLink RX5 16 "CustomsYardModel" "weights" "[I") (by decide +kernel)) rfl dX5_comes_45 ?_
        refine lv_iload_n hx hb dX5_comes_48 rfl (lv_at hl 1 rfl) ?_
        refine cy_iald (f := τ.1 3) (k := k) hx hb hK.1 hI 0 (x := 23) rfl rfl (by omega) (by decide) dX5_comes_49 ?_
        refine lv_sipush (v := 1000) hx hb dX5_comes_50 (by decide) ?_
        refine lv_iadd hx hb dX5_comes_53 ?_
        refine lv_goto (tgt := 65) hx hb dX5_comes_54 (by decide) ?_
        exact W.iret (v := ((τ.1 3 k) + 1000)) hx hb hr (fun t ht hW => ⟨congrArg (fun q => Outcome.returned (some (Value.int q))) (by unfold cy_co; simp only [b1]; simp [h4, h5]), ht⟩) (fun q h => by cases h) dX5_comes_65
    · refine lv_aload_n hx hb dX5_comes_25 rfl (lv_at hl 0 rfl) ?_
      refine cy_getT (v := .ref (ad 23)) hx hb hts hin5 hown hK hI 3 (by decide) (hts (.fieldLink RX5 16 "CustomsYardModel" "weights" "[I") (by decide +kernel)) rfl dX5_comes_26 ?_
      refine lv_iload_n hx hb dX5_comes_29 rfl (lv_at hl 1 rfl) ?_
      refine cy_iald (f := τ.1 3) (k := k) hx hb hK.1 hI 0 (x := 23) rfl rfl (by omega) (by decide) dX5_comes_30 ?_
      refine lv_goto (tgt := 65) hx hb dX5_comes_31 (by decide) ?_
      exact W.iret (v := τ.1 3 k) hx hb hr (fun t ht hW => ⟨congrArg (fun q => Outcome.returned (some (Value.int q))) (by unfold cy_co; simp only [b1]; simp [h4]), ht⟩) (fun q h => by cases h) dX5_comes_65

set_option maxHeartbeats 4000000 in
set_option maxRecDepth 100000 in
theorem c_X5_refused (l : Launch) (D : va_G) (cI cJ cO : ClassId) (z n na : Nat) (σ τ : cy_S) (pl : Nat → Int32) (hi : Int32) (ad : Nat → Nat)  : Met l yX5_refused wsX5_refused { frames := 0, cells := 0, slots := 0, locals := 0 } (cy_P D cI cJ cO (fun H => cy_W D z (cy_CT cI cJ cO n na σ τ pl hi ad) ad H) [.ref (ad 20)]) (cy_Q (.int (τ.1 0 2))) 0 0 (fun _ => False) := by
  refine Met.ofW (cc := cX5_refused) (maxL := 1) (ret := (some .int)) (by decide) rfl ?_
  intro p e s m args below meth c s₁ B hml hv
  obtain ⟨rfl, hK, hI⟩ := hv
  have hx := B.exec
  have hb := B.bytes
  have hr := B.returns
  have hts := atoms_spec (ws := wsX5_refused) B.pre
  have hown : s.vm.findClass RX5 = some m.cls := findClass_of_methodNamed B.named
  have hlocks := B.notSynchronized
  have hl := lv_entry ([.ref (ad 20)]) (n := 1) (Nat.le_of_ble_eq_true rfl)
  rw [lg_entry_eq]
  generalize (lg_sl ([.ref (ad 20)]) ++ List.replicate (1 - (lg_sl ([.ref (ad 20)])).length) Slot.unset).toArray = ls at hl ⊢
  have hl : lv_has ls 1 [(0, .ref (ad 20))] := hl
  have hin5 := hin5_X5_refused
  refine lv_aload_n hx hb dX5_refused_0 rfl (lv_at hl 0 rfl) ?_
  refine cy_getT (v := .int (τ.1 0 2)) hx hb hts hin5 hown hK hI 12 (by decide) (hts (.fieldLink RX5 52 "CustomsYardModel" "refused" "I") (by decide +kernel)) rfl dX5_refused_1 ?_
  exact W.iret (v := τ.1 0 2) hx hb hr (fun t ht hW => ⟨congrArg (fun q => Outcome.returned (some (Value.int q))) (rfl), ht⟩) (fun q h => by cases h) dX5_refused_4

set_option maxHeartbeats 4000000 in
set_option maxRecDepth 100000 in
theorem c_X5_count (l : Launch) (D : va_G) (cI cJ cO : ClassId) (z n na : Nat) (σ τ : cy_S) (pl : Nat → Int32) (hi : Int32) (ad : Nat → Nat) (v : Int32)  : Met l yX5_count wsX5_count { frames := 0, cells := 0, slots := 0, locals := 0 } (cy_P D cI cJ cO (fun H => cy_W D z (cy_CT cI cJ cO n na σ τ pl hi ad) ad H) [.ref (ad 20), .int v]) (cy_Q (.int (cy_cn τ v))) 0 0 (fun _ => False) := by
  refine Met.ofW (cc := cX5_count) (maxL := 2) (ret := (some .int)) (by decide) rfl ?_
  intro p e s m args below meth c s₁ B hml hv
  obtain ⟨rfl, hK, hI⟩ := hv
  have hx := B.exec
  have hb := B.bytes
  have hr := B.returns
  have hts := atoms_spec (ws := wsX5_count) B.pre
  have hown : s.vm.findClass RX5 = some m.cls := findClass_of_methodNamed B.named
  have hlocks := B.notSynchronized
  have hl := lv_entry ([.ref (ad 20), .int v]) (n := 2) (Nat.le_of_ble_eq_true rfl)
  rw [lg_entry_eq]
  generalize (lg_sl ([.ref (ad 20), .int v]) ++ List.replicate (2 - (lg_sl ([.ref (ad 20), .int v])).length) Slot.unset).toArray = ls at hl ⊢
  have hl : lv_has ls 2 [(0, .ref (ad 20)), (1, .int v)] := hl
  have hin5 := hin5_X5_count
  refine lv_iload_n hx hb dX5_count_0 rfl (lv_at hl 1 rfl) ?_
  rcases cy_sw0_5 v with w1 | w1 | w1 | w1 | w1 | w1 | ⟨w1, w1n0, w1n1, w1n2, w1n3, w1n4, w1n5⟩
  · refine lv_tableIn (off := 39) (tgt := 40) hx hb dX5_count_1 (by rw [w1]; decide) (by rw [w1]; decide) (by rw [w1]; rfl) (by decide) ?_
    refine lv_aload_n hx hb dX5_count_40 rfl (lv_at hl 0 rfl) ?_
    refine cy_getT (v := .int (τ.1 0 0)) hx hb hts hin5 hown hK hI 0 (by decide) (hts (.fieldLink RX5 44 "CustomsYardModel" "loads" "I") (by decide +kernel)) rfl dX5_count_41 ?_
    exact W.iret (v := τ.1 0 0) hx hb hr (fun t ht hW => ⟨congrArg (fun q => Outcome.returned (some (Value.int q))) (by subst w1; simp [cy_cn]), ht⟩) (fun q h => by cases h) dX5_count_44
  · refine lv_tableIn (off := 44) (tgt := 45) hx hb dX5_count_1 (by rw [w1]; decide) (by rw [w1]; decide) (by rw [w1]; rfl) (by decide) ?_
    refine lv_aload_n hx hb dX5_count_45 rfl (lv_at hl 0 rfl) ?_
    refine cy_getT (v := .int (τ.1 0 3)) hx hb hts hin5 hown hK hI 13 (by decide) (hts (.fieldLink RX5 55 "CustomsYardModel" "casts" "I") (by decide +kernel)) rfl dX5_count_46 ?_
    exact W.iret (v := τ.1 0 3) hx hb hr (fun t ht hW => ⟨congrArg (fun q => Outcome.returned (some (Value.int q))) (by subst w1; simp [cy_cn]), ht⟩) (fun q h => by cases h) dX5_count_49
  · refine lv_tableIn (off := 49) (tgt := 50) hx hb dX5_count_1 (by rw [w1]; decide) (by rw [w1]; decide) (by rw [w1]; rfl) (by decide) ?_
    refine lv_aload_n hx hb dX5_count_50 rfl (lv_at hl 0 rfl) ?_
    refine cy_getT (v := .int (τ.1 0 4)) hx hb hts hin5 hown hK hI 14 (by decide) (hts (.fieldLink RX5 58 "CustomsYardModel" "indexes" "I") (by decide +kernel)) rfl dX5_count_51 ?_
    exact W.iret (v := τ.1 0 4) hx hb hr (fun t ht hW => ⟨congrArg (fun q => Outcome.returned (some (Value.int q))) (by subst w1; simp [cy_cn]), ht⟩) (fun q h => by cases h) dX5_count_54
  · refine lv_tableIn (off := 54) (tgt := 55) hx hb dX5_count_1 (by rw [w1]; decide) (by rw [w1]; decide) (by rw [w1]; rfl) (by decide) ?_
    refine lv_aload_n hx hb dX5_count_55 rfl (lv_at hl 0 rfl) ?_
    refine cy_getT (v := .int (τ.1 0 5)) hx hb hts hin5 hown hK hI 15 (by decide) (hts (.fieldLink RX5 61 "CustomsYardModel" "stores" "I") (by decide +kernel)) rfl dX5_count_56 ?_
    exact W.iret (v := τ.1 0 5) hx hb hr (fun t ht hW => ⟨congrArg (fun q => Outcome.returned (some (Value.int q))) (by subst w1; simp [cy_cn]), ht⟩) (fun q h => by cases h) dX5_count_59
  · refine lv_tableIn (off := 59) (tgt := 60) hx hb dX5_count_1 (by rw [w1]; decide) (by rw [w1]; decide) (by rw [w1]; rfl) (by decide) ?_
    refine lv_aload_n hx hb dX5_count_60 rfl (lv_at hl 0 rfl) ?_
    refine cy_getT (v := .int (τ.1 0 6)) hx hb hts hin5 hown hK hI 16 (by decide) (hts (.fieldLink RX5 119 "CustomsYardModel" "away" "I") (by decide +kernel)) rfl dX5_count_61 ?_
    exact W.iret (v := τ.1 0 6) hx hb hr (fun t ht hW => ⟨congrArg (fun q => Outcome.returned (some (Value.int q))) (by subst w1; simp [cy_cn]), ht⟩) (fun q h => by cases h) dX5_count_64
  · refine lv_tableIn (off := 64) (tgt := 65) hx hb dX5_count_1 (by rw [w1]; decide) (by rw [w1]; decide) (by rw [w1]; rfl) (by decide) ?_
    refine lv_aload_n hx hb dX5_count_65 rfl (lv_at hl 0 rfl) ?_
    refine cy_getT (v := .int (τ.1 0 1)) hx hb hts hin5 hown hK hI 9 (by decide) (hts (.fieldLink RX5 122 "CustomsYardModel" "lines" "I") (by decide +kernel)) rfl dX5_count_66 ?_
    exact W.iret (v := τ.1 0 1) hx hb hr (fun t ht hW => ⟨congrArg (fun q => Outcome.returned (some (Value.int q))) (by subst w1; simp [cy_cn]), ht⟩) (fun q h => by cases h) dX5_count_69
  · refine lv_tableOut (tgt := 70) hx hb dX5_count_1 w1 (by decide) ?_
    refine lv_bipush (v := -2) hx hb dX5_count_70 (by decide) ?_
    exact W.iret (v := (-2)) hx hb hr (fun t ht hW => ⟨congrArg (fun q => Outcome.returned (some (Value.int q))) (by simp [cy_cn, w1n0, w1n1, w1n2, w1n3, w1n4, w1n5]), ht⟩) (fun q h => by cases h) dX5_count_72
