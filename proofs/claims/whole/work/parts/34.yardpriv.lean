theorem hin1_X4_numberOf : ∀ w ∈ u_ws RX1 TX1 3, w ∈ wsX4_numberOf := by decide +kernel
theorem hin2_X4_numberOf : ∀ w ∈ u_ws RX2 TX2 3, w ∈ wsX4_numberOf := by decide +kernel
theorem hin3_X4_numberOf : ∀ w ∈ u_ws RX3 TX3 3, w ∈ wsX4_numberOf := by decide +kernel
theorem hin4_X4_find : ∀ w ∈ u_ws RX4 TX4 13, w ∈ wsX4_find := by decide +kernel
theorem hin4_X4_refuse : ∀ w ∈ u_ws RX4 TX4 13, w ∈ wsX4_refuse := by decide +kernel
theorem hin1_X4_numbersWith : ∀ w ∈ u_ws RX1 TX1 3, w ∈ wsX4_numbersWith := by decide +kernel
theorem hin4_X4_numbersWith : ∀ w ∈ u_ws RX4 TX4 13, w ∈ wsX4_numbersWith := by decide +kernel
theorem hin1_X4_takeAs : ∀ w ∈ u_ws RX1 TX1 3, w ∈ wsX4_takeAs := by decide +kernel
theorem hin2_X4_takeAs : ∀ w ∈ u_ws RX2 TX2 3, w ∈ wsX4_takeAs := by decide +kernel
theorem hin3_X4_takeAs : ∀ w ∈ u_ws RX3 TX3 3, w ∈ wsX4_takeAs := by decide +kernel
theorem hin4_X4_takeAs : ∀ w ∈ u_ws RX4 TX4 13, w ∈ wsX4_takeAs := by decide +kernel
theorem hin1_X4_lineFor : ∀ w ∈ u_ws RX1 TX1 3, w ∈ wsX4_lineFor := by decide +kernel
theorem hin2_X4_lineFor : ∀ w ∈ u_ws RX2 TX2 3, w ∈ wsX4_lineFor := by decide +kernel
theorem hin3_X4_lineFor : ∀ w ∈ u_ws RX3 TX3 3, w ∈ wsX4_lineFor := by decide +kernel
theorem hin4_X4_lineFor : ∀ w ∈ u_ws RX4 TX4 13, w ∈ wsX4_lineFor := by decide +kernel
theorem hin4_X4_refused : ∀ w ∈ u_ws RX4 TX4 13, w ∈ wsX4_refused := by decide +kernel
theorem hin4_X4_count : ∀ w ∈ u_ws RX4 TX4 13, w ∈ wsX4_count := by decide +kernel
set_option maxHeartbeats 4000000 in
set_option maxRecDepth 100000 in
theorem c_X4_numberOfN (l : Launch)  : Met l yX4_numberOf wsX4_numberOf { frames := 0, cells := 0, slots := 0, locals := 0 } (fun zz _ => zz = ([.null] : List Value).toArray) (cy_Q (.int (-1))) 0 0 (fun _ => False) := by
  refine Met.ofW (cc := cX4_numberOf) (maxL := 1) (ret := (some .int)) (by decide) rfl ?_
  intro p e s m args below meth c s₁ B hml hv
  have hv : args = ([.null] : List Value).toArray := hv
  subst hv
  have hx := B.exec
  have hb := B.bytes
  have hr := B.returns
  have hts := atoms_spec (ws := wsX4_numberOf) B.pre
  have hown : s.vm.findClass RX4 = some m.cls := findClass_of_methodNamed B.named
  have hlocks := B.notSynchronized
  have hl := lv_entry ([.null]) (n := 1) (Nat.le_of_ble_eq_true rfl)
  rw [lg_entry_eq]
  generalize (lg_sl ([.null]) ++ List.replicate (1 - (lg_sl ([.null])).length) Slot.unset).toArray = ls at hl ⊢
  have hl : lv_has ls 1 [(0, .null)] := hl
  refine lv_aload_nN hx hb dX4_numberOf_0 rfl (lv_at hl 0 rfl) ?_
  refine lv_ifnonnullN hx hb dX4_numberOf_1 ?_
  refine lv_iconst (v := -1) hx hb dX4_numberOf_4 (by decide) ?_
  refine lv_goto (tgt := 12) hx hb dX4_numberOf_5 (by decide) ?_
  exact W.iret (v := (-1)) hx hb hr (fun t ht hW => ⟨congrArg (fun q => Outcome.returned (some (Value.int q))) (rfl), ht⟩) (fun q h => by cases h) dX4_numberOf_12

set_option maxHeartbeats 4000000 in
set_option maxRecDepth 100000 in
theorem c_X4_numberOf (l : Launch) (D : va_G) (cI cJ cO : ClassId) (z n : Nat) (σ τ : cy_S) (pl : Nat → Int32) (hi : Int32) (ad : Nat → Nat) (hok : cy_ok n σ) (k : Nat) (hk : k < n)  : Met l yX4_numberOf wsX4_numberOf { frames := 0, cells := 0, slots := 0, locals := 0 } (cy_P D cI cJ cO (fun H => cy_W D z (cy_CT cI cJ cO n n σ τ pl hi ad) ad H) [.ref (ad (100 + 2 * k))]) (cy_Q (.int (nI k))) 0 0 (fun _ => False) := by
  refine Met.ofW (cc := cX4_numberOf) (maxL := 1) (ret := (some .int)) (by decide) rfl ?_
  intro p e s m args below meth c s₁ B hml hv
  obtain ⟨rfl, hK, hI⟩ := hv
  have hx := B.exec
  have hb := B.bytes
  have hr := B.returns
  have hts := atoms_spec (ws := wsX4_numberOf) B.pre
  have hown : s.vm.findClass RX4 = some m.cls := findClass_of_methodNamed B.named
  have hlocks := B.notSynchronized
  have hl := lv_entry ([.ref (ad (100 + 2 * k))]) (n := 1) (Nat.le_of_ble_eq_true rfl)
  rw [lg_entry_eq]
  generalize (lg_sl ([.ref (ad (100 + 2 * k))]) ++ List.replicate (1 - (lg_sl ([.ref (ad (100 + 2 * k))])).length) Slot.unset).toArray = ls at hl ⊢
  have hl : lv_has ls 1 [(0, .ref (ad (100 + 2 * k)))] := hl
  have hin1 := hin1_X4_numberOf
  have hin2 := hin2_X4_numberOf
  have hin3 := hin3_X4_numberOf
  refine lv_aload_n hx hb dX4_numberOf_0 rfl (lv_at hl 0 rfl) ?_
  refine lv_ifnonnull (tgt := 8) hx hb dX4_numberOf_1 (by decide) ?_
  refine lv_aload_n hx hb dX4_numberOf_8 rfl (lv_at hl 0 rfl) ?_
  refine cy_getNumber hx hb hts hin1 hin2 hin3 hown hK hI hk (hts (.fieldLink RX4 138 "CustomsYard$Load" "number" "I") (by decide +kernel)) (fun _ h9 => h9) dX4_numberOf_9 ?_
  exact W.iret (v := nI k) hx hb hr (fun t ht hW => ⟨congrArg (fun q => Outcome.returned (some (Value.int q))) (rfl), ht⟩) (fun q h => by cases h) dX4_numberOf_12

set_option maxHeartbeats 4000000 in
set_option maxRecDepth 100000 in
theorem c_X4_find (l : Launch) (D : va_G) (cI cJ cO : ClassId) (z n : Nat) (σ τ : cy_S) (pl : Nat → Int32) (hi : Int32) (ad : Nat → Nat) (hok : cy_ok n σ) (v : Int32)  : Met l yX4_find wsX4_find { frames := 0, cells := 0, slots := 0, locals := 0 } (cy_P D cI cJ cO (fun H => cy_W D z (cy_CT cI cJ cO n n σ τ pl hi ad) ad H) [.ref (ad 0), .int v]) (cy_Q (va_rf (cy_fd n ad v))) 0 0 (fun _ => False) := by
  refine Met.ofW (cc := cX4_find) (maxL := 2) (ret := (some (.object "CustomsYard$Load"))) (by decide) rfl ?_
  intro p e s m args below meth c s₁ B hml hv
  obtain ⟨rfl, hK, hI⟩ := hv
  have hx := B.exec
  have hb := B.bytes
  have hr := B.returns
  have hts := atoms_spec (ws := wsX4_find) B.pre
  have hown : s.vm.findClass RX4 = some m.cls := findClass_of_methodNamed B.named
  have hlocks := B.notSynchronized
  have hl := lv_entry ([.ref (ad 0), .int v]) (n := 2) (Nat.le_of_ble_eq_true rfl)
  rw [lg_entry_eq]
  generalize (lg_sl ([.ref (ad 0), .int v]) ++ List.replicate (2 - (lg_sl ([.ref (ad 0), .int v])).length) Slot.unset).toArray = ls at hl ⊢
  have hl : lv_has ls 2 [(0, .ref (ad 0)), (1, .int v)] := hl
  have hin4 := hin4_X4_find
  have hn := hok.1
  refine lv_iload_n hx hb dX4_find_0 rfl (lv_at hl 1 rfl) ?_
  refine lv_if_lt (tgt := 22) hx hb dX4_find_1 (by decide) (fun h1 => ?_) (fun h1 => ?_)
  · refine lv_null hx hb dX4_find_22 ?_
    exact W.aret (v := .null) hx hb hr (Or.inl ⟨_, rfl⟩) (Or.inl rfl) (fun t ht hW => ⟨congrArg (fun q => Outcome.returned (some q)) (by rw [cy_fd_f (cy_ld_neg h1)]; rfl), ht⟩) (fun q h => by cases h) dX4_find_23
  · obtain ⟨j, hj, rfl⟩ := nI_of h1
    refine lv_iload_n hx hb dX4_find_4 rfl (lv_at hl 1 rfl) ?_
    refine lv_aload_n hx hb dX4_find_5 rfl (lv_at hl 0 rfl) ?_
    refine cy_getY (v := .ref (ad 1)) hx hb hts hin4 hown hK hI 0 (by decide) (hts (.fieldLink RX4 11 "CustomsYard" "loads" "[LCustomsYard$Load;") (by decide +kernel)) rfl dX4_find_6 ?_
    refine cy_alen hx hb hK.1 hI 2 (x := 1) rfl rfl dX4_find_9 ?_
    refine lv_icmp_ge (tgt := 22) hx hb dX4_find_10 (by decide) (fun h2 => ?_) (fun h2 => ?_)
    · refine lv_null hx hb dX4_find_22 ?_
      exact W.aret (v := .null) hx hb hr (Or.inl ⟨_, rfl⟩) (Or.inl rfl) (fun t ht hW => ⟨congrArg (fun q => Outcome.returned (some q)) (by rw [cy_fd_f (cy_ld_no hn (fun q => absurd h2 (nI_ge (b := 80) (by omega) (by decide))) hj)]; rfl), ht⟩) (fun q h => by cases h) dX4_find_23
    · have hj80 : j < 80 := by rcases Nat.lt_or_ge j 80 with q | q; exact q; exact absurd (nI_le q hj) h2
      refine lv_aload_n hx hb dX4_find_13 rfl (lv_at hl 0 rfl) ?_
      refine cy_getY (v := .ref (ad 1)) hx hb hts hin4 hown hK hI 0 (by decide) (hts (.fieldLink RX4 11 "CustomsYard" "loads" "[LCustomsYard$Load;") (by decide +kernel)) rfl dX4_find_14 ?_
      refine lv_iload_n hx hb dX4_find_17 rfl (lv_at hl 1 rfl) ?_
      refine cy_aald (k := j) (f := fun j => if j < n then some (ad (100 + 2 * j)) else none) hx hb hK.1 hI 2 (x := 1) rfl rfl hj80 (by decide) dX4_find_18 ?_
      by_cases hjn : j < n
      · refine cy_topq (y := some (ad (100 + 2 * j))) (if_pos hjn) ?_
        refine lv_goto (tgt := 23) hx hb dX4_find_19 (by decide) ?_
        exact W.aret (v := .ref (ad (100 + 2 * j))) hx hb hr (Or.inl ⟨_, rfl⟩) (Or.inr ⟨_, rfl⟩) (fun t ht hW => ⟨congrArg (fun q => Outcome.returned (some q)) (by rw [cy_fd_t hn (cy_ld_k hn hjn) hjn]; rfl), ht⟩) (fun q h => by cases h) dX4_find_23
      · refine cy_topq (y := none) (if_neg hjn) ?_
        refine lv_goto (tgt := 23) hx hb dX4_find_19 (by decide) ?_
        exact W.aret (v := .null) hx hb hr (Or.inl ⟨_, rfl⟩) (Or.inl rfl) (fun t ht hW => ⟨congrArg (fun q => Outcome.returned (some q)) (by rw [cy_fd_f (cy_ld_no hn hjn hj)]; rfl), ht⟩) (fun q h => by cases h) dX4_find_23

set_option maxHeartbeats 4000000 in
set_option maxRecDepth 100000 in
theorem c_X4_refuse (l : Launch) (D : va_G) (cI cJ cO : ClassId) (z n : Nat) (σ τ : cy_S) (pl : Nat → Int32) (hi : Int32) (ad : Nat → Nat) (w : Int32)  : Met l yX4_refuse wsX4_refuse { frames := 0, cells := 0, slots := 0, locals := 0 } (cy_P D cI cJ cO (fun H => cy_W D z (cy_CT cI cJ cO n n σ τ pl hi ad) ad H) [.ref (ad 0), .int w]) (cy_M (S := Unit) z (fun _ => some (.int w)) (fun _ H => cy_W D z (cy_CT cI cJ cO n n (cy_no σ w) τ pl hi ad) ad H)) 0 0 (fun q => z ≤ q) := by
  refine Met.ofW (cc := cX4_refuse) (maxL := 2) (ret := (some .int)) (by decide) rfl ?_
  intro p e s m args below meth c s₁ B hml hv
  obtain ⟨rfl, hK, hI⟩ := hv
  have hx := B.exec
  have hb := B.bytes
  have hr := B.returns
  have hts := atoms_spec (ws := wsX4_refuse) B.pre
  have hown : s.vm.findClass RX4 = some m.cls := findClass_of_methodNamed B.named
  have hlocks := B.notSynchronized
  have hS : va_S (fun q => z ≤ q) s.heap s.heap [] := va_S.rf
  have hl := lv_entry ([.ref (ad 0), .int w]) (n := 2) (Nat.le_of_ble_eq_true rfl)
  rw [lg_entry_eq]
  generalize (lg_sl ([.ref (ad 0), .int w]) ++ List.replicate (2 - (lg_sl ([.ref (ad 0), .int w])).length) Slot.unset).toArray = ls at hl ⊢
  have hl : lv_has ls 2 [(0, .ref (ad 0)), (1, .int w)] := hl
  have hin4 := hin4_X4_refuse
  refine lv_aload_n hx hb dX4_refuse_0 rfl (lv_at hl 0 rfl) ?_
  refine lv_iload_n hx hb dX4_refuse_1 rfl (lv_at hl 1 rfl) ?_
  refine cy_putY (v := w) hx hb hts hin4 hown hK hI hS 8 2 (by decide) (hts (.fieldLink RX4 38 "CustomsYard" "refusal" "I") (by decide +kernel)) rfl (by decide +kernel) rfl dX4_refuse_2 (fun H locs hI hS => ?_)
  refine lv_iload_n hx hb dX4_refuse_5 rfl (lv_at hl 1 rfl) ?_
  refine lv_bipush (v := -4) hx hb dX4_refuse_6 (by decide) ?_
  refine lv_icmp_ne (tgt := 24) hx hb dX4_refuse_8 (by decide) (fun h1 => ?_) (fun h1 => ?_)
  · refine lv_iload_n hx hb dX4_refuse_24 rfl (lv_at hl 1 rfl) ?_
    refine lv_bipush (v := -5) hx hb dX4_refuse_25 (by decide) ?_
    refine lv_icmp_ne (tgt := 43) hx hb dX4_refuse_27 (by decide) (fun h2 => ?_) (fun h2 => ?_)
    · refine lv_iload_n hx hb dX4_refuse_43 rfl (lv_at hl 1 rfl) ?_
      refine lv_bipush (v := -6) hx hb dX4_refuse_44 (by decide) ?_
      refine lv_icmp_ne (tgt := 59) hx hb dX4_refuse_46 (by decide) (fun h3 => ?_) (fun h3 => ?_)
      · refine lv_iload_n hx hb dX4_refuse_59 rfl (lv_at hl 1 rfl) ?_
        exact W.iret (v := w) hx hb hr (fun t ht hW => ⟨(), rfl, by rw [ht]; exact (by rw [cy_no0 σ w h1 h2 h3]; exact hI), hS.F ht⟩) hS.2.2 dX4_refuse_60
      · refine lv_aload_n hx hb dX4_refuse_49 rfl (lv_at hl 0 rfl) ?_
        refine lv_dup hx hb dX4_refuse_50 rfl ?_
        refine cy_getY (v := .int (σ.1 0 5)) hx hb hts hin4 hown hK hI 11 (by decide) (hts (.fieldLink RX4 134 "CustomsYard" "stores" "I") (by decide +kernel)) rfl dX4_refuse_51 ?_
        refine lv_iconst (v := 1) hx hb dX4_refuse_54 (by decide) ?_
        refine lv_iadd hx hb dX4_refuse_55 ?_
        refine cy_putY (v := ((σ.1 0 5) + 1)) hx hb hts hin4 hown hK hI hS 11 5 (by decide) (hts (.fieldLink RX4 134 "CustomsYard" "stores" "I") (by decide +kernel)) rfl (by decide +kernel) rfl dX4_refuse_56 (fun H locs hI hS => ?_)
        refine lv_iload_n hx hb dX4_refuse_59 rfl (lv_at hl 1 rfl) ?_
        exact W.iret (v := w) hx hb hr (fun t ht hW => ⟨(), rfl, by rw [ht]; exact (by rw [show cy_no σ w = cy_i (cy_i σ 0 2 w) 0 5 ((σ.1 0 5) + 1) from by rw [h3]; exact cy_no6 σ]; exact hI), hS.F ht⟩) hS.2.2 dX4_refuse_60
    · refine lv_aload_n hx hb dX4_refuse_30 rfl (lv_at hl 0 rfl) ?_
      refine lv_dup hx hb dX4_refuse_31 rfl ?_
      refine cy_getY (v := .int (σ.1 0 4)) hx hb hts hin4 hown hK hI 10 (by decide) (hts (.fieldLink RX4 131 "CustomsYard" "indexes" "I") (by decide +kernel)) rfl dX4_refuse_32 ?_
      refine lv_iconst (v := 1) hx hb dX4_refuse_35 (by decide) ?_
      refine lv_iadd hx hb dX4_refuse_36 ?_
      refine cy_putY (v := ((σ.1 0 4) + 1)) hx hb hts hin4 hown hK hI hS 10 4 (by decide) (hts (.fieldLink RX4 131 "CustomsYard" "indexes" "I") (by decide +kernel)) rfl (by decide +kernel) rfl dX4_refuse_37 (fun H locs hI hS => ?_)
      refine lv_goto (tgt := 59) hx hb dX4_refuse_40 (by decide) ?_
      refine lv_iload_n hx hb dX4_refuse_59 rfl (lv_at hl 1 rfl) ?_
      exact W.iret (v := w) hx hb hr (fun t ht hW => ⟨(), rfl, by rw [ht]; exact (by rw [show cy_no σ w = cy_i (cy_i σ 0 2 w) 0 4 ((σ.1 0 4) + 1) from by rw [h2]; exact cy_no5 σ]; exact hI), hS.F ht⟩) hS.2.2 dX4_refuse_60
  · refine lv_aload_n hx hb dX4_refuse_11 rfl (lv_at hl 0 rfl) ?_
    refine lv_dup hx hb dX4_refuse_12 rfl ?_
    refine cy_getY (v := .int (σ.1 0 3)) hx hb hts hin4 hown hK hI 9 (by decide) (hts (.fieldLink RX4 128 "CustomsYard" "casts" "I") (by decide +kernel)) rfl dX4_refuse_13 ?_
    refine lv_iconst (v := 1) hx hb dX4_refuse_16 (by decide) ?_
    refine lv_iadd hx hb dX4_refuse_17 ?_
    refine cy_putY (v := ((σ.1 0 3) + 1)) hx hb hts hin4 hown hK hI hS 9 3 (by decide) (hts (.fieldLink RX4 128 "CustomsYard" "casts" "I") (by decide +kernel)) rfl (by decide +kernel) rfl dX4_refuse_18 (fun H locs hI hS => ?_)
    refine lv_goto (tgt := 59) hx hb dX4_refuse_21 (by decide) ?_
    refine lv_iload_n hx hb dX4_refuse_59 rfl (lv_at hl 1 rfl) ?_
    exact W.iret (v := w) hx hb hr (fun t ht hW => ⟨(), rfl, by rw [ht]; exact (by rw [show cy_no σ w = cy_i (cy_i σ 0 2 w) 0 3 ((σ.1 0 3) + 1) from by rw [h1]; exact cy_no4 σ]; exact hI), hS.F ht⟩) hS.2.2 dX4_refuse_60

set_option maxHeartbeats 4000000 in
set_option maxRecDepth 100000 in
theorem c_X4_numbersWith (l : Launch) (D : va_G) (cI cJ cO : ClassId) (z n : Nat) (σ τ : cy_S) (pl : Nat → Int32) (hi : Int32) (ad : Nat → Nat) (hok : cy_ok n σ) (x i : Int32)  : Met l yX4_numbersWith wsX4_numbersWith { frames := 1, cells := 0, slots := 0, locals := 21 } (cy_P D cI cJ cO (fun H => cy_W D z (cy_CT cI cJ cO n n σ τ pl hi ad) ad H) [.ref (ad 0), .int x, .int i]) (cy_M (S := Unit) z (fun _ => some (va_rf (cy_nw n σ ad x i).1)) (fun _ H => cy_W D z (cy_CT cI cJ cO n n (cy_nw n σ ad x i).2 τ pl hi ad) ad H)) 0 0 (fun q => z ≤ q) := by
  refine Met.ofW (cc := cX4_numbersWith) (maxL := 5) (ret := (some (.object "CustomsYard$Numbers"))) (by decide) rfl ?_
  intro p e s m args below meth c s₁ B hml hv
  obtain ⟨rfl, hK, hI⟩ := hv
  have hx := B.exec
  have hb := B.bytes
  have hr := B.returns
  have hts := atoms_spec (ws := wsX4_numbersWith) B.pre
  have hown : s.vm.findClass RX4 = some m.cls := findClass_of_methodNamed B.named
  have hlocks := B.notSynchronized
  have hS : va_S (fun q => z ≤ q) s.heap s.heap [] := va_S.rf
  have hl := lv_entry ([.ref (ad 0), .int x, .int i]) (n := 5) (Nat.le_of_ble_eq_true rfl)
  rw [lg_entry_eq]
  generalize (lg_sl ([.ref (ad 0), .int x, .int i]) ++ List.replicate (5 - (lg_sl ([.ref (ad 0), .int x, .int i])).length) Slot.unset).toArray = ls at hl ⊢
  have hl : lv_has ls 5 [(0, .ref (ad 0)), (1, .int x), (2, .int i)] := hl
  have hin1 := hin1_X4_numbersWith
  have hin4 := hin4_X4_numbersWith
  have h0 := hok.2.1
  have hn := hok.1
  refine lv_aload_n hx hb dX4_numbersWith_0 rfl (lv_at hl 0 rfl) ?_
  refine lv_iload_n hx hb dX4_numbersWith_1 rfl (lv_at hl 1 rfl) ?_
  refine cy_callp (v := va_rf (cy_fd n ad x)) (va_runV (As := [.int x]) (rest := []) ⟨hx, hb, hml, hown, hts⟩ (c_X4_find l D cI cJ cO z n σ τ pl hi ad hok x) (cwV 1 hts gX4_numbersWith_X4_find rfl rfl rfl (by decide +kernel) ⟨Nat.le_of_ble_eq_true rfl, Nat.le_of_ble_eq_true rfl⟩) (cy_preV hK hI (cy_recv hK (hI.1 0 _ cy_CY).1 rfl)) rfl rfl hl.1 rfl (lv_room (Nat.le_of_ble_eq_true rfl)) dX4_numbersWith_2 ⟨Nat.le_of_ble_eq_true rfl, Nat.le_of_ble_eq_true rfl⟩) ?_
  cases b1 : cy_ld n x
  · refine cy_topq (cy_fd_f b1) ?_
    refine lv_astore_nN (lv' := [(3, .null), (0, .ref (ad 0)), (1, .int x), (2, .int i)]) hx hb dX4_numbersWith_5 rfl hl (by decide) rfl (fun ls hl => ?_)
    refine lv_aload_nN hx hb dX4_numbersWith_6 rfl (lv_at hl 0 rfl) ?_
    refine lv_ifnonnullN hx hb dX4_numbersWith_7 ?_
    refine lv_aload_n hx hb dX4_numbersWith_10 rfl (lv_at hl 1 rfl) ?_
    refine lv_bipush (v := -2) hx hb dX4_numbersWith_11 (by decide) ?_
    refine cy_callm (va_runV (As := [.int (-2)]) (rest := []) ⟨hx, hb, hml, hown, hts⟩ (c_X4_refuse l D cI cJ cO z n σ τ pl hi ad (-2)) (cwV 1 hts gX4_numbersWith_X4_refuse rfl rfl rfl (by decide +kernel) ⟨Nat.le_of_ble_eq_true rfl, Nat.le_of_ble_eq_true rfl⟩) (cy_preV hK hI (cy_recv hK (hI.1 0 _ cy_CY).1 rfl)) rfl rfl hl.1 rfl (lv_room (Nat.le_of_ble_eq_true rfl)) dX4_numbersWith_13 ⟨Nat.le_of_ble_eq_true rfl, Nat.le_of_ble_eq_true rfl⟩) hS (fun u H locs hI hz hS => ?_)
    have hI : cy_W D z (cy_CT cI cJ cO n n (cy_no σ (-2)) τ pl hi ad) ad H := hI
    refine W.eq (g2 := F0 m 16 ls [.int (-2)]) rfl ?_
    refine lv_pop hx hb dX4_numbersWith_16 rfl ?_
    refine lv_null hx hb dX4_numbersWith_17 ?_
    have E : cy_nw n σ ad x i = (none, cy_no σ (-2)) := by simp [cy_nw, b1]
    rw [E]
    exact W.aret (v := .null) hx hb hr (Or.inl ⟨_, rfl⟩) (Or.inl rfl) (fun t ht hW => ⟨(), rfl, by rw [ht]; exact hI, hS.F ht⟩) hS.2.2 dX4_numbersWith_18
  · obtain ⟨kx, hkx, rfl⟩ := (cy_ld_iff hn _).mp b1
    have nekx := cy_ne1 (show kx < 2 ^ 31 by omega)
    refine cy_topq (cy_fd_t hn b1 hkx) ?_
    refine lv_astore_n (lv' := [(3, .ref (ad (100 + 2 * kx))), (0, .ref (ad 0)), (1, .int (nI kx)), (2, .int i)]) hx hb dX4_numbersWith_5 rfl hl (by decide) rfl (fun ls hl => ?_)
    refine lv_aload_n hx hb dX4_numbersWith_6 rfl (lv_at hl 0 rfl) ?_
    refine lv_ifnonnull (tgt := 19) hx hb dX4_numbersWith_7 (by decide) ?_
    refine lv_aload_n hx hb dX4_numbersWith_19 rfl (lv_at hl 0 rfl) ?_
    obtain ⟨pkx, hpkx, epkx⟩ := (hok.2.2.1 kx hkx).2.1
    rcases cy_kd3 hok hkx with ⟨kdkx, nukx, sgkx, thkx⟩ | ⟨kdkx, nukx, sgkx, thkx⟩ | ⟨kdkx, nukx, sgkx, thkx⟩
    · refine va_instS (nm := RX1) (cC := D.1 0) hx hb hown (hts (.classLink RX4 61 RX1) (by decide +kernel)) (hK.1.1 0 _ rfl).2 (cy_rv0 hK hI hkx kdkx) dX4_numbersWith_20 ?_
      refine lv_if_eq (tgt := 35) hx hb dX4_numbersWith_23 (by decide) (fun h2 => absurd h2 (by decide)) (fun h2 => ?_)
      refine lv_aload_n hx hb dX4_numbersWith_26 rfl (lv_at hl 0 rfl) ?_
      refine va_castS (nm := RX1) (cC := D.1 0) hx hb hown (hts (.classLink RX4 61 RX1) (by decide +kernel)) (hK.1.1 0 _ rfl).2 (cy_rv0 hK hI hkx kdkx) dX4_numbersWith_27 ?_
      refine lv_astore (lv' := [(4, .ref (ad (100 + 2 * kx))), (3, .ref (ad (100 + 2 * kx))), (0, .ref (ad 0)), (1, .int (nI kx)), (2, .int i)]) hx hb dX4_numbersWith_30 hl (by decide) rfl (fun ls hl => ?_)
      refine lv_goto (tgt := 44) hx hb dX4_numbersWith_32 (by decide) ?_
      refine lv_aload hx hb dX4_numbersWith_44 (lv_at hl 0 rfl) ?_
      refine lv_iload_n hx hb dX4_numbersWith_46 rfl (lv_at hl 4 rfl) ?_
      refine cy_callp (v := .int (cy_b (cy_pl (σ.1 2 kx) i))) (va_runV (As := [.int i]) (rest := []) ⟨hx, hb, hml, hown, hts⟩ (c_X1_hasPlace l D cI cJ cO z n σ τ pl hi ad hok kx hkx kdkx i) (cwV 1 hts gX4_numbersWith_X1_hasPlace rfl rfl rfl (by decide +kernel) ⟨Nat.le_of_ble_eq_true rfl, Nat.le_of_ble_eq_true rfl⟩) (cy_preV hK hI (cy_rv0 hK hI hkx kdkx)) rfl rfl hl.1 rfl (lv_room (Nat.le_of_ble_eq_true rfl)) dX4_numbersWith_47 ⟨Nat.le_of_ble_eq_true rfl, Nat.le_of_ble_eq_true rfl⟩) ?_
      cases b3 : (cy_pl (σ.1 2 kx) i)
      · refine lv_if_ne (tgt := 62) hx hb dX4_numbersWith_50 (by decide) (fun h4 => absurd (by decide) h4) (fun h4 => ?_)
        refine lv_aload_n hx hb dX4_numbersWith_53 rfl (lv_at hl 2 rfl) ?_
        refine lv_bipush (v := -5) hx hb dX4_numbersWith_54 (by decide) ?_
        refine cy_callm (va_runV (As := [.int (-5)]) (rest := []) ⟨hx, hb, hml, hown, hts⟩ (c_X4_refuse l D cI cJ cO z n σ τ pl hi ad (-5)) (cwV 1 hts gX4_numbersWith_X4_refuse rfl rfl rfl (by decide +kernel) ⟨Nat.le_of_ble_eq_true rfl, Nat.le_of_ble_eq_true rfl⟩) (cy_preV hK hI (cy_recv hK (hI.1 0 _ cy_CY).1 rfl)) rfl rfl hl.1 rfl (lv_room (Nat.le_of_ble_eq_true rfl)) dX4_numbersWith_56 ⟨Nat.le_of_ble_eq_true rfl, Nat.le_of_ble_eq_true rfl⟩) hS (fun u H locs hI hz hS => ?_)
        have hI : cy_W D z (cy_CT cI cJ cO n n (cy_no σ (-5)) τ pl hi ad) ad H := hI
        refine W.eq (g2 := F0 m 59 ls [.int (-5)]) rfl ?_
        refine lv_pop hx hb dX4_numbersWith_59 rfl ?_
        refine lv_null hx hb dX4_numbersWith_60 ?_
        have E : cy_nw n σ ad (nI kx) i = (none, cy_no σ (-5)) := by first | (simp [cy_nw, nI_clamp (show kx < 2 ^ 31 by omega), b1, nukx, thkx, b3]; done) | (simp [cy_nw, nI_clamp (show kx < 2 ^ 31 by omega), b1, nukx, thkx, b3]; simp [nekx]; done) | (simp [cy_nw, nI_clamp (show kx < 2 ^ 31 by omega), b1, nukx, thkx, b3, nekx]; done)
        rw [E]
        exact W.aret (v := .null) hx hb hr (Or.inl ⟨_, rfl⟩) (Or.inl rfl) (fun t ht hW => ⟨(), rfl, by rw [ht]; exact hI, hS.F ht⟩) hS.2.2 dX4_numbersWith_61
      · obtain ⟨ji, hji, rfl⟩ := (cy_pl_iff (p := pkx) (by omega) _).mp (by rw [← epkx]; exact b3)
        refine lv_if_ne (tgt := 62) hx hb dX4_numbersWith_50 (by decide) (fun h5 => ?_) (fun h5 => absurd h5 (by decide))
        refine lv_aload hx hb dX4_numbersWith_62 (lv_at hl 0 rfl) ?_
        have E : cy_nw n σ ad (nI kx) (nI ji) = (some (ad (100 + 2 * kx)), σ) := by first | (simp [cy_nw, nI_clamp (show kx < 2 ^ 31 by omega), nI_clamp (show ji < 2 ^ 31 by omega), b1, nukx, thkx, b3]; done) | (simp [cy_nw, nI_clamp (show kx < 2 ^ 31 by omega), nI_clamp (show ji < 2 ^ 31 by omega), b1, nukx, thkx, b3]; simp [nekx]; done) | (simp [cy_nw, nI_clamp (show kx < 2 ^ 31 by omega), nI_clamp (show ji < 2 ^ 31 by omega), b1, nukx, thkx, b3, nekx]; done)
        rw [E]
        exact W.aret (v := .ref (ad (100 + 2 * kx))) hx hb hr (Or.inl ⟨_, rfl⟩) (Or.inr ⟨_, rfl⟩) (fun t ht hW => ⟨(), rfl, by rw [ht]; exact hI, hS.F ht⟩) hS.2.2 dX4_numbersWith_64
    · refine va_instNo (C := RX2) (nm := RX1) hx hb hown (hts (.classLink RX4 61 RX1) (by decide +kernel)) hK.2.1 (cy_rv1 hK hI hkx kdkx) dX4_numbersWith_20 ?_
      refine lv_if_eq (tgt := 35) hx hb dX4_numbersWith_23 (by decide) (fun h6 => ?_) (fun h6 => absurd (by decide) h6)
      refine lv_aload_n hx hb dX4_numbersWith_35 rfl (lv_at hl 1 rfl) ?_
      refine lv_bipush (v := -4) hx hb dX4_numbersWith_36 (by decide) ?_
      refine cy_callm (va_runV (As := [.int (-4)]) (rest := []) ⟨hx, hb, hml, hown, hts⟩ (c_X4_refuse l D cI cJ cO z n σ τ pl hi ad (-4)) (cwV 1 hts gX4_numbersWith_X4_refuse rfl rfl rfl (by decide +kernel) ⟨Nat.le_of_ble_eq_true rfl, Nat.le_of_ble_eq_true rfl⟩) (cy_preV hK hI (cy_recv hK (hI.1 0 _ cy_CY).1 rfl)) rfl rfl hl.1 rfl (lv_room (Nat.le_of_ble_eq_true rfl)) dX4_numbersWith_38 ⟨Nat.le_of_ble_eq_true rfl, Nat.le_of_ble_eq_true rfl⟩) hS (fun u H locs hI hz hS => ?_)
      have hI : cy_W D z (cy_CT cI cJ cO n n (cy_no σ (-4)) τ pl hi ad) ad H := hI
      refine W.eq (g2 := F0 m 41 ls [.int (-4)]) rfl ?_
      refine lv_pop hx hb dX4_numbersWith_41 rfl ?_
      refine lv_null hx hb dX4_numbersWith_42 ?_
      have E : cy_nw n σ ad (nI kx) i = (none, cy_no σ (-4)) := by first | (simp [cy_nw, nI_clamp (show kx < 2 ^ 31 by omega), b1, nukx, thkx]; done) | (simp [cy_nw, nI_clamp (show kx < 2 ^ 31 by omega), b1, nukx, thkx]; simp [nekx]; done) | (simp [cy_nw, nI_clamp (show kx < 2 ^ 31 by omega), b1, nukx, thkx, nekx]; done)
      rw [E]
      exact W.aret (v := .null) hx hb hr (Or.inl ⟨_, rfl⟩) (Or.inl rfl) (fun t ht hW => ⟨(), rfl, by rw [ht]; exact hI, hS.F ht⟩) hS.2.2 dX4_numbersWith_43
    · refine va_instNo (C := RX3) (nm := RX1) hx hb hown (hts (.classLink RX4 61 RX1) (by decide +kernel)) hK.2.2.1 (cy_rv2 hK hI hkx kdkx) dX4_numbersWith_20 ?_
      refine lv_if_eq (tgt := 35) hx hb dX4_numbersWith_23 (by decide) (fun h7 => ?_) (fun h7 => absurd (by decide) h7)
      refine lv_aload_n hx hb dX4_numbersWith_35 rfl (lv_at hl 1 rfl) ?_
      refine lv_bipush (v := -4) hx hb dX4_numbersWith_36 (by decide) ?_
      refine cy_callm (va_runV (As := [.int (-4)]) (rest := []) ⟨hx, hb, hml, hown, hts⟩ (c_X4_refuse l D cI cJ cO z n σ τ pl hi ad (-4)) (cwV 1 hts gX4_numbersWith_X4_refuse rfl rfl rfl (by decide +kernel) ⟨Nat.le_of_ble_eq_true rfl, Nat.le_of_ble_eq_true rfl⟩) (cy_preV hK hI (cy_recv hK (hI.1 0 _ cy_CY).1 rfl)) rfl rfl hl.1 rfl (lv_room (Nat.le_of_ble_eq_true rfl)) dX4_numbersWith_38 ⟨Nat.le_of_ble_eq_true rfl, Nat.le_of_ble_eq_true rfl⟩) hS (fun u H locs hI hz hS => ?_)
      have hI : cy_W D z (cy_CT cI cJ cO n n (cy_no σ (-4)) τ pl hi ad) ad H := hI
      refine W.eq (g2 := F0 m 41 ls [.int (-4)]) rfl ?_
      refine lv_pop hx hb dX4_numbersWith_41 rfl ?_
      refine lv_null hx hb dX4_numbersWith_42 ?_
      have E : cy_nw n σ ad (nI kx) i = (none, cy_no σ (-4)) := by first | (simp [cy_nw, nI_clamp (show kx < 2 ^ 31 by omega), b1, nukx, thkx]; done) | (simp [cy_nw, nI_clamp (show kx < 2 ^ 31 by omega), b1, nukx, thkx]; simp [nekx]; done) | (simp [cy_nw, nI_clamp (show kx < 2 ^ 31 by omega), b1, nukx, thkx, nekx]; done)
      rw [E]
      exact W.aret (v := .null) hx hb hr (Or.inl ⟨_, rfl⟩) (Or.inl rfl) (fun t ht hW => ⟨(), rfl, by rw [ht]; exact hI, hS.F ht⟩) hS.2.2 dX4_numbersWith_43

set_option maxHeartbeats 4000000 in
set_option maxRecDepth 100000 in
theorem c_X4_takeAs (l : Launch) (D : va_G) (cI cJ cO : ClassId) (z n : Nat) (σ τ : cy_S) (pl : Nat → Int32) (hi : Int32) (ad : Nat → Nat) (hok : cy_ok n σ) (k : Nat) (hk : k < n) (v : Int32)  : Met l yX4_takeAs wsX4_takeAs { frames := 2, cells := 0, slots := 0, locals := 41 } (cy_P D cI cJ cO (fun H => cy_W D z (cy_CT cI cJ cO n n σ τ pl hi ad) ad H) [.ref (ad 0), .ref (ad (100 + 2 * k)), .int v]) (cy_M (S := Unit) z (fun _ => some (.int (cy_ta σ k v).1)) (fun _ H => cy_W D z (cy_CT cI cJ cO n n (cy_ta σ k v).2 τ pl hi ad) ad H)) 0 0 (fun q => z ≤ q) := by
  refine Met.ofW (cc := cX4_takeAs) (maxL := 3) (ret := (some .int)) (by decide) rfl ?_
  intro p e s m args below meth c s₁ B hml hv
  obtain ⟨rfl, hK, hI⟩ := hv
  have hx := B.exec
  have hb := B.bytes
  have hr := B.returns
  have hts := atoms_spec (ws := wsX4_takeAs) B.pre
  have hown : s.vm.findClass RX4 = some m.cls := findClass_of_methodNamed B.named
  have hlocks := B.notSynchronized
  have hS : va_S (fun q => z ≤ q) s.heap s.heap [] := va_S.rf
  have hl := lv_entry ([.ref (ad 0), .ref (ad (100 + 2 * k)), .int v]) (n := 3) (Nat.le_of_ble_eq_true rfl)
  rw [lg_entry_eq]
  generalize (lg_sl ([.ref (ad 0), .ref (ad (100 + 2 * k)), .int v]) ++ List.replicate (3 - (lg_sl ([.ref (ad 0), .ref (ad (100 + 2 * k)), .int v])).length) Slot.unset).toArray = ls at hl ⊢
  have hl : lv_has ls 3 [(0, .ref (ad 0)), (1, .ref (ad (100 + 2 * k))), (2, .int v)] := hl
  have hin1 := hin1_X4_takeAs
  have hin2 := hin2_X4_takeAs
  have hin3 := hin3_X4_takeAs
  have hin4 := hin4_X4_takeAs
  have h0 := hok.2.1
  have hn := hok.1
  refine lv_aload_n hx hb dX4_takeAs_0 rfl (lv_at hl 1 rfl) ?_
  refine lv_iload_n hx hb dX4_takeAs_1 rfl (lv_at hl 2 rfl) ?_
  refine cy_callp (v := .int (cy_b (cy_go (σ.1 1 k) v))) (rest := []) (a := (.ref (ad (100 + 2 * k)) :: [.int v] : List Value).toArray) (by 
      rcases cy_kd3 hok hk with hq | hq | hq
      · exact va_runU (As := [.int v]) (rest := []) ⟨hx, hb, hml, hown, hts⟩ (c_X0_goesAs l D cI cJ cO z n σ τ pl hi ad hok k hk v) (va_cwU 1 hts gX4_takeAs_X0_goesAs_u78X1 rfl rfl rfl rfl (by decide +kernel) ⟨Nat.le_of_ble_eq_true rfl, Nat.le_of_ble_eq_true rfl⟩) (cy_preV hK hI (cy_rv0 hK hI hk hq.1)) rfl rfl hl.1 rfl (lv_room (Nat.le_of_ble_eq_true rfl)) dX4_takeAs_2 ⟨Nat.le_of_ble_eq_true rfl, Nat.le_of_ble_eq_true rfl⟩
      · exact va_runU (As := [.int v]) (rest := []) ⟨hx, hb, hml, hown, hts⟩ (c_X0_goesAs l D cI cJ cO z n σ τ pl hi ad hok k hk v) (va_cwU 1 hts gX4_takeAs_X0_goesAs_u78X2 rfl rfl rfl rfl (by decide +kernel) ⟨Nat.le_of_ble_eq_true rfl, Nat.le_of_ble_eq_true rfl⟩) (cy_preV hK hI (cy_rv1 hK hI hk hq.1)) rfl rfl hl.1 rfl (lv_room (Nat.le_of_ble_eq_true rfl)) dX4_takeAs_2 ⟨Nat.le_of_ble_eq_true rfl, Nat.le_of_ble_eq_true rfl⟩
      · exact va_runU (As := [.int v]) (rest := []) ⟨hx, hb, hml, hown, hts⟩ (c_X0_goesAs l D cI cJ cO z n σ τ pl hi ad hok k hk v) (va_cwU 1 hts gX4_takeAs_X0_goesAs_u78X3 rfl rfl rfl rfl (by decide +kernel) ⟨Nat.le_of_ble_eq_true rfl, Nat.le_of_ble_eq_true rfl⟩) (cy_preV hK hI (cy_rv2 hK hI hk hq.1)) rfl rfl hl.1 rfl (lv_room (Nat.le_of_ble_eq_true rfl)) dX4_takeAs_2 ⟨Nat.le_of_ble_eq_true rfl, Nat.le_of_ble_eq_true rfl⟩) ?_
  cases b1 : (cy_go (σ.1 1 k) v)
  · refine lv_if_eq (tgt := 16) hx hb dX4_takeAs_5 (by decide) (fun h2 => ?_) (fun h2 => absurd (by decide) h2)
    refine lv_aload_n hx hb dX4_takeAs_16 rfl (lv_at hl 0 rfl) ?_
    refine lv_bipush (v := -4) hx hb dX4_takeAs_17 (by decide) ?_
    refine cy_callm (va_runV (As := [.int (-4)]) (rest := []) ⟨hx, hb, hml, hown, hts⟩ (c_X4_refuse l D cI cJ cO z n σ τ pl hi ad (-4)) (cwV 1 hts gX4_takeAs_X4_refuse rfl rfl rfl (by decide +kernel) ⟨Nat.le_of_ble_eq_true rfl, Nat.le_of_ble_eq_true rfl⟩) (cy_preV hK hI (cy_recv hK (hI.1 0 _ cy_CY).1 rfl)) rfl rfl hl.1 rfl (lv_room (Nat.le_of_ble_eq_true rfl)) dX4_takeAs_19 ⟨Nat.le_of_ble_eq_true rfl, Nat.le_of_ble_eq_true rfl⟩) hS (fun u H locs hI hz hS => ?_)
    have hI : cy_W D z (cy_CT cI cJ cO n n (cy_no σ (-4)) τ pl hi ad) ad H := hI
    refine W.eq (g2 := F0 m 22 ls [.int (-4)]) rfl ?_
    have E : cy_ta σ k v = ((-4), cy_no σ (-4)) := by simp [cy_ta, b1]
    rw [E]
    exact W.iret (v := (-4)) hx hb hr (fun t ht hW => ⟨(), rfl, by rw [ht]; exact hI, hS.F ht⟩) hS.2.2 dX4_takeAs_22
  · refine lv_if_eq (tgt := 16) hx hb dX4_takeAs_5 (by decide) (fun h3 => absurd h3 (by decide)) (fun h3 => ?_)
    refine lv_aload_n hx hb dX4_takeAs_8 rfl (lv_at hl 1 rfl) ?_
    refine lv_iload_n hx hb dX4_takeAs_9 rfl (lv_at hl 2 rfl) ?_
    refine cy_callp (v := .int (cy_co σ k v)) (rest := []) (a := (.ref (ad (100 + 2 * k)) :: [.int v] : List Value).toArray) (by 
        rcases cy_kd3 hok hk with hq | hq | hq
        · exact va_runU (As := [.int v]) (rest := []) ⟨hx, hb, hml, hown, hts⟩ (c_X1_comesAs l D cI cJ cO z n σ τ pl hi ad hok k hk hq.1 hq.2.2.1 v) (va_cwA 1 hts gX4_takeAs_X1_comesAs_u125X1 rfl rfl rfl hK.dC (by decide +kernel) ⟨Nat.le_of_ble_eq_true rfl, Nat.le_of_ble_eq_true rfl⟩) (cy_preV hK hI (cy_rv0 hK hI hk hq.1)) rfl rfl hl.1 rfl (lv_room (Nat.le_of_ble_eq_true rfl)) dX4_takeAs_10 ⟨Nat.le_of_ble_eq_true rfl, Nat.le_of_ble_eq_true rfl⟩
        · exact va_runU (As := [.int v]) (rest := []) ⟨hx, hb, hml, hown, hts⟩ (c_X2_comesAs l D cI cJ cO z n σ τ pl hi ad hok k hk hq.1 hq.2.2.1 v) (va_cwA 1 hts gX4_takeAs_X2_comesAs_u125X2 rfl rfl rfl hK.dC (by decide +kernel) ⟨Nat.le_of_ble_eq_true rfl, Nat.le_of_ble_eq_true rfl⟩) (cy_preV hK hI (cy_rv1 hK hI hk hq.1)) rfl rfl hl.1 rfl (lv_room (Nat.le_of_ble_eq_true rfl)) dX4_takeAs_10 ⟨Nat.le_of_ble_eq_true rfl, Nat.le_of_ble_eq_true rfl⟩
        · exact va_runU (As := [.int v]) (rest := []) ⟨hx, hb, hml, hown, hts⟩ (c_X3_comesAs l D cI cJ cO z n σ τ pl hi ad hok k hk hq.1 hq.2.2.1 v) (va_cwA 1 hts gX4_takeAs_X3_comesAs_u125X3 rfl rfl rfl hK.dC (by decide +kernel) ⟨Nat.le_of_ble_eq_true rfl, Nat.le_of_ble_eq_true rfl⟩) (cy_preV hK hI (cy_rv2 hK hI hk hq.1)) rfl rfl hl.1 rfl (lv_room (Nat.le_of_ble_eq_true rfl)) dX4_takeAs_10 ⟨Nat.le_of_ble_eq_true rfl, Nat.le_of_ble_eq_true rfl⟩) ?_
    refine lv_goto (tgt := 22) hx hb dX4_takeAs_13 (by decide) ?_
    have E : cy_ta σ k v = (cy_co σ k v, σ) := by simp [cy_ta, b1]
    rw [E]
    exact W.iret (v := cy_co σ k v) hx hb hr (fun t ht hW => ⟨(), rfl, by rw [ht]; exact hI, hS.F ht⟩) hS.2.2 dX4_takeAs_22

set_option maxHeartbeats 4000000 in
set_option maxRecDepth 100000 in
theorem c_X4_lineFor (l : Launch) (D : va_G) (cI cJ cO : ClassId) (z n : Nat) (σ τ : cy_S) (pl : Nat → Int32) (hi : Int32) (ad : Nat → Nat) (hok : cy_ok n σ) (k : Nat) (hk : k < n) : Met l yX4_lineFor wsX4_lineFor { frames := 1, cells := 0, slots := 0, locals := 21 } (cy_P D cI cJ cO (fun H => cy_W D z (cy_CT cI cJ cO n n σ τ pl hi ad) ad H) [.ref (ad 0), .ref (ad (100 + 2 * k))]) (cy_Q (.int (cy_li σ k))) 0 0 (fun _ => False) := by
  refine Met.ofW (cc := cX4_lineFor) (maxL := 3) (ret := (some .int)) (by decide) rfl ?_
  intro p e s m args below meth c s₁ B hml hv
  obtain ⟨rfl, hK, hI⟩ := hv
  have hx := B.exec
  have hb := B.bytes
  have hr := B.returns
  have hts := atoms_spec (ws := wsX4_lineFor) B.pre
  have hown : s.vm.findClass RX4 = some m.cls := findClass_of_methodNamed B.named
  have hlocks := B.notSynchronized
  have hl := lv_entry ([.ref (ad 0), .ref (ad (100 + 2 * k))]) (n := 3) (Nat.le_of_ble_eq_true rfl)
  rw [lg_entry_eq]
  generalize (lg_sl ([.ref (ad 0), .ref (ad (100 + 2 * k))]) ++ List.replicate (3 - (lg_sl ([.ref (ad 0), .ref (ad (100 + 2 * k))])).length) Slot.unset).toArray = ls at hl ⊢
  have hl : lv_has ls 3 [(0, .ref (ad 0)), (1, .ref (ad (100 + 2 * k)))] := hl
  have hin1 := hin1_X4_lineFor
  have hin2 := hin2_X4_lineFor
  have hin3 := hin3_X4_lineFor
  have hin4 := hin4_X4_lineFor
  obtain ⟨q, hq, eq⟩ := hok.2.2.2.2
  refine lv_iconst (v := 0) hx hb dX4_lineFor_0 (by decide) ?_
  refine lv_istore_n (lv' := [(2, .int 0), (0, .ref (ad 0)), (1, .ref (ad (100 + 2 * k)))]) hx hb dX4_lineFor_1 rfl hl (by decide) rfl (fun ls hl => ?_)
  have loop : ∀ (f i : Nat) (ls : Array Slot), i + f = q → lv_has ls 3 [(2, .int (nI i)), (0, .ref (ad 0)), (1, .ref (ad (100 + 2 * k)))] → cy_li σ k = cy_lf σ k f i → W p l e (headSpec wsX4_lineFor { frames := 1, cells := 0, slots := 0, locals := 21 }).room s m #[Value.ref (ad 0), Value.ref (ad (100 + 2 * k))] below meth c s.heap [] 0 0 (MQ below (cy_Q (.int (cy_li σ k))) #[Value.ref (ad 0), Value.ref (ad (100 + 2 * k))] s 0 0 (fun _ => False)) (F0 m 2 ls []) := by
    intro f
    induction f with
    | zero =>
      intro i ls hif hl hE
      obtain rfl : i = q := by omega
      refine lv_iload_n hx hb dX4_lineFor_2 rfl (lv_at hl 0 rfl) ?_
      refine lv_aload_n hx hb dX4_lineFor_3 rfl (lv_at hl 1 rfl) ?_
      refine cy_getY (v := .int (σ.1 0 1)) hx hb hts hin4 hown hK hI 7 (by decide) (hts (.fieldLink RX4 119 "CustomsYard" "lineCount" "I") (by decide +kernel)) rfl dX4_lineFor_4 ?_
      refine cy_topi (y := nI i) (eq) ?_
      refine lv_icmp_ge (tgt := 31) hx hb dX4_lineFor_7 (by decide) (fun h11 => ?_) (fun h11 => absurd (nI_le (Nat.le_refl _) (by omega)) h11)
      refine lv_iconst (v := -1) hx hb dX4_lineFor_31 (by decide) ?_
      exact W.iret (v := (-1)) hx hb hr (fun t ht hW => ⟨congrArg (fun q => Outcome.returned (some (Value.int q))) (by rw [hE]; rfl), ht⟩) (fun q h => by cases h) dX4_lineFor_32
    | succ f ih =>
      intro i ls hif hl hE
      refine lv_iload_n hx hb dX4_lineFor_2 rfl (lv_at hl 0 rfl) ?_
      refine lv_aload_n hx hb dX4_lineFor_3 rfl (lv_at hl 1 rfl) ?_
      refine cy_getY (v := .int (σ.1 0 1)) hx hb hts hin4 hown hK hI 7 (by decide) (hts (.fieldLink RX4 119 "CustomsYard" "lineCount" "I") (by decide +kernel)) rfl dX4_lineFor_4 ?_
      refine cy_topi (y := nI q) (eq) ?_
      refine lv_icmp_ge (tgt := 31) hx hb dX4_lineFor_7 (by decide) (fun h21 => absurd h21 (nI_ge (by omega) (by omega))) (fun h21 => ?_)
      refine lv_aload_n hx hb dX4_lineFor_10 rfl (lv_at hl 2 rfl) ?_
      refine lv_aload_n hx hb dX4_lineFor_11 rfl (lv_at hl 1 rfl) ?_
      refine cy_getY (v := .ref (ad 5)) hx hb hts hin4 hown hK hI 5 (by decide) (hts (.fieldLink RX4 26 "CustomsYard" "lineViews" "[I") (by decide +kernel)) rfl dX4_lineFor_12 ?_
      refine lv_iload_n hx hb dX4_lineFor_15 rfl (lv_at hl 0 rfl) ?_
      refine cy_iald (f := σ.1 7) (k := i) hx hb hK.1 hI 0 (x := 5) rfl rfl (by omega) (by decide) dX4_lineFor_16 ?_
      refine cy_callp (v := .int (cy_b (cy_go (σ.1 1 k) (σ.1 7 i)))) (rest := []) (a := (.ref (ad (100 + 2 * k)) :: [.int (σ.1 7 i)] : List Value).toArray) (by 
          rcases cy_kd3 hok hk with hq | hq | hq
          · exact va_runU (As := [.int (σ.1 7 i)]) (rest := []) ⟨hx, hb, hml, hown, hts⟩ (c_X0_goesAs l D cI cJ cO z n σ τ pl hi ad hok k hk (σ.1 7 i)) (va_cwU 1 hts gX4_lineFor_X0_goesAs_u78X1 rfl rfl rfl rfl (by decide +kernel) ⟨Nat.le_of_ble_eq_true rfl, Nat.le_of_ble_eq_true rfl⟩) (cy_preV hK hI (cy_rv0 hK hI hk hq.1)) rfl rfl hl.1 rfl (lv_room (Nat.le_of_ble_eq_true rfl)) dX4_lineFor_17 ⟨Nat.le_of_ble_eq_true rfl, Nat.le_of_ble_eq_true rfl⟩
          · exact va_runU (As := [.int (σ.1 7 i)]) (rest := []) ⟨hx, hb, hml, hown, hts⟩ (c_X0_goesAs l D cI cJ cO z n σ τ pl hi ad hok k hk (σ.1 7 i)) (va_cwU 1 hts gX4_lineFor_X0_goesAs_u78X2 rfl rfl rfl rfl (by decide +kernel) ⟨Nat.le_of_ble_eq_true rfl, Nat.le_of_ble_eq_true rfl⟩) (cy_preV hK hI (cy_rv1 hK hI hk hq.1)) rfl rfl hl.1 rfl (lv_room (Nat.le_of_ble_eq_true rfl)) dX4_lineFor_17 ⟨Nat.le_of_ble_eq_true rfl, Nat.le_of_ble_eq_true rfl⟩
          · exact va_runU (As := [.int (σ.1 7 i)]) (rest := []) ⟨hx, hb, hml, hown, hts⟩ (c_X0_goesAs l D cI cJ cO z n σ τ pl hi ad hok k hk (σ.1 7 i)) (va_cwU 1 hts gX4_lineFor_X0_goesAs_u78X3 rfl rfl rfl rfl (by decide +kernel) ⟨Nat.le_of_ble_eq_true rfl, Nat.le_of_ble_eq_true rfl⟩) (cy_preV hK hI (cy_rv2 hK hI hk hq.1)) rfl rfl hl.1 rfl (lv_room (Nat.le_of_ble_eq_true rfl)) dX4_lineFor_17 ⟨Nat.le_of_ble_eq_true rfl, Nat.le_of_ble_eq_true rfl⟩) ?_
      cases b22 : (cy_go (σ.1 1 k) (σ.1 7 i))
      · refine lv_if_eq (tgt := 25) hx hb dX4_lineFor_20 (by decide) (fun h23 => ?_) (fun h23 => absurd (by decide) h23)
        refine lv_iinc (v := nI (i + 1)) (lv' := [(2, .int (nI (i + 1))), (0, .ref (ad 0)), (1, .ref (ad (100 + 2 * k)))]) hx hb dX4_lineFor_25 hl (k := 0) rfl (nI_1 _) (by decide) rfl (fun ls hl => ?_)
        refine lv_goto (tgt := 2) hx hb dX4_lineFor_28 (by decide) ?_
        exact ih (i + 1) ls (by omega) (lv_sub hl [0, 1, 2] rfl) (by rw [hE]; show (if _ then _ else _) = _; rw [if_neg (by rw [b22]; decide)])
      · refine lv_if_eq (tgt := 25) hx hb dX4_lineFor_20 (by decide) (fun h24 => absurd h24 (by decide)) (fun h24 => ?_)
        refine lv_iload_n hx hb dX4_lineFor_23 rfl (lv_at hl 0 rfl) ?_
        exact W.iret (v := nI i) hx hb hr (fun t ht hW => ⟨congrArg (fun q => Outcome.returned (some (Value.int q))) (by rw [hE]; show (nI i) = (if _ then _ else _); rw [if_pos b22]), ht⟩) (fun q h => by cases h) dX4_lineFor_24
  exact loop q 0 ls (by omega) hl (by unfold cy_li; rw [eq, nI_clamp (by omega)])

set_option maxHeartbeats 4000000 in
set_option maxRecDepth 100000 in
theorem c_X4_refused (l : Launch) (D : va_G) (cI cJ cO : ClassId) (z n : Nat) (σ τ : cy_S) (pl : Nat → Int32) (hi : Int32) (ad : Nat → Nat)  : Met l yX4_refused wsX4_refused { frames := 0, cells := 0, slots := 0, locals := 0 } (cy_P D cI cJ cO (fun H => cy_W D z (cy_CT cI cJ cO n n σ τ pl hi ad) ad H) [.ref (ad 0)]) (cy_Q (.int (σ.1 0 2))) 0 0 (fun _ => False) := by
  refine Met.ofW (cc := cX4_refused) (maxL := 1) (ret := (some .int)) (by decide) rfl ?_
  intro p e s m args below meth c s₁ B hml hv
  obtain ⟨rfl, hK, hI⟩ := hv
  have hx := B.exec
  have hb := B.bytes
  have hr := B.returns
  have hts := atoms_spec (ws := wsX4_refused) B.pre
  have hown : s.vm.findClass RX4 = some m.cls := findClass_of_methodNamed B.named
  have hlocks := B.notSynchronized
  have hl := lv_entry ([.ref (ad 0)]) (n := 1) (Nat.le_of_ble_eq_true rfl)
  rw [lg_entry_eq]
  generalize (lg_sl ([.ref (ad 0)]) ++ List.replicate (1 - (lg_sl ([.ref (ad 0)])).length) Slot.unset).toArray = ls at hl ⊢
  have hl : lv_has ls 1 [(0, .ref (ad 0))] := hl
  have hin4 := hin4_X4_refused
  refine lv_aload_n hx hb dX4_refused_0 rfl (lv_at hl 0 rfl) ?_
  refine cy_getY (v := .int (σ.1 0 2)) hx hb hts hin4 hown hK hI 8 (by decide) (hts (.fieldLink RX4 38 "CustomsYard" "refusal" "I") (by decide +kernel)) rfl dX4_refused_1 ?_
  exact W.iret (v := σ.1 0 2) hx hb hr (fun t ht hW => ⟨congrArg (fun q => Outcome.returned (some (Value.int q))) (rfl), ht⟩) (fun q h => by cases h) dX4_refused_4

set_option maxHeartbeats 4000000 in
set_option maxRecDepth 100000 in
theorem c_X4_count (l : Launch) (D : va_G) (cI cJ cO : ClassId) (z n : Nat) (σ τ : cy_S) (pl : Nat → Int32) (hi : Int32) (ad : Nat → Nat) (v : Int32)  : Met l yX4_count wsX4_count { frames := 0, cells := 0, slots := 0, locals := 0 } (cy_P D cI cJ cO (fun H => cy_W D z (cy_CT cI cJ cO n n σ τ pl hi ad) ad H) [.ref (ad 0), .int v]) (cy_Q (.int (cy_cn σ v))) 0 0 (fun _ => False) := by
  refine Met.ofW (cc := cX4_count) (maxL := 2) (ret := (some .int)) (by decide) rfl ?_
  intro p e s m args below meth c s₁ B hml hv
  obtain ⟨rfl, hK, hI⟩ := hv
  have hx := B.exec
  have hb := B.bytes
  have hr := B.returns
  have hts := atoms_spec (ws := wsX4_count) B.pre
  have hown : s.vm.findClass RX4 = some m.cls := findClass_of_methodNamed B.named
  have hlocks := B.notSynchronized
  have hl := lv_entry ([.ref (ad 0), .int v]) (n := 2) (Nat.le_of_ble_eq_true rfl)
  rw [lg_entry_eq]
  generalize (lg_sl ([.ref (ad 0), .int v]) ++ List.replicate (2 - (lg_sl ([.ref (ad 0), .int v])).length) Slot.unset).toArray = ls at hl ⊢
  have hl : lv_has ls 2 [(0, .ref (ad 0)), (1, .int v)] := hl
  have hin4 := hin4_X4_count
  refine lv_iload_n hx hb dX4_count_0 rfl (lv_at hl 1 rfl) ?_
  rcases cy_sw0_5 v with w1 | w1 | w1 | w1 | w1 | w1 | ⟨w1, w1n0, w1n1, w1n2, w1n3, w1n4, w1n5⟩
  · refine lv_tableIn (off := 39) (tgt := 40) hx hb dX4_count_1 (by rw [w1]; decide) (by rw [w1]; decide) (by rw [w1]; rfl) (by decide) ?_
    refine lv_aload_n hx hb dX4_count_40 rfl (lv_at hl 0 rfl) ?_
    refine cy_getY (v := .int (σ.1 0 0)) hx hb hts hin4 hown hK hI 1 (by decide) (hts (.fieldLink RX4 49 "CustomsYard" "loadCount" "I") (by decide +kernel)) rfl dX4_count_41 ?_
    exact W.iret (v := σ.1 0 0) hx hb hr (fun t ht hW => ⟨congrArg (fun q => Outcome.returned (some (Value.int q))) (by subst w1; simp [cy_cn]), ht⟩) (fun q h => by cases h) dX4_count_44
  · refine lv_tableIn (off := 44) (tgt := 45) hx hb dX4_count_1 (by rw [w1]; decide) (by rw [w1]; decide) (by rw [w1]; rfl) (by decide) ?_
    refine lv_aload_n hx hb dX4_count_45 rfl (lv_at hl 0 rfl) ?_
    refine cy_getY (v := .int (σ.1 0 3)) hx hb hts hin4 hown hK hI 9 (by decide) (hts (.fieldLink RX4 128 "CustomsYard" "casts" "I") (by decide +kernel)) rfl dX4_count_46 ?_
    exact W.iret (v := σ.1 0 3) hx hb hr (fun t ht hW => ⟨congrArg (fun q => Outcome.returned (some (Value.int q))) (by subst w1; simp [cy_cn]), ht⟩) (fun q h => by cases h) dX4_count_49
  · refine lv_tableIn (off := 49) (tgt := 50) hx hb dX4_count_1 (by rw [w1]; decide) (by rw [w1]; decide) (by rw [w1]; rfl) (by decide) ?_
    refine lv_aload_n hx hb dX4_count_50 rfl (lv_at hl 0 rfl) ?_
    refine cy_getY (v := .int (σ.1 0 4)) hx hb hts hin4 hown hK hI 10 (by decide) (hts (.fieldLink RX4 131 "CustomsYard" "indexes" "I") (by decide +kernel)) rfl dX4_count_51 ?_
    exact W.iret (v := σ.1 0 4) hx hb hr (fun t ht hW => ⟨congrArg (fun q => Outcome.returned (some (Value.int q))) (by subst w1; simp [cy_cn]), ht⟩) (fun q h => by cases h) dX4_count_54
  · refine lv_tableIn (off := 54) (tgt := 55) hx hb dX4_count_1 (by rw [w1]; decide) (by rw [w1]; decide) (by rw [w1]; rfl) (by decide) ?_
    refine lv_aload_n hx hb dX4_count_55 rfl (lv_at hl 0 rfl) ?_
    refine cy_getY (v := .int (σ.1 0 5)) hx hb hts hin4 hown hK hI 11 (by decide) (hts (.fieldLink RX4 134 "CustomsYard" "stores" "I") (by decide +kernel)) rfl dX4_count_56 ?_
    exact W.iret (v := σ.1 0 5) hx hb hr (fun t ht hW => ⟨congrArg (fun q => Outcome.returned (some (Value.int q))) (by subst w1; simp [cy_cn]), ht⟩) (fun q h => by cases h) dX4_count_59
  · refine lv_tableIn (off := 59) (tgt := 60) hx hb dX4_count_1 (by rw [w1]; decide) (by rw [w1]; decide) (by rw [w1]; rfl) (by decide) ?_
    refine lv_aload_n hx hb dX4_count_60 rfl (lv_at hl 0 rfl) ?_
    refine cy_getY (v := .int (σ.1 0 6)) hx hb hts hin4 hown hK hI 12 (by decide) (hts (.fieldLink RX4 116 "CustomsYard" "turnedAway" "I") (by decide +kernel)) rfl dX4_count_61 ?_
    exact W.iret (v := σ.1 0 6) hx hb hr (fun t ht hW => ⟨congrArg (fun q => Outcome.returned (some (Value.int q))) (by subst w1; simp [cy_cn]), ht⟩) (fun q h => by cases h) dX4_count_64
  · refine lv_tableIn (off := 64) (tgt := 65) hx hb dX4_count_1 (by rw [w1]; decide) (by rw [w1]; decide) (by rw [w1]; rfl) (by decide) ?_
    refine lv_aload_n hx hb dX4_count_65 rfl (lv_at hl 0 rfl) ?_
    refine cy_getY (v := .int (σ.1 0 1)) hx hb hts hin4 hown hK hI 7 (by decide) (hts (.fieldLink RX4 119 "CustomsYard" "lineCount" "I") (by decide +kernel)) rfl dX4_count_66 ?_
    exact W.iret (v := σ.1 0 1) hx hb hr (fun t ht hW => ⟨congrArg (fun q => Outcome.returned (some (Value.int q))) (by subst w1; simp [cy_cn]), ht⟩) (fun q h => by cases h) dX4_count_69
  · refine lv_tableOut (tgt := 70) hx hb dX4_count_1 w1 (by decide) ?_
    refine lv_bipush (v := -2) hx hb dX4_count_70 (by decide) ?_
    exact W.iret (v := (-2)) hx hb hr (fun t ht hW => ⟨congrArg (fun q => Outcome.returned (some (Value.int q))) (by simp [cy_cn, w1n0, w1n1, w1n2, w1n3, w1n4, w1n5]), ht⟩) (fun q h => by cases h) dX4_count_72
