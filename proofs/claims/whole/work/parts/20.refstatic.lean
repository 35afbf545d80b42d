set_option maxHeartbeats 4000000 in
set_option maxRecDepth 100000 in
theorem c_X5_isIn (l : Launch) (a b c0 : Int32)  : Met l yX5_isIn wsX5_isIn { frames := 0, cells := 0, slots := 0, locals := 0 } (fun zz _ => zz = ([.int a, .int b, .int c0] : List Value).toArray) (cy_Q (.int (cy_b (cy_isIn a b c0)))) 0 0 (fun _ => False) := by
  refine Met.ofW (cc := cX5_isIn) (maxL := 3) (ret := (some .boolean)) (by decide) rfl ?_
  intro p e s m args below meth c s₁ B hml hv
  have hv : args = ([.int a, .int b, .int c0] : List Value).toArray := hv
  subst hv
  have hx := B.exec
  have hb := B.bytes
  have hr := B.returns
  have hts := atoms_spec (ws := wsX5_isIn) B.pre
  have hown : s.vm.findClass RX5 = some m.cls := findClass_of_methodNamed B.named
  have hlocks := B.notSynchronized
  have hl := lv_entry ([.int a, .int b, .int c0]) (n := 3) (Nat.le_of_ble_eq_true rfl)
  rw [lg_entry_eq]
  generalize (lg_sl ([.int a, .int b, .int c0]) ++ List.replicate (3 - (lg_sl ([.int a, .int b, .int c0])).length) Slot.unset).toArray = ls at hl ⊢
  have hl : lv_has ls 3 [(0, .int a), (1, .int b), (2, .int c0)] := hl
  refine lv_iload_n hx hb dX5_isIn_0 rfl (lv_at hl 0 rfl) ?_
  refine lv_iload_n hx hb dX5_isIn_1 rfl (lv_at hl 1 rfl) ?_
  refine lv_icmp_lt (tgt := 14) hx hb dX5_isIn_2 (by decide) (fun h1 => ?_) (fun h1 => ?_)
  · refine lv_iconst (v := 0) hx hb dX5_isIn_14 (by decide) ?_
    exact W.zret (v := 0) hx hb hr (rfl) (fun t ht hW => ⟨congrArg (fun q => Outcome.returned (some (Value.int q))) (by simp [cy_isIn, cy_b, h1]), ht⟩) (fun q h => by cases h) dX5_isIn_15
  · refine lv_iload_n hx hb dX5_isIn_5 rfl (lv_at hl 0 rfl) ?_
    refine lv_iload_n hx hb dX5_isIn_6 rfl (lv_at hl 2 rfl) ?_
    refine lv_icmp_gt (tgt := 14) hx hb dX5_isIn_7 (by decide) (fun h2 => ?_) (fun h2 => ?_)
    · refine lv_iconst (v := 0) hx hb dX5_isIn_14 (by decide) ?_
      exact W.zret (v := 0) hx hb hr (rfl) (fun t ht hW => ⟨congrArg (fun q => Outcome.returned (some (Value.int q))) (by simp [cy_isIn, cy_b, h1, h2]), ht⟩) (fun q h => by cases h) dX5_isIn_15
    · refine lv_iconst (v := 1) hx hb dX5_isIn_10 (by decide) ?_
      refine lv_goto (tgt := 15) hx hb dX5_isIn_11 (by decide) ?_
      exact W.zret (v := 1) hx hb hr (rfl) (fun t ht hW => ⟨congrArg (fun q => Outcome.returned (some (Value.int q))) (by simp [cy_isIn, cy_b, h1, h2]), ht⟩) (fun q h => by cases h) dX5_isIn_15

set_option maxHeartbeats 4000000 in
set_option maxRecDepth 100000 in
theorem c_X5_isView (l : Launch) (v : Int32)  : Met l yX5_isView wsX5_isView { frames := 1, cells := 0, slots := 0, locals := 22 } (fun zz _ => zz = ([.int v] : List Value).toArray) (cy_Q (.int (cy_b (cy_vw v)))) 0 0 (fun _ => False) := by
  refine Met.ofW (cc := cX5_isView) (maxL := 1) (ret := (some .boolean)) (by decide) rfl ?_
  intro p e s m args below meth c s₁ B hml hv
  have hv : args = ([.int v] : List Value).toArray := hv
  subst hv
  have hx := B.exec
  have hb := B.bytes
  have hr := B.returns
  have hts := atoms_spec (ws := wsX5_isView) B.pre
  have hown : s.vm.findClass RX5 = some m.cls := findClass_of_methodNamed B.named
  have hlocks := B.notSynchronized
  have hl := lv_entry ([.int v]) (n := 1) (Nat.le_of_ble_eq_true rfl)
  rw [lg_entry_eq]
  generalize (lg_sl ([.int v]) ++ List.replicate (1 - (lg_sl ([.int v])).length) Slot.unset).toArray = ls at hl ⊢
  have hl : lv_has ls 1 [(0, .int v)] := hl
  refine lv_iload_n hx hb dX5_isView_0 rfl (lv_at hl 0 rfl) ?_
  refine lv_iconst (v := 0) hx hb dX5_isView_1 (by decide) ?_
  refine lv_bipush (v := 13) hx hb dX5_isView_2 (by decide) ?_
  refine cy_callp (v := .int (cy_b (cy_isIn v 0 13))) (va_runS (As := [.int v, .int 0, .int 13]) (rest := []) ⟨hx, hb, hml, hown, hts⟩ (c_X5_isIn l v 0 13) (va_cwS 3 hts gX5_isView_X5_isIn rfl rfl rfl (by decide +kernel) ⟨Nat.le_of_ble_eq_true rfl, Nat.le_of_ble_eq_true rfl⟩) preEq rfl rfl hl.1 rfl (lv_room (Nat.le_of_ble_eq_true rfl)) dX5_isView_4 ⟨Nat.le_of_ble_eq_true rfl, Nat.le_of_ble_eq_true rfl⟩) ?_
  exact W.zret (v := cy_b (cy_isIn v 0 13)) hx hb hr (cy_nb _) (fun t ht hW => ⟨congrArg (fun q => Outcome.returned (some (Value.int q))) (rfl), ht⟩) (fun q h => by cases h) dX5_isView_7

set_option maxHeartbeats 4000000 in
set_option maxRecDepth 100000 in
theorem c_X5_isSingle (l : Launch) (v : Int32)  : Met l yX5_isSingle wsX5_isSingle { frames := 1, cells := 0, slots := 0, locals := 22 } (fun zz _ => zz = ([.int v] : List Value).toArray) (cy_Q (.int (cy_b (cy_sg v)))) 0 0 (fun _ => False) := by
  refine Met.ofW (cc := cX5_isSingle) (maxL := 1) (ret := (some .boolean)) (by decide) rfl ?_
  intro p e s m args below meth c s₁ B hml hv
  have hv : args = ([.int v] : List Value).toArray := hv
  subst hv
  have hx := B.exec
  have hb := B.bytes
  have hr := B.returns
  have hts := atoms_spec (ws := wsX5_isSingle) B.pre
  have hown : s.vm.findClass RX5 = some m.cls := findClass_of_methodNamed B.named
  have hlocks := B.notSynchronized
  have hl := lv_entry ([.int v]) (n := 1) (Nat.le_of_ble_eq_true rfl)
  rw [lg_entry_eq]
  generalize (lg_sl ([.int v]) ++ List.replicate (1 - (lg_sl ([.int v])).length) Slot.unset).toArray = ls at hl ⊢
  have hl : lv_has ls 1 [(0, .int v)] := hl
  refine lv_iload_n hx hb dX5_isSingle_0 rfl (lv_at hl 0 rfl) ?_
  refine lv_iconst (v := 4) hx hb dX5_isSingle_1 (by decide) ?_
  refine lv_bipush (v := 6) hx hb dX5_isSingle_2 (by decide) ?_
  refine cy_callp (v := .int (cy_b (cy_isIn v 4 6))) (va_runS (As := [.int v, .int 4, .int 6]) (rest := []) ⟨hx, hb, hml, hown, hts⟩ (c_X5_isIn l v 4 6) (va_cwS 3 hts gX5_isSingle_X5_isIn rfl rfl rfl (by decide +kernel) ⟨Nat.le_of_ble_eq_true rfl, Nat.le_of_ble_eq_true rfl⟩) preEq rfl rfl hl.1 rfl (lv_room (Nat.le_of_ble_eq_true rfl)) dX5_isSingle_4 ⟨Nat.le_of_ble_eq_true rfl, Nat.le_of_ble_eq_true rfl⟩) ?_
  exact W.zret (v := cy_b (cy_isIn v 4 6)) hx hb hr (cy_nb _) (fun t ht hW => ⟨congrArg (fun q => Outcome.returned (some (Value.int q))) (rfl), ht⟩) (fun q h => by cases h) dX5_isSingle_7

set_option maxHeartbeats 4000000 in
set_option maxRecDepth 100000 in
theorem c_X5_isOfNumbers (l : Launch) (v : Int32)  : Met l yX5_isOfNumbers wsX5_isOfNumbers { frames := 1, cells := 0, slots := 0, locals := 22 } (fun zz _ => zz = ([.int v] : List Value).toArray) (cy_Q (.int (cy_b (cy_nu v)))) 0 0 (fun _ => False) := by
  refine Met.ofW (cc := cX5_isOfNumbers) (maxL := 1) (ret := (some .boolean)) (by decide) rfl ?_
  intro p e s m args below meth c s₁ B hml hv
  have hv : args = ([.int v] : List Value).toArray := hv
  subst hv
  have hx := B.exec
  have hb := B.bytes
  have hr := B.returns
  have hts := atoms_spec (ws := wsX5_isOfNumbers) B.pre
  have hown : s.vm.findClass RX5 = some m.cls := findClass_of_methodNamed B.named
  have hlocks := B.notSynchronized
  have hl := lv_entry ([.int v]) (n := 1) (Nat.le_of_ble_eq_true rfl)
  rw [lg_entry_eq]
  generalize (lg_sl ([.int v]) ++ List.replicate (1 - (lg_sl ([.int v])).length) Slot.unset).toArray = ls at hl ⊢
  have hl : lv_has ls 1 [(0, .int v)] := hl
  refine lv_iload_n hx hb dX5_isOfNumbers_0 rfl (lv_at hl 0 rfl) ?_
  refine lv_iconst (v := 0) hx hb dX5_isOfNumbers_1 (by decide) ?_
  refine lv_iconst (v := 2) hx hb dX5_isOfNumbers_2 (by decide) ?_
  refine cy_callp (v := .int (cy_b (cy_isIn v 0 2))) (va_runS (As := [.int v, .int 0, .int 2]) (rest := []) ⟨hx, hb, hml, hown, hts⟩ (c_X5_isIn l v 0 2) (va_cwS 3 hts gX5_isOfNumbers_X5_isIn rfl rfl rfl (by decide +kernel) ⟨Nat.le_of_ble_eq_true rfl, Nat.le_of_ble_eq_true rfl⟩) preEq rfl rfl hl.1 rfl (lv_room (Nat.le_of_ble_eq_true rfl)) dX5_isOfNumbers_3 ⟨Nat.le_of_ble_eq_true rfl, Nat.le_of_ble_eq_true rfl⟩) ?_
  exact W.zret (v := cy_b (cy_isIn v 0 2)) hx hb hr (cy_nb _) (fun t ht hW => ⟨congrArg (fun q => Outcome.returned (some (Value.int q))) (rfl), ht⟩) (fun q h => by cases h) dX5_isOfNumbers_6

set_option maxHeartbeats 4000000 in
set_option maxRecDepth 100000 in
theorem c_X5_isGate (l : Launch) (v : Int32)  : Met l yX5_isGate wsX5_isGate { frames := 1, cells := 0, slots := 0, locals := 22 } (fun zz _ => zz = ([.int v] : List Value).toArray) (cy_Q (.int (cy_b (cy_gt v)))) 0 0 (fun _ => False) := by
  refine Met.ofW (cc := cX5_isGate) (maxL := 1) (ret := (some .boolean)) (by decide) rfl ?_
  intro p e s m args below meth c s₁ B hml hv
  have hv : args = ([.int v] : List Value).toArray := hv
  subst hv
  have hx := B.exec
  have hb := B.bytes
  have hr := B.returns
  have hts := atoms_spec (ws := wsX5_isGate) B.pre
  have hown : s.vm.findClass RX5 = some m.cls := findClass_of_methodNamed B.named
  have hlocks := B.notSynchronized
  have hl := lv_entry ([.int v]) (n := 1) (Nat.le_of_ble_eq_true rfl)
  rw [lg_entry_eq]
  generalize (lg_sl ([.int v]) ++ List.replicate (1 - (lg_sl ([.int v])).length) Slot.unset).toArray = ls at hl ⊢
  have hl : lv_has ls 1 [(0, .int v)] := hl
  refine lv_iload_n hx hb dX5_isGate_0 rfl (lv_at hl 0 rfl) ?_
  refine lv_iconst (v := 0) hx hb dX5_isGate_1 (by decide) ?_
  refine lv_iconst (v := 5) hx hb dX5_isGate_2 (by decide) ?_
  refine cy_callp (v := .int (cy_b (cy_isIn v 0 5))) (va_runS (As := [.int v, .int 0, .int 5]) (rest := []) ⟨hx, hb, hml, hown, hts⟩ (c_X5_isIn l v 0 5) (va_cwS 3 hts gX5_isGate_X5_isIn rfl rfl rfl (by decide +kernel) ⟨Nat.le_of_ble_eq_true rfl, Nat.le_of_ble_eq_true rfl⟩) preEq rfl rfl hl.1 rfl (lv_room (Nat.le_of_ble_eq_true rfl)) dX5_isGate_3 ⟨Nat.le_of_ble_eq_true rfl, Nat.le_of_ble_eq_true rfl⟩) ?_
  exact W.zret (v := cy_b (cy_isIn v 0 5)) hx hb hr (cy_nb _) (fun t ht hW => ⟨congrArg (fun q => Outcome.returned (some (Value.int q))) (rfl), ht⟩) (fun q h => by cases h) dX5_isGate_6

set_option maxHeartbeats 4000000 in
set_option maxRecDepth 100000 in
theorem c_X5_isOfThings (l : Launch) (v : Int32)  : Met l yX5_isOfThings wsX5_isOfThings { frames := 1, cells := 0, slots := 0, locals := 22 } (fun zz _ => zz = ([.int v] : List Value).toArray) (cy_Q (.int (cy_b (cy_th v)))) 0 0 (fun _ => False) := by
  refine Met.ofW (cc := cX5_isOfThings) (maxL := 1) (ret := (some .boolean)) (by decide) rfl ?_
  intro p e s m args below meth c s₁ B hml hv
  have hv : args = ([.int v] : List Value).toArray := hv
  subst hv
  have hx := B.exec
  have hb := B.bytes
  have hr := B.returns
  have hts := atoms_spec (ws := wsX5_isOfThings) B.pre
  have hown : s.vm.findClass RX5 = some m.cls := findClass_of_methodNamed B.named
  have hlocks := B.notSynchronized
  have hl := lv_entry ([.int v]) (n := 1) (Nat.le_of_ble_eq_true rfl)
  rw [lg_entry_eq]
  generalize (lg_sl ([.int v]) ++ List.replicate (1 - (lg_sl ([.int v])).length) Slot.unset).toArray = ls at hl ⊢
  have hl : lv_has ls 1 [(0, .int v)] := hl
  refine lv_iload_n hx hb dX5_isOfThings_0 rfl (lv_at hl 0 rfl) ?_
  refine lv_iconst (v := 3) hx hb dX5_isOfThings_1 (by decide) ?_
  refine lv_icmp_eq (tgt := 16) hx hb dX5_isOfThings_2 (by decide) (fun h1 => ?_) (fun h1 => ?_)
  · refine lv_iconst (v := 1) hx hb dX5_isOfThings_16 (by decide) ?_
    refine lv_goto (tgt := 21) hx hb dX5_isOfThings_17 (by decide) ?_
    exact W.zret (v := 1) hx hb hr (rfl) (fun t ht hW => ⟨congrArg (fun q => Outcome.returned (some (Value.int q))) (by simp [cy_th, cy_b, h1]), ht⟩) (fun q h => by cases h) dX5_isOfThings_21
  · refine lv_iload_n hx hb dX5_isOfThings_5 rfl (lv_at hl 0 rfl) ?_
    refine lv_bipush (v := 7) hx hb dX5_isOfThings_6 (by decide) ?_
    refine lv_bipush (v := 12) hx hb dX5_isOfThings_8 (by decide) ?_
    refine cy_callp (v := .int (cy_b (cy_isIn v 7 12))) (va_runS (As := [.int v, .int 7, .int 12]) (rest := []) ⟨hx, hb, hml, hown, hts⟩ (c_X5_isIn l v 7 12) (va_cwS 3 hts gX5_isOfThings_X5_isIn rfl rfl rfl (by decide +kernel) ⟨Nat.le_of_ble_eq_true rfl, Nat.le_of_ble_eq_true rfl⟩) preEq rfl rfl hl.1 rfl (lv_room (Nat.le_of_ble_eq_true rfl)) dX5_isOfThings_10 ⟨Nat.le_of_ble_eq_true rfl, Nat.le_of_ble_eq_true rfl⟩) ?_
    cases b2 : (cy_isIn v 7 12)
    · refine lv_if_eq (tgt := 20) hx hb dX5_isOfThings_13 (by decide) (fun h3 => ?_) (fun h3 => absurd (by decide) h3)
      refine lv_iconst (v := 0) hx hb dX5_isOfThings_20 (by decide) ?_
      exact W.zret (v := 0) hx hb hr (rfl) (fun t ht hW => ⟨congrArg (fun q => Outcome.returned (some (Value.int q))) (by simp [cy_th, cy_b, h1, b2]), ht⟩) (fun q h => by cases h) dX5_isOfThings_21
    · refine lv_if_eq (tgt := 20) hx hb dX5_isOfThings_13 (by decide) (fun h4 => absurd h4 (by decide)) (fun h4 => ?_)
      refine lv_iconst (v := 1) hx hb dX5_isOfThings_16 (by decide) ?_
      refine lv_goto (tgt := 21) hx hb dX5_isOfThings_17 (by decide) ?_
      exact W.zret (v := 1) hx hb hr (rfl) (fun t ht hW => ⟨congrArg (fun q => Outcome.returned (some (Value.int q))) (by simp [cy_th, cy_b, h1, b2]), ht⟩) (fun q h => by cases h) dX5_isOfThings_21

set_option maxHeartbeats 4000000 in
set_option maxRecDepth 100000 in
theorem c_X5_goes (l : Launch) (s0 v : Int32)  : Met l yX5_goes wsX5_goes { frames := 0, cells := 0, slots := 0, locals := 0 } (fun zz _ => zz = ([.int s0, .int v] : List Value).toArray) (cy_Q (.int (cy_b (cy_go s0 v)))) 0 0 (fun _ => False) := by
  refine Met.ofW (cc := cX5_goes) (maxL := 2) (ret := (some .boolean)) (by decide) rfl ?_
  intro p e s m args below meth c s₁ B hml hv
  have hv : args = ([.int s0, .int v] : List Value).toArray := hv
  subst hv
  have hx := B.exec
  have hb := B.bytes
  have hr := B.returns
  have hts := atoms_spec (ws := wsX5_goes) B.pre
  have hown : s.vm.findClass RX5 = some m.cls := findClass_of_methodNamed B.named
  have hlocks := B.notSynchronized
  have hl := lv_entry ([.int s0, .int v]) (n := 2) (Nat.le_of_ble_eq_true rfl)
  rw [lg_entry_eq]
  generalize (lg_sl ([.int s0, .int v]) ++ List.replicate (2 - (lg_sl ([.int s0, .int v])).length) Slot.unset).toArray = ls at hl ⊢
  have hl : lv_has ls 2 [(0, .int s0), (1, .int v)] := hl
  refine lv_iload_n hx hb dX5_goes_0 rfl (lv_at hl 0 rfl) ?_
  refine lv_iload_n hx hb dX5_goes_1 rfl (lv_at hl 1 rfl) ?_
  refine lv_icmp_ne (tgt := 7) hx hb dX5_goes_2 (by decide) (fun h1 => ?_) (fun h1 => ?_)
  · refine lv_iload_n hx hb dX5_goes_7 rfl (lv_at hl 0 rfl) ?_
    rcases cy_sw5_11 s0 with w2 | w2 | w2 | w2 | w2 | w2 | w2 | ⟨w2, w2n5, w2n6, w2n7, w2n8, w2n9, w2n10, w2n11⟩
    · refine lv_tableIn (off := 44) (tgt := 52) hx hb dX5_goes_8 (by rw [w2]; decide) (by rw [w2]; decide) (by rw [w2]; rfl) (by decide) ?_
      refine lv_iload_n hx hb dX5_goes_52 rfl (lv_at hl 1 rfl) ?_
      refine lv_iconst (v := 4) hx hb dX5_goes_53 (by decide) ?_
      refine lv_icmp_eq (tgt := 63) hx hb dX5_goes_54 (by decide) (fun h3 => ?_) (fun h3 => ?_)
      · refine lv_iconst (v := 1) hx hb dX5_goes_63 (by decide) ?_
        refine lv_goto (tgt := 68) hx hb dX5_goes_64 (by decide) ?_
        exact W.zret (v := 1) hx hb hr (rfl) (fun t ht hW => ⟨congrArg (fun q => Outcome.returned (some (Value.int q))) (by subst w2; simp [cy_go, cy_b, h1, h3]), ht⟩) (fun q h => by cases h) dX5_goes_68
      · refine lv_iload_n hx hb dX5_goes_57 rfl (lv_at hl 1 rfl) ?_
        refine lv_bipush (v := 13) hx hb dX5_goes_58 (by decide) ?_
        refine lv_icmp_ne (tgt := 67) hx hb dX5_goes_60 (by decide) (fun h4 => ?_) (fun h4 => ?_)
        · refine lv_iconst (v := 0) hx hb dX5_goes_67 (by decide) ?_
          exact W.zret (v := 0) hx hb hr (rfl) (fun t ht hW => ⟨congrArg (fun q => Outcome.returned (some (Value.int q))) (by subst w2; simp [cy_go, cy_b, h1, h3, h4]), ht⟩) (fun q h => by cases h) dX5_goes_68
        · refine lv_iconst (v := 1) hx hb dX5_goes_63 (by decide) ?_
          refine lv_goto (tgt := 68) hx hb dX5_goes_64 (by decide) ?_
          exact W.zret (v := 1) hx hb hr (rfl) (fun t ht hW => ⟨congrArg (fun q => Outcome.returned (some (Value.int q))) (by subst w2; simp [cy_go, cy_b, h1, h3, h4]), ht⟩) (fun q h => by cases h) dX5_goes_68
    · refine lv_tableIn (off := 61) (tgt := 69) hx hb dX5_goes_8 (by rw [w2]; decide) (by rw [w2]; decide) (by rw [w2]; rfl) (by decide) ?_
      refine lv_iload_n hx hb dX5_goes_69 rfl (lv_at hl 1 rfl) ?_
      refine lv_bipush (v := 13) hx hb dX5_goes_70 (by decide) ?_
      refine lv_icmp_ne (tgt := 79) hx hb dX5_goes_72 (by decide) (fun h5 => ?_) (fun h5 => ?_)
      · refine lv_iconst (v := 0) hx hb dX5_goes_79 (by decide) ?_
        exact W.zret (v := 0) hx hb hr (rfl) (fun t ht hW => ⟨congrArg (fun q => Outcome.returned (some (Value.int q))) (by subst w2; simp [cy_go, cy_b, h1, h5]), ht⟩) (fun q h => by cases h) dX5_goes_80
      · refine lv_iconst (v := 1) hx hb dX5_goes_75 (by decide) ?_
        refine lv_goto (tgt := 80) hx hb dX5_goes_76 (by decide) ?_
        exact W.zret (v := 1) hx hb hr (rfl) (fun t ht hW => ⟨congrArg (fun q => Outcome.returned (some (Value.int q))) (by subst w2; simp [cy_go, cy_b, h1, h5]), ht⟩) (fun q h => by cases h) dX5_goes_80
    · refine lv_tableIn (off := 109) (tgt := 117) hx hb dX5_goes_8 (by rw [w2]; decide) (by rw [w2]; decide) (by rw [w2]; rfl) (by decide) ?_
      refine lv_iconst (v := 0) hx hb dX5_goes_117 (by decide) ?_
      exact W.zret (v := 0) hx hb hr (rfl) (fun t ht hW => ⟨congrArg (fun q => Outcome.returned (some (Value.int q))) (by subst w2; simp [cy_go, cy_b, h1]), ht⟩) (fun q h => by cases h) dX5_goes_118
    · refine lv_tableIn (off := 73) (tgt := 81) hx hb dX5_goes_8 (by rw [w2]; decide) (by rw [w2]; decide) (by rw [w2]; rfl) (by decide) ?_
      refine lv_iload_n hx hb dX5_goes_81 rfl (lv_at hl 1 rfl) ?_
      refine lv_bipush (v := 7) hx hb dX5_goes_82 (by decide) ?_
      refine lv_icmp_eq (tgt := 93) hx hb dX5_goes_84 (by decide) (fun h6 => ?_) (fun h6 => ?_)
      · refine lv_iconst (v := 1) hx hb dX5_goes_93 (by decide) ?_
        refine lv_goto (tgt := 98) hx hb dX5_goes_94 (by decide) ?_
        exact W.zret (v := 1) hx hb hr (rfl) (fun t ht hW => ⟨congrArg (fun q => Outcome.returned (some (Value.int q))) (by subst w2; simp [cy_go, cy_b, h1, h6]), ht⟩) (fun q h => by cases h) dX5_goes_98
      · refine lv_iload_n hx hb dX5_goes_87 rfl (lv_at hl 1 rfl) ?_
        refine lv_bipush (v := 9) hx hb dX5_goes_88 (by decide) ?_
        refine lv_icmp_ne (tgt := 97) hx hb dX5_goes_90 (by decide) (fun h7 => ?_) (fun h7 => ?_)
        · refine lv_iconst (v := 0) hx hb dX5_goes_97 (by decide) ?_
          exact W.zret (v := 0) hx hb hr (rfl) (fun t ht hW => ⟨congrArg (fun q => Outcome.returned (some (Value.int q))) (by subst w2; simp [cy_go, cy_b, h1, h6, h7]), ht⟩) (fun q h => by cases h) dX5_goes_98
        · refine lv_iconst (v := 1) hx hb dX5_goes_93 (by decide) ?_
          refine lv_goto (tgt := 98) hx hb dX5_goes_94 (by decide) ?_
          exact W.zret (v := 1) hx hb hr (rfl) (fun t ht hW => ⟨congrArg (fun q => Outcome.returned (some (Value.int q))) (by subst w2; simp [cy_go, cy_b, h1, h6, h7]), ht⟩) (fun q h => by cases h) dX5_goes_98
    · refine lv_tableIn (off := 109) (tgt := 117) hx hb dX5_goes_8 (by rw [w2]; decide) (by rw [w2]; decide) (by rw [w2]; rfl) (by decide) ?_
      refine lv_iconst (v := 0) hx hb dX5_goes_117 (by decide) ?_
      exact W.zret (v := 0) hx hb hr (rfl) (fun t ht hW => ⟨congrArg (fun q => Outcome.returned (some (Value.int q))) (by subst w2; simp [cy_go, cy_b, h1]), ht⟩) (fun q h => by cases h) dX5_goes_118
    · refine lv_tableIn (off := 109) (tgt := 117) hx hb dX5_goes_8 (by rw [w2]; decide) (by rw [w2]; decide) (by rw [w2]; rfl) (by decide) ?_
      refine lv_iconst (v := 0) hx hb dX5_goes_117 (by decide) ?_
      exact W.zret (v := 0) hx hb hr (rfl) (fun t ht hW => ⟨congrArg (fun q => Outcome.returned (some (Value.int q))) (by subst w2; simp [cy_go, cy_b, h1]), ht⟩) (fun q h => by cases h) dX5_goes_118
    · refine lv_tableIn (off := 91) (tgt := 99) hx hb dX5_goes_8 (by rw [w2]; decide) (by rw [w2]; decide) (by rw [w2]; rfl) (by decide) ?_
      refine lv_iload_n hx hb dX5_goes_99 rfl (lv_at hl 1 rfl) ?_
      refine lv_bipush (v := 10) hx hb dX5_goes_100 (by decide) ?_
      refine lv_icmp_eq (tgt := 111) hx hb dX5_goes_102 (by decide) (fun h8 => ?_) (fun h8 => ?_)
      · refine lv_iconst (v := 1) hx hb dX5_goes_111 (by decide) ?_
        refine lv_goto (tgt := 116) hx hb dX5_goes_112 (by decide) ?_
        exact W.zret (v := 1) hx hb hr (rfl) (fun t ht hW => ⟨congrArg (fun q => Outcome.returned (some (Value.int q))) (by subst w2; simp [cy_go, cy_b, h1, h8]), ht⟩) (fun q h => by cases h) dX5_goes_116
      · refine lv_iload_n hx hb dX5_goes_105 rfl (lv_at hl 1 rfl) ?_
        refine lv_bipush (v := 12) hx hb dX5_goes_106 (by decide) ?_
        refine lv_icmp_ne (tgt := 115) hx hb dX5_goes_108 (by decide) (fun h9 => ?_) (fun h9 => ?_)
        · refine lv_iconst (v := 0) hx hb dX5_goes_115 (by decide) ?_
          exact W.zret (v := 0) hx hb hr (rfl) (fun t ht hW => ⟨congrArg (fun q => Outcome.returned (some (Value.int q))) (by subst w2; simp [cy_go, cy_b, h1, h8, h9]), ht⟩) (fun q h => by cases h) dX5_goes_116
        · refine lv_iconst (v := 1) hx hb dX5_goes_111 (by decide) ?_
          refine lv_goto (tgt := 116) hx hb dX5_goes_112 (by decide) ?_
          exact W.zret (v := 1) hx hb hr (rfl) (fun t ht hW => ⟨congrArg (fun q => Outcome.returned (some (Value.int q))) (by subst w2; simp [cy_go, cy_b, h1, h8, h9]), ht⟩) (fun q h => by cases h) dX5_goes_116
    · refine lv_tableOut (tgt := 117) hx hb dX5_goes_8 w2 (by decide) ?_
      refine lv_iconst (v := 0) hx hb dX5_goes_117 (by decide) ?_
      exact W.zret (v := 0) hx hb hr (rfl) (fun t ht hW => ⟨congrArg (fun q => Outcome.returned (some (Value.int q))) (by simp [cy_go, cy_b, h1, w2n5, w2n6, w2n7, w2n8, w2n9, w2n10, w2n11]), ht⟩) (fun q h => by cases h) dX5_goes_118
  · refine lv_iconst (v := 1) hx hb dX5_goes_5 (by decide) ?_
    exact W.zret (v := 1) hx hb hr (rfl) (fun t ht hW => ⟨congrArg (fun q => Outcome.returned (some (Value.int q))) (by simp [cy_go, cy_b, h1]), ht⟩) (fun q h => by cases h) dX5_goes_6

set_option maxHeartbeats 4000000 in
set_option maxRecDepth 100000 in
theorem c_X5_wanted (l : Launch) (s0 : Int32)  : Met l yX5_wanted wsX5_wanted { frames := 0, cells := 0, slots := 0, locals := 0 } (fun zz _ => zz = ([.int s0] : List Value).toArray) (cy_Q (.int (cy_wa s0))) 0 0 (fun _ => False) := by
  refine Met.ofW (cc := cX5_wanted) (maxL := 1) (ret := (some .int)) (by decide) rfl ?_
  intro p e s m args below meth c s₁ B hml hv
  have hv : args = ([.int s0] : List Value).toArray := hv
  subst hv
  have hx := B.exec
  have hb := B.bytes
  have hr := B.returns
  have hts := atoms_spec (ws := wsX5_wanted) B.pre
  have hown : s.vm.findClass RX5 = some m.cls := findClass_of_methodNamed B.named
  have hlocks := B.notSynchronized
  have hl := lv_entry ([.int s0]) (n := 1) (Nat.le_of_ble_eq_true rfl)
  rw [lg_entry_eq]
  generalize (lg_sl ([.int s0]) ++ List.replicate (1 - (lg_sl ([.int s0])).length) Slot.unset).toArray = ls at hl ⊢
  have hl : lv_has ls 1 [(0, .int s0)] := hl
  refine lv_iload_n hx hb dX5_wanted_0 rfl (lv_at hl 0 rfl) ?_
  refine lv_iconst (v := 3) hx hb dX5_wanted_1 (by decide) ?_
  refine lv_icmp_ne (tgt := 9) hx hb dX5_wanted_2 (by decide) (fun h1 => ?_) (fun h1 => ?_)
  · refine lv_iload_n hx hb dX5_wanted_9 rfl (lv_at hl 0 rfl) ?_
    refine lv_bipush (v := 9) hx hb dX5_wanted_10 (by decide) ?_
    refine lv_icmp_ge (tgt := 19) hx hb dX5_wanted_12 (by decide) (fun h2 => ?_) (fun h2 => ?_)
    · refine lv_iload_n hx hb dX5_wanted_19 rfl (lv_at hl 0 rfl) ?_
      refine lv_bipush (v := 9) hx hb dX5_wanted_20 (by decide) ?_
      refine lv_icmp_ne (tgt := 30) hx hb dX5_wanted_22 (by decide) (fun h3 => ?_) (fun h3 => ?_)
      · refine lv_iload_n hx hb dX5_wanted_30 rfl (lv_at hl 0 rfl) ?_
        refine lv_bipush (v := 12) hx hb dX5_wanted_31 (by decide) ?_
        refine lv_icmp_ne (tgt := 41) hx hb dX5_wanted_33 (by decide) (fun h4 => ?_) (fun h4 => ?_)
        · refine lv_bipush (v := 7) hx hb dX5_wanted_41 (by decide) ?_
          exact W.iret (v := 7) hx hb hr (fun t ht hW => ⟨congrArg (fun q => Outcome.returned (some (Value.int q))) (by simp [cy_wa, h1, h2, h3, h4]), ht⟩) (fun q h => by cases h) dX5_wanted_43
        · refine lv_bipush (v := 9) hx hb dX5_wanted_36 (by decide) ?_
          refine lv_goto (tgt := 43) hx hb dX5_wanted_38 (by decide) ?_
          exact W.iret (v := 9) hx hb hr (fun t ht hW => ⟨congrArg (fun q => Outcome.returned (some (Value.int q))) (by simp [cy_wa, h1, h2, h3, h4]), ht⟩) (fun q h => by cases h) dX5_wanted_43
      · refine lv_bipush (v := 13) hx hb dX5_wanted_25 (by decide) ?_
        refine lv_goto (tgt := 43) hx hb dX5_wanted_27 (by decide) ?_
        exact W.iret (v := 13) hx hb hr (fun t ht hW => ⟨congrArg (fun q => Outcome.returned (some (Value.int q))) (by simp [cy_wa, h1, h2, h3]), ht⟩) (fun q h => by cases h) dX5_wanted_43
    · refine lv_iconst (v := 4) hx hb dX5_wanted_15 (by decide) ?_
      refine lv_goto (tgt := 43) hx hb dX5_wanted_16 (by decide) ?_
      exact W.iret (v := 4) hx hb hr (fun t ht hW => ⟨congrArg (fun q => Outcome.returned (some (Value.int q))) (by simp [cy_wa, h1, h2]), ht⟩) (fun q h => by cases h) dX5_wanted_43
  · refine lv_iconst (v := 0) hx hb dX5_wanted_5 (by decide) ?_
    refine lv_goto (tgt := 43) hx hb dX5_wanted_6 (by decide) ?_
    exact W.iret (v := 0) hx hb hr (fun t ht hW => ⟨congrArg (fun q => Outcome.returned (some (Value.int q))) (by simp [cy_wa, h1]), ht⟩) (fun q h => by cases h) dX5_wanted_43

set_option maxHeartbeats 4000000 in
set_option maxRecDepth 100000 in
theorem c_X5_had (l : Launch) (s0 : Int32)  : Met l yX5_had wsX5_had { frames := 1, cells := 0, slots := 0, locals := 20 } (fun zz _ => zz = ([.int s0] : List Value).toArray) (cy_Q (.int (cy_ha s0))) 0 0 (fun _ => False) := by
  refine Met.ofW (cc := cX5_had) (maxL := 1) (ret := (some .int)) (by decide) rfl ?_
  intro p e s m args below meth c s₁ B hml hv
  have hv : args = ([.int s0] : List Value).toArray := hv
  subst hv
  have hx := B.exec
  have hb := B.bytes
  have hr := B.returns
  have hts := atoms_spec (ws := wsX5_had) B.pre
  have hown : s.vm.findClass RX5 = some m.cls := findClass_of_methodNamed B.named
  have hlocks := B.notSynchronized
  have hl := lv_entry ([.int s0]) (n := 1) (Nat.le_of_ble_eq_true rfl)
  rw [lg_entry_eq]
  generalize (lg_sl ([.int s0]) ++ List.replicate (1 - (lg_sl ([.int s0])).length) Slot.unset).toArray = ls at hl ⊢
  have hl : lv_has ls 1 [(0, .int s0)] := hl
  refine lv_iload_n hx hb dX5_had_0 rfl (lv_at hl 0 rfl) ?_
  refine lv_bipush (v := 8) hx hb dX5_had_1 (by decide) ?_
  refine lv_icmp_ne (tgt := 10) hx hb dX5_had_3 (by decide) (fun h1 => ?_) (fun h1 => ?_)
  · refine lv_iload_n hx hb dX5_had_10 rfl (lv_at hl 0 rfl) ?_
    refine lv_bipush (v := 11) hx hb dX5_had_11 (by decide) ?_
    refine lv_icmp_ne (tgt := 21) hx hb dX5_had_13 (by decide) (fun h2 => ?_) (fun h2 => ?_)
    · refine lv_iload_n hx hb dX5_had_21 rfl (lv_at hl 0 rfl) ?_
      refine cy_callp (v := .int (cy_wa s0)) (va_runS (As := [.int s0]) (rest := []) ⟨hx, hb, hml, hown, hts⟩ (c_X5_wanted l s0) (va_cwS 1 hts gX5_had_X5_wanted rfl rfl rfl (by decide +kernel) ⟨Nat.le_of_ble_eq_true rfl, Nat.le_of_ble_eq_true rfl⟩) preEq rfl rfl hl.1 rfl (lv_room (Nat.le_of_ble_eq_true rfl)) dX5_had_22 ⟨Nat.le_of_ble_eq_true rfl, Nat.le_of_ble_eq_true rfl⟩) ?_
      exact W.iret (v := cy_wa s0) hx hb hr (fun t ht hW => ⟨congrArg (fun q => Outcome.returned (some (Value.int q))) (by simp [cy_ha, h1, h2]), ht⟩) (fun q h => by cases h) dX5_had_25
    · refine lv_bipush (v := 8) hx hb dX5_had_16 (by decide) ?_
      refine lv_goto (tgt := 25) hx hb dX5_had_18 (by decide) ?_
      exact W.iret (v := 8) hx hb hr (fun t ht hW => ⟨congrArg (fun q => Outcome.returned (some (Value.int q))) (by simp [cy_ha, h1, h2]), ht⟩) (fun q h => by cases h) dX5_had_25
  · refine lv_iconst (v := 5) hx hb dX5_had_6 (by decide) ?_
    refine lv_goto (tgt := 25) hx hb dX5_had_7 (by decide) ?_
    exact W.iret (v := 5) hx hb hr (fun t ht hW => ⟨congrArg (fun q => Outcome.returned (some (Value.int q))) (by simp [cy_ha, h1]), ht⟩) (fun q h => by cases h) dX5_had_25
