theorem hin5_X5_weightOf : ∀ w ∈ u_ws RX5 TX5 19, w ∈ wsX5_weightOf := by decide +kernel
set_option maxHeartbeats 4000000 in
set_option maxRecDepth 100000 in
theorem c_X5_weightOf (l : Launch) (D : va_G) (cI cJ cO : ClassId) (z n na : Nat) (σ τ : cy_S) (pl : Nat → Int32) (hi : Int32) (ad : Nat → Nat) (nt : Nat) (hok : cy_ok nt τ) (k0 : Nat) (hk0 : k0 < nt) : Met l yX5_weightOf wsX5_weightOf { frames := 3, cells := 0, slots := 0, locals := 64 } (cy_P D cI cJ cO (fun H => cy_W D z (cy_CT cI cJ cO n na σ τ pl hi ad) ad H) [.ref (ad 20), .int (nI k0)]) (cy_M (S := (Nat → Int32) × Int32) z (fun _ => some (.long (cy_wt τ 3 k0))) (fun u H => cy_W D z (cy_CT cI cJ cO n na σ τ u.1 u.2 ad) ad H)) 0 0 (fun q => z ≤ q) := by
  refine Met.ofW (cc := cX5_weightOf) (maxL := 6) (ret := (some .long)) (by decide) rfl ?_
  intro p e s m args below meth c s₁ B hml hv
  obtain ⟨rfl, hK, hI⟩ := hv
  have hx := B.exec
  have hb := B.bytes
  have hr := B.returns
  have hts := atoms_spec (ws := wsX5_weightOf) B.pre
  have hown : s.vm.findClass RX5 = some m.cls := findClass_of_methodNamed B.named
  have hlocks := B.notSynchronized
  have hS : va_S (fun q => z ≤ q) s.heap s.heap [] := va_S.rf
  have hl := lv_entry ([.ref (ad 20), .int (nI k0)]) (n := 6) (Nat.le_of_ble_eq_true rfl)
  rw [lg_entry_eq]
  generalize (lg_sl ([.ref (ad 20), .int (nI k0)]) ++ List.replicate (6 - (lg_sl ([.ref (ad 20), .int (nI k0)])).length) Slot.unset).toArray = ls at hl ⊢
  have hl : lv_has ls 6 [(0, .ref (ad 20)), (1, .int (nI k0))] := hl
  have hin5 := hin5_X5_weightOf
  have hn := hok.1
  refine lv_lconst (v := 0) hx hb dX5_weightOf_0 (by decide) ?_
  refine lv_lstore_n (lv' := [(2, .long 0), (0, .ref (ad 20)), (1, .int (nI k0))]) hx hb dX5_weightOf_1 rfl hl (by decide) rfl (fun ls hl => ?_)
  refine lv_aload_n hx hb dX5_weightOf_2 rfl (lv_at hl 1 rfl) ?_
  refine lv_iconst (v := 0) hx hb dX5_weightOf_3 (by decide) ?_
  refine cy_putH hx hb hts hin5 hown hK hI hS (hts (.fieldLink RX5 101 "CustomsYardModel" "high" "I") (by decide +kernel)) dX5_weightOf_4 (fun H locs hI hS => ?_)
  refine lv_aload_n hx hb dX5_weightOf_7 rfl (lv_at hl 1 rfl) ?_
  refine lv_iload_n hx hb dX5_weightOf_8 rfl (lv_at hl 2 rfl) ?_
  refine cy_callm (va_runV (As := [.int (nI k0)]) (rest := []) ⟨hx, hb, hml, hown, hts⟩ (c_X5_lay l D cI cJ cO z n na σ τ pl 0 ad 0 (by decide) rfl (nI k0)) (cwV 1 hts gX5_weightOf_X5_lay rfl rfl rfl (by decide +kernel) ⟨Nat.le_of_ble_eq_true rfl, Nat.le_of_ble_eq_true rfl⟩) (cy_preV hK hI (cy_recv hK (hI.1 20 _ cy_CR).1 rfl)) rfl rfl hl.1 rfl (lv_room (Nat.le_of_ble_eq_true rfl)) dX5_weightOf_9 ⟨Nat.le_of_ble_eq_true rfl, Nat.le_of_ble_eq_true rfl⟩) hS (fun u H locs hI hz hS => ?_)
  have hI : cy_W D z (cy_CT cI cJ cO n na σ τ (va_up pl 0 (nI k0)) (nI (0 + 1)) ad) ad H := hI
  refine W.eq (g2 := F0 m 12 ls []) rfl ?_
  have loop : ∀ (M : Nat) (qs : List Nat) (pl' : Nat → Int32) (x : Int64) (H : Heap) (locs : List Loc) (ls : Array Slot), cy_smN (cy_ms τ) qs < M → cy_smN (cy_ms τ) qs ≤ 43 → (∀ t, t ∈ qs → t < nt) → cy_sk pl' qs → x + cy_smL (cy_wt τ 3) qs = cy_wt τ 3 k0 → cy_W D z (cy_CT cI cJ cO n na σ τ pl' (nI qs.length) ad) ad H → va_S (fun q => z ≤ q) s.heap H locs → lv_has ls 6 [(2, .long x), (0, .ref (ad 20)), (1, .int (nI k0))] → W p l e (headSpec wsX5_weightOf { frames := 3, cells := 0, slots := 0, locals := 64 }).room s m #[Value.ref (ad 20), Value.int (nI k0)] below meth c H locs 0 0 (MQ below (cy_M (S := (Nat → Int32) × Int32) z (fun _ => some (.long (cy_wt τ 3 k0))) (fun u H => cy_W D z (cy_CT cI cJ cO n na σ τ u.1 u.2 ad) ad H)) #[Value.ref (ad 20), Value.int (nI k0)] s 0 0 (fun q => z ≤ q)) (F0 m 12 ls []) := by
    intro M
    induction M with
    | zero =>
      intro qs pl' x H locs ls hM
      exact absurd hM (Nat.not_lt_zero _)
    | succ M ih =>
      intro qs pl' x H locs ls hM h43 hall hq hE hI hS hl
      rcases Nat.eq_zero_or_pos qs.length with hz0 | hp
      · obtain rfl : qs = [] := List.length_eq_zero_iff.mp hz0
        refine lv_aload_n hx hb dX5_weightOf_12 rfl (lv_at hl 1 rfl) ?_
        refine cy_getT (v := .int (nI ([] : List Nat).length)) hx hb hts hin5 hown hK hI 18 (by decide) (hts (.fieldLink RX5 101 "CustomsYardModel" "high" "I") (by decide +kernel)) rfl dX5_weightOf_13 ?_
        refine lv_if_le (tgt := 76) hx hb dX5_weightOf_16 (by decide) (fun h11 => ?_) (fun h11 => absurd (by decide) h11)
        refine lv_lload_n hx hb dX5_weightOf_76 rfl (lv_at hl 0 rfl) ?_
        exact W.lret (v := x) hx hb hr (fun t ht hW => ⟨(pl', _), congrArg (fun q => Outcome.returned (some (Value.long q))) (by rw [← hE]; simp [cy_smL]), by rw [ht]; exact hI, hS.F ht⟩) hS.2.2 dX5_weightOf_77
      · obtain ⟨rs, t, rfl⟩ := cy_snoc qs hp
        have htn : t < nt := hall t (by simp)
        rw [cy_smN_app] at hM h43
        have hms := cy_ms_ch hok htn
        have e1 : cy_smN (cy_ms τ) [t] = cy_ms τ t := by simp [cy_smN]
        rw [e1] at hM h43
        have hrl := cy_smN_len τ rs
        have hI : cy_W D z (cy_CT cI cJ cO n na σ τ pl' (nI (rs.length + 1)) ad) ad H := by rw [show rs.length + 1 = (rs ++ [t]).length by simp]; exact hI
        obtain ⟨p0, hp0, ep0⟩ := (hok.2.2.1 t htn).2.1
        refine lv_aload_n hx hb dX5_weightOf_12 rfl (lv_at hl 1 rfl) ?_
        refine cy_getT (v := .int (nI (rs.length + 1))) hx hb hts hin5 hown hK hI 18 (by decide) (hts (.fieldLink RX5 101 "CustomsYardModel" "high" "I") (by decide +kernel)) rfl dX5_weightOf_13 ?_
        refine lv_if_le (tgt := 76) hx hb dX5_weightOf_16 (by decide) (fun h31 => absurd h31 (nI_nle (by omega) (by omega))) (fun h31 => ?_)
        refine lv_aload_n hx hb dX5_weightOf_19 rfl (lv_at hl 1 rfl) ?_
        refine cy_callm (va_runV (As := []) (rest := []) ⟨hx, hb, hml, hown, hts⟩ (c_X5_next l D cI cJ cO z n na σ τ (pl') (nI (rs.length + 1)) ad nt hok rs t htn hq rfl (by omega)) (cwV 0 hts gX5_weightOf_X5_next rfl rfl rfl (by decide +kernel) ⟨Nat.le_of_ble_eq_true rfl, Nat.le_of_ble_eq_true rfl⟩) (cy_preV hK hI (cy_recv hK (hI.1 20 _ cy_CR).1 rfl)) rfl rfl hl.1 rfl (lv_room (Nat.le_of_ble_eq_true rfl)) dX5_weightOf_20 ⟨Nat.le_of_ble_eq_true rfl, Nat.le_of_ble_eq_true rfl⟩) hS (fun u H locs hI hz hS => ?_)
        obtain ⟨hu, hI⟩ := hI
        have hI : cy_W D z (cy_CT cI cJ cO n na σ τ u (nI (rs ++ cy_ch τ t).length) ad) ad H := hI
        refine W.eq (g2 := F0 m 23 ls [.int (nI t)]) rfl ?_
        refine lv_istore (lv' := [(4, .int (nI t)), (2, .long x), (0, .ref (ad 20)), (1, .int (nI k0))]) hx hb dX5_weightOf_23 hl (by decide) rfl (fun ls hl => ?_)
        refine lv_lload_n hx hb dX5_weightOf_25 rfl (lv_at hl 1 rfl) ?_
        refine lv_aload_n hx hb dX5_weightOf_26 rfl (lv_at hl 2 rfl) ?_
        refine cy_getT (v := .ref (ad 23)) hx hb hts hin5 hown hK hI 3 (by decide) (hts (.fieldLink RX5 16 "CustomsYardModel" "weights" "[I") (by decide +kernel)) rfl dX5_weightOf_27 ?_
        refine lv_iload hx hb dX5_weightOf_30 (lv_at hl 0 rfl) ?_
        refine cy_iald (f := τ.1 3) (k := t) hx hb hK.1 hI 0 (x := 23) rfl rfl (by omega) (by decide) dX5_weightOf_32 ?_
        refine lv_i2l (v := (τ.1 3 t).toInt64) hx hb dX5_weightOf_33 rfl ?_
        refine lv_ladd hx hb dX5_weightOf_34 ?_
        refine lv_lstore_n (lv' := [(2, .long (x + ((τ.1 3 t).toInt64))), (4, .int (nI t)), (0, .ref (ad 20)), (1, .int (nI k0))]) hx hb dX5_weightOf_35 rfl hl (by decide) rfl (fun ls hl => ?_)
        refine lv_iconst (v := 0) hx hb dX5_weightOf_36 (by decide) ?_
        refine lv_istore (lv' := [(5, .int 0), (2, .long (x + ((τ.1 3 t).toInt64))), (4, .int (nI t)), (0, .ref (ad 20)), (1, .int (nI k0))]) hx hb dX5_weightOf_37 hl (by decide) rfl (fun ls hl => ?_)
        have inner : ∀ (f i : Nat) (y : Int64) (ls : Array Slot), i + f = p0 → y + cy_ns τ t f i = x + cy_bs τ t → lv_has ls 6 [(5, .int (nI i)), (2, .long y), (4, .int (nI t)), (0, .ref (ad 20)), (1, .int (nI k0))] → W p l e (headSpec wsX5_weightOf { frames := 3, cells := 0, slots := 0, locals := 64 }).room s m #[Value.ref (ad 20), Value.int (nI k0)] below meth c H locs (0 + 0) (0 + 0) (MQ below (cy_M (S := (Nat → Int32) × Int32) z (fun _ => some (.long (cy_wt τ 3 k0))) (fun u H => cy_W D z (cy_CT cI cJ cO n na σ τ u.1 u.2 ad) ad H)) #[Value.ref (ad 20), Value.int (nI k0)] s 0 0 (fun q => z ≤ q)) (F0 m 39 ls []) := by
          intro f
          induction f with
          | zero =>
            intro i y ls hif hy hl
            obtain rfl : i = p0 := by omega
            refine lv_iload hx hb dX5_weightOf_39 (lv_at hl 0 rfl) ?_
            refine lv_aload_n hx hb dX5_weightOf_41 rfl (lv_at hl 3 rfl) ?_
            refine cy_getT (v := .ref (ad 22)) hx hb hts hin5 hown hK hI 2 (by decide) (hts (.fieldLink RX5 13 "CustomsYardModel" "sizes" "[I") (by decide +kernel)) rfl dX5_weightOf_42 ?_
            refine lv_iload hx hb dX5_weightOf_45 (lv_at hl 2 rfl) ?_
            refine cy_iald (f := τ.1 2) (k := t) hx hb hK.1 hI 0 (x := 22) rfl rfl (by omega) (by decide) dX5_weightOf_47 ?_
            refine cy_topi (y := nI i) (ep0) ?_
            refine lv_icmp_ge (tgt := 73) hx hb dX5_weightOf_48 (by decide) (fun h101 => ?_) (fun h101 => absurd (nI_le (Nat.le_refl _) (by omega)) h101)
            refine lv_goto (tgt := 12) hx hb dX5_weightOf_73 (by decide) ?_
            have hy2 : y = x + cy_bs τ t := by rw [← hy]; simp [cy_ns]
            have hE2 : y + cy_smL (cy_wt τ 3) (rs ++ cy_ch τ t) = cy_wt τ 3 k0 := by rw [cy_smL_app] at hE ⊢; rw [hy2]; exact cy_accL hE (cy_wt_eq hok htn)
            exact ih (rs ++ cy_ch τ t) u y H locs ls (by rw [cy_smN_app]; omega) (by rw [cy_smN_app]; omega) (fun a ha => (List.mem_append.mp ha).elim (fun h => hall a (by simp [h])) (fun h => (cy_ch_mem hok htn a h).1)) hu hE2 hI hS (lv_sub hl [1, 3, 4] rfl)
          | succ f ihf =>
            intro i y ls hif hy hl
            refine lv_iload hx hb dX5_weightOf_39 (lv_at hl 0 rfl) ?_
            refine lv_aload_n hx hb dX5_weightOf_41 rfl (lv_at hl 3 rfl) ?_
            refine cy_getT (v := .ref (ad 22)) hx hb hts hin5 hown hK hI 2 (by decide) (hts (.fieldLink RX5 13 "CustomsYardModel" "sizes" "[I") (by decide +kernel)) rfl dX5_weightOf_42 ?_
            refine lv_iload hx hb dX5_weightOf_45 (lv_at hl 2 rfl) ?_
            refine cy_iald (f := τ.1 2) (k := t) hx hb hK.1 hI 0 (x := 22) rfl rfl (by omega) (by decide) dX5_weightOf_47 ?_
            refine cy_topi (y := nI p0) (ep0) ?_
            refine lv_icmp_ge (tgt := 73) hx hb dX5_weightOf_48 (by decide) (fun h121 => absurd h121 (nI_ge (by omega) (by omega))) (fun h121 => ?_)
            refine lv_lload_n hx hb dX5_weightOf_51 rfl (lv_at hl 1 rfl) ?_
            refine lv_aload_n hx hb dX5_weightOf_52 rfl (lv_at hl 3 rfl) ?_
            refine cy_getT (v := .ref (ad 24)) hx hb hts hin5 hown hK hI 4 (by decide) (hts (.fieldLink RX5 19 "CustomsYardModel" "numbers" "[J") (by decide +kernel)) rfl dX5_weightOf_53 ?_
            refine lv_bipush (v := 6) hx hb dX5_weightOf_56 (by decide) ?_
            refine lv_iload hx hb dX5_weightOf_58 (lv_at hl 2 rfl) ?_
            refine lv_imul hx hb dX5_weightOf_60 ?_
            refine lv_iload hx hb dX5_weightOf_61 (lv_at hl 0 rfl) ?_
            refine lv_iadd hx hb dX5_weightOf_63 ?_
            refine cy_topi (y := nI (6 * t + i)) (cy_ix t i) ?_
            refine cy_lald (f := τ.2 0) (k := (6 * t + i)) hx hb hK.1 hI 1 (x := 24) rfl rfl (by omega) (by decide) dX5_weightOf_64 ?_
            refine lv_ladd hx hb dX5_weightOf_65 ?_
            refine lv_lstore_n (lv' := [(2, .long (y + (τ.2 0 (6 * t + i)))), (5, .int (nI i)), (4, .int (nI t)), (0, .ref (ad 20)), (1, .int (nI k0))]) hx hb dX5_weightOf_66 rfl hl (by decide) rfl (fun ls hl => ?_)
            refine lv_iinc (v := nI (i + 1)) (lv' := [(5, .int (nI (i + 1))), (2, .long (y + (τ.2 0 (6 * t + i)))), (4, .int (nI t)), (0, .ref (ad 20)), (1, .int (nI k0))]) hx hb dX5_weightOf_67 hl (k := 1) rfl (nI_1 _) (by decide) rfl (fun ls hl => ?_)
            refine lv_goto (tgt := 39) hx hb dX5_weightOf_70 (by decide) ?_
            exact ihf (i + 1) (y + (τ.2 0 (6 * t + i))) ls (by omega) (cy_accN hy) (lv_sub hl [0, 1, 2, 3, 4] rfl)
        exact inner p0 0 _ ls (by omega) (by unfold cy_bs; rw [ep0, nI_clamp (by omega), Int64.add_assoc]) (lv_sub hl [0, 1, 2, 3, 4] rfl)
  exact loop (cy_ms τ k0 + 1) [k0] _ 0 _ _ ls (by simp [cy_smN]) (by have := cy_ms_le hok hk0; simp [cy_smN]; omega) (fun t ht => by rw [List.mem_singleton.mp ht]; exact hk0) (cy_sk_push (ps := []) (fun j hj => absurd hj (Nat.not_lt_zero _)) k0) (by simp [cy_smL]) hI hS hl
