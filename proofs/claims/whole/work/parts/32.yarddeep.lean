theorem cy_K.dW {D : va_G} {cI cJ cO : ClassId} {U : State} (h : cy_K D cI cJ cO U) : va_Nw (.declares ⟨"CustomsYard$Load", "weigh", "(I)J"⟩) U := h.2.2.2.2.2.2.2.2.1
theorem cy_K.dC {D : va_G} {cI cJ cO : ClassId} {U : State} (h : cy_K D cI cJ cO U) : va_Nw (.declares ⟨"CustomsYard$Load", "comesAs", "(I)I"⟩) U := h.2.2.2.2.2.2.2.2.2.1
theorem cy_K.aO {D : va_G} {cI cJ cO : ClassId} {U : State} (h : cy_K D cI cJ cO U) : va_AO "CustomsYard$Load" U := h.2.2.2.2.2.2.2.2.2.2
theorem cy_rk_2d : ∀ a : Fin 13, cy_kd (nI a.val) = 2 → 1 ≤ cy_rk (nI a.val) := by decide +kernel
theorem cy_rk_2 {n : Nat} {σ : cy_S} (hok : cy_ok n σ) {k : Nat} (hk : k < n) (h : cy_kd (σ.1 1 k) = 2) : 1 ≤ cy_rk (σ.1 1 k) := by
  obtain ⟨⟨a, ha, ea⟩, -⟩ := hok.2.2.1 k hk
  rw [ea] at h ⊢
  exact cy_rk_2d ⟨a, by omega⟩ h
theorem cy_cf_rk {n : Nat} {σ : cy_S} (hok : cy_ok n σ) {k t : Nat} (hk : k < n) (hb : cy_th (σ.1 1 k) = true) (ht : t < n) (hg : cy_go (σ.1 1 t) (cy_ha (σ.1 1 k)) = true) : cy_rk (σ.1 1 t) < cy_rk (σ.1 1 k) := by
  obtain ⟨⟨a, ha, ea⟩, -⟩ := hok.2.2.1 k hk
  obtain ⟨⟨b, hb2, eb⟩, -⟩ := hok.2.2.1 t ht
  rw [ea] at hb ⊢
  rw [ea, eb] at hg
  rw [eb]
  exact cy_rk_dec ⟨a, by omega⟩ ⟨b, by omega⟩ hb hg
theorem hin1_X1_weigh : ∀ w ∈ u_ws RX1 TX1 3, w ∈ wsX1_weigh := by decide +kernel
theorem hin1_X0_tally : ∀ w ∈ u_ws RX1 TX1 3, w ∈ wsX0_tally := by decide +kernel
theorem hin2_X0_tally : ∀ w ∈ u_ws RX2 TX2 3, w ∈ wsX0_tally := by decide +kernel
theorem hin3_X0_tally : ∀ w ∈ u_ws RX3 TX3 3, w ∈ wsX0_tally := by decide +kernel
theorem hin1_X3_weigh : ∀ w ∈ u_ws RX1 TX1 3, w ∈ wsX3_weigh := by decide +kernel
theorem hin2_X3_weigh : ∀ w ∈ u_ws RX2 TX2 3, w ∈ wsX3_weigh := by decide +kernel
theorem hin3_X3_weigh : ∀ w ∈ u_ws RX3 TX3 3, w ∈ wsX3_weigh := by decide +kernel
theorem hin1_X3_tally : ∀ w ∈ u_ws RX1 TX1 3, w ∈ wsX3_tally := by decide +kernel
theorem hin2_X3_tally : ∀ w ∈ u_ws RX2 TX2 3, w ∈ wsX3_tally := by decide +kernel
theorem hin3_X3_tally : ∀ w ∈ u_ws RX3 TX3 3, w ∈ wsX3_tally := by decide +kernel
set_option maxHeartbeats 4000000 in
set_option maxRecDepth 100000 in
theorem c_X1_weigh (l : Launch) (D : va_G) (cI cJ cO : ClassId) (z n : Nat) (σ τ : cy_S) (pl : Nat → Int32) (hi : Int32) (ad : Nat → Nat) (hok : cy_ok n σ) (k : Nat) (hk : k < n) (kdk : cy_kd (σ.1 1 k) = 0) (v : Int32) : Met l yX1_weigh wsX1_weigh { frames := 0, cells := 0, slots := 0, locals := 0 } (cy_P D cI cJ cO (fun H => cy_W D z (cy_CT cI cJ cO n n σ τ pl hi ad) ad H) [.ref (ad (100 + 2 * k)), .int v]) (cy_Q (.long (cy_wt σ 3 k))) 0 0 (fun _ => False) := by
  refine Met.ofW (cc := cX1_weigh) (maxL := 9) (ret := (some .long)) (by decide) rfl ?_
  intro p e s m args below meth c s₁ B hml hv
  obtain ⟨rfl, hK, hI⟩ := hv
  have hx := B.exec
  have hb := B.bytes
  have hr := B.returns
  have hts := atoms_spec (ws := wsX1_weigh) B.pre
  have hown : s.vm.findClass RX1 = some m.cls := findClass_of_methodNamed B.named
  have hlocks := B.notSynchronized
  have hl := lv_entry ([.ref (ad (100 + 2 * k)), .int v]) (n := 9) (Nat.le_of_ble_eq_true rfl)
  rw [lg_entry_eq]
  generalize (lg_sl ([.ref (ad (100 + 2 * k)), .int v]) ++ List.replicate (9 - (lg_sl ([.ref (ad (100 + 2 * k)), .int v])).length) Slot.unset).toArray = ls at hl ⊢
  have hl : lv_has ls 9 [(0, .ref (ad (100 + 2 * k))), (1, .int v)] := hl
  have hin1 := hin1_X1_weigh
  have hn := hok.1
  obtain ⟨pk, hpk, epk⟩ := (hok.2.2.1 k hk).2.1
  refine lv_lconst (v := 0) hx hb dX1_weigh_0 (by decide) ?_
  refine lv_lstore_n (lv' := [(2, .long 0), (0, .ref (ad (100 + 2 * k))), (1, .int v)]) hx hb dX1_weigh_1 rfl hl (by decide) rfl (fun ls hl => ?_)
  refine lv_aload_n hx hb dX1_weigh_2 rfl (lv_at hl 1 rfl) ?_
  refine cy_getNp hx hb hts hin1 hown hK hI hk kdk (hts (.fieldLink RX1 7 "CustomsYard$Numbers" "places" "[J") (by decide +kernel)) dX1_weigh_3 ?_
  refine lv_astore (lv' := [(4, .ref (ad (101 + 2 * k))), (2, .long 0), (0, .ref (ad (100 + 2 * k))), (1, .int v)]) hx hb dX1_weigh_6 hl (by decide) rfl (fun ls hl => ?_)
  refine lv_aload hx hb dX1_weigh_8 (lv_at hl 0 rfl) ?_
  refine cy_alenL hx hb hK hI hk (Or.inl kdk) hpk epk dX1_weigh_10 ?_
  refine lv_istore (lv' := [(5, .int (nI pk)), (4, .ref (ad (101 + 2 * k))), (2, .long 0), (0, .ref (ad (100 + 2 * k))), (1, .int v)]) hx hb dX1_weigh_11 hl (by decide) rfl (fun ls hl => ?_)
  refine lv_iconst (v := 0) hx hb dX1_weigh_13 (by decide) ?_
  refine lv_istore (lv' := [(6, .int 0), (5, .int (nI pk)), (4, .ref (ad (101 + 2 * k))), (2, .long 0), (0, .ref (ad (100 + 2 * k))), (1, .int v)]) hx hb dX1_weigh_14 hl (by decide) rfl (fun ls hl => ?_)
  have loop : ∀ (f i : Nat) (x : Int64) (ls : Array Slot), i + f = pk → x + cy_ns σ k f i = cy_wt σ 3 k → lv_has ls 9 [(6, .int (nI i)), (5, .int (nI pk)), (4, .ref (ad (101 + 2 * k))), (2, .long x), (0, .ref (ad (100 + 2 * k))), (1, .int v)] → W p l e (headSpec wsX1_weigh { frames := 0, cells := 0, slots := 0, locals := 0 }).room s m #[Value.ref (ad (100 + 2 * k)), Value.int v] below meth c s.heap [] 0 0 (MQ below (cy_Q (.long (cy_wt σ 3 k))) #[Value.ref (ad (100 + 2 * k)), Value.int v] s 0 0 (fun _ => False)) (F0 m 16 ls []) := by
    intro f
    induction f with
    | zero =>
      intro i x ls hif hE hl
      obtain rfl : i = pk := by omega
      refine lv_iload hx hb dX1_weigh_16 (lv_at hl 0 rfl) ?_
      refine lv_iload hx hb dX1_weigh_18 (lv_at hl 1 rfl) ?_
      refine lv_icmp_ge (tgt := 41) hx hb dX1_weigh_20 (by decide) (fun h11 => ?_) (fun h11 => absurd (nI_le (Nat.le_refl _) (by omega)) h11)
      refine lv_lload_n hx hb dX1_weigh_41 rfl (lv_at hl 3 rfl) ?_
      exact W.lret (v := x) hx hb hr (fun t ht hW => ⟨congrArg (fun q => Outcome.returned (some (Value.long q))) (by rw [← hE]; simp [cy_ns]), ht⟩) (fun q h => by cases h) dX1_weigh_42
    | succ f ih =>
      intro i x ls hif hE hl
      refine lv_iload hx hb dX1_weigh_16 (lv_at hl 0 rfl) ?_
      refine lv_iload hx hb dX1_weigh_18 (lv_at hl 1 rfl) ?_
      refine lv_icmp_ge (tgt := 41) hx hb dX1_weigh_20 (by decide) (fun h21 => absurd h21 (nI_ge (by omega) (by omega))) (fun h21 => ?_)
      refine lv_aload hx hb dX1_weigh_23 (lv_at hl 2 rfl) ?_
      refine lv_iload hx hb dX1_weigh_25 (lv_at hl 0 rfl) ?_
      refine cy_laldL (i := i) hx hb hK hI hk kdk hpk epk (by omega) dX1_weigh_27 ?_
      refine lv_lstore (lv' := [(7, .long (σ.2 0 (6 * k + i))), (6, .int (nI i)), (5, .int (nI pk)), (4, .ref (ad (101 + 2 * k))), (2, .long x), (0, .ref (ad (100 + 2 * k))), (1, .int v)]) hx hb dX1_weigh_28 hl (by decide) rfl (fun ls hl => ?_)
      refine lv_lload_n hx hb dX1_weigh_30 rfl (lv_at hl 4 rfl) ?_
      refine lv_lload hx hb dX1_weigh_31 (lv_at hl 0 rfl) ?_
      refine lv_ladd hx hb dX1_weigh_33 ?_
      refine lv_lstore_n (lv' := [(2, .long (x + (σ.2 0 (6 * k + i)))), (7, .long (σ.2 0 (6 * k + i))), (6, .int (nI i)), (5, .int (nI pk)), (4, .ref (ad (101 + 2 * k))), (0, .ref (ad (100 + 2 * k))), (1, .int v)]) hx hb dX1_weigh_34 rfl hl (by decide) rfl (fun ls hl => ?_)
      refine lv_iinc (v := nI (i + 1)) (lv' := [(6, .int (nI (i + 1))), (2, .long (x + (σ.2 0 (6 * k + i)))), (7, .long (σ.2 0 (6 * k + i))), (5, .int (nI pk)), (4, .ref (ad (101 + 2 * k))), (0, .ref (ad (100 + 2 * k))), (1, .int v)]) hx hb dX1_weigh_35 hl (k := 2) rfl (nI_1 _) (by decide) rfl (fun ls hl => ?_)
      refine lv_goto (tgt := 16) hx hb dX1_weigh_38 (by decide) ?_
      exact ih (i + 1) (x + (σ.2 0 (6 * k + i))) ls (by omega) (cy_accN hE) (lv_sub hl [0, 3, 4, 1, 5, 6] rfl)
  exact loop pk 0 0 ls (by omega) (by rw [cy_wt_0 hok hk kdk hpk epk]; simp) (lv_sub hl [0, 1, 2, 3, 4, 5] rfl)

set_option maxHeartbeats 4000000 in
set_option maxRecDepth 100000 in
theorem c_X0_tally (l : Launch) (D : va_G) (cI cJ cO : ClassId) (z n : Nat) (σ τ : cy_S) (pl : Nat → Int32) (hi : Int32) (ad : Nat → Nat) (hok : cy_ok n σ) (k : Nat) (hk : k < n) (hk2 : ¬ cy_kd (σ.1 1 k) = 2) (v lv : Int32)  : Met l yX0_tally wsX0_tally { frames := 1, cells := 0, slots := 0, locals := 21 } (cy_P D cI cJ cO (fun H => cy_W D z (cy_CT cI cJ cO n n σ τ pl hi ad) ad H) [.ref (ad (100 + 2 * k)), .int v, .int lv]) (cy_Q (.int (cy_tl σ v 3 k))) 0 0 (fun _ => False) := by
  refine Met.ofW (cc := cX0_tally) (maxL := 3) (ret := (some .int)) (by decide) rfl ?_
  intro p e s m args below meth c s₁ B hml hv
  obtain ⟨rfl, hK, hI⟩ := hv
  have hx := B.exec
  have hb := B.bytes
  have hr := B.returns
  have hts := atoms_spec (ws := wsX0_tally) B.pre
  have hown : s.vm.findClass RX0 = some m.cls := findClass_of_methodNamed B.named
  have hlocks := B.notSynchronized
  have hl := lv_entry ([.ref (ad (100 + 2 * k)), .int v, .int lv]) (n := 3) (Nat.le_of_ble_eq_true rfl)
  rw [lg_entry_eq]
  generalize (lg_sl ([.ref (ad (100 + 2 * k)), .int v, .int lv]) ++ List.replicate (3 - (lg_sl ([.ref (ad (100 + 2 * k)), .int v, .int lv])).length) Slot.unset).toArray = ls at hl ⊢
  have hl : lv_has ls 3 [(0, .ref (ad (100 + 2 * k))), (1, .int v), (2, .int lv)] := hl
  have hin1 := hin1_X0_tally
  have hin2 := hin2_X0_tally
  have hin3 := hin3_X0_tally
  have hn := hok.1
  obtain ⟨pk, hpk, epk⟩ := (hok.2.2.1 k hk).2.1
  refine lv_aload_n hx hb dX0_tally_0 rfl (lv_at hl 0 rfl) ?_
  refine lv_iload_n hx hb dX0_tally_1 rfl (lv_at hl 1 rfl) ?_
  refine cy_callp (v := .int (cy_b (cy_go (σ.1 1 k) v))) (rest := []) (a := (.ref (ad (100 + 2 * k)) :: [.int v] : List Value).toArray) (by 
      rcases cy_kd3 hok hk with hq | hq | hq
      · exact va_runU (As := [.int v]) (rest := []) ⟨hx, hb, hml, hown, hts⟩ (c_X0_goesAs l D cI cJ cO z n σ τ pl hi ad hok k hk v) (va_cwU 1 hts gX0_tally_X0_goesAs_u18X1 rfl rfl rfl rfl (by decide +kernel) ⟨Nat.le_of_ble_eq_true rfl, Nat.le_of_ble_eq_true rfl⟩) (cy_preV hK hI (cy_rv0 hK hI hk hq.1)) rfl rfl hl.1 rfl (lv_room (Nat.le_of_ble_eq_true rfl)) dX0_tally_2 ⟨Nat.le_of_ble_eq_true rfl, Nat.le_of_ble_eq_true rfl⟩
      · exact va_runU (As := [.int v]) (rest := []) ⟨hx, hb, hml, hown, hts⟩ (c_X0_goesAs l D cI cJ cO z n σ τ pl hi ad hok k hk v) (va_cwU 1 hts gX0_tally_X0_goesAs_u18X2 rfl rfl rfl rfl (by decide +kernel) ⟨Nat.le_of_ble_eq_true rfl, Nat.le_of_ble_eq_true rfl⟩) (cy_preV hK hI (cy_rv1 hK hI hk hq.1)) rfl rfl hl.1 rfl (lv_room (Nat.le_of_ble_eq_true rfl)) dX0_tally_2 ⟨Nat.le_of_ble_eq_true rfl, Nat.le_of_ble_eq_true rfl⟩
      · exact absurd hq.1 hk2) ?_
  cases b1 : (cy_go (σ.1 1 k) v)
  · refine lv_if_eq (tgt := 12) hx hb dX0_tally_5 (by decide) (fun h2 => ?_) (fun h2 => absurd (by decide) h2)
    refine lv_iconst (v := 0) hx hb dX0_tally_12 (by decide) ?_
    exact W.iret (v := 0) hx hb hr (fun t ht hW => ⟨congrArg (fun q => Outcome.returned (some (Value.int q))) (by rw [cy_tl_01 v hok hk hk2, b1]; rfl), ht⟩) (fun q h => by cases h) dX0_tally_13
  · refine lv_if_eq (tgt := 12) hx hb dX0_tally_5 (by decide) (fun h3 => absurd h3 (by decide)) (fun h3 => ?_)
    refine lv_iconst (v := 1) hx hb dX0_tally_8 (by decide) ?_
    refine lv_goto (tgt := 13) hx hb dX0_tally_9 (by decide) ?_
    exact W.iret (v := 1) hx hb hr (fun t ht hW => ⟨congrArg (fun q => Outcome.returned (some (Value.int q))) (by rw [cy_tl_01 v hok hk hk2, b1]; rfl), ht⟩) (fun q h => by cases h) dX0_tally_13

set_option maxHeartbeats 4000000 in
set_option maxRecDepth 100000 in
theorem c_X3_weigh2 (l : Launch) (D : va_G) (cI cJ cO : ClassId) (z n : Nat) (σ τ : cy_S) (pl : Nat → Int32) (hi : Int32) (ad : Nat → Nat) (hok : cy_ok n σ) (k : Nat) (hk : k < n) (kdk : cy_kd (σ.1 1 k) = 2) (hrk0 : cy_rk (σ.1 1 k) < 2) : Met l yX3_weigh wsX3_weigh { frames := 1, cells := 0, slots := 0, locals := 28 } (cy_P D cI cJ cO (fun H => cy_W D z (cy_CT cI cJ cO n n σ τ pl hi ad) ad H) [.ref (ad (100 + 2 * k)), .int 2]) (cy_Q (.long (cy_wt σ 3 k))) 0 0 (fun _ => False) := by
  refine Met.ofW (cc := cX3_weigh) (maxL := 8) (ret := (some .long)) (by decide) rfl ?_
  intro p e s m args below meth c s₁ B hml hv
  obtain ⟨rfl, hK, hI⟩ := hv
  have hx := B.exec
  have hb := B.bytes
  have hr := B.returns
  have hts := atoms_spec (ws := wsX3_weigh) B.pre
  have hown : s.vm.findClass RX3 = some m.cls := findClass_of_methodNamed B.named
  have hlocks := B.notSynchronized
  have hl := lv_entry ([.ref (ad (100 + 2 * k)), .int 2]) (n := 8) (Nat.le_of_ble_eq_true rfl)
  rw [lg_entry_eq]
  generalize (lg_sl ([.ref (ad (100 + 2 * k)), .int 2]) ++ List.replicate (8 - (lg_sl ([.ref (ad (100 + 2 * k)), .int 2])).length) Slot.unset).toArray = ls at hl ⊢
  have hl : lv_has ls 8 [(0, .ref (ad (100 + 2 * k))), (1, .int 2)] := hl
  have hin1 := hin1_X3_weigh
  have hin2 := hin2_X3_weigh
  have hin3 := hin3_X3_weigh
  have hn := hok.1
  obtain ⟨pk, hpk, epk⟩ := (hok.2.2.1 k hk).2.1
  rcases cy_kd3 hok hk with hkx | hkx | hkx
  · rw [hkx.1] at kdk; cases kdk
  · rw [hkx.1] at kdk; cases kdk
  have hT := (hok.2.2.1 k hk).2.2.2.2.2 hkx.2.2.2
  refine lv_lconst (v := 0) hx hb dX3_weigh_0 (by decide) ?_
  refine lv_lstore_n (lv' := [(2, .long 0), (0, .ref (ad (100 + 2 * k))), (1, .int 2)]) hx hb dX3_weigh_1 rfl hl (by decide) rfl (fun ls hl => ?_)
  refine lv_iload_n hx hb dX3_weigh_2 rfl (lv_at hl 2 rfl) ?_
  refine lv_iconst (v := 1) hx hb dX3_weigh_3 (by decide) ?_
  refine lv_icmp_gt (tgt := 9) hx hb dX3_weigh_4 (by decide) (fun h1 => ?_) (fun h1 => absurd (by decide) h1)
  refine lv_aload_n hx hb dX3_weigh_9 rfl (lv_at hl 1 rfl) ?_
  refine cy_getTp hx hb hts hin3 hown hK hI hk kdk (hts (.fieldLink RX3 9 "CustomsYard$Things" "places" "[LCustomsYard$Load;") (by decide +kernel)) dX3_weigh_10 ?_
  refine lv_astore (lv' := [(4, .ref (ad (101 + 2 * k))), (2, .long 0), (0, .ref (ad (100 + 2 * k))), (1, .int 2)]) hx hb dX3_weigh_13 hl (by decide) rfl (fun ls hl => ?_)
  refine lv_aload hx hb dX3_weigh_15 (lv_at hl 0 rfl) ?_
  refine cy_alenL hx hb hK hI hk (Or.inr kdk) hpk epk dX3_weigh_17 ?_
  refine lv_istore (lv' := [(5, .int (nI pk)), (4, .ref (ad (101 + 2 * k))), (2, .long 0), (0, .ref (ad (100 + 2 * k))), (1, .int 2)]) hx hb dX3_weigh_18 hl (by decide) rfl (fun ls hl => ?_)
  refine lv_iconst (v := 0) hx hb dX3_weigh_20 (by decide) ?_
  refine lv_istore (lv' := [(6, .int 0), (5, .int (nI pk)), (4, .ref (ad (101 + 2 * k))), (2, .long 0), (0, .ref (ad (100 + 2 * k))), (1, .int 2)]) hx hb dX3_weigh_21 hl (by decide) rfl (fun ls hl => ?_)
  have loop : ∀ (f i : Nat) (x : Int64) (ls : Array Slot), i + f = pk → x + cy_smL (cy_wt σ 3) (cy_cf σ k f i) = cy_wt σ 3 k → lv_has ls 8 [(6, .int (nI i)), (5, .int (nI pk)), (4, .ref (ad (101 + 2 * k))), (2, .long x), (0, .ref (ad (100 + 2 * k))), (1, .int 2)] → W p l e (headSpec wsX3_weigh { frames := 1, cells := 0, slots := 0, locals := 28 }).room s m #[Value.ref (ad (100 + 2 * k)), Value.int 2] below meth c s.heap [] 0 0 (MQ below (cy_Q (.long (cy_wt σ 3 k))) #[Value.ref (ad (100 + 2 * k)), Value.int 2] s 0 0 (fun _ => False)) (F0 m 23 ls []) := by
    intro f
    induction f with
    | zero =>
      intro i x ls hif hE hl
      obtain rfl : i = pk := by omega
      refine lv_iload hx hb dX3_weigh_23 (lv_at hl 0 rfl) ?_
      refine lv_iload hx hb dX3_weigh_25 (lv_at hl 1 rfl) ?_
      refine lv_icmp_ge (tgt := 59) hx hb dX3_weigh_27 (by decide) (fun h11 => ?_) (fun h11 => absurd (nI_le (Nat.le_refl _) (by omega)) h11)
      refine lv_lload_n hx hb dX3_weigh_59 rfl (lv_at hl 3 rfl) ?_
      exact W.lret (v := x) hx hb hr (fun t ht hW => ⟨congrArg (fun q => Outcome.returned (some (Value.long q))) (by rw [← hE]; simp [cy_cf, cy_smL]), ht⟩) (fun q h => by cases h) dX3_weigh_60
    | succ f ih =>
      intro i x ls hif hE hl
      refine lv_iload hx hb dX3_weigh_23 (lv_at hl 0 rfl) ?_
      refine lv_iload hx hb dX3_weigh_25 (lv_at hl 1 rfl) ?_
      refine lv_icmp_ge (tgt := 59) hx hb dX3_weigh_27 (by decide) (fun h21 => absurd h21 (nI_ge (by omega) (by omega))) (fun h21 => ?_)
      refine lv_aload hx hb dX3_weigh_30 (lv_at hl 2 rfl) ?_
      refine lv_iload hx hb dX3_weigh_32 (lv_at hl 0 rfl) ?_
      refine cy_aaldL (i := i) hx hb hK hI hk kdk hpk epk (by omega) dX3_weigh_34 ?_
      rcases hT i (by omega) with e1 | ⟨t, ht, e1, hgt⟩
      · refine cy_topq (cy_rf_n e1) ?_
        refine lv_astoreN (lv' := [(7, .null), (6, .int (nI i)), (5, .int (nI pk)), (4, .ref (ad (101 + 2 * k))), (2, .long x), (0, .ref (ad (100 + 2 * k))), (1, .int 2)]) hx hb dX3_weigh_35 hl (by decide) rfl (fun ls hl => ?_)
        refine lv_aloadN hx hb dX3_weigh_37 (lv_at hl 0 rfl) ?_
        refine lv_ifnullN (tgt := 53) hx hb dX3_weigh_39 (by decide) ?_
        refine lv_iinc (v := nI (i + 1)) (lv' := [(6, .int (nI (i + 1))), (7, .null), (5, .int (nI pk)), (4, .ref (ad (101 + 2 * k))), (2, .long x), (0, .ref (ad (100 + 2 * k))), (1, .int 2)]) hx hb dX3_weigh_53 hl (k := 1) rfl (nI_1 _) (by decide) rfl (fun ls hl => ?_)
        refine lv_goto (tgt := 23) hx hb dX3_weigh_56 (by decide) ?_
        exact ih (i + 1) x ls (by omega) (by rw [← hE]; show _ = x + cy_smL _ ((if _ then _ else _) ++ _); rw [if_pos e1]; rfl) (lv_sub hl [0, 2, 3, 4, 5, 6] rfl)
      · have hrk := cy_cf_rk hok hk hkx.2.2.2 ht hgt
        refine cy_topq (cy_rf_s (by omega) e1) ?_
        refine lv_astore (lv' := [(7, .ref (ad (100 + 2 * t))), (6, .int (nI i)), (5, .int (nI pk)), (4, .ref (ad (101 + 2 * k))), (2, .long x), (0, .ref (ad (100 + 2 * k))), (1, .int 2)]) hx hb dX3_weigh_35 hl (by decide) rfl (fun ls hl => ?_)
        refine lv_aload hx hb dX3_weigh_37 (lv_at hl 0 rfl) ?_
        refine lv_ifnull hx hb dX3_weigh_39 ?_
        refine lv_lload_n hx hb dX3_weigh_42 rfl (lv_at hl 4 rfl) ?_
        refine lv_aload hx hb dX3_weigh_43 (lv_at hl 0 rfl) ?_
        refine lv_iload_n hx hb dX3_weigh_45 rfl (lv_at hl 6 rfl) ?_
        refine lv_iconst (v := 1) hx hb dX3_weigh_46 (by decide) ?_
        refine lv_isub hx hb dX3_weigh_47 ?_
        refine cy_topi (y := 1) (by decide) ?_
        refine cy_callp (v := .long (cy_wt σ 3 t)) (rest := [.long x]) (a := (.ref (ad (100 + 2 * t)) :: [.int 1] : List Value).toArray) (by 
            rcases cy_kd3 hok ht with hq | hq | hq
            · exact va_runU (As := [.int 1]) (rest := [.long x]) ⟨hx, hb, hml, hown, hts⟩ (c_X1_weigh l D cI cJ cO z n σ τ pl hi ad hok t ht hq.1 1) (va_cwA 1 hts gX3_weigh_X1_weigh_u23X1 rfl rfl rfl hK.dW (by decide +kernel) ⟨Nat.le_of_ble_eq_true rfl, Nat.le_of_ble_eq_true rfl⟩) (cy_preV hK hI (cy_rv0 hK hI ht hq.1)) rfl rfl hl.1 rfl (lv_room (Nat.le_of_ble_eq_true rfl)) dX3_weigh_48 ⟨Nat.le_of_ble_eq_true rfl, Nat.le_of_ble_eq_true rfl⟩
            · exact va_runU (As := [.int 1]) (rest := [.long x]) ⟨hx, hb, hml, hown, hts⟩ (c_X2_weigh l D cI cJ cO z n σ τ pl hi ad hok t ht hq.1 1) (va_cwA 1 hts gX3_weigh_X2_weigh_u23X2 rfl rfl rfl hK.dW (by decide +kernel) ⟨Nat.le_of_ble_eq_true rfl, Nat.le_of_ble_eq_true rfl⟩) (cy_preV hK hI (cy_rv1 hK hI ht hq.1)) rfl rfl hl.1 rfl (lv_room (Nat.le_of_ble_eq_true rfl)) dX3_weigh_48 ⟨Nat.le_of_ble_eq_true rfl, Nat.le_of_ble_eq_true rfl⟩
            · exact absurd (cy_rk_2 hok ht hq.1) (by omega)) ?_
        refine lv_ladd hx hb dX3_weigh_51 ?_
        refine lv_lstore_n (lv' := [(2, .long (x + (cy_wt σ 3 t))), (7, .ref (ad (100 + 2 * t))), (6, .int (nI i)), (5, .int (nI pk)), (4, .ref (ad (101 + 2 * k))), (0, .ref (ad (100 + 2 * k))), (1, .int 2)]) hx hb dX3_weigh_52 rfl hl (by decide) rfl (fun ls hl => ?_)
        refine lv_iinc (v := nI (i + 1)) (lv' := [(6, .int (nI (i + 1))), (2, .long (x + (cy_wt σ 3 t))), (7, .ref (ad (100 + 2 * t))), (5, .int (nI pk)), (4, .ref (ad (101 + 2 * k))), (0, .ref (ad (100 + 2 * k))), (1, .int 2)]) hx hb dX3_weigh_53 hl (k := 2) rfl (nI_1 _) (by decide) rfl (fun ls hl => ?_)
        refine lv_goto (tgt := 23) hx hb dX3_weigh_56 (by decide) ?_
        exact ih (i + 1) (x + (cy_wt σ 3 t)) ls (by omega) (by rw [← hE]; show _ = x + cy_smL _ ((if _ then _ else _) ++ _); rw [if_neg (by rw [e1]; exact cy_ne1 (by omega)), e1, nI_clamp (by omega)]; show _ = x + (_ + _); ac_rfl) (lv_sub hl [0, 3, 4, 1, 5, 6] rfl)
  exact loop pk 0 0 ls (by omega) (by rw [cy_wt_2 hok hk kdk hpk epk]; simp) (lv_sub hl [0, 1, 2, 3, 4, 5] rfl)

set_option maxHeartbeats 4000000 in
set_option maxRecDepth 100000 in
theorem c_X3_weigh3 (l : Launch) (D : va_G) (cI cJ cO : ClassId) (z n : Nat) (σ τ : cy_S) (pl : Nat → Int32) (hi : Int32) (ad : Nat → Nat) (hok : cy_ok n σ) (k : Nat) (hk : k < n) (kdk : cy_kd (σ.1 1 k) = 2) (hrk0 : cy_rk (σ.1 1 k) < 3) : Met l yX3_weigh wsX3_weigh { frames := 2, cells := 0, slots := 0, locals := 55 } (cy_P D cI cJ cO (fun H => cy_W D z (cy_CT cI cJ cO n n σ τ pl hi ad) ad H) [.ref (ad (100 + 2 * k)), .int 3]) (cy_Q (.long (cy_wt σ 3 k))) 0 0 (fun _ => False) := by
  refine Met.ofW (cc := cX3_weigh) (maxL := 8) (ret := (some .long)) (by decide) rfl ?_
  intro p e s m args below meth c s₁ B hml hv
  obtain ⟨rfl, hK, hI⟩ := hv
  have hx := B.exec
  have hb := B.bytes
  have hr := B.returns
  have hts := atoms_spec (ws := wsX3_weigh) B.pre
  have hown : s.vm.findClass RX3 = some m.cls := findClass_of_methodNamed B.named
  have hlocks := B.notSynchronized
  have hl := lv_entry ([.ref (ad (100 + 2 * k)), .int 3]) (n := 8) (Nat.le_of_ble_eq_true rfl)
  rw [lg_entry_eq]
  generalize (lg_sl ([.ref (ad (100 + 2 * k)), .int 3]) ++ List.replicate (8 - (lg_sl ([.ref (ad (100 + 2 * k)), .int 3])).length) Slot.unset).toArray = ls at hl ⊢
  have hl : lv_has ls 8 [(0, .ref (ad (100 + 2 * k))), (1, .int 3)] := hl
  have hin1 := hin1_X3_weigh
  have hin2 := hin2_X3_weigh
  have hin3 := hin3_X3_weigh
  have hn := hok.1
  obtain ⟨pk, hpk, epk⟩ := (hok.2.2.1 k hk).2.1
  rcases cy_kd3 hok hk with hkx | hkx | hkx
  · rw [hkx.1] at kdk; cases kdk
  · rw [hkx.1] at kdk; cases kdk
  have hT := (hok.2.2.1 k hk).2.2.2.2.2 hkx.2.2.2
  refine lv_lconst (v := 0) hx hb dX3_weigh_0 (by decide) ?_
  refine lv_lstore_n (lv' := [(2, .long 0), (0, .ref (ad (100 + 2 * k))), (1, .int 3)]) hx hb dX3_weigh_1 rfl hl (by decide) rfl (fun ls hl => ?_)
  refine lv_iload_n hx hb dX3_weigh_2 rfl (lv_at hl 2 rfl) ?_
  refine lv_iconst (v := 1) hx hb dX3_weigh_3 (by decide) ?_
  refine lv_icmp_gt (tgt := 9) hx hb dX3_weigh_4 (by decide) (fun h1 => ?_) (fun h1 => absurd (by decide) h1)
  refine lv_aload_n hx hb dX3_weigh_9 rfl (lv_at hl 1 rfl) ?_
  refine cy_getTp hx hb hts hin3 hown hK hI hk kdk (hts (.fieldLink RX3 9 "CustomsYard$Things" "places" "[LCustomsYard$Load;") (by decide +kernel)) dX3_weigh_10 ?_
  refine lv_astore (lv' := [(4, .ref (ad (101 + 2 * k))), (2, .long 0), (0, .ref (ad (100 + 2 * k))), (1, .int 3)]) hx hb dX3_weigh_13 hl (by decide) rfl (fun ls hl => ?_)
  refine lv_aload hx hb dX3_weigh_15 (lv_at hl 0 rfl) ?_
  refine cy_alenL hx hb hK hI hk (Or.inr kdk) hpk epk dX3_weigh_17 ?_
  refine lv_istore (lv' := [(5, .int (nI pk)), (4, .ref (ad (101 + 2 * k))), (2, .long 0), (0, .ref (ad (100 + 2 * k))), (1, .int 3)]) hx hb dX3_weigh_18 hl (by decide) rfl (fun ls hl => ?_)
  refine lv_iconst (v := 0) hx hb dX3_weigh_20 (by decide) ?_
  refine lv_istore (lv' := [(6, .int 0), (5, .int (nI pk)), (4, .ref (ad (101 + 2 * k))), (2, .long 0), (0, .ref (ad (100 + 2 * k))), (1, .int 3)]) hx hb dX3_weigh_21 hl (by decide) rfl (fun ls hl => ?_)
  have loop : ∀ (f i : Nat) (x : Int64) (ls : Array Slot), i + f = pk → x + cy_smL (cy_wt σ 3) (cy_cf σ k f i) = cy_wt σ 3 k → lv_has ls 8 [(6, .int (nI i)), (5, .int (nI pk)), (4, .ref (ad (101 + 2 * k))), (2, .long x), (0, .ref (ad (100 + 2 * k))), (1, .int 3)] → W p l e (headSpec wsX3_weigh { frames := 2, cells := 0, slots := 0, locals := 55 }).room s m #[Value.ref (ad (100 + 2 * k)), Value.int 3] below meth c s.heap [] 0 0 (MQ below (cy_Q (.long (cy_wt σ 3 k))) #[Value.ref (ad (100 + 2 * k)), Value.int 3] s 0 0 (fun _ => False)) (F0 m 23 ls []) := by
    intro f
    induction f with
    | zero =>
      intro i x ls hif hE hl
      obtain rfl : i = pk := by omega
      refine lv_iload hx hb dX3_weigh_23 (lv_at hl 0 rfl) ?_
      refine lv_iload hx hb dX3_weigh_25 (lv_at hl 1 rfl) ?_
      refine lv_icmp_ge (tgt := 59) hx hb dX3_weigh_27 (by decide) (fun h11 => ?_) (fun h11 => absurd (nI_le (Nat.le_refl _) (by omega)) h11)
      refine lv_lload_n hx hb dX3_weigh_59 rfl (lv_at hl 3 rfl) ?_
      exact W.lret (v := x) hx hb hr (fun t ht hW => ⟨congrArg (fun q => Outcome.returned (some (Value.long q))) (by rw [← hE]; simp [cy_cf, cy_smL]), ht⟩) (fun q h => by cases h) dX3_weigh_60
    | succ f ih =>
      intro i x ls hif hE hl
      refine lv_iload hx hb dX3_weigh_23 (lv_at hl 0 rfl) ?_
      refine lv_iload hx hb dX3_weigh_25 (lv_at hl 1 rfl) ?_
      refine lv_icmp_ge (tgt := 59) hx hb dX3_weigh_27 (by decide) (fun h21 => absurd h21 (nI_ge (by omega) (by omega))) (fun h21 => ?_)
      refine lv_aload hx hb dX3_weigh_30 (lv_at hl 2 rfl) ?_
      refine lv_iload hx hb dX3_weigh_32 (lv_at hl 0 rfl) ?_
      refine cy_aaldL (i := i) hx hb hK hI hk kdk hpk epk (by omega) dX3_weigh_34 ?_
      rcases hT i (by omega) with e1 | ⟨t, ht, e1, hgt⟩
      · refine cy_topq (cy_rf_n e1) ?_
        refine lv_astoreN (lv' := [(7, .null), (6, .int (nI i)), (5, .int (nI pk)), (4, .ref (ad (101 + 2 * k))), (2, .long x), (0, .ref (ad (100 + 2 * k))), (1, .int 3)]) hx hb dX3_weigh_35 hl (by decide) rfl (fun ls hl => ?_)
        refine lv_aloadN hx hb dX3_weigh_37 (lv_at hl 0 rfl) ?_
        refine lv_ifnullN (tgt := 53) hx hb dX3_weigh_39 (by decide) ?_
        refine lv_iinc (v := nI (i + 1)) (lv' := [(6, .int (nI (i + 1))), (7, .null), (5, .int (nI pk)), (4, .ref (ad (101 + 2 * k))), (2, .long x), (0, .ref (ad (100 + 2 * k))), (1, .int 3)]) hx hb dX3_weigh_53 hl (k := 1) rfl (nI_1 _) (by decide) rfl (fun ls hl => ?_)
        refine lv_goto (tgt := 23) hx hb dX3_weigh_56 (by decide) ?_
        exact ih (i + 1) x ls (by omega) (by rw [← hE]; show _ = x + cy_smL _ ((if _ then _ else _) ++ _); rw [if_pos e1]; rfl) (lv_sub hl [0, 2, 3, 4, 5, 6] rfl)
      · have hrk := cy_cf_rk hok hk hkx.2.2.2 ht hgt
        refine cy_topq (cy_rf_s (by omega) e1) ?_
        refine lv_astore (lv' := [(7, .ref (ad (100 + 2 * t))), (6, .int (nI i)), (5, .int (nI pk)), (4, .ref (ad (101 + 2 * k))), (2, .long x), (0, .ref (ad (100 + 2 * k))), (1, .int 3)]) hx hb dX3_weigh_35 hl (by decide) rfl (fun ls hl => ?_)
        refine lv_aload hx hb dX3_weigh_37 (lv_at hl 0 rfl) ?_
        refine lv_ifnull hx hb dX3_weigh_39 ?_
        refine lv_lload_n hx hb dX3_weigh_42 rfl (lv_at hl 4 rfl) ?_
        refine lv_aload hx hb dX3_weigh_43 (lv_at hl 0 rfl) ?_
        refine lv_iload_n hx hb dX3_weigh_45 rfl (lv_at hl 6 rfl) ?_
        refine lv_iconst (v := 1) hx hb dX3_weigh_46 (by decide) ?_
        refine lv_isub hx hb dX3_weigh_47 ?_
        refine cy_topi (y := 2) (by decide) ?_
        refine cy_callp (v := .long (cy_wt σ 3 t)) (rest := [.long x]) (a := (.ref (ad (100 + 2 * t)) :: [.int 2] : List Value).toArray) (by 
            rcases cy_kd3 hok ht with hq | hq | hq
            · exact va_runU (As := [.int 2]) (rest := [.long x]) ⟨hx, hb, hml, hown, hts⟩ (c_X1_weigh l D cI cJ cO z n σ τ pl hi ad hok t ht hq.1 2) (va_cwA 1 hts gX3_weigh_X1_weigh_u23X1 rfl rfl rfl hK.dW (by decide +kernel) ⟨Nat.le_of_ble_eq_true rfl, Nat.le_of_ble_eq_true rfl⟩) (cy_preV hK hI (cy_rv0 hK hI ht hq.1)) rfl rfl hl.1 rfl (lv_room (Nat.le_of_ble_eq_true rfl)) dX3_weigh_48 ⟨Nat.le_of_ble_eq_true rfl, Nat.le_of_ble_eq_true rfl⟩
            · exact va_runU (As := [.int 2]) (rest := [.long x]) ⟨hx, hb, hml, hown, hts⟩ (c_X2_weigh l D cI cJ cO z n σ τ pl hi ad hok t ht hq.1 2) (va_cwA 1 hts gX3_weigh_X2_weigh_u23X2 rfl rfl rfl hK.dW (by decide +kernel) ⟨Nat.le_of_ble_eq_true rfl, Nat.le_of_ble_eq_true rfl⟩) (cy_preV hK hI (cy_rv1 hK hI ht hq.1)) rfl rfl hl.1 rfl (lv_room (Nat.le_of_ble_eq_true rfl)) dX3_weigh_48 ⟨Nat.le_of_ble_eq_true rfl, Nat.le_of_ble_eq_true rfl⟩
            · exact va_runU (As := [.int 2]) (rest := [.long x]) ⟨hx, hb, hml, hown, hts⟩ (c_X3_weigh2 l D cI cJ cO z n σ τ pl hi ad hok t ht hq.1 (by omega)) (va_cwA 1 hts gX3_weigh_X3_weigh_u23X3 rfl rfl rfl hK.dW (by decide +kernel) ⟨Nat.le_of_ble_eq_true rfl, Nat.le_of_ble_eq_true rfl⟩) (cy_preV hK hI (cy_rv2 hK hI ht hq.1)) rfl rfl hl.1 rfl (lv_room (Nat.le_of_ble_eq_true rfl)) dX3_weigh_48 ⟨Nat.le_of_ble_eq_true rfl, Nat.le_of_ble_eq_true rfl⟩) ?_
        refine lv_ladd hx hb dX3_weigh_51 ?_
        refine lv_lstore_n (lv' := [(2, .long (x + (cy_wt σ 3 t))), (7, .ref (ad (100 + 2 * t))), (6, .int (nI i)), (5, .int (nI pk)), (4, .ref (ad (101 + 2 * k))), (0, .ref (ad (100 + 2 * k))), (1, .int 3)]) hx hb dX3_weigh_52 rfl hl (by decide) rfl (fun ls hl => ?_)
        refine lv_iinc (v := nI (i + 1)) (lv' := [(6, .int (nI (i + 1))), (2, .long (x + (cy_wt σ 3 t))), (7, .ref (ad (100 + 2 * t))), (5, .int (nI pk)), (4, .ref (ad (101 + 2 * k))), (0, .ref (ad (100 + 2 * k))), (1, .int 3)]) hx hb dX3_weigh_53 hl (k := 2) rfl (nI_1 _) (by decide) rfl (fun ls hl => ?_)
        refine lv_goto (tgt := 23) hx hb dX3_weigh_56 (by decide) ?_
        exact ih (i + 1) (x + (cy_wt σ 3 t)) ls (by omega) (by rw [← hE]; show _ = x + cy_smL _ ((if _ then _ else _) ++ _); rw [if_neg (by rw [e1]; exact cy_ne1 (by omega)), e1, nI_clamp (by omega)]; show _ = x + (_ + _); ac_rfl) (lv_sub hl [0, 3, 4, 1, 5, 6] rfl)
  exact loop pk 0 0 ls (by omega) (by rw [cy_wt_2 hok hk kdk hpk epk]; simp) (lv_sub hl [0, 1, 2, 3, 4, 5] rfl)

set_option maxHeartbeats 4000000 in
set_option maxRecDepth 100000 in
theorem c_X3_tally2 (l : Launch) (D : va_G) (cI cJ cO : ClassId) (z n : Nat) (σ τ : cy_S) (pl : Nat → Int32) (hi : Int32) (ad : Nat → Nat) (hok : cy_ok n σ) (k : Nat) (hk : k < n) (kdk : cy_kd (σ.1 1 k) = 2) (hrk0 : cy_rk (σ.1 1 k) < 2) (v : Int32) : Met l yX3_tally wsX3_tally { frames := 2, cells := 0, slots := 0, locals := 43 } (cy_P D cI cJ cO (fun H => cy_W D z (cy_CT cI cJ cO n n σ τ pl hi ad) ad H) [.ref (ad (100 + 2 * k)), .int v, .int 2]) (cy_Q (.int (cy_tl σ v 3 k))) 0 0 (fun _ => False) := by
  refine Met.ofW (cc := cX3_tally) (maxL := 8) (ret := (some .int)) (by decide) rfl ?_
  intro p e s m args below meth c s₁ B hml hv
  obtain ⟨rfl, hK, hI⟩ := hv
  have hx := B.exec
  have hb := B.bytes
  have hr := B.returns
  have hts := atoms_spec (ws := wsX3_tally) B.pre
  have hown : s.vm.findClass RX3 = some m.cls := findClass_of_methodNamed B.named
  have hlocks := B.notSynchronized
  have hl := lv_entry ([.ref (ad (100 + 2 * k)), .int v, .int 2]) (n := 8) (Nat.le_of_ble_eq_true rfl)
  rw [lg_entry_eq]
  generalize (lg_sl ([.ref (ad (100 + 2 * k)), .int v, .int 2]) ++ List.replicate (8 - (lg_sl ([.ref (ad (100 + 2 * k)), .int v, .int 2])).length) Slot.unset).toArray = ls at hl ⊢
  have hl : lv_has ls 8 [(0, .ref (ad (100 + 2 * k))), (1, .int v), (2, .int 2)] := hl
  have hin1 := hin1_X3_tally
  have hin2 := hin2_X3_tally
  have hin3 := hin3_X3_tally
  have hn := hok.1
  obtain ⟨pk, hpk, epk⟩ := (hok.2.2.1 k hk).2.1
  rcases cy_kd3 hok hk with hkx | hkx | hkx
  · rw [hkx.1] at kdk; cases kdk
  · rw [hkx.1] at kdk; cases kdk
  have hT := (hok.2.2.1 k hk).2.2.2.2.2 hkx.2.2.2
  refine lv_aload_n hx hb dX3_tally_0 rfl (lv_at hl 0 rfl) ?_
  refine lv_iload_n hx hb dX3_tally_1 rfl (lv_at hl 1 rfl) ?_
  refine cy_callp (v := .int (cy_b (cy_go (σ.1 1 k) v))) (rest := []) (a := (.ref (ad (100 + 2 * k)) :: [.int v] : List Value).toArray) (by exact va_runU (As := [.int v]) (rest := []) ⟨hx, hb, hml, hown, hts⟩ (c_X0_goesAs l D cI cJ cO z n σ τ pl hi ad hok k hk v) (va_cwU 1 hts gX3_tally_X0_goesAs_u27X3 rfl rfl rfl rfl (by decide +kernel) ⟨Nat.le_of_ble_eq_true rfl, Nat.le_of_ble_eq_true rfl⟩) (cy_preV hK hI (cy_rv2 hK hI hk kdk)) rfl rfl hl.1 rfl (lv_room (Nat.le_of_ble_eq_true rfl)) dX3_tally_2 ⟨Nat.le_of_ble_eq_true rfl, Nat.le_of_ble_eq_true rfl⟩) ?_
  have ow : ∀ (x0 : Int32), x0 = cy_b (cy_go (σ.1 1 k) v) → ∀ (ls : Array Slot), lv_has ls 8 [(3, .int x0), (0, .ref (ad (100 + 2 * k))), (1, .int v), (2, .int 2)] → W p l e (headSpec wsX3_tally { frames := 2, cells := 0, slots := 0, locals := 43 }).room s m #[Value.ref (ad (100 + 2 * k)), Value.int v, Value.int 2] below meth c s.heap [] 0 0 (MQ below (cy_Q (.int (cy_tl σ v 3 k))) #[Value.ref (ad (100 + 2 * k)), Value.int v, Value.int 2] s 0 0 (fun _ => False)) (F0 m 14 ls []) := ?_
  · cases bg : cy_go (σ.1 1 k) v
    · refine lv_if_eq (tgt := 12) hx hb dX3_tally_5 (by decide) (fun h6 => ?_) (fun h6 => absurd (by decide) h6)
      refine lv_iconst (v := 0) hx hb dX3_tally_12 (by decide) ?_
      refine lv_istore_n (lv' := [(3, .int 0), (0, .ref (ad (100 + 2 * k))), (1, .int v), (2, .int 2)]) hx hb dX3_tally_13 rfl hl (by decide) rfl (fun ls hl => ?_)
      exact ow _ (by rw [bg]; rfl) ls hl
    · refine lv_if_eq (tgt := 12) hx hb dX3_tally_5 (by decide) (fun h6 => absurd h6 (by decide)) (fun h6 => ?_)
      refine lv_iconst (v := 1) hx hb dX3_tally_8 (by decide) ?_
      refine lv_goto (tgt := 13) hx hb dX3_tally_9 (by decide) ?_
      refine lv_istore_n (lv' := [(3, .int 1), (0, .ref (ad (100 + 2 * k))), (1, .int v), (2, .int 2)]) hx hb dX3_tally_13 rfl hl (by decide) rfl (fun ls hl => ?_)
      exact ow _ (by rw [bg]; rfl) ls hl
  intro x0 ex0 ls hl
  refine lv_iload_n hx hb dX3_tally_14 rfl (lv_at hl 3 rfl) ?_
  refine lv_iconst (v := 1) hx hb dX3_tally_15 (by decide) ?_
  refine lv_icmp_gt (tgt := 21) hx hb dX3_tally_16 (by decide) (fun h1 => ?_) (fun h1 => absurd (by decide) h1)
  refine lv_aload_n hx hb dX3_tally_21 rfl (lv_at hl 1 rfl) ?_
  refine cy_getTp hx hb hts hin3 hown hK hI hk kdk (hts (.fieldLink RX3 9 "CustomsYard$Things" "places" "[LCustomsYard$Load;") (by decide +kernel)) dX3_tally_22 ?_
  refine lv_astore (lv' := [(4, .ref (ad (101 + 2 * k))), (3, .int x0), (0, .ref (ad (100 + 2 * k))), (1, .int v), (2, .int 2)]) hx hb dX3_tally_25 hl (by decide) rfl (fun ls hl => ?_)
  refine lv_aload hx hb dX3_tally_27 (lv_at hl 0 rfl) ?_
  refine cy_alenL hx hb hK hI hk (Or.inr kdk) hpk epk dX3_tally_29 ?_
  refine lv_istore (lv' := [(5, .int (nI pk)), (4, .ref (ad (101 + 2 * k))), (3, .int x0), (0, .ref (ad (100 + 2 * k))), (1, .int v), (2, .int 2)]) hx hb dX3_tally_30 hl (by decide) rfl (fun ls hl => ?_)
  refine lv_iconst (v := 0) hx hb dX3_tally_32 (by decide) ?_
  refine lv_istore (lv' := [(6, .int 0), (5, .int (nI pk)), (4, .ref (ad (101 + 2 * k))), (3, .int x0), (0, .ref (ad (100 + 2 * k))), (1, .int v), (2, .int 2)]) hx hb dX3_tally_33 hl (by decide) rfl (fun ls hl => ?_)
  have loop : ∀ (f i : Nat) (x : Int32) (ls : Array Slot), i + f = pk → x + cy_smI (cy_tl σ v 3) (cy_cf σ k f i) = cy_tl σ v 3 k → lv_has ls 8 [(6, .int (nI i)), (5, .int (nI pk)), (4, .ref (ad (101 + 2 * k))), (3, .int x), (0, .ref (ad (100 + 2 * k))), (1, .int v), (2, .int 2)] → W p l e (headSpec wsX3_tally { frames := 2, cells := 0, slots := 0, locals := 43 }).room s m #[Value.ref (ad (100 + 2 * k)), Value.int v, Value.int 2] below meth c s.heap [] 0 0 (MQ below (cy_Q (.int (cy_tl σ v 3 k))) #[Value.ref (ad (100 + 2 * k)), Value.int v, Value.int 2] s 0 0 (fun _ => False)) (F0 m 35 ls []) := by
    intro f
    induction f with
    | zero =>
      intro i x ls hif hE hl
      obtain rfl : i = pk := by omega
      refine lv_iload hx hb dX3_tally_35 (lv_at hl 0 rfl) ?_
      refine lv_iload hx hb dX3_tally_37 (lv_at hl 1 rfl) ?_
      refine lv_icmp_ge (tgt := 72) hx hb dX3_tally_39 (by decide) (fun h11 => ?_) (fun h11 => absurd (nI_le (Nat.le_refl _) (by omega)) h11)
      refine lv_iload_n hx hb dX3_tally_72 rfl (lv_at hl 3 rfl) ?_
      exact W.iret (v := x) hx hb hr (fun t ht hW => ⟨congrArg (fun q => Outcome.returned (some (Value.int q))) (by rw [← hE]; simp [cy_cf, cy_smI]), ht⟩) (fun q h => by cases h) dX3_tally_73
    | succ f ih =>
      intro i x ls hif hE hl
      refine lv_iload hx hb dX3_tally_35 (lv_at hl 0 rfl) ?_
      refine lv_iload hx hb dX3_tally_37 (lv_at hl 1 rfl) ?_
      refine lv_icmp_ge (tgt := 72) hx hb dX3_tally_39 (by decide) (fun h21 => absurd h21 (nI_ge (by omega) (by omega))) (fun h21 => ?_)
      refine lv_aload hx hb dX3_tally_42 (lv_at hl 2 rfl) ?_
      refine lv_iload hx hb dX3_tally_44 (lv_at hl 0 rfl) ?_
      refine cy_aaldL (i := i) hx hb hK hI hk kdk hpk epk (by omega) dX3_tally_46 ?_
      rcases hT i (by omega) with e1 | ⟨t, ht, e1, hgt⟩
      · refine cy_topq (cy_rf_n e1) ?_
        refine lv_astoreN (lv' := [(7, .null), (6, .int (nI i)), (5, .int (nI pk)), (4, .ref (ad (101 + 2 * k))), (3, .int x), (0, .ref (ad (100 + 2 * k))), (1, .int v), (2, .int 2)]) hx hb dX3_tally_47 hl (by decide) rfl (fun ls hl => ?_)
        refine lv_aloadN hx hb dX3_tally_49 (lv_at hl 0 rfl) ?_
        refine lv_ifnullN (tgt := 66) hx hb dX3_tally_51 (by decide) ?_
        refine lv_iinc (v := nI (i + 1)) (lv' := [(6, .int (nI (i + 1))), (7, .null), (5, .int (nI pk)), (4, .ref (ad (101 + 2 * k))), (3, .int x), (0, .ref (ad (100 + 2 * k))), (1, .int v), (2, .int 2)]) hx hb dX3_tally_66 hl (k := 1) rfl (nI_1 _) (by decide) rfl (fun ls hl => ?_)
        refine lv_goto (tgt := 35) hx hb dX3_tally_69 (by decide) ?_
        exact ih (i + 1) x ls (by omega) (by rw [← hE]; show _ = x + cy_smI _ ((if _ then _ else _) ++ _); rw [if_pos e1]; rfl) (lv_sub hl [0, 2, 3, 4, 5, 6, 7] rfl)
      · have hrk := cy_cf_rk hok hk hkx.2.2.2 ht hgt
        refine cy_topq (cy_rf_s (by omega) e1) ?_
        refine lv_astore (lv' := [(7, .ref (ad (100 + 2 * t))), (6, .int (nI i)), (5, .int (nI pk)), (4, .ref (ad (101 + 2 * k))), (3, .int x), (0, .ref (ad (100 + 2 * k))), (1, .int v), (2, .int 2)]) hx hb dX3_tally_47 hl (by decide) rfl (fun ls hl => ?_)
        refine lv_aload hx hb dX3_tally_49 (lv_at hl 0 rfl) ?_
        refine lv_ifnull hx hb dX3_tally_51 ?_
        refine lv_iload_n hx hb dX3_tally_54 rfl (lv_at hl 4 rfl) ?_
        refine lv_aload hx hb dX3_tally_55 (lv_at hl 0 rfl) ?_
        refine lv_iload_n hx hb dX3_tally_57 rfl (lv_at hl 6 rfl) ?_
        refine lv_iload_n hx hb dX3_tally_58 rfl (lv_at hl 7 rfl) ?_
        refine lv_iconst (v := 1) hx hb dX3_tally_59 (by decide) ?_
        refine lv_isub hx hb dX3_tally_60 ?_
        refine cy_topi (y := 1) (by decide) ?_
        refine cy_callp (v := .int (cy_tl σ v 3 t)) (rest := [.int x]) (a := (.ref (ad (100 + 2 * t)) :: [.int v, .int 1] : List Value).toArray) (by 
            rcases cy_kd3 hok ht with hq | hq | hq
            · exact va_runU (As := [.int v, .int 1]) (rest := [.int x]) ⟨hx, hb, hml, hown, hts⟩ (c_X0_tally l D cI cJ cO z n σ τ pl hi ad hok t ht (by rw [hq.1]; decide) v 1) (va_cwU 2 hts gX3_tally_X0_tally_u31X1 rfl rfl rfl rfl (by decide +kernel) ⟨Nat.le_of_ble_eq_true rfl, Nat.le_of_ble_eq_true rfl⟩) (cy_preV hK hI (cy_rv0 hK hI ht hq.1)) rfl rfl hl.1 rfl (lv_room (Nat.le_of_ble_eq_true rfl)) dX3_tally_61 ⟨Nat.le_of_ble_eq_true rfl, Nat.le_of_ble_eq_true rfl⟩
            · exact va_runU (As := [.int v, .int 1]) (rest := [.int x]) ⟨hx, hb, hml, hown, hts⟩ (c_X0_tally l D cI cJ cO z n σ τ pl hi ad hok t ht (by rw [hq.1]; decide) v 1) (va_cwU 2 hts gX3_tally_X0_tally_u31X2 rfl rfl rfl rfl (by decide +kernel) ⟨Nat.le_of_ble_eq_true rfl, Nat.le_of_ble_eq_true rfl⟩) (cy_preV hK hI (cy_rv1 hK hI ht hq.1)) rfl rfl hl.1 rfl (lv_room (Nat.le_of_ble_eq_true rfl)) dX3_tally_61 ⟨Nat.le_of_ble_eq_true rfl, Nat.le_of_ble_eq_true rfl⟩
            · exact absurd (cy_rk_2 hok ht hq.1) (by omega)) ?_
        refine lv_iadd hx hb dX3_tally_64 ?_
        refine lv_istore_n (lv' := [(3, .int (x + (cy_tl σ v 3 t))), (7, .ref (ad (100 + 2 * t))), (6, .int (nI i)), (5, .int (nI pk)), (4, .ref (ad (101 + 2 * k))), (0, .ref (ad (100 + 2 * k))), (1, .int v), (2, .int 2)]) hx hb dX3_tally_65 rfl hl (by decide) rfl (fun ls hl => ?_)
        refine lv_iinc (v := nI (i + 1)) (lv' := [(6, .int (nI (i + 1))), (3, .int (x + (cy_tl σ v 3 t))), (7, .ref (ad (100 + 2 * t))), (5, .int (nI pk)), (4, .ref (ad (101 + 2 * k))), (0, .ref (ad (100 + 2 * k))), (1, .int v), (2, .int 2)]) hx hb dX3_tally_66 hl (k := 2) rfl (nI_1 _) (by decide) rfl (fun ls hl => ?_)
        refine lv_goto (tgt := 35) hx hb dX3_tally_69 (by decide) ?_
        exact ih (i + 1) (x + (cy_tl σ v 3 t)) ls (by omega) (by rw [← hE]; show _ = x + cy_smI _ ((if _ then _ else _) ++ _); rw [if_neg (by rw [e1]; exact cy_ne1 (by omega)), e1, nI_clamp (by omega)]; show _ = x + (_ + _); ac_rfl) (lv_sub hl [0, 3, 4, 1, 5, 6, 7] rfl)
  exact loop pk 0 x0 ls (by omega) (by rw [cy_tl_2 v hok hk kdk hpk epk, ex0]) (lv_sub hl [0, 1, 2, 3, 4, 5, 6] rfl)

set_option maxHeartbeats 4000000 in
set_option maxRecDepth 100000 in
theorem c_X3_tally3 (l : Launch) (D : va_G) (cI cJ cO : ClassId) (z n : Nat) (σ τ : cy_S) (pl : Nat → Int32) (hi : Int32) (ad : Nat → Nat) (hok : cy_ok n σ) (k : Nat) (hk : k < n) (kdk : cy_kd (σ.1 1 k) = 2) (hrk0 : cy_rk (σ.1 1 k) < 3) (v : Int32) : Met l yX3_tally wsX3_tally { frames := 3, cells := 0, slots := 0, locals := 70 } (cy_P D cI cJ cO (fun H => cy_W D z (cy_CT cI cJ cO n n σ τ pl hi ad) ad H) [.ref (ad (100 + 2 * k)), .int v, .int 3]) (cy_Q (.int (cy_tl σ v 3 k))) 0 0 (fun _ => False) := by
  refine Met.ofW (cc := cX3_tally) (maxL := 8) (ret := (some .int)) (by decide) rfl ?_
  intro p e s m args below meth c s₁ B hml hv
  obtain ⟨rfl, hK, hI⟩ := hv
  have hx := B.exec
  have hb := B.bytes
  have hr := B.returns
  have hts := atoms_spec (ws := wsX3_tally) B.pre
  have hown : s.vm.findClass RX3 = some m.cls := findClass_of_methodNamed B.named
  have hlocks := B.notSynchronized
  have hl := lv_entry ([.ref (ad (100 + 2 * k)), .int v, .int 3]) (n := 8) (Nat.le_of_ble_eq_true rfl)
  rw [lg_entry_eq]
  generalize (lg_sl ([.ref (ad (100 + 2 * k)), .int v, .int 3]) ++ List.replicate (8 - (lg_sl ([.ref (ad (100 + 2 * k)), .int v, .int 3])).length) Slot.unset).toArray = ls at hl ⊢
  have hl : lv_has ls 8 [(0, .ref (ad (100 + 2 * k))), (1, .int v), (2, .int 3)] := hl
  have hin1 := hin1_X3_tally
  have hin2 := hin2_X3_tally
  have hin3 := hin3_X3_tally
  have hn := hok.1
  obtain ⟨pk, hpk, epk⟩ := (hok.2.2.1 k hk).2.1
  rcases cy_kd3 hok hk with hkx | hkx | hkx
  · rw [hkx.1] at kdk; cases kdk
  · rw [hkx.1] at kdk; cases kdk
  have hT := (hok.2.2.1 k hk).2.2.2.2.2 hkx.2.2.2
  refine lv_aload_n hx hb dX3_tally_0 rfl (lv_at hl 0 rfl) ?_
  refine lv_iload_n hx hb dX3_tally_1 rfl (lv_at hl 1 rfl) ?_
  refine cy_callp (v := .int (cy_b (cy_go (σ.1 1 k) v))) (rest := []) (a := (.ref (ad (100 + 2 * k)) :: [.int v] : List Value).toArray) (by exact va_runU (As := [.int v]) (rest := []) ⟨hx, hb, hml, hown, hts⟩ (c_X0_goesAs l D cI cJ cO z n σ τ pl hi ad hok k hk v) (va_cwU 1 hts gX3_tally_X0_goesAs_u27X3 rfl rfl rfl rfl (by decide +kernel) ⟨Nat.le_of_ble_eq_true rfl, Nat.le_of_ble_eq_true rfl⟩) (cy_preV hK hI (cy_rv2 hK hI hk kdk)) rfl rfl hl.1 rfl (lv_room (Nat.le_of_ble_eq_true rfl)) dX3_tally_2 ⟨Nat.le_of_ble_eq_true rfl, Nat.le_of_ble_eq_true rfl⟩) ?_
  have ow : ∀ (x0 : Int32), x0 = cy_b (cy_go (σ.1 1 k) v) → ∀ (ls : Array Slot), lv_has ls 8 [(3, .int x0), (0, .ref (ad (100 + 2 * k))), (1, .int v), (2, .int 3)] → W p l e (headSpec wsX3_tally { frames := 3, cells := 0, slots := 0, locals := 70 }).room s m #[Value.ref (ad (100 + 2 * k)), Value.int v, Value.int 3] below meth c s.heap [] 0 0 (MQ below (cy_Q (.int (cy_tl σ v 3 k))) #[Value.ref (ad (100 + 2 * k)), Value.int v, Value.int 3] s 0 0 (fun _ => False)) (F0 m 14 ls []) := ?_
  · cases bg : cy_go (σ.1 1 k) v
    · refine lv_if_eq (tgt := 12) hx hb dX3_tally_5 (by decide) (fun h6 => ?_) (fun h6 => absurd (by decide) h6)
      refine lv_iconst (v := 0) hx hb dX3_tally_12 (by decide) ?_
      refine lv_istore_n (lv' := [(3, .int 0), (0, .ref (ad (100 + 2 * k))), (1, .int v), (2, .int 3)]) hx hb dX3_tally_13 rfl hl (by decide) rfl (fun ls hl => ?_)
      exact ow _ (by rw [bg]; rfl) ls hl
    · refine lv_if_eq (tgt := 12) hx hb dX3_tally_5 (by decide) (fun h6 => absurd h6 (by decide)) (fun h6 => ?_)
      refine lv_iconst (v := 1) hx hb dX3_tally_8 (by decide) ?_
      refine lv_goto (tgt := 13) hx hb dX3_tally_9 (by decide) ?_
      refine lv_istore_n (lv' := [(3, .int 1), (0, .ref (ad (100 + 2 * k))), (1, .int v), (2, .int 3)]) hx hb dX3_tally_13 rfl hl (by decide) rfl (fun ls hl => ?_)
      exact ow _ (by rw [bg]; rfl) ls hl
  intro x0 ex0 ls hl
  refine lv_iload_n hx hb dX3_tally_14 rfl (lv_at hl 3 rfl) ?_
  refine lv_iconst (v := 1) hx hb dX3_tally_15 (by decide) ?_
  refine lv_icmp_gt (tgt := 21) hx hb dX3_tally_16 (by decide) (fun h1 => ?_) (fun h1 => absurd (by decide) h1)
  refine lv_aload_n hx hb dX3_tally_21 rfl (lv_at hl 1 rfl) ?_
  refine cy_getTp hx hb hts hin3 hown hK hI hk kdk (hts (.fieldLink RX3 9 "CustomsYard$Things" "places" "[LCustomsYard$Load;") (by decide +kernel)) dX3_tally_22 ?_
  refine lv_astore (lv' := [(4, .ref (ad (101 + 2 * k))), (3, .int x0), (0, .ref (ad (100 + 2 * k))), (1, .int v), (2, .int 3)]) hx hb dX3_tally_25 hl (by decide) rfl (fun ls hl => ?_)
  refine lv_aload hx hb dX3_tally_27 (lv_at hl 0 rfl) ?_
  refine cy_alenL hx hb hK hI hk (Or.inr kdk) hpk epk dX3_tally_29 ?_
  refine lv_istore (lv' := [(5, .int (nI pk)), (4, .ref (ad (101 + 2 * k))), (3, .int x0), (0, .ref (ad (100 + 2 * k))), (1, .int v), (2, .int 3)]) hx hb dX3_tally_30 hl (by decide) rfl (fun ls hl => ?_)
  refine lv_iconst (v := 0) hx hb dX3_tally_32 (by decide) ?_
  refine lv_istore (lv' := [(6, .int 0), (5, .int (nI pk)), (4, .ref (ad (101 + 2 * k))), (3, .int x0), (0, .ref (ad (100 + 2 * k))), (1, .int v), (2, .int 3)]) hx hb dX3_tally_33 hl (by decide) rfl (fun ls hl => ?_)
  have loop : ∀ (f i : Nat) (x : Int32) (ls : Array Slot), i + f = pk → x + cy_smI (cy_tl σ v 3) (cy_cf σ k f i) = cy_tl σ v 3 k → lv_has ls 8 [(6, .int (nI i)), (5, .int (nI pk)), (4, .ref (ad (101 + 2 * k))), (3, .int x), (0, .ref (ad (100 + 2 * k))), (1, .int v), (2, .int 3)] → W p l e (headSpec wsX3_tally { frames := 3, cells := 0, slots := 0, locals := 70 }).room s m #[Value.ref (ad (100 + 2 * k)), Value.int v, Value.int 3] below meth c s.heap [] 0 0 (MQ below (cy_Q (.int (cy_tl σ v 3 k))) #[Value.ref (ad (100 + 2 * k)), Value.int v, Value.int 3] s 0 0 (fun _ => False)) (F0 m 35 ls []) := by
    intro f
    induction f with
    | zero =>
      intro i x ls hif hE hl
      obtain rfl : i = pk := by omega
      refine lv_iload hx hb dX3_tally_35 (lv_at hl 0 rfl) ?_
      refine lv_iload hx hb dX3_tally_37 (lv_at hl 1 rfl) ?_
      refine lv_icmp_ge (tgt := 72) hx hb dX3_tally_39 (by decide) (fun h11 => ?_) (fun h11 => absurd (nI_le (Nat.le_refl _) (by omega)) h11)
      refine lv_iload_n hx hb dX3_tally_72 rfl (lv_at hl 3 rfl) ?_
      exact W.iret (v := x) hx hb hr (fun t ht hW => ⟨congrArg (fun q => Outcome.returned (some (Value.int q))) (by rw [← hE]; simp [cy_cf, cy_smI]), ht⟩) (fun q h => by cases h) dX3_tally_73
    | succ f ih =>
      intro i x ls hif hE hl
      refine lv_iload hx hb dX3_tally_35 (lv_at hl 0 rfl) ?_
      refine lv_iload hx hb dX3_tally_37 (lv_at hl 1 rfl) ?_
      refine lv_icmp_ge (tgt := 72) hx hb dX3_tally_39 (by decide) (fun h21 => absurd h21 (nI_ge (by omega) (by omega))) (fun h21 => ?_)
      refine lv_aload hx hb dX3_tally_42 (lv_at hl 2 rfl) ?_
      refine lv_iload hx hb dX3_tally_44 (lv_at hl 0 rfl) ?_
      refine cy_aaldL (i := i) hx hb hK hI hk kdk hpk epk (by omega) dX3_tally_46 ?_
      rcases hT i (by omega) with e1 | ⟨t, ht, e1, hgt⟩
      · refine cy_topq (cy_rf_n e1) ?_
        refine lv_astoreN (lv' := [(7, .null), (6, .int (nI i)), (5, .int (nI pk)), (4, .ref (ad (101 + 2 * k))), (3, .int x), (0, .ref (ad (100 + 2 * k))), (1, .int v), (2, .int 3)]) hx hb dX3_tally_47 hl (by decide) rfl (fun ls hl => ?_)
        refine lv_aloadN hx hb dX3_tally_49 (lv_at hl 0 rfl) ?_
        refine lv_ifnullN (tgt := 66) hx hb dX3_tally_51 (by decide) ?_
        refine lv_iinc (v := nI (i + 1)) (lv' := [(6, .int (nI (i + 1))), (7, .null), (5, .int (nI pk)), (4, .ref (ad (101 + 2 * k))), (3, .int x), (0, .ref (ad (100 + 2 * k))), (1, .int v), (2, .int 3)]) hx hb dX3_tally_66 hl (k := 1) rfl (nI_1 _) (by decide) rfl (fun ls hl => ?_)
        refine lv_goto (tgt := 35) hx hb dX3_tally_69 (by decide) ?_
        exact ih (i + 1) x ls (by omega) (by rw [← hE]; show _ = x + cy_smI _ ((if _ then _ else _) ++ _); rw [if_pos e1]; rfl) (lv_sub hl [0, 2, 3, 4, 5, 6, 7] rfl)
      · have hrk := cy_cf_rk hok hk hkx.2.2.2 ht hgt
        refine cy_topq (cy_rf_s (by omega) e1) ?_
        refine lv_astore (lv' := [(7, .ref (ad (100 + 2 * t))), (6, .int (nI i)), (5, .int (nI pk)), (4, .ref (ad (101 + 2 * k))), (3, .int x), (0, .ref (ad (100 + 2 * k))), (1, .int v), (2, .int 3)]) hx hb dX3_tally_47 hl (by decide) rfl (fun ls hl => ?_)
        refine lv_aload hx hb dX3_tally_49 (lv_at hl 0 rfl) ?_
        refine lv_ifnull hx hb dX3_tally_51 ?_
        refine lv_iload_n hx hb dX3_tally_54 rfl (lv_at hl 4 rfl) ?_
        refine lv_aload hx hb dX3_tally_55 (lv_at hl 0 rfl) ?_
        refine lv_iload_n hx hb dX3_tally_57 rfl (lv_at hl 6 rfl) ?_
        refine lv_iload_n hx hb dX3_tally_58 rfl (lv_at hl 7 rfl) ?_
        refine lv_iconst (v := 1) hx hb dX3_tally_59 (by decide) ?_
        refine lv_isub hx hb dX3_tally_60 ?_
        refine cy_topi (y := 2) (by decide) ?_
        refine cy_callp (v := .int (cy_tl σ v 3 t)) (rest := [.int x]) (a := (.ref (ad (100 + 2 * t)) :: [.int v, .int 2] : List Value).toArray) (by 
            rcases cy_kd3 hok ht with hq | hq | hq
            · exact va_runU (As := [.int v, .int 2]) (rest := [.int x]) ⟨hx, hb, hml, hown, hts⟩ (c_X0_tally l D cI cJ cO z n σ τ pl hi ad hok t ht (by rw [hq.1]; decide) v 2) (va_cwU 2 hts gX3_tally_X0_tally_u31X1 rfl rfl rfl rfl (by decide +kernel) ⟨Nat.le_of_ble_eq_true rfl, Nat.le_of_ble_eq_true rfl⟩) (cy_preV hK hI (cy_rv0 hK hI ht hq.1)) rfl rfl hl.1 rfl (lv_room (Nat.le_of_ble_eq_true rfl)) dX3_tally_61 ⟨Nat.le_of_ble_eq_true rfl, Nat.le_of_ble_eq_true rfl⟩
            · exact va_runU (As := [.int v, .int 2]) (rest := [.int x]) ⟨hx, hb, hml, hown, hts⟩ (c_X0_tally l D cI cJ cO z n σ τ pl hi ad hok t ht (by rw [hq.1]; decide) v 2) (va_cwU 2 hts gX3_tally_X0_tally_u31X2 rfl rfl rfl rfl (by decide +kernel) ⟨Nat.le_of_ble_eq_true rfl, Nat.le_of_ble_eq_true rfl⟩) (cy_preV hK hI (cy_rv1 hK hI ht hq.1)) rfl rfl hl.1 rfl (lv_room (Nat.le_of_ble_eq_true rfl)) dX3_tally_61 ⟨Nat.le_of_ble_eq_true rfl, Nat.le_of_ble_eq_true rfl⟩
            · exact va_runU (As := [.int v, .int 2]) (rest := [.int x]) ⟨hx, hb, hml, hown, hts⟩ (c_X3_tally2 l D cI cJ cO z n σ τ pl hi ad hok t ht hq.1 (by omega) v) (va_cwO 2 hts gX3_tally_X3_tally_u31X3 rfl rfl rfl (b0 := cX0_tally) (m0 := 3) (r0 := some .int) (by decide +kernel) (by decide +kernel) ⟨Nat.le_of_ble_eq_true rfl, Nat.le_of_ble_eq_true rfl⟩) (cy_preV hK hI (cy_rv2 hK hI ht hq.1)) rfl rfl hl.1 rfl (lv_room (Nat.le_of_ble_eq_true rfl)) dX3_tally_61 ⟨Nat.le_of_ble_eq_true rfl, Nat.le_of_ble_eq_true rfl⟩) ?_
        refine lv_iadd hx hb dX3_tally_64 ?_
        refine lv_istore_n (lv' := [(3, .int (x + (cy_tl σ v 3 t))), (7, .ref (ad (100 + 2 * t))), (6, .int (nI i)), (5, .int (nI pk)), (4, .ref (ad (101 + 2 * k))), (0, .ref (ad (100 + 2 * k))), (1, .int v), (2, .int 3)]) hx hb dX3_tally_65 rfl hl (by decide) rfl (fun ls hl => ?_)
        refine lv_iinc (v := nI (i + 1)) (lv' := [(6, .int (nI (i + 1))), (3, .int (x + (cy_tl σ v 3 t))), (7, .ref (ad (100 + 2 * t))), (5, .int (nI pk)), (4, .ref (ad (101 + 2 * k))), (0, .ref (ad (100 + 2 * k))), (1, .int v), (2, .int 3)]) hx hb dX3_tally_66 hl (k := 2) rfl (nI_1 _) (by decide) rfl (fun ls hl => ?_)
        refine lv_goto (tgt := 35) hx hb dX3_tally_69 (by decide) ?_
        exact ih (i + 1) (x + (cy_tl σ v 3 t)) ls (by omega) (by rw [← hE]; show _ = x + cy_smI _ ((if _ then _ else _) ++ _); rw [if_neg (by rw [e1]; exact cy_ne1 (by omega)), e1, nI_clamp (by omega)]; show _ = x + (_ + _); ac_rfl) (lv_sub hl [0, 3, 4, 1, 5, 6, 7] rfl)
  exact loop pk 0 x0 ls (by omega) (by rw [cy_tl_2 v hok hk kdk hpk epk, ex0]) (lv_sub hl [0, 1, 2, 3, 4, 5, 6] rfl)
