theorem cy_ns_cg {σ σ' : cy_S} (h5 : σ.2 0 = σ'.2 0) (k : Nat) : ∀ f i, cy_ns σ k f i = cy_ns σ' k f i
  | 0, _ => rfl
  | f + 1, i => by
    unfold cy_ns
    rw [h5, cy_ns_cg h5 k f (i + 1)]
theorem cy_cf_cg {σ σ' : cy_S} (h4 : σ.1 4 = σ'.1 4) (k : Nat) : ∀ f i, cy_cf σ k f i = cy_cf σ' k f i
  | 0, _ => rfl
  | f + 1, i => by
    unfold cy_cf
    rw [h4, cy_cf_cg h4 k f (i + 1)]
theorem cy_ch_cg {σ σ' : cy_S} (h1 : σ.1 1 = σ'.1 1) (h2 : σ.1 2 = σ'.1 2) (h4 : σ.1 4 = σ'.1 4) (k : Nat) : cy_ch σ k = cy_ch σ' k := by
  unfold cy_ch
  rw [h1, h2, cy_cf_cg h4]
theorem cy_wt_cg {σ σ' : cy_S} (h1 : σ.1 1 = σ'.1 1) (h2 : σ.1 2 = σ'.1 2) (h3 : σ.1 3 = σ'.1 3) (h4 : σ.1 4 = σ'.1 4) (h5 : σ.2 0 = σ'.2 0) : ∀ f k, cy_wt σ f k = cy_wt σ' f k
  | 0, _ => rfl
  | f + 1, k => by
    unfold cy_wt cy_bs
    rw [cy_ch_cg h1 h2 h4, cy_ns_cg h5, h2, h3, cy_smL_congr (fun t _ => cy_wt_cg h1 h2 h3 h4 h5 f t)]
theorem cy_tl_cg {σ σ' : cy_S} (v : Int32) (h1 : σ.1 1 = σ'.1 1) (h2 : σ.1 2 = σ'.1 2) (h4 : σ.1 4 = σ'.1 4) : ∀ f k, cy_tl σ v f k = cy_tl σ' v f k
  | 0, _ => rfl
  | f + 1, k => by
    unfold cy_tl
    rw [cy_ch_cg h1 h2 h4, h1, cy_smI_congr (fun t _ => cy_tl_cg v h1 h2 h4 f t)]
theorem cy_wt_z (σ : cy_S) (w : Int32) (f k : Nat) : cy_wt (cy_i σ 0 2 w) f k = cy_wt σ f k := cy_wt_cg (σ := cy_i σ 0 2 w) (σ' := σ) rfl rfl rfl rfl rfl f k
theorem cy_tl_z (σ : cy_S) (v w : Int32) (f k : Nat) : cy_tl (cy_i σ 0 2 w) v f k = cy_tl σ v f k := cy_tl_cg (σ := cy_i σ 0 2 w) (σ' := σ) v rfl rfl rfl f k
theorem cy_accL {x b r c w g : Int64} (h : x + (r + (w + 0)) = g) (hw : w = b + c) : (x + b) + (r + c) = g := by
  rw [← h, hw]
  simp only [Int64.add_zero]
  ac_rfl
theorem cy_accI {x b r c w g : Int32} (h : x + (r + (w + 0)) = g) (hw : w = b + c) : (x + b) + (r + c) = g := by
  rw [← h, hw]
  simp only [Int32.add_zero]
  ac_rfl
theorem cy_accN {x a b g : Int64} (h : x + (a + b) = g) : (x + a) + b = g := by rw [← h]; ac_rfl
def cy_oWeight (n : Nat) (σ : cy_S) (l : Int32) : Int64 × cy_S := if cy_ld n l = false then (0, cy_no (cy_z σ) (-2)) else (cy_wt σ 3 l.toNatClampNeg, cy_z σ)
def cy_oInside (n : Nat) (σ : cy_S) (l v : Int32) : Int32 × cy_S := if cy_ld n l = false ∨ cy_vw v = false then (-2, cy_no (cy_z σ) (-2)) else (cy_tl σ v 3 l.toNatClampNeg, cy_z σ)
def cy_oPass (n : Nat) (σ : cy_S) (l g : Int32) : Int32 × cy_S := if cy_ld n l = false ∨ cy_gt g = false ∨ σ.1 6 g.toNatClampNeg = -1 then (-2, cy_no (cy_z σ) (-2)) else if cy_go (σ.1 1 l.toNatClampNeg) (σ.1 6 g.toNatClampNeg) = false then (0, cy_i (cy_z σ) 0 6 (σ.1 0 6 + 1)) else (1, cy_l (cy_z σ) 1 g.toNatClampNeg (σ.2 1 g.toNatClampNeg + cy_wt σ 3 l.toNatClampNeg))
theorem hin5_X5_lay : ∀ w ∈ u_ws RX5 TX5 19, w ∈ wsX5_lay := by decide +kernel
theorem hin5_X5_next : ∀ w ∈ u_ws RX5 TX5 19, w ∈ wsX5_next := by decide +kernel
set_option maxHeartbeats 4000000 in
set_option maxRecDepth 100000 in
theorem c_X5_lay (l : Launch) (D : va_G) (cI cJ cO : ClassId) (z n na : Nat) (σ τ : cy_S) (pl : Nat → Int32) (hi : Int32) (ad : Nat → Nat) (h : Nat) (hh : h < 60) (ehi : hi = nI h) (v : Int32)  : Met l yX5_lay wsX5_lay { frames := 0, cells := 0, slots := 0, locals := 0 } (cy_P D cI cJ cO (fun H => cy_W D z (cy_CT cI cJ cO n na σ τ pl hi ad) ad H) [.ref (ad 20), .int v]) (cy_M (S := Unit) z (fun _ => none) (fun _ H => cy_W D z (cy_CT cI cJ cO n na σ τ (va_up pl h v) (nI (h + 1)) ad) ad H)) 0 0 (fun q => z ≤ q) := by
  refine Met.ofW (cc := cX5_lay) (maxL := 2) (ret := none) (by decide) rfl ?_
  intro p e s m args below meth c s₁ B hml hv
  obtain ⟨rfl, hK, hI⟩ := hv
  have hx := B.exec
  have hb := B.bytes
  have hr := B.returns
  have hts := atoms_spec (ws := wsX5_lay) B.pre
  have hown : s.vm.findClass RX5 = some m.cls := findClass_of_methodNamed B.named
  have hlocks := B.notSynchronized
  have hS : va_S (fun q => z ≤ q) s.heap s.heap [] := va_S.rf
  have hl := lv_entry ([.ref (ad 20), .int v]) (n := 2) (Nat.le_of_ble_eq_true rfl)
  rw [lg_entry_eq]
  generalize (lg_sl ([.ref (ad 20), .int v]) ++ List.replicate (2 - (lg_sl ([.ref (ad 20), .int v])).length) Slot.unset).toArray = ls at hl ⊢
  have hl : lv_has ls 2 [(0, .ref (ad 20)), (1, .int v)] := hl
  have hin5 := hin5_X5_lay
  refine lv_aload_n hx hb dX5_lay_0 rfl (lv_at hl 0 rfl) ?_
  refine cy_getT (v := .ref (ad 31)) hx hb hts hin5 hown hK hI 17 (by decide) (hts (.fieldLink RX5 41 "CustomsYardModel" "pile" "[I") (by decide +kernel)) rfl dX5_lay_1 ?_
  refine lv_aload_n hx hb dX5_lay_4 rfl (lv_at hl 0 rfl) ?_
  refine cy_getT (v := .int hi) hx hb hts hin5 hown hK hI 18 (by decide) (hts (.fieldLink RX5 101 "CustomsYardModel" "high" "I") (by decide +kernel)) rfl dX5_lay_5 ?_
  refine cy_topi (y := nI h) (ehi) ?_
  refine lv_iload_n hx hb dX5_lay_8 rfl (lv_at hl 1 rfl) ?_
  refine cy_stT11 (k := h) (v := v) hx hb hK hI hS (hh) dX5_lay_9 (fun H locs hI hS => ?_)
  refine lv_aload_n hx hb dX5_lay_10 rfl (lv_at hl 0 rfl) ?_
  refine lv_dup hx hb dX5_lay_11 rfl ?_
  refine cy_getT (v := .int hi) hx hb hts hin5 hown hK hI 18 (by decide) (hts (.fieldLink RX5 101 "CustomsYardModel" "high" "I") (by decide +kernel)) rfl dX5_lay_12 ?_
  refine cy_topi (y := nI h) (ehi) ?_
  refine lv_iconst (v := 1) hx hb dX5_lay_15 (by decide) ?_
  refine lv_iadd hx hb dX5_lay_16 ?_
  refine cy_topi (y := nI (h + 1)) (nI_1 h) ?_
  refine cy_putH hx hb hts hin5 hown hK hI hS (hts (.fieldLink RX5 101 "CustomsYardModel" "high" "I") (by decide +kernel)) dX5_lay_17 (fun H locs hI hS => ?_)
  exact W.vret hx hb hr (fun t ht hW => ⟨(), rfl, by rw [ht]; exact hI, hS.F ht⟩) hS.2.2 dX5_lay_20

set_option maxHeartbeats 4000000 in
set_option maxRecDepth 100000 in
theorem c_X5_next (l : Launch) (D : va_G) (cI cJ cO : ClassId) (z n na : Nat) (σ τ : cy_S) (pl : Nat → Int32) (hi : Int32) (ad : Nat → Nat) (nt : Nat) (hok : cy_ok nt τ) (ps : List Nat) (k : Nat) (hk : k < nt) (hsk : cy_sk pl (ps ++ [k])) (ehi : hi = nI (ps.length + 1)) (hps : ps.length ≤ 43) : Met l yX5_next wsX5_next { frames := 2, cells := 0, slots := 0, locals := 42 } (cy_P D cI cJ cO (fun H => cy_W D z (cy_CT cI cJ cO n na σ τ pl hi ad) ad H) [.ref (ad 20)]) (cy_M (S := Nat → Int32) z (fun _ => some (.int (nI k))) (fun u H => cy_sk u (ps ++ cy_ch τ k) ∧ cy_W D z (cy_CT cI cJ cO n na σ τ u (nI (ps ++ cy_ch τ k).length) ad) ad H)) 0 0 (fun q => z ≤ q) := by
  refine Met.ofW (cc := cX5_next) (maxL := 3) (ret := (some .int)) (by decide) rfl ?_
  intro p e s m args below meth c s₁ B hml hv
  obtain ⟨rfl, hK, hI⟩ := hv
  have hx := B.exec
  have hb := B.bytes
  have hr := B.returns
  have hts := atoms_spec (ws := wsX5_next) B.pre
  have hown : s.vm.findClass RX5 = some m.cls := findClass_of_methodNamed B.named
  have hlocks := B.notSynchronized
  have hS : va_S (fun q => z ≤ q) s.heap s.heap [] := va_S.rf
  have hl := lv_entry ([.ref (ad 20)]) (n := 3) (Nat.le_of_ble_eq_true rfl)
  rw [lg_entry_eq]
  generalize (lg_sl ([.ref (ad 20)]) ++ List.replicate (3 - (lg_sl ([.ref (ad 20)])).length) Slot.unset).toArray = ls at hl ⊢
  have hl : lv_has ls 3 [(0, .ref (ad 20))] := hl
  have hin5 := hin5_X5_next
  have hn := hok.1
  obtain ⟨p0, hp0, ep0⟩ := (hok.2.2.1 k hk).2.1
  have hpop := cy_sk_pop hsk
  refine lv_aload_n hx hb dX5_next_0 rfl (lv_at hl 0 rfl) ?_
  refine lv_dup hx hb dX5_next_1 rfl ?_
  refine cy_getT (v := .int hi) hx hb hts hin5 hown hK hI 18 (by decide) (hts (.fieldLink RX5 101 "CustomsYardModel" "high" "I") (by decide +kernel)) rfl dX5_next_2 ?_
  refine cy_topi (y := nI (ps.length + 1)) (ehi) ?_
  refine lv_iconst (v := 1) hx hb dX5_next_5 (by decide) ?_
  refine lv_isub hx hb dX5_next_6 ?_
  refine cy_topi (y := nI ps.length) (nI_pred _) ?_
  refine cy_putH hx hb hts hin5 hown hK hI hS (hts (.fieldLink RX5 101 "CustomsYardModel" "high" "I") (by decide +kernel)) dX5_next_7 (fun H locs hI hS => ?_)
  refine lv_aload_n hx hb dX5_next_10 rfl (lv_at hl 0 rfl) ?_
  refine cy_getT (v := .ref (ad 31)) hx hb hts hin5 hown hK hI 17 (by decide) (hts (.fieldLink RX5 41 "CustomsYardModel" "pile" "[I") (by decide +kernel)) rfl dX5_next_11 ?_
  refine lv_aload_n hx hb dX5_next_14 rfl (lv_at hl 0 rfl) ?_
  refine cy_getT (v := .int (nI ps.length)) hx hb hts hin5 hown hK hI 18 (by decide) (hts (.fieldLink RX5 101 "CustomsYardModel" "high" "I") (by decide +kernel)) rfl dX5_next_15 ?_
  refine cy_iald (f := pl) (k := ps.length) hx hb hK.1 hI 0 (x := 31) rfl rfl (by omega) (by decide) dX5_next_18 ?_
  refine cy_topi (y := nI k) (hpop.2) ?_
  refine lv_istore_n (lv' := [(1, .int (nI k)), (0, .ref (ad 20))]) hx hb dX5_next_19 rfl hl (by decide) rfl (fun ls hl => ?_)
  refine lv_iconst (v := 0) hx hb dX5_next_20 (by decide) ?_
  refine lv_istore_n (lv' := [(2, .int 0), (1, .int (nI k)), (0, .ref (ad 20))]) hx hb dX5_next_21 rfl hl (by decide) rfl (fun ls hl => ?_)
  cases hbt : cy_th (τ.1 1 k)
  · have ec : ps ++ cy_ch τ k = ps := by unfold cy_ch; rw [if_neg (by rw [hbt]; decide)]; simp
    refine lv_iload_n hx hb dX5_next_22 rfl (lv_at hl 0 rfl) ?_
    refine lv_aload_n hx hb dX5_next_23 rfl (lv_at hl 2 rfl) ?_
    refine cy_getT (v := .ref (ad 22)) hx hb hts hin5 hown hK hI 2 (by decide) (hts (.fieldLink RX5 13 "CustomsYardModel" "sizes" "[I") (by decide +kernel)) rfl dX5_next_24 ?_
    refine lv_iload_n hx hb dX5_next_27 rfl (lv_at hl 1 rfl) ?_
    refine cy_iald (f := τ.1 2) (k := k) hx hb hK.1 hI 0 (x := 22) rfl rfl (by omega) (by decide) dX5_next_28 ?_
    refine cy_topi (y := nI p0) (ep0) ?_
    refine lv_icmp_ge (tgt := 80) hx hb dX5_next_29 (by decide) (fun h51 => ?_) (fun h51 => ?_)
    · refine lv_iload_n hx hb dX5_next_80 rfl (lv_at hl 1 rfl) ?_
      exact W.iret (v := nI k) hx hb hr (fun t ht hW => ⟨pl, rfl, ⟨by rw [ec]; exact hpop.1, by rw [ht, ec]; exact hI⟩, hS.F ht⟩) hS.2.2 dX5_next_81
    · refine lv_aload_n hx hb dX5_next_32 rfl (lv_at hl 2 rfl) ?_
      refine cy_getT (v := .ref (ad 21)) hx hb hts hin5 hown hK hI 1 (by decide) (hts (.fieldLink RX5 7 "CustomsYardModel" "sorts" "[I") (by decide +kernel)) rfl dX5_next_33 ?_
      refine lv_iload_n hx hb dX5_next_36 rfl (lv_at hl 1 rfl) ?_
      refine cy_iald (f := τ.1 1) (k := k) hx hb hK.1 hI 0 (x := 21) rfl rfl (by omega) (by decide) dX5_next_37 ?_
      refine cy_callp (v := .int (cy_b (cy_th (τ.1 1 k)))) (va_runS (As := [.int (τ.1 1 k)]) (rest := []) ⟨hx, hb, hml, hown, hts⟩ (c_X5_isOfThings l (τ.1 1 k)) (va_cwS 1 hts gX5_next_X5_isOfThings rfl rfl rfl (by decide +kernel) ⟨Nat.le_of_ble_eq_true rfl, Nat.le_of_ble_eq_true rfl⟩) preEq rfl rfl hl.1 rfl (lv_room (Nat.le_of_ble_eq_true rfl)) dX5_next_38 ⟨Nat.le_of_ble_eq_true rfl, Nat.le_of_ble_eq_true rfl⟩) ?_
      refine cy_topi (y := cy_b false) (congrArg cy_b hbt) ?_
      refine lv_if_eq (tgt := 80) hx hb dX5_next_41 (by decide) (fun h52 => ?_) (fun h52 => absurd (by decide) h52)
      refine lv_iload_n hx hb dX5_next_80 rfl (lv_at hl 1 rfl) ?_
      exact W.iret (v := nI k) hx hb hr (fun t ht hW => ⟨pl, rfl, ⟨by rw [ec]; exact hpop.1, by rw [ht, ec]; exact hI⟩, hS.F ht⟩) hS.2.2 dX5_next_81
  · have hT := (hok.2.2.1 k hk).2.2.2.2.2 hbt
    have loop : ∀ (f i : Nat) (qs : List Nat) (pl' : Nat → Int32) (H : Heap) (locs : List Loc) (ls : Array Slot), i + f = p0 → qs.length ≤ ps.length + i → cy_sk pl' qs → qs ++ cy_cf τ k f i = ps ++ cy_ch τ k → cy_W D z (cy_CT cI cJ cO n na σ τ pl' (nI qs.length) ad) ad H → va_S (fun q => z ≤ q) s.heap H locs → lv_has ls 3 [(2, .int (nI i)), (1, .int (nI k)), (0, .ref (ad 20))] → W p l e (headSpec wsX5_next { frames := 2, cells := 0, slots := 0, locals := 42 }).room s m #[Value.ref (ad 20)] below meth c H locs 0 0 (MQ below (cy_M (S := Nat → Int32) z (fun _ => some (.int (nI k))) (fun u H => cy_sk u (ps ++ cy_ch τ k) ∧ cy_W D z (cy_CT cI cJ cO n na σ τ u (nI (ps ++ cy_ch τ k).length) ad) ad H)) #[Value.ref (ad 20)] s 0 0 (fun q => z ≤ q)) (F0 m 22 ls []) := by
      intro f
      induction f with
      | zero =>
        intro i qs pl' H locs ls hif hql hq hE hI hS hl
        obtain rfl : i = p0 := by omega
        obtain rfl : qs = ps ++ cy_ch τ k := by simpa [cy_cf] using hE
        refine lv_iload_n hx hb dX5_next_22 rfl (lv_at hl 0 rfl) ?_
        refine lv_aload_n hx hb dX5_next_23 rfl (lv_at hl 2 rfl) ?_
        refine cy_getT (v := .ref (ad 22)) hx hb hts hin5 hown hK hI 2 (by decide) (hts (.fieldLink RX5 13 "CustomsYardModel" "sizes" "[I") (by decide +kernel)) rfl dX5_next_24 ?_
        refine lv_iload_n hx hb dX5_next_27 rfl (lv_at hl 1 rfl) ?_
        refine cy_iald (f := τ.1 2) (k := k) hx hb hK.1 hI 0 (x := 22) rfl rfl (by omega) (by decide) dX5_next_28 ?_
        refine cy_topi (y := nI i) (ep0) ?_
        refine lv_icmp_ge (tgt := 80) hx hb dX5_next_29 (by decide) (fun h61 => ?_) (fun h61 => absurd (nI_le (Nat.le_refl _) (by omega)) h61)
        refine lv_iload_n hx hb dX5_next_80 rfl (lv_at hl 1 rfl) ?_
        exact W.iret (v := nI k) hx hb hr (fun t ht hW => ⟨pl', rfl, ⟨hq, by rw [ht]; exact hI⟩, hS.F ht⟩) hS.2.2 dX5_next_81
      | succ f ih =>
        intro i qs pl' H locs ls hif hql hq hE hI hS hl
        refine lv_iload_n hx hb dX5_next_22 rfl (lv_at hl 0 rfl) ?_
        refine lv_aload_n hx hb dX5_next_23 rfl (lv_at hl 2 rfl) ?_
        refine cy_getT (v := .ref (ad 22)) hx hb hts hin5 hown hK hI 2 (by decide) (hts (.fieldLink RX5 13 "CustomsYardModel" "sizes" "[I") (by decide +kernel)) rfl dX5_next_24 ?_
        refine lv_iload_n hx hb dX5_next_27 rfl (lv_at hl 1 rfl) ?_
        refine cy_iald (f := τ.1 2) (k := k) hx hb hK.1 hI 0 (x := 22) rfl rfl (by omega) (by decide) dX5_next_28 ?_
        refine cy_topi (y := nI p0) (ep0) ?_
        refine lv_icmp_ge (tgt := 80) hx hb dX5_next_29 (by decide) (fun h71 => absurd h71 (nI_ge (by omega) (by omega))) (fun h71 => ?_)
        refine lv_aload_n hx hb dX5_next_32 rfl (lv_at hl 2 rfl) ?_
        refine cy_getT (v := .ref (ad 21)) hx hb hts hin5 hown hK hI 1 (by decide) (hts (.fieldLink RX5 7 "CustomsYardModel" "sorts" "[I") (by decide +kernel)) rfl dX5_next_33 ?_
        refine lv_iload_n hx hb dX5_next_36 rfl (lv_at hl 1 rfl) ?_
        refine cy_iald (f := τ.1 1) (k := k) hx hb hK.1 hI 0 (x := 21) rfl rfl (by omega) (by decide) dX5_next_37 ?_
        refine cy_callp (v := .int (cy_b (cy_th (τ.1 1 k)))) (va_runS (As := [.int (τ.1 1 k)]) (rest := []) ⟨hx, hb, hml, hown, hts⟩ (c_X5_isOfThings l (τ.1 1 k)) (va_cwS 1 hts gX5_next_X5_isOfThings rfl rfl rfl (by decide +kernel) ⟨Nat.le_of_ble_eq_true rfl, Nat.le_of_ble_eq_true rfl⟩) preEq rfl rfl hl.1 rfl (lv_room (Nat.le_of_ble_eq_true rfl)) dX5_next_38 ⟨Nat.le_of_ble_eq_true rfl, Nat.le_of_ble_eq_true rfl⟩) ?_
        refine cy_topi (y := cy_b true) (congrArg cy_b hbt) ?_
        refine lv_if_eq (tgt := 80) hx hb dX5_next_41 (by decide) (fun h72 => absurd h72 (by decide)) (fun h72 => ?_)
        refine lv_aload_n hx hb dX5_next_44 rfl (lv_at hl 2 rfl) ?_
        refine cy_getT (v := .ref (ad 25)) hx hb hts hin5 hown hK hI 5 (by decide) (hts (.fieldLink RX5 23 "CustomsYardModel" "things" "[I") (by decide +kernel)) rfl dX5_next_45 ?_
        refine lv_bipush (v := 6) hx hb dX5_next_48 (by decide) ?_
        refine lv_iload_n hx hb dX5_next_50 rfl (lv_at hl 1 rfl) ?_
        refine lv_imul hx hb dX5_next_51 ?_
        refine lv_iload_n hx hb dX5_next_52 rfl (lv_at hl 0 rfl) ?_
        refine lv_iadd hx hb dX5_next_53 ?_
        refine cy_topi (y := nI (6 * k + i)) (cy_ix k i) ?_
        refine cy_iald (f := τ.1 4) (k := (6 * k + i)) hx hb hK.1 hI 0 (x := 25) rfl rfl (by omega) (by decide) dX5_next_54 ?_
        rcases hT i (by omega) with e1 | ⟨t, ht, e1, -⟩
        · refine cy_topi e1 ?_
          refine lv_iconst (v := -1) hx hb dX5_next_55 (by decide) ?_
          refine lv_icmp_eq (tgt := 74) hx hb dX5_next_56 (by decide) (fun h73 => ?_) (fun h73 => absurd (by decide) h73)
          refine lv_iinc (v := nI (i + 1)) (lv' := [(2, .int (nI (i + 1))), (1, .int (nI k)), (0, .ref (ad 20))]) hx hb dX5_next_74 hl (k := 0) rfl (nI_1 _) (by decide) rfl (fun ls hl => ?_)
          refine lv_goto (tgt := 22) hx hb dX5_next_77 (by decide) ?_
          exact ih (i + 1) qs pl' H locs ls (by omega) (by omega) hq (by rw [← hE]; show _ = qs ++ ((if _ then _ else _) ++ _); rw [if_pos e1]; rfl) hI hS (lv_sub hl [0, 1, 2] rfl)
        · have ne0 := cy_ne1 (show t < 2 ^ 31 by omega)
          refine cy_topi e1 ?_
          refine lv_iconst (v := -1) hx hb dX5_next_55 (by decide) ?_
          refine lv_icmp_eq (tgt := 74) hx hb dX5_next_56 (by decide) (fun h74 => absurd h74 (ne0)) (fun h74 => ?_)
          refine lv_aload_n hx hb dX5_next_59 rfl (lv_at hl 2 rfl) ?_
          refine lv_aload_n hx hb dX5_next_60 rfl (lv_at hl 2 rfl) ?_
          refine cy_getT (v := .ref (ad 25)) hx hb hts hin5 hown hK hI 5 (by decide) (hts (.fieldLink RX5 23 "CustomsYardModel" "things" "[I") (by decide +kernel)) rfl dX5_next_61 ?_
          refine lv_bipush (v := 6) hx hb dX5_next_64 (by decide) ?_
          refine lv_iload_n hx hb dX5_next_66 rfl (lv_at hl 1 rfl) ?_
          refine lv_imul hx hb dX5_next_67 ?_
          refine lv_iload_n hx hb dX5_next_68 rfl (lv_at hl 0 rfl) ?_
          refine lv_iadd hx hb dX5_next_69 ?_
          refine cy_topi (y := nI (6 * k + i)) (cy_ix k i) ?_
          refine cy_iald (f := τ.1 4) (k := (6 * k + i)) hx hb hK.1 hI 0 (x := 25) rfl rfl (by omega) (by decide) dX5_next_70 ?_
          refine cy_topi (y := nI t) (e1) ?_
          refine cy_callm (va_runV (As := [.int (nI t)]) (rest := []) ⟨hx, hb, hml, hown, hts⟩ (c_X5_lay l D cI cJ cO z n na σ τ (pl') (nI qs.length) ad qs.length (by omega) rfl (nI t)) (cwV 1 hts gX5_next_X5_lay rfl rfl rfl (by decide +kernel) ⟨Nat.le_of_ble_eq_true rfl, Nat.le_of_ble_eq_true rfl⟩) (cy_preV hK hI (cy_recv hK (hI.1 20 _ cy_CR).1 rfl)) rfl rfl hl.1 rfl (lv_room (Nat.le_of_ble_eq_true rfl)) dX5_next_71 ⟨Nat.le_of_ble_eq_true rfl, Nat.le_of_ble_eq_true rfl⟩) hS (fun u H locs hI hz hS => ?_)
          have hI : cy_W D z (cy_CT cI cJ cO n na σ τ (va_up (pl') qs.length (nI t)) (nI (qs.length + 1)) ad) ad H := hI
          refine W.eq (g2 := F0 m 74 ls []) rfl ?_
          refine lv_iinc (v := nI (i + 1)) (lv' := [(2, .int (nI (i + 1))), (1, .int (nI k)), (0, .ref (ad 20))]) hx hb dX5_next_74 hl (k := 0) rfl (nI_1 _) (by decide) rfl (fun ls hl => ?_)
          refine lv_goto (tgt := 22) hx hb dX5_next_77 (by decide) ?_
          exact ih (i + 1) (qs ++ [t]) (va_up pl' qs.length (nI t)) H locs ls (by omega) (by simp; omega) (cy_sk_push hq t) (by rw [← hE]; show _ = qs ++ ((if _ then _ else _) ++ _); rw [if_neg (by rw [e1]; exact ne0), e1, nI_clamp (by omega)]; simp) (by rw [show (qs ++ [t]).length = qs.length + 1 by simp]; exact hI) hS (lv_sub hl [0, 1, 2] rfl)
    exact loop p0 0 ps pl _ _ ls (by omega) (by omega) hpop.1 (by unfold cy_ch; rw [if_pos hbt, ep0, nI_clamp (by omega)]) hI hS hl
