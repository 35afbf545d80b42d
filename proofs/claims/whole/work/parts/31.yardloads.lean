theorem cy_l12 (v : Int32) : 11 < v ↔ 12 ≤ v := by
  rw [Int32.lt_iff_toInt_lt, Int32.le_iff_toInt_le]
  show (11 : Int) < _ ↔ (12 : Int) ≤ _
  omega
theorem cy_l6 (v : Int32) : 5 < v ↔ 6 ≤ v := by
  rw [Int32.lt_iff_toInt_lt, Int32.le_iff_toInt_le]
  show (5 : Int) < _ ↔ (6 : Int) ≤ _
  omega
def cy_ba (v : Int32) : Bool := cy_isIn v 0 11
theorem cy_sg_c (s : Int32) : cy_sg s = decide (s = 4 ∨ s = 5 ∨ s = 6) := by
  unfold cy_sg cy_isIn
  have e : ∀ c : Int32, s = c ↔ s.toInt = c.toInt := fun c => Int32.toInt_inj.symm
  have h4 : (4 : Int32).toInt = 4 := rfl
  have h5 : (5 : Int32).toInt = 5 := rfl
  have h6 : (6 : Int32).toInt = 6 := rfl
  rw [Bool.eq_iff_iff, Bool.and_eq_true, Bool.not_eq_true', Bool.not_eq_true', decide_eq_false_iff_not, decide_eq_false_iff_not, decide_eq_true_iff, e 4, e 5, e 6, Int32.lt_iff_toInt_lt, Int32.lt_iff_toInt_lt, h4, h5, h6]
  omega
def cy_mo (s : Int32) : Int32 := if cy_sg s = true then 1000 else 6
def cy_va (s : Int32) : Int32 := if s = 3 then 0 else if s = 7 ∨ s = 8 then 4 else if s = 9 then 13 else if s = 10 ∨ s = 11 then 7 else 9
def cy_vk (s : Int32) : Int32 := if s = 8 then 5 else if s = 11 then 8 else cy_va s
theorem cy_va_dec : ∀ a : Fin 13, cy_th (nI a.val) = true → cy_va (nI a.val) = cy_wa (nI a.val) ∧ cy_vk (nI a.val) = cy_ha (nI a.val) := by decide +kernel
theorem cy_va_eq {n : Nat} {σ : cy_S} (hok : cy_ok n σ) {k : Nat} (hk : k < n) (h : cy_th (σ.1 1 k) = true) : cy_va (σ.1 1 k) = cy_wa (σ.1 1 k) ∧ cy_vk (σ.1 1 k) = cy_ha (σ.1 1 k) := by
  obtain ⟨⟨a, ha, ea⟩, -⟩ := hok.2.2.1 k hk
  rw [ea] at h ⊢
  exact cy_va_dec ⟨a, by omega⟩ h
theorem cy_ns_0 {σ : cy_S} {k : Nat} (h : ∀ j, j < 6 → σ.2 0 (6 * k + j) = 0) : ∀ f i, i + f ≤ 6 → cy_ns σ k f i = 0
  | 0, _, _ => rfl
  | f + 1, i, hf => by
    unfold cy_ns
    rw [h i (by omega), cy_ns_0 h f (i + 1) (by omega)]
    rfl
theorem cy_wt_1 {n : Nat} {σ : cy_S} (hok : cy_ok n σ) {k : Nat} (hk : k < n) (h : cy_kd (σ.1 1 k) = 1) : cy_wt σ 3 k = (σ.1 3 k).toInt64 := by
  obtain ⟨-, -, hs, -⟩ := hok.2.2.1 k hk
  rcases cy_kd3 hok hk with h1 | h1 | h1
  · rw [h1.1] at h; cases h
  · have e1 : cy_ch σ k = [] := by unfold cy_ch; rw [if_neg (by rw [h1.2.2.2]; decide)]
    show cy_bs σ k + cy_smL (cy_wt σ 2) (cy_ch σ k) = _
    rw [e1]
    unfold cy_bs
    rw [hs h1.2.2.1]
    simp [cy_smL, cy_ns]
  · rw [h1.1] at h; cases h
theorem cy_wt_0 {n : Nat} {σ : cy_S} (hok : cy_ok n σ) {k p : Nat} (hk : k < n) (h : cy_kd (σ.1 1 k) = 0) (hp : p ≤ 6) (ep : σ.1 2 k = nI p) : cy_wt σ 3 k = cy_ns σ k p 0 := by
  obtain ⟨-, -, -, hw, -⟩ := hok.2.2.1 k hk
  rcases cy_kd3 hok hk with h1 | h1 | h1
  · have e1 : cy_ch σ k = [] := by unfold cy_ch; rw [if_neg (by rw [h1.2.2.2]; decide)]
    show cy_bs σ k + cy_smL (cy_wt σ 2) (cy_ch σ k) = _
    rw [e1]
    unfold cy_bs
    rw [hw h1.2.2.1, ep, nI_clamp (by omega)]
    simp [cy_smL]
  · rw [h1.1] at h; cases h
  · rw [h1.1] at h; cases h
theorem cy_wt_2 {n : Nat} {σ : cy_S} (hok : cy_ok n σ) {k p : Nat} (hk : k < n) (h : cy_kd (σ.1 1 k) = 2) (hp : p ≤ 6) (ep : σ.1 2 k = nI p) : cy_wt σ 3 k = cy_smL (cy_wt σ 3) (cy_cf σ k p 0) := by
  obtain ⟨-, -, -, hw, hz, -⟩ := hok.2.2.1 k hk
  rcases cy_kd3 hok hk with h1 | h1 | h1
  · rw [h1.1] at h; cases h
  · rw [h1.1] at h; cases h
  · rw [cy_wt_eq hok hk]
    unfold cy_bs cy_ch
    rw [if_pos h1.2.2.2, hw h1.2.2.1, ep, nI_clamp (by omega), cy_ns_0 (hz h1.2.1) p 0 (by omega)]
    simp
theorem cy_tl_01 {n : Nat} {σ : cy_S} (v : Int32) (hok : cy_ok n σ) {k : Nat} (hk : k < n) (h : ¬ cy_kd (σ.1 1 k) = 2) : cy_tl σ v 3 k = cy_b (cy_go (σ.1 1 k) v) := by
  have e1 : cy_ch σ k = [] := by
    rcases cy_kd3 hok hk with h1 | h1 | h1
    · unfold cy_ch; rw [if_neg (by rw [h1.2.2.2]; decide)]
    · unfold cy_ch; rw [if_neg (by rw [h1.2.2.2]; decide)]
    · exact absurd h1.1 h
  rw [cy_tl_eq v hok hk, e1]
  simp [cy_smI]
theorem cy_tl_2 {n : Nat} {σ : cy_S} (v : Int32) (hok : cy_ok n σ) {k p : Nat} (hk : k < n) (h : cy_kd (σ.1 1 k) = 2) (hp : p ≤ 6) (ep : σ.1 2 k = nI p) : cy_tl σ v 3 k = cy_b (cy_go (σ.1 1 k) v) + cy_smI (cy_tl σ v 3) (cy_cf σ k p 0) := by
  rcases cy_kd3 hok hk with h1 | h1 | h1
  · rw [h1.1] at h; cases h
  · rw [h1.1] at h; cases h
  · rw [cy_tl_eq v hok hk]
    unfold cy_ch
    rw [if_pos h1.2.2.2, ep, nI_clamp (by omega)]
theorem hin1_X0_goesAs : ∀ w ∈ u_ws RX1 TX1 3, w ∈ wsX0_goesAs := by decide +kernel
theorem hin2_X0_goesAs : ∀ w ∈ u_ws RX2 TX2 3, w ∈ wsX0_goesAs := by decide +kernel
theorem hin3_X0_goesAs : ∀ w ∈ u_ws RX3 TX3 3, w ∈ wsX0_goesAs := by decide +kernel
theorem hin1_X1_hasPlace : ∀ w ∈ u_ws RX1 TX1 3, w ∈ wsX1_hasPlace := by decide +kernel
theorem hin3_X3_hasPlace : ∀ w ∈ u_ws RX3 TX3 3, w ∈ wsX3_hasPlace := by decide +kernel
theorem hin1_X1_comesAs : ∀ w ∈ u_ws RX1 TX1 3, w ∈ wsX1_comesAs := by decide +kernel
theorem hin3_X3_comesAs : ∀ w ∈ u_ws RX3 TX3 3, w ∈ wsX3_comesAs := by decide +kernel
theorem hin1_X2_declaration : ∀ w ∈ u_ws RX1 TX1 3, w ∈ wsX2_declaration := by decide +kernel
theorem hin2_X2_declaration : ∀ w ∈ u_ws RX2 TX2 3, w ∈ wsX2_declaration := by decide +kernel
theorem hin3_X2_declaration : ∀ w ∈ u_ws RX3 TX3 3, w ∈ wsX2_declaration := by decide +kernel
theorem hin1_X2_comesAs : ∀ w ∈ u_ws RX1 TX1 3, w ∈ wsX2_comesAs := by decide +kernel
theorem hin2_X2_comesAs : ∀ w ∈ u_ws RX2 TX2 3, w ∈ wsX2_comesAs := by decide +kernel
theorem hin3_X2_comesAs : ∀ w ∈ u_ws RX3 TX3 3, w ∈ wsX2_comesAs := by decide +kernel
theorem hin1_X3_viewAsked : ∀ w ∈ u_ws RX1 TX1 3, w ∈ wsX3_viewAsked := by decide +kernel
theorem hin2_X3_viewAsked : ∀ w ∈ u_ws RX2 TX2 3, w ∈ wsX3_viewAsked := by decide +kernel
theorem hin3_X3_viewAsked : ∀ w ∈ u_ws RX3 TX3 3, w ∈ wsX3_viewAsked := by decide +kernel
theorem hin1_X3_viewKept : ∀ w ∈ u_ws RX1 TX1 3, w ∈ wsX3_viewKept := by decide +kernel
theorem hin2_X3_viewKept : ∀ w ∈ u_ws RX2 TX2 3, w ∈ wsX3_viewKept := by decide +kernel
theorem hin3_X3_viewKept : ∀ w ∈ u_ws RX3 TX3 3, w ∈ wsX3_viewKept := by decide +kernel
theorem hin2_X2_weigh : ∀ w ∈ u_ws RX2 TX2 3, w ∈ wsX2_weigh := by decide +kernel
set_option maxHeartbeats 4000000 in
set_option maxRecDepth 100000 in
theorem c_X4_isView (l : Launch) (v : Int32)  : Met l yX4_isView wsX4_isView { frames := 0, cells := 0, slots := 0, locals := 0 } (fun zz _ => zz = ([.int v] : List Value).toArray) (cy_Q (.int (cy_b (cy_vw v)))) 0 0 (fun _ => False) := by
  refine Met.ofW (cc := cX4_isView) (maxL := 1) (ret := (some .boolean)) (by decide) rfl ?_
  intro p e s m args below meth c s₁ B hml hv
  have hv : args = ([.int v] : List Value).toArray := hv
  subst hv
  have hx := B.exec
  have hb := B.bytes
  have hr := B.returns
  have hts := atoms_spec (ws := wsX4_isView) B.pre
  have hown : s.vm.findClass RX4 = some m.cls := findClass_of_methodNamed B.named
  have hlocks := B.notSynchronized
  have hl := lv_entry ([.int v]) (n := 1) (Nat.le_of_ble_eq_true rfl)
  rw [lg_entry_eq]
  generalize (lg_sl ([.int v]) ++ List.replicate (1 - (lg_sl ([.int v])).length) Slot.unset).toArray = ls at hl ⊢
  have hl : lv_has ls 1 [(0, .int v)] := hl
  refine lv_iload_n hx hb dX4_isView_0 rfl (lv_at hl 0 rfl) ?_
  refine lv_if_lt (tgt := 14) hx hb dX4_isView_1 (by decide) (fun h1 => ?_) (fun h1 => ?_)
  · refine lv_iconst (v := 0) hx hb dX4_isView_14 (by decide) ?_
    exact W.zret (v := 0) hx hb hr (rfl) (fun t ht hW => ⟨congrArg (fun q => Outcome.returned (some (Value.int q))) (by simp [cy_vw, cy_isIn, cy_b, cy_l12, cy_l6, h1]), ht⟩) (fun q h => by cases h) dX4_isView_15
  · refine lv_iload_n hx hb dX4_isView_4 rfl (lv_at hl 0 rfl) ?_
    refine lv_bipush (v := 13) hx hb dX4_isView_5 (by decide) ?_
    refine lv_icmp_gt (tgt := 14) hx hb dX4_isView_7 (by decide) (fun h2 => ?_) (fun h2 => ?_)
    · refine lv_iconst (v := 0) hx hb dX4_isView_14 (by decide) ?_
      exact W.zret (v := 0) hx hb hr (rfl) (fun t ht hW => ⟨congrArg (fun q => Outcome.returned (some (Value.int q))) (by simp [cy_vw, cy_isIn, cy_b, cy_l12, cy_l6, h1, h2]), ht⟩) (fun q h => by cases h) dX4_isView_15
    · refine lv_iconst (v := 1) hx hb dX4_isView_10 (by decide) ?_
      refine lv_goto (tgt := 15) hx hb dX4_isView_11 (by decide) ?_
      exact W.zret (v := 1) hx hb hr (rfl) (fun t ht hW => ⟨congrArg (fun q => Outcome.returned (some (Value.int q))) (by simp [cy_vw, cy_isIn, cy_b, cy_l12, cy_l6, h1, h2]), ht⟩) (fun q h => by cases h) dX4_isView_15

set_option maxHeartbeats 4000000 in
set_option maxRecDepth 100000 in
theorem c_X4_isBay (l : Launch) (v : Int32)  : Met l yX4_isBay wsX4_isBay { frames := 0, cells := 0, slots := 0, locals := 0 } (fun zz _ => zz = ([.int v] : List Value).toArray) (cy_Q (.int (cy_b (cy_ba v)))) 0 0 (fun _ => False) := by
  refine Met.ofW (cc := cX4_isBay) (maxL := 1) (ret := (some .boolean)) (by decide) rfl ?_
  intro p e s m args below meth c s₁ B hml hv
  have hv : args = ([.int v] : List Value).toArray := hv
  subst hv
  have hx := B.exec
  have hb := B.bytes
  have hr := B.returns
  have hts := atoms_spec (ws := wsX4_isBay) B.pre
  have hown : s.vm.findClass RX4 = some m.cls := findClass_of_methodNamed B.named
  have hlocks := B.notSynchronized
  have hl := lv_entry ([.int v]) (n := 1) (Nat.le_of_ble_eq_true rfl)
  rw [lg_entry_eq]
  generalize (lg_sl ([.int v]) ++ List.replicate (1 - (lg_sl ([.int v])).length) Slot.unset).toArray = ls at hl ⊢
  have hl : lv_has ls 1 [(0, .int v)] := hl
  refine lv_iload_n hx hb dX4_isBay_0 rfl (lv_at hl 0 rfl) ?_
  refine lv_if_lt (tgt := 14) hx hb dX4_isBay_1 (by decide) (fun h1 => ?_) (fun h1 => ?_)
  · refine lv_iconst (v := 0) hx hb dX4_isBay_14 (by decide) ?_
    exact W.zret (v := 0) hx hb hr (rfl) (fun t ht hW => ⟨congrArg (fun q => Outcome.returned (some (Value.int q))) (by simp [cy_ba, cy_isIn, cy_b, cy_l12, cy_l6, h1]), ht⟩) (fun q h => by cases h) dX4_isBay_15
  · refine lv_iload_n hx hb dX4_isBay_4 rfl (lv_at hl 0 rfl) ?_
    refine lv_bipush (v := 12) hx hb dX4_isBay_5 (by decide) ?_
    refine lv_icmp_ge (tgt := 14) hx hb dX4_isBay_7 (by decide) (fun h2 => ?_) (fun h2 => ?_)
    · refine lv_iconst (v := 0) hx hb dX4_isBay_14 (by decide) ?_
      exact W.zret (v := 0) hx hb hr (rfl) (fun t ht hW => ⟨congrArg (fun q => Outcome.returned (some (Value.int q))) (by simp [cy_ba, cy_isIn, cy_b, cy_l12, cy_l6, h1, h2]), ht⟩) (fun q h => by cases h) dX4_isBay_15
    · refine lv_iconst (v := 1) hx hb dX4_isBay_10 (by decide) ?_
      refine lv_goto (tgt := 15) hx hb dX4_isBay_11 (by decide) ?_
      exact W.zret (v := 1) hx hb hr (rfl) (fun t ht hW => ⟨congrArg (fun q => Outcome.returned (some (Value.int q))) (by simp [cy_ba, cy_isIn, cy_b, cy_l12, cy_l6, h1, h2]), ht⟩) (fun q h => by cases h) dX4_isBay_15

set_option maxHeartbeats 4000000 in
set_option maxRecDepth 100000 in
theorem c_X4_isGate (l : Launch) (v : Int32)  : Met l yX4_isGate wsX4_isGate { frames := 0, cells := 0, slots := 0, locals := 0 } (fun zz _ => zz = ([.int v] : List Value).toArray) (cy_Q (.int (cy_b (cy_gt v)))) 0 0 (fun _ => False) := by
  refine Met.ofW (cc := cX4_isGate) (maxL := 1) (ret := (some .boolean)) (by decide) rfl ?_
  intro p e s m args below meth c s₁ B hml hv
  have hv : args = ([.int v] : List Value).toArray := hv
  subst hv
  have hx := B.exec
  have hb := B.bytes
  have hr := B.returns
  have hts := atoms_spec (ws := wsX4_isGate) B.pre
  have hown : s.vm.findClass RX4 = some m.cls := findClass_of_methodNamed B.named
  have hlocks := B.notSynchronized
  have hl := lv_entry ([.int v]) (n := 1) (Nat.le_of_ble_eq_true rfl)
  rw [lg_entry_eq]
  generalize (lg_sl ([.int v]) ++ List.replicate (1 - (lg_sl ([.int v])).length) Slot.unset).toArray = ls at hl ⊢
  have hl : lv_has ls 1 [(0, .int v)] := hl
  refine lv_iload_n hx hb dX4_isGate_0 rfl (lv_at hl 0 rfl) ?_
  refine lv_if_lt (tgt := 14) hx hb dX4_isGate_1 (by decide) (fun h1 => ?_) (fun h1 => ?_)
  · refine lv_iconst (v := 0) hx hb dX4_isGate_14 (by decide) ?_
    exact W.zret (v := 0) hx hb hr (rfl) (fun t ht hW => ⟨congrArg (fun q => Outcome.returned (some (Value.int q))) (by simp [cy_gt, cy_isIn, cy_b, cy_l12, cy_l6, h1]), ht⟩) (fun q h => by cases h) dX4_isGate_15
  · refine lv_iload_n hx hb dX4_isGate_4 rfl (lv_at hl 0 rfl) ?_
    refine lv_bipush (v := 6) hx hb dX4_isGate_5 (by decide) ?_
    refine lv_icmp_ge (tgt := 14) hx hb dX4_isGate_7 (by decide) (fun h2 => ?_) (fun h2 => ?_)
    · refine lv_iconst (v := 0) hx hb dX4_isGate_14 (by decide) ?_
      exact W.zret (v := 0) hx hb hr (rfl) (fun t ht hW => ⟨congrArg (fun q => Outcome.returned (some (Value.int q))) (by simp [cy_gt, cy_isIn, cy_b, cy_l12, cy_l6, h1, h2]), ht⟩) (fun q h => by cases h) dX4_isGate_15
    · refine lv_iconst (v := 1) hx hb dX4_isGate_10 (by decide) ?_
      refine lv_goto (tgt := 15) hx hb dX4_isGate_11 (by decide) ?_
      exact W.zret (v := 1) hx hb hr (rfl) (fun t ht hW => ⟨congrArg (fun q => Outcome.returned (some (Value.int q))) (by simp [cy_gt, cy_isIn, cy_b, cy_l12, cy_l6, h1, h2]), ht⟩) (fun q h => by cases h) dX4_isGate_15

set_option maxHeartbeats 4000000 in
set_option maxRecDepth 100000 in
theorem c_X4_hasWeightTold (l : Launch) (v : Int32)  : Met l yX4_hasWeightTold wsX4_hasWeightTold { frames := 0, cells := 0, slots := 0, locals := 0 } (fun zz _ => zz = ([.int v] : List Value).toArray) (cy_Q (.int (cy_b (cy_sg v)))) 0 0 (fun _ => False) := by
  refine Met.ofW (cc := cX4_hasWeightTold) (maxL := 1) (ret := (some .boolean)) (by decide) rfl ?_
  intro p e s m args below meth c s₁ B hml hv
  have hv : args = ([.int v] : List Value).toArray := hv
  subst hv
  have hx := B.exec
  have hb := B.bytes
  have hr := B.returns
  have hts := atoms_spec (ws := wsX4_hasWeightTold) B.pre
  have hown : s.vm.findClass RX4 = some m.cls := findClass_of_methodNamed B.named
  have hlocks := B.notSynchronized
  have hl := lv_entry ([.int v]) (n := 1) (Nat.le_of_ble_eq_true rfl)
  rw [lg_entry_eq]
  generalize (lg_sl ([.int v]) ++ List.replicate (1 - (lg_sl ([.int v])).length) Slot.unset).toArray = ls at hl ⊢
  have hl : lv_has ls 1 [(0, .int v)] := hl
  refine lv_iload_n hx hb dX4_hasWeightTold_0 rfl (lv_at hl 0 rfl) ?_
  refine lv_iconst (v := 4) hx hb dX4_hasWeightTold_1 (by decide) ?_
  refine lv_icmp_eq (tgt := 16) hx hb dX4_hasWeightTold_2 (by decide) (fun h1 => ?_) (fun h1 => ?_)
  · refine lv_iconst (v := 1) hx hb dX4_hasWeightTold_16 (by decide) ?_
    refine lv_goto (tgt := 21) hx hb dX4_hasWeightTold_17 (by decide) ?_
    exact W.zret (v := 1) hx hb hr (rfl) (fun t ht hW => ⟨congrArg (fun q => Outcome.returned (some (Value.int q))) (by rw [cy_sg_c]; simp [cy_b, h1]), ht⟩) (fun q h => by cases h) dX4_hasWeightTold_21
  · refine lv_iload_n hx hb dX4_hasWeightTold_5 rfl (lv_at hl 0 rfl) ?_
    refine lv_iconst (v := 5) hx hb dX4_hasWeightTold_6 (by decide) ?_
    refine lv_icmp_eq (tgt := 16) hx hb dX4_hasWeightTold_7 (by decide) (fun h2 => ?_) (fun h2 => ?_)
    · refine lv_iconst (v := 1) hx hb dX4_hasWeightTold_16 (by decide) ?_
      refine lv_goto (tgt := 21) hx hb dX4_hasWeightTold_17 (by decide) ?_
      exact W.zret (v := 1) hx hb hr (rfl) (fun t ht hW => ⟨congrArg (fun q => Outcome.returned (some (Value.int q))) (by rw [cy_sg_c]; simp [cy_b, h1, h2]), ht⟩) (fun q h => by cases h) dX4_hasWeightTold_21
    · refine lv_iload_n hx hb dX4_hasWeightTold_10 rfl (lv_at hl 0 rfl) ?_
      refine lv_bipush (v := 6) hx hb dX4_hasWeightTold_11 (by decide) ?_
      refine lv_icmp_ne (tgt := 20) hx hb dX4_hasWeightTold_13 (by decide) (fun h3 => ?_) (fun h3 => ?_)
      · refine lv_iconst (v := 0) hx hb dX4_hasWeightTold_20 (by decide) ?_
        exact W.zret (v := 0) hx hb hr (rfl) (fun t ht hW => ⟨congrArg (fun q => Outcome.returned (some (Value.int q))) (by rw [cy_sg_c]; simp [cy_b, h1, h2, h3]), ht⟩) (fun q h => by cases h) dX4_hasWeightTold_21
      · refine lv_iconst (v := 1) hx hb dX4_hasWeightTold_16 (by decide) ?_
        refine lv_goto (tgt := 21) hx hb dX4_hasWeightTold_17 (by decide) ?_
        exact W.zret (v := 1) hx hb hr (rfl) (fun t ht hW => ⟨congrArg (fun q => Outcome.returned (some (Value.int q))) (by rw [cy_sg_c]; simp [cy_b, h1, h2, h3]), ht⟩) (fun q h => by cases h) dX4_hasWeightTold_21

set_option maxHeartbeats 4000000 in
set_option maxRecDepth 100000 in
theorem c_X4_mostOf (l : Launch) (v : Int32)  : Met l yX4_mostOf wsX4_mostOf { frames := 1, cells := 0, slots := 0, locals := 20 } (fun zz _ => zz = ([.int v] : List Value).toArray) (cy_Q (.int (cy_mo v))) 0 0 (fun _ => False) := by
  refine Met.ofW (cc := cX4_mostOf) (maxL := 1) (ret := (some .int)) (by decide) rfl ?_
  intro p e s m args below meth c s₁ B hml hv
  have hv : args = ([.int v] : List Value).toArray := hv
  subst hv
  have hx := B.exec
  have hb := B.bytes
  have hr := B.returns
  have hts := atoms_spec (ws := wsX4_mostOf) B.pre
  have hown : s.vm.findClass RX4 = some m.cls := findClass_of_methodNamed B.named
  have hlocks := B.notSynchronized
  have hl := lv_entry ([.int v]) (n := 1) (Nat.le_of_ble_eq_true rfl)
  rw [lg_entry_eq]
  generalize (lg_sl ([.int v]) ++ List.replicate (1 - (lg_sl ([.int v])).length) Slot.unset).toArray = ls at hl ⊢
  have hl : lv_has ls 1 [(0, .int v)] := hl
  refine lv_iload_n hx hb dX4_mostOf_0 rfl (lv_at hl 0 rfl) ?_
  refine cy_callp (v := .int (cy_b (cy_sg v))) (va_runS (As := [.int v]) (rest := []) ⟨hx, hb, hml, hown, hts⟩ (c_X4_hasWeightTold l v) (va_cwS 1 hts gX4_mostOf_X4_hasWeightTold rfl rfl rfl (by decide +kernel) ⟨Nat.le_of_ble_eq_true rfl, Nat.le_of_ble_eq_true rfl⟩) preEq rfl rfl hl.1 rfl (lv_room (Nat.le_of_ble_eq_true rfl)) dX4_mostOf_1 ⟨Nat.le_of_ble_eq_true rfl, Nat.le_of_ble_eq_true rfl⟩) ?_
  cases b1 : (cy_sg v)
  · refine lv_if_eq (tgt := 13) hx hb dX4_mostOf_4 (by decide) (fun h2 => ?_) (fun h2 => absurd (by decide) h2)
    refine lv_bipush (v := 6) hx hb dX4_mostOf_13 (by decide) ?_
    exact W.iret (v := 6) hx hb hr (fun t ht hW => ⟨congrArg (fun q => Outcome.returned (some (Value.int q))) (by simp [cy_mo, b1]), ht⟩) (fun q h => by cases h) dX4_mostOf_15
  · refine lv_if_eq (tgt := 13) hx hb dX4_mostOf_4 (by decide) (fun h3 => absurd h3 (by decide)) (fun h3 => ?_)
    refine lv_sipush (v := 1000) hx hb dX4_mostOf_7 (by decide) ?_
    refine lv_goto (tgt := 15) hx hb dX4_mostOf_10 (by decide) ?_
    exact W.iret (v := 1000) hx hb hr (fun t ht hW => ⟨congrArg (fun q => Outcome.returned (some (Value.int q))) (by simp [cy_mo, b1]), ht⟩) (fun q h => by cases h) dX4_mostOf_15

set_option maxHeartbeats 4000000 in
set_option maxRecDepth 100000 in
theorem c_X0_goesAs (l : Launch) (D : va_G) (cI cJ cO : ClassId) (z n : Nat) (σ τ : cy_S) (pl : Nat → Int32) (hi : Int32) (ad : Nat → Nat) (hok : cy_ok n σ) (k : Nat) (hk : k < n) (v : Int32)  : Met l yX0_goesAs wsX0_goesAs { frames := 0, cells := 0, slots := 0, locals := 0 } (cy_P D cI cJ cO (fun H => cy_W D z (cy_CT cI cJ cO n n σ τ pl hi ad) ad H) [.ref (ad (100 + 2 * k)), .int v]) (cy_Q (.int (cy_b (cy_go (σ.1 1 k) v)))) 0 0 (fun _ => False) := by
  refine Met.ofW (cc := cX0_goesAs) (maxL := 2) (ret := (some .boolean)) (by decide) rfl ?_
  intro p e s m args below meth c s₁ B hml hv
  obtain ⟨rfl, hK, hI⟩ := hv
  have hx := B.exec
  have hb := B.bytes
  have hr := B.returns
  have hts := atoms_spec (ws := wsX0_goesAs) B.pre
  have hown : s.vm.findClass RX0 = some m.cls := findClass_of_methodNamed B.named
  have hlocks := B.notSynchronized
  have hl := lv_entry ([.ref (ad (100 + 2 * k)), .int v]) (n := 2) (Nat.le_of_ble_eq_true rfl)
  rw [lg_entry_eq]
  generalize (lg_sl ([.ref (ad (100 + 2 * k)), .int v]) ++ List.replicate (2 - (lg_sl ([.ref (ad (100 + 2 * k)), .int v])).length) Slot.unset).toArray = ls at hl ⊢
  have hl : lv_has ls 2 [(0, .ref (ad (100 + 2 * k))), (1, .int v)] := hl
  have hin1 := hin1_X0_goesAs
  have hin2 := hin2_X0_goesAs
  have hin3 := hin3_X0_goesAs
  have hn := hok.1
  obtain ⟨pk, hpk, epk⟩ := (hok.2.2.1 k hk).2.1
  refine lv_aload_n hx hb dX0_goesAs_0 rfl (lv_at hl 0 rfl) ?_
  refine cy_getSort hx hb hts hin1 hin2 hin3 hown hK hI hk (hts (.fieldLink RX0 15 "CustomsYard$Load" "sort" "I") (by decide +kernel)) (fun _ h9 => h9) dX0_goesAs_1 ?_
  rcases cy_sw5_11 (σ.1 1 k) with w1 | w1 | w1 | w1 | w1 | w1 | w1 | ⟨w1, w1n5, w1n6, w1n7, w1n8, w1n9, w1n10, w1n11⟩
  · refine lv_tableIn (off := 44) (tgt := 48) hx hb dX0_goesAs_4 (by rw [w1]; decide) (by rw [w1]; decide) (by rw [w1]; rfl) (by decide) ?_
    refine lv_iload_n hx hb dX0_goesAs_48 rfl (lv_at hl 1 rfl) ?_
    refine lv_iconst (v := 5) hx hb dX0_goesAs_49 (by decide) ?_
    refine lv_icmp_eq (tgt := 64) hx hb dX0_goesAs_50 (by decide) (fun h2 => ?_) (fun h2 => ?_)
    · refine lv_iconst (v := 1) hx hb dX0_goesAs_64 (by decide) ?_
      refine lv_goto (tgt := 69) hx hb dX0_goesAs_65 (by decide) ?_
      exact W.zret (v := 1) hx hb hr (rfl) (fun t ht hW => ⟨congrArg (fun q => Outcome.returned (some (Value.int q))) (by (try rw [w1] at h2); rw [cy_go_c]; simp [cy_b, w1, h2]), ht⟩) (fun q h => by cases h) dX0_goesAs_69
    · refine lv_iload_n hx hb dX0_goesAs_53 rfl (lv_at hl 1 rfl) ?_
      refine lv_iconst (v := 4) hx hb dX0_goesAs_54 (by decide) ?_
      refine lv_icmp_eq (tgt := 64) hx hb dX0_goesAs_55 (by decide) (fun h3 => ?_) (fun h3 => ?_)
      · refine lv_iconst (v := 1) hx hb dX0_goesAs_64 (by decide) ?_
        refine lv_goto (tgt := 69) hx hb dX0_goesAs_65 (by decide) ?_
        exact W.zret (v := 1) hx hb hr (rfl) (fun t ht hW => ⟨congrArg (fun q => Outcome.returned (some (Value.int q))) (by (try rw [w1] at h2); (try rw [w1] at h3); rw [cy_go_c]; simp [cy_b, w1, h2, h3]), ht⟩) (fun q h => by cases h) dX0_goesAs_69
      · refine lv_iload_n hx hb dX0_goesAs_58 rfl (lv_at hl 1 rfl) ?_
        refine lv_bipush (v := 13) hx hb dX0_goesAs_59 (by decide) ?_
        refine lv_icmp_ne (tgt := 68) hx hb dX0_goesAs_61 (by decide) (fun h4 => ?_) (fun h4 => ?_)
        · refine lv_iconst (v := 0) hx hb dX0_goesAs_68 (by decide) ?_
          exact W.zret (v := 0) hx hb hr (rfl) (fun t ht hW => ⟨congrArg (fun q => Outcome.returned (some (Value.int q))) (by (try rw [w1] at h2); (try rw [w1] at h3); (try rw [w1] at h4); rw [cy_go_c]; simp [cy_b, w1, h2, h3, h4]), ht⟩) (fun q h => by cases h) dX0_goesAs_69
        · refine lv_iconst (v := 1) hx hb dX0_goesAs_64 (by decide) ?_
          refine lv_goto (tgt := 69) hx hb dX0_goesAs_65 (by decide) ?_
          exact W.zret (v := 1) hx hb hr (rfl) (fun t ht hW => ⟨congrArg (fun q => Outcome.returned (some (Value.int q))) (by (try rw [w1] at h2); (try rw [w1] at h3); (try rw [w1] at h4); rw [cy_go_c]; simp [cy_b, w1, h2, h3, h4]), ht⟩) (fun q h => by cases h) dX0_goesAs_69
  · refine lv_tableIn (off := 66) (tgt := 70) hx hb dX0_goesAs_4 (by rw [w1]; decide) (by rw [w1]; decide) (by rw [w1]; rfl) (by decide) ?_
    refine lv_iload_n hx hb dX0_goesAs_70 rfl (lv_at hl 1 rfl) ?_
    refine lv_bipush (v := 6) hx hb dX0_goesAs_71 (by decide) ?_
    refine lv_icmp_eq (tgt := 82) hx hb dX0_goesAs_73 (by decide) (fun h5 => ?_) (fun h5 => ?_)
    · refine lv_iconst (v := 1) hx hb dX0_goesAs_82 (by decide) ?_
      refine lv_goto (tgt := 87) hx hb dX0_goesAs_83 (by decide) ?_
      exact W.zret (v := 1) hx hb hr (rfl) (fun t ht hW => ⟨congrArg (fun q => Outcome.returned (some (Value.int q))) (by (try rw [w1] at h5); rw [cy_go_c]; simp [cy_b, w1, h5]), ht⟩) (fun q h => by cases h) dX0_goesAs_87
    · refine lv_iload_n hx hb dX0_goesAs_76 rfl (lv_at hl 1 rfl) ?_
      refine lv_bipush (v := 13) hx hb dX0_goesAs_77 (by decide) ?_
      refine lv_icmp_ne (tgt := 86) hx hb dX0_goesAs_79 (by decide) (fun h6 => ?_) (fun h6 => ?_)
      · refine lv_iconst (v := 0) hx hb dX0_goesAs_86 (by decide) ?_
        exact W.zret (v := 0) hx hb hr (rfl) (fun t ht hW => ⟨congrArg (fun q => Outcome.returned (some (Value.int q))) (by (try rw [w1] at h5); (try rw [w1] at h6); rw [cy_go_c]; simp [cy_b, w1, h5, h6]), ht⟩) (fun q h => by cases h) dX0_goesAs_87
      · refine lv_iconst (v := 1) hx hb dX0_goesAs_82 (by decide) ?_
        refine lv_goto (tgt := 87) hx hb dX0_goesAs_83 (by decide) ?_
        exact W.zret (v := 1) hx hb hr (rfl) (fun t ht hW => ⟨congrArg (fun q => Outcome.returned (some (Value.int q))) (by (try rw [w1] at h5); (try rw [w1] at h6); rw [cy_go_c]; simp [cy_b, w1, h5, h6]), ht⟩) (fun q h => by cases h) dX0_goesAs_87
  · refine lv_tableIn (off := 132) (tgt := 136) hx hb dX0_goesAs_4 (by rw [w1]; decide) (by rw [w1]; decide) (by rw [w1]; rfl) (by decide) ?_
    refine lv_iload_n hx hb dX0_goesAs_136 rfl (lv_at hl 1 rfl) ?_
    refine lv_aload_n hx hb dX0_goesAs_137 rfl (lv_at hl 0 rfl) ?_
    refine cy_getSort hx hb hts hin1 hin2 hin3 hown hK hI hk (hts (.fieldLink RX0 15 "CustomsYard$Load" "sort" "I") (by decide +kernel)) (fun _ h9 => h9) dX0_goesAs_138 ?_
    refine lv_icmp_ne (tgt := 148) hx hb dX0_goesAs_141 (by decide) (fun h7 => ?_) (fun h7 => ?_)
    · refine lv_iconst (v := 0) hx hb dX0_goesAs_148 (by decide) ?_
      exact W.zret (v := 0) hx hb hr (rfl) (fun t ht hW => ⟨congrArg (fun q => Outcome.returned (some (Value.int q))) (by (try rw [w1] at h7); rw [cy_go_c]; simp [cy_b, w1, h7]), ht⟩) (fun q h => by cases h) dX0_goesAs_149
    · refine lv_iconst (v := 1) hx hb dX0_goesAs_144 (by decide) ?_
      refine lv_goto (tgt := 149) hx hb dX0_goesAs_145 (by decide) ?_
      exact W.zret (v := 1) hx hb hr (rfl) (fun t ht hW => ⟨congrArg (fun q => Outcome.returned (some (Value.int q))) (by (try rw [w1] at h7); rw [cy_go_c]; simp [cy_b, w1, h7]), ht⟩) (fun q h => by cases h) dX0_goesAs_149
  · refine lv_tableIn (off := 84) (tgt := 88) hx hb dX0_goesAs_4 (by rw [w1]; decide) (by rw [w1]; decide) (by rw [w1]; rfl) (by decide) ?_
    refine lv_iload_n hx hb dX0_goesAs_88 rfl (lv_at hl 1 rfl) ?_
    refine lv_bipush (v := 8) hx hb dX0_goesAs_89 (by decide) ?_
    refine lv_icmp_eq (tgt := 106) hx hb dX0_goesAs_91 (by decide) (fun h8 => ?_) (fun h8 => ?_)
    · refine lv_iconst (v := 1) hx hb dX0_goesAs_106 (by decide) ?_
      refine lv_goto (tgt := 111) hx hb dX0_goesAs_107 (by decide) ?_
      exact W.zret (v := 1) hx hb hr (rfl) (fun t ht hW => ⟨congrArg (fun q => Outcome.returned (some (Value.int q))) (by (try rw [w1] at h8); rw [cy_go_c]; simp [cy_b, w1, h8]), ht⟩) (fun q h => by cases h) dX0_goesAs_111
    · refine lv_iload_n hx hb dX0_goesAs_94 rfl (lv_at hl 1 rfl) ?_
      refine lv_bipush (v := 7) hx hb dX0_goesAs_95 (by decide) ?_
      refine lv_icmp_eq (tgt := 106) hx hb dX0_goesAs_97 (by decide) (fun h9 => ?_) (fun h9 => ?_)
      · refine lv_iconst (v := 1) hx hb dX0_goesAs_106 (by decide) ?_
        refine lv_goto (tgt := 111) hx hb dX0_goesAs_107 (by decide) ?_
        exact W.zret (v := 1) hx hb hr (rfl) (fun t ht hW => ⟨congrArg (fun q => Outcome.returned (some (Value.int q))) (by (try rw [w1] at h8); (try rw [w1] at h9); rw [cy_go_c]; simp [cy_b, w1, h8, h9]), ht⟩) (fun q h => by cases h) dX0_goesAs_111
      · refine lv_iload_n hx hb dX0_goesAs_100 rfl (lv_at hl 1 rfl) ?_
        refine lv_bipush (v := 9) hx hb dX0_goesAs_101 (by decide) ?_
        refine lv_icmp_ne (tgt := 110) hx hb dX0_goesAs_103 (by decide) (fun h10 => ?_) (fun h10 => ?_)
        · refine lv_iconst (v := 0) hx hb dX0_goesAs_110 (by decide) ?_
          exact W.zret (v := 0) hx hb hr (rfl) (fun t ht hW => ⟨congrArg (fun q => Outcome.returned (some (Value.int q))) (by (try rw [w1] at h8); (try rw [w1] at h9); (try rw [w1] at h10); rw [cy_go_c]; simp [cy_b, w1, h8, h9, h10]), ht⟩) (fun q h => by cases h) dX0_goesAs_111
        · refine lv_iconst (v := 1) hx hb dX0_goesAs_106 (by decide) ?_
          refine lv_goto (tgt := 111) hx hb dX0_goesAs_107 (by decide) ?_
          exact W.zret (v := 1) hx hb hr (rfl) (fun t ht hW => ⟨congrArg (fun q => Outcome.returned (some (Value.int q))) (by (try rw [w1] at h8); (try rw [w1] at h9); (try rw [w1] at h10); rw [cy_go_c]; simp [cy_b, w1, h8, h9, h10]), ht⟩) (fun q h => by cases h) dX0_goesAs_111
  · refine lv_tableIn (off := 132) (tgt := 136) hx hb dX0_goesAs_4 (by rw [w1]; decide) (by rw [w1]; decide) (by rw [w1]; rfl) (by decide) ?_
    refine lv_iload_n hx hb dX0_goesAs_136 rfl (lv_at hl 1 rfl) ?_
    refine lv_aload_n hx hb dX0_goesAs_137 rfl (lv_at hl 0 rfl) ?_
    refine cy_getSort hx hb hts hin1 hin2 hin3 hown hK hI hk (hts (.fieldLink RX0 15 "CustomsYard$Load" "sort" "I") (by decide +kernel)) (fun _ h9 => h9) dX0_goesAs_138 ?_
    refine lv_icmp_ne (tgt := 148) hx hb dX0_goesAs_141 (by decide) (fun h11 => ?_) (fun h11 => ?_)
    · refine lv_iconst (v := 0) hx hb dX0_goesAs_148 (by decide) ?_
      exact W.zret (v := 0) hx hb hr (rfl) (fun t ht hW => ⟨congrArg (fun q => Outcome.returned (some (Value.int q))) (by (try rw [w1] at h11); rw [cy_go_c]; simp [cy_b, w1, h11]), ht⟩) (fun q h => by cases h) dX0_goesAs_149
    · refine lv_iconst (v := 1) hx hb dX0_goesAs_144 (by decide) ?_
      refine lv_goto (tgt := 149) hx hb dX0_goesAs_145 (by decide) ?_
      exact W.zret (v := 1) hx hb hr (rfl) (fun t ht hW => ⟨congrArg (fun q => Outcome.returned (some (Value.int q))) (by (try rw [w1] at h11); rw [cy_go_c]; simp [cy_b, w1, h11]), ht⟩) (fun q h => by cases h) dX0_goesAs_149
  · refine lv_tableIn (off := 132) (tgt := 136) hx hb dX0_goesAs_4 (by rw [w1]; decide) (by rw [w1]; decide) (by rw [w1]; rfl) (by decide) ?_
    refine lv_iload_n hx hb dX0_goesAs_136 rfl (lv_at hl 1 rfl) ?_
    refine lv_aload_n hx hb dX0_goesAs_137 rfl (lv_at hl 0 rfl) ?_
    refine cy_getSort hx hb hts hin1 hin2 hin3 hown hK hI hk (hts (.fieldLink RX0 15 "CustomsYard$Load" "sort" "I") (by decide +kernel)) (fun _ h9 => h9) dX0_goesAs_138 ?_
    refine lv_icmp_ne (tgt := 148) hx hb dX0_goesAs_141 (by decide) (fun h12 => ?_) (fun h12 => ?_)
    · refine lv_iconst (v := 0) hx hb dX0_goesAs_148 (by decide) ?_
      exact W.zret (v := 0) hx hb hr (rfl) (fun t ht hW => ⟨congrArg (fun q => Outcome.returned (some (Value.int q))) (by (try rw [w1] at h12); rw [cy_go_c]; simp [cy_b, w1, h12]), ht⟩) (fun q h => by cases h) dX0_goesAs_149
    · refine lv_iconst (v := 1) hx hb dX0_goesAs_144 (by decide) ?_
      refine lv_goto (tgt := 149) hx hb dX0_goesAs_145 (by decide) ?_
      exact W.zret (v := 1) hx hb hr (rfl) (fun t ht hW => ⟨congrArg (fun q => Outcome.returned (some (Value.int q))) (by (try rw [w1] at h12); rw [cy_go_c]; simp [cy_b, w1, h12]), ht⟩) (fun q h => by cases h) dX0_goesAs_149
  · refine lv_tableIn (off := 108) (tgt := 112) hx hb dX0_goesAs_4 (by rw [w1]; decide) (by rw [w1]; decide) (by rw [w1]; rfl) (by decide) ?_
    refine lv_iload_n hx hb dX0_goesAs_112 rfl (lv_at hl 1 rfl) ?_
    refine lv_bipush (v := 11) hx hb dX0_goesAs_113 (by decide) ?_
    refine lv_icmp_eq (tgt := 130) hx hb dX0_goesAs_115 (by decide) (fun h13 => ?_) (fun h13 => ?_)
    · refine lv_iconst (v := 1) hx hb dX0_goesAs_130 (by decide) ?_
      refine lv_goto (tgt := 135) hx hb dX0_goesAs_131 (by decide) ?_
      exact W.zret (v := 1) hx hb hr (rfl) (fun t ht hW => ⟨congrArg (fun q => Outcome.returned (some (Value.int q))) (by (try rw [w1] at h13); rw [cy_go_c]; simp [cy_b, w1, h13]), ht⟩) (fun q h => by cases h) dX0_goesAs_135
    · refine lv_iload_n hx hb dX0_goesAs_118 rfl (lv_at hl 1 rfl) ?_
      refine lv_bipush (v := 10) hx hb dX0_goesAs_119 (by decide) ?_
      refine lv_icmp_eq (tgt := 130) hx hb dX0_goesAs_121 (by decide) (fun h14 => ?_) (fun h14 => ?_)
      · refine lv_iconst (v := 1) hx hb dX0_goesAs_130 (by decide) ?_
        refine lv_goto (tgt := 135) hx hb dX0_goesAs_131 (by decide) ?_
        exact W.zret (v := 1) hx hb hr (rfl) (fun t ht hW => ⟨congrArg (fun q => Outcome.returned (some (Value.int q))) (by (try rw [w1] at h13); (try rw [w1] at h14); rw [cy_go_c]; simp [cy_b, w1, h13, h14]), ht⟩) (fun q h => by cases h) dX0_goesAs_135
      · refine lv_iload_n hx hb dX0_goesAs_124 rfl (lv_at hl 1 rfl) ?_
        refine lv_bipush (v := 12) hx hb dX0_goesAs_125 (by decide) ?_
        refine lv_icmp_ne (tgt := 134) hx hb dX0_goesAs_127 (by decide) (fun h15 => ?_) (fun h15 => ?_)
        · refine lv_iconst (v := 0) hx hb dX0_goesAs_134 (by decide) ?_
          exact W.zret (v := 0) hx hb hr (rfl) (fun t ht hW => ⟨congrArg (fun q => Outcome.returned (some (Value.int q))) (by (try rw [w1] at h13); (try rw [w1] at h14); (try rw [w1] at h15); rw [cy_go_c]; simp [cy_b, w1, h13, h14, h15]), ht⟩) (fun q h => by cases h) dX0_goesAs_135
        · refine lv_iconst (v := 1) hx hb dX0_goesAs_130 (by decide) ?_
          refine lv_goto (tgt := 135) hx hb dX0_goesAs_131 (by decide) ?_
          exact W.zret (v := 1) hx hb hr (rfl) (fun t ht hW => ⟨congrArg (fun q => Outcome.returned (some (Value.int q))) (by (try rw [w1] at h13); (try rw [w1] at h14); (try rw [w1] at h15); rw [cy_go_c]; simp [cy_b, w1, h13, h14, h15]), ht⟩) (fun q h => by cases h) dX0_goesAs_135
  · refine lv_tableOut (tgt := 136) hx hb dX0_goesAs_4 w1 (by decide) ?_
    refine lv_iload_n hx hb dX0_goesAs_136 rfl (lv_at hl 1 rfl) ?_
    refine lv_aload_n hx hb dX0_goesAs_137 rfl (lv_at hl 0 rfl) ?_
    refine cy_getSort hx hb hts hin1 hin2 hin3 hown hK hI hk (hts (.fieldLink RX0 15 "CustomsYard$Load" "sort" "I") (by decide +kernel)) (fun _ h9 => h9) dX0_goesAs_138 ?_
    refine lv_icmp_ne (tgt := 148) hx hb dX0_goesAs_141 (by decide) (fun h16 => ?_) (fun h16 => ?_)
    · refine lv_iconst (v := 0) hx hb dX0_goesAs_148 (by decide) ?_
      exact W.zret (v := 0) hx hb hr (rfl) (fun t ht hW => ⟨congrArg (fun q => Outcome.returned (some (Value.int q))) (by rw [cy_go_c]; simp [cy_b, w1n5, w1n6, w1n7, w1n8, w1n9, w1n10, w1n11, h16]), ht⟩) (fun q h => by cases h) dX0_goesAs_149
    · refine lv_iconst (v := 1) hx hb dX0_goesAs_144 (by decide) ?_
      refine lv_goto (tgt := 149) hx hb dX0_goesAs_145 (by decide) ?_
      exact W.zret (v := 1) hx hb hr (rfl) (fun t ht hW => ⟨congrArg (fun q => Outcome.returned (some (Value.int q))) (by rw [cy_go_c]; simp [cy_b, w1n5, w1n6, w1n7, w1n8, w1n9, w1n10, w1n11, h16]), ht⟩) (fun q h => by cases h) dX0_goesAs_149

set_option maxHeartbeats 4000000 in
set_option maxRecDepth 100000 in
theorem c_X1_hasPlace (l : Launch) (D : va_G) (cI cJ cO : ClassId) (z n : Nat) (σ τ : cy_S) (pl : Nat → Int32) (hi : Int32) (ad : Nat → Nat) (hok : cy_ok n σ) (k : Nat) (hk : k < n) (kdk : cy_kd (σ.1 1 k) = 0) (v : Int32)  : Met l yX1_hasPlace wsX1_hasPlace { frames := 0, cells := 0, slots := 0, locals := 0 } (cy_P D cI cJ cO (fun H => cy_W D z (cy_CT cI cJ cO n n σ τ pl hi ad) ad H) [.ref (ad (100 + 2 * k)), .int v]) (cy_Q (.int (cy_b (cy_pl (σ.1 2 k) v)))) 0 0 (fun _ => False) := by
  refine Met.ofW (cc := cX1_hasPlace) (maxL := 2) (ret := (some .boolean)) (by decide) rfl ?_
  intro p e s m args below meth c s₁ B hml hv
  obtain ⟨rfl, hK, hI⟩ := hv
  have hx := B.exec
  have hb := B.bytes
  have hr := B.returns
  have hts := atoms_spec (ws := wsX1_hasPlace) B.pre
  have hown : s.vm.findClass RX1 = some m.cls := findClass_of_methodNamed B.named
  have hlocks := B.notSynchronized
  have hl := lv_entry ([.ref (ad (100 + 2 * k)), .int v]) (n := 2) (Nat.le_of_ble_eq_true rfl)
  rw [lg_entry_eq]
  generalize (lg_sl ([.ref (ad (100 + 2 * k)), .int v]) ++ List.replicate (2 - (lg_sl ([.ref (ad (100 + 2 * k)), .int v])).length) Slot.unset).toArray = ls at hl ⊢
  have hl : lv_has ls 2 [(0, .ref (ad (100 + 2 * k))), (1, .int v)] := hl
  have hin1 := hin1_X1_hasPlace
  have hn := hok.1
  obtain ⟨pk, hpk, epk⟩ := (hok.2.2.1 k hk).2.1
  refine lv_iload_n hx hb dX1_hasPlace_0 rfl (lv_at hl 1 rfl) ?_
  refine lv_if_lt (tgt := 17) hx hb dX1_hasPlace_1 (by decide) (fun h1 => ?_) (fun h1 => ?_)
  · refine lv_iconst (v := 0) hx hb dX1_hasPlace_17 (by decide) ?_
    exact W.zret (v := 0) hx hb hr (rfl) (fun t ht hW => ⟨congrArg (fun q => Outcome.returned (some (Value.int q))) (by rw [epk, cy_pl_c hpk]; simp [cy_b, h1]), ht⟩) (fun q h => by cases h) dX1_hasPlace_18
  · refine lv_iload_n hx hb dX1_hasPlace_4 rfl (lv_at hl 1 rfl) ?_
    refine lv_aload_n hx hb dX1_hasPlace_5 rfl (lv_at hl 0 rfl) ?_
    refine cy_getNp hx hb hts hin1 hown hK hI hk kdk (hts (.fieldLink RX1 7 "CustomsYard$Numbers" "places" "[J") (by decide +kernel)) dX1_hasPlace_6 ?_
    refine cy_alenL hx hb hK hI hk (Or.inl kdk) hpk epk dX1_hasPlace_9 ?_
    refine lv_icmp_ge (tgt := 17) hx hb dX1_hasPlace_10 (by decide) (fun h2 => ?_) (fun h2 => ?_)
    · refine lv_iconst (v := 0) hx hb dX1_hasPlace_17 (by decide) ?_
      exact W.zret (v := 0) hx hb hr (rfl) (fun t ht hW => ⟨congrArg (fun q => Outcome.returned (some (Value.int q))) (by rw [epk, cy_pl_c hpk]; simp [cy_b, h1, h2]), ht⟩) (fun q h => by cases h) dX1_hasPlace_18
    · refine lv_iconst (v := 1) hx hb dX1_hasPlace_13 (by decide) ?_
      refine lv_goto (tgt := 18) hx hb dX1_hasPlace_14 (by decide) ?_
      exact W.zret (v := 1) hx hb hr (rfl) (fun t ht hW => ⟨congrArg (fun q => Outcome.returned (some (Value.int q))) (by rw [epk, cy_pl_c hpk]; simp [cy_b, h1, h2]), ht⟩) (fun q h => by cases h) dX1_hasPlace_18

set_option maxHeartbeats 4000000 in
set_option maxRecDepth 100000 in
theorem c_X1_comesAs (l : Launch) (D : va_G) (cI cJ cO : ClassId) (z n : Nat) (σ τ : cy_S) (pl : Nat → Int32) (hi : Int32) (ad : Nat → Nat) (hok : cy_ok n σ) (k : Nat) (hk : k < n) (kdk : cy_kd (σ.1 1 k) = 0) (sgk : cy_sg (σ.1 1 k) = false) (v : Int32)  : Met l yX1_comesAs wsX1_comesAs { frames := 0, cells := 0, slots := 0, locals := 0 } (cy_P D cI cJ cO (fun H => cy_W D z (cy_CT cI cJ cO n n σ τ pl hi ad) ad H) [.ref (ad (100 + 2 * k)), .int v]) (cy_Q (.int (cy_co σ k v))) 0 0 (fun _ => False) := by
  refine Met.ofW (cc := cX1_comesAs) (maxL := 2) (ret := (some .int)) (by decide) rfl ?_
  intro p e s m args below meth c s₁ B hml hv
  obtain ⟨rfl, hK, hI⟩ := hv
  have hx := B.exec
  have hb := B.bytes
  have hr := B.returns
  have hts := atoms_spec (ws := wsX1_comesAs) B.pre
  have hown : s.vm.findClass RX1 = some m.cls := findClass_of_methodNamed B.named
  have hlocks := B.notSynchronized
  have hl := lv_entry ([.ref (ad (100 + 2 * k)), .int v]) (n := 2) (Nat.le_of_ble_eq_true rfl)
  rw [lg_entry_eq]
  generalize (lg_sl ([.ref (ad (100 + 2 * k)), .int v]) ++ List.replicate (2 - (lg_sl ([.ref (ad (100 + 2 * k)), .int v])).length) Slot.unset).toArray = ls at hl ⊢
  have hl : lv_has ls 2 [(0, .ref (ad (100 + 2 * k))), (1, .int v)] := hl
  have hin1 := hin1_X1_comesAs
  have hn := hok.1
  obtain ⟨pk, hpk, epk⟩ := (hok.2.2.1 k hk).2.1
  refine lv_aload_n hx hb dX1_comesAs_0 rfl (lv_at hl 0 rfl) ?_
  refine cy_getNp hx hb hts hin1 hown hK hI hk kdk (hts (.fieldLink RX1 7 "CustomsYard$Numbers" "places" "[J") (by decide +kernel)) dX1_comesAs_1 ?_
  refine cy_alenL hx hb hK hI hk (Or.inl kdk) hpk epk dX1_comesAs_4 ?_
  exact W.iret (v := nI pk) hx hb hr (fun t ht hW => ⟨congrArg (fun q => Outcome.returned (some (Value.int q))) (by unfold cy_co; rw [if_pos sgk, epk]), ht⟩) (fun q h => by cases h) dX1_comesAs_5

set_option maxHeartbeats 4000000 in
set_option maxRecDepth 100000 in
theorem c_X3_hasPlace (l : Launch) (D : va_G) (cI cJ cO : ClassId) (z n : Nat) (σ τ : cy_S) (pl : Nat → Int32) (hi : Int32) (ad : Nat → Nat) (hok : cy_ok n σ) (k : Nat) (hk : k < n) (kdk : cy_kd (σ.1 1 k) = 2) (v : Int32)  : Met l yX3_hasPlace wsX3_hasPlace { frames := 0, cells := 0, slots := 0, locals := 0 } (cy_P D cI cJ cO (fun H => cy_W D z (cy_CT cI cJ cO n n σ τ pl hi ad) ad H) [.ref (ad (100 + 2 * k)), .int v]) (cy_Q (.int (cy_b (cy_pl (σ.1 2 k) v)))) 0 0 (fun _ => False) := by
  refine Met.ofW (cc := cX3_hasPlace) (maxL := 2) (ret := (some .boolean)) (by decide) rfl ?_
  intro p e s m args below meth c s₁ B hml hv
  obtain ⟨rfl, hK, hI⟩ := hv
  have hx := B.exec
  have hb := B.bytes
  have hr := B.returns
  have hts := atoms_spec (ws := wsX3_hasPlace) B.pre
  have hown : s.vm.findClass RX3 = some m.cls := findClass_of_methodNamed B.named
  have hlocks := B.notSynchronized
  have hl := lv_entry ([.ref (ad (100 + 2 * k)), .int v]) (n := 2) (Nat.le_of_ble_eq_true rfl)
  rw [lg_entry_eq]
  generalize (lg_sl ([.ref (ad (100 + 2 * k)), .int v]) ++ List.replicate (2 - (lg_sl ([.ref (ad (100 + 2 * k)), .int v])).length) Slot.unset).toArray = ls at hl ⊢
  have hl : lv_has ls 2 [(0, .ref (ad (100 + 2 * k))), (1, .int v)] := hl
  have hin3 := hin3_X3_hasPlace
  have hn := hok.1
  obtain ⟨pk, hpk, epk⟩ := (hok.2.2.1 k hk).2.1
  refine lv_iload_n hx hb dX3_hasPlace_0 rfl (lv_at hl 1 rfl) ?_
  refine lv_if_lt (tgt := 17) hx hb dX3_hasPlace_1 (by decide) (fun h1 => ?_) (fun h1 => ?_)
  · refine lv_iconst (v := 0) hx hb dX3_hasPlace_17 (by decide) ?_
    exact W.zret (v := 0) hx hb hr (rfl) (fun t ht hW => ⟨congrArg (fun q => Outcome.returned (some (Value.int q))) (by rw [epk, cy_pl_c hpk]; simp [cy_b, h1]), ht⟩) (fun q h => by cases h) dX3_hasPlace_18
  · refine lv_iload_n hx hb dX3_hasPlace_4 rfl (lv_at hl 1 rfl) ?_
    refine lv_aload_n hx hb dX3_hasPlace_5 rfl (lv_at hl 0 rfl) ?_
    refine cy_getTp hx hb hts hin3 hown hK hI hk kdk (hts (.fieldLink RX3 9 "CustomsYard$Things" "places" "[LCustomsYard$Load;") (by decide +kernel)) dX3_hasPlace_6 ?_
    refine cy_alenL hx hb hK hI hk (Or.inr kdk) hpk epk dX3_hasPlace_9 ?_
    refine lv_icmp_ge (tgt := 17) hx hb dX3_hasPlace_10 (by decide) (fun h2 => ?_) (fun h2 => ?_)
    · refine lv_iconst (v := 0) hx hb dX3_hasPlace_17 (by decide) ?_
      exact W.zret (v := 0) hx hb hr (rfl) (fun t ht hW => ⟨congrArg (fun q => Outcome.returned (some (Value.int q))) (by rw [epk, cy_pl_c hpk]; simp [cy_b, h1, h2]), ht⟩) (fun q h => by cases h) dX3_hasPlace_18
    · refine lv_iconst (v := 1) hx hb dX3_hasPlace_13 (by decide) ?_
      refine lv_goto (tgt := 18) hx hb dX3_hasPlace_14 (by decide) ?_
      exact W.zret (v := 1) hx hb hr (rfl) (fun t ht hW => ⟨congrArg (fun q => Outcome.returned (some (Value.int q))) (by rw [epk, cy_pl_c hpk]; simp [cy_b, h1, h2]), ht⟩) (fun q h => by cases h) dX3_hasPlace_18

set_option maxHeartbeats 4000000 in
set_option maxRecDepth 100000 in
theorem c_X3_comesAs (l : Launch) (D : va_G) (cI cJ cO : ClassId) (z n : Nat) (σ τ : cy_S) (pl : Nat → Int32) (hi : Int32) (ad : Nat → Nat) (hok : cy_ok n σ) (k : Nat) (hk : k < n) (kdk : cy_kd (σ.1 1 k) = 2) (sgk : cy_sg (σ.1 1 k) = false) (v : Int32)  : Met l yX3_comesAs wsX3_comesAs { frames := 0, cells := 0, slots := 0, locals := 0 } (cy_P D cI cJ cO (fun H => cy_W D z (cy_CT cI cJ cO n n σ τ pl hi ad) ad H) [.ref (ad (100 + 2 * k)), .int v]) (cy_Q (.int (cy_co σ k v))) 0 0 (fun _ => False) := by
  refine Met.ofW (cc := cX3_comesAs) (maxL := 2) (ret := (some .int)) (by decide) rfl ?_
  intro p e s m args below meth c s₁ B hml hv
  obtain ⟨rfl, hK, hI⟩ := hv
  have hx := B.exec
  have hb := B.bytes
  have hr := B.returns
  have hts := atoms_spec (ws := wsX3_comesAs) B.pre
  have hown : s.vm.findClass RX3 = some m.cls := findClass_of_methodNamed B.named
  have hlocks := B.notSynchronized
  have hl := lv_entry ([.ref (ad (100 + 2 * k)), .int v]) (n := 2) (Nat.le_of_ble_eq_true rfl)
  rw [lg_entry_eq]
  generalize (lg_sl ([.ref (ad (100 + 2 * k)), .int v]) ++ List.replicate (2 - (lg_sl ([.ref (ad (100 + 2 * k)), .int v])).length) Slot.unset).toArray = ls at hl ⊢
  have hl : lv_has ls 2 [(0, .ref (ad (100 + 2 * k))), (1, .int v)] := hl
  have hin3 := hin3_X3_comesAs
  have hn := hok.1
  obtain ⟨pk, hpk, epk⟩ := (hok.2.2.1 k hk).2.1
  refine lv_aload_n hx hb dX3_comesAs_0 rfl (lv_at hl 0 rfl) ?_
  refine cy_getTp hx hb hts hin3 hown hK hI hk kdk (hts (.fieldLink RX3 9 "CustomsYard$Things" "places" "[LCustomsYard$Load;") (by decide +kernel)) dX3_comesAs_1 ?_
  refine cy_alenL hx hb hK hI hk (Or.inr kdk) hpk epk dX3_comesAs_4 ?_
  exact W.iret (v := nI pk) hx hb hr (fun t ht hW => ⟨congrArg (fun q => Outcome.returned (some (Value.int q))) (by unfold cy_co; rw [if_pos sgk, epk]), ht⟩) (fun q h => by cases h) dX3_comesAs_5

set_option maxHeartbeats 4000000 in
set_option maxRecDepth 100000 in
theorem c_X2_declaration (l : Launch) (D : va_G) (cI cJ cO : ClassId) (z n : Nat) (σ τ : cy_S) (pl : Nat → Int32) (hi : Int32) (ad : Nat → Nat) (hok : cy_ok n σ) (k : Nat) (hk : k < n) (kdk : cy_kd (σ.1 1 k) = 1)  : Met l yX2_declaration wsX2_declaration { frames := 0, cells := 0, slots := 0, locals := 0 } (cy_P D cI cJ cO (fun H => cy_W D z (cy_CT cI cJ cO n n σ τ pl hi ad) ad H) [.ref (ad (100 + 2 * k))]) (cy_Q (.int (if σ.1 1 k = 5 then σ.1 3 k + 1000 else 2 * σ.1 3 k))) 0 0 (fun _ => False) := by
  refine Met.ofW (cc := cX2_declaration) (maxL := 1) (ret := (some .int)) (by decide) rfl ?_
  intro p e s m args below meth c s₁ B hml hv
  obtain ⟨rfl, hK, hI⟩ := hv
  have hx := B.exec
  have hb := B.bytes
  have hr := B.returns
  have hts := atoms_spec (ws := wsX2_declaration) B.pre
  have hown : s.vm.findClass RX2 = some m.cls := findClass_of_methodNamed B.named
  have hlocks := B.notSynchronized
  have hl := lv_entry ([.ref (ad (100 + 2 * k))]) (n := 1) (Nat.le_of_ble_eq_true rfl)
  rw [lg_entry_eq]
  generalize (lg_sl ([.ref (ad (100 + 2 * k))]) ++ List.replicate (1 - (lg_sl ([.ref (ad (100 + 2 * k))])).length) Slot.unset).toArray = ls at hl ⊢
  have hl : lv_has ls 1 [(0, .ref (ad (100 + 2 * k)))] := hl
  have hin1 := hin1_X2_declaration
  have hin2 := hin2_X2_declaration
  have hin3 := hin3_X2_declaration
  have hn := hok.1
  obtain ⟨pk, hpk, epk⟩ := (hok.2.2.1 k hk).2.1
  refine lv_aload_n hx hb dX2_declaration_0 rfl (lv_at hl 0 rfl) ?_
  refine cy_getSort hx hb hts hin1 hin2 hin3 hown hK hI hk (hts (.fieldLink RX2 19 "CustomsYard$Piece" "sort" "I") (by decide +kernel)) (fun x h9 => u_same (hts (.sameField "CustomsYard$Piece" "CustomsYard$Load" "sort" "I") (by decide +kernel)) x h9) dX2_declaration_1 ?_
  refine lv_iconst (v := 5) hx hb dX2_declaration_4 (by decide) ?_
  refine lv_icmp_ne (tgt := 19) hx hb dX2_declaration_5 (by decide) (fun h1 => ?_) (fun h1 => ?_)
  · refine lv_iconst (v := 2) hx hb dX2_declaration_19 (by decide) ?_
    refine lv_aload_n hx hb dX2_declaration_20 rfl (lv_at hl 0 rfl) ?_
    refine cy_getPt hx hb hts hin2 hown hK hI hk kdk (hts (.fieldLink RX2 9 "CustomsYard$Piece" "told" "I") (by decide +kernel)) dX2_declaration_21 ?_
    refine lv_imul hx hb dX2_declaration_24 ?_
    exact W.iret (v := (2 * (σ.1 3 k))) hx hb hr (fun t ht hW => ⟨congrArg (fun q => Outcome.returned (some (Value.int q))) (by simp [h1]), ht⟩) (fun q h => by cases h) dX2_declaration_25
  · refine lv_aload_n hx hb dX2_declaration_8 rfl (lv_at hl 0 rfl) ?_
    refine cy_getPt hx hb hts hin2 hown hK hI hk kdk (hts (.fieldLink RX2 9 "CustomsYard$Piece" "told" "I") (by decide +kernel)) dX2_declaration_9 ?_
    refine lv_sipush (v := 1000) hx hb dX2_declaration_12 (by decide) ?_
    refine lv_iadd hx hb dX2_declaration_15 ?_
    refine lv_goto (tgt := 25) hx hb dX2_declaration_16 (by decide) ?_
    exact W.iret (v := ((σ.1 3 k) + 1000)) hx hb hr (fun t ht hW => ⟨congrArg (fun q => Outcome.returned (some (Value.int q))) (by simp [h1]), ht⟩) (fun q h => by cases h) dX2_declaration_25

set_option maxHeartbeats 4000000 in
set_option maxRecDepth 100000 in
theorem c_X2_comesAs (l : Launch) (D : va_G) (cI cJ cO : ClassId) (z n : Nat) (σ τ : cy_S) (pl : Nat → Int32) (hi : Int32) (ad : Nat → Nat) (hok : cy_ok n σ) (k : Nat) (hk : k < n) (kdk : cy_kd (σ.1 1 k) = 1) (sgk : cy_sg (σ.1 1 k) = true) (v : Int32)  : Met l yX2_comesAs wsX2_comesAs { frames := 1, cells := 0, slots := 0, locals := 20 } (cy_P D cI cJ cO (fun H => cy_W D z (cy_CT cI cJ cO n n σ τ pl hi ad) ad H) [.ref (ad (100 + 2 * k)), .int v]) (cy_Q (.int (cy_co σ k v))) 0 0 (fun _ => False) := by
  refine Met.ofW (cc := cX2_comesAs) (maxL := 2) (ret := (some .int)) (by decide) rfl ?_
  intro p e s m args below meth c s₁ B hml hv
  obtain ⟨rfl, hK, hI⟩ := hv
  have hx := B.exec
  have hb := B.bytes
  have hr := B.returns
  have hts := atoms_spec (ws := wsX2_comesAs) B.pre
  have hown : s.vm.findClass RX2 = some m.cls := findClass_of_methodNamed B.named
  have hlocks := B.notSynchronized
  have hl := lv_entry ([.ref (ad (100 + 2 * k)), .int v]) (n := 2) (Nat.le_of_ble_eq_true rfl)
  rw [lg_entry_eq]
  generalize (lg_sl ([.ref (ad (100 + 2 * k)), .int v]) ++ List.replicate (2 - (lg_sl ([.ref (ad (100 + 2 * k)), .int v])).length) Slot.unset).toArray = ls at hl ⊢
  have hl : lv_has ls 2 [(0, .ref (ad (100 + 2 * k))), (1, .int v)] := hl
  have hin1 := hin1_X2_comesAs
  have hin2 := hin2_X2_comesAs
  have hin3 := hin3_X2_comesAs
  have hn := hok.1
  obtain ⟨pk, hpk, epk⟩ := (hok.2.2.1 k hk).2.1
  refine lv_iload_n hx hb dX2_comesAs_0 rfl (lv_at hl 1 rfl) ?_
  refine lv_bipush (v := 13) hx hb dX2_comesAs_1 (by decide) ?_
  refine lv_icmp_ne (tgt := 13) hx hb dX2_comesAs_3 (by decide) (fun h1 => ?_) (fun h1 => ?_)
  · refine lv_aload_n hx hb dX2_comesAs_13 rfl (lv_at hl 0 rfl) ?_
    refine cy_getPt hx hb hts hin2 hown hK hI hk kdk (hts (.fieldLink RX2 9 "CustomsYard$Piece" "told" "I") (by decide +kernel)) dX2_comesAs_14 ?_
    exact W.iret (v := σ.1 3 k) hx hb hr (fun t ht hW => ⟨congrArg (fun q => Outcome.returned (some (Value.int q))) (by unfold cy_co; simp only [sgk]; simp [h1]), ht⟩) (fun q h => by cases h) dX2_comesAs_17
  · refine lv_aload_n hx hb dX2_comesAs_6 rfl (lv_at hl 0 rfl) ?_
    refine cy_callp (v := .int (if σ.1 1 k = 5 then σ.1 3 k + 1000 else 2 * σ.1 3 k)) (va_runV (As := []) (rest := []) ⟨hx, hb, hml, hown, hts⟩ (c_X2_declaration l D cI cJ cO z n σ τ pl hi ad hok k hk kdk) (cwV 0 hts gX2_comesAs_X2_declaration rfl rfl rfl (by decide +kernel) ⟨Nat.le_of_ble_eq_true rfl, Nat.le_of_ble_eq_true rfl⟩) (cy_preV hK hI (cy_rv1 hK hI hk kdk)) rfl rfl hl.1 rfl (lv_room (Nat.le_of_ble_eq_true rfl)) dX2_comesAs_7 ⟨Nat.le_of_ble_eq_true rfl, Nat.le_of_ble_eq_true rfl⟩) ?_
    refine lv_goto (tgt := 17) hx hb dX2_comesAs_10 (by decide) ?_
    exact W.iret (v := (if σ.1 1 k = 5 then σ.1 3 k + 1000 else 2 * σ.1 3 k)) hx hb hr (fun t ht hW => ⟨congrArg (fun q => Outcome.returned (some (Value.int q))) (by unfold cy_co; simp only [sgk]; simp [h1]), ht⟩) (fun q h => by cases h) dX2_comesAs_17

set_option maxHeartbeats 4000000 in
set_option maxRecDepth 100000 in
theorem c_X3_viewAsked (l : Launch) (D : va_G) (cI cJ cO : ClassId) (z n : Nat) (σ τ : cy_S) (pl : Nat → Int32) (hi : Int32) (ad : Nat → Nat) (hok : cy_ok n σ) (k : Nat) (hk : k < n) (kdk : cy_kd (σ.1 1 k) = 2)  : Met l yX3_viewAsked wsX3_viewAsked { frames := 0, cells := 0, slots := 0, locals := 0 } (cy_P D cI cJ cO (fun H => cy_W D z (cy_CT cI cJ cO n n σ τ pl hi ad) ad H) [.ref (ad (100 + 2 * k))]) (cy_Q (.int (cy_va (σ.1 1 k)))) 0 0 (fun _ => False) := by
  refine Met.ofW (cc := cX3_viewAsked) (maxL := 1) (ret := (some .int)) (by decide) rfl ?_
  intro p e s m args below meth c s₁ B hml hv
  obtain ⟨rfl, hK, hI⟩ := hv
  have hx := B.exec
  have hb := B.bytes
  have hr := B.returns
  have hts := atoms_spec (ws := wsX3_viewAsked) B.pre
  have hown : s.vm.findClass RX3 = some m.cls := findClass_of_methodNamed B.named
  have hlocks := B.notSynchronized
  have hl := lv_entry ([.ref (ad (100 + 2 * k))]) (n := 1) (Nat.le_of_ble_eq_true rfl)
  rw [lg_entry_eq]
  generalize (lg_sl ([.ref (ad (100 + 2 * k))]) ++ List.replicate (1 - (lg_sl ([.ref (ad (100 + 2 * k))])).length) Slot.unset).toArray = ls at hl ⊢
  have hl : lv_has ls 1 [(0, .ref (ad (100 + 2 * k)))] := hl
  have hin1 := hin1_X3_viewAsked
  have hin2 := hin2_X3_viewAsked
  have hin3 := hin3_X3_viewAsked
  have hn := hok.1
  obtain ⟨pk, hpk, epk⟩ := (hok.2.2.1 k hk).2.1
  refine lv_aload_n hx hb dX3_viewAsked_0 rfl (lv_at hl 0 rfl) ?_
  refine cy_getSort hx hb hts hin1 hin2 hin3 hown hK hI hk (hts (.fieldLink RX3 15 "CustomsYard$Things" "sort" "I") (by decide +kernel)) (fun x h9 => u_same (hts (.sameField "CustomsYard$Things" "CustomsYard$Load" "sort" "I") (by decide +kernel)) x h9) dX3_viewAsked_1 ?_
  rcases cy_sw3_11 (σ.1 1 k) with w1 | w1 | w1 | w1 | w1 | w1 | w1 | w1 | w1 | ⟨w1, w1n3, w1n4, w1n5, w1n6, w1n7, w1n8, w1n9, w1n10, w1n11⟩
  · refine lv_tableIn (off := 52) (tgt := 56) hx hb dX3_viewAsked_4 (by rw [w1]; decide) (by rw [w1]; decide) (by rw [w1]; rfl) (by decide) ?_
    refine lv_iconst (v := 0) hx hb dX3_viewAsked_56 (by decide) ?_
    exact W.iret (v := 0) hx hb hr (fun t ht hW => ⟨congrArg (fun q => Outcome.returned (some (Value.int q))) (by simp [cy_va, w1]), ht⟩) (fun q h => by cases h) dX3_viewAsked_57
  · refine lv_tableIn (off := 62) (tgt := 66) hx hb dX3_viewAsked_4 (by rw [w1]; decide) (by rw [w1]; decide) (by rw [w1]; rfl) (by decide) ?_
    refine lv_bipush (v := 9) hx hb dX3_viewAsked_66 (by decide) ?_
    exact W.iret (v := 9) hx hb hr (fun t ht hW => ⟨congrArg (fun q => Outcome.returned (some (Value.int q))) (by simp [cy_va, w1]), ht⟩) (fun q h => by cases h) dX3_viewAsked_68
  · refine lv_tableIn (off := 62) (tgt := 66) hx hb dX3_viewAsked_4 (by rw [w1]; decide) (by rw [w1]; decide) (by rw [w1]; rfl) (by decide) ?_
    refine lv_bipush (v := 9) hx hb dX3_viewAsked_66 (by decide) ?_
    exact W.iret (v := 9) hx hb hr (fun t ht hW => ⟨congrArg (fun q => Outcome.returned (some (Value.int q))) (by simp [cy_va, w1]), ht⟩) (fun q h => by cases h) dX3_viewAsked_68
  · refine lv_tableIn (off := 62) (tgt := 66) hx hb dX3_viewAsked_4 (by rw [w1]; decide) (by rw [w1]; decide) (by rw [w1]; rfl) (by decide) ?_
    refine lv_bipush (v := 9) hx hb dX3_viewAsked_66 (by decide) ?_
    exact W.iret (v := 9) hx hb hr (fun t ht hW => ⟨congrArg (fun q => Outcome.returned (some (Value.int q))) (by simp [cy_va, w1]), ht⟩) (fun q h => by cases h) dX3_viewAsked_68
  · refine lv_tableIn (off := 54) (tgt := 58) hx hb dX3_viewAsked_4 (by rw [w1]; decide) (by rw [w1]; decide) (by rw [w1]; rfl) (by decide) ?_
    refine lv_iconst (v := 4) hx hb dX3_viewAsked_58 (by decide) ?_
    exact W.iret (v := 4) hx hb hr (fun t ht hW => ⟨congrArg (fun q => Outcome.returned (some (Value.int q))) (by simp [cy_va, w1]), ht⟩) (fun q h => by cases h) dX3_viewAsked_59
  · refine lv_tableIn (off := 54) (tgt := 58) hx hb dX3_viewAsked_4 (by rw [w1]; decide) (by rw [w1]; decide) (by rw [w1]; rfl) (by decide) ?_
    refine lv_iconst (v := 4) hx hb dX3_viewAsked_58 (by decide) ?_
    exact W.iret (v := 4) hx hb hr (fun t ht hW => ⟨congrArg (fun q => Outcome.returned (some (Value.int q))) (by simp [cy_va, w1]), ht⟩) (fun q h => by cases h) dX3_viewAsked_59
  · refine lv_tableIn (off := 56) (tgt := 60) hx hb dX3_viewAsked_4 (by rw [w1]; decide) (by rw [w1]; decide) (by rw [w1]; rfl) (by decide) ?_
    refine lv_bipush (v := 13) hx hb dX3_viewAsked_60 (by decide) ?_
    exact W.iret (v := 13) hx hb hr (fun t ht hW => ⟨congrArg (fun q => Outcome.returned (some (Value.int q))) (by simp [cy_va, w1]), ht⟩) (fun q h => by cases h) dX3_viewAsked_62
  · refine lv_tableIn (off := 59) (tgt := 63) hx hb dX3_viewAsked_4 (by rw [w1]; decide) (by rw [w1]; decide) (by rw [w1]; rfl) (by decide) ?_
    refine lv_bipush (v := 7) hx hb dX3_viewAsked_63 (by decide) ?_
    exact W.iret (v := 7) hx hb hr (fun t ht hW => ⟨congrArg (fun q => Outcome.returned (some (Value.int q))) (by simp [cy_va, w1]), ht⟩) (fun q h => by cases h) dX3_viewAsked_65
  · refine lv_tableIn (off := 59) (tgt := 63) hx hb dX3_viewAsked_4 (by rw [w1]; decide) (by rw [w1]; decide) (by rw [w1]; rfl) (by decide) ?_
    refine lv_bipush (v := 7) hx hb dX3_viewAsked_63 (by decide) ?_
    exact W.iret (v := 7) hx hb hr (fun t ht hW => ⟨congrArg (fun q => Outcome.returned (some (Value.int q))) (by simp [cy_va, w1]), ht⟩) (fun q h => by cases h) dX3_viewAsked_65
  · refine lv_tableOut (tgt := 66) hx hb dX3_viewAsked_4 w1 (by decide) ?_
    refine lv_bipush (v := 9) hx hb dX3_viewAsked_66 (by decide) ?_
    exact W.iret (v := 9) hx hb hr (fun t ht hW => ⟨congrArg (fun q => Outcome.returned (some (Value.int q))) (by simp [cy_va, w1n3, w1n4, w1n5, w1n6, w1n7, w1n8, w1n9, w1n10, w1n11]), ht⟩) (fun q h => by cases h) dX3_viewAsked_68

set_option maxHeartbeats 4000000 in
set_option maxRecDepth 100000 in
theorem c_X3_viewKept (l : Launch) (D : va_G) (cI cJ cO : ClassId) (z n : Nat) (σ τ : cy_S) (pl : Nat → Int32) (hi : Int32) (ad : Nat → Nat) (hok : cy_ok n σ) (k : Nat) (hk : k < n) (kdk : cy_kd (σ.1 1 k) = 2)  : Met l yX3_viewKept wsX3_viewKept { frames := 1, cells := 0, slots := 0, locals := 20 } (cy_P D cI cJ cO (fun H => cy_W D z (cy_CT cI cJ cO n n σ τ pl hi ad) ad H) [.ref (ad (100 + 2 * k))]) (cy_Q (.int (cy_vk (σ.1 1 k)))) 0 0 (fun _ => False) := by
  refine Met.ofW (cc := cX3_viewKept) (maxL := 1) (ret := (some .int)) (by decide) rfl ?_
  intro p e s m args below meth c s₁ B hml hv
  obtain ⟨rfl, hK, hI⟩ := hv
  have hx := B.exec
  have hb := B.bytes
  have hr := B.returns
  have hts := atoms_spec (ws := wsX3_viewKept) B.pre
  have hown : s.vm.findClass RX3 = some m.cls := findClass_of_methodNamed B.named
  have hlocks := B.notSynchronized
  have hl := lv_entry ([.ref (ad (100 + 2 * k))]) (n := 1) (Nat.le_of_ble_eq_true rfl)
  rw [lg_entry_eq]
  generalize (lg_sl ([.ref (ad (100 + 2 * k))]) ++ List.replicate (1 - (lg_sl ([.ref (ad (100 + 2 * k))])).length) Slot.unset).toArray = ls at hl ⊢
  have hl : lv_has ls 1 [(0, .ref (ad (100 + 2 * k)))] := hl
  have hin1 := hin1_X3_viewKept
  have hin2 := hin2_X3_viewKept
  have hin3 := hin3_X3_viewKept
  have hn := hok.1
  obtain ⟨pk, hpk, epk⟩ := (hok.2.2.1 k hk).2.1
  refine lv_aload_n hx hb dX3_viewKept_0 rfl (lv_at hl 0 rfl) ?_
  refine cy_getSort hx hb hts hin1 hin2 hin3 hown hK hI hk (hts (.fieldLink RX3 15 "CustomsYard$Things" "sort" "I") (by decide +kernel)) (fun x h9 => u_same (hts (.sameField "CustomsYard$Things" "CustomsYard$Load" "sort" "I") (by decide +kernel)) x h9) dX3_viewKept_1 ?_
  by_cases w1 : (σ.1 1 k) = 8
  · refine lv_lookup (off := 28) (tgt := 32) hx hb dX3_viewKept_4 (by decide) (by rw [w1]; decide) (by decide) ?_
    refine lv_iconst (v := 5) hx hb dX3_viewKept_32 (by decide) ?_
    exact W.iret (v := 5) hx hb hr (fun t ht hW => ⟨congrArg (fun q => Outcome.returned (some (Value.int q))) (by simp [cy_vk, w1]), ht⟩) (fun q h => by cases h) dX3_viewKept_33
  · by_cases w2 : (σ.1 1 k) = 11
    · refine lv_lookup (off := 30) (tgt := 34) hx hb dX3_viewKept_4 (by decide) (by rw [w2]; decide) (by decide) ?_
      refine lv_bipush (v := 8) hx hb dX3_viewKept_34 (by decide) ?_
      exact W.iret (v := 8) hx hb hr (fun t ht hW => ⟨congrArg (fun q => Outcome.returned (some (Value.int q))) (by simp [cy_vk, w1, w2]), ht⟩) (fun q h => by cases h) dX3_viewKept_36
    · refine lv_lookup (off := 33) (tgt := 37) hx hb dX3_viewKept_4 (by decide) (by show Op.lookupswitch.offset [(8, 28), (11, 30)] _ _ = _; rw [lv_osw w1 (by decide), lv_osw w2 (by decide)]; rfl) (by decide) ?_
      refine lv_aload_n hx hb dX3_viewKept_37 rfl (lv_at hl 0 rfl) ?_
      refine cy_callp (v := .int (cy_va (σ.1 1 k))) (va_runV (As := []) (rest := []) ⟨hx, hb, hml, hown, hts⟩ (c_X3_viewAsked l D cI cJ cO z n σ τ pl hi ad hok k hk kdk) (cwV 0 hts gX3_viewKept_X3_viewAsked rfl rfl rfl (by decide +kernel) ⟨Nat.le_of_ble_eq_true rfl, Nat.le_of_ble_eq_true rfl⟩) (cy_preV hK hI (cy_rv2 hK hI hk kdk)) rfl rfl hl.1 rfl (lv_room (Nat.le_of_ble_eq_true rfl)) dX3_viewKept_38 ⟨Nat.le_of_ble_eq_true rfl, Nat.le_of_ble_eq_true rfl⟩) ?_
      exact W.iret (v := cy_va (σ.1 1 k)) hx hb hr (fun t ht hW => ⟨congrArg (fun q => Outcome.returned (some (Value.int q))) (by simp [cy_vk, w1, w2]), ht⟩) (fun q h => by cases h) dX3_viewKept_41

set_option maxHeartbeats 4000000 in
set_option maxRecDepth 100000 in
theorem c_X2_weigh (l : Launch) (D : va_G) (cI cJ cO : ClassId) (z n : Nat) (σ τ : cy_S) (pl : Nat → Int32) (hi : Int32) (ad : Nat → Nat) (hok : cy_ok n σ) (k : Nat) (hk : k < n) (kdk : cy_kd (σ.1 1 k) = 1) (v : Int32)  : Met l yX2_weigh wsX2_weigh { frames := 0, cells := 0, slots := 0, locals := 0 } (cy_P D cI cJ cO (fun H => cy_W D z (cy_CT cI cJ cO n n σ τ pl hi ad) ad H) [.ref (ad (100 + 2 * k)), .int v]) (cy_Q (.long (cy_wt σ 3 k))) 0 0 (fun _ => False) := by
  refine Met.ofW (cc := cX2_weigh) (maxL := 2) (ret := (some .long)) (by decide) rfl ?_
  intro p e s m args below meth c s₁ B hml hv
  obtain ⟨rfl, hK, hI⟩ := hv
  have hx := B.exec
  have hb := B.bytes
  have hr := B.returns
  have hts := atoms_spec (ws := wsX2_weigh) B.pre
  have hown : s.vm.findClass RX2 = some m.cls := findClass_of_methodNamed B.named
  have hlocks := B.notSynchronized
  have hl := lv_entry ([.ref (ad (100 + 2 * k)), .int v]) (n := 2) (Nat.le_of_ble_eq_true rfl)
  rw [lg_entry_eq]
  generalize (lg_sl ([.ref (ad (100 + 2 * k)), .int v]) ++ List.replicate (2 - (lg_sl ([.ref (ad (100 + 2 * k)), .int v])).length) Slot.unset).toArray = ls at hl ⊢
  have hl : lv_has ls 2 [(0, .ref (ad (100 + 2 * k))), (1, .int v)] := hl
  have hin2 := hin2_X2_weigh
  have hn := hok.1
  obtain ⟨pk, hpk, epk⟩ := (hok.2.2.1 k hk).2.1
  refine lv_aload_n hx hb dX2_weigh_0 rfl (lv_at hl 0 rfl) ?_
  refine cy_getPt hx hb hts hin2 hown hK hI hk kdk (hts (.fieldLink RX2 9 "CustomsYard$Piece" "told" "I") (by decide +kernel)) dX2_weigh_1 ?_
  refine lv_i2l (v := (σ.1 3 k).toInt64) hx hb dX2_weigh_4 rfl ?_
  exact W.lret (v := (σ.1 3 k).toInt64) hx hb hr (fun t ht hW => ⟨congrArg (fun q => Outcome.returned (some (Value.long q))) (by rw [cy_wt_1 hok hk kdk]), ht⟩) (fun q h => by cases h) dX2_weigh_5
