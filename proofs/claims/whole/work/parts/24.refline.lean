/-- the first line from i on, of f more, whose view load k goes as -/
def cy_lf (σ : cy_S) (k : Nat) : Nat → Nat → Int32
  | 0, _ => -1
  | f + 1, i => if cy_go (σ.1 1 k) (σ.1 7 i) = true then nI i else cy_lf σ k f (i + 1)
theorem cy_lf_z (σ : cy_S) (k : Nat) (w : Int32) : ∀ f i, cy_lf (cy_i σ 0 2 w) k f i = cy_lf σ k f i
  | 0, _ => rfl
  | f + 1, i => by
    unfold cy_lf
    rw [cy_lf_z σ k w f (i + 1)]
    rfl
theorem cy_lf_cases (σ : cy_S) (k : Nat) : ∀ f i, cy_lf σ k f i = -1 ∨ ∃ j : Nat, i ≤ j ∧ j < i + f ∧ cy_lf σ k f i = nI j
  | 0, _ => Or.inl rfl
  | f + 1, i => by
    unfold cy_lf
    by_cases h : cy_go (σ.1 1 k) (σ.1 7 i) = true
    · rw [if_pos h]
      exact Or.inr ⟨i, Nat.le_refl _, by omega, rfl⟩
    · rw [if_neg h]
      rcases cy_lf_cases σ k f (i + 1) with h1 | ⟨j, h1, h2, h3⟩
      · exact Or.inl h1
      · exact Or.inr ⟨j, by omega, by omega, h3⟩
def cy_li (σ : cy_S) (k : Nat) : Int32 := cy_lf σ k (σ.1 0 1).toNatClampNeg 0
theorem cy_li_z (σ : cy_S) (k : Nat) (w : Int32) : cy_li (cy_i σ 0 2 w) k = cy_li σ k := cy_lf_z σ k w _ _
def cy_oLine (n : Nat) (σ : cy_S) (l : Int32) : Int32 × cy_S := if cy_ld n l = false then (-2, cy_no (cy_z σ) (-2)) else (cy_li σ l.toNatClampNeg, cy_z σ)
def cy_oDuty (n : Nat) (σ : cy_S) (l : Int32) : Int32 × cy_S := if cy_ld n l = false then (0, cy_no (cy_z σ) (-2)) else if cy_li σ l.toNatClampNeg = -1 then (0, cy_z σ) else (σ.1 8 (cy_li σ l.toNatClampNeg).toNatClampNeg * cy_co σ l.toNatClampNeg (σ.1 7 (cy_li σ l.toNatClampNeg).toNatClampNeg), cy_z σ)
theorem hin5_X5_lineOf : ∀ w ∈ u_ws RX5 TX5 19, w ∈ wsX5_lineOf := by decide +kernel
theorem hin5_X5_line : ∀ w ∈ u_ws RX5 TX5 19, w ∈ wsX5_line := by decide +kernel
theorem hin5_X5_duty : ∀ w ∈ u_ws RX5 TX5 19, w ∈ wsX5_duty := by decide +kernel
set_option maxHeartbeats 4000000 in
set_option maxRecDepth 100000 in
theorem c_X5_lineOf (l : Launch) (D : va_G) (cI cJ cO : ClassId) (z n na : Nat) (σ τ : cy_S) (pl : Nat → Int32) (hi : Int32) (ad : Nat → Nat) (nt : Nat) (hok : cy_ok nt τ) (k : Nat) (hk : k < 80) : Met l yX5_lineOf wsX5_lineOf { frames := 1, cells := 0, slots := 0, locals := 21 } (cy_P D cI cJ cO (fun H => cy_W D z (cy_CT cI cJ cO n na σ τ pl hi ad) ad H) [.ref (ad 20), .int (nI k)]) (cy_Q (.int (cy_li τ k))) 0 0 (fun _ => False) := by
  refine Met.ofW (cc := cX5_lineOf) (maxL := 3) (ret := (some .int)) (by decide) rfl ?_
  intro p e s m args below meth c s₁ B hml hv
  obtain ⟨rfl, hK, hI⟩ := hv
  have hx := B.exec
  have hb := B.bytes
  have hr := B.returns
  have hts := atoms_spec (ws := wsX5_lineOf) B.pre
  have hown : s.vm.findClass RX5 = some m.cls := findClass_of_methodNamed B.named
  have hlocks := B.notSynchronized
  have hl := lv_entry ([.ref (ad 20), .int (nI k)]) (n := 3) (Nat.le_of_ble_eq_true rfl)
  rw [lg_entry_eq]
  generalize (lg_sl ([.ref (ad 20), .int (nI k)]) ++ List.replicate (3 - (lg_sl ([.ref (ad 20), .int (nI k)])).length) Slot.unset).toArray = ls at hl ⊢
  have hl : lv_has ls 3 [(0, .ref (ad 20)), (1, .int (nI k))] := hl
  have hin5 := hin5_X5_lineOf
  obtain ⟨q, hq, eq⟩ := hok.2.2.2.2
  refine lv_iconst (v := 0) hx hb dX5_lineOf_0 (by decide) ?_
  refine lv_istore_n (lv' := [(2, .int 0), (0, .ref (ad 20)), (1, .int (nI k))]) hx hb dX5_lineOf_1 rfl hl (by decide) rfl (fun ls hl => ?_)
  have loop : ∀ (f i : Nat) (ls : Array Slot), i + f = q → lv_has ls 3 [(2, .int (nI i)), (0, .ref (ad 20)), (1, .int (nI k))] → cy_li τ k = cy_lf τ k f i → W p l e (headSpec wsX5_lineOf { frames := 1, cells := 0, slots := 0, locals := 21 }).room s m #[Value.ref (ad 20), Value.int (nI k)] below meth c s.heap [] 0 0 (MQ below (cy_Q (.int (cy_li τ k))) #[Value.ref (ad 20), Value.int (nI k)] s 0 0 (fun _ => False)) (F0 m 2 ls []) := by
    intro f
    induction f with
    | zero =>
      intro i ls hif hl hE
      obtain rfl : i = q := by omega
      refine lv_iload_n hx hb dX5_lineOf_2 rfl (lv_at hl 0 rfl) ?_
      refine lv_aload_n hx hb dX5_lineOf_3 rfl (lv_at hl 1 rfl) ?_
      refine cy_getT (v := .int (τ.1 0 1)) hx hb hts hin5 hown hK hI 9 (by decide) (hts (.fieldLink RX5 122 "CustomsYardModel" "lines" "I") (by decide +kernel)) rfl dX5_lineOf_4 ?_
      refine cy_topi (y := nI i) (eq) ?_
      refine lv_icmp_ge (tgt := 34) hx hb dX5_lineOf_7 (by decide) (fun h1 => ?_) (fun h1 => absurd (nI_le (Nat.le_refl _) (by omega)) h1)
      refine lv_iload_n hx hb dX5_lineOf_34 rfl (lv_at hl 0 rfl) ?_
      refine lv_aload_n hx hb dX5_lineOf_35 rfl (lv_at hl 1 rfl) ?_
      refine cy_getT (v := .int (τ.1 0 1)) hx hb hts hin5 hown hK hI 9 (by decide) (hts (.fieldLink RX5 122 "CustomsYardModel" "lines" "I") (by decide +kernel)) rfl dX5_lineOf_36 ?_
      refine cy_topi (y := nI i) (eq) ?_
      refine lv_icmp_ge (tgt := 46) hx hb dX5_lineOf_39 (by decide) (fun h2 => ?_) (fun h2 => absurd (nI_le (Nat.le_refl _) (by omega)) h2)
      refine lv_iconst (v := -1) hx hb dX5_lineOf_46 (by decide) ?_
      exact W.iret (v := (-1)) hx hb hr (fun t ht hW => ⟨congrArg (fun q => Outcome.returned (some (Value.int q))) (by rw [hE]; rfl), ht⟩) (fun q h => by cases h) dX5_lineOf_47
    | succ f ih =>
      intro i ls hif hl hE
      refine lv_iload_n hx hb dX5_lineOf_2 rfl (lv_at hl 0 rfl) ?_
      refine lv_aload_n hx hb dX5_lineOf_3 rfl (lv_at hl 1 rfl) ?_
      refine cy_getT (v := .int (τ.1 0 1)) hx hb hts hin5 hown hK hI 9 (by decide) (hts (.fieldLink RX5 122 "CustomsYardModel" "lines" "I") (by decide +kernel)) rfl dX5_lineOf_4 ?_
      refine cy_topi (y := nI q) (eq) ?_
      refine lv_icmp_ge (tgt := 34) hx hb dX5_lineOf_7 (by decide) (fun h3 => absurd h3 (nI_ge (by omega) (by omega))) (fun h3 => ?_)
      refine lv_aload_n hx hb dX5_lineOf_10 rfl (lv_at hl 1 rfl) ?_
      refine cy_getT (v := .ref (ad 21)) hx hb hts hin5 hown hK hI 1 (by decide) (hts (.fieldLink RX5 7 "CustomsYardModel" "sorts" "[I") (by decide +kernel)) rfl dX5_lineOf_11 ?_
      refine lv_iload_n hx hb dX5_lineOf_14 rfl (lv_at hl 2 rfl) ?_
      refine cy_iald (f := τ.1 1) (k := k) hx hb hK.1 hI 0 (x := 21) rfl rfl (by omega) (by decide) dX5_lineOf_15 ?_
      refine lv_aload_n hx hb dX5_lineOf_16 rfl (lv_at hl 1 rfl) ?_
      refine cy_getT (v := .ref (ad 29)) hx hb hts hin5 hown hK hI 10 (by decide) (hts (.fieldLink RX5 35 "CustomsYardModel" "views" "[I") (by decide +kernel)) rfl dX5_lineOf_17 ?_
      refine lv_iload_n hx hb dX5_lineOf_20 rfl (lv_at hl 0 rfl) ?_
      refine cy_iald (f := τ.1 7) (k := i) hx hb hK.1 hI 0 (x := 29) rfl rfl (by omega) (by decide) dX5_lineOf_21 ?_
      refine cy_callp (v := .int (cy_b (cy_go (τ.1 1 k) (τ.1 7 i)))) (va_runS (As := [.int (τ.1 1 k), .int (τ.1 7 i)]) (rest := []) ⟨hx, hb, hml, hown, hts⟩ (c_X5_goes l (τ.1 1 k) (τ.1 7 i)) (va_cwS 2 hts gX5_lineOf_X5_goes rfl rfl rfl (by decide +kernel) ⟨Nat.le_of_ble_eq_true rfl, Nat.le_of_ble_eq_true rfl⟩) preEq rfl rfl hl.1 rfl (lv_room (Nat.le_of_ble_eq_true rfl)) dX5_lineOf_22 ⟨Nat.le_of_ble_eq_true rfl, Nat.le_of_ble_eq_true rfl⟩) ?_
      cases b4 : (cy_go (τ.1 1 k) (τ.1 7 i))
      · refine lv_if_ne (tgt := 34) hx hb dX5_lineOf_25 (by decide) (fun h5 => absurd (by decide) h5) (fun h5 => ?_)
        refine lv_iinc (v := nI (i + 1)) (lv' := [(2, .int (nI (i + 1))), (0, .ref (ad 20)), (1, .int (nI k))]) hx hb dX5_lineOf_28 hl (k := 0) rfl (nI_1 _) (by decide) rfl (fun ls hl => ?_)
        refine lv_goto (tgt := 2) hx hb dX5_lineOf_31 (by decide) ?_
        exact ih (i + 1) ls (by omega) (lv_sub hl [0, 1, 2] rfl) (by rw [hE]; show (if _ then _ else _) = _; rw [if_neg (by rw [b4]; decide)])
      · refine lv_if_ne (tgt := 34) hx hb dX5_lineOf_25 (by decide) (fun h6 => ?_) (fun h6 => absurd h6 (by decide))
        refine lv_iload_n hx hb dX5_lineOf_34 rfl (lv_at hl 0 rfl) ?_
        refine lv_aload_n hx hb dX5_lineOf_35 rfl (lv_at hl 1 rfl) ?_
        refine cy_getT (v := .int (τ.1 0 1)) hx hb hts hin5 hown hK hI 9 (by decide) (hts (.fieldLink RX5 122 "CustomsYardModel" "lines" "I") (by decide +kernel)) rfl dX5_lineOf_36 ?_
        refine cy_topi (y := nI q) (eq) ?_
        refine lv_icmp_ge (tgt := 46) hx hb dX5_lineOf_39 (by decide) (fun h7 => absurd h7 (nI_ge (by omega) (by omega))) (fun h7 => ?_)
        refine lv_iload_n hx hb dX5_lineOf_42 rfl (lv_at hl 0 rfl) ?_
        refine lv_goto (tgt := 47) hx hb dX5_lineOf_43 (by decide) ?_
        exact W.iret (v := nI i) hx hb hr (fun t ht hW => ⟨congrArg (fun q => Outcome.returned (some (Value.int q))) (by rw [hE]; show (nI i) = (if _ then _ else _); rw [if_pos b4]), ht⟩) (fun q h => by cases h) dX5_lineOf_47
  exact loop q 0 ls (by omega) hl (by unfold cy_li; rw [eq, nI_clamp (by omega)])

set_option maxHeartbeats 4000000 in
set_option maxRecDepth 100000 in
theorem c_X5_line (l : Launch) (D : va_G) (cI cJ cO : ClassId) (z n na : Nat) (σ τ : cy_S) (pl : Nat → Int32) (hi : Int32) (ad : Nat → Nat) (nt : Nat) (hok : cy_ok nt τ) (x : Int32)  : Met l yX5_line wsX5_line { frames := 2, cells := 0, slots := 0, locals := 43 } (cy_P D cI cJ cO (fun H => cy_W D z (cy_CT cI cJ cO n na σ τ pl hi ad) ad H) [.ref (ad 20), .int x]) (cy_M (S := Unit) z (fun _ => some (.int (cy_oLine nt τ x).1)) (fun _ H => cy_W D z (cy_CT cI cJ cO n na σ (cy_oLine nt τ x).2 pl hi ad) ad H)) 0 0 (fun q => z ≤ q) := by
  refine Met.ofW (cc := cX5_line) (maxL := 2) (ret := (some .int)) (by decide) rfl ?_
  intro p e s m args below meth c s₁ B hml hv
  obtain ⟨rfl, hK, hI⟩ := hv
  have hx := B.exec
  have hb := B.bytes
  have hr := B.returns
  have hts := atoms_spec (ws := wsX5_line) B.pre
  have hown : s.vm.findClass RX5 = some m.cls := findClass_of_methodNamed B.named
  have hlocks := B.notSynchronized
  have hS : va_S (fun q => z ≤ q) s.heap s.heap [] := va_S.rf
  have hl := lv_entry ([.ref (ad 20), .int x]) (n := 2) (Nat.le_of_ble_eq_true rfl)
  rw [lg_entry_eq]
  generalize (lg_sl ([.ref (ad 20), .int x]) ++ List.replicate (2 - (lg_sl ([.ref (ad 20), .int x])).length) Slot.unset).toArray = ls at hl ⊢
  have hl : lv_has ls 2 [(0, .ref (ad 20)), (1, .int x)] := hl
  have hin5 := hin5_X5_line
  have h0 := hok.2.1
  have hn := hok.1
  refine lv_aload_n hx hb dX5_line_0 rfl (lv_at hl 0 rfl) ?_
  refine lv_iconst (v := 0) hx hb dX5_line_1 (by decide) ?_
  refine cy_putT (v := 0) hx hb hts hin5 hown hK hI hS 12 2 (by decide) (hts (.fieldLink RX5 52 "CustomsYardModel" "refused" "I") (by decide +kernel)) rfl (by decide +kernel) rfl dX5_line_2 (fun H locs hI hS => ?_)
  refine lv_aload_n hx hb dX5_line_5 rfl (lv_at hl 0 rfl) ?_
  refine lv_iload_n hx hb dX5_line_6 rfl (lv_at hl 1 rfl) ?_
  refine cy_callp (v := .int (cy_b (cy_ld nt x))) (va_runV (As := [.int x]) (rest := []) ⟨hx, hb, hml, hown, hts⟩ (c_X5_isLoad l D cI cJ cO z n na σ (cy_i τ 0 2 0) pl hi ad nt h0 x) (cwV 1 hts gX5_line_X5_isLoad rfl rfl rfl (by decide +kernel) ⟨Nat.le_of_ble_eq_true rfl, Nat.le_of_ble_eq_true rfl⟩) (cy_preV hK hI (cy_recv hK (hI.1 20 _ cy_CR).1 rfl)) rfl rfl hl.1 rfl (lv_room (Nat.le_of_ble_eq_true rfl)) dX5_line_7 ⟨Nat.le_of_ble_eq_true rfl, Nat.le_of_ble_eq_true rfl⟩) ?_
  cases b1 : (cy_ld nt x)
  · refine lv_if_eq (tgt := 21) hx hb dX5_line_10 (by decide) (fun h2 => ?_) (fun h2 => absurd (by decide) h2)
    refine lv_aload_n hx hb dX5_line_21 rfl (lv_at hl 0 rfl) ?_
    refine lv_bipush (v := -2) hx hb dX5_line_22 (by decide) ?_
    refine cy_callm (va_runV (As := [.int (-2)]) (rest := []) ⟨hx, hb, hml, hown, hts⟩ (c_X5_no l D cI cJ cO z n na σ (cy_i τ 0 2 0) pl hi ad (-2)) (cwV 1 hts gX5_line_X5_no rfl rfl rfl (by decide +kernel) ⟨Nat.le_of_ble_eq_true rfl, Nat.le_of_ble_eq_true rfl⟩) (cy_preV hK hI (cy_recv hK (hI.1 20 _ cy_CR).1 rfl)) rfl rfl hl.1 rfl (lv_room (Nat.le_of_ble_eq_true rfl)) dX5_line_24 ⟨Nat.le_of_ble_eq_true rfl, Nat.le_of_ble_eq_true rfl⟩) hS (fun u H locs hI hz hS => ?_)
    have hI : cy_W D z (cy_CT cI cJ cO n na σ (cy_no (cy_i τ 0 2 0) (-2)) pl hi ad) ad H := hI
    refine W.eq (g2 := F0 m 27 ls [.int (-2)]) rfl ?_
    have E : cy_oLine nt τ x = ((-2), cy_no (cy_i τ 0 2 0) (-2)) := by simp [cy_oLine, cy_z, cy_li_z, b1]
    rw [E]
    exact W.iret (v := (-2)) hx hb hr (fun t ht hW => ⟨(), rfl, by rw [ht]; exact hI, hS.F ht⟩) hS.2.2 dX5_line_27
  · obtain ⟨kx, hkx, rfl⟩ := (cy_ld_iff hn _).mp b1
    refine lv_if_eq (tgt := 21) hx hb dX5_line_10 (by decide) (fun h3 => absurd h3 (by decide)) (fun h3 => ?_)
    refine lv_aload_n hx hb dX5_line_13 rfl (lv_at hl 0 rfl) ?_
    refine lv_iload_n hx hb dX5_line_14 rfl (lv_at hl 1 rfl) ?_
    refine cy_callp (v := .int (cy_li (cy_i τ 0 2 0) kx)) (va_runV (As := [.int (nI kx)]) (rest := []) ⟨hx, hb, hml, hown, hts⟩ (c_X5_lineOf l D cI cJ cO z n na σ (cy_i τ 0 2 0) pl hi ad nt hok kx (by omega)) (cwV 1 hts gX5_line_X5_lineOf rfl rfl rfl (by decide +kernel) ⟨Nat.le_of_ble_eq_true rfl, Nat.le_of_ble_eq_true rfl⟩) (cy_preV hK hI (cy_recv hK (hI.1 20 _ cy_CR).1 rfl)) rfl rfl hl.1 rfl (lv_room (Nat.le_of_ble_eq_true rfl)) dX5_line_15 ⟨Nat.le_of_ble_eq_true rfl, Nat.le_of_ble_eq_true rfl⟩) ?_
    refine lv_goto (tgt := 27) hx hb dX5_line_18 (by decide) ?_
    have E : cy_oLine nt τ (nI kx) = (cy_li (cy_i τ 0 2 0) kx, cy_i τ 0 2 0) := by simp [cy_oLine, cy_z, cy_li_z, nI_clamp (show kx < 2 ^ 31 by omega), b1]
    rw [E]
    exact W.iret (v := cy_li (cy_i τ 0 2 0) kx) hx hb hr (fun t ht hW => ⟨(), rfl, by rw [ht]; exact hI, hS.F ht⟩) hS.2.2 dX5_line_27

set_option maxHeartbeats 4000000 in
set_option maxRecDepth 100000 in
theorem c_X5_duty (l : Launch) (D : va_G) (cI cJ cO : ClassId) (z n na : Nat) (σ τ : cy_S) (pl : Nat → Int32) (hi : Int32) (ad : Nat → Nat) (nt : Nat) (hok : cy_ok nt τ) (x : Int32)  : Met l yX5_duty wsX5_duty { frames := 3, cells := 0, slots := 0, locals := 64 } (cy_P D cI cJ cO (fun H => cy_W D z (cy_CT cI cJ cO n na σ τ pl hi ad) ad H) [.ref (ad 20), .int x]) (cy_M (S := Unit) z (fun _ => some (.int (cy_oDuty nt τ x).1)) (fun _ H => cy_W D z (cy_CT cI cJ cO n na σ (cy_oDuty nt τ x).2 pl hi ad) ad H)) 0 0 (fun q => z ≤ q) := by
  refine Met.ofW (cc := cX5_duty) (maxL := 3) (ret := (some .int)) (by decide) rfl ?_
  intro p e s m args below meth c s₁ B hml hv
  obtain ⟨rfl, hK, hI⟩ := hv
  have hx := B.exec
  have hb := B.bytes
  have hr := B.returns
  have hts := atoms_spec (ws := wsX5_duty) B.pre
  have hown : s.vm.findClass RX5 = some m.cls := findClass_of_methodNamed B.named
  have hlocks := B.notSynchronized
  have hS : va_S (fun q => z ≤ q) s.heap s.heap [] := va_S.rf
  have hl := lv_entry ([.ref (ad 20), .int x]) (n := 3) (Nat.le_of_ble_eq_true rfl)
  rw [lg_entry_eq]
  generalize (lg_sl ([.ref (ad 20), .int x]) ++ List.replicate (3 - (lg_sl ([.ref (ad 20), .int x])).length) Slot.unset).toArray = ls at hl ⊢
  have hl : lv_has ls 3 [(0, .ref (ad 20)), (1, .int x)] := hl
  have hin5 := hin5_X5_duty
  have h0 := hok.2.1
  have hn := hok.1
  obtain ⟨q, hq, eq⟩ := hok.2.2.2.2
  refine lv_aload_n hx hb dX5_duty_0 rfl (lv_at hl 0 rfl) ?_
  refine lv_aload_n hx hb dX5_duty_1 rfl (lv_at hl 0 rfl) ?_
  refine lv_iload_n hx hb dX5_duty_2 rfl (lv_at hl 1 rfl) ?_
  refine cy_callp (v := .int (cy_b (cy_ld nt x))) (va_runV (As := [.int x]) (rest := [.ref (ad 20)]) ⟨hx, hb, hml, hown, hts⟩ (c_X5_isLoad l D cI cJ cO z n na σ τ pl hi ad nt h0 x) (cwV 1 hts gX5_duty_X5_isLoad rfl rfl rfl (by decide +kernel) ⟨Nat.le_of_ble_eq_true rfl, Nat.le_of_ble_eq_true rfl⟩) (cy_preV hK hI (cy_recv hK (hI.1 20 _ cy_CR).1 rfl)) rfl rfl hl.1 rfl (lv_room (Nat.le_of_ble_eq_true rfl)) dX5_duty_3 ⟨Nat.le_of_ble_eq_true rfl, Nat.le_of_ble_eq_true rfl⟩) ?_
  cases b1 : (cy_ld nt x)
  · refine lv_if_eq (tgt := 13) hx hb dX5_duty_6 (by decide) (fun h2 => ?_) (fun h2 => absurd (by decide) h2)
    refine lv_bipush (v := -2) hx hb dX5_duty_13 (by decide) ?_
    refine cy_putT (v := (-2)) hx hb hts hin5 hown hK hI hS 12 2 (by decide) (hts (.fieldLink RX5 52 "CustomsYardModel" "refused" "I") (by decide +kernel)) rfl (by decide +kernel) rfl dX5_duty_15 (fun H locs hI hS => ?_)
    refine lv_aload_n hx hb dX5_duty_18 rfl (lv_at hl 0 rfl) ?_
    refine cy_getT (v := .int (-2)) hx hb hts hin5 hown hK hI 12 (by decide) (hts (.fieldLink RX5 52 "CustomsYardModel" "refused" "I") (by decide +kernel)) rfl dX5_duty_19 ?_
    refine lv_if_ne (tgt := 33) hx hb dX5_duty_22 (by decide) (fun h3 => ?_) (fun h3 => absurd h3 (by decide))
    refine lv_iconst (v := -1) hx hb dX5_duty_33 (by decide) ?_
    refine lv_istore_n (lv' := [(2, .int (-1)), (0, .ref (ad 20)), (1, .int x)]) hx hb dX5_duty_34 rfl hl (by decide) rfl (fun ls hl => ?_)
    refine lv_iload_n hx hb dX5_duty_35 rfl (lv_at hl 0 rfl) ?_
    refine lv_iconst (v := -1) hx hb dX5_duty_36 (by decide) ?_
    refine lv_icmp_ne (tgt := 44) hx hb dX5_duty_37 (by decide) (fun h4 => absurd (by decide) h4) (fun h4 => ?_)
    refine lv_iconst (v := 0) hx hb dX5_duty_40 (by decide) ?_
    refine lv_goto (tgt := 62) hx hb dX5_duty_41 (by decide) ?_
    have E : cy_oDuty nt τ x = (0, cy_i τ 0 2 (-2)) := by simp [cy_oDuty, cy_z, cy_nb2, cy_co_z, b1]
    rw [E]
    exact W.iret (v := 0) hx hb hr (fun t ht hW => ⟨(), rfl, by rw [ht]; exact hI, hS.F ht⟩) hS.2.2 dX5_duty_62
  · obtain ⟨kx, hkx, rfl⟩ := (cy_ld_iff hn _).mp b1
    refine lv_if_eq (tgt := 13) hx hb dX5_duty_6 (by decide) (fun h5 => absurd h5 (by decide)) (fun h5 => ?_)
    refine lv_iconst (v := 0) hx hb dX5_duty_9 (by decide) ?_
    refine lv_goto (tgt := 15) hx hb dX5_duty_10 (by decide) ?_
    refine cy_putT (v := 0) hx hb hts hin5 hown hK hI hS 12 2 (by decide) (hts (.fieldLink RX5 52 "CustomsYardModel" "refused" "I") (by decide +kernel)) rfl (by decide +kernel) rfl dX5_duty_15 (fun H locs hI hS => ?_)
    refine lv_aload_n hx hb dX5_duty_18 rfl (lv_at hl 0 rfl) ?_
    refine cy_getT (v := .int 0) hx hb hts hin5 hown hK hI 12 (by decide) (hts (.fieldLink RX5 52 "CustomsYardModel" "refused" "I") (by decide +kernel)) rfl dX5_duty_19 ?_
    refine lv_if_ne (tgt := 33) hx hb dX5_duty_22 (by decide) (fun h6 => absurd (by decide) h6) (fun h6 => ?_)
    refine lv_aload_n hx hb dX5_duty_25 rfl (lv_at hl 0 rfl) ?_
    refine lv_iload_n hx hb dX5_duty_26 rfl (lv_at hl 1 rfl) ?_
    refine cy_callp (v := .int (cy_li (cy_i τ 0 2 0) kx)) (va_runV (As := [.int (nI kx)]) (rest := []) ⟨hx, hb, hml, hown, hts⟩ (c_X5_lineOf l D cI cJ cO z n na σ (cy_i τ 0 2 0) pl hi ad nt hok kx (by omega)) (cwV 1 hts gX5_duty_X5_lineOf rfl rfl rfl (by decide +kernel) ⟨Nat.le_of_ble_eq_true rfl, Nat.le_of_ble_eq_true rfl⟩) (cy_preV hK hI (cy_recv hK (hI.1 20 _ cy_CR).1 rfl)) rfl rfl hl.1 rfl (lv_room (Nat.le_of_ble_eq_true rfl)) dX5_duty_27 ⟨Nat.le_of_ble_eq_true rfl, Nat.le_of_ble_eq_true rfl⟩) ?_
    refine cy_topi (y := cy_li τ kx) (cy_li_z τ kx 0) ?_
    rcases cy_lf_cases τ kx q 0 with e7 | ⟨t0, -, ht0, e7⟩
    · have e7 : cy_li τ kx = -1 := by unfold cy_li; rw [eq, nI_clamp (by omega)]; exact e7
      refine cy_topi e7 ?_
      refine lv_goto (tgt := 34) hx hb dX5_duty_30 (by decide) ?_
      refine lv_istore_n (lv' := [(2, .int (-1)), (0, .ref (ad 20)), (1, .int (nI kx))]) hx hb dX5_duty_34 rfl hl (by decide) rfl (fun ls hl => ?_)
      refine lv_iload_n hx hb dX5_duty_35 rfl (lv_at hl 0 rfl) ?_
      refine lv_iconst (v := -1) hx hb dX5_duty_36 (by decide) ?_
      refine lv_icmp_ne (tgt := 44) hx hb dX5_duty_37 (by decide) (fun h8 => absurd (by decide) h8) (fun h8 => ?_)
      refine lv_iconst (v := 0) hx hb dX5_duty_40 (by decide) ?_
      refine lv_goto (tgt := 62) hx hb dX5_duty_41 (by decide) ?_
      have E : cy_oDuty nt τ (nI kx) = (0, cy_i τ 0 2 0) := by first | (simp [cy_oDuty, cy_z, cy_nb2, cy_co_z, nI_clamp (show kx < 2 ^ 31 by omega), b1]; done) | (simp [cy_oDuty, cy_z, cy_nb2, cy_co_z, nI_clamp (show kx < 2 ^ 31 by omega), b1]; simp [e7]; done) | (simp [cy_oDuty, cy_z, cy_nb2, cy_co_z, nI_clamp (show kx < 2 ^ 31 by omega), b1, e7]; done)
      rw [E]
      exact W.iret (v := 0) hx hb hr (fun t ht hW => ⟨(), rfl, by rw [ht]; exact hI, hS.F ht⟩) hS.2.2 dX5_duty_62
    · have e7 : cy_li τ kx = nI t0 := by unfold cy_li; rw [eq, nI_clamp (by omega)]; exact e7
      have ne0 := cy_ne1 (show t0 < 2 ^ 31 by omega)
      refine cy_topi e7 ?_
      refine lv_goto (tgt := 34) hx hb dX5_duty_30 (by decide) ?_
      refine lv_istore_n (lv' := [(2, .int (nI t0)), (0, .ref (ad 20)), (1, .int (nI kx))]) hx hb dX5_duty_34 rfl hl (by decide) rfl (fun ls hl => ?_)
      refine lv_iload_n hx hb dX5_duty_35 rfl (lv_at hl 0 rfl) ?_
      refine lv_iconst (v := -1) hx hb dX5_duty_36 (by decide) ?_
      refine lv_icmp_ne (tgt := 44) hx hb dX5_duty_37 (by decide) (fun h9 => ?_) (fun h9 => absurd h9 (ne0))
      refine lv_aload_n hx hb dX5_duty_44 rfl (lv_at hl 1 rfl) ?_
      refine cy_getT (v := .ref (ad 30)) hx hb hts hin5 hown hK hI 11 (by decide) (hts (.fieldLink RX5 38 "CustomsYardModel" "rates" "[I") (by decide +kernel)) rfl dX5_duty_45 ?_
      refine lv_iload_n hx hb dX5_duty_48 rfl (lv_at hl 0 rfl) ?_
      refine cy_iald (f := τ.1 8) (k := t0) hx hb hK.1 hI 0 (x := 30) rfl rfl (by omega) (by decide) dX5_duty_49 ?_
      refine lv_aload_n hx hb dX5_duty_50 rfl (lv_at hl 1 rfl) ?_
      refine lv_iload_n hx hb dX5_duty_51 rfl (lv_at hl 2 rfl) ?_
      refine lv_aload_n hx hb dX5_duty_52 rfl (lv_at hl 1 rfl) ?_
      refine cy_getT (v := .ref (ad 29)) hx hb hts hin5 hown hK hI 10 (by decide) (hts (.fieldLink RX5 35 "CustomsYardModel" "views" "[I") (by decide +kernel)) rfl dX5_duty_53 ?_
      refine lv_iload_n hx hb dX5_duty_56 rfl (lv_at hl 0 rfl) ?_
      refine cy_iald (f := τ.1 7) (k := t0) hx hb hK.1 hI 0 (x := 29) rfl rfl (by omega) (by decide) dX5_duty_57 ?_
      refine cy_callp (v := .int (cy_co (cy_i τ 0 2 0) kx (τ.1 7 t0))) (va_runV (As := [.int (nI kx), .int (τ.1 7 t0)]) (rest := [.int (τ.1 8 t0)]) ⟨hx, hb, hml, hown, hts⟩ (c_X5_comes l D cI cJ cO z n na σ (cy_i τ 0 2 0) pl hi ad kx (by omega) (τ.1 7 t0)) (cwV 2 hts gX5_duty_X5_comes rfl rfl rfl (by decide +kernel) ⟨Nat.le_of_ble_eq_true rfl, Nat.le_of_ble_eq_true rfl⟩) (cy_preV hK hI (cy_recv hK (hI.1 20 _ cy_CR).1 rfl)) rfl rfl hl.1 rfl (lv_room (Nat.le_of_ble_eq_true rfl)) dX5_duty_58 ⟨Nat.le_of_ble_eq_true rfl, Nat.le_of_ble_eq_true rfl⟩) ?_
      refine lv_imul hx hb dX5_duty_61 ?_
      have E : cy_oDuty nt τ (nI kx) = (((τ.1 8 t0) * (cy_co (cy_i τ 0 2 0) kx (τ.1 7 t0))), cy_i τ 0 2 0) := by first | (simp [cy_oDuty, cy_z, cy_nb2, cy_co_z, nI_clamp (show kx < 2 ^ 31 by omega), nI_clamp (show t0 < 2 ^ 31 by omega), b1]; done) | (simp [cy_oDuty, cy_z, cy_nb2, cy_co_z, nI_clamp (show kx < 2 ^ 31 by omega), nI_clamp (show t0 < 2 ^ 31 by omega), b1]; simp [e7, ne0]; done) | (simp [cy_oDuty, cy_z, cy_nb2, cy_co_z, nI_clamp (show kx < 2 ^ 31 by omega), nI_clamp (show t0 < 2 ^ 31 by omega), b1, e7, ne0]; done)
      rw [E]
      exact W.iret (v := ((τ.1 8 t0) * (cy_co (cy_i τ 0 2 0) kx (τ.1 7 t0)))) hx hb hr (fun t ht hW => ⟨(), rfl, by rw [ht]; exact hI, hS.F ht⟩) hS.2.2 dX5_duty_62
