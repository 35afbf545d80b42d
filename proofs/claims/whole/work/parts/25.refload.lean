theorem cy_lt80 {q : Nat} (h : q ≤ 80) (h1 : ¬ nI q = 80) : q < 80 := by
  rcases Nat.lt_or_ge q 80 with h2 | h2
  · exact h2
  · exact absurd (show nI q = 80 by rw [show q = 80 by omega]; rfl) h1
/-- the places of load n, empty -/
def cy_clr (σ : cy_S) (n : Nat) : Nat → cy_S
  | 0 => σ
  | k + 1 => cy_i (cy_l (cy_clr σ n k) 0 (6 * n + k) 0) 4 (6 * n + k) (-1)
/-- load n, new -/
def cy_ldw (n : Nat) (σ : cy_S) (s q : Int32) : cy_S := cy_i (cy_clr (cy_i (cy_i (cy_i σ 1 n s) 2 n (if cy_sg s = true then 0 else q)) 3 n (if cy_sg s = true then q else 0)) n 6) 0 0 (nI (n + 1))
def cy_oLoad (n : Nat) (σ : cy_S) (s q : Int32) : Int32 × cy_S := if cy_isIn s 0 12 = false ∨ cy_isIn q 0 (if cy_sg s = true then 1000 else 6) = false then (-2, cy_no (cy_z σ) (-2)) else if n = 80 then (-3, cy_no (cy_z σ) (-3)) else (nI n, cy_ldw n (cy_z σ) s q)
theorem hin5_X5_load : ∀ w ∈ u_ws RX5 TX5 19, w ∈ wsX5_load := by decide +kernel
set_option maxHeartbeats 4000000 in
set_option maxRecDepth 100000 in
theorem c_X5_load (l : Launch) (D : va_G) (cI cJ cO : ClassId) (z n na : Nat) (σ τ : cy_S) (pl : Nat → Int32) (hi : Int32) (ad : Nat → Nat) (nt : Nat) (hok : cy_ok nt τ) (x q : Int32)  : Met l yX5_load wsX5_load { frames := 2, cells := 0, slots := 0, locals := 42 } (cy_P D cI cJ cO (fun H => cy_W D z (cy_CT cI cJ cO n na σ τ pl hi ad) ad H) [.ref (ad 20), .int x, .int q]) (cy_M (S := Unit) z (fun _ => some (.int (cy_oLoad nt τ x q).1)) (fun _ H => cy_W D z (cy_CT cI cJ cO n na σ (cy_oLoad nt τ x q).2 pl hi ad) ad H)) 0 0 (fun q => z ≤ q) := by
  refine Met.ofW (cc := cX5_load) (maxL := 4) (ret := (some .int)) (by decide) rfl ?_
  intro p e s m args below meth c s₁ B hml hv
  obtain ⟨rfl, hK, hI⟩ := hv
  have hx := B.exec
  have hb := B.bytes
  have hr := B.returns
  have hts := atoms_spec (ws := wsX5_load) B.pre
  have hown : s.vm.findClass RX5 = some m.cls := findClass_of_methodNamed B.named
  have hlocks := B.notSynchronized
  have hS : va_S (fun q => z ≤ q) s.heap s.heap [] := va_S.rf
  have hl := lv_entry ([.ref (ad 20), .int x, .int q]) (n := 4) (Nat.le_of_ble_eq_true rfl)
  rw [lg_entry_eq]
  generalize (lg_sl ([.ref (ad 20), .int x, .int q]) ++ List.replicate (4 - (lg_sl ([.ref (ad 20), .int x, .int q])).length) Slot.unset).toArray = ls at hl ⊢
  have hl : lv_has ls 4 [(0, .ref (ad 20)), (1, .int x), (2, .int q)] := hl
  have hin5 := hin5_X5_load
  have h0 := hok.2.1
  have hn := hok.1
  refine lv_aload_n hx hb dX5_load_0 rfl (lv_at hl 0 rfl) ?_
  refine lv_iconst (v := 0) hx hb dX5_load_1 (by decide) ?_
  refine cy_putT (v := 0) hx hb hts hin5 hown hK hI hS 12 2 (by decide) (hts (.fieldLink RX5 52 "CustomsYardModel" "refused" "I") (by decide +kernel)) rfl (by decide +kernel) rfl dX5_load_2 (fun H locs hI hS => ?_)
  refine lv_iload_n hx hb dX5_load_5 rfl (lv_at hl 1 rfl) ?_
  refine lv_iconst (v := 0) hx hb dX5_load_6 (by decide) ?_
  refine lv_bipush (v := 12) hx hb dX5_load_7 (by decide) ?_
  refine cy_callp (v := .int (cy_b (cy_isIn x 0 12))) (va_runS (As := [.int x, .int 0, .int 12]) (rest := []) ⟨hx, hb, hml, hown, hts⟩ (c_X5_isIn l x 0 12) (va_cwS 3 hts gX5_load_X5_isIn rfl rfl rfl (by decide +kernel) ⟨Nat.le_of_ble_eq_true rfl, Nat.le_of_ble_eq_true rfl⟩) preEq rfl rfl hl.1 rfl (lv_room (Nat.le_of_ble_eq_true rfl)) dX5_load_9 ⟨Nat.le_of_ble_eq_true rfl, Nat.le_of_ble_eq_true rfl⟩) ?_
  cases b1 : (cy_isIn x 0 12)
  · refine lv_if_eq (tgt := 38) hx hb dX5_load_12 (by decide) (fun h2 => ?_) (fun h2 => absurd (by decide) h2)
    refine lv_aload_n hx hb dX5_load_38 rfl (lv_at hl 0 rfl) ?_
    refine lv_bipush (v := -2) hx hb dX5_load_39 (by decide) ?_
    refine cy_callm (va_runV (As := [.int (-2)]) (rest := []) ⟨hx, hb, hml, hown, hts⟩ (c_X5_no l D cI cJ cO z n na σ (cy_i τ 0 2 0) pl hi ad (-2)) (cwV 1 hts gX5_load_X5_no rfl rfl rfl (by decide +kernel) ⟨Nat.le_of_ble_eq_true rfl, Nat.le_of_ble_eq_true rfl⟩) (cy_preV hK hI (cy_recv hK (hI.1 20 _ cy_CR).1 rfl)) rfl rfl hl.1 rfl (lv_room (Nat.le_of_ble_eq_true rfl)) dX5_load_41 ⟨Nat.le_of_ble_eq_true rfl, Nat.le_of_ble_eq_true rfl⟩) hS (fun u H locs hI hz hS => ?_)
    have hI : cy_W D z (cy_CT cI cJ cO n na σ (cy_no (cy_i τ 0 2 0) (-2)) pl hi ad) ad H := hI
    refine W.eq (g2 := F0 m 44 ls [.int (-2)]) rfl ?_
    have E : cy_oLoad nt τ x q = ((-2), cy_no (cy_i τ 0 2 0) (-2)) := by simp [cy_oLoad, cy_z, cy_ldw, cy_clr, b1]
    rw [E]
    exact W.iret (v := (-2)) hx hb hr (fun t ht hW => ⟨(), rfl, by rw [ht]; exact hI, hS.F ht⟩) hS.2.2 dX5_load_44
  · refine lv_if_eq (tgt := 38) hx hb dX5_load_12 (by decide) (fun h3 => absurd h3 (by decide)) (fun h3 => ?_)
    refine lv_iload_n hx hb dX5_load_15 rfl (lv_at hl 2 rfl) ?_
    refine lv_iconst (v := 0) hx hb dX5_load_16 (by decide) ?_
    refine lv_iload_n hx hb dX5_load_17 rfl (lv_at hl 1 rfl) ?_
    refine cy_callp (v := .int (cy_b (cy_sg x))) (va_runS (As := [.int x]) (rest := [.int 0, .int q]) ⟨hx, hb, hml, hown, hts⟩ (c_X5_isSingle l x) (va_cwS 1 hts gX5_load_X5_isSingle rfl rfl rfl (by decide +kernel) ⟨Nat.le_of_ble_eq_true rfl, Nat.le_of_ble_eq_true rfl⟩) preEq rfl rfl hl.1 rfl (lv_room (Nat.le_of_ble_eq_true rfl)) dX5_load_18 ⟨Nat.le_of_ble_eq_true rfl, Nat.le_of_ble_eq_true rfl⟩) ?_
    cases b4 : (cy_sg x)
    · refine lv_if_eq (tgt := 30) hx hb dX5_load_21 (by decide) (fun h5 => ?_) (fun h5 => absurd (by decide) h5)
      refine lv_bipush (v := 6) hx hb dX5_load_30 (by decide) ?_
      refine cy_callp (v := .int (cy_b (cy_isIn q 0 6))) (va_runS (As := [.int q, .int 0, .int 6]) (rest := []) ⟨hx, hb, hml, hown, hts⟩ (c_X5_isIn l q 0 6) (va_cwS 3 hts gX5_load_X5_isIn rfl rfl rfl (by decide +kernel) ⟨Nat.le_of_ble_eq_true rfl, Nat.le_of_ble_eq_true rfl⟩) preEq rfl rfl hl.1 rfl (lv_room (Nat.le_of_ble_eq_true rfl)) dX5_load_32 ⟨Nat.le_of_ble_eq_true rfl, Nat.le_of_ble_eq_true rfl⟩) ?_
      cases b6 : (cy_isIn q 0 6)
      · refine lv_if_ne (tgt := 45) hx hb dX5_load_35 (by decide) (fun h7 => absurd (by decide) h7) (fun h7 => ?_)
        refine lv_aload_n hx hb dX5_load_38 rfl (lv_at hl 0 rfl) ?_
        refine lv_bipush (v := -2) hx hb dX5_load_39 (by decide) ?_
        refine cy_callm (va_runV (As := [.int (-2)]) (rest := []) ⟨hx, hb, hml, hown, hts⟩ (c_X5_no l D cI cJ cO z n na σ (cy_i τ 0 2 0) pl hi ad (-2)) (cwV 1 hts gX5_load_X5_no rfl rfl rfl (by decide +kernel) ⟨Nat.le_of_ble_eq_true rfl, Nat.le_of_ble_eq_true rfl⟩) (cy_preV hK hI (cy_recv hK (hI.1 20 _ cy_CR).1 rfl)) rfl rfl hl.1 rfl (lv_room (Nat.le_of_ble_eq_true rfl)) dX5_load_41 ⟨Nat.le_of_ble_eq_true rfl, Nat.le_of_ble_eq_true rfl⟩) hS (fun u H locs hI hz hS => ?_)
        have hI : cy_W D z (cy_CT cI cJ cO n na σ (cy_no (cy_i τ 0 2 0) (-2)) pl hi ad) ad H := hI
        refine W.eq (g2 := F0 m 44 ls [.int (-2)]) rfl ?_
        have E : cy_oLoad nt τ x q = ((-2), cy_no (cy_i τ 0 2 0) (-2)) := by simp [cy_oLoad, cy_z, cy_ldw, cy_clr, b1, b4, b6]
        rw [E]
        exact W.iret (v := (-2)) hx hb hr (fun t ht hW => ⟨(), rfl, by rw [ht]; exact hI, hS.F ht⟩) hS.2.2 dX5_load_44
      · refine lv_if_ne (tgt := 45) hx hb dX5_load_35 (by decide) (fun h8 => ?_) (fun h8 => absurd h8 (by decide))
        refine lv_aload_n hx hb dX5_load_45 rfl (lv_at hl 0 rfl) ?_
        refine cy_getT (v := .int (τ.1 0 0)) hx hb hts hin5 hown hK hI 0 (by decide) (hts (.fieldLink RX5 44 "CustomsYardModel" "loads" "I") (by decide +kernel)) rfl dX5_load_46 ?_
        refine cy_topi (y := nI nt) (h0) ?_
        refine lv_bipush (v := 80) hx hb dX5_load_49 (by decide) ?_
        refine lv_icmp_ne (tgt := 61) hx hb dX5_load_51 (by decide) (fun h9 => ?_) (fun h9 => ?_)
        · refine lv_aload_n hx hb dX5_load_61 rfl (lv_at hl 0 rfl) ?_
          refine cy_getT (v := .ref (ad 21)) hx hb hts hin5 hown hK hI 1 (by decide) (hts (.fieldLink RX5 7 "CustomsYardModel" "sorts" "[I") (by decide +kernel)) rfl dX5_load_62 ?_
          refine lv_aload_n hx hb dX5_load_65 rfl (lv_at hl 0 rfl) ?_
          refine cy_getT (v := .int (τ.1 0 0)) hx hb hts hin5 hown hK hI 0 (by decide) (hts (.fieldLink RX5 44 "CustomsYardModel" "loads" "I") (by decide +kernel)) rfl dX5_load_66 ?_
          refine cy_topi (y := nI nt) (h0) ?_
          refine lv_iload_n hx hb dX5_load_69 rfl (lv_at hl 1 rfl) ?_
          refine cy_stT1 (k := nt) (v := x) hx hb hK hI hS (cy_lt80 hn (by assumption)) dX5_load_70 (fun H locs hI hS => ?_)
          refine lv_aload_n hx hb dX5_load_71 rfl (lv_at hl 0 rfl) ?_
          refine cy_getT (v := .ref (ad 22)) hx hb hts hin5 hown hK hI 2 (by decide) (hts (.fieldLink RX5 13 "CustomsYardModel" "sizes" "[I") (by decide +kernel)) rfl dX5_load_72 ?_
          refine lv_aload_n hx hb dX5_load_75 rfl (lv_at hl 0 rfl) ?_
          refine cy_getT (v := .int (τ.1 0 0)) hx hb hts hin5 hown hK hI 0 (by decide) (hts (.fieldLink RX5 44 "CustomsYardModel" "loads" "I") (by decide +kernel)) rfl dX5_load_76 ?_
          refine cy_topi (y := nI nt) (h0) ?_
          refine lv_iload_n hx hb dX5_load_79 rfl (lv_at hl 1 rfl) ?_
          refine cy_callp (v := .int (cy_b (cy_sg x))) (va_runS (As := [.int x]) (rest := [.int (nI nt), .ref (ad 22)]) ⟨hx, hb, hml, hown, hts⟩ (c_X5_isSingle l x) (va_cwS 1 hts gX5_load_X5_isSingle rfl rfl rfl (by decide +kernel) ⟨Nat.le_of_ble_eq_true rfl, Nat.le_of_ble_eq_true rfl⟩) preEq rfl rfl hl.1 rfl (lv_room (Nat.le_of_ble_eq_true rfl)) dX5_load_80 ⟨Nat.le_of_ble_eq_true rfl, Nat.le_of_ble_eq_true rfl⟩) ?_
          refine cy_topi (y := cy_b false) (congrArg cy_b b4) ?_
          refine lv_if_eq (tgt := 90) hx hb dX5_load_83 (by decide) (fun h10 => ?_) (fun h10 => absurd (by decide) h10)
          refine lv_iload_n hx hb dX5_load_90 rfl (lv_at hl 2 rfl) ?_
          refine cy_stT2 (k := nt) (v := q) hx hb hK hI hS (cy_lt80 hn (by assumption)) dX5_load_91 (fun H locs hI hS => ?_)
          refine lv_aload_n hx hb dX5_load_92 rfl (lv_at hl 0 rfl) ?_
          refine cy_getT (v := .ref (ad 23)) hx hb hts hin5 hown hK hI 3 (by decide) (hts (.fieldLink RX5 16 "CustomsYardModel" "weights" "[I") (by decide +kernel)) rfl dX5_load_93 ?_
          refine lv_aload_n hx hb dX5_load_96 rfl (lv_at hl 0 rfl) ?_
          refine cy_getT (v := .int (τ.1 0 0)) hx hb hts hin5 hown hK hI 0 (by decide) (hts (.fieldLink RX5 44 "CustomsYardModel" "loads" "I") (by decide +kernel)) rfl dX5_load_97 ?_
          refine cy_topi (y := nI nt) (h0) ?_
          refine lv_iload_n hx hb dX5_load_100 rfl (lv_at hl 1 rfl) ?_
          refine cy_callp (v := .int (cy_b (cy_sg x))) (va_runS (As := [.int x]) (rest := [.int (nI nt), .ref (ad 23)]) ⟨hx, hb, hml, hown, hts⟩ (c_X5_isSingle l x) (va_cwS 1 hts gX5_load_X5_isSingle rfl rfl rfl (by decide +kernel) ⟨Nat.le_of_ble_eq_true rfl, Nat.le_of_ble_eq_true rfl⟩) preEq rfl rfl hl.1 rfl (lv_room (Nat.le_of_ble_eq_true rfl)) dX5_load_101 ⟨Nat.le_of_ble_eq_true rfl, Nat.le_of_ble_eq_true rfl⟩) ?_
          refine cy_topi (y := cy_b false) (congrArg cy_b b4) ?_
          refine lv_if_eq (tgt := 111) hx hb dX5_load_104 (by decide) (fun h11 => ?_) (fun h11 => absurd (by decide) h11)
          refine lv_iconst (v := 0) hx hb dX5_load_111 (by decide) ?_
          refine cy_stT3 (k := nt) (v := 0) hx hb hK hI hS (cy_lt80 hn (by assumption)) dX5_load_112 (fun H locs hI hS => ?_)
          refine lv_iconst (v := 0) hx hb dX5_load_113 (by decide) ?_
          refine lv_istore_n (lv' := [(3, .int 0), (0, .ref (ad 20)), (1, .int x), (2, .int q)]) hx hb dX5_load_114 rfl hl (by decide) rfl (fun ls hl => ?_)
          refine lv_iload_n hx hb dX5_load_115 rfl (lv_at hl 0 rfl) ?_
          refine lv_bipush (v := 6) hx hb dX5_load_116 (by decide) ?_
          refine lv_icmp_ge (tgt := 157) hx hb dX5_load_118 (by decide) (fun h12 => absurd h12 (by decide)) (fun h12 => ?_)
          refine lv_aload_n hx hb dX5_load_121 rfl (lv_at hl 1 rfl) ?_
          refine cy_getT (v := .ref (ad 24)) hx hb hts hin5 hown hK hI 4 (by decide) (hts (.fieldLink RX5 19 "CustomsYardModel" "numbers" "[J") (by decide +kernel)) rfl dX5_load_122 ?_
          refine lv_bipush (v := 6) hx hb dX5_load_125 (by decide) ?_
          refine lv_aload_n hx hb dX5_load_127 rfl (lv_at hl 1 rfl) ?_
          refine cy_getT (v := .int (τ.1 0 0)) hx hb hts hin5 hown hK hI 0 (by decide) (hts (.fieldLink RX5 44 "CustomsYardModel" "loads" "I") (by decide +kernel)) rfl dX5_load_128 ?_
          refine cy_topi (y := nI nt) (h0) ?_
          refine lv_imul hx hb dX5_load_131 ?_
          refine lv_iload_n hx hb dX5_load_132 rfl (lv_at hl 0 rfl) ?_
          refine lv_iadd hx hb dX5_load_133 ?_
          refine cy_topi (y := nI (6 * nt + 0)) (cy_ix nt 0) ?_
          refine lv_lconst (v := 0) hx hb dX5_load_134 (by decide) ?_
          refine cy_stT4 (k := (6 * nt + 0)) (v := 0) hx hb hK hI hS (by have := cy_lt80 hn (by assumption); omega) dX5_load_135 (fun H locs hI hS => ?_)
          refine lv_aload_n hx hb dX5_load_136 rfl (lv_at hl 1 rfl) ?_
          refine cy_getT (v := .ref (ad 25)) hx hb hts hin5 hown hK hI 5 (by decide) (hts (.fieldLink RX5 23 "CustomsYardModel" "things" "[I") (by decide +kernel)) rfl dX5_load_137 ?_
          refine lv_bipush (v := 6) hx hb dX5_load_140 (by decide) ?_
          refine lv_aload_n hx hb dX5_load_142 rfl (lv_at hl 1 rfl) ?_
          refine cy_getT (v := .int (τ.1 0 0)) hx hb hts hin5 hown hK hI 0 (by decide) (hts (.fieldLink RX5 44 "CustomsYardModel" "loads" "I") (by decide +kernel)) rfl dX5_load_143 ?_
          refine cy_topi (y := nI nt) (h0) ?_
          refine lv_imul hx hb dX5_load_146 ?_
          refine lv_iload_n hx hb dX5_load_147 rfl (lv_at hl 0 rfl) ?_
          refine lv_iadd hx hb dX5_load_148 ?_
          refine cy_topi (y := nI (6 * nt + 0)) (cy_ix nt 0) ?_
          refine lv_iconst (v := -1) hx hb dX5_load_149 (by decide) ?_
          refine cy_stT5 (k := (6 * nt + 0)) (v := (-1)) hx hb hK hI hS (by have := cy_lt80 hn (by assumption); omega) dX5_load_150 (fun H locs hI hS => ?_)
          refine lv_iinc (v := 1) (lv' := [(3, .int 1), (0, .ref (ad 20)), (1, .int x), (2, .int q)]) hx hb dX5_load_151 hl (k := 0) rfl (by decide) (by decide) rfl (fun ls hl => ?_)
          refine lv_goto (tgt := 115) hx hb dX5_load_154 (by decide) ?_
          refine lv_iload_n hx hb dX5_load_115 rfl (lv_at hl 0 rfl) ?_
          refine lv_bipush (v := 6) hx hb dX5_load_116 (by decide) ?_
          refine lv_icmp_ge (tgt := 157) hx hb dX5_load_118 (by decide) (fun h13 => absurd h13 (by decide)) (fun h13 => ?_)
          refine lv_aload_n hx hb dX5_load_121 rfl (lv_at hl 1 rfl) ?_
          refine cy_getT (v := .ref (ad 24)) hx hb hts hin5 hown hK hI 4 (by decide) (hts (.fieldLink RX5 19 "CustomsYardModel" "numbers" "[J") (by decide +kernel)) rfl dX5_load_122 ?_
          refine lv_bipush (v := 6) hx hb dX5_load_125 (by decide) ?_
          refine lv_aload_n hx hb dX5_load_127 rfl (lv_at hl 1 rfl) ?_
          refine cy_getT (v := .int (τ.1 0 0)) hx hb hts hin5 hown hK hI 0 (by decide) (hts (.fieldLink RX5 44 "CustomsYardModel" "loads" "I") (by decide +kernel)) rfl dX5_load_128 ?_
          refine cy_topi (y := nI nt) (h0) ?_
          refine lv_imul hx hb dX5_load_131 ?_
          refine lv_iload_n hx hb dX5_load_132 rfl (lv_at hl 0 rfl) ?_
          refine lv_iadd hx hb dX5_load_133 ?_
          refine cy_topi (y := nI (6 * nt + 1)) (cy_ix nt 1) ?_
          refine lv_lconst (v := 0) hx hb dX5_load_134 (by decide) ?_
          refine cy_stT4 (k := (6 * nt + 1)) (v := 0) hx hb hK hI hS (by have := cy_lt80 hn (by assumption); omega) dX5_load_135 (fun H locs hI hS => ?_)
          refine lv_aload_n hx hb dX5_load_136 rfl (lv_at hl 1 rfl) ?_
          refine cy_getT (v := .ref (ad 25)) hx hb hts hin5 hown hK hI 5 (by decide) (hts (.fieldLink RX5 23 "CustomsYardModel" "things" "[I") (by decide +kernel)) rfl dX5_load_137 ?_
          refine lv_bipush (v := 6) hx hb dX5_load_140 (by decide) ?_
          refine lv_aload_n hx hb dX5_load_142 rfl (lv_at hl 1 rfl) ?_
          refine cy_getT (v := .int (τ.1 0 0)) hx hb hts hin5 hown hK hI 0 (by decide) (hts (.fieldLink RX5 44 "CustomsYardModel" "loads" "I") (by decide +kernel)) rfl dX5_load_143 ?_
          refine cy_topi (y := nI nt) (h0) ?_
          refine lv_imul hx hb dX5_load_146 ?_
          refine lv_iload_n hx hb dX5_load_147 rfl (lv_at hl 0 rfl) ?_
          refine lv_iadd hx hb dX5_load_148 ?_
          refine cy_topi (y := nI (6 * nt + 1)) (cy_ix nt 1) ?_
          refine lv_iconst (v := -1) hx hb dX5_load_149 (by decide) ?_
          refine cy_stT5 (k := (6 * nt + 1)) (v := (-1)) hx hb hK hI hS (by have := cy_lt80 hn (by assumption); omega) dX5_load_150 (fun H locs hI hS => ?_)
          refine lv_iinc (v := 2) (lv' := [(3, .int 2), (0, .ref (ad 20)), (1, .int x), (2, .int q)]) hx hb dX5_load_151 hl (k := 0) rfl (by decide) (by decide) rfl (fun ls hl => ?_)
          refine lv_goto (tgt := 115) hx hb dX5_load_154 (by decide) ?_
          refine lv_iload_n hx hb dX5_load_115 rfl (lv_at hl 0 rfl) ?_
          refine lv_bipush (v := 6) hx hb dX5_load_116 (by decide) ?_
          refine lv_icmp_ge (tgt := 157) hx hb dX5_load_118 (by decide) (fun h14 => absurd h14 (by decide)) (fun h14 => ?_)
          refine lv_aload_n hx hb dX5_load_121 rfl (lv_at hl 1 rfl) ?_
          refine cy_getT (v := .ref (ad 24)) hx hb hts hin5 hown hK hI 4 (by decide) (hts (.fieldLink RX5 19 "CustomsYardModel" "numbers" "[J") (by decide +kernel)) rfl dX5_load_122 ?_
          refine lv_bipush (v := 6) hx hb dX5_load_125 (by decide) ?_
          refine lv_aload_n hx hb dX5_load_127 rfl (lv_at hl 1 rfl) ?_
          refine cy_getT (v := .int (τ.1 0 0)) hx hb hts hin5 hown hK hI 0 (by decide) (hts (.fieldLink RX5 44 "CustomsYardModel" "loads" "I") (by decide +kernel)) rfl dX5_load_128 ?_
          refine cy_topi (y := nI nt) (h0) ?_
          refine lv_imul hx hb dX5_load_131 ?_
          refine lv_iload_n hx hb dX5_load_132 rfl (lv_at hl 0 rfl) ?_
          refine lv_iadd hx hb dX5_load_133 ?_
          refine cy_topi (y := nI (6 * nt + 2)) (cy_ix nt 2) ?_
          refine lv_lconst (v := 0) hx hb dX5_load_134 (by decide) ?_
          refine cy_stT4 (k := (6 * nt + 2)) (v := 0) hx hb hK hI hS (by have := cy_lt80 hn (by assumption); omega) dX5_load_135 (fun H locs hI hS => ?_)
          refine lv_aload_n hx hb dX5_load_136 rfl (lv_at hl 1 rfl) ?_
          refine cy_getT (v := .ref (ad 25)) hx hb hts hin5 hown hK hI 5 (by decide) (hts (.fieldLink RX5 23 "CustomsYardModel" "things" "[I") (by decide +kernel)) rfl dX5_load_137 ?_
          refine lv_bipush (v := 6) hx hb dX5_load_140 (by decide) ?_
          refine lv_aload_n hx hb dX5_load_142 rfl (lv_at hl 1 rfl) ?_
          refine cy_getT (v := .int (τ.1 0 0)) hx hb hts hin5 hown hK hI 0 (by decide) (hts (.fieldLink RX5 44 "CustomsYardModel" "loads" "I") (by decide +kernel)) rfl dX5_load_143 ?_
          refine cy_topi (y := nI nt) (h0) ?_
          refine lv_imul hx hb dX5_load_146 ?_
          refine lv_iload_n hx hb dX5_load_147 rfl (lv_at hl 0 rfl) ?_
          refine lv_iadd hx hb dX5_load_148 ?_
          refine cy_topi (y := nI (6 * nt + 2)) (cy_ix nt 2) ?_
          refine lv_iconst (v := -1) hx hb dX5_load_149 (by decide) ?_
          refine cy_stT5 (k := (6 * nt + 2)) (v := (-1)) hx hb hK hI hS (by have := cy_lt80 hn (by assumption); omega) dX5_load_150 (fun H locs hI hS => ?_)
          refine lv_iinc (v := 3) (lv' := [(3, .int 3), (0, .ref (ad 20)), (1, .int x), (2, .int q)]) hx hb dX5_load_151 hl (k := 0) rfl (by decide) (by decide) rfl (fun ls hl => ?_)
          refine lv_goto (tgt := 115) hx hb dX5_load_154 (by decide) ?_
          refine lv_iload_n hx hb dX5_load_115 rfl (lv_at hl 0 rfl) ?_
          refine lv_bipush (v := 6) hx hb dX5_load_116 (by decide) ?_
          refine lv_icmp_ge (tgt := 157) hx hb dX5_load_118 (by decide) (fun h15 => absurd h15 (by decide)) (fun h15 => ?_)
          refine lv_aload_n hx hb dX5_load_121 rfl (lv_at hl 1 rfl) ?_
          refine cy_getT (v := .ref (ad 24)) hx hb hts hin5 hown hK hI 4 (by decide) (hts (.fieldLink RX5 19 "CustomsYardModel" "numbers" "[J") (by decide +kernel)) rfl dX5_load_122 ?_
          refine lv_bipush (v := 6) hx hb dX5_load_125 (by decide) ?_
          refine lv_aload_n hx hb dX5_load_127 rfl (lv_at hl 1 rfl) ?_
          refine cy_getT (v := .int (τ.1 0 0)) hx hb hts hin5 hown hK hI 0 (by decide) (hts (.fieldLink RX5 44 "CustomsYardModel" "loads" "I") (by decide +kernel)) rfl dX5_load_128 ?_
          refine cy_topi (y := nI nt) (h0) ?_
          refine lv_imul hx hb dX5_load_131 ?_
          refine lv_iload_n hx hb dX5_load_132 rfl (lv_at hl 0 rfl) ?_
          refine lv_iadd hx hb dX5_load_133 ?_
          refine cy_topi (y := nI (6 * nt + 3)) (cy_ix nt 3) ?_
          refine lv_lconst (v := 0) hx hb dX5_load_134 (by decide) ?_
          refine cy_stT4 (k := (6 * nt + 3)) (v := 0) hx hb hK hI hS (by have := cy_lt80 hn (by assumption); omega) dX5_load_135 (fun H locs hI hS => ?_)
          refine lv_aload_n hx hb dX5_load_136 rfl (lv_at hl 1 rfl) ?_
          refine cy_getT (v := .ref (ad 25)) hx hb hts hin5 hown hK hI 5 (by decide) (hts (.fieldLink RX5 23 "CustomsYardModel" "things" "[I") (by decide +kernel)) rfl dX5_load_137 ?_
          refine lv_bipush (v := 6) hx hb dX5_load_140 (by decide) ?_
          refine lv_aload_n hx hb dX5_load_142 rfl (lv_at hl 1 rfl) ?_
          refine cy_getT (v := .int (τ.1 0 0)) hx hb hts hin5 hown hK hI 0 (by decide) (hts (.fieldLink RX5 44 "CustomsYardModel" "loads" "I") (by decide +kernel)) rfl dX5_load_143 ?_
          refine cy_topi (y := nI nt) (h0) ?_
          refine lv_imul hx hb dX5_load_146 ?_
          refine lv_iload_n hx hb dX5_load_147 rfl (lv_at hl 0 rfl) ?_
          refine lv_iadd hx hb dX5_load_148 ?_
          refine cy_topi (y := nI (6 * nt + 3)) (cy_ix nt 3) ?_
          refine lv_iconst (v := -1) hx hb dX5_load_149 (by decide) ?_
          refine cy_stT5 (k := (6 * nt + 3)) (v := (-1)) hx hb hK hI hS (by have := cy_lt80 hn (by assumption); omega) dX5_load_150 (fun H locs hI hS => ?_)
          refine lv_iinc (v := 4) (lv' := [(3, .int 4), (0, .ref (ad 20)), (1, .int x), (2, .int q)]) hx hb dX5_load_151 hl (k := 0) rfl (by decide) (by decide) rfl (fun ls hl => ?_)
          refine lv_goto (tgt := 115) hx hb dX5_load_154 (by decide) ?_
          refine lv_iload_n hx hb dX5_load_115 rfl (lv_at hl 0 rfl) ?_
          refine lv_bipush (v := 6) hx hb dX5_load_116 (by decide) ?_
          refine lv_icmp_ge (tgt := 157) hx hb dX5_load_118 (by decide) (fun h16 => absurd h16 (by decide)) (fun h16 => ?_)
          refine lv_aload_n hx hb dX5_load_121 rfl (lv_at hl 1 rfl) ?_
          refine cy_getT (v := .ref (ad 24)) hx hb hts hin5 hown hK hI 4 (by decide) (hts (.fieldLink RX5 19 "CustomsYardModel" "numbers" "[J") (by decide +kernel)) rfl dX5_load_122 ?_
          refine lv_bipush (v := 6) hx hb dX5_load_125 (by decide) ?_
          refine lv_aload_n hx hb dX5_load_127 rfl (lv_at hl 1 rfl) ?_
          refine cy_getT (v := .int (τ.1 0 0)) hx hb hts hin5 hown hK hI 0 (by decide) (hts (.fieldLink RX5 44 "CustomsYardModel" "loads" "I") (by decide +kernel)) rfl dX5_load_128 ?_
          refine cy_topi (y := nI nt) (h0) ?_
          refine lv_imul hx hb dX5_load_131 ?_
          refine lv_iload_n hx hb dX5_load_132 rfl (lv_at hl 0 rfl) ?_
          refine lv_iadd hx hb dX5_load_133 ?_
          refine cy_topi (y := nI (6 * nt + 4)) (cy_ix nt 4) ?_
          refine lv_lconst (v := 0) hx hb dX5_load_134 (by decide) ?_
          refine cy_stT4 (k := (6 * nt + 4)) (v := 0) hx hb hK hI hS (by have := cy_lt80 hn (by assumption); omega) dX5_load_135 (fun H locs hI hS => ?_)
          refine lv_aload_n hx hb dX5_load_136 rfl (lv_at hl 1 rfl) ?_
          refine cy_getT (v := .ref (ad 25)) hx hb hts hin5 hown hK hI 5 (by decide) (hts (.fieldLink RX5 23 "CustomsYardModel" "things" "[I") (by decide +kernel)) rfl dX5_load_137 ?_
          refine lv_bipush (v := 6) hx hb dX5_load_140 (by decide) ?_
          refine lv_aload_n hx hb dX5_load_142 rfl (lv_at hl 1 rfl) ?_
          refine cy_getT (v := .int (τ.1 0 0)) hx hb hts hin5 hown hK hI 0 (by decide) (hts (.fieldLink RX5 44 "CustomsYardModel" "loads" "I") (by decide +kernel)) rfl dX5_load_143 ?_
          refine cy_topi (y := nI nt) (h0) ?_
          refine lv_imul hx hb dX5_load_146 ?_
          refine lv_iload_n hx hb dX5_load_147 rfl (lv_at hl 0 rfl) ?_
          refine lv_iadd hx hb dX5_load_148 ?_
          refine cy_topi (y := nI (6 * nt + 4)) (cy_ix nt 4) ?_
          refine lv_iconst (v := -1) hx hb dX5_load_149 (by decide) ?_
          refine cy_stT5 (k := (6 * nt + 4)) (v := (-1)) hx hb hK hI hS (by have := cy_lt80 hn (by assumption); omega) dX5_load_150 (fun H locs hI hS => ?_)
          refine lv_iinc (v := 5) (lv' := [(3, .int 5), (0, .ref (ad 20)), (1, .int x), (2, .int q)]) hx hb dX5_load_151 hl (k := 0) rfl (by decide) (by decide) rfl (fun ls hl => ?_)
          refine lv_goto (tgt := 115) hx hb dX5_load_154 (by decide) ?_
          refine lv_iload_n hx hb dX5_load_115 rfl (lv_at hl 0 rfl) ?_
          refine lv_bipush (v := 6) hx hb dX5_load_116 (by decide) ?_
          refine lv_icmp_ge (tgt := 157) hx hb dX5_load_118 (by decide) (fun h17 => absurd h17 (by decide)) (fun h17 => ?_)
          refine lv_aload_n hx hb dX5_load_121 rfl (lv_at hl 1 rfl) ?_
          refine cy_getT (v := .ref (ad 24)) hx hb hts hin5 hown hK hI 4 (by decide) (hts (.fieldLink RX5 19 "CustomsYardModel" "numbers" "[J") (by decide +kernel)) rfl dX5_load_122 ?_
          refine lv_bipush (v := 6) hx hb dX5_load_125 (by decide) ?_
          refine lv_aload_n hx hb dX5_load_127 rfl (lv_at hl 1 rfl) ?_
          refine cy_getT (v := .int (τ.1 0 0)) hx hb hts hin5 hown hK hI 0 (by decide) (hts (.fieldLink RX5 44 "CustomsYardModel" "loads" "I") (by decide +kernel)) rfl dX5_load_128 ?_
          refine cy_topi (y := nI nt) (h0) ?_
          refine lv_imul hx hb dX5_load_131 ?_
          refine lv_iload_n hx hb dX5_load_132 rfl (lv_at hl 0 rfl) ?_
          refine lv_iadd hx hb dX5_load_133 ?_
          refine cy_topi (y := nI (6 * nt + 5)) (cy_ix nt 5) ?_
          refine lv_lconst (v := 0) hx hb dX5_load_134 (by decide) ?_
          refine cy_stT4 (k := (6 * nt + 5)) (v := 0) hx hb hK hI hS (by have := cy_lt80 hn (by assumption); omega) dX5_load_135 (fun H locs hI hS => ?_)
          refine lv_aload_n hx hb dX5_load_136 rfl (lv_at hl 1 rfl) ?_
          refine cy_getT (v := .ref (ad 25)) hx hb hts hin5 hown hK hI 5 (by decide) (hts (.fieldLink RX5 23 "CustomsYardModel" "things" "[I") (by decide +kernel)) rfl dX5_load_137 ?_
          refine lv_bipush (v := 6) hx hb dX5_load_140 (by decide) ?_
          refine lv_aload_n hx hb dX5_load_142 rfl (lv_at hl 1 rfl) ?_
          refine cy_getT (v := .int (τ.1 0 0)) hx hb hts hin5 hown hK hI 0 (by decide) (hts (.fieldLink RX5 44 "CustomsYardModel" "loads" "I") (by decide +kernel)) rfl dX5_load_143 ?_
          refine cy_topi (y := nI nt) (h0) ?_
          refine lv_imul hx hb dX5_load_146 ?_
          refine lv_iload_n hx hb dX5_load_147 rfl (lv_at hl 0 rfl) ?_
          refine lv_iadd hx hb dX5_load_148 ?_
          refine cy_topi (y := nI (6 * nt + 5)) (cy_ix nt 5) ?_
          refine lv_iconst (v := -1) hx hb dX5_load_149 (by decide) ?_
          refine cy_stT5 (k := (6 * nt + 5)) (v := (-1)) hx hb hK hI hS (by have := cy_lt80 hn (by assumption); omega) dX5_load_150 (fun H locs hI hS => ?_)
          refine lv_iinc (v := 6) (lv' := [(3, .int 6), (0, .ref (ad 20)), (1, .int x), (2, .int q)]) hx hb dX5_load_151 hl (k := 0) rfl (by decide) (by decide) rfl (fun ls hl => ?_)
          refine lv_goto (tgt := 115) hx hb dX5_load_154 (by decide) ?_
          refine lv_iload_n hx hb dX5_load_115 rfl (lv_at hl 0 rfl) ?_
          refine lv_bipush (v := 6) hx hb dX5_load_116 (by decide) ?_
          refine lv_icmp_ge (tgt := 157) hx hb dX5_load_118 (by decide) (fun h18 => ?_) (fun h18 => absurd (by decide) h18)
          refine lv_aload_n hx hb dX5_load_157 rfl (lv_at hl 1 rfl) ?_
          refine lv_dup hx hb dX5_load_158 rfl ?_
          refine cy_getT (v := .int (τ.1 0 0)) hx hb hts hin5 hown hK hI 0 (by decide) (hts (.fieldLink RX5 44 "CustomsYardModel" "loads" "I") (by decide +kernel)) rfl dX5_load_159 ?_
          refine cy_topi (y := nI nt) (h0) ?_
          refine lv_iconst (v := 1) hx hb dX5_load_162 (by decide) ?_
          refine lv_iadd hx hb dX5_load_163 ?_
          refine cy_topi (y := nI (nt + 1)) (nI_1 nt) ?_
          refine cy_putT (v := nI (nt + 1)) hx hb hts hin5 hown hK hI hS 0 0 (by decide) (hts (.fieldLink RX5 44 "CustomsYardModel" "loads" "I") (by decide +kernel)) rfl (by decide +kernel) rfl dX5_load_164 (fun H locs hI hS => ?_)
          refine lv_aload_n hx hb dX5_load_167 rfl (lv_at hl 1 rfl) ?_
          refine cy_getT (v := .int (nI (nt + 1))) hx hb hts hin5 hown hK hI 0 (by decide) (hts (.fieldLink RX5 44 "CustomsYardModel" "loads" "I") (by decide +kernel)) rfl dX5_load_168 ?_
          refine lv_iconst (v := 1) hx hb dX5_load_171 (by decide) ?_
          refine lv_isub hx hb dX5_load_172 ?_
          refine cy_topi (y := nI nt) (nI_pred nt) ?_
          have E : cy_oLoad nt τ x q = (nI nt, cy_i (cy_i (cy_l (cy_i (cy_l (cy_i (cy_l (cy_i (cy_l (cy_i (cy_l (cy_i (cy_l (cy_i (cy_i (cy_i (cy_i τ 0 2 0) 1 nt x) 2 nt q) 3 nt 0) 0 (6 * nt + 0) 0) 4 (6 * nt + 0) (-1)) 0 (6 * nt + 1) 0) 4 (6 * nt + 1) (-1)) 0 (6 * nt + 2) 0) 4 (6 * nt + 2) (-1)) 0 (6 * nt + 3) 0) 4 (6 * nt + 3) (-1)) 0 (6 * nt + 4) 0) 4 (6 * nt + 4) (-1)) 0 (6 * nt + 5) 0) 4 (6 * nt + 5) (-1)) 0 0 (nI (nt + 1))) := by simp [cy_oLoad, cy_z, cy_ldw, cy_clr, b1, b4, b6, show ¬ nt = 80 from fun q => h9 (by rw [q]; rfl)]
          rw [E]
          exact W.iret (v := nI nt) hx hb hr (fun t ht hW => ⟨(), rfl, by rw [ht]; exact hI, hS.F ht⟩) hS.2.2 dX5_load_173
        · refine lv_aload_n hx hb dX5_load_54 rfl (lv_at hl 0 rfl) ?_
          refine lv_bipush (v := -3) hx hb dX5_load_55 (by decide) ?_
          refine cy_callm (va_runV (As := [.int (-3)]) (rest := []) ⟨hx, hb, hml, hown, hts⟩ (c_X5_no l D cI cJ cO z n na σ (cy_i τ 0 2 0) pl hi ad (-3)) (cwV 1 hts gX5_load_X5_no rfl rfl rfl (by decide +kernel) ⟨Nat.le_of_ble_eq_true rfl, Nat.le_of_ble_eq_true rfl⟩) (cy_preV hK hI (cy_recv hK (hI.1 20 _ cy_CR).1 rfl)) rfl rfl hl.1 rfl (lv_room (Nat.le_of_ble_eq_true rfl)) dX5_load_57 ⟨Nat.le_of_ble_eq_true rfl, Nat.le_of_ble_eq_true rfl⟩) hS (fun u H locs hI hz hS => ?_)
          have hI : cy_W D z (cy_CT cI cJ cO n na σ (cy_no (cy_i τ 0 2 0) (-3)) pl hi ad) ad H := hI
          refine W.eq (g2 := F0 m 60 ls [.int (-3)]) rfl ?_
          have E : cy_oLoad nt τ x q = ((-3), cy_no (cy_i τ 0 2 0) (-3)) := by simp [cy_oLoad, cy_z, cy_ldw, cy_clr, b1, b4, b6, show nt = 80 from (nI_eq (by omega) (by decide)).mp h9]
          rw [E]
          exact W.iret (v := (-3)) hx hb hr (fun t ht hW => ⟨(), rfl, by rw [ht]; exact hI, hS.F ht⟩) hS.2.2 dX5_load_60
    · refine lv_if_eq (tgt := 30) hx hb dX5_load_21 (by decide) (fun h19 => absurd h19 (by decide)) (fun h19 => ?_)
      refine lv_sipush (v := 1000) hx hb dX5_load_24 (by decide) ?_
      refine lv_goto (tgt := 32) hx hb dX5_load_27 (by decide) ?_
      refine cy_callp (v := .int (cy_b (cy_isIn q 0 1000))) (va_runS (As := [.int q, .int 0, .int 1000]) (rest := []) ⟨hx, hb, hml, hown, hts⟩ (c_X5_isIn l q 0 1000) (va_cwS 3 hts gX5_load_X5_isIn rfl rfl rfl (by decide +kernel) ⟨Nat.le_of_ble_eq_true rfl, Nat.le_of_ble_eq_true rfl⟩) preEq rfl rfl hl.1 rfl (lv_room (Nat.le_of_ble_eq_true rfl)) dX5_load_32 ⟨Nat.le_of_ble_eq_true rfl, Nat.le_of_ble_eq_true rfl⟩) ?_
      cases b20 : (cy_isIn q 0 1000)
      · refine lv_if_ne (tgt := 45) hx hb dX5_load_35 (by decide) (fun h21 => absurd (by decide) h21) (fun h21 => ?_)
        refine lv_aload_n hx hb dX5_load_38 rfl (lv_at hl 0 rfl) ?_
        refine lv_bipush (v := -2) hx hb dX5_load_39 (by decide) ?_
        refine cy_callm (va_runV (As := [.int (-2)]) (rest := []) ⟨hx, hb, hml, hown, hts⟩ (c_X5_no l D cI cJ cO z n na σ (cy_i τ 0 2 0) pl hi ad (-2)) (cwV 1 hts gX5_load_X5_no rfl rfl rfl (by decide +kernel) ⟨Nat.le_of_ble_eq_true rfl, Nat.le_of_ble_eq_true rfl⟩) (cy_preV hK hI (cy_recv hK (hI.1 20 _ cy_CR).1 rfl)) rfl rfl hl.1 rfl (lv_room (Nat.le_of_ble_eq_true rfl)) dX5_load_41 ⟨Nat.le_of_ble_eq_true rfl, Nat.le_of_ble_eq_true rfl⟩) hS (fun u H locs hI hz hS => ?_)
        have hI : cy_W D z (cy_CT cI cJ cO n na σ (cy_no (cy_i τ 0 2 0) (-2)) pl hi ad) ad H := hI
        refine W.eq (g2 := F0 m 44 ls [.int (-2)]) rfl ?_
        have E : cy_oLoad nt τ x q = ((-2), cy_no (cy_i τ 0 2 0) (-2)) := by simp [cy_oLoad, cy_z, cy_ldw, cy_clr, b1, b4, b20]
        rw [E]
        exact W.iret (v := (-2)) hx hb hr (fun t ht hW => ⟨(), rfl, by rw [ht]; exact hI, hS.F ht⟩) hS.2.2 dX5_load_44
      · refine lv_if_ne (tgt := 45) hx hb dX5_load_35 (by decide) (fun h22 => ?_) (fun h22 => absurd h22 (by decide))
        refine lv_aload_n hx hb dX5_load_45 rfl (lv_at hl 0 rfl) ?_
        refine cy_getT (v := .int (τ.1 0 0)) hx hb hts hin5 hown hK hI 0 (by decide) (hts (.fieldLink RX5 44 "CustomsYardModel" "loads" "I") (by decide +kernel)) rfl dX5_load_46 ?_
        refine cy_topi (y := nI nt) (h0) ?_
        refine lv_bipush (v := 80) hx hb dX5_load_49 (by decide) ?_
        refine lv_icmp_ne (tgt := 61) hx hb dX5_load_51 (by decide) (fun h23 => ?_) (fun h23 => ?_)
        · refine lv_aload_n hx hb dX5_load_61 rfl (lv_at hl 0 rfl) ?_
          refine cy_getT (v := .ref (ad 21)) hx hb hts hin5 hown hK hI 1 (by decide) (hts (.fieldLink RX5 7 "CustomsYardModel" "sorts" "[I") (by decide +kernel)) rfl dX5_load_62 ?_
          refine lv_aload_n hx hb dX5_load_65 rfl (lv_at hl 0 rfl) ?_
          refine cy_getT (v := .int (τ.1 0 0)) hx hb hts hin5 hown hK hI 0 (by decide) (hts (.fieldLink RX5 44 "CustomsYardModel" "loads" "I") (by decide +kernel)) rfl dX5_load_66 ?_
          refine cy_topi (y := nI nt) (h0) ?_
          refine lv_iload_n hx hb dX5_load_69 rfl (lv_at hl 1 rfl) ?_
          refine cy_stT1 (k := nt) (v := x) hx hb hK hI hS (cy_lt80 hn (by assumption)) dX5_load_70 (fun H locs hI hS => ?_)
          refine lv_aload_n hx hb dX5_load_71 rfl (lv_at hl 0 rfl) ?_
          refine cy_getT (v := .ref (ad 22)) hx hb hts hin5 hown hK hI 2 (by decide) (hts (.fieldLink RX5 13 "CustomsYardModel" "sizes" "[I") (by decide +kernel)) rfl dX5_load_72 ?_
          refine lv_aload_n hx hb dX5_load_75 rfl (lv_at hl 0 rfl) ?_
          refine cy_getT (v := .int (τ.1 0 0)) hx hb hts hin5 hown hK hI 0 (by decide) (hts (.fieldLink RX5 44 "CustomsYardModel" "loads" "I") (by decide +kernel)) rfl dX5_load_76 ?_
          refine cy_topi (y := nI nt) (h0) ?_
          refine lv_iload_n hx hb dX5_load_79 rfl (lv_at hl 1 rfl) ?_
          refine cy_callp (v := .int (cy_b (cy_sg x))) (va_runS (As := [.int x]) (rest := [.int (nI nt), .ref (ad 22)]) ⟨hx, hb, hml, hown, hts⟩ (c_X5_isSingle l x) (va_cwS 1 hts gX5_load_X5_isSingle rfl rfl rfl (by decide +kernel) ⟨Nat.le_of_ble_eq_true rfl, Nat.le_of_ble_eq_true rfl⟩) preEq rfl rfl hl.1 rfl (lv_room (Nat.le_of_ble_eq_true rfl)) dX5_load_80 ⟨Nat.le_of_ble_eq_true rfl, Nat.le_of_ble_eq_true rfl⟩) ?_
          refine cy_topi (y := cy_b true) (congrArg cy_b b4) ?_
          refine lv_if_eq (tgt := 90) hx hb dX5_load_83 (by decide) (fun h24 => absurd h24 (by decide)) (fun h24 => ?_)
          refine lv_iconst (v := 0) hx hb dX5_load_86 (by decide) ?_
          refine lv_goto (tgt := 91) hx hb dX5_load_87 (by decide) ?_
          refine cy_stT2 (k := nt) (v := 0) hx hb hK hI hS (cy_lt80 hn (by assumption)) dX5_load_91 (fun H locs hI hS => ?_)
          refine lv_aload_n hx hb dX5_load_92 rfl (lv_at hl 0 rfl) ?_
          refine cy_getT (v := .ref (ad 23)) hx hb hts hin5 hown hK hI 3 (by decide) (hts (.fieldLink RX5 16 "CustomsYardModel" "weights" "[I") (by decide +kernel)) rfl dX5_load_93 ?_
          refine lv_aload_n hx hb dX5_load_96 rfl (lv_at hl 0 rfl) ?_
          refine cy_getT (v := .int (τ.1 0 0)) hx hb hts hin5 hown hK hI 0 (by decide) (hts (.fieldLink RX5 44 "CustomsYardModel" "loads" "I") (by decide +kernel)) rfl dX5_load_97 ?_
          refine cy_topi (y := nI nt) (h0) ?_
          refine lv_iload_n hx hb dX5_load_100 rfl (lv_at hl 1 rfl) ?_
          refine cy_callp (v := .int (cy_b (cy_sg x))) (va_runS (As := [.int x]) (rest := [.int (nI nt), .ref (ad 23)]) ⟨hx, hb, hml, hown, hts⟩ (c_X5_isSingle l x) (va_cwS 1 hts gX5_load_X5_isSingle rfl rfl rfl (by decide +kernel) ⟨Nat.le_of_ble_eq_true rfl, Nat.le_of_ble_eq_true rfl⟩) preEq rfl rfl hl.1 rfl (lv_room (Nat.le_of_ble_eq_true rfl)) dX5_load_101 ⟨Nat.le_of_ble_eq_true rfl, Nat.le_of_ble_eq_true rfl⟩) ?_
          refine cy_topi (y := cy_b true) (congrArg cy_b b4) ?_
          refine lv_if_eq (tgt := 111) hx hb dX5_load_104 (by decide) (fun h25 => absurd h25 (by decide)) (fun h25 => ?_)
          refine lv_iload_n hx hb dX5_load_107 rfl (lv_at hl 2 rfl) ?_
          refine lv_goto (tgt := 112) hx hb dX5_load_108 (by decide) ?_
          refine cy_stT3 (k := nt) (v := q) hx hb hK hI hS (cy_lt80 hn (by assumption)) dX5_load_112 (fun H locs hI hS => ?_)
          refine lv_iconst (v := 0) hx hb dX5_load_113 (by decide) ?_
          refine lv_istore_n (lv' := [(3, .int 0), (0, .ref (ad 20)), (1, .int x), (2, .int q)]) hx hb dX5_load_114 rfl hl (by decide) rfl (fun ls hl => ?_)
          refine lv_iload_n hx hb dX5_load_115 rfl (lv_at hl 0 rfl) ?_
          refine lv_bipush (v := 6) hx hb dX5_load_116 (by decide) ?_
          refine lv_icmp_ge (tgt := 157) hx hb dX5_load_118 (by decide) (fun h26 => absurd h26 (by decide)) (fun h26 => ?_)
          refine lv_aload_n hx hb dX5_load_121 rfl (lv_at hl 1 rfl) ?_
          refine cy_getT (v := .ref (ad 24)) hx hb hts hin5 hown hK hI 4 (by decide) (hts (.fieldLink RX5 19 "CustomsYardModel" "numbers" "[J") (by decide +kernel)) rfl dX5_load_122 ?_
          refine lv_bipush (v := 6) hx hb dX5_load_125 (by decide) ?_
          refine lv_aload_n hx hb dX5_load_127 rfl (lv_at hl 1 rfl) ?_
          refine cy_getT (v := .int (τ.1 0 0)) hx hb hts hin5 hown hK hI 0 (by decide) (hts (.fieldLink RX5 44 "CustomsYardModel" "loads" "I") (by decide +kernel)) rfl dX5_load_128 ?_
          refine cy_topi (y := nI nt) (h0) ?_
          refine lv_imul hx hb dX5_load_131 ?_
          refine lv_iload_n hx hb dX5_load_132 rfl (lv_at hl 0 rfl) ?_
          refine lv_iadd hx hb dX5_load_133 ?_
          refine cy_topi (y := nI (6 * nt + 0)) (cy_ix nt 0) ?_
          refine lv_lconst (v := 0) hx hb dX5_load_134 (by decide) ?_
          refine cy_stT4 (k := (6 * nt + 0)) (v := 0) hx hb hK hI hS (by have := cy_lt80 hn (by assumption); omega) dX5_load_135 (fun H locs hI hS => ?_)
          refine lv_aload_n hx hb dX5_load_136 rfl (lv_at hl 1 rfl) ?_
          refine cy_getT (v := .ref (ad 25)) hx hb hts hin5 hown hK hI 5 (by decide) (hts (.fieldLink RX5 23 "CustomsYardModel" "things" "[I") (by decide +kernel)) rfl dX5_load_137 ?_
          refine lv_bipush (v := 6) hx hb dX5_load_140 (by decide) ?_
          refine lv_aload_n hx hb dX5_load_142 rfl (lv_at hl 1 rfl) ?_
          refine cy_getT (v := .int (τ.1 0 0)) hx hb hts hin5 hown hK hI 0 (by decide) (hts (.fieldLink RX5 44 "CustomsYardModel" "loads" "I") (by decide +kernel)) rfl dX5_load_143 ?_
          refine cy_topi (y := nI nt) (h0) ?_
          refine lv_imul hx hb dX5_load_146 ?_
          refine lv_iload_n hx hb dX5_load_147 rfl (lv_at hl 0 rfl) ?_
          refine lv_iadd hx hb dX5_load_148 ?_
          refine cy_topi (y := nI (6 * nt + 0)) (cy_ix nt 0) ?_
          refine lv_iconst (v := -1) hx hb dX5_load_149 (by decide) ?_
          refine cy_stT5 (k := (6 * nt + 0)) (v := (-1)) hx hb hK hI hS (by have := cy_lt80 hn (by assumption); omega) dX5_load_150 (fun H locs hI hS => ?_)
          refine lv_iinc (v := 1) (lv' := [(3, .int 1), (0, .ref (ad 20)), (1, .int x), (2, .int q)]) hx hb dX5_load_151 hl (k := 0) rfl (by decide) (by decide) rfl (fun ls hl => ?_)
          refine lv_goto (tgt := 115) hx hb dX5_load_154 (by decide) ?_
          refine lv_iload_n hx hb dX5_load_115 rfl (lv_at hl 0 rfl) ?_
          refine lv_bipush (v := 6) hx hb dX5_load_116 (by decide) ?_
          refine lv_icmp_ge (tgt := 157) hx hb dX5_load_118 (by decide) (fun h27 => absurd h27 (by decide)) (fun h27 => ?_)
          refine lv_aload_n hx hb dX5_load_121 rfl (lv_at hl 1 rfl) ?_
          refine cy_getT (v := .ref (ad 24)) hx hb hts hin5 hown hK hI 4 (by decide) (hts (.fieldLink RX5 19 "CustomsYardModel" "numbers" "[J") (by decide +kernel)) rfl dX5_load_122 ?_
          refine lv_bipush (v := 6) hx hb dX5_load_125 (by decide) ?_
          refine lv_aload_n hx hb dX5_load_127 rfl (lv_at hl 1 rfl) ?_
          refine cy_getT (v := .int (τ.1 0 0)) hx hb hts hin5 hown hK hI 0 (by decide) (hts (.fieldLink RX5 44 "CustomsYardModel" "loads" "I") (by decide +kernel)) rfl dX5_load_128 ?_
          refine cy_topi (y := nI nt) (h0) ?_
          refine lv_imul hx hb dX5_load_131 ?_
          refine lv_iload_n hx hb dX5_load_132 rfl (lv_at hl 0 rfl) ?_
          refine lv_iadd hx hb dX5_load_133 ?_
          refine cy_topi (y := nI (6 * nt + 1)) (cy_ix nt 1) ?_
          refine lv_lconst (v := 0) hx hb dX5_load_134 (by decide) ?_
          refine cy_stT4 (k := (6 * nt + 1)) (v := 0) hx hb hK hI hS (by have := cy_lt80 hn (by assumption); omega) dX5_load_135 (fun H locs hI hS => ?_)
          refine lv_aload_n hx hb dX5_load_136 rfl (lv_at hl 1 rfl) ?_
          refine cy_getT (v := .ref (ad 25)) hx hb hts hin5 hown hK hI 5 (by decide) (hts (.fieldLink RX5 23 "CustomsYardModel" "things" "[I") (by decide +kernel)) rfl dX5_load_137 ?_
          refine lv_bipush (v := 6) hx hb dX5_load_140 (by decide) ?_
          refine lv_aload_n hx hb dX5_load_142 rfl (lv_at hl 1 rfl) ?_
          refine cy_getT (v := .int (τ.1 0 0)) hx hb hts hin5 hown hK hI 0 (by decide) (hts (.fieldLink RX5 44 "CustomsYardModel" "loads" "I") (by decide +kernel)) rfl dX5_load_143 ?_
          refine cy_topi (y := nI nt) (h0) ?_
          refine lv_imul hx hb dX5_load_146 ?_
          refine lv_iload_n hx hb dX5_load_147 rfl (lv_at hl 0 rfl) ?_
          refine lv_iadd hx hb dX5_load_148 ?_
          refine cy_topi (y := nI (6 * nt + 1)) (cy_ix nt 1) ?_
          refine lv_iconst (v := -1) hx hb dX5_load_149 (by decide) ?_
          refine cy_stT5 (k := (6 * nt + 1)) (v := (-1)) hx hb hK hI hS (by have := cy_lt80 hn (by assumption); omega) dX5_load_150 (fun H locs hI hS => ?_)
          refine lv_iinc (v := 2) (lv' := [(3, .int 2), (0, .ref (ad 20)), (1, .int x), (2, .int q)]) hx hb dX5_load_151 hl (k := 0) rfl (by decide) (by decide) rfl (fun ls hl => ?_)
          refine lv_goto (tgt := 115) hx hb dX5_load_154 (by decide) ?_
          refine lv_iload_n hx hb dX5_load_115 rfl (lv_at hl 0 rfl) ?_
          refine lv_bipush (v := 6) hx hb dX5_load_116 (by decide) ?_
          refine lv_icmp_ge (tgt := 157) hx hb dX5_load_118 (by decide) (fun h28 => absurd h28 (by decide)) (fun h28 => ?_)
          refine lv_aload_n hx hb dX5_load_121 rfl (lv_at hl 1 rfl) ?_
          refine cy_getT (v := .ref (ad 24)) hx hb hts hin5 hown hK hI 4 (by decide) (hts (.fieldLink RX5 19 "CustomsYardModel" "numbers" "[J") (by decide +kernel)) rfl dX5_load_122 ?_
          refine lv_bipush (v := 6) hx hb dX5_load_125 (by decide) ?_
          refine lv_aload_n hx hb dX5_load_127 rfl (lv_at hl 1 rfl) ?_
          refine cy_getT (v := .int (τ.1 0 0)) hx hb hts hin5 hown hK hI 0 (by decide) (hts (.fieldLink RX5 44 "CustomsYardModel" "loads" "I") (by decide +kernel)) rfl dX5_load_128 ?_
          refine cy_topi (y := nI nt) (h0) ?_
          refine lv_imul hx hb dX5_load_131 ?_
          refine lv_iload_n hx hb dX5_load_132 rfl (lv_at hl 0 rfl) ?_
          refine lv_iadd hx hb dX5_load_133 ?_
          refine cy_topi (y := nI (6 * nt + 2)) (cy_ix nt 2) ?_
          refine lv_lconst (v := 0) hx hb dX5_load_134 (by decide) ?_
          refine cy_stT4 (k := (6 * nt + 2)) (v := 0) hx hb hK hI hS (by have := cy_lt80 hn (by assumption); omega) dX5_load_135 (fun H locs hI hS => ?_)
          refine lv_aload_n hx hb dX5_load_136 rfl (lv_at hl 1 rfl) ?_
          refine cy_getT (v := .ref (ad 25)) hx hb hts hin5 hown hK hI 5 (by decide) (hts (.fieldLink RX5 23 "CustomsYardModel" "things" "[I") (by decide +kernel)) rfl dX5_load_137 ?_
          refine lv_bipush (v := 6) hx hb dX5_load_140 (by decide) ?_
          refine lv_aload_n hx hb dX5_load_142 rfl (lv_at hl 1 rfl) ?_
          refine cy_getT (v := .int (τ.1 0 0)) hx hb hts hin5 hown hK hI 0 (by decide) (hts (.fieldLink RX5 44 "CustomsYardModel" "loads" "I") (by decide +kernel)) rfl dX5_load_143 ?_
          refine cy_topi (y := nI nt) (h0) ?_
          refine lv_imul hx hb dX5_load_146 ?_
          refine lv_iload_n hx hb dX5_load_147 rfl (lv_at hl 0 rfl) ?_
          refine lv_iadd hx hb dX5_load_148 ?_
          refine cy_topi (y := nI (6 * nt + 2)) (cy_ix nt 2) ?_
          refine lv_iconst (v := -1) hx hb dX5_load_149 (by decide) ?_
          refine cy_stT5 (k := (6 * nt + 2)) (v := (-1)) hx hb hK hI hS (by have := cy_lt80 hn (by assumption); omega) dX5_load_150 (fun H locs hI hS => ?_)
          refine lv_iinc (v := 3) (lv' := [(3, .int 3), (0, .ref (ad 20)), (1, .int x), (2, .int q)]) hx hb dX5_load_151 hl (k := 0) rfl (by decide) (by decide) rfl (fun ls hl => ?_)
          refine lv_goto (tgt := 115) hx hb dX5_load_154 (by decide) ?_
          refine lv_iload_n hx hb dX5_load_115 rfl (lv_at hl 0 rfl) ?_
          refine lv_bipush (v := 6) hx hb dX5_load_116 (by decide) ?_
          refine lv_icmp_ge (tgt := 157) hx hb dX5_load_118 (by decide) (fun h29 => absurd h29 (by decide)) (fun h29 => ?_)
          refine lv_aload_n hx hb dX5_load_121 rfl (lv_at hl 1 rfl) ?_
          refine cy_getT (v := .ref (ad 24)) hx hb hts hin5 hown hK hI 4 (by decide) (hts (.fieldLink RX5 19 "CustomsYardModel" "numbers" "[J") (by decide +kernel)) rfl dX5_load_122 ?_
          refine lv_bipush (v := 6) hx hb dX5_load_125 (by decide) ?_
          refine lv_aload_n hx hb dX5_load_127 rfl (lv_at hl 1 rfl) ?_
          refine cy_getT (v := .int (τ.1 0 0)) hx hb hts hin5 hown hK hI 0 (by decide) (hts (.fieldLink RX5 44 "CustomsYardModel" "loads" "I") (by decide +kernel)) rfl dX5_load_128 ?_
          refine cy_topi (y := nI nt) (h0) ?_
          refine lv_imul hx hb dX5_load_131 ?_
          refine lv_iload_n hx hb dX5_load_132 rfl (lv_at hl 0 rfl) ?_
          refine lv_iadd hx hb dX5_load_133 ?_
          refine cy_topi (y := nI (6 * nt + 3)) (cy_ix nt 3) ?_
          refine lv_lconst (v := 0) hx hb dX5_load_134 (by decide) ?_
          refine cy_stT4 (k := (6 * nt + 3)) (v := 0) hx hb hK hI hS (by have := cy_lt80 hn (by assumption); omega) dX5_load_135 (fun H locs hI hS => ?_)
          refine lv_aload_n hx hb dX5_load_136 rfl (lv_at hl 1 rfl) ?_
          refine cy_getT (v := .ref (ad 25)) hx hb hts hin5 hown hK hI 5 (by decide) (hts (.fieldLink RX5 23 "CustomsYardModel" "things" "[I") (by decide +kernel)) rfl dX5_load_137 ?_
          refine lv_bipush (v := 6) hx hb dX5_load_140 (by decide) ?_
          refine lv_aload_n hx hb dX5_load_142 rfl (lv_at hl 1 rfl) ?_
          refine cy_getT (v := .int (τ.1 0 0)) hx hb hts hin5 hown hK hI 0 (by decide) (hts (.fieldLink RX5 44 "CustomsYardModel" "loads" "I") (by decide +kernel)) rfl dX5_load_143 ?_
          refine cy_topi (y := nI nt) (h0) ?_
          refine lv_imul hx hb dX5_load_146 ?_
          refine lv_iload_n hx hb dX5_load_147 rfl (lv_at hl 0 rfl) ?_
          refine lv_iadd hx hb dX5_load_148 ?_
          refine cy_topi (y := nI (6 * nt + 3)) (cy_ix nt 3) ?_
          refine lv_iconst (v := -1) hx hb dX5_load_149 (by decide) ?_
          refine cy_stT5 (k := (6 * nt + 3)) (v := (-1)) hx hb hK hI hS (by have := cy_lt80 hn (by assumption); omega) dX5_load_150 (fun H locs hI hS => ?_)
          refine lv_iinc (v := 4) (lv' := [(3, .int 4), (0, .ref (ad 20)), (1, .int x), (2, .int q)]) hx hb dX5_load_151 hl (k := 0) rfl (by decide) (by decide) rfl (fun ls hl => ?_)
          refine lv_goto (tgt := 115) hx hb dX5_load_154 (by decide) ?_
          refine lv_iload_n hx hb dX5_load_115 rfl (lv_at hl 0 rfl) ?_
          refine lv_bipush (v := 6) hx hb dX5_load_116 (by decide) ?_
          refine lv_icmp_ge (tgt := 157) hx hb dX5_load_118 (by decide) (fun h30 => absurd h30 (by decide)) (fun h30 => ?_)
          refine lv_aload_n hx hb dX5_load_121 rfl (lv_at hl 1 rfl) ?_
          refine cy_getT (v := .ref (ad 24)) hx hb hts hin5 hown hK hI 4 (by decide) (hts (.fieldLink RX5 19 "CustomsYardModel" "numbers" "[J") (by decide +kernel)) rfl dX5_load_122 ?_
          refine lv_bipush (v := 6) hx hb dX5_load_125 (by decide) ?_
          refine lv_aload_n hx hb dX5_load_127 rfl (lv_at hl 1 rfl) ?_
          refine cy_getT (v := .int (τ.1 0 0)) hx hb hts hin5 hown hK hI 0 (by decide) (hts (.fieldLink RX5 44 "CustomsYardModel" "loads" "I") (by decide +kernel)) rfl dX5_load_128 ?_
          refine cy_topi (y := nI nt) (h0) ?_
          refine lv_imul hx hb dX5_load_131 ?_
          refine lv_iload_n hx hb dX5_load_132 rfl (lv_at hl 0 rfl) ?_
          refine lv_iadd hx hb dX5_load_133 ?_
          refine cy_topi (y := nI (6 * nt + 4)) (cy_ix nt 4) ?_
          refine lv_lconst (v := 0) hx hb dX5_load_134 (by decide) ?_
          refine cy_stT4 (k := (6 * nt + 4)) (v := 0) hx hb hK hI hS (by have := cy_lt80 hn (by assumption); omega) dX5_load_135 (fun H locs hI hS => ?_)
          refine lv_aload_n hx hb dX5_load_136 rfl (lv_at hl 1 rfl) ?_
          refine cy_getT (v := .ref (ad 25)) hx hb hts hin5 hown hK hI 5 (by decide) (hts (.fieldLink RX5 23 "CustomsYardModel" "things" "[I") (by decide +kernel)) rfl dX5_load_137 ?_
          refine lv_bipush (v := 6) hx hb dX5_load_140 (by decide) ?_
          refine lv_aload_n hx hb dX5_load_142 rfl (lv_at hl 1 rfl) ?_
          refine cy_getT (v := .int (τ.1 0 0)) hx hb hts hin5 hown hK hI 0 (by decide) (hts (.fieldLink RX5 44 "CustomsYardModel" "loads" "I") (by decide +kernel)) rfl dX5_load_143 ?_
          refine cy_topi (y := nI nt) (h0) ?_
          refine lv_imul hx hb dX5_load_146 ?_
          refine lv_iload_n hx hb dX5_load_147 rfl (lv_at hl 0 rfl) ?_
          refine lv_iadd hx hb dX5_load_148 ?_
          refine cy_topi (y := nI (6 * nt + 4)) (cy_ix nt 4) ?_
          refine lv_iconst (v := -1) hx hb dX5_load_149 (by decide) ?_
          refine cy_stT5 (k := (6 * nt + 4)) (v := (-1)) hx hb hK hI hS (by have := cy_lt80 hn (by assumption); omega) dX5_load_150 (fun H locs hI hS => ?_)
          refine lv_iinc (v := 5) (lv' := [(3, .int 5), (0, .ref (ad 20)), (1, .int x), (2, .int q)]) hx hb dX5_load_151 hl (k := 0) rfl (by decide) (by decide) rfl (fun ls hl => ?_)
          refine lv_goto (tgt := 115) hx hb dX5_load_154 (by decide) ?_
          refine lv_iload_n hx hb dX5_load_115 rfl (lv_at hl 0 rfl) ?_
          refine lv_bipush (v := 6) hx hb dX5_load_116 (by decide) ?_
          refine lv_icmp_ge (tgt := 157) hx hb dX5_load_118 (by decide) (fun h31 => absurd h31 (by decide)) (fun h31 => ?_)
          refine lv_aload_n hx hb dX5_load_121 rfl (lv_at hl 1 rfl) ?_
          refine cy_getT (v := .ref (ad 24)) hx hb hts hin5 hown hK hI 4 (by decide) (hts (.fieldLink RX5 19 "CustomsYardModel" "numbers" "[J") (by decide +kernel)) rfl dX5_load_122 ?_
          refine lv_bipush (v := 6) hx hb dX5_load_125 (by decide) ?_
          refine lv_aload_n hx hb dX5_load_127 rfl (lv_at hl 1 rfl) ?_
          refine cy_getT (v := .int (τ.1 0 0)) hx hb hts hin5 hown hK hI 0 (by decide) (hts (.fieldLink RX5 44 "CustomsYardModel" "loads" "I") (by decide +kernel)) rfl dX5_load_128 ?_
          refine cy_topi (y := nI nt) (h0) ?_
          refine lv_imul hx hb dX5_load_131 ?_
          refine lv_iload_n hx hb dX5_load_132 rfl (lv_at hl 0 rfl) ?_
          refine lv_iadd hx hb dX5_load_133 ?_
          refine cy_topi (y := nI (6 * nt + 5)) (cy_ix nt 5) ?_
          refine lv_lconst (v := 0) hx hb dX5_load_134 (by decide) ?_
          refine cy_stT4 (k := (6 * nt + 5)) (v := 0) hx hb hK hI hS (by have := cy_lt80 hn (by assumption); omega) dX5_load_135 (fun H locs hI hS => ?_)
          refine lv_aload_n hx hb dX5_load_136 rfl (lv_at hl 1 rfl) ?_
          refine cy_getT (v := .ref (ad 25)) hx hb hts hin5 hown hK hI 5 (by decide) (hts (.fieldLink RX5 23 "CustomsYardModel" "things" "[I") (by decide +kernel)) rfl dX5_load_137 ?_
          refine lv_bipush (v := 6) hx hb dX5_load_140 (by decide) ?_
          refine lv_aload_n hx hb dX5_load_142 rfl (lv_at hl 1 rfl) ?_
          refine cy_getT (v := .int (τ.1 0 0)) hx hb hts hin5 hown hK hI 0 (by decide) (hts (.fieldLink RX5 44 "CustomsYardModel" "loads" "I") (by decide +kernel)) rfl dX5_load_143 ?_
          refine cy_topi (y := nI nt) (h0) ?_
          refine lv_imul hx hb dX5_load_146 ?_
          refine lv_iload_n hx hb dX5_load_147 rfl (lv_at hl 0 rfl) ?_
          refine lv_iadd hx hb dX5_load_148 ?_
          refine cy_topi (y := nI (6 * nt + 5)) (cy_ix nt 5) ?_
          refine lv_iconst (v := -1) hx hb dX5_load_149 (by decide) ?_
          refine cy_stT5 (k := (6 * nt + 5)) (v := (-1)) hx hb hK hI hS (by have := cy_lt80 hn (by assumption); omega) dX5_load_150 (fun H locs hI hS => ?_)
          refine lv_iinc (v := 6) (lv' := [(3, .int 6), (0, .ref (ad 20)), (1, .int x), (2, .int q)]) hx hb dX5_load_151 hl (k := 0) rfl (by decide) (by decide) rfl (fun ls hl => ?_)
          refine lv_goto (tgt := 115) hx hb dX5_load_154 (by decide) ?_
          refine lv_iload_n hx hb dX5_load_115 rfl (lv_at hl 0 rfl) ?_
          refine lv_bipush (v := 6) hx hb dX5_load_116 (by decide) ?_
          refine lv_icmp_ge (tgt := 157) hx hb dX5_load_118 (by decide) (fun h32 => ?_) (fun h32 => absurd (by decide) h32)
          refine lv_aload_n hx hb dX5_load_157 rfl (lv_at hl 1 rfl) ?_
          refine lv_dup hx hb dX5_load_158 rfl ?_
          refine cy_getT (v := .int (τ.1 0 0)) hx hb hts hin5 hown hK hI 0 (by decide) (hts (.fieldLink RX5 44 "CustomsYardModel" "loads" "I") (by decide +kernel)) rfl dX5_load_159 ?_
          refine cy_topi (y := nI nt) (h0) ?_
          refine lv_iconst (v := 1) hx hb dX5_load_162 (by decide) ?_
          refine lv_iadd hx hb dX5_load_163 ?_
          refine cy_topi (y := nI (nt + 1)) (nI_1 nt) ?_
          refine cy_putT (v := nI (nt + 1)) hx hb hts hin5 hown hK hI hS 0 0 (by decide) (hts (.fieldLink RX5 44 "CustomsYardModel" "loads" "I") (by decide +kernel)) rfl (by decide +kernel) rfl dX5_load_164 (fun H locs hI hS => ?_)
          refine lv_aload_n hx hb dX5_load_167 rfl (lv_at hl 1 rfl) ?_
          refine cy_getT (v := .int (nI (nt + 1))) hx hb hts hin5 hown hK hI 0 (by decide) (hts (.fieldLink RX5 44 "CustomsYardModel" "loads" "I") (by decide +kernel)) rfl dX5_load_168 ?_
          refine lv_iconst (v := 1) hx hb dX5_load_171 (by decide) ?_
          refine lv_isub hx hb dX5_load_172 ?_
          refine cy_topi (y := nI nt) (nI_pred nt) ?_
          have E : cy_oLoad nt τ x q = (nI nt, cy_i (cy_i (cy_l (cy_i (cy_l (cy_i (cy_l (cy_i (cy_l (cy_i (cy_l (cy_i (cy_l (cy_i (cy_i (cy_i (cy_i τ 0 2 0) 1 nt x) 2 nt 0) 3 nt q) 0 (6 * nt + 0) 0) 4 (6 * nt + 0) (-1)) 0 (6 * nt + 1) 0) 4 (6 * nt + 1) (-1)) 0 (6 * nt + 2) 0) 4 (6 * nt + 2) (-1)) 0 (6 * nt + 3) 0) 4 (6 * nt + 3) (-1)) 0 (6 * nt + 4) 0) 4 (6 * nt + 4) (-1)) 0 (6 * nt + 5) 0) 4 (6 * nt + 5) (-1)) 0 0 (nI (nt + 1))) := by simp [cy_oLoad, cy_z, cy_ldw, cy_clr, b1, b4, b20, show ¬ nt = 80 from fun q => h23 (by rw [q]; rfl)]
          rw [E]
          exact W.iret (v := nI nt) hx hb hr (fun t ht hW => ⟨(), rfl, by rw [ht]; exact hI, hS.F ht⟩) hS.2.2 dX5_load_173
        · refine lv_aload_n hx hb dX5_load_54 rfl (lv_at hl 0 rfl) ?_
          refine lv_bipush (v := -3) hx hb dX5_load_55 (by decide) ?_
          refine cy_callm (va_runV (As := [.int (-3)]) (rest := []) ⟨hx, hb, hml, hown, hts⟩ (c_X5_no l D cI cJ cO z n na σ (cy_i τ 0 2 0) pl hi ad (-3)) (cwV 1 hts gX5_load_X5_no rfl rfl rfl (by decide +kernel) ⟨Nat.le_of_ble_eq_true rfl, Nat.le_of_ble_eq_true rfl⟩) (cy_preV hK hI (cy_recv hK (hI.1 20 _ cy_CR).1 rfl)) rfl rfl hl.1 rfl (lv_room (Nat.le_of_ble_eq_true rfl)) dX5_load_57 ⟨Nat.le_of_ble_eq_true rfl, Nat.le_of_ble_eq_true rfl⟩) hS (fun u H locs hI hz hS => ?_)
          have hI : cy_W D z (cy_CT cI cJ cO n na σ (cy_no (cy_i τ 0 2 0) (-3)) pl hi ad) ad H := hI
          refine W.eq (g2 := F0 m 60 ls [.int (-3)]) rfl ?_
          have E : cy_oLoad nt τ x q = ((-3), cy_no (cy_i τ 0 2 0) (-3)) := by simp [cy_oLoad, cy_z, cy_ldw, cy_clr, b1, b4, b20, show nt = 80 from (nI_eq (by omega) (by decide)).mp h23]
          rw [E]
          exact W.iret (v := (-3)) hx hb hr (fun t ht hW => ⟨(), rfl, by rw [ht]; exact hI, hS.F ht⟩) hS.2.2 dX5_load_60
