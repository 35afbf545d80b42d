def cy_nL (n : Nat) (s q : Int32) : Nat := if cy_isIn s 0 12 = false ∨ cy_isIn q 0 (if cy_sg s = true then 1000 else 6) = false then n else if n = 80 then n else n + 1
section CYZ
variable {p : Program} {l : Launch} {e : Env} {R : Room} {s : State} {m : MethodId} {args : Array Value} {below : List Frame} {meth : Method} {c : Code} {H : Heap} {locs : List Loc} {cells slots : Nat} {Q : State → Prop}
variable {cc : ByteArray} {pc : Nat} {ls : Array Slot} {rest : List Value} {D : va_G} {z : Nat} {H0 : Heap}
variable {cI cJ cO : ClassId} {n na : Nat} {σ τ : cy_S} {pl : Nat → Int32} {hi : Int32} {ad : Nat → Nat}
theorem cy_Yc2 : cy_Y cI cJ cO na σ ad 2 = .inl (cO, 12, .inr (.inr (.inr (.inr (fun j => cy_rf ad (σ.1 5 j)))))) := rfl
theorem cy_hL : ∀ x, cy_CT cI cJ cO (n + 1) (n + 1) σ τ pl hi ad x = if x = 1 then some (.inl (cO, 80, .inr (.inr (.inr (.inr (va_up (fun j => if j < n then some (ad (100 + 2 * j)) else none) n (some (ad (100 + 2 * n))))))))) else cy_CT cI cJ cO (n + 1) n σ τ pl hi ad x := by
  refine cy_hY 1 (by decide) ?_ ?_ (fun _ _ => rfl) (fun _ _ => rfl)
  · rw [cy_Yc1]
    congr 4
    congr 3
    funext j
    unfold va_up
    by_cases h : j = n
    · rw [if_pos h, if_pos (by omega), h]
    · rw [if_neg h]
      show (if j < n + 1 then some (ad (100 + 2 * j)) else none) = (if j < n then some (ad (100 + 2 * j)) else none)
      by_cases h2 : j < n
      · rw [if_pos h2, if_pos (by omega)]
      · rw [if_neg h2, if_neg (by omega)]
  · refine cy_lt7 (fun _ => ?_) (fun h => absurd rfl h) (fun _ => ?_) (fun _ => ?_) (fun _ => ?_) (fun _ => ?_) (fun _ => ?_)
    · rw [cy_Yc0, cy_Yc0]
    · rw [cy_Yc2, cy_Yc2]
    · rw [cy_Yc3, cy_Yc3]
    · rw [cy_Yc4, cy_Yc4]
    · rw [cy_Yc5, cy_Yc5]
    · rw [cy_Yc6, cy_Yc6]
theorem cy_stL (hexec : p.tables.exec = Jvm.exec) (hb : c.code = cc) (hK : cy_K D cI cJ cO s) (hI : cy_W D z (cy_CT cI cJ cO (n + 1) n σ τ pl hi ad) ad H) (hS : va_S (fun q => z ≤ q) H0 H locs) (hn : n < 80) (hdg : decode cc pc = .ok (.aastore, 1))
    (kk : ∀ (H1 : Heap) (locs1 : List Loc), cy_W D z (cy_CT cI cJ cO (n + 1) (n + 1) σ τ pl hi ad) ad H1 → va_S (fun q => z ≤ q) H0 H1 locs1 → W p l e R s m args below meth c H1 locs1 cells slots Q (F0 m (pc + 1) ls rest)) : W p l e R s m args below meth c H locs cells slots Q (F0 m pc ls (.ref (ad (100 + 2 * n)) :: .int (nI n) :: .ref (ad 1) :: rest)) := by
  refine cy_aast hexec hb hK.1 hI hS 2 (x := 1) rfl rfl (cy_any hK hI (Nat.lt_succ_self n)) (vp_in_nI hn (by decide)) hdg ?_ kk
  rw [nI_clamp (by omega)]
  exact cy_hL
end CYZ
theorem cy_eq80 {q : Nat} (h : q ≤ 80) (h1 : ¬ nI q < 80) : q = 80 := by
  rcases Nat.lt_or_ge q 80 with h2 | h2
  · exact absurd (nI_lt (b := 80) h2 (by decide)) h1
  · omega
theorem hin1_X4_load : ∀ w ∈ u_ws RX1 TX1 3, w ∈ wsX4_load := by decide +kernel
theorem hin2_X4_load : ∀ w ∈ u_ws RX2 TX2 3, w ∈ wsX4_load := by decide +kernel
theorem hin3_X4_load : ∀ w ∈ u_ws RX3 TX3 3, w ∈ wsX4_load := by decide +kernel
theorem hin4_X4_load : ∀ w ∈ u_ws RX4 TX4 13, w ∈ wsX4_load := by decide +kernel
set_option maxHeartbeats 4000000 in
set_option maxRecDepth 100000 in
theorem c_X4_load (l : Launch) (D : va_G) (cI cJ cO : ClassId) (z n : Nat) (σ τ : cy_S) (pl : Nat → Int32) (hi : Int32) (ad : Nat → Nat) (hok : cy_ok n σ) (hb12 : ∀ j, 12 ≤ j → σ.1 5 j = -1) (x q : Int32) : Met l yX4_load wsX4_load { frames := 4, cells := 2, slots := 9, locals := 79 } (cy_P D cI cJ cO (fun H => cy_W D z (cy_CT cI cJ cO n n σ τ pl hi ad) ad H) [.ref (ad 0), .int x, .int q]) (cy_M (S := Nat → Nat) z (fun _ => some (.int (cy_oLoad n σ x q).1)) (fun u H => cy_W D z (cy_CT cI cJ cO (cy_nL n x q) (cy_nL n x q) (cy_oLoad n σ x q).2 τ pl hi u) u H ∧ ∀ j, j < 100 → u j = ad j)) 2 9 (fun q => z ≤ q) := by
  refine Met.ofW (cc := cX4_load) (maxL := 4) (ret := (some .int)) (by decide) rfl ?_
  intro p e s m args below meth c s₁ B hml hv
  obtain ⟨rfl, hK, hI⟩ := hv
  have hx := B.exec
  have hb := B.bytes
  have hr := B.returns
  have hts := atoms_spec (ws := wsX4_load) B.pre
  have hown : s.vm.findClass RX4 = some m.cls := findClass_of_methodNamed B.named
  have hlocks := B.notSynchronized
  have hS : va_S (fun q => z ≤ q) s.heap s.heap [] := va_S.rf
  have hl := lv_entry ([.ref (ad 0), .int x, .int q]) (n := 4) (Nat.le_of_ble_eq_true rfl)
  rw [lg_entry_eq]
  generalize (lg_sl ([.ref (ad 0), .int x, .int q]) ++ List.replicate (4 - (lg_sl ([.ref (ad 0), .int x, .int q])).length) Slot.unset).toArray = ls at hl ⊢
  have hl : lv_has ls 4 [(0, .ref (ad 0)), (1, .int x), (2, .int q)] := hl
  have hin1 := hin1_X4_load
  have hin2 := hin2_X4_load
  have hin3 := hin3_X4_load
  have hin4 := hin4_X4_load
  have h0 := hok.2.1
  have hn := hok.1
  refine lv_aload_n hx hb dX4_load_0 rfl (lv_at hl 0 rfl) ?_
  refine lv_iconst (v := 0) hx hb dX4_load_1 (by decide) ?_
  refine cy_putY (v := 0) hx hb hts hin4 hown hK hI hS 8 2 (by decide) (hts (.fieldLink RX4 38 "CustomsYard" "refusal" "I") (by decide +kernel)) rfl (by decide +kernel) rfl dX4_load_2 (fun H locs hI hS => ?_)
  refine lv_iload_n hx hb dX4_load_5 rfl (lv_at hl 1 rfl) ?_
  refine lv_if_lt (tgt := 27) hx hb dX4_load_6 (by decide) (fun h1 => ?_) (fun h1 => ?_)
  · refine lv_aload_n hx hb dX4_load_27 rfl (lv_at hl 0 rfl) ?_
    refine lv_bipush (v := -2) hx hb dX4_load_28 (by decide) ?_
    refine cy_callm (va_runV (As := [.int (-2)]) (rest := []) ⟨hx, hb, hml, hown, hts⟩ (c_X4_refuse l D cI cJ cO z n (cy_i σ 0 2 0) τ pl hi ad (-2)) (cwV 1 hts gX4_load_X4_refuse rfl rfl rfl (by decide +kernel) ⟨Nat.le_of_ble_eq_true rfl, Nat.le_of_ble_eq_true rfl⟩) (cy_preV hK hI (cy_recv hK (hI.1 0 _ cy_CY).1 rfl)) rfl rfl hl.1 rfl (lv_room (Nat.le_of_ble_eq_true rfl)) dX4_load_30 ⟨Nat.le_of_ble_eq_true rfl, Nat.le_of_ble_eq_true rfl⟩) hS (fun u H locs hI hz hS => ?_)
    have hI : cy_W D z (cy_CT cI cJ cO n n (cy_no (cy_i σ 0 2 0) (-2)) τ pl hi ad) ad H := hI
    refine W.eq (g2 := F0 m 33 ls [.int (-2)]) rfl ?_
    have E : cy_oLoad n σ x q = ((-2), cy_no (cy_i σ 0 2 0) (-2)) := by simp [cy_oLoad, cy_z, cy_isIn, h1]
    have E2 : cy_nL n x q = n := by simp [cy_nL, cy_isIn, h1]
    rw [E, E2]
    refine W.widen (k := 2) (n := 9) (Nat.le_of_ble_eq_true rfl) (Nat.le_of_ble_eq_true rfl) ?_
    exact W.iret (v := (-2)) hx hb hr (fun t ht hW => ⟨ad, rfl, by rw [ht]; exact ⟨hI, fun _ _ => rfl⟩, hS.F ht⟩) hS.2.2 dX4_load_33
  · refine lv_iload_n hx hb dX4_load_9 rfl (lv_at hl 1 rfl) ?_
    refine lv_bipush (v := 12) hx hb dX4_load_10 (by decide) ?_
    refine lv_icmp_gt (tgt := 27) hx hb dX4_load_12 (by decide) (fun h2 => ?_) (fun h2 => ?_)
    · refine lv_aload_n hx hb dX4_load_27 rfl (lv_at hl 0 rfl) ?_
      refine lv_bipush (v := -2) hx hb dX4_load_28 (by decide) ?_
      refine cy_callm (va_runV (As := [.int (-2)]) (rest := []) ⟨hx, hb, hml, hown, hts⟩ (c_X4_refuse l D cI cJ cO z n (cy_i σ 0 2 0) τ pl hi ad (-2)) (cwV 1 hts gX4_load_X4_refuse rfl rfl rfl (by decide +kernel) ⟨Nat.le_of_ble_eq_true rfl, Nat.le_of_ble_eq_true rfl⟩) (cy_preV hK hI (cy_recv hK (hI.1 0 _ cy_CY).1 rfl)) rfl rfl hl.1 rfl (lv_room (Nat.le_of_ble_eq_true rfl)) dX4_load_30 ⟨Nat.le_of_ble_eq_true rfl, Nat.le_of_ble_eq_true rfl⟩) hS (fun u H locs hI hz hS => ?_)
      have hI : cy_W D z (cy_CT cI cJ cO n n (cy_no (cy_i σ 0 2 0) (-2)) τ pl hi ad) ad H := hI
      refine W.eq (g2 := F0 m 33 ls [.int (-2)]) rfl ?_
      have E : cy_oLoad n σ x q = ((-2), cy_no (cy_i σ 0 2 0) (-2)) := by simp [cy_oLoad, cy_z, cy_isIn, h1, h2]
      have E2 : cy_nL n x q = n := by simp [cy_nL, cy_isIn, h1, h2]
      rw [E, E2]
      refine W.widen (k := 2) (n := 9) (Nat.le_of_ble_eq_true rfl) (Nat.le_of_ble_eq_true rfl) ?_
      exact W.iret (v := (-2)) hx hb hr (fun t ht hW => ⟨ad, rfl, by rw [ht]; exact ⟨hI, fun _ _ => rfl⟩, hS.F ht⟩) hS.2.2 dX4_load_33
    · refine lv_iload_n hx hb dX4_load_15 rfl (lv_at hl 2 rfl) ?_
      refine lv_if_lt (tgt := 27) hx hb dX4_load_16 (by decide) (fun h3 => ?_) (fun h3 => ?_)
      · refine lv_aload_n hx hb dX4_load_27 rfl (lv_at hl 0 rfl) ?_
        refine lv_bipush (v := -2) hx hb dX4_load_28 (by decide) ?_
        refine cy_callm (va_runV (As := [.int (-2)]) (rest := []) ⟨hx, hb, hml, hown, hts⟩ (c_X4_refuse l D cI cJ cO z n (cy_i σ 0 2 0) τ pl hi ad (-2)) (cwV 1 hts gX4_load_X4_refuse rfl rfl rfl (by decide +kernel) ⟨Nat.le_of_ble_eq_true rfl, Nat.le_of_ble_eq_true rfl⟩) (cy_preV hK hI (cy_recv hK (hI.1 0 _ cy_CY).1 rfl)) rfl rfl hl.1 rfl (lv_room (Nat.le_of_ble_eq_true rfl)) dX4_load_30 ⟨Nat.le_of_ble_eq_true rfl, Nat.le_of_ble_eq_true rfl⟩) hS (fun u H locs hI hz hS => ?_)
        have hI : cy_W D z (cy_CT cI cJ cO n n (cy_no (cy_i σ 0 2 0) (-2)) τ pl hi ad) ad H := hI
        refine W.eq (g2 := F0 m 33 ls [.int (-2)]) rfl ?_
        have E : cy_oLoad n σ x q = ((-2), cy_no (cy_i σ 0 2 0) (-2)) := by simp [cy_oLoad, cy_z, cy_isIn, h1, h2, h3]
        have E2 : cy_nL n x q = n := by simp [cy_nL, cy_isIn, h1, h2, h3]
        rw [E, E2]
        refine W.widen (k := 2) (n := 9) (Nat.le_of_ble_eq_true rfl) (Nat.le_of_ble_eq_true rfl) ?_
        exact W.iret (v := (-2)) hx hb hr (fun t ht hW => ⟨ad, rfl, by rw [ht]; exact ⟨hI, fun _ _ => rfl⟩, hS.F ht⟩) hS.2.2 dX4_load_33
      · refine lv_iload_n hx hb dX4_load_19 rfl (lv_at hl 2 rfl) ?_
        refine lv_iload_n hx hb dX4_load_20 rfl (lv_at hl 1 rfl) ?_
        refine cy_callp (v := .int (cy_mo x)) (va_runS (As := [.int x]) (rest := [.int q]) ⟨hx, hb, hml, hown, hts⟩ (c_X4_mostOf l x) (va_cwS 1 hts gX4_load_X4_mostOf rfl rfl rfl (by decide +kernel) ⟨Nat.le_of_ble_eq_true rfl, Nat.le_of_ble_eq_true rfl⟩) preEq rfl rfl hl.1 rfl (lv_room (Nat.le_of_ble_eq_true rfl)) dX4_load_21 ⟨Nat.le_of_ble_eq_true rfl, Nat.le_of_ble_eq_true rfl⟩) ?_
        refine lv_icmp_le (tgt := 34) hx hb dX4_load_24 (by decide) (fun h4 => ?_) (fun h4 => ?_)
        · refine lv_aload_n hx hb dX4_load_34 rfl (lv_at hl 0 rfl) ?_
          refine cy_getY (v := .int (σ.1 0 0)) hx hb hts hin4 hown hK hI 1 (by decide) (hts (.fieldLink RX4 49 "CustomsYard" "loadCount" "I") (by decide +kernel)) rfl dX4_load_35 ?_
          refine cy_topi (y := nI n) (h0) ?_
          refine lv_bipush (v := 80) hx hb dX4_load_38 (by decide) ?_
          refine lv_icmp_lt (tgt := 50) hx hb dX4_load_40 (by decide) (fun h5 => ?_) (fun h5 => ?_)
          · refine lv_aload_n hx hb dX4_load_50 rfl (lv_at hl 0 rfl) ?_
            refine cy_getY (v := .int (σ.1 0 0)) hx hb hts hin4 hown hK hI 1 (by decide) (hts (.fieldLink RX4 49 "CustomsYard" "loadCount" "I") (by decide +kernel)) rfl dX4_load_51 ?_
            refine cy_topi (y := nI n) (h0) ?_
            refine lv_istore_n (lv' := [(3, .int (nI n)), (0, .ref (ad 0)), (1, .int x), (2, .int q)]) hx hb dX4_load_54 rfl hl (by decide) rfl (fun ls hl => ?_)
            refine lv_aload_n hx hb dX4_load_55 rfl (lv_at hl 1 rfl) ?_
            refine cy_getY (v := .ref (ad 1)) hx hb hts hin4 hown hK hI 0 (by decide) (hts (.fieldLink RX4 11 "CustomsYard" "loads" "[LCustomsYard$Load;") (by decide +kernel)) rfl dX4_load_56 ?_
            refine lv_iload_n hx hb dX4_load_59 rfl (lv_at hl 0 rfl) ?_
            refine lv_iload_n hx hb dX4_load_60 rfl (lv_at hl 0 rfl) ?_
            refine lv_iload_n hx hb dX4_load_61 rfl (lv_at hl 2 rfl) ?_
            refine lv_iload_n hx hb dX4_load_62 rfl (lv_at hl 3 rfl) ?_
            have hn8 : n < 80 := by rcases Nat.lt_or_ge n 80 with r | r; exact r; exact absurd (nI_lt (a := n) (b := 80) (by have := (show ¬ n = 80 from fun z0 => by rw [z0] at h5; revert h5; decide); omega) (by decide)) (fun _ => absurd r (by have := (show ¬ n = 80 from fun z0 => by rw [z0] at h5; revert h5; decide); omega))
            have hq6 : cy_sg x = false → ∃ p : Nat, p ≤ 6 ∧ q = nI p := fun hsg => by
              obtain ⟨j, hj, e⟩ := nI_of2 (M := 6) (n := 6) rfl h3 (by have h := h4; unfold cy_mo at h; rw [if_neg (by rw [hsg]; decide)] at h; exact h)
              exact ⟨j, hj, e⟩
            refine cy_callm (va_runS (As := [.int (nI n), .int x, .int q]) (rest := [.int (nI n), .ref (ad 1)]) ⟨hx, hb, hml, hown, hts⟩ (c_X4_makeLoad l D cI cJ cO z n (cy_i σ 0 2 0) τ pl hi ad hok hb12 x q hq6) (va_cwS 3 hts gX4_load_X4_makeLoad rfl rfl rfl (by decide +kernel) ⟨Nat.le_of_ble_eq_true rfl, Nat.le_of_ble_eq_true rfl⟩) (cy_preS hK hI) rfl rfl hl.1 rfl (lv_room (Nat.le_of_ble_eq_true rfl)) dX4_load_63 ⟨Nat.le_of_ble_eq_true rfl, Nat.le_of_ble_eq_true rfl⟩) hS (fun u H locs hI hz hS => ?_)
            obtain ⟨hI, hu⟩ := hI
            have hI : cy_W D z (cy_CT cI cJ cO (n + 1) n (cy_mk n (cy_i σ 0 2 0) x q) τ pl hi u) u H := hI
            refine W.eq (g2 := F0 m 66 ls [.ref (u (100 + 2 * n)), .int (nI n), .ref (u 1)]) (by rw [hu 1 (by omega)]; rfl) ?_
            have hl : lv_has ls 4 [(3, .int (nI n)), (0, .ref (u 0)), (1, .int x), (2, .int q)] := by rw [hu 0 (by omega)]; exact hl
            refine cy_stL hx hb hK hI hS hn8 dX4_load_66 (fun H locs hI hS => ?_)
            refine lv_aload_n hx hb dX4_load_67 rfl (lv_at hl 1 rfl) ?_
            refine lv_dup hx hb dX4_load_68 rfl ?_
            refine cy_getY (v := .int ((cy_mk n (cy_i σ 0 2 0) x q).1 0 0)) hx hb hts hin4 hown hK hI 1 (by decide) (hts (.fieldLink RX4 49 "CustomsYard" "loadCount" "I") (by decide +kernel)) rfl dX4_load_69 ?_
            refine cy_topi (y := nI n) (by rw [cy_mk_c _ _ _ _ (by decide) (by decide) (by decide) (by decide)]; exact h0) ?_
            refine lv_iconst (v := 1) hx hb dX4_load_72 (by decide) ?_
            refine lv_iadd hx hb dX4_load_73 ?_
            refine cy_topi (y := nI (n + 1)) (nI_1 n) ?_
            refine cy_putY (v := nI (n + 1)) hx hb hts hin4 hown hK hI hS 1 0 (by decide) (hts (.fieldLink RX4 49 "CustomsYard" "loadCount" "I") (by decide +kernel)) rfl (by decide +kernel) rfl dX4_load_74 (fun H locs hI hS => ?_)
            refine lv_iload_n hx hb dX4_load_77 rfl (lv_at hl 0 rfl) ?_
            have E : cy_oLoad n σ x q = (nI n, cy_i (cy_mk n (cy_i σ 0 2 0) x q) 0 0 (nI (n + 1))) := by simp [cy_oLoad, cy_z, cy_isIn, cy_ldw, cy_mk, h1, h2, h3, show ¬ (if cy_sg x = true then (1000 : Int32) else 6) < q from Int32.not_lt.mpr h4, show ¬ n = 80 from fun z0 => by rw [z0] at h5; revert h5; decide]
            have E2 : cy_nL n x q = n + 1 := by simp [cy_nL, cy_isIn, h1, h2, h3, show ¬ (if cy_sg x = true then (1000 : Int32) else 6) < q from Int32.not_lt.mpr h4, show ¬ n = 80 from fun z0 => by rw [z0] at h5; revert h5; decide]
            rw [E, E2]
            refine W.widen (k := 2) (n := 9) (Nat.le_of_ble_eq_true rfl) (Nat.le_of_ble_eq_true rfl) ?_
            exact W.iret (v := nI n) hx hb hr (fun t ht hW => ⟨u, rfl, by rw [ht]; exact ⟨hI, fun j hj => hu j (by omega)⟩, hS.F ht⟩) hS.2.2 dX4_load_78
          · refine lv_aload_n hx hb dX4_load_43 rfl (lv_at hl 0 rfl) ?_
            refine lv_bipush (v := -3) hx hb dX4_load_44 (by decide) ?_
            refine cy_callm (va_runV (As := [.int (-3)]) (rest := []) ⟨hx, hb, hml, hown, hts⟩ (c_X4_refuse l D cI cJ cO z n (cy_i σ 0 2 0) τ pl hi ad (-3)) (cwV 1 hts gX4_load_X4_refuse rfl rfl rfl (by decide +kernel) ⟨Nat.le_of_ble_eq_true rfl, Nat.le_of_ble_eq_true rfl⟩) (cy_preV hK hI (cy_recv hK (hI.1 0 _ cy_CY).1 rfl)) rfl rfl hl.1 rfl (lv_room (Nat.le_of_ble_eq_true rfl)) dX4_load_46 ⟨Nat.le_of_ble_eq_true rfl, Nat.le_of_ble_eq_true rfl⟩) hS (fun u H locs hI hz hS => ?_)
            have hI : cy_W D z (cy_CT cI cJ cO n n (cy_no (cy_i σ 0 2 0) (-3)) τ pl hi ad) ad H := hI
            refine W.eq (g2 := F0 m 49 ls [.int (-3)]) rfl ?_
            have E : cy_oLoad n σ x q = ((-3), cy_no (cy_i σ 0 2 0) (-3)) := by simp [cy_oLoad, cy_z, cy_isIn, h1, h2, h3, show ¬ (if cy_sg x = true then (1000 : Int32) else 6) < q from Int32.not_lt.mpr h4, show n = 80 from cy_eq80 hn h5]
            have E2 : cy_nL n x q = n := by simp [cy_nL, cy_isIn, h1, h2, h3, show ¬ (if cy_sg x = true then (1000 : Int32) else 6) < q from Int32.not_lt.mpr h4, show n = 80 from cy_eq80 hn h5]
            rw [E, E2]
            refine W.widen (k := 2) (n := 9) (Nat.le_of_ble_eq_true rfl) (Nat.le_of_ble_eq_true rfl) ?_
            exact W.iret (v := (-3)) hx hb hr (fun t ht hW => ⟨ad, rfl, by rw [ht]; exact ⟨hI, fun _ _ => rfl⟩, hS.F ht⟩) hS.2.2 dX4_load_49
        · refine lv_aload_n hx hb dX4_load_27 rfl (lv_at hl 0 rfl) ?_
          refine lv_bipush (v := -2) hx hb dX4_load_28 (by decide) ?_
          refine cy_callm (va_runV (As := [.int (-2)]) (rest := []) ⟨hx, hb, hml, hown, hts⟩ (c_X4_refuse l D cI cJ cO z n (cy_i σ 0 2 0) τ pl hi ad (-2)) (cwV 1 hts gX4_load_X4_refuse rfl rfl rfl (by decide +kernel) ⟨Nat.le_of_ble_eq_true rfl, Nat.le_of_ble_eq_true rfl⟩) (cy_preV hK hI (cy_recv hK (hI.1 0 _ cy_CY).1 rfl)) rfl rfl hl.1 rfl (lv_room (Nat.le_of_ble_eq_true rfl)) dX4_load_30 ⟨Nat.le_of_ble_eq_true rfl, Nat.le_of_ble_eq_true rfl⟩) hS (fun u H locs hI hz hS => ?_)
          have hI : cy_W D z (cy_CT cI cJ cO n n (cy_no (cy_i σ 0 2 0) (-2)) τ pl hi ad) ad H := hI
          refine W.eq (g2 := F0 m 33 ls [.int (-2)]) rfl ?_
          have E : cy_oLoad n σ x q = ((-2), cy_no (cy_i σ 0 2 0) (-2)) := by simp [cy_oLoad, cy_z, cy_isIn, h1, h2, h3, show (if cy_sg x = true then (1000 : Int32) else 6) < q from Int32.not_le.mp h4]
          have E2 : cy_nL n x q = n := by simp [cy_nL, cy_isIn, h1, h2, h3, show (if cy_sg x = true then (1000 : Int32) else 6) < q from Int32.not_le.mp h4]
          rw [E, E2]
          refine W.widen (k := 2) (n := 9) (Nat.le_of_ble_eq_true rfl) (Nat.le_of_ble_eq_true rfl) ?_
          exact W.iret (v := (-2)) hx hb hr (fun t ht hW => ⟨ad, rfl, by rw [ht]; exact ⟨hI, fun _ _ => rfl⟩, hS.F ht⟩) hS.2.2 dX4_load_33
