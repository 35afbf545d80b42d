theorem hin5_X5_init : ∀ w ∈ u_ws RX5 TX5 19, w ∈ wsX5_init := by decide +kernel
set_option maxHeartbeats 4000000 in
set_option maxRecDepth 100000 in
theorem c_X5_init (l : Launch) (D : va_G) (cI cJ cO : ClassId) (z : Nat) (a : Nat) (hz : z ≤ a) (H0 : Heap) : Met l yX5_init wsX5_init { frames := 1, cells := 11, slots := 1304, locals := 12 } (cy_P D cI cJ cO (fun H => H = H0 ∧ va_at D vwCl (a, .inr (4, [.int 0, .null, .null, .null, .null, .null, .null, .null, .null, .int 0, .null, .null, .int 0, .int 0, .int 0, .int 0, .int 0, .null, .int 0])) H) [.ref a]) (cy_M (S := Unit) z (fun _ => none) (fun _ H1 => va_at D vwCl (a, .inr (4, [.int 0, .ref (H0.size + 0), .ref (H0.size + 1), .ref (H0.size + 2), .ref (H0.size + 3), .ref (H0.size + 4), .ref (H0.size + 5), .ref (H0.size + 6), .ref (H0.size + 7), .int 0, .ref (H0.size + 8), .ref (H0.size + 9), .int 0, .int 0, .int 0, .int 0, .int 0, .ref (H0.size + 10), .int 0])) H1 ∧ (∀ i, i < 11 → va_at D vwCl (H0.size + i, va_up (va_up (cy_csT cI cJ) 5 (.inl (cI, 12, .inl (fun _ => -1)))) 6 (.inl (cI, 6, .inl (fun _ => -1))) i) H1) ∧ H1.size = H0.size + 11 ∧ ∀ q : Nat, q < H0.size → q ≠ a → H1[q]? = H0[q]?)) 11 1304 (fun q => z ≤ q) := by
  refine Met.ofW (cc := cX5_init) (maxL := 2) (ret := none) (by decide) rfl ?_
  intro p e s m args below meth c s₁ B hml hv
  obtain ⟨rfl, hK, hI⟩ := hv
  have hx := B.exec
  have hb := B.bytes
  have hr := B.returns
  have hts := atoms_spec (ws := wsX5_init) B.pre
  have hown : s.vm.findClass RX5 = some m.cls := findClass_of_methodNamed B.named
  have hlocks := B.notSynchronized
  have hin : meth.name = "<init>" := (name_of_methodNamed B.named B.method).1
  have hS : va_S (fun q => z ≤ q) s.heap s.heap [] := va_S.rf
  have hl := lv_entry ([.ref a]) (n := 2) (Nat.le_of_ble_eq_true rfl)
  rw [lg_entry_eq]
  generalize (lg_sl ([.ref a]) ++ List.replicate (2 - (lg_sl ([.ref a])).length) Slot.unset).toArray = ls at hl ⊢
  have hl : lv_has ls 2 [(0, .ref a)] := hl
  have hin5 := hin5_X5_init
  obtain ⟨rfl, he⟩ := hI
  have hB : cy_B D s.heap a 4 [.int 0, .null, .null, .null, .null, .null, .null, .null, .null, .int 0, .null, .null, .int 0, .int 0, .int 0, .int 0, .int 0, .null, .int 0] (cy_csT cI cJ) 0 s.heap := ⟨he, fun i hi => absurd hi (Nat.not_lt_zero _), rfl, fun _ _ _ => rfl, he.lt⟩
  clear he
  refine lv_aload_n hx hb dX5_init_0 rfl (lv_at hl 0 rfl) ?_
  refine W.objInit hx hb hown (hts (.methodLink RX5 1 objectInit) (by decide +kernel)) (hts (.instanceMethod objectInit) (by decide +kernel)) (hts (.code objectInit ⟨#[0xb1]⟩ 1 none) (by decide +kernel)) rfl (by rw [hml]; exact hl.1) rfl dX5_init_1 (Nat.le_of_ble_eq_true rfl) (Nat.le_of_ble_eq_true rfl) ?_
  refine W.eq (g2 := F0 m 4 ls []) rfl ?_
  refine lv_aload_n hx hb dX5_init_4 rfl (lv_at hl 0 rfl) ?_
  refine lv_bipush (v := 80) hx hb dX5_init_5 (by decide) ?_
  refine cy_newI (N := 80) hx hb (hts (.arrayClass .int) (by decide +kernel)) hK.1 0 rfl hS (by decide) (by decide) (by decide) (Nat.le_of_ble_eq_true rfl) (Nat.le_of_ble_eq_true rfl) dX5_init_7 (fun H1 hea hs1 ho1 hS => ?_)
  refine W.eq (g2 := F0 m 9 ls (.ref (s.heap.size + 0) :: .ref a :: [])) (by rw [hB.2.2.1]) ?_
  replace hB := hB.new hea hs1 ho1 rfl
  clear hs1 ho1 hea
  refine cy_putF (ci := 4) (Cn := RX5) (T := TX5) (N := 19) (v := .ref (s.heap.size + 0)) hx hb hts hin5 tyX5 tyX5_ok nmX5 hown hK.1 hS hz hB.1 rfl 1 (by decide) (hts (.fieldLink RX5 7 "CustomsYardModel" "sorts" "[I") (by decide +kernel)) (fun _ h9 => h9) rfl hin rfl (ty := .array .int) (by decide +kernel) rfl rfl (Nat.le_of_ble_eq_true rfl) dX5_init_9 (fun H2 locs he hs2 hq2 hS => ?_)
  replace hB := hB.put (fs' := [.int 0, .ref (s.heap.size + 0), .null, .null, .null, .null, .null, .null, .null, .int 0, .null, .null, .int 0, .int 0, .int 0, .int 0, .int 0, .null, .int 0]) he hs2 hq2
  clear he hs2 hq2
  refine lv_aload_n hx hb dX5_init_12 rfl (lv_at hl 0 rfl) ?_
  refine lv_bipush (v := 80) hx hb dX5_init_13 (by decide) ?_
  refine cy_newI (N := 80) hx hb (hts (.arrayClass .int) (by decide +kernel)) hK.1 0 rfl hS (by decide) (by decide) (by decide) (Nat.le_of_ble_eq_true rfl) (Nat.le_of_ble_eq_true rfl) dX5_init_15 (fun H1 hea hs1 ho1 hS => ?_)
  refine W.eq (g2 := F0 m 17 ls (.ref (s.heap.size + 1) :: .ref a :: [])) (by rw [hB.2.2.1]) ?_
  replace hB := hB.new hea hs1 ho1 rfl
  clear hs1 ho1 hea
  refine cy_putF (ci := 4) (Cn := RX5) (T := TX5) (N := 19) (v := .ref (s.heap.size + 1)) hx hb hts hin5 tyX5 tyX5_ok nmX5 hown hK.1 hS hz hB.1 rfl 2 (by decide) (hts (.fieldLink RX5 13 "CustomsYardModel" "sizes" "[I") (by decide +kernel)) (fun _ h9 => h9) rfl hin rfl (ty := .array .int) (by decide +kernel) rfl rfl (Nat.le_of_ble_eq_true rfl) dX5_init_17 (fun H2 locs he hs2 hq2 hS => ?_)
  replace hB := hB.put (fs' := [.int 0, .ref (s.heap.size + 0), .ref (s.heap.size + 1), .null, .null, .null, .null, .null, .null, .int 0, .null, .null, .int 0, .int 0, .int 0, .int 0, .int 0, .null, .int 0]) he hs2 hq2
  clear he hs2 hq2
  refine lv_aload_n hx hb dX5_init_20 rfl (lv_at hl 0 rfl) ?_
  refine lv_bipush (v := 80) hx hb dX5_init_21 (by decide) ?_
  refine cy_newI (N := 80) hx hb (hts (.arrayClass .int) (by decide +kernel)) hK.1 0 rfl hS (by decide) (by decide) (by decide) (Nat.le_of_ble_eq_true rfl) (Nat.le_of_ble_eq_true rfl) dX5_init_23 (fun H1 hea hs1 ho1 hS => ?_)
  refine W.eq (g2 := F0 m 25 ls (.ref (s.heap.size + 2) :: .ref a :: [])) (by rw [hB.2.2.1]) ?_
  replace hB := hB.new hea hs1 ho1 rfl
  clear hs1 ho1 hea
  refine cy_putF (ci := 4) (Cn := RX5) (T := TX5) (N := 19) (v := .ref (s.heap.size + 2)) hx hb hts hin5 tyX5 tyX5_ok nmX5 hown hK.1 hS hz hB.1 rfl 3 (by decide) (hts (.fieldLink RX5 16 "CustomsYardModel" "weights" "[I") (by decide +kernel)) (fun _ h9 => h9) rfl hin rfl (ty := .array .int) (by decide +kernel) rfl rfl (Nat.le_of_ble_eq_true rfl) dX5_init_25 (fun H2 locs he hs2 hq2 hS => ?_)
  replace hB := hB.put (fs' := [.int 0, .ref (s.heap.size + 0), .ref (s.heap.size + 1), .ref (s.heap.size + 2), .null, .null, .null, .null, .null, .int 0, .null, .null, .int 0, .int 0, .int 0, .int 0, .int 0, .null, .int 0]) he hs2 hq2
  clear he hs2 hq2
  refine lv_aload_n hx hb dX5_init_28 rfl (lv_at hl 0 rfl) ?_
  refine lv_sipush (v := 480) hx hb dX5_init_29 (by decide) ?_
  refine cy_newJ (N := 480) hx hb (hts (.arrayClass .long) (by decide +kernel)) hK.1 1 rfl hS (by decide) (by decide) (by decide) (Nat.le_of_ble_eq_true rfl) (Nat.le_of_ble_eq_true rfl) dX5_init_32 (fun H1 hea hs1 ho1 hS => ?_)
  refine W.eq (g2 := F0 m 34 ls (.ref (s.heap.size + 3) :: .ref a :: [])) (by rw [hB.2.2.1]) ?_
  replace hB := hB.new hea hs1 ho1 rfl
  clear hs1 ho1 hea
  refine cy_putF (ci := 4) (Cn := RX5) (T := TX5) (N := 19) (v := .ref (s.heap.size + 3)) hx hb hts hin5 tyX5 tyX5_ok nmX5 hown hK.1 hS hz hB.1 rfl 4 (by decide) (hts (.fieldLink RX5 19 "CustomsYardModel" "numbers" "[J") (by decide +kernel)) (fun _ h9 => h9) rfl hin rfl (ty := .array .long) (by decide +kernel) rfl rfl (Nat.le_of_ble_eq_true rfl) dX5_init_34 (fun H2 locs he hs2 hq2 hS => ?_)
  replace hB := hB.put (fs' := [.int 0, .ref (s.heap.size + 0), .ref (s.heap.size + 1), .ref (s.heap.size + 2), .ref (s.heap.size + 3), .null, .null, .null, .null, .int 0, .null, .null, .int 0, .int 0, .int 0, .int 0, .int 0, .null, .int 0]) he hs2 hq2
  clear he hs2 hq2
  refine lv_aload_n hx hb dX5_init_37 rfl (lv_at hl 0 rfl) ?_
  refine lv_sipush (v := 480) hx hb dX5_init_38 (by decide) ?_
  refine cy_newI (N := 480) hx hb (hts (.arrayClass .int) (by decide +kernel)) hK.1 0 rfl hS (by decide) (by decide) (by decide) (Nat.le_of_ble_eq_true rfl) (Nat.le_of_ble_eq_true rfl) dX5_init_41 (fun H1 hea hs1 ho1 hS => ?_)
  refine W.eq (g2 := F0 m 43 ls (.ref (s.heap.size + 4) :: .ref a :: [])) (by rw [hB.2.2.1]) ?_
  replace hB := hB.new hea hs1 ho1 rfl
  clear hs1 ho1 hea
  refine cy_putF (ci := 4) (Cn := RX5) (T := TX5) (N := 19) (v := .ref (s.heap.size + 4)) hx hb hts hin5 tyX5 tyX5_ok nmX5 hown hK.1 hS hz hB.1 rfl 5 (by decide) (hts (.fieldLink RX5 23 "CustomsYardModel" "things" "[I") (by decide +kernel)) (fun _ h9 => h9) rfl hin rfl (ty := .array .int) (by decide +kernel) rfl rfl (Nat.le_of_ble_eq_true rfl) dX5_init_43 (fun H2 locs he hs2 hq2 hS => ?_)
  replace hB := hB.put (fs' := [.int 0, .ref (s.heap.size + 0), .ref (s.heap.size + 1), .ref (s.heap.size + 2), .ref (s.heap.size + 3), .ref (s.heap.size + 4), .null, .null, .null, .int 0, .null, .null, .int 0, .int 0, .int 0, .int 0, .int 0, .null, .int 0]) he hs2 hq2
  clear he hs2 hq2
  refine lv_aload_n hx hb dX5_init_46 rfl (lv_at hl 0 rfl) ?_
  refine lv_bipush (v := 12) hx hb dX5_init_47 (by decide) ?_
  refine cy_newI (N := 12) hx hb (hts (.arrayClass .int) (by decide +kernel)) hK.1 0 rfl hS (by decide) (by decide) (by decide) (Nat.le_of_ble_eq_true rfl) (Nat.le_of_ble_eq_true rfl) dX5_init_49 (fun H1 hea hs1 ho1 hS => ?_)
  refine W.eq (g2 := F0 m 51 ls (.ref (s.heap.size + 5) :: .ref a :: [])) (by rw [hB.2.2.1]) ?_
  replace hB := hB.new hea hs1 ho1 rfl
  clear hs1 ho1 hea
  refine cy_putF (ci := 4) (Cn := RX5) (T := TX5) (N := 19) (v := .ref (s.heap.size + 5)) hx hb hts hin5 tyX5 tyX5_ok nmX5 hown hK.1 hS hz hB.1 rfl 6 (by decide) (hts (.fieldLink RX5 26 "CustomsYardModel" "bays" "[I") (by decide +kernel)) (fun _ h9 => h9) rfl hin rfl (ty := .array .int) (by decide +kernel) rfl rfl (Nat.le_of_ble_eq_true rfl) dX5_init_51 (fun H2 locs he hs2 hq2 hS => ?_)
  replace hB := hB.put (fs' := [.int 0, .ref (s.heap.size + 0), .ref (s.heap.size + 1), .ref (s.heap.size + 2), .ref (s.heap.size + 3), .ref (s.heap.size + 4), .ref (s.heap.size + 5), .null, .null, .int 0, .null, .null, .int 0, .int 0, .int 0, .int 0, .int 0, .null, .int 0]) he hs2 hq2
  clear he hs2 hq2
  refine lv_aload_n hx hb dX5_init_54 rfl (lv_at hl 0 rfl) ?_
  refine lv_bipush (v := 6) hx hb dX5_init_55 (by decide) ?_
  refine cy_newI (N := 6) hx hb (hts (.arrayClass .int) (by decide +kernel)) hK.1 0 rfl hS (by decide) (by decide) (by decide) (Nat.le_of_ble_eq_true rfl) (Nat.le_of_ble_eq_true rfl) dX5_init_57 (fun H1 hea hs1 ho1 hS => ?_)
  refine W.eq (g2 := F0 m 59 ls (.ref (s.heap.size + 6) :: .ref a :: [])) (by rw [hB.2.2.1]) ?_
  replace hB := hB.new hea hs1 ho1 rfl
  clear hs1 ho1 hea
  refine cy_putF (ci := 4) (Cn := RX5) (T := TX5) (N := 19) (v := .ref (s.heap.size + 6)) hx hb hts hin5 tyX5 tyX5_ok nmX5 hown hK.1 hS hz hB.1 rfl 7 (by decide) (hts (.fieldLink RX5 29 "CustomsYardModel" "gates" "[I") (by decide +kernel)) (fun _ h9 => h9) rfl hin rfl (ty := .array .int) (by decide +kernel) rfl rfl (Nat.le_of_ble_eq_true rfl) dX5_init_59 (fun H2 locs he hs2 hq2 hS => ?_)
  replace hB := hB.put (fs' := [.int 0, .ref (s.heap.size + 0), .ref (s.heap.size + 1), .ref (s.heap.size + 2), .ref (s.heap.size + 3), .ref (s.heap.size + 4), .ref (s.heap.size + 5), .ref (s.heap.size + 6), .null, .int 0, .null, .null, .int 0, .int 0, .int 0, .int 0, .int 0, .null, .int 0]) he hs2 hq2
  clear he hs2 hq2
  refine lv_aload_n hx hb dX5_init_62 rfl (lv_at hl 0 rfl) ?_
  refine lv_bipush (v := 6) hx hb dX5_init_63 (by decide) ?_
  refine cy_newJ (N := 6) hx hb (hts (.arrayClass .long) (by decide +kernel)) hK.1 1 rfl hS (by decide) (by decide) (by decide) (Nat.le_of_ble_eq_true rfl) (Nat.le_of_ble_eq_true rfl) dX5_init_65 (fun H1 hea hs1 ho1 hS => ?_)
  refine W.eq (g2 := F0 m 67 ls (.ref (s.heap.size + 7) :: .ref a :: [])) (by rw [hB.2.2.1]) ?_
  replace hB := hB.new hea hs1 ho1 rfl
  clear hs1 ho1 hea
  refine cy_putF (ci := 4) (Cn := RX5) (T := TX5) (N := 19) (v := .ref (s.heap.size + 7)) hx hb hts hin5 tyX5 tyX5_ok nmX5 hown hK.1 hS hz hB.1 rfl 8 (by decide) (hts (.fieldLink RX5 32 "CustomsYardModel" "sums" "[J") (by decide +kernel)) (fun _ h9 => h9) rfl hin rfl (ty := .array .long) (by decide +kernel) rfl rfl (Nat.le_of_ble_eq_true rfl) dX5_init_67 (fun H2 locs he hs2 hq2 hS => ?_)
  replace hB := hB.put (fs' := [.int 0, .ref (s.heap.size + 0), .ref (s.heap.size + 1), .ref (s.heap.size + 2), .ref (s.heap.size + 3), .ref (s.heap.size + 4), .ref (s.heap.size + 5), .ref (s.heap.size + 6), .ref (s.heap.size + 7), .int 0, .null, .null, .int 0, .int 0, .int 0, .int 0, .int 0, .null, .int 0]) he hs2 hq2
  clear he hs2 hq2
  refine lv_aload_n hx hb dX5_init_70 rfl (lv_at hl 0 rfl) ?_
  refine lv_bipush (v := 10) hx hb dX5_init_71 (by decide) ?_
  refine cy_newI (N := 10) hx hb (hts (.arrayClass .int) (by decide +kernel)) hK.1 0 rfl hS (by decide) (by decide) (by decide) (Nat.le_of_ble_eq_true rfl) (Nat.le_of_ble_eq_true rfl) dX5_init_73 (fun H1 hea hs1 ho1 hS => ?_)
  refine W.eq (g2 := F0 m 75 ls (.ref (s.heap.size + 8) :: .ref a :: [])) (by rw [hB.2.2.1]) ?_
  replace hB := hB.new hea hs1 ho1 rfl
  clear hs1 ho1 hea
  refine cy_putF (ci := 4) (Cn := RX5) (T := TX5) (N := 19) (v := .ref (s.heap.size + 8)) hx hb hts hin5 tyX5 tyX5_ok nmX5 hown hK.1 hS hz hB.1 rfl 10 (by decide) (hts (.fieldLink RX5 35 "CustomsYardModel" "views" "[I") (by decide +kernel)) (fun _ h9 => h9) rfl hin rfl (ty := .array .int) (by decide +kernel) rfl rfl (Nat.le_of_ble_eq_true rfl) dX5_init_75 (fun H2 locs he hs2 hq2 hS => ?_)
  replace hB := hB.put (fs' := [.int 0, .ref (s.heap.size + 0), .ref (s.heap.size + 1), .ref (s.heap.size + 2), .ref (s.heap.size + 3), .ref (s.heap.size + 4), .ref (s.heap.size + 5), .ref (s.heap.size + 6), .ref (s.heap.size + 7), .int 0, .ref (s.heap.size + 8), .null, .int 0, .int 0, .int 0, .int 0, .int 0, .null, .int 0]) he hs2 hq2
  clear he hs2 hq2
  refine lv_aload_n hx hb dX5_init_78 rfl (lv_at hl 0 rfl) ?_
  refine lv_bipush (v := 10) hx hb dX5_init_79 (by decide) ?_
  refine cy_newI (N := 10) hx hb (hts (.arrayClass .int) (by decide +kernel)) hK.1 0 rfl hS (by decide) (by decide) (by decide) (Nat.le_of_ble_eq_true rfl) (Nat.le_of_ble_eq_true rfl) dX5_init_81 (fun H1 hea hs1 ho1 hS => ?_)
  refine W.eq (g2 := F0 m 83 ls (.ref (s.heap.size + 9) :: .ref a :: [])) (by rw [hB.2.2.1]) ?_
  replace hB := hB.new hea hs1 ho1 rfl
  clear hs1 ho1 hea
  refine cy_putF (ci := 4) (Cn := RX5) (T := TX5) (N := 19) (v := .ref (s.heap.size + 9)) hx hb hts hin5 tyX5 tyX5_ok nmX5 hown hK.1 hS hz hB.1 rfl 11 (by decide) (hts (.fieldLink RX5 38 "CustomsYardModel" "rates" "[I") (by decide +kernel)) (fun _ h9 => h9) rfl hin rfl (ty := .array .int) (by decide +kernel) rfl rfl (Nat.le_of_ble_eq_true rfl) dX5_init_83 (fun H2 locs he hs2 hq2 hS => ?_)
  replace hB := hB.put (fs' := [.int 0, .ref (s.heap.size + 0), .ref (s.heap.size + 1), .ref (s.heap.size + 2), .ref (s.heap.size + 3), .ref (s.heap.size + 4), .ref (s.heap.size + 5), .ref (s.heap.size + 6), .ref (s.heap.size + 7), .int 0, .ref (s.heap.size + 8), .ref (s.heap.size + 9), .int 0, .int 0, .int 0, .int 0, .int 0, .null, .int 0]) he hs2 hq2
  clear he hs2 hq2
  refine lv_aload_n hx hb dX5_init_86 rfl (lv_at hl 0 rfl) ?_
  refine lv_bipush (v := 60) hx hb dX5_init_87 (by decide) ?_
  refine cy_newI (N := 60) hx hb (hts (.arrayClass .int) (by decide +kernel)) hK.1 0 rfl hS (by decide) (by decide) (by decide) (Nat.le_of_ble_eq_true rfl) (Nat.le_of_ble_eq_true rfl) dX5_init_89 (fun H1 hea hs1 ho1 hS => ?_)
  refine W.eq (g2 := F0 m 91 ls (.ref (s.heap.size + 10) :: .ref a :: [])) (by rw [hB.2.2.1]) ?_
  replace hB := hB.new hea hs1 ho1 rfl
  clear hs1 ho1 hea
  refine cy_putF (ci := 4) (Cn := RX5) (T := TX5) (N := 19) (v := .ref (s.heap.size + 10)) hx hb hts hin5 tyX5 tyX5_ok nmX5 hown hK.1 hS hz hB.1 rfl 17 (by decide) (hts (.fieldLink RX5 41 "CustomsYardModel" "pile" "[I") (by decide +kernel)) (fun _ h9 => h9) rfl hin rfl (ty := .array .int) (by decide +kernel) rfl rfl (Nat.le_of_ble_eq_true rfl) dX5_init_91 (fun H2 locs he hs2 hq2 hS => ?_)
  replace hB := hB.put (fs' := [.int 0, .ref (s.heap.size + 0), .ref (s.heap.size + 1), .ref (s.heap.size + 2), .ref (s.heap.size + 3), .ref (s.heap.size + 4), .ref (s.heap.size + 5), .ref (s.heap.size + 6), .ref (s.heap.size + 7), .int 0, .ref (s.heap.size + 8), .ref (s.heap.size + 9), .int 0, .int 0, .int 0, .int 0, .int 0, .ref (s.heap.size + 10), .int 0]) he hs2 hq2
  clear he hs2 hq2
  refine lv_iconst (v := 0) hx hb dX5_init_94 (by decide) ?_
  refine lv_istore_n (lv' := [(1, .int 0), (0, .ref a)]) hx hb dX5_init_95 rfl hl (by decide) rfl (fun ls hl => ?_)
  refine lv_iload_n hx hb dX5_init_96 rfl (lv_at hl 0 rfl) ?_
  refine lv_bipush (v := 12) hx hb dX5_init_97 (by decide) ?_
  refine lv_icmp_ge (tgt := 115) hx hb dX5_init_99 (by decide) (fun h1 => absurd h1 (by decide)) (fun h1 => ?_)
  refine lv_aload_n hx hb dX5_init_102 rfl (lv_at hl 1 rfl) ?_
  refine va_get (D := D) (ws := [(a, .inr (4, [.int 0, .ref (s.heap.size + 0), .ref (s.heap.size + 1), .ref (s.heap.size + 2), .ref (s.heap.size + 3), .ref (s.heap.size + 4), .ref (s.heap.size + 5), .ref (s.heap.size + 6), .ref (s.heap.size + 7), .int 0, .ref (s.heap.size + 8), .ref (s.heap.size + 9), .int 0, .int 0, .int 0, .int 0, .int 0, .ref (s.heap.size + 10), .int 0]))]) (ci := 4) (v := .ref (s.heap.size + 5)) (C := RX5) (T := TX5) (N := 19) hx hb hts hin5 hown hK.1 (fun k q hk => by match k, hk with | 0, hk => cases hk; exact hB.1 | k + 1, hk => simp at hk) 0 rfl rfl 6 (by decide) (hts (.fieldLink RX5 26 "CustomsYardModel" "bays" "[I") (by decide +kernel)) (fun _ h9 => h9) rfl dX5_init_103 ?_
  refine lv_iload_n hx hb dX5_init_106 rfl (lv_at hl 0 rfl) ?_
  refine lv_iconst (v := -1) hx hb dX5_init_107 (by decide) ?_
  have hg : va_at D vwCl (s.heap.size + 5, .inl (cI, 12, .inl (fun _ => 0))) _ := hB.2.1 5 (by decide)
  have hz2 : z ≤ s.heap.size + 5 := by have := hB.2.2.2.2; omega
  refine cy_iastR (k := 0) hx hb hK hS hz2 hg rfl (by decide) (by decide) dX5_init_108 (fun H3 locs hg hs3 hq3 hS => ?_)
  replace hB := hB.st hg hs3 hq3
  clear hs3 hq3 hg hz2
  refine lv_iinc (v := 1) (lv' := [(1, .int 1), (0, .ref a)]) hx hb dX5_init_109 hl (k := 0) rfl (by decide) (by decide) rfl (fun ls hl => ?_)
  refine lv_goto (tgt := 96) hx hb dX5_init_112 (by decide) ?_
  refine lv_iload_n hx hb dX5_init_96 rfl (lv_at hl 0 rfl) ?_
  refine lv_bipush (v := 12) hx hb dX5_init_97 (by decide) ?_
  refine lv_icmp_ge (tgt := 115) hx hb dX5_init_99 (by decide) (fun h2 => absurd h2 (by decide)) (fun h2 => ?_)
  refine lv_aload_n hx hb dX5_init_102 rfl (lv_at hl 1 rfl) ?_
  refine va_get (D := D) (ws := [(a, .inr (4, [.int 0, .ref (s.heap.size + 0), .ref (s.heap.size + 1), .ref (s.heap.size + 2), .ref (s.heap.size + 3), .ref (s.heap.size + 4), .ref (s.heap.size + 5), .ref (s.heap.size + 6), .ref (s.heap.size + 7), .int 0, .ref (s.heap.size + 8), .ref (s.heap.size + 9), .int 0, .int 0, .int 0, .int 0, .int 0, .ref (s.heap.size + 10), .int 0]))]) (ci := 4) (v := .ref (s.heap.size + 5)) (C := RX5) (T := TX5) (N := 19) hx hb hts hin5 hown hK.1 (fun k q hk => by match k, hk with | 0, hk => cases hk; exact hB.1 | k + 1, hk => simp at hk) 0 rfl rfl 6 (by decide) (hts (.fieldLink RX5 26 "CustomsYardModel" "bays" "[I") (by decide +kernel)) (fun _ h9 => h9) rfl dX5_init_103 ?_
  refine lv_iload_n hx hb dX5_init_106 rfl (lv_at hl 0 rfl) ?_
  refine lv_iconst (v := -1) hx hb dX5_init_107 (by decide) ?_
  have hg := hB.at (by decide)
  have hz2 : z ≤ s.heap.size + 5 := by have := hB.2.2.2.2; omega
  refine cy_iastR (k := 1) hx hb hK hS hz2 hg rfl (by decide) (by decide) dX5_init_108 (fun H3 locs hg hs3 hq3 hS => ?_)
  replace hB := hB.st2 hg hs3 hq3
  clear hs3 hq3 hg hz2
  refine lv_iinc (v := 2) (lv' := [(1, .int 2), (0, .ref a)]) hx hb dX5_init_109 hl (k := 0) rfl (by decide) (by decide) rfl (fun ls hl => ?_)
  refine lv_goto (tgt := 96) hx hb dX5_init_112 (by decide) ?_
  refine lv_iload_n hx hb dX5_init_96 rfl (lv_at hl 0 rfl) ?_
  refine lv_bipush (v := 12) hx hb dX5_init_97 (by decide) ?_
  refine lv_icmp_ge (tgt := 115) hx hb dX5_init_99 (by decide) (fun h3 => absurd h3 (by decide)) (fun h3 => ?_)
  refine lv_aload_n hx hb dX5_init_102 rfl (lv_at hl 1 rfl) ?_
  refine va_get (D := D) (ws := [(a, .inr (4, [.int 0, .ref (s.heap.size + 0), .ref (s.heap.size + 1), .ref (s.heap.size + 2), .ref (s.heap.size + 3), .ref (s.heap.size + 4), .ref (s.heap.size + 5), .ref (s.heap.size + 6), .ref (s.heap.size + 7), .int 0, .ref (s.heap.size + 8), .ref (s.heap.size + 9), .int 0, .int 0, .int 0, .int 0, .int 0, .ref (s.heap.size + 10), .int 0]))]) (ci := 4) (v := .ref (s.heap.size + 5)) (C := RX5) (T := TX5) (N := 19) hx hb hts hin5 hown hK.1 (fun k q hk => by match k, hk with | 0, hk => cases hk; exact hB.1 | k + 1, hk => simp at hk) 0 rfl rfl 6 (by decide) (hts (.fieldLink RX5 26 "CustomsYardModel" "bays" "[I") (by decide +kernel)) (fun _ h9 => h9) rfl dX5_init_103 ?_
  refine lv_iload_n hx hb dX5_init_106 rfl (lv_at hl 0 rfl) ?_
  refine lv_iconst (v := -1) hx hb dX5_init_107 (by decide) ?_
  have hg := hB.at (by decide)
  have hz2 : z ≤ s.heap.size + 5 := by have := hB.2.2.2.2; omega
  refine cy_iastR (k := 2) hx hb hK hS hz2 hg rfl (by decide) (by decide) dX5_init_108 (fun H3 locs hg hs3 hq3 hS => ?_)
  replace hB := hB.st2 hg hs3 hq3
  clear hs3 hq3 hg hz2
  refine lv_iinc (v := 3) (lv' := [(1, .int 3), (0, .ref a)]) hx hb dX5_init_109 hl (k := 0) rfl (by decide) (by decide) rfl (fun ls hl => ?_)
  refine lv_goto (tgt := 96) hx hb dX5_init_112 (by decide) ?_
  refine lv_iload_n hx hb dX5_init_96 rfl (lv_at hl 0 rfl) ?_
  refine lv_bipush (v := 12) hx hb dX5_init_97 (by decide) ?_
  refine lv_icmp_ge (tgt := 115) hx hb dX5_init_99 (by decide) (fun h4 => absurd h4 (by decide)) (fun h4 => ?_)
  refine lv_aload_n hx hb dX5_init_102 rfl (lv_at hl 1 rfl) ?_
  refine va_get (D := D) (ws := [(a, .inr (4, [.int 0, .ref (s.heap.size + 0), .ref (s.heap.size + 1), .ref (s.heap.size + 2), .ref (s.heap.size + 3), .ref (s.heap.size + 4), .ref (s.heap.size + 5), .ref (s.heap.size + 6), .ref (s.heap.size + 7), .int 0, .ref (s.heap.size + 8), .ref (s.heap.size + 9), .int 0, .int 0, .int 0, .int 0, .int 0, .ref (s.heap.size + 10), .int 0]))]) (ci := 4) (v := .ref (s.heap.size + 5)) (C := RX5) (T := TX5) (N := 19) hx hb hts hin5 hown hK.1 (fun k q hk => by match k, hk with | 0, hk => cases hk; exact hB.1 | k + 1, hk => simp at hk) 0 rfl rfl 6 (by decide) (hts (.fieldLink RX5 26 "CustomsYardModel" "bays" "[I") (by decide +kernel)) (fun _ h9 => h9) rfl dX5_init_103 ?_
  refine lv_iload_n hx hb dX5_init_106 rfl (lv_at hl 0 rfl) ?_
  refine lv_iconst (v := -1) hx hb dX5_init_107 (by decide) ?_
  have hg := hB.at (by decide)
  have hz2 : z ≤ s.heap.size + 5 := by have := hB.2.2.2.2; omega
  refine cy_iastR (k := 3) hx hb hK hS hz2 hg rfl (by decide) (by decide) dX5_init_108 (fun H3 locs hg hs3 hq3 hS => ?_)
  replace hB := hB.st2 hg hs3 hq3
  clear hs3 hq3 hg hz2
  refine lv_iinc (v := 4) (lv' := [(1, .int 4), (0, .ref a)]) hx hb dX5_init_109 hl (k := 0) rfl (by decide) (by decide) rfl (fun ls hl => ?_)
  refine lv_goto (tgt := 96) hx hb dX5_init_112 (by decide) ?_
  refine lv_iload_n hx hb dX5_init_96 rfl (lv_at hl 0 rfl) ?_
  refine lv_bipush (v := 12) hx hb dX5_init_97 (by decide) ?_
  refine lv_icmp_ge (tgt := 115) hx hb dX5_init_99 (by decide) (fun h5 => absurd h5 (by decide)) (fun h5 => ?_)
  refine lv_aload_n hx hb dX5_init_102 rfl (lv_at hl 1 rfl) ?_
  refine va_get (D := D) (ws := [(a, .inr (4, [.int 0, .ref (s.heap.size + 0), .ref (s.heap.size + 1), .ref (s.heap.size + 2), .ref (s.heap.size + 3), .ref (s.heap.size + 4), .ref (s.heap.size + 5), .ref (s.heap.size + 6), .ref (s.heap.size + 7), .int 0, .ref (s.heap.size + 8), .ref (s.heap.size + 9), .int 0, .int 0, .int 0, .int 0, .int 0, .ref (s.heap.size + 10), .int 0]))]) (ci := 4) (v := .ref (s.heap.size + 5)) (C := RX5) (T := TX5) (N := 19) hx hb hts hin5 hown hK.1 (fun k q hk => by match k, hk with | 0, hk => cases hk; exact hB.1 | k + 1, hk => simp at hk) 0 rfl rfl 6 (by decide) (hts (.fieldLink RX5 26 "CustomsYardModel" "bays" "[I") (by decide +kernel)) (fun _ h9 => h9) rfl dX5_init_103 ?_
  refine lv_iload_n hx hb dX5_init_106 rfl (lv_at hl 0 rfl) ?_
  refine lv_iconst (v := -1) hx hb dX5_init_107 (by decide) ?_
  have hg := hB.at (by decide)
  have hz2 : z ≤ s.heap.size + 5 := by have := hB.2.2.2.2; omega
  refine cy_iastR (k := 4) hx hb hK hS hz2 hg rfl (by decide) (by decide) dX5_init_108 (fun H3 locs hg hs3 hq3 hS => ?_)
  replace hB := hB.st2 hg hs3 hq3
  clear hs3 hq3 hg hz2
  refine lv_iinc (v := 5) (lv' := [(1, .int 5), (0, .ref a)]) hx hb dX5_init_109 hl (k := 0) rfl (by decide) (by decide) rfl (fun ls hl => ?_)
  refine lv_goto (tgt := 96) hx hb dX5_init_112 (by decide) ?_
  refine lv_iload_n hx hb dX5_init_96 rfl (lv_at hl 0 rfl) ?_
  refine lv_bipush (v := 12) hx hb dX5_init_97 (by decide) ?_
  refine lv_icmp_ge (tgt := 115) hx hb dX5_init_99 (by decide) (fun h6 => absurd h6 (by decide)) (fun h6 => ?_)
  refine lv_aload_n hx hb dX5_init_102 rfl (lv_at hl 1 rfl) ?_
  refine va_get (D := D) (ws := [(a, .inr (4, [.int 0, .ref (s.heap.size + 0), .ref (s.heap.size + 1), .ref (s.heap.size + 2), .ref (s.heap.size + 3), .ref (s.heap.size + 4), .ref (s.heap.size + 5), .ref (s.heap.size + 6), .ref (s.heap.size + 7), .int 0, .ref (s.heap.size + 8), .ref (s.heap.size + 9), .int 0, .int 0, .int 0, .int 0, .int 0, .ref (s.heap.size + 10), .int 0]))]) (ci := 4) (v := .ref (s.heap.size + 5)) (C := RX5) (T := TX5) (N := 19) hx hb hts hin5 hown hK.1 (fun k q hk => by match k, hk with | 0, hk => cases hk; exact hB.1 | k + 1, hk => simp at hk) 0 rfl rfl 6 (by decide) (hts (.fieldLink RX5 26 "CustomsYardModel" "bays" "[I") (by decide +kernel)) (fun _ h9 => h9) rfl dX5_init_103 ?_
  refine lv_iload_n hx hb dX5_init_106 rfl (lv_at hl 0 rfl) ?_
  refine lv_iconst (v := -1) hx hb dX5_init_107 (by decide) ?_
  have hg := hB.at (by decide)
  have hz2 : z ≤ s.heap.size + 5 := by have := hB.2.2.2.2; omega
  refine cy_iastR (k := 5) hx hb hK hS hz2 hg rfl (by decide) (by decide) dX5_init_108 (fun H3 locs hg hs3 hq3 hS => ?_)
  replace hB := hB.st2 hg hs3 hq3
  clear hs3 hq3 hg hz2
  refine lv_iinc (v := 6) (lv' := [(1, .int 6), (0, .ref a)]) hx hb dX5_init_109 hl (k := 0) rfl (by decide) (by decide) rfl (fun ls hl => ?_)
  refine lv_goto (tgt := 96) hx hb dX5_init_112 (by decide) ?_
  refine lv_iload_n hx hb dX5_init_96 rfl (lv_at hl 0 rfl) ?_
  refine lv_bipush (v := 12) hx hb dX5_init_97 (by decide) ?_
  refine lv_icmp_ge (tgt := 115) hx hb dX5_init_99 (by decide) (fun h7 => absurd h7 (by decide)) (fun h7 => ?_)
  refine lv_aload_n hx hb dX5_init_102 rfl (lv_at hl 1 rfl) ?_
  refine va_get (D := D) (ws := [(a, .inr (4, [.int 0, .ref (s.heap.size + 0), .ref (s.heap.size + 1), .ref (s.heap.size + 2), .ref (s.heap.size + 3), .ref (s.heap.size + 4), .ref (s.heap.size + 5), .ref (s.heap.size + 6), .ref (s.heap.size + 7), .int 0, .ref (s.heap.size + 8), .ref (s.heap.size + 9), .int 0, .int 0, .int 0, .int 0, .int 0, .ref (s.heap.size + 10), .int 0]))]) (ci := 4) (v := .ref (s.heap.size + 5)) (C := RX5) (T := TX5) (N := 19) hx hb hts hin5 hown hK.1 (fun k q hk => by match k, hk with | 0, hk => cases hk; exact hB.1 | k + 1, hk => simp at hk) 0 rfl rfl 6 (by decide) (hts (.fieldLink RX5 26 "CustomsYardModel" "bays" "[I") (by decide +kernel)) (fun _ h9 => h9) rfl dX5_init_103 ?_
  refine lv_iload_n hx hb dX5_init_106 rfl (lv_at hl 0 rfl) ?_
  refine lv_iconst (v := -1) hx hb dX5_init_107 (by decide) ?_
  have hg := hB.at (by decide)
  have hz2 : z ≤ s.heap.size + 5 := by have := hB.2.2.2.2; omega
  refine cy_iastR (k := 6) hx hb hK hS hz2 hg rfl (by decide) (by decide) dX5_init_108 (fun H3 locs hg hs3 hq3 hS => ?_)
  replace hB := hB.st2 hg hs3 hq3
  clear hs3 hq3 hg hz2
  refine lv_iinc (v := 7) (lv' := [(1, .int 7), (0, .ref a)]) hx hb dX5_init_109 hl (k := 0) rfl (by decide) (by decide) rfl (fun ls hl => ?_)
  refine lv_goto (tgt := 96) hx hb dX5_init_112 (by decide) ?_
  refine lv_iload_n hx hb dX5_init_96 rfl (lv_at hl 0 rfl) ?_
  refine lv_bipush (v := 12) hx hb dX5_init_97 (by decide) ?_
  refine lv_icmp_ge (tgt := 115) hx hb dX5_init_99 (by decide) (fun h8 => absurd h8 (by decide)) (fun h8 => ?_)
  refine lv_aload_n hx hb dX5_init_102 rfl (lv_at hl 1 rfl) ?_
  refine va_get (D := D) (ws := [(a, .inr (4, [.int 0, .ref (s.heap.size + 0), .ref (s.heap.size + 1), .ref (s.heap.size + 2), .ref (s.heap.size + 3), .ref (s.heap.size + 4), .ref (s.heap.size + 5), .ref (s.heap.size + 6), .ref (s.heap.size + 7), .int 0, .ref (s.heap.size + 8), .ref (s.heap.size + 9), .int 0, .int 0, .int 0, .int 0, .int 0, .ref (s.heap.size + 10), .int 0]))]) (ci := 4) (v := .ref (s.heap.size + 5)) (C := RX5) (T := TX5) (N := 19) hx hb hts hin5 hown hK.1 (fun k q hk => by match k, hk with | 0, hk => cases hk; exact hB.1 | k + 1, hk => simp at hk) 0 rfl rfl 6 (by decide) (hts (.fieldLink RX5 26 "CustomsYardModel" "bays" "[I") (by decide +kernel)) (fun _ h9 => h9) rfl dX5_init_103 ?_
  refine lv_iload_n hx hb dX5_init_106 rfl (lv_at hl 0 rfl) ?_
  refine lv_iconst (v := -1) hx hb dX5_init_107 (by decide) ?_
  have hg := hB.at (by decide)
  have hz2 : z ≤ s.heap.size + 5 := by have := hB.2.2.2.2; omega
  refine cy_iastR (k := 7) hx hb hK hS hz2 hg rfl (by decide) (by decide) dX5_init_108 (fun H3 locs hg hs3 hq3 hS => ?_)
  replace hB := hB.st2 hg hs3 hq3
  clear hs3 hq3 hg hz2
  refine lv_iinc (v := 8) (lv' := [(1, .int 8), (0, .ref a)]) hx hb dX5_init_109 hl (k := 0) rfl (by decide) (by decide) rfl (fun ls hl => ?_)
  refine lv_goto (tgt := 96) hx hb dX5_init_112 (by decide) ?_
  refine lv_iload_n hx hb dX5_init_96 rfl (lv_at hl 0 rfl) ?_
  refine lv_bipush (v := 12) hx hb dX5_init_97 (by decide) ?_
  refine lv_icmp_ge (tgt := 115) hx hb dX5_init_99 (by decide) (fun h9 => absurd h9 (by decide)) (fun h9 => ?_)
  refine lv_aload_n hx hb dX5_init_102 rfl (lv_at hl 1 rfl) ?_
  refine va_get (D := D) (ws := [(a, .inr (4, [.int 0, .ref (s.heap.size + 0), .ref (s.heap.size + 1), .ref (s.heap.size + 2), .ref (s.heap.size + 3), .ref (s.heap.size + 4), .ref (s.heap.size + 5), .ref (s.heap.size + 6), .ref (s.heap.size + 7), .int 0, .ref (s.heap.size + 8), .ref (s.heap.size + 9), .int 0, .int 0, .int 0, .int 0, .int 0, .ref (s.heap.size + 10), .int 0]))]) (ci := 4) (v := .ref (s.heap.size + 5)) (C := RX5) (T := TX5) (N := 19) hx hb hts hin5 hown hK.1 (fun k q hk => by match k, hk with | 0, hk => cases hk; exact hB.1 | k + 1, hk => simp at hk) 0 rfl rfl 6 (by decide) (hts (.fieldLink RX5 26 "CustomsYardModel" "bays" "[I") (by decide +kernel)) (fun _ h9 => h9) rfl dX5_init_103 ?_
  refine lv_iload_n hx hb dX5_init_106 rfl (lv_at hl 0 rfl) ?_
  refine lv_iconst (v := -1) hx hb dX5_init_107 (by decide) ?_
  have hg := hB.at (by decide)
  have hz2 : z ≤ s.heap.size + 5 := by have := hB.2.2.2.2; omega
  refine cy_iastR (k := 8) hx hb hK hS hz2 hg rfl (by decide) (by decide) dX5_init_108 (fun H3 locs hg hs3 hq3 hS => ?_)
  replace hB := hB.st2 hg hs3 hq3
  clear hs3 hq3 hg hz2
  refine lv_iinc (v := 9) (lv' := [(1, .int 9), (0, .ref a)]) hx hb dX5_init_109 hl (k := 0) rfl (by decide) (by decide) rfl (fun ls hl => ?_)
  refine lv_goto (tgt := 96) hx hb dX5_init_112 (by decide) ?_
  refine lv_iload_n hx hb dX5_init_96 rfl (lv_at hl 0 rfl) ?_
  refine lv_bipush (v := 12) hx hb dX5_init_97 (by decide) ?_
  refine lv_icmp_ge (tgt := 115) hx hb dX5_init_99 (by decide) (fun h10 => absurd h10 (by decide)) (fun h10 => ?_)
  refine lv_aload_n hx hb dX5_init_102 rfl (lv_at hl 1 rfl) ?_
  refine va_get (D := D) (ws := [(a, .inr (4, [.int 0, .ref (s.heap.size + 0), .ref (s.heap.size + 1), .ref (s.heap.size + 2), .ref (s.heap.size + 3), .ref (s.heap.size + 4), .ref (s.heap.size + 5), .ref (s.heap.size + 6), .ref (s.heap.size + 7), .int 0, .ref (s.heap.size + 8), .ref (s.heap.size + 9), .int 0, .int 0, .int 0, .int 0, .int 0, .ref (s.heap.size + 10), .int 0]))]) (ci := 4) (v := .ref (s.heap.size + 5)) (C := RX5) (T := TX5) (N := 19) hx hb hts hin5 hown hK.1 (fun k q hk => by match k, hk with | 0, hk => cases hk; exact hB.1 | k + 1, hk => simp at hk) 0 rfl rfl 6 (by decide) (hts (.fieldLink RX5 26 "CustomsYardModel" "bays" "[I") (by decide +kernel)) (fun _ h9 => h9) rfl dX5_init_103 ?_
  refine lv_iload_n hx hb dX5_init_106 rfl (lv_at hl 0 rfl) ?_
  refine lv_iconst (v := -1) hx hb dX5_init_107 (by decide) ?_
  have hg := hB.at (by decide)
  have hz2 : z ≤ s.heap.size + 5 := by have := hB.2.2.2.2; omega
  refine cy_iastR (k := 9) hx hb hK hS hz2 hg rfl (by decide) (by decide) dX5_init_108 (fun H3 locs hg hs3 hq3 hS => ?_)
  replace hB := hB.st2 hg hs3 hq3
  clear hs3 hq3 hg hz2
  refine lv_iinc (v := 10) (lv' := [(1, .int 10), (0, .ref a)]) hx hb dX5_init_109 hl (k := 0) rfl (by decide) (by decide) rfl (fun ls hl => ?_)
  refine lv_goto (tgt := 96) hx hb dX5_init_112 (by decide) ?_
  refine lv_iload_n hx hb dX5_init_96 rfl (lv_at hl 0 rfl) ?_
  refine lv_bipush (v := 12) hx hb dX5_init_97 (by decide) ?_
  refine lv_icmp_ge (tgt := 115) hx hb dX5_init_99 (by decide) (fun h11 => absurd h11 (by decide)) (fun h11 => ?_)
  refine lv_aload_n hx hb dX5_init_102 rfl (lv_at hl 1 rfl) ?_
  refine va_get (D := D) (ws := [(a, .inr (4, [.int 0, .ref (s.heap.size + 0), .ref (s.heap.size + 1), .ref (s.heap.size + 2), .ref (s.heap.size + 3), .ref (s.heap.size + 4), .ref (s.heap.size + 5), .ref (s.heap.size + 6), .ref (s.heap.size + 7), .int 0, .ref (s.heap.size + 8), .ref (s.heap.size + 9), .int 0, .int 0, .int 0, .int 0, .int 0, .ref (s.heap.size + 10), .int 0]))]) (ci := 4) (v := .ref (s.heap.size + 5)) (C := RX5) (T := TX5) (N := 19) hx hb hts hin5 hown hK.1 (fun k q hk => by match k, hk with | 0, hk => cases hk; exact hB.1 | k + 1, hk => simp at hk) 0 rfl rfl 6 (by decide) (hts (.fieldLink RX5 26 "CustomsYardModel" "bays" "[I") (by decide +kernel)) (fun _ h9 => h9) rfl dX5_init_103 ?_
  refine lv_iload_n hx hb dX5_init_106 rfl (lv_at hl 0 rfl) ?_
  refine lv_iconst (v := -1) hx hb dX5_init_107 (by decide) ?_
  have hg := hB.at (by decide)
  have hz2 : z ≤ s.heap.size + 5 := by have := hB.2.2.2.2; omega
  refine cy_iastR (k := 10) hx hb hK hS hz2 hg rfl (by decide) (by decide) dX5_init_108 (fun H3 locs hg hs3 hq3 hS => ?_)
  replace hB := hB.st2 hg hs3 hq3
  clear hs3 hq3 hg hz2
  refine lv_iinc (v := 11) (lv' := [(1, .int 11), (0, .ref a)]) hx hb dX5_init_109 hl (k := 0) rfl (by decide) (by decide) rfl (fun ls hl => ?_)
  refine lv_goto (tgt := 96) hx hb dX5_init_112 (by decide) ?_
  refine lv_iload_n hx hb dX5_init_96 rfl (lv_at hl 0 rfl) ?_
  refine lv_bipush (v := 12) hx hb dX5_init_97 (by decide) ?_
  refine lv_icmp_ge (tgt := 115) hx hb dX5_init_99 (by decide) (fun h12 => absurd h12 (by decide)) (fun h12 => ?_)
  refine lv_aload_n hx hb dX5_init_102 rfl (lv_at hl 1 rfl) ?_
  refine va_get (D := D) (ws := [(a, .inr (4, [.int 0, .ref (s.heap.size + 0), .ref (s.heap.size + 1), .ref (s.heap.size + 2), .ref (s.heap.size + 3), .ref (s.heap.size + 4), .ref (s.heap.size + 5), .ref (s.heap.size + 6), .ref (s.heap.size + 7), .int 0, .ref (s.heap.size + 8), .ref (s.heap.size + 9), .int 0, .int 0, .int 0, .int 0, .int 0, .ref (s.heap.size + 10), .int 0]))]) (ci := 4) (v := .ref (s.heap.size + 5)) (C := RX5) (T := TX5) (N := 19) hx hb hts hin5 hown hK.1 (fun k q hk => by match k, hk with | 0, hk => cases hk; exact hB.1 | k + 1, hk => simp at hk) 0 rfl rfl 6 (by decide) (hts (.fieldLink RX5 26 "CustomsYardModel" "bays" "[I") (by decide +kernel)) (fun _ h9 => h9) rfl dX5_init_103 ?_
  refine lv_iload_n hx hb dX5_init_106 rfl (lv_at hl 0 rfl) ?_
  refine lv_iconst (v := -1) hx hb dX5_init_107 (by decide) ?_
  have hg := hB.at (by decide)
  have hz2 : z ≤ s.heap.size + 5 := by have := hB.2.2.2.2; omega
  refine cy_iastR (k := 11) hx hb hK hS hz2 hg rfl (by decide) (by decide) dX5_init_108 (fun H3 locs hg hs3 hq3 hS => ?_)
  replace hB := hB.st2 hg hs3 hq3
  clear hs3 hq3 hg hz2
  refine lv_iinc (v := 12) (lv' := [(1, .int 12), (0, .ref a)]) hx hb dX5_init_109 hl (k := 0) rfl (by decide) (by decide) rfl (fun ls hl => ?_)
  refine lv_goto (tgt := 96) hx hb dX5_init_112 (by decide) ?_
  refine lv_iload_n hx hb dX5_init_96 rfl (lv_at hl 0 rfl) ?_
  refine lv_bipush (v := 12) hx hb dX5_init_97 (by decide) ?_
  refine lv_icmp_ge (tgt := 115) hx hb dX5_init_99 (by decide) (fun h13 => ?_) (fun h13 => absurd (by decide) h13)
  refine lv_iconst (v := 0) hx hb dX5_init_115 (by decide) ?_
  refine lv_istore_n (lv' := [(1, .int 0), (0, .ref a)]) hx hb dX5_init_116 rfl hl (by decide) rfl (fun ls hl => ?_)
  refine lv_iload_n hx hb dX5_init_117 rfl (lv_at hl 0 rfl) ?_
  refine lv_bipush (v := 6) hx hb dX5_init_118 (by decide) ?_
  refine lv_icmp_ge (tgt := 136) hx hb dX5_init_120 (by decide) (fun h14 => absurd h14 (by decide)) (fun h14 => ?_)
  refine lv_aload_n hx hb dX5_init_123 rfl (lv_at hl 1 rfl) ?_
  refine va_get (D := D) (ws := [(a, .inr (4, [.int 0, .ref (s.heap.size + 0), .ref (s.heap.size + 1), .ref (s.heap.size + 2), .ref (s.heap.size + 3), .ref (s.heap.size + 4), .ref (s.heap.size + 5), .ref (s.heap.size + 6), .ref (s.heap.size + 7), .int 0, .ref (s.heap.size + 8), .ref (s.heap.size + 9), .int 0, .int 0, .int 0, .int 0, .int 0, .ref (s.heap.size + 10), .int 0]))]) (ci := 4) (v := .ref (s.heap.size + 6)) (C := RX5) (T := TX5) (N := 19) hx hb hts hin5 hown hK.1 (fun k q hk => by match k, hk with | 0, hk => cases hk; exact hB.1 | k + 1, hk => simp at hk) 0 rfl rfl 7 (by decide) (hts (.fieldLink RX5 29 "CustomsYardModel" "gates" "[I") (by decide +kernel)) (fun _ h9 => h9) rfl dX5_init_124 ?_
  refine lv_iload_n hx hb dX5_init_127 rfl (lv_at hl 0 rfl) ?_
  refine lv_iconst (v := -1) hx hb dX5_init_128 (by decide) ?_
  have hg : va_at D vwCl (s.heap.size + 6, .inl (cI, 6, .inl (fun _ => 0))) _ := hB.2.1 6 (by decide)
  have hz2 : z ≤ s.heap.size + 6 := by have := hB.2.2.2.2; omega
  refine cy_iastR (k := 0) hx hb hK hS hz2 hg rfl (by decide) (by decide) dX5_init_129 (fun H3 locs hg hs3 hq3 hS => ?_)
  replace hB := hB.st hg hs3 hq3
  clear hs3 hq3 hg hz2
  refine lv_iinc (v := 1) (lv' := [(1, .int 1), (0, .ref a)]) hx hb dX5_init_130 hl (k := 0) rfl (by decide) (by decide) rfl (fun ls hl => ?_)
  refine lv_goto (tgt := 117) hx hb dX5_init_133 (by decide) ?_
  refine lv_iload_n hx hb dX5_init_117 rfl (lv_at hl 0 rfl) ?_
  refine lv_bipush (v := 6) hx hb dX5_init_118 (by decide) ?_
  refine lv_icmp_ge (tgt := 136) hx hb dX5_init_120 (by decide) (fun h15 => absurd h15 (by decide)) (fun h15 => ?_)
  refine lv_aload_n hx hb dX5_init_123 rfl (lv_at hl 1 rfl) ?_
  refine va_get (D := D) (ws := [(a, .inr (4, [.int 0, .ref (s.heap.size + 0), .ref (s.heap.size + 1), .ref (s.heap.size + 2), .ref (s.heap.size + 3), .ref (s.heap.size + 4), .ref (s.heap.size + 5), .ref (s.heap.size + 6), .ref (s.heap.size + 7), .int 0, .ref (s.heap.size + 8), .ref (s.heap.size + 9), .int 0, .int 0, .int 0, .int 0, .int 0, .ref (s.heap.size + 10), .int 0]))]) (ci := 4) (v := .ref (s.heap.size + 6)) (C := RX5) (T := TX5) (N := 19) hx hb hts hin5 hown hK.1 (fun k q hk => by match k, hk with | 0, hk => cases hk; exact hB.1 | k + 1, hk => simp at hk) 0 rfl rfl 7 (by decide) (hts (.fieldLink RX5 29 "CustomsYardModel" "gates" "[I") (by decide +kernel)) (fun _ h9 => h9) rfl dX5_init_124 ?_
  refine lv_iload_n hx hb dX5_init_127 rfl (lv_at hl 0 rfl) ?_
  refine lv_iconst (v := -1) hx hb dX5_init_128 (by decide) ?_
  have hg := hB.at (by decide)
  have hz2 : z ≤ s.heap.size + 6 := by have := hB.2.2.2.2; omega
  refine cy_iastR (k := 1) hx hb hK hS hz2 hg rfl (by decide) (by decide) dX5_init_129 (fun H3 locs hg hs3 hq3 hS => ?_)
  replace hB := hB.st2 hg hs3 hq3
  clear hs3 hq3 hg hz2
  refine lv_iinc (v := 2) (lv' := [(1, .int 2), (0, .ref a)]) hx hb dX5_init_130 hl (k := 0) rfl (by decide) (by decide) rfl (fun ls hl => ?_)
  refine lv_goto (tgt := 117) hx hb dX5_init_133 (by decide) ?_
  refine lv_iload_n hx hb dX5_init_117 rfl (lv_at hl 0 rfl) ?_
  refine lv_bipush (v := 6) hx hb dX5_init_118 (by decide) ?_
  refine lv_icmp_ge (tgt := 136) hx hb dX5_init_120 (by decide) (fun h16 => absurd h16 (by decide)) (fun h16 => ?_)
  refine lv_aload_n hx hb dX5_init_123 rfl (lv_at hl 1 rfl) ?_
  refine va_get (D := D) (ws := [(a, .inr (4, [.int 0, .ref (s.heap.size + 0), .ref (s.heap.size + 1), .ref (s.heap.size + 2), .ref (s.heap.size + 3), .ref (s.heap.size + 4), .ref (s.heap.size + 5), .ref (s.heap.size + 6), .ref (s.heap.size + 7), .int 0, .ref (s.heap.size + 8), .ref (s.heap.size + 9), .int 0, .int 0, .int 0, .int 0, .int 0, .ref (s.heap.size + 10), .int 0]))]) (ci := 4) (v := .ref (s.heap.size + 6)) (C := RX5) (T := TX5) (N := 19) hx hb hts hin5 hown hK.1 (fun k q hk => by match k, hk with | 0, hk => cases hk; exact hB.1 | k + 1, hk => simp at hk) 0 rfl rfl 7 (by decide) (hts (.fieldLink RX5 29 "CustomsYardModel" "gates" "[I") (by decide +kernel)) (fun _ h9 => h9) rfl dX5_init_124 ?_
  refine lv_iload_n hx hb dX5_init_127 rfl (lv_at hl 0 rfl) ?_
  refine lv_iconst (v := -1) hx hb dX5_init_128 (by decide) ?_
  have hg := hB.at (by decide)
  have hz2 : z ≤ s.heap.size + 6 := by have := hB.2.2.2.2; omega
  refine cy_iastR (k := 2) hx hb hK hS hz2 hg rfl (by decide) (by decide) dX5_init_129 (fun H3 locs hg hs3 hq3 hS => ?_)
  replace hB := hB.st2 hg hs3 hq3
  clear hs3 hq3 hg hz2
  refine lv_iinc (v := 3) (lv' := [(1, .int 3), (0, .ref a)]) hx hb dX5_init_130 hl (k := 0) rfl (by decide) (by decide) rfl (fun ls hl => ?_)
  refine lv_goto (tgt := 117) hx hb dX5_init_133 (by decide) ?_
  refine lv_iload_n hx hb dX5_init_117 rfl (lv_at hl 0 rfl) ?_
  refine lv_bipush (v := 6) hx hb dX5_init_118 (by decide) ?_
  refine lv_icmp_ge (tgt := 136) hx hb dX5_init_120 (by decide) (fun h17 => absurd h17 (by decide)) (fun h17 => ?_)
  refine lv_aload_n hx hb dX5_init_123 rfl (lv_at hl 1 rfl) ?_
  refine va_get (D := D) (ws := [(a, .inr (4, [.int 0, .ref (s.heap.size + 0), .ref (s.heap.size + 1), .ref (s.heap.size + 2), .ref (s.heap.size + 3), .ref (s.heap.size + 4), .ref (s.heap.size + 5), .ref (s.heap.size + 6), .ref (s.heap.size + 7), .int 0, .ref (s.heap.size + 8), .ref (s.heap.size + 9), .int 0, .int 0, .int 0, .int 0, .int 0, .ref (s.heap.size + 10), .int 0]))]) (ci := 4) (v := .ref (s.heap.size + 6)) (C := RX5) (T := TX5) (N := 19) hx hb hts hin5 hown hK.1 (fun k q hk => by match k, hk with | 0, hk => cases hk; exact hB.1 | k + 1, hk => simp at hk) 0 rfl rfl 7 (by decide) (hts (.fieldLink RX5 29 "CustomsYardModel" "gates" "[I") (by decide +kernel)) (fun _ h9 => h9) rfl dX5_init_124 ?_
  refine lv_iload_n hx hb dX5_init_127 rfl (lv_at hl 0 rfl) ?_
  refine lv_iconst (v := -1) hx hb dX5_init_128 (by decide) ?_
  have hg := hB.at (by decide)
  have hz2 : z ≤ s.heap.size + 6 := by have := hB.2.2.2.2; omega
  refine cy_iastR (k := 3) hx hb hK hS hz2 hg rfl (by decide) (by decide) dX5_init_129 (fun H3 locs hg hs3 hq3 hS => ?_)
  replace hB := hB.st2 hg hs3 hq3
  clear hs3 hq3 hg hz2
  refine lv_iinc (v := 4) (lv' := [(1, .int 4), (0, .ref a)]) hx hb dX5_init_130 hl (k := 0) rfl (by decide) (by decide) rfl (fun ls hl => ?_)
  refine lv_goto (tgt := 117) hx hb dX5_init_133 (by decide) ?_
  refine lv_iload_n hx hb dX5_init_117 rfl (lv_at hl 0 rfl) ?_
  refine lv_bipush (v := 6) hx hb dX5_init_118 (by decide) ?_
  refine lv_icmp_ge (tgt := 136) hx hb dX5_init_120 (by decide) (fun h18 => absurd h18 (by decide)) (fun h18 => ?_)
  refine lv_aload_n hx hb dX5_init_123 rfl (lv_at hl 1 rfl) ?_
  refine va_get (D := D) (ws := [(a, .inr (4, [.int 0, .ref (s.heap.size + 0), .ref (s.heap.size + 1), .ref (s.heap.size + 2), .ref (s.heap.size + 3), .ref (s.heap.size + 4), .ref (s.heap.size + 5), .ref (s.heap.size + 6), .ref (s.heap.size + 7), .int 0, .ref (s.heap.size + 8), .ref (s.heap.size + 9), .int 0, .int 0, .int 0, .int 0, .int 0, .ref (s.heap.size + 10), .int 0]))]) (ci := 4) (v := .ref (s.heap.size + 6)) (C := RX5) (T := TX5) (N := 19) hx hb hts hin5 hown hK.1 (fun k q hk => by match k, hk with | 0, hk => cases hk; exact hB.1 | k + 1, hk => simp at hk) 0 rfl rfl 7 (by decide) (hts (.fieldLink RX5 29 "CustomsYardModel" "gates" "[I") (by decide +kernel)) (fun _ h9 => h9) rfl dX5_init_124 ?_
  refine lv_iload_n hx hb dX5_init_127 rfl (lv_at hl 0 rfl) ?_
  refine lv_iconst (v := -1) hx hb dX5_init_128 (by decide) ?_
  have hg := hB.at (by decide)
  have hz2 : z ≤ s.heap.size + 6 := by have := hB.2.2.2.2; omega
  refine cy_iastR (k := 4) hx hb hK hS hz2 hg rfl (by decide) (by decide) dX5_init_129 (fun H3 locs hg hs3 hq3 hS => ?_)
  replace hB := hB.st2 hg hs3 hq3
  clear hs3 hq3 hg hz2
  refine lv_iinc (v := 5) (lv' := [(1, .int 5), (0, .ref a)]) hx hb dX5_init_130 hl (k := 0) rfl (by decide) (by decide) rfl (fun ls hl => ?_)
  refine lv_goto (tgt := 117) hx hb dX5_init_133 (by decide) ?_
  refine lv_iload_n hx hb dX5_init_117 rfl (lv_at hl 0 rfl) ?_
  refine lv_bipush (v := 6) hx hb dX5_init_118 (by decide) ?_
  refine lv_icmp_ge (tgt := 136) hx hb dX5_init_120 (by decide) (fun h19 => absurd h19 (by decide)) (fun h19 => ?_)
  refine lv_aload_n hx hb dX5_init_123 rfl (lv_at hl 1 rfl) ?_
  refine va_get (D := D) (ws := [(a, .inr (4, [.int 0, .ref (s.heap.size + 0), .ref (s.heap.size + 1), .ref (s.heap.size + 2), .ref (s.heap.size + 3), .ref (s.heap.size + 4), .ref (s.heap.size + 5), .ref (s.heap.size + 6), .ref (s.heap.size + 7), .int 0, .ref (s.heap.size + 8), .ref (s.heap.size + 9), .int 0, .int 0, .int 0, .int 0, .int 0, .ref (s.heap.size + 10), .int 0]))]) (ci := 4) (v := .ref (s.heap.size + 6)) (C := RX5) (T := TX5) (N := 19) hx hb hts hin5 hown hK.1 (fun k q hk => by match k, hk with | 0, hk => cases hk; exact hB.1 | k + 1, hk => simp at hk) 0 rfl rfl 7 (by decide) (hts (.fieldLink RX5 29 "CustomsYardModel" "gates" "[I") (by decide +kernel)) (fun _ h9 => h9) rfl dX5_init_124 ?_
  refine lv_iload_n hx hb dX5_init_127 rfl (lv_at hl 0 rfl) ?_
  refine lv_iconst (v := -1) hx hb dX5_init_128 (by decide) ?_
  have hg := hB.at (by decide)
  have hz2 : z ≤ s.heap.size + 6 := by have := hB.2.2.2.2; omega
  refine cy_iastR (k := 5) hx hb hK hS hz2 hg rfl (by decide) (by decide) dX5_init_129 (fun H3 locs hg hs3 hq3 hS => ?_)
  replace hB := hB.st2 hg hs3 hq3
  clear hs3 hq3 hg hz2
  refine lv_iinc (v := 6) (lv' := [(1, .int 6), (0, .ref a)]) hx hb dX5_init_130 hl (k := 0) rfl (by decide) (by decide) rfl (fun ls hl => ?_)
  refine lv_goto (tgt := 117) hx hb dX5_init_133 (by decide) ?_
  refine lv_iload_n hx hb dX5_init_117 rfl (lv_at hl 0 rfl) ?_
  refine lv_bipush (v := 6) hx hb dX5_init_118 (by decide) ?_
  refine lv_icmp_ge (tgt := 136) hx hb dX5_init_120 (by decide) (fun h20 => ?_) (fun h20 => absurd (by decide) h20)
  have hb6 := cy_cellI (g := fun _ => -1) (hB.at (by decide)) (fun j hj => by rcases (show j = 0 ∨ j = 1 ∨ j = 2 ∨ j = 3 ∨ j = 4 ∨ j = 5 by omega) with rfl | rfl | rfl | rfl | rfl | rfl <;> simp [va_up])
  have hb5 := cy_cellI (g := fun _ => -1) (show va_at D vwCl (s.heap.size + 5, .inl (cI, 12, .inl (va_up (va_up (va_up (va_up (va_up (va_up (va_up (va_up (va_up (va_up (va_up (va_up (fun _ => 0) 0 (-1)) 1 (-1)) 2 (-1)) 3 (-1)) 4 (-1)) 5 (-1)) 6 (-1)) 7 (-1)) 8 (-1)) 9 (-1)) 10 (-1)) 11 (-1)))) _ from hB.2.1 5 (by decide)) (fun j hj => by rcases (show j = 0 ∨ j = 1 ∨ j = 2 ∨ j = 3 ∨ j = 4 ∨ j = 5 ∨ j = 6 ∨ j = 7 ∨ j = 8 ∨ j = 9 ∨ j = 10 ∨ j = 11 by omega) with rfl | rfl | rfl | rfl | rfl | rfl | rfl | rfl | rfl | rfl | rfl | rfl <;> simp [va_up])
  have hAA : ∀ i, i < 11 → va_at D vwCl (s.heap.size + i, va_up (va_up (cy_csT cI cJ) 5 (.inl (cI, 12, .inl (fun _ => -1)))) 6 (.inl (cI, 6, .inl (fun _ => -1))) i) H3 := by
    intro i hi
    rcases (show i = 0 ∨ i = 1 ∨ i = 2 ∨ i = 3 ∨ i = 4 ∨ i = 5 ∨ i = 6 ∨ i = 7 ∨ i = 8 ∨ i = 9 ∨ i = 10 by omega) with rfl | rfl | rfl | rfl | rfl | rfl | rfl | rfl | rfl | rfl | rfl
    · exact hB.2.1 0 (by decide)
    · exact hB.2.1 1 (by decide)
    · exact hB.2.1 2 (by decide)
    · exact hB.2.1 3 (by decide)
    · exact hB.2.1 4 (by decide)
    · exact hb5
    · exact hb6
    · exact hB.2.1 7 (by decide)
    · exact hB.2.1 8 (by decide)
    · exact hB.2.1 9 (by decide)
    · exact hB.2.1 10 (by decide)
  exact W.vret hx hb hr (fun t ht hW => ⟨(), rfl, by rw [ht]; exact ⟨hB.1, hAA, hB.2.2.1, hB.2.2.2.1⟩, hS.F ht⟩) hS.2.2 dX5_init_136
