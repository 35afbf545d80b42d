theorem cy_kd_sg {s : Int32} (h : cy_sg s = true) : cy_kd s = 1 := by
  rw [cy_sg_c, decide_eq_true_iff] at h
  rcases h with h | h | h <;> rw [h] <;> decide
theorem cy_kd_2 {s : Int32} (h : ¬ (s = 0 ∨ s = 1 ∨ s = 2)) (h2 : cy_sg s = false) : cy_kd s = 2 := by
  rw [cy_sg_c, decide_eq_false_iff_not] at h2
  unfold cy_kd
  rw [if_neg h, if_neg h2]
theorem hin1_X0_init : ∀ w ∈ u_ws RX1 TX1 3, w ∈ wsX0_init := by decide +kernel
theorem hin2_X0_init : ∀ w ∈ u_ws RX2 TX2 3, w ∈ wsX0_init := by decide +kernel
theorem hin3_X0_init : ∀ w ∈ u_ws RX3 TX3 3, w ∈ wsX0_init := by decide +kernel
theorem hin1_X1_init : ∀ w ∈ u_ws RX1 TX1 3, w ∈ wsX1_init := by decide +kernel
theorem hin2_X1_init : ∀ w ∈ u_ws RX2 TX2 3, w ∈ wsX1_init := by decide +kernel
theorem hin3_X1_init : ∀ w ∈ u_ws RX3 TX3 3, w ∈ wsX1_init := by decide +kernel
theorem hin1_X2_init : ∀ w ∈ u_ws RX1 TX1 3, w ∈ wsX2_init := by decide +kernel
theorem hin2_X2_init : ∀ w ∈ u_ws RX2 TX2 3, w ∈ wsX2_init := by decide +kernel
theorem hin3_X2_init : ∀ w ∈ u_ws RX3 TX3 3, w ∈ wsX2_init := by decide +kernel
theorem hin1_X3_init : ∀ w ∈ u_ws RX1 TX1 3, w ∈ wsX3_init := by decide +kernel
theorem hin2_X3_init : ∀ w ∈ u_ws RX2 TX2 3, w ∈ wsX3_init := by decide +kernel
theorem hin3_X3_init : ∀ w ∈ u_ws RX3 TX3 3, w ∈ wsX3_init := by decide +kernel
theorem hin1_X4_makeLoad : ∀ w ∈ u_ws RX1 TX1 3, w ∈ wsX4_makeLoad := by decide +kernel
theorem hin2_X4_makeLoad : ∀ w ∈ u_ws RX2 TX2 3, w ∈ wsX4_makeLoad := by decide +kernel
theorem hin3_X4_makeLoad : ∀ w ∈ u_ws RX3 TX3 3, w ∈ wsX4_makeLoad := by decide +kernel
set_option maxHeartbeats 4000000 in
set_option maxRecDepth 100000 in
theorem c_X0_init_0 (l : Launch) (D : va_G) (cI cJ cO : ClassId) (z : Nat) (a : Nat) (hz : z ≤ a) (H0 : Heap) (x : Value) (n0 s0 : Int32) : Met l yX0_init wsX0_init { frames := 1, cells := 0, slots := 0, locals := 12 } (cy_P D cI cJ cO (fun H => H = H0 ∧ va_at D vwCl (a, .inr (0, [.int 0, .int 0, x])) H) [.ref a, .int n0, .int s0]) (cy_M (S := Unit) z (fun _ => none) (fun _ H1 => va_at D vwCl (a, .inr (0, [.int n0, .int s0, x])) H1 ∧ H1.size = H0.size ∧ ∀ q : Nat, q ≠ a → H1[q]? = H0[q]?)) 0 0 (fun q => z ≤ q) := by
  refine Met.ofW (cc := cX0_init) (maxL := 3) (ret := none) (by decide) rfl ?_
  intro p e s m args below meth c s₁ B hml hv
  obtain ⟨rfl, hK, hI⟩ := hv
  have hx := B.exec
  have hb := B.bytes
  have hr := B.returns
  have hts := atoms_spec (ws := wsX0_init) B.pre
  have hown : s.vm.findClass RX0 = some m.cls := findClass_of_methodNamed B.named
  have hlocks := B.notSynchronized
  have hin : meth.name = "<init>" := (name_of_methodNamed B.named B.method).1
  have hS : va_S (fun q => z ≤ q) s.heap s.heap [] := va_S.rf
  have hl := lv_entry ([.ref a, .int n0, .int s0]) (n := 3) (Nat.le_of_ble_eq_true rfl)
  rw [lg_entry_eq]
  generalize (lg_sl ([.ref a, .int n0, .int s0]) ++ List.replicate (3 - (lg_sl ([.ref a, .int n0, .int s0])).length) Slot.unset).toArray = ls at hl ⊢
  have hl : lv_has ls 3 [(0, .ref a), (1, .int n0), (2, .int s0)] := hl
  have hin1 := hin1_X0_init
  have hin2 := hin2_X0_init
  have hin3 := hin3_X0_init
  obtain ⟨eH, he⟩ := hI
  refine lv_aload_n hx hb dX0_init_0 rfl (lv_at hl 0 rfl) ?_
  refine W.objInit hx hb hown (hts (.methodLink RX0 3 objectInit) (by decide +kernel)) (hts (.instanceMethod objectInit) (by decide +kernel)) (hts (.code objectInit ⟨#[0xb1]⟩ 1 none) (by decide +kernel)) rfl (by rw [hml]; exact hl.1) rfl dX0_init_1 (Nat.le_of_ble_eq_true rfl) (Nat.le_of_ble_eq_true rfl) ?_
  refine W.eq (g2 := F0 m 4 ls []) rfl ?_
  refine lv_aload_n hx hb dX0_init_4 rfl (lv_at hl 0 rfl) ?_
  refine lv_iload_n hx hb dX0_init_5 rfl (lv_at hl 1 rfl) ?_
  refine cy_putF (ci := 0) (Cn := RX1) (T := TX1) (N := 3) (v := .int n0) hx hb hts hin1 tyX1 tyX1_ok nmX1 hown hK.1 hS hz he rfl 0 (by decide) (hts (.fieldLink RX0 9 "CustomsYard$Load" "number" "I") (by decide +kernel)) (fun _ h9 => h9) rfl hin rfl (ty := .int) (by decide +kernel) rfl rfl (Nat.le_of_ble_eq_true rfl) dX0_init_6 (fun H locs he hsz1 hq1 hS => ?_)
  have he : va_at D vwCl (a, .inr (0, [.int n0, .int 0, x])) H := he
  refine lv_aload_n hx hb dX0_init_9 rfl (lv_at hl 0 rfl) ?_
  refine lv_iload_n hx hb dX0_init_10 rfl (lv_at hl 2 rfl) ?_
  refine cy_putF (ci := 0) (Cn := RX1) (T := TX1) (N := 3) (v := .int s0) hx hb hts hin1 tyX1 tyX1_ok nmX1 hown hK.1 hS hz he rfl 1 (by decide) (hts (.fieldLink RX0 15 "CustomsYard$Load" "sort" "I") (by decide +kernel)) (fun _ h9 => h9) rfl hin rfl (ty := .int) (by decide +kernel) rfl rfl (Nat.le_of_ble_eq_true rfl) dX0_init_11 (fun H locs he hsz2 hq2 hS => ?_)
  have he : va_at D vwCl (a, .inr (0, [.int n0, .int s0, x])) H := he
  exact W.vret hx hb hr (fun t ht hW => ⟨(), rfl, by rw [ht]; exact ⟨he, (hsz2.trans hsz1).trans (congrArg Array.size eH), fun q hne => ((hq2 q hne).trans (hq1 q hne)).trans (by rw [eH])⟩, hS.F ht⟩) hS.2.2 dX0_init_14

set_option maxHeartbeats 4000000 in
set_option maxRecDepth 100000 in
theorem c_X0_init_1 (l : Launch) (D : va_G) (cI cJ cO : ClassId) (z : Nat) (a : Nat) (hz : z ≤ a) (H0 : Heap) (x : Value) (n0 s0 : Int32) : Met l yX0_init wsX0_init { frames := 1, cells := 0, slots := 0, locals := 12 } (cy_P D cI cJ cO (fun H => H = H0 ∧ va_at D vwCl (a, .inr (1, [.int 0, .int 0, x])) H) [.ref a, .int n0, .int s0]) (cy_M (S := Unit) z (fun _ => none) (fun _ H1 => va_at D vwCl (a, .inr (1, [.int n0, .int s0, x])) H1 ∧ H1.size = H0.size ∧ ∀ q : Nat, q ≠ a → H1[q]? = H0[q]?)) 0 0 (fun q => z ≤ q) := by
  refine Met.ofW (cc := cX0_init) (maxL := 3) (ret := none) (by decide) rfl ?_
  intro p e s m args below meth c s₁ B hml hv
  obtain ⟨rfl, hK, hI⟩ := hv
  have hx := B.exec
  have hb := B.bytes
  have hr := B.returns
  have hts := atoms_spec (ws := wsX0_init) B.pre
  have hown : s.vm.findClass RX0 = some m.cls := findClass_of_methodNamed B.named
  have hlocks := B.notSynchronized
  have hin : meth.name = "<init>" := (name_of_methodNamed B.named B.method).1
  have hS : va_S (fun q => z ≤ q) s.heap s.heap [] := va_S.rf
  have hl := lv_entry ([.ref a, .int n0, .int s0]) (n := 3) (Nat.le_of_ble_eq_true rfl)
  rw [lg_entry_eq]
  generalize (lg_sl ([.ref a, .int n0, .int s0]) ++ List.replicate (3 - (lg_sl ([.ref a, .int n0, .int s0])).length) Slot.unset).toArray = ls at hl ⊢
  have hl : lv_has ls 3 [(0, .ref a), (1, .int n0), (2, .int s0)] := hl
  have hin1 := hin1_X0_init
  have hin2 := hin2_X0_init
  have hin3 := hin3_X0_init
  obtain ⟨eH, he⟩ := hI
  refine lv_aload_n hx hb dX0_init_0 rfl (lv_at hl 0 rfl) ?_
  refine W.objInit hx hb hown (hts (.methodLink RX0 3 objectInit) (by decide +kernel)) (hts (.instanceMethod objectInit) (by decide +kernel)) (hts (.code objectInit ⟨#[0xb1]⟩ 1 none) (by decide +kernel)) rfl (by rw [hml]; exact hl.1) rfl dX0_init_1 (Nat.le_of_ble_eq_true rfl) (Nat.le_of_ble_eq_true rfl) ?_
  refine W.eq (g2 := F0 m 4 ls []) rfl ?_
  refine lv_aload_n hx hb dX0_init_4 rfl (lv_at hl 0 rfl) ?_
  refine lv_iload_n hx hb dX0_init_5 rfl (lv_at hl 1 rfl) ?_
  refine cy_putF (ci := 1) (Cn := RX2) (T := TX2) (N := 3) (v := .int n0) hx hb hts hin2 tyX2 tyX2_ok nmX2 hown hK.1 hS hz he rfl 0 (by decide) (hts (.fieldLink RX0 9 "CustomsYard$Load" "number" "I") (by decide +kernel)) (fun _ h9 => h9) rfl hin rfl (ty := .int) (by decide +kernel) rfl rfl (Nat.le_of_ble_eq_true rfl) dX0_init_6 (fun H locs he hsz1 hq1 hS => ?_)
  have he : va_at D vwCl (a, .inr (1, [.int n0, .int 0, x])) H := he
  refine lv_aload_n hx hb dX0_init_9 rfl (lv_at hl 0 rfl) ?_
  refine lv_iload_n hx hb dX0_init_10 rfl (lv_at hl 2 rfl) ?_
  refine cy_putF (ci := 1) (Cn := RX2) (T := TX2) (N := 3) (v := .int s0) hx hb hts hin2 tyX2 tyX2_ok nmX2 hown hK.1 hS hz he rfl 1 (by decide) (hts (.fieldLink RX0 15 "CustomsYard$Load" "sort" "I") (by decide +kernel)) (fun _ h9 => h9) rfl hin rfl (ty := .int) (by decide +kernel) rfl rfl (Nat.le_of_ble_eq_true rfl) dX0_init_11 (fun H locs he hsz2 hq2 hS => ?_)
  have he : va_at D vwCl (a, .inr (1, [.int n0, .int s0, x])) H := he
  exact W.vret hx hb hr (fun t ht hW => ⟨(), rfl, by rw [ht]; exact ⟨he, (hsz2.trans hsz1).trans (congrArg Array.size eH), fun q hne => ((hq2 q hne).trans (hq1 q hne)).trans (by rw [eH])⟩, hS.F ht⟩) hS.2.2 dX0_init_14

set_option maxHeartbeats 4000000 in
set_option maxRecDepth 100000 in
theorem c_X0_init_2 (l : Launch) (D : va_G) (cI cJ cO : ClassId) (z : Nat) (a : Nat) (hz : z ≤ a) (H0 : Heap) (x : Value) (n0 s0 : Int32) : Met l yX0_init wsX0_init { frames := 1, cells := 0, slots := 0, locals := 12 } (cy_P D cI cJ cO (fun H => H = H0 ∧ va_at D vwCl (a, .inr (2, [.int 0, .int 0, x])) H) [.ref a, .int n0, .int s0]) (cy_M (S := Unit) z (fun _ => none) (fun _ H1 => va_at D vwCl (a, .inr (2, [.int n0, .int s0, x])) H1 ∧ H1.size = H0.size ∧ ∀ q : Nat, q ≠ a → H1[q]? = H0[q]?)) 0 0 (fun q => z ≤ q) := by
  refine Met.ofW (cc := cX0_init) (maxL := 3) (ret := none) (by decide) rfl ?_
  intro p e s m args below meth c s₁ B hml hv
  obtain ⟨rfl, hK, hI⟩ := hv
  have hx := B.exec
  have hb := B.bytes
  have hr := B.returns
  have hts := atoms_spec (ws := wsX0_init) B.pre
  have hown : s.vm.findClass RX0 = some m.cls := findClass_of_methodNamed B.named
  have hlocks := B.notSynchronized
  have hin : meth.name = "<init>" := (name_of_methodNamed B.named B.method).1
  have hS : va_S (fun q => z ≤ q) s.heap s.heap [] := va_S.rf
  have hl := lv_entry ([.ref a, .int n0, .int s0]) (n := 3) (Nat.le_of_ble_eq_true rfl)
  rw [lg_entry_eq]
  generalize (lg_sl ([.ref a, .int n0, .int s0]) ++ List.replicate (3 - (lg_sl ([.ref a, .int n0, .int s0])).length) Slot.unset).toArray = ls at hl ⊢
  have hl : lv_has ls 3 [(0, .ref a), (1, .int n0), (2, .int s0)] := hl
  have hin1 := hin1_X0_init
  have hin2 := hin2_X0_init
  have hin3 := hin3_X0_init
  obtain ⟨eH, he⟩ := hI
  refine lv_aload_n hx hb dX0_init_0 rfl (lv_at hl 0 rfl) ?_
  refine W.objInit hx hb hown (hts (.methodLink RX0 3 objectInit) (by decide +kernel)) (hts (.instanceMethod objectInit) (by decide +kernel)) (hts (.code objectInit ⟨#[0xb1]⟩ 1 none) (by decide +kernel)) rfl (by rw [hml]; exact hl.1) rfl dX0_init_1 (Nat.le_of_ble_eq_true rfl) (Nat.le_of_ble_eq_true rfl) ?_
  refine W.eq (g2 := F0 m 4 ls []) rfl ?_
  refine lv_aload_n hx hb dX0_init_4 rfl (lv_at hl 0 rfl) ?_
  refine lv_iload_n hx hb dX0_init_5 rfl (lv_at hl 1 rfl) ?_
  refine cy_putF (ci := 2) (Cn := RX3) (T := TX3) (N := 3) (v := .int n0) hx hb hts hin3 tyX3 tyX3_ok nmX3 hown hK.1 hS hz he rfl 0 (by decide) (hts (.fieldLink RX0 9 "CustomsYard$Load" "number" "I") (by decide +kernel)) (fun _ h9 => h9) rfl hin rfl (ty := .int) (by decide +kernel) rfl rfl (Nat.le_of_ble_eq_true rfl) dX0_init_6 (fun H locs he hsz1 hq1 hS => ?_)
  have he : va_at D vwCl (a, .inr (2, [.int n0, .int 0, x])) H := he
  refine lv_aload_n hx hb dX0_init_9 rfl (lv_at hl 0 rfl) ?_
  refine lv_iload_n hx hb dX0_init_10 rfl (lv_at hl 2 rfl) ?_
  refine cy_putF (ci := 2) (Cn := RX3) (T := TX3) (N := 3) (v := .int s0) hx hb hts hin3 tyX3 tyX3_ok nmX3 hown hK.1 hS hz he rfl 1 (by decide) (hts (.fieldLink RX0 15 "CustomsYard$Load" "sort" "I") (by decide +kernel)) (fun _ h9 => h9) rfl hin rfl (ty := .int) (by decide +kernel) rfl rfl (Nat.le_of_ble_eq_true rfl) dX0_init_11 (fun H locs he hsz2 hq2 hS => ?_)
  have he : va_at D vwCl (a, .inr (2, [.int n0, .int s0, x])) H := he
  exact W.vret hx hb hr (fun t ht hW => ⟨(), rfl, by rw [ht]; exact ⟨he, (hsz2.trans hsz1).trans (congrArg Array.size eH), fun q hne => ((hq2 q hne).trans (hq1 q hne)).trans (by rw [eH])⟩, hS.F ht⟩) hS.2.2 dX0_init_14

set_option maxHeartbeats 4000000 in
set_option maxRecDepth 100000 in
theorem c_X1_init (l : Launch) (D : va_G) (cI cJ cO : ClassId) (z : Nat) (a : Nat) (hz : z ≤ a) (H0 : Heap) (n0 s0 : Int32) (b : Nat) : Met l yX1_init wsX1_init { frames := 2, cells := 0, slots := 0, locals := 34 } (cy_P D cI cJ cO (fun H => H = H0 ∧ va_at D vwCl (a, .inr (0, [.int 0, .int 0, .null])) H) [.ref a, .int n0, .int s0, .ref b]) (cy_M (S := Unit) z (fun _ => none) (fun _ H1 => va_at D vwCl (a, .inr (0, [.int n0, .int s0, .ref b])) H1 ∧ H1.size = H0.size ∧ ∀ q : Nat, q ≠ a → H1[q]? = H0[q]?)) 0 0 (fun q => z ≤ q) := by
  refine Met.ofW (cc := cX1_init) (maxL := 4) (ret := none) (by decide) rfl ?_
  intro p e s m args below meth c s₁ B hml hv
  obtain ⟨rfl, hK, hI⟩ := hv
  have hx := B.exec
  have hb := B.bytes
  have hr := B.returns
  have hts := atoms_spec (ws := wsX1_init) B.pre
  have hown : s.vm.findClass RX1 = some m.cls := findClass_of_methodNamed B.named
  have hlocks := B.notSynchronized
  have hin : meth.name = "<init>" := (name_of_methodNamed B.named B.method).1
  have hS : va_S (fun q => z ≤ q) s.heap s.heap [] := va_S.rf
  have hl := lv_entry ([.ref a, .int n0, .int s0, .ref b]) (n := 4) (Nat.le_of_ble_eq_true rfl)
  rw [lg_entry_eq]
  generalize (lg_sl ([.ref a, .int n0, .int s0, .ref b]) ++ List.replicate (4 - (lg_sl ([.ref a, .int n0, .int s0, .ref b])).length) Slot.unset).toArray = ls at hl ⊢
  have hl : lv_has ls 4 [(0, .ref a), (1, .int n0), (2, .int s0), (3, .ref b)] := hl
  have hin1 := hin1_X1_init
  have hin2 := hin2_X1_init
  have hin3 := hin3_X1_init
  obtain ⟨eH, he⟩ := hI
  refine lv_aload_n hx hb dX1_init_0 rfl (lv_at hl 0 rfl) ?_
  refine lv_iload_n hx hb dX1_init_1 rfl (lv_at hl 1 rfl) ?_
  refine lv_iload_n hx hb dX1_init_2 rfl (lv_at hl 2 rfl) ?_
  refine cy_callm (va_runI (As := [.int n0, .int s0]) (rest := []) ⟨hx, hb, hml, hown, hts⟩ (c_X0_init_0 l D cI cJ cO z a hz s.heap .null n0 s0) (cwI 2 hts gX1_init_X0_init rfl rfl rfl (hts (.initialized RX0) (by decide +kernel)) (hts (.methodLink RX1 1 yX0_init) (by decide +kernel)) (hts (.instanceMethod yX0_init) (by decide +kernel)) rfl (by decide +kernel) ⟨Nat.le_of_ble_eq_true rfl, Nat.le_of_ble_eq_true rfl⟩) (cy_preS hK ⟨rfl, he⟩) rfl rfl hl.1 rfl (lv_room (Nat.le_of_ble_eq_true rfl)) dX1_init_3 ⟨Nat.le_of_ble_eq_true rfl, Nat.le_of_ble_eq_true rfl⟩) hS (fun u H locs hI hz0 hS => ?_)
  obtain ⟨he, hsz1, hq1⟩ := hI
  refine W.eq (g2 := F0 m 6 ls []) rfl ?_
  refine lv_aload_n hx hb dX1_init_6 rfl (lv_at hl 0 rfl) ?_
  refine lv_aload_n hx hb dX1_init_7 rfl (lv_at hl 3 rfl) ?_
  refine cy_putF (ci := 0) (Cn := RX1) (T := TX1) (N := 3) (v := .ref b) hx hb hts hin1 tyX1 tyX1_ok nmX1 hown hK.1 hS hz he rfl 2 (by decide) (hts (.fieldLink RX1 7 "CustomsYard$Numbers" "places" "[J") (by decide +kernel)) (fun _ h9 => h9) rfl hin rfl (ty := .array .long) (by decide +kernel) rfl rfl (Nat.le_of_ble_eq_true rfl) dX1_init_8 (fun H locs he hsz2 hq2 hS => ?_)
  have he : va_at D vwCl (a, .inr (0, [.int n0, .int s0, .ref b])) H := he
  exact W.vret hx hb hr (fun t ht hW => ⟨(), rfl, by rw [ht]; exact ⟨he, (hsz2.trans hsz1).trans (congrArg Array.size eH), fun q hne => ((hq2 q hne).trans (hq1 q hne)).trans (by rw [eH])⟩, hS.F ht⟩) hS.2.2 dX1_init_11

set_option maxHeartbeats 4000000 in
set_option maxRecDepth 100000 in
theorem c_X2_init (l : Launch) (D : va_G) (cI cJ cO : ClassId) (z : Nat) (a : Nat) (hz : z ≤ a) (H0 : Heap) (n0 s0 : Int32) (w0 : Int32) : Met l yX2_init wsX2_init { frames := 2, cells := 0, slots := 0, locals := 34 } (cy_P D cI cJ cO (fun H => H = H0 ∧ va_at D vwCl (a, .inr (1, [.int 0, .int 0, .int 0])) H) [.ref a, .int n0, .int s0, .int w0]) (cy_M (S := Unit) z (fun _ => none) (fun _ H1 => va_at D vwCl (a, .inr (1, [.int n0, .int s0, .int w0])) H1 ∧ H1.size = H0.size ∧ ∀ q : Nat, q ≠ a → H1[q]? = H0[q]?)) 0 0 (fun q => z ≤ q) := by
  refine Met.ofW (cc := cX2_init) (maxL := 4) (ret := none) (by decide) rfl ?_
  intro p e s m args below meth c s₁ B hml hv
  obtain ⟨rfl, hK, hI⟩ := hv
  have hx := B.exec
  have hb := B.bytes
  have hr := B.returns
  have hts := atoms_spec (ws := wsX2_init) B.pre
  have hown : s.vm.findClass RX2 = some m.cls := findClass_of_methodNamed B.named
  have hlocks := B.notSynchronized
  have hin : meth.name = "<init>" := (name_of_methodNamed B.named B.method).1
  have hS : va_S (fun q => z ≤ q) s.heap s.heap [] := va_S.rf
  have hl := lv_entry ([.ref a, .int n0, .int s0, .int w0]) (n := 4) (Nat.le_of_ble_eq_true rfl)
  rw [lg_entry_eq]
  generalize (lg_sl ([.ref a, .int n0, .int s0, .int w0]) ++ List.replicate (4 - (lg_sl ([.ref a, .int n0, .int s0, .int w0])).length) Slot.unset).toArray = ls at hl ⊢
  have hl : lv_has ls 4 [(0, .ref a), (1, .int n0), (2, .int s0), (3, .int w0)] := hl
  have hin1 := hin1_X2_init
  have hin2 := hin2_X2_init
  have hin3 := hin3_X2_init
  obtain ⟨eH, he⟩ := hI
  refine lv_aload_n hx hb dX2_init_0 rfl (lv_at hl 0 rfl) ?_
  refine lv_iload_n hx hb dX2_init_1 rfl (lv_at hl 1 rfl) ?_
  refine lv_iload_n hx hb dX2_init_2 rfl (lv_at hl 2 rfl) ?_
  refine cy_callm (va_runI (As := [.int n0, .int s0]) (rest := []) ⟨hx, hb, hml, hown, hts⟩ (c_X0_init_1 l D cI cJ cO z a hz s.heap (.int 0) n0 s0) (cwI 2 hts gX2_init_X0_init rfl rfl rfl (hts (.initialized RX0) (by decide +kernel)) (hts (.methodLink RX2 3 yX0_init) (by decide +kernel)) (hts (.instanceMethod yX0_init) (by decide +kernel)) rfl (by decide +kernel) ⟨Nat.le_of_ble_eq_true rfl, Nat.le_of_ble_eq_true rfl⟩) (cy_preS hK ⟨rfl, he⟩) rfl rfl hl.1 rfl (lv_room (Nat.le_of_ble_eq_true rfl)) dX2_init_3 ⟨Nat.le_of_ble_eq_true rfl, Nat.le_of_ble_eq_true rfl⟩) hS (fun u H locs hI hz0 hS => ?_)
  obtain ⟨he, hsz1, hq1⟩ := hI
  refine W.eq (g2 := F0 m 6 ls []) rfl ?_
  refine lv_aload_n hx hb dX2_init_6 rfl (lv_at hl 0 rfl) ?_
  refine lv_iload_n hx hb dX2_init_7 rfl (lv_at hl 3 rfl) ?_
  refine cy_putF (ci := 1) (Cn := RX2) (T := TX2) (N := 3) (v := .int w0) hx hb hts hin2 tyX2 tyX2_ok nmX2 hown hK.1 hS hz he rfl 2 (by decide) (hts (.fieldLink RX2 9 "CustomsYard$Piece" "told" "I") (by decide +kernel)) (fun _ h9 => h9) rfl hin rfl (ty := .int) (by decide +kernel) rfl rfl (Nat.le_of_ble_eq_true rfl) dX2_init_8 (fun H locs he hsz2 hq2 hS => ?_)
  have he : va_at D vwCl (a, .inr (1, [.int n0, .int s0, .int w0])) H := he
  exact W.vret hx hb hr (fun t ht hW => ⟨(), rfl, by rw [ht]; exact ⟨he, (hsz2.trans hsz1).trans (congrArg Array.size eH), fun q hne => ((hq2 q hne).trans (hq1 q hne)).trans (by rw [eH])⟩, hS.F ht⟩) hS.2.2 dX2_init_11

set_option maxHeartbeats 4000000 in
set_option maxRecDepth 100000 in
theorem c_X3_init (l : Launch) (D : va_G) (cI cJ cO : ClassId) (z : Nat) (a : Nat) (hz : z ≤ a) (H0 : Heap) (n0 s0 : Int32) (b : Nat) : Met l yX3_init wsX3_init { frames := 2, cells := 0, slots := 0, locals := 34 } (cy_P D cI cJ cO (fun H => H = H0 ∧ va_at D vwCl (a, .inr (2, [.int 0, .int 0, .null])) H) [.ref a, .int n0, .int s0, .ref b]) (cy_M (S := Unit) z (fun _ => none) (fun _ H1 => va_at D vwCl (a, .inr (2, [.int n0, .int s0, .ref b])) H1 ∧ H1.size = H0.size ∧ ∀ q : Nat, q ≠ a → H1[q]? = H0[q]?)) 0 0 (fun q => z ≤ q) := by
  refine Met.ofW (cc := cX3_init) (maxL := 4) (ret := none) (by decide) rfl ?_
  intro p e s m args below meth c s₁ B hml hv
  obtain ⟨rfl, hK, hI⟩ := hv
  have hx := B.exec
  have hb := B.bytes
  have hr := B.returns
  have hts := atoms_spec (ws := wsX3_init) B.pre
  have hown : s.vm.findClass RX3 = some m.cls := findClass_of_methodNamed B.named
  have hlocks := B.notSynchronized
  have hin : meth.name = "<init>" := (name_of_methodNamed B.named B.method).1
  have hS : va_S (fun q => z ≤ q) s.heap s.heap [] := va_S.rf
  have hl := lv_entry ([.ref a, .int n0, .int s0, .ref b]) (n := 4) (Nat.le_of_ble_eq_true rfl)
  rw [lg_entry_eq]
  generalize (lg_sl ([.ref a, .int n0, .int s0, .ref b]) ++ List.replicate (4 - (lg_sl ([.ref a, .int n0, .int s0, .ref b])).length) Slot.unset).toArray = ls at hl ⊢
  have hl : lv_has ls 4 [(0, .ref a), (1, .int n0), (2, .int s0), (3, .ref b)] := hl
  have hin1 := hin1_X3_init
  have hin2 := hin2_X3_init
  have hin3 := hin3_X3_init
  obtain ⟨eH, he⟩ := hI
  refine lv_aload_n hx hb dX3_init_0 rfl (lv_at hl 0 rfl) ?_
  refine lv_iload_n hx hb dX3_init_1 rfl (lv_at hl 1 rfl) ?_
  refine lv_iload_n hx hb dX3_init_2 rfl (lv_at hl 2 rfl) ?_
  refine cy_callm (va_runI (As := [.int n0, .int s0]) (rest := []) ⟨hx, hb, hml, hown, hts⟩ (c_X0_init_2 l D cI cJ cO z a hz s.heap .null n0 s0) (cwI 2 hts gX3_init_X0_init rfl rfl rfl (hts (.initialized RX0) (by decide +kernel)) (hts (.methodLink RX3 3 yX0_init) (by decide +kernel)) (hts (.instanceMethod yX0_init) (by decide +kernel)) rfl (by decide +kernel) ⟨Nat.le_of_ble_eq_true rfl, Nat.le_of_ble_eq_true rfl⟩) (cy_preS hK ⟨rfl, he⟩) rfl rfl hl.1 rfl (lv_room (Nat.le_of_ble_eq_true rfl)) dX3_init_3 ⟨Nat.le_of_ble_eq_true rfl, Nat.le_of_ble_eq_true rfl⟩) hS (fun u H locs hI hz0 hS => ?_)
  obtain ⟨he, hsz1, hq1⟩ := hI
  refine W.eq (g2 := F0 m 6 ls []) rfl ?_
  refine lv_aload_n hx hb dX3_init_6 rfl (lv_at hl 0 rfl) ?_
  refine lv_aload_n hx hb dX3_init_7 rfl (lv_at hl 3 rfl) ?_
  refine cy_putF (ci := 2) (Cn := RX3) (T := TX3) (N := 3) (v := .ref b) hx hb hts hin3 tyX3 tyX3_ok nmX3 hown hK.1 hS hz he rfl 2 (by decide) (hts (.fieldLink RX3 9 "CustomsYard$Things" "places" "[LCustomsYard$Load;") (by decide +kernel)) (fun _ h9 => h9) rfl hin rfl (ty := .array (.object "CustomsYard$Load")) (by decide +kernel) rfl rfl (Nat.le_of_ble_eq_true rfl) dX3_init_8 (fun H locs he hsz2 hq2 hS => ?_)
  have he : va_at D vwCl (a, .inr (2, [.int n0, .int s0, .ref b])) H := he
  exact W.vret hx hb hr (fun t ht hW => ⟨(), rfl, by rw [ht]; exact ⟨he, (hsz2.trans hsz1).trans (congrArg Array.size eH), fun q hne => ((hq2 q hne).trans (hq1 q hne)).trans (by rw [eH])⟩, hS.F ht⟩) hS.2.2 dX3_init_11

set_option maxHeartbeats 4000000 in
set_option maxRecDepth 100000 in
theorem c_X4_makeLoad (l : Launch) (D : va_G) (cI cJ cO : ClassId) (z n : Nat) (σ τ : cy_S) (pl : Nat → Int32) (hi : Int32) (ad : Nat → Nat) (hok : cy_ok n σ) (hb12 : ∀ j, 12 ≤ j → σ.1 5 j = -1) (s0 q0 : Int32) (hq6 : cy_sg s0 = false → ∃ p : Nat, p ≤ 6 ∧ q0 = nI p) : Met l yX4_makeLoad wsX4_makeLoad { frames := 3, cells := 2, slots := 9, locals := 57 } (cy_P D cI cJ cO (fun H => cy_W D z (cy_CT cI cJ cO n n σ τ pl hi ad) ad H) [.int (nI n), .int s0, .int q0]) (cy_M (S := Nat → Nat) z (fun u => some (.ref (u (100 + 2 * n)))) (fun u H => cy_W D z (cy_CT cI cJ cO (n + 1) n (cy_mk n σ s0 q0) τ pl hi u) u H ∧ ∀ j, j < 100 + 2 * n → u j = ad j)) 2 9 (fun q => z ≤ q) := by
  refine Met.ofW (cc := cX4_makeLoad) (maxL := 3) (ret := (some (.object "CustomsYard$Load"))) (by decide) rfl ?_
  intro p e s m args below meth c s₁ B hml hv
  obtain ⟨rfl, hK, hI⟩ := hv
  have hx := B.exec
  have hb := B.bytes
  have hr := B.returns
  have hts := atoms_spec (ws := wsX4_makeLoad) B.pre
  have hown : s.vm.findClass RX4 = some m.cls := findClass_of_methodNamed B.named
  have hlocks := B.notSynchronized
  have hS : va_S (fun q => z ≤ q) s.heap s.heap [] := va_S.rf
  have hl := lv_entry ([.int (nI n), .int s0, .int q0]) (n := 3) (Nat.le_of_ble_eq_true rfl)
  rw [lg_entry_eq]
  generalize (lg_sl ([.int (nI n), .int s0, .int q0]) ++ List.replicate (3 - (lg_sl ([.int (nI n), .int s0, .int q0])).length) Slot.unset).toArray = ls at hl ⊢
  have hl : lv_has ls 3 [(0, .int (nI n)), (1, .int s0), (2, .int q0)] := hl
  have hin1 := hin1_X4_makeLoad
  have hin2 := hin2_X4_makeLoad
  have hin3 := hin3_X4_makeLoad
  have hn := hok.1
  have hzH : z ≤ s.heap.size := Nat.le_trans (hI.1 0 _ cy_CY).2 (Nat.le_of_lt (hI.lt cy_CY))
  refine lv_iload_n hx hb dX4_makeLoad_0 rfl (lv_at hl 1 rfl) ?_
  refine cy_callp (v := .int (cy_b (cy_sg s0))) (va_runS (As := [.int s0]) (rest := []) ⟨hx, hb, hml, hown, hts⟩ (c_X4_hasWeightTold l s0) (va_cwS 1 hts gX4_makeLoad_X4_hasWeightTold rfl rfl rfl (by decide +kernel) ⟨Nat.le_of_ble_eq_true rfl, Nat.le_of_ble_eq_true rfl⟩) preEq rfl rfl hl.1 rfl (lv_room (Nat.le_of_ble_eq_true rfl)) dX4_makeLoad_1 ⟨Nat.le_of_ble_eq_true rfl, Nat.le_of_ble_eq_true rfl⟩) ?_
  cases b1 : (cy_sg s0)
  · obtain ⟨p0, hp0, ep0⟩ := hq6 b1
    refine lv_if_eq (tgt := 18) hx hb dX4_makeLoad_4 (by decide) (fun h2 => ?_) (fun h2 => absurd (by decide) h2)
    by_cases hnum : s0 = 0 ∨ s0 = 1 ∨ s0 = 2
    · have hkd : cy_kd s0 = 0 := by unfold cy_kd; rw [if_pos hnum]
      have go32 : ∀ (ls : Array Slot), lv_has ls 3 [(0, .int (nI n)), (1, .int s0), (2, .int q0)] → W p l e (headSpec wsX4_makeLoad { frames := 3, cells := 2, slots := 9, locals := 57 }).room s m #[Value.int (nI n), Value.int s0, Value.int q0] below meth c s.heap [] 0 0 (MQ below (cy_M (S := Nat → Nat) z (fun u => some (.ref (u (100 + 2 * n)))) (fun u H => cy_W D z (cy_CT cI cJ cO (n + 1) n (cy_mk n σ s0 q0) τ pl hi u) u H ∧ ∀ j, j < 100 + 2 * n → u j = ad j)) #[Value.int (nI n), Value.int s0, Value.int q0] s 2 9 (fun q => z ≤ q)) (F0 m 32 ls []) := ?_
      · rcases hnum with h | h | h
        · refine lv_iload_n hx hb dX4_makeLoad_18 rfl (lv_at hl 1 rfl) ?_
          refine lv_if_eq (tgt := 32) hx hb dX4_makeLoad_19 (by decide) (fun h13 => ?_) (fun h13 => absurd (h) h13)
          exact go32 ls hl
        · refine lv_iload_n hx hb dX4_makeLoad_18 rfl (lv_at hl 1 rfl) ?_
          refine lv_if_eq (tgt := 32) hx hb dX4_makeLoad_19 (by decide) (fun h13 => absurd h13 (by rw [h]; decide)) (fun h13 => ?_)
          refine lv_iload_n hx hb dX4_makeLoad_22 rfl (lv_at hl 1 rfl) ?_
          refine lv_iconst (v := 1) hx hb dX4_makeLoad_23 (by decide) ?_
          refine lv_icmp_eq (tgt := 32) hx hb dX4_makeLoad_24 (by decide) (fun h14 => ?_) (fun h14 => absurd (h) h14)
          exact go32 ls hl
        · refine lv_iload_n hx hb dX4_makeLoad_18 rfl (lv_at hl 1 rfl) ?_
          refine lv_if_eq (tgt := 32) hx hb dX4_makeLoad_19 (by decide) (fun h13 => absurd h13 (by rw [h]; decide)) (fun h13 => ?_)
          refine lv_iload_n hx hb dX4_makeLoad_22 rfl (lv_at hl 1 rfl) ?_
          refine lv_iconst (v := 1) hx hb dX4_makeLoad_23 (by decide) ?_
          refine lv_icmp_eq (tgt := 32) hx hb dX4_makeLoad_24 (by decide) (fun h14 => absurd h14 (by rw [h]; decide)) (fun h14 => ?_)
          refine lv_iload_n hx hb dX4_makeLoad_27 rfl (lv_at hl 1 rfl) ?_
          refine lv_iconst (v := 2) hx hb dX4_makeLoad_28 (by decide) ?_
          refine lv_icmp_ne (tgt := 45) hx hb dX4_makeLoad_29 (by decide) (fun h15 => absurd (h) h15) (fun h15 => ?_)
          exact go32 ls hl
      intro ls hl
      refine cy_new (ci := 0) (Cn := RX1) (T := TX1) (N := 3) (fs := [.int 0, .int 0, .null]) hx hb hts hin1 tyX1 tyX1_ok hown (hts (.classLink RX4 61 RX1) (by decide +kernel)) (hts (.instantiable RX1 3) (by decide +kernel)) (hts (.initialized RX1) (by decide +kernel)) hK.1 hS rfl (fun j hj => by rcases (show j = 0 ∨ j = 1 ∨ j = 2 by omega) with rfl | rfl | rfl <;> rfl) (Nat.le_of_ble_eq_true rfl) (Nat.le_of_ble_eq_true rfl) dX4_makeLoad_32 (fun H1 he hs1 ho1 hS => ?_)
      have hlt0 : s.heap.size < H1.size := by omega
      refine lv_dup hx hb dX4_makeLoad_35 rfl ?_
      refine lv_iload_n hx hb dX4_makeLoad_36 rfl (lv_at hl 0 rfl) ?_
      refine lv_iload_n hx hb dX4_makeLoad_37 rfl (lv_at hl 1 rfl) ?_
      refine lv_iload_n hx hb dX4_makeLoad_38 rfl (lv_at hl 2 rfl) ?_
      refine cy_newJ (N := p0) hx hb (hts (.arrayClass .long) (by decide +kernel)) hK.1 1 rfl hS (by rw [ep0]; exact nI_pos (by omega)) (by rw [ep0]; exact nI_clamp (by omega)) (by omega) (Nat.le_of_ble_eq_true rfl) (show 3 + p0 ≤ 9 by omega) dX4_makeLoad_39 (fun H2 hea hs2 ho2 hS => ?_)
      have he := va_at.kept he (ho2 _ (by show s.heap.size < H1.size; omega))
      refine cy_callm (va_runI (As := [.int (nI n), .int s0, .ref H1.size]) (rest := [.ref s.heap.size]) ⟨hx, hb, hml, hown, hts⟩ (c_X1_init l D cI cJ cO z s.heap.size hzH H2 (nI n) s0 H1.size) (cwI 3 hts gX4_makeLoad_X1_init rfl rfl rfl (hts (.initialized RX1) (by decide +kernel)) (hts (.methodLink RX4 149 yX1_init) (by decide +kernel)) (hts (.instanceMethod yX1_init) (by decide +kernel)) rfl (by decide +kernel) ⟨Nat.le_of_ble_eq_true rfl, Nat.le_of_ble_eq_true rfl⟩) (cy_preS hK ⟨rfl, he⟩) rfl rfl hl.1 rfl (lv_room (Nat.le_of_ble_eq_true rfl)) dX4_makeLoad_41 ⟨Nat.le_of_ble_eq_true rfl, (show 3 + p0 ≤ 9 by omega)⟩) hS (fun u H3 locs hI3 hz0 hS => ?_)
      obtain ⟨he, hs3, hq3⟩ := hI3
      refine W.eq (g2 := F0 m 44 ls [.ref s.heap.size]) rfl ?_
      have e1 : ∀ k, k < n → (cy_mk n σ s0 q0).1 1 k = σ.1 1 k := fun k hk => by rw [cy_mk_1, if_neg (by omega)]
      have e2 : ∀ k, k < n → (cy_mk n σ s0 q0).1 2 k = σ.1 2 k := fun k hk => by rw [cy_mk_2, if_neg (by omega)]
      have e3 : ∀ k, k < n → (cy_mk n σ s0 q0).1 3 k = σ.1 3 k := fun k hk => by rw [cy_mk_3, if_neg (by omega)]
      have e4 : ∀ k, k < n → ∀ j, j < 6 → (cy_mk n σ s0 q0).1 4 (6 * k + j) = σ.1 4 (6 * k + j) := fun k hk j hj => by rw [cy_mk_4, if_neg (by omega)]
      have e5 : ∀ k, k < n → ∀ j, j < 6 → (cy_mk n σ s0 q0).2 0 (6 * k + j) = σ.2 0 (6 * k + j) := fun k hk j hj => by rw [cy_mk_n, if_neg (by omega)]
      have w1 : (cy_mk n σ s0 q0).1 1 n = s0 := by rw [cy_mk_1, if_pos rfl]
      have kd : cy_kd ((cy_mk n σ s0 q0).1 1 n) = 0 := by rw [w1]; exact hkd
      have w2 : (cy_mk n σ s0 q0).1 2 n = q0 := by rw [cy_mk_2, if_pos rfl, if_neg (by rw [b1]; decide)]
      have hsz1 : H1.size = s.heap.size + 1 := hs1
      have hea := va_at.kept hea (hq3 H1.size (by omega))
      rw [hsz1] at hea
      have ef : (fun j => if j < 6 then (cy_mk n σ s0 q0).2 0 (6 * n + j) else 0) = (fun _ => 0) := by funext j; by_cases hj : j < 6; rw [if_pos hj, cy_mk_n, if_pos (by omega)]; rw [if_neg hj]
      have hI4 := cy_W.add (a0 := s.heap.size) (a1 := s.heap.size + 1) hok hb12 hI e1 e2 e3 e4 e5 (cy_mk_c _ _ _ _ (by decide) (by decide) (by decide) (by decide)) (cy_mk_c _ _ _ _ (by decide) (by decide) (by decide) (by decide)) (cy_mk_c _ _ _ _ (by decide) (by decide) (by decide) (by decide)) (cy_mk_c _ _ _ _ (by decide) (by decide) (by decide) (by decide)) (cy_mk_c _ _ _ _ (by decide) (by decide) (by decide) (by decide)) (cy_mk_s _ _ _ _) (fun q hq => (hq3 q (by omega)).trans ((ho2 q (by omega)).trans (ho1 q hq))) (Nat.le_refl _) (by omega) (by omega) (by rw [cy_ob0 kd, w1, cy_ad_1]; rw [hsz1] at he; exact he) (fun e h => by rw [cy_ar0 kd, ef, w2, ep0, nI_clamp (by omega)] at h; cases h; exact hea)
      refine W.widen (k := 2) (n := 9) (Nat.le_of_ble_eq_true rfl) (show 3 + p0 ≤ 9 by omega) ?_
      exact W.aret (v := .ref s.heap.size) hx hb hr (Or.inl ⟨_, rfl⟩) (Or.inr ⟨_, rfl⟩) (fun t ht hW => ⟨cy_ad ad n s.heap.size (s.heap.size + 1), congrArg (fun q => Outcome.returned (some (Value.ref q))) (cy_ad_0 ad n _ _).symm, by rw [ht]; exact ⟨hI4, fun j hj => cy_ad_o _ _ _ _ (by omega) (by omega)⟩, hS.F ht⟩) hS.2.2 dX4_makeLoad_44
    · have hkd : cy_kd s0 = 2 := cy_kd_2 hnum b1
      refine lv_iload_n hx hb dX4_makeLoad_18 rfl (lv_at hl 1 rfl) ?_
      refine lv_if_eq (tgt := 32) hx hb dX4_makeLoad_19 (by decide) (fun h33 => absurd h33 (fun q => hnum (Or.inl q))) (fun h33 => ?_)
      refine lv_iload_n hx hb dX4_makeLoad_22 rfl (lv_at hl 1 rfl) ?_
      refine lv_iconst (v := 1) hx hb dX4_makeLoad_23 (by decide) ?_
      refine lv_icmp_eq (tgt := 32) hx hb dX4_makeLoad_24 (by decide) (fun h34 => absurd h34 (fun q => hnum (Or.inr (Or.inl q)))) (fun h34 => ?_)
      refine lv_iload_n hx hb dX4_makeLoad_27 rfl (lv_at hl 1 rfl) ?_
      refine lv_iconst (v := 2) hx hb dX4_makeLoad_28 (by decide) ?_
      refine lv_icmp_ne (tgt := 45) hx hb dX4_makeLoad_29 (by decide) (fun h35 => ?_) (fun h35 => absurd h35 (fun q => hnum (Or.inr (Or.inr q))))
      refine cy_new (ci := 2) (Cn := RX3) (T := TX3) (N := 3) (fs := [.int 0, .int 0, .null]) hx hb hts hin3 tyX3 tyX3_ok hown (hts (.classLink RX4 72 RX3) (by decide +kernel)) (hts (.instantiable RX3 3) (by decide +kernel)) (hts (.initialized RX3) (by decide +kernel)) hK.1 hS rfl (fun j hj => by rcases (show j = 0 ∨ j = 1 ∨ j = 2 by omega) with rfl | rfl | rfl <;> rfl) (Nat.le_of_ble_eq_true rfl) (Nat.le_of_ble_eq_true rfl) dX4_makeLoad_45 (fun H1 he hs1 ho1 hS => ?_)
      have hlt0 : s.heap.size < H1.size := by omega
      refine lv_dup hx hb dX4_makeLoad_48 rfl ?_
      refine lv_iload_n hx hb dX4_makeLoad_49 rfl (lv_at hl 0 rfl) ?_
      refine lv_iload_n hx hb dX4_makeLoad_50 rfl (lv_at hl 1 rfl) ?_
      refine lv_iload_n hx hb dX4_makeLoad_51 rfl (lv_at hl 2 rfl) ?_
      refine cy_newO (N := p0) hx hb hown (hts (.classLink RX4 9 RX0) (by decide +kernel)) (va_AO.use hK.aO) hK.1 2 rfl hS (by rw [ep0]; exact nI_pos (by omega)) (by rw [ep0]; exact nI_clamp (by omega)) (by omega) (Nat.le_of_ble_eq_true rfl) (show 3 + p0 ≤ 9 by omega) dX4_makeLoad_52 (fun H2 hea hs2 ho2 hS => ?_)
      have he := va_at.kept he (ho2 _ (by show s.heap.size < H1.size; omega))
      refine cy_callm (va_runI (As := [.int (nI n), .int s0, .ref H1.size]) (rest := [.ref s.heap.size]) ⟨hx, hb, hml, hown, hts⟩ (c_X3_init l D cI cJ cO z s.heap.size hzH H2 (nI n) s0 H1.size) (cwI 3 hts gX4_makeLoad_X3_init rfl rfl rfl (hts (.initialized RX3) (by decide +kernel)) (hts (.methodLink RX4 152 yX3_init) (by decide +kernel)) (hts (.instanceMethod yX3_init) (by decide +kernel)) rfl (by decide +kernel) ⟨Nat.le_of_ble_eq_true rfl, Nat.le_of_ble_eq_true rfl⟩) (cy_preS hK ⟨rfl, he⟩) rfl rfl hl.1 rfl (lv_room (Nat.le_of_ble_eq_true rfl)) dX4_makeLoad_55 ⟨Nat.le_of_ble_eq_true rfl, (show 3 + p0 ≤ 9 by omega)⟩) hS (fun u H3 locs hI3 hz0 hS => ?_)
      obtain ⟨he, hs3, hq3⟩ := hI3
      refine W.eq (g2 := F0 m 58 ls [.ref s.heap.size]) rfl ?_
      have e1 : ∀ k, k < n → (cy_mk n σ s0 q0).1 1 k = σ.1 1 k := fun k hk => by rw [cy_mk_1, if_neg (by omega)]
      have e2 : ∀ k, k < n → (cy_mk n σ s0 q0).1 2 k = σ.1 2 k := fun k hk => by rw [cy_mk_2, if_neg (by omega)]
      have e3 : ∀ k, k < n → (cy_mk n σ s0 q0).1 3 k = σ.1 3 k := fun k hk => by rw [cy_mk_3, if_neg (by omega)]
      have e4 : ∀ k, k < n → ∀ j, j < 6 → (cy_mk n σ s0 q0).1 4 (6 * k + j) = σ.1 4 (6 * k + j) := fun k hk j hj => by rw [cy_mk_4, if_neg (by omega)]
      have e5 : ∀ k, k < n → ∀ j, j < 6 → (cy_mk n σ s0 q0).2 0 (6 * k + j) = σ.2 0 (6 * k + j) := fun k hk j hj => by rw [cy_mk_n, if_neg (by omega)]
      have w1 : (cy_mk n σ s0 q0).1 1 n = s0 := by rw [cy_mk_1, if_pos rfl]
      have kd : cy_kd ((cy_mk n σ s0 q0).1 1 n) = 2 := by rw [w1]; exact hkd
      have w2 : (cy_mk n σ s0 q0).1 2 n = q0 := by rw [cy_mk_2, if_pos rfl, if_neg (by rw [b1]; decide)]
      have hsz1 : H1.size = s.heap.size + 1 := hs1
      have hea := va_at.kept hea (hq3 H1.size (by omega))
      rw [hsz1] at hea
      have ef : (fun j => if j < 6 then cy_rf (cy_ad ad n s.heap.size (s.heap.size + 1)) ((cy_mk n σ s0 q0).1 4 (6 * n + j)) else none) = (fun _ => none) := by funext j; by_cases hj : j < 6; rw [if_pos hj, cy_mk_4, if_pos (by omega), cy_rf_n rfl]; rw [if_neg hj]
      have hI4 := cy_W.add (a0 := s.heap.size) (a1 := s.heap.size + 1) hok hb12 hI e1 e2 e3 e4 e5 (cy_mk_c _ _ _ _ (by decide) (by decide) (by decide) (by decide)) (cy_mk_c _ _ _ _ (by decide) (by decide) (by decide) (by decide)) (cy_mk_c _ _ _ _ (by decide) (by decide) (by decide) (by decide)) (cy_mk_c _ _ _ _ (by decide) (by decide) (by decide) (by decide)) (cy_mk_c _ _ _ _ (by decide) (by decide) (by decide) (by decide)) (cy_mk_s _ _ _ _) (fun q hq => (hq3 q (by omega)).trans ((ho2 q (by omega)).trans (ho1 q hq))) (Nat.le_refl _) (by omega) (by omega) (by rw [cy_ob2 kd, w1, cy_ad_1]; rw [hsz1] at he; exact he) (fun e h => by rw [cy_ar2 kd, ef, w2, ep0, nI_clamp (by omega)] at h; cases h; exact hea)
      refine W.widen (k := 2) (n := 9) (Nat.le_of_ble_eq_true rfl) (show 3 + p0 ≤ 9 by omega) ?_
      exact W.aret (v := .ref s.heap.size) hx hb hr (Or.inl ⟨_, rfl⟩) (Or.inr ⟨_, rfl⟩) (fun t ht hW => ⟨cy_ad ad n s.heap.size (s.heap.size + 1), congrArg (fun q => Outcome.returned (some (Value.ref q))) (cy_ad_0 ad n _ _).symm, by rw [ht]; exact ⟨hI4, fun j hj => cy_ad_o _ _ _ _ (by omega) (by omega)⟩, hS.F ht⟩) hS.2.2 dX4_makeLoad_58
  · have hkd : cy_kd s0 = 1 := cy_kd_sg b1
    refine lv_if_eq (tgt := 18) hx hb dX4_makeLoad_4 (by decide) (fun h3 => absurd h3 (by decide)) (fun h3 => ?_)
    refine cy_new (ci := 1) (Cn := RX2) (T := TX2) (N := 3) (fs := [.int 0, .int 0, .int 0]) hx hb hts hin2 tyX2 tyX2_ok hown (hts (.classLink RX4 144 RX2) (by decide +kernel)) (hts (.instantiable RX2 3) (by decide +kernel)) (hts (.initialized RX2) (by decide +kernel)) hK.1 hS rfl (fun j hj => by rcases (show j = 0 ∨ j = 1 ∨ j = 2 by omega) with rfl | rfl | rfl <;> rfl) (Nat.le_of_ble_eq_true rfl) (Nat.le_of_ble_eq_true rfl) dX4_makeLoad_7 (fun H1 he hs1 ho1 hS => ?_)
    have hlt0 : s.heap.size < H1.size := by omega
    refine lv_dup hx hb dX4_makeLoad_10 rfl ?_
    refine lv_iload_n hx hb dX4_makeLoad_11 rfl (lv_at hl 0 rfl) ?_
    refine lv_iload_n hx hb dX4_makeLoad_12 rfl (lv_at hl 1 rfl) ?_
    refine lv_iload_n hx hb dX4_makeLoad_13 rfl (lv_at hl 2 rfl) ?_
    refine cy_callm (va_runI (As := [.int (nI n), .int s0, .int q0]) (rest := [.ref s.heap.size]) ⟨hx, hb, hml, hown, hts⟩ (c_X2_init l D cI cJ cO z s.heap.size hzH H1 (nI n) s0 q0) (cwI 3 hts gX4_makeLoad_X2_init rfl rfl rfl (hts (.initialized RX2) (by decide +kernel)) (hts (.methodLink RX4 146 yX2_init) (by decide +kernel)) (hts (.instanceMethod yX2_init) (by decide +kernel)) rfl (by decide +kernel) ⟨Nat.le_of_ble_eq_true rfl, Nat.le_of_ble_eq_true rfl⟩) (cy_preS hK ⟨rfl, he⟩) rfl rfl hl.1 rfl (lv_room (Nat.le_of_ble_eq_true rfl)) dX4_makeLoad_14 ⟨Nat.le_of_ble_eq_true rfl, Nat.le_of_ble_eq_true rfl⟩) hS (fun u H3 locs hI3 hz0 hS => ?_)
    obtain ⟨he, hs3, hq3⟩ := hI3
    refine W.eq (g2 := F0 m 17 ls [.ref s.heap.size]) rfl ?_
    have e1 : ∀ k, k < n → (cy_mk n σ s0 q0).1 1 k = σ.1 1 k := fun k hk => by rw [cy_mk_1, if_neg (by omega)]
    have e2 : ∀ k, k < n → (cy_mk n σ s0 q0).1 2 k = σ.1 2 k := fun k hk => by rw [cy_mk_2, if_neg (by omega)]
    have e3 : ∀ k, k < n → (cy_mk n σ s0 q0).1 3 k = σ.1 3 k := fun k hk => by rw [cy_mk_3, if_neg (by omega)]
    have e4 : ∀ k, k < n → ∀ j, j < 6 → (cy_mk n σ s0 q0).1 4 (6 * k + j) = σ.1 4 (6 * k + j) := fun k hk j hj => by rw [cy_mk_4, if_neg (by omega)]
    have e5 : ∀ k, k < n → ∀ j, j < 6 → (cy_mk n σ s0 q0).2 0 (6 * k + j) = σ.2 0 (6 * k + j) := fun k hk j hj => by rw [cy_mk_n, if_neg (by omega)]
    have w1 : (cy_mk n σ s0 q0).1 1 n = s0 := by rw [cy_mk_1, if_pos rfl]
    have kd : cy_kd ((cy_mk n σ s0 q0).1 1 n) = 1 := by rw [w1]; exact hkd
    have w3 : (cy_mk n σ s0 q0).1 3 n = q0 := by rw [cy_mk_3, if_pos rfl, if_pos b1]
    have hI4 := cy_W.add (a0 := s.heap.size) (a1 := s.heap.size + 1) hok hb12 hI e1 e2 e3 e4 e5 (cy_mk_c _ _ _ _ (by decide) (by decide) (by decide) (by decide)) (cy_mk_c _ _ _ _ (by decide) (by decide) (by decide) (by decide)) (cy_mk_c _ _ _ _ (by decide) (by decide) (by decide) (by decide)) (cy_mk_c _ _ _ _ (by decide) (by decide) (by decide) (by decide)) (cy_mk_c _ _ _ _ (by decide) (by decide) (by decide) (by decide)) (cy_mk_s _ _ _ _) (fun q hq => (hq3 q (by omega)).trans (ho1 q hq)) (Nat.le_refl _) (by omega) (by omega) (by rw [cy_ob1 kd, w1, w3]; exact he) (fun e h => by rw [cy_ar1 kd] at h; cases h)
    refine W.widen (k := 2) (n := 9) (Nat.le_of_ble_eq_true rfl) (Nat.le_of_ble_eq_true rfl) ?_
    exact W.aret (v := .ref s.heap.size) hx hb hr (Or.inl ⟨_, rfl⟩) (Or.inr ⟨_, rfl⟩) (fun t ht hW => ⟨cy_ad ad n s.heap.size (s.heap.size + 1), congrArg (fun q => Outcome.returned (some (Value.ref q))) (cy_ad_0 ad n _ _).symm, by rw [ht]; exact ⟨hI4, fun j hj => cy_ad_o _ _ _ _ (by omega) (by omega)⟩, hS.F ht⟩) hS.2.2 dX4_makeLoad_17
