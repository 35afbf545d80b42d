set_option maxHeartbeats 4000000 in
set_option maxRecDepth 100000 in
theorem lc_load {p : Program} {l : Launch} {e : Env} {s : State} {m : MethodId} {below : List Frame} {meth : Method} {c : Code} {b L : Nat} {xs : Nat → Int32} {D : va_G} {cI cJ cO : ClassId} (hL : L ≤ 2048) (C0 : lw_At p s m meth c b L xs) (hK : cy_K D cI cJ cO s) {k n : Nat} {σ : cy_S} {pl : Nat → Int32} {hi : Int32} {ad : Nat → Nat} {H : Heap} {locs : List Loc} {ls : Array Slot} (hk : 4 * k + 4 ≤ L) (hst : lw_St D cI cJ cO s b k n σ pl hi ad H locs ls) (kk : ∀ (n : Nat) (σ : cy_S) (pl : Nat → Int32) (hi : Int32) (ad : Nat → Nat) (H : Heap) (locs : List Loc) (ls : Array Slot), lw_St D cI cJ cO s b k n σ pl hi ad H locs ls → W p l e room_1 s m #[Value.ref b] below meth c H locs (19 + 2 * (k + 1)) (1460 + 9 * (k + 1)) (lw_Z below #[Value.ref b] s) (F0 m 731 ls [])) : W p l e room_1 s m #[Value.ref b] below meth c H locs (19 + 2 * k) (1460 + 9 * k) (lw_Z below #[Value.ref b] s) (F0 m 128 ls []) := by
  obtain ⟨hx, hb, hr, hml, hown, hts0, hX, hbl, hlocks, hgv⟩ := C0
  have hown : s.vm.findClass RL = some m.cls := hown
  have hts : ∀ w ∈ wsL_law, w.before #[Value.ref b] s = true := fun w h => hts0 w (wsL_law_in w h)
  have hbA : ¬ s.heap.size ≤ b := Nat.not_le.mpr hbl
  obtain ⟨hinv, hI, hS, hl⟩ := hst
  refine lv_aload_n hx hb dL_law_128 rfl (lv_at hl 2 rfl) ?_
  refine lv_aload_n hx hb dL_law_129 rfl (lv_at hl 1 rfl) ?_
  refine lv_iload_n hx hb dL_law_130 rfl (lv_at hl 0 rfl) ?_
  refine lv_iconst (v := 1) hx hb dL_law_131 (by decide) ?_
  refine lv_iadd hx hb dL_law_132 ?_
  refine cy_topi (y := nI (4 * k + 1)) (nI_1 (4 * k)) ?_
  refine cy_sld (k := 4 * k + 1) hx hb hX hbl hbA hS (by omega) (by omega) dL_law_133 ?_
  refine lv_aload_n hx hb dL_law_134 rfl (lv_at hl 1 rfl) ?_
  refine lv_iload_n hx hb dL_law_135 rfl (lv_at hl 0 rfl) ?_
  refine lv_iconst (v := 2) hx hb dL_law_136 (by decide) ?_
  refine lv_iadd hx hb dL_law_137 ?_
  refine cy_topi (y := nI (4 * k + 2)) (nI_add (4 * k) 2) ?_
  refine cy_sld (k := 4 * k + 2) hx hb hX hbl hbA hS (by omega) (by omega) dL_law_138 ?_
  refine cy_callm (va_runV (As := [.int (xs (4 * k + 1)), .int (xs (4 * k + 2))]) (rest := []) ⟨hx, hb, hml, hown, hts⟩ (c_X4_load l D cI cJ cO s.heap.size n σ σ pl hi ad hinv.1 hinv.2 (xs (4 * k + 1)) (xs (4 * k + 2))) (cwV 2 hts gL_law_X4_load rfl rfl rfl (by decide +kernel) ⟨Nat.le_of_ble_eq_true rfl, Nat.le_of_ble_eq_true rfl⟩) (cy_preV hK hI (cy_recv hK (hI.1 0 _ cy_CY).1 rfl)) rfl rfl hl.1 rfl (lv_room (Nat.le_of_ble_eq_true rfl)) dL_law_139 ⟨by show 19 + 2 * k + 2 ≤ 600000; omega, by show 1460 + 9 * k + 9 ≤ 7302250; omega⟩) hS (fun u H locs hI hz hS => ?_)
  obtain ⟨hI, hu⟩ := hI
  have hl : lv_has ls 4 [(3, .int (nI (4 * k))), (0, .ref b), (1, .ref (u 0)), (2, .ref (u 20))] := by rw [hu 0 (by omega), hu 20 (by omega)]; exact hl
  refine W.eq (g2 := F0 m 142 ls [.int ((cy_oLoad n σ (xs (4 * k + 1)) (xs (4 * k + 2))).1)]) rfl ?_
  refine lv_aload_n hx hb dL_law_142 rfl (lv_at hl 3 rfl) ?_
  refine lv_aload_n hx hb dL_law_143 rfl (lv_at hl 1 rfl) ?_
  refine lv_iload_n hx hb dL_law_144 rfl (lv_at hl 0 rfl) ?_
  refine lv_iconst (v := 1) hx hb dL_law_145 (by decide) ?_
  refine lv_iadd hx hb dL_law_146 ?_
  refine cy_topi (y := nI (4 * k + 1)) (nI_1 (4 * k)) ?_
  refine cy_sld (k := 4 * k + 1) hx hb hX hbl hbA hS (by omega) (by omega) dL_law_147 ?_
  refine lv_aload_n hx hb dL_law_148 rfl (lv_at hl 1 rfl) ?_
  refine lv_iload_n hx hb dL_law_149 rfl (lv_at hl 0 rfl) ?_
  refine lv_iconst (v := 2) hx hb dL_law_150 (by decide) ?_
  refine lv_iadd hx hb dL_law_151 ?_
  refine cy_topi (y := nI (4 * k + 2)) (nI_add (4 * k) 2) ?_
  refine cy_sld (k := 4 * k + 2) hx hb hX hbl hbA hS (by omega) (by omega) dL_law_152 ?_
  refine cy_callm (va_runV (As := [.int (xs (4 * k + 1)), .int (xs (4 * k + 2))]) (rest := [.int ((cy_oLoad n σ (xs (4 * k + 1)) (xs (4 * k + 2))).1)]) ⟨hx, hb, hml, hown, hts⟩ (c_X5_load l D cI cJ cO s.heap.size (cy_nL n (xs (4 * k + 1)) (xs (4 * k + 2))) (cy_nL n (xs (4 * k + 1)) (xs (4 * k + 2))) (cy_oLoad n σ (xs (4 * k + 1)) (xs (4 * k + 2))).2 σ pl hi u n hinv.1 (xs (4 * k + 1)) (xs (4 * k + 2))) (cwV 2 hts gL_law_X5_load rfl rfl rfl (by decide +kernel) ⟨Nat.le_of_ble_eq_true rfl, Nat.le_of_ble_eq_true rfl⟩) (cy_preV hK hI (cy_recv hK (hI.1 20 _ cy_CR).1 rfl)) rfl rfl hl.1 rfl (lv_room (Nat.le_of_ble_eq_true rfl)) dL_law_153 ⟨by show 19 + 2 * k + 2 + 0 ≤ 600000; omega, by show 1460 + 9 * k + 9 + 0 ≤ 7302250; omega⟩) hS (fun u2 H locs hI hz hS => ?_)
  refine W.eq (g2 := F0 m 156 ls [.int ((cy_oLoad n σ (xs (4 * k + 1)) (xs (4 * k + 2))).1), .int ((cy_oLoad n σ (xs (4 * k + 1)) (xs (4 * k + 2))).1)]) rfl ?_
  refine lv_icmp_eq (tgt := 731) hx hb dL_law_156 (by decide) (fun h1 => ?_) (fun h1 => absurd (rfl) h1)
  refine W.widen (k := 19 + 2 * (k + 1)) (n := 1460 + 9 * (k + 1)) (by omega) (by omega) ?_
  exact kk (cy_nL n (xs (4 * k + 1)) (xs (4 * k + 2))) (cy_oLoad n σ (xs (4 * k + 1)) (xs (4 * k + 2))).2 pl hi u _ _ ls ⟨cy_v_load hinv (xs (4 * k + 1)) (xs (4 * k + 2)), hI, hS, hl⟩

set_option maxHeartbeats 4000000 in
set_option maxRecDepth 100000 in
theorem lc_set {p : Program} {l : Launch} {e : Env} {s : State} {m : MethodId} {below : List Frame} {meth : Method} {c : Code} {b L : Nat} {xs : Nat → Int32} {D : va_G} {cI cJ cO : ClassId} (hL : L ≤ 2048) (C0 : lw_At p s m meth c b L xs) (hK : cy_K D cI cJ cO s) {k n : Nat} {σ : cy_S} {pl : Nat → Int32} {hi : Int32} {ad : Nat → Nat} {H : Heap} {locs : List Loc} {ls : Array Slot} (hk : 4 * k + 4 ≤ L) (hst : lw_St D cI cJ cO s b k n σ pl hi ad H locs ls) (kk : ∀ (n : Nat) (σ : cy_S) (pl : Nat → Int32) (hi : Int32) (ad : Nat → Nat) (H : Heap) (locs : List Loc) (ls : Array Slot), lw_St D cI cJ cO s b k n σ pl hi ad H locs ls → W p l e room_1 s m #[Value.ref b] below meth c H locs (19 + 2 * (k + 1)) (1460 + 9 * (k + 1)) (lw_Z below #[Value.ref b] s) (F0 m 731 ls [])) : W p l e room_1 s m #[Value.ref b] below meth c H locs (19 + 2 * k) (1460 + 9 * k) (lw_Z below #[Value.ref b] s) (F0 m 161 ls []) := by
  obtain ⟨hx, hb, hr, hml, hown, hts0, hX, hbl, hlocks, hgv⟩ := C0
  have hown : s.vm.findClass RL = some m.cls := hown
  have hts : ∀ w ∈ wsL_law, w.before #[Value.ref b] s = true := fun w h => hts0 w (wsL_law_in w h)
  have hbA : ¬ s.heap.size ≤ b := Nat.not_le.mpr hbl
  obtain ⟨hinv, hI, hS, hl⟩ := hst
  refine lv_aload_n hx hb dL_law_161 rfl (lv_at hl 2 rfl) ?_
  refine lv_aload_n hx hb dL_law_162 rfl (lv_at hl 1 rfl) ?_
  refine lv_iload_n hx hb dL_law_163 rfl (lv_at hl 0 rfl) ?_
  refine lv_iconst (v := 1) hx hb dL_law_164 (by decide) ?_
  refine lv_iadd hx hb dL_law_165 ?_
  refine cy_topi (y := nI (4 * k + 1)) (nI_1 (4 * k)) ?_
  refine cy_sld (k := 4 * k + 1) hx hb hX hbl hbA hS (by omega) (by omega) dL_law_166 ?_
  refine lv_aload_n hx hb dL_law_167 rfl (lv_at hl 1 rfl) ?_
  refine lv_iload_n hx hb dL_law_168 rfl (lv_at hl 0 rfl) ?_
  refine lv_iconst (v := 2) hx hb dL_law_169 (by decide) ?_
  refine lv_iadd hx hb dL_law_170 ?_
  refine cy_topi (y := nI (4 * k + 2)) (nI_add (4 * k) 2) ?_
  refine cy_sld (k := 4 * k + 2) hx hb hX hbl hbA hS (by omega) (by omega) dL_law_171 ?_
  refine lv_aload_n hx hb dL_law_172 rfl (lv_at hl 1 rfl) ?_
  refine lv_iload_n hx hb dL_law_173 rfl (lv_at hl 0 rfl) ?_
  refine lv_iconst (v := 3) hx hb dL_law_174 (by decide) ?_
  refine lv_iadd hx hb dL_law_175 ?_
  refine cy_topi (y := nI (4 * k + 3)) (nI_add (4 * k) 3) ?_
  refine cy_sld (k := 4 * k + 3) hx hb hX hbl hbA hS (by omega) (by omega) dL_law_176 ?_
  refine cy_callm (va_runV (As := [.int (xs (4 * k + 1)), .int (xs (4 * k + 2)), .int (xs (4 * k + 3))]) (rest := []) ⟨hx, hb, hml, hown, hts⟩ (c_X4_set l D cI cJ cO s.heap.size n σ σ pl hi ad hinv.1 (xs (4 * k + 1)) (xs (4 * k + 2)) (xs (4 * k + 3))) (cwV 3 hts gL_law_X4_set rfl rfl rfl (by decide +kernel) ⟨Nat.le_of_ble_eq_true rfl, Nat.le_of_ble_eq_true rfl⟩) (cy_preV hK hI (cy_recv hK (hI.1 0 _ cy_CY).1 rfl)) rfl rfl hl.1 rfl (lv_room (Nat.le_of_ble_eq_true rfl)) dL_law_177 ⟨by show 19 + 2 * k + 0 ≤ 600000; omega, by show 1460 + 9 * k + 0 ≤ 7302250; omega⟩) hS (fun u H locs hI hz hS => ?_)
  refine W.eq (g2 := F0 m 180 ls [.int ((cy_oSet n σ (xs (4 * k + 1)) (xs (4 * k + 2)) (xs (4 * k + 3))).1)]) rfl ?_
  refine lv_aload_n hx hb dL_law_180 rfl (lv_at hl 3 rfl) ?_
  refine lv_aload_n hx hb dL_law_181 rfl (lv_at hl 1 rfl) ?_
  refine lv_iload_n hx hb dL_law_182 rfl (lv_at hl 0 rfl) ?_
  refine lv_iconst (v := 1) hx hb dL_law_183 (by decide) ?_
  refine lv_iadd hx hb dL_law_184 ?_
  refine cy_topi (y := nI (4 * k + 1)) (nI_1 (4 * k)) ?_
  refine cy_sld (k := 4 * k + 1) hx hb hX hbl hbA hS (by omega) (by omega) dL_law_185 ?_
  refine lv_aload_n hx hb dL_law_186 rfl (lv_at hl 1 rfl) ?_
  refine lv_iload_n hx hb dL_law_187 rfl (lv_at hl 0 rfl) ?_
  refine lv_iconst (v := 2) hx hb dL_law_188 (by decide) ?_
  refine lv_iadd hx hb dL_law_189 ?_
  refine cy_topi (y := nI (4 * k + 2)) (nI_add (4 * k) 2) ?_
  refine cy_sld (k := 4 * k + 2) hx hb hX hbl hbA hS (by omega) (by omega) dL_law_190 ?_
  refine lv_aload_n hx hb dL_law_191 rfl (lv_at hl 1 rfl) ?_
  refine lv_iload_n hx hb dL_law_192 rfl (lv_at hl 0 rfl) ?_
  refine lv_iconst (v := 3) hx hb dL_law_193 (by decide) ?_
  refine lv_iadd hx hb dL_law_194 ?_
  refine cy_topi (y := nI (4 * k + 3)) (nI_add (4 * k) 3) ?_
  refine cy_sld (k := 4 * k + 3) hx hb hX hbl hbA hS (by omega) (by omega) dL_law_195 ?_
  refine cy_callm (va_runV (As := [.int (xs (4 * k + 1)), .int (xs (4 * k + 2)), .int (xs (4 * k + 3))]) (rest := [.int ((cy_oSet n σ (xs (4 * k + 1)) (xs (4 * k + 2)) (xs (4 * k + 3))).1)]) ⟨hx, hb, hml, hown, hts⟩ (c_X5_set l D cI cJ cO s.heap.size n n (cy_oSet n σ (xs (4 * k + 1)) (xs (4 * k + 2)) (xs (4 * k + 3))).2 σ pl hi ad n hinv.1 (xs (4 * k + 1)) (xs (4 * k + 2)) (xs (4 * k + 3))) (cwV 3 hts gL_law_X5_set rfl rfl rfl (by decide +kernel) ⟨Nat.le_of_ble_eq_true rfl, Nat.le_of_ble_eq_true rfl⟩) (cy_preV hK hI (cy_recv hK (hI.1 20 _ cy_CR).1 rfl)) rfl rfl hl.1 rfl (lv_room (Nat.le_of_ble_eq_true rfl)) dL_law_196 ⟨by show 19 + 2 * k + 0 + 0 ≤ 600000; omega, by show 1460 + 9 * k + 0 + 0 ≤ 7302250; omega⟩) hS (fun u H locs hI hz hS => ?_)
  refine W.eq (g2 := F0 m 199 ls [.int ((cy_oSet n σ (xs (4 * k + 1)) (xs (4 * k + 2)) (xs (4 * k + 3))).1), .int ((cy_oSet n σ (xs (4 * k + 1)) (xs (4 * k + 2)) (xs (4 * k + 3))).1)]) rfl ?_
  refine lv_icmp_eq (tgt := 731) hx hb dL_law_199 (by decide) (fun h1 => ?_) (fun h1 => absurd (rfl) h1)
  refine W.widen (k := 19 + 2 * (k + 1)) (n := 1460 + 9 * (k + 1)) (by omega) (by omega) ?_
  exact kk n (cy_oSet n σ (xs (4 * k + 1)) (xs (4 * k + 2)) (xs (4 * k + 3))).2 pl hi ad _ _ ls ⟨cy_v_set hinv (xs (4 * k + 1)) (xs (4 * k + 2)) (xs (4 * k + 3)), hI, hS, hl⟩

set_option maxHeartbeats 4000000 in
set_option maxRecDepth 100000 in
theorem lc_number {p : Program} {l : Launch} {e : Env} {s : State} {m : MethodId} {below : List Frame} {meth : Method} {c : Code} {b L : Nat} {xs : Nat → Int32} {D : va_G} {cI cJ cO : ClassId} (hL : L ≤ 2048) (C0 : lw_At p s m meth c b L xs) (hK : cy_K D cI cJ cO s) {k n : Nat} {σ : cy_S} {pl : Nat → Int32} {hi : Int32} {ad : Nat → Nat} {H : Heap} {locs : List Loc} {ls : Array Slot} (hk : 4 * k + 4 ≤ L) (hst : lw_St D cI cJ cO s b k n σ pl hi ad H locs ls) (kk : ∀ (n : Nat) (σ : cy_S) (pl : Nat → Int32) (hi : Int32) (ad : Nat → Nat) (H : Heap) (locs : List Loc) (ls : Array Slot), lw_St D cI cJ cO s b k n σ pl hi ad H locs ls → W p l e room_1 s m #[Value.ref b] below meth c H locs (19 + 2 * (k + 1)) (1460 + 9 * (k + 1)) (lw_Z below #[Value.ref b] s) (F0 m 731 ls [])) : W p l e room_1 s m #[Value.ref b] below meth c H locs (19 + 2 * k) (1460 + 9 * k) (lw_Z below #[Value.ref b] s) (F0 m 204 ls []) := by
  obtain ⟨hx, hb, hr, hml, hown, hts0, hX, hbl, hlocks, hgv⟩ := C0
  have hown : s.vm.findClass RL = some m.cls := hown
  have hts : ∀ w ∈ wsL_law, w.before #[Value.ref b] s = true := fun w h => hts0 w (wsL_law_in w h)
  have hbA : ¬ s.heap.size ≤ b := Nat.not_le.mpr hbl
  obtain ⟨hinv, hI, hS, hl⟩ := hst
  refine lv_aload_n hx hb dL_law_204 rfl (lv_at hl 2 rfl) ?_
  refine lv_aload_n hx hb dL_law_205 rfl (lv_at hl 1 rfl) ?_
  refine lv_iload_n hx hb dL_law_206 rfl (lv_at hl 0 rfl) ?_
  refine lv_iconst (v := 1) hx hb dL_law_207 (by decide) ?_
  refine lv_iadd hx hb dL_law_208 ?_
  refine cy_topi (y := nI (4 * k + 1)) (nI_1 (4 * k)) ?_
  refine cy_sld (k := 4 * k + 1) hx hb hX hbl hbA hS (by omega) (by omega) dL_law_209 ?_
  refine lv_aload_n hx hb dL_law_210 rfl (lv_at hl 1 rfl) ?_
  refine lv_iload_n hx hb dL_law_211 rfl (lv_at hl 0 rfl) ?_
  refine lv_iconst (v := 2) hx hb dL_law_212 (by decide) ?_
  refine lv_iadd hx hb dL_law_213 ?_
  refine cy_topi (y := nI (4 * k + 2)) (nI_add (4 * k) 2) ?_
  refine cy_sld (k := 4 * k + 2) hx hb hX hbl hbA hS (by omega) (by omega) dL_law_214 ?_
  refine cy_callm (va_runV (As := [.int (xs (4 * k + 1)), .int (xs (4 * k + 2))]) (rest := []) ⟨hx, hb, hml, hown, hts⟩ (c_X4_number l D cI cJ cO s.heap.size n σ σ pl hi ad hinv.1 (xs (4 * k + 1)) (xs (4 * k + 2))) (cwV 2 hts gL_law_X4_number rfl rfl rfl (by decide +kernel) ⟨Nat.le_of_ble_eq_true rfl, Nat.le_of_ble_eq_true rfl⟩) (cy_preV hK hI (cy_recv hK (hI.1 0 _ cy_CY).1 rfl)) rfl rfl hl.1 rfl (lv_room (Nat.le_of_ble_eq_true rfl)) dL_law_215 ⟨by show 19 + 2 * k + 0 ≤ 600000; omega, by show 1460 + 9 * k + 0 ≤ 7302250; omega⟩) hS (fun u H locs hI hz hS => ?_)
  refine W.eq (g2 := F0 m 218 ls [.long ((cy_oNum n σ (xs (4 * k + 1)) (xs (4 * k + 2))).1)]) rfl ?_
  refine lv_aload_n hx hb dL_law_218 rfl (lv_at hl 3 rfl) ?_
  refine lv_aload_n hx hb dL_law_219 rfl (lv_at hl 1 rfl) ?_
  refine lv_iload_n hx hb dL_law_220 rfl (lv_at hl 0 rfl) ?_
  refine lv_iconst (v := 1) hx hb dL_law_221 (by decide) ?_
  refine lv_iadd hx hb dL_law_222 ?_
  refine cy_topi (y := nI (4 * k + 1)) (nI_1 (4 * k)) ?_
  refine cy_sld (k := 4 * k + 1) hx hb hX hbl hbA hS (by omega) (by omega) dL_law_223 ?_
  refine lv_aload_n hx hb dL_law_224 rfl (lv_at hl 1 rfl) ?_
  refine lv_iload_n hx hb dL_law_225 rfl (lv_at hl 0 rfl) ?_
  refine lv_iconst (v := 2) hx hb dL_law_226 (by decide) ?_
  refine lv_iadd hx hb dL_law_227 ?_
  refine cy_topi (y := nI (4 * k + 2)) (nI_add (4 * k) 2) ?_
  refine cy_sld (k := 4 * k + 2) hx hb hX hbl hbA hS (by omega) (by omega) dL_law_228 ?_
  refine cy_callm (va_runV (As := [.int (xs (4 * k + 1)), .int (xs (4 * k + 2))]) (rest := [.long ((cy_oNum n σ (xs (4 * k + 1)) (xs (4 * k + 2))).1)]) ⟨hx, hb, hml, hown, hts⟩ (c_X5_number l D cI cJ cO s.heap.size n n (cy_oNum n σ (xs (4 * k + 1)) (xs (4 * k + 2))).2 σ pl hi ad n hinv.1 (xs (4 * k + 1)) (xs (4 * k + 2))) (cwV 2 hts gL_law_X5_number rfl rfl rfl (by decide +kernel) ⟨Nat.le_of_ble_eq_true rfl, Nat.le_of_ble_eq_true rfl⟩) (cy_preV hK hI (cy_recv hK (hI.1 20 _ cy_CR).1 rfl)) rfl rfl hl.1 rfl (lv_room (Nat.le_of_ble_eq_true rfl)) dL_law_229 ⟨by show 19 + 2 * k + 0 + 0 ≤ 600000; omega, by show 1460 + 9 * k + 0 + 0 ≤ 7302250; omega⟩) hS (fun u H locs hI hz hS => ?_)
  refine W.eq (g2 := F0 m 232 ls [.long ((cy_oNum n σ (xs (4 * k + 1)) (xs (4 * k + 2))).1), .long ((cy_oNum n σ (xs (4 * k + 1)) (xs (4 * k + 2))).1)]) rfl ?_
  refine W.lcmp hx hb dL_law_232 ?_
  refine cy_topi (y := 0) (cy_lg0 _) ?_
  refine lv_if_eq (tgt := 731) hx hb dL_law_233 (by decide) (fun h1 => ?_) (fun h1 => absurd (by decide) h1)
  refine W.widen (k := 19 + 2 * (k + 1)) (n := 1460 + 9 * (k + 1)) (by omega) (by omega) ?_
  exact kk n (cy_oNum n σ (xs (4 * k + 1)) (xs (4 * k + 2))).2 pl hi ad _ _ ls ⟨cy_v_number hinv (xs (4 * k + 1)) (xs (4 * k + 2)), hI, hS, hl⟩

set_option maxHeartbeats 4000000 in
set_option maxRecDepth 100000 in
theorem lc_put {p : Program} {l : Launch} {e : Env} {s : State} {m : MethodId} {below : List Frame} {meth : Method} {c : Code} {b L : Nat} {xs : Nat → Int32} {D : va_G} {cI cJ cO : ClassId} (hL : L ≤ 2048) (C0 : lw_At p s m meth c b L xs) (hK : cy_K D cI cJ cO s) {k n : Nat} {σ : cy_S} {pl : Nat → Int32} {hi : Int32} {ad : Nat → Nat} {H : Heap} {locs : List Loc} {ls : Array Slot} (hk : 4 * k + 4 ≤ L) (hst : lw_St D cI cJ cO s b k n σ pl hi ad H locs ls) (kk : ∀ (n : Nat) (σ : cy_S) (pl : Nat → Int32) (hi : Int32) (ad : Nat → Nat) (H : Heap) (locs : List Loc) (ls : Array Slot), lw_St D cI cJ cO s b k n σ pl hi ad H locs ls → W p l e room_1 s m #[Value.ref b] below meth c H locs (19 + 2 * (k + 1)) (1460 + 9 * (k + 1)) (lw_Z below #[Value.ref b] s) (F0 m 731 ls [])) : W p l e room_1 s m #[Value.ref b] below meth c H locs (19 + 2 * k) (1460 + 9 * k) (lw_Z below #[Value.ref b] s) (F0 m 238 ls []) := by
  obtain ⟨hx, hb, hr, hml, hown, hts0, hX, hbl, hlocks, hgv⟩ := C0
  have hown : s.vm.findClass RL = some m.cls := hown
  have hts : ∀ w ∈ wsL_law, w.before #[Value.ref b] s = true := fun w h => hts0 w (wsL_law_in w h)
  have hbA : ¬ s.heap.size ≤ b := Nat.not_le.mpr hbl
  obtain ⟨hinv, hI, hS, hl⟩ := hst
  refine lv_aload_n hx hb dL_law_238 rfl (lv_at hl 2 rfl) ?_
  refine lv_aload_n hx hb dL_law_239 rfl (lv_at hl 1 rfl) ?_
  refine lv_iload_n hx hb dL_law_240 rfl (lv_at hl 0 rfl) ?_
  refine lv_iconst (v := 1) hx hb dL_law_241 (by decide) ?_
  refine lv_iadd hx hb dL_law_242 ?_
  refine cy_topi (y := nI (4 * k + 1)) (nI_1 (4 * k)) ?_
  refine cy_sld (k := 4 * k + 1) hx hb hX hbl hbA hS (by omega) (by omega) dL_law_243 ?_
  refine lv_aload_n hx hb dL_law_244 rfl (lv_at hl 1 rfl) ?_
  refine lv_iload_n hx hb dL_law_245 rfl (lv_at hl 0 rfl) ?_
  refine lv_iconst (v := 2) hx hb dL_law_246 (by decide) ?_
  refine lv_iadd hx hb dL_law_247 ?_
  refine cy_topi (y := nI (4 * k + 2)) (nI_add (4 * k) 2) ?_
  refine cy_sld (k := 4 * k + 2) hx hb hX hbl hbA hS (by omega) (by omega) dL_law_248 ?_
  refine lv_aload_n hx hb dL_law_249 rfl (lv_at hl 1 rfl) ?_
  refine lv_iload_n hx hb dL_law_250 rfl (lv_at hl 0 rfl) ?_
  refine lv_iconst (v := 3) hx hb dL_law_251 (by decide) ?_
  refine lv_iadd hx hb dL_law_252 ?_
  refine cy_topi (y := nI (4 * k + 3)) (nI_add (4 * k) 3) ?_
  refine cy_sld (k := 4 * k + 3) hx hb hX hbl hbA hS (by omega) (by omega) dL_law_253 ?_
  refine cy_callm (va_runV (As := [.int (xs (4 * k + 1)), .int (xs (4 * k + 2)), .int (xs (4 * k + 3))]) (rest := []) ⟨hx, hb, hml, hown, hts⟩ (c_X4_put l D cI cJ cO s.heap.size n σ σ pl hi ad hinv.1 (xs (4 * k + 1)) (xs (4 * k + 2)) (xs (4 * k + 3))) (cwV 3 hts gL_law_X4_put rfl rfl rfl (by decide +kernel) ⟨Nat.le_of_ble_eq_true rfl, Nat.le_of_ble_eq_true rfl⟩) (cy_preV hK hI (cy_recv hK (hI.1 0 _ cy_CY).1 rfl)) rfl rfl hl.1 rfl (lv_room (Nat.le_of_ble_eq_true rfl)) dL_law_254 ⟨by show 19 + 2 * k + 0 ≤ 600000; omega, by show 1460 + 9 * k + 0 ≤ 7302250; omega⟩) hS (fun u H locs hI hz hS => ?_)
  refine W.eq (g2 := F0 m 257 ls [.int ((cy_oPut n σ (xs (4 * k + 1)) (xs (4 * k + 2)) (xs (4 * k + 3))).1)]) rfl ?_
  refine lv_aload_n hx hb dL_law_257 rfl (lv_at hl 3 rfl) ?_
  refine lv_aload_n hx hb dL_law_258 rfl (lv_at hl 1 rfl) ?_
  refine lv_iload_n hx hb dL_law_259 rfl (lv_at hl 0 rfl) ?_
  refine lv_iconst (v := 1) hx hb dL_law_260 (by decide) ?_
  refine lv_iadd hx hb dL_law_261 ?_
  refine cy_topi (y := nI (4 * k + 1)) (nI_1 (4 * k)) ?_
  refine cy_sld (k := 4 * k + 1) hx hb hX hbl hbA hS (by omega) (by omega) dL_law_262 ?_
  refine lv_aload_n hx hb dL_law_263 rfl (lv_at hl 1 rfl) ?_
  refine lv_iload_n hx hb dL_law_264 rfl (lv_at hl 0 rfl) ?_
  refine lv_iconst (v := 2) hx hb dL_law_265 (by decide) ?_
  refine lv_iadd hx hb dL_law_266 ?_
  refine cy_topi (y := nI (4 * k + 2)) (nI_add (4 * k) 2) ?_
  refine cy_sld (k := 4 * k + 2) hx hb hX hbl hbA hS (by omega) (by omega) dL_law_267 ?_
  refine lv_aload_n hx hb dL_law_268 rfl (lv_at hl 1 rfl) ?_
  refine lv_iload_n hx hb dL_law_269 rfl (lv_at hl 0 rfl) ?_
  refine lv_iconst (v := 3) hx hb dL_law_270 (by decide) ?_
  refine lv_iadd hx hb dL_law_271 ?_
  refine cy_topi (y := nI (4 * k + 3)) (nI_add (4 * k) 3) ?_
  refine cy_sld (k := 4 * k + 3) hx hb hX hbl hbA hS (by omega) (by omega) dL_law_272 ?_
  refine cy_callm (va_runV (As := [.int (xs (4 * k + 1)), .int (xs (4 * k + 2)), .int (xs (4 * k + 3))]) (rest := [.int ((cy_oPut n σ (xs (4 * k + 1)) (xs (4 * k + 2)) (xs (4 * k + 3))).1)]) ⟨hx, hb, hml, hown, hts⟩ (c_X5_put l D cI cJ cO s.heap.size n n (cy_oPut n σ (xs (4 * k + 1)) (xs (4 * k + 2)) (xs (4 * k + 3))).2 σ pl hi ad n hinv.1 (xs (4 * k + 1)) (xs (4 * k + 2)) (xs (4 * k + 3))) (cwV 3 hts gL_law_X5_put rfl rfl rfl (by decide +kernel) ⟨Nat.le_of_ble_eq_true rfl, Nat.le_of_ble_eq_true rfl⟩) (cy_preV hK hI (cy_recv hK (hI.1 20 _ cy_CR).1 rfl)) rfl rfl hl.1 rfl (lv_room (Nat.le_of_ble_eq_true rfl)) dL_law_273 ⟨by show 19 + 2 * k + 0 + 0 ≤ 600000; omega, by show 1460 + 9 * k + 0 + 0 ≤ 7302250; omega⟩) hS (fun u H locs hI hz hS => ?_)
  refine W.eq (g2 := F0 m 276 ls [.int ((cy_oPut n σ (xs (4 * k + 1)) (xs (4 * k + 2)) (xs (4 * k + 3))).1), .int ((cy_oPut n σ (xs (4 * k + 1)) (xs (4 * k + 2)) (xs (4 * k + 3))).1)]) rfl ?_
  refine lv_icmp_eq (tgt := 731) hx hb dL_law_276 (by decide) (fun h1 => ?_) (fun h1 => absurd (rfl) h1)
  refine W.widen (k := 19 + 2 * (k + 1)) (n := 1460 + 9 * (k + 1)) (by omega) (by omega) ?_
  exact kk n (cy_oPut n σ (xs (4 * k + 1)) (xs (4 * k + 2)) (xs (4 * k + 3))).2 pl hi ad _ _ ls ⟨cy_v_put hinv (xs (4 * k + 1)) (xs (4 * k + 2)) (xs (4 * k + 3)), hI, hS, hl⟩

set_option maxHeartbeats 4000000 in
set_option maxRecDepth 100000 in
theorem lc_at {p : Program} {l : Launch} {e : Env} {s : State} {m : MethodId} {below : List Frame} {meth : Method} {c : Code} {b L : Nat} {xs : Nat → Int32} {D : va_G} {cI cJ cO : ClassId} (hL : L ≤ 2048) (C0 : lw_At p s m meth c b L xs) (hK : cy_K D cI cJ cO s) {k n : Nat} {σ : cy_S} {pl : Nat → Int32} {hi : Int32} {ad : Nat → Nat} {H : Heap} {locs : List Loc} {ls : Array Slot} (hk : 4 * k + 4 ≤ L) (hst : lw_St D cI cJ cO s b k n σ pl hi ad H locs ls) (kk : ∀ (n : Nat) (σ : cy_S) (pl : Nat → Int32) (hi : Int32) (ad : Nat → Nat) (H : Heap) (locs : List Loc) (ls : Array Slot), lw_St D cI cJ cO s b k n σ pl hi ad H locs ls → W p l e room_1 s m #[Value.ref b] below meth c H locs (19 + 2 * (k + 1)) (1460 + 9 * (k + 1)) (lw_Z below #[Value.ref b] s) (F0 m 731 ls [])) : W p l e room_1 s m #[Value.ref b] below meth c H locs (19 + 2 * k) (1460 + 9 * k) (lw_Z below #[Value.ref b] s) (F0 m 281 ls []) := by
  obtain ⟨hx, hb, hr, hml, hown, hts0, hX, hbl, hlocks, hgv⟩ := C0
  have hown : s.vm.findClass RL = some m.cls := hown
  have hts : ∀ w ∈ wsL_law, w.before #[Value.ref b] s = true := fun w h => hts0 w (wsL_law_in w h)
  have hbA : ¬ s.heap.size ≤ b := Nat.not_le.mpr hbl
  obtain ⟨hinv, hI, hS, hl⟩ := hst
  refine lv_aload_n hx hb dL_law_281 rfl (lv_at hl 2 rfl) ?_
  refine lv_aload_n hx hb dL_law_282 rfl (lv_at hl 1 rfl) ?_
  refine lv_iload_n hx hb dL_law_283 rfl (lv_at hl 0 rfl) ?_
  refine lv_iconst (v := 1) hx hb dL_law_284 (by decide) ?_
  refine lv_iadd hx hb dL_law_285 ?_
  refine cy_topi (y := nI (4 * k + 1)) (nI_1 (4 * k)) ?_
  refine cy_sld (k := 4 * k + 1) hx hb hX hbl hbA hS (by omega) (by omega) dL_law_286 ?_
  refine lv_aload_n hx hb dL_law_287 rfl (lv_at hl 1 rfl) ?_
  refine lv_iload_n hx hb dL_law_288 rfl (lv_at hl 0 rfl) ?_
  refine lv_iconst (v := 2) hx hb dL_law_289 (by decide) ?_
  refine lv_iadd hx hb dL_law_290 ?_
  refine cy_topi (y := nI (4 * k + 2)) (nI_add (4 * k) 2) ?_
  refine cy_sld (k := 4 * k + 2) hx hb hX hbl hbA hS (by omega) (by omega) dL_law_291 ?_
  refine cy_callm (va_runV (As := [.int (xs (4 * k + 1)), .int (xs (4 * k + 2))]) (rest := []) ⟨hx, hb, hml, hown, hts⟩ (c_X4_at l D cI cJ cO s.heap.size n σ σ pl hi ad hinv.1 (xs (4 * k + 1)) (xs (4 * k + 2))) (cwV 2 hts gL_law_X4_at rfl rfl rfl (by decide +kernel) ⟨Nat.le_of_ble_eq_true rfl, Nat.le_of_ble_eq_true rfl⟩) (cy_preV hK hI (cy_recv hK (hI.1 0 _ cy_CY).1 rfl)) rfl rfl hl.1 rfl (lv_room (Nat.le_of_ble_eq_true rfl)) dL_law_292 ⟨by show 19 + 2 * k + 0 ≤ 600000; omega, by show 1460 + 9 * k + 0 ≤ 7302250; omega⟩) hS (fun u H locs hI hz hS => ?_)
  refine W.eq (g2 := F0 m 295 ls [.int ((cy_oAt n σ (xs (4 * k + 1)) (xs (4 * k + 2))).1)]) rfl ?_
  refine lv_aload_n hx hb dL_law_295 rfl (lv_at hl 3 rfl) ?_
  refine lv_aload_n hx hb dL_law_296 rfl (lv_at hl 1 rfl) ?_
  refine lv_iload_n hx hb dL_law_297 rfl (lv_at hl 0 rfl) ?_
  refine lv_iconst (v := 1) hx hb dL_law_298 (by decide) ?_
  refine lv_iadd hx hb dL_law_299 ?_
  refine cy_topi (y := nI (4 * k + 1)) (nI_1 (4 * k)) ?_
  refine cy_sld (k := 4 * k + 1) hx hb hX hbl hbA hS (by omega) (by omega) dL_law_300 ?_
  refine lv_aload_n hx hb dL_law_301 rfl (lv_at hl 1 rfl) ?_
  refine lv_iload_n hx hb dL_law_302 rfl (lv_at hl 0 rfl) ?_
  refine lv_iconst (v := 2) hx hb dL_law_303 (by decide) ?_
  refine lv_iadd hx hb dL_law_304 ?_
  refine cy_topi (y := nI (4 * k + 2)) (nI_add (4 * k) 2) ?_
  refine cy_sld (k := 4 * k + 2) hx hb hX hbl hbA hS (by omega) (by omega) dL_law_305 ?_
  refine cy_callm (va_runV (As := [.int (xs (4 * k + 1)), .int (xs (4 * k + 2))]) (rest := [.int ((cy_oAt n σ (xs (4 * k + 1)) (xs (4 * k + 2))).1)]) ⟨hx, hb, hml, hown, hts⟩ (c_X5_at l D cI cJ cO s.heap.size n n (cy_oAt n σ (xs (4 * k + 1)) (xs (4 * k + 2))).2 σ pl hi ad n hinv.1 (xs (4 * k + 1)) (xs (4 * k + 2))) (cwV 2 hts gL_law_X5_at rfl rfl rfl (by decide +kernel) ⟨Nat.le_of_ble_eq_true rfl, Nat.le_of_ble_eq_true rfl⟩) (cy_preV hK hI (cy_recv hK (hI.1 20 _ cy_CR).1 rfl)) rfl rfl hl.1 rfl (lv_room (Nat.le_of_ble_eq_true rfl)) dL_law_306 ⟨by show 19 + 2 * k + 0 + 0 ≤ 600000; omega, by show 1460 + 9 * k + 0 + 0 ≤ 7302250; omega⟩) hS (fun u H locs hI hz hS => ?_)
  refine W.eq (g2 := F0 m 309 ls [.int ((cy_oAt n σ (xs (4 * k + 1)) (xs (4 * k + 2))).1), .int ((cy_oAt n σ (xs (4 * k + 1)) (xs (4 * k + 2))).1)]) rfl ?_
  refine lv_icmp_eq (tgt := 731) hx hb dL_law_309 (by decide) (fun h1 => ?_) (fun h1 => absurd (rfl) h1)
  refine W.widen (k := 19 + 2 * (k + 1)) (n := 1460 + 9 * (k + 1)) (by omega) (by omega) ?_
  exact kk n (cy_oAt n σ (xs (4 * k + 1)) (xs (4 * k + 2))).2 pl hi ad _ _ ls ⟨cy_v_at hinv (xs (4 * k + 1)) (xs (4 * k + 2)), hI, hS, hl⟩

set_option maxHeartbeats 4000000 in
set_option maxRecDepth 100000 in
theorem lc_is {p : Program} {l : Launch} {e : Env} {s : State} {m : MethodId} {below : List Frame} {meth : Method} {c : Code} {b L : Nat} {xs : Nat → Int32} {D : va_G} {cI cJ cO : ClassId} (hL : L ≤ 2048) (C0 : lw_At p s m meth c b L xs) (hK : cy_K D cI cJ cO s) {k n : Nat} {σ : cy_S} {pl : Nat → Int32} {hi : Int32} {ad : Nat → Nat} {H : Heap} {locs : List Loc} {ls : Array Slot} (hk : 4 * k + 4 ≤ L) (hst : lw_St D cI cJ cO s b k n σ pl hi ad H locs ls) (kk : ∀ (n : Nat) (σ : cy_S) (pl : Nat → Int32) (hi : Int32) (ad : Nat → Nat) (H : Heap) (locs : List Loc) (ls : Array Slot), lw_St D cI cJ cO s b k n σ pl hi ad H locs ls → W p l e room_1 s m #[Value.ref b] below meth c H locs (19 + 2 * (k + 1)) (1460 + 9 * (k + 1)) (lw_Z below #[Value.ref b] s) (F0 m 731 ls [])) : W p l e room_1 s m #[Value.ref b] below meth c H locs (19 + 2 * k) (1460 + 9 * k) (lw_Z below #[Value.ref b] s) (F0 m 314 ls []) := by
  obtain ⟨hx, hb, hr, hml, hown, hts0, hX, hbl, hlocks, hgv⟩ := C0
  have hown : s.vm.findClass RL = some m.cls := hown
  have hts : ∀ w ∈ wsL_law, w.before #[Value.ref b] s = true := fun w h => hts0 w (wsL_law_in w h)
  have hbA : ¬ s.heap.size ≤ b := Nat.not_le.mpr hbl
  obtain ⟨hinv, hI, hS, hl⟩ := hst
  refine lv_aload_n hx hb dL_law_314 rfl (lv_at hl 2 rfl) ?_
  refine lv_aload_n hx hb dL_law_315 rfl (lv_at hl 1 rfl) ?_
  refine lv_iload_n hx hb dL_law_316 rfl (lv_at hl 0 rfl) ?_
  refine lv_iconst (v := 1) hx hb dL_law_317 (by decide) ?_
  refine lv_iadd hx hb dL_law_318 ?_
  refine cy_topi (y := nI (4 * k + 1)) (nI_1 (4 * k)) ?_
  refine cy_sld (k := 4 * k + 1) hx hb hX hbl hbA hS (by omega) (by omega) dL_law_319 ?_
  refine lv_aload_n hx hb dL_law_320 rfl (lv_at hl 1 rfl) ?_
  refine lv_iload_n hx hb dL_law_321 rfl (lv_at hl 0 rfl) ?_
  refine lv_iconst (v := 2) hx hb dL_law_322 (by decide) ?_
  refine lv_iadd hx hb dL_law_323 ?_
  refine cy_topi (y := nI (4 * k + 2)) (nI_add (4 * k) 2) ?_
  refine cy_sld (k := 4 * k + 2) hx hb hX hbl hbA hS (by omega) (by omega) dL_law_324 ?_
  refine cy_callm (va_runV (As := [.int (xs (4 * k + 1)), .int (xs (4 * k + 2))]) (rest := []) ⟨hx, hb, hml, hown, hts⟩ (c_X4_is l D cI cJ cO s.heap.size n σ σ pl hi ad hinv.1 (xs (4 * k + 1)) (xs (4 * k + 2))) (cwV 2 hts gL_law_X4_is rfl rfl rfl (by decide +kernel) ⟨Nat.le_of_ble_eq_true rfl, Nat.le_of_ble_eq_true rfl⟩) (cy_preV hK hI (cy_recv hK (hI.1 0 _ cy_CY).1 rfl)) rfl rfl hl.1 rfl (lv_room (Nat.le_of_ble_eq_true rfl)) dL_law_325 ⟨by show 19 + 2 * k + 0 ≤ 600000; omega, by show 1460 + 9 * k + 0 ≤ 7302250; omega⟩) hS (fun u H locs hI hz hS => ?_)
  refine W.eq (g2 := F0 m 328 ls [.int ((cy_oIs n σ (xs (4 * k + 1)) (xs (4 * k + 2))).1)]) rfl ?_
  refine lv_aload_n hx hb dL_law_328 rfl (lv_at hl 3 rfl) ?_
  refine lv_aload_n hx hb dL_law_329 rfl (lv_at hl 1 rfl) ?_
  refine lv_iload_n hx hb dL_law_330 rfl (lv_at hl 0 rfl) ?_
  refine lv_iconst (v := 1) hx hb dL_law_331 (by decide) ?_
  refine lv_iadd hx hb dL_law_332 ?_
  refine cy_topi (y := nI (4 * k + 1)) (nI_1 (4 * k)) ?_
  refine cy_sld (k := 4 * k + 1) hx hb hX hbl hbA hS (by omega) (by omega) dL_law_333 ?_
  refine lv_aload_n hx hb dL_law_334 rfl (lv_at hl 1 rfl) ?_
  refine lv_iload_n hx hb dL_law_335 rfl (lv_at hl 0 rfl) ?_
  refine lv_iconst (v := 2) hx hb dL_law_336 (by decide) ?_
  refine lv_iadd hx hb dL_law_337 ?_
  refine cy_topi (y := nI (4 * k + 2)) (nI_add (4 * k) 2) ?_
  refine cy_sld (k := 4 * k + 2) hx hb hX hbl hbA hS (by omega) (by omega) dL_law_338 ?_
  refine cy_callm (va_runV (As := [.int (xs (4 * k + 1)), .int (xs (4 * k + 2))]) (rest := [.int ((cy_oIs n σ (xs (4 * k + 1)) (xs (4 * k + 2))).1)]) ⟨hx, hb, hml, hown, hts⟩ (c_X5_is l D cI cJ cO s.heap.size n n (cy_oIs n σ (xs (4 * k + 1)) (xs (4 * k + 2))).2 σ pl hi ad n hinv.1 (xs (4 * k + 1)) (xs (4 * k + 2))) (cwV 2 hts gL_law_X5_is rfl rfl rfl (by decide +kernel) ⟨Nat.le_of_ble_eq_true rfl, Nat.le_of_ble_eq_true rfl⟩) (cy_preV hK hI (cy_recv hK (hI.1 20 _ cy_CR).1 rfl)) rfl rfl hl.1 rfl (lv_room (Nat.le_of_ble_eq_true rfl)) dL_law_339 ⟨by show 19 + 2 * k + 0 + 0 ≤ 600000; omega, by show 1460 + 9 * k + 0 + 0 ≤ 7302250; omega⟩) hS (fun u H locs hI hz hS => ?_)
  refine W.eq (g2 := F0 m 342 ls [.int ((cy_oIs n σ (xs (4 * k + 1)) (xs (4 * k + 2))).1), .int ((cy_oIs n σ (xs (4 * k + 1)) (xs (4 * k + 2))).1)]) rfl ?_
  refine lv_icmp_eq (tgt := 731) hx hb dL_law_342 (by decide) (fun h1 => ?_) (fun h1 => absurd (rfl) h1)
  refine W.widen (k := 19 + 2 * (k + 1)) (n := 1460 + 9 * (k + 1)) (by omega) (by omega) ?_
  exact kk n (cy_oIs n σ (xs (4 * k + 1)) (xs (4 * k + 2))).2 pl hi ad _ _ ls ⟨cy_v_is hinv (xs (4 * k + 1)) (xs (4 * k + 2)), hI, hS, hl⟩

set_option maxHeartbeats 4000000 in
set_option maxRecDepth 100000 in
theorem lc_take {p : Program} {l : Launch} {e : Env} {s : State} {m : MethodId} {below : List Frame} {meth : Method} {c : Code} {b L : Nat} {xs : Nat → Int32} {D : va_G} {cI cJ cO : ClassId} (hL : L ≤ 2048) (C0 : lw_At p s m meth c b L xs) (hK : cy_K D cI cJ cO s) {k n : Nat} {σ : cy_S} {pl : Nat → Int32} {hi : Int32} {ad : Nat → Nat} {H : Heap} {locs : List Loc} {ls : Array Slot} (hk : 4 * k + 4 ≤ L) (hst : lw_St D cI cJ cO s b k n σ pl hi ad H locs ls) (kk : ∀ (n : Nat) (σ : cy_S) (pl : Nat → Int32) (hi : Int32) (ad : Nat → Nat) (H : Heap) (locs : List Loc) (ls : Array Slot), lw_St D cI cJ cO s b k n σ pl hi ad H locs ls → W p l e room_1 s m #[Value.ref b] below meth c H locs (19 + 2 * (k + 1)) (1460 + 9 * (k + 1)) (lw_Z below #[Value.ref b] s) (F0 m 731 ls [])) : W p l e room_1 s m #[Value.ref b] below meth c H locs (19 + 2 * k) (1460 + 9 * k) (lw_Z below #[Value.ref b] s) (F0 m 347 ls []) := by
  obtain ⟨hx, hb, hr, hml, hown, hts0, hX, hbl, hlocks, hgv⟩ := C0
  have hown : s.vm.findClass RL = some m.cls := hown
  have hts : ∀ w ∈ wsL_law, w.before #[Value.ref b] s = true := fun w h => hts0 w (wsL_law_in w h)
  have hbA : ¬ s.heap.size ≤ b := Nat.not_le.mpr hbl
  obtain ⟨hinv, hI, hS, hl⟩ := hst
  refine lv_aload_n hx hb dL_law_347 rfl (lv_at hl 2 rfl) ?_
  refine lv_aload_n hx hb dL_law_348 rfl (lv_at hl 1 rfl) ?_
  refine lv_iload_n hx hb dL_law_349 rfl (lv_at hl 0 rfl) ?_
  refine lv_iconst (v := 1) hx hb dL_law_350 (by decide) ?_
  refine lv_iadd hx hb dL_law_351 ?_
  refine cy_topi (y := nI (4 * k + 1)) (nI_1 (4 * k)) ?_
  refine cy_sld (k := 4 * k + 1) hx hb hX hbl hbA hS (by omega) (by omega) dL_law_352 ?_
  refine lv_aload_n hx hb dL_law_353 rfl (lv_at hl 1 rfl) ?_
  refine lv_iload_n hx hb dL_law_354 rfl (lv_at hl 0 rfl) ?_
  refine lv_iconst (v := 2) hx hb dL_law_355 (by decide) ?_
  refine lv_iadd hx hb dL_law_356 ?_
  refine cy_topi (y := nI (4 * k + 2)) (nI_add (4 * k) 2) ?_
  refine cy_sld (k := 4 * k + 2) hx hb hX hbl hbA hS (by omega) (by omega) dL_law_357 ?_
  refine cy_callm (va_runV (As := [.int (xs (4 * k + 1)), .int (xs (4 * k + 2))]) (rest := []) ⟨hx, hb, hml, hown, hts⟩ (c_X4_take l D cI cJ cO s.heap.size n σ σ pl hi ad hinv.1 (xs (4 * k + 1)) (xs (4 * k + 2))) (cwV 2 hts gL_law_X4_take rfl rfl rfl (by decide +kernel) ⟨Nat.le_of_ble_eq_true rfl, Nat.le_of_ble_eq_true rfl⟩) (cy_preV hK hI (cy_recv hK (hI.1 0 _ cy_CY).1 rfl)) rfl rfl hl.1 rfl (lv_room (Nat.le_of_ble_eq_true rfl)) dL_law_358 ⟨by show 19 + 2 * k + 0 ≤ 600000; omega, by show 1460 + 9 * k + 0 ≤ 7302250; omega⟩) hS (fun u H locs hI hz hS => ?_)
  refine W.eq (g2 := F0 m 361 ls [.int ((cy_oTake n σ (xs (4 * k + 1)) (xs (4 * k + 2))).1)]) rfl ?_
  refine lv_aload_n hx hb dL_law_361 rfl (lv_at hl 3 rfl) ?_
  refine lv_aload_n hx hb dL_law_362 rfl (lv_at hl 1 rfl) ?_
  refine lv_iload_n hx hb dL_law_363 rfl (lv_at hl 0 rfl) ?_
  refine lv_iconst (v := 1) hx hb dL_law_364 (by decide) ?_
  refine lv_iadd hx hb dL_law_365 ?_
  refine cy_topi (y := nI (4 * k + 1)) (nI_1 (4 * k)) ?_
  refine cy_sld (k := 4 * k + 1) hx hb hX hbl hbA hS (by omega) (by omega) dL_law_366 ?_
  refine lv_aload_n hx hb dL_law_367 rfl (lv_at hl 1 rfl) ?_
  refine lv_iload_n hx hb dL_law_368 rfl (lv_at hl 0 rfl) ?_
  refine lv_iconst (v := 2) hx hb dL_law_369 (by decide) ?_
  refine lv_iadd hx hb dL_law_370 ?_
  refine cy_topi (y := nI (4 * k + 2)) (nI_add (4 * k) 2) ?_
  refine cy_sld (k := 4 * k + 2) hx hb hX hbl hbA hS (by omega) (by omega) dL_law_371 ?_
  refine cy_callm (va_runV (As := [.int (xs (4 * k + 1)), .int (xs (4 * k + 2))]) (rest := [.int ((cy_oTake n σ (xs (4 * k + 1)) (xs (4 * k + 2))).1)]) ⟨hx, hb, hml, hown, hts⟩ (c_X5_take l D cI cJ cO s.heap.size n n (cy_oTake n σ (xs (4 * k + 1)) (xs (4 * k + 2))).2 σ pl hi ad n hinv.1 (xs (4 * k + 1)) (xs (4 * k + 2))) (cwV 2 hts gL_law_X5_take rfl rfl rfl (by decide +kernel) ⟨Nat.le_of_ble_eq_true rfl, Nat.le_of_ble_eq_true rfl⟩) (cy_preV hK hI (cy_recv hK (hI.1 20 _ cy_CR).1 rfl)) rfl rfl hl.1 rfl (lv_room (Nat.le_of_ble_eq_true rfl)) dL_law_372 ⟨by show 19 + 2 * k + 0 + 0 ≤ 600000; omega, by show 1460 + 9 * k + 0 + 0 ≤ 7302250; omega⟩) hS (fun u H locs hI hz hS => ?_)
  refine W.eq (g2 := F0 m 375 ls [.int ((cy_oTake n σ (xs (4 * k + 1)) (xs (4 * k + 2))).1), .int ((cy_oTake n σ (xs (4 * k + 1)) (xs (4 * k + 2))).1)]) rfl ?_
  refine lv_icmp_eq (tgt := 731) hx hb dL_law_375 (by decide) (fun h1 => ?_) (fun h1 => absurd (rfl) h1)
  refine W.widen (k := 19 + 2 * (k + 1)) (n := 1460 + 9 * (k + 1)) (by omega) (by omega) ?_
  exact kk n (cy_oTake n σ (xs (4 * k + 1)) (xs (4 * k + 2))).2 pl hi ad _ _ ls ⟨cy_v_take hinv (xs (4 * k + 1)) (xs (4 * k + 2)), hI, hS, hl⟩

set_option maxHeartbeats 4000000 in
set_option maxRecDepth 100000 in
theorem lc_sort {p : Program} {l : Launch} {e : Env} {s : State} {m : MethodId} {below : List Frame} {meth : Method} {c : Code} {b L : Nat} {xs : Nat → Int32} {D : va_G} {cI cJ cO : ClassId} (hL : L ≤ 2048) (C0 : lw_At p s m meth c b L xs) (hK : cy_K D cI cJ cO s) {k n : Nat} {σ : cy_S} {pl : Nat → Int32} {hi : Int32} {ad : Nat → Nat} {H : Heap} {locs : List Loc} {ls : Array Slot} (hk : 4 * k + 4 ≤ L) (hst : lw_St D cI cJ cO s b k n σ pl hi ad H locs ls) (kk : ∀ (n : Nat) (σ : cy_S) (pl : Nat → Int32) (hi : Int32) (ad : Nat → Nat) (H : Heap) (locs : List Loc) (ls : Array Slot), lw_St D cI cJ cO s b k n σ pl hi ad H locs ls → W p l e room_1 s m #[Value.ref b] below meth c H locs (19 + 2 * (k + 1)) (1460 + 9 * (k + 1)) (lw_Z below #[Value.ref b] s) (F0 m 731 ls [])) : W p l e room_1 s m #[Value.ref b] below meth c H locs (19 + 2 * k) (1460 + 9 * k) (lw_Z below #[Value.ref b] s) (F0 m 380 ls []) := by
  obtain ⟨hx, hb, hr, hml, hown, hts0, hX, hbl, hlocks, hgv⟩ := C0
  have hown : s.vm.findClass RL = some m.cls := hown
  have hts : ∀ w ∈ wsL_law, w.before #[Value.ref b] s = true := fun w h => hts0 w (wsL_law_in w h)
  have hbA : ¬ s.heap.size ≤ b := Nat.not_le.mpr hbl
  obtain ⟨hinv, hI, hS, hl⟩ := hst
  refine lv_aload_n hx hb dL_law_380 rfl (lv_at hl 2 rfl) ?_
  refine lv_aload_n hx hb dL_law_381 rfl (lv_at hl 1 rfl) ?_
  refine lv_iload_n hx hb dL_law_382 rfl (lv_at hl 0 rfl) ?_
  refine lv_iconst (v := 1) hx hb dL_law_383 (by decide) ?_
  refine lv_iadd hx hb dL_law_384 ?_
  refine cy_topi (y := nI (4 * k + 1)) (nI_1 (4 * k)) ?_
  refine cy_sld (k := 4 * k + 1) hx hb hX hbl hbA hS (by omega) (by omega) dL_law_385 ?_
  refine cy_callm (va_runV (As := [.int (xs (4 * k + 1))]) (rest := []) ⟨hx, hb, hml, hown, hts⟩ (c_X4_sort l D cI cJ cO s.heap.size n σ σ pl hi ad hinv.1 (xs (4 * k + 1))) (cwV 1 hts gL_law_X4_sort rfl rfl rfl (by decide +kernel) ⟨Nat.le_of_ble_eq_true rfl, Nat.le_of_ble_eq_true rfl⟩) (cy_preV hK hI (cy_recv hK (hI.1 0 _ cy_CY).1 rfl)) rfl rfl hl.1 rfl (lv_room (Nat.le_of_ble_eq_true rfl)) dL_law_386 ⟨by show 19 + 2 * k + 0 ≤ 600000; omega, by show 1460 + 9 * k + 0 ≤ 7302250; omega⟩) hS (fun u H locs hI hz hS => ?_)
  refine W.eq (g2 := F0 m 389 ls [.int ((cy_oSort n σ (xs (4 * k + 1))).1)]) rfl ?_
  refine lv_aload_n hx hb dL_law_389 rfl (lv_at hl 3 rfl) ?_
  refine lv_aload_n hx hb dL_law_390 rfl (lv_at hl 1 rfl) ?_
  refine lv_iload_n hx hb dL_law_391 rfl (lv_at hl 0 rfl) ?_
  refine lv_iconst (v := 1) hx hb dL_law_392 (by decide) ?_
  refine lv_iadd hx hb dL_law_393 ?_
  refine cy_topi (y := nI (4 * k + 1)) (nI_1 (4 * k)) ?_
  refine cy_sld (k := 4 * k + 1) hx hb hX hbl hbA hS (by omega) (by omega) dL_law_394 ?_
  refine cy_callm (va_runV (As := [.int (xs (4 * k + 1))]) (rest := [.int ((cy_oSort n σ (xs (4 * k + 1))).1)]) ⟨hx, hb, hml, hown, hts⟩ (c_X5_sort l D cI cJ cO s.heap.size n n (cy_oSort n σ (xs (4 * k + 1))).2 σ pl hi ad n hinv.1 (xs (4 * k + 1))) (cwV 1 hts gL_law_X5_sort rfl rfl rfl (by decide +kernel) ⟨Nat.le_of_ble_eq_true rfl, Nat.le_of_ble_eq_true rfl⟩) (cy_preV hK hI (cy_recv hK (hI.1 20 _ cy_CR).1 rfl)) rfl rfl hl.1 rfl (lv_room (Nat.le_of_ble_eq_true rfl)) dL_law_395 ⟨by show 19 + 2 * k + 0 + 0 ≤ 600000; omega, by show 1460 + 9 * k + 0 + 0 ≤ 7302250; omega⟩) hS (fun u H locs hI hz hS => ?_)
  refine W.eq (g2 := F0 m 398 ls [.int ((cy_oSort n σ (xs (4 * k + 1))).1), .int ((cy_oSort n σ (xs (4 * k + 1))).1)]) rfl ?_
  refine lv_icmp_eq (tgt := 731) hx hb dL_law_398 (by decide) (fun h1 => ?_) (fun h1 => absurd (rfl) h1)
  refine W.widen (k := 19 + 2 * (k + 1)) (n := 1460 + 9 * (k + 1)) (by omega) (by omega) ?_
  exact kk n (cy_oSort n σ (xs (4 * k + 1))).2 pl hi ad _ _ ls ⟨cy_v_sort hinv (xs (4 * k + 1)), hI, hS, hl⟩

set_option maxHeartbeats 4000000 in
set_option maxRecDepth 100000 in
theorem lc_weight {p : Program} {l : Launch} {e : Env} {s : State} {m : MethodId} {below : List Frame} {meth : Method} {c : Code} {b L : Nat} {xs : Nat → Int32} {D : va_G} {cI cJ cO : ClassId} (hL : L ≤ 2048) (C0 : lw_At p s m meth c b L xs) (hK : cy_K D cI cJ cO s) {k n : Nat} {σ : cy_S} {pl : Nat → Int32} {hi : Int32} {ad : Nat → Nat} {H : Heap} {locs : List Loc} {ls : Array Slot} (hk : 4 * k + 4 ≤ L) (hst : lw_St D cI cJ cO s b k n σ pl hi ad H locs ls) (kk : ∀ (n : Nat) (σ : cy_S) (pl : Nat → Int32) (hi : Int32) (ad : Nat → Nat) (H : Heap) (locs : List Loc) (ls : Array Slot), lw_St D cI cJ cO s b k n σ pl hi ad H locs ls → W p l e room_1 s m #[Value.ref b] below meth c H locs (19 + 2 * (k + 1)) (1460 + 9 * (k + 1)) (lw_Z below #[Value.ref b] s) (F0 m 731 ls [])) : W p l e room_1 s m #[Value.ref b] below meth c H locs (19 + 2 * k) (1460 + 9 * k) (lw_Z below #[Value.ref b] s) (F0 m 403 ls []) := by
  obtain ⟨hx, hb, hr, hml, hown, hts0, hX, hbl, hlocks, hgv⟩ := C0
  have hown : s.vm.findClass RL = some m.cls := hown
  have hts : ∀ w ∈ wsL_law, w.before #[Value.ref b] s = true := fun w h => hts0 w (wsL_law_in w h)
  have hbA : ¬ s.heap.size ≤ b := Nat.not_le.mpr hbl
  obtain ⟨hinv, hI, hS, hl⟩ := hst
  refine lv_aload_n hx hb dL_law_403 rfl (lv_at hl 2 rfl) ?_
  refine lv_aload_n hx hb dL_law_404 rfl (lv_at hl 1 rfl) ?_
  refine lv_iload_n hx hb dL_law_405 rfl (lv_at hl 0 rfl) ?_
  refine lv_iconst (v := 1) hx hb dL_law_406 (by decide) ?_
  refine lv_iadd hx hb dL_law_407 ?_
  refine cy_topi (y := nI (4 * k + 1)) (nI_1 (4 * k)) ?_
  refine cy_sld (k := 4 * k + 1) hx hb hX hbl hbA hS (by omega) (by omega) dL_law_408 ?_
  refine cy_callm (va_runV (As := [.int (xs (4 * k + 1))]) (rest := []) ⟨hx, hb, hml, hown, hts⟩ (c_X4_weight l D cI cJ cO s.heap.size n σ σ pl hi ad hinv.1 (xs (4 * k + 1))) (cwV 1 hts gL_law_X4_weight rfl rfl rfl (by decide +kernel) ⟨Nat.le_of_ble_eq_true rfl, Nat.le_of_ble_eq_true rfl⟩) (cy_preV hK hI (cy_recv hK (hI.1 0 _ cy_CY).1 rfl)) rfl rfl hl.1 rfl (lv_room (Nat.le_of_ble_eq_true rfl)) dL_law_409 ⟨by show 19 + 2 * k + 0 ≤ 600000; omega, by show 1460 + 9 * k + 0 ≤ 7302250; omega⟩) hS (fun u H locs hI hz hS => ?_)
  refine W.eq (g2 := F0 m 412 ls [.long ((cy_oWeight n σ (xs (4 * k + 1))).1)]) rfl ?_
  refine lv_aload_n hx hb dL_law_412 rfl (lv_at hl 3 rfl) ?_
  refine lv_aload_n hx hb dL_law_413 rfl (lv_at hl 1 rfl) ?_
  refine lv_iload_n hx hb dL_law_414 rfl (lv_at hl 0 rfl) ?_
  refine lv_iconst (v := 1) hx hb dL_law_415 (by decide) ?_
  refine lv_iadd hx hb dL_law_416 ?_
  refine cy_topi (y := nI (4 * k + 1)) (nI_1 (4 * k)) ?_
  refine cy_sld (k := 4 * k + 1) hx hb hX hbl hbA hS (by omega) (by omega) dL_law_417 ?_
  refine cy_callm (va_runV (As := [.int (xs (4 * k + 1))]) (rest := [.long ((cy_oWeight n σ (xs (4 * k + 1))).1)]) ⟨hx, hb, hml, hown, hts⟩ (c_X5_weight l D cI cJ cO s.heap.size n n (cy_oWeight n σ (xs (4 * k + 1))).2 σ pl hi ad n hinv.1 (xs (4 * k + 1))) (cwV 1 hts gL_law_X5_weight rfl rfl rfl (by decide +kernel) ⟨Nat.le_of_ble_eq_true rfl, Nat.le_of_ble_eq_true rfl⟩) (cy_preV hK hI (cy_recv hK (hI.1 20 _ cy_CR).1 rfl)) rfl rfl hl.1 rfl (lv_room (Nat.le_of_ble_eq_true rfl)) dL_law_418 ⟨by show 19 + 2 * k + 0 + 0 ≤ 600000; omega, by show 1460 + 9 * k + 0 + 0 ≤ 7302250; omega⟩) hS (fun u2 H locs hI hz hS => ?_)
  refine W.eq (g2 := F0 m 421 ls [.long ((cy_oWeight n σ (xs (4 * k + 1))).1), .long ((cy_oWeight n σ (xs (4 * k + 1))).1)]) rfl ?_
  refine W.lcmp hx hb dL_law_421 ?_
  refine cy_topi (y := 0) (cy_lg0 _) ?_
  refine lv_if_eq (tgt := 731) hx hb dL_law_422 (by decide) (fun h1 => ?_) (fun h1 => absurd (by decide) h1)
  refine W.widen (k := 19 + 2 * (k + 1)) (n := 1460 + 9 * (k + 1)) (by omega) (by omega) ?_
  exact kk n (cy_oWeight n σ (xs (4 * k + 1))).2 u2.1 u2.2 ad _ _ ls ⟨cy_v_weight hinv (xs (4 * k + 1)), hI, hS, hl⟩

set_option maxHeartbeats 4000000 in
set_option maxRecDepth 100000 in
theorem lc_inside {p : Program} {l : Launch} {e : Env} {s : State} {m : MethodId} {below : List Frame} {meth : Method} {c : Code} {b L : Nat} {xs : Nat → Int32} {D : va_G} {cI cJ cO : ClassId} (hL : L ≤ 2048) (C0 : lw_At p s m meth c b L xs) (hK : cy_K D cI cJ cO s) {k n : Nat} {σ : cy_S} {pl : Nat → Int32} {hi : Int32} {ad : Nat → Nat} {H : Heap} {locs : List Loc} {ls : Array Slot} (hk : 4 * k + 4 ≤ L) (hst : lw_St D cI cJ cO s b k n σ pl hi ad H locs ls) (kk : ∀ (n : Nat) (σ : cy_S) (pl : Nat → Int32) (hi : Int32) (ad : Nat → Nat) (H : Heap) (locs : List Loc) (ls : Array Slot), lw_St D cI cJ cO s b k n σ pl hi ad H locs ls → W p l e room_1 s m #[Value.ref b] below meth c H locs (19 + 2 * (k + 1)) (1460 + 9 * (k + 1)) (lw_Z below #[Value.ref b] s) (F0 m 731 ls [])) : W p l e room_1 s m #[Value.ref b] below meth c H locs (19 + 2 * k) (1460 + 9 * k) (lw_Z below #[Value.ref b] s) (F0 m 427 ls []) := by
  obtain ⟨hx, hb, hr, hml, hown, hts0, hX, hbl, hlocks, hgv⟩ := C0
  have hown : s.vm.findClass RL = some m.cls := hown
  have hts : ∀ w ∈ wsL_law, w.before #[Value.ref b] s = true := fun w h => hts0 w (wsL_law_in w h)
  have hbA : ¬ s.heap.size ≤ b := Nat.not_le.mpr hbl
  obtain ⟨hinv, hI, hS, hl⟩ := hst
  refine lv_aload_n hx hb dL_law_427 rfl (lv_at hl 2 rfl) ?_
  refine lv_aload_n hx hb dL_law_428 rfl (lv_at hl 1 rfl) ?_
  refine lv_iload_n hx hb dL_law_429 rfl (lv_at hl 0 rfl) ?_
  refine lv_iconst (v := 1) hx hb dL_law_430 (by decide) ?_
  refine lv_iadd hx hb dL_law_431 ?_
  refine cy_topi (y := nI (4 * k + 1)) (nI_1 (4 * k)) ?_
  refine cy_sld (k := 4 * k + 1) hx hb hX hbl hbA hS (by omega) (by omega) dL_law_432 ?_
  refine lv_aload_n hx hb dL_law_433 rfl (lv_at hl 1 rfl) ?_
  refine lv_iload_n hx hb dL_law_434 rfl (lv_at hl 0 rfl) ?_
  refine lv_iconst (v := 2) hx hb dL_law_435 (by decide) ?_
  refine lv_iadd hx hb dL_law_436 ?_
  refine cy_topi (y := nI (4 * k + 2)) (nI_add (4 * k) 2) ?_
  refine cy_sld (k := 4 * k + 2) hx hb hX hbl hbA hS (by omega) (by omega) dL_law_437 ?_
  refine cy_callm (va_runV (As := [.int (xs (4 * k + 1)), .int (xs (4 * k + 2))]) (rest := []) ⟨hx, hb, hml, hown, hts⟩ (c_X4_inside l D cI cJ cO s.heap.size n σ σ pl hi ad hinv.1 (xs (4 * k + 1)) (xs (4 * k + 2))) (cwV 2 hts gL_law_X4_inside rfl rfl rfl (by decide +kernel) ⟨Nat.le_of_ble_eq_true rfl, Nat.le_of_ble_eq_true rfl⟩) (cy_preV hK hI (cy_recv hK (hI.1 0 _ cy_CY).1 rfl)) rfl rfl hl.1 rfl (lv_room (Nat.le_of_ble_eq_true rfl)) dL_law_438 ⟨by show 19 + 2 * k + 0 ≤ 600000; omega, by show 1460 + 9 * k + 0 ≤ 7302250; omega⟩) hS (fun u H locs hI hz hS => ?_)
  refine W.eq (g2 := F0 m 441 ls [.int ((cy_oInside n σ (xs (4 * k + 1)) (xs (4 * k + 2))).1)]) rfl ?_
  refine lv_aload_n hx hb dL_law_441 rfl (lv_at hl 3 rfl) ?_
  refine lv_aload_n hx hb dL_law_442 rfl (lv_at hl 1 rfl) ?_
  refine lv_iload_n hx hb dL_law_443 rfl (lv_at hl 0 rfl) ?_
  refine lv_iconst (v := 1) hx hb dL_law_444 (by decide) ?_
  refine lv_iadd hx hb dL_law_445 ?_
  refine cy_topi (y := nI (4 * k + 1)) (nI_1 (4 * k)) ?_
  refine cy_sld (k := 4 * k + 1) hx hb hX hbl hbA hS (by omega) (by omega) dL_law_446 ?_
  refine lv_aload_n hx hb dL_law_447 rfl (lv_at hl 1 rfl) ?_
  refine lv_iload_n hx hb dL_law_448 rfl (lv_at hl 0 rfl) ?_
  refine lv_iconst (v := 2) hx hb dL_law_449 (by decide) ?_
  refine lv_iadd hx hb dL_law_450 ?_
  refine cy_topi (y := nI (4 * k + 2)) (nI_add (4 * k) 2) ?_
  refine cy_sld (k := 4 * k + 2) hx hb hX hbl hbA hS (by omega) (by omega) dL_law_451 ?_
  refine cy_callm (va_runV (As := [.int (xs (4 * k + 1)), .int (xs (4 * k + 2))]) (rest := [.int ((cy_oInside n σ (xs (4 * k + 1)) (xs (4 * k + 2))).1)]) ⟨hx, hb, hml, hown, hts⟩ (c_X5_inside l D cI cJ cO s.heap.size n n (cy_oInside n σ (xs (4 * k + 1)) (xs (4 * k + 2))).2 σ pl hi ad n hinv.1 (xs (4 * k + 1)) (xs (4 * k + 2))) (cwV 2 hts gL_law_X5_inside rfl rfl rfl (by decide +kernel) ⟨Nat.le_of_ble_eq_true rfl, Nat.le_of_ble_eq_true rfl⟩) (cy_preV hK hI (cy_recv hK (hI.1 20 _ cy_CR).1 rfl)) rfl rfl hl.1 rfl (lv_room (Nat.le_of_ble_eq_true rfl)) dL_law_452 ⟨by show 19 + 2 * k + 0 + 0 ≤ 600000; omega, by show 1460 + 9 * k + 0 + 0 ≤ 7302250; omega⟩) hS (fun u2 H locs hI hz hS => ?_)
  refine W.eq (g2 := F0 m 455 ls [.int ((cy_oInside n σ (xs (4 * k + 1)) (xs (4 * k + 2))).1), .int ((cy_oInside n σ (xs (4 * k + 1)) (xs (4 * k + 2))).1)]) rfl ?_
  refine lv_icmp_eq (tgt := 731) hx hb dL_law_455 (by decide) (fun h1 => ?_) (fun h1 => absurd (rfl) h1)
  refine W.widen (k := 19 + 2 * (k + 1)) (n := 1460 + 9 * (k + 1)) (by omega) (by omega) ?_
  exact kk n (cy_oInside n σ (xs (4 * k + 1)) (xs (4 * k + 2))).2 u2.1 u2.2 ad _ _ ls ⟨cy_v_inside hinv (xs (4 * k + 1)) (xs (4 * k + 2)), hI, hS, hl⟩

set_option maxHeartbeats 4000000 in
set_option maxRecDepth 100000 in
theorem lc_hold {p : Program} {l : Launch} {e : Env} {s : State} {m : MethodId} {below : List Frame} {meth : Method} {c : Code} {b L : Nat} {xs : Nat → Int32} {D : va_G} {cI cJ cO : ClassId} (hL : L ≤ 2048) (C0 : lw_At p s m meth c b L xs) (hK : cy_K D cI cJ cO s) {k n : Nat} {σ : cy_S} {pl : Nat → Int32} {hi : Int32} {ad : Nat → Nat} {H : Heap} {locs : List Loc} {ls : Array Slot} (hk : 4 * k + 4 ≤ L) (hst : lw_St D cI cJ cO s b k n σ pl hi ad H locs ls) (kk : ∀ (n : Nat) (σ : cy_S) (pl : Nat → Int32) (hi : Int32) (ad : Nat → Nat) (H : Heap) (locs : List Loc) (ls : Array Slot), lw_St D cI cJ cO s b k n σ pl hi ad H locs ls → W p l e room_1 s m #[Value.ref b] below meth c H locs (19 + 2 * (k + 1)) (1460 + 9 * (k + 1)) (lw_Z below #[Value.ref b] s) (F0 m 731 ls [])) : W p l e room_1 s m #[Value.ref b] below meth c H locs (19 + 2 * k) (1460 + 9 * k) (lw_Z below #[Value.ref b] s) (F0 m 460 ls []) := by
  obtain ⟨hx, hb, hr, hml, hown, hts0, hX, hbl, hlocks, hgv⟩ := C0
  have hown : s.vm.findClass RL = some m.cls := hown
  have hts : ∀ w ∈ wsL_law, w.before #[Value.ref b] s = true := fun w h => hts0 w (wsL_law_in w h)
  have hbA : ¬ s.heap.size ≤ b := Nat.not_le.mpr hbl
  obtain ⟨hinv, hI, hS, hl⟩ := hst
  refine lv_aload_n hx hb dL_law_460 rfl (lv_at hl 2 rfl) ?_
  refine lv_aload_n hx hb dL_law_461 rfl (lv_at hl 1 rfl) ?_
  refine lv_iload_n hx hb dL_law_462 rfl (lv_at hl 0 rfl) ?_
  refine lv_iconst (v := 1) hx hb dL_law_463 (by decide) ?_
  refine lv_iadd hx hb dL_law_464 ?_
  refine cy_topi (y := nI (4 * k + 1)) (nI_1 (4 * k)) ?_
  refine cy_sld (k := 4 * k + 1) hx hb hX hbl hbA hS (by omega) (by omega) dL_law_465 ?_
  refine lv_aload_n hx hb dL_law_466 rfl (lv_at hl 1 rfl) ?_
  refine lv_iload_n hx hb dL_law_467 rfl (lv_at hl 0 rfl) ?_
  refine lv_iconst (v := 2) hx hb dL_law_468 (by decide) ?_
  refine lv_iadd hx hb dL_law_469 ?_
  refine cy_topi (y := nI (4 * k + 2)) (nI_add (4 * k) 2) ?_
  refine cy_sld (k := 4 * k + 2) hx hb hX hbl hbA hS (by omega) (by omega) dL_law_470 ?_
  refine cy_callm (va_runV (As := [.int (xs (4 * k + 1)), .int (xs (4 * k + 2))]) (rest := []) ⟨hx, hb, hml, hown, hts⟩ (c_X4_hold l D cI cJ cO s.heap.size n σ σ pl hi ad hinv.1 (xs (4 * k + 1)) (xs (4 * k + 2))) (cwV 2 hts gL_law_X4_hold rfl rfl rfl (by decide +kernel) ⟨Nat.le_of_ble_eq_true rfl, Nat.le_of_ble_eq_true rfl⟩) (cy_preV hK hI (cy_recv hK (hI.1 0 _ cy_CY).1 rfl)) rfl rfl hl.1 rfl (lv_room (Nat.le_of_ble_eq_true rfl)) dL_law_471 ⟨by show 19 + 2 * k + 0 ≤ 600000; omega, by show 1460 + 9 * k + 0 ≤ 7302250; omega⟩) hS (fun u H locs hI hz hS => ?_)
  refine W.eq (g2 := F0 m 474 ls [.int ((cy_oHold n σ (xs (4 * k + 1)) (xs (4 * k + 2))).1)]) rfl ?_
  refine lv_aload_n hx hb dL_law_474 rfl (lv_at hl 3 rfl) ?_
  refine lv_aload_n hx hb dL_law_475 rfl (lv_at hl 1 rfl) ?_
  refine lv_iload_n hx hb dL_law_476 rfl (lv_at hl 0 rfl) ?_
  refine lv_iconst (v := 1) hx hb dL_law_477 (by decide) ?_
  refine lv_iadd hx hb dL_law_478 ?_
  refine cy_topi (y := nI (4 * k + 1)) (nI_1 (4 * k)) ?_
  refine cy_sld (k := 4 * k + 1) hx hb hX hbl hbA hS (by omega) (by omega) dL_law_479 ?_
  refine lv_aload_n hx hb dL_law_480 rfl (lv_at hl 1 rfl) ?_
  refine lv_iload_n hx hb dL_law_481 rfl (lv_at hl 0 rfl) ?_
  refine lv_iconst (v := 2) hx hb dL_law_482 (by decide) ?_
  refine lv_iadd hx hb dL_law_483 ?_
  refine cy_topi (y := nI (4 * k + 2)) (nI_add (4 * k) 2) ?_
  refine cy_sld (k := 4 * k + 2) hx hb hX hbl hbA hS (by omega) (by omega) dL_law_484 ?_
  refine cy_callm (va_runV (As := [.int (xs (4 * k + 1)), .int (xs (4 * k + 2))]) (rest := [.int ((cy_oHold n σ (xs (4 * k + 1)) (xs (4 * k + 2))).1)]) ⟨hx, hb, hml, hown, hts⟩ (c_X5_hold l D cI cJ cO s.heap.size n n (cy_oHold n σ (xs (4 * k + 1)) (xs (4 * k + 2))).2 σ pl hi ad n hinv.1 (xs (4 * k + 1)) (xs (4 * k + 2))) (cwV 2 hts gL_law_X5_hold rfl rfl rfl (by decide +kernel) ⟨Nat.le_of_ble_eq_true rfl, Nat.le_of_ble_eq_true rfl⟩) (cy_preV hK hI (cy_recv hK (hI.1 20 _ cy_CR).1 rfl)) rfl rfl hl.1 rfl (lv_room (Nat.le_of_ble_eq_true rfl)) dL_law_485 ⟨by show 19 + 2 * k + 0 + 0 ≤ 600000; omega, by show 1460 + 9 * k + 0 + 0 ≤ 7302250; omega⟩) hS (fun u H locs hI hz hS => ?_)
  refine W.eq (g2 := F0 m 488 ls [.int ((cy_oHold n σ (xs (4 * k + 1)) (xs (4 * k + 2))).1), .int ((cy_oHold n σ (xs (4 * k + 1)) (xs (4 * k + 2))).1)]) rfl ?_
  refine lv_icmp_eq (tgt := 731) hx hb dL_law_488 (by decide) (fun h1 => ?_) (fun h1 => absurd (rfl) h1)
  refine W.widen (k := 19 + 2 * (k + 1)) (n := 1460 + 9 * (k + 1)) (by omega) (by omega) ?_
  exact kk n (cy_oHold n σ (xs (4 * k + 1)) (xs (4 * k + 2))).2 pl hi ad _ _ ls ⟨cy_v_hold hinv (xs (4 * k + 1)) (xs (4 * k + 2)), hI, hS, hl⟩

set_option maxHeartbeats 4000000 in
set_option maxRecDepth 100000 in
theorem lc_bay {p : Program} {l : Launch} {e : Env} {s : State} {m : MethodId} {below : List Frame} {meth : Method} {c : Code} {b L : Nat} {xs : Nat → Int32} {D : va_G} {cI cJ cO : ClassId} (hL : L ≤ 2048) (C0 : lw_At p s m meth c b L xs) (hK : cy_K D cI cJ cO s) {k n : Nat} {σ : cy_S} {pl : Nat → Int32} {hi : Int32} {ad : Nat → Nat} {H : Heap} {locs : List Loc} {ls : Array Slot} (hk : 4 * k + 4 ≤ L) (hst : lw_St D cI cJ cO s b k n σ pl hi ad H locs ls) (kk : ∀ (n : Nat) (σ : cy_S) (pl : Nat → Int32) (hi : Int32) (ad : Nat → Nat) (H : Heap) (locs : List Loc) (ls : Array Slot), lw_St D cI cJ cO s b k n σ pl hi ad H locs ls → W p l e room_1 s m #[Value.ref b] below meth c H locs (19 + 2 * (k + 1)) (1460 + 9 * (k + 1)) (lw_Z below #[Value.ref b] s) (F0 m 731 ls [])) : W p l e room_1 s m #[Value.ref b] below meth c H locs (19 + 2 * k) (1460 + 9 * k) (lw_Z below #[Value.ref b] s) (F0 m 493 ls []) := by
  obtain ⟨hx, hb, hr, hml, hown, hts0, hX, hbl, hlocks, hgv⟩ := C0
  have hown : s.vm.findClass RL = some m.cls := hown
  have hts : ∀ w ∈ wsL_law, w.before #[Value.ref b] s = true := fun w h => hts0 w (wsL_law_in w h)
  have hbA : ¬ s.heap.size ≤ b := Nat.not_le.mpr hbl
  obtain ⟨hinv, hI, hS, hl⟩ := hst
  refine lv_aload_n hx hb dL_law_493 rfl (lv_at hl 2 rfl) ?_
  refine lv_aload_n hx hb dL_law_494 rfl (lv_at hl 1 rfl) ?_
  refine lv_iload_n hx hb dL_law_495 rfl (lv_at hl 0 rfl) ?_
  refine lv_iconst (v := 1) hx hb dL_law_496 (by decide) ?_
  refine lv_iadd hx hb dL_law_497 ?_
  refine cy_topi (y := nI (4 * k + 1)) (nI_1 (4 * k)) ?_
  refine cy_sld (k := 4 * k + 1) hx hb hX hbl hbA hS (by omega) (by omega) dL_law_498 ?_
  refine lv_aload_n hx hb dL_law_499 rfl (lv_at hl 1 rfl) ?_
  refine lv_iload_n hx hb dL_law_500 rfl (lv_at hl 0 rfl) ?_
  refine lv_iconst (v := 2) hx hb dL_law_501 (by decide) ?_
  refine lv_iadd hx hb dL_law_502 ?_
  refine cy_topi (y := nI (4 * k + 2)) (nI_add (4 * k) 2) ?_
  refine cy_sld (k := 4 * k + 2) hx hb hX hbl hbA hS (by omega) (by omega) dL_law_503 ?_
  refine cy_callm (va_runV (As := [.int (xs (4 * k + 1)), .int (xs (4 * k + 2))]) (rest := []) ⟨hx, hb, hml, hown, hts⟩ (c_X4_bay l D cI cJ cO s.heap.size n σ σ pl hi ad hinv.1 (xs (4 * k + 1)) (xs (4 * k + 2))) (cwV 2 hts gL_law_X4_bay rfl rfl rfl (by decide +kernel) ⟨Nat.le_of_ble_eq_true rfl, Nat.le_of_ble_eq_true rfl⟩) (cy_preV hK hI (cy_recv hK (hI.1 0 _ cy_CY).1 rfl)) rfl rfl hl.1 rfl (lv_room (Nat.le_of_ble_eq_true rfl)) dL_law_504 ⟨by show 19 + 2 * k + 0 ≤ 600000; omega, by show 1460 + 9 * k + 0 ≤ 7302250; omega⟩) hS (fun u H locs hI hz hS => ?_)
  refine W.eq (g2 := F0 m 507 ls [.int ((cy_oBay σ (xs (4 * k + 1)) (xs (4 * k + 2))).1)]) rfl ?_
  refine lv_aload_n hx hb dL_law_507 rfl (lv_at hl 3 rfl) ?_
  refine lv_aload_n hx hb dL_law_508 rfl (lv_at hl 1 rfl) ?_
  refine lv_iload_n hx hb dL_law_509 rfl (lv_at hl 0 rfl) ?_
  refine lv_iconst (v := 1) hx hb dL_law_510 (by decide) ?_
  refine lv_iadd hx hb dL_law_511 ?_
  refine cy_topi (y := nI (4 * k + 1)) (nI_1 (4 * k)) ?_
  refine cy_sld (k := 4 * k + 1) hx hb hX hbl hbA hS (by omega) (by omega) dL_law_512 ?_
  refine lv_aload_n hx hb dL_law_513 rfl (lv_at hl 1 rfl) ?_
  refine lv_iload_n hx hb dL_law_514 rfl (lv_at hl 0 rfl) ?_
  refine lv_iconst (v := 2) hx hb dL_law_515 (by decide) ?_
  refine lv_iadd hx hb dL_law_516 ?_
  refine cy_topi (y := nI (4 * k + 2)) (nI_add (4 * k) 2) ?_
  refine cy_sld (k := 4 * k + 2) hx hb hX hbl hbA hS (by omega) (by omega) dL_law_517 ?_
  refine cy_callm (va_runV (As := [.int (xs (4 * k + 1)), .int (xs (4 * k + 2))]) (rest := [.int ((cy_oBay σ (xs (4 * k + 1)) (xs (4 * k + 2))).1)]) ⟨hx, hb, hml, hown, hts⟩ (c_X5_bay l D cI cJ cO s.heap.size n n (cy_oBay σ (xs (4 * k + 1)) (xs (4 * k + 2))).2 σ pl hi ad n hinv.1 (xs (4 * k + 1)) (xs (4 * k + 2))) (cwV 2 hts gL_law_X5_bay rfl rfl rfl (by decide +kernel) ⟨Nat.le_of_ble_eq_true rfl, Nat.le_of_ble_eq_true rfl⟩) (cy_preV hK hI (cy_recv hK (hI.1 20 _ cy_CR).1 rfl)) rfl rfl hl.1 rfl (lv_room (Nat.le_of_ble_eq_true rfl)) dL_law_518 ⟨by show 19 + 2 * k + 0 + 0 ≤ 600000; omega, by show 1460 + 9 * k + 0 + 0 ≤ 7302250; omega⟩) hS (fun u H locs hI hz hS => ?_)
  refine W.eq (g2 := F0 m 521 ls [.int ((cy_oBay σ (xs (4 * k + 1)) (xs (4 * k + 2))).1), .int ((cy_oBay σ (xs (4 * k + 1)) (xs (4 * k + 2))).1)]) rfl ?_
  refine lv_icmp_eq (tgt := 731) hx hb dL_law_521 (by decide) (fun h1 => ?_) (fun h1 => absurd (rfl) h1)
  refine W.widen (k := 19 + 2 * (k + 1)) (n := 1460 + 9 * (k + 1)) (by omega) (by omega) ?_
  exact kk n (cy_oBay σ (xs (4 * k + 1)) (xs (4 * k + 2))).2 pl hi ad _ _ ls ⟨cy_v_bay hinv (xs (4 * k + 1)) (xs (4 * k + 2)), hI, hS, hl⟩

set_option maxHeartbeats 4000000 in
set_option maxRecDepth 100000 in
theorem lc_gate {p : Program} {l : Launch} {e : Env} {s : State} {m : MethodId} {below : List Frame} {meth : Method} {c : Code} {b L : Nat} {xs : Nat → Int32} {D : va_G} {cI cJ cO : ClassId} (hL : L ≤ 2048) (C0 : lw_At p s m meth c b L xs) (hK : cy_K D cI cJ cO s) {k n : Nat} {σ : cy_S} {pl : Nat → Int32} {hi : Int32} {ad : Nat → Nat} {H : Heap} {locs : List Loc} {ls : Array Slot} (hk : 4 * k + 4 ≤ L) (hst : lw_St D cI cJ cO s b k n σ pl hi ad H locs ls) (kk : ∀ (n : Nat) (σ : cy_S) (pl : Nat → Int32) (hi : Int32) (ad : Nat → Nat) (H : Heap) (locs : List Loc) (ls : Array Slot), lw_St D cI cJ cO s b k n σ pl hi ad H locs ls → W p l e room_1 s m #[Value.ref b] below meth c H locs (19 + 2 * (k + 1)) (1460 + 9 * (k + 1)) (lw_Z below #[Value.ref b] s) (F0 m 731 ls [])) : W p l e room_1 s m #[Value.ref b] below meth c H locs (19 + 2 * k) (1460 + 9 * k) (lw_Z below #[Value.ref b] s) (F0 m 526 ls []) := by
  obtain ⟨hx, hb, hr, hml, hown, hts0, hX, hbl, hlocks, hgv⟩ := C0
  have hown : s.vm.findClass RL = some m.cls := hown
  have hts : ∀ w ∈ wsL_law, w.before #[Value.ref b] s = true := fun w h => hts0 w (wsL_law_in w h)
  have hbA : ¬ s.heap.size ≤ b := Nat.not_le.mpr hbl
  obtain ⟨hinv, hI, hS, hl⟩ := hst
  refine lv_aload_n hx hb dL_law_526 rfl (lv_at hl 2 rfl) ?_
  refine lv_aload_n hx hb dL_law_527 rfl (lv_at hl 1 rfl) ?_
  refine lv_iload_n hx hb dL_law_528 rfl (lv_at hl 0 rfl) ?_
  refine lv_iconst (v := 1) hx hb dL_law_529 (by decide) ?_
  refine lv_iadd hx hb dL_law_530 ?_
  refine cy_topi (y := nI (4 * k + 1)) (nI_1 (4 * k)) ?_
  refine cy_sld (k := 4 * k + 1) hx hb hX hbl hbA hS (by omega) (by omega) dL_law_531 ?_
  refine lv_aload_n hx hb dL_law_532 rfl (lv_at hl 1 rfl) ?_
  refine lv_iload_n hx hb dL_law_533 rfl (lv_at hl 0 rfl) ?_
  refine lv_iconst (v := 2) hx hb dL_law_534 (by decide) ?_
  refine lv_iadd hx hb dL_law_535 ?_
  refine cy_topi (y := nI (4 * k + 2)) (nI_add (4 * k) 2) ?_
  refine cy_sld (k := 4 * k + 2) hx hb hX hbl hbA hS (by omega) (by omega) dL_law_536 ?_
  refine cy_callm (va_runV (As := [.int (xs (4 * k + 1)), .int (xs (4 * k + 2))]) (rest := []) ⟨hx, hb, hml, hown, hts⟩ (c_X4_gate l D cI cJ cO s.heap.size n σ σ pl hi ad hinv.1 (xs (4 * k + 1)) (xs (4 * k + 2))) (cwV 2 hts gL_law_X4_gate rfl rfl rfl (by decide +kernel) ⟨Nat.le_of_ble_eq_true rfl, Nat.le_of_ble_eq_true rfl⟩) (cy_preV hK hI (cy_recv hK (hI.1 0 _ cy_CY).1 rfl)) rfl rfl hl.1 rfl (lv_room (Nat.le_of_ble_eq_true rfl)) dL_law_537 ⟨by show 19 + 2 * k + 0 ≤ 600000; omega, by show 1460 + 9 * k + 0 ≤ 7302250; omega⟩) hS (fun u H locs hI hz hS => ?_)
  refine W.eq (g2 := F0 m 540 ls [.int ((cy_oGate σ (xs (4 * k + 1)) (xs (4 * k + 2))).1)]) rfl ?_
  refine lv_aload_n hx hb dL_law_540 rfl (lv_at hl 3 rfl) ?_
  refine lv_aload_n hx hb dL_law_541 rfl (lv_at hl 1 rfl) ?_
  refine lv_iload_n hx hb dL_law_542 rfl (lv_at hl 0 rfl) ?_
  refine lv_iconst (v := 1) hx hb dL_law_543 (by decide) ?_
  refine lv_iadd hx hb dL_law_544 ?_
  refine cy_topi (y := nI (4 * k + 1)) (nI_1 (4 * k)) ?_
  refine cy_sld (k := 4 * k + 1) hx hb hX hbl hbA hS (by omega) (by omega) dL_law_545 ?_
  refine lv_aload_n hx hb dL_law_546 rfl (lv_at hl 1 rfl) ?_
  refine lv_iload_n hx hb dL_law_547 rfl (lv_at hl 0 rfl) ?_
  refine lv_iconst (v := 2) hx hb dL_law_548 (by decide) ?_
  refine lv_iadd hx hb dL_law_549 ?_
  refine cy_topi (y := nI (4 * k + 2)) (nI_add (4 * k) 2) ?_
  refine cy_sld (k := 4 * k + 2) hx hb hX hbl hbA hS (by omega) (by omega) dL_law_550 ?_
  refine cy_callm (va_runV (As := [.int (xs (4 * k + 1)), .int (xs (4 * k + 2))]) (rest := [.int ((cy_oGate σ (xs (4 * k + 1)) (xs (4 * k + 2))).1)]) ⟨hx, hb, hml, hown, hts⟩ (c_X5_gate l D cI cJ cO s.heap.size n n (cy_oGate σ (xs (4 * k + 1)) (xs (4 * k + 2))).2 σ pl hi ad n hinv.1 (xs (4 * k + 1)) (xs (4 * k + 2))) (cwV 2 hts gL_law_X5_gate rfl rfl rfl (by decide +kernel) ⟨Nat.le_of_ble_eq_true rfl, Nat.le_of_ble_eq_true rfl⟩) (cy_preV hK hI (cy_recv hK (hI.1 20 _ cy_CR).1 rfl)) rfl rfl hl.1 rfl (lv_room (Nat.le_of_ble_eq_true rfl)) dL_law_551 ⟨by show 19 + 2 * k + 0 + 0 ≤ 600000; omega, by show 1460 + 9 * k + 0 + 0 ≤ 7302250; omega⟩) hS (fun u H locs hI hz hS => ?_)
  refine W.eq (g2 := F0 m 554 ls [.int ((cy_oGate σ (xs (4 * k + 1)) (xs (4 * k + 2))).1), .int ((cy_oGate σ (xs (4 * k + 1)) (xs (4 * k + 2))).1)]) rfl ?_
  refine lv_icmp_eq (tgt := 731) hx hb dL_law_554 (by decide) (fun h1 => ?_) (fun h1 => absurd (rfl) h1)
  refine W.widen (k := 19 + 2 * (k + 1)) (n := 1460 + 9 * (k + 1)) (by omega) (by omega) ?_
  exact kk n (cy_oGate σ (xs (4 * k + 1)) (xs (4 * k + 2))).2 pl hi ad _ _ ls ⟨cy_v_gate hinv (xs (4 * k + 1)) (xs (4 * k + 2)), hI, hS, hl⟩

set_option maxHeartbeats 4000000 in
set_option maxRecDepth 100000 in
theorem lc_pass {p : Program} {l : Launch} {e : Env} {s : State} {m : MethodId} {below : List Frame} {meth : Method} {c : Code} {b L : Nat} {xs : Nat → Int32} {D : va_G} {cI cJ cO : ClassId} (hL : L ≤ 2048) (C0 : lw_At p s m meth c b L xs) (hK : cy_K D cI cJ cO s) {k n : Nat} {σ : cy_S} {pl : Nat → Int32} {hi : Int32} {ad : Nat → Nat} {H : Heap} {locs : List Loc} {ls : Array Slot} (hk : 4 * k + 4 ≤ L) (hst : lw_St D cI cJ cO s b k n σ pl hi ad H locs ls) (kk : ∀ (n : Nat) (σ : cy_S) (pl : Nat → Int32) (hi : Int32) (ad : Nat → Nat) (H : Heap) (locs : List Loc) (ls : Array Slot), lw_St D cI cJ cO s b k n σ pl hi ad H locs ls → W p l e room_1 s m #[Value.ref b] below meth c H locs (19 + 2 * (k + 1)) (1460 + 9 * (k + 1)) (lw_Z below #[Value.ref b] s) (F0 m 731 ls [])) : W p l e room_1 s m #[Value.ref b] below meth c H locs (19 + 2 * k) (1460 + 9 * k) (lw_Z below #[Value.ref b] s) (F0 m 559 ls []) := by
  obtain ⟨hx, hb, hr, hml, hown, hts0, hX, hbl, hlocks, hgv⟩ := C0
  have hown : s.vm.findClass RL = some m.cls := hown
  have hts : ∀ w ∈ wsL_law, w.before #[Value.ref b] s = true := fun w h => hts0 w (wsL_law_in w h)
  have hbA : ¬ s.heap.size ≤ b := Nat.not_le.mpr hbl
  obtain ⟨hinv, hI, hS, hl⟩ := hst
  refine lv_aload_n hx hb dL_law_559 rfl (lv_at hl 2 rfl) ?_
  refine lv_aload_n hx hb dL_law_560 rfl (lv_at hl 1 rfl) ?_
  refine lv_iload_n hx hb dL_law_561 rfl (lv_at hl 0 rfl) ?_
  refine lv_iconst (v := 1) hx hb dL_law_562 (by decide) ?_
  refine lv_iadd hx hb dL_law_563 ?_
  refine cy_topi (y := nI (4 * k + 1)) (nI_1 (4 * k)) ?_
  refine cy_sld (k := 4 * k + 1) hx hb hX hbl hbA hS (by omega) (by omega) dL_law_564 ?_
  refine lv_aload_n hx hb dL_law_565 rfl (lv_at hl 1 rfl) ?_
  refine lv_iload_n hx hb dL_law_566 rfl (lv_at hl 0 rfl) ?_
  refine lv_iconst (v := 2) hx hb dL_law_567 (by decide) ?_
  refine lv_iadd hx hb dL_law_568 ?_
  refine cy_topi (y := nI (4 * k + 2)) (nI_add (4 * k) 2) ?_
  refine cy_sld (k := 4 * k + 2) hx hb hX hbl hbA hS (by omega) (by omega) dL_law_569 ?_
  refine cy_callm (va_runV (As := [.int (xs (4 * k + 1)), .int (xs (4 * k + 2))]) (rest := []) ⟨hx, hb, hml, hown, hts⟩ (c_X4_pass l D cI cJ cO s.heap.size n σ σ pl hi ad hinv.1 (xs (4 * k + 1)) (xs (4 * k + 2))) (cwV 2 hts gL_law_X4_pass rfl rfl rfl (by decide +kernel) ⟨Nat.le_of_ble_eq_true rfl, Nat.le_of_ble_eq_true rfl⟩) (cy_preV hK hI (cy_recv hK (hI.1 0 _ cy_CY).1 rfl)) rfl rfl hl.1 rfl (lv_room (Nat.le_of_ble_eq_true rfl)) dL_law_570 ⟨by show 19 + 2 * k + 0 ≤ 600000; omega, by show 1460 + 9 * k + 0 ≤ 7302250; omega⟩) hS (fun u H locs hI hz hS => ?_)
  refine W.eq (g2 := F0 m 573 ls [.int ((cy_oPass n σ (xs (4 * k + 1)) (xs (4 * k + 2))).1)]) rfl ?_
  refine lv_aload_n hx hb dL_law_573 rfl (lv_at hl 3 rfl) ?_
  refine lv_aload_n hx hb dL_law_574 rfl (lv_at hl 1 rfl) ?_
  refine lv_iload_n hx hb dL_law_575 rfl (lv_at hl 0 rfl) ?_
  refine lv_iconst (v := 1) hx hb dL_law_576 (by decide) ?_
  refine lv_iadd hx hb dL_law_577 ?_
  refine cy_topi (y := nI (4 * k + 1)) (nI_1 (4 * k)) ?_
  refine cy_sld (k := 4 * k + 1) hx hb hX hbl hbA hS (by omega) (by omega) dL_law_578 ?_
  refine lv_aload_n hx hb dL_law_579 rfl (lv_at hl 1 rfl) ?_
  refine lv_iload_n hx hb dL_law_580 rfl (lv_at hl 0 rfl) ?_
  refine lv_iconst (v := 2) hx hb dL_law_581 (by decide) ?_
  refine lv_iadd hx hb dL_law_582 ?_
  refine cy_topi (y := nI (4 * k + 2)) (nI_add (4 * k) 2) ?_
  refine cy_sld (k := 4 * k + 2) hx hb hX hbl hbA hS (by omega) (by omega) dL_law_583 ?_
  refine cy_callm (va_runV (As := [.int (xs (4 * k + 1)), .int (xs (4 * k + 2))]) (rest := [.int ((cy_oPass n σ (xs (4 * k + 1)) (xs (4 * k + 2))).1)]) ⟨hx, hb, hml, hown, hts⟩ (c_X5_pass l D cI cJ cO s.heap.size n n (cy_oPass n σ (xs (4 * k + 1)) (xs (4 * k + 2))).2 σ pl hi ad n hinv.1 (xs (4 * k + 1)) (xs (4 * k + 2))) (cwV 2 hts gL_law_X5_pass rfl rfl rfl (by decide +kernel) ⟨Nat.le_of_ble_eq_true rfl, Nat.le_of_ble_eq_true rfl⟩) (cy_preV hK hI (cy_recv hK (hI.1 20 _ cy_CR).1 rfl)) rfl rfl hl.1 rfl (lv_room (Nat.le_of_ble_eq_true rfl)) dL_law_584 ⟨by show 19 + 2 * k + 0 + 0 ≤ 600000; omega, by show 1460 + 9 * k + 0 + 0 ≤ 7302250; omega⟩) hS (fun u2 H locs hI hz hS => ?_)
  refine W.eq (g2 := F0 m 587 ls [.int ((cy_oPass n σ (xs (4 * k + 1)) (xs (4 * k + 2))).1), .int ((cy_oPass n σ (xs (4 * k + 1)) (xs (4 * k + 2))).1)]) rfl ?_
  refine lv_icmp_eq (tgt := 731) hx hb dL_law_587 (by decide) (fun h1 => ?_) (fun h1 => absurd (rfl) h1)
  refine W.widen (k := 19 + 2 * (k + 1)) (n := 1460 + 9 * (k + 1)) (by omega) (by omega) ?_
  exact kk n (cy_oPass n σ (xs (4 * k + 1)) (xs (4 * k + 2))).2 u2.1 u2.2 ad _ _ ls ⟨cy_v_pass hinv (xs (4 * k + 1)) (xs (4 * k + 2)), hI, hS, hl⟩

set_option maxHeartbeats 4000000 in
set_option maxRecDepth 100000 in
theorem lc_passed {p : Program} {l : Launch} {e : Env} {s : State} {m : MethodId} {below : List Frame} {meth : Method} {c : Code} {b L : Nat} {xs : Nat → Int32} {D : va_G} {cI cJ cO : ClassId} (hL : L ≤ 2048) (C0 : lw_At p s m meth c b L xs) (hK : cy_K D cI cJ cO s) {k n : Nat} {σ : cy_S} {pl : Nat → Int32} {hi : Int32} {ad : Nat → Nat} {H : Heap} {locs : List Loc} {ls : Array Slot} (hk : 4 * k + 4 ≤ L) (hst : lw_St D cI cJ cO s b k n σ pl hi ad H locs ls) (kk : ∀ (n : Nat) (σ : cy_S) (pl : Nat → Int32) (hi : Int32) (ad : Nat → Nat) (H : Heap) (locs : List Loc) (ls : Array Slot), lw_St D cI cJ cO s b k n σ pl hi ad H locs ls → W p l e room_1 s m #[Value.ref b] below meth c H locs (19 + 2 * (k + 1)) (1460 + 9 * (k + 1)) (lw_Z below #[Value.ref b] s) (F0 m 731 ls [])) : W p l e room_1 s m #[Value.ref b] below meth c H locs (19 + 2 * k) (1460 + 9 * k) (lw_Z below #[Value.ref b] s) (F0 m 592 ls []) := by
  obtain ⟨hx, hb, hr, hml, hown, hts0, hX, hbl, hlocks, hgv⟩ := C0
  have hown : s.vm.findClass RL = some m.cls := hown
  have hts : ∀ w ∈ wsL_law, w.before #[Value.ref b] s = true := fun w h => hts0 w (wsL_law_in w h)
  have hbA : ¬ s.heap.size ≤ b := Nat.not_le.mpr hbl
  obtain ⟨hinv, hI, hS, hl⟩ := hst
  refine lv_aload_n hx hb dL_law_592 rfl (lv_at hl 2 rfl) ?_
  refine lv_aload_n hx hb dL_law_593 rfl (lv_at hl 1 rfl) ?_
  refine lv_iload_n hx hb dL_law_594 rfl (lv_at hl 0 rfl) ?_
  refine lv_iconst (v := 1) hx hb dL_law_595 (by decide) ?_
  refine lv_iadd hx hb dL_law_596 ?_
  refine cy_topi (y := nI (4 * k + 1)) (nI_1 (4 * k)) ?_
  refine cy_sld (k := 4 * k + 1) hx hb hX hbl hbA hS (by omega) (by omega) dL_law_597 ?_
  refine cy_callm (va_runV (As := [.int (xs (4 * k + 1))]) (rest := []) ⟨hx, hb, hml, hown, hts⟩ (c_X4_passed l D cI cJ cO s.heap.size n σ σ pl hi ad hinv.1 (xs (4 * k + 1))) (cwV 1 hts gL_law_X4_passed rfl rfl rfl (by decide +kernel) ⟨Nat.le_of_ble_eq_true rfl, Nat.le_of_ble_eq_true rfl⟩) (cy_preV hK hI (cy_recv hK (hI.1 0 _ cy_CY).1 rfl)) rfl rfl hl.1 rfl (lv_room (Nat.le_of_ble_eq_true rfl)) dL_law_598 ⟨by show 19 + 2 * k + 0 ≤ 600000; omega, by show 1460 + 9 * k + 0 ≤ 7302250; omega⟩) hS (fun u H locs hI hz hS => ?_)
  refine W.eq (g2 := F0 m 601 ls [.long ((cy_oPassed σ (xs (4 * k + 1))).1)]) rfl ?_
  refine lv_aload_n hx hb dL_law_601 rfl (lv_at hl 3 rfl) ?_
  refine lv_aload_n hx hb dL_law_602 rfl (lv_at hl 1 rfl) ?_
  refine lv_iload_n hx hb dL_law_603 rfl (lv_at hl 0 rfl) ?_
  refine lv_iconst (v := 1) hx hb dL_law_604 (by decide) ?_
  refine lv_iadd hx hb dL_law_605 ?_
  refine cy_topi (y := nI (4 * k + 1)) (nI_1 (4 * k)) ?_
  refine cy_sld (k := 4 * k + 1) hx hb hX hbl hbA hS (by omega) (by omega) dL_law_606 ?_
  refine cy_callm (va_runV (As := [.int (xs (4 * k + 1))]) (rest := [.long ((cy_oPassed σ (xs (4 * k + 1))).1)]) ⟨hx, hb, hml, hown, hts⟩ (c_X5_passed l D cI cJ cO s.heap.size n n (cy_oPassed σ (xs (4 * k + 1))).2 σ pl hi ad n hinv.1 (xs (4 * k + 1))) (cwV 1 hts gL_law_X5_passed rfl rfl rfl (by decide +kernel) ⟨Nat.le_of_ble_eq_true rfl, Nat.le_of_ble_eq_true rfl⟩) (cy_preV hK hI (cy_recv hK (hI.1 20 _ cy_CR).1 rfl)) rfl rfl hl.1 rfl (lv_room (Nat.le_of_ble_eq_true rfl)) dL_law_607 ⟨by show 19 + 2 * k + 0 + 0 ≤ 600000; omega, by show 1460 + 9 * k + 0 + 0 ≤ 7302250; omega⟩) hS (fun u H locs hI hz hS => ?_)
  refine W.eq (g2 := F0 m 610 ls [.long ((cy_oPassed σ (xs (4 * k + 1))).1), .long ((cy_oPassed σ (xs (4 * k + 1))).1)]) rfl ?_
  refine W.lcmp hx hb dL_law_610 ?_
  refine cy_topi (y := 0) (cy_lg0 _) ?_
  refine lv_if_eq (tgt := 731) hx hb dL_law_611 (by decide) (fun h1 => ?_) (fun h1 => absurd (by decide) h1)
  refine W.widen (k := 19 + 2 * (k + 1)) (n := 1460 + 9 * (k + 1)) (by omega) (by omega) ?_
  exact kk n (cy_oPassed σ (xs (4 * k + 1))).2 pl hi ad _ _ ls ⟨cy_v_passed hinv (xs (4 * k + 1)), hI, hS, hl⟩

set_option maxHeartbeats 4000000 in
set_option maxRecDepth 100000 in
theorem lc_tariff {p : Program} {l : Launch} {e : Env} {s : State} {m : MethodId} {below : List Frame} {meth : Method} {c : Code} {b L : Nat} {xs : Nat → Int32} {D : va_G} {cI cJ cO : ClassId} (hL : L ≤ 2048) (C0 : lw_At p s m meth c b L xs) (hK : cy_K D cI cJ cO s) {k n : Nat} {σ : cy_S} {pl : Nat → Int32} {hi : Int32} {ad : Nat → Nat} {H : Heap} {locs : List Loc} {ls : Array Slot} (hk : 4 * k + 4 ≤ L) (hst : lw_St D cI cJ cO s b k n σ pl hi ad H locs ls) (kk : ∀ (n : Nat) (σ : cy_S) (pl : Nat → Int32) (hi : Int32) (ad : Nat → Nat) (H : Heap) (locs : List Loc) (ls : Array Slot), lw_St D cI cJ cO s b k n σ pl hi ad H locs ls → W p l e room_1 s m #[Value.ref b] below meth c H locs (19 + 2 * (k + 1)) (1460 + 9 * (k + 1)) (lw_Z below #[Value.ref b] s) (F0 m 731 ls [])) : W p l e room_1 s m #[Value.ref b] below meth c H locs (19 + 2 * k) (1460 + 9 * k) (lw_Z below #[Value.ref b] s) (F0 m 616 ls []) := by
  obtain ⟨hx, hb, hr, hml, hown, hts0, hX, hbl, hlocks, hgv⟩ := C0
  have hown : s.vm.findClass RL = some m.cls := hown
  have hts : ∀ w ∈ wsL_law, w.before #[Value.ref b] s = true := fun w h => hts0 w (wsL_law_in w h)
  have hbA : ¬ s.heap.size ≤ b := Nat.not_le.mpr hbl
  obtain ⟨hinv, hI, hS, hl⟩ := hst
  refine lv_aload_n hx hb dL_law_616 rfl (lv_at hl 2 rfl) ?_
  refine lv_aload_n hx hb dL_law_617 rfl (lv_at hl 1 rfl) ?_
  refine lv_iload_n hx hb dL_law_618 rfl (lv_at hl 0 rfl) ?_
  refine lv_iconst (v := 1) hx hb dL_law_619 (by decide) ?_
  refine lv_iadd hx hb dL_law_620 ?_
  refine cy_topi (y := nI (4 * k + 1)) (nI_1 (4 * k)) ?_
  refine cy_sld (k := 4 * k + 1) hx hb hX hbl hbA hS (by omega) (by omega) dL_law_621 ?_
  refine lv_aload_n hx hb dL_law_622 rfl (lv_at hl 1 rfl) ?_
  refine lv_iload_n hx hb dL_law_623 rfl (lv_at hl 0 rfl) ?_
  refine lv_iconst (v := 2) hx hb dL_law_624 (by decide) ?_
  refine lv_iadd hx hb dL_law_625 ?_
  refine cy_topi (y := nI (4 * k + 2)) (nI_add (4 * k) 2) ?_
  refine cy_sld (k := 4 * k + 2) hx hb hX hbl hbA hS (by omega) (by omega) dL_law_626 ?_
  refine cy_callm (va_runV (As := [.int (xs (4 * k + 1)), .int (xs (4 * k + 2))]) (rest := []) ⟨hx, hb, hml, hown, hts⟩ (c_X4_tariff l D cI cJ cO s.heap.size n σ σ pl hi ad hinv.1 (xs (4 * k + 1)) (xs (4 * k + 2))) (cwV 2 hts gL_law_X4_tariff rfl rfl rfl (by decide +kernel) ⟨Nat.le_of_ble_eq_true rfl, Nat.le_of_ble_eq_true rfl⟩) (cy_preV hK hI (cy_recv hK (hI.1 0 _ cy_CY).1 rfl)) rfl rfl hl.1 rfl (lv_room (Nat.le_of_ble_eq_true rfl)) dL_law_627 ⟨by show 19 + 2 * k + 0 ≤ 600000; omega, by show 1460 + 9 * k + 0 ≤ 7302250; omega⟩) hS (fun u H locs hI hz hS => ?_)
  refine W.eq (g2 := F0 m 630 ls [.int ((cy_oTariff σ (xs (4 * k + 1)) (xs (4 * k + 2))).1)]) rfl ?_
  refine lv_aload_n hx hb dL_law_630 rfl (lv_at hl 3 rfl) ?_
  refine lv_aload_n hx hb dL_law_631 rfl (lv_at hl 1 rfl) ?_
  refine lv_iload_n hx hb dL_law_632 rfl (lv_at hl 0 rfl) ?_
  refine lv_iconst (v := 1) hx hb dL_law_633 (by decide) ?_
  refine lv_iadd hx hb dL_law_634 ?_
  refine cy_topi (y := nI (4 * k + 1)) (nI_1 (4 * k)) ?_
  refine cy_sld (k := 4 * k + 1) hx hb hX hbl hbA hS (by omega) (by omega) dL_law_635 ?_
  refine lv_aload_n hx hb dL_law_636 rfl (lv_at hl 1 rfl) ?_
  refine lv_iload_n hx hb dL_law_637 rfl (lv_at hl 0 rfl) ?_
  refine lv_iconst (v := 2) hx hb dL_law_638 (by decide) ?_
  refine lv_iadd hx hb dL_law_639 ?_
  refine cy_topi (y := nI (4 * k + 2)) (nI_add (4 * k) 2) ?_
  refine cy_sld (k := 4 * k + 2) hx hb hX hbl hbA hS (by omega) (by omega) dL_law_640 ?_
  refine cy_callm (va_runV (As := [.int (xs (4 * k + 1)), .int (xs (4 * k + 2))]) (rest := [.int ((cy_oTariff σ (xs (4 * k + 1)) (xs (4 * k + 2))).1)]) ⟨hx, hb, hml, hown, hts⟩ (c_X5_tariff l D cI cJ cO s.heap.size n n (cy_oTariff σ (xs (4 * k + 1)) (xs (4 * k + 2))).2 σ pl hi ad n hinv.1 (xs (4 * k + 1)) (xs (4 * k + 2))) (cwV 2 hts gL_law_X5_tariff rfl rfl rfl (by decide +kernel) ⟨Nat.le_of_ble_eq_true rfl, Nat.le_of_ble_eq_true rfl⟩) (cy_preV hK hI (cy_recv hK (hI.1 20 _ cy_CR).1 rfl)) rfl rfl hl.1 rfl (lv_room (Nat.le_of_ble_eq_true rfl)) dL_law_641 ⟨by show 19 + 2 * k + 0 + 0 ≤ 600000; omega, by show 1460 + 9 * k + 0 + 0 ≤ 7302250; omega⟩) hS (fun u H locs hI hz hS => ?_)
  refine W.eq (g2 := F0 m 644 ls [.int ((cy_oTariff σ (xs (4 * k + 1)) (xs (4 * k + 2))).1), .int ((cy_oTariff σ (xs (4 * k + 1)) (xs (4 * k + 2))).1)]) rfl ?_
  refine lv_icmp_eq (tgt := 731) hx hb dL_law_644 (by decide) (fun h1 => ?_) (fun h1 => absurd (rfl) h1)
  refine W.widen (k := 19 + 2 * (k + 1)) (n := 1460 + 9 * (k + 1)) (by omega) (by omega) ?_
  exact kk n (cy_oTariff σ (xs (4 * k + 1)) (xs (4 * k + 2))).2 pl hi ad _ _ ls ⟨cy_v_tariff hinv (xs (4 * k + 1)) (xs (4 * k + 2)), hI, hS, hl⟩

set_option maxHeartbeats 4000000 in
set_option maxRecDepth 100000 in
theorem lc_duty {p : Program} {l : Launch} {e : Env} {s : State} {m : MethodId} {below : List Frame} {meth : Method} {c : Code} {b L : Nat} {xs : Nat → Int32} {D : va_G} {cI cJ cO : ClassId} (hL : L ≤ 2048) (C0 : lw_At p s m meth c b L xs) (hK : cy_K D cI cJ cO s) {k n : Nat} {σ : cy_S} {pl : Nat → Int32} {hi : Int32} {ad : Nat → Nat} {H : Heap} {locs : List Loc} {ls : Array Slot} (hk : 4 * k + 4 ≤ L) (hst : lw_St D cI cJ cO s b k n σ pl hi ad H locs ls) (kk : ∀ (n : Nat) (σ : cy_S) (pl : Nat → Int32) (hi : Int32) (ad : Nat → Nat) (H : Heap) (locs : List Loc) (ls : Array Slot), lw_St D cI cJ cO s b k n σ pl hi ad H locs ls → W p l e room_1 s m #[Value.ref b] below meth c H locs (19 + 2 * (k + 1)) (1460 + 9 * (k + 1)) (lw_Z below #[Value.ref b] s) (F0 m 731 ls [])) : W p l e room_1 s m #[Value.ref b] below meth c H locs (19 + 2 * k) (1460 + 9 * k) (lw_Z below #[Value.ref b] s) (F0 m 649 ls []) := by
  obtain ⟨hx, hb, hr, hml, hown, hts0, hX, hbl, hlocks, hgv⟩ := C0
  have hown : s.vm.findClass RL = some m.cls := hown
  have hts : ∀ w ∈ wsL_law, w.before #[Value.ref b] s = true := fun w h => hts0 w (wsL_law_in w h)
  have hbA : ¬ s.heap.size ≤ b := Nat.not_le.mpr hbl
  obtain ⟨hinv, hI, hS, hl⟩ := hst
  refine lv_aload_n hx hb dL_law_649 rfl (lv_at hl 2 rfl) ?_
  refine lv_aload_n hx hb dL_law_650 rfl (lv_at hl 1 rfl) ?_
  refine lv_iload_n hx hb dL_law_651 rfl (lv_at hl 0 rfl) ?_
  refine lv_iconst (v := 1) hx hb dL_law_652 (by decide) ?_
  refine lv_iadd hx hb dL_law_653 ?_
  refine cy_topi (y := nI (4 * k + 1)) (nI_1 (4 * k)) ?_
  refine cy_sld (k := 4 * k + 1) hx hb hX hbl hbA hS (by omega) (by omega) dL_law_654 ?_
  refine cy_callm (va_runV (As := [.int (xs (4 * k + 1))]) (rest := []) ⟨hx, hb, hml, hown, hts⟩ (c_X4_duty l D cI cJ cO s.heap.size n σ σ pl hi ad hinv.1 (xs (4 * k + 1))) (cwV 1 hts gL_law_X4_duty rfl rfl rfl (by decide +kernel) ⟨Nat.le_of_ble_eq_true rfl, Nat.le_of_ble_eq_true rfl⟩) (cy_preV hK hI (cy_recv hK (hI.1 0 _ cy_CY).1 rfl)) rfl rfl hl.1 rfl (lv_room (Nat.le_of_ble_eq_true rfl)) dL_law_655 ⟨by show 19 + 2 * k + 0 ≤ 600000; omega, by show 1460 + 9 * k + 0 ≤ 7302250; omega⟩) hS (fun u H locs hI hz hS => ?_)
  refine W.eq (g2 := F0 m 658 ls [.int ((cy_oDuty n σ (xs (4 * k + 1))).1)]) rfl ?_
  refine lv_aload_n hx hb dL_law_658 rfl (lv_at hl 3 rfl) ?_
  refine lv_aload_n hx hb dL_law_659 rfl (lv_at hl 1 rfl) ?_
  refine lv_iload_n hx hb dL_law_660 rfl (lv_at hl 0 rfl) ?_
  refine lv_iconst (v := 1) hx hb dL_law_661 (by decide) ?_
  refine lv_iadd hx hb dL_law_662 ?_
  refine cy_topi (y := nI (4 * k + 1)) (nI_1 (4 * k)) ?_
  refine cy_sld (k := 4 * k + 1) hx hb hX hbl hbA hS (by omega) (by omega) dL_law_663 ?_
  refine cy_callm (va_runV (As := [.int (xs (4 * k + 1))]) (rest := [.int ((cy_oDuty n σ (xs (4 * k + 1))).1)]) ⟨hx, hb, hml, hown, hts⟩ (c_X5_duty l D cI cJ cO s.heap.size n n (cy_oDuty n σ (xs (4 * k + 1))).2 σ pl hi ad n hinv.1 (xs (4 * k + 1))) (cwV 1 hts gL_law_X5_duty rfl rfl rfl (by decide +kernel) ⟨Nat.le_of_ble_eq_true rfl, Nat.le_of_ble_eq_true rfl⟩) (cy_preV hK hI (cy_recv hK (hI.1 20 _ cy_CR).1 rfl)) rfl rfl hl.1 rfl (lv_room (Nat.le_of_ble_eq_true rfl)) dL_law_664 ⟨by show 19 + 2 * k + 0 + 0 ≤ 600000; omega, by show 1460 + 9 * k + 0 + 0 ≤ 7302250; omega⟩) hS (fun u H locs hI hz hS => ?_)
  refine W.eq (g2 := F0 m 667 ls [.int ((cy_oDuty n σ (xs (4 * k + 1))).1), .int ((cy_oDuty n σ (xs (4 * k + 1))).1)]) rfl ?_
  refine lv_icmp_eq (tgt := 731) hx hb dL_law_667 (by decide) (fun h1 => ?_) (fun h1 => absurd (rfl) h1)
  refine W.widen (k := 19 + 2 * (k + 1)) (n := 1460 + 9 * (k + 1)) (by omega) (by omega) ?_
  exact kk n (cy_oDuty n σ (xs (4 * k + 1))).2 pl hi ad _ _ ls ⟨cy_v_duty hinv (xs (4 * k + 1)), hI, hS, hl⟩

set_option maxHeartbeats 4000000 in
set_option maxRecDepth 100000 in
theorem lc_line {p : Program} {l : Launch} {e : Env} {s : State} {m : MethodId} {below : List Frame} {meth : Method} {c : Code} {b L : Nat} {xs : Nat → Int32} {D : va_G} {cI cJ cO : ClassId} (hL : L ≤ 2048) (C0 : lw_At p s m meth c b L xs) (hK : cy_K D cI cJ cO s) {k n : Nat} {σ : cy_S} {pl : Nat → Int32} {hi : Int32} {ad : Nat → Nat} {H : Heap} {locs : List Loc} {ls : Array Slot} (hk : 4 * k + 4 ≤ L) (hst : lw_St D cI cJ cO s b k n σ pl hi ad H locs ls) (kk : ∀ (n : Nat) (σ : cy_S) (pl : Nat → Int32) (hi : Int32) (ad : Nat → Nat) (H : Heap) (locs : List Loc) (ls : Array Slot), lw_St D cI cJ cO s b k n σ pl hi ad H locs ls → W p l e room_1 s m #[Value.ref b] below meth c H locs (19 + 2 * (k + 1)) (1460 + 9 * (k + 1)) (lw_Z below #[Value.ref b] s) (F0 m 731 ls [])) : W p l e room_1 s m #[Value.ref b] below meth c H locs (19 + 2 * k) (1460 + 9 * k) (lw_Z below #[Value.ref b] s) (F0 m 672 ls []) := by
  obtain ⟨hx, hb, hr, hml, hown, hts0, hX, hbl, hlocks, hgv⟩ := C0
  have hown : s.vm.findClass RL = some m.cls := hown
  have hts : ∀ w ∈ wsL_law, w.before #[Value.ref b] s = true := fun w h => hts0 w (wsL_law_in w h)
  have hbA : ¬ s.heap.size ≤ b := Nat.not_le.mpr hbl
  obtain ⟨hinv, hI, hS, hl⟩ := hst
  refine lv_aload_n hx hb dL_law_672 rfl (lv_at hl 2 rfl) ?_
  refine lv_aload_n hx hb dL_law_673 rfl (lv_at hl 1 rfl) ?_
  refine lv_iload_n hx hb dL_law_674 rfl (lv_at hl 0 rfl) ?_
  refine lv_iconst (v := 1) hx hb dL_law_675 (by decide) ?_
  refine lv_iadd hx hb dL_law_676 ?_
  refine cy_topi (y := nI (4 * k + 1)) (nI_1 (4 * k)) ?_
  refine cy_sld (k := 4 * k + 1) hx hb hX hbl hbA hS (by omega) (by omega) dL_law_677 ?_
  refine cy_callm (va_runV (As := [.int (xs (4 * k + 1))]) (rest := []) ⟨hx, hb, hml, hown, hts⟩ (c_X4_line l D cI cJ cO s.heap.size n σ σ pl hi ad hinv.1 (xs (4 * k + 1))) (cwV 1 hts gL_law_X4_line rfl rfl rfl (by decide +kernel) ⟨Nat.le_of_ble_eq_true rfl, Nat.le_of_ble_eq_true rfl⟩) (cy_preV hK hI (cy_recv hK (hI.1 0 _ cy_CY).1 rfl)) rfl rfl hl.1 rfl (lv_room (Nat.le_of_ble_eq_true rfl)) dL_law_678 ⟨by show 19 + 2 * k + 0 ≤ 600000; omega, by show 1460 + 9 * k + 0 ≤ 7302250; omega⟩) hS (fun u H locs hI hz hS => ?_)
  refine W.eq (g2 := F0 m 681 ls [.int ((cy_oLine n σ (xs (4 * k + 1))).1)]) rfl ?_
  refine lv_aload_n hx hb dL_law_681 rfl (lv_at hl 3 rfl) ?_
  refine lv_aload_n hx hb dL_law_682 rfl (lv_at hl 1 rfl) ?_
  refine lv_iload_n hx hb dL_law_683 rfl (lv_at hl 0 rfl) ?_
  refine lv_iconst (v := 1) hx hb dL_law_684 (by decide) ?_
  refine lv_iadd hx hb dL_law_685 ?_
  refine cy_topi (y := nI (4 * k + 1)) (nI_1 (4 * k)) ?_
  refine cy_sld (k := 4 * k + 1) hx hb hX hbl hbA hS (by omega) (by omega) dL_law_686 ?_
  refine cy_callm (va_runV (As := [.int (xs (4 * k + 1))]) (rest := [.int ((cy_oLine n σ (xs (4 * k + 1))).1)]) ⟨hx, hb, hml, hown, hts⟩ (c_X5_line l D cI cJ cO s.heap.size n n (cy_oLine n σ (xs (4 * k + 1))).2 σ pl hi ad n hinv.1 (xs (4 * k + 1))) (cwV 1 hts gL_law_X5_line rfl rfl rfl (by decide +kernel) ⟨Nat.le_of_ble_eq_true rfl, Nat.le_of_ble_eq_true rfl⟩) (cy_preV hK hI (cy_recv hK (hI.1 20 _ cy_CR).1 rfl)) rfl rfl hl.1 rfl (lv_room (Nat.le_of_ble_eq_true rfl)) dL_law_687 ⟨by show 19 + 2 * k + 0 + 0 ≤ 600000; omega, by show 1460 + 9 * k + 0 + 0 ≤ 7302250; omega⟩) hS (fun u H locs hI hz hS => ?_)
  refine W.eq (g2 := F0 m 690 ls [.int ((cy_oLine n σ (xs (4 * k + 1))).1), .int ((cy_oLine n σ (xs (4 * k + 1))).1)]) rfl ?_
  refine lv_icmp_eq (tgt := 731) hx hb dL_law_690 (by decide) (fun h1 => ?_) (fun h1 => absurd (rfl) h1)
  refine W.widen (k := 19 + 2 * (k + 1)) (n := 1460 + 9 * (k + 1)) (by omega) (by omega) ?_
  exact kk n (cy_oLine n σ (xs (4 * k + 1))).2 pl hi ad _ _ ls ⟨cy_v_line hinv (xs (4 * k + 1)), hI, hS, hl⟩

set_option maxHeartbeats 4000000 in
set_option maxRecDepth 100000 in
theorem lc_refused {p : Program} {l : Launch} {e : Env} {s : State} {m : MethodId} {below : List Frame} {meth : Method} {c : Code} {b L : Nat} {xs : Nat → Int32} {D : va_G} {cI cJ cO : ClassId} (hL : L ≤ 2048) (C0 : lw_At p s m meth c b L xs) (hK : cy_K D cI cJ cO s) {k n : Nat} {σ : cy_S} {pl : Nat → Int32} {hi : Int32} {ad : Nat → Nat} {H : Heap} {locs : List Loc} {ls : Array Slot} (hk : 4 * k + 4 ≤ L) (hst : lw_St D cI cJ cO s b k n σ pl hi ad H locs ls) (kk : ∀ (n : Nat) (σ : cy_S) (pl : Nat → Int32) (hi : Int32) (ad : Nat → Nat) (H : Heap) (locs : List Loc) (ls : Array Slot), lw_St D cI cJ cO s b k n σ pl hi ad H locs ls → W p l e room_1 s m #[Value.ref b] below meth c H locs (19 + 2 * (k + 1)) (1460 + 9 * (k + 1)) (lw_Z below #[Value.ref b] s) (F0 m 731 ls [])) : W p l e room_1 s m #[Value.ref b] below meth c H locs (19 + 2 * k) (1460 + 9 * k) (lw_Z below #[Value.ref b] s) (F0 m 695 ls []) := by
  obtain ⟨hx, hb, hr, hml, hown, hts0, hX, hbl, hlocks, hgv⟩ := C0
  have hown : s.vm.findClass RL = some m.cls := hown
  have hts : ∀ w ∈ wsL_law, w.before #[Value.ref b] s = true := fun w h => hts0 w (wsL_law_in w h)
  have hbA : ¬ s.heap.size ≤ b := Nat.not_le.mpr hbl
  obtain ⟨hinv, hI, hS, hl⟩ := hst
  refine lv_aload_n hx hb dL_law_695 rfl (lv_at hl 2 rfl) ?_
  refine cy_callp (v := .int (σ.1 0 2)) (va_runV (As := []) (rest := []) ⟨hx, hb, hml, hown, hts⟩ (c_X4_refused l D cI cJ cO s.heap.size n σ σ pl hi ad ) (cwV 0 hts gL_law_X4_refused rfl rfl rfl (by decide +kernel) ⟨Nat.le_of_ble_eq_true rfl, Nat.le_of_ble_eq_true rfl⟩) (cy_preV hK hI (cy_recv hK (hI.1 0 _ cy_CY).1 rfl)) rfl rfl hl.1 rfl (lv_room (Nat.le_of_ble_eq_true rfl)) dL_law_696 ⟨by show 19 + 2 * k + 0 ≤ 600000; omega, by show 1460 + 9 * k + 0 ≤ 7302250; omega⟩) ?_
  refine lv_aload_n hx hb dL_law_699 rfl (lv_at hl 3 rfl) ?_
  refine cy_callp (v := .int (σ.1 0 2)) (va_runV (As := []) (rest := [.int (σ.1 0 2)]) ⟨hx, hb, hml, hown, hts⟩ (c_X5_refused l D cI cJ cO s.heap.size n n σ σ pl hi ad ) (cwV 0 hts gL_law_X5_refused rfl rfl rfl (by decide +kernel) ⟨Nat.le_of_ble_eq_true rfl, Nat.le_of_ble_eq_true rfl⟩) (cy_preV hK hI (cy_recv hK (hI.1 20 _ cy_CR).1 rfl)) rfl rfl hl.1 rfl (lv_room (Nat.le_of_ble_eq_true rfl)) dL_law_700 ⟨by show 19 + 2 * k + 0 ≤ 600000; omega, by show 1460 + 9 * k + 0 ≤ 7302250; omega⟩) ?_
  refine lv_icmp_eq (tgt := 731) hx hb dL_law_703 (by decide) (fun h1 => ?_) (fun h1 => absurd (rfl) h1)
  refine W.widen (k := 19 + 2 * (k + 1)) (n := 1460 + 9 * (k + 1)) (by omega) (by omega) ?_
  exact kk n σ pl hi ad _ _ ls ⟨hinv, hI, hS, hl⟩

set_option maxHeartbeats 4000000 in
set_option maxRecDepth 100000 in
theorem lc_count {p : Program} {l : Launch} {e : Env} {s : State} {m : MethodId} {below : List Frame} {meth : Method} {c : Code} {b L : Nat} {xs : Nat → Int32} {D : va_G} {cI cJ cO : ClassId} (hL : L ≤ 2048) (C0 : lw_At p s m meth c b L xs) (hK : cy_K D cI cJ cO s) {k n : Nat} {σ : cy_S} {pl : Nat → Int32} {hi : Int32} {ad : Nat → Nat} {H : Heap} {locs : List Loc} {ls : Array Slot} (hk : 4 * k + 4 ≤ L) (hst : lw_St D cI cJ cO s b k n σ pl hi ad H locs ls) (kk : ∀ (n : Nat) (σ : cy_S) (pl : Nat → Int32) (hi : Int32) (ad : Nat → Nat) (H : Heap) (locs : List Loc) (ls : Array Slot), lw_St D cI cJ cO s b k n σ pl hi ad H locs ls → W p l e room_1 s m #[Value.ref b] below meth c H locs (19 + 2 * (k + 1)) (1460 + 9 * (k + 1)) (lw_Z below #[Value.ref b] s) (F0 m 731 ls [])) : W p l e room_1 s m #[Value.ref b] below meth c H locs (19 + 2 * k) (1460 + 9 * k) (lw_Z below #[Value.ref b] s) (F0 m 708 ls []) := by
  obtain ⟨hx, hb, hr, hml, hown, hts0, hX, hbl, hlocks, hgv⟩ := C0
  have hown : s.vm.findClass RL = some m.cls := hown
  have hts : ∀ w ∈ wsL_law, w.before #[Value.ref b] s = true := fun w h => hts0 w (wsL_law_in w h)
  have hbA : ¬ s.heap.size ≤ b := Nat.not_le.mpr hbl
  obtain ⟨hinv, hI, hS, hl⟩ := hst
  refine lv_aload_n hx hb dL_law_708 rfl (lv_at hl 2 rfl) ?_
  refine lv_aload_n hx hb dL_law_709 rfl (lv_at hl 1 rfl) ?_
  refine lv_iload_n hx hb dL_law_710 rfl (lv_at hl 0 rfl) ?_
  refine lv_iconst (v := 1) hx hb dL_law_711 (by decide) ?_
  refine lv_iadd hx hb dL_law_712 ?_
  refine cy_topi (y := nI (4 * k + 1)) (nI_1 (4 * k)) ?_
  refine cy_sld (k := 4 * k + 1) hx hb hX hbl hbA hS (by omega) (by omega) dL_law_713 ?_
  refine cy_callp (v := .int (cy_cn σ (xs (4 * k + 1)))) (va_runV (As := [.int (xs (4 * k + 1))]) (rest := []) ⟨hx, hb, hml, hown, hts⟩ (c_X4_count l D cI cJ cO s.heap.size n σ σ pl hi ad (xs (4 * k + 1))) (cwV 1 hts gL_law_X4_count rfl rfl rfl (by decide +kernel) ⟨Nat.le_of_ble_eq_true rfl, Nat.le_of_ble_eq_true rfl⟩) (cy_preV hK hI (cy_recv hK (hI.1 0 _ cy_CY).1 rfl)) rfl rfl hl.1 rfl (lv_room (Nat.le_of_ble_eq_true rfl)) dL_law_714 ⟨by show 19 + 2 * k + 0 ≤ 600000; omega, by show 1460 + 9 * k + 0 ≤ 7302250; omega⟩) ?_
  refine lv_aload_n hx hb dL_law_717 rfl (lv_at hl 3 rfl) ?_
  refine lv_aload_n hx hb dL_law_718 rfl (lv_at hl 1 rfl) ?_
  refine lv_iload_n hx hb dL_law_719 rfl (lv_at hl 0 rfl) ?_
  refine lv_iconst (v := 1) hx hb dL_law_720 (by decide) ?_
  refine lv_iadd hx hb dL_law_721 ?_
  refine cy_topi (y := nI (4 * k + 1)) (nI_1 (4 * k)) ?_
  refine cy_sld (k := 4 * k + 1) hx hb hX hbl hbA hS (by omega) (by omega) dL_law_722 ?_
  refine cy_callp (v := .int (cy_cn σ (xs (4 * k + 1)))) (va_runV (As := [.int (xs (4 * k + 1))]) (rest := [.int (cy_cn σ (xs (4 * k + 1)))]) ⟨hx, hb, hml, hown, hts⟩ (c_X5_count l D cI cJ cO s.heap.size n n σ σ pl hi ad (xs (4 * k + 1))) (cwV 1 hts gL_law_X5_count rfl rfl rfl (by decide +kernel) ⟨Nat.le_of_ble_eq_true rfl, Nat.le_of_ble_eq_true rfl⟩) (cy_preV hK hI (cy_recv hK (hI.1 20 _ cy_CR).1 rfl)) rfl rfl hl.1 rfl (lv_room (Nat.le_of_ble_eq_true rfl)) dL_law_723 ⟨by show 19 + 2 * k + 0 ≤ 600000; omega, by show 1460 + 9 * k + 0 ≤ 7302250; omega⟩) ?_
  refine lv_icmp_eq (tgt := 731) hx hb dL_law_726 (by decide) (fun h1 => ?_) (fun h1 => absurd (rfl) h1)
  refine W.widen (k := 19 + 2 * (k + 1)) (n := 1460 + 9 * (k + 1)) (by omega) (by omega) ?_
  exact kk n σ pl hi ad _ _ ls ⟨hinv, hI, hS, hl⟩
