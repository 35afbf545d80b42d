theorem cy_topi {p : Program} {l : Launch} {e : Env} {R : Room} {s : State} {m : MethodId} {args : Array Value} {below : List Frame} {meth : Method} {c : Code} {H : Heap} {locs : List Loc} {cells slots : Nat} {Q : State → Prop} {pc : Nat} {ls : Array Slot} {rest : List Value} {x y : Int32} (h : x = y) (k : W p l e R s m args below meth c H locs cells slots Q (F0 m pc ls (.int y :: rest))) : W p l e R s m args below meth c H locs cells slots Q (F0 m pc ls (.int x :: rest)) := h ▸ k
theorem cy_topl {p : Program} {l : Launch} {e : Env} {R : Room} {s : State} {m : MethodId} {args : Array Value} {below : List Frame} {meth : Method} {c : Code} {H : Heap} {locs : List Loc} {cells slots : Nat} {Q : State → Prop} {pc : Nat} {ls : Array Slot} {rest : List Value} {x y : Int64} (h : x = y) (k : W p l e R s m args below meth c H locs cells slots Q (F0 m pc ls (.long y :: rest))) : W p l e R s m args below meth c H locs cells slots Q (F0 m pc ls (.long x :: rest)) := h ▸ k
theorem cy_ix (k i : Nat) : (6 : Int32) * nI k + nI i = nI (6 * k + i) := by rw [show (6 : Int32) = nI 6 from rfl, pk_mul, nI_add]
section CYA
variable {p : Program} {l : Launch} {e : Env} {R : Room} {s : State} {m : MethodId} {args : Array Value} {below : List Frame} {meth : Method} {c : Code} {H : Heap} {locs : List Loc} {cells slots : Nat} {Q : State → Prop}
variable {cc : ByteArray} {pc : Nat} {ls : Array Slot} {rest : List Value} {D : va_G} {z : Nat} {H0 : Heap} {tys : List (ClassId × FieldType)} {C C' : Nat → Option va_E} {ad : Nat → Nat}
theorem cy_iald (hexec : p.tables.exec = Jvm.exec) (hb : c.code = cc) (hK : va_K D vwCl tys s) (hI : cy_W D z C ad H) (t0 : Nat) {x : Nat} {cA : ClassId} {n : Nat} {f : Nat → Int32} (he : C x = some (.inl (cA, n, .inl f))) (ht : tys[t0]? = some (cA, .int)) {k : Nat} (hk : k < n) (hn : n < 2 ^ 31) (hdg : decode cc pc = .ok (.iaload, 1))
    (kk : W p l e R s m args below meth c H locs cells slots Q (F0 m (pc + 1) ls (.int (f k) :: rest))) : W p l e R s m args below meth c H locs cells slots Q (F0 m pc ls (.int (nI k) :: .ref (ad x) :: rest)) := by
  refine va_iald hexec hb hK (hI.one he) 0 t0 rfl ht (vp_in_nI hk hn) hdg ?_
  rw [nI_clamp (by omega)]
  exact kk
theorem cy_lald (hexec : p.tables.exec = Jvm.exec) (hb : c.code = cc) (hK : va_K D vwCl tys s) (hI : cy_W D z C ad H) (t0 : Nat) {x : Nat} {cA : ClassId} {n : Nat} {f : Nat → Int64} (he : C x = some (.inl (cA, n, .inr (.inl f)))) (ht : tys[t0]? = some (cA, .long)) {k : Nat} (hk : k < n) (hn : n < 2 ^ 31) (hdg : decode cc pc = .ok (.laload, 1))
    (kk : W p l e R s m args below meth c H locs cells slots Q (F0 m (pc + 1) ls (.long (f k) :: rest))) : W p l e R s m args below meth c H locs cells slots Q (F0 m pc ls (.int (nI k) :: .ref (ad x) :: rest)) := by
  refine va_lald hexec hb hK (hI.one he) 0 t0 rfl ht (vp_in_nI hk hn) hdg ?_
  rw [nI_clamp (by omega)]
  exact kk
theorem cy_aald (hexec : p.tables.exec = Jvm.exec) (hb : c.code = cc) (hK : va_K D vwCl tys s) (hI : cy_W D z C ad H) (t0 : Nat) {x : Nat} {cA : ClassId} {E : String} {n : Nat} {f : Nat → Option Nat} (he : C x = some (.inl (cA, n, .inr (.inr (.inr (.inr f)))))) (ht : tys[t0]? = some (cA, .object E)) {k : Nat} (hk : k < n) (hn : n < 2 ^ 31) (hdg : decode cc pc = .ok (.aaload, 1))
    (kk : W p l e R s m args below meth c H locs cells slots Q (F0 m (pc + 1) ls (va_rf (f k) :: rest))) : W p l e R s m args below meth c H locs cells slots Q (F0 m pc ls (.int (nI k) :: .ref (ad x) :: rest)) := by
  refine va_aldq hexec hb hK (hI.one he) 0 t0 rfl ht (vp_in_nI hk hn) hdg ?_
  rw [nI_clamp (by omega)]
  exact kk
theorem cy_alen (hexec : p.tables.exec = Jvm.exec) (hb : c.code = cc) (hK : va_K D vwCl tys s) (hI : cy_W D z C ad H) (t0 : Nat) {x : Nat} {cA : ClassId} {y : vp_A} (he : C x = some (.inl (cA, y))) {ty : FieldType} (ht : tys[t0]? = some (cA, ty)) (hdg : decode cc pc = .ok (.arraylength, 1))
    (kk : W p l e R s m args below meth c H locs cells slots Q (F0 m (pc + 1) ls (.int (nI y.1) :: rest))) : W p l e R s m args below meth c H locs cells slots Q (F0 m pc ls (.ref (ad x) :: rest)) := va_alen hexec hb hK (hI.one he) 0 t0 rfl ht rfl hdg kk
end CYA
section CYB
variable {p : Program} {l : Launch} {e : Env} {R : Room} {s : State} {m : MethodId} {args : Array Value} {below : List Frame} {meth : Method} {c : Code} {H : Heap} {locs : List Loc} {cells slots : Nat} {Q : State → Prop}
variable {cc : ByteArray} {pc : Nat} {ls : Array Slot} {rest : List Value} {D : va_G} {z : Nat} {H0 : Heap}
variable {cI cJ cO : ClassId} {n na : Nat} {σ τ : cy_S} {pl : Nat → Int32} {hi : Int32} {ad : Nat → Nat}
theorem cy_stT1 (hexec : p.tables.exec = Jvm.exec) (hb : c.code = cc) (hK : cy_K D cI cJ cO s) (hI : cy_W D z (cy_CT cI cJ cO n na σ τ pl hi ad) ad H) (hS : va_S (fun q => z ≤ q) H0 H locs) {k : Nat} {v : Int32} (hk : k < 80) (hdg : decode cc pc = .ok (.iastore, 1))
    (kk : ∀ (H1 : Heap) (locs1 : List Loc), cy_W D z (cy_CT cI cJ cO n na σ (cy_i τ 1 k v) pl hi ad) ad H1 → va_S (fun q => z ≤ q) H0 H1 locs1 → W p l e R s m args below meth c H1 locs1 cells slots Q (F0 m (pc + 1) ls rest)) : W p l e R s m args below meth c H locs cells slots Q (F0 m pc ls (.int v :: .int (nI k) :: .ref (ad 21) :: rest)) := by
  refine cy_iast hexec hb hK.1 hI hS 0 (x := 21) rfl rfl (vp_in_nI hk (by decide)) hdg ?_ kk
  rw [nI_clamp (by omega)]
  exact cy_hT 1 (by decide) (by show (.inl (_, _, .inl ((cy_i τ 1 k v).1 1)) : va_E) = _; rw [show (cy_i τ 1 k v).1 = cy_u τ.1 1 k v from rfl, cy_u_row]) (cy_lt12 (fun _ => rfl) (fun h => absurd rfl h) (fun _ => rfl) (fun _ => rfl) (fun _ => rfl) (fun _ => rfl) (fun _ => rfl) (fun _ => rfl) (fun _ => rfl) (fun _ => rfl) (fun _ => rfl) (fun _ => rfl))
theorem cy_stT2 (hexec : p.tables.exec = Jvm.exec) (hb : c.code = cc) (hK : cy_K D cI cJ cO s) (hI : cy_W D z (cy_CT cI cJ cO n na σ τ pl hi ad) ad H) (hS : va_S (fun q => z ≤ q) H0 H locs) {k : Nat} {v : Int32} (hk : k < 80) (hdg : decode cc pc = .ok (.iastore, 1))
    (kk : ∀ (H1 : Heap) (locs1 : List Loc), cy_W D z (cy_CT cI cJ cO n na σ (cy_i τ 2 k v) pl hi ad) ad H1 → va_S (fun q => z ≤ q) H0 H1 locs1 → W p l e R s m args below meth c H1 locs1 cells slots Q (F0 m (pc + 1) ls rest)) : W p l e R s m args below meth c H locs cells slots Q (F0 m pc ls (.int v :: .int (nI k) :: .ref (ad 22) :: rest)) := by
  refine cy_iast hexec hb hK.1 hI hS 0 (x := 22) rfl rfl (vp_in_nI hk (by decide)) hdg ?_ kk
  rw [nI_clamp (by omega)]
  exact cy_hT 2 (by decide) (by show (.inl (_, _, .inl ((cy_i τ 2 k v).1 2)) : va_E) = _; rw [show (cy_i τ 2 k v).1 = cy_u τ.1 2 k v from rfl, cy_u_row]) (cy_lt12 (fun _ => rfl) (fun _ => rfl) (fun h => absurd rfl h) (fun _ => rfl) (fun _ => rfl) (fun _ => rfl) (fun _ => rfl) (fun _ => rfl) (fun _ => rfl) (fun _ => rfl) (fun _ => rfl) (fun _ => rfl))
theorem cy_stT3 (hexec : p.tables.exec = Jvm.exec) (hb : c.code = cc) (hK : cy_K D cI cJ cO s) (hI : cy_W D z (cy_CT cI cJ cO n na σ τ pl hi ad) ad H) (hS : va_S (fun q => z ≤ q) H0 H locs) {k : Nat} {v : Int32} (hk : k < 80) (hdg : decode cc pc = .ok (.iastore, 1))
    (kk : ∀ (H1 : Heap) (locs1 : List Loc), cy_W D z (cy_CT cI cJ cO n na σ (cy_i τ 3 k v) pl hi ad) ad H1 → va_S (fun q => z ≤ q) H0 H1 locs1 → W p l e R s m args below meth c H1 locs1 cells slots Q (F0 m (pc + 1) ls rest)) : W p l e R s m args below meth c H locs cells slots Q (F0 m pc ls (.int v :: .int (nI k) :: .ref (ad 23) :: rest)) := by
  refine cy_iast hexec hb hK.1 hI hS 0 (x := 23) rfl rfl (vp_in_nI hk (by decide)) hdg ?_ kk
  rw [nI_clamp (by omega)]
  exact cy_hT 3 (by decide) (by show (.inl (_, _, .inl ((cy_i τ 3 k v).1 3)) : va_E) = _; rw [show (cy_i τ 3 k v).1 = cy_u τ.1 3 k v from rfl, cy_u_row]) (cy_lt12 (fun _ => rfl) (fun _ => rfl) (fun _ => rfl) (fun h => absurd rfl h) (fun _ => rfl) (fun _ => rfl) (fun _ => rfl) (fun _ => rfl) (fun _ => rfl) (fun _ => rfl) (fun _ => rfl) (fun _ => rfl))
theorem cy_stT4 (hexec : p.tables.exec = Jvm.exec) (hb : c.code = cc) (hK : cy_K D cI cJ cO s) (hI : cy_W D z (cy_CT cI cJ cO n na σ τ pl hi ad) ad H) (hS : va_S (fun q => z ≤ q) H0 H locs) {k : Nat} {v : Int64} (hk : k < 480) (hdg : decode cc pc = .ok (.lastore, 1))
    (kk : ∀ (H1 : Heap) (locs1 : List Loc), cy_W D z (cy_CT cI cJ cO n na σ (cy_l τ 0 k v) pl hi ad) ad H1 → va_S (fun q => z ≤ q) H0 H1 locs1 → W p l e R s m args below meth c H1 locs1 cells slots Q (F0 m (pc + 1) ls rest)) : W p l e R s m args below meth c H locs cells slots Q (F0 m pc ls (.long v :: .int (nI k) :: .ref (ad 24) :: rest)) := by
  refine cy_last hexec hb hK.1 hI hS 1 (x := 24) rfl rfl (vp_in_nI hk (by decide)) hdg ?_ kk
  rw [nI_clamp (by omega)]
  exact cy_hT 4 (by decide) (by show (.inl (_, _, .inr (.inl ((cy_l τ 0 k v).2 0))) : va_E) = _; rw [show (cy_l τ 0 k v).2 = cy_u τ.2 0 k v from rfl, cy_u_row]) (cy_lt12 (fun _ => rfl) (fun _ => rfl) (fun _ => rfl) (fun _ => rfl) (fun h => absurd rfl h) (fun _ => rfl) (fun _ => rfl) (fun _ => rfl) (fun _ => rfl) (fun _ => rfl) (fun _ => rfl) (fun _ => rfl))
theorem cy_stT5 (hexec : p.tables.exec = Jvm.exec) (hb : c.code = cc) (hK : cy_K D cI cJ cO s) (hI : cy_W D z (cy_CT cI cJ cO n na σ τ pl hi ad) ad H) (hS : va_S (fun q => z ≤ q) H0 H locs) {k : Nat} {v : Int32} (hk : k < 480) (hdg : decode cc pc = .ok (.iastore, 1))
    (kk : ∀ (H1 : Heap) (locs1 : List Loc), cy_W D z (cy_CT cI cJ cO n na σ (cy_i τ 4 k v) pl hi ad) ad H1 → va_S (fun q => z ≤ q) H0 H1 locs1 → W p l e R s m args below meth c H1 locs1 cells slots Q (F0 m (pc + 1) ls rest)) : W p l e R s m args below meth c H locs cells slots Q (F0 m pc ls (.int v :: .int (nI k) :: .ref (ad 25) :: rest)) := by
  refine cy_iast hexec hb hK.1 hI hS 0 (x := 25) rfl rfl (vp_in_nI hk (by decide)) hdg ?_ kk
  rw [nI_clamp (by omega)]
  exact cy_hT 5 (by decide) (by show (.inl (_, _, .inl ((cy_i τ 4 k v).1 4)) : va_E) = _; rw [show (cy_i τ 4 k v).1 = cy_u τ.1 4 k v from rfl, cy_u_row]) (cy_lt12 (fun _ => rfl) (fun _ => rfl) (fun _ => rfl) (fun _ => rfl) (fun _ => rfl) (fun h => absurd rfl h) (fun _ => rfl) (fun _ => rfl) (fun _ => rfl) (fun _ => rfl) (fun _ => rfl) (fun _ => rfl))
theorem cy_stT6 (hexec : p.tables.exec = Jvm.exec) (hb : c.code = cc) (hK : cy_K D cI cJ cO s) (hI : cy_W D z (cy_CT cI cJ cO n na σ τ pl hi ad) ad H) (hS : va_S (fun q => z ≤ q) H0 H locs) {k : Nat} {v : Int32} (hk : k < 12) (hdg : decode cc pc = .ok (.iastore, 1))
    (kk : ∀ (H1 : Heap) (locs1 : List Loc), cy_W D z (cy_CT cI cJ cO n na σ (cy_i τ 5 k v) pl hi ad) ad H1 → va_S (fun q => z ≤ q) H0 H1 locs1 → W p l e R s m args below meth c H1 locs1 cells slots Q (F0 m (pc + 1) ls rest)) : W p l e R s m args below meth c H locs cells slots Q (F0 m pc ls (.int v :: .int (nI k) :: .ref (ad 26) :: rest)) := by
  refine cy_iast hexec hb hK.1 hI hS 0 (x := 26) rfl rfl (vp_in_nI hk (by decide)) hdg ?_ kk
  rw [nI_clamp (by omega)]
  exact cy_hT 6 (by decide) (by show (.inl (_, _, .inl ((cy_i τ 5 k v).1 5)) : va_E) = _; rw [show (cy_i τ 5 k v).1 = cy_u τ.1 5 k v from rfl, cy_u_row]) (cy_lt12 (fun _ => rfl) (fun _ => rfl) (fun _ => rfl) (fun _ => rfl) (fun _ => rfl) (fun _ => rfl) (fun h => absurd rfl h) (fun _ => rfl) (fun _ => rfl) (fun _ => rfl) (fun _ => rfl) (fun _ => rfl))
theorem cy_stT7 (hexec : p.tables.exec = Jvm.exec) (hb : c.code = cc) (hK : cy_K D cI cJ cO s) (hI : cy_W D z (cy_CT cI cJ cO n na σ τ pl hi ad) ad H) (hS : va_S (fun q => z ≤ q) H0 H locs) {k : Nat} {v : Int32} (hk : k < 6) (hdg : decode cc pc = .ok (.iastore, 1))
    (kk : ∀ (H1 : Heap) (locs1 : List Loc), cy_W D z (cy_CT cI cJ cO n na σ (cy_i τ 6 k v) pl hi ad) ad H1 → va_S (fun q => z ≤ q) H0 H1 locs1 → W p l e R s m args below meth c H1 locs1 cells slots Q (F0 m (pc + 1) ls rest)) : W p l e R s m args below meth c H locs cells slots Q (F0 m pc ls (.int v :: .int (nI k) :: .ref (ad 27) :: rest)) := by
  refine cy_iast hexec hb hK.1 hI hS 0 (x := 27) rfl rfl (vp_in_nI hk (by decide)) hdg ?_ kk
  rw [nI_clamp (by omega)]
  exact cy_hT 7 (by decide) (by show (.inl (_, _, .inl ((cy_i τ 6 k v).1 6)) : va_E) = _; rw [show (cy_i τ 6 k v).1 = cy_u τ.1 6 k v from rfl, cy_u_row]) (cy_lt12 (fun _ => rfl) (fun _ => rfl) (fun _ => rfl) (fun _ => rfl) (fun _ => rfl) (fun _ => rfl) (fun _ => rfl) (fun h => absurd rfl h) (fun _ => rfl) (fun _ => rfl) (fun _ => rfl) (fun _ => rfl))
theorem cy_stT8 (hexec : p.tables.exec = Jvm.exec) (hb : c.code = cc) (hK : cy_K D cI cJ cO s) (hI : cy_W D z (cy_CT cI cJ cO n na σ τ pl hi ad) ad H) (hS : va_S (fun q => z ≤ q) H0 H locs) {k : Nat} {v : Int64} (hk : k < 6) (hdg : decode cc pc = .ok (.lastore, 1))
    (kk : ∀ (H1 : Heap) (locs1 : List Loc), cy_W D z (cy_CT cI cJ cO n na σ (cy_l τ 1 k v) pl hi ad) ad H1 → va_S (fun q => z ≤ q) H0 H1 locs1 → W p l e R s m args below meth c H1 locs1 cells slots Q (F0 m (pc + 1) ls rest)) : W p l e R s m args below meth c H locs cells slots Q (F0 m pc ls (.long v :: .int (nI k) :: .ref (ad 28) :: rest)) := by
  refine cy_last hexec hb hK.1 hI hS 1 (x := 28) rfl rfl (vp_in_nI hk (by decide)) hdg ?_ kk
  rw [nI_clamp (by omega)]
  exact cy_hT 8 (by decide) (by show (.inl (_, _, .inr (.inl ((cy_l τ 1 k v).2 1))) : va_E) = _; rw [show (cy_l τ 1 k v).2 = cy_u τ.2 1 k v from rfl, cy_u_row]) (cy_lt12 (fun _ => rfl) (fun _ => rfl) (fun _ => rfl) (fun _ => rfl) (fun _ => rfl) (fun _ => rfl) (fun _ => rfl) (fun _ => rfl) (fun h => absurd rfl h) (fun _ => rfl) (fun _ => rfl) (fun _ => rfl))
theorem cy_stT9 (hexec : p.tables.exec = Jvm.exec) (hb : c.code = cc) (hK : cy_K D cI cJ cO s) (hI : cy_W D z (cy_CT cI cJ cO n na σ τ pl hi ad) ad H) (hS : va_S (fun q => z ≤ q) H0 H locs) {k : Nat} {v : Int32} (hk : k < 10) (hdg : decode cc pc = .ok (.iastore, 1))
    (kk : ∀ (H1 : Heap) (locs1 : List Loc), cy_W D z (cy_CT cI cJ cO n na σ (cy_i τ 7 k v) pl hi ad) ad H1 → va_S (fun q => z ≤ q) H0 H1 locs1 → W p l e R s m args below meth c H1 locs1 cells slots Q (F0 m (pc + 1) ls rest)) : W p l e R s m args below meth c H locs cells slots Q (F0 m pc ls (.int v :: .int (nI k) :: .ref (ad 29) :: rest)) := by
  refine cy_iast hexec hb hK.1 hI hS 0 (x := 29) rfl rfl (vp_in_nI hk (by decide)) hdg ?_ kk
  rw [nI_clamp (by omega)]
  exact cy_hT 9 (by decide) (by show (.inl (_, _, .inl ((cy_i τ 7 k v).1 7)) : va_E) = _; rw [show (cy_i τ 7 k v).1 = cy_u τ.1 7 k v from rfl, cy_u_row]) (cy_lt12 (fun _ => rfl) (fun _ => rfl) (fun _ => rfl) (fun _ => rfl) (fun _ => rfl) (fun _ => rfl) (fun _ => rfl) (fun _ => rfl) (fun _ => rfl) (fun h => absurd rfl h) (fun _ => rfl) (fun _ => rfl))
theorem cy_stT10 (hexec : p.tables.exec = Jvm.exec) (hb : c.code = cc) (hK : cy_K D cI cJ cO s) (hI : cy_W D z (cy_CT cI cJ cO n na σ τ pl hi ad) ad H) (hS : va_S (fun q => z ≤ q) H0 H locs) {k : Nat} {v : Int32} (hk : k < 10) (hdg : decode cc pc = .ok (.iastore, 1))
    (kk : ∀ (H1 : Heap) (locs1 : List Loc), cy_W D z (cy_CT cI cJ cO n na σ (cy_i τ 8 k v) pl hi ad) ad H1 → va_S (fun q => z ≤ q) H0 H1 locs1 → W p l e R s m args below meth c H1 locs1 cells slots Q (F0 m (pc + 1) ls rest)) : W p l e R s m args below meth c H locs cells slots Q (F0 m pc ls (.int v :: .int (nI k) :: .ref (ad 30) :: rest)) := by
  refine cy_iast hexec hb hK.1 hI hS 0 (x := 30) rfl rfl (vp_in_nI hk (by decide)) hdg ?_ kk
  rw [nI_clamp (by omega)]
  exact cy_hT 10 (by decide) (by show (.inl (_, _, .inl ((cy_i τ 8 k v).1 8)) : va_E) = _; rw [show (cy_i τ 8 k v).1 = cy_u τ.1 8 k v from rfl, cy_u_row]) (cy_lt12 (fun _ => rfl) (fun _ => rfl) (fun _ => rfl) (fun _ => rfl) (fun _ => rfl) (fun _ => rfl) (fun _ => rfl) (fun _ => rfl) (fun _ => rfl) (fun _ => rfl) (fun h => absurd rfl h) (fun _ => rfl))
theorem cy_stT11 (hexec : p.tables.exec = Jvm.exec) (hb : c.code = cc) (hK : cy_K D cI cJ cO s) (hI : cy_W D z (cy_CT cI cJ cO n na σ τ pl hi ad) ad H) (hS : va_S (fun q => z ≤ q) H0 H locs) {k : Nat} {v : Int32} (hk : k < 60) (hdg : decode cc pc = .ok (.iastore, 1))
    (kk : ∀ (H1 : Heap) (locs1 : List Loc), cy_W D z (cy_CT cI cJ cO n na σ τ (va_up pl k v) hi ad) ad H1 → va_S (fun q => z ≤ q) H0 H1 locs1 → W p l e R s m args below meth c H1 locs1 cells slots Q (F0 m (pc + 1) ls rest)) : W p l e R s m args below meth c H locs cells slots Q (F0 m pc ls (.int v :: .int (nI k) :: .ref (ad 31) :: rest)) := by
  refine cy_iast hexec hb hK.1 hI hS 0 (x := 31) rfl rfl (vp_in_nI hk (by decide)) hdg ?_ kk
  rw [nI_clamp (by omega)]
  exact cy_hT 11 (by decide) (rfl) (cy_lt12 (fun _ => rfl) (fun _ => rfl) (fun _ => rfl) (fun _ => rfl) (fun _ => rfl) (fun _ => rfl) (fun _ => rfl) (fun _ => rfl) (fun _ => rfl) (fun _ => rfl) (fun _ => rfl) (fun h => absurd rfl h))
theorem cy_stY3 (hexec : p.tables.exec = Jvm.exec) (hb : c.code = cc) (hK : cy_K D cI cJ cO s) (hI : cy_W D z (cy_CT cI cJ cO n na σ τ pl hi ad) ad H) (hS : va_S (fun q => z ≤ q) H0 H locs) {k : Nat} {v : Int32} (hk : k < 6) (hdg : decode cc pc = .ok (.iastore, 1))
    (kk : ∀ (H1 : Heap) (locs1 : List Loc), cy_W D z (cy_CT cI cJ cO n na (cy_i σ 6 k v) τ pl hi ad) ad H1 → va_S (fun q => z ≤ q) H0 H1 locs1 → W p l e R s m args below meth c H1 locs1 cells slots Q (F0 m (pc + 1) ls rest)) : W p l e R s m args below meth c H locs cells slots Q (F0 m pc ls (.int v :: .int (nI k) :: .ref (ad 3) :: rest)) := by
  refine cy_iast hexec hb hK.1 hI hS 0 (x := 3) rfl rfl (vp_in_nI hk (by decide)) hdg ?_ kk
  rw [nI_clamp (by omega)]
  exact cy_hY 3 (by decide) (by show (.inl (_, _, .inl ((cy_i σ 6 k v).1 6)) : va_E) = _; rw [show (cy_i σ 6 k v).1 = cy_u σ.1 6 k v from rfl, cy_u_row]) (cy_lt7 (fun _ => rfl) (fun _ => rfl) (fun _ => rfl) (fun h => absurd rfl h) (fun _ => rfl) (fun _ => rfl) (fun _ => rfl)) (fun _ _ => rfl) (fun _ _ => rfl)
theorem cy_stY4 (hexec : p.tables.exec = Jvm.exec) (hb : c.code = cc) (hK : cy_K D cI cJ cO s) (hI : cy_W D z (cy_CT cI cJ cO n na σ τ pl hi ad) ad H) (hS : va_S (fun q => z ≤ q) H0 H locs) {k : Nat} {v : Int64} (hk : k < 6) (hdg : decode cc pc = .ok (.lastore, 1))
    (kk : ∀ (H1 : Heap) (locs1 : List Loc), cy_W D z (cy_CT cI cJ cO n na (cy_l σ 1 k v) τ pl hi ad) ad H1 → va_S (fun q => z ≤ q) H0 H1 locs1 → W p l e R s m args below meth c H1 locs1 cells slots Q (F0 m (pc + 1) ls rest)) : W p l e R s m args below meth c H locs cells slots Q (F0 m pc ls (.long v :: .int (nI k) :: .ref (ad 4) :: rest)) := by
  refine cy_last hexec hb hK.1 hI hS 1 (x := 4) rfl rfl (vp_in_nI hk (by decide)) hdg ?_ kk
  rw [nI_clamp (by omega)]
  exact cy_hY 4 (by decide) (by show (.inl (_, _, .inr (.inl ((cy_l σ 1 k v).2 1))) : va_E) = _; rw [show (cy_l σ 1 k v).2 = cy_u σ.2 1 k v from rfl, cy_u_row]) (cy_lt7 (fun _ => rfl) (fun _ => rfl) (fun _ => rfl) (fun _ => rfl) (fun h => absurd rfl h) (fun _ => rfl) (fun _ => rfl)) (fun _ _ => rfl) (fun _ _ => rfl)
theorem cy_stY5 (hexec : p.tables.exec = Jvm.exec) (hb : c.code = cc) (hK : cy_K D cI cJ cO s) (hI : cy_W D z (cy_CT cI cJ cO n na σ τ pl hi ad) ad H) (hS : va_S (fun q => z ≤ q) H0 H locs) {k : Nat} {v : Int32} (hk : k < 10) (hdg : decode cc pc = .ok (.iastore, 1))
    (kk : ∀ (H1 : Heap) (locs1 : List Loc), cy_W D z (cy_CT cI cJ cO n na (cy_i σ 7 k v) τ pl hi ad) ad H1 → va_S (fun q => z ≤ q) H0 H1 locs1 → W p l e R s m args below meth c H1 locs1 cells slots Q (F0 m (pc + 1) ls rest)) : W p l e R s m args below meth c H locs cells slots Q (F0 m pc ls (.int v :: .int (nI k) :: .ref (ad 5) :: rest)) := by
  refine cy_iast hexec hb hK.1 hI hS 0 (x := 5) rfl rfl (vp_in_nI hk (by decide)) hdg ?_ kk
  rw [nI_clamp (by omega)]
  exact cy_hY 5 (by decide) (by show (.inl (_, _, .inl ((cy_i σ 7 k v).1 7)) : va_E) = _; rw [show (cy_i σ 7 k v).1 = cy_u σ.1 7 k v from rfl, cy_u_row]) (cy_lt7 (fun _ => rfl) (fun _ => rfl) (fun _ => rfl) (fun _ => rfl) (fun _ => rfl) (fun h => absurd rfl h) (fun _ => rfl)) (fun _ _ => rfl) (fun _ _ => rfl)
theorem cy_stY6 (hexec : p.tables.exec = Jvm.exec) (hb : c.code = cc) (hK : cy_K D cI cJ cO s) (hI : cy_W D z (cy_CT cI cJ cO n na σ τ pl hi ad) ad H) (hS : va_S (fun q => z ≤ q) H0 H locs) {k : Nat} {v : Int32} (hk : k < 10) (hdg : decode cc pc = .ok (.iastore, 1))
    (kk : ∀ (H1 : Heap) (locs1 : List Loc), cy_W D z (cy_CT cI cJ cO n na (cy_i σ 8 k v) τ pl hi ad) ad H1 → va_S (fun q => z ≤ q) H0 H1 locs1 → W p l e R s m args below meth c H1 locs1 cells slots Q (F0 m (pc + 1) ls rest)) : W p l e R s m args below meth c H locs cells slots Q (F0 m pc ls (.int v :: .int (nI k) :: .ref (ad 6) :: rest)) := by
  refine cy_iast hexec hb hK.1 hI hS 0 (x := 6) rfl rfl (vp_in_nI hk (by decide)) hdg ?_ kk
  rw [nI_clamp (by omega)]
  exact cy_hY 6 (by decide) (by show (.inl (_, _, .inl ((cy_i σ 8 k v).1 8)) : va_E) = _; rw [show (cy_i σ 8 k v).1 = cy_u σ.1 8 k v from rfl, cy_u_row]) (cy_lt7 (fun _ => rfl) (fun _ => rfl) (fun _ => rfl) (fun _ => rfl) (fun _ => rfl) (fun _ => rfl) (fun h => absurd rfl h)) (fun _ _ => rfl) (fun _ _ => rfl)
end CYB
