theorem cy_kd_dec : ∀ a : Fin 13, (cy_kd (nI a.val) = 0 ∧ cy_nu (nI a.val) = true ∧ cy_sg (nI a.val) = false ∧ cy_th (nI a.val) = false) ∨ (cy_kd (nI a.val) = 1 ∧ cy_nu (nI a.val) = false ∧ cy_sg (nI a.val) = true ∧ cy_th (nI a.val) = false) ∨ (cy_kd (nI a.val) = 2 ∧ cy_nu (nI a.val) = false ∧ cy_sg (nI a.val) = false ∧ cy_th (nI a.val) = true) := by decide +kernel
theorem cy_kd3 {n : Nat} {σ : cy_S} (hok : cy_ok n σ) {k : Nat} (hk : k < n) : (cy_kd (σ.1 1 k) = 0 ∧ cy_nu (σ.1 1 k) = true ∧ cy_sg (σ.1 1 k) = false ∧ cy_th (σ.1 1 k) = false) ∨ (cy_kd (σ.1 1 k) = 1 ∧ cy_nu (σ.1 1 k) = false ∧ cy_sg (σ.1 1 k) = true ∧ cy_th (σ.1 1 k) = false) ∨ (cy_kd (σ.1 1 k) = 2 ∧ cy_nu (σ.1 1 k) = false ∧ cy_sg (σ.1 1 k) = false ∧ cy_th (σ.1 1 k) = true) := by
  obtain ⟨⟨a, ha, ea⟩, -⟩ := hok.2.2.1 k hk
  rw [ea]
  exact cy_kd_dec ⟨a, by omega⟩
theorem cy_kd_012 (s : Int32) : cy_kd s = 0 ∨ cy_kd s = 1 ∨ cy_kd s = 2 := by
  unfold cy_kd
  split
  · exact Or.inl rfl
  · split
    · exact Or.inr (Or.inl rfl)
    · exact Or.inr (Or.inr rfl)
theorem cy_ob0 {σ : cy_S} {ad : Nat → Nat} {k : Nat} (h : cy_kd (σ.1 1 k) = 0) : cy_ob σ ad k = .inr (0, [.int (nI k), .int (σ.1 1 k), .ref (ad (101 + 2 * k))]) := by simp [cy_ob, h]
theorem cy_ob1 {σ : cy_S} {ad : Nat → Nat} {k : Nat} (h : cy_kd (σ.1 1 k) = 1) : cy_ob σ ad k = .inr (1, [.int (nI k), .int (σ.1 1 k), .int (σ.1 3 k)]) := by simp [cy_ob, h]
theorem cy_ob2 {σ : cy_S} {ad : Nat → Nat} {k : Nat} (h : cy_kd (σ.1 1 k) = 2) : cy_ob σ ad k = .inr (2, [.int (nI k), .int (σ.1 1 k), .ref (ad (101 + 2 * k))]) := by simp [cy_ob, h]
theorem cy_ar0 {cJ cO : ClassId} {σ : cy_S} {ad : Nat → Nat} {k : Nat} (h : cy_kd (σ.1 1 k) = 0) : cy_ar cJ cO σ ad k = some (.inl (cJ, (σ.1 2 k).toNatClampNeg, .inr (.inl (fun j => if j < 6 then σ.2 0 (6 * k + j) else 0)))) := by simp [cy_ar, h]
theorem cy_ar2 {cJ cO : ClassId} {σ : cy_S} {ad : Nat → Nat} {k : Nat} (h : cy_kd (σ.1 1 k) = 2) : cy_ar cJ cO σ ad k = some (.inl (cO, (σ.1 2 k).toNatClampNeg, .inr (.inr (.inr (.inr (fun j => if j < 6 then cy_rf ad (σ.1 4 (6 * k + j)) else none)))))) := by simp [cy_ar, h]
section CYL
variable {p : Program} {l : Launch} {e : Env} {R : Room} {s : State} {m : MethodId} {args : Array Value} {below : List Frame} {meth : Method} {c : Code} {H : Heap} {locs : List Loc} {cells slots : Nat} {Q : State → Prop}
variable {cc : ByteArray} {pc : Nat} {ls : Array Slot} {rest : List Value} {D : va_G} {z : Nat} {H0 : Heap}
variable {cI cJ cO : ClassId} {n na : Nat} {σ τ : cy_S} {pl : Nat → Int32} {hi : Int32} {ad : Nat → Nat}
theorem cy_C0 {k : Nat} (hk : k < n) (h : cy_kd (σ.1 1 k) = 0) : cy_CT cI cJ cO n na σ τ pl hi ad (100 + 2 * k) = some (.inr (0, [.int (nI k), .int (σ.1 1 k), .ref (ad (101 + 2 * k))])) := by rw [cy_CT_ob _ _ _ _ _ _ _ _ _ hk, cy_ob0 h]
theorem cy_C1 {k : Nat} (hk : k < n) (h : cy_kd (σ.1 1 k) = 1) : cy_CT cI cJ cO n na σ τ pl hi ad (100 + 2 * k) = some (.inr (1, [.int (nI k), .int (σ.1 1 k), .int (σ.1 3 k)])) := by rw [cy_CT_ob _ _ _ _ _ _ _ _ _ hk, cy_ob1 h]
theorem cy_C2 {k : Nat} (hk : k < n) (h : cy_kd (σ.1 1 k) = 2) : cy_CT cI cJ cO n na σ τ pl hi ad (100 + 2 * k) = some (.inr (2, [.int (nI k), .int (σ.1 1 k), .ref (ad (101 + 2 * k))])) := by rw [cy_CT_ob _ _ _ _ _ _ _ _ _ hk, cy_ob2 h]
theorem cy_A0 {k : Nat} (hk : k < n) (h : cy_kd (σ.1 1 k) = 0) : cy_CT cI cJ cO n na σ τ pl hi ad (101 + 2 * k) = some (.inl (cJ, (σ.1 2 k).toNatClampNeg, .inr (.inl (fun j => if j < 6 then σ.2 0 (6 * k + j) else 0)))) := by rw [cy_CT_ar _ _ _ _ _ _ _ _ _ hk, cy_ar0 h]
theorem cy_A2 {k : Nat} (hk : k < n) (h : cy_kd (σ.1 1 k) = 2) : cy_CT cI cJ cO n na σ τ pl hi ad (101 + 2 * k) = some (.inl (cO, (σ.1 2 k).toNatClampNeg, .inr (.inr (.inr (.inr (fun j => if j < 6 then cy_rf ad (σ.1 4 (6 * k + j)) else none)))))) := by rw [cy_CT_ar _ _ _ _ _ _ _ _ _ hk, cy_ar2 h]
theorem cy_getNumber (hexec : p.tables.exec = Jvm.exec) (hb : c.code = cc) {own ref : String} {index : Nat} {Ts : List Cond} (hts : ∀ w ∈ Ts, w.before args s = true) (hin1 : ∀ w ∈ u_ws RX1 TX1 3, w ∈ Ts) (hin2 : ∀ w ∈ u_ws RX2 TX2 3, w ∈ Ts) (hin3 : ∀ w ∈ u_ws RX3 TX3 3, w ∈ Ts) (hown : s.vm.findClass own = some m.cls) (hK : cy_K D cI cJ cO s) (hI : cy_W D z (cy_CT cI cJ cO n na σ τ pl hi ad) ad H) {k : Nat} (hk : k < n) (hlink : (Cond.fieldLink own index ref "number" "I").before args s = true) (hsame : ∀ x, s.fieldFound? "CustomsYard$Load" "number" "I" = some x → s.fieldFound? ref "number" "I" = some x) (hdg : decode cc pc = .ok (.getfield index, 3))
    (kk : W p l e R s m args below meth c H locs cells slots Q (F0 m (pc + 3) ls (.int (nI k) :: rest))) : W p l e R s m args below meth c H locs cells slots Q (F0 m pc ls (.ref (ad (100 + 2 * k)) :: rest)) := by
  rcases cy_kd_012 (σ.1 1 k) with h | h | h
  · exact va_get (D := D) (ci := 0) (C := RX1) (T := TX1) (N := 3) hexec hb hts hin1 hown hK.1 (hI.one (cy_C0 hk h)) 0 rfl rfl 0 (by decide) hlink hsame rfl hdg kk
  · exact va_get (D := D) (ci := 1) (C := RX2) (T := TX2) (N := 3) hexec hb hts hin2 hown hK.1 (hI.one (cy_C1 hk h)) 0 rfl rfl 0 (by decide) hlink hsame rfl hdg kk
  · exact va_get (D := D) (ci := 2) (C := RX3) (T := TX3) (N := 3) hexec hb hts hin3 hown hK.1 (hI.one (cy_C2 hk h)) 0 rfl rfl 0 (by decide) hlink hsame rfl hdg kk
theorem cy_getSort (hexec : p.tables.exec = Jvm.exec) (hb : c.code = cc) {own ref : String} {index : Nat} {Ts : List Cond} (hts : ∀ w ∈ Ts, w.before args s = true) (hin1 : ∀ w ∈ u_ws RX1 TX1 3, w ∈ Ts) (hin2 : ∀ w ∈ u_ws RX2 TX2 3, w ∈ Ts) (hin3 : ∀ w ∈ u_ws RX3 TX3 3, w ∈ Ts) (hown : s.vm.findClass own = some m.cls) (hK : cy_K D cI cJ cO s) (hI : cy_W D z (cy_CT cI cJ cO n na σ τ pl hi ad) ad H) {k : Nat} (hk : k < n) (hlink : (Cond.fieldLink own index ref "sort" "I").before args s = true) (hsame : ∀ x, s.fieldFound? "CustomsYard$Load" "sort" "I" = some x → s.fieldFound? ref "sort" "I" = some x) (hdg : decode cc pc = .ok (.getfield index, 3))
    (kk : W p l e R s m args below meth c H locs cells slots Q (F0 m (pc + 3) ls (.int (σ.1 1 k) :: rest))) : W p l e R s m args below meth c H locs cells slots Q (F0 m pc ls (.ref (ad (100 + 2 * k)) :: rest)) := by
  rcases cy_kd_012 (σ.1 1 k) with h | h | h
  · exact va_get (D := D) (ci := 0) (C := RX1) (T := TX1) (N := 3) hexec hb hts hin1 hown hK.1 (hI.one (cy_C0 hk h)) 0 rfl rfl 1 (by decide) hlink hsame rfl hdg kk
  · exact va_get (D := D) (ci := 1) (C := RX2) (T := TX2) (N := 3) hexec hb hts hin2 hown hK.1 (hI.one (cy_C1 hk h)) 0 rfl rfl 1 (by decide) hlink hsame rfl hdg kk
  · exact va_get (D := D) (ci := 2) (C := RX3) (T := TX3) (N := 3) hexec hb hts hin3 hown hK.1 (hI.one (cy_C2 hk h)) 0 rfl rfl 1 (by decide) hlink hsame rfl hdg kk
theorem cy_getNp (hexec : p.tables.exec = Jvm.exec) (hb : c.code = cc) {own : String} {index : Nat} {Ts : List Cond} (hts : ∀ w ∈ Ts, w.before args s = true) (hin : ∀ w ∈ u_ws RX1 TX1 3, w ∈ Ts) (hown : s.vm.findClass own = some m.cls) (hK : cy_K D cI cJ cO s) (hI : cy_W D z (cy_CT cI cJ cO n na σ τ pl hi ad) ad H) {k : Nat} (hk : k < n) (h : cy_kd (σ.1 1 k) = 0) (hlink : (Cond.fieldLink own index (TX1 2).1 (TX1 2).2.1 (TX1 2).2.2.1).before args s = true) (hdg : decode cc pc = .ok (.getfield index, 3))
    (kk : W p l e R s m args below meth c H locs cells slots Q (F0 m (pc + 3) ls (.ref (ad (101 + 2 * k)) :: rest))) : W p l e R s m args below meth c H locs cells slots Q (F0 m pc ls (.ref (ad (100 + 2 * k)) :: rest)) :=
  va_get (D := D) (ci := 0) (C := RX1) (T := TX1) (N := 3) hexec hb hts hin hown hK.1 (hI.one (cy_C0 hk h)) 0 rfl rfl 2 (by decide) hlink (fun _ h9 => h9) rfl hdg kk
theorem cy_getPt (hexec : p.tables.exec = Jvm.exec) (hb : c.code = cc) {own : String} {index : Nat} {Ts : List Cond} (hts : ∀ w ∈ Ts, w.before args s = true) (hin : ∀ w ∈ u_ws RX2 TX2 3, w ∈ Ts) (hown : s.vm.findClass own = some m.cls) (hK : cy_K D cI cJ cO s) (hI : cy_W D z (cy_CT cI cJ cO n na σ τ pl hi ad) ad H) {k : Nat} (hk : k < n) (h : cy_kd (σ.1 1 k) = 1) (hlink : (Cond.fieldLink own index (TX2 2).1 (TX2 2).2.1 (TX2 2).2.2.1).before args s = true) (hdg : decode cc pc = .ok (.getfield index, 3))
    (kk : W p l e R s m args below meth c H locs cells slots Q (F0 m (pc + 3) ls (.int (σ.1 3 k) :: rest))) : W p l e R s m args below meth c H locs cells slots Q (F0 m pc ls (.ref (ad (100 + 2 * k)) :: rest)) :=
  va_get (D := D) (ci := 1) (C := RX2) (T := TX2) (N := 3) hexec hb hts hin hown hK.1 (hI.one (cy_C1 hk h)) 0 rfl rfl 2 (by decide) hlink (fun _ h9 => h9) rfl hdg kk
theorem cy_getTp (hexec : p.tables.exec = Jvm.exec) (hb : c.code = cc) {own : String} {index : Nat} {Ts : List Cond} (hts : ∀ w ∈ Ts, w.before args s = true) (hin : ∀ w ∈ u_ws RX3 TX3 3, w ∈ Ts) (hown : s.vm.findClass own = some m.cls) (hK : cy_K D cI cJ cO s) (hI : cy_W D z (cy_CT cI cJ cO n na σ τ pl hi ad) ad H) {k : Nat} (hk : k < n) (h : cy_kd (σ.1 1 k) = 2) (hlink : (Cond.fieldLink own index (TX3 2).1 (TX3 2).2.1 (TX3 2).2.2.1).before args s = true) (hdg : decode cc pc = .ok (.getfield index, 3))
    (kk : W p l e R s m args below meth c H locs cells slots Q (F0 m (pc + 3) ls (.ref (ad (101 + 2 * k)) :: rest))) : W p l e R s m args below meth c H locs cells slots Q (F0 m pc ls (.ref (ad (100 + 2 * k)) :: rest)) :=
  va_get (D := D) (ci := 2) (C := RX3) (T := TX3) (N := 3) hexec hb hts hin hown hK.1 (hI.one (cy_C2 hk h)) 0 rfl rfl 2 (by decide) hlink (fun _ h9 => h9) rfl hdg kk
theorem cy_alenL (hexec : p.tables.exec = Jvm.exec) (hb : c.code = cc) (hK : cy_K D cI cJ cO s) (hI : cy_W D z (cy_CT cI cJ cO n na σ τ pl hi ad) ad H) {k : Nat} (hk : k < n) (h : cy_kd (σ.1 1 k) = 0 ∨ cy_kd (σ.1 1 k) = 2) {p0 : Nat} (hp : p0 ≤ 6) (ep : σ.1 2 k = nI p0) (hdg : decode cc pc = .ok (.arraylength, 1))
    (kk : W p l e R s m args below meth c H locs cells slots Q (F0 m (pc + 1) ls (.int (nI p0) :: rest))) : W p l e R s m args below meth c H locs cells slots Q (F0 m pc ls (.ref (ad (101 + 2 * k)) :: rest)) := by
  have e1 : (σ.1 2 k).toNatClampNeg = p0 := by rw [ep, nI_clamp (by omega)]
  rcases h with h | h
  · refine cy_alen hexec hb hK.1 hI 1 (cy_A0 hk h) rfl hdg ?_
    rw [e1]
    exact kk
  · refine cy_alen hexec hb hK.1 hI 2 (cy_A2 hk h) rfl hdg ?_
    rw [e1]
    exact kk
theorem cy_laldL (hexec : p.tables.exec = Jvm.exec) (hb : c.code = cc) (hK : cy_K D cI cJ cO s) (hI : cy_W D z (cy_CT cI cJ cO n na σ τ pl hi ad) ad H) {k : Nat} (hk : k < n) (h : cy_kd (σ.1 1 k) = 0) {p0 i : Nat} (hp : p0 ≤ 6) (ep : σ.1 2 k = nI p0) (hi0 : i < p0) (hdg : decode cc pc = .ok (.laload, 1))
    (kk : W p l e R s m args below meth c H locs cells slots Q (F0 m (pc + 1) ls (.long (σ.2 0 (6 * k + i)) :: rest))) : W p l e R s m args below meth c H locs cells slots Q (F0 m pc ls (.int (nI i) :: .ref (ad (101 + 2 * k)) :: rest)) := by
  have e1 : (σ.1 2 k).toNatClampNeg = p0 := by rw [ep, nI_clamp (by omega)]
  refine cy_lald (k := i) hexec hb hK.1 hI 1 (cy_A0 hk h) rfl (by rw [e1]; exact hi0) (by rw [e1]; omega) hdg ?_
  rw [if_pos (show i < 6 by omega)]
  exact kk
theorem cy_aaldL (hexec : p.tables.exec = Jvm.exec) (hb : c.code = cc) (hK : cy_K D cI cJ cO s) (hI : cy_W D z (cy_CT cI cJ cO n na σ τ pl hi ad) ad H) {k : Nat} (hk : k < n) (h : cy_kd (σ.1 1 k) = 2) {p0 i : Nat} (hp : p0 ≤ 6) (ep : σ.1 2 k = nI p0) (hi0 : i < p0) (hdg : decode cc pc = .ok (.aaload, 1))
    (kk : W p l e R s m args below meth c H locs cells slots Q (F0 m (pc + 1) ls (va_rf (cy_rf ad (σ.1 4 (6 * k + i))) :: rest))) : W p l e R s m args below meth c H locs cells slots Q (F0 m pc ls (.int (nI i) :: .ref (ad (101 + 2 * k)) :: rest)) := by
  have e1 : (σ.1 2 k).toNatClampNeg = p0 := by rw [ep, nI_clamp (by omega)]
  refine cy_aald (k := i) hexec hb hK.1 hI 2 (cy_A2 hk h) rfl (by rw [e1]; exact hi0) (by rw [e1]; omega) hdg ?_
  rw [if_pos (show i < 6 by omega)]
  exact kk
theorem cy_topq {x y : Option Nat} (h : x = y) (k : W p l e R s m args below meth c H locs cells slots Q (F0 m pc ls (va_rf y :: rest))) : W p l e R s m args below meth c H locs cells slots Q (F0 m pc ls (va_rf x :: rest)) := h ▸ k
theorem cy_rf_n {x : Int32} (h : x = -1) : cy_rf ad x = none := by unfold cy_rf; rw [if_pos h]
theorem cy_rf_s {x : Int32} {t : Nat} (ht : t < 2 ^ 31) (h : x = nI t) : cy_rf ad x = some (ad (100 + 2 * t)) := by
  unfold cy_rf
  rw [if_neg (by rw [h]; exact cy_ne1 ht), h, nI_clamp ht]
/-- a load's object, as a receiver -/
theorem cy_rv0 (hK : cy_K D cI cJ cO s) (hI : cy_W D z (cy_CT cI cJ cO n na σ τ pl hi ad) ad H) {k : Nat} (hk : k < n) (h : cy_kd (σ.1 1 k) = 0) : ∃ cell : Cell, H[ad (100 + 2 * k)]? = some cell ∧ cell.vm.isStatics = false ∧ s.vm.findClass RX1 = some cell.cls := cy_recv (q := (RX1, TX1, 3)) hK (hI.1 _ _ (cy_C0 hk h)).1 rfl
theorem cy_rv1 (hK : cy_K D cI cJ cO s) (hI : cy_W D z (cy_CT cI cJ cO n na σ τ pl hi ad) ad H) {k : Nat} (hk : k < n) (h : cy_kd (σ.1 1 k) = 1) : ∃ cell : Cell, H[ad (100 + 2 * k)]? = some cell ∧ cell.vm.isStatics = false ∧ s.vm.findClass RX2 = some cell.cls := cy_recv (q := (RX2, TX2, 3)) hK (hI.1 _ _ (cy_C1 hk h)).1 rfl
theorem cy_rv2 (hK : cy_K D cI cJ cO s) (hI : cy_W D z (cy_CT cI cJ cO n na σ τ pl hi ad) ad H) {k : Nat} (hk : k < n) (h : cy_kd (σ.1 1 k) = 2) : ∃ cell : Cell, H[ad (100 + 2 * k)]? = some cell ∧ cell.vm.isStatics = false ∧ s.vm.findClass RX3 = some cell.cls := cy_recv (q := (RX3, TX3, 3)) hK (hI.1 _ _ (cy_C2 hk h)).1 rfl
end CYL
theorem cy_go_c (s v : Int32) : cy_go s v = (decide (v = s) || decide (s = 5 ∧ (v = 4 ∨ v = 13)) || decide (s = 6 ∧ v = 13) || decide (s = 8 ∧ (v = 7 ∨ v = 9)) || decide (s = 11 ∧ (v = 10 ∨ v = 12))) := by
  unfold cy_go
  rw [show decide (s = v) = decide (v = s) from decide_eq_decide.mpr eq_comm]
theorem cy_pl_c {p : Nat} (hp : p ≤ 6) (i : Int32) : cy_pl (nI p) i = (!decide (i < 0) && !decide (nI p ≤ i)) := by
  have e1 : (nI p - 1).toInt = (p : Int) - 1 := pk_sub_toInt (a := p) (b := 1) (by omega) (by omega)
  have e2 : (nI p - 1 < i) ↔ (nI p ≤ i) := by rw [Int32.lt_iff_toInt_lt, Int32.le_iff_toInt_le, e1, nI_toInt (by omega)]; omega
  unfold cy_pl cy_isIn
  rw [decide_eq_decide.mpr e2]
theorem cy_i_keep {σ : cy_S} {i j : Nat} {v : Int32} (h : σ.1 i j = v) : cy_i σ i j v = σ := by rw [← h, cy_i_self]
theorem cy_no4 (σ : cy_S) : cy_no σ (-4) = cy_i (cy_i σ 0 2 (-4)) 0 3 (σ.1 0 3 + 1) := by
  unfold cy_no
  rw [cy_i_keep (σ := cy_i (cy_i (cy_i σ 0 2 (-4)) 0 3 _) 0 4 _) (by simp [cy_i, cy_u, cy_b]), cy_i_keep (σ := cy_i (cy_i σ 0 2 (-4)) 0 3 _) (by simp [cy_i, cy_u, cy_b])]
  rfl
theorem cy_no5 (σ : cy_S) : cy_no σ (-5) = cy_i (cy_i σ 0 2 (-5)) 0 4 (σ.1 0 4 + 1) := by
  unfold cy_no
  rw [cy_i_keep (σ := cy_i (cy_i (cy_i σ 0 2 (-5)) 0 3 _) 0 4 _) (by simp [cy_i, cy_u, cy_b]), cy_i_keep (σ := cy_i σ 0 2 (-5)) (i := 0) (j := 3) (by simp [cy_i, cy_u, cy_b])]
  rfl
theorem cy_no6 (σ : cy_S) : cy_no σ (-6) = cy_i (cy_i σ 0 2 (-6)) 0 5 (σ.1 0 5 + 1) := by
  unfold cy_no
  rw [cy_i_keep (σ := cy_i σ 0 2 (-6)) (i := 0) (j := 3) (by simp [cy_i, cy_u, cy_b]), cy_i_keep (σ := cy_i σ 0 2 (-6)) (i := 0) (j := 4) (by simp [cy_i, cy_u, cy_b])]
  rfl
theorem cy_no0 (σ : cy_S) (w : Int32) (h4 : ¬ w = -4) (h5 : ¬ w = -5) (h6 : ¬ w = -6) : cy_no σ w = cy_i σ 0 2 w := by
  unfold cy_no
  rw [cy_i_keep (σ := cy_i σ 0 2 w) (i := 0) (j := 3) (by simp [cy_i, cy_u, cy_b, h4]), cy_i_keep (σ := cy_i σ 0 2 w) (i := 0) (j := 4) (by simp [cy_i, cy_u, cy_b, h5]), cy_i_keep (σ := cy_i σ 0 2 w) (i := 0) (j := 5) (by simp [cy_i, cy_u, cy_b, h6])]
/-- the object of a load that there is -/
def cy_fd (n : Nat) (ad : Nat → Nat) (l : Int32) : Option Nat := if cy_ld n l = true then some (ad (100 + 2 * l.toNatClampNeg)) else none
theorem cy_fd_f {n : Nat} {ad : Nat → Nat} {l : Int32} (h : cy_ld n l = false) : cy_fd n ad l = none := by simp [cy_fd, h]
theorem cy_fd_t {n : Nat} {ad : Nat → Nat} {k : Nat} (hn : n ≤ 80) (h : cy_ld n (nI k) = true) (hk : k < n) : cy_fd n ad (nI k) = some (ad (100 + 2 * k)) := by
  unfold cy_fd
  rw [if_pos h, nI_clamp (by omega)]
