theorem cy_ld_no {n k : Nat} (hn : n ≤ 80) (h : ¬ k < n) (hk : k < 2 ^ 31) : cy_ld n (nI k) = false := by
  cases b : cy_ld n (nI k) with
  | false => rfl
  | true =>
    obtain ⟨j, hj, e⟩ := (cy_ld_iff hn _).mp b
    have := (nI_eq (a := k) (b := j) hk (by omega)).mp e
    omega
theorem cy_ld_neg {n : Nat} {l : Int32} (h : l < 0) : cy_ld n l = false := by simp [cy_ld, cy_isIn, h]
section CYS
variable {p : Program} {l : Launch} {e : Env} {R : Room} {s : State} {m : MethodId} {args : Array Value} {below : List Frame} {meth : Method} {c : Code} {H : Heap} {locs : List Loc} {cells slots : Nat} {Q : State → Prop}
variable {cc : ByteArray} {pc : Nat} {ls : Array Slot} {rest : List Value} {D : va_G} {z : Nat} {H0 : Heap}
variable {cI cJ cO : ClassId} {n na : Nat} {σ τ : cy_S} {pl : Nat → Int32} {hi : Int32} {ad : Nat → Nat}
theorem cy_any (hK : cy_K D cI cJ cO s) (hI : cy_W D z (cy_CT cI cJ cO n na σ τ pl hi ad) ad H) {k : Nat} (hk : k < n) : va_Any "CustomsYard$Load" s H (ad (100 + 2 * k)) := by
  have key : ∀ C : String, cy_As C RX0 s → (∃ cell : Cell, H[ad (100 + 2 * k)]? = some cell ∧ cell.vm.isStatics = false ∧ s.vm.findClass C = some cell.cls) → va_Any "CustomsYard$Load" s H (ad (100 + 2 * k)) := by
    intro C hA hr
    obtain ⟨c0, t0, f1, f2, f3⟩ := hA
    obtain ⟨cell, h1, h2, h3⟩ := hr
    obtain ⟨kC, hkC, -⟩ := Vm.findClass_spec h3
    refine ⟨cell, h1, h2, ⟨kC, hkC⟩, fun comp h => ?_⟩
    have e1 : c0 = cell.cls := Option.some.inj (f1.symm.trans h3)
    have e2 : t0 = comp := Option.some.inj (f2.symm.trans h)
    rw [← e1, ← e2]
    exact f3
  rcases cy_kd_012 (σ.1 1 k) with h | h | h
  · exact key RX1 hK.2.2.2.2.2.1 (cy_rv0 hK hI hk h)
  · exact key RX2 hK.2.2.2.2.2.2.1 (cy_rv1 hK hI hk h)
  · exact key RX3 hK.2.2.2.2.2.2.2.1 (cy_rv2 hK hI hk h)
/-- a place of a row of things -/
theorem cy_hPl {k j : Nat} (hk : k < n) (h : cy_kd (σ.1 1 k) = 2) (hj : j < 6) {v : Int32} {r : Option Nat} (hr : cy_rf ad v = r) : ∀ x, cy_CT cI cJ cO n na (cy_i σ 4 (6 * k + j) v) τ pl hi ad x = if x = 101 + 2 * k then some (.inl (cO, (σ.1 2 k).toNatClampNeg, .inr (.inr (.inr (.inr (va_up (fun j => if j < 6 then cy_rf ad (σ.1 4 (6 * k + j)) else none) j r)))))) else cy_CT cI cJ cO n na σ τ pl hi ad x := by
  refine cy_hA k hk ?_ (cy_lt7 rfl rfl rfl rfl rfl rfl rfl) (fun _ _ => rfl) (fun i hi hne => ?_)
  · rw [cy_ar2 (σ := cy_i σ 4 (6 * k + j) v) h]
    congr 4
    congr 4
    funext b
    by_cases hb : b = j
    · subst hb
      simp [va_up, hj, cy_i, cy_u, hr]
    · have : ¬ 6 * k + b = 6 * k + j := by omega
      simp [va_up, hb, cy_i, cy_u]
  · have e : (fun b => if b < 6 then cy_rf ad ((cy_i σ 4 (6 * k + j) v).1 4 (6 * i + b)) else none) = (fun b => if b < 6 then cy_rf ad (σ.1 4 (6 * i + b)) else none) := by
      funext b
      by_cases hb : b < 6
      · have : ¬ 6 * i + b = 6 * k + j := by omega
        simp [hb, cy_i, cy_u, this]
      · simp [hb]
    unfold cy_ar
    rw [e]
    rfl
/-- a place of a row of numbers -/
theorem cy_hNl {k j : Nat} (hk : k < n) (h : cy_kd (σ.1 1 k) = 0) (hj : j < 6) {v : Int64} : ∀ x, cy_CT cI cJ cO n na (cy_l σ 0 (6 * k + j) v) τ pl hi ad x = if x = 101 + 2 * k then some (.inl (cJ, (σ.1 2 k).toNatClampNeg, .inr (.inl (va_up (fun j => if j < 6 then σ.2 0 (6 * k + j) else 0) j v)))) else cy_CT cI cJ cO n na σ τ pl hi ad x := by
  refine cy_hA k hk ?_ (cy_lt7 rfl rfl rfl rfl rfl rfl rfl) (fun _ _ => rfl) (fun i hi hne => ?_)
  · rw [cy_ar0 (σ := cy_l σ 0 (6 * k + j) v) h]
    congr 4
    congr 2
    funext b
    by_cases hb : b = j
    · subst hb
      simp [va_up, hj, cy_l, cy_u]
    · have : ¬ 6 * k + b = 6 * k + j := by omega
      simp [va_up, hb, cy_l, cy_u]
  · have e : (fun b => if b < 6 then (cy_l σ 0 (6 * k + j) v).2 0 (6 * i + b) else 0) = (fun b => if b < 6 then σ.2 0 (6 * i + b) else 0) := by
      funext b
      by_cases hb : b < 6
      · have : ¬ 6 * i + b = 6 * k + j := by omega
        simp [hb, cy_l, cy_u, this]
      · simp [hb]
    unfold cy_ar
    rw [e]
    rfl
theorem cy_hByf {j : Nat} {v : Int32} {r : Option Nat} (hr : cy_rf ad v = r) : (fun b => cy_rf ad (cy_u σ.1 5 j v 5 b)) = va_up (fun j => cy_rf ad (σ.1 5 j)) j r := by
  rw [cy_u_row]
  funext b
  by_cases hb : b = j
  · rw [hb]
    show cy_rf ad (va_up (σ.1 5) j v j) = va_up (fun j => cy_rf ad (σ.1 5 j)) j r j
    unfold va_up
    rw [if_pos rfl, if_pos rfl, hr]
  · show cy_rf ad (va_up (σ.1 5) j v b) = va_up (fun j => cy_rf ad (σ.1 5 j)) j r b
    unfold va_up
    rw [if_neg hb, if_neg hb]
theorem cy_hByo (j : Nat) (v : Int32) : ∀ k, k < n → cy_ob (cy_i σ 5 j v) ad k = cy_ob σ ad k := fun _ _ => rfl
theorem cy_hBya (j : Nat) (v : Int32) : ∀ k, k < n → cy_ar cJ cO (cy_i σ 5 j v) ad k = cy_ar cJ cO σ ad k := fun _ _ => rfl
theorem cy_Yc0 : cy_Y cI cJ cO na σ ad 0 = .inr (3, cy_fY σ ad) := rfl
theorem cy_hByY0 (j : Nat) (v : Int32) : cy_Y cI cJ cO na (cy_i σ 5 j v) ad 0 = cy_Y cI cJ cO na σ ad 0 := by
  rw [cy_Yc0, cy_Yc0]
  rfl
theorem cy_Yc1 : cy_Y cI cJ cO na σ ad 1 = .inl (cO, 80, .inr (.inr (.inr (.inr (fun j => if j < na then some (ad (100 + 2 * j)) else none))))) := rfl
theorem cy_hByY1 (j : Nat) (v : Int32) : cy_Y cI cJ cO na (cy_i σ 5 j v) ad 1 = cy_Y cI cJ cO na σ ad 1 := by
  rw [cy_Yc1, cy_Yc1]
theorem cy_Yc3 : cy_Y cI cJ cO na σ ad 3 = .inl (cI, 6, .inl (σ.1 6)) := rfl
theorem cy_hByY3 (j : Nat) (v : Int32) : cy_Y cI cJ cO na (cy_i σ 5 j v) ad 3 = cy_Y cI cJ cO na σ ad 3 := by
  rw [cy_Yc3, cy_Yc3]
  rfl
theorem cy_Yc4 : cy_Y cI cJ cO na σ ad 4 = .inl (cJ, 6, .inr (.inl (σ.2 1))) := rfl
theorem cy_hByY4 (j : Nat) (v : Int32) : cy_Y cI cJ cO na (cy_i σ 5 j v) ad 4 = cy_Y cI cJ cO na σ ad 4 := by
  rw [cy_Yc4, cy_Yc4]
  rfl
theorem cy_Yc5 : cy_Y cI cJ cO na σ ad 5 = .inl (cI, 10, .inl (σ.1 7)) := rfl
theorem cy_hByY5 (j : Nat) (v : Int32) : cy_Y cI cJ cO na (cy_i σ 5 j v) ad 5 = cy_Y cI cJ cO na σ ad 5 := by
  rw [cy_Yc5, cy_Yc5]
  rfl
theorem cy_Yc6 : cy_Y cI cJ cO na σ ad 6 = .inl (cI, 10, .inl (σ.1 8)) := rfl
theorem cy_hByY6 (j : Nat) (v : Int32) : cy_Y cI cJ cO na (cy_i σ 5 j v) ad 6 = cy_Y cI cJ cO na σ ad 6 := by
  rw [cy_Yc6, cy_Yc6]
  rfl
theorem cy_hByY (j : Nat) (v : Int32) : ∀ i, i < 7 → i ≠ 2 → cy_Y cI cJ cO na (cy_i σ 5 j v) ad i = cy_Y cI cJ cO na σ ad i := by
  intro i hi hne
  rcases (show i = 0 ∨ i = 1 ∨ i = 3 ∨ i = 4 ∨ i = 5 ∨ i = 6 by omega) with rfl | rfl | rfl | rfl | rfl | rfl
  · exact cy_hByY0 j v
  · exact cy_hByY1 j v
  · exact cy_hByY3 j v
  · exact cy_hByY4 j v
  · exact cy_hByY5 j v
  · exact cy_hByY6 j v
/-- a bay -/
theorem cy_hBy {j : Nat} {v : Int32} {r : Option Nat} (hr : cy_rf ad v = r) : ∀ x, cy_CT cI cJ cO n na (cy_i σ 5 j v) τ pl hi ad x = if x = 2 then some (.inl (cO, 12, .inr (.inr (.inr (.inr (va_up (fun j => cy_rf ad (σ.1 5 j)) j r)))))) else cy_CT cI cJ cO n na σ τ pl hi ad x := by
  rw [← cy_hByf (σ := σ) hr]
  exact cy_hY 2 (by decide) rfl (cy_hByY j v) (cy_hByo j v) (cy_hBya j v)
theorem cy_stN (hexec : p.tables.exec = Jvm.exec) (hb : c.code = cc) (hK : cy_K D cI cJ cO s) (hI : cy_W D z (cy_CT cI cJ cO n na σ τ pl hi ad) ad H) (hS : va_S (fun q => z ≤ q) H0 H locs) {k j p0 : Nat} {v : Int64} (hk : k < n) (h : cy_kd (σ.1 1 k) = 0) (hp : p0 ≤ 6) (ep : σ.1 2 k = nI p0) (hj : j < p0) (hdg : decode cc pc = .ok (.lastore, 1))
    (kk : ∀ (H1 : Heap) (locs1 : List Loc), cy_W D z (cy_CT cI cJ cO n na (cy_l σ 0 (6 * k + j) v) τ pl hi ad) ad H1 → va_S (fun q => z ≤ q) H0 H1 locs1 → W p l e R s m args below meth c H1 locs1 cells slots Q (F0 m (pc + 1) ls rest)) : W p l e R s m args below meth c H locs cells slots Q (F0 m pc ls (.long v :: .int (nI j) :: .ref (ad (101 + 2 * k)) :: rest)) := by
  have e1 : (σ.1 2 k).toNatClampNeg = p0 := by rw [ep, nI_clamp (by omega)]
  refine cy_last hexec hb hK.1 hI hS 1 (cy_A0 hk h) rfl (vp_in_nI (by rw [e1]; exact hj) (by rw [e1]; omega)) hdg ?_ kk
  rw [nI_clamp (by omega)]
  exact cy_hNl hk h (by omega)
theorem cy_stP (hexec : p.tables.exec = Jvm.exec) (hb : c.code = cc) (hK : cy_K D cI cJ cO s) (hI : cy_W D z (cy_CT cI cJ cO n na σ τ pl hi ad) ad H) (hS : va_S (fun q => z ≤ q) H0 H locs) {k j p0 t : Nat} (hk : k < n) (h : cy_kd (σ.1 1 k) = 2) (hp : p0 ≤ 6) (ep : σ.1 2 k = nI p0) (hj : j < p0) (ht : t < n) (hn : n ≤ 80) (hdg : decode cc pc = .ok (.aastore, 1))
    (kk : ∀ (H1 : Heap) (locs1 : List Loc), cy_W D z (cy_CT cI cJ cO n na (cy_i σ 4 (6 * k + j) (nI t)) τ pl hi ad) ad H1 → va_S (fun q => z ≤ q) H0 H1 locs1 → W p l e R s m args below meth c H1 locs1 cells slots Q (F0 m (pc + 1) ls rest)) : W p l e R s m args below meth c H locs cells slots Q (F0 m pc ls (.ref (ad (100 + 2 * t)) :: .int (nI j) :: .ref (ad (101 + 2 * k)) :: rest)) := by
  have e1 : (σ.1 2 k).toNatClampNeg = p0 := by rw [ep, nI_clamp (by omega)]
  refine cy_aast hexec hb hK.1 hI hS 2 (cy_A2 hk h) rfl (cy_any hK hI ht) (vp_in_nI (by rw [e1]; exact hj) (by rw [e1]; omega)) hdg ?_ kk
  rw [nI_clamp (by omega)]
  exact cy_hPl hk h (by omega) (cy_rf_s (by omega) rfl)
theorem cy_stPN (hexec : p.tables.exec = Jvm.exec) (hb : c.code = cc) (hK : cy_K D cI cJ cO s) (hI : cy_W D z (cy_CT cI cJ cO n na σ τ pl hi ad) ad H) (hS : va_S (fun q => z ≤ q) H0 H locs) {k j p0 : Nat} (hk : k < n) (h : cy_kd (σ.1 1 k) = 2) (hp : p0 ≤ 6) (ep : σ.1 2 k = nI p0) (hj : j < p0) (hdg : decode cc pc = .ok (.aastore, 1))
    (kk : ∀ (H1 : Heap) (locs1 : List Loc), cy_W D z (cy_CT cI cJ cO n na (cy_i σ 4 (6 * k + j) (-1)) τ pl hi ad) ad H1 → va_S (fun q => z ≤ q) H0 H1 locs1 → W p l e R s m args below meth c H1 locs1 cells slots Q (F0 m (pc + 1) ls rest)) : W p l e R s m args below meth c H locs cells slots Q (F0 m pc ls (.null :: .int (nI j) :: .ref (ad (101 + 2 * k)) :: rest)) := by
  have e1 : (σ.1 2 k).toNatClampNeg = p0 := by rw [ep, nI_clamp (by omega)]
  refine cy_aastN hexec hb hK.1 hI hS 2 (cy_A2 hk h) rfl (vp_in_nI (by rw [e1]; exact hj) (by rw [e1]; omega)) hdg ?_ kk
  rw [nI_clamp (by omega)]
  exact cy_hPl hk h (by omega) (cy_rf_n rfl)
theorem cy_stB (hexec : p.tables.exec = Jvm.exec) (hb : c.code = cc) (hK : cy_K D cI cJ cO s) (hI : cy_W D z (cy_CT cI cJ cO n na σ τ pl hi ad) ad H) (hS : va_S (fun q => z ≤ q) H0 H locs) {j t : Nat} (hj : j < 12) (ht : t < n) (hn : n ≤ 80) (hdg : decode cc pc = .ok (.aastore, 1))
    (kk : ∀ (H1 : Heap) (locs1 : List Loc), cy_W D z (cy_CT cI cJ cO n na (cy_i σ 5 j (nI t)) τ pl hi ad) ad H1 → va_S (fun q => z ≤ q) H0 H1 locs1 → W p l e R s m args below meth c H1 locs1 cells slots Q (F0 m (pc + 1) ls rest)) : W p l e R s m args below meth c H locs cells slots Q (F0 m pc ls (.ref (ad (100 + 2 * t)) :: .int (nI j) :: .ref (ad 2) :: rest)) := by
  refine cy_aast hexec hb hK.1 hI hS 2 (x := 2) rfl rfl (cy_any hK hI ht) (vp_in_nI hj (by decide)) hdg ?_ kk
  rw [nI_clamp (by omega)]
  exact cy_hBy (cy_rf_s (by omega) rfl)
theorem cy_stBN (hexec : p.tables.exec = Jvm.exec) (hb : c.code = cc) (hK : cy_K D cI cJ cO s) (hI : cy_W D z (cy_CT cI cJ cO n na σ τ pl hi ad) ad H) (hS : va_S (fun q => z ≤ q) H0 H locs) {j : Nat} (hj : j < 12) (hdg : decode cc pc = .ok (.aastore, 1))
    (kk : ∀ (H1 : Heap) (locs1 : List Loc), cy_W D z (cy_CT cI cJ cO n na (cy_i σ 5 j (-1)) τ pl hi ad) ad H1 → va_S (fun q => z ≤ q) H0 H1 locs1 → W p l e R s m args below meth c H1 locs1 cells slots Q (F0 m (pc + 1) ls rest)) : W p l e R s m args below meth c H locs cells slots Q (F0 m pc ls (.null :: .int (nI j) :: .ref (ad 2) :: rest)) := by
  refine cy_aastN hexec hb hK.1 hI hS 2 (x := 2) rfl rfl (vp_in_nI hj (by decide)) hdg ?_ kk
  rw [nI_clamp (by omega)]
  exact cy_hBy (cy_rf_n rfl)
end CYS
/-- numbersWith: the row of numbers, or why not -/
def cy_nw (n : Nat) (σ : cy_S) (ad : Nat → Nat) (l i : Int32) : Option Nat × cy_S := if cy_ld n l = false then (none, cy_no σ (-2)) else if cy_nu (σ.1 1 l.toNatClampNeg) = false then (none, cy_no σ (-4)) else if cy_pl (σ.1 2 l.toNatClampNeg) i = false then (none, cy_no σ (-5)) else (some (ad (100 + 2 * l.toNatClampNeg)), σ)
def cy_ta (σ : cy_S) (k : Nat) (v : Int32) : Int32 × cy_S := if cy_go (σ.1 1 k) v = false then (-4, cy_no σ (-4)) else (cy_co σ k v, σ)
