def cy_b (x : Bool) : Int32 := if x then 1 else 0
def cy_fY (σ : cy_S) (ad : Nat → Nat) : List Value := [.ref (ad 1), .int (σ.1 0 0), .ref (ad 2), .ref (ad 3), .ref (ad 4), .ref (ad 5), .ref (ad 6), .int (σ.1 0 1), .int (σ.1 0 2), .int (σ.1 0 3), .int (σ.1 0 4), .int (σ.1 0 5), .int (σ.1 0 6)]
def cy_fT (τ : cy_S) (hi : Int32) (ad : Nat → Nat) : List Value := [.int (τ.1 0 0), .ref (ad 21), .ref (ad 22), .ref (ad 23), .ref (ad 24), .ref (ad 25), .ref (ad 26), .ref (ad 27), .ref (ad 28), .int (τ.1 0 1), .ref (ad 29), .ref (ad 30), .int (τ.1 0 2), .int (τ.1 0 3), .int (τ.1 0 4), .int (τ.1 0 5), .int (τ.1 0 6), .ref (ad 31), .int hi]
section CYU
variable {cI cJ cO : ClassId} {n na : Nat} {σ τ : cy_S} {pl : Nat → Int32} {hi : Int32} {ad : Nat → Nat}
theorem cy_CY : cy_CT cI cJ cO n na σ τ pl hi ad 0 = some (.inr (3, cy_fY σ ad)) := rfl
theorem cy_CR : cy_CT cI cJ cO n na σ τ pl hi ad 20 = some (.inr (4, cy_fT τ hi ad)) := rfl
/-- another yard: the label that changes is one of its own -/
theorem cy_hY {σ' : cy_S} {na' : Nat} (x : Nat) (hx : x < 7) {e : va_E} (he : cy_Y cI cJ cO na' σ' ad x = e) (h : ∀ i, i < 7 → i ≠ x → cy_Y cI cJ cO na' σ' ad i = cy_Y cI cJ cO na σ ad i) (ho : ∀ k, k < n → cy_ob σ' ad k = cy_ob σ ad k) (ha : ∀ k, k < n → cy_ar cJ cO σ' ad k = cy_ar cJ cO σ ad k) : ∀ j, cy_CT cI cJ cO n na' σ' τ pl hi ad j = if j = x then some e else cy_CT cI cJ cO n na σ τ pl hi ad j := by
  intro j
  subst he
  unfold cy_CT
  by_cases h7 : j < 7
  · rw [if_pos h7, if_pos h7]
    by_cases hj : j = x
    · rw [if_pos hj, hj]
    · rw [if_neg hj, h j h7 hj]
  · rw [if_neg h7, if_neg h7, if_neg (show ¬ j = x by omega)]
    by_cases hk : (j - 100) / 2 < n
    · rw [if_pos hk, if_pos hk, ho _ hk, ha _ hk]
    · rw [if_neg hk, if_neg hk]
/-- another reference -/
theorem cy_hT {τ' : cy_S} {pl' : Nat → Int32} {hi' : Int32} (x : Nat) (hx : x < 12) {e : va_E} (he : cy_T cI cJ τ' pl' hi' ad x = e) (h : ∀ i, i < 12 → i ≠ x → cy_T cI cJ τ' pl' hi' ad i = cy_T cI cJ τ pl hi ad i) : ∀ j, cy_CT cI cJ cO n na σ τ' pl' hi' ad j = if j = 20 + x then some e else cy_CT cI cJ cO n na σ τ pl hi ad j := by
  intro j
  subst he
  unfold cy_CT
  by_cases h1 : 20 ≤ j ∧ j < 32
  · rw [if_neg (show ¬ j < 7 by omega), if_neg (show ¬ j < 20 by omega), if_pos h1.2, if_neg (show ¬ j < 7 by omega), if_neg (show ¬ j < 20 by omega), if_pos h1.2]
    by_cases hj : j = 20 + x
    · rw [if_pos hj, hj, show 20 + x - 20 = x by omega]
    · rw [if_neg hj, h (j - 20) (by omega) (by omega)]
  · rw [if_neg (show ¬ j = 20 + x by omega)]
    by_cases h2 : j < 20
    · rw [if_pos h2, if_pos h2]
    · rw [if_neg (show ¬ j < 32 by omega), if_neg (show ¬ j < 32 by omega)]
/-- another row of a load -/
theorem cy_hA {σ' : cy_S} (k : Nat) (hk : k < n) {e : va_E} (he : cy_ar cJ cO σ' ad k = some e) (h : ∀ i, i < 7 → cy_Y cI cJ cO na σ' ad i = cy_Y cI cJ cO na σ ad i) (ho : ∀ i, i < n → cy_ob σ' ad i = cy_ob σ ad i) (ha : ∀ i, i < n → i ≠ k → cy_ar cJ cO σ' ad i = cy_ar cJ cO σ ad i) : ∀ j, cy_CT cI cJ cO n na σ' τ pl hi ad j = if j = 101 + 2 * k then some e else cy_CT cI cJ cO n na σ τ pl hi ad j := by
  intro j
  by_cases hj : j = 101 + 2 * k
  · rw [if_pos hj, hj, cy_CT_ar _ _ _ _ _ _ _ _ _ hk, he]
  · rw [if_neg hj]
    unfold cy_CT
    by_cases h7 : j < 7
    · rw [if_pos h7, if_pos h7, h j h7]
    · rw [if_neg h7, if_neg h7]
      by_cases h2 : j < 20
      · rw [if_pos h2, if_pos h2]
      · rw [if_neg h2, if_neg h2]
        by_cases h3 : j < 32
        · rw [if_pos h3, if_pos h3]
        · rw [if_neg h3, if_neg h3]
          by_cases h4 : j < 100
          · rw [if_pos h4, if_pos h4]
          · rw [if_neg h4, if_neg h4]
            by_cases h5 : (j - 100) / 2 < n
            · rw [if_pos h5, if_pos h5, ho _ h5]
              by_cases h6 : j % 2 = 0
              · rw [if_pos h6, if_pos h6]
              · rw [if_neg h6, if_neg h6, ha _ h5 (by omega)]
            · rw [if_neg h5, if_neg h5]
theorem cy_lt7 {P : Nat → Prop} (h0 : P 0) (h1 : P 1) (h2 : P 2) (h3 : P 3) (h4 : P 4) (h5 : P 5) (h6 : P 6) : ∀ i, i < 7 → P i := by
  intro i hi
  rcases (show i = 0 ∨ i = 1 ∨ i = 2 ∨ i = 3 ∨ i = 4 ∨ i = 5 ∨ i = 6 by omega) with rfl | rfl | rfl | rfl | rfl | rfl | rfl <;> assumption
theorem cy_lt12 {P : Nat → Prop} (h0 : P 0) (h1 : P 1) (h2 : P 2) (h3 : P 3) (h4 : P 4) (h5 : P 5) (h6 : P 6) (h7 : P 7) (h8 : P 8) (h9 : P 9) (h10 : P 10) (h11 : P 11) : ∀ i, i < 12 → P i := by
  intro i hi
  rcases (show i = 0 ∨ i = 1 ∨ i = 2 ∨ i = 3 ∨ i = 4 ∨ i = 5 ∨ i = 6 ∨ i = 7 ∨ i = 8 ∨ i = 9 ∨ i = 10 ∨ i = 11 by omega) with rfl | rfl | rfl | rfl | rfl | rfl | rfl | rfl | rfl | rfl | rfl | rfl <;> assumption
/-- the yard's numbers -/
theorem cy_hY0 (i : Nat) (v : Int32) : ∀ j, cy_CT cI cJ cO n na (cy_i σ 0 i v) τ pl hi ad j = if j = 0 then some (.inr (3, cy_fY (cy_i σ 0 i v) ad)) else cy_CT cI cJ cO n na σ τ pl hi ad j :=
  cy_hY 0 (by decide) rfl (cy_lt7 (fun h => absurd rfl h) (fun _ => rfl) (fun _ => rfl) (fun _ => rfl) (fun _ => rfl) (fun _ => rfl) (fun _ => rfl)) (fun _ _ => rfl) (fun _ _ => rfl)
/-- the reference's numbers -/
theorem cy_hT0 (i : Nat) (v : Int32) : ∀ j, cy_CT cI cJ cO n na σ (cy_i τ 0 i v) pl hi ad j = if j = 20 then some (.inr (4, cy_fT (cy_i τ 0 i v) hi ad)) else cy_CT cI cJ cO n na σ τ pl hi ad j :=
  cy_hT 0 (by decide) rfl (cy_lt12 (fun h => absurd rfl h) (fun _ => rfl) (fun _ => rfl) (fun _ => rfl) (fun _ => rfl) (fun _ => rfl) (fun _ => rfl) (fun _ => rfl) (fun _ => rfl) (fun _ => rfl) (fun _ => rfl) (fun _ => rfl))
theorem cy_hTh (v : Int32) : ∀ j, cy_CT cI cJ cO n na σ τ pl v ad j = if j = 20 then some (.inr (4, cy_fT τ v ad)) else cy_CT cI cJ cO n na σ τ pl hi ad j :=
  cy_hT 0 (by decide) rfl (cy_lt12 (fun h => absurd rfl h) (fun _ => rfl) (fun _ => rfl) (fun _ => rfl) (fun _ => rfl) (fun _ => rfl) (fun _ => rfl) (fun _ => rfl) (fun _ => rfl) (fun _ => rfl) (fun _ => rfl) (fun _ => rfl))
end CYU
section CYG
variable {p : Program} {l : Launch} {e : Env} {R : Room} {s : State} {m : MethodId} {args : Array Value} {below : List Frame} {meth : Method} {c : Code} {H : Heap} {locs : List Loc} {cells slots : Nat} {Q : State → Prop}
variable {cc : ByteArray} {pc : Nat} {ls : Array Slot} {rest : List Value} {D : va_G} {z : Nat} {H0 : Heap}
variable {cI cJ cO : ClassId} {n na : Nat} {σ τ : cy_S} {pl : Nat → Int32} {hi : Int32} {ad : Nat → Nat}
theorem cy_getY (hexec : p.tables.exec = Jvm.exec) (hb : c.code = cc) {own : String} {index : Nat} {Ts : List Cond} (hts : ∀ w ∈ Ts, w.before args s = true) (hin : ∀ w ∈ u_ws RX4 TX4 13, w ∈ Ts) (hown : s.vm.findClass own = some m.cls) (hK : cy_K D cI cJ cO s) (hI : cy_W D z (cy_CT cI cJ cO n na σ τ pl hi ad) ad H) (k : Nat) (hk : k < 13) (hlink : (Cond.fieldLink own index (TX4 k).1 (TX4 k).2.1 (TX4 k).2.2.1).before args s = true) {v : Value} (hv : (cy_fY σ ad)[k]? = some v) (hdg : decode cc pc = .ok (.getfield index, 3))
    (kk : W p l e R s m args below meth c H locs cells slots Q (F0 m (pc + 3) ls (v :: rest))) : W p l e R s m args below meth c H locs cells slots Q (F0 m pc ls (.ref (ad 0) :: rest)) :=
  va_get (D := D) (ci := 3) (v := v) (C := RX4) (T := TX4) (N := 13) hexec hb hts hin hown hK.1 (hI.one cy_CY) 0 rfl rfl k hk hlink (fun _ h9 => h9) hv hdg kk
theorem cy_getT (hexec : p.tables.exec = Jvm.exec) (hb : c.code = cc) {own : String} {index : Nat} {Ts : List Cond} (hts : ∀ w ∈ Ts, w.before args s = true) (hin : ∀ w ∈ u_ws RX5 TX5 19, w ∈ Ts) (hown : s.vm.findClass own = some m.cls) (hK : cy_K D cI cJ cO s) (hI : cy_W D z (cy_CT cI cJ cO n na σ τ pl hi ad) ad H) (k : Nat) (hk : k < 19) (hlink : (Cond.fieldLink own index (TX5 k).1 (TX5 k).2.1 (TX5 k).2.2.1).before args s = true) {v : Value} (hv : (cy_fT τ hi ad)[k]? = some v) (hdg : decode cc pc = .ok (.getfield index, 3))
    (kk : W p l e R s m args below meth c H locs cells slots Q (F0 m (pc + 3) ls (v :: rest))) : W p l e R s m args below meth c H locs cells slots Q (F0 m pc ls (.ref (ad 20) :: rest)) :=
  va_get (D := D) (ci := 4) (v := v) (C := RX5) (T := TX5) (N := 19) hexec hb hts hin hown hK.1 (hI.one cy_CR) 0 rfl rfl k hk hlink (fun _ h9 => h9) hv hdg kk
theorem cy_putY (hexec : p.tables.exec = Jvm.exec) (hb : c.code = cc) {own : String} {index : Nat} {Ts : List Cond} (hts : ∀ w ∈ Ts, w.before args s = true) (hin : ∀ w ∈ u_ws RX4 TX4 13, w ∈ Ts) (hown : s.vm.findClass own = some m.cls) (hK : cy_K D cI cJ cO s) (hI : cy_W D z (cy_CT cI cJ cO n na σ τ pl hi ad) ad H) (hS0 : va_S (fun q => z ≤ q) H0 H locs) (k i : Nat) (hk : k < 13) (hlink : (Cond.fieldLink own index (TX4 k).1 (TX4 k).2.1 (TX4 k).2.2.1).before args s = true) (hfin : (TX4 k).2.2.2 = false) (hd : parseFieldDescriptor (TX4 k).2.2.1 = some .int) {v : Int32} (hs : (cy_fY σ ad).set k (.int v) = cy_fY (cy_i σ 0 i v) ad) (hdg : decode cc pc = .ok (.putfield index, 3))
    (kk : ∀ (H1 : Heap) (locs1 : List Loc), cy_W D z (cy_CT cI cJ cO n na (cy_i σ 0 i v) τ pl hi ad) ad H1 → va_S (fun q => z ≤ q) H0 H1 locs1 → W p l e R s m args below meth c H1 locs1 cells slots Q (F0 m (pc + 3) ls rest)) : W p l e R s m args below meth c H locs cells slots Q (F0 m pc ls (.int v :: .ref (ad 0) :: rest)) :=
  cy_put (ci := 3) (Cn := RX4) (T := TX4) (N := 13) hexec hb hts hin tyX4 tyX4_ok nmX4 hown hK.1 hI hS0 (x := 0) cy_CY rfl k hk hlink (fun _ h9 => h9) hfin hd rfl rfl hk hdg (by rw [hs]; exact cy_hY0 i v) kk
theorem cy_putT (hexec : p.tables.exec = Jvm.exec) (hb : c.code = cc) {own : String} {index : Nat} {Ts : List Cond} (hts : ∀ w ∈ Ts, w.before args s = true) (hin : ∀ w ∈ u_ws RX5 TX5 19, w ∈ Ts) (hown : s.vm.findClass own = some m.cls) (hK : cy_K D cI cJ cO s) (hI : cy_W D z (cy_CT cI cJ cO n na σ τ pl hi ad) ad H) (hS0 : va_S (fun q => z ≤ q) H0 H locs) (k i : Nat) (hk : k < 19) (hlink : (Cond.fieldLink own index (TX5 k).1 (TX5 k).2.1 (TX5 k).2.2.1).before args s = true) (hfin : (TX5 k).2.2.2 = false) (hd : parseFieldDescriptor (TX5 k).2.2.1 = some .int) {v : Int32} (hs : (cy_fT τ hi ad).set k (.int v) = cy_fT (cy_i τ 0 i v) hi ad) (hdg : decode cc pc = .ok (.putfield index, 3))
    (kk : ∀ (H1 : Heap) (locs1 : List Loc), cy_W D z (cy_CT cI cJ cO n na σ (cy_i τ 0 i v) pl hi ad) ad H1 → va_S (fun q => z ≤ q) H0 H1 locs1 → W p l e R s m args below meth c H1 locs1 cells slots Q (F0 m (pc + 3) ls rest)) : W p l e R s m args below meth c H locs cells slots Q (F0 m pc ls (.int v :: .ref (ad 20) :: rest)) :=
  cy_put (ci := 4) (Cn := RX5) (T := TX5) (N := 19) hexec hb hts hin tyX5 tyX5_ok nmX5 hown hK.1 hI hS0 (x := 20) cy_CR rfl k hk hlink (fun _ h9 => h9) hfin hd rfl rfl hk hdg (by rw [hs]; exact cy_hT0 i v) kk
theorem cy_putH (hexec : p.tables.exec = Jvm.exec) (hb : c.code = cc) {own : String} {index : Nat} {Ts : List Cond} (hts : ∀ w ∈ Ts, w.before args s = true) (hin : ∀ w ∈ u_ws RX5 TX5 19, w ∈ Ts) (hown : s.vm.findClass own = some m.cls) (hK : cy_K D cI cJ cO s) (hI : cy_W D z (cy_CT cI cJ cO n na σ τ pl hi ad) ad H) (hS0 : va_S (fun q => z ≤ q) H0 H locs) (hlink : (Cond.fieldLink own index (TX5 18).1 (TX5 18).2.1 (TX5 18).2.2.1).before args s = true) {v : Int32} (hdg : decode cc pc = .ok (.putfield index, 3))
    (kk : ∀ (H1 : Heap) (locs1 : List Loc), cy_W D z (cy_CT cI cJ cO n na σ τ pl v ad) ad H1 → va_S (fun q => z ≤ q) H0 H1 locs1 → W p l e R s m args below meth c H1 locs1 cells slots Q (F0 m (pc + 3) ls rest)) : W p l e R s m args below meth c H locs cells slots Q (F0 m pc ls (.int v :: .ref (ad 20) :: rest)) :=
  cy_put (ci := 4) (Cn := RX5) (T := TX5) (N := 19) hexec hb hts hin tyX5 tyX5_ok nmX5 hown hK.1 hI hS0 (x := 20) cy_CR rfl 18 (by decide) hlink (fun _ h9 => h9) rfl (ty := .int) (by decide +kernel) rfl rfl (show 18 < 19 by decide) hdg (cy_hTh v) kk
end CYG
