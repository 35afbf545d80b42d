/-! THE STATE: two tables of numbers, as the reference holds them. First table, row 0: 0 loads, 1 lines, 2 refused, 3 casts, 4 indexes, 5 stores, 6 away; rows 1 sorts, 2 sizes, 3 weights, 4 things, 5 bays, 6 gates, 7 views, 8 rates. Second table: 0 numbers, 1 sums. -/
abbrev cy_S : Type := (Nat → Nat → Int32) × (Nat → Nat → Int64)
def cy_u {α : Type} (f : Nat → Nat → α) (i j : Nat) (v : α) : Nat → Nat → α := fun a b => if a = i then (if b = j then v else f a b) else f a b
def cy_i (σ : cy_S) (i j : Nat) (v : Int32) : cy_S := (cy_u σ.1 i j v, σ.2)
def cy_l (σ : cy_S) (i j : Nat) (v : Int64) : cy_S := (σ.1, cy_u σ.2 i j v)
theorem cy_u_self {α : Type} (f : Nat → Nat → α) (i j : Nat) : cy_u f i j (f i j) = f := by
  funext a b
  unfold cy_u
  by_cases h1 : a = i
  · by_cases h2 : b = j
    · rw [if_pos h1, if_pos h2, h1, h2]
    · rw [if_pos h1, if_neg h2]
  · rw [if_neg h1]
theorem cy_u_row {α : Type} (f : Nat → Nat → α) (i j : Nat) (v : α) : cy_u f i j v i = va_up (f i) j v := by
  funext b
  simp [cy_u, va_up]
theorem cy_u_ne {α : Type} (f : Nat → Nat → α) {i a : Nat} (j : Nat) (v : α) (h : a ≠ i) : cy_u f i j v a = f a := by
  funext b
  simp [cy_u, h]
theorem cy_u_at {α : Type} (f : Nat → Nat → α) (i j : Nat) (v : α) : cy_u f i j v i j = v := by simp [cy_u]
/-- where a number of a load stands for its object -/
def cy_rf (ad : Nat → Nat) (x : Int32) : Option Nat := if x = -1 then none else some (ad (100 + 2 * x.toNatClampNeg))
def cy_kd (s : Int32) : Nat := if s = 0 ∨ s = 1 ∨ s = 2 then 0 else if s = 4 ∨ s = 5 ∨ s = 6 then 1 else 2
def cy_ob (σ : cy_S) (ad : Nat → Nat) (k : Nat) : va_E := if cy_kd (σ.1 1 k) = 1 then .inr (1, [.int (nI k), .int (σ.1 1 k), .int (σ.1 3 k)]) else .inr (cy_kd (σ.1 1 k), [.int (nI k), .int (σ.1 1 k), .ref (ad (101 + 2 * k))])
def cy_ar (cJ cO : ClassId) (σ : cy_S) (ad : Nat → Nat) (k : Nat) : Option va_E :=
  if cy_kd (σ.1 1 k) = 0 then some (.inl (cJ, (σ.1 2 k).toNatClampNeg, .inr (.inl (fun j => if j < 6 then σ.2 0 (6 * k + j) else 0))))
  else if cy_kd (σ.1 1 k) = 1 then none
  else some (.inl (cO, (σ.1 2 k).toNatClampNeg, .inr (.inr (.inr (.inr (fun j => if j < 6 then cy_rf ad (σ.1 4 (6 * k + j)) else none))))))
/-- the yard's own cells: the object, its six rows -/
def cy_Y (cI cJ cO : ClassId) (na : Nat) (σ : cy_S) (ad : Nat → Nat) : Nat → va_E
  | 0 => .inr (3, [.ref (ad 1), .int (σ.1 0 0), .ref (ad 2), .ref (ad 3), .ref (ad 4), .ref (ad 5), .ref (ad 6), .int (σ.1 0 1), .int (σ.1 0 2), .int (σ.1 0 3), .int (σ.1 0 4), .int (σ.1 0 5), .int (σ.1 0 6)])
  | 1 => .inl (cO, 80, .inr (.inr (.inr (.inr (fun j => if j < na then some (ad (100 + 2 * j)) else none)))))
  | 2 => .inl (cO, 12, .inr (.inr (.inr (.inr (fun j => cy_rf ad (σ.1 5 j))))))
  | 3 => .inl (cI, 6, .inl (σ.1 6))
  | 4 => .inl (cJ, 6, .inr (.inl (σ.2 1)))
  | 5 => .inl (cI, 10, .inl (σ.1 7))
  | _ => .inl (cI, 10, .inl (σ.1 8))
/-- the reference's cells: the object, its eleven rows -/
def cy_T (cI cJ : ClassId) (τ : cy_S) (pl : Nat → Int32) (hi : Int32) (ad : Nat → Nat) : Nat → va_E
  | 0 => .inr (4, [.int (τ.1 0 0), .ref (ad 21), .ref (ad 22), .ref (ad 23), .ref (ad 24), .ref (ad 25), .ref (ad 26), .ref (ad 27), .ref (ad 28), .int (τ.1 0 1), .ref (ad 29), .ref (ad 30), .int (τ.1 0 2), .int (τ.1 0 3), .int (τ.1 0 4), .int (τ.1 0 5), .int (τ.1 0 6), .ref (ad 31), .int hi])
  | 1 => .inl (cI, 80, .inl (τ.1 1))
  | 2 => .inl (cI, 80, .inl (τ.1 2))
  | 3 => .inl (cI, 80, .inl (τ.1 3))
  | 4 => .inl (cJ, 480, .inr (.inl (τ.2 0)))
  | 5 => .inl (cI, 480, .inl (τ.1 4))
  | 6 => .inl (cI, 12, .inl (τ.1 5))
  | 7 => .inl (cI, 6, .inl (τ.1 6))
  | 8 => .inl (cJ, 6, .inr (.inl (τ.2 1)))
  | 9 => .inl (cI, 10, .inl (τ.1 7))
  | 10 => .inl (cI, 10, .inl (τ.1 8))
  | _ => .inl (cI, 60, .inl pl)
/-- all cells by their labels: 0..6 the yard, 20..31 the reference, 100 + 2 k the load k, 101 + 2 k its row -/
def cy_CT (cI cJ cO : ClassId) (n na : Nat) (σ τ : cy_S) (pl : Nat → Int32) (hi : Int32) (ad : Nat → Nat) (j : Nat) : Option va_E :=
  if j < 7 then some (cy_Y cI cJ cO na σ ad j) else if j < 20 then none else if j < 32 then some (cy_T cI cJ τ pl hi ad (j - 20)) else if j < 100 then none
  else if (j - 100) / 2 < n then (if j % 2 = 0 then some (cy_ob σ ad ((j - 100) / 2)) else cy_ar cJ cO σ ad ((j - 100) / 2)) else none
theorem cy_CT_ob (cI cJ cO : ClassId) {n : Nat} (na : Nat) (σ τ : cy_S) (pl : Nat → Int32) (hi : Int32) (ad : Nat → Nat) {k : Nat} (h : k < n) : cy_CT cI cJ cO n na σ τ pl hi ad (100 + 2 * k) = some (cy_ob σ ad k) := by
  unfold cy_CT
  rw [if_neg (by omega), if_neg (by omega), if_neg (by omega), if_neg (by omega), show (100 + 2 * k - 100) / 2 = k by omega, if_pos h, if_pos (by omega)]
theorem cy_CT_ar (cI cJ cO : ClassId) {n : Nat} (na : Nat) (σ τ : cy_S) (pl : Nat → Int32) (hi : Int32) (ad : Nat → Nat) {k : Nat} (h : k < n) : cy_CT cI cJ cO n na σ τ pl hi ad (101 + 2 * k) = cy_ar cJ cO σ ad k := by
  unfold cy_CT
  rw [if_neg (by omega), if_neg (by omega), if_neg (by omega), if_neg (by omega), show (101 + 2 * k - 100) / 2 = k by omega, if_pos h, if_neg (by omega)]
/-- a heap holds labelled cells, at addresses that differ, all from z on -/
def cy_W (D : va_G) (z : Nat) (C : Nat → Option va_E) (ad : Nat → Nat) (H : Heap) : Prop := (∀ (j : Nat) (e : va_E), C j = some e → va_at D vwCl (ad j, e) H ∧ z ≤ ad j) ∧ ∀ i j : Nat, C i ≠ none → C j ≠ none → ad i = ad j → i = j
theorem cy_W.one {D : va_G} {z : Nat} {C : Nat → Option va_E} {ad : Nat → Nat} {H : Heap} (h : cy_W D z C ad H) {j : Nat} {e : va_E} (hC : C j = some e) : va_P D vwCl [(ad j, e)] H := by
  intro k q hk
  match k, hk with
  | 0, hk => cases hk; exact (h.1 j e hC).1
  | k + 1, hk => simp at hk
theorem cy_W.upd {D : va_G} {z : Nat} {C C' : Nat → Option va_E} {ad : Nat → Nat} {H H1 : Heap} (h : cy_W D z C ad H) {x : Nat} {e e' : va_E} (hC : C x = some e) (hU : ∀ j, C' j = if j = x then some e' else C j) (he : va_at D vwCl (ad x, e') H1) (oq : ∀ q : Nat, q ≠ ad x → H1[q]? = H[q]?) : cy_W D z C' ad H1 := by
  have hin : ∀ i, C' i ≠ none → C i ≠ none := by
    intro i hi
    rw [hU] at hi
    by_cases hil : i = x
    · rw [hil, hC]; exact fun q => by cases q
    · rwa [if_neg hil] at hi
  refine ⟨fun j y hj => ?_, fun i j hi hj hij => h.2 i j (hin i hi) (hin j hj) hij⟩
  rw [hU] at hj
  by_cases hjl : j = x
  · subst hjl
    rw [if_pos rfl] at hj
    cases hj
    exact ⟨he, (h.1 j e hC).2⟩
  · rw [if_neg hjl] at hj
    have h1 := h.1 j y hj
    exact ⟨h1.1.kept (oq _ (fun q => hjl (h.2 j x (by rw [hj]; exact fun q => by cases q) (by rw [hC]; exact fun q => by cases q) q))), h1.2⟩
theorem cy_W.lt {D : va_G} {z : Nat} {C : Nat → Option va_E} {ad : Nat → Nat} {H : Heap} (h : cy_W D z C ad H) {j : Nat} {e : va_E} (hC : C j = some e) : ad j < H.size := (h.1 j e hC).1.lt
theorem cy_W.grow {D : va_G} {z : Nat} {C : Nat → Option va_E} {ad : Nat → Nat} {H H1 : Heap} (h : cy_W D z C ad H) (o : ∀ q : Nat, q < H.size → H1[q]? = H[q]?) : cy_W D z C ad H1 := ⟨fun j e hj => ⟨(h.1 j e hj).1.kept (o _ (h.lt hj)), (h.1 j e hj).2⟩, h.2⟩
/-- the kinds of arrays -/
abbrev cy_ty (cI cJ cO : ClassId) : List (ClassId × FieldType) := [(cI, .int), (cJ, .long), (cO, .object "CustomsYard$Load")]
/-- what the tables say of casts among the loads' classes -/
def cy_As (C T : String) (U : State) : Prop := ∃ c t : ClassId, U.vm.findClass C = some c ∧ U.vm.findClass T = some t ∧ U.vm.assignable c t = true
theorem cy_As.moved {C T : String} {u U : State} (hvm : u.vm.Alike U.vm) (h : cy_As C T u) : cy_As C T U := by
  obtain ⟨c, t, h1, h2, h3⟩ := h
  exact ⟨c, t, by rw [hvm.findClass]; exact h1, by rw [hvm.findClass]; exact h2, by rw [hvm.assignable]; exact h3⟩
theorem cy_Dm {x : MethodName} {s U : State} (hvm : s.vm.Alike U.vm) (hZ : va_Nw (.declares x) s) : va_Nw (.declares x) U := va_tabs rfl (rfl : (s.setVm U.vm).vm = U.vm) (by rw [Cond.declares_setVm hvm]; exact hZ)
def cy_N (U : State) : Prop := va_Nc RX2 RX1 U ∧ va_Nc RX3 RX1 U ∧ va_Nc RX1 RX3 U ∧ va_Nc RX2 RX3 U ∧ cy_As RX1 RX0 U ∧ cy_As RX2 RX0 U ∧ cy_As RX3 RX0 U ∧ va_Nw (.declares ⟨"CustomsYard$Load", "weigh", "(I)J"⟩) U ∧ va_Nw (.declares ⟨"CustomsYard$Load", "comesAs", "(I)I"⟩) U ∧ va_AO "CustomsYard$Load" U
theorem cy_N.moved {u U : State} (hvm : u.vm.Alike U.vm) (h : cy_N u) : cy_N U := ⟨h.1.moved hvm, h.2.1.moved hvm, h.2.2.1.moved hvm, h.2.2.2.1.moved hvm, h.2.2.2.2.1.moved hvm, h.2.2.2.2.2.1.moved hvm, h.2.2.2.2.2.2.1.moved hvm, cy_Dm hvm h.2.2.2.2.2.2.2.1, cy_Dm hvm h.2.2.2.2.2.2.2.2.1, h.2.2.2.2.2.2.2.2.2.moved hvm⟩
/-- the tables, as every method's start has them -/
def cy_K (D : va_G) (cI cJ cO : ClassId) (U : State) : Prop := va_K D vwCl (cy_ty cI cJ cO) U ∧ cy_N U
theorem cy_K.moved {D : va_G} {cI cJ cO : ClassId} {u U : State} (hvm : u.vm.Alike U.vm) (h : cy_K D cI cJ cO u) : cy_K D cI cJ cO U := ⟨va_K.moved hvm h.1, h.2.moved hvm⟩
/-- a method's start: the tables, and what the heap holds -/
def cy_P (D : va_G) (cI cJ cO : ClassId) (I : Heap → Prop) (av : List Value) : Array Value → State → Prop := fun v U => v = av.toArray ∧ cy_K D cI cJ cO U ∧ I U.heap
/-- a method's end: an answer, and the heap as it was -/
def cy_Q (v : Value) : Array Value → State → Outcome → State → Prop := fun _ st oc t => oc = .returned (some v) ∧ t.heap = st.heap
/-- a method's end: an answer, and what the heap holds then; nothing below z has changed -/
def cy_M {S : Type} (z : Nat) (v : S → Option Value) (I : S → Heap → Prop) : Array Value → State → Outcome → State → Prop := fun _ st oc t => ∃ u : S, oc = .returned (v u) ∧ I u t.heap ∧ va_F (fun q => z ≤ q) st t
theorem cy_blind {D : va_G} {cI cJ cO : ClassId} {I : Heap → Prop} {av : List Value} : FrameBlind (cy_P D cI cJ cO I av) := fun a U g mk q => ⟨q.1, q.2.1.moved (u := U) (U := U.calling g mk a) (Vm.Alike.refl U.vm), q.2.2⟩
theorem cy_preS {s : State} {H : Heap} {D : va_G} {cI cJ cO : ClassId} {I : Heap → Prop} {av : List Value} (hK : cy_K D cI cJ cO s) (hI : I H) : PreS s H (cy_P D cI cJ cO I av) av := ⟨cy_blind, fun U hU hW => ⟨rfl, hK.moved hW.alike, by rw [hU]; exact hI⟩⟩
theorem cy_recv {s : State} {H : Heap} {D : va_G} {cI cJ cO : ClassId} {a ci : Nat} {fs : List Value} {q : vw_C} (hK : cy_K D cI cJ cO s) (h : va_at D vwCl (a, .inr (ci, fs)) H) (hc : vwCl[ci]? = some q) : ∃ cell : Cell, H[a]? = some cell ∧ cell.vm.isStatics = false ∧ s.vm.findClass q.1 = some cell.cls := by
  obtain ⟨q', h1, cell, g1, g2, g3, -⟩ := h
  exact ⟨cell, g1, by rw [g3]; rfl, by rw [g2]; exact (hK.1.1 ci q hc).2.1⟩
theorem cy_preV {s : State} {H : Heap} {D : va_G} {cI cJ cO : ClassId} {I : Heap → Prop} {b : Nat} {av : List Value} {C : String} (hK : cy_K D cI cJ cO s) (hI : I H) (hr : ∃ cell : Cell, H[b]? = some cell ∧ cell.vm.isStatics = false ∧ s.vm.findClass C = some cell.cls) : PreV s H C b (cy_P D cI cJ cO I (.ref b :: av)) av := ⟨cy_blind, hr, fun U hU hW => ⟨rfl, hK.moved hW.alike, by rw [hU]; exact hI⟩⟩
section CYC
variable {p : Program} {l : Launch} {e : Env} {R : Room} {s : State} {m : MethodId} {args : Array Value} {below : List Frame} {meth : Method} {c : Code} {H : Heap} {locs : List Loc} {cells slots : Nat} {Q : State → Prop}
variable {pc : Nat} {ls : Array Slot} {rest st0 : List Value} {a : Array Value} {H0 : Heap} {mc ms z : Nat}
/-- behind a call that leaves the heap as it was -/
theorem cy_callp {v : Value} (hr : va_Run p l e R s m args below meth c H locs cells slots 0 0 (F0 m pc ls st0) rest (cy_Q v a) (fun _ => False)) (kk : W p l e R s m args below meth c H locs cells slots Q (F0 m (pc + 3) ls (v :: rest))) : W p l e R s m args below meth c H locs cells slots Q (F0 m pc ls st0) := by
  intro T hT X
  obtain ⟨v', st₀, t, T', L, h0, X', hL, e1, e2, ⟨hv, hh⟩, st⟩ := hr T hT X
  cases hv
  obtain ⟨t2, a1, b1⟩ := kk T' (by rw [e1, hh, h0]) (Stand.forget X' (fun q h => (hL q h).elim))
  exact ⟨t2, st t2 a1, b1⟩
/-- behind a call that changes the heap -/
theorem cy_callm {S : Type} {v : S → Option Value} {I : S → Heap → Prop} (hr : va_Run p l e R s m args below meth c H locs cells slots mc ms (F0 m pc ls st0) rest (cy_M z v I a) (fun q => z ≤ q)) (hS : va_S (fun q => z ≤ q) H0 H locs)
    (kk : ∀ (u : S) (H1 : Heap) (locs1 : List Loc), I u H1 → H.size ≤ H1.size → va_S (fun q => z ≤ q) H0 H1 locs1 → W p l e R s m args below meth c H1 locs1 (cells + mc) (slots + ms) Q (F0 m (pc + 3) ls ((v u).toList ++ rest))) : W p l e R s m args below meth c H locs cells slots Q (F0 m pc ls st0) := by
  intro T hT X
  obtain ⟨v', st₀, t, T', L, h0, X', hL, e1, e2, ⟨u, hv, hi, hz, hk⟩, st⟩ := hr T hT X
  cases hv
  rw [h0] at hz hk
  obtain ⟨t2, a1, b1⟩ := kk u T'.heap (locs ++ L) (by rw [e1]; exact hi) (by rw [e1]; exact hz)
    ⟨Nat.le_trans hS.1 (by rw [e1]; exact hz), fun q h1 h2 => by rw [e1, hk q (Nat.lt_of_lt_of_le h1 hS.1) h2]; exact hS.2.1 q h1 h2, fun q hq => by
      rcases List.mem_append.mp hq with h | h
      · exact hS.2.2 q h
      · exact hL q h⟩ T' rfl X'
  exact ⟨t2, st t2 a1, b1⟩
end CYC
section CYR
variable {p : Program} {l : Launch} {e : Env} {R : Room} {s : State} {m : MethodId} {args : Array Value} {below : List Frame} {meth : Method} {c : Code} {H : Heap} {locs : List Loc} {cells slots : Nat} {Q : State → Prop}
variable {cc : ByteArray} {pc : Nat} {ls : Array Slot} {rest : List Value} {D : va_G} {a z : Nat} {H0 : Heap} {tys : List (ClassId × FieldType)} {C C' : Nat → Option va_E} {ad : Nat → Nat}
/-- putfield on one cell -/
theorem cy_putR (hexec : p.tables.exec = Jvm.exec) (hb : c.code = cc) {own ref Cn : String} {T : u_T} {N ci index : Nat} {Ts : List Cond} (hts : ∀ w ∈ Ts, w.before args s = true) (hin : ∀ w ∈ u_ws Cn T N, w ∈ Ts) (ty0 : Nat → FieldType) (hty : ∀ k, k < N → parseFieldDescriptor (T k).2.2.1 = some (ty0 k)) (hnm : ∀ a, a < N → ∀ b, b < N → a ≠ b → (T a).2.1 ≠ (T b).2.1) (hown : s.vm.findClass own = some m.cls) (hK : va_K D vwCl tys s) (hS0 : va_S (fun q => z ≤ q) H0 H locs) (hz : z ≤ a) {fs : List Value} (he : va_at D vwCl (a, .inr (ci, fs)) H) (hc : vwCl[ci]? = some (Cn, T, N)) (k : Nat) (hk : k < N) (hlink : (Cond.fieldLink own index ref (T k).2.1 (T k).2.2.1).before args s = true) (hsame : ∀ x, s.fieldFound? (T k).1 (T k).2.1 (T k).2.2.1 = some x → s.fieldFound? ref (T k).2.1 (T k).2.2.1 = some x) (hfin : (T k).2.2.2 = false) {ty : FieldType} {v : Value} (hd : parseFieldDescriptor (T k).2.2.1 = some ty) (hn : narrow ty v = v) (hfit : fits ty v = true) (hl : k < fs.length)
    (hdg : decode cc pc = .ok (.putfield index, 3)) (kk : ∀ (H1 : Heap) (locs1 : List Loc), va_at D vwCl (a, .inr (ci, fs.set k v)) H1 → H1.size = H.size → (∀ q : Nat, q ≠ a → H1[q]? = H[q]?) → va_S (fun q => z ≤ q) H0 H1 locs1 → W p l e R s m args below meth c H1 locs1 cells slots Q (F0 m (pc + 3) ls rest)) : W p l e R s m args below meth c H locs cells slots Q (F0 m pc ls (v :: .ref a :: rest)) := by
  have hap := va_apart (own := own) hts hin ty0 hty hnm hK hc
  obtain ⟨r, h1, cell, q1, q2, q3, q4⟩ := he
  have hr : r = (Cn, T, N) := Option.some.inj (h1.symm.trans hc)
  subst hr
  obtain ⟨hS, hfc, kC, hkC, hkind⟩ := hK.1 ci _ hc
  obtain ⟨cf, kf, fi, f, hi, hsl⟩ := hS k hk
  have hlay := hts _ (hin _ (u_in_lay hk))
  unfold u_lay at hlay
  rw [if_neg (by rw [hfin]; decide)] at hlay
  have hst := (u_facts hfc hkC (u_lays hts hin hk) hi).1
  have h6 := u_store hfc hkC hkind hlay hi hd hn hfit
  refine W.putK hexec hb (f := f) ⟨hown, hlink, ⟨_, _, _, hsame _ hi⟩, hst⟩ (by rw [q2]; exact h6) q1 q3 (by rw [hsl]; exact k2_hasslot (q4 k hk)) rfl rfl hdg fun H' e1 e2 e3 => ?_
  rw [hsl] at e1 ⊢
  exact kk H' _ ⟨_, hc, t_OB.to (V := updV (vp_V fs) k v) ⟨_, e1, q2, q3, t_set q4 hap hk v⟩ (fun j _ => vp_updV_set hl v j)⟩ e2 e3 (hS0.put e2 e3 hz)
/-- putfield of a final field in a constructor, on one cell -/
theorem cy_putF (hexec : p.tables.exec = Jvm.exec) (hb : c.code = cc) {own ref Cn : String} {T : u_T} {N ci index : Nat} {Ts : List Cond} (hts : ∀ w ∈ Ts, w.before args s = true) (hin : ∀ w ∈ u_ws Cn T N, w ∈ Ts) (ty0 : Nat → FieldType) (hty : ∀ k, k < N → parseFieldDescriptor (T k).2.2.1 = some (ty0 k)) (hnm : ∀ a, a < N → ∀ b, b < N → a ≠ b → (T a).2.1 ≠ (T b).2.1) (hown : s.vm.findClass own = some m.cls) (hK : va_K D vwCl tys s) (hS0 : va_S (fun q => z ≤ q) H0 H locs) (hz : z ≤ a) {fs : List Value} (he : va_at D vwCl (a, .inr (ci, fs)) H) (hc : vwCl[ci]? = some (Cn, T, N)) (k : Nat) (hk : k < N) (hlink : (Cond.fieldLink own index ref (T k).2.1 (T k).2.2.1).before args s = true) (hsame : ∀ x, s.fieldFound? (T k).1 (T k).2.1 (T k).2.2.1 = some x → s.fieldFound? ref (T k).2.1 (T k).2.2.1 = some x) (hfin : (T k).2.2.2 = true) (hin2 : meth.name = "<init>") (hdecl : (T k).1 = own) {ty : FieldType} {v : Value} (hd : parseFieldDescriptor (T k).2.2.1 = some ty) (hn : narrow ty v = v) (hfit : fits ty v = true) (hl : k < fs.length)
    (hdg : decode cc pc = .ok (.putfield index, 3)) (kk : ∀ (H1 : Heap) (locs1 : List Loc), va_at D vwCl (a, .inr (ci, fs.set k v)) H1 → H1.size = H.size → (∀ q : Nat, q ≠ a → H1[q]? = H[q]?) → va_S (fun q => z ≤ q) H0 H1 locs1 → W p l e R s m args below meth c H1 locs1 cells slots Q (F0 m (pc + 3) ls rest)) : W p l e R s m args below meth c H locs cells slots Q (F0 m pc ls (v :: .ref a :: rest)) := by
  have hap := va_apart (own := own) hts hin ty0 hty hnm hK hc
  obtain ⟨r, h1, cell, q1, q2, q3, q4⟩ := he
  have hr : r = (Cn, T, N) := Option.some.inj (h1.symm.trans hc)
  subst hr
  obtain ⟨hS, hfc, kC, hkC, hkind⟩ := hK.1 ci _ hc
  obtain ⟨cf, kf, fi, f, hi, hsl⟩ := hS k hk
  have hlay := hts _ (hin _ (u_in_lay hk))
  unfold u_lay at hlay
  rw [if_pos hfin] at hlay
  have hst := (u_facts hfc hkC (u_lays hts hin hk) hi).1
  have hcf : m.cls = cf := by
    obtain ⟨_, _, c', _, _, _, -, -, hf', -, -, -, hown2, -⟩ := Cond.laysFinal_spec hlay
    have e1 : c' = cf := by have := hi.symm.trans hf'; simp at this; exact this.1.symm
    rw [hdecl] at hown2
    rw [← e1]; exact Option.some.inj (hown.symm.trans hown2)
  have h6 := u_fits hfc hkC hkind (Or.inr hlay) hi hd hn hfit
  refine W.putFinK hexec hb hown hlink (hsame _ hi) hst hcf hin2 (by rw [q2]; exact h6) q1 q3 (by rw [hsl]; exact k2_hasslot (q4 k hk)) rfl rfl hdg fun H' e1 e2 e3 => ?_
  rw [hsl] at e1 ⊢
  exact kk H' _ ⟨_, hc, t_OB.to (V := updV (vp_V fs) k v) ⟨_, e1, q2, q3, t_set q4 hap hk v⟩ (fun j _ => vp_updV_set hl v j)⟩ e2 e3 (hS0.put e2 e3 hz)
/-- putfield in the labelled world -/
theorem cy_put (hexec : p.tables.exec = Jvm.exec) (hb : c.code = cc) {own ref Cn : String} {T : u_T} {N ci index : Nat} {Ts : List Cond} (hts : ∀ w ∈ Ts, w.before args s = true) (hin : ∀ w ∈ u_ws Cn T N, w ∈ Ts) (ty0 : Nat → FieldType) (hty : ∀ k, k < N → parseFieldDescriptor (T k).2.2.1 = some (ty0 k)) (hnm : ∀ a, a < N → ∀ b, b < N → a ≠ b → (T a).2.1 ≠ (T b).2.1) (hown : s.vm.findClass own = some m.cls) (hK : va_K D vwCl tys s) (hI : cy_W D z C ad H) (hS0 : va_S (fun q => z ≤ q) H0 H locs) {x : Nat} {fs : List Value} (he : C x = some (.inr (ci, fs))) (hc : vwCl[ci]? = some (Cn, T, N)) (k : Nat) (hk : k < N) (hlink : (Cond.fieldLink own index ref (T k).2.1 (T k).2.2.1).before args s = true) (hsame : ∀ x, s.fieldFound? (T k).1 (T k).2.1 (T k).2.2.1 = some x → s.fieldFound? ref (T k).2.1 (T k).2.2.1 = some x) (hfin : (T k).2.2.2 = false) {ty : FieldType} {v : Value} (hd : parseFieldDescriptor (T k).2.2.1 = some ty) (hn : narrow ty v = v) (hfit : fits ty v = true) (hl : k < fs.length)
    (hdg : decode cc pc = .ok (.putfield index, 3)) (hU : ∀ j, C' j = if j = x then some (.inr (ci, fs.set k v)) else C j) (kk : ∀ (H1 : Heap) (locs1 : List Loc), cy_W D z C' ad H1 → va_S (fun q => z ≤ q) H0 H1 locs1 → W p l e R s m args below meth c H1 locs1 cells slots Q (F0 m (pc + 3) ls rest)) : W p l e R s m args below meth c H locs cells slots Q (F0 m pc ls (v :: .ref (ad x) :: rest)) :=
  cy_putR hexec hb hts hin ty0 hty hnm hown hK hS0 (hI.1 x _ he).2 (hI.1 x _ he).1 hc k hk hlink hsame hfin hd hn hfit hl hdg (fun H1 locs1 h1 _ oq hS => kk H1 locs1 (hI.upd he hU h1 oq) hS)
/-- iastore in the labelled world -/
theorem cy_iast (hexec : p.tables.exec = Jvm.exec) (hb : c.code = cc) (hK : va_K D vwCl tys s) (hI : cy_W D z C ad H) (hS : va_S (fun q => z ≤ q) H0 H locs) (t0 : Nat) {x : Nat} {cA : ClassId} {n : Nat} {f : Nat → Int32} (he : C x = some (.inl (cA, n, .inl f))) (ht : tys[t0]? = some (cA, .int)) {i v : Int32} (hin : vp_in i n) (hdg : decode cc pc = .ok (.iastore, 1))
    (hU : ∀ j, C' j = if j = x then some (.inl (cA, n, .inl (va_up f i.toNatClampNeg v))) else C j) (kk : ∀ (H1 : Heap) (locs1 : List Loc), cy_W D z C' ad H1 → va_S (fun q => z ≤ q) H0 H1 locs1 → W p l e R s m args below meth c H1 locs1 cells slots Q (F0 m (pc + 1) ls rest)) : W p l e R s m args below meth c H locs cells slots Q (F0 m pc ls (.int v :: .int i :: .ref (ad x) :: rest)) := by
  refine W.iast hexec hb (hI.1 x _ he).1 ((hK.2 t0 _ ht).1 n (fun j => .int (f j))) (fun q => by cases q) (by show ¬ (i < 0 ∨ (arrV _ _ _).slots.size ≤ _); rw [arrV_size]; exact hin) rfl rfl hdg fun H1 e z oq => ?_
  refine kk H1 _ (hI.upd he hU ?_ oq) (hS.put z oq (hI.1 x _ he).2)
  show H1[ad x]? = some (vp_cell _ _)
  rw [e]
  rw [vp_cell_i, vp_cell_i, arrV_store]
  congr 2
  funext q
  by_cases hq : q = i.toNatClampNeg
  · subst hq
    simp [updV, va_up]
  · simp [updV, va_up, hq]
/-- lastore in the labelled world -/
theorem cy_last (hexec : p.tables.exec = Jvm.exec) (hb : c.code = cc) (hK : va_K D vwCl tys s) (hI : cy_W D z C ad H) (hS : va_S (fun q => z ≤ q) H0 H locs) (t0 : Nat) {x : Nat} {cA : ClassId} {n : Nat} {f : Nat → Int64} (he : C x = some (.inl (cA, n, .inr (.inl f)))) (ht : tys[t0]? = some (cA, .long)) {i : Int32} {v : Int64} (hin : vp_in i n) (hdg : decode cc pc = .ok (.lastore, 1))
    (hU : ∀ j, C' j = if j = x then some (.inl (cA, n, .inr (.inl (va_up f i.toNatClampNeg v)))) else C j) (kk : ∀ (H1 : Heap) (locs1 : List Loc), cy_W D z C' ad H1 → va_S (fun q => z ≤ q) H0 H1 locs1 → W p l e R s m args below meth c H1 locs1 cells slots Q (F0 m (pc + 1) ls rest)) : W p l e R s m args below meth c H locs cells slots Q (F0 m pc ls (.long v :: .int i :: .ref (ad x) :: rest)) := by
  refine W.last hexec hb (hI.1 x _ he).1 ((hK.2 t0 _ ht).1 n (fun j => .long (f j))) (fun q => by cases q) (by show ¬ (i < 0 ∨ (arrV _ _ _).slots.size ≤ _); rw [arrV_size]; exact hin) rfl rfl hdg fun H1 e z oq => ?_
  refine kk H1 _ (hI.upd he hU ?_ oq) (hS.put z oq (hI.1 x _ he).2)
  show H1[ad x]? = some (vp_cell _ _)
  rw [e]
  rw [vp_cell_l, vp_cell_l, arrV_store]
  congr 2
  funext q
  by_cases hq : q = i.toNatClampNeg
  · subst hq
    simp [updV, va_up]
  · simp [updV, va_up, hq]
/-- aastore of an object in the labelled world -/
theorem cy_aast (hexec : p.tables.exec = Jvm.exec) (hb : c.code = cc) (hK : va_K D vwCl tys s) (hI : cy_W D z C ad H) (hS : va_S (fun q => z ≤ q) H0 H locs) (t0 : Nat) {x : Nat} {E : String} {cA : ClassId} {n v : Nat} {f : Nat → Option Nat} (he : C x = some (.inl (cA, n, .inr (.inr (.inr (.inr f)))))) (ht : tys[t0]? = some (cA, .object E)) (hr : va_Any E s H v) {i : Int32} (hin : vp_in i n) (hdg : decode cc pc = .ok (.aastore, 1))
    (hU : ∀ j, C' j = if j = x then some (.inl (cA, n, .inr (.inr (.inr (.inr (va_up f i.toNatClampNeg (some v))))))) else C j) (kk : ∀ (H1 : Heap) (locs1 : List Loc), cy_W D z C' ad H1 → va_S (fun q => z ≤ q) H0 H1 locs1 → W p l e R s m args below meth c H1 locs1 cells slots Q (F0 m (pc + 1) ls rest)) : W p l e R s m args below meth c H locs cells slots Q (F0 m pc ls (.ref v :: .int i :: .ref (ad x) :: rest)) := by
  have hlt : i.toNatClampNeg < n := Nat.not_le.mp fun q => hin (Or.inr q)
  have h0 : ¬ i < 0 := fun q => hin (Or.inl q)
  obtain ⟨cellV, g1, g3, ⟨kC, hkC⟩, hasg⟩ := hr
  obtain ⟨kA, comp, k1, k2, k3, -⟩ := (hK.2 t0 _ ht).2
  obtain ⟨kE, hkE, -⟩ := Vm.findClass_spec k3
  refine W.aast hexec hb (hI.1 x _ he).1 (fun q h => by cases h) (fun h => by cases h) k1 k2 rfl hkE ⟨h0, by show _ < (arrV _ _ _).slots.size; rw [arrV_size]; exact hlt⟩ g1 (fun q h => by rw [h] at g3; cases g3) hkC (hasg _ k3) rfl rfl hdg fun H1 e z oq => ?_
  refine kk H1 _ (hI.upd he hU ?_ oq) (hS.put z oq (hI.1 x _ he).2)
  show H1[ad x]? = some (vp_cell _ _)
  rw [e]
  rw [vp_cell_q, vp_cell_q, arrV_store]
  congr 2
  funext q
  by_cases hq : q = i.toNatClampNeg
  · subst hq
    simp [updV, va_up, va_rf]
  · simp [updV, va_up, hq]
/-- aastore of null in the labelled world -/
theorem cy_aastN (hexec : p.tables.exec = Jvm.exec) (hb : c.code = cc) (hK : va_K D vwCl tys s) (hI : cy_W D z C ad H) (hS : va_S (fun q => z ≤ q) H0 H locs) (t0 : Nat) {x : Nat} {E : String} {cA : ClassId} {n : Nat} {f : Nat → Option Nat} (he : C x = some (.inl (cA, n, .inr (.inr (.inr (.inr f)))))) (ht : tys[t0]? = some (cA, .object E)) {i : Int32} (hin : vp_in i n) (hdg : decode cc pc = .ok (.aastore, 1))
    (hU : ∀ j, C' j = if j = x then some (.inl (cA, n, .inr (.inr (.inr (.inr (va_up f i.toNatClampNeg none)))))) else C j) (kk : ∀ (H1 : Heap) (locs1 : List Loc), cy_W D z C' ad H1 → va_S (fun q => z ≤ q) H0 H1 locs1 → W p l e R s m args below meth c H1 locs1 cells slots Q (F0 m (pc + 1) ls rest)) : W p l e R s m args below meth c H locs cells slots Q (F0 m pc ls (.null :: .int i :: .ref (ad x) :: rest)) := by
  refine va_WaastN (C := E) hexec hb (hI.1 x _ he).1 ((hK.2 t0 _ ht).1 n (fun j => va_rf (f j))) (fun h => by cases h) (by show ¬ (i < 0 ∨ (arrV _ _ _).slots.size ≤ _); rw [arrV_size]; exact hin) rfl rfl hdg fun H1 e z oq => ?_
  refine kk H1 _ (hI.upd he hU ?_ oq) (hS.put z oq (hI.1 x _ he).2)
  show H1[ad x]? = some (vp_cell _ _)
  rw [e]
  rw [vp_cell_q, vp_cell_q, arrV_store]
  congr 2
  funext q
  by_cases hq : q = i.toNatClampNeg
  · subst hq
    simp [updV, va_up, va_rf]
  · simp [updV, va_up, hq]
/-- new, beside everything -/
theorem cy_new (hexec : p.tables.exec = Jvm.exec) (hb : c.code = cc) {own Cn : String} {T : u_T} {N ci index : Nat} {Ts : List Cond} (hts : ∀ w ∈ Ts, w.before args s = true) (hin : ∀ w ∈ u_ws Cn T N, w ∈ Ts) (ty : Nat → FieldType) (hty : ∀ k, k < N → parseFieldDescriptor (T k).2.2.1 = some (ty k)) (hown : s.vm.findClass own = some m.cls) (hcl : (Cond.classLink own index Cn).before args s = true) (hinst : (Cond.instantiable Cn N).before args s = true) (hini : (Cond.initialized Cn).before args s = true)
    (hK : va_K D vwCl tys s) (hS : va_S (fun q => z ≤ q) H0 H locs) (hc : vwCl[ci]? = some (Cn, T, N)) {fs : List Value} (hfs : ∀ j, j < N → defaultValue (ty j) = vp_V fs j) (hcells : cells + 1 ≤ R.cells) (hslots : slots + N ≤ R.slots) (hdg : decode cc pc = .ok (.new index, 3))
    (kk : ∀ (H1 : Heap), va_at D vwCl (H.size, .inr (ci, fs)) H1 → H1.size = H.size + 1 → (∀ q : Nat, q < H.size → H1[q]? = H[q]?) → va_S (fun q => z ≤ q) H0 H1 locs →
      W p l e R s m args below meth c H1 locs (cells + 1) (slots + N) Q (F0 m (pc + 3) ls (.ref H.size :: rest))) : W p l e R s m args below meth c H locs cells slots Q (F0 m pc ls rest) := by
  have hKn := hK.1 ci _ hc
  refine W.newcK hexec hb hown hcl hinst hini rfl hdg hcells hslots hKn.2.1 rfl fun H1 kC hkC e1 z1 o1 => ?_
  exact kk H1 ⟨_, hc, (u_born ty hts hin hKn hkC e1 hty).to hfs⟩ z1 o1 ⟨Nat.le_trans hS.1 (by omega), fun x h1 h2 => (o1 x (Nat.lt_of_lt_of_le h1 hS.1)).trans (hS.2.1 x h1 h2), hS.2.2⟩
/-- newarray long, beside everything -/
theorem cy_newJ (hexec : p.tables.exec = Jvm.exec) (hb : c.code = cc) (harr : (Cond.arrayClass .long).before args s = true) (hK : va_K D vwCl tys s) {cJ : ClassId} (t0 : Nat) (ht : tys[t0]? = some (cJ, .long)) (hS : va_S (fun q => z ≤ q) H0 H locs) {n : Int32} {N : Nat} (hn : ¬ n < 0) (hN : n.toNatClampNeg = N) (hbytes : N * 8 ≤ 536870912) (hcells : cells + 1 ≤ R.cells) (hslots : slots + N ≤ R.slots) (hdg : decode cc pc = .ok (.newarray .long, 2))
    (kk : ∀ (H1 : Heap), va_at D vwCl (H.size, .inl (cJ, N, .inr (.inl (fun _ => 0)))) H1 → H1.size = H.size + 1 → (∀ q : Nat, q < H.size → H1[q]? = H[q]?) → va_S (fun q => z ≤ q) H0 H1 locs →
      W p l e R s m args below meth c H1 locs (cells + 1) (slots + N) Q (F0 m (pc + 2) ls (.ref H.size :: rest))) : W p l e R s m args below meth c H locs cells slots Q (F0 m pc ls (.int n :: rest)) := by
  refine va_newaK hexec hb (atype := .long) harr rfl hdg rfl hn hN hbytes hcells hslots rfl fun H1 cA e1 z1 o1 hAr hNm => ?_
  have hcA : cA = cJ := by
    have h1 : s.vm.findClass ("[" ++ FieldType.long.toString) = some cJ := (hK.2 t0 _ ht).2
    exact Option.some.inj (hNm.symm.trans h1)
  subst hcA
  exact kk H1 e1 z1 o1 ⟨Nat.le_trans hS.1 (by omega), fun x h1 h2 => (o1 x (Nat.lt_of_lt_of_le h1 hS.1)).trans (hS.2.1 x h1 h2), hS.2.2⟩
/-- anewarray, beside everything -/
theorem cy_newO (hexec : p.tables.exec = Jvm.exec) (hb : c.code = cc) {own Cn : String} {index : Nat} (hown : s.vm.findClass own = some m.cls) (hclink : (Cond.classLink own index Cn).before args s = true) (hover : (Cond.arrayOver (.object Cn)).before args s = true) (hK : va_K D vwCl tys s) {cO : ClassId} (t0 : Nat) (ht : tys[t0]? = some (cO, .object Cn)) (hS : va_S (fun q => z ≤ q) H0 H locs) {n : Int32} {N : Nat} (hn : ¬ n < 0) (hN : n.toNatClampNeg = N) (hbytes : N * 4 ≤ 536870912) (hcells : cells + 1 ≤ R.cells) (hslots : slots + N ≤ R.slots) (hdg : decode cc pc = .ok (.anewarray index, 3))
    (kk : ∀ (H1 : Heap), va_at D vwCl (H.size, .inl (cO, N, .inr (.inr (.inr (.inr (fun _ => none)))))) H1 → H1.size = H.size + 1 → (∀ q : Nat, q < H.size → H1[q]? = H[q]?) → va_S (fun q => z ≤ q) H0 H1 locs →
      W p l e R s m args below meth c H1 locs (cells + 1) (slots + N) Q (F0 m (pc + 3) ls (.ref H.size :: rest))) : W p l e R s m args below meth c H locs cells slots Q (F0 m pc ls (.int n :: rest)) := by
  subst hN
  refine W.anew hexec hb hown hclink hover rfl hdg rfl hn hbytes hcells hslots fun cA kA comp f1 f2 f3 f4 => ?_
  have hcA : cA = cO := by
    obtain ⟨kA', comp', k1, k2, k3, k4⟩ := (hK.2 t0 _ ht).2
    exact Option.some.inj (f1.symm.trans k4)
  subst hcA
  generalize hH1 : H.push ({ cls := cA, slots := Array.replicate n.toNatClampNeg .null, vm := .none } : Cell) = H1
  have z1 : H1.size = H.size + 1 := by rw [← hH1, Array.size_push]
  have e1 : H1[H.size]? = some (arrV cA n.toNatClampNeg (fun _ => .null)) := by rw [← hH1, Array.getElem?_push_size, ← arrV_new]
  have o1 : ∀ q : Nat, q < H.size → H1[q]? = H[q]? := fun q hq => by rw [← hH1, Array.getElem?_push, if_neg (Nat.ne_of_lt hq)]
  refine kk H1 ?_ z1 o1 ⟨Nat.le_trans hS.1 (by omega), fun x h1 h2 => (o1 x (Nat.lt_of_lt_of_le h1 hS.1)).trans (hS.2.1 x h1 h2), hS.2.2⟩
  show H1[H.size]? = some (vp_cell _ _)
  rw [vp_cell_q]
  exact e1
end CYR
