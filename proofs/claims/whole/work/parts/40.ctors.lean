theorem cy_bnew {D : va_G} {N m : Nat} {cs : Nat → va_E} {H H1 : Heap} {x : va_E} (hA : ∀ i, i < m → va_at D vwCl (N + i, cs i) H) (hsz : H.size = N + m) (o : ∀ q : Nat, q < H.size → H1[q]? = H[q]?) (e : va_at D vwCl (H.size, x) H1) (hx : cs m = x) : ∀ i, i < m + 1 → va_at D vwCl (N + i, cs i) H1 := by
  intro i hi
  by_cases h : i = m
  · subst h
    rw [hx, ← hsz]
    exact e
  · exact (hA i (by omega)).kept (o _ (by show N + i < H.size; omega))
theorem cy_bput {D : va_G} {N m a : Nat} {cs : Nat → va_E} {H H1 : Heap} (hA : ∀ i, i < m → va_at D vwCl (N + i, cs i) H) (o : ∀ q : Nat, q ≠ a → H1[q]? = H[q]?) (ha : a < N) : ∀ i, i < m → va_at D vwCl (N + i, cs i) H1 := fun i hi => (hA i hi).kept (o _ (by show N + i ≠ a; omega))
theorem cy_bst {D : va_G} {N m i0 : Nat} {cs : Nat → va_E} {H H1 : Heap} {x : va_E} (hA : ∀ i, i < m → va_at D vwCl (N + i, cs i) H) (e : va_at D vwCl (N + i0, x) H1) (o : ∀ q : Nat, q ≠ N + i0 → H1[q]? = H[q]?) : ∀ i, i < m → va_at D vwCl (N + i, va_up cs i0 x i) H1 := by
  intro i hi
  unfold va_up
  by_cases h : i = i0
  · rw [if_pos h, h]
    exact e
  · rw [if_neg h]
    exact (hA i hi).kept (o _ (by show N + i ≠ N + i0; omega))
theorem cy_cellI {D : va_G} {b n : Nat} {cA : ClassId} {f g : Nat → Int32} {H : Heap} (h : va_at D vwCl (b, .inl (cA, n, .inl f)) H) (e : ∀ j, j < n → f j = g j) : va_at D vwCl (b, .inl (cA, n, .inl g)) H := by
  have h1 : H[b]? = some (arrV cA n (fun j => .int (f j))) := h
  show H[b]? = some (arrV cA n (fun j => .int (g j)))
  rw [h1]
  congr 1
  unfold arrV
  congr 1
  apply Array.ext
  · simp
  · intro i h1 h2
    simp at h1
    simp [e i h1]
/-- an object and the rows made for it, beside an old heap -/
def cy_B (D : va_G) (H0 : Heap) (a ci : Nat) (fs : List Value) (cs : Nat → va_E) (m : Nat) (H : Heap) : Prop := va_at D vwCl (a, .inr (ci, fs)) H ∧ (∀ i, i < m → va_at D vwCl (H0.size + i, cs i) H) ∧ H.size = H0.size + m ∧ (∀ q : Nat, q < H0.size → q ≠ a → H[q]? = H0[q]?) ∧ a < H0.size
theorem cy_B.new {D : va_G} {H0 H H1 : Heap} {a ci m : Nat} {fs : List Value} {cs : Nat → va_E} {x : va_E} (hB : cy_B D H0 a ci fs cs m H) (e : va_at D vwCl (H.size, x) H1) (hs : H1.size = H.size + 1) (o : ∀ q : Nat, q < H.size → H1[q]? = H[q]?) (hx : cs m = x) : cy_B D H0 a ci fs cs (m + 1) H1 := by
  obtain ⟨h1, h2, h3, h4, h5⟩ := hB
  exact ⟨h1.kept (o _ (by show a < H.size; omega)), cy_bnew h2 h3 o e hx, by omega, fun q q1 q2 => (o q (by omega)).trans (h4 q q1 q2), h5⟩
theorem cy_B.put {D : va_G} {H0 H H1 : Heap} {a ci m : Nat} {fs fs' : List Value} {cs : Nat → va_E} (hB : cy_B D H0 a ci fs cs m H) (e : va_at D vwCl (a, .inr (ci, fs')) H1) (hs : H1.size = H.size) (o : ∀ q : Nat, q ≠ a → H1[q]? = H[q]?) : cy_B D H0 a ci fs' cs m H1 := by
  obtain ⟨h1, h2, h3, h4, h5⟩ := hB
  exact ⟨e, cy_bput h2 o h5, by omega, fun q q1 q2 => (o q q2).trans (h4 q q1 q2), h5⟩
theorem cy_B.st {D : va_G} {H0 H H1 : Heap} {a ci m i0 : Nat} {fs : List Value} {cs : Nat → va_E} {x : va_E} (hB : cy_B D H0 a ci fs cs m H) (e : va_at D vwCl (H0.size + i0, x) H1) (hs : H1.size = H.size) (o : ∀ q : Nat, q ≠ H0.size + i0 → H1[q]? = H[q]?) : cy_B D H0 a ci fs (va_up cs i0 x) m H1 := by
  obtain ⟨h1, h2, h3, h4, h5⟩ := hB
  exact ⟨h1.kept (o _ (by show a ≠ _; omega)), cy_bst h2 e o, by omega, fun q q1 q2 => (o q (by omega)).trans (h4 q q1 q2), h5⟩
theorem cy_B.st2 {D : va_G} {H0 H H1 : Heap} {a ci m i0 : Nat} {fs : List Value} {cs : Nat → va_E} {x y : va_E} (hB : cy_B D H0 a ci fs (va_up cs i0 y) m H) (e : va_at D vwCl (H0.size + i0, x) H1) (hs : H1.size = H.size) (o : ∀ q : Nat, q ≠ H0.size + i0 → H1[q]? = H[q]?) : cy_B D H0 a ci fs (va_up cs i0 x) m H1 := by
  have h := hB.st e hs o
  rw [bx_uu] at h
  exact h
theorem cy_B.at {D : va_G} {H0 H : Heap} {a ci m i0 : Nat} {fs : List Value} {cs : Nat → va_E} {x : va_E} (hB : cy_B D H0 a ci fs (va_up cs i0 x) m H) (h : i0 < m) : va_at D vwCl (H0.size + i0, x) H := by
  have h1 := hB.2.1 i0 h
  unfold va_up at h1
  rw [if_pos rfl] at h1
  exact h1
def cy_csY (cI cJ cO : ClassId) : Nat → va_E
  | 0 => .inl (cO, 80, .inr (.inr (.inr (.inr (fun _ => none)))))
  | 1 => .inl (cO, 12, .inr (.inr (.inr (.inr (fun _ => none)))))
  | 2 => .inl (cI, 6, .inl (fun _ => 0))
  | 3 => .inl (cJ, 6, .inr (.inl (fun _ => 0)))
  | _ => .inl (cI, 10, .inl (fun _ => 0))
def cy_csT (cI cJ : ClassId) : Nat → va_E
  | 0 => .inl (cI, 80, .inl (fun _ => 0))
  | 1 => .inl (cI, 80, .inl (fun _ => 0))
  | 2 => .inl (cI, 80, .inl (fun _ => 0))
  | 3 => .inl (cJ, 480, .inr (.inl (fun _ => 0)))
  | 4 => .inl (cI, 480, .inl (fun _ => 0))
  | 5 => .inl (cI, 12, .inl (fun _ => 0))
  | 6 => .inl (cI, 6, .inl (fun _ => 0))
  | 7 => .inl (cJ, 6, .inr (.inl (fun _ => 0)))
  | 8 => .inl (cI, 10, .inl (fun _ => 0))
  | 9 => .inl (cI, 10, .inl (fun _ => 0))
  | _ => .inl (cI, 60, .inl (fun _ => 0))
section CYI
variable {p : Program} {l : Launch} {e : Env} {R : Room} {s : State} {m : MethodId} {args : Array Value} {below : List Frame} {meth : Method} {c : Code} {H : Heap} {locs : List Loc} {cells slots : Nat} {Q : State → Prop}
variable {cc : ByteArray} {pc : Nat} {ls : Array Slot} {rest : List Value} {D : va_G} {z : Nat} {H0 : Heap}
variable {cI cJ cO : ClassId} {n na : Nat} {σ τ : cy_S} {pl : Nat → Int32} {hi : Int32} {ad : Nat → Nat}
theorem cy_newI (hexec : p.tables.exec = Jvm.exec) (hb : c.code = cc) (harr : (Cond.arrayClass .int).before args s = true) {tys : List (ClassId × FieldType)} (hK : va_K D vwCl tys s) {cI : ClassId} (t0 : Nat) (ht : tys[t0]? = some (cI, .int)) (hS : va_S (fun q => z ≤ q) H0 H locs) {n : Int32} {N : Nat} (hn : ¬ n < 0) (hN : n.toNatClampNeg = N) (hbytes : N * 4 ≤ 536870912) (hcells : cells + 1 ≤ R.cells) (hslots : slots + N ≤ R.slots) (hdg : decode cc pc = .ok (.newarray .int, 2))
    (kk : ∀ (H1 : Heap), va_at D vwCl (H.size, .inl (cI, N, .inl (fun _ => 0))) H1 → H1.size = H.size + 1 → (∀ q : Nat, q < H.size → H1[q]? = H[q]?) → va_S (fun q => z ≤ q) H0 H1 locs →
      W p l e R s m args below meth c H1 locs (cells + 1) (slots + N) Q (F0 m (pc + 2) ls (.ref H.size :: rest))) : W p l e R s m args below meth c H locs cells slots Q (F0 m pc ls (.int n :: rest)) := by
  refine va_newaK hexec hb (atype := .int) harr rfl hdg rfl hn hN hbytes hcells hslots rfl fun H1 cA e1 z1 o1 hAr hNm => ?_
  have hcA : cA = cI := by
    have h1 : s.vm.findClass ("[" ++ FieldType.int.toString) = some cI := (hK.2 t0 _ ht).2
    exact Option.some.inj (hNm.symm.trans h1)
  subst hcA
  exact kk H1 e1 z1 o1 ⟨Nat.le_trans hS.1 (by omega), fun x h1 h2 => (o1 x (Nat.lt_of_lt_of_le h1 hS.1)).trans (hS.2.1 x h1 h2), hS.2.2⟩
theorem cy_iastR (hexec : p.tables.exec = Jvm.exec) (hb : c.code = cc) (hK : cy_K D cI cJ cO s) (hS : va_S (fun q => z ≤ q) H0 H locs) {b k N : Nat} (hz : z ≤ b) {f : Nat → Int32} {i v : Int32} (he : va_at D vwCl (b, .inl (cI, N, .inl f)) H) (ei : i = nI k) (hk : k < N) (hN : N < 2 ^ 31) (hdg : decode cc pc = .ok (.iastore, 1))
    (kk : ∀ (H1 : Heap) (locs1 : List Loc), va_at D vwCl (b, .inl (cI, N, .inl (va_up f k v))) H1 → H1.size = H.size → (∀ q : Nat, q ≠ b → H1[q]? = H[q]?) → va_S (fun q => z ≤ q) H0 H1 locs1 → W p l e R s m args below meth c H1 locs1 cells slots Q (F0 m (pc + 1) ls rest)) : W p l e R s m args below meth c H locs cells slots Q (F0 m pc ls (.int v :: .int i :: .ref b :: rest)) := by
  subst ei
  refine W.iast hexec hb he ((hK.1.2 0 _ rfl).1 N (fun j => .int (f j))) (fun q => by cases q) (by show ¬ (nI k < 0 ∨ (arrV _ _ _).slots.size ≤ _); rw [arrV_size]; exact vp_in_nI hk hN) rfl rfl hdg fun H1 e z oq => ?_
  refine kk H1 _ ?_ z oq (hS.put z oq hz)
  show H1[b]? = some (vp_cell _ _)
  rw [e]
  rw [vp_cell_i, vp_cell_i, arrV_store]
  congr 2
  funext q
  rw [nI_clamp (by omega)]
  by_cases hq : q = k
  · subst hq
    simp [updV, va_up]
  · simp [updV, va_up, hq]
theorem cy_alenR (hexec : p.tables.exec = Jvm.exec) (hb : c.code = cc) (hK : cy_K D cI cJ cO s) {b N : Nat} {f : Nat → Int32} (he : va_at D vwCl (b, .inl (cI, N, .inl f)) H) (hdg : decode cc pc = .ok (.arraylength, 1))
    (kk : W p l e R s m args below meth c H locs cells slots Q (F0 m (pc + 1) ls (.int (nI N) :: rest))) : W p l e R s m args below meth c H locs cells slots Q (F0 m pc ls (.ref b :: rest)) := va_alen (x := (N, .inl f)) (ws := [(b, .inl (cI, N, .inl f))]) hexec hb hK.1 (fun k q hk => by match k, hk with | 0, hk => cases hk; exact he | k + 1, hk => simp at hk) 0 0 rfl rfl rfl hdg kk
end CYI
theorem hin4_X4_init : ∀ w ∈ u_ws RX4 TX4 13, w ∈ wsX4_init := by decide +kernel
set_option maxHeartbeats 4000000 in
set_option maxRecDepth 100000 in
theorem c_fill (l : Launch) (D : va_G) (cI cJ cO : ClassId) (z : Nat) (b : Nat) (hz : z ≤ b) (H0 : Heap) (f : Nat → Int32) (v : Int32) : Met l yJ7_fill_53178 wsJ7_fill_53178 { frames := 0, cells := 0, slots := 0, locals := 0 } (cy_P D cI cJ cO (fun H => H = H0 ∧ va_at D vwCl (b, .inl (cI, 6, .inl f)) H) [.ref b, .int v]) (cy_M (S := Unit) z (fun _ => none) (fun _ H1 => va_at D vwCl (b, .inl (cI, 6, .inl (fun _ => v))) H1 ∧ H1.size = H0.size ∧ ∀ q : Nat, q ≠ b → H1[q]? = H0[q]?)) 0 0 (fun q => z ≤ q) := by
  refine Met.ofW (cc := cJ7_fill_53178) (maxL := 4) (ret := none) (by decide) rfl ?_
  intro p e s m args below meth c s₁ B hml hv
  obtain ⟨rfl, hK, hI⟩ := hv
  have hx := B.exec
  have hb := B.bytes
  have hr := B.returns
  have hts := atoms_spec (ws := wsJ7_fill_53178) B.pre
  have hown : s.vm.findClass RJ7 = some m.cls := findClass_of_methodNamed B.named
  have hlocks := B.notSynchronized
  have hS : va_S (fun q => z ≤ q) s.heap s.heap [] := va_S.rf
  have hl := lv_entry ([.ref b, .int v]) (n := 4) (Nat.le_of_ble_eq_true rfl)
  rw [lg_entry_eq]
  generalize (lg_sl ([.ref b, .int v]) ++ List.replicate (4 - (lg_sl ([.ref b, .int v])).length) Slot.unset).toArray = ls at hl ⊢
  have hl : lv_has ls 4 [(0, .ref b), (1, .int v)] := hl
  obtain ⟨eH, he⟩ := hI
  have hq0 : ∀ q : Nat, q ≠ b → s.heap[q]? = s.heap[q]? := fun _ _ => rfl
  have hs0 : s.heap.size = s.heap.size := rfl
  refine lv_iconst (v := 0) hx hb dJ7_fill_53178_0 (by decide) ?_
  refine lv_istore_n (lv' := [(2, .int 0), (0, .ref b), (1, .int v)]) hx hb dJ7_fill_53178_1 rfl hl (by decide) rfl (fun ls hl => ?_)
  refine lv_aload_n hx hb dJ7_fill_53178_2 rfl (lv_at hl 1 rfl) ?_
  refine cy_alenR hx hb hK he dJ7_fill_53178_3 ?_
  refine cy_topi (y := 6) rfl ?_
  refine lv_istore_n (lv' := [(3, .int 6), (2, .int 0), (0, .ref b), (1, .int v)]) hx hb dJ7_fill_53178_4 rfl hl (by decide) rfl (fun ls hl => ?_)
  refine lv_iload_n hx hb dJ7_fill_53178_5 rfl (lv_at hl 1 rfl) ?_
  refine lv_iload_n hx hb dJ7_fill_53178_6 rfl (lv_at hl 0 rfl) ?_
  refine lv_icmp_ge (tgt := 20) hx hb dJ7_fill_53178_7 (by decide) (fun h1 => absurd h1 (by decide)) (fun h1 => ?_)
  refine lv_aload_n hx hb dJ7_fill_53178_10 rfl (lv_at hl 2 rfl) ?_
  refine lv_iload_n hx hb dJ7_fill_53178_11 rfl (lv_at hl 1 rfl) ?_
  refine lv_iload_n hx hb dJ7_fill_53178_12 rfl (lv_at hl 3 rfl) ?_
  refine cy_iastR (k := 0) hx hb hK hS hz he rfl (by decide) (by decide) dJ7_fill_53178_13 (fun H locs he hs1 hq1 hS => ?_)
  have hs0 := hs1.trans hs0
  have hq0 := fun (q : Nat) (hne : q ≠ b) => (hq1 q hne).trans (hq0 q hne)
  refine lv_iinc (v := 1) (lv' := [(2, .int 1), (3, .int 6), (0, .ref b), (1, .int v)]) hx hb dJ7_fill_53178_14 hl (k := 1) rfl (by decide) (by decide) rfl (fun ls hl => ?_)
  refine lv_goto (tgt := 5) hx hb dJ7_fill_53178_17 (by decide) ?_
  refine lv_iload_n hx hb dJ7_fill_53178_5 rfl (lv_at hl 0 rfl) ?_
  refine lv_iload_n hx hb dJ7_fill_53178_6 rfl (lv_at hl 1 rfl) ?_
  refine lv_icmp_ge (tgt := 20) hx hb dJ7_fill_53178_7 (by decide) (fun h2 => absurd h2 (by decide)) (fun h2 => ?_)
  refine lv_aload_n hx hb dJ7_fill_53178_10 rfl (lv_at hl 2 rfl) ?_
  refine lv_iload_n hx hb dJ7_fill_53178_11 rfl (lv_at hl 0 rfl) ?_
  refine lv_iload_n hx hb dJ7_fill_53178_12 rfl (lv_at hl 3 rfl) ?_
  refine cy_iastR (k := 1) hx hb hK hS hz he rfl (by decide) (by decide) dJ7_fill_53178_13 (fun H locs he hs1 hq1 hS => ?_)
  have hs0 := hs1.trans hs0
  have hq0 := fun (q : Nat) (hne : q ≠ b) => (hq1 q hne).trans (hq0 q hne)
  refine lv_iinc (v := 2) (lv' := [(2, .int 2), (3, .int 6), (0, .ref b), (1, .int v)]) hx hb dJ7_fill_53178_14 hl (k := 0) rfl (by decide) (by decide) rfl (fun ls hl => ?_)
  refine lv_goto (tgt := 5) hx hb dJ7_fill_53178_17 (by decide) ?_
  refine lv_iload_n hx hb dJ7_fill_53178_5 rfl (lv_at hl 0 rfl) ?_
  refine lv_iload_n hx hb dJ7_fill_53178_6 rfl (lv_at hl 1 rfl) ?_
  refine lv_icmp_ge (tgt := 20) hx hb dJ7_fill_53178_7 (by decide) (fun h3 => absurd h3 (by decide)) (fun h3 => ?_)
  refine lv_aload_n hx hb dJ7_fill_53178_10 rfl (lv_at hl 2 rfl) ?_
  refine lv_iload_n hx hb dJ7_fill_53178_11 rfl (lv_at hl 0 rfl) ?_
  refine lv_iload_n hx hb dJ7_fill_53178_12 rfl (lv_at hl 3 rfl) ?_
  refine cy_iastR (k := 2) hx hb hK hS hz he rfl (by decide) (by decide) dJ7_fill_53178_13 (fun H locs he hs1 hq1 hS => ?_)
  have hs0 := hs1.trans hs0
  have hq0 := fun (q : Nat) (hne : q ≠ b) => (hq1 q hne).trans (hq0 q hne)
  refine lv_iinc (v := 3) (lv' := [(2, .int 3), (3, .int 6), (0, .ref b), (1, .int v)]) hx hb dJ7_fill_53178_14 hl (k := 0) rfl (by decide) (by decide) rfl (fun ls hl => ?_)
  refine lv_goto (tgt := 5) hx hb dJ7_fill_53178_17 (by decide) ?_
  refine lv_iload_n hx hb dJ7_fill_53178_5 rfl (lv_at hl 0 rfl) ?_
  refine lv_iload_n hx hb dJ7_fill_53178_6 rfl (lv_at hl 1 rfl) ?_
  refine lv_icmp_ge (tgt := 20) hx hb dJ7_fill_53178_7 (by decide) (fun h4 => absurd h4 (by decide)) (fun h4 => ?_)
  refine lv_aload_n hx hb dJ7_fill_53178_10 rfl (lv_at hl 2 rfl) ?_
  refine lv_iload_n hx hb dJ7_fill_53178_11 rfl (lv_at hl 0 rfl) ?_
  refine lv_iload_n hx hb dJ7_fill_53178_12 rfl (lv_at hl 3 rfl) ?_
  refine cy_iastR (k := 3) hx hb hK hS hz he rfl (by decide) (by decide) dJ7_fill_53178_13 (fun H locs he hs1 hq1 hS => ?_)
  have hs0 := hs1.trans hs0
  have hq0 := fun (q : Nat) (hne : q ≠ b) => (hq1 q hne).trans (hq0 q hne)
  refine lv_iinc (v := 4) (lv' := [(2, .int 4), (3, .int 6), (0, .ref b), (1, .int v)]) hx hb dJ7_fill_53178_14 hl (k := 0) rfl (by decide) (by decide) rfl (fun ls hl => ?_)
  refine lv_goto (tgt := 5) hx hb dJ7_fill_53178_17 (by decide) ?_
  refine lv_iload_n hx hb dJ7_fill_53178_5 rfl (lv_at hl 0 rfl) ?_
  refine lv_iload_n hx hb dJ7_fill_53178_6 rfl (lv_at hl 1 rfl) ?_
  refine lv_icmp_ge (tgt := 20) hx hb dJ7_fill_53178_7 (by decide) (fun h5 => absurd h5 (by decide)) (fun h5 => ?_)
  refine lv_aload_n hx hb dJ7_fill_53178_10 rfl (lv_at hl 2 rfl) ?_
  refine lv_iload_n hx hb dJ7_fill_53178_11 rfl (lv_at hl 0 rfl) ?_
  refine lv_iload_n hx hb dJ7_fill_53178_12 rfl (lv_at hl 3 rfl) ?_
  refine cy_iastR (k := 4) hx hb hK hS hz he rfl (by decide) (by decide) dJ7_fill_53178_13 (fun H locs he hs1 hq1 hS => ?_)
  have hs0 := hs1.trans hs0
  have hq0 := fun (q : Nat) (hne : q ≠ b) => (hq1 q hne).trans (hq0 q hne)
  refine lv_iinc (v := 5) (lv' := [(2, .int 5), (3, .int 6), (0, .ref b), (1, .int v)]) hx hb dJ7_fill_53178_14 hl (k := 0) rfl (by decide) (by decide) rfl (fun ls hl => ?_)
  refine lv_goto (tgt := 5) hx hb dJ7_fill_53178_17 (by decide) ?_
  refine lv_iload_n hx hb dJ7_fill_53178_5 rfl (lv_at hl 0 rfl) ?_
  refine lv_iload_n hx hb dJ7_fill_53178_6 rfl (lv_at hl 1 rfl) ?_
  refine lv_icmp_ge (tgt := 20) hx hb dJ7_fill_53178_7 (by decide) (fun h6 => absurd h6 (by decide)) (fun h6 => ?_)
  refine lv_aload_n hx hb dJ7_fill_53178_10 rfl (lv_at hl 2 rfl) ?_
  refine lv_iload_n hx hb dJ7_fill_53178_11 rfl (lv_at hl 0 rfl) ?_
  refine lv_iload_n hx hb dJ7_fill_53178_12 rfl (lv_at hl 3 rfl) ?_
  refine cy_iastR (k := 5) hx hb hK hS hz he rfl (by decide) (by decide) dJ7_fill_53178_13 (fun H locs he hs1 hq1 hS => ?_)
  have hs0 := hs1.trans hs0
  have hq0 := fun (q : Nat) (hne : q ≠ b) => (hq1 q hne).trans (hq0 q hne)
  refine lv_iinc (v := 6) (lv' := [(2, .int 6), (3, .int 6), (0, .ref b), (1, .int v)]) hx hb dJ7_fill_53178_14 hl (k := 0) rfl (by decide) (by decide) rfl (fun ls hl => ?_)
  refine lv_goto (tgt := 5) hx hb dJ7_fill_53178_17 (by decide) ?_
  refine lv_iload_n hx hb dJ7_fill_53178_5 rfl (lv_at hl 0 rfl) ?_
  refine lv_iload_n hx hb dJ7_fill_53178_6 rfl (lv_at hl 1 rfl) ?_
  refine lv_icmp_ge (tgt := 20) hx hb dJ7_fill_53178_7 (by decide) (fun h7 => ?_) (fun h7 => absurd (by decide) h7)
  exact W.vret hx hb hr (fun t ht hW => ⟨(), rfl, by rw [ht]; exact ⟨cy_cellI he (fun j hj => by rcases (show j = 0 ∨ j = 1 ∨ j = 2 ∨ j = 3 ∨ j = 4 ∨ j = 5 by omega) with rfl | rfl | rfl | rfl | rfl | rfl <;> simp [va_up]), hs0.trans (congrArg Array.size eH), fun q hne => (hq0 q hne).trans (by rw [eH])⟩, hS.F ht⟩) hS.2.2 dJ7_fill_53178_20

set_option maxHeartbeats 4000000 in
set_option maxRecDepth 100000 in
theorem c_X4_init (l : Launch) (D : va_G) (cI cJ cO : ClassId) (z : Nat) (a : Nat) (hz : z ≤ a) (H0 : Heap) : Met l yX4_init wsX4_init { frames := 1, cells := 6, slots := 124, locals := 23 } (cy_P D cI cJ cO (fun H => H = H0 ∧ va_at D vwCl (a, .inr (3, [.null, .int 0, .null, .null, .null, .null, .null, .int 0, .int 0, .int 0, .int 0, .int 0, .int 0])) H) [.ref a]) (cy_M (S := Unit) z (fun _ => none) (fun _ H1 => va_at D vwCl (a, .inr (3, [.ref (H0.size + 0), .int 0, .ref (H0.size + 1), .ref (H0.size + 2), .ref (H0.size + 3), .ref (H0.size + 4), .ref (H0.size + 5), .int 0, .int 0, .int 0, .int 0, .int 0, .int 0])) H1 ∧ (∀ i, i < 6 → va_at D vwCl (H0.size + i, va_up (cy_csY cI cJ cO) 2 (.inl (cI, 6, .inl (fun _ => -1))) i) H1) ∧ H1.size = H0.size + 6 ∧ ∀ q : Nat, q < H0.size → q ≠ a → H1[q]? = H0[q]?)) 6 124 (fun q => z ≤ q) := by
  refine Met.ofW (cc := cX4_init) (maxL := 1) (ret := none) (by decide) rfl ?_
  intro p e s m args below meth c s₁ B hml hv
  obtain ⟨rfl, hK, hI⟩ := hv
  have hx := B.exec
  have hb := B.bytes
  have hr := B.returns
  have hts := atoms_spec (ws := wsX4_init) B.pre
  have hown : s.vm.findClass RX4 = some m.cls := findClass_of_methodNamed B.named
  have hlocks := B.notSynchronized
  have hin : meth.name = "<init>" := (name_of_methodNamed B.named B.method).1
  have hS : va_S (fun q => z ≤ q) s.heap s.heap [] := va_S.rf
  have hl := lv_entry ([.ref a]) (n := 1) (Nat.le_of_ble_eq_true rfl)
  rw [lg_entry_eq]
  generalize (lg_sl ([.ref a]) ++ List.replicate (1 - (lg_sl ([.ref a])).length) Slot.unset).toArray = ls at hl ⊢
  have hl : lv_has ls 1 [(0, .ref a)] := hl
  have hin4 := hin4_X4_init
  obtain ⟨rfl, he⟩ := hI
  have hB : cy_B D s.heap a 3 [.null, .int 0, .null, .null, .null, .null, .null, .int 0, .int 0, .int 0, .int 0, .int 0, .int 0] (cy_csY cI cJ cO) 0 s.heap := ⟨he, fun i hi => absurd hi (Nat.not_lt_zero _), rfl, fun _ _ _ => rfl, he.lt⟩
  clear he
  refine lv_aload_n hx hb dX4_init_0 rfl (lv_at hl 0 rfl) ?_
  refine W.objInit hx hb hown (hts (.methodLink RX4 1 objectInit) (by decide +kernel)) (hts (.instanceMethod objectInit) (by decide +kernel)) (hts (.code objectInit ⟨#[0xb1]⟩ 1 none) (by decide +kernel)) rfl (by rw [hml]; exact hl.1) rfl dX4_init_1 (Nat.le_of_ble_eq_true rfl) (Nat.le_of_ble_eq_true rfl) ?_
  refine W.eq (g2 := F0 m 4 ls []) rfl ?_
  refine lv_aload_n hx hb dX4_init_4 rfl (lv_at hl 0 rfl) ?_
  refine lv_bipush (v := 80) hx hb dX4_init_5 (by decide) ?_
  refine cy_newO (N := 80) hx hb hown (hts (.classLink RX4 9 RX0) (by decide +kernel)) (va_AO.use hK.aO) hK.1 2 rfl hS (by decide) (by decide) (by decide) (Nat.le_of_ble_eq_true rfl) (Nat.le_of_ble_eq_true rfl) dX4_init_7 (fun H1 hea hs1 ho1 hS => ?_)
  refine W.eq (g2 := F0 m 10 ls (.ref (s.heap.size + 0) :: .ref a :: [])) (by rw [hB.2.2.1]) ?_
  replace hB := hB.new hea hs1 ho1 rfl
  clear hs1 ho1 hea
  refine cy_putF (ci := 3) (Cn := RX4) (T := TX4) (N := 13) (v := .ref (s.heap.size + 0)) hx hb hts hin4 tyX4 tyX4_ok nmX4 hown hK.1 hS hz hB.1 rfl 0 (by decide) (hts (.fieldLink RX4 11 "CustomsYard" "loads" "[LCustomsYard$Load;") (by decide +kernel)) (fun _ h9 => h9) rfl hin rfl (ty := .array (.object "CustomsYard$Load")) (by decide +kernel) rfl rfl (Nat.le_of_ble_eq_true rfl) dX4_init_10 (fun H2 locs he hs2 hq2 hS => ?_)
  replace hB := hB.put (fs' := [.ref (s.heap.size + 0), .int 0, .null, .null, .null, .null, .null, .int 0, .int 0, .int 0, .int 0, .int 0, .int 0]) he hs2 hq2
  clear he hs2 hq2
  refine lv_aload_n hx hb dX4_init_13 rfl (lv_at hl 0 rfl) ?_
  refine lv_bipush (v := 12) hx hb dX4_init_14 (by decide) ?_
  refine cy_newO (N := 12) hx hb hown (hts (.classLink RX4 9 RX0) (by decide +kernel)) (va_AO.use hK.aO) hK.1 2 rfl hS (by decide) (by decide) (by decide) (Nat.le_of_ble_eq_true rfl) (Nat.le_of_ble_eq_true rfl) dX4_init_16 (fun H1 hea hs1 ho1 hS => ?_)
  refine W.eq (g2 := F0 m 19 ls (.ref (s.heap.size + 1) :: .ref a :: [])) (by rw [hB.2.2.1]) ?_
  replace hB := hB.new hea hs1 ho1 rfl
  clear hs1 ho1 hea
  refine cy_putF (ci := 3) (Cn := RX4) (T := TX4) (N := 13) (v := .ref (s.heap.size + 1)) hx hb hts hin4 tyX4 tyX4_ok nmX4 hown hK.1 hS hz hB.1 rfl 2 (by decide) (hts (.fieldLink RX4 15 "CustomsYard" "bays" "[LCustomsYard$Load;") (by decide +kernel)) (fun _ h9 => h9) rfl hin rfl (ty := .array (.object "CustomsYard$Load")) (by decide +kernel) rfl rfl (Nat.le_of_ble_eq_true rfl) dX4_init_19 (fun H2 locs he hs2 hq2 hS => ?_)
  replace hB := hB.put (fs' := [.ref (s.heap.size + 0), .int 0, .ref (s.heap.size + 1), .null, .null, .null, .null, .int 0, .int 0, .int 0, .int 0, .int 0, .int 0]) he hs2 hq2
  clear he hs2 hq2
  refine lv_aload_n hx hb dX4_init_22 rfl (lv_at hl 0 rfl) ?_
  refine lv_bipush (v := 6) hx hb dX4_init_23 (by decide) ?_
  refine cy_newI (N := 6) hx hb (hts (.arrayClass .int) (by decide +kernel)) hK.1 0 rfl hS (by decide) (by decide) (by decide) (Nat.le_of_ble_eq_true rfl) (Nat.le_of_ble_eq_true rfl) dX4_init_25 (fun H1 hea hs1 ho1 hS => ?_)
  refine W.eq (g2 := F0 m 27 ls (.ref (s.heap.size + 2) :: .ref a :: [])) (by rw [hB.2.2.1]) ?_
  replace hB := hB.new hea hs1 ho1 rfl
  clear hs1 ho1 hea
  refine cy_putF (ci := 3) (Cn := RX4) (T := TX4) (N := 13) (v := .ref (s.heap.size + 2)) hx hb hts hin4 tyX4 tyX4_ok nmX4 hown hK.1 hS hz hB.1 rfl 3 (by decide) (hts (.fieldLink RX4 18 "CustomsYard" "gateViews" "[I") (by decide +kernel)) (fun _ h9 => h9) rfl hin rfl (ty := .array .int) (by decide +kernel) rfl rfl (Nat.le_of_ble_eq_true rfl) dX4_init_27 (fun H2 locs he hs2 hq2 hS => ?_)
  replace hB := hB.put (fs' := [.ref (s.heap.size + 0), .int 0, .ref (s.heap.size + 1), .ref (s.heap.size + 2), .null, .null, .null, .int 0, .int 0, .int 0, .int 0, .int 0, .int 0]) he hs2 hq2
  clear he hs2 hq2
  refine lv_aload_n hx hb dX4_init_30 rfl (lv_at hl 0 rfl) ?_
  refine lv_bipush (v := 6) hx hb dX4_init_31 (by decide) ?_
  refine cy_newJ (N := 6) hx hb (hts (.arrayClass .long) (by decide +kernel)) hK.1 1 rfl hS (by decide) (by decide) (by decide) (Nat.le_of_ble_eq_true rfl) (Nat.le_of_ble_eq_true rfl) dX4_init_33 (fun H1 hea hs1 ho1 hS => ?_)
  refine W.eq (g2 := F0 m 35 ls (.ref (s.heap.size + 3) :: .ref a :: [])) (by rw [hB.2.2.1]) ?_
  replace hB := hB.new hea hs1 ho1 rfl
  clear hs1 ho1 hea
  refine cy_putF (ci := 3) (Cn := RX4) (T := TX4) (N := 13) (v := .ref (s.heap.size + 3)) hx hb hts hin4 tyX4 tyX4_ok nmX4 hown hK.1 hS hz hB.1 rfl 4 (by decide) (hts (.fieldLink RX4 22 "CustomsYard" "gateWeights" "[J") (by decide +kernel)) (fun _ h9 => h9) rfl hin rfl (ty := .array .long) (by decide +kernel) rfl rfl (Nat.le_of_ble_eq_true rfl) dX4_init_35 (fun H2 locs he hs2 hq2 hS => ?_)
  replace hB := hB.put (fs' := [.ref (s.heap.size + 0), .int 0, .ref (s.heap.size + 1), .ref (s.heap.size + 2), .ref (s.heap.size + 3), .null, .null, .int 0, .int 0, .int 0, .int 0, .int 0, .int 0]) he hs2 hq2
  clear he hs2 hq2
  refine lv_aload_n hx hb dX4_init_38 rfl (lv_at hl 0 rfl) ?_
  refine lv_bipush (v := 10) hx hb dX4_init_39 (by decide) ?_
  refine cy_newI (N := 10) hx hb (hts (.arrayClass .int) (by decide +kernel)) hK.1 0 rfl hS (by decide) (by decide) (by decide) (Nat.le_of_ble_eq_true rfl) (Nat.le_of_ble_eq_true rfl) dX4_init_41 (fun H1 hea hs1 ho1 hS => ?_)
  refine W.eq (g2 := F0 m 43 ls (.ref (s.heap.size + 4) :: .ref a :: [])) (by rw [hB.2.2.1]) ?_
  replace hB := hB.new hea hs1 ho1 rfl
  clear hs1 ho1 hea
  refine cy_putF (ci := 3) (Cn := RX4) (T := TX4) (N := 13) (v := .ref (s.heap.size + 4)) hx hb hts hin4 tyX4 tyX4_ok nmX4 hown hK.1 hS hz hB.1 rfl 5 (by decide) (hts (.fieldLink RX4 26 "CustomsYard" "lineViews" "[I") (by decide +kernel)) (fun _ h9 => h9) rfl hin rfl (ty := .array .int) (by decide +kernel) rfl rfl (Nat.le_of_ble_eq_true rfl) dX4_init_43 (fun H2 locs he hs2 hq2 hS => ?_)
  replace hB := hB.put (fs' := [.ref (s.heap.size + 0), .int 0, .ref (s.heap.size + 1), .ref (s.heap.size + 2), .ref (s.heap.size + 3), .ref (s.heap.size + 4), .null, .int 0, .int 0, .int 0, .int 0, .int 0, .int 0]) he hs2 hq2
  clear he hs2 hq2
  refine lv_aload_n hx hb dX4_init_46 rfl (lv_at hl 0 rfl) ?_
  refine lv_bipush (v := 10) hx hb dX4_init_47 (by decide) ?_
  refine cy_newI (N := 10) hx hb (hts (.arrayClass .int) (by decide +kernel)) hK.1 0 rfl hS (by decide) (by decide) (by decide) (Nat.le_of_ble_eq_true rfl) (Nat.le_of_ble_eq_true rfl) dX4_init_49 (fun H1 hea hs1 ho1 hS => ?_)
  refine W.eq (g2 := F0 m 51 ls (.ref (s.heap.size + 5) :: .ref a :: [])) (by rw [hB.2.2.1]) ?_
  replace hB := hB.new hea hs1 ho1 rfl
  clear hs1 ho1 hea
  refine cy_putF (ci := 3) (Cn := RX4) (T := TX4) (N := 13) (v := .ref (s.heap.size + 5)) hx hb hts hin4 tyX4 tyX4_ok nmX4 hown hK.1 hS hz hB.1 rfl 6 (by decide) (hts (.fieldLink RX4 29 "CustomsYard" "lineRates" "[I") (by decide +kernel)) (fun _ h9 => h9) rfl hin rfl (ty := .array .int) (by decide +kernel) rfl rfl (Nat.le_of_ble_eq_true rfl) dX4_init_51 (fun H2 locs he hs2 hq2 hS => ?_)
  replace hB := hB.put (fs' := [.ref (s.heap.size + 0), .int 0, .ref (s.heap.size + 1), .ref (s.heap.size + 2), .ref (s.heap.size + 3), .ref (s.heap.size + 4), .ref (s.heap.size + 5), .int 0, .int 0, .int 0, .int 0, .int 0, .int 0]) he hs2 hq2
  clear he hs2 hq2
  refine lv_aload_n hx hb dX4_init_54 rfl (lv_at hl 0 rfl) ?_
  refine va_get (D := D) (ws := [(a, .inr (3, [.ref (s.heap.size + 0), .int 0, .ref (s.heap.size + 1), .ref (s.heap.size + 2), .ref (s.heap.size + 3), .ref (s.heap.size + 4), .ref (s.heap.size + 5), .int 0, .int 0, .int 0, .int 0, .int 0, .int 0]))]) (ci := 3) (v := .ref (s.heap.size + 2)) (C := RX4) (T := TX4) (N := 13) hx hb hts hin4 hown hK.1 (fun k q hk => by match k, hk with | 0, hk => cases hk; exact hB.1 | k + 1, hk => simp at hk) 0 rfl rfl 3 (by decide) (hts (.fieldLink RX4 18 "CustomsYard" "gateViews" "[I") (by decide +kernel)) (fun _ h9 => h9) rfl dX4_init_55 ?_
  refine lv_iconst (v := -1) hx hb dX4_init_58 (by decide) ?_
  have hg : va_at D vwCl (s.heap.size + 2, .inl (cI, 6, .inl (fun _ => 0))) _ := hB.2.1 2 (by decide)
  have hz2 : z ≤ s.heap.size + 2 := by have := hB.2.2.2.2; omega
  refine cy_callm (va_runS (As := [.ref (s.heap.size + 2), .int (-1)]) (rest := []) ⟨hx, hb, hml, hown, hts⟩ (c_fill l D cI cJ cO z (s.heap.size + 2) hz2 _ (fun _ => 0) (-1)) (va_cwS 2 hts gX4_init_J7_fill_53178 rfl rfl rfl (by decide +kernel) ⟨Nat.le_of_ble_eq_true rfl, Nat.le_of_ble_eq_true rfl⟩) (cy_preS hK ⟨rfl, hg⟩) rfl rfl hl.1 rfl (lv_room (Nat.le_of_ble_eq_true rfl)) dX4_init_59 ⟨Nat.le_of_ble_eq_true rfl, Nat.le_of_ble_eq_true rfl⟩) hS (fun u H3 locs hI3 hz0 hS => ?_)
  obtain ⟨hg, hs3, hq3⟩ := hI3
  replace hB := hB.st hg hs3 hq3
  refine W.eq (g2 := F0 m 62 ls []) rfl ?_
  exact W.vret hx hb hr (fun t ht hW => ⟨(), rfl, by rw [ht]; exact ⟨hB.1, hB.2.1, hB.2.2.1, hB.2.2.2.1⟩, hS.F ht⟩) hS.2.2 dX4_init_62
