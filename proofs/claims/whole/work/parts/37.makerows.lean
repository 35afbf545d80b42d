theorem cy_clr_4 (σ : cy_S) (n : Nat) : ∀ (k j : Nat), (cy_clr σ n k).1 4 j = if 6 * n ≤ j ∧ j < 6 * n + k then -1 else σ.1 4 j
  | 0, j => by rw [if_neg (by omega)]; rfl
  | k + 1, j => by
    show cy_u (cy_l (cy_clr σ n k) 0 (6 * n + k) 0).1 4 (6 * n + k) (-1) 4 j = _
    rw [cy_u_row]
    unfold va_up
    by_cases h : j = 6 * n + k
    · rw [if_pos h, if_pos (by omega)]
    · rw [if_neg h]
      show (cy_clr σ n k).1 4 j = _
      rw [cy_clr_4 σ n k j]
      by_cases h2 : 6 * n ≤ j ∧ j < 6 * n + k
      · rw [if_pos h2, if_pos (by omega)]
      · rw [if_neg h2, if_neg (by omega)]
theorem cy_clr_n (σ : cy_S) (n : Nat) : ∀ (k j : Nat), (cy_clr σ n k).2 0 j = if 6 * n ≤ j ∧ j < 6 * n + k then 0 else σ.2 0 j
  | 0, j => by rw [if_neg (by omega)]; rfl
  | k + 1, j => by
    show cy_u (cy_clr σ n k).2 0 (6 * n + k) 0 0 j = _
    rw [cy_u_row]
    unfold va_up
    by_cases h : j = 6 * n + k
    · rw [if_pos h, if_pos (by omega)]
    · rw [if_neg h, cy_clr_n σ n k j]
      by_cases h2 : 6 * n ≤ j ∧ j < 6 * n + k
      · rw [if_pos h2, if_pos (by omega)]
      · rw [if_neg h2, if_neg (by omega)]
theorem cy_clr_c (σ : cy_S) (n : Nat) {c : Nat} (hc : c ≠ 4) : ∀ (k : Nat), (cy_clr σ n k).1 c = σ.1 c
  | 0 => rfl
  | k + 1 => by
    show cy_u (cy_l (cy_clr σ n k) 0 (6 * n + k) 0).1 4 (6 * n + k) (-1) c = _
    rw [cy_u_ne _ _ _ hc]
    exact cy_clr_c σ n hc k
theorem cy_clr_s (σ : cy_S) (n : Nat) : ∀ (k : Nat), (cy_clr σ n k).2 1 = σ.2 1
  | 0 => rfl
  | k + 1 => by
    show cy_u (cy_clr σ n k).2 0 (6 * n + k) 0 1 = _
    rw [cy_u_ne _ _ _ (by decide)]
    exact cy_clr_s σ n k
/-- load n, made: its rows, not yet counted -/
def cy_mk (n : Nat) (σ : cy_S) (s q : Int32) : cy_S := cy_clr (cy_i (cy_i (cy_i σ 1 n s) 2 n (if cy_sg s = true then 0 else q)) 3 n (if cy_sg s = true then q else 0)) n 6
theorem cy_mk_1 (n : Nat) (σ : cy_S) (s q : Int32) (k : Nat) : (cy_mk n σ s q).1 1 k = if k = n then s else σ.1 1 k := by
  unfold cy_mk
  rw [cy_clr_c _ _ (by decide)]
  show cy_u (cy_u (cy_u σ.1 1 n s) 2 n (if cy_sg s = true then 0 else q)) 3 n (if cy_sg s = true then q else 0) 1 k = _
  rw [cy_u_ne _ _ _ (by decide), cy_u_ne _ _ _ (by decide), cy_u_row]
  rfl
theorem cy_mk_2 (n : Nat) (σ : cy_S) (s q : Int32) (k : Nat) : (cy_mk n σ s q).1 2 k = if k = n then (if cy_sg s = true then 0 else q) else σ.1 2 k := by
  unfold cy_mk
  rw [cy_clr_c _ _ (by decide)]
  show cy_u (cy_u (cy_u σ.1 1 n s) 2 n (if cy_sg s = true then 0 else q)) 3 n (if cy_sg s = true then q else 0) 2 k = _
  rw [cy_u_ne _ _ _ (by decide), cy_u_row]
  show (if k = n then _ else cy_u σ.1 1 n s 2 k) = _
  rw [cy_u_ne _ _ _ (by decide)]
theorem cy_mk_3 (n : Nat) (σ : cy_S) (s q : Int32) (k : Nat) : (cy_mk n σ s q).1 3 k = if k = n then (if cy_sg s = true then q else 0) else σ.1 3 k := by
  unfold cy_mk
  rw [cy_clr_c _ _ (by decide)]
  show cy_u (cy_u (cy_u σ.1 1 n s) 2 n (if cy_sg s = true then 0 else q)) 3 n (if cy_sg s = true then q else 0) 3 k = _
  rw [cy_u_row]
  show (if k = n then _ else cy_u (cy_u σ.1 1 n s) 2 n (if cy_sg s = true then 0 else q) 3 k) = _
  rw [cy_u_ne _ _ _ (by decide), cy_u_ne _ _ _ (by decide)]
theorem cy_mk_4 (n : Nat) (σ : cy_S) (s q : Int32) (j : Nat) : (cy_mk n σ s q).1 4 j = if 6 * n ≤ j ∧ j < 6 * n + 6 then -1 else σ.1 4 j := by
  unfold cy_mk
  rw [cy_clr_4]
  show (if _ then _ else cy_u (cy_u (cy_u σ.1 1 n s) 2 n (if cy_sg s = true then 0 else q)) 3 n (if cy_sg s = true then q else 0) 4 j) = _
  rw [cy_u_ne _ _ _ (by decide), cy_u_ne _ _ _ (by decide), cy_u_ne _ _ _ (by decide)]
theorem cy_mk_n (n : Nat) (σ : cy_S) (s q : Int32) (j : Nat) : (cy_mk n σ s q).2 0 j = if 6 * n ≤ j ∧ j < 6 * n + 6 then 0 else σ.2 0 j := by
  unfold cy_mk
  rw [cy_clr_n]
  rfl
theorem cy_mk_s (n : Nat) (σ : cy_S) (s q : Int32) : (cy_mk n σ s q).2 1 = σ.2 1 := by
  unfold cy_mk
  rw [cy_clr_s]
  rfl
theorem cy_mk_c (n : Nat) (σ : cy_S) (s q : Int32) {c : Nat} (h1 : c ≠ 1) (h2 : c ≠ 2) (h3 : c ≠ 3) (h4 : c ≠ 4) : (cy_mk n σ s q).1 c = σ.1 c := by
  unfold cy_mk
  rw [cy_clr_c _ _ h4]
  show cy_u (cy_u (cy_u σ.1 1 n s) 2 n (if cy_sg s = true then 0 else q)) 3 n (if cy_sg s = true then q else 0) c = _
  rw [cy_u_ne _ _ _ h3, cy_u_ne _ _ _ h2, cy_u_ne _ _ _ h1]
def cy_ad (ad : Nat → Nat) (n a0 a1 : Nat) : Nat → Nat := fun j => if j = 100 + 2 * n then a0 else if j = 101 + 2 * n then a1 else ad j
theorem cy_ad_o (ad : Nat → Nat) (n a0 a1 : Nat) {j : Nat} (h0 : j ≠ 100 + 2 * n) (h1 : j ≠ 101 + 2 * n) : cy_ad ad n a0 a1 j = ad j := by
  unfold cy_ad
  rw [if_neg h0, if_neg h1]
theorem cy_ad_0 (ad : Nat → Nat) (n a0 a1 : Nat) : cy_ad ad n a0 a1 (100 + 2 * n) = a0 := by
  unfold cy_ad
  rw [if_pos rfl]
theorem cy_ad_1 (ad : Nat → Nat) (n a0 a1 : Nat) : cy_ad ad n a0 a1 (101 + 2 * n) = a1 := by
  unfold cy_ad
  rw [if_neg (by omega), if_pos rfl]
theorem cy_rf_ad {ad : Nat → Nat} {n a0 a1 : Nat} (hn : n ≤ 80) {x : Int32} (h : x = -1 ∨ ∃ t : Nat, t < n ∧ x = nI t) : cy_rf (cy_ad ad n a0 a1) x = cy_rf ad x := by
  rcases h with h | ⟨t, ht, h⟩
  · rw [cy_rf_n h, cy_rf_n h]
  · rw [cy_rf_s (by omega) h, cy_rf_s (by omega) h, cy_ad_o _ _ _ _ (by omega) (by omega)]
section CYD
variable {D : va_G} {z : Nat} {cI cJ cO : ClassId} {n : Nat} {σ σ' τ : cy_S} {pl : Nat → Int32} {hi : Int32} {ad : Nat → Nat} {H H' : Heap} {a0 a1 : Nat}
theorem cy_add_ob {k : Nat} (hk : k < n) (e1 : ∀ k, k < n → σ'.1 1 k = σ.1 1 k) (e3 : ∀ k, k < n → σ'.1 3 k = σ.1 3 k) : cy_ob σ' (cy_ad ad n a0 a1) k = cy_ob σ ad k := by
  unfold cy_ob
  rw [e1 k hk, e3 k hk, cy_ad_o _ _ _ _ (by omega) (by omega)]
theorem cy_ar1 {σ : cy_S} {ad : Nat → Nat} {k : Nat} (h : cy_kd (σ.1 1 k) = 1) : cy_ar cJ cO σ ad k = none := by simp [cy_ar, h]
theorem cy_add_ar {k : Nat} (hok : cy_ok n σ) (hk : k < n) (e1 : ∀ k, k < n → σ'.1 1 k = σ.1 1 k) (e2 : ∀ k, k < n → σ'.1 2 k = σ.1 2 k) (e4 : ∀ k, k < n → ∀ j, j < 6 → σ'.1 4 (6 * k + j) = σ.1 4 (6 * k + j)) (e5 : ∀ k, k < n → ∀ j, j < 6 → σ'.2 0 (6 * k + j) = σ.2 0 (6 * k + j)) : cy_ar cJ cO σ' (cy_ad ad n a0 a1) k = cy_ar cJ cO σ ad k := by
  rcases cy_kd3 hok hk with h | h | h
  · rw [cy_ar0 (σ := σ) h.1, cy_ar0 (σ := σ') (by rw [e1 k hk]; exact h.1), e2 k hk]
    congr 4
    congr 2
    funext j
    by_cases hj : j < 6
    · rw [if_pos hj, if_pos hj, e5 k hk j hj]
    · rw [if_neg hj, if_neg hj]
  · rw [cy_ar1 (σ := σ) h.1, cy_ar1 (σ := σ') (by rw [e1 k hk]; exact h.1)]
  · rw [cy_ar2 (σ := σ) h.1, cy_ar2 (σ := σ') (by rw [e1 k hk]; exact h.1), e2 k hk]
    congr 4
    congr 4
    funext j
    by_cases hj : j < 6
    · rw [if_pos hj, if_pos hj, e4 k hk j hj]
      refine cy_rf_ad hok.1 ?_
      rcases (hok.2.2.1 k hk).2.2.2.2.2 h.2.2.2 j hj with q | ⟨t, ht, q, -⟩
      · exact Or.inl q
      · exact Or.inr ⟨t, ht, q⟩
    · rw [if_neg hj, if_neg hj]
theorem cy_add_Y (hok : cy_ok n σ) (hb : ∀ j, 12 ≤ j → σ.1 5 j = -1) (c0 : σ'.1 0 = σ.1 0) (c5 : σ'.1 5 = σ.1 5) (c6 : σ'.1 6 = σ.1 6) (c7 : σ'.1 7 = σ.1 7) (c8 : σ'.1 8 = σ.1 8) (cs : σ'.2 1 = σ.2 1) : ∀ i, i < 7 → cy_Y cI cJ cO n σ' (cy_ad ad n a0 a1) i = cy_Y cI cJ cO n σ ad i := by
  have o : ∀ j, j < 100 → cy_ad ad n a0 a1 j = ad j := fun j hj => cy_ad_o _ _ _ _ (by omega) (by omega)
  refine cy_lt7 ?_ ?_ ?_ ?_ ?_ ?_ ?_
  · show (.inr (3, cy_fY σ' _) : va_E) = .inr (3, cy_fY σ ad)
    unfold cy_fY
    rw [c0, o 1 (by decide), o 2 (by decide), o 3 (by decide), o 4 (by decide), o 5 (by decide), o 6 (by decide)]
  · rw [cy_Yc1, cy_Yc1]
    congr 4
    congr 3
    funext j
    by_cases hj : j < n
    · rw [if_pos hj, if_pos hj, cy_ad_o _ _ _ _ (by omega) (by omega)]
    · rw [if_neg hj, if_neg hj]
  · show (.inl (cO, 12, .inr (.inr (.inr (.inr (fun j => cy_rf (cy_ad ad n a0 a1) (σ'.1 5 j)))))) : va_E) = .inl (cO, 12, .inr (.inr (.inr (.inr (fun j => cy_rf ad (σ.1 5 j))))))
    rw [c5]
    congr 4
    congr 3
    funext j
    refine cy_rf_ad hok.1 ?_
    by_cases hj : j < 12
    · exact hok.2.2.2.1 j hj
    · exact Or.inl (hb j (by omega))
  · rw [cy_Yc3, cy_Yc3, c6]
  · rw [cy_Yc4, cy_Yc4, cs]
  · rw [cy_Yc5, cy_Yc5, c7]
  · rw [cy_Yc6, cy_Yc6, c8]
theorem cy_add_T : ∀ i, cy_T cI cJ τ pl hi (cy_ad ad n a0 a1) i = cy_T cI cJ τ pl hi ad i := by
  have o : ∀ j, j < 100 → cy_ad ad n a0 a1 j = ad j := fun j hj => cy_ad_o _ _ _ _ (by omega) (by omega)
  intro i
  cases i with
  | zero =>
    show (.inr (4, cy_fT τ hi _) : va_E) = .inr (4, cy_fT τ hi ad)
    unfold cy_fT
    rw [o 21 (by decide), o 22 (by decide), o 23 (by decide), o 24 (by decide), o 25 (by decide), o 26 (by decide), o 27 (by decide), o 28 (by decide), o 29 (by decide), o 30 (by decide), o 31 (by decide)]
  | succ i =>
    match i with
    | 0 => rfl
    | 1 => rfl
    | 2 => rfl
    | 3 => rfl
    | 4 => rfl
    | 5 => rfl
    | 6 => rfl
    | 7 => rfl
    | 8 => rfl
    | 9 => rfl
    | _ + 10 => rfl
/-- one load more -/
theorem cy_W.add (hok : cy_ok n σ) (hb : ∀ j, 12 ≤ j → σ.1 5 j = -1) (hI : cy_W D z (cy_CT cI cJ cO n n σ τ pl hi ad) ad H) (e1 : ∀ k, k < n → σ'.1 1 k = σ.1 1 k) (e2 : ∀ k, k < n → σ'.1 2 k = σ.1 2 k) (e3 : ∀ k, k < n → σ'.1 3 k = σ.1 3 k) (e4 : ∀ k, k < n → ∀ j, j < 6 → σ'.1 4 (6 * k + j) = σ.1 4 (6 * k + j)) (e5 : ∀ k, k < n → ∀ j, j < 6 → σ'.2 0 (6 * k + j) = σ.2 0 (6 * k + j)) (c0 : σ'.1 0 = σ.1 0) (c5 : σ'.1 5 = σ.1 5) (c6 : σ'.1 6 = σ.1 6) (c7 : σ'.1 7 = σ.1 7) (c8 : σ'.1 8 = σ.1 8) (cs : σ'.2 1 = σ.2 1)
    (ho : ∀ q : Nat, q < H.size → H'[q]? = H[q]?) (h0 : H.size ≤ a0) (h1 : H.size ≤ a1) (hne : a0 ≠ a1) (hob : va_at D vwCl (a0, cy_ob σ' (cy_ad ad n a0 a1) n) H') (har : ∀ e, cy_ar cJ cO σ' (cy_ad ad n a0 a1) n = some e → va_at D vwCl (a1, e) H') : cy_W D z (cy_CT cI cJ cO (n + 1) n σ' τ pl hi (cy_ad ad n a0 a1)) (cy_ad ad n a0 a1) H' := by
  have key : ∀ j, j ≠ 100 + 2 * n → j ≠ 101 + 2 * n → cy_CT cI cJ cO (n + 1) n σ' τ pl hi (cy_ad ad n a0 a1) j = cy_CT cI cJ cO n n σ τ pl hi ad j := by
    intro j j0 j1
    unfold cy_CT
    by_cases h7 : j < 7
    · rw [if_pos h7, if_pos h7, cy_add_Y hok hb c0 c5 c6 c7 c8 cs j h7]
    · rw [if_neg h7, if_neg h7]
      by_cases h20 : j < 20
      · rw [if_pos h20, if_pos h20]
      · rw [if_neg h20, if_neg h20]
        by_cases h32 : j < 32
        · rw [if_pos h32, if_pos h32, cy_add_T]
        · rw [if_neg h32, if_neg h32]
          by_cases h100 : j < 100
          · rw [if_pos h100, if_pos h100]
          · rw [if_neg h100, if_neg h100]
            by_cases hn : (j - 100) / 2 < n
            · rw [if_pos hn, if_pos (by omega), cy_add_ob hn e1 e3, cy_add_ar hok hn e1 e2 e4 e5]
            · rw [if_neg hn, if_neg (by omega)]
  have hz : z ≤ H.size := Nat.le_trans (hI.1 0 _ cy_CY).2 (Nat.le_of_lt (hI.lt cy_CY))
  have lt : ∀ j, j ≠ 100 + 2 * n → j ≠ 101 + 2 * n → cy_CT cI cJ cO (n + 1) n σ' τ pl hi (cy_ad ad n a0 a1) j ≠ none → cy_ad ad n a0 a1 j < H.size := by
    intro j j0 j1 hj
    rw [key j j0 j1] at hj
    rw [cy_ad_o _ _ _ _ j0 j1]
    cases hc : cy_CT cI cJ cO n n σ τ pl hi ad j with
    | none => exact absurd hc hj
    | some e => exact hI.lt hc
  refine ⟨fun j e hj => ?_, fun i j hi' hj hij => ?_⟩
  · by_cases j0 : j = 100 + 2 * n
    · subst j0
      rw [cy_CT_ob _ _ _ _ _ _ _ _ _ (Nat.lt_succ_self n)] at hj
      cases hj
      rw [cy_ad_0]
      exact ⟨hob, Nat.le_trans hz h0⟩
    · by_cases j1 : j = 101 + 2 * n
      · subst j1
        rw [cy_CT_ar _ _ _ _ _ _ _ _ _ (Nat.lt_succ_self n)] at hj
        rw [cy_ad_1]
        exact ⟨har e hj, Nat.le_trans hz h1⟩
      · rw [key j j0 j1] at hj
        rw [cy_ad_o _ _ _ _ j0 j1]
        exact ⟨(hI.1 j e hj).1.kept (ho _ (hI.lt hj)), (hI.1 j e hj).2⟩
  · by_cases i0 : i = 100 + 2 * n
    · by_cases j0 : j = 100 + 2 * n
      · omega
      · by_cases j1 : j = 101 + 2 * n
        · subst i0; subst j1
          rw [cy_ad_0, cy_ad_1] at hij
          exact absurd hij hne
        · have := lt j j0 j1 hj
          subst i0
          rw [cy_ad_0] at hij
          omega
    · by_cases i1 : i = 101 + 2 * n
      · by_cases j0 : j = 100 + 2 * n
        · subst i1; subst j0
          rw [cy_ad_0, cy_ad_1] at hij
          exact absurd hij.symm hne
        · by_cases j1 : j = 101 + 2 * n
          · omega
          · have := lt j j0 j1 hj
            subst i1
            rw [cy_ad_1] at hij
            omega
      · have hil := lt i i0 i1 hi'
        by_cases j0 : j = 100 + 2 * n
        · subst j0
          rw [cy_ad_0] at hij
          omega
        · by_cases j1 : j = 101 + 2 * n
          · subst j1
            rw [cy_ad_1] at hij
            omega
          · rw [key i i0 i1] at hi'
            rw [key j j0 j1] at hj
            rw [cy_ad_o _ _ _ _ i0 i1, cy_ad_o _ _ _ _ j0 j1] at hij
            exact hI.2 i j hi' hj hij
end CYD
