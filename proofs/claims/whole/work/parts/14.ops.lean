theorem cy_in12 (b : Int32) : cy_isIn b 0 11 = true ↔ ∃ j : Nat, j < 12 ∧ b = nI j := by
  have h := cy_ld_iff (n := 12) (by decide) b
  unfold cy_ld at h
  rwa [show nI 12 - 1 = (11 : Int32) by decide] at h
theorem cy_in6 (b : Int32) : cy_gt b = true ↔ ∃ j : Nat, j < 6 ∧ b = nI j := by
  have h := cy_ld_iff (n := 6) (by decide) b
  unfold cy_ld at h
  rwa [show nI 6 - 1 = (5 : Int32) by decide] at h
theorem cy_u_twice {α : Type} (f : Nat → Nat → α) (i j : Nat) (v w : α) : cy_u (cy_u f i j v) i j w = cy_u f i j w := by
  funext a b
  unfold cy_u
  by_cases h1 : a = i
  · by_cases h2 : b = j
    · simp [h1, h2]
    · simp [h1, h2]
  · simp [h1]
theorem cy_i_twice (σ : cy_S) (i j : Nat) (v w : Int32) : cy_i (cy_i σ i j v) i j w = cy_i σ i j w := by
  unfold cy_i
  rw [cy_u_twice]
theorem cy_i_self (σ : cy_S) (i j : Nat) : cy_i σ i j (σ.1 i j) = σ := by
  unfold cy_i
  rw [cy_u_self]
theorem cy_no_bad (σ : cy_S) (w : Int32) (h4 : ¬ w = -4) (h5 : ¬ w = -5) (h6 : ¬ w = -6) : cy_no (cy_z σ) w = cy_i σ 0 2 w := by
  have e1 : ∀ v w : Int32, ∀ j, j ≠ 2 → (cy_i σ 0 2 v).1 0 j = σ.1 0 j := by
    intro v w j h
    simp [cy_i, cy_u, h]
  have e2 : ∀ (s : cy_S) (i j : Nat) (x : Int32), s.1 i j = x → cy_i s i j x = s := by
    intro s i j x h
    rw [← h, cy_i_self]
  unfold cy_no cy_z
  rw [cy_i_twice]
  simp only [h4, h5, h6, decide_false]
  rw [show cy_b false = 0 from rfl]
  simp only [Int32.add_zero]
  rw [e1 0 0 3 (by decide), e1 0 0 4 (by decide), e1 0 0 5 (by decide)]
  rw [e2 (cy_i σ 0 2 w) 0 3 _ (e1 w 0 3 (by decide)), e2 (cy_i σ 0 2 w) 0 4 _ (e1 w 0 4 (by decide)), e2 (cy_i σ 0 2 w) 0 5 _ (e1 w 0 5 (by decide))]
abbrev cy_no' (σ : cy_S) (w : Int32) : Int32 × cy_S := (w, cy_no (cy_z σ) w)
def cy_oSet (n : Nat) (σ : cy_S) (l i v : Int32) : Int32 × cy_S := if cy_ld n l = false then (-2, cy_no (cy_z σ) (-2)) else if cy_nu (σ.1 1 l.toNatClampNeg) = false then (-4, cy_no (cy_z σ) (-4)) else if cy_pl (σ.1 2 l.toNatClampNeg) i = false then (-5, cy_no (cy_z σ) (-5)) else (1, cy_l (cy_z σ) 0 (6 * l.toNatClampNeg + i.toNatClampNeg) (if σ.1 1 l.toNatClampNeg = 1 then v.toInt8.toInt32.toInt64 else v.toInt64))
def cy_oNum (n : Nat) (σ : cy_S) (l i : Int32) : Int64 × cy_S := if cy_ld n l = false then (0, cy_no (cy_z σ) (-2)) else if cy_nu (σ.1 1 l.toNatClampNeg) = false then (0, cy_no (cy_z σ) (-4)) else if cy_pl (σ.1 2 l.toNatClampNeg) i = false then (0, cy_no (cy_z σ) (-5)) else (σ.2 0 (6 * l.toNatClampNeg + i.toNatClampNeg), cy_z σ)
def cy_oPut (n : Nat) (σ : cy_S) (l i o : Int32) : Int32 × cy_S := if cy_ld n l = false ∨ (¬ o = -1 ∧ cy_ld n o = false) then (-2, cy_no (cy_z σ) (-2)) else if cy_th (σ.1 1 l.toNatClampNeg) = false ∨ (¬ o = -1 ∧ cy_go (σ.1 1 o.toNatClampNeg) (cy_wa (σ.1 1 l.toNatClampNeg)) = false) then (-4, cy_no (cy_z σ) (-4)) else if cy_pl (σ.1 2 l.toNatClampNeg) i = false then (-5, cy_no (cy_z σ) (-5)) else if ¬ o = -1 ∧ cy_go (σ.1 1 o.toNatClampNeg) (cy_ha (σ.1 1 l.toNatClampNeg)) = false then (-6, cy_no (cy_z σ) (-6)) else (1, cy_i (cy_z σ) 4 (6 * l.toNatClampNeg + i.toNatClampNeg) o)
def cy_oAt (n : Nat) (σ : cy_S) (l i : Int32) : Int32 × cy_S := if cy_ld n l = false then (-2, cy_no (cy_z σ) (-2)) else if cy_th (σ.1 1 l.toNatClampNeg) = false then (-4, cy_no (cy_z σ) (-4)) else if cy_pl (σ.1 2 l.toNatClampNeg) i = false then (-5, cy_no (cy_z σ) (-5)) else (σ.1 4 (6 * l.toNatClampNeg + i.toNatClampNeg), cy_z σ)
def cy_oIs (n : Nat) (σ : cy_S) (l v : Int32) : Int32 × cy_S := if cy_ld n l = false ∨ cy_vw v = false then (-2, cy_no (cy_z σ) (-2)) else (cy_b (cy_go (σ.1 1 l.toNatClampNeg) v), cy_z σ)
def cy_oTake (n : Nat) (σ : cy_S) (l v : Int32) : Int32 × cy_S := if cy_ld n l = false ∨ cy_vw v = false then (-2, cy_no (cy_z σ) (-2)) else if cy_go (σ.1 1 l.toNatClampNeg) v = false then (-4, cy_no (cy_z σ) (-4)) else (cy_co σ l.toNatClampNeg v, cy_z σ)
def cy_oSort (n : Nat) (σ : cy_S) (l : Int32) : Int32 × cy_S := if cy_ld n l = false then (-2, cy_no (cy_z σ) (-2)) else (σ.1 1 l.toNatClampNeg, cy_z σ)
def cy_oHold (n : Nat) (σ : cy_S) (b l : Int32) : Int32 × cy_S := if cy_isIn b 0 11 = false ∨ (¬ l = -1 ∧ cy_ld n l = false) then (-2, cy_no (cy_z σ) (-2)) else (σ.1 5 b.toNatClampNeg, cy_i (cy_z σ) 5 b.toNatClampNeg l)
def cy_oBay (σ : cy_S) (b v : Int32) : Int32 × cy_S := if cy_isIn b 0 11 = false ∨ cy_vw v = false then (-2, cy_no (cy_z σ) (-2)) else if σ.1 5 b.toNatClampNeg = -1 then (-1, cy_z σ) else if cy_go (σ.1 1 (σ.1 5 b.toNatClampNeg).toNatClampNeg) v = false then (-4, cy_no (cy_z σ) (-4)) else (cy_co σ (σ.1 5 b.toNatClampNeg).toNatClampNeg v, cy_z σ)
def cy_oGate (σ : cy_S) (g v : Int32) : Int32 × cy_S := if cy_gt g = false ∨ (¬ v = -1 ∧ cy_vw v = false) then (-2, cy_no (cy_z σ) (-2)) else (σ.1 6 g.toNatClampNeg, cy_l (cy_i (cy_z σ) 6 g.toNatClampNeg v) 1 g.toNatClampNeg 0)
def cy_oPassed (σ : cy_S) (g : Int32) : Int64 × cy_S := if cy_gt g = false then (0, cy_no (cy_z σ) (-2)) else (σ.2 1 g.toNatClampNeg, cy_z σ)
def cy_oTariff (σ : cy_S) (v r : Int32) : Int32 × cy_S := if cy_vw v = false ∨ cy_isIn r (-100) 100 = false then (-2, cy_no (cy_z σ) (-2)) else if σ.1 0 1 = 10 then (-3, cy_no (cy_z σ) (-3)) else (σ.1 0 1 + 1, cy_i (cy_i (cy_i (cy_z σ) 7 (σ.1 0 1).toNatClampNeg v) 8 (σ.1 0 1).toNatClampNeg r) 0 1 (σ.1 0 1 + 1))
/-- what holds of load k -/
def cy_okl (n : Nat) (σ : cy_S) (k : Nat) : Prop := (∃ s : Nat, s ≤ 12 ∧ σ.1 1 k = nI s) ∧ (∃ p : Nat, p ≤ 6 ∧ σ.1 2 k = nI p) ∧ (cy_sg (σ.1 1 k) = true → σ.1 2 k = 0) ∧ (cy_sg (σ.1 1 k) = false → σ.1 3 k = 0) ∧ (cy_nu (σ.1 1 k) = false → ∀ j, j < 6 → σ.2 0 (6 * k + j) = 0) ∧ (cy_th (σ.1 1 k) = true → ∀ j, j < 6 → σ.1 4 (6 * k + j) = -1 ∨ ∃ t : Nat, t < n ∧ σ.1 4 (6 * k + j) = nI t ∧ cy_go (σ.1 1 t) (cy_ha (σ.1 1 k)) = true)
/-- what holds of every state -/
def cy_ok (n : Nat) (σ : cy_S) : Prop := n ≤ 80 ∧ σ.1 0 0 = nI n ∧ (∀ k, k < n → cy_okl n σ k) ∧ (∀ j, j < 12 → σ.1 5 j = -1 ∨ ∃ t : Nat, t < n ∧ σ.1 5 j = nI t) ∧ ∃ q : Nat, q ≤ 10 ∧ σ.1 0 1 = nI q
