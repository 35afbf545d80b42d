theorem cy_nb (x : Bool) : narrow .boolean (.int (cy_b x)) = .int (cy_b x) := by cases x <;> rfl
def cy_isIn (v a b : Int32) : Bool := !decide (v < a) && !decide (b < v)
/-- GOES AS -/
def cy_go (s v : Int32) : Bool := decide (s = v) || decide (s = 5 ∧ (v = 4 ∨ v = 13)) || decide (s = 6 ∧ v = 13) || decide (s = 8 ∧ (v = 7 ∨ v = 9)) || decide (s = 11 ∧ (v = 10 ∨ v = 12))
def cy_sg (s : Int32) : Bool := cy_isIn s 4 6
def cy_nu (s : Int32) : Bool := cy_isIn s 0 2
def cy_th (s : Int32) : Bool := decide (s = 3) || cy_isIn s 7 12
def cy_vw (v : Int32) : Bool := cy_isIn v 0 13
def cy_gt (v : Int32) : Bool := cy_isIn v 0 5
def cy_wa (s : Int32) : Int32 := if s = 3 then 0 else if s < 9 then 4 else if s = 9 then 13 else if s = 12 then 9 else 7
def cy_ha (s : Int32) : Int32 := if s = 8 then 5 else if s = 11 then 8 else cy_wa s
/-- a call's start: nothing is refused -/
def cy_z (σ : cy_S) : cy_S := cy_i σ 0 2 0
/-- a refusal -/
def cy_no (σ : cy_S) (w : Int32) : cy_S := cy_i (cy_i (cy_i (cy_i σ 0 2 w) 0 3 (σ.1 0 3 + cy_b (decide (w = -4)))) 0 4 (σ.1 0 4 + cy_b (decide (w = -5)))) 0 5 (σ.1 0 5 + cy_b (decide (w = -6)))
/-- there is such a load -/
def cy_ld (n : Nat) (l : Int32) : Bool := cy_isIn l 0 (nI n - 1)
theorem cy_ld_iff {n : Nat} (hn : n ≤ 80) (l : Int32) : cy_ld n l = true ↔ ∃ k : Nat, k < n ∧ l = nI k := by
  have e1 : (nI n - 1).toInt = (n : Int) - 1 := pk_sub_toInt (a := n) (b := 1) (by omega) (by omega)
  unfold cy_ld cy_isIn
  rw [Bool.and_eq_true, Bool.not_eq_true', Bool.not_eq_true', decide_eq_false_iff_not, decide_eq_false_iff_not]
  constructor
  · intro ⟨h1, h2⟩
    obtain ⟨j, hj, rfl⟩ := nI_of h1
    refine ⟨j, ?_, rfl⟩
    rw [Int32.lt_iff_toInt_lt, e1, nI_toInt hj] at h2
    omega
  · intro ⟨k, hk, e⟩
    subst e
    refine ⟨nI_pos (by omega), ?_⟩
    rw [Int32.lt_iff_toInt_lt, e1, nI_toInt (by omega)]
    omega
theorem cy_ld_k {n : Nat} (hn : n ≤ 80) {k : Nat} (hk : k < n) : cy_ld n (nI k) = true := (cy_ld_iff hn _).mpr ⟨k, hk, rfl⟩
/-- there is such a place, p of them -/
def cy_pl (p i : Int32) : Bool := cy_isIn i 0 (p - 1)
theorem cy_pl_iff {p : Nat} (hp : p ≤ 80) (i : Int32) : cy_pl (nI p) i = true ↔ ∃ k : Nat, k < p ∧ i = nI k := cy_ld_iff hp i
/-- what comes of taking load k as a view that it goes as -/
def cy_co (σ : cy_S) (k : Nat) (v : Int32) : Int32 := if cy_sg (σ.1 1 k) = false then σ.1 2 k else if ¬ v = 13 then σ.1 3 k else if σ.1 1 k = 5 then σ.1 3 k + 1000 else 2 * σ.1 3 k
def cy_cn (σ : cy_S) (v : Int32) : Int32 := if v = 0 then σ.1 0 0 else if v = 1 then σ.1 0 3 else if v = 2 then σ.1 0 4 else if v = 3 then σ.1 0 5 else if v = 4 then σ.1 0 6 else if v = 5 then σ.1 0 1 else -2
theorem cy_sw5_11 (x : Int32) : x = 5 ∨ x = 6 ∨ x = 7 ∨ x = 8 ∨ x = 9 ∨ x = 10 ∨ x = 11 ∨ ((x.toInt < 5 ∨ 11 < x.toInt) ∧ ¬ x = 5 ∧ ¬ x = 6 ∧ ¬ x = 7 ∧ ¬ x = 8 ∧ ¬ x = 9 ∧ ¬ x = 10 ∧ ¬ x = 11) := by
  have key : ∀ c : Int32, x.toInt = c.toInt → x = c := fun c h => Int32.toInt_inj.mp h
  by_cases h1 : x.toInt < 5 ∨ 11 < x.toInt
  · exact Or.inr (Or.inr (Or.inr (Or.inr (Or.inr (Or.inr (Or.inr (⟨h1, fun q => by subst q; revert h1; decide, fun q => by subst q; revert h1; decide, fun q => by subst q; revert h1; decide, fun q => by subst q; revert h1; decide, fun q => by subst q; revert h1; decide, fun q => by subst q; revert h1; decide, fun q => by subst q; revert h1; decide⟩)))))))
  · rcases (show x.toInt = 5 ∨ x.toInt = 6 ∨ x.toInt = 7 ∨ x.toInt = 8 ∨ x.toInt = 9 ∨ x.toInt = 10 ∨ x.toInt = 11 by omega) with h | h | h | h | h | h | h
    · exact Or.inl (key 5 h)
    · exact Or.inr (Or.inl (key 6 h))
    · exact Or.inr (Or.inr (Or.inl (key 7 h)))
    · exact Or.inr (Or.inr (Or.inr (Or.inl (key 8 h))))
    · exact Or.inr (Or.inr (Or.inr (Or.inr (Or.inl (key 9 h)))))
    · exact Or.inr (Or.inr (Or.inr (Or.inr (Or.inr (Or.inl (key 10 h))))))
    · exact Or.inr (Or.inr (Or.inr (Or.inr (Or.inr (Or.inr (Or.inl (key 11 h)))))))
theorem cy_sw3_11 (x : Int32) : x = 3 ∨ x = 4 ∨ x = 5 ∨ x = 6 ∨ x = 7 ∨ x = 8 ∨ x = 9 ∨ x = 10 ∨ x = 11 ∨ ((x.toInt < 3 ∨ 11 < x.toInt) ∧ ¬ x = 3 ∧ ¬ x = 4 ∧ ¬ x = 5 ∧ ¬ x = 6 ∧ ¬ x = 7 ∧ ¬ x = 8 ∧ ¬ x = 9 ∧ ¬ x = 10 ∧ ¬ x = 11) := by
  have key : ∀ c : Int32, x.toInt = c.toInt → x = c := fun c h => Int32.toInt_inj.mp h
  by_cases h1 : x.toInt < 3 ∨ 11 < x.toInt
  · exact Or.inr (Or.inr (Or.inr (Or.inr (Or.inr (Or.inr (Or.inr (Or.inr (Or.inr (⟨h1, fun q => by subst q; revert h1; decide, fun q => by subst q; revert h1; decide, fun q => by subst q; revert h1; decide, fun q => by subst q; revert h1; decide, fun q => by subst q; revert h1; decide, fun q => by subst q; revert h1; decide, fun q => by subst q; revert h1; decide, fun q => by subst q; revert h1; decide, fun q => by subst q; revert h1; decide⟩)))))))))
  · rcases (show x.toInt = 3 ∨ x.toInt = 4 ∨ x.toInt = 5 ∨ x.toInt = 6 ∨ x.toInt = 7 ∨ x.toInt = 8 ∨ x.toInt = 9 ∨ x.toInt = 10 ∨ x.toInt = 11 by omega) with h | h | h | h | h | h | h | h | h
    · exact Or.inl (key 3 h)
    · exact Or.inr (Or.inl (key 4 h))
    · exact Or.inr (Or.inr (Or.inl (key 5 h)))
    · exact Or.inr (Or.inr (Or.inr (Or.inl (key 6 h))))
    · exact Or.inr (Or.inr (Or.inr (Or.inr (Or.inl (key 7 h)))))
    · exact Or.inr (Or.inr (Or.inr (Or.inr (Or.inr (Or.inl (key 8 h))))))
    · exact Or.inr (Or.inr (Or.inr (Or.inr (Or.inr (Or.inr (Or.inl (key 9 h)))))))
    · exact Or.inr (Or.inr (Or.inr (Or.inr (Or.inr (Or.inr (Or.inr (Or.inl (key 10 h))))))))
    · exact Or.inr (Or.inr (Or.inr (Or.inr (Or.inr (Or.inr (Or.inr (Or.inr (Or.inl (key 11 h)))))))))
theorem cy_sw0_5 (x : Int32) : x = 0 ∨ x = 1 ∨ x = 2 ∨ x = 3 ∨ x = 4 ∨ x = 5 ∨ ((x.toInt < 0 ∨ 5 < x.toInt) ∧ ¬ x = 0 ∧ ¬ x = 1 ∧ ¬ x = 2 ∧ ¬ x = 3 ∧ ¬ x = 4 ∧ ¬ x = 5) := by
  have key : ∀ c : Int32, x.toInt = c.toInt → x = c := fun c h => Int32.toInt_inj.mp h
  by_cases h1 : x.toInt < 0 ∨ 5 < x.toInt
  · exact Or.inr (Or.inr (Or.inr (Or.inr (Or.inr (Or.inr (⟨h1, fun q => by subst q; revert h1; decide, fun q => by subst q; revert h1; decide, fun q => by subst q; revert h1; decide, fun q => by subst q; revert h1; decide, fun q => by subst q; revert h1; decide, fun q => by subst q; revert h1; decide⟩))))))
  · rcases (show x.toInt = 0 ∨ x.toInt = 1 ∨ x.toInt = 2 ∨ x.toInt = 3 ∨ x.toInt = 4 ∨ x.toInt = 5 by omega) with h | h | h | h | h | h
    · exact Or.inl (key 0 h)
    · exact Or.inr (Or.inl (key 1 h))
    · exact Or.inr (Or.inr (Or.inl (key 2 h)))
    · exact Or.inr (Or.inr (Or.inr (Or.inl (key 3 h))))
    · exact Or.inr (Or.inr (Or.inr (Or.inr (Or.inl (key 4 h)))))
    · exact Or.inr (Or.inr (Or.inr (Or.inr (Or.inr (Or.inl (key 5 h))))))
theorem cy_sw0_19 (x : Int32) : x = 0 ∨ x = 1 ∨ x = 2 ∨ x = 3 ∨ x = 4 ∨ x = 5 ∨ x = 6 ∨ x = 7 ∨ x = 8 ∨ x = 9 ∨ x = 10 ∨ x = 11 ∨ x = 12 ∨ x = 13 ∨ x = 14 ∨ x = 15 ∨ x = 16 ∨ x = 17 ∨ x = 18 ∨ x = 19 ∨ ((x.toInt < 0 ∨ 19 < x.toInt) ∧ ¬ x = 0 ∧ ¬ x = 1 ∧ ¬ x = 2 ∧ ¬ x = 3 ∧ ¬ x = 4 ∧ ¬ x = 5 ∧ ¬ x = 6 ∧ ¬ x = 7 ∧ ¬ x = 8 ∧ ¬ x = 9 ∧ ¬ x = 10 ∧ ¬ x = 11 ∧ ¬ x = 12 ∧ ¬ x = 13 ∧ ¬ x = 14 ∧ ¬ x = 15 ∧ ¬ x = 16 ∧ ¬ x = 17 ∧ ¬ x = 18 ∧ ¬ x = 19) := by
  have key : ∀ c : Int32, x.toInt = c.toInt → x = c := fun c h => Int32.toInt_inj.mp h
  by_cases h1 : x.toInt < 0 ∨ 19 < x.toInt
  · exact Or.inr (Or.inr (Or.inr (Or.inr (Or.inr (Or.inr (Or.inr (Or.inr (Or.inr (Or.inr (Or.inr (Or.inr (Or.inr (Or.inr (Or.inr (Or.inr (Or.inr (Or.inr (Or.inr (Or.inr (⟨h1, fun q => by subst q; revert h1; decide, fun q => by subst q; revert h1; decide, fun q => by subst q; revert h1; decide, fun q => by subst q; revert h1; decide, fun q => by subst q; revert h1; decide, fun q => by subst q; revert h1; decide, fun q => by subst q; revert h1; decide, fun q => by subst q; revert h1; decide, fun q => by subst q; revert h1; decide, fun q => by subst q; revert h1; decide, fun q => by subst q; revert h1; decide, fun q => by subst q; revert h1; decide, fun q => by subst q; revert h1; decide, fun q => by subst q; revert h1; decide, fun q => by subst q; revert h1; decide, fun q => by subst q; revert h1; decide, fun q => by subst q; revert h1; decide, fun q => by subst q; revert h1; decide, fun q => by subst q; revert h1; decide, fun q => by subst q; revert h1; decide⟩))))))))))))))))))))
  · rcases (show x.toInt = 0 ∨ x.toInt = 1 ∨ x.toInt = 2 ∨ x.toInt = 3 ∨ x.toInt = 4 ∨ x.toInt = 5 ∨ x.toInt = 6 ∨ x.toInt = 7 ∨ x.toInt = 8 ∨ x.toInt = 9 ∨ x.toInt = 10 ∨ x.toInt = 11 ∨ x.toInt = 12 ∨ x.toInt = 13 ∨ x.toInt = 14 ∨ x.toInt = 15 ∨ x.toInt = 16 ∨ x.toInt = 17 ∨ x.toInt = 18 ∨ x.toInt = 19 by omega) with h | h | h | h | h | h | h | h | h | h | h | h | h | h | h | h | h | h | h | h
    · exact Or.inl (key 0 h)
    · exact Or.inr (Or.inl (key 1 h))
    · exact Or.inr (Or.inr (Or.inl (key 2 h)))
    · exact Or.inr (Or.inr (Or.inr (Or.inl (key 3 h))))
    · exact Or.inr (Or.inr (Or.inr (Or.inr (Or.inl (key 4 h)))))
    · exact Or.inr (Or.inr (Or.inr (Or.inr (Or.inr (Or.inl (key 5 h))))))
    · exact Or.inr (Or.inr (Or.inr (Or.inr (Or.inr (Or.inr (Or.inl (key 6 h)))))))
    · exact Or.inr (Or.inr (Or.inr (Or.inr (Or.inr (Or.inr (Or.inr (Or.inl (key 7 h))))))))
    · exact Or.inr (Or.inr (Or.inr (Or.inr (Or.inr (Or.inr (Or.inr (Or.inr (Or.inl (key 8 h)))))))))
    · exact Or.inr (Or.inr (Or.inr (Or.inr (Or.inr (Or.inr (Or.inr (Or.inr (Or.inr (Or.inl (key 9 h))))))))))
    · exact Or.inr (Or.inr (Or.inr (Or.inr (Or.inr (Or.inr (Or.inr (Or.inr (Or.inr (Or.inr (Or.inl (key 10 h)))))))))))
    · exact Or.inr (Or.inr (Or.inr (Or.inr (Or.inr (Or.inr (Or.inr (Or.inr (Or.inr (Or.inr (Or.inr (Or.inl (key 11 h))))))))))))
    · exact Or.inr (Or.inr (Or.inr (Or.inr (Or.inr (Or.inr (Or.inr (Or.inr (Or.inr (Or.inr (Or.inr (Or.inr (Or.inl (key 12 h)))))))))))))
    · exact Or.inr (Or.inr (Or.inr (Or.inr (Or.inr (Or.inr (Or.inr (Or.inr (Or.inr (Or.inr (Or.inr (Or.inr (Or.inr (Or.inl (key 13 h))))))))))))))
    · exact Or.inr (Or.inr (Or.inr (Or.inr (Or.inr (Or.inr (Or.inr (Or.inr (Or.inr (Or.inr (Or.inr (Or.inr (Or.inr (Or.inr (Or.inl (key 14 h)))))))))))))))
    · exact Or.inr (Or.inr (Or.inr (Or.inr (Or.inr (Or.inr (Or.inr (Or.inr (Or.inr (Or.inr (Or.inr (Or.inr (Or.inr (Or.inr (Or.inr (Or.inl (key 15 h))))))))))))))))
    · exact Or.inr (Or.inr (Or.inr (Or.inr (Or.inr (Or.inr (Or.inr (Or.inr (Or.inr (Or.inr (Or.inr (Or.inr (Or.inr (Or.inr (Or.inr (Or.inr (Or.inl (key 16 h)))))))))))))))))
    · exact Or.inr (Or.inr (Or.inr (Or.inr (Or.inr (Or.inr (Or.inr (Or.inr (Or.inr (Or.inr (Or.inr (Or.inr (Or.inr (Or.inr (Or.inr (Or.inr (Or.inr (Or.inl (key 17 h))))))))))))))))))
    · exact Or.inr (Or.inr (Or.inr (Or.inr (Or.inr (Or.inr (Or.inr (Or.inr (Or.inr (Or.inr (Or.inr (Or.inr (Or.inr (Or.inr (Or.inr (Or.inr (Or.inr (Or.inr (Or.inl (key 18 h)))))))))))))))))))
    · exact Or.inr (Or.inr (Or.inr (Or.inr (Or.inr (Or.inr (Or.inr (Or.inr (Or.inr (Or.inr (Or.inr (Or.inr (Or.inr (Or.inr (Or.inr (Or.inr (Or.inr (Or.inr (Or.inr (Or.inl (key 19 h))))))))))))))))))))

