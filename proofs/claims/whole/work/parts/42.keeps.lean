/-- what every state between calls keeps -/
def cy_inv (n : Nat) (σ : cy_S) : Prop := cy_ok n σ ∧ ∀ j, 12 ≤ j → σ.1 5 j = -1
theorem cy_inv_cg {n : Nat} {σ σ' : cy_S} (h : cy_inv n σ) (h00 : σ'.1 0 0 = σ.1 0 0) (h01 : ∃ q : Nat, q ≤ 10 ∧ σ'.1 0 1 = nI q) (r1 : σ'.1 1 = σ.1 1) (r2 : σ'.1 2 = σ.1 2) (r3 : σ'.1 3 = σ.1 3) (r4 : σ'.1 4 = σ.1 4) (r5 : σ'.1 5 = σ.1 5) (n0 : σ'.2 0 = σ.2 0) : cy_inv n σ' := by
  obtain ⟨⟨h1, h2, h3, h4, h5⟩, h6⟩ := h
  refine ⟨⟨h1, by rw [h00]; exact h2, fun k hk => ?_, fun j hj => by rw [r5]; exact h4 j hj, h01⟩, fun j hj => by rw [r5]; exact h6 j hj⟩
  have h := h3 k hk
  unfold cy_okl at h ⊢
  rw [r1, r2, r3, r4, n0]
  exact h
theorem cy_inv_no {n : Nat} {σ : cy_S} (h : cy_inv n σ) (w : Int32) : cy_inv n (cy_no (cy_z σ) w) := cy_inv_cg h rfl h.1.2.2.2.2 rfl rfl rfl rfl rfl rfl
theorem cy_inv_z {n : Nat} {σ : cy_S} (h : cy_inv n σ) : cy_inv n (cy_z σ) := cy_inv_cg h rfl h.1.2.2.2.2 rfl rfl rfl rfl rfl rfl
theorem cy_fst_if {α β : Type} {c : Prop} (d : Decidable c) {a b : α × β} {P : β → Prop} (ha : c → P a.2) (hb : ¬ c → P b.2) : P (if c then a else b).2 := by
  by_cases h : c
  · rw [if_pos h]; exact ha h
  · rw [if_neg h]; exact hb h
theorem cy_v_set {n : Nat} {σ : cy_S} (h : cy_inv n σ) (l i v : Int32) : cy_inv n (cy_oSet n σ l i v).2 := by
  unfold cy_oSet
  refine cy_fst_if _ (fun _ => cy_inv_no h _) (fun b1 => cy_fst_if _ (fun _ => cy_inv_no h _) (fun b2 => cy_fst_if _ (fun _ => cy_inv_no h _) (fun b3 => ?_)))
  have b1 : cy_ld n l = true := by cases q : cy_ld n l; exact absurd q b1; rfl
  obtain ⟨k, hk, rfl⟩ := (cy_ld_iff h.1.1 _).mp b1
  have hn := h.1.1
  rw [nI_clamp (by omega)] at b2 b3 ⊢
  have b2 : cy_nu (σ.1 1 k) = true := by cases q : cy_nu (σ.1 1 k); exact absurd q b2; rfl
  obtain ⟨p, hp, ep⟩ := (h.1.2.2.1 k hk).2.1
  have b3 : cy_pl (σ.1 2 k) i = true := by cases q : cy_pl (σ.1 2 k) i; exact absurd q b3; rfl
  obtain ⟨j, hj, rfl⟩ := (cy_pl_iff (p := p) (by omega) _).mp (by rw [← ep]; exact b3)
  rw [nI_clamp (by omega)]
  generalize (if σ.1 1 k = 1 then v.toInt8.toInt32.toInt64 else v.toInt64) = w
  obtain ⟨⟨h1, h2, h3, h4, h5⟩, h6⟩ := h
  refine ⟨⟨h1, h2, fun k' hk' => ?_, h4, h5⟩, h6⟩
  obtain ⟨g1, g2, g3, g4, g5, g6⟩ := h3 k' hk'
  refine ⟨g1, g2, g3, g4, fun hnu j' hj' => ?_, g6⟩
  have hne : k' ≠ k := by
    intro e
    subst e
    have hnu' : cy_nu (σ.1 1 k') = false := hnu
    rw [b2] at hnu'
    cases hnu'
  show cy_u σ.2 0 (6 * k + j) w 0 (6 * k' + j') = 0
  rw [cy_u_row]
  unfold va_up
  rw [if_neg (by omega)]
  exact g5 hnu j' hj'
theorem cy_v_number {n : Nat} {σ : cy_S} (h : cy_inv n σ) (l i : Int32) : cy_inv n (cy_oNum n σ l i).2 := by
  unfold cy_oNum
  exact cy_fst_if _ (fun _ => cy_inv_no h _) (fun _ => cy_fst_if _ (fun _ => cy_inv_no h _) (fun _ => cy_fst_if _ (fun _ => cy_inv_no h _) (fun _ => cy_inv_z h)))
theorem cy_v_put {n : Nat} {σ : cy_S} (h : cy_inv n σ) (l i o : Int32) : cy_inv n (cy_oPut n σ l i o).2 := by
  unfold cy_oPut
  refine cy_fst_if _ (fun _ => cy_inv_no h _) (fun b1 => cy_fst_if _ (fun _ => cy_inv_no h _) (fun b2 => cy_fst_if _ (fun _ => cy_inv_no h _) (fun b3 => cy_fst_if _ (fun _ => cy_inv_no h _) (fun b4 => ?_))))
  have hn := h.1.1
  have b1a : cy_ld n l = true := by cases q : cy_ld n l; exact absurd (Or.inl q) b1; rfl
  obtain ⟨k, hk, rfl⟩ := (cy_ld_iff hn _).mp b1a
  rw [nI_clamp (show k < 2 ^ 31 by omega)] at b2 b3 b4 ⊢
  obtain ⟨p, hp, ep⟩ := (h.1.2.2.1 k hk).2.1
  have b3 : cy_pl (σ.1 2 k) i = true := by cases q : cy_pl (σ.1 2 k) i; exact absurd q b3; rfl
  obtain ⟨j, hj, rfl⟩ := (cy_pl_iff (p := p) (by omega) _).mp (by rw [← ep]; exact b3)
  rw [nI_clamp (show j < 2 ^ 31 by omega)]
  have ho : o = -1 ∨ ∃ t : Nat, t < n ∧ o = nI t ∧ cy_go (σ.1 1 t) (cy_ha (σ.1 1 k)) = true := by
    by_cases e : o = -1
    · exact Or.inl e
    · right
      have q1 : cy_ld n o = true := by cases q : cy_ld n o; exact absurd (Or.inr ⟨e, q⟩) b1; rfl
      obtain ⟨t, ht, et⟩ := (cy_ld_iff hn _).mp q1
      refine ⟨t, ht, et, ?_⟩
      cases q : cy_go (σ.1 1 t) (cy_ha (σ.1 1 k)) with
      | true => rfl
      | false => exact absurd ⟨e, by rw [et, nI_clamp (by omega)]; exact q⟩ b4
  obtain ⟨⟨h1, h2, h3, h4, h5⟩, h6⟩ := h
  refine ⟨⟨h1, h2, fun k' hk' => ?_, h4, h5⟩, h6⟩
  obtain ⟨g1, g2, g3, g4, g5, g6⟩ := h3 k' hk'
  refine ⟨g1, g2, g3, g4, g5, fun hth j' hj' => ?_⟩
  show (cy_u σ.1 4 (6 * k + j) o 4 (6 * k' + j') = -1) ∨ ∃ t : Nat, t < n ∧ cy_u σ.1 4 (6 * k + j) o 4 (6 * k' + j') = nI t ∧ cy_go (σ.1 1 t) (cy_ha (σ.1 1 k')) = true
  rw [cy_u_row]
  unfold va_up
  by_cases e : 6 * k' + j' = 6 * k + j
  · rw [if_pos e]
    obtain rfl : k' = k := by omega
    exact ho
  · rw [if_neg e]
    exact g6 hth j' hj'
theorem cy_v_at {n : Nat} {σ : cy_S} (h : cy_inv n σ) (l i : Int32) : cy_inv n (cy_oAt n σ l i).2 := by
  unfold cy_oAt
  exact cy_fst_if _ (fun _ => cy_inv_no h _) (fun _ => cy_fst_if _ (fun _ => cy_inv_no h _) (fun _ => cy_fst_if _ (fun _ => cy_inv_no h _) (fun _ => cy_inv_z h)))
theorem cy_v_is {n : Nat} {σ : cy_S} (h : cy_inv n σ) (l v : Int32) : cy_inv n (cy_oIs n σ l v).2 := by
  unfold cy_oIs
  exact cy_fst_if _ (fun _ => cy_inv_no h _) (fun _ => cy_inv_z h)
theorem cy_v_take {n : Nat} {σ : cy_S} (h : cy_inv n σ) (l v : Int32) : cy_inv n (cy_oTake n σ l v).2 := by
  unfold cy_oTake
  exact cy_fst_if _ (fun _ => cy_inv_no h _) (fun _ => cy_fst_if _ (fun _ => cy_inv_no h _) (fun _ => cy_inv_z h))
theorem cy_v_sort {n : Nat} {σ : cy_S} (h : cy_inv n σ) (l : Int32) : cy_inv n (cy_oSort n σ l).2 := by
  unfold cy_oSort
  exact cy_fst_if _ (fun _ => cy_inv_no h _) (fun _ => cy_inv_z h)
theorem cy_v_weight {n : Nat} {σ : cy_S} (h : cy_inv n σ) (l : Int32) : cy_inv n (cy_oWeight n σ l).2 := by
  unfold cy_oWeight
  exact cy_fst_if _ (fun _ => cy_inv_no h _) (fun _ => cy_inv_z h)
theorem cy_v_inside {n : Nat} {σ : cy_S} (h : cy_inv n σ) (l v : Int32) : cy_inv n (cy_oInside n σ l v).2 := by
  unfold cy_oInside
  exact cy_fst_if _ (fun _ => cy_inv_no h _) (fun _ => cy_inv_z h)
theorem cy_v_hold {n : Nat} {σ : cy_S} (h : cy_inv n σ) (b l : Int32) : cy_inv n (cy_oHold n σ b l).2 := by
  unfold cy_oHold
  refine cy_fst_if _ (fun _ => cy_inv_no h _) (fun b1 => ?_)
  have hn := h.1.1
  have q1 : cy_isIn b 0 11 = true := by cases q : cy_isIn b 0 11; exact absurd (Or.inl q) b1; rfl
  obtain ⟨j, hj, rfl⟩ := (cy_in12 _).mp q1
  rw [nI_clamp (by omega)]
  have ho : l = -1 ∨ ∃ t : Nat, t < n ∧ l = nI t := by
    by_cases e : l = -1
    · exact Or.inl e
    · have q2 : cy_ld n l = true := by cases q : cy_ld n l; exact absurd (Or.inr ⟨e, q⟩) b1; rfl
      exact Or.inr ((cy_ld_iff hn _).mp q2)
  obtain ⟨⟨h1, h2, h3, h4, h5⟩, h6⟩ := h
  refine ⟨⟨h1, h2, h3, fun j' hj' => ?_, h5⟩, fun j' hj' => ?_⟩
  · show (cy_u σ.1 5 j l 5 j' = -1) ∨ ∃ t : Nat, t < n ∧ cy_u σ.1 5 j l 5 j' = nI t
    rw [cy_u_row]
    unfold va_up
    by_cases e : j' = j
    · rw [if_pos e]; exact ho
    · rw [if_neg e]; exact h4 j' hj'
  · show cy_u σ.1 5 j l 5 j' = -1
    rw [cy_u_row]
    unfold va_up
    rw [if_neg (by omega)]
    exact h6 j' hj'
theorem cy_v_bay {n : Nat} {σ : cy_S} (h : cy_inv n σ) (b v : Int32) : cy_inv n (cy_oBay σ b v).2 := by
  unfold cy_oBay
  exact cy_fst_if _ (fun _ => cy_inv_no h _) (fun _ => cy_fst_if _ (fun _ => cy_inv_z h) (fun _ => cy_fst_if _ (fun _ => cy_inv_no h _) (fun _ => cy_inv_z h)))
theorem cy_v_gate {n : Nat} {σ : cy_S} (h : cy_inv n σ) (g v : Int32) : cy_inv n (cy_oGate σ g v).2 := by
  unfold cy_oGate
  exact cy_fst_if _ (fun _ => cy_inv_no h _) (fun _ => cy_inv_cg h rfl h.1.2.2.2.2 rfl rfl rfl rfl rfl rfl)
theorem cy_v_pass {n : Nat} {σ : cy_S} (h : cy_inv n σ) (l g : Int32) : cy_inv n (cy_oPass n σ l g).2 := by
  unfold cy_oPass
  exact cy_fst_if _ (fun _ => cy_inv_no h _) (fun _ => cy_fst_if _ (fun _ => cy_inv_cg h rfl h.1.2.2.2.2 rfl rfl rfl rfl rfl rfl) (fun _ => cy_inv_cg h rfl h.1.2.2.2.2 rfl rfl rfl rfl rfl rfl))
theorem cy_v_passed {n : Nat} {σ : cy_S} (h : cy_inv n σ) (g : Int32) : cy_inv n (cy_oPassed σ g).2 := by
  unfold cy_oPassed
  exact cy_fst_if _ (fun _ => cy_inv_no h _) (fun _ => cy_inv_z h)
theorem cy_v_tariff {n : Nat} {σ : cy_S} (h : cy_inv n σ) (v r : Int32) : cy_inv n (cy_oTariff σ v r).2 := by
  unfold cy_oTariff
  refine cy_fst_if _ (fun _ => cy_inv_no h _) (fun _ => cy_fst_if _ (fun _ => cy_inv_no h _) (fun b2 => ?_))
  obtain ⟨q, hq, eq⟩ := h.1.2.2.2.2
  refine cy_inv_cg h rfl ⟨q + 1, ?_, ?_⟩ rfl rfl rfl rfl rfl rfl
  · have : q < 10 := cy_lt10 hq (by rw [← eq]; exact b2)
    omega
  · show σ.1 0 1 + 1 = nI (q + 1)
    rw [eq, nI_1]
theorem cy_v_duty {n : Nat} {σ : cy_S} (h : cy_inv n σ) (l : Int32) : cy_inv n (cy_oDuty n σ l).2 := by
  unfold cy_oDuty
  exact cy_fst_if _ (fun _ => cy_inv_no h _) (fun _ => cy_fst_if _ (fun _ => cy_inv_z h) (fun _ => cy_inv_z h))
theorem cy_v_line {n : Nat} {σ : cy_S} (h : cy_inv n σ) (l : Int32) : cy_inv n (cy_oLine n σ l).2 := by
  unfold cy_oLine
  exact cy_fst_if _ (fun _ => cy_inv_no h _) (fun _ => cy_inv_z h)
theorem cy_in13 {s : Int32} (h : cy_isIn s 0 12 = true) : ∃ a : Nat, a ≤ 12 ∧ s = nI a := by
  obtain ⟨a, ha, e⟩ := (cy_ld_iff (n := 13) (by decide) s).mp (by unfold cy_ld; rw [show nI 13 - 1 = (12 : Int32) by decide]; exact h)
  exact ⟨a, by omega, e⟩
theorem cy_in7 {s : Int32} (h : cy_isIn s 0 6 = true) : ∃ a : Nat, a ≤ 6 ∧ s = nI a := by
  obtain ⟨a, ha, e⟩ := (cy_ld_iff (n := 7) (by decide) s).mp (by unfold cy_ld; rw [show nI 7 - 1 = (6 : Int32) by decide]; exact h)
  exact ⟨a, by omega, e⟩
theorem cy_v_load {n : Nat} {σ : cy_S} (h : cy_inv n σ) (s q : Int32) : cy_inv (cy_nL n s q) (cy_oLoad n σ s q).2 := by
  unfold cy_oLoad cy_nL
  by_cases c1 : cy_isIn s 0 12 = false ∨ cy_isIn q 0 (if cy_sg s = true then 1000 else 6) = false
  · rw [if_pos c1, if_pos c1]
    exact cy_inv_no h _
  · rw [if_neg c1, if_neg c1]
    by_cases c2 : n = 80
    · rw [if_pos c2, if_pos c2]
      exact cy_inv_no h _
    · rw [if_neg c2, if_neg c2]
      have hs : cy_isIn s 0 12 = true := by cases r : cy_isIn s 0 12; exact absurd (Or.inl r) c1; rfl
      have hq : cy_isIn q 0 (if cy_sg s = true then 1000 else 6) = true := by cases r : cy_isIn q 0 (if cy_sg s = true then 1000 else 6); exact absurd (Or.inr r) c1; rfl
      obtain ⟨a, ha, ea⟩ := cy_in13 hs
      obtain ⟨⟨h1, h2, h3, h4, h5⟩, h6⟩ := cy_inv_z h
      generalize hτ : cy_z σ = τ at h1 h2 h3 h4 h5 h6 ⊢
      have w0 : ∀ c j, c ≠ 0 → (cy_ldw n τ s q).1 c j = (cy_mk n τ s q).1 c j := by
        intro c j hc
        show cy_u (cy_mk n τ s q).1 0 0 (nI (n + 1)) c j = _
        rw [cy_u_ne _ _ _ hc]
      have wn : ∀ j, (cy_ldw n τ s q).2 0 j = (cy_mk n τ s q).2 0 j := fun j => rfl
      have m5 : (cy_mk n τ s q).1 5 = τ.1 5 := cy_mk_c _ _ _ _ (by decide) (by decide) (by decide) (by decide)
      refine ⟨⟨by omega, ?_, fun k hk => ?_, fun j hj => ?_, ?_⟩, fun j hj => ?_⟩
      · show cy_u (cy_mk n τ s q).1 0 0 (nI (n + 1)) 0 0 = nI (n + 1)
        rw [cy_u_at]
      · unfold cy_okl
        rw [w0 1 k (by decide), w0 2 k (by decide), w0 3 k (by decide)]
        by_cases e : k = n
        · subst e
          rw [cy_mk_1, cy_mk_2, cy_mk_3, if_pos rfl, if_pos rfl, if_pos rfl]
          refine ⟨⟨a, ha, ea⟩, ?_, fun hg => ?_, fun hg => ?_, fun _ j hj => ?_, fun _ j hj => Or.inl ?_⟩
          · by_cases hg : cy_sg s = true
            · rw [if_pos hg]
              exact ⟨0, by omega, rfl⟩
            · rw [if_neg hg] at hq ⊢
              exact cy_in7 hq
          · rw [if_pos hg]
          · rw [if_neg (by rw [hg]; decide)]
          · rw [wn, cy_mk_n, if_pos (by omega)]
          · rw [w0 4 _ (by decide), cy_mk_4, if_pos (by omega)]
        · have hk' : k < n := by omega
          rw [cy_mk_1, cy_mk_2, cy_mk_3, if_neg e, if_neg e, if_neg e]
          obtain ⟨g1, g2, g3, g4, g5, g6⟩ := h3 k hk'
          refine ⟨g1, g2, g3, g4, fun hg j hj => ?_, fun hg j hj => ?_⟩
          · rw [wn, cy_mk_n, if_neg (by omega)]
            exact g5 hg j hj
          · rw [w0 4 _ (by decide), cy_mk_4, if_neg (by omega)]
            rcases g6 hg j hj with r | ⟨t, ht, r, hgo⟩
            · exact Or.inl r
            · refine Or.inr ⟨t, by omega, r, ?_⟩
              rw [w0 1 t (by decide), cy_mk_1, if_neg (by omega)]
              exact hgo
      · rw [w0 5 j (by decide), m5]
        rcases h4 j hj with r | ⟨t, ht, r⟩
        · exact Or.inl r
        · exact Or.inr ⟨t, by omega, r⟩
      · obtain ⟨q0, hq0, e0⟩ := h5
        refine ⟨q0, hq0, ?_⟩
        show cy_u (cy_mk n τ s q).1 0 0 (nI (n + 1)) 0 1 = nI q0
        rw [cy_u_row]
        show (if (1 : Nat) = 0 then _ else (cy_mk n τ s q).1 0 1) = nI q0
        rw [if_neg (by decide), cy_mk_c _ _ _ _ (by decide) (by decide) (by decide) (by decide)]
        exact e0
      · rw [w0 5 j (by decide), m5]
        exact h6 j hj
