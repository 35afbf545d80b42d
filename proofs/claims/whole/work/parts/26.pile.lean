/-- rows from i on, f of them: their sum -/
def cy_ns (σ : cy_S) (k : Nat) : Nat → Nat → Int64
  | 0, _ => 0
  | f + 1, i => σ.2 0 (6 * k + i) + cy_ns σ k f (i + 1)
/-- what lies in load k, from place i on -/
def cy_cf (σ : cy_S) (k : Nat) : Nat → Nat → List Nat
  | 0, _ => []
  | f + 1, i => (if σ.1 4 (6 * k + i) = -1 then [] else [(σ.1 4 (6 * k + i)).toNatClampNeg]) ++ cy_cf σ k f (i + 1)
def cy_ch (σ : cy_S) (k : Nat) : List Nat := if cy_th (σ.1 1 k) = true then cy_cf σ k (σ.1 2 k).toNatClampNeg 0 else []
/-- the own weight of load k -/
def cy_bs (σ : cy_S) (k : Nat) : Int64 := (σ.1 3 k).toInt64 + cy_ns σ k (σ.1 2 k).toNatClampNeg 0
def cy_smL (h : Nat → Int64) : List Nat → Int64
  | [] => 0
  | t :: r => h t + cy_smL h r
def cy_smI (h : Nat → Int32) : List Nat → Int32
  | [] => 0
  | t :: r => h t + cy_smI h r
def cy_smN (h : Nat → Nat) : List Nat → Nat
  | [] => 0
  | t :: r => h t + cy_smN h r
theorem cy_smL_app (h : Nat → Int64) : ∀ a b : List Nat, cy_smL h (a ++ b) = cy_smL h a + cy_smL h b
  | [], b => by simp [cy_smL]
  | t :: r, b => by
    show h t + cy_smL h (r ++ b) = (h t + cy_smL h r) + cy_smL h b
    rw [cy_smL_app h r b, Int64.add_assoc]
theorem cy_smI_app (h : Nat → Int32) : ∀ a b : List Nat, cy_smI h (a ++ b) = cy_smI h a + cy_smI h b
  | [], b => by simp [cy_smI]
  | t :: r, b => by
    show h t + cy_smI h (r ++ b) = (h t + cy_smI h r) + cy_smI h b
    rw [cy_smI_app h r b, Int32.add_assoc]
theorem cy_smN_app (h : Nat → Nat) : ∀ a b : List Nat, cy_smN h (a ++ b) = cy_smN h a + cy_smN h b
  | [], b => by simp [cy_smN]
  | t :: r, b => by
    show h t + cy_smN h (r ++ b) = (h t + cy_smN h r) + cy_smN h b
    rw [cy_smN_app h r b, Nat.add_assoc]
theorem cy_smL_congr {h g : Nat → Int64} : ∀ {a : List Nat}, (∀ t, t ∈ a → h t = g t) → cy_smL h a = cy_smL g a
  | [], _ => rfl
  | t :: r, e => by
    show h t + cy_smL h r = g t + cy_smL g r
    rw [e t (by simp), cy_smL_congr (fun u hu => e u (by simp [hu]))]
theorem cy_smI_congr {h g : Nat → Int32} : ∀ {a : List Nat}, (∀ t, t ∈ a → h t = g t) → cy_smI h a = cy_smI g a
  | [], _ => rfl
  | t :: r, e => by
    show h t + cy_smI h r = g t + cy_smI g r
    rw [e t (by simp), cy_smI_congr (fun u hu => e u (by simp [hu]))]
/-- THE WEIGHT, by levels -/
def cy_wt (σ : cy_S) : Nat → Nat → Int64
  | 0, _ => 0
  | f + 1, k => cy_bs σ k + cy_smL (cy_wt σ f) (cy_ch σ k)
/-- how many go as v, by levels -/
def cy_tl (σ : cy_S) (v : Int32) : Nat → Nat → Int32
  | 0, _ => 0
  | f + 1, k => cy_b (cy_go (σ.1 1 k) v) + cy_smI (cy_tl σ v f) (cy_ch σ k)
/-- how deep a sort goes -/
def cy_rk (s : Int32) : Nat := if s = 10 ∨ s = 11 ∨ s = 12 then 2 else if s = 3 ∨ s = 7 ∨ s = 8 ∨ s = 9 then 1 else 0
theorem cy_rk_dec : ∀ a : Fin 13, ∀ b : Fin 13, cy_th (nI a.val) = true → cy_go (nI b.val) (cy_ha (nI a.val)) = true → cy_rk (nI b.val) < cy_rk (nI a.val) := by decide +kernel
theorem cy_rk_le : ∀ a : Fin 13, cy_rk (nI a.val) ≤ 2 := by decide +kernel
theorem cy_cf_mem {n : Nat} {σ : cy_S} {k : Nat} (hT : ∀ j, j < 6 → σ.1 4 (6 * k + j) = -1 ∨ ∃ t : Nat, t < n ∧ σ.1 4 (6 * k + j) = nI t ∧ cy_go (σ.1 1 t) (cy_ha (σ.1 1 k)) = true) (hn : n ≤ 80) : ∀ (f i : Nat), i + f ≤ 6 → ∀ t, t ∈ cy_cf σ k f i → t < n ∧ cy_go (σ.1 1 t) (cy_ha (σ.1 1 k)) = true
  | 0, _, _, t, h => by simp [cy_cf] at h
  | f + 1, i, hi, t, h => by
    unfold cy_cf at h
    rcases List.mem_append.mp h with h1 | h1
    · rcases hT i (by omega) with e | ⟨u, hu, e, hg⟩
      · rw [if_pos e] at h1
        simp at h1
      · rw [if_neg (by rw [e]; exact cy_ne1 (by omega)), e, nI_clamp (by omega)] at h1
        rw [List.mem_singleton.mp h1]
        exact ⟨hu, hg⟩
    · exact cy_cf_mem hT hn f (i + 1) (by omega) t h1
theorem cy_cf_len (σ : cy_S) (k : Nat) : ∀ (f i : Nat), (cy_cf σ k f i).length ≤ f
  | 0, _ => by simp [cy_cf]
  | f + 1, i => by
    unfold cy_cf
    have h := cy_cf_len σ k f (i + 1)
    by_cases e : σ.1 4 (6 * k + i) = -1
    · rw [if_pos e]
      simp
      omega
    · rw [if_neg e]
      simp
      omega
theorem cy_ch_mem {n : Nat} {σ : cy_S} (hok : cy_ok n σ) {k : Nat} (hk : k < n) : ∀ t, t ∈ cy_ch σ k → t < n ∧ cy_rk (σ.1 1 t) < cy_rk (σ.1 1 k) := by
  intro t ht
  obtain ⟨⟨a, ha, ea⟩, ⟨p, hp, ep⟩, -, -, -, hT⟩ := hok.2.2.1 k hk
  unfold cy_ch at ht
  by_cases hb : cy_th (σ.1 1 k) = true
  · rw [if_pos hb, ep, nI_clamp (by omega)] at ht
    obtain ⟨h1, h2⟩ := cy_cf_mem (hT hb) hok.1 p 0 (by omega) t ht
    refine ⟨h1, ?_⟩
    obtain ⟨⟨b, hb2, eb⟩, -⟩ := hok.2.2.1 t h1
    rw [ea, eb] at h2 ⊢
    rw [ea] at hb
    exact cy_rk_dec ⟨a, by omega⟩ ⟨b, by omega⟩ hb h2
  · rw [if_neg hb] at ht
    simp at ht
theorem cy_ch_len {n : Nat} {σ : cy_S} (hok : cy_ok n σ) {k : Nat} (hk : k < n) : (cy_ch σ k).length ≤ 6 := by
  obtain ⟨-, ⟨p, hp, ep⟩, -⟩ := hok.2.2.1 k hk
  unfold cy_ch
  by_cases hb : cy_th (σ.1 1 k) = true
  · rw [if_pos hb, ep, nI_clamp (by omega)]
    have := cy_cf_len σ k p 0
    omega
  · rw [if_neg hb]
    simp
theorem cy_rk2 {n : Nat} {σ : cy_S} (hok : cy_ok n σ) {k : Nat} (hk : k < n) : cy_rk (σ.1 1 k) ≤ 2 := by
  obtain ⟨⟨a, ha, ea⟩, -⟩ := hok.2.2.1 k hk
  rw [ea]
  exact cy_rk_le ⟨a, by omega⟩
theorem cy_wt_up {n : Nat} {σ : cy_S} (hok : cy_ok n σ) : ∀ (f k : Nat), k < n → cy_rk (σ.1 1 k) < f → cy_wt σ f k = cy_wt σ (f + 1) k
  | 0, k, _, h => absurd h (Nat.not_lt_zero _)
  | f + 1, k, hk, h => by
    show cy_bs σ k + cy_smL (cy_wt σ f) (cy_ch σ k) = cy_bs σ k + cy_smL (cy_wt σ (f + 1)) (cy_ch σ k)
    rw [cy_smL_congr (fun t ht => cy_wt_up hok f t (cy_ch_mem hok hk t ht).1 (by have := (cy_ch_mem hok hk t ht).2; omega))]
theorem cy_tl_up {n : Nat} {σ : cy_S} (v : Int32) (hok : cy_ok n σ) : ∀ (f k : Nat), k < n → cy_rk (σ.1 1 k) < f → cy_tl σ v f k = cy_tl σ v (f + 1) k
  | 0, k, _, h => absurd h (Nat.not_lt_zero _)
  | f + 1, k, hk, h => by
    show cy_b (cy_go (σ.1 1 k) v) + cy_smI (cy_tl σ v f) (cy_ch σ k) = cy_b (cy_go (σ.1 1 k) v) + cy_smI (cy_tl σ v (f + 1)) (cy_ch σ k)
    rw [cy_smI_congr (fun t ht => cy_tl_up v hok f t (cy_ch_mem hok hk t ht).1 (by have := (cy_ch_mem hok hk t ht).2; omega))]
theorem cy_wt_eq {n : Nat} {σ : cy_S} (hok : cy_ok n σ) {k : Nat} (hk : k < n) : cy_wt σ 3 k = cy_bs σ k + cy_smL (cy_wt σ 3) (cy_ch σ k) := by
  have h2 := cy_rk2 hok hk
  rw [cy_wt_up hok 3 k hk (by omega)]
  rfl
theorem cy_tl_eq {n : Nat} {σ : cy_S} (v : Int32) (hok : cy_ok n σ) {k : Nat} (hk : k < n) : cy_tl σ v 3 k = cy_b (cy_go (σ.1 1 k) v) + cy_smI (cy_tl σ v 3) (cy_ch σ k) := by
  have h2 := cy_rk2 hok hk
  rw [cy_tl_up v hok 3 k hk (by omega)]
  rfl
/-- what the pile may still cost -/
def cy_mr (r : Nat) : Nat := if r = 0 then 1 else if r = 1 then 7 else 43
def cy_ms (σ : cy_S) (k : Nat) : Nat := cy_mr (cy_rk (σ.1 1 k))
theorem cy_smN_le {h : Nat → Nat} {c : Nat} : ∀ {a : List Nat}, (∀ t, t ∈ a → h t ≤ c) → cy_smN h a ≤ a.length * c
  | [], _ => by simp [cy_smN]
  | t :: r, e => by
    show h t + cy_smN h r ≤ (r.length + 1) * c
    have h1 := e t (by simp)
    have h2 := cy_smN_le (a := r) (fun u hu => e u (by simp [hu]))
    rw [Nat.add_mul]
    omega
theorem cy_smN_len (σ : cy_S) : ∀ a : List Nat, a.length ≤ cy_smN (cy_ms σ) a
  | [] => by simp
  | t :: r => by
    show r.length + 1 ≤ cy_ms σ t + cy_smN (cy_ms σ) r
    have h1 := cy_smN_len σ r
    have h2 : 1 ≤ cy_ms σ t := by
      unfold cy_ms cy_mr
      split
      · omega
      · split <;> omega
    omega
theorem cy_ms_ch {n : Nat} {σ : cy_S} (hok : cy_ok n σ) {k : Nat} (hk : k < n) : cy_smN (cy_ms σ) (cy_ch σ k) + 1 ≤ cy_ms σ k := by
  have hl := cy_ch_len hok hk
  have hr := cy_rk2 hok hk
  rcases (show cy_rk (σ.1 1 k) = 0 ∨ cy_rk (σ.1 1 k) = 1 ∨ cy_rk (σ.1 1 k) = 2 by omega) with h | h | h
  · have : cy_ch σ k = [] := by
      cases hc : cy_ch σ k with
      | nil => rfl
      | cons t r =>
        have := (cy_ch_mem hok hk t (by rw [hc]; simp)).2
        omega
    rw [this]
    show 0 + 1 ≤ cy_ms σ k
    unfold cy_ms
    rw [h]
    decide
  · have h1 : cy_smN (cy_ms σ) (cy_ch σ k) ≤ (cy_ch σ k).length * 1 := cy_smN_le (fun t ht => by
      have h2 := (cy_ch_mem hok hk t ht).2
      unfold cy_ms
      rw [show cy_rk (σ.1 1 t) = 0 by omega]
      decide)
    have h3 : cy_ms σ k = 7 := by unfold cy_ms; rw [h]; rfl
    omega
  · have h1 : cy_smN (cy_ms σ) (cy_ch σ k) ≤ (cy_ch σ k).length * 7 := cy_smN_le (fun t ht => by
      have h2 := (cy_ch_mem hok hk t ht).2
      unfold cy_ms
      rcases (show cy_rk (σ.1 1 t) = 0 ∨ cy_rk (σ.1 1 t) = 1 by omega) with h3 | h3
      · rw [h3]; decide
      · rw [h3]; decide)
    have h3 : cy_ms σ k = 43 := by unfold cy_ms; rw [h]; rfl
    omega
theorem cy_ms_le {n : Nat} {σ : cy_S} (hok : cy_ok n σ) {k : Nat} (hk : k < n) : cy_ms σ k ≤ 43 := by
  have hr := cy_rk2 hok hk
  unfold cy_ms
  rcases (show cy_rk (σ.1 1 k) = 0 ∨ cy_rk (σ.1 1 k) = 1 ∨ cy_rk (σ.1 1 k) = 2 by omega) with h | h | h <;> rw [h] <;> decide
/-- the pile holds a list, its top last -/
def cy_sk (pl : Nat → Int32) (ps : List Nat) : Prop := ∀ j, j < ps.length → pl j = nI (ps.getD j 0)
theorem cy_sk_push {pl : Nat → Int32} {ps : List Nat} (h : cy_sk pl ps) (t : Nat) : cy_sk (va_up pl ps.length (nI t)) (ps ++ [t]) := by
  intro j hj
  rw [List.length_append] at hj
  by_cases e : j = ps.length
  · subst e
    simp [va_up]
  · have hj2 : j < ps.length := by simp at hj; omega
    unfold va_up
    rw [if_neg e, h j hj2]
    simp [List.getD_eq_getElem?_getD, List.getElem?_append_left hj2]
theorem cy_sk_pop {pl : Nat → Int32} {ps : List Nat} {t : Nat} (h : cy_sk pl (ps ++ [t])) : cy_sk pl ps ∧ pl ps.length = nI t := by
  constructor
  · intro j hj
    have h1 := h j (by simp; omega)
    rw [h1]
    simp [List.getD_eq_getElem?_getD, List.getElem?_append_left hj]
  · have h1 := h ps.length (by simp)
    rw [h1]
    simp
theorem cy_snoc (ps : List Nat) (h : 0 < ps.length) : ∃ (qs : List Nat) (t : Nat), ps = qs ++ [t] := by
  have hne : ps ≠ [] := by intro e; rw [e] at h; simp at h
  exact ⟨ps.dropLast, ps.getLast hne, (List.dropLast_concat_getLast hne).symm⟩
