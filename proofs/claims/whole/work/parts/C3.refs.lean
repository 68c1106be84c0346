/-! the references behind both constructors are those of the layout -/
def bt_z0 : Nat → Nat → Option Nat := fun _ _ => none
def bt_all (P : Nat → Nat → Nat → Prop) (ρ : Nat → Nat → Option Nat) : Prop := ∀ a k b, ρ a k = some b → P a k b
theorem bt_all.ur {P : Nat → Nat → Nat → Prop} {ρ : Nat → Nat → Option Nat} {a k b : Nat} (h : bt_all P ρ) (hp : P a k b) : bt_all P (bt_ur ρ a k b) := by
  intro a' k' b' e
  unfold bt_ur at e
  split at e
  · next q => obtain ⟨rfl, rfl⟩ := q; cases e; exact hp
  · exact h a' k' b' e
def bt_P0 (a k b : Nat) : Prop := a ≠ 0 → bt_rf0 a k = some b
def bt_rF : Nat → Nat → Option Nat := bt_g11 (bt_g10 bt_z0)
set_option maxRecDepth 100000 in
set_option maxHeartbeats 4000000 in
theorem bt_rF_B : bt_all bt_P0 bt_rF := by
  simp only [bt_rF, bt_g11, bt_g10, bt_gB, bt_gA, bt_gL, bt_g9, bt_g8, bt_g7, bt_g6, bt_g5, bt_g4, bt_g3, bt_g2, bt_g1, bt_g0, Nat.reduceAdd, Nat.zero_add]
  repeat (refine bt_all.ur ?_ (by unfold bt_P0; decide +kernel))
  exact fun a k b e => by cases e
theorem bt_rF_A : ∀ a, a < 262 → ∀ k, k < 76 → (bt_rf0 a k).isSome = true → a ≠ 0 → bt_rF a k = bt_rf0 a k := by decide +kernel
theorem bt_rfl_len : bt_rfl.length = 262 ∧ ∀ l ∈ bt_rfl, l.length ≤ 76 := by decide +kernel
theorem bt_rf0_out {a k : Nat} (h : 262 ≤ a ∨ 76 ≤ k) : bt_rf0 a k = none := by
  unfold bt_rf0
  by_cases ha : a < 262
  · have hl : (bt_rfl.getD a []).length ≤ 76 := by
      rw [List.getD_eq_getElem?_getD, List.getElem?_eq_getElem (by rw [bt_rfl_len.1]; exact ha)]
      exact bt_rfl_len.2 _ (List.getElem_mem _)
    rw [List.getD_eq_getElem?_getD, List.getElem?_eq_none (by omega)]
    rfl
  · have : bt_rfl.getD a [] = [] := by
      rw [List.getD_eq_getElem?_getD, List.getElem?_eq_none (by rw [bt_rfl_len.1]; omega)]
      rfl
    rw [this]
    rfl
theorem bt_rF_Rf : bt_Rf bt_rF := by
  intro a k ha
  cases h : bt_rf0 a k with
  | none =>
    cases h2 : bt_rF a k with
    | none => rfl
    | some b => have := bt_rF_B a k b h2 ha; rw [h] at this; cases this
  | some b =>
    have h1 : a < 262 ∧ k < 76 := by
      refine ⟨Nat.lt_of_not_le fun q => ?_, Nat.lt_of_not_le fun q => ?_⟩
      · rw [bt_rf0_out (Or.inl q)] at h; cases h
      · rw [bt_rf0_out (Or.inr q)] at h; cases h
    rw [bt_rF_A a h1.1 k h1.2 (by rw [h]; rfl) ha, h]
set_option maxRecDepth 100000 in
theorem bt_g11_o {ρ : Nat → Nat → Option Nat} {a k : Nat} (h : a ≠ 205) : bt_g11 ρ a k = ρ a k := by
  simp only [bt_g11, bt_ur, h, false_and, if_false]
theorem bt_rG_75 (k : Nat) : bt_g10 bt_z0 75 k = bt_rf0 75 k := by
  rw [← bt_rF_Rf 75 k (by omega)]
  exact (bt_g11_o (by omega)).symm
theorem bt_rG_06 : bt_g10 bt_z0 0 6 = some 75 := by decide +kernel
theorem bt_rF_Rb : bt_Rb bt_rF 75 90 := ⟨bt_rF_Rf, by decide, by decide +kernel, by decide +kernel, by decide +kernel, by decide +kernel, by decide +kernel, by decide +kernel, by decide +kernel, by decide +kernel, by decide +kernel, by decide +kernel, by decide +kernel, by decide +kernel⟩
