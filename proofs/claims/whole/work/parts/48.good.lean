/-! what a zoo in the making keeps -/
def rz_K (ζ : Nat → Nat → Int) : Prop := rz_G ζ ∧ (∀ p, p < nP ζ → 0 ≤ ζ 4 p ∧ ζ 4 p ≤ 9) ∧ (∀ g, g < nG ζ → (0 ≤ ζ 5 g ∧ ζ 5 g ≤ 3) ∧ (0 ≤ ζ 12 g ∧ ζ 12 g < nP ζ) ∧ 0 ≤ ζ 13 g ∧ ζ 13 g ≤ 9) ∧ (∀ a, a < nA ζ → (0 ≤ ζ 6 a ∧ ζ 6 a ≤ 3) ∧ 0 ≤ ζ 14 a ∧ ζ 14 a ≤ 999) ∧ ((0 ≤ ζ 0 4 ∧ ζ 0 4 ≤ 9) ∧ (0 ≤ ζ 0 5 ∧ ζ 0 5 ≤ 9) ∧ (0 ≤ ζ 0 6 ∧ ζ 0 6 ≤ 99) ∧ 0 ≤ ζ 0 7 ∧ ζ 0 7 ≤ 10) ∧ (ζ 11 0 = 0 ∧ ζ 11 1 = 0) ∧ ((ζ 0 8).toNat.testBit 14 = true → ∀ k, k < 120 → 0 ≤ ζ 9 k ∧ ζ 9 k ≤ 99) ∧ ((ζ 0 8).toNat.testBit 15 = true → ∀ k, k < 720 → 0 ≤ ζ 10 k ∧ ζ 10 k ≤ 9)
def rz_T (t : Nat → Int) (n : Nat) : Prop := ∀ i, i < n → 10 ≤ t i ∧ t i ≤ 126
theorem rz_nu_0 {t : Nat → Int} {n lo hi c : Nat} (h : rz_nu t n lo hi c = 0) : tk_k t n c = 2 ∧ (lo : Int) ≤ tk_v t n c ∧ tk_v t n c ≤ hi := by
  unfold rz_nu at h
  split at h
  · next h1 =>
    split at h
    · omega
    · exact ⟨h1, by omega, by omega⟩
  · omega
theorem rz_ki_0 {t : Nat → Int} {n c : Nat} (h : rz_ki t n c = 0) : 18 ≤ tk_w t n c ∧ tk_w t n c < 22 := by
  unfold rz_ki at h
  split at h
  · next h1 => exact h1
  · omega
theorem rz_pw_0 {t : Nat → Int} {n k c : Nat} (h : rz_pw t n k c = 0) : tk_w t n c = (k : Int) := by
  unfold rz_pw at h
  split at h
  · next h1 => exact h1
  · omega
theorem rz_nn_0 {t : Nat → Int} {n : Nat} {ζ : Nat → Nat → Int} {c : Nat} (h : rz_nn t n ζ c = 0) : rz_nm t n c = true ∧ tk_k t n c = 1 := by
  unfold rz_nn at h
  split at h
  · next h1 => exact ⟨h1, rz_nm_k h1⟩
  · omega
theorem rz_nn_x {t : Nat → Int} {n : Nat} {ζ : Nat → Nat → Int} {c : Nat} (ht : rz_T t n) (h : rz_nn t n ζ c = 0) : 0 ≤ tk_x t n c ∧ tk_x t n c < 282429536481 := tk_x_rg (rz_nn_0 h).2 (fun q => (ht c q).1)
theorem rz_pen_K {t : Nat → Int} {n : Nat} {ζ : Nat → Nat → Int} {c : Nat} (ht : rz_T t n) (h : rz_K ζ) (hf : (rz_pen t n ζ c).1 = 0) : rz_K (rz_pen t n ζ c).2.2 := by
  have hf' : nP ζ < 6 ∧ rz_nn t n ζ (tk_j t n 1 c) = 0 ∧ rz_nu t n 0 9 (tk_j t n 3 c) = 0 := by
    unfold rz_pen at hf
    dsimp only at hf
    split at hf
    · omega
    · split at hf
      · contradiction
      · split at hf
        · contradiction
        · exact ⟨by omega, by omega, hf⟩
  obtain ⟨h6, f1, f2⟩ := hf'
  have x1 := rz_nn_x ht f1
  obtain ⟨-, v1, v2⟩ := rz_nu_0 f2
  have e : (rz_pen t n ζ c).2.2 = bt_up (bt_up (bt_up ζ 1 (nP ζ) (tk_x t n (tk_j t n 1 c))) 4 (nP ζ) (tk_v t n (tk_j t n 3 c))) 0 0 ((nP ζ : Int) + 1) := rfl
  rw [e]
  generalize tk_x t n (tk_j t n 1 c) = x at *
  generalize tk_v t n (tk_j t n 3 c) = v at *
  have hP : nP (bt_up (bt_up (bt_up ζ 1 (nP ζ) x) 4 (nP ζ) v) 0 0 ((nP ζ : Int) + 1)) = nP ζ + 1 := by unfold nP; rw [bt_up_same]; omega
  have hG : nG (bt_up (bt_up (bt_up ζ 1 (nP ζ) x) 4 (nP ζ) v) 0 0 ((nP ζ : Int) + 1)) = nG ζ := by unfold nG; simp [bt_up]
  have hA : nA (bt_up (bt_up (bt_up ζ 1 (nP ζ) x) 4 (nP ζ) v) 0 0 ((nP ζ : Int) + 1)) = nA ζ := by unfold nA; simp [bt_up]
  obtain ⟨⟨⟨⟨c1, c2, c3⟩, n1, n2, n3⟩, m3, fo, on1, on2⟩, se, gu, an, nu, st, s14, s15⟩ := h
  unfold rz_K rz_G rz_N
  rw [hP, hG, hA]
  refine ⟨⟨⟨⟨?_, ?_, ?_⟩, fun i hi => ?_, fun i hi => ?_, fun i hi => ?_⟩, fun i hi => ?_, fun i hi => ?_, ?_, ?_⟩, fun i hi => ?_, fun i hi => ?_, fun i hi => ?_, ?_, ?_, fun q i hi => ?_, fun q i hi => ?_⟩
  · simp only [bt_up]; simp; omega
  · simpa [bt_up] using c2
  · simpa [bt_up] using c3
  · have := n1 i
    simp [bt_up]
    by_cases hq : i = nP ζ
    · simp [hq]; omega
    · simp [hq]; omega
  · simpa [bt_up] using n2 i hi
  · simpa [bt_up] using n3 i hi
  · simpa [bt_up] using m3 i hi
  · simpa [bt_up] using fo i hi
  · simpa [bt_up] using on1
  · simpa [bt_up] using on2
  · have := se i
    simp [bt_up]
    by_cases hq : i = nP ζ
    · simp [hq]; omega
    · simp [hq]; omega
  · have := gu i hi
    simp [bt_up]; omega
  · simpa [bt_up] using an i hi
  · simpa [bt_up] using nu
  · simpa [bt_up] using st
  · simpa [bt_up] using s14 (by simpa [bt_up] using q) i hi
  · simpa [bt_up] using s15 (by simpa [bt_up] using q) i hi
theorem rz_guest_K {t : Nat → Int} {n : Nat} {ζ : Nat → Nat → Int} {c : Nat} (ht : rz_T t n) (h : rz_K ζ) (hf : (rz_guest t n ζ c).1 = 0) : rz_K (rz_guest t n ζ c).2.2 := by
  have hf' : nG ζ < 6 ∧ rz_nn t n ζ (tk_j t n 1 c) = 0 ∧ rz_ki t n (tk_j t n 2 c) = 0 ∧ rz_nu t n 0 9 (tk_j t n 4 c) = 0 ∧ rz_to t n (ζ 1) (nP ζ) (tk_j t n 6 c) = 0 := by
    unfold rz_guest at hf
    dsimp only at hf
    split at hf
    · omega
    · split at hf
      · contradiction
      · split at hf
        · contradiction
        · split at hf
          · contradiction
          · split at hf
            · contradiction
            · split at hf
              · contradiction
              · exact ⟨by omega, by omega, by omega, by omega, hf⟩
  obtain ⟨h6, f1, f2, f3, f4⟩ := hf'
  have x1 := rz_nn_x ht f1
  have k1 := rz_ki_0 f2
  obtain ⟨-, v1, v2⟩ := rz_nu_0 f3
  obtain ⟨-, a1, a2⟩ := rz_to_0 f4
  have e : (rz_guest t n ζ c).2.2 = bt_up (bt_up (bt_up (bt_up (bt_up ζ 2 (nG ζ) (tk_x t n (tk_j t n 1 c))) 5 (nG ζ) (tk_w t n (tk_j t n 2 c) - 18)) 13 (nG ζ) (tk_v t n (tk_j t n 4 c))) 12 (nG ζ) (rz_ix (ζ 1) (tk_x t n (tk_j t n 6 c)) (nP ζ))) 0 1 ((nG ζ : Int) + 1) := rfl
  rw [e]
  generalize tk_x t n (tk_j t n 1 c) = x at *
  generalize rz_ix (ζ 1) (tk_x t n (tk_j t n 6 c)) (nP ζ) = y at *
  generalize tk_w t n (tk_j t n 2 c) = u at *
  generalize tk_v t n (tk_j t n 4 c) = v at *
  generalize hz : bt_up (bt_up (bt_up (bt_up (bt_up ζ 2 (nG ζ) x) 5 (nG ζ) (u - 18)) 13 (nG ζ) v) 12 (nG ζ) y) 0 1 ((nG ζ : Int) + 1) = ζ'
  have hG : nG ζ' = nG ζ + 1 := by rw [← hz]; unfold nG; rw [bt_up_same]; omega
  have hP : nP ζ' = nP ζ := by rw [← hz]; unfold nP; simp [bt_up]
  have hA : nA ζ' = nA ζ := by rw [← hz]; unfold nA; simp [bt_up]
  obtain ⟨⟨⟨⟨c1, c2, c3⟩, n1, n2, n3⟩, m3, fo, on1, on2⟩, se, gu, an, nu, st, s14, s15⟩ := h
  unfold rz_K rz_G rz_N
  rw [hP, hG, hA]
  subst hz
  refine ⟨⟨⟨⟨?_, ?_, ?_⟩, fun i hi => ?_, fun i hi => ?_, fun i hi => ?_⟩, fun i hi => ?_, fun i hi => ?_, ?_, ?_⟩, fun i hi => ?_, fun i hi => ?_, fun i hi => ?_, ?_, ?_, fun q i hi => ?_, fun q i hi => ?_⟩
  · simpa [bt_up] using c1
  · simp only [bt_up]; simp; omega
  · simpa [bt_up] using c3
  · simpa [bt_up] using n1 i hi
  · have := n2 i
    simp [bt_up]
    by_cases hq : i = nG ζ
    · simp [hq]; omega
    · simp [hq]; omega
  · simpa [bt_up] using n3 i hi
  · simpa [bt_up] using m3 i hi
  · simpa [bt_up] using fo i hi
  · simpa [bt_up] using on1
  · simpa [bt_up] using on2
  · simpa [bt_up] using se i hi
  · have := gu i
    simp [bt_up]
    by_cases hq : i = nG ζ
    · simp [hq]; omega
    · simp [hq]; omega
  · simpa [bt_up] using an i hi
  · simpa [bt_up] using nu
  · simpa [bt_up] using st
  · simpa [bt_up] using s14 (by simpa [bt_up] using q) i hi
  · simpa [bt_up] using s15 (by simpa [bt_up] using q) i hi
theorem rz_animal_K {t : Nat → Int} {n : Nat} {ζ : Nat → Nat → Int} {c : Nat} (ht : rz_T t n) (h : rz_K ζ) (hf : (rz_animal t n ζ c).1 = 0) : rz_K (rz_animal t n ζ c).2.2 := by
  have hf' : nA ζ < 5 ∧ rz_nn t n ζ (tk_j t n 1 c) = 0 ∧ rz_ki t n (tk_j t n 3 c) = 0 ∧ rz_nu t n 0 999 (tk_j t n 5 c) = 0 := by
    unfold rz_animal at hf
    dsimp only at hf
    split at hf
    · omega
    · split at hf
      · contradiction
      · split at hf
        · contradiction
        · split at hf
          · contradiction
          · split at hf
            · contradiction
            · exact ⟨by omega, by omega, by omega, hf⟩
  obtain ⟨h6, f1, f2, f3⟩ := hf'
  have x1 := rz_nn_x ht f1
  have k1 := rz_ki_0 f2
  obtain ⟨-, v1, v2⟩ := rz_nu_0 f3
  have e : (rz_animal t n ζ c).2.2 = bt_up (bt_up (bt_up (bt_up ζ 3 (nA ζ) (tk_x t n (tk_j t n 1 c))) 6 (nA ζ) (tk_w t n (tk_j t n 3 c) - 18)) 14 (nA ζ) (tk_v t n (tk_j t n 5 c))) 0 2 ((nA ζ : Int) + 1) := rfl
  rw [e]
  generalize tk_x t n (tk_j t n 1 c) = x at *
  generalize tk_w t n (tk_j t n 3 c) = u at *
  generalize tk_v t n (tk_j t n 5 c) = v at *
  generalize hz : bt_up (bt_up (bt_up (bt_up ζ 3 (nA ζ) x) 6 (nA ζ) (u - 18)) 14 (nA ζ) v) 0 2 ((nA ζ : Int) + 1) = ζ'
  have hA : nA ζ' = nA ζ + 1 := by rw [← hz]; unfold nA; rw [bt_up_same]; omega
  have hP : nP ζ' = nP ζ := by rw [← hz]; unfold nP; simp [bt_up]
  have hG : nG ζ' = nG ζ := by rw [← hz]; unfold nG; simp [bt_up]
  obtain ⟨⟨⟨⟨c1, c2, c3⟩, n1, n2, n3⟩, m3, fo, on1, on2⟩, se, gu, an, nu, st, s14, s15⟩ := h
  unfold rz_K rz_G rz_N
  rw [hP, hG, hA]
  subst hz
  refine ⟨⟨⟨⟨?_, ?_, ?_⟩, fun i hi => ?_, fun i hi => ?_, fun i hi => ?_⟩, fun i hi => ?_, fun i hi => ?_, ?_, ?_⟩, fun i hi => ?_, fun i hi => ?_, fun i hi => ?_, ?_, ?_, fun q i hi => ?_, fun q i hi => ?_⟩
  · simpa [bt_up] using c1
  · simpa [bt_up] using c2
  · simp only [bt_up]; simp; omega
  · simpa [bt_up] using n1 i hi
  · simpa [bt_up] using n2 i hi
  · have := n3 i
    simp [bt_up]
    by_cases hq : i = nA ζ
    · simp [hq]; omega
    · simp [hq]; omega
  · simpa [bt_up] using m3 i hi
  · simpa [bt_up] using fo i hi
  · simpa [bt_up] using on1
  · simpa [bt_up] using on2
  · simpa [bt_up] using se i hi
  · simpa [bt_up] using gu i hi
  · have := an i
    simp [bt_up]
    by_cases hq : i = nA ζ
    · simp [hq]; omega
    · simp [hq]; omega
  · simpa [bt_up] using nu
  · simpa [bt_up] using st
  · simpa [bt_up] using s14 (by simpa [bt_up] using q) i hi
  · simpa [bt_up] using s15 (by simpa [bt_up] using q) i hi
/-- what stays when cells that the picture's sizes don't name are written -/
theorem rz_K_path {ζ : Nat → Nat → Int} {i j : Nat} {v w : Int} (h : rz_K ζ) (h1 : 0 ≤ v) (h2 : v ≤ 1000) : rz_K (bt_up (bt_up (bt_up ζ 8 i v) 8 j v) 0 3 w) := by
  generalize hz : bt_up (bt_up (bt_up ζ 8 i v) 8 j v) 0 3 w = ζ'
  have hP : nP ζ' = nP ζ := by rw [← hz]; unfold nP; simp [bt_up]
  have hG : nG ζ' = nG ζ := by rw [← hz]; unfold nG; simp [bt_up]
  have hA : nA ζ' = nA ζ := by rw [← hz]; unfold nA; simp [bt_up]
  obtain ⟨⟨⟨⟨c1, c2, c3⟩, n1, n2, n3⟩, m3, fo, on1, on2⟩, se, gu, an, nu, st, s14, s15⟩ := h
  unfold rz_K rz_G rz_N
  rw [hP, hG, hA]
  subst hz
  refine ⟨⟨⟨⟨?_, ?_, ?_⟩, fun i hi => ?_, fun i hi => ?_, fun i hi => ?_⟩, fun k hk => ?_, fun i hi => ?_, ?_, ?_⟩, fun i hi => ?_, fun i hi => ?_, fun i hi => ?_, ?_, ?_, fun q i hi => ?_, fun q i hi => ?_⟩
  · simpa [bt_up] using c1
  · simpa [bt_up] using c2
  · simpa [bt_up] using c3
  · simpa [bt_up] using n1 i hi
  · simpa [bt_up] using n2 i hi
  · simpa [bt_up] using n3 i hi
  · have := m3 k hk
    simp [bt_up]
    by_cases q1 : k = j
    · simp [q1]; omega
    · by_cases q2 : k = i
      · simp [q2]; omega
      · simp [q1, q2]; omega
  · simpa [bt_up] using fo i hi
  · simpa [bt_up] using on1
  · simpa [bt_up] using on2
  · simpa [bt_up] using se i hi
  · simpa [bt_up] using gu i hi
  · simpa [bt_up] using an i hi
  · simpa [bt_up] using nu
  · simpa [bt_up] using st
  · simpa [bt_up] using s14 (by simpa [bt_up] using q) i hi
  · simpa [bt_up] using s15 (by simpa [bt_up] using q) i hi
theorem rz_K_foe {ζ : Nat → Nat → Int} {i j : Nat} {v w : Int} (h : rz_K ζ) (h1 : 0 ≤ v ∧ v < 64) (h2 : 0 ≤ w ∧ w < 64) : rz_K (bt_up (bt_up ζ 7 i v) 7 j w) := by
  generalize hz : bt_up (bt_up ζ 7 i v) 7 j w = ζ'
  have hP : nP ζ' = nP ζ := by rw [← hz]; unfold nP; simp [bt_up]
  have hG : nG ζ' = nG ζ := by rw [← hz]; unfold nG; simp [bt_up]
  have hA : nA ζ' = nA ζ := by rw [← hz]; unfold nA; simp [bt_up]
  obtain ⟨⟨⟨⟨c1, c2, c3⟩, n1, n2, n3⟩, m3, fo, on1, on2⟩, se, gu, an, nu, st, s14, s15⟩ := h
  unfold rz_K rz_G rz_N
  rw [hP, hG, hA]
  subst hz
  refine ⟨⟨⟨⟨?_, ?_, ?_⟩, fun i hi => ?_, fun i hi => ?_, fun i hi => ?_⟩, fun k hk => ?_, fun k hk => ?_, ?_, ?_⟩, fun i hi => ?_, fun i hi => ?_, fun i hi => ?_, ?_, ?_, fun q i hi => ?_, fun q i hi => ?_⟩
  · simpa [bt_up] using c1
  · simpa [bt_up] using c2
  · simpa [bt_up] using c3
  · simpa [bt_up] using n1 i hi
  · simpa [bt_up] using n2 i hi
  · simpa [bt_up] using n3 i hi
  · simpa [bt_up] using m3 k hk
  · have := fo k hk
    simp [bt_up]
    by_cases q1 : k = j
    · simp [q1]; omega
    · by_cases q2 : k = i
      · simp [q2]; split <;> omega
      · simp [q1, q2]; omega
  · simpa [bt_up] using on1
  · simpa [bt_up] using on2
  · simpa [bt_up] using se i hi
  · simpa [bt_up] using gu i hi
  · simpa [bt_up] using an i hi
  · simpa [bt_up] using nu
  · simpa [bt_up] using st
  · simpa [bt_up] using s14 (by simpa [bt_up] using q) i hi
  · simpa [bt_up] using s15 (by simpa [bt_up] using q) i hi
theorem rz_K_num {ζ : Nat → Nat → Int} {k : Nat} {v : Int} (h : rz_K ζ) (hk : (k = 4 ∧ 0 ≤ v ∧ v ≤ 9) ∨ (k = 5 ∧ 0 ≤ v ∧ v ≤ 9) ∨ (k = 6 ∧ 0 ≤ v ∧ v ≤ 99) ∨ (k = 7 ∧ 0 ≤ v ∧ v ≤ 10)) : rz_K (bt_up ζ 0 k v) := by
  have e : ∀ q, q ≠ k → bt_up ζ 0 k v 0 q = ζ 0 q := fun q hq => bt_up_ix hq
  have e' : ∀ j, j ≠ 0 → bt_up ζ 0 k v j = ζ j := fun j hj => bt_up_cell hj
  have hP : nP (bt_up ζ 0 k v) = nP ζ := by unfold nP; rw [e 0 (by omega)]
  have hG : nG (bt_up ζ 0 k v) = nG ζ := by unfold nG; rw [e 1 (by omega)]
  have hA : nA (bt_up ζ 0 k v) = nA ζ := by unfold nA; rw [e 2 (by omega)]
  obtain ⟨⟨⟨⟨c1, c2, c3⟩, n1, n2, n3⟩, m3, fo, on1, on2⟩, se, gu, an, nu, st, s14, s15⟩ := h
  unfold rz_K rz_G rz_N
  rw [hP, hG, hA, e 0 (by omega), e 1 (by omega), e 2 (by omega), e 8 (by omega), e' 1 (by decide), e' 2 (by decide), e' 3 (by decide), e' 4 (by decide), e' 5 (by decide), e' 6 (by decide), e' 7 (by decide), e' 8 (by decide), e' 9 (by decide), e' 10 (by decide), e' 11 (by decide), e' 12 (by decide), e' 13 (by decide), e' 14 (by decide)]
  refine ⟨⟨⟨⟨c1, c2, c3⟩, n1, n2, n3⟩, m3, fo, on1, on2⟩, se, gu, an, ?_, st, s14, s15⟩
  rcases hk with ⟨rfl, h1⟩ | ⟨rfl, h1⟩ | ⟨rfl, h1⟩ | ⟨rfl, h1⟩ <;> simp [bt_up] <;> omega
