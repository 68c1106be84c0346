/-! guests kept apart: the fewest pens, the first row -/
def ap_m (row : Nat → Int) (F : Nat) (r : Nat) : Nat → Bool
  | 0 => false
  | n + 1 => ap_m row F r n || (decide (row n = (r : Int)) && F.testBit n)
abbrev ap_B : Type := Nat × (Nat → Int)
def ap_L (F g : Nat) (row : Nat → Int) (rc : Nat → (Nat → Int) → ap_B) (used : Nat) : Nat → Nat → ap_B → ap_B
  | 0, _, b => b
  | c + 1, r, b => ap_L F g row rc used c (r + 1) (if ap_m row F r g then b else if (rc (max used (r + 1)) (ab_put row g r)).1 < b.1 then rc (max used (r + 1)) (ab_put row g r) else b)
/-- the fewest pens for the k guests from g on, the first row that has so few -/
def ap_D (fo : Nat → Nat) : Nat → Nat → Nat → (Nat → Int) → ap_B
  | 0, _, used, row => (used, row)
  | k + 1, g, used, row => ap_L (fo g) g row (fun u w => ap_D fo k (g + 1) u w) used (used + 1) 0 (100, row)
theorem ap_L_le {F g : Nat} {row : Nat → Int} {rc : Nat → (Nat → Int) → ap_B} {used : Nat} : ∀ c r b, (ap_L F g row rc used c r b).1 ≤ b.1 ∧ ((ap_L F g row rc used c r b).1 = b.1 → ap_L F g row rc used c r b = b)
  | 0, _, b => ⟨Nat.le_refl _, fun _ => rfl⟩
  | c + 1, r, b => by
    unfold ap_L
    split
    · exact ap_L_le c (r + 1) b
    · split
      next h =>
        have := ap_L_le (F := F) (g := g) (row := row) (rc := rc) (used := used) c (r + 1) (rc (max used (r + 1)) (ab_put row g r))
        exact ⟨by omega, fun q => by omega⟩
      next h => exact ap_L_le c (r + 1) b
theorem ap_L_add {F g : Nat} {row : Nat → Int} {rc : Nat → (Nat → Int) → ap_B} {used : Nat} (c' : Nat) : ∀ c r b, ap_L F g row rc used (c + c') r b = ap_L F g row rc used c' (r + c) (ap_L F g row rc used c r b)
  | 0, r, b => by rw [Nat.zero_add]; rfl
  | c + 1, r, b => by
    rw [show c + 1 + c' = (c + c') + 1 by omega]
    show ap_L F g row rc used (c + c') (r + 1) _ = _
    rw [ap_L_add c' c (r + 1), show r + 1 + c = r + (c + 1) by omega]
    rfl
theorem ap_m_new {row : Nat → Int} {F r : Nat} : ∀ n, (∀ i, i < n → row i < (r : Int)) → ap_m row F r n = false
  | 0, _ => rfl
  | n + 1, h => by
    unfold ap_m
    rw [ap_m_new n (fun i hi => h i (by omega)), decide_eq_false (by have := h n (by omega); omega)]
    rfl
/-- no fewer than are used, no more than one new for each -/
theorem ap_D_rg {fo : Nat → Nat} : ∀ (k g used : Nat) (row : Nat → Int), used + k ≤ 6 → (∀ i, i < g → 0 ≤ row i ∧ row i < (used : Int)) → used ≤ (ap_D fo k g used row).1 ∧ (ap_D fo k g used row).1 ≤ used + k
  | 0, g, used, row, _, _ => ⟨Nat.le_refl _, Nat.le_refl _⟩
  | k + 1, g, used, row, hu, hr => by
    have ih : ∀ r, r ≤ used → max used (r + 1) ≤ (ap_D fo k (g + 1) (max used (r + 1)) (ab_put row g r)).1 ∧ (ap_D fo k (g + 1) (max used (r + 1)) (ab_put row g r)).1 ≤ max used (r + 1) + k := fun r hr2 => ap_D_rg k (g + 1) (max used (r + 1)) (ab_put row g r) (by omega) (fun i hi => by
      unfold ab_put
      by_cases e : i = g
      · rw [if_pos e]; omega
      · rw [if_neg e]; have := hr i (by omega); omega)
    unfold ap_D
    constructor
    · have : ∀ c r b, r + c = used + 1 → used ≤ b.1 → used ≤ (ap_L (fo g) g row (fun u w => ap_D fo k (g + 1) u w) used c r b).1 := by
        intro c
        induction c with
        | zero => intro r b _ h; exact h
        | succ c ihc =>
          intro r b hrc h
          unfold ap_L
          refine ihc (r + 1) _ (by omega) ?_
          split
          · exact h
          · split
            · have := (ih r (by omega)).1
              show used ≤ (ap_D fo k (g + 1) (max used (r + 1)) (ab_put row g r)).1
              omega
            · exact h
      exact this (used + 1) 0 (100, row) (by omega) (by show used ≤ 100; omega)
    · rw [ap_L_add 1 used 0]
      unfold ap_L
      rw [Nat.zero_add]
      have hm : ap_m row (fo g) used g = false := ap_m_new g (fun i hi => (hr i hi).2)
      have h2 := (ih used (Nat.le_refl _)).2
      rw [hm]
      simp only [Bool.false_eq_true, ↓reduceIte]
      show (ap_L _ _ _ _ _ 0 _ _).1 ≤ _
      unfold ap_L
      split <;> omega
theorem ab_mf_eq {rw' row : Nat → Int} {F g p : Nat} (hp : p < 10) : ∀ n, n ≤ g → (∀ i, i < n → rw' i = row i ∧ 0 ≤ row i ∧ row i < 10) → ab_mf (ab_put rw' g p) F g n = ap_m row F p n
  | 0, _, _ => rfl
  | n + 1, hn, h => by
    unfold ab_mf ap_m
    rw [ab_mf_eq hp n (by omega) (fun i hi => h i (by omega))]
    have h1 := h n (by omega)
    have e1 : ab_put rw' g p n = row n := by unfold ab_put; rw [if_neg (by omega)]; exact h1.1
    have e2 : ab_put rw' g p g = (p : Int) := by unfold ab_put; rw [if_pos rfl]
    rw [e1, e2, bt_w_id (by omega) (by omega), bt_w_id (by omega) (by omega)]
/-- the class: with at most m pens -/
theorem ap_pl {fo : Nat → Nat} {m : Nat} (hm : m ≤ 6) : ∀ (k g used : Nat) (row rw' : Nat → Int), used ≤ m → used + k ≤ 6 → (∀ i, i < g → rw' i = row i ∧ 0 ≤ row i ∧ row i < (used : Int)) → ((ab_pl fo m k g used rw').1 = true ↔ (ap_D fo k g used row).1 ≤ m) ∧ (∀ i, i < g → (ab_pl fo m k g used rw').2 i = row i) ∧ ((ap_D fo k g used row).1 = m → ∀ i, i < g + k → (ab_pl fo m k g used rw').2 i = (ap_D fo k g used row).2 i)
  | 0, g, used, row, rw', hu, _, h => ⟨⟨fun _ => hu, fun _ => rfl⟩, fun i hi => (h i hi).1, fun _ i hi => (h i hi).1⟩
  | k + 1, g, used, row, rw', hu, hk, h => by
    have loop : ∀ c p b (w : Nat → Int), p + c = min (used + 1) m → m < b.1 → (∀ i, i < g → w i = row i) → ((ab_plL (fo g) g (ab_pl fo m k (g + 1)) used c p w).1 = true ↔ (ap_L (fo g) g row (fun u w => ap_D fo k (g + 1) u w) used (used + 1 - p) p b).1 ≤ m) ∧ (∀ i, i < g → (ab_plL (fo g) g (ab_pl fo m k (g + 1)) used c p w).2 i = row i) ∧ ((ap_L (fo g) g row (fun u w => ap_D fo k (g + 1) u w) used (used + 1 - p) p b).1 = m → ∀ i, i < g + (k + 1) → (ab_plL (fo g) g (ab_pl fo m k (g + 1)) used c p w).2 i = (ap_L (fo g) g row (fun u w => ap_D fo k (g + 1) u w) used (used + 1 - p) p b).2 i) := by
      intro c
      induction c with
      | zero =>
        intro p b w hp hb hw
        have hno : ¬ (ap_L (fo g) g row (fun u w => ap_D fo k (g + 1) u w) used (used + 1 - p) p b).1 ≤ m := by
          by_cases hpu : p = used + 1
          · rw [hpu, Nat.sub_self]
            show ¬ b.1 ≤ m
            omega
          · have hpm : p = m ∧ used = m := by omega
            rw [show used + 1 - p = 1 by omega, show p = used by omega]
            have := (ap_D_rg (fo := fo) k (g + 1) (max used (used + 1)) (ab_put row g used) (by omega) (fun i hi => by
              unfold ab_put
              by_cases e : i = g
              · rw [if_pos e]; omega
              · rw [if_neg e]; have := h i (by omega); omega)).1
            unfold ap_L
            split
            · show ¬ b.1 ≤ m; omega
            · split
              · show ¬ (ap_D fo k (g + 1) (max used (used + 1)) (ab_put row g used)).1 ≤ m
                omega
              · show ¬ b.1 ≤ m; omega
        exact ⟨⟨fun q => (by cases q), fun q => absurd q hno⟩, hw, fun q => absurd (Nat.le_of_eq q) hno⟩
      | succ c ihc =>
        intro p b w hp hb hw
        rw [show used + 1 - p = (used + 1 - (p + 1)) + 1 by omega]
        unfold ab_plL ap_L
        have hmf : ab_mf (ab_put w g p) (fo g) g g = ap_m row (fo g) p g := ab_mf_eq (by omega) g (Nat.le_refl _) (fun i hi => ⟨hw i hi, by have := h i hi; omega⟩)
        have hpw : ∀ i, i < g → ab_put w g p i = row i := fun i hi => by unfold ab_put; rw [if_neg (by omega)]; exact hw i hi
        rw [hmf]
        by_cases hf : ap_m row (fo g) p g = true
        · rw [if_pos hf, if_pos hf]
          exact ihc (p + 1) b (ab_put w g p) (by omega) hb hpw
        · rw [if_neg hf, if_neg hf]
          obtain ⟨i1, i2, i3⟩ := ap_pl hm k (g + 1) (max used (p + 1)) (ab_put row g p) (ab_put w g p) (by omega) (by omega) (fun i hi => by
            unfold ab_put
            by_cases e : i = g
            · rw [if_pos e, if_pos e]; omega
            · rw [if_neg e, if_neg e]
              have h1 := h i (by omega)
              have h2 := hw i (by omega)
              exact ⟨h2, by omega, by omega⟩)
          have i2' : ∀ i, i < g → (ab_pl fo m k (g + 1) (max used (p + 1)) (ab_put w g p)).2 i = row i := fun i hi => by
            rw [i2 i (by omega)]; unfold ab_put; rw [if_neg (by omega)]
          by_cases hs : (ab_pl fo m k (g + 1) (max used (p + 1)) (ab_put w g p)).1 = true
          · rw [if_pos hs]
            have hd := i1.mp hs
            rw [if_pos (by omega)]
            obtain ⟨l1, l2⟩ := ap_L_le (F := fo g) (g := g) (row := row) (rc := fun u w => ap_D fo k (g + 1) u w) (used := used) (used + 1 - (p + 1)) (p + 1) (ap_D fo k (g + 1) (max used (p + 1)) (ab_put row g p))
            refine ⟨⟨fun _ => by omega, fun _ => hs⟩, i2', fun q i hi => ?_⟩
            rw [l2 (by omega)]
            exact i3 (by omega) i (by omega)
          · rw [if_neg hs]
            have hd : ¬ (ap_D fo k (g + 1) (max used (p + 1)) (ab_put row g p)).1 ≤ m := fun q => hs (i1.mpr q)
            refine ihc (p + 1) _ _ (by omega) ?_ i2'
            split <;> omega
    have := loop (min (used + 1) m) 0 (100, row) rw' (by omega) (by show m < 100; omega) (fun i hi => (h i hi).1)
    rw [Nat.sub_zero] at this
    exact this
theorem ap_ka {fo : Nat → Nat} {n : Nat} (hn : n ≤ 6) (row : Nat → Int) : ∀ c i rw', i + c = n → i ≤ (ap_D fo n 0 0 row).1 → (ab_kaL fo n c i rw').1 = (ap_D fo n 0 0 row).1 ∧ ∀ j, j < n → (ab_kaL fo n c i rw').2 j = (ap_D fo n 0 0 row).2 j
  | 0, i, rw', hi, hle => by
    have hr := ap_D_rg (fo := fo) n 0 0 row (by omega) (fun i hi => absurd hi (Nat.not_lt_zero i))
    obtain ⟨p1, p2, p3⟩ := ap_pl (fo := fo) (m := i) (by omega) n 0 0 row rw' (by omega) (by omega) (fun i hi => absurd hi (Nat.not_lt_zero i))
    unfold ab_kaL
    exact ⟨by show i = _; omega, fun j hj => p3 (by omega) j (by omega)⟩
  | c + 1, i, rw', hi, hle => by
    obtain ⟨p1, p2, p3⟩ := ap_pl (fo := fo) (m := i) (by omega) n 0 0 row rw' (by omega) (by omega) (fun i hi => absurd hi (Nat.not_lt_zero i))
    unfold ab_kaL
    by_cases hs : (ab_pl fo i n 0 0 rw').1 = true
    · rw [if_pos hs]
      have := p1.mp hs
      exact ⟨by show i = _; omega, fun j hj => p3 (by omega) j (by omega)⟩
    · rw [if_neg hs]
      have : ¬ (ap_D fo n 0 0 row).1 ≤ i := fun q => hs (p1.mpr q)
      exact ap_ka hn row c (i + 1) _ (by omega) (by omega)
