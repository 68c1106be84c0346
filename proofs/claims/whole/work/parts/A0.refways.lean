/-! ways: the table of the class and that of the reference -/
def fw_mn (a b : Int) : Int := if b < a then b else a
/-- a phase, all at once -/
theorem ab_fwI_all {b : Nat} (hb : b < 6) {M : Nat → Int} (h0 : M (b * 6 + b) = 0) (hM : ∀ k, k < 36 → 0 ≤ M k) : ∀ i, i ≤ 36 → ∀ k, k < 36 → ab_fwI b i M k = if k < i then fw_mn (M k) (M (k / 6 * 6 + b) + M (b * 6 + k % 6)) else M k
  | 0, _, k, _ => by rw [if_neg (by omega)]; rfl
  | i + 1, hi, k, hk => by
    have ih := ab_fwI_all hb h0 hM i (by omega)
    have e1 : ab_fwI b i M (i / 6 * 6 + b) = M (i / 6 * 6 + b) := by
      rw [ih _ (by omega)]
      split
      · unfold fw_mn
        have := hM (i / 6 * 6 + b) (by omega)
        rw [show (i / 6 * 6 + b) / 6 * 6 + b = i / 6 * 6 + b by omega, show b * 6 + (i / 6 * 6 + b) % 6 = b * 6 + b by omega, h0, if_neg (by omega)]
      · rfl
    have e2 : ab_fwI b i M (b * 6 + i % 6) = M (b * 6 + i % 6) := by
      rw [ih _ (by omega)]
      split
      · unfold fw_mn
        have := hM (b * 6 + i % 6) (by omega)
        rw [show (b * 6 + i % 6) / 6 * 6 + b = b * 6 + b by omega, show b * 6 + (b * 6 + i % 6) % 6 = b * 6 + i % 6 by omega, h0, if_neg (by omega)]
      · rfl
    unfold ab_fwI
    rw [e1, e2]
    have e3 : ab_fwI b i M i = M i := by rw [ih i (by omega), if_neg (by omega)]
    rw [e3]
    unfold ab_put
    by_cases h : k = i
    · subst h
      rw [if_pos rfl, if_pos (show k < k + 1 by omega)]
      rfl
    · rw [if_neg h, ih k hk]
      by_cases h2 : k < i
      · rw [if_pos h2, if_pos (by omega)]
      · rw [if_neg h2, if_neg (by omega)]
/-- what holds of a table behind the phases below b -/
def fw_I (T : Int) (b : Nat) (M : Nat → Int) : Prop := (∀ k, k < 36 → 0 ≤ M k) ∧ (∀ i, i < 6 → M (i * 6 + i) = 0) ∧ (∀ i j v, i < 6 → j < 6 → v < b → M (i * 6 + v) < T → M (v * 6 + j) < T → M (i * 6 + j) < T) ∧ ∀ i j, i < 6 → j < 6 → M (i * 6 + j) < T → ∃ S : Nat → Bool, M (i * 6 + j) ≤ 30 * ((bt_ct S b : Nat) : Int) + 30 ∧ ∀ v, S v = true → v ≠ i ∧ v ≠ j ∧ M (i * 6 + v) < T ∧ M (v * 6 + j) < T
theorem bt_ct_add {p q r : Nat → Bool} : ∀ n, (∀ v, v < n → (p v = true → r v = true) ∧ (q v = true → r v = true) ∧ ¬ (p v = true ∧ q v = true)) → bt_ct p n + bt_ct q n ≤ bt_ct r n
  | 0, _ => Nat.le_refl _
  | n + 1, h => by
    have ih := bt_ct_add n (fun v hv => h v (by omega))
    obtain ⟨h1, h2, h3⟩ := h n (by omega)
    unfold bt_ct
    cases hp : p n <;> cases hq : q n <;> cases hr : r n <;> simp_all <;> omega
theorem bt_ct_mono {p : Nat → Bool} {b : Nat} : bt_ct p b ≤ bt_ct p (b + 1) := by
  show bt_ct p b ≤ bt_ct p b + _
  omega
theorem fw_I.s {T : Int} {b : Nat} {M : Nat → Int} (hT : 1000 ≤ T) (hb : b < 6) (h : fw_I T b M) : fw_I T (b + 1) (ab_fwI b 36 M) := by
  obtain ⟨h0, hd, ht, hs⟩ := h
  have ev : ∀ i j, i < 6 → j < 6 → ab_fwI b 36 M (i * 6 + j) = fw_mn (M (i * 6 + j)) (M (i * 6 + b) + M (b * 6 + j)) := fun i j hi hj => by
    rw [ab_fwI_all hb (hd b hb) h0 36 (Nat.le_refl _) (i * 6 + j) (by omega), if_pos (by omega), show (i * 6 + j) / 6 * 6 + b = i * 6 + b by omega, show (i * 6 + j) % 6 = j by omega]
  have sm : ∀ i j, i < 6 → j < 6 → M (i * 6 + j) < T → M (i * 6 + j) ≤ 210 := fun i j hi hj hf => by
    obtain ⟨S, s1, -⟩ := hs i j hi hj hf
    have := bt_ct_le S b
    omega
  /- who is come to -/
  have fin : ∀ i j, i < 6 → j < 6 → (ab_fwI b 36 M (i * 6 + j) < T ↔ (M (i * 6 + j) < T ∨ (M (i * 6 + b) < T ∧ M (b * 6 + j) < T))) := fun i j hi hj => by
    rw [ev i j hi hj]
    have p1 := h0 (i * 6 + j) (by omega)
    have p2 := h0 (i * 6 + b) (by omega)
    have p3 := h0 (b * 6 + j) (by omega)
    have q1 := sm i b hi hb
    have q2 := sm b j hb hj
    unfold fw_mn
    constructor
    · intro h
      split at h <;> omega
    · intro h
      split <;> omega
  have le : ∀ i j, i < 6 → j < 6 → ab_fwI b 36 M (i * 6 + j) ≤ M (i * 6 + j) := fun i j hi hj => by
    rw [ev i j hi hj]
    unfold fw_mn
    split <;> omega
  refine ⟨fun k hk => ?_, fun i hi => ?_, fun i j v hi hj hv f1 f2 => ?_, fun i j hi hj f => ?_⟩
  · have e := ev (k / 6) (k % 6) (by omega) (by omega)
    rw [show k / 6 * 6 + k % 6 = k by omega] at e
    rw [e]
    have p1 := h0 k hk
    have p2 := h0 (k / 6 * 6 + b) (by omega)
    have p3 := h0 (b * 6 + k % 6) (by omega)
    unfold fw_mn
    split <;> omega
  · rw [ev i i hi hi, hd i hi]
    have p2 := h0 (i * 6 + b) (by omega)
    have p3 := h0 (b * 6 + i) (by omega)
    unfold fw_mn
    rw [if_neg (by omega)]
  · rw [fin i j hi hj]
    by_cases e : v = b
    · subst e
      rw [fin i v hi hb] at f1
      rw [fin v j hb hj] at f2
      exact Or.inr ⟨f1.elim id (fun q => q.1), f2.elim id (fun q => q.2)⟩
    · have hv6 : v < 6 := by omega
      rw [fin i v hi hv6] at f1
      rw [fin v j hv6 hj] at f2
      rcases f1 with f1 | ⟨f1, f1'⟩
      · rcases f2 with f2 | ⟨f2, f2'⟩
        · exact Or.inl (ht i j v hi hj (by omega) f1 f2)
        · exact Or.inr ⟨ht i b v hi hb (by omega) f1 f2, f2'⟩
      · rcases f2 with f2 | ⟨f2, f2'⟩
        · exact Or.inr ⟨f1, ht b j v hb hj (by omega) f1' f2⟩
        · exact Or.inr ⟨f1, f2'⟩
  · by_cases fo : M (i * 6 + j) < T
    · obtain ⟨S, s1, s2⟩ := hs i j hi hj fo
      have l1 := le i j hi hj
      have l2 := bt_ct_mono (p := S) (b := b)
      refine ⟨fun v => decide (v < 6) && S v, ?_, fun v hv => ?_⟩
      · have : bt_ct (fun v => decide (v < 6) && S v) (b + 1) = bt_ct S (b + 1) := bt_ct_congr (b + 1) (fun v hv => by rw [decide_eq_true (by omega)]; rfl)
        rw [this]
        omega
      · have hv' : v < 6 ∧ S v = true := by simpa using hv
        obtain ⟨a1, a2, a3, a4⟩ := s2 v hv'.2
        exact ⟨a1, a2, Int.lt_of_le_of_lt (le i v hi hv'.1) a3, Int.lt_of_le_of_lt (le v j hv'.1 hj) a4⟩
    · obtain ⟨f1, f2⟩ := ((fin i j hi hj).mp f).resolve_left fo
      have hib : i ≠ b := fun q => by subst q; exact fo f2
      have hjb : j ≠ b := fun q => by subst q; exact fo f1
      obtain ⟨A, a1, a2⟩ := hs i b hi hb f1
      obtain ⟨B, b1, b2⟩ := hs b j hb hj f2
      have e := ev i j hi hj
      refine ⟨fun v => (decide (v < b) && (A v || B v)) || decide (v = b), ?_, fun v hv => ?_⟩
      · have hsum := bt_ct_add (p := A) (q := B) (r := fun v => (decide (v < b) && (A v || B v)) || decide (v = b)) b (fun v hv => by
          refine ⟨fun q => by simp [hv, q], fun q => by simp [hv, q], fun q => ?_⟩
          exact fo (ht i j v hi hj hv (a2 v q.1).2.2.1 (b2 v q.2).2.2.2))
        have hlast : bt_ct (fun v => (decide (v < b) && (A v || B v)) || decide (v = b)) (b + 1) = bt_ct (fun v => (decide (v < b) && (A v || B v)) || decide (v = b)) b + 1 := by
          show _ + _ = _
          simp
        rw [hlast, e]
        have : fw_mn (M (i * 6 + j)) (M (i * 6 + b) + M (b * 6 + j)) ≤ M (i * 6 + b) + M (b * 6 + j) := by
          unfold fw_mn
          split <;> omega
        omega
      · have hv' : (v < b ∧ (A v = true ∨ B v = true)) ∨ v = b := by simpa using hv
        rcases hv' with ⟨vb, hA | hB⟩ | rfl
        · obtain ⟨c1, c2, c3, c4⟩ := a2 v hA
          refine ⟨c1, fun q => fo (by rw [← q]; exact c3), (fin i v hi (by omega)).mpr (Or.inl c3), (fin v j (by omega) hj).mpr (Or.inr ⟨c4, f2⟩)⟩
        · obtain ⟨c1, c2, c3, c4⟩ := b2 v hB
          refine ⟨fun q => fo (by rw [← q]; exact c4), c2, (fin i v hi (by omega)).mpr (Or.inr ⟨f1, c3⟩), (fin v j (by omega) hj).mpr (Or.inl c4)⟩
        · exact ⟨fun q => hib q.symm, fun q => hjb q.symm, (fin i v hi hb).mpr (Or.inl f1), (fin v j hb hj).mpr (Or.inl f2)⟩
theorem fw_I.all {T : Int} {M : Nat → Int} (hT : 1000 ≤ T) (h : fw_I T 0 M) : ∀ b, b ≤ 6 → fw_I T b (ab_fwB b M)
  | 0, _ => h
  | b + 1, hb => (fw_I.all hT h b (by omega)).s hT (by omega)
theorem fw_two : ∀ i, i < 6 → ∀ j, j < 6 → i ≠ j → bt_ct (fun v => decide (v = i) || decide (v = j)) 6 = 2 := by decide
theorem fw_150 {T : Int} {M : Nat → Int} (h : fw_I T 6 M) {i j : Nat} (hi : i < 6) (hj : j < 6) (hf : M (i * 6 + j) < T) : M (i * 6 + j) ≤ 150 := by
  by_cases e : i = j
  · subst e; rw [h.2.1 i hi]; omega
  · obtain ⟨S, s1, s2⟩ := h.2.2.2 i j hi hj hf
    have h2 := fw_two i hi j hj e
    have h3 := bt_ct_add (p := S) (q := fun v => decide (v = i) || decide (v = j)) (r := fun _ => true) 6 (fun v _ => ⟨fun _ => rfl, fun _ => rfl, fun q => by
      have := s2 v q.1
      have q2 : v = i ∨ v = j := by simpa using q.2
      rcases q2 with q2 | q2
      · exact this.1 q2
      · exact this.2.1 q2⟩)
    have h4 := bt_ct_le (fun _ => true) 6
    omega
/-- the table of the reference, before its phases -/
def fw_N (p : Nat → Int) : Nat → Int := fun k => if k / 6 = k % 6 then 0 else if 0 < p k then p k else 100000
theorem ab_dg_at {M : Nat → Int} : ∀ n, n ≤ 6 → ∀ k, k < 36 → ab_dg n M k = if k / 6 = k % 6 ∧ k / 6 < n then 0 else M k
  | 0, _, k, _ => by rw [if_neg (by omega)]; rfl
  | n + 1, hn, k, hk => by
    unfold ab_dg ab_put
    by_cases h : k = n * 6 + n
    · rw [if_pos h, if_pos (by omega)]
    · rw [if_neg h, ab_dg_at n (by omega) k hk]
      by_cases h2 : k / 6 = k % 6 ∧ k / 6 < n
      · rw [if_pos h2, if_pos (by omega)]
      · rw [if_neg h2, if_neg (by omega)]
theorem fw_same {M0 p : Nat → Int} (h : ∀ k, k < 36 → (M0 k = 1000 ∧ p k = 0) ∨ (1 ≤ M0 k ∧ M0 k ≤ 30 ∧ p k = M0 k)) : ∀ k, k < 36 → (ab_fwB 6 (fw_N p) k = ab_fwB 6 (ab_dg 6 M0) k ∧ 0 ≤ ab_fwB 6 (fw_N p) k ∧ ab_fwB 6 (fw_N p) k ≤ 150) ∨ (100000 ≤ ab_fwB 6 (fw_N p) k ∧ ab_fwB 6 (ab_dg 6 M0) k = 1000) := by
  have hN : fw_I 100000 0 (fw_N p) := by
    refine ⟨fun k hk => ?_, fun i hi => ?_, fun i j v _ _ hv => by omega, fun i j hi hj hf => ⟨fun _ => false, ?_, fun v hv => by cases hv⟩⟩
    · have := h k hk
      unfold fw_N
      split
      · omega
      · split <;> omega
    · unfold fw_N
      rw [if_pos (by omega)]
    · have := h (i * 6 + j) (by omega)
      unfold fw_N at hf ⊢
      show _ ≤ 30 * ((0 : Nat) : Int) + 30
      split
      · omega
      · next q =>
        rw [if_neg q] at hf
        split
        · omega
        · next q2 =>
          rw [if_neg q2] at hf
          omega
  have hall := fw_I.all (by omega) hN
  have hcap : ∀ b, b ≤ 6 → ∀ k, k < 36 → (ab_fwB b (fw_N p) k < 1000 → ab_fwB b (ab_dg 6 M0) k = ab_fwB b (fw_N p) k) ∧ (1000 ≤ ab_fwB b (fw_N p) k → ab_fwB b (ab_dg 6 M0) k = 1000) := by
    intro b
    induction b with
    | zero =>
      intro _ k hk
      have h1 := h k hk
      have h2 := ab_dg_at (M := M0) 6 (Nat.le_refl _) k hk
      show (fw_N p k < 1000 → ab_dg 6 M0 k = fw_N p k) ∧ (1000 ≤ fw_N p k → ab_dg 6 M0 k = 1000)
      rw [h2]
      unfold fw_N
      by_cases q : k / 6 = k % 6
      · rw [if_pos q, if_pos ⟨q, by omega⟩]
        omega
      · have hq : ¬ (k / 6 = k % 6 ∧ k / 6 < 6) := fun z => q z.1
        simp only [if_neg q, if_neg hq]
        split <;> omega
    | succ b ih =>
      intro hb k hk
      have ih := ih (by omega)
      obtain ⟨i0, i1, -⟩ := hall b (by omega)
      have c0 : ∀ k, k < 36 → 0 ≤ ab_fwB b (ab_dg 6 M0) k := fun k hk => by
        have := ih k hk
        have := i0 k hk
        omega
      have c1 : ab_fwB b (ab_dg 6 M0) (b * 6 + b) = 0 := by
        have := (ih (b * 6 + b) (by omega)).1
        rw [i1 b (by omega)] at this
        exact this (by omega)
      have e1 := ab_fwI_all (b := b) (by omega) (i1 b (by omega)) i0 36 (Nat.le_refl _) k hk
      have e2 := ab_fwI_all (b := b) (by omega) c1 c0 36 (Nat.le_refl _) k hk
      rw [if_pos hk] at e1 e2
      show (ab_fwI b 36 (ab_fwB b (fw_N p)) k < 1000 → ab_fwI b 36 (ab_fwB b (ab_dg 6 M0)) k = ab_fwI b 36 (ab_fwB b (fw_N p)) k) ∧ (1000 ≤ ab_fwI b 36 (ab_fwB b (fw_N p)) k → ab_fwI b 36 (ab_fwB b (ab_dg 6 M0)) k = 1000)
      rw [e1, e2]
      have x1 := ih k hk
      have x2 := ih (k / 6 * 6 + b) (by omega)
      have x3 := ih (b * 6 + k % 6) (by omega)
      have y1 := i0 k hk
      have y2 := i0 (k / 6 * 6 + b) (by omega)
      have y3 := i0 (b * 6 + k % 6) (by omega)
      unfold fw_mn
      split <;> split <;> omega
  intro k hk
  have hc := hcap 6 (Nat.le_refl _) k hk
  have h6 := hall 6 (Nat.le_refl _)
  have hp := h6.1 k hk
  by_cases hf : ab_fwB 6 (fw_N p) k < 100000
  · have h150 := fw_150 h6 (i := k / 6) (j := k % 6) (by omega) (by omega) (by rw [show k / 6 * 6 + k % 6 = k by omega]; exact hf)
    rw [show k / 6 * 6 + k % 6 = k by omega] at h150
    exact Or.inl ⟨(hc.1 (by omega)).symm, hp, h150⟩
  · exact Or.inr ⟨by omega, hc.2 (by omega)⟩
