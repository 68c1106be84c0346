/-! Tape: tokens -/
def tk_L (x : Int) : Bool := decide (97 ≤ x ∧ x ≤ 122)
def tk_D (x : Int) : Bool := decide (48 ≤ x ∧ x ≤ 57)
def tk_B (x : Int) : Bool := decide (x = 32 ∨ x = 10)
def tk_S (x : Int) : Bool := decide (x = 40 ∨ x = 41 ∨ x = 60 ∨ x = 61 ∨ x = 43 ∨ x = 45 ∨ x = 42 ∨ x = 59)
def tk_go (ok : Int → Bool) (t : Nat → Int) : Nat → Nat → Nat
  | 0, p => p
  | f + 1, p => if ok (t p) then tk_go ok t f (p + 1) else p
def tk_to (ok : Int → Bool) (t : Nat → Int) (n p : Nat) : Nat := tk_go ok t (n - p) p
theorem tk_to_step {ok : Int → Bool} {t : Nat → Int} {n p : Nat} (h : p < n) (ho : ok (t p) = true) : tk_to ok t n p = tk_to ok t n (p + 1) := by
  unfold tk_to
  obtain ⟨f, hf⟩ : ∃ f, n - p = f + 1 := ⟨n - p - 1, by omega⟩
  rw [hf, show n - (p + 1) = f by omega]
  show (if ok (t p) then _ else p) = _
  rw [if_pos ho]
theorem tk_to_stop {ok : Int → Bool} {t : Nat → Int} {n p : Nat} (h : p < n → ok (t p) = false) : tk_to ok t n p = p := by
  unfold tk_to
  by_cases hp : p < n
  · obtain ⟨f, hf⟩ : ∃ f, n - p = f + 1 := ⟨n - p - 1, by omega⟩
    rw [hf]
    show (if ok (t p) then _ else p) = _
    rw [h hp]
    rfl
  · rw [show n - p = 0 by omega]; rfl
theorem tk_go_rg {ok : Int → Bool} {t : Nat → Int} : ∀ f p, p ≤ tk_go ok t f p ∧ tk_go ok t f p ≤ p + f ∧ (tk_go ok t f p = p + f ∨ ok (t (tk_go ok t f p)) = false)
  | 0, p => ⟨Nat.le_refl _, Nat.le_refl _, Or.inl rfl⟩
  | f + 1, p => by
    unfold tk_go
    by_cases h : ok (t p) = true
    · rw [if_pos h]
      have := tk_go_rg (ok := ok) (t := t) f (p + 1)
      refine ⟨by omega, by omega, ?_⟩
      rcases this.2.2 with e | e
      · left; omega
      · right; exact e
    · rw [if_neg h]
      exact ⟨Nat.le_refl _, by omega, Or.inr (by simpa using h)⟩
theorem tk_to_rg {ok : Int → Bool} {t : Nat → Int} {n p : Nat} (h : p ≤ n) : p ≤ tk_to ok t n p ∧ tk_to ok t n p ≤ n ∧ (tk_to ok t n p < n → ok (t (tk_to ok t n p)) = false) := by
  have := tk_go_rg (ok := ok) (t := t) (n - p) p
  unfold tk_to
  refine ⟨this.1, by omega, fun hl => ?_⟩
  rcases this.2.2 with e | e
  · omega
  · exact e
theorem tk_go_all {ok : Int → Bool} {t : Nat → Int} : ∀ f p i, p ≤ i → i < tk_go ok t f p → ok (t i) = true
  | 0, p, i, h1, h2 => by unfold tk_go at h2; omega
  | f + 1, p, i, h1, h2 => by
    unfold tk_go at h2
    by_cases h : ok (t p) = true
    · rw [if_pos h] at h2
      by_cases e : i = p
      · rw [e]; exact h
      · exact tk_go_all f (p + 1) i (by omega) h2
    · rw [if_neg h] at h2; omega
theorem tk_to_all {ok : Int → Bool} {t : Nat → Int} {n p i : Nat} (h1 : p ≤ i) (h2 : i < tk_to ok t n p) : ok (t i) = true := tk_go_all _ _ _ h1 h2
/-- the name of k letters, the number of k digits -/
def tk_nm (t : Nat → Int) (b : Nat) : Nat → Int
  | 0 => 0
  | k + 1 => tk_nm t b k * 27 + (t (b + k) - 96)
def tk_nu (t : Nat → Int) (b : Nat) : Nat → Int
  | 0 => 0
  | k + 1 => tk_nu t b k * 10 + (t (b + k) - 48)
theorem tk_nm_rg {t : Nat → Int} {b : Nat} : ∀ k, (∀ i, i < k → tk_L (t (b + i)) = true) → 0 ≤ tk_nm t b k ∧ tk_nm t b k < 27 ^ k
  | 0, _ => by simp [tk_nm]
  | k + 1, h => by
    have ih := tk_nm_rg k (fun i hi => h i (by omega))
    have hl := h k (by omega)
    unfold tk_L at hl
    have hl := of_decide_eq_true hl
    unfold tk_nm
    rw [Int.pow_succ]
    omega
theorem tk_nu_rg {t : Nat → Int} {b : Nat} : ∀ k, (∀ i, i < k → tk_D (t (b + i)) = true) → 0 ≤ tk_nu t b k ∧ tk_nu t b k < 10 ^ k
  | 0, _ => by simp [tk_nu]
  | k + 1, h => by
    have ih := tk_nu_rg k (fun i hi => h i (by omega))
    have hl := h k (by omega)
    unfold tk_D at hl
    have hl := of_decide_eq_true hl
    unfold tk_nu
    rw [Int.pow_succ]
    omega
def tw_l : List Int := [11813, 10197082, 316205, 4137608, 267223, 257, 21975744, 6562612, 1896526, 4784, 3290833, 412376, 1903978, 355280, 377776, 7215040, 267413, 168984, 8740238, 326018, 1888, 277693196, 10631, 1111, 423, 6562597, 126218916, 226024039, 8935713994, 4513]
def tw (i : Nat) : Int := tw_l.getD i 0
def tw_ix (x : Int) : Nat → Int
  | 0 => -1
  | i + 1 => if tw i = x then (i : Int) else tw_ix x i
def tk_wd (x : Int) : Int := tw_ix x 30
theorem tw_ix_rg (x : Int) : ∀ n, -1 ≤ tw_ix x n ∧ tw_ix x n < n
  | 0 => by simp [tw_ix]
  | n + 1 => by
    have := tw_ix_rg x n
    unfold tw_ix
    split <;> omega
theorem tk_wd_rg (x : Int) : -1 ≤ tk_wd x ∧ tk_wd x < 30 := tw_ix_rg x 30
theorem tw_rg : ∀ i, i < 30 → 0 ≤ tw i ∧ tw i < 282429536481 := by decide
theorem tw_inj : ∀ i, i < 30 → ∀ j, j < 30 → tw i = tw j → i = j := by decide
theorem tw_ix_tw (x : Int) : ∀ n, n ≤ 30 → ∀ i, i < n → (tw_ix x n = (i : Int) ↔ tw i = x)
  | 0, _, i, hi => by omega
  | n + 1, hn, i, hi => by
    unfold tw_ix
    by_cases h : tw n = x
    · rw [if_pos h]
      constructor
      · intro e
        have : n = i := by omega
        subst this; exact h
      · intro e
        have := tw_inj n (by omega) i (by omega) (by rw [h, e])
        omega
    · rw [if_neg h]
      by_cases e : i = n
      · subst e
        have := tw_ix_rg x i
        constructor
        · intro e; omega
        · intro e; exact absurd e h
      · exact tw_ix_tw x n (by omega) i (by omega)
theorem tk_wd_iff {x : Int} {i : Nat} (hi : i < 30) : tk_wd x = (i : Int) ↔ tw i = x := tw_ix_tw x 30 (Nat.le_refl _) i hi
/-- the end and the kind of the token at c -/
def tk_e (t : Nat → Int) (n c : Nat) : Nat := if n ≤ c then c else if tk_L (t c) then tk_to tk_L t n c else if tk_D (t c) then tk_to tk_D t n c else c + 1
def tk_k (t : Nat → Int) (n c : Nat) : Int := if n ≤ c then 0 else if tk_L (t c) then (if tk_to tk_L t n c - c ≤ 8 then 1 else 3) else if tk_D (t c) then (if tk_to tk_D t n c - c ≤ 4 then 2 else 3) else if tk_S (t c) then t c else 3
def tk_nx (t : Nat → Int) (n c : Nat) : Nat := tk_to tk_B t n (tk_e t n c)
def tk_x (t : Nat → Int) (n c : Nat) : Int := tk_nm t c (tk_e t n c - c)
def tk_v (t : Nat → Int) (n c : Nat) : Int := tk_nu t c (tk_e t n c - c)
theorem tk_e_rg {t : Nat → Int} {n c : Nat} (h : c ≤ n) : c ≤ tk_e t n c ∧ tk_e t n c ≤ n ∧ (c < n → c < tk_e t n c) := by
  unfold tk_e
  by_cases hc : n ≤ c
  · rw [if_pos hc]; omega
  · rw [if_neg hc]
    split
    · next hl =>
      have h1 := tk_to_rg (ok := tk_L) (t := t) (n := n) (p := c + 1) (by omega)
      rw [tk_to_step (by omega) hl]
      omega
    · split
      · next hl =>
        have h1 := tk_to_rg (ok := tk_D) (t := t) (n := n) (p := c + 1) (by omega)
        rw [tk_to_step (by omega) hl]
        omega
      · omega
theorem tk_nx_rg {t : Nat → Int} {n c : Nat} (h : c ≤ n) : c ≤ tk_nx t n c ∧ tk_nx t n c ≤ n ∧ (c < n → c < tk_nx t n c) := by
  have h1 := tk_e_rg (t := t) h
  have h2 := tk_to_rg (ok := tk_B) (t := t) (n := n) (p := tk_e t n c) h1.2.1
  unfold tk_nx
  omega
theorem tk_k1 {t : Nat → Int} {n c : Nat} (h : tk_k t n c = 1) (ht : c < n → 10 ≤ t c) : c < n ∧ tk_L (t c) = true ∧ tk_e t n c = tk_to tk_L t n c ∧ tk_to tk_L t n c - c ≤ 8 := by
  unfold tk_k at h
  unfold tk_e
  grind [tk_S]
theorem tk_k2 {t : Nat → Int} {n c : Nat} (h : tk_k t n c = 2) (ht : c < n → 10 ≤ t c) : c < n ∧ tk_L (t c) = false ∧ tk_D (t c) = true ∧ tk_e t n c = tk_to tk_D t n c ∧ tk_to tk_D t n c - c ≤ 4 := by
  unfold tk_k at h
  unfold tk_e
  grind [tk_S]
theorem tk_k0 {t : Nat → Int} {n c : Nat} (ht : c < n → 10 ≤ t c) : tk_k t n c = 0 ↔ n ≤ c := by
  unfold tk_k
  grind [tk_S]
theorem tk_x_rg {t : Nat → Int} {n c : Nat} (h : tk_k t n c = 1) (ht : c < n → 10 ≤ t c) : 0 ≤ tk_x t n c ∧ tk_x t n c < 282429536481 := by
  obtain ⟨h1, h2, h3, h4⟩ := tk_k1 h ht
  unfold tk_x
  rw [h3]
  have h5 := tk_nm_rg (t := t) (b := c) (tk_to tk_L t n c - c) (fun i hi => tk_to_all (n := n) (p := c) (by omega) (by omega))
  have h6 : (27 : Int) ^ (tk_to tk_L t n c - c) ≤ 27 ^ 8 := by
    have := Nat.pow_le_pow_right (n := 27) (by decide) h4
    exact_mod_cast this
  have : (27 : Int) ^ 8 = 282429536481 := by decide
  omega
theorem tk_v_rg {t : Nat → Int} {n c : Nat} (h : tk_k t n c = 2) (ht : c < n → 10 ≤ t c) : 0 ≤ tk_v t n c ∧ tk_v t n c < 10000 := by
  obtain ⟨h1, h2, h3, h4, h7⟩ := tk_k2 h ht
  unfold tk_v
  rw [h4]
  have h5 := tk_nu_rg (t := t) (b := c) (tk_to tk_D t n c - c) (fun i hi => tk_to_all (n := n) (p := c) (by omega) (by omega))
  have h6 : (10 : Int) ^ (tk_to tk_D t n c - c) ≤ 10 ^ 4 := by
    have := Nat.pow_le_pow_right (n := 10) (by decide) h7
    exact_mod_cast this
  have : (10 : Int) ^ 4 = 10000 := by decide
  omega
theorem tk_k_rg {t : Nat → Int} {n c : Nat} (ht : c < n → 10 ≤ t c ∧ t c ≤ 126) : 0 ≤ tk_k t n c ∧ tk_k t n c ≤ 126 := by
  unfold tk_k
  grind
/-- the tape as it lies, and the token at c at hand -/
def bt_Tp (μ : Nat → Nat → Int) (t : Nat → Int) (n : Nat) : Prop := μ 1 2 = (n : Int) ∧ n ≤ 1000 ∧ μ 2 = t ∧ (∀ i, i < n → 10 ≤ t i ∧ t i ≤ 126) ∧ ∀ i, i < 30 → μ 3 i = tw i
def bt_Tc (μ : Nat → Nat → Int) (t : Nat → Int) (n c : Nat) : Prop := c ≤ n ∧ (c < n → tk_B (t c) = false) ∧ μ 1 4 = (c : Int) ∧ μ 1 5 = (tk_e t n c : Int) ∧ μ 1 6 = tk_k t n c ∧ (tk_k t n c = 1 → μ 1 7 = tk_x t n c ∧ μ 1 8 = tk_wd (tk_x t n c)) ∧ (tk_k t n c = 2 → μ 1 9 = tk_v t n c)
theorem bo_lcmp0 {x y : Int} : bt_w (bo_lcmp x y) = 0 ↔ bt_wl x = bt_wl y := by
  unfold bo_lcmp lg_cmp
  have e : ∀ z : Int32, bt_w z.toInt = z.toInt := fun z => by unfold bt_w; rw [Int32.ofInt_toInt]
  rw [e]
  have hq : bt_j x = bt_j y ↔ bt_wl x = bt_wl y := ⟨fun h => congrArg Int64.toInt h, fun h => Int64.toInt_inj.mp h⟩
  rw [← hq]
  by_cases h1 : bt_j x > bt_j y
  · rw [if_pos h1]
    refine ⟨fun h => absurd h (by decide), fun h => ?_⟩
    rw [h] at h1
    exact absurd h1 (by exact Int64.lt_irrefl)
  · rw [if_neg h1]
    by_cases h2 : bt_j x = bt_j y
    · rw [if_pos h2]; exact ⟨fun _ => h2, fun _ => by decide⟩
    · rw [if_neg h2]; exact ⟨fun h => absurd h (by decide), fun h => absurd h h2⟩
