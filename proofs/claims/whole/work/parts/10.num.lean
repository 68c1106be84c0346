/-! numbers: Int for ints -/
theorem bt_in (n : Nat) : bt_i (n : Int) = nI n := by
  apply Int32.toInt_inj.mp
  simp [bt_i, nI]
theorem bt_w_id {x : Int} (h1 : -2147483648 ≤ x) (h2 : x ≤ 2147483647) : bt_w x = x := by
  unfold bt_w
  rw [Int32.toInt_ofInt]
  show Int.bmod x (2 ^ 32) = x
  rw [Int.bmod_def]
  have : (x % (2 ^ 32 : Nat)) = if 0 ≤ x then x else x + 2 ^ 32 := by
    split
    · omega
    · omega
  split <;> omega
theorem bt_w_rg (x : Int) : -2147483648 ≤ bt_w x ∧ bt_w x ≤ 2147483647 := by
  unfold bt_w
  have h1 := Int32.le_toInt (Int32.ofInt x)
  have h2 := Int32.toInt_lt (Int32.ofInt x)
  omega
theorem bt_ww (x : Int) : bt_w (bt_w x) = bt_w x := bt_w_id (bt_w_rg x).1 (bt_w_rg x).2
theorem bt_wl_id {x : Int} (h1 : -9223372036854775808 ≤ x) (h2 : x ≤ 9223372036854775807) : bt_wl x = x := by
  unfold bt_wl
  rw [Int64.toInt_ofInt]
  show Int.bmod x (2 ^ 64) = x
  rw [Int.bmod_def]
  have : (x % (2 ^ 64 : Nat)) = if 0 ≤ x then x else x + 2 ^ 64 := by
    split
    · omega
    · omega
  split <;> omega
theorem bt_nI_and (a b : Nat) : nI a &&& nI b = nI (a &&& b) := by
  apply Int32.toBitVec_inj.mp
  simp [nI, BitVec.ofNat_and]
theorem bt_nI_or (a b : Nat) : nI a ||| nI b = nI (a ||| b) := by
  apply Int32.toBitVec_inj.mp
  simp [nI, BitVec.ofNat_or]
theorem bo_iand_nat {a b : Nat} (h : a < 2 ^ 31 ∨ b < 2 ^ 31) : bo_iand (a : Int) (b : Int) = ((a &&& b : Nat) : Int) := by
  unfold bo_iand
  rw [bt_in, bt_in, bt_nI_and, nI_toInt]
  rcases h with h | h
  · exact Nat.lt_of_le_of_lt Nat.and_le_left h
  · exact Nat.lt_of_le_of_lt Nat.and_le_right h
theorem bo_ior_nat {a b : Nat} (ha : a < 2 ^ 31) (hb : b < 2 ^ 31) : bo_ior (a : Int) (b : Int) = ((a ||| b : Nat) : Int) := by
  unfold bo_ior
  rw [bt_in, bt_in, bt_nI_or, nI_toInt (Nat.or_lt_two_pow ha hb)]
theorem bt_sh_k : ∀ k : Nat, k < 32 → ((nI k &&& 31).toBitVec.smod 32).toNat = k := by decide
theorem bo_ishl_nat {a k : Nat} (hk : k < 32) (h : a * 2 ^ k < 2 ^ 31) : bo_ishl (a : Int) (k : Int) = ((a * 2 ^ k : Nat) : Int) := by
  unfold bo_ishl
  rw [bt_in, bt_in, pk_shlN _ k (bt_sh_k k hk) (by omega), nI_toInt h]
theorem bo_ishr_nat {a k : Nat} (hk : k < 32) (h : a < 2 ^ 31) : bo_ishr (a : Int) (k : Int) = ((a / 2 ^ k : Nat) : Int) := by
  unfold bo_ishr
  rw [bt_in, bt_in, pk_shrN h _ k (bt_sh_k k hk), nI_toInt (Nat.lt_of_le_of_lt (Nat.div_le_self _ _) h)]
theorem bo_idiv_nat {a d : Nat} (ha : a < 2 ^ 31) (h0 : 0 < d) (hd : d < 2 ^ 31) : bo_idiv (a : Int) (d : Int) = ((a / d : Nat) : Int) := by
  unfold bo_idiv
  rw [bt_in, bt_in, pk_div ha h0 hd, nI_toInt (Nat.lt_of_le_of_lt (Nat.div_le_self _ _) ha)]
theorem bo_irem_nat {a d : Nat} (ha : a < 2 ^ 31) (h0 : 0 < d) (hd : d < 2 ^ 31) : bo_irem (a : Int) (d : Int) = ((a % d : Nat) : Int) := by
  unfold bo_irem
  rw [bt_in, bt_in, pk_rem ha h0 hd, nI_toInt (Nat.lt_of_le_of_lt (Nat.mod_le _ _) ha)]
/-- bit k of a set -/
theorem bo_bit {a k : Nat} (hk : k < 32) (h : a < 2 ^ 31) : bo_iand (bo_ishr (a : Int) (k : Int)) 1 = if a.testBit k then 1 else 0 := by
  rw [bo_ishr_nat hk h, show (1 : Int) = ((1 : Nat) : Int) from rfl, bo_iand_nat (Or.inr (by decide)), Nat.and_one_is_mod, Nat.testBit_eq_decide_div_mod_eq]
  by_cases e : a / 2 ^ k % 2 = 1
  · simp [e]
  · have : a / 2 ^ k % 2 = 0 := by omega
    simp [this]
/-- the set of those below n for which p -/
def bt_bn (p : Nat → Bool) : Nat → Nat
  | 0 => 0
  | n + 1 => bt_bn p n + (if p n then 2 ^ n else 0)
theorem bt_bn_lt (p : Nat → Bool) (n : Nat) : bt_bn p n < 2 ^ n := by
  induction n with
  | zero => simp [bt_bn]
  | succ n ih =>
    unfold bt_bn
    rw [Nat.pow_succ]
    split <;> omega
theorem bt_or_pow {a n : Nat} (h : a < 2 ^ n) : a ||| 2 ^ n = a + 2 ^ n := by
  rw [Nat.or_comm, Nat.add_comm]
  have := Nat.two_pow_add_eq_or_of_lt h 1
  rw [Nat.mul_one] at this
  rw [this]
theorem bt_bn_or (p : Nat → Bool) (n : Nat) : bt_bn p n ||| 2 ^ n = bt_bn p n + 2 ^ n := bt_or_pow (bt_bn_lt p n)
theorem bt_bn_bit (p : Nat → Bool) (n i : Nat) : (bt_bn p n).testBit i = (decide (i < n) && p i) := by
  induction n with
  | zero => simp [bt_bn]
  | succ n ih =>
    unfold bt_bn
    by_cases hp : p n
    · rw [if_pos hp, ← bt_bn_or, Nat.testBit_or, ih, Nat.testBit_two_pow]
      by_cases e : n = i
      · subst e; simp [hp]
      · by_cases h1 : i < n
        · simp [h1, Nat.lt_succ_of_lt h1, e]
        · have : ¬ i < n + 1 := by omega
          simp [h1, this, e]
    · rw [if_neg hp, Nat.add_zero, ih]
      by_cases e : n = i
      · subst e; simp [hp]
      · by_cases h1 : i < n
        · simp [h1, Nat.lt_succ_of_lt h1]
        · have : ¬ i < n + 1 := by omega
          simp [h1, this]
/-- a sum over those below n -/
def bt_sn (f : Nat → Int) : Nat → Int
  | 0 => 0
  | n + 1 => bt_sn f n + f n
theorem bt_sn_congr {f g : Nat → Int} {n : Nat} (h : ∀ i, i < n → f i = g i) : bt_sn f n = bt_sn g n := by
  induction n with
  | zero => rfl
  | succ n ih => unfold bt_sn; rw [ih (fun i hi => h i (by omega)), h n (by omega)]
theorem bt_bn_congr {p q : Nat → Bool} {n : Nat} (h : ∀ i, i < n → p i = q i) : bt_bn p n = bt_bn q n := by
  induction n with
  | zero => rfl
  | succ n ih => unfold bt_bn; rw [ih (fun i hi => h i (by omega)), h n (by omega)]
