/-! Integer.bitCount -/
def bt_pcn (x : Nat) : Nat → Nat
  | 0 => 0
  | n + 1 => bt_pcn x n + (if x.testBit n then 1 else 0)
theorem bt_pcn_congr0 {x y : Nat} : ∀ n, (∀ i, i < n → x.testBit i = y.testBit i) → bt_pcn x n = bt_pcn y n
  | 0, _ => rfl
  | n + 1, h => by unfold bt_pcn; rw [bt_pcn_congr0 n (fun i hi => h i (by omega)), h n (by omega)]
def bt_pcf (x : Nat) : Nat :=
  let c1 := x - (x / 2 &&& 1431655765)
  let c2 := (c1 &&& 858993459) + (c1 / 4 &&& 858993459)
  let c3 := (c2 + c2 / 16) &&& 252645135
  let c4 := c3 + c3 / 256
  let c5 := c4 + c4 / 65536
  c5 &&& 63
theorem bt_and256 {a b m1 m0 : Nat} (hb : b < 256) (hm : m0 < 256) : (256 * a + b) &&& (256 * m1 + m0) = 256 * (a &&& m1) + (b &&& m0) := by
  apply Nat.eq_of_testBit_eq
  intro i
  have h1 := Nat.testBit_two_pow_mul_add a (i := 8) hb i
  have h2 := Nat.testBit_two_pow_mul_add m1 (i := 8) hm i
  have h3 := Nat.testBit_two_pow_mul_add (a &&& m1) (i := 8) (b := b &&& m0) (Nat.lt_of_le_of_lt Nat.and_le_left hb) i
  rw [Nat.testBit_and]
  rw [show (256 : Nat) = 2 ^ 8 from rfl, h1, h2, h3]
  split <;> simp [Nat.testBit_and]
def bt_b1 (b : Nat) : Nat := b - (b / 2 &&& 85)
def bt_b2 (b : Nat) : Nat := (bt_b1 b &&& 51) + (bt_b1 b / 4 &&& 51)
def bt_b3 (b : Nat) : Nat := (bt_b2 b + bt_b2 b / 16) &&& 15
set_option maxRecDepth 100000 in
theorem bt_byte : ∀ b, b < 256 → (b / 2 &&& 85) ≤ b ∧ (b / 2 &&& 5592405) = (b / 2 &&& 85) ∧ (128 + b / 2 &&& 85) = (b / 2 &&& 85) ∧ bt_b1 b < 256 ∧ bt_b2 b < 69 ∧ bt_b3 b = bt_pcn b 8 ∧ bt_b3 b ≤ 8 := by decide +kernel
set_option maxRecDepth 100000 in
theorem bt_byte2 : ∀ b, b < 256 → (b &&& 3355443) = (b &&& 51) ∧ (b / 4 &&& 3355443) = (b / 4 &&& 51) ∧ (64 + b / 4 &&& 51) = (b / 4 &&& 51) ∧ (128 + b / 4 &&& 51) = (b / 4 &&& 51) ∧ (192 + b / 4 &&& 51) = (b / 4 &&& 51) := by decide +kernel
set_option maxRecDepth 100000 in
theorem bt_byte3 : ∀ b, b < 69 → (b + b / 16 &&& 986895) = (b + b / 16 &&& 15) ∧ ∀ k, k < 5 → ((b + b / 16 + 16 * k) &&& 15) = (b + b / 16 &&& 15) := by decide +kernel
set_option maxRecDepth 100000 in
theorem bt_byte4 : ∀ a, a < 256 → bt_b2 a % 16 < 5 := by decide +kernel
set_option maxRecDepth 100000 in
theorem bt_byte5 : ∀ p, p < 9 → ∀ q, q < 9 → (256 * p + (q + p) &&& 63) = p + q := by decide +kernel
theorem bt_pcn_app {a b : Nat} (hb : b < 256) : ∀ n, bt_pcn (256 * a + b) (8 + n) = bt_pcn b 8 + bt_pcn a n
  | 0 => by
    refine bt_pcn_congr0 8 (fun i hi => ?_)
    have h1 := Nat.testBit_two_pow_mul_add a (i := 8) hb i
    rw [show (256 : Nat) = 2 ^ 8 from rfl, h1, if_pos hi]
  | n + 1 => by
    have h1 := Nat.testBit_two_pow_mul_add a (i := 8) hb (8 + n)
    rw [if_neg (by omega), show 8 + n - 8 = n by omega] at h1
    rw [← Nat.add_assoc]
    show bt_pcn (256 * a + b) (8 + n) + _ = _
    rw [bt_pcn_app hb n]
    show _ + (if (2 ^ 8 * a + b).testBit (8 + n) then 1 else 0) = bt_pcn b 8 + (bt_pcn a n + _)
    rw [h1, Nat.add_assoc]
theorem bt_pcf_eq {x : Nat} (h : x < 65536) : bt_pcf x = bt_pcn x 16 := by
  obtain ⟨a, b, ha, hb, rfl⟩ : ∃ a b, a < 256 ∧ b < 256 ∧ x = 256 * a + b := ⟨x / 256, x % 256, by omega, by omega, by omega⟩
  obtain ⟨a1, a2, a3, a4, a5, a6, a7⟩ := bt_byte a ha
  obtain ⟨b1, b2, b3, b4, b5, b6, b7⟩ := bt_byte b hb
  have e1 : 256 * a + b - ((256 * a + b) / 2 &&& 1431655765) = 256 * bt_b1 a + bt_b1 b := by
    have q : (256 * a + b) / 2 = 256 * (a / 2) + (128 * (a % 2) + b / 2) := by omega
    have q2 : (128 * (a % 2) + b / 2 &&& 85) = (b / 2 &&& 85) := by
      rcases Nat.mod_two_eq_zero_or_one a with e | e <;> rw [e]
      · simp
      · simpa using b3
    rw [q, show 1431655765 = 256 * 5592405 + 85 from rfl, bt_and256 (by omega) (by omega), a2, q2]
    unfold bt_b1
    omega
  have e2 : (256 * bt_b1 a + bt_b1 b &&& 858993459) + ((256 * bt_b1 a + bt_b1 b) / 4 &&& 858993459) = 256 * bt_b2 a + bt_b2 b := by
    obtain ⟨u1, u2, u3, u4, u5⟩ := bt_byte2 _ a4
    obtain ⟨v1, v2, v3, v4, v5⟩ := bt_byte2 _ b4
    have q : (256 * bt_b1 a + bt_b1 b) / 4 = 256 * (bt_b1 a / 4) + (64 * (bt_b1 a % 4) + bt_b1 b / 4) := by omega
    have q2 : (64 * (bt_b1 a % 4) + bt_b1 b / 4 &&& 51) = (bt_b1 b / 4 &&& 51) := by
      have : bt_b1 a % 4 = 0 ∨ bt_b1 a % 4 = 1 ∨ bt_b1 a % 4 = 2 ∨ bt_b1 a % 4 = 3 := by omega
      rcases this with e | e | e | e <;> rw [e]
      · simp
      · simpa using v3
      · simpa using v4
      · simpa using v5
    rw [q, show 858993459 = 256 * 3355443 + 51 from rfl, bt_and256 b4 (by omega), bt_and256 (by omega) (by omega), u1, u2, q2]
    unfold bt_b2
    omega
  have e3 : ((256 * bt_b2 a + bt_b2 b) + (256 * bt_b2 a + bt_b2 b) / 16 &&& 252645135) = 256 * bt_b3 a + bt_b3 b := by
    obtain ⟨u1, -⟩ := bt_byte3 _ a5
    obtain ⟨-, v2⟩ := bt_byte3 _ b5
    have k1 := bt_byte4 a ha
    have q : (256 * bt_b2 a + bt_b2 b) + (256 * bt_b2 a + bt_b2 b) / 16 = 256 * (bt_b2 a + bt_b2 a / 16) + (bt_b2 b + bt_b2 b / 16 + 16 * (bt_b2 a % 16)) := by omega
    rw [q, show 252645135 = 256 * 986895 + 15 from rfl, bt_and256 (by omega) (by omega), u1, v2 _ k1]
    rfl
  have e4 : 256 * bt_b3 a + bt_b3 b + (256 * bt_b3 a + bt_b3 b) / 256 = 256 * bt_b3 a + (bt_b3 b + bt_b3 a) := by omega
  have e5 : 256 * bt_b3 a + (bt_b3 b + bt_b3 a) + (256 * bt_b3 a + (bt_b3 b + bt_b3 a)) / 65536 = 256 * bt_b3 a + (bt_b3 b + bt_b3 a) := by omega
  have e6 := bt_byte5 (bt_b3 a) (by omega) (bt_b3 b) (by omega)
  unfold bt_pcf
  simp only [e1, e2, e3, e4, e5, e6]
  rw [show 16 = 8 + 8 from rfl, bt_pcn_app hb 8, a6, b6, Nat.add_comm]
theorem bt_sh_u : ∀ k : Nat, k < 32 → (((nI k).toUInt32 &&& Int32.toUInt32 31).toBitVec % 32).toNat = k := by decide
theorem bo_iushr_nat {a k : Nat} (hk : k < 32) (h : a < 2 ^ 31) : bo_iushr (a : Int) (k : Int) = ((a / 2 ^ k : Nat) : Int) := by
  unfold bo_iushr
  rw [bt_in, bt_in, pk_ushrN (by omega) _ k (bt_sh_u k hk), nI_toInt (Nat.lt_of_le_of_lt (Nat.div_le_self _ _) h)]
def SpJ6_bitCount_0f7a4 : bt_Sp := fun As w Q => ∃ x : Nat, As = [.inl (x : Int)] ∧ x < 65536 ∧ Q (some (.inl (bt_pcn x 16 : Int))) w
set_option maxHeartbeats 4000000 in
theorem mtJ6_bitCount_0f7a4 : bt_Met yJ6_bitCount_0f7a4 cJ6_bitCount_0f7a4 1 (some .int) 1 [0] SpJ6_bitCount_0f7a4 := by
  refine bt_metW (lfJ6_bitCount_0f7a4) (fun As w Q _ hS => ?_)
  obtain ⟨x, rfl, hx, hQ⟩ := hS
  simp (disch := omega) only [tJ6_bitCount_0f7a4_0, bt_ild, bt_lld, bt_ald, bt_ist, bt_lst, bt_ast, bt_inc, bt_ic, bt_lc, bt_iadd, bt_isub, bt_imul, bt_iand, bt_ior, bt_ixor, bt_ishl, bt_ishr, bt_iushr, bt_ladd, bt_lsub, bt_lmul, bt_land, bt_lor, bt_lushr, bt_lshl, bt_idiv, bt_irem, bt_ldiv, bt_lrem, bt_lcmp, bt_i2l, bt_l2i, bt_i2b, bt_pop, bt_dup, bt_dup2, bt_gfI, bt_gfJ, bt_gfR, bt_pfI, bt_pfZ, bt_pfJ, bt_pfR, bt_ial, bt_bal, bt_zal, bt_lal, bt_aal, bt_ias, bt_bas, bt_zas, bt_las, bt_len, bt_iret, bt_zret, bt_lret, bt_vret, bt_cV, bt_cS, bt_tab, bt_tsw, bt_lk, bt_lsw, bt_acp, bt_mmax, bt_mmin, bt_can, bt_icmpeq, bt_ifeq, bt_icmpne, bt_ifne, bt_icmplt, bt_iflt, bt_icmpge, bt_ifge, bt_icmpgt, bt_ifgt, bt_icmple, bt_ifle, bt_ret, bt_kill, bt_kl, bt_ix, bt_nl, bt_sm, bt_sr, bt_sig, bt_tg, bt_loc, bt_locs, List.getElem?_cons_zero, List.getElem?_cons_succ, List.set_cons_zero, List.set_cons_succ, List.map_cons, List.map_nil, List.take_succ_cons, List.take_zero, List.drop_succ_cons, List.drop_zero, List.reverse_cons, List.reverse_nil, List.nil_append, List.cons_append, List.append_nil, List.length_cons, List.length_nil, List.replicate_succ, List.replicate_zero, Option.toList_some, Option.toList_none, Nat.reduceAdd, Nat.reduceSub, Nat.reduceLeDiff, Nat.zero_add, Nat.zero_le, true_and, and_true, Int.toNat_natCast, Sum.inl.injEq, Sum.inr.injEq, ↓reduceIte, Nat.reduceEqDiff]
  have e1 : bo_iand (bo_iushr (x : Int) 1) 1431655765 = ((x / 2 &&& 1431655765 : Nat) : Int) := by
    rw [show (1 : Int) = ((1 : Nat) : Int) from rfl, bo_iushr_nat (by omega) (by omega), show (1431655765 : Int) = ((1431655765 : Nat) : Int) from rfl, bo_iand_nat (Or.inr (by decide))]
  have l1 : x / 2 &&& 1431655765 ≤ x / 2 := Nat.and_le_left
  have e2 : (x : Int) - ((x / 2 &&& 1431655765 : Nat) : Int) = ((x - (x / 2 &&& 1431655765) : Nat) : Int) := by omega
  rw [e1, e2]
  generalize hc1 : x - (x / 2 &&& 1431655765) = c1
  have k1 : c1 ≤ x := by omega
  have e3 : bo_iand (c1 : Int) 858993459 = ((c1 &&& 858993459 : Nat) : Int) := by
    rw [show (858993459 : Int) = ((858993459 : Nat) : Int) from rfl, bo_iand_nat (Or.inr (by decide))]
  have e4 : bo_iand (bo_iushr (c1 : Int) 2) 858993459 = ((c1 / 4 &&& 858993459 : Nat) : Int) := by
    rw [show (2 : Int) = ((2 : Nat) : Int) from rfl, bo_iushr_nat (by omega) (by omega), show (858993459 : Int) = ((858993459 : Nat) : Int) from rfl, bo_iand_nat (Or.inr (by decide))]
  rw [e3, e4, ← Int.natCast_add]
  have l2 : c1 &&& 858993459 ≤ c1 := Nat.and_le_left
  have l3 : c1 / 4 &&& 858993459 ≤ c1 / 4 := Nat.and_le_left
  generalize hc2 : (c1 &&& 858993459) + (c1 / 4 &&& 858993459) = c2
  have e5 : bo_iand ((c2 : Int) + bo_iushr (c2 : Int) 4) 252645135 = (((c2 + c2 / 16) &&& 252645135 : Nat) : Int) := by
    rw [show (4 : Int) = ((4 : Nat) : Int) from rfl, bo_iushr_nat (by omega) (by omega), ← Int.natCast_add, show (252645135 : Int) = ((252645135 : Nat) : Int) from rfl, bo_iand_nat (Or.inr (by decide))]
  rw [e5]
  have l4 : (c2 + c2 / 16) &&& 252645135 ≤ c2 + c2 / 16 := Nat.and_le_left
  generalize hc3 : ((c2 + c2 / 16) &&& 252645135) = c3
  have e6 : (c3 : Int) + bo_iushr (c3 : Int) 8 = ((c3 + c3 / 256 : Nat) : Int) := by
    rw [show (8 : Int) = ((8 : Nat) : Int) from rfl, bo_iushr_nat (by omega) (by omega), ← Int.natCast_add]
  rw [e6]
  generalize hc4 : c3 + c3 / 256 = c4
  have e7 : (c4 : Int) + bo_iushr (c4 : Int) 16 = ((c4 + c4 / 65536 : Nat) : Int) := by
    rw [show (16 : Int) = ((16 : Nat) : Int) from rfl, bo_iushr_nat (by omega) (by omega), ← Int.natCast_add]
  rw [e7]
  generalize hc5 : c4 + c4 / 65536 = c5
  have e8 : bo_iand (c5 : Int) 63 = ((c5 &&& 63 : Nat) : Int) := by
    rw [show (63 : Int) = ((63 : Nat) : Int) from rfl, bo_iand_nat (Or.inr (by decide))]
  rw [e8]
  have e9 : c5 &&& 63 = bt_pcn x 16 := by
    rw [← bt_pcf_eq hx]
    unfold bt_pcf
    simp only [hc1, hc2, hc3, hc4, hc5]
  rw [e9]
  exact hQ
theorem bt_pcn_congr {x y : Nat} : ∀ n, (∀ i, i < n → x.testBit i = y.testBit i) → bt_pcn x n = bt_pcn y n
  | 0, _ => rfl
  | n + 1, h => by unfold bt_pcn; rw [bt_pcn_congr n (fun i hi => h i (by omega)), h n (by omega)]
/-- how many of the first n -/
def bt_ct (p : Nat → Bool) : Nat → Nat
  | 0 => 0
  | n + 1 => bt_ct p n + (if p n then 1 else 0)
theorem bt_ct_le (p : Nat → Bool) (n : Nat) : bt_ct p n ≤ n := by
  induction n with
  | zero => simp [bt_ct]
  | succ n ih => unfold bt_ct; split <;> omega
theorem bt_pcn_bn (p : Nat → Bool) (n : Nat) : ∀ m, bt_pcn (bt_bn p n) m = bt_ct (fun i => decide (i < n) && p i) m
  | 0 => rfl
  | m + 1 => by unfold bt_pcn bt_ct; rw [bt_pcn_bn p n m, bt_bn_bit]
theorem bt_ct_cut (p : Nat → Bool) (n : Nat) : ∀ k, bt_ct (fun i => decide (i < n) && p i) (n + k) = bt_ct p n
  | 0 => by
    have : ∀ m, m ≤ n → bt_ct (fun i => decide (i < n) && p i) m = bt_ct p m := by
      intro m
      induction m with
      | zero => intro _; rfl
      | succ m ih => intro hm; unfold bt_ct; rw [ih (by omega)]; simp [show m < n by omega]
    exact this n (Nat.le_refl n)
  | k + 1 => by
    rw [← Nat.add_assoc]
    show bt_ct (fun i => decide (i < n) && p i) (n + k) + _ = _
    rw [bt_ct_cut p n k]
    simp
    intro h
    omega
theorem bt_pop_bn (p : Nat → Bool) {n : Nat} (h : n ≤ 16) : bt_pcn (bt_bn p n) 16 = bt_ct p n := by
  rw [bt_pcn_bn, show 16 = n + (16 - n) by omega, bt_ct_cut]
