/-! BearTickets: sets of kinds, prices; Memory -/
def ab_all (S : Nat) : Nat → Nat
  | 0 => 15
  | n + 1 => if S.testBit n then ab_all S n &&& n else ab_all S n
def ab_some (S : Nat) : Nat → Nat
  | 0 => 0
  | n + 1 => if S.testBit n then ab_some S n ||| n else ab_some S n
theorem ab_all_le (S n : Nat) : ab_all S n ≤ 15 := by
  induction n with
  | zero => simp [ab_all]
  | succ n ih => unfold ab_all; split; · exact Nat.le_trans Nat.and_le_left ih
                 · exact ih
theorem ab_some_lt (S : Nat) : ∀ n, n ≤ 16 → ab_some S n < 16
  | 0, _ => by simp [ab_some]
  | n + 1, h => by
    have ih := ab_some_lt S n (by omega)
    unfold ab_some
    split
    · exact Nat.or_lt_two_pow (n := 4) ih (by omega)
    · exact ih
/-- the smallest set, the first of such: it, and how many kinds -/
def ab_least (S : Nat) : Nat → Int × Int
  | 0 => (-1, 5)
  | n + 1 => if S.testBit n ∧ (bt_pcn n 16 : Int) < (ab_least S n).2 then ((n : Int), (bt_pcn n 16 : Int)) else ab_least S n
theorem ab_least_rg (S n : Nat) : -1 ≤ (ab_least S n).1 ∧ (ab_least S n).1 < n + 1 ∧ 0 ≤ (ab_least S n).2 ∧ (ab_least S n).2 ≤ 5 := by
  induction n with
  | zero => simp [ab_least]
  | succ n ih =>
    unfold ab_least
    split
    next h => exact ⟨by show (-1 : Int) ≤ (n : Int); omega, by show (n : Int) < _; omega, by show (0 : Int) ≤ (bt_pcn n 16 : Int); omega, by have := h.2; show (bt_pcn n 16 : Int) ≤ 5; omega⟩
    next h => exact ⟨ih.1, by omega, ih.2.2⟩
def SpX10_kindsInAll : bt_Sp := fun As w Q => ∃ S : Nat, As = [.inl (S : Int)] ∧ S < 65536 ∧ Q (some (.inl (ab_all S 16 : Int))) w
set_option maxHeartbeats 4000000 in
theorem mtX10_kindsInAll : bt_Met yX10_kindsInAll cX10_kindsInAll 3 (some .int) 1 [0] SpX10_kindsInAll := by
  refine lpX10_kindsInAll _ (fun As w Q _ hS => ?_)
  obtain ⟨S, rfl, hS, hQ⟩ := hS
  refine ⟨fun h' m st L w' => st = [] ∧ w' = w ∧ ∃ (i : Nat), i ≤ 16 ∧ m = 16 - i ∧ L = [some (.inl (S : Int)), some (.inl (ab_all S i : Int)), some (.inl (i : Int))], ?_, ?_⟩
  · simp (disch := omega) only [tX10_kindsInAll_0, bt_ild, bt_lld, bt_ald, bt_ist, bt_lst, bt_ast, bt_inc, bt_ic, bt_lc, bt_iadd, bt_isub, bt_imul, bt_iand, bt_ior, bt_ixor, bt_ishl, bt_ishr, bt_iushr, bt_ladd, bt_lsub, bt_lmul, bt_land, bt_lor, bt_lushr, bt_lshl, bt_idiv, bt_irem, bt_ldiv, bt_lrem, bt_lcmp, bt_i2l, bt_l2i, bt_i2b, bt_pop, bt_dup, bt_dup2, bt_gfI, bt_gfJ, bt_gfR, bt_pfI, bt_pfZ, bt_pfJ, bt_pfR, bt_ial, bt_bal, bt_zal, bt_lal, bt_aal, bt_ias, bt_bas, bt_zas, bt_las, bt_len, bt_iret, bt_zret, bt_lret, bt_vret, bt_cV, bt_cS, bt_tab, bt_tsw, bt_lk, bt_lsw, bt_acp, bt_mmax, bt_mmin, bt_can, bt_icmpeq, bt_ifeq, bt_icmpne, bt_ifne, bt_icmplt, bt_iflt, bt_icmpge, bt_ifge, bt_icmpgt, bt_ifgt, bt_icmple, bt_ifle, bt_ret, bt_kill, bt_kl, bt_ix, bt_nl, bt_sm, bt_sr, bt_sig, bt_tg, bt_loc, bt_locs, List.getElem?_cons_zero, List.getElem?_cons_succ, List.set_cons_zero, List.set_cons_succ, List.map_cons, List.map_nil, List.take_succ_cons, List.take_zero, List.drop_succ_cons, List.drop_zero, List.reverse_cons, List.reverse_nil, List.nil_append, List.cons_append, List.append_nil, List.length_cons, List.length_nil, List.replicate_succ, List.replicate_zero, Option.toList_some, Option.toList_none, Nat.reduceAdd, Nat.reduceSub, Nat.reduceLeDiff, Nat.zero_add, Nat.zero_le, true_and, and_true, Int.toNat_natCast, Sum.inl.injEq, Sum.inr.injEq, ↓reduceIte, Nat.reduceEqDiff]
    exact ⟨16, 0, by omega, by omega, rfl⟩
  · rintro m st L w' ⟨rfl, rfl, i, hi, rfl, rfl⟩
    simp (disch := omega) only [tX10_kindsInAll_5, tX10_kindsInAll_23, bt_ild, bt_lld, bt_ald, bt_ist, bt_lst, bt_ast, bt_inc, bt_ic, bt_lc, bt_iadd, bt_isub, bt_imul, bt_iand, bt_ior, bt_ixor, bt_ishl, bt_ishr, bt_iushr, bt_ladd, bt_lsub, bt_lmul, bt_land, bt_lor, bt_lushr, bt_lshl, bt_idiv, bt_irem, bt_ldiv, bt_lrem, bt_lcmp, bt_i2l, bt_l2i, bt_i2b, bt_pop, bt_dup, bt_dup2, bt_gfI, bt_gfJ, bt_gfR, bt_pfI, bt_pfZ, bt_pfJ, bt_pfR, bt_ial, bt_bal, bt_zal, bt_lal, bt_aal, bt_ias, bt_bas, bt_zas, bt_las, bt_len, bt_iret, bt_zret, bt_lret, bt_vret, bt_cV, bt_cS, bt_tab, bt_tsw, bt_lk, bt_lsw, bt_acp, bt_mmax, bt_mmin, bt_can, bt_icmpeq, bt_ifeq, bt_icmpne, bt_ifne, bt_icmplt, bt_iflt, bt_icmpge, bt_ifge, bt_icmpgt, bt_ifgt, bt_icmple, bt_ifle, bt_ret, bt_kill, bt_kl, bt_ix, bt_nl, bt_sm, bt_sr, bt_sig, bt_tg, bt_loc, bt_locs, List.getElem?_cons_zero, List.getElem?_cons_succ, List.set_cons_zero, List.set_cons_succ, List.map_cons, List.map_nil, List.take_succ_cons, List.take_zero, List.drop_succ_cons, List.drop_zero, List.reverse_cons, List.reverse_nil, List.nil_append, List.cons_append, List.append_nil, List.length_cons, List.length_nil, List.replicate_succ, List.replicate_zero, Option.toList_some, Option.toList_none, Nat.reduceAdd, Nat.reduceSub, Nat.reduceLeDiff, Nat.zero_add, Nat.zero_le, true_and, and_true, Int.toNat_natCast, Sum.inl.injEq, Sum.inr.injEq, ↓reduceIte, Nat.reduceEqDiff, bt_w_id]
    by_cases hc : 16 ≤ i
    · rw [if_pos (by omega)]
      have : i = 16 := by omega
      subst this
      exact hQ
    · rw [if_neg (by omega), bo_bit (by omega) (by omega)]
      have hl := ab_all_le S i
      by_cases hb : S.testBit i
      · simp (disch := omega) only [hb, if_true, bt_w_id]
        rw [if_neg (by decide), bo_iand_nat (Or.inl (by omega))]
        exact ⟨16 - (i + 1), by omega, i + 1, by omega, rfl, by simp [ab_all, hb]⟩
      · simp (disch := omega) only [hb, if_true, bt_w_id]
        exact ⟨16 - (i + 1), by omega, i + 1, by omega, rfl, by simp [ab_all, hb]⟩
def SpX10_kindsInSome : bt_Sp := fun As w Q => ∃ S : Nat, As = [.inl (S : Int)] ∧ S < 65536 ∧ Q (some (.inl (ab_some S 16 : Int))) w
set_option maxHeartbeats 4000000 in
theorem mtX10_kindsInSome : bt_Met yX10_kindsInSome cX10_kindsInSome 3 (some .int) 1 [0] SpX10_kindsInSome := by
  refine lpX10_kindsInSome _ (fun As w Q _ hS => ?_)
  obtain ⟨S, rfl, hS, hQ⟩ := hS
  refine ⟨fun h' m st L w' => st = [] ∧ w' = w ∧ ∃ (i : Nat), i ≤ 16 ∧ m = 16 - i ∧ L = [some (.inl (S : Int)), some (.inl (ab_some S i : Int)), some (.inl (i : Int))], ?_, ?_⟩
  · simp (disch := omega) only [tX10_kindsInSome_0, bt_ild, bt_lld, bt_ald, bt_ist, bt_lst, bt_ast, bt_inc, bt_ic, bt_lc, bt_iadd, bt_isub, bt_imul, bt_iand, bt_ior, bt_ixor, bt_ishl, bt_ishr, bt_iushr, bt_ladd, bt_lsub, bt_lmul, bt_land, bt_lor, bt_lushr, bt_lshl, bt_idiv, bt_irem, bt_ldiv, bt_lrem, bt_lcmp, bt_i2l, bt_l2i, bt_i2b, bt_pop, bt_dup, bt_dup2, bt_gfI, bt_gfJ, bt_gfR, bt_pfI, bt_pfZ, bt_pfJ, bt_pfR, bt_ial, bt_bal, bt_zal, bt_lal, bt_aal, bt_ias, bt_bas, bt_zas, bt_las, bt_len, bt_iret, bt_zret, bt_lret, bt_vret, bt_cV, bt_cS, bt_tab, bt_tsw, bt_lk, bt_lsw, bt_acp, bt_mmax, bt_mmin, bt_can, bt_icmpeq, bt_ifeq, bt_icmpne, bt_ifne, bt_icmplt, bt_iflt, bt_icmpge, bt_ifge, bt_icmpgt, bt_ifgt, bt_icmple, bt_ifle, bt_ret, bt_kill, bt_kl, bt_ix, bt_nl, bt_sm, bt_sr, bt_sig, bt_tg, bt_loc, bt_locs, List.getElem?_cons_zero, List.getElem?_cons_succ, List.set_cons_zero, List.set_cons_succ, List.map_cons, List.map_nil, List.take_succ_cons, List.take_zero, List.drop_succ_cons, List.drop_zero, List.reverse_cons, List.reverse_nil, List.nil_append, List.cons_append, List.append_nil, List.length_cons, List.length_nil, List.replicate_succ, List.replicate_zero, Option.toList_some, Option.toList_none, Nat.reduceAdd, Nat.reduceSub, Nat.reduceLeDiff, Nat.zero_add, Nat.zero_le, true_and, and_true, Int.toNat_natCast, Sum.inl.injEq, Sum.inr.injEq, ↓reduceIte, Nat.reduceEqDiff]
    exact ⟨16, 0, by omega, by omega, rfl⟩
  · rintro m st L w' ⟨rfl, rfl, i, hi, rfl, rfl⟩
    simp (disch := omega) only [tX10_kindsInSome_4, tX10_kindsInSome_22, bt_ild, bt_lld, bt_ald, bt_ist, bt_lst, bt_ast, bt_inc, bt_ic, bt_lc, bt_iadd, bt_isub, bt_imul, bt_iand, bt_ior, bt_ixor, bt_ishl, bt_ishr, bt_iushr, bt_ladd, bt_lsub, bt_lmul, bt_land, bt_lor, bt_lushr, bt_lshl, bt_idiv, bt_irem, bt_ldiv, bt_lrem, bt_lcmp, bt_i2l, bt_l2i, bt_i2b, bt_pop, bt_dup, bt_dup2, bt_gfI, bt_gfJ, bt_gfR, bt_pfI, bt_pfZ, bt_pfJ, bt_pfR, bt_ial, bt_bal, bt_zal, bt_lal, bt_aal, bt_ias, bt_bas, bt_zas, bt_las, bt_len, bt_iret, bt_zret, bt_lret, bt_vret, bt_cV, bt_cS, bt_tab, bt_tsw, bt_lk, bt_lsw, bt_acp, bt_mmax, bt_mmin, bt_can, bt_icmpeq, bt_ifeq, bt_icmpne, bt_ifne, bt_icmplt, bt_iflt, bt_icmpge, bt_ifge, bt_icmpgt, bt_ifgt, bt_icmple, bt_ifle, bt_ret, bt_kill, bt_kl, bt_ix, bt_nl, bt_sm, bt_sr, bt_sig, bt_tg, bt_loc, bt_locs, List.getElem?_cons_zero, List.getElem?_cons_succ, List.set_cons_zero, List.set_cons_succ, List.map_cons, List.map_nil, List.take_succ_cons, List.take_zero, List.drop_succ_cons, List.drop_zero, List.reverse_cons, List.reverse_nil, List.nil_append, List.cons_append, List.append_nil, List.length_cons, List.length_nil, List.replicate_succ, List.replicate_zero, Option.toList_some, Option.toList_none, Nat.reduceAdd, Nat.reduceSub, Nat.reduceLeDiff, Nat.zero_add, Nat.zero_le, true_and, and_true, Int.toNat_natCast, Sum.inl.injEq, Sum.inr.injEq, ↓reduceIte, Nat.reduceEqDiff, bt_w_id]
    by_cases hc : 16 ≤ i
    · rw [if_pos (by omega)]
      have : i = 16 := by omega
      subst this
      exact hQ
    · rw [if_neg (by omega), bo_bit (by omega) (by omega)]
      have hl := ab_some_lt S i (by omega)
      by_cases hb : S.testBit i
      · simp (disch := omega) only [hb, if_true, bt_w_id]
        rw [if_neg (by decide), bo_ior_nat (by omega) (by omega)]
        exact ⟨16 - (i + 1), by omega, i + 1, by omega, rfl, by simp [ab_some, hb]⟩
      · simp (disch := omega) only [hb, if_true, bt_w_id]
        exact ⟨16 - (i + 1), by omega, i + 1, by omega, rfl, by simp [ab_some, hb]⟩
def SpX10_smallestSet : bt_Sp := fun As w Q => ∃ S : Nat, As = [.inl (S : Int)] ∧ S < 65536 ∧ Q (some (.inl (ab_least S 16).1)) w
theorem bt_pcn_le (x : Nat) : ∀ m, bt_pcn x m ≤ m
  | 0 => by simp [bt_pcn]
  | m + 1 => by have := bt_pcn_le x m; unfold bt_pcn; split <;> omega
set_option maxHeartbeats 4000000 in
theorem mtX10_smallestSet : bt_Met yX10_smallestSet cX10_smallestSet 4 (some .int) 2 [0] SpX10_smallestSet := by
  refine lpX10_smallestSet mtJ6_bitCount_0f7a4 (by decide) _ (fun As w Q _ hS => ?_)
  obtain ⟨S, rfl, hS, hQ⟩ := hS
  refine ⟨fun h' m st L w' => st = [] ∧ w' = w ∧ ∃ (i : Nat), i ≤ 16 ∧ m = 16 - i ∧ L = [some (.inl (S : Int)), some (.inl (ab_least S i).1), some (.inl (ab_least S i).2), some (.inl (i : Int))], ?_, ?_⟩
  · simp (disch := omega) only [tX10_smallestSet_0, bt_ild, bt_lld, bt_ald, bt_ist, bt_lst, bt_ast, bt_inc, bt_ic, bt_lc, bt_iadd, bt_isub, bt_imul, bt_iand, bt_ior, bt_ixor, bt_ishl, bt_ishr, bt_iushr, bt_ladd, bt_lsub, bt_lmul, bt_land, bt_lor, bt_lushr, bt_lshl, bt_idiv, bt_irem, bt_ldiv, bt_lrem, bt_lcmp, bt_i2l, bt_l2i, bt_i2b, bt_pop, bt_dup, bt_dup2, bt_gfI, bt_gfJ, bt_gfR, bt_pfI, bt_pfZ, bt_pfJ, bt_pfR, bt_ial, bt_bal, bt_zal, bt_lal, bt_aal, bt_ias, bt_bas, bt_zas, bt_las, bt_len, bt_iret, bt_zret, bt_lret, bt_vret, bt_cV, bt_cS, bt_tab, bt_tsw, bt_lk, bt_lsw, bt_acp, bt_mmax, bt_mmin, bt_can, bt_icmpeq, bt_ifeq, bt_icmpne, bt_ifne, bt_icmplt, bt_iflt, bt_icmpge, bt_ifge, bt_icmpgt, bt_ifgt, bt_icmple, bt_ifle, bt_ret, bt_kill, bt_kl, bt_ix, bt_nl, bt_sm, bt_sr, bt_sig, bt_tg, bt_loc, bt_locs, List.getElem?_cons_zero, List.getElem?_cons_succ, List.set_cons_zero, List.set_cons_succ, List.map_cons, List.map_nil, List.take_succ_cons, List.take_zero, List.drop_succ_cons, List.drop_zero, List.reverse_cons, List.reverse_nil, List.nil_append, List.cons_append, List.append_nil, List.length_cons, List.length_nil, List.replicate_succ, List.replicate_zero, Option.toList_some, Option.toList_none, Nat.reduceAdd, Nat.reduceSub, Nat.reduceLeDiff, Nat.zero_add, Nat.zero_le, true_and, and_true, Int.toNat_natCast, Sum.inl.injEq, Sum.inr.injEq, ↓reduceIte, Nat.reduceEqDiff]
    exact ⟨16, 0, by omega, by omega, rfl⟩
  · rintro m st L w' ⟨rfl, rfl, i, hi, rfl, rfl⟩
    have hr := ab_least_rg S i
    have hp := bt_pcn_le i 16
    simp (disch := omega) only [tX10_smallestSet_6, tX10_smallestSet_35, bt_ild, bt_lld, bt_ald, bt_ist, bt_lst, bt_ast, bt_inc, bt_ic, bt_lc, bt_iadd, bt_isub, bt_imul, bt_iand, bt_ior, bt_ixor, bt_ishl, bt_ishr, bt_iushr, bt_ladd, bt_lsub, bt_lmul, bt_land, bt_lor, bt_lushr, bt_lshl, bt_idiv, bt_irem, bt_ldiv, bt_lrem, bt_lcmp, bt_i2l, bt_l2i, bt_i2b, bt_pop, bt_dup, bt_dup2, bt_gfI, bt_gfJ, bt_gfR, bt_pfI, bt_pfZ, bt_pfJ, bt_pfR, bt_ial, bt_bal, bt_zal, bt_lal, bt_aal, bt_ias, bt_bas, bt_zas, bt_las, bt_len, bt_iret, bt_zret, bt_lret, bt_vret, bt_cV, bt_cS, bt_tab, bt_tsw, bt_lk, bt_lsw, bt_acp, bt_mmax, bt_mmin, bt_can, bt_icmpeq, bt_ifeq, bt_icmpne, bt_ifne, bt_icmplt, bt_iflt, bt_icmpge, bt_ifge, bt_icmpgt, bt_ifgt, bt_icmple, bt_ifle, bt_ret, bt_kill, bt_kl, bt_ix, bt_nl, bt_sm, bt_sr, bt_sig, bt_tg, bt_loc, bt_locs, List.getElem?_cons_zero, List.getElem?_cons_succ, List.set_cons_zero, List.set_cons_succ, List.map_cons, List.map_nil, List.take_succ_cons, List.take_zero, List.drop_succ_cons, List.drop_zero, List.reverse_cons, List.reverse_nil, List.nil_append, List.cons_append, List.append_nil, List.length_cons, List.length_nil, List.replicate_succ, List.replicate_zero, Option.toList_some, Option.toList_none, Nat.reduceAdd, Nat.reduceSub, Nat.reduceLeDiff, Nat.zero_add, Nat.zero_le, true_and, and_true, Int.toNat_natCast, Sum.inl.injEq, Sum.inr.injEq, ↓reduceIte, Nat.reduceEqDiff, bt_w_id]
    by_cases hc : 16 ≤ i
    · rw [if_pos (by omega)]
      have : i = 16 := by omega
      subst this
      exact hQ
    · rw [if_neg (by omega), bo_bit (by omega) (by omega)]
      by_cases hb : S.testBit i
      · simp (disch := omega) only [hb, if_true, bt_w_id]
        rw [if_neg (by decide)]
        refine ⟨i, rfl, by omega, ?_⟩
        simp (disch := omega) only [bt_ild, bt_lld, bt_ald, bt_ist, bt_lst, bt_ast, bt_inc, bt_ic, bt_lc, bt_iadd, bt_isub, bt_imul, bt_iand, bt_ior, bt_ixor, bt_ishl, bt_ishr, bt_iushr, bt_ladd, bt_lsub, bt_lmul, bt_land, bt_lor, bt_lushr, bt_lshl, bt_idiv, bt_irem, bt_ldiv, bt_lrem, bt_lcmp, bt_i2l, bt_l2i, bt_i2b, bt_pop, bt_dup, bt_dup2, bt_gfI, bt_gfJ, bt_gfR, bt_pfI, bt_pfZ, bt_pfJ, bt_pfR, bt_ial, bt_bal, bt_zal, bt_lal, bt_aal, bt_ias, bt_bas, bt_zas, bt_las, bt_len, bt_iret, bt_zret, bt_lret, bt_vret, bt_cV, bt_cS, bt_tab, bt_tsw, bt_lk, bt_lsw, bt_acp, bt_mmax, bt_mmin, bt_can, bt_icmpeq, bt_ifeq, bt_icmpne, bt_ifne, bt_icmplt, bt_iflt, bt_icmpge, bt_ifge, bt_icmpgt, bt_ifgt, bt_icmple, bt_ifle, bt_ret, bt_kill, bt_kl, bt_ix, bt_nl, bt_sm, bt_sr, bt_sig, bt_tg, bt_loc, bt_locs, List.getElem?_cons_zero, List.getElem?_cons_succ, List.set_cons_zero, List.set_cons_succ, List.map_cons, List.map_nil, List.take_succ_cons, List.take_zero, List.drop_succ_cons, List.drop_zero, List.reverse_cons, List.reverse_nil, List.nil_append, List.cons_append, List.append_nil, List.length_cons, List.length_nil, List.replicate_succ, List.replicate_zero, Option.toList_some, Option.toList_none, Nat.reduceAdd, Nat.reduceSub, Nat.reduceLeDiff, Nat.zero_add, Nat.zero_le, true_and, and_true, Int.toNat_natCast, Sum.inl.injEq, Sum.inr.injEq, ↓reduceIte, Nat.reduceEqDiff, bt_w_id]
        by_cases h2 : (ab_least S i).2 ≤ (bt_pcn i 16 : Int)
        · rw [if_pos h2]
          have : ¬ ((bt_pcn i 16 : Int) < (ab_least S i).2) := by omega
          exact ⟨16 - (i + 1), by omega, i + 1, by omega, rfl, by simp [ab_least, hb, this]⟩
        · rw [if_neg h2]
          refine ⟨i, rfl, by omega, ?_⟩
          simp (disch := omega) only [bt_ild, bt_lld, bt_ald, bt_ist, bt_lst, bt_ast, bt_inc, bt_ic, bt_lc, bt_iadd, bt_isub, bt_imul, bt_iand, bt_ior, bt_ixor, bt_ishl, bt_ishr, bt_iushr, bt_ladd, bt_lsub, bt_lmul, bt_land, bt_lor, bt_lushr, bt_lshl, bt_idiv, bt_irem, bt_ldiv, bt_lrem, bt_lcmp, bt_i2l, bt_l2i, bt_i2b, bt_pop, bt_dup, bt_dup2, bt_gfI, bt_gfJ, bt_gfR, bt_pfI, bt_pfZ, bt_pfJ, bt_pfR, bt_ial, bt_bal, bt_zal, bt_lal, bt_aal, bt_ias, bt_bas, bt_zas, bt_las, bt_len, bt_iret, bt_zret, bt_lret, bt_vret, bt_cV, bt_cS, bt_tab, bt_tsw, bt_lk, bt_lsw, bt_acp, bt_mmax, bt_mmin, bt_can, bt_icmpeq, bt_ifeq, bt_icmpne, bt_ifne, bt_icmplt, bt_iflt, bt_icmpge, bt_ifge, bt_icmpgt, bt_ifgt, bt_icmple, bt_ifle, bt_ret, bt_kill, bt_kl, bt_ix, bt_nl, bt_sm, bt_sr, bt_sig, bt_tg, bt_loc, bt_locs, List.getElem?_cons_zero, List.getElem?_cons_succ, List.set_cons_zero, List.set_cons_succ, List.map_cons, List.map_nil, List.take_succ_cons, List.take_zero, List.drop_succ_cons, List.drop_zero, List.reverse_cons, List.reverse_nil, List.nil_append, List.cons_append, List.append_nil, List.length_cons, List.length_nil, List.replicate_succ, List.replicate_zero, Option.toList_some, Option.toList_none, Nat.reduceAdd, Nat.reduceSub, Nat.reduceLeDiff, Nat.zero_add, Nat.zero_le, true_and, and_true, Int.toNat_natCast, Sum.inl.injEq, Sum.inr.injEq, ↓reduceIte, Nat.reduceEqDiff, bt_w_id]
          have : ((bt_pcn i 16 : Int) < (ab_least S i).2) := by omega
          exact ⟨16 - (i + 1), by omega, i + 1, by omega, rfl, by simp [ab_least, hb, this]⟩
      · simp (disch := omega) only [hb, if_true, bt_w_id]
        exact ⟨16 - (i + 1), by omega, i + 1, by omega, rfl, by simp [ab_least, hb]⟩
def SpX10_gain : bt_Sp := fun As w Q => tX10_gain_0 bt_k0 Q [] (bt_loc 5 As) w
theorem mtX10_gain : bt_Met yX10_gain cX10_gain 5 (some .int) 1 [0, 0, 0, 0] SpX10_gain := lfX10_gain
/-- what a house gains by its price against the other's -/
def ab_gain (a c x y : Nat) : Int := ((x : Int) - c) * (if x < y then (a : Int) else if x = y then ((a / 2 : Nat) : Int) else 0)
theorem ab_gain_rg {a c x y : Nat} (ha : a ≤ 20) (hc : c ≤ 9) (hx : x ≤ 6) : -400 ≤ ab_gain a c x y ∧ ab_gain a c x y ≤ 400 := by
  unfold ab_gain
  have h1 : -9 ≤ (x : Int) - c ∧ (x : Int) - c ≤ 6 := by omega
  generalize (x : Int) - c = u at h1
  have h2 : 0 ≤ (if x < y then (a : Int) else if x = y then ((a / 2 : Nat) : Int) else 0) ∧ (if x < y then (a : Int) else if x = y then ((a / 2 : Nat) : Int) else 0) ≤ 20 := by
    split
    · omega
    · split <;> omega
  generalize (if x < y then (a : Int) else if x = y then ((a / 2 : Nat) : Int) else 0) = v at h2
  have e1 : u * v ≤ 6 * v := Int.mul_le_mul_of_nonneg_right h1.2 h2.1
  have e2 : (-9) * v ≤ u * v := Int.mul_le_mul_of_nonneg_right h1.1 h2.1
  omega
/-- no price among the first n is better for either -/
def ab_rs (a c x y : Nat) : Nat → Bool
  | 0 => true
  | n + 1 => ab_rs a c x y n && !(decide (ab_gain a c x y < ab_gain a c (n + 1) y) || decide (ab_gain a c y x < ab_gain a c (n + 1) x))
def SpX10_isRest : bt_Sp := fun As w Q => ∃ a c x y : Nat, As = [.inl (a : Int), .inl (c : Int), .inl (x : Int), .inl (y : Int)] ∧ a ≤ 20 ∧ c ≤ 9 ∧ x ≤ 6 ∧ y ≤ 6 ∧ Q (some (.inl (if ab_rs a c x y 6 then 1 else 0))) w
theorem ab_gain_call {a c x y : Nat} (ha : a ≤ 20) (hc : c ≤ 9) (hx : x ≤ 6) (hy : y ≤ 6) {w : bt_W} {Q : Option bt_V → bt_W → Prop} (h : Q (some (.inl (ab_gain a c x y))) w) : SpX10_gain [.inl (a : Int), .inl (c : Int), .inl (x : Int), .inl (y : Int)] w Q := by
  have e : bo_idiv (a : Int) 2 = ((a / 2 : Nat) : Int) := bo_idiv_nat (a := a) (d := 2) (by omega) (by omega) (by omega)
  simp (disch := omega) only [SpX10_gain, tX10_gain_0, tX10_gain_21, bt_ild, bt_lld, bt_ald, bt_ist, bt_lst, bt_ast, bt_inc, bt_ic, bt_lc, bt_iadd, bt_isub, bt_imul, bt_iand, bt_ior, bt_ixor, bt_ishl, bt_ishr, bt_iushr, bt_ladd, bt_lsub, bt_lmul, bt_land, bt_lor, bt_lushr, bt_lshl, bt_idiv, bt_irem, bt_ldiv, bt_lrem, bt_lcmp, bt_i2l, bt_l2i, bt_i2b, bt_pop, bt_dup, bt_dup2, bt_gfI, bt_gfJ, bt_gfR, bt_pfI, bt_pfZ, bt_pfJ, bt_pfR, bt_ial, bt_bal, bt_zal, bt_lal, bt_aal, bt_ias, bt_bas, bt_zas, bt_las, bt_len, bt_iret, bt_zret, bt_lret, bt_vret, bt_cV, bt_cS, bt_tab, bt_tsw, bt_lk, bt_lsw, bt_acp, bt_mmax, bt_mmin, bt_can, bt_icmpeq, bt_ifeq, bt_icmpne, bt_ifne, bt_icmplt, bt_iflt, bt_icmpge, bt_ifge, bt_icmpgt, bt_ifgt, bt_icmple, bt_ifle, bt_ret, bt_kill, bt_kl, bt_ix, bt_nl, bt_sm, bt_sr, bt_sig, bt_tg, bt_loc, bt_locs, List.getElem?_cons_zero, List.getElem?_cons_succ, List.set_cons_zero, List.set_cons_succ, List.map_cons, List.map_nil, List.take_succ_cons, List.take_zero, List.drop_succ_cons, List.drop_zero, List.reverse_cons, List.reverse_nil, List.nil_append, List.cons_append, List.append_nil, List.length_cons, List.length_nil, List.replicate_succ, List.replicate_zero, Option.toList_some, Option.toList_none, Nat.reduceAdd, Nat.reduceSub, Nat.reduceLeDiff, Nat.zero_add, Nat.zero_le, true_and, and_true, Int.toNat_natCast, Sum.inl.injEq, Sum.inr.injEq, ↓reduceIte, Nat.reduceEqDiff, bt_w_id, e]
  unfold ab_gain at h
  by_cases h1 : x < y
  · rw [if_neg (by omega)]
    rw [if_pos h1] at h
    exact h
  · rw [if_pos (by omega)]
    rw [if_neg h1] at h
    by_cases h2 : x = y
    · rw [if_pos (by omega)]
      rw [if_pos h2] at h
      exact ⟨by decide, h⟩
    · rw [if_neg (by omega)]
      rw [if_neg h2] at h
      exact h
set_option maxHeartbeats 4000000 in
theorem mtX10_isRest : bt_Met yX10_isRest cX10_isRest 5 (some .boolean) 2 [0, 0, 0, 0] SpX10_isRest := by
  refine lpX10_isRest mtX10_gain (by decide) _ (fun As w Q _ hS => ?_)
  obtain ⟨a, c, x, y, rfl, ha, hc, hx, hy, hQ⟩ := hS
  refine ⟨fun h' m st L w' => st = [] ∧ w' = w ∧ ∃ (i : Nat), i ≤ 6 ∧ m = 6 - i ∧ L = [some (.inl (a : Int)), some (.inl (c : Int)), some (.inl (x : Int)), some (.inl (y : Int)), some (.inl ((i + 1 : Nat) : Int))] ∧ ab_rs a c x y i = true ∧ (ab_rs a c x y 6 = true → ab_rs a c x y i = true), ?_, ?_⟩
  · simp (disch := omega) only [tX10_isRest_0, bt_ild, bt_lld, bt_ald, bt_ist, bt_lst, bt_ast, bt_inc, bt_ic, bt_lc, bt_iadd, bt_isub, bt_imul, bt_iand, bt_ior, bt_ixor, bt_ishl, bt_ishr, bt_iushr, bt_ladd, bt_lsub, bt_lmul, bt_land, bt_lor, bt_lushr, bt_lshl, bt_idiv, bt_irem, bt_ldiv, bt_lrem, bt_lcmp, bt_i2l, bt_l2i, bt_i2b, bt_pop, bt_dup, bt_dup2, bt_gfI, bt_gfJ, bt_gfR, bt_pfI, bt_pfZ, bt_pfJ, bt_pfR, bt_ial, bt_bal, bt_zal, bt_lal, bt_aal, bt_ias, bt_bas, bt_zas, bt_las, bt_len, bt_iret, bt_zret, bt_lret, bt_vret, bt_cV, bt_cS, bt_tab, bt_tsw, bt_lk, bt_lsw, bt_acp, bt_mmax, bt_mmin, bt_can, bt_icmpeq, bt_ifeq, bt_icmpne, bt_ifne, bt_icmplt, bt_iflt, bt_icmpge, bt_ifge, bt_icmpgt, bt_ifgt, bt_icmple, bt_ifle, bt_ret, bt_kill, bt_kl, bt_ix, bt_nl, bt_sm, bt_sr, bt_sig, bt_tg, bt_loc, bt_locs, List.getElem?_cons_zero, List.getElem?_cons_succ, List.set_cons_zero, List.set_cons_succ, List.map_cons, List.map_nil, List.take_succ_cons, List.take_zero, List.drop_succ_cons, List.drop_zero, List.reverse_cons, List.reverse_nil, List.nil_append, List.cons_append, List.append_nil, List.length_cons, List.length_nil, List.replicate_succ, List.replicate_zero, Option.toList_some, Option.toList_none, Nat.reduceAdd, Nat.reduceSub, Nat.reduceLeDiff, Nat.zero_add, Nat.zero_le, true_and, and_true, Int.toNat_natCast, Sum.inl.injEq, Sum.inr.injEq, ↓reduceIte, Nat.reduceEqDiff]
    exact ⟨6, 0, by omega, by omega, rfl, rfl, fun _ => rfl⟩
  · rintro m st L w' ⟨rfl, rfl, i, hi, rfl, rfl, hr, -⟩
    simp (disch := omega) only [tX10_isRest_3, tX10_isRest_46, bt_ild, bt_lld, bt_ald, bt_ist, bt_lst, bt_ast, bt_inc, bt_ic, bt_lc, bt_iadd, bt_isub, bt_imul, bt_iand, bt_ior, bt_ixor, bt_ishl, bt_ishr, bt_iushr, bt_ladd, bt_lsub, bt_lmul, bt_land, bt_lor, bt_lushr, bt_lshl, bt_idiv, bt_irem, bt_ldiv, bt_lrem, bt_lcmp, bt_i2l, bt_l2i, bt_i2b, bt_pop, bt_dup, bt_dup2, bt_gfI, bt_gfJ, bt_gfR, bt_pfI, bt_pfZ, bt_pfJ, bt_pfR, bt_ial, bt_bal, bt_zal, bt_lal, bt_aal, bt_ias, bt_bas, bt_zas, bt_las, bt_len, bt_iret, bt_zret, bt_lret, bt_vret, bt_cV, bt_cS, bt_tab, bt_tsw, bt_lk, bt_lsw, bt_acp, bt_mmax, bt_mmin, bt_can, bt_icmpeq, bt_ifeq, bt_icmpne, bt_ifne, bt_icmplt, bt_iflt, bt_icmpge, bt_ifge, bt_icmpgt, bt_ifgt, bt_icmple, bt_ifle, bt_ret, bt_kill, bt_kl, bt_ix, bt_nl, bt_sm, bt_sr, bt_sig, bt_tg, bt_loc, bt_locs, List.getElem?_cons_zero, List.getElem?_cons_succ, List.set_cons_zero, List.set_cons_succ, List.map_cons, List.map_nil, List.take_succ_cons, List.take_zero, List.drop_succ_cons, List.drop_zero, List.reverse_cons, List.reverse_nil, List.nil_append, List.cons_append, List.append_nil, List.length_cons, List.length_nil, List.replicate_succ, List.replicate_zero, Option.toList_some, Option.toList_none, Nat.reduceAdd, Nat.reduceSub, Nat.reduceLeDiff, Nat.zero_add, Nat.zero_le, true_and, and_true, Int.toNat_natCast, Sum.inl.injEq, Sum.inr.injEq, ↓reduceIte, Nat.reduceEqDiff, bt_w_id]
    by_cases hc6 : 6 ≤ i
    · rw [if_pos (by omega)]
      have : i = 6 := by omega
      subst this
      rw [hr] at hQ
      exact ⟨by simp, hQ⟩
    · rw [if_neg (by omega)]
      have mono : ∀ n, i + 1 ≤ n → ab_rs a c x y (i + 1) = false → ab_rs a c x y n = false := by
        intro n hn h0
        induction n with
        | zero => omega
        | succ n ih =>
          by_cases e : i + 1 = n + 1
          · rw [← e]; exact h0
          · unfold ab_rs; rw [ih (by omega)]; rfl
      have g1 := ab_gain_rg (y := y) ha hc (show i + 1 ≤ 6 by omega)
      have g2 := ab_gain_rg (y := y) ha hc hx
      have g3 := ab_gain_rg (y := x) ha hc (show i + 1 ≤ 6 by omega)
      have g4 := ab_gain_rg (y := x) ha hc hy
      refine ab_gain_call ha hc (by omega) hy ?_
      simp (disch := omega) only [bt_ild, bt_lld, bt_ald, bt_ist, bt_lst, bt_ast, bt_inc, bt_ic, bt_lc, bt_iadd, bt_isub, bt_imul, bt_iand, bt_ior, bt_ixor, bt_ishl, bt_ishr, bt_iushr, bt_ladd, bt_lsub, bt_lmul, bt_land, bt_lor, bt_lushr, bt_lshl, bt_idiv, bt_irem, bt_ldiv, bt_lrem, bt_lcmp, bt_i2l, bt_l2i, bt_i2b, bt_pop, bt_dup, bt_dup2, bt_gfI, bt_gfJ, bt_gfR, bt_pfI, bt_pfZ, bt_pfJ, bt_pfR, bt_ial, bt_bal, bt_zal, bt_lal, bt_aal, bt_ias, bt_bas, bt_zas, bt_las, bt_len, bt_iret, bt_zret, bt_lret, bt_vret, bt_cV, bt_cS, bt_tab, bt_tsw, bt_lk, bt_lsw, bt_acp, bt_mmax, bt_mmin, bt_can, bt_icmpeq, bt_ifeq, bt_icmpne, bt_ifne, bt_icmplt, bt_iflt, bt_icmpge, bt_ifge, bt_icmpgt, bt_ifgt, bt_icmple, bt_ifle, bt_ret, bt_kill, bt_kl, bt_ix, bt_nl, bt_sm, bt_sr, bt_sig, bt_tg, bt_loc, bt_locs, List.getElem?_cons_zero, List.getElem?_cons_succ, List.set_cons_zero, List.set_cons_succ, List.map_cons, List.map_nil, List.take_succ_cons, List.take_zero, List.drop_succ_cons, List.drop_zero, List.reverse_cons, List.reverse_nil, List.nil_append, List.cons_append, List.append_nil, List.length_cons, List.length_nil, List.replicate_succ, List.replicate_zero, Option.toList_some, Option.toList_none, Nat.reduceAdd, Nat.reduceSub, Nat.reduceLeDiff, Nat.zero_add, Nat.zero_le, true_and, and_true, Int.toNat_natCast, Sum.inl.injEq, Sum.inr.injEq, ↓reduceIte, Nat.reduceEqDiff, bt_w_id]
      refine ab_gain_call ha hc hx hy ?_
      simp (disch := omega) only [bt_ild, bt_lld, bt_ald, bt_ist, bt_lst, bt_ast, bt_inc, bt_ic, bt_lc, bt_iadd, bt_isub, bt_imul, bt_iand, bt_ior, bt_ixor, bt_ishl, bt_ishr, bt_iushr, bt_ladd, bt_lsub, bt_lmul, bt_land, bt_lor, bt_lushr, bt_lshl, bt_idiv, bt_irem, bt_ldiv, bt_lrem, bt_lcmp, bt_i2l, bt_l2i, bt_i2b, bt_pop, bt_dup, bt_dup2, bt_gfI, bt_gfJ, bt_gfR, bt_pfI, bt_pfZ, bt_pfJ, bt_pfR, bt_ial, bt_bal, bt_zal, bt_lal, bt_aal, bt_ias, bt_bas, bt_zas, bt_las, bt_len, bt_iret, bt_zret, bt_lret, bt_vret, bt_cV, bt_cS, bt_tab, bt_tsw, bt_lk, bt_lsw, bt_acp, bt_mmax, bt_mmin, bt_can, bt_icmpeq, bt_ifeq, bt_icmpne, bt_ifne, bt_icmplt, bt_iflt, bt_icmpge, bt_ifge, bt_icmpgt, bt_ifgt, bt_icmple, bt_ifle, bt_ret, bt_kill, bt_kl, bt_ix, bt_nl, bt_sm, bt_sr, bt_sig, bt_tg, bt_loc, bt_locs, List.getElem?_cons_zero, List.getElem?_cons_succ, List.set_cons_zero, List.set_cons_succ, List.map_cons, List.map_nil, List.take_succ_cons, List.take_zero, List.drop_succ_cons, List.drop_zero, List.reverse_cons, List.reverse_nil, List.nil_append, List.cons_append, List.append_nil, List.length_cons, List.length_nil, List.replicate_succ, List.replicate_zero, Option.toList_some, Option.toList_none, Nat.reduceAdd, Nat.reduceSub, Nat.reduceLeDiff, Nat.zero_add, Nat.zero_le, true_and, and_true, Int.toNat_natCast, Sum.inl.injEq, Sum.inr.injEq, ↓reduceIte, Nat.reduceEqDiff, bt_w_id]
      by_cases q1 : ab_gain a c x y < ab_gain a c (i + 1) y
      · rw [if_pos (by omega)]
        have : ab_rs a c x y 6 = false := mono 6 (by omega) (by simp [ab_rs, q1])
        rw [this] at hQ
        exact ⟨by simp, hQ⟩
      · rw [if_neg (by omega)]
        refine ab_gain_call ha hc (by omega) hx ?_
        simp (disch := omega) only [bt_ild, bt_lld, bt_ald, bt_ist, bt_lst, bt_ast, bt_inc, bt_ic, bt_lc, bt_iadd, bt_isub, bt_imul, bt_iand, bt_ior, bt_ixor, bt_ishl, bt_ishr, bt_iushr, bt_ladd, bt_lsub, bt_lmul, bt_land, bt_lor, bt_lushr, bt_lshl, bt_idiv, bt_irem, bt_ldiv, bt_lrem, bt_lcmp, bt_i2l, bt_l2i, bt_i2b, bt_pop, bt_dup, bt_dup2, bt_gfI, bt_gfJ, bt_gfR, bt_pfI, bt_pfZ, bt_pfJ, bt_pfR, bt_ial, bt_bal, bt_zal, bt_lal, bt_aal, bt_ias, bt_bas, bt_zas, bt_las, bt_len, bt_iret, bt_zret, bt_lret, bt_vret, bt_cV, bt_cS, bt_tab, bt_tsw, bt_lk, bt_lsw, bt_acp, bt_mmax, bt_mmin, bt_can, bt_icmpeq, bt_ifeq, bt_icmpne, bt_ifne, bt_icmplt, bt_iflt, bt_icmpge, bt_ifge, bt_icmpgt, bt_ifgt, bt_icmple, bt_ifle, bt_ret, bt_kill, bt_kl, bt_ix, bt_nl, bt_sm, bt_sr, bt_sig, bt_tg, bt_loc, bt_locs, List.getElem?_cons_zero, List.getElem?_cons_succ, List.set_cons_zero, List.set_cons_succ, List.map_cons, List.map_nil, List.take_succ_cons, List.take_zero, List.drop_succ_cons, List.drop_zero, List.reverse_cons, List.reverse_nil, List.nil_append, List.cons_append, List.append_nil, List.length_cons, List.length_nil, List.replicate_succ, List.replicate_zero, Option.toList_some, Option.toList_none, Nat.reduceAdd, Nat.reduceSub, Nat.reduceLeDiff, Nat.zero_add, Nat.zero_le, true_and, and_true, Int.toNat_natCast, Sum.inl.injEq, Sum.inr.injEq, ↓reduceIte, Nat.reduceEqDiff, bt_w_id]
        refine ab_gain_call ha hc hy hx ?_
        simp (disch := omega) only [bt_ild, bt_lld, bt_ald, bt_ist, bt_lst, bt_ast, bt_inc, bt_ic, bt_lc, bt_iadd, bt_isub, bt_imul, bt_iand, bt_ior, bt_ixor, bt_ishl, bt_ishr, bt_iushr, bt_ladd, bt_lsub, bt_lmul, bt_land, bt_lor, bt_lushr, bt_lshl, bt_idiv, bt_irem, bt_ldiv, bt_lrem, bt_lcmp, bt_i2l, bt_l2i, bt_i2b, bt_pop, bt_dup, bt_dup2, bt_gfI, bt_gfJ, bt_gfR, bt_pfI, bt_pfZ, bt_pfJ, bt_pfR, bt_ial, bt_bal, bt_zal, bt_lal, bt_aal, bt_ias, bt_bas, bt_zas, bt_las, bt_len, bt_iret, bt_zret, bt_lret, bt_vret, bt_cV, bt_cS, bt_tab, bt_tsw, bt_lk, bt_lsw, bt_acp, bt_mmax, bt_mmin, bt_can, bt_icmpeq, bt_ifeq, bt_icmpne, bt_ifne, bt_icmplt, bt_iflt, bt_icmpge, bt_ifge, bt_icmpgt, bt_ifgt, bt_icmple, bt_ifle, bt_ret, bt_kill, bt_kl, bt_ix, bt_nl, bt_sm, bt_sr, bt_sig, bt_tg, bt_loc, bt_locs, List.getElem?_cons_zero, List.getElem?_cons_succ, List.set_cons_zero, List.set_cons_succ, List.map_cons, List.map_nil, List.take_succ_cons, List.take_zero, List.drop_succ_cons, List.drop_zero, List.reverse_cons, List.reverse_nil, List.nil_append, List.cons_append, List.append_nil, List.length_cons, List.length_nil, List.replicate_succ, List.replicate_zero, Option.toList_some, Option.toList_none, Nat.reduceAdd, Nat.reduceSub, Nat.reduceLeDiff, Nat.zero_add, Nat.zero_le, true_and, and_true, Int.toNat_natCast, Sum.inl.injEq, Sum.inr.injEq, ↓reduceIte, Nat.reduceEqDiff, bt_w_id]
        by_cases q2 : ab_gain a c y x < ab_gain a c (i + 1) x
        · rw [if_neg (by omega)]
          have : ab_rs a c x y 6 = false := mono 6 (by omega) (by simp [ab_rs, q2])
          rw [this] at hQ
          exact ⟨by simp, hQ⟩
        · rw [if_pos (by omega)]
          exact ⟨6 - (i + 1), by omega, i + 1, by omega, rfl, rfl, by simp [ab_rs, hr, q1, q2], fun _ => by simp [ab_rs, hr, q1, q2]⟩
