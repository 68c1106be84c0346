/-! Zoo: clear, plain laws, ways; Memory -/
def SpX9_within : bt_Sp := fun As w Q => tX9_within_0 bt_k0 Q [] (bt_loc 2 As) w
theorem mtX9_within : bt_Met yX9_within cX9_within 2 (some .int) 1 [0, 0] SpX9_within := lfX9_within (by decide)
/-- a number held between 0 and top -/
def ab_cl (v top : Int) : Int := if v < 0 then 0 else if top < v then top else v
theorem ab_cl_rg {v top : Int} (h : 0 ≤ top) : 0 ≤ ab_cl v top ∧ ab_cl v top ≤ top := by
  unfold ab_cl
  split
  · omega
  · split <;> omega
theorem ab_cl_call {v top : Int} (h1 : -2147483648 ≤ v) (h2 : v ≤ 2147483647) (h3 : 0 ≤ top) (h4 : top ≤ 2147483647) {w : bt_W} {Q : Option bt_V → bt_W → Prop} (h : Q (some (.inl (ab_cl v top))) w) : SpX9_within [.inl v, .inl top] w Q := by
  have e : bo_max 0 (bo_min top v) = ab_cl v top := by
    unfold bo_max bo_min ab_cl
    rw [bt_w_id h1 h2, bt_w_id (x := top) (by omega) (by omega), bt_w_id (x := 0) (by omega) (by omega)]
    by_cases q : v < top
    · rw [if_pos q, bt_w_id h1 h2]
      split <;> split <;> (try split) <;> omega
    · rw [if_neg q, bt_w_id (x := top) (by omega) (by omega)]
      split <;> split <;> (try split) <;> omega
  simp (disch := omega) only [SpX9_within, tX9_within_0, bt_ild, bt_lld, bt_ald, bt_ist, bt_lst, bt_ast, bt_inc, bt_ic, bt_lc, bt_iadd, bt_isub, bt_imul, bt_iand, bt_ior, bt_ixor, bt_ishl, bt_ishr, bt_iushr, bt_ladd, bt_lsub, bt_lmul, bt_land, bt_lor, bt_lushr, bt_lshl, bt_idiv, bt_irem, bt_ldiv, bt_lrem, bt_lcmp, bt_i2l, bt_l2i, bt_i2b, bt_pop, bt_dup, bt_dup2, bt_gfI, bt_gfJ, bt_gfR, bt_pfI, bt_pfZ, bt_pfJ, bt_pfR, bt_ial, bt_bal, bt_zal, bt_lal, bt_aal, bt_ias, bt_bas, bt_zas, bt_las, bt_len, bt_iret, bt_zret, bt_lret, bt_vret, bt_cV, bt_cS, bt_tab, bt_tsw, bt_lk, bt_lsw, bt_acp, bt_mmax, bt_mmin, bt_can, bt_icmpeq, bt_ifeq, bt_icmpne, bt_ifne, bt_icmplt, bt_iflt, bt_icmpge, bt_ifge, bt_icmpgt, bt_ifgt, bt_icmple, bt_ifle, bt_ret, bt_kill, bt_kl, bt_ix, bt_nl, bt_sm, bt_sr, bt_sig, bt_tg, bt_loc, bt_locs, List.getElem?_cons_zero, List.getElem?_cons_succ, List.set_cons_zero, List.set_cons_succ, List.map_cons, List.map_nil, List.take_succ_cons, List.take_zero, List.drop_succ_cons, List.drop_zero, List.reverse_cons, List.reverse_nil, List.nil_append, List.cons_append, List.append_nil, List.length_cons, List.length_nil, List.replicate_succ, List.replicate_zero, Option.toList_some, Option.toList_none, Nat.reduceAdd, Nat.reduceSub, Nat.reduceLeDiff, Nat.zero_add, Nat.zero_le, true_and, and_true, Int.toNat_natCast, Sum.inl.injEq, Sum.inr.injEq, ↓reduceIte, Nat.reduceEqDiff, e]
  exact h
/-- the laws of a zoo that tells none -/
def ab_pw (i : Nat) : Int := ab_cl (((i / 60 : Nat) : Int) * 5 + ((i / 6 % 10 : Nat) : Int) - ((i % 6 : Nat) : Int)) 99
def ab_pm (i : Nat) : Int := ab_cl (((i / 36 % 10 : Nat) : Int) - 1 + ((i % 6 : Nat) : Int) + ((i / 360 : Nat) : Int) * 2 - ((i / 6 % 6 : Nat) : Int)) 9
def SpX9_plainWorths : bt_Sp := fun As w Q => ∃ (ρ : Nat → Nat → Option Nat) (μ : Nat → Nat → Int) (z : Nat), As = [.inr (.inr z)] ∧ w = bt_wd ρ μ ∧ bt_Rf ρ ∧ z ∈ bt_zos ∧ ∀ μ', (∀ k, k < 120 → μ' (z + 9) k = ab_pw k) → bt_fr (fun a => a = z + 9) μ' μ → Q none (bt_wd ρ μ')
set_option maxHeartbeats 4000000 in
theorem mtX9_plainWorths : bt_Met yX9_plainWorths cX9_plainWorths 4 none 2 [2] SpX9_plainWorths := by
  refine lpX9_plainWorths mtX9_within (by decide) _ (fun As w Q _ hS => ?_)
  obtain ⟨ρ, μ, z, rfl, rfl, hρ, hz, hQ⟩ := hS
  obtain ⟨c1, c2, c3, c4, c5, c6, c7, c8, c9, c10, c11, c12, c13, c14, c15, c16, c17, c18, c19, c20, c21, c22, c23, c24, c25⟩ := bt_zo_f z hz
  refine ⟨fun h' m st L w => st = [] ∧ ∃ (i : Nat) (μ1 : Nat → Nat → Int), w = bt_wd ρ μ1 ∧ i ≤ 120 ∧ m = 120 - i ∧ L = [some (.inr (.inr z)), some (.inl (i : Int)), none, none] ∧ bt_fr (fun a => a = z + 9) μ1 μ ∧ ∀ k, k < i → μ1 (z + 9) k = ab_pw k, ?_, ?_⟩
  · simp (disch := omega) only [tX9_plainWorths_0, bt_ild, bt_lld, bt_ald, bt_ist, bt_lst, bt_ast, bt_inc, bt_ic, bt_lc, bt_iadd, bt_isub, bt_imul, bt_iand, bt_ior, bt_ixor, bt_ishl, bt_ishr, bt_iushr, bt_ladd, bt_lsub, bt_lmul, bt_land, bt_lor, bt_lushr, bt_lshl, bt_idiv, bt_irem, bt_ldiv, bt_lrem, bt_lcmp, bt_i2l, bt_l2i, bt_i2b, bt_pop, bt_dup, bt_dup2, bt_gfI, bt_gfJ, bt_gfR, bt_pfI, bt_pfZ, bt_pfJ, bt_pfR, bt_ial, bt_bal, bt_zal, bt_lal, bt_aal, bt_ias, bt_bas, bt_zas, bt_las, bt_len, bt_iret, bt_zret, bt_lret, bt_vret, bt_cV, bt_cS, bt_tab, bt_tsw, bt_lk, bt_lsw, bt_acp, bt_mmax, bt_mmin, bt_can, bt_icmpeq, bt_ifeq, bt_icmpne, bt_ifne, bt_icmplt, bt_iflt, bt_icmpge, bt_ifge, bt_icmpgt, bt_ifgt, bt_icmple, bt_ifle, bt_ret, bt_kill, bt_kl, bt_ix, bt_nl, bt_sm, bt_sr, bt_sig, bt_tg, bt_loc, bt_locs, List.getElem?_cons_zero, List.getElem?_cons_succ, List.set_cons_zero, List.set_cons_succ, List.map_cons, List.map_nil, List.take_succ_cons, List.take_zero, List.drop_succ_cons, List.drop_zero, List.reverse_cons, List.reverse_nil, List.nil_append, List.cons_append, List.append_nil, List.length_cons, List.length_nil, List.replicate_succ, List.replicate_zero, Option.toList_some, Option.toList_none, Nat.reduceAdd, Nat.reduceSub, Nat.reduceLeDiff, Nat.zero_add, Nat.zero_le, true_and, and_true, Int.toNat_natCast, Sum.inl.injEq, Sum.inr.injEq, ↓reduceIte, Nat.reduceEqDiff]
    exact ⟨120, 0, μ, rfl, by omega, by omega, rfl, fun _ _ => rfl, fun k hk => by omega⟩
  · rintro m st L w ⟨rfl, i, μ1, rfl, hi, rfl, rfl, hfr, hI⟩
    have d60 : bo_idiv (i : Int) 60 = ((i / 60 : Nat) : Int) := bo_idiv_nat (a := i) (d := 60) (by omega) (by omega) (by omega)
    have d6 : bo_idiv (i : Int) 6 = ((i / 6 : Nat) : Int) := bo_idiv_nat (a := i) (d := 6) (by omega) (by omega) (by omega)
    have r10 : bo_irem ((i / 6 : Nat) : Int) 10 = ((i / 6 % 10 : Nat) : Int) := bo_irem_nat (a := i / 6) (d := 10) (by omega) (by omega) (by omega)
    have r6 : bo_irem (i : Int) 6 = ((i % 6 : Nat) : Int) := bo_irem_nat (a := i) (d := 6) (by omega) (by omega) (by omega)
    simp (disch := omega) only [tX9_plainWorths_2, bt_ild, bt_lld, bt_ald, bt_ist, bt_lst, bt_ast, bt_inc, bt_ic, bt_lc, bt_iadd, bt_isub, bt_imul, bt_iand, bt_ior, bt_ixor, bt_ishl, bt_ishr, bt_iushr, bt_ladd, bt_lsub, bt_lmul, bt_land, bt_lor, bt_lushr, bt_lshl, bt_idiv, bt_irem, bt_ldiv, bt_lrem, bt_lcmp, bt_i2l, bt_l2i, bt_i2b, bt_pop, bt_dup, bt_dup2, bt_gfI, bt_gfJ, bt_gfR, bt_pfI, bt_pfZ, bt_pfJ, bt_pfR, bt_ial, bt_bal, bt_zal, bt_lal, bt_aal, bt_ias, bt_bas, bt_zas, bt_las, bt_len, bt_iret, bt_zret, bt_lret, bt_vret, bt_cV, bt_cS, bt_tab, bt_tsw, bt_lk, bt_lsw, bt_acp, bt_mmax, bt_mmin, bt_can, bt_icmpeq, bt_ifeq, bt_icmpne, bt_ifne, bt_icmplt, bt_iflt, bt_icmpge, bt_ifge, bt_icmpgt, bt_ifgt, bt_icmple, bt_ifle, bt_ret, bt_kill, bt_kl, bt_ix, bt_nl, bt_sm, bt_sr, bt_sig, bt_tg, bt_loc, bt_locs, List.getElem?_cons_zero, List.getElem?_cons_succ, List.set_cons_zero, List.set_cons_succ, List.map_cons, List.map_nil, List.take_succ_cons, List.take_zero, List.drop_succ_cons, List.drop_zero, List.reverse_cons, List.reverse_nil, List.nil_append, List.cons_append, List.append_nil, List.length_cons, List.length_nil, List.replicate_succ, List.replicate_zero, Option.toList_some, Option.toList_none, Nat.reduceAdd, Nat.reduceSub, Nat.reduceLeDiff, Nat.zero_add, Nat.zero_le, true_and, and_true, Int.toNat_natCast, Sum.inl.injEq, Sum.inr.injEq, ↓reduceIte, Nat.reduceEqDiff, hρ z _ c2, c3, c4, c5, c6, c7, c8, c9, c10, c11, c12, c13, c14, c15, c16, c17, c18, c19, c20, c21, c22, c23, c24, bt_w_id, d60, d6, r10, r6]
    repeat (refine And.intro (by omega) ?_)
    by_cases hc : 120 ≤ i
    · rw [if_pos (by omega)]
      exact hQ μ1 (fun k hk => hI k (by omega)) hfr
    · rw [if_neg (by omega)]
      refine ⟨by decide, by decide, by decide, by omega, by decide, ?_⟩
      refine ab_cl_call (by omega) (by omega) (by omega) (by omega) ?_
      simp (disch := omega) only [bt_ild, bt_lld, bt_ald, bt_ist, bt_lst, bt_ast, bt_inc, bt_ic, bt_lc, bt_iadd, bt_isub, bt_imul, bt_iand, bt_ior, bt_ixor, bt_ishl, bt_ishr, bt_iushr, bt_ladd, bt_lsub, bt_lmul, bt_land, bt_lor, bt_lushr, bt_lshl, bt_idiv, bt_irem, bt_ldiv, bt_lrem, bt_lcmp, bt_i2l, bt_l2i, bt_i2b, bt_pop, bt_dup, bt_dup2, bt_gfI, bt_gfJ, bt_gfR, bt_pfI, bt_pfZ, bt_pfJ, bt_pfR, bt_ial, bt_bal, bt_zal, bt_lal, bt_aal, bt_ias, bt_bas, bt_zas, bt_las, bt_len, bt_iret, bt_zret, bt_lret, bt_vret, bt_cV, bt_cS, bt_tab, bt_tsw, bt_lk, bt_lsw, bt_acp, bt_mmax, bt_mmin, bt_can, bt_icmpeq, bt_ifeq, bt_icmpne, bt_ifne, bt_icmplt, bt_iflt, bt_icmpge, bt_ifge, bt_icmpgt, bt_ifgt, bt_icmple, bt_ifle, bt_ret, bt_kill, bt_kl, bt_ix, bt_nl, bt_sm, bt_sr, bt_sig, bt_tg, bt_loc, bt_locs, List.getElem?_cons_zero, List.getElem?_cons_succ, List.set_cons_zero, List.set_cons_succ, List.map_cons, List.map_nil, List.take_succ_cons, List.take_zero, List.drop_succ_cons, List.drop_zero, List.reverse_cons, List.reverse_nil, List.nil_append, List.cons_append, List.append_nil, List.length_cons, List.length_nil, List.replicate_succ, List.replicate_zero, Option.toList_some, Option.toList_none, Nat.reduceAdd, Nat.reduceSub, Nat.reduceLeDiff, Nat.zero_add, Nat.zero_le, true_and, and_true, Int.toNat_natCast, Sum.inl.injEq, Sum.inr.injEq, ↓reduceIte, Nat.reduceEqDiff, hρ z _ c2, c3, c4, c5, c6, c7, c8, c9, c10, c11, c12, c13, c14, c15, c16, c17, c18, c19, c20, c21, c22, c23, c24, bt_w_id]
      repeat (refine And.intro (by omega) ?_)
      refine ⟨120 - (i + 1), by omega, i + 1, _, rfl, by omega, rfl, rfl, fun a ha => by rw [bt_up_cell ha]; exact hfr a ha, fun k hk => ?_⟩
      by_cases e : k = i
      · subst e; rw [bt_up_same]; rfl
      · rw [bt_up_ix e]; exact hI k (by omega)
def SpX9_plainMoods : bt_Sp := fun As w Q => ∃ (ρ : Nat → Nat → Option Nat) (μ : Nat → Nat → Int) (z : Nat), As = [.inr (.inr z)] ∧ w = bt_wd ρ μ ∧ bt_Rf ρ ∧ z ∈ bt_zos ∧ ∀ μ', (∀ k, k < 720 → μ' (z + 10) k = ab_pm k) → bt_fr (fun a => a = z + 10) μ' μ → Q none (bt_wd ρ μ')
set_option maxHeartbeats 4000000 in
theorem mtX9_plainMoods : bt_Met yX9_plainMoods cX9_plainMoods 6 none 2 [2] SpX9_plainMoods := by
  refine lpX9_plainMoods mtX9_within (by decide) _ (fun As w Q _ hS => ?_)
  obtain ⟨ρ, μ, z, rfl, rfl, hρ, hz, hQ⟩ := hS
  obtain ⟨c1, c2, c3, c4, c5, c6, c7, c8, c9, c10, c11, c12, c13, c14, c15, c16, c17, c18, c19, c20, c21, c22, c23, c24, c25⟩ := bt_zo_f z hz
  refine ⟨fun h' m st L w => st = [] ∧ ∃ (i : Nat) (μ1 : Nat → Nat → Int), w = bt_wd ρ μ1 ∧ i ≤ 720 ∧ m = 720 - i ∧ L = [some (.inr (.inr z)), some (.inl (i : Int)), none, none, none, none] ∧ bt_fr (fun a => a = z + 10) μ1 μ ∧ ∀ k, k < i → μ1 (z + 10) k = ab_pm k, ?_, ?_⟩
  · simp (disch := omega) only [tX9_plainMoods_0, bt_ild, bt_lld, bt_ald, bt_ist, bt_lst, bt_ast, bt_inc, bt_ic, bt_lc, bt_iadd, bt_isub, bt_imul, bt_iand, bt_ior, bt_ixor, bt_ishl, bt_ishr, bt_iushr, bt_ladd, bt_lsub, bt_lmul, bt_land, bt_lor, bt_lushr, bt_lshl, bt_idiv, bt_irem, bt_ldiv, bt_lrem, bt_lcmp, bt_i2l, bt_l2i, bt_i2b, bt_pop, bt_dup, bt_dup2, bt_gfI, bt_gfJ, bt_gfR, bt_pfI, bt_pfZ, bt_pfJ, bt_pfR, bt_ial, bt_bal, bt_zal, bt_lal, bt_aal, bt_ias, bt_bas, bt_zas, bt_las, bt_len, bt_iret, bt_zret, bt_lret, bt_vret, bt_cV, bt_cS, bt_tab, bt_tsw, bt_lk, bt_lsw, bt_acp, bt_mmax, bt_mmin, bt_can, bt_icmpeq, bt_ifeq, bt_icmpne, bt_ifne, bt_icmplt, bt_iflt, bt_icmpge, bt_ifge, bt_icmpgt, bt_ifgt, bt_icmple, bt_ifle, bt_ret, bt_kill, bt_kl, bt_ix, bt_nl, bt_sm, bt_sr, bt_sig, bt_tg, bt_loc, bt_locs, List.getElem?_cons_zero, List.getElem?_cons_succ, List.set_cons_zero, List.set_cons_succ, List.map_cons, List.map_nil, List.take_succ_cons, List.take_zero, List.drop_succ_cons, List.drop_zero, List.reverse_cons, List.reverse_nil, List.nil_append, List.cons_append, List.append_nil, List.length_cons, List.length_nil, List.replicate_succ, List.replicate_zero, Option.toList_some, Option.toList_none, Nat.reduceAdd, Nat.reduceSub, Nat.reduceLeDiff, Nat.zero_add, Nat.zero_le, true_and, and_true, Int.toNat_natCast, Sum.inl.injEq, Sum.inr.injEq, ↓reduceIte, Nat.reduceEqDiff]
    exact ⟨720, 0, μ, rfl, by omega, by omega, rfl, fun _ _ => rfl, fun k hk => by omega⟩
  · rintro m st L w ⟨rfl, i, μ1, rfl, hi, rfl, rfl, hfr, hI⟩
    have d360 : bo_idiv (i : Int) 360 = ((i / 360 : Nat) : Int) := bo_idiv_nat (a := i) (d := 360) (by omega) (by omega) (by omega)
    have d36 : bo_idiv (i : Int) 36 = ((i / 36 : Nat) : Int) := bo_idiv_nat (a := i) (d := 36) (by omega) (by omega) (by omega)
    have d6 : bo_idiv (i : Int) 6 = ((i / 6 : Nat) : Int) := bo_idiv_nat (a := i) (d := 6) (by omega) (by omega) (by omega)
    have r10 : bo_irem ((i / 36 : Nat) : Int) 10 = ((i / 36 % 10 : Nat) : Int) := bo_irem_nat (a := i / 36) (d := 10) (by omega) (by omega) (by omega)
    have r66 : bo_irem ((i / 6 : Nat) : Int) 6 = ((i / 6 % 6 : Nat) : Int) := bo_irem_nat (a := i / 6) (d := 6) (by omega) (by omega) (by omega)
    have r6 : bo_irem (i : Int) 6 = ((i % 6 : Nat) : Int) := bo_irem_nat (a := i) (d := 6) (by omega) (by omega) (by omega)
    simp (disch := omega) only [tX9_plainMoods_2, bt_ild, bt_lld, bt_ald, bt_ist, bt_lst, bt_ast, bt_inc, bt_ic, bt_lc, bt_iadd, bt_isub, bt_imul, bt_iand, bt_ior, bt_ixor, bt_ishl, bt_ishr, bt_iushr, bt_ladd, bt_lsub, bt_lmul, bt_land, bt_lor, bt_lushr, bt_lshl, bt_idiv, bt_irem, bt_ldiv, bt_lrem, bt_lcmp, bt_i2l, bt_l2i, bt_i2b, bt_pop, bt_dup, bt_dup2, bt_gfI, bt_gfJ, bt_gfR, bt_pfI, bt_pfZ, bt_pfJ, bt_pfR, bt_ial, bt_bal, bt_zal, bt_lal, bt_aal, bt_ias, bt_bas, bt_zas, bt_las, bt_len, bt_iret, bt_zret, bt_lret, bt_vret, bt_cV, bt_cS, bt_tab, bt_tsw, bt_lk, bt_lsw, bt_acp, bt_mmax, bt_mmin, bt_can, bt_icmpeq, bt_ifeq, bt_icmpne, bt_ifne, bt_icmplt, bt_iflt, bt_icmpge, bt_ifge, bt_icmpgt, bt_ifgt, bt_icmple, bt_ifle, bt_ret, bt_kill, bt_kl, bt_ix, bt_nl, bt_sm, bt_sr, bt_sig, bt_tg, bt_loc, bt_locs, List.getElem?_cons_zero, List.getElem?_cons_succ, List.set_cons_zero, List.set_cons_succ, List.map_cons, List.map_nil, List.take_succ_cons, List.take_zero, List.drop_succ_cons, List.drop_zero, List.reverse_cons, List.reverse_nil, List.nil_append, List.cons_append, List.append_nil, List.length_cons, List.length_nil, List.replicate_succ, List.replicate_zero, Option.toList_some, Option.toList_none, Nat.reduceAdd, Nat.reduceSub, Nat.reduceLeDiff, Nat.zero_add, Nat.zero_le, true_and, and_true, Int.toNat_natCast, Sum.inl.injEq, Sum.inr.injEq, ↓reduceIte, Nat.reduceEqDiff, hρ z _ c2, c3, c4, c5, c6, c7, c8, c9, c10, c11, c12, c13, c14, c15, c16, c17, c18, c19, c20, c21, c22, c23, c24, bt_w_id, d360, d36, d6, r10, r6, r66]
    repeat (refine And.intro (by omega) ?_)
    by_cases hc : 720 ≤ i
    · rw [if_pos (by omega)]
      exact hQ μ1 (fun k hk => hI k (by omega)) hfr
    · rw [if_neg (by omega)]
      refine ⟨by decide, by decide, by decide, by decide, by decide, by decide, by omega, ?_⟩
      refine ab_cl_call (by omega) (by omega) (by omega) (by omega) ?_
      simp (disch := omega) only [bt_ild, bt_lld, bt_ald, bt_ist, bt_lst, bt_ast, bt_inc, bt_ic, bt_lc, bt_iadd, bt_isub, bt_imul, bt_iand, bt_ior, bt_ixor, bt_ishl, bt_ishr, bt_iushr, bt_ladd, bt_lsub, bt_lmul, bt_land, bt_lor, bt_lushr, bt_lshl, bt_idiv, bt_irem, bt_ldiv, bt_lrem, bt_lcmp, bt_i2l, bt_l2i, bt_i2b, bt_pop, bt_dup, bt_dup2, bt_gfI, bt_gfJ, bt_gfR, bt_pfI, bt_pfZ, bt_pfJ, bt_pfR, bt_ial, bt_bal, bt_zal, bt_lal, bt_aal, bt_ias, bt_bas, bt_zas, bt_las, bt_len, bt_iret, bt_zret, bt_lret, bt_vret, bt_cV, bt_cS, bt_tab, bt_tsw, bt_lk, bt_lsw, bt_acp, bt_mmax, bt_mmin, bt_can, bt_icmpeq, bt_ifeq, bt_icmpne, bt_ifne, bt_icmplt, bt_iflt, bt_icmpge, bt_ifge, bt_icmpgt, bt_ifgt, bt_icmple, bt_ifle, bt_ret, bt_kill, bt_kl, bt_ix, bt_nl, bt_sm, bt_sr, bt_sig, bt_tg, bt_loc, bt_locs, List.getElem?_cons_zero, List.getElem?_cons_succ, List.set_cons_zero, List.set_cons_succ, List.map_cons, List.map_nil, List.take_succ_cons, List.take_zero, List.drop_succ_cons, List.drop_zero, List.reverse_cons, List.reverse_nil, List.nil_append, List.cons_append, List.append_nil, List.length_cons, List.length_nil, List.replicate_succ, List.replicate_zero, Option.toList_some, Option.toList_none, Nat.reduceAdd, Nat.reduceSub, Nat.reduceLeDiff, Nat.zero_add, Nat.zero_le, true_and, and_true, Int.toNat_natCast, Sum.inl.injEq, Sum.inr.injEq, ↓reduceIte, Nat.reduceEqDiff, hρ z _ c2, c3, c4, c5, c6, c7, c8, c9, c10, c11, c12, c13, c14, c15, c16, c17, c18, c19, c20, c21, c22, c23, c24, bt_w_id]
      repeat (refine And.intro (by omega) ?_)
      refine ⟨720 - (i + 1), by omega, i + 1, _, rfl, by omega, rfl, rfl, fun a ha => by rw [bt_up_cell ha]; exact hfr a ha, fun k hk => ?_⟩
      by_cases e : k = i
      · subst e; rw [bt_up_same]; rfl
      · rw [bt_up_ix e]; exact hI k (by omega)
def SpX9_clear : bt_Sp := fun As w Q => ∃ (ρ : Nat → Nat → Option Nat) (μ : Nat → Nat → Int) (z : Nat), As = [.inr (.inr z)] ∧ w = bt_wd ρ μ ∧ bt_Rf ρ ∧ z ∈ bt_zos ∧ ∀ μ', (μ' z 0 = 0 ∧ μ' z 1 = 0 ∧ μ' z 2 = 0 ∧ μ' z 3 = 0 ∧ μ' z 4 = 3 ∧ μ' z 5 = 3 ∧ μ' z 6 = 5 ∧ μ' z 7 = 0 ∧ μ' z 8 = 0) → (∀ k, k < 36 → μ' (z + 8) k = 1000) → (∀ k, k < 6 → μ' (z + 7) k = 0) → bt_fr (fun a => a = z ∨ a = z + 7 ∨ a = z + 8) μ' μ → Q none (bt_wd ρ μ')
set_option maxHeartbeats 4000000 in
theorem mtX9_clear : bt_Met yX9_clear cX9_clear 2 none 1 [2] SpX9_clear := by
  refine lpX9_clear _ (fun As w Q _ hS => ?_)
  obtain ⟨ρ, μ, z, rfl, rfl, hρ, hz, hQ⟩ := hS
  obtain ⟨c1, c2, c3, c4, c5, c6, c7, c8, c9, c10, c11, c12, c13, c14, c15, c16, c17, c18, c19, c20, c21, c22, c23, c24, c25⟩ := bt_zo_f z hz
  refine ⟨fun h' m st L w => st = [] ∧ ∃ (i : Nat) (μ1 : Nat → Nat → Int), w = bt_wd ρ μ1 ∧ L = [some (.inr (.inr z)), some (.inl (i : Int))] ∧ bt_fr (fun a => a = z ∨ a = z + 7 ∨ a = z + 8) μ1 μ ∧ (μ1 z 0 = 0 ∧ μ1 z 1 = 0 ∧ μ1 z 2 = 0 ∧ μ1 z 3 = 0 ∧ μ1 z 4 = 3 ∧ μ1 z 5 = 3 ∧ μ1 z 6 = 5 ∧ μ1 z 7 = 0 ∧ μ1 z 8 = 0) ∧
    (if h' = 47 then i ≤ 36 ∧ m = 100 - i ∧ ∀ k, k < i → μ1 (z + 8) k = 1000 else i ≤ 6 ∧ m = 50 - i ∧ (∀ k, k < 36 → μ1 (z + 8) k = 1000) ∧ ∀ k, k < i → μ1 (z + 7) k = 0), ?_, ?_, ?_⟩
  · simp (disch := omega) only [tX9_clear_0, bt_ild, bt_lld, bt_ald, bt_ist, bt_lst, bt_ast, bt_inc, bt_ic, bt_lc, bt_iadd, bt_isub, bt_imul, bt_iand, bt_ior, bt_ixor, bt_ishl, bt_ishr, bt_iushr, bt_ladd, bt_lsub, bt_lmul, bt_land, bt_lor, bt_lushr, bt_lshl, bt_idiv, bt_irem, bt_ldiv, bt_lrem, bt_lcmp, bt_i2l, bt_l2i, bt_i2b, bt_pop, bt_dup, bt_dup2, bt_gfI, bt_gfJ, bt_gfR, bt_pfI, bt_pfZ, bt_pfJ, bt_pfR, bt_ial, bt_bal, bt_zal, bt_lal, bt_aal, bt_ias, bt_bas, bt_zas, bt_las, bt_len, bt_iret, bt_zret, bt_lret, bt_vret, bt_cV, bt_cS, bt_tab, bt_tsw, bt_lk, bt_lsw, bt_acp, bt_mmax, bt_mmin, bt_can, bt_icmpeq, bt_ifeq, bt_icmpne, bt_ifne, bt_icmplt, bt_iflt, bt_icmpge, bt_ifge, bt_icmpgt, bt_ifgt, bt_icmple, bt_ifle, bt_ret, bt_kill, bt_kl, bt_ix, bt_nl, bt_sm, bt_sr, bt_sig, bt_tg, bt_loc, bt_locs, List.getElem?_cons_zero, List.getElem?_cons_succ, List.set_cons_zero, List.set_cons_succ, List.map_cons, List.map_nil, List.take_succ_cons, List.take_zero, List.drop_succ_cons, List.drop_zero, List.reverse_cons, List.reverse_nil, List.nil_append, List.cons_append, List.append_nil, List.length_cons, List.length_nil, List.replicate_succ, List.replicate_zero, Option.toList_some, Option.toList_none, Nat.reduceAdd, Nat.reduceSub, Nat.reduceLeDiff, Nat.zero_add, Nat.zero_le, true_and, and_true, Int.toNat_natCast, Sum.inl.injEq, Sum.inr.injEq, ↓reduceIte, Nat.reduceEqDiff, hρ z _ c2, c3, c4, c5, c6, c7, c8, c9, c10, c11, c12, c13, c14, c15, c16, c17, c18, c19, c20, c21, c22, c23, c24]
    repeat (refine And.intro (by omega) ?_)
    refine ⟨100, 0, _, rfl, rfl, fun a ha => ?_, ?_, by omega, by omega, fun k hk => by omega⟩
    · simp only [not_or] at ha
      simp only [bt_up_cell ha.1]
    · simp [bt_up]
  · rintro m st L w ⟨rfl, i, μ1, rfl, rfl, hfr, hx, hI⟩
    simp only [↓reduceIte] at hI
    obtain ⟨hi, rfl, hI⟩ := hI
    simp (disch := omega) only [tX9_clear_47, bt_ild, bt_lld, bt_ald, bt_ist, bt_lst, bt_ast, bt_inc, bt_ic, bt_lc, bt_iadd, bt_isub, bt_imul, bt_iand, bt_ior, bt_ixor, bt_ishl, bt_ishr, bt_iushr, bt_ladd, bt_lsub, bt_lmul, bt_land, bt_lor, bt_lushr, bt_lshl, bt_idiv, bt_irem, bt_ldiv, bt_lrem, bt_lcmp, bt_i2l, bt_l2i, bt_i2b, bt_pop, bt_dup, bt_dup2, bt_gfI, bt_gfJ, bt_gfR, bt_pfI, bt_pfZ, bt_pfJ, bt_pfR, bt_ial, bt_bal, bt_zal, bt_lal, bt_aal, bt_ias, bt_bas, bt_zas, bt_las, bt_len, bt_iret, bt_zret, bt_lret, bt_vret, bt_cV, bt_cS, bt_tab, bt_tsw, bt_lk, bt_lsw, bt_acp, bt_mmax, bt_mmin, bt_can, bt_icmpeq, bt_ifeq, bt_icmpne, bt_ifne, bt_icmplt, bt_iflt, bt_icmpge, bt_ifge, bt_icmpgt, bt_ifgt, bt_icmple, bt_ifle, bt_ret, bt_kill, bt_kl, bt_ix, bt_nl, bt_sm, bt_sr, bt_sig, bt_tg, bt_loc, bt_locs, List.getElem?_cons_zero, List.getElem?_cons_succ, List.set_cons_zero, List.set_cons_succ, List.map_cons, List.map_nil, List.take_succ_cons, List.take_zero, List.drop_succ_cons, List.drop_zero, List.reverse_cons, List.reverse_nil, List.nil_append, List.cons_append, List.append_nil, List.length_cons, List.length_nil, List.replicate_succ, List.replicate_zero, Option.toList_some, Option.toList_none, Nat.reduceAdd, Nat.reduceSub, Nat.reduceLeDiff, Nat.zero_add, Nat.zero_le, true_and, and_true, Int.toNat_natCast, Sum.inl.injEq, Sum.inr.injEq, ↓reduceIte, Nat.reduceEqDiff, hρ z _ c2, c3, c4, c5, c6, c7, c8, c9, c10, c11, c12, c13, c14, c15, c16, c17, c18, c19, c20, c21, c22, c23, c24, bt_w_id]
    by_cases hc : 36 ≤ i
    · rw [if_pos (by omega)]
      exact ⟨50, by omega, 0, μ1, rfl, rfl, hfr, hx, by omega, by omega, fun k hk => hI k (by omega), fun k hk => by omega⟩
    · rw [if_neg (by omega)]
      repeat (refine And.intro (by omega) ?_)
      refine ⟨100 - (i + 1), by omega, i + 1, _, rfl, rfl, fun a ha => by rw [bt_up_cell (by omega)]; exact hfr a ha, ?_, by omega, rfl, fun k hk => ?_⟩
      · rw [bt_up_cell (by omega)]; exact hx
      · by_cases e : k = i
        · subst e; rw [bt_up_same]
        · rw [bt_up_ix e]; exact hI k (by omega)
  · rintro m st L w ⟨rfl, i, μ1, rfl, rfl, hfr, hx, hI⟩
    simp only [↓reduceIte, Nat.reduceEqDiff] at hI
    obtain ⟨hi, rfl, h8, hI⟩ := hI
    simp (disch := omega) only [tX9_clear_70, bt_ild, bt_lld, bt_ald, bt_ist, bt_lst, bt_ast, bt_inc, bt_ic, bt_lc, bt_iadd, bt_isub, bt_imul, bt_iand, bt_ior, bt_ixor, bt_ishl, bt_ishr, bt_iushr, bt_ladd, bt_lsub, bt_lmul, bt_land, bt_lor, bt_lushr, bt_lshl, bt_idiv, bt_irem, bt_ldiv, bt_lrem, bt_lcmp, bt_i2l, bt_l2i, bt_i2b, bt_pop, bt_dup, bt_dup2, bt_gfI, bt_gfJ, bt_gfR, bt_pfI, bt_pfZ, bt_pfJ, bt_pfR, bt_ial, bt_bal, bt_zal, bt_lal, bt_aal, bt_ias, bt_bas, bt_zas, bt_las, bt_len, bt_iret, bt_zret, bt_lret, bt_vret, bt_cV, bt_cS, bt_tab, bt_tsw, bt_lk, bt_lsw, bt_acp, bt_mmax, bt_mmin, bt_can, bt_icmpeq, bt_ifeq, bt_icmpne, bt_ifne, bt_icmplt, bt_iflt, bt_icmpge, bt_ifge, bt_icmpgt, bt_ifgt, bt_icmple, bt_ifle, bt_ret, bt_kill, bt_kl, bt_ix, bt_nl, bt_sm, bt_sr, bt_sig, bt_tg, bt_loc, bt_locs, List.getElem?_cons_zero, List.getElem?_cons_succ, List.set_cons_zero, List.set_cons_succ, List.map_cons, List.map_nil, List.take_succ_cons, List.take_zero, List.drop_succ_cons, List.drop_zero, List.reverse_cons, List.reverse_nil, List.nil_append, List.cons_append, List.append_nil, List.length_cons, List.length_nil, List.replicate_succ, List.replicate_zero, Option.toList_some, Option.toList_none, Nat.reduceAdd, Nat.reduceSub, Nat.reduceLeDiff, Nat.zero_add, Nat.zero_le, true_and, and_true, Int.toNat_natCast, Sum.inl.injEq, Sum.inr.injEq, ↓reduceIte, Nat.reduceEqDiff, hρ z _ c2, c3, c4, c5, c6, c7, c8, c9, c10, c11, c12, c13, c14, c15, c16, c17, c18, c19, c20, c21, c22, c23, c24, bt_w_id]
    by_cases hc : 6 ≤ i
    · rw [if_pos (by omega)]
      exact hQ μ1 hx h8 (fun k hk => hI k (by omega)) hfr
    · rw [if_neg (by omega)]
      repeat (refine And.intro (by omega) ?_)
      refine ⟨50 - (i + 1), by omega, i + 1, _, rfl, rfl, fun a ha => by rw [bt_up_cell (by omega)]; exact hfr a ha, ?_, by omega, rfl, fun k hk => ?_, fun k hk => ?_⟩
      · rw [bt_up_cell (by omega)]; exact hx
      · rw [bt_up_cell (by omega)]; exact h8 k hk
      · by_cases e : k = i
        · subst e; rw [bt_up_same]
        · rw [bt_up_ix e]; exact hI k (by omega)
