/-! Zoo: the laws as tables -/
def fo_sf (i : Nat) : Nat → Int := fun k => if k = 0 then ((i / 60 : Nat) : Int) else if k = 1 then ((i / 6 % 10 : Nat) : Int) else if k = 2 then ((i % 6 : Nat) : Int) else 0
def fo_mf (i : Nat) : Nat → Int := fun k => if k = 1 then ((i / 36 % 10 : Nat) : Int) else if k = 2 then ((i / 6 % 6 : Nat) : Int) else if k = 3 then ((i % 6 : Nat) : Int) else if k = 4 then ((i / 360 : Nat) : Int) else 0
def SpX9_lawOfSees : bt_Sp := fun As w Q => ∃ (ρ : Nat → Nat → Option Nat) (μ : Nat → Nat → Int) (z s : Nat) (V : fo_V), As = [.inr (.inr z), .inr (.inr 6)] ∧ w = bt_wd ρ μ ∧ bt_Rf ρ ∧ z ∈ bt_zos ∧ μ 6 4 = (s : Int) ∧ s ≤ 1000 ∧ fo_Em (μ 8) 0 s 0 V ∧ (∀ F F', (∀ k, k < 3 → F k = F' k) → V F = V F') ∧ ∀ μ', (∀ i, i < 120 → μ' (z + 9) i = ab_cl (bt_w (V (fo_sf i))) 99) → (∀ i, 120 ≤ i → μ' (z + 9) i = μ (z + 9) i) → bt_fr (fun a => a = 7 ∨ a = 9 ∨ a = z + 9) μ' μ → Q none (bt_wd ρ μ')
set_option maxHeartbeats 4000000 in
theorem mtX9_lawOfSees : bt_Met yX9_lawOfSees cX9_lawOfSees 3 none 3 [2, 2] SpX9_lawOfSees := by
  refine lpX9_lawOfSees mtX0_value (by decide) mtX9_within (by decide) _ (fun As w Q _ hS => ?_)
  obtain ⟨ρ, μ, z, s, V, rfl, rfl, hρ, hz, hs, hs2, hE, hV, hQ⟩ := hS
  obtain ⟨c1, c2, c3, c4, c5, c6, c7, c8, c9, c10, c11, c12, c13, c14, c15, c16, c17, c18, c19, c20, c21, c22, c23, c24, c25⟩ := bt_zo_f z hz
  have hzz := bt_zo2 z hz
  refine ⟨fun h' m st L w => st = [] ∧ ∃ (i : Nat) (μ1 : Nat → Nat → Int), w = bt_wd ρ μ1 ∧ i ≤ 120 ∧ m = 120 - i ∧ L = [some (.inr (.inr z)), some (.inr (.inr 6)), some (.inl (i : Int))] ∧ bt_fr (fun a => a = 7 ∨ a = 9 ∨ a = z + 9) μ1 μ ∧ (∀ k, k < i → μ1 (z + 9) k = ab_cl (bt_w (V (fo_sf k))) 99) ∧ ∀ k, 120 ≤ k → μ1 (z + 9) k = μ (z + 9) k, ?_, ?_⟩
  · simp (disch := omega) only [tX9_lawOfSees_0, bt_ild, bt_lld, bt_ald, bt_ist, bt_lst, bt_ast, bt_inc, bt_ic, bt_lc, bt_iadd, bt_isub, bt_imul, bt_iand, bt_ior, bt_ixor, bt_ishl, bt_ishr, bt_iushr, bt_ladd, bt_lsub, bt_lmul, bt_land, bt_lor, bt_lushr, bt_lshl, bt_idiv, bt_irem, bt_ldiv, bt_lrem, bt_lcmp, bt_i2l, bt_l2i, bt_i2b, bt_pop, bt_dup, bt_dup2, bt_gfI, bt_gfJ, bt_gfR, bt_pfI, bt_pfZ, bt_pfJ, bt_pfR, bt_ial, bt_bal, bt_zal, bt_lal, bt_aal, bt_ias, bt_bas, bt_zas, bt_las, bt_len, bt_iret, bt_zret, bt_lret, bt_vret, bt_cV, bt_cS, bt_tab, bt_tsw, bt_lk, bt_lsw, bt_acp, bt_mmax, bt_mmin, bt_can, bt_icmpeq, bt_ifeq, bt_icmpne, bt_ifne, bt_icmplt, bt_iflt, bt_icmpge, bt_ifge, bt_icmpgt, bt_ifgt, bt_icmple, bt_ifle, bt_ret, bt_kill, bt_kl, bt_ix, bt_nl, bt_sm, bt_sr, bt_sig, bt_tg, bt_loc, bt_locs, List.getElem?_cons_zero, List.getElem?_cons_succ, List.set_cons_zero, List.set_cons_succ, List.map_cons, List.map_nil, List.take_succ_cons, List.take_zero, List.drop_succ_cons, List.drop_zero, List.reverse_cons, List.reverse_nil, List.nil_append, List.cons_append, List.append_nil, List.length_cons, List.length_nil, List.replicate_succ, List.replicate_zero, Option.toList_some, Option.toList_none, Nat.reduceAdd, Nat.reduceSub, Nat.reduceLeDiff, Nat.zero_add, Nat.zero_le, true_and, and_true, Int.toNat_natCast, Sum.inl.injEq, Sum.inr.injEq, ↓reduceIte, Nat.reduceEqDiff]
    exact ⟨120, 0, μ, rfl, by omega, by omega, rfl, fun _ _ => rfl, fun k hk => by omega, fun _ _ => rfl⟩
  · rintro m st L w ⟨rfl, i, μ1, rfl, hi, rfl, rfl, hfr, hI, hJ⟩
    have d60 : bo_idiv (i : Int) 60 = ((i / 60 : Nat) : Int) := bo_idiv_nat (a := i) (d := 60) (by omega) (by omega) (by omega)
    have d6 : bo_idiv (i : Int) 6 = ((i / 6 : Nat) : Int) := bo_idiv_nat (a := i) (d := 6) (by omega) (by omega) (by omega)
    have r10 : bo_irem ((i / 6 : Nat) : Int) 10 = ((i / 6 % 10 : Nat) : Int) := bo_irem_nat (a := i / 6) (d := 10) (by omega) (by omega) (by omega)
    have r6 : bo_irem (i : Int) 6 = ((i % 6 : Nat) : Int) := bo_irem_nat (a := i) (d := 6) (by omega) (by omega) (by omega)
    simp (disch := omega) only [tX9_lawOfSees_2, bt_ild, bt_lld, bt_ald, bt_ist, bt_lst, bt_ast, bt_inc, bt_ic, bt_lc, bt_iadd, bt_isub, bt_imul, bt_iand, bt_ior, bt_ixor, bt_ishl, bt_ishr, bt_iushr, bt_ladd, bt_lsub, bt_lmul, bt_land, bt_lor, bt_lushr, bt_lshl, bt_idiv, bt_irem, bt_ldiv, bt_lrem, bt_lcmp, bt_i2l, bt_l2i, bt_i2b, bt_pop, bt_dup, bt_dup2, bt_gfI, bt_gfJ, bt_gfR, bt_pfI, bt_pfZ, bt_pfJ, bt_pfR, bt_ial, bt_bal, bt_zal, bt_lal, bt_aal, bt_ias, bt_bas, bt_zas, bt_las, bt_len, bt_iret, bt_zret, bt_lret, bt_vret, bt_cV, bt_cS, bt_tab, bt_tsw, bt_lk, bt_lsw, bt_acp, bt_mmax, bt_mmin, bt_can, bt_icmpeq, bt_ifeq, bt_icmpne, bt_ifne, bt_icmplt, bt_iflt, bt_icmpge, bt_ifge, bt_icmpgt, bt_ifgt, bt_icmple, bt_ifle, bt_ret, bt_kill, bt_kl, bt_ix, bt_nl, bt_sm, bt_sr, bt_sig, bt_tg, bt_loc, bt_locs, List.getElem?_cons_zero, List.getElem?_cons_succ, List.set_cons_zero, List.set_cons_succ, List.map_cons, List.map_nil, List.take_succ_cons, List.take_zero, List.drop_succ_cons, List.drop_zero, List.reverse_cons, List.reverse_nil, List.nil_append, List.cons_append, List.append_nil, List.length_cons, List.length_nil, List.replicate_succ, List.replicate_zero, Option.toList_some, Option.toList_none, Nat.reduceAdd, Nat.reduceSub, Nat.reduceLeDiff, Nat.zero_add, Nat.zero_le, true_and, and_true, Int.toNat_natCast, Sum.inl.injEq, Sum.inr.injEq, ↓reduceIte, Nat.reduceEqDiff, hρ z _ c2, c3, c4, c5, c6, c7, c8, c9, c10, c11, c12, c13, c14, c15, c16, c17, c18, c19, c20, c21, c22, c23, c24, sh_6, sh_7, hρ 6 _ (by decide), rf_6_1, bt_w_id, d60, d6, r10, r6]
    repeat (refine And.intro (by omega) ?_)
    by_cases hc : 120 ≤ i
    · rw [if_pos (by omega)]
      exact hQ μ1 (fun k hk => hI k (by omega)) hJ hfr
    · rw [if_neg (by omega)]
      repeat (refine And.intro (by first | decide | omega) ?_)
      have c6 : ∀ a b c, bt_up (bt_up (bt_up μ1 7 (Int.toNat 0) a) 7 (Int.toNat 1) b) 7 (Int.toNat 2) c 6 = μ 6 := fun a b c => by rw [bt_up_cell (by decide), bt_up_cell (by decide), bt_up_cell (by decide)]; exact hfr 6 (by omega)
      have c8 : ∀ a b c, bt_up (bt_up (bt_up μ1 7 (Int.toNat 0) a) 7 (Int.toNat 1) b) 7 (Int.toNat 2) c 8 = μ 8 := fun a b c => by rw [bt_up_cell (by decide), bt_up_cell (by decide), bt_up_cell (by decide)]; exact hfr 8 (by omega)
      refine ⟨ρ, _, s, V, rfl, rfl, hρ, by rw [c6]; exact hs, hs2, by rw [c8]; exact hE, fun μ2 hf2 => ?_⟩
      have hv : V (bt_up (bt_up (bt_up μ1 7 (Int.toNat 0) ((i / 60 : Nat) : Int)) 7 (Int.toNat 1) ((i / 6 % 10 : Nat) : Int)) 7 (Int.toNat 2) ((i % 6 : Nat) : Int) 7) = V (fo_sf i) := hV _ _ (fun k hk => by
        have e0 : Int.toNat 0 = 0 := rfl
        have e1 : Int.toNat 1 = 1 := rfl
        have e2 : Int.toNat 2 = 2 := rfl
        rw [e0, e1, e2]
        unfold fo_sf
        have : k = 0 ∨ k = 1 ∨ k = 2 := by omega
        rcases this with rfl | rfl | rfl <;> simp [bt_up])
      have hrg := bt_w_rg (V (fo_sf i))
      simp (disch := omega) only [bt_ild, bt_lld, bt_ald, bt_ist, bt_lst, bt_ast, bt_inc, bt_ic, bt_lc, bt_iadd, bt_isub, bt_imul, bt_iand, bt_ior, bt_ixor, bt_ishl, bt_ishr, bt_iushr, bt_ladd, bt_lsub, bt_lmul, bt_land, bt_lor, bt_lushr, bt_lshl, bt_idiv, bt_irem, bt_ldiv, bt_lrem, bt_lcmp, bt_i2l, bt_l2i, bt_i2b, bt_pop, bt_dup, bt_dup2, bt_gfI, bt_gfJ, bt_gfR, bt_pfI, bt_pfZ, bt_pfJ, bt_pfR, bt_ial, bt_bal, bt_zal, bt_lal, bt_aal, bt_ias, bt_bas, bt_zas, bt_las, bt_len, bt_iret, bt_zret, bt_lret, bt_vret, bt_cV, bt_cS, bt_tab, bt_tsw, bt_lk, bt_lsw, bt_acp, bt_mmax, bt_mmin, bt_can, bt_icmpeq, bt_ifeq, bt_icmpne, bt_ifne, bt_icmplt, bt_iflt, bt_icmpge, bt_ifge, bt_icmpgt, bt_ifgt, bt_icmple, bt_ifle, bt_ret, bt_kill, bt_kl, bt_ix, bt_nl, bt_sm, bt_sr, bt_sig, bt_tg, bt_loc, bt_locs, List.getElem?_cons_zero, List.getElem?_cons_succ, List.set_cons_zero, List.set_cons_succ, List.map_cons, List.map_nil, List.take_succ_cons, List.take_zero, List.drop_succ_cons, List.drop_zero, List.reverse_cons, List.reverse_nil, List.nil_append, List.cons_append, List.append_nil, List.length_cons, List.length_nil, List.replicate_succ, List.replicate_zero, Option.toList_some, Option.toList_none, Nat.reduceAdd, Nat.reduceSub, Nat.reduceLeDiff, Nat.zero_add, Nat.zero_le, true_and, and_true, Int.toNat_natCast, Sum.inl.injEq, Sum.inr.injEq, ↓reduceIte, Nat.reduceEqDiff, hv]
      repeat (refine And.intro (by omega) ?_)
      refine ab_cl_call (by omega) (by omega) (by omega) (by omega) ?_
      simp (disch := omega) only [bt_ild, bt_lld, bt_ald, bt_ist, bt_lst, bt_ast, bt_inc, bt_ic, bt_lc, bt_iadd, bt_isub, bt_imul, bt_iand, bt_ior, bt_ixor, bt_ishl, bt_ishr, bt_iushr, bt_ladd, bt_lsub, bt_lmul, bt_land, bt_lor, bt_lushr, bt_lshl, bt_idiv, bt_irem, bt_ldiv, bt_lrem, bt_lcmp, bt_i2l, bt_l2i, bt_i2b, bt_pop, bt_dup, bt_dup2, bt_gfI, bt_gfJ, bt_gfR, bt_pfI, bt_pfZ, bt_pfJ, bt_pfR, bt_ial, bt_bal, bt_zal, bt_lal, bt_aal, bt_ias, bt_bas, bt_zas, bt_las, bt_len, bt_iret, bt_zret, bt_lret, bt_vret, bt_cV, bt_cS, bt_tab, bt_tsw, bt_lk, bt_lsw, bt_acp, bt_mmax, bt_mmin, bt_can, bt_icmpeq, bt_ifeq, bt_icmpne, bt_ifne, bt_icmplt, bt_iflt, bt_icmpge, bt_ifge, bt_icmpgt, bt_ifgt, bt_icmple, bt_ifle, bt_ret, bt_kill, bt_kl, bt_ix, bt_nl, bt_sm, bt_sr, bt_sig, bt_tg, bt_loc, bt_locs, List.getElem?_cons_zero, List.getElem?_cons_succ, List.set_cons_zero, List.set_cons_succ, List.map_cons, List.map_nil, List.take_succ_cons, List.take_zero, List.drop_succ_cons, List.drop_zero, List.reverse_cons, List.reverse_nil, List.nil_append, List.cons_append, List.append_nil, List.length_cons, List.length_nil, List.replicate_succ, List.replicate_zero, Option.toList_some, Option.toList_none, Nat.reduceAdd, Nat.reduceSub, Nat.reduceLeDiff, Nat.zero_add, Nat.zero_le, true_and, and_true, Int.toNat_natCast, Sum.inl.injEq, Sum.inr.injEq, ↓reduceIte, Nat.reduceEqDiff, hρ z _ c2, c3, c4, c5, c6, c7, c8, c9, c10, c11, c12, c13, c14, c15, c16, c17, c18, c19, c20, c21, c22, c23, c24, bt_w_id]
      repeat (refine And.intro (by omega) ?_)
      refine ⟨120 - (i + 1), by omega, i + 1, _, rfl, by omega, rfl, rfl, fun a ha => ?_, fun k hk => ?_, fun k hk => ?_⟩
      · rw [bt_up_cell (by omega), hf2 a (by omega), bt_up_cell (by omega), bt_up_cell (by omega), bt_up_cell (by omega)]; exact hfr a ha
      · by_cases e : k = i
        · subst e; rw [bt_up_same]
        · rw [bt_up_ix e, hf2 (z + 9) (by omega), bt_up_cell (by omega), bt_up_cell (by omega), bt_up_cell (by omega)]; exact hI k (by omega)
      · rw [bt_up_ix (by omega), hf2 (z + 9) (by omega), bt_up_cell (by omega), bt_up_cell (by omega), bt_up_cell (by omega)]; exact hJ k hk
def SpX9_lawOfMoods : bt_Sp := fun As w Q => ∃ (ρ : Nat → Nat → Option Nat) (μ : Nat → Nat → Int) (z s : Nat) (V : fo_V), As = [.inr (.inr z), .inr (.inr 6)] ∧ w = bt_wd ρ μ ∧ bt_Rf ρ ∧ z ∈ bt_zos ∧ μ 6 4 = (s : Int) ∧ s ≤ 1000 ∧ fo_Em (μ 8) 0 s 0 V ∧ (∀ F F', (∀ k, 1 ≤ k → k < 5 → F k = F' k) → V F = V F') ∧ ∀ μ', (∀ i, i < 720 → μ' (z + 10) i = ab_cl (bt_w (V (fo_mf i))) 9) → (∀ i, 720 ≤ i → μ' (z + 10) i = μ (z + 10) i) → bt_fr (fun a => a = 7 ∨ a = 9 ∨ a = z + 10) μ' μ → Q none (bt_wd ρ μ')
set_option maxHeartbeats 4000000 in
theorem mtX9_lawOfMoods : bt_Met yX9_lawOfMoods cX9_lawOfMoods 3 none 3 [2, 2] SpX9_lawOfMoods := by
  refine lpX9_lawOfMoods mtX0_value (by decide) mtX9_within (by decide) _ (fun As w Q _ hS => ?_)
  obtain ⟨ρ, μ, z, s, V, rfl, rfl, hρ, hz, hs, hs2, hE, hV, hQ⟩ := hS
  obtain ⟨c1, c2, c3, c4, c5, c6, c7, c8, c9, c10, c11, c12, c13, c14, c15, c16, c17, c18, c19, c20, c21, c22, c23, c24, c25⟩ := bt_zo_f z hz
  have hzz := bt_zo2 z hz
  refine ⟨fun h' m st L w => st = [] ∧ ∃ (i : Nat) (μ1 : Nat → Nat → Int), w = bt_wd ρ μ1 ∧ i ≤ 720 ∧ m = 720 - i ∧ L = [some (.inr (.inr z)), some (.inr (.inr 6)), some (.inl (i : Int))] ∧ bt_fr (fun a => a = 7 ∨ a = 9 ∨ a = z + 10) μ1 μ ∧ (∀ k, k < i → μ1 (z + 10) k = ab_cl (bt_w (V (fo_mf k))) 9) ∧ ∀ k, 720 ≤ k → μ1 (z + 10) k = μ (z + 10) k, ?_, ?_⟩
  · simp (disch := omega) only [tX9_lawOfMoods_0, bt_ild, bt_lld, bt_ald, bt_ist, bt_lst, bt_ast, bt_inc, bt_ic, bt_lc, bt_iadd, bt_isub, bt_imul, bt_iand, bt_ior, bt_ixor, bt_ishl, bt_ishr, bt_iushr, bt_ladd, bt_lsub, bt_lmul, bt_land, bt_lor, bt_lushr, bt_lshl, bt_idiv, bt_irem, bt_ldiv, bt_lrem, bt_lcmp, bt_i2l, bt_l2i, bt_i2b, bt_pop, bt_dup, bt_dup2, bt_gfI, bt_gfJ, bt_gfR, bt_pfI, bt_pfZ, bt_pfJ, bt_pfR, bt_ial, bt_bal, bt_zal, bt_lal, bt_aal, bt_ias, bt_bas, bt_zas, bt_las, bt_len, bt_iret, bt_zret, bt_lret, bt_vret, bt_cV, bt_cS, bt_tab, bt_tsw, bt_lk, bt_lsw, bt_acp, bt_mmax, bt_mmin, bt_can, bt_icmpeq, bt_ifeq, bt_icmpne, bt_ifne, bt_icmplt, bt_iflt, bt_icmpge, bt_ifge, bt_icmpgt, bt_ifgt, bt_icmple, bt_ifle, bt_ret, bt_kill, bt_kl, bt_ix, bt_nl, bt_sm, bt_sr, bt_sig, bt_tg, bt_loc, bt_locs, List.getElem?_cons_zero, List.getElem?_cons_succ, List.set_cons_zero, List.set_cons_succ, List.map_cons, List.map_nil, List.take_succ_cons, List.take_zero, List.drop_succ_cons, List.drop_zero, List.reverse_cons, List.reverse_nil, List.nil_append, List.cons_append, List.append_nil, List.length_cons, List.length_nil, List.replicate_succ, List.replicate_zero, Option.toList_some, Option.toList_none, Nat.reduceAdd, Nat.reduceSub, Nat.reduceLeDiff, Nat.zero_add, Nat.zero_le, true_and, and_true, Int.toNat_natCast, Sum.inl.injEq, Sum.inr.injEq, ↓reduceIte, Nat.reduceEqDiff]
    exact ⟨720, 0, μ, rfl, by omega, by omega, rfl, fun _ _ => rfl, fun k hk => by omega, fun _ _ => rfl⟩
  · rintro m st L w ⟨rfl, i, μ1, rfl, hi, rfl, rfl, hfr, hI, hJ⟩
    have d360 : bo_idiv (i : Int) 360 = ((i / 360 : Nat) : Int) := bo_idiv_nat (a := i) (d := 360) (by omega) (by omega) (by omega)
    have d36 : bo_idiv (i : Int) 36 = ((i / 36 : Nat) : Int) := bo_idiv_nat (a := i) (d := 36) (by omega) (by omega) (by omega)
    have d6 : bo_idiv (i : Int) 6 = ((i / 6 : Nat) : Int) := bo_idiv_nat (a := i) (d := 6) (by omega) (by omega) (by omega)
    have r66 : bo_irem ((i / 6 : Nat) : Int) 6 = ((i / 6 % 6 : Nat) : Int) := bo_irem_nat (a := i / 6) (d := 6) (by omega) (by omega) (by omega)
    have r10 : bo_irem ((i / 36 : Nat) : Int) 10 = ((i / 36 % 10 : Nat) : Int) := bo_irem_nat (a := i / 36) (d := 10) (by omega) (by omega) (by omega)
    have r6 : bo_irem (i : Int) 6 = ((i % 6 : Nat) : Int) := bo_irem_nat (a := i) (d := 6) (by omega) (by omega) (by omega)
    simp (disch := omega) only [tX9_lawOfMoods_2, bt_ild, bt_lld, bt_ald, bt_ist, bt_lst, bt_ast, bt_inc, bt_ic, bt_lc, bt_iadd, bt_isub, bt_imul, bt_iand, bt_ior, bt_ixor, bt_ishl, bt_ishr, bt_iushr, bt_ladd, bt_lsub, bt_lmul, bt_land, bt_lor, bt_lushr, bt_lshl, bt_idiv, bt_irem, bt_ldiv, bt_lrem, bt_lcmp, bt_i2l, bt_l2i, bt_i2b, bt_pop, bt_dup, bt_dup2, bt_gfI, bt_gfJ, bt_gfR, bt_pfI, bt_pfZ, bt_pfJ, bt_pfR, bt_ial, bt_bal, bt_zal, bt_lal, bt_aal, bt_ias, bt_bas, bt_zas, bt_las, bt_len, bt_iret, bt_zret, bt_lret, bt_vret, bt_cV, bt_cS, bt_tab, bt_tsw, bt_lk, bt_lsw, bt_acp, bt_mmax, bt_mmin, bt_can, bt_icmpeq, bt_ifeq, bt_icmpne, bt_ifne, bt_icmplt, bt_iflt, bt_icmpge, bt_ifge, bt_icmpgt, bt_ifgt, bt_icmple, bt_ifle, bt_ret, bt_kill, bt_kl, bt_ix, bt_nl, bt_sm, bt_sr, bt_sig, bt_tg, bt_loc, bt_locs, List.getElem?_cons_zero, List.getElem?_cons_succ, List.set_cons_zero, List.set_cons_succ, List.map_cons, List.map_nil, List.take_succ_cons, List.take_zero, List.drop_succ_cons, List.drop_zero, List.reverse_cons, List.reverse_nil, List.nil_append, List.cons_append, List.append_nil, List.length_cons, List.length_nil, List.replicate_succ, List.replicate_zero, Option.toList_some, Option.toList_none, Nat.reduceAdd, Nat.reduceSub, Nat.reduceLeDiff, Nat.zero_add, Nat.zero_le, true_and, and_true, Int.toNat_natCast, Sum.inl.injEq, Sum.inr.injEq, ↓reduceIte, Nat.reduceEqDiff, hρ z _ c2, c3, c4, c5, c6, c7, c8, c9, c10, c11, c12, c13, c14, c15, c16, c17, c18, c19, c20, c21, c22, c23, c24, sh_6, sh_7, hρ 6 _ (by decide), rf_6_1, bt_w_id, d360, d36, d6, r10, r6, r66]
    repeat (refine And.intro (by omega) ?_)
    by_cases hc : 720 ≤ i
    · rw [if_pos (by omega)]
      exact hQ μ1 (fun k hk => hI k (by omega)) hJ hfr
    · rw [if_neg (by omega)]
      repeat (refine And.intro (by first | decide | omega) ?_)
      have c6 : ∀ a b c d, bt_up (bt_up (bt_up (bt_up μ1 7 (Int.toNat 3) a) 7 (Int.toNat 2) b) 7 (Int.toNat 1) c) 7 (Int.toNat 4) d 6 = μ 6 := fun a b c d => by rw [bt_up_cell (by decide), bt_up_cell (by decide), bt_up_cell (by decide), bt_up_cell (by decide)]; exact hfr 6 (by omega)
      have c8 : ∀ a b c d, bt_up (bt_up (bt_up (bt_up μ1 7 (Int.toNat 3) a) 7 (Int.toNat 2) b) 7 (Int.toNat 1) c) 7 (Int.toNat 4) d 8 = μ 8 := fun a b c d => by rw [bt_up_cell (by decide), bt_up_cell (by decide), bt_up_cell (by decide), bt_up_cell (by decide)]; exact hfr 8 (by omega)
      refine ⟨ρ, _, s, V, rfl, rfl, hρ, by rw [c6]; exact hs, hs2, by rw [c8]; exact hE, fun μ2 hf2 => ?_⟩
      have hv : V (bt_up (bt_up (bt_up (bt_up μ1 7 (Int.toNat 3) ((i % 6 : Nat) : Int)) 7 (Int.toNat 2) ((i / 6 % 6 : Nat) : Int)) 7 (Int.toNat 1) ((i / 36 % 10 : Nat) : Int)) 7 (Int.toNat 4) ((i / 360 : Nat) : Int) 7) = V (fo_mf i) := hV _ _ (fun k hk1 hk2 => by
        have e1 : Int.toNat 1 = 1 := rfl
        have e2 : Int.toNat 2 = 2 := rfl
        have e3 : Int.toNat 3 = 3 := rfl
        have e4 : Int.toNat 4 = 4 := rfl
        rw [e1, e2, e3, e4]
        unfold fo_mf
        have : k = 1 ∨ k = 2 ∨ k = 3 ∨ k = 4 := by omega
        rcases this with rfl | rfl | rfl | rfl <;> simp [bt_up])
      have hrg := bt_w_rg (V (fo_mf i))
      simp (disch := omega) only [bt_ild, bt_lld, bt_ald, bt_ist, bt_lst, bt_ast, bt_inc, bt_ic, bt_lc, bt_iadd, bt_isub, bt_imul, bt_iand, bt_ior, bt_ixor, bt_ishl, bt_ishr, bt_iushr, bt_ladd, bt_lsub, bt_lmul, bt_land, bt_lor, bt_lushr, bt_lshl, bt_idiv, bt_irem, bt_ldiv, bt_lrem, bt_lcmp, bt_i2l, bt_l2i, bt_i2b, bt_pop, bt_dup, bt_dup2, bt_gfI, bt_gfJ, bt_gfR, bt_pfI, bt_pfZ, bt_pfJ, bt_pfR, bt_ial, bt_bal, bt_zal, bt_lal, bt_aal, bt_ias, bt_bas, bt_zas, bt_las, bt_len, bt_iret, bt_zret, bt_lret, bt_vret, bt_cV, bt_cS, bt_tab, bt_tsw, bt_lk, bt_lsw, bt_acp, bt_mmax, bt_mmin, bt_can, bt_icmpeq, bt_ifeq, bt_icmpne, bt_ifne, bt_icmplt, bt_iflt, bt_icmpge, bt_ifge, bt_icmpgt, bt_ifgt, bt_icmple, bt_ifle, bt_ret, bt_kill, bt_kl, bt_ix, bt_nl, bt_sm, bt_sr, bt_sig, bt_tg, bt_loc, bt_locs, List.getElem?_cons_zero, List.getElem?_cons_succ, List.set_cons_zero, List.set_cons_succ, List.map_cons, List.map_nil, List.take_succ_cons, List.take_zero, List.drop_succ_cons, List.drop_zero, List.reverse_cons, List.reverse_nil, List.nil_append, List.cons_append, List.append_nil, List.length_cons, List.length_nil, List.replicate_succ, List.replicate_zero, Option.toList_some, Option.toList_none, Nat.reduceAdd, Nat.reduceSub, Nat.reduceLeDiff, Nat.zero_add, Nat.zero_le, true_and, and_true, Int.toNat_natCast, Sum.inl.injEq, Sum.inr.injEq, ↓reduceIte, Nat.reduceEqDiff, hv]
      repeat (refine And.intro (by omega) ?_)
      refine ab_cl_call (by omega) (by omega) (by omega) (by omega) ?_
      simp (disch := omega) only [bt_ild, bt_lld, bt_ald, bt_ist, bt_lst, bt_ast, bt_inc, bt_ic, bt_lc, bt_iadd, bt_isub, bt_imul, bt_iand, bt_ior, bt_ixor, bt_ishl, bt_ishr, bt_iushr, bt_ladd, bt_lsub, bt_lmul, bt_land, bt_lor, bt_lushr, bt_lshl, bt_idiv, bt_irem, bt_ldiv, bt_lrem, bt_lcmp, bt_i2l, bt_l2i, bt_i2b, bt_pop, bt_dup, bt_dup2, bt_gfI, bt_gfJ, bt_gfR, bt_pfI, bt_pfZ, bt_pfJ, bt_pfR, bt_ial, bt_bal, bt_zal, bt_lal, bt_aal, bt_ias, bt_bas, bt_zas, bt_las, bt_len, bt_iret, bt_zret, bt_lret, bt_vret, bt_cV, bt_cS, bt_tab, bt_tsw, bt_lk, bt_lsw, bt_acp, bt_mmax, bt_mmin, bt_can, bt_icmpeq, bt_ifeq, bt_icmpne, bt_ifne, bt_icmplt, bt_iflt, bt_icmpge, bt_ifge, bt_icmpgt, bt_ifgt, bt_icmple, bt_ifle, bt_ret, bt_kill, bt_kl, bt_ix, bt_nl, bt_sm, bt_sr, bt_sig, bt_tg, bt_loc, bt_locs, List.getElem?_cons_zero, List.getElem?_cons_succ, List.set_cons_zero, List.set_cons_succ, List.map_cons, List.map_nil, List.take_succ_cons, List.take_zero, List.drop_succ_cons, List.drop_zero, List.reverse_cons, List.reverse_nil, List.nil_append, List.cons_append, List.append_nil, List.length_cons, List.length_nil, List.replicate_succ, List.replicate_zero, Option.toList_some, Option.toList_none, Nat.reduceAdd, Nat.reduceSub, Nat.reduceLeDiff, Nat.zero_add, Nat.zero_le, true_and, and_true, Int.toNat_natCast, Sum.inl.injEq, Sum.inr.injEq, ↓reduceIte, Nat.reduceEqDiff, hρ z _ c2, c3, c4, c5, c6, c7, c8, c9, c10, c11, c12, c13, c14, c15, c16, c17, c18, c19, c20, c21, c22, c23, c24, bt_w_id]
      repeat (refine And.intro (by omega) ?_)
      refine ⟨720 - (i + 1), by omega, i + 1, _, rfl, by omega, rfl, rfl, fun a ha => ?_, fun k hk => ?_, fun k hk => ?_⟩
      · rw [bt_up_cell (by omega), hf2 a (by omega), bt_up_cell (by omega), bt_up_cell (by omega), bt_up_cell (by omega), bt_up_cell (by omega)]; exact hfr a ha
      · by_cases e : k = i
        · subst e; rw [bt_up_same]
        · rw [bt_up_ix e, hf2 (z + 10) (by omega), bt_up_cell (by omega), bt_up_cell (by omega), bt_up_cell (by omega), bt_up_cell (by omega)]; exact hI k (by omega)
      · rw [bt_up_ix (by omega), hf2 (z + 10) (by omega), bt_up_cell (by omega), bt_up_cell (by omega), bt_up_cell (by omega), bt_up_cell (by omega)]; exact hJ k hk
/-- a law looks at the facts that it may name alone -/
def fo_dp (al : Nat) (V : fo_V) : Prop := ∀ F F' : Nat → Int, (∀ k, al.testBit k = true → F k = F' k) → V F = V F'
theorem fo_dp_ch {al : Nat} {op : Nat → Int} {nx : Nat → Nat} {sub : fo_P} (h : ∀ c, fo_dp al (sub c).2.2) : ∀ f c V, fo_dp al V → fo_dp al (fo_ch op nx sub f c V).2.2
  | 0, c, V, hV => hV
  | f + 1, c, V, hV => by
    unfold fo_ch
    split
    · exact hV
    · split
      · exact fo_dp_ch h f _ _ (fun F F' e => by rw [hV F F' e, h (nx c) F F' e])
      · exact h _
theorem fo_dp_cn {al : Nat} {op : Nat → Int} {nx : Nat → Nat} {sub : fo_P} (h : ∀ c, fo_dp al (sub c).2.2) (c : Nat) : fo_dp al (fo_cn op nx sub c).2.2 := by
  unfold fo_cn
  split
  · exact fo_dp_ch h _ _ _ (h c)
  · exact h c
theorem fo_dp_ts {t : Nat → Int} {n al : Nat} {pt : fo_P} (h : ∀ c, fo_dp al (pt c).2.2) (c : Nat) : fo_dp al (fo_ts t n pt c).2.2 := by
  refine fo_dp_cn (fun c => ?_) c
  have hs : ∀ c, fo_dp al (fo_su t n pt c).2.2 := fun c => fo_dp_cn (fun c => fo_dp_cn h c) c
  unfold fo_te
  split
  · split
    · intro F F' e
      dsimp only
      rw [hs _ F F' e, hs _ F F' e]
    · exact hs _
  · exact hs _
theorem fo_dp_pt {t : Nat → Int} {n al : Nat} : ∀ k c, fo_dp al (fo_pt t n al k c).2.2
  | 0, c => fun _ _ _ => rfl
  | k + 1, c => by
    have ih := fo_dp_pt (t := t) (n := n) (al := al) k
    unfold fo_pt
    split
    · exact fun _ _ _ => rfl
    · split
      · next h =>
        intro F F' e
        refine e _ ?_
        unfold fo_fa at h
        simp at h
        exact h.2
      · split
        · exact fun _ _ _ => rfl
        · split
          · split
            · split
              · exact fo_dp_ts ih _
              · exact fun _ _ _ => rfl
            · exact fo_dp_ts ih _
          · split
            · intro F F' e
              dsimp only
              rw [ih _ F F' e]
            · exact ih _
theorem fo_dp7 {V : fo_V} (h : fo_dp 7 V) (F F' : Nat → Int) (e : ∀ k, k < 3 → F k = F' k) : V F = V F' := h F F' (fun k hk => e k (by
  by_cases q : k < 3
  · exact q
  · exfalso
    have : (7 : Nat).testBit k = false := Nat.testBit_lt_two_pow (Nat.lt_of_lt_of_le (show 7 < 2 ^ 3 by decide) (Nat.pow_le_pow_right (by decide) (by omega)))
    rw [this] at hk; exact absurd hk (by decide)))
theorem fo_dp30 {V : fo_V} (h : fo_dp 30 V) (F F' : Nat → Int) (e : ∀ k, 1 ≤ k → k < 5 → F k = F' k) : V F = V F' := h F F' (fun k hk => by
  by_cases q : k < 5
  · by_cases q0 : k = 0
    · subst q0; exact absurd hk (by decide)
    · exact e k (by omega) q
  · exfalso
    have : (30 : Nat).testBit k = false := Nat.testBit_lt_two_pow (Nat.lt_of_lt_of_le (show 30 < 2 ^ 5 by decide) (Nat.pow_le_pow_right (by decide) (by omega)))
    rw [this] at hk; exact absurd hk (by decide))
