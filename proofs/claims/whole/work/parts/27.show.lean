/-! Rows.walkFrom; Show: crowds -/
def ab_gl (wh : Nat → Nat) : Nat → Nat
  | 0 => 0
  | n + 1 => ab_gl wh n ||| 2 ^ wh n
theorem ab_gl_lt {wh : Nat → Nat} : ∀ n, (∀ g, g < n → wh g < 6) → ab_gl wh n < 64
  | 0, _ => by simp [ab_gl]
  | n + 1, h => by
    unfold ab_gl
    have h1 := ab_gl_lt n (fun g hg => h g (by omega))
    have h2 : 2 ^ wh n < 2 ^ 6 := Nat.pow_lt_pow_right (by decide) (h n (by omega))
    exact Nat.or_lt_two_pow (n := 6) h1 h2
set_option maxRecDepth 100000 in
theorem ab_pc6 : ∀ G : Nat, G < 64 → bt_pcn G 16 ≤ 6 := by decide +kernel
def SpX4_walkFrom : bt_Sp := fun As w Q => ∃ (ρ : Nat → Nat → Option Nat) (μ : Nat → Nat → Int) (z s n P pen : Nat) (wh : Nat → Nat), As = [.inr (.inr 71), .inr (.inr z), .inr (.inr s), .inl (pen : Int)] ∧ w = bt_wd ρ μ ∧ bt_Rf ρ ∧ z ∈ bt_zos ∧ s ∈ bt_sts ∧ pen < 6 ∧ μ z 1 = (n : Int) ∧ n ≤ 6 ∧ (∀ g, g < n → μ (s + 1) g = (wh g : Int) ∧ wh g < 6) ∧ μ z 0 = (P : Int) ∧ P ≤ 6 ∧ (∀ i, i < 36 → 0 ≤ μ (z + 8) i ∧ μ (z + 8) i ≤ 1000) ∧ ∀ μ', bt_wkS μ' = ab_wk (μ (z + 8)) (bt_pcn (ab_gl wh n) 16) P (bt_pcn (ab_gl wh n) 16) pen (ab_gl wh n) 0 (1000, μ 74, μ 73) → μ' 71 3 = (bt_pcn (ab_gl wh n) 16 : Int) → bt_fr bt_inR μ' μ → Q none (bt_wd ρ μ')
theorem bt_st71 : ∀ s ∈ bt_sts, s + 3 < 71 ∨ 74 < s := by decide
set_option maxHeartbeats 4000000 in
theorem mtX4_walkFrom : bt_Met yX4_walkFrom cX4_walkFrom 6 none 63 [2, 2, 2, 0] SpX4_walkFrom := by
  refine lpX4_walkFrom mtJ6_bitCount_0f7a4 (by decide) mtX4_walkOn (by decide) _ (fun As w Q _ hS => ?_)
  obtain ⟨ρ, μ, z, s, n, P, pen, wh, rfl, rfl, hρ, hz, hs, hpen, hn, hn6, hwh, hP, hP6, hmn, hQ⟩ := hS
  obtain ⟨c1, c2, c3, c4, c5, c6, c7, c8, c9, c10, c11, c12, c13, c14, c15, c16, c17, c18, c19, c20, c21, c22, c23, c24, c25⟩ := bt_zo_f z hz
  obtain ⟨b1, b2, b3, b4, b5, b6, b7, b8, b9⟩ := bt_st_f s hs
  have hzz := bt_zo2 z hz
  refine ⟨fun h' m st L w => st = [] ∧ w = bt_wd ρ μ ∧ ∃ (i : Nat), i ≤ n ∧ m = n - i ∧ L = [some (.inr (.inr 71)), some (.inr (.inr z)), some (.inr (.inr s)), some (.inl (pen : Int)), some (.inl (ab_gl wh i : Int)), some (.inl (i : Int))], ?_, ?_⟩
  · simp (disch := omega) only [tX4_walkFrom_0, bt_ild, bt_lld, bt_ald, bt_ist, bt_lst, bt_ast, bt_inc, bt_ic, bt_lc, bt_iadd, bt_isub, bt_imul, bt_iand, bt_ior, bt_ixor, bt_ishl, bt_ishr, bt_iushr, bt_ladd, bt_lsub, bt_lmul, bt_land, bt_lor, bt_lushr, bt_lshl, bt_idiv, bt_irem, bt_ldiv, bt_lrem, bt_lcmp, bt_i2l, bt_l2i, bt_i2b, bt_pop, bt_dup, bt_dup2, bt_gfI, bt_gfJ, bt_gfR, bt_pfI, bt_pfZ, bt_pfJ, bt_pfR, bt_ial, bt_bal, bt_zal, bt_lal, bt_aal, bt_ias, bt_bas, bt_zas, bt_las, bt_len, bt_iret, bt_zret, bt_lret, bt_vret, bt_cV, bt_cS, bt_tab, bt_tsw, bt_lk, bt_lsw, bt_acp, bt_mmax, bt_mmin, bt_can, bt_icmpeq, bt_ifeq, bt_icmpne, bt_ifne, bt_icmplt, bt_iflt, bt_icmpge, bt_ifge, bt_icmpgt, bt_ifgt, bt_icmple, bt_ifle, bt_ret, bt_kill, bt_kl, bt_ix, bt_nl, bt_sm, bt_sr, bt_sig, bt_tg, bt_loc, bt_locs, List.getElem?_cons_zero, List.getElem?_cons_succ, List.set_cons_zero, List.set_cons_succ, List.map_cons, List.map_nil, List.take_succ_cons, List.take_zero, List.drop_succ_cons, List.drop_zero, List.reverse_cons, List.reverse_nil, List.nil_append, List.cons_append, List.append_nil, List.length_cons, List.length_nil, List.replicate_succ, List.replicate_zero, Option.toList_some, Option.toList_none, Nat.reduceAdd, Nat.reduceSub, Nat.reduceLeDiff, Nat.zero_add, Nat.zero_le, true_and, and_true, Int.toNat_natCast, Sum.inl.injEq, Sum.inr.injEq, ↓reduceIte, Nat.reduceEqDiff]
    exact ⟨n, 0, by omega, by omega, rfl⟩
  · rintro m st L w ⟨rfl, rfl, i, hi, rfl, rfl⟩
    have hgl := ab_gl_lt i (fun g hg => (hwh g (by omega)).2)
    simp (disch := omega) only [tX4_walkFrom_6, bt_ild, bt_lld, bt_ald, bt_ist, bt_lst, bt_ast, bt_inc, bt_ic, bt_lc, bt_iadd, bt_isub, bt_imul, bt_iand, bt_ior, bt_ixor, bt_ishl, bt_ishr, bt_iushr, bt_ladd, bt_lsub, bt_lmul, bt_land, bt_lor, bt_lushr, bt_lshl, bt_idiv, bt_irem, bt_ldiv, bt_lrem, bt_lcmp, bt_i2l, bt_l2i, bt_i2b, bt_pop, bt_dup, bt_dup2, bt_gfI, bt_gfJ, bt_gfR, bt_pfI, bt_pfZ, bt_pfJ, bt_pfR, bt_ial, bt_bal, bt_zal, bt_lal, bt_aal, bt_ias, bt_bas, bt_zas, bt_las, bt_len, bt_iret, bt_zret, bt_lret, bt_vret, bt_cV, bt_cS, bt_tab, bt_tsw, bt_lk, bt_lsw, bt_acp, bt_mmax, bt_mmin, bt_can, bt_icmpeq, bt_ifeq, bt_icmpne, bt_ifne, bt_icmplt, bt_iflt, bt_icmpge, bt_ifge, bt_icmpgt, bt_ifgt, bt_icmple, bt_ifle, bt_ret, bt_kill, bt_kl, bt_ix, bt_nl, bt_sm, bt_sr, bt_sig, bt_tg, bt_loc, bt_locs, List.getElem?_cons_zero, List.getElem?_cons_succ, List.set_cons_zero, List.set_cons_succ, List.map_cons, List.map_nil, List.take_succ_cons, List.take_zero, List.drop_succ_cons, List.drop_zero, List.reverse_cons, List.reverse_nil, List.nil_append, List.cons_append, List.append_nil, List.length_cons, List.length_nil, List.replicate_succ, List.replicate_zero, Option.toList_some, Option.toList_none, Nat.reduceAdd, Nat.reduceSub, Nat.reduceLeDiff, Nat.zero_add, Nat.zero_le, true_and, and_true, Int.toNat_natCast, Sum.inl.injEq, Sum.inr.injEq, ↓reduceIte, Nat.reduceEqDiff, hρ z _ c2, c3, c4, c5, c6, c7, c8, c9, c10, c11, c12, c13, c14, c15, c16, c17, c18, c19, c20, c21, c22, c23, c24, hρ s _ b2, b3, b4, b5, b6, b7, b8, b9, hn, sh_71, bt_w_id]
    refine And.intro (by omega) ?_
    by_cases hc : n ≤ i
    · rw [if_pos (by omega)]
      have : i = n := by omega
      subst this
      refine ⟨ab_gl wh i, rfl, by omega, ?_⟩
      simp (disch := omega) only [bt_ild, bt_lld, bt_ald, bt_ist, bt_lst, bt_ast, bt_inc, bt_ic, bt_lc, bt_iadd, bt_isub, bt_imul, bt_iand, bt_ior, bt_ixor, bt_ishl, bt_ishr, bt_iushr, bt_ladd, bt_lsub, bt_lmul, bt_land, bt_lor, bt_lushr, bt_lshl, bt_idiv, bt_irem, bt_ldiv, bt_lrem, bt_lcmp, bt_i2l, bt_l2i, bt_i2b, bt_pop, bt_dup, bt_dup2, bt_gfI, bt_gfJ, bt_gfR, bt_pfI, bt_pfZ, bt_pfJ, bt_pfR, bt_ial, bt_bal, bt_zal, bt_lal, bt_aal, bt_ias, bt_bas, bt_zas, bt_las, bt_len, bt_iret, bt_zret, bt_lret, bt_vret, bt_cV, bt_cS, bt_tab, bt_tsw, bt_lk, bt_lsw, bt_acp, bt_mmax, bt_mmin, bt_can, bt_icmpeq, bt_ifeq, bt_icmpne, bt_ifne, bt_icmplt, bt_iflt, bt_icmpge, bt_ifge, bt_icmpgt, bt_ifgt, bt_icmple, bt_ifle, bt_ret, bt_kill, bt_kl, bt_ix, bt_nl, bt_sm, bt_sr, bt_sig, bt_tg, bt_loc, bt_locs, List.getElem?_cons_zero, List.getElem?_cons_succ, List.set_cons_zero, List.set_cons_succ, List.map_cons, List.map_nil, List.take_succ_cons, List.take_zero, List.drop_succ_cons, List.drop_zero, List.reverse_cons, List.reverse_nil, List.nil_append, List.cons_append, List.append_nil, List.length_cons, List.length_nil, List.replicate_succ, List.replicate_zero, Option.toList_some, Option.toList_none, Nat.reduceAdd, Nat.reduceSub, Nat.reduceLeDiff, Nat.zero_add, Nat.zero_le, true_and, and_true, Int.toNat_natCast, Sum.inl.injEq, Sum.inr.injEq, ↓reduceIte, Nat.reduceEqDiff, sh_71]
      repeat (refine And.intro (by omega) ?_)
      have hp6 := ab_pc6 _ hgl
      have f2 : ∀ a, a ≠ 71 → bt_up (bt_up μ 71 3 (bt_pcn (ab_gl wh i) 16 : Int)) 71 4 1000 a = μ a := fun a ha => by rw [bt_up_cell ha, bt_up_cell ha]
      refine ⟨bt_pcn (ab_gl wh i) 16, hp6, ρ, _, z, pen, ab_gl wh i, bt_pcn (ab_gl wh i) 16, P, 0, rfl, rfl, hρ, hz, hpen, hgl, rfl, Nat.le_refl _, hp6, by simp [bt_up], by rw [f2 z (by omega)]; exact hP, hP6, by omega, by omega, by simp [bt_up], by simp [bt_up], fun j hj => by rw [f2 _ (by omega)]; exact hmn j hj, fun μ2 hs2 h71 hf2 => ?_⟩
      simp (disch := omega) only [bt_ild, bt_lld, bt_ald, bt_ist, bt_lst, bt_ast, bt_inc, bt_ic, bt_lc, bt_iadd, bt_isub, bt_imul, bt_iand, bt_ior, bt_ixor, bt_ishl, bt_ishr, bt_iushr, bt_ladd, bt_lsub, bt_lmul, bt_land, bt_lor, bt_lushr, bt_lshl, bt_idiv, bt_irem, bt_ldiv, bt_lrem, bt_lcmp, bt_i2l, bt_l2i, bt_i2b, bt_pop, bt_dup, bt_dup2, bt_gfI, bt_gfJ, bt_gfR, bt_pfI, bt_pfZ, bt_pfJ, bt_pfR, bt_ial, bt_bal, bt_zal, bt_lal, bt_aal, bt_ias, bt_bas, bt_zas, bt_las, bt_len, bt_iret, bt_zret, bt_lret, bt_vret, bt_cV, bt_cS, bt_tab, bt_tsw, bt_lk, bt_lsw, bt_acp, bt_mmax, bt_mmin, bt_can, bt_icmpeq, bt_ifeq, bt_icmpne, bt_ifne, bt_icmplt, bt_iflt, bt_icmpge, bt_ifge, bt_icmpgt, bt_ifgt, bt_icmple, bt_ifle, bt_ret, bt_kill, bt_kl, bt_ix, bt_nl, bt_sm, bt_sr, bt_sig, bt_tg, bt_loc, bt_locs, List.getElem?_cons_zero, List.getElem?_cons_succ, List.set_cons_zero, List.set_cons_succ, List.map_cons, List.map_nil, List.take_succ_cons, List.take_zero, List.drop_succ_cons, List.drop_zero, List.reverse_cons, List.reverse_nil, List.nil_append, List.cons_append, List.append_nil, List.length_cons, List.length_nil, List.replicate_succ, List.replicate_zero, Option.toList_some, Option.toList_none, Nat.reduceAdd, Nat.reduceSub, Nat.reduceLeDiff, Nat.zero_add, Nat.zero_le, true_and, and_true, Int.toNat_natCast, Sum.inl.injEq, Sum.inr.injEq, ↓reduceIte, Nat.reduceEqDiff]
      refine hQ μ2 ?_ ?_ (fun a ha => by rw [hf2 a ha, f2 a (by unfold bt_inR at ha; omega)])
      · rw [hs2, f2 (z + 8) (by omega)]
        congr 1
      · rw [h71 3 (by decide)]
        simp [bt_up]
    · rw [if_neg (by omega)]
      obtain ⟨w1, w2⟩ := hwh i (by omega)
      repeat (refine And.intro (by omega) ?_)
      rw [w1, bo_shl1 (by omega), bo_ior_nat (by omega) (by
        have : 2 ^ wh i < 2 ^ 6 := Nat.pow_lt_pow_right (by decide) w2
        omega)]
      exact ⟨n - (i + 1), by omega, i + 1, by omega, rfl, rfl⟩
def SpX5_spot : bt_Sp := fun As w Q => tX5_spot_0 bt_k0 Q [] (bt_loc 3 As) w
theorem mtX5_spot : bt_Met yX5_spot cX5_spot 3 (some .int) 1 [0, 0, 0] SpX5_spot := lfX5_spot
def SpX5_canBeat : bt_Sp := fun As w Q => tX5_canBeat_0 bt_k0 Q [] (bt_loc 2 As) w
theorem mtX5_canBeat : bt_Met yX5_canBeat cX5_canBeat 2 (some .boolean) 1 [2, 0] SpX5_canBeat := lfX5_canBeat
/-- what a crowd is worth to one that likes a kind -/
def ab_wo (ζ σ : Nat → Nat → Int) (kind C : Nat) : Int := bt_sn (fun g => if C.testBit g then ζ 9 ((if fK ζ g = kind then 10 + fM σ g else fM σ g) * 6 + (bt_pcn C 16 - 1)) else 0) (nG ζ)
theorem ab_pc_pos {C g : Nat} (hC : C < 64) (hg : g < 6) (h : C.testBit g = true) : 1 ≤ bt_pcn C 16 := by
  have := (ab_clr C hC g hg h).2
  omega
def SpX5_worthOf : bt_Sp := fun As w Q => ∃ (ρ : Nat → Nat → Option Nat) (μ : Nat → Nat → Int) (z kind C : Nat), As = [.inr (.inr 19), .inr (.inr z), .inl (kind : Int), .inl (C : Int)] ∧ w = bt_wd ρ μ ∧ bt_Rf ρ ∧ z ∈ bt_zos ∧ kind < 4 ∧ C < 64 ∧ ab_Z (bt_vw μ z) ∧ ab_S (bt_vw μ z) (bt_vw μ 29) ∧ Q (some (.inl (ab_wo (bt_vw μ z) (bt_vw μ 29) kind C))) w
set_option maxHeartbeats 4000000 in
theorem mtX5_worthOf : bt_Met yX5_worthOf cX5_worthOf 7 (some .int) 2 [2, 2, 0, 0] SpX5_worthOf := by
  refine lpX5_worthOf mtJ6_bitCount_0f7a4 (by decide) mtX9_worthAt (by decide) _ (fun As w Q _ hS => ?_)
  obtain ⟨ρ, μ, z, kind, C, rfl, rfl, hρ, hz, hkd, hC, hZ, hSt, hQ⟩ := hS
  obtain ⟨c1, c2, c3, c4, c5, c6, c7, c8, c9, c10, c11, c12, c13, c14, c15, c16, c17, c18, c19, c20, c21, c22, c23, c24, c25⟩ := bt_zo_f z hz
  have hr := ab_rg hZ
  have hG : μ z 1 = (nG (bt_vw μ z) : Int) := by
    have := hZ.1
    simp only [bt_vw, nG, Nat.add_zero] at *
    omega
  have hp6 := ab_pc6 C hC
  generalize hζ : bt_vw μ z = ζ at *
  generalize hσ : bt_vw μ 29 = σ at *
  refine ⟨fun h' m st L w => st = [] ∧ w = bt_wd ρ μ ∧ ∃ (i : Nat), i ≤ nG ζ ∧ m = nG ζ - i ∧ L = [some (.inr (.inr 19)), some (.inr (.inr z)), some (.inl (kind : Int)), some (.inl (C : Int)), some (.inl ((bt_pcn C 16 : Int) - 1)), some (.inl (bt_sn (fun g => if C.testBit g then ζ 9 ((if fK ζ g = kind then 10 + fM σ g else fM σ g) * 6 + (bt_pcn C 16 - 1)) else 0) i)), some (.inl (i : Int))], ?_, ?_⟩
  · simp (disch := omega) only [tX5_worthOf_0, bt_ild, bt_lld, bt_ald, bt_ist, bt_lst, bt_ast, bt_inc, bt_ic, bt_lc, bt_iadd, bt_isub, bt_imul, bt_iand, bt_ior, bt_ixor, bt_ishl, bt_ishr, bt_iushr, bt_ladd, bt_lsub, bt_lmul, bt_land, bt_lor, bt_lushr, bt_lshl, bt_idiv, bt_irem, bt_ldiv, bt_lrem, bt_lcmp, bt_i2l, bt_l2i, bt_i2b, bt_pop, bt_dup, bt_dup2, bt_gfI, bt_gfJ, bt_gfR, bt_pfI, bt_pfZ, bt_pfJ, bt_pfR, bt_ial, bt_bal, bt_zal, bt_lal, bt_aal, bt_ias, bt_bas, bt_zas, bt_las, bt_len, bt_iret, bt_zret, bt_lret, bt_vret, bt_cV, bt_cS, bt_tab, bt_tsw, bt_lk, bt_lsw, bt_acp, bt_mmax, bt_mmin, bt_can, bt_icmpeq, bt_ifeq, bt_icmpne, bt_ifne, bt_icmplt, bt_iflt, bt_icmpge, bt_ifge, bt_icmpgt, bt_ifgt, bt_icmple, bt_ifle, bt_ret, bt_kill, bt_kl, bt_ix, bt_nl, bt_sm, bt_sr, bt_sig, bt_tg, bt_loc, bt_locs, List.getElem?_cons_zero, List.getElem?_cons_succ, List.set_cons_zero, List.set_cons_succ, List.map_cons, List.map_nil, List.take_succ_cons, List.take_zero, List.drop_succ_cons, List.drop_zero, List.reverse_cons, List.reverse_nil, List.nil_append, List.cons_append, List.append_nil, List.length_cons, List.length_nil, List.replicate_succ, List.replicate_zero, Option.toList_some, Option.toList_none, Nat.reduceAdd, Nat.reduceSub, Nat.reduceLeDiff, Nat.zero_add, Nat.zero_le, true_and, and_true, Int.toNat_natCast, Sum.inl.injEq, Sum.inr.injEq, ↓reduceIte, Nat.reduceEqDiff]
    refine ⟨C, rfl, by omega, ?_⟩
    simp (disch := omega) only [bt_ild, bt_lld, bt_ald, bt_ist, bt_lst, bt_ast, bt_inc, bt_ic, bt_lc, bt_iadd, bt_isub, bt_imul, bt_iand, bt_ior, bt_ixor, bt_ishl, bt_ishr, bt_iushr, bt_ladd, bt_lsub, bt_lmul, bt_land, bt_lor, bt_lushr, bt_lshl, bt_idiv, bt_irem, bt_ldiv, bt_lrem, bt_lcmp, bt_i2l, bt_l2i, bt_i2b, bt_pop, bt_dup, bt_dup2, bt_gfI, bt_gfJ, bt_gfR, bt_pfI, bt_pfZ, bt_pfJ, bt_pfR, bt_ial, bt_bal, bt_zal, bt_lal, bt_aal, bt_ias, bt_bas, bt_zas, bt_las, bt_len, bt_iret, bt_zret, bt_lret, bt_vret, bt_cV, bt_cS, bt_tab, bt_tsw, bt_lk, bt_lsw, bt_acp, bt_mmax, bt_mmin, bt_can, bt_icmpeq, bt_ifeq, bt_icmpne, bt_ifne, bt_icmplt, bt_iflt, bt_icmpge, bt_ifge, bt_icmpgt, bt_ifgt, bt_icmple, bt_ifle, bt_ret, bt_kill, bt_kl, bt_ix, bt_nl, bt_sm, bt_sr, bt_sig, bt_tg, bt_loc, bt_locs, List.getElem?_cons_zero, List.getElem?_cons_succ, List.set_cons_zero, List.set_cons_succ, List.map_cons, List.map_nil, List.take_succ_cons, List.take_zero, List.drop_succ_cons, List.drop_zero, List.reverse_cons, List.reverse_nil, List.nil_append, List.cons_append, List.append_nil, List.length_cons, List.length_nil, List.replicate_succ, List.replicate_zero, Option.toList_some, Option.toList_none, Nat.reduceAdd, Nat.reduceSub, Nat.reduceLeDiff, Nat.zero_add, Nat.zero_le, true_and, and_true, Int.toNat_natCast, Sum.inl.injEq, Sum.inr.injEq, ↓reduceIte, Nat.reduceEqDiff]
    exact ⟨nG ζ, 0, by omega, by omega, rfl⟩
  · rintro m st L w ⟨rfl, rfl, i, hi, rfl, rfl⟩
    by_cases hc : nG ζ ≤ i
    · simp (disch := omega) only [tX5_worthOf_14, bt_ild, bt_lld, bt_ald, bt_ist, bt_lst, bt_ast, bt_inc, bt_ic, bt_lc, bt_iadd, bt_isub, bt_imul, bt_iand, bt_ior, bt_ixor, bt_ishl, bt_ishr, bt_iushr, bt_ladd, bt_lsub, bt_lmul, bt_land, bt_lor, bt_lushr, bt_lshl, bt_idiv, bt_irem, bt_ldiv, bt_lrem, bt_lcmp, bt_i2l, bt_l2i, bt_i2b, bt_pop, bt_dup, bt_dup2, bt_gfI, bt_gfJ, bt_gfR, bt_pfI, bt_pfZ, bt_pfJ, bt_pfR, bt_ial, bt_bal, bt_zal, bt_lal, bt_aal, bt_ias, bt_bas, bt_zas, bt_las, bt_len, bt_iret, bt_zret, bt_lret, bt_vret, bt_cV, bt_cS, bt_tab, bt_tsw, bt_lk, bt_lsw, bt_acp, bt_mmax, bt_mmin, bt_can, bt_icmpeq, bt_ifeq, bt_icmpne, bt_ifne, bt_icmplt, bt_iflt, bt_icmpge, bt_ifge, bt_icmpgt, bt_ifgt, bt_icmple, bt_ifle, bt_ret, bt_kill, bt_kl, bt_ix, bt_nl, bt_sm, bt_sr, bt_sig, bt_tg, bt_loc, bt_locs, List.getElem?_cons_zero, List.getElem?_cons_succ, List.set_cons_zero, List.set_cons_succ, List.map_cons, List.map_nil, List.take_succ_cons, List.take_zero, List.drop_succ_cons, List.drop_zero, List.reverse_cons, List.reverse_nil, List.nil_append, List.cons_append, List.append_nil, List.length_cons, List.length_nil, List.replicate_succ, List.replicate_zero, Option.toList_some, Option.toList_none, Nat.reduceAdd, Nat.reduceSub, Nat.reduceLeDiff, Nat.zero_add, Nat.zero_le, true_and, and_true, Int.toNat_natCast, Sum.inl.injEq, Sum.inr.injEq, ↓reduceIte, Nat.reduceEqDiff, hρ z _ c2, c3, c4, c5, c6, c7, c8, c9, c10, c11, c12, c13, c14, c15, c16, c17, c18, c19, c20, c21, c22, c23, c24, hG, bt_w_id]
      refine And.intro (by omega) ?_
      rw [if_pos (by omega)]
      have : i = nG ζ := by omega
      subst this
      exact hQ
    · have hk1 := (hZ.2.1 i (by omega)).1
      have hm1 := (hSt.1 i (by omega)).2
      have k2 : μ (z + 5) i = (fK ζ i : Int) := by rw [← hζ] at *; simp only [bt_vw, fK] at *; omega
      have m2 : μ 31 i = (fM σ i : Int) := by
        have : σ 2 i = μ 31 i := by rw [← hσ]; rfl
        rw [← this]
        unfold fM
        omega
      have hm3 : fM σ i < 10 := ab_fM_lt hSt (by omega)
      have hk3 : fK ζ i < 4 := by unfold fK; omega
      simp (disch := omega) only [tX5_worthOf_14, tX5_worthOf_51, bt_ild, bt_lld, bt_ald, bt_ist, bt_lst, bt_ast, bt_inc, bt_ic, bt_lc, bt_iadd, bt_isub, bt_imul, bt_iand, bt_ior, bt_ixor, bt_ishl, bt_ishr, bt_iushr, bt_ladd, bt_lsub, bt_lmul, bt_land, bt_lor, bt_lushr, bt_lshl, bt_idiv, bt_irem, bt_ldiv, bt_lrem, bt_lcmp, bt_i2l, bt_l2i, bt_i2b, bt_pop, bt_dup, bt_dup2, bt_gfI, bt_gfJ, bt_gfR, bt_pfI, bt_pfZ, bt_pfJ, bt_pfR, bt_ial, bt_bal, bt_zal, bt_lal, bt_aal, bt_ias, bt_bas, bt_zas, bt_las, bt_len, bt_iret, bt_zret, bt_lret, bt_vret, bt_cV, bt_cS, bt_tab, bt_tsw, bt_lk, bt_lsw, bt_acp, bt_mmax, bt_mmin, bt_can, bt_icmpeq, bt_ifeq, bt_icmpne, bt_ifne, bt_icmplt, bt_iflt, bt_icmpge, bt_ifge, bt_icmpgt, bt_ifgt, bt_icmple, bt_ifle, bt_ret, bt_kill, bt_kl, bt_ix, bt_nl, bt_sm, bt_sr, bt_sig, bt_tg, bt_loc, bt_locs, List.getElem?_cons_zero, List.getElem?_cons_succ, List.set_cons_zero, List.set_cons_succ, List.map_cons, List.map_nil, List.take_succ_cons, List.take_zero, List.drop_succ_cons, List.drop_zero, List.reverse_cons, List.reverse_nil, List.nil_append, List.cons_append, List.append_nil, List.length_cons, List.length_nil, List.replicate_succ, List.replicate_zero, Option.toList_some, Option.toList_none, Nat.reduceAdd, Nat.reduceSub, Nat.reduceLeDiff, Nat.zero_add, Nat.zero_le, true_and, and_true, Int.toNat_natCast, Sum.inl.injEq, Sum.inr.injEq, ↓reduceIte, Nat.reduceEqDiff, hρ z _ c2, c3, c4, c5, c6, c7, c8, c9, c10, c11, c12, c13, c14, c15, c16, c17, c18, c19, c20, c21, c22, c23, c24, hG, sh_19, hρ 19 _ (by decide), rf_19_1, sh_29, hρ 29 _ (by decide), rf_29_3, sh_31, k2, m2, bt_w_id]
      refine And.intro (by omega) ?_
      rw [if_neg (by omega), bo_bit (by omega) (by omega)]
      by_cases hb : C.testBit i
      · have hp1 := ab_pc_pos hC (show i < 6 by omega) hb
        rw [if_pos hb]
        simp (disch := omega) only [bt_w_id]
        first | rw [if_neg (by decide)] | skip
        repeat (refine And.intro (by omega) ?_)
        have ez : ∀ k, μ (z + 9) k = ζ 9 k := fun k => by rw [← hζ]; rfl
        by_cases hq : fK ζ i = kind
        · rw [if_pos (by omega)]
          repeat (refine And.intro (by omega) ?_)
          simp (disch := omega) only [SpX9_worthAt, tX9_worthAt_0, bt_ild, bt_lld, bt_ald, bt_ist, bt_lst, bt_ast, bt_inc, bt_ic, bt_lc, bt_iadd, bt_isub, bt_imul, bt_iand, bt_ior, bt_ixor, bt_ishl, bt_ishr, bt_iushr, bt_ladd, bt_lsub, bt_lmul, bt_land, bt_lor, bt_lushr, bt_lshl, bt_idiv, bt_irem, bt_ldiv, bt_lrem, bt_lcmp, bt_i2l, bt_l2i, bt_i2b, bt_pop, bt_dup, bt_dup2, bt_gfI, bt_gfJ, bt_gfR, bt_pfI, bt_pfZ, bt_pfJ, bt_pfR, bt_ial, bt_bal, bt_zal, bt_lal, bt_aal, bt_ias, bt_bas, bt_zas, bt_las, bt_len, bt_iret, bt_zret, bt_lret, bt_vret, bt_cV, bt_cS, bt_tab, bt_tsw, bt_lk, bt_lsw, bt_acp, bt_mmax, bt_mmin, bt_can, bt_icmpeq, bt_ifeq, bt_icmpne, bt_ifne, bt_icmplt, bt_iflt, bt_icmpge, bt_ifge, bt_icmpgt, bt_ifgt, bt_icmple, bt_ifle, bt_ret, bt_kill, bt_kl, bt_ix, bt_nl, bt_sm, bt_sr, bt_sig, bt_tg, bt_loc, bt_locs, List.getElem?_cons_zero, List.getElem?_cons_succ, List.set_cons_zero, List.set_cons_succ, List.map_cons, List.map_nil, List.take_succ_cons, List.take_zero, List.drop_succ_cons, List.drop_zero, List.reverse_cons, List.reverse_nil, List.nil_append, List.cons_append, List.append_nil, List.length_cons, List.length_nil, List.replicate_succ, List.replicate_zero, Option.toList_some, Option.toList_none, Nat.reduceAdd, Nat.reduceSub, Nat.reduceLeDiff, Nat.zero_add, Nat.zero_le, true_and, and_true, Int.toNat_natCast, Sum.inl.injEq, Sum.inr.injEq, ↓reduceIte, Nat.reduceEqDiff, hρ z _ c2, c3, c4, c5, c6, c7, c8, c9, c10, c11, c12, c13, c14, c15, c16, c17, c18, c19, c20, c21, c22, c23, c24, bt_w_id, tX5_worthOf_69]
          have x1 : ((1 * 10 + (fM σ i : Int)) * 6 + ((bt_pcn C 16 : Int) - 1)).toNat = (10 + fM σ i) * 6 + (bt_pcn C 16 - 1) := by omega
          rw [x1, ez]
          repeat (refine And.intro (by omega) ?_)
          exact ⟨nG ζ - (i + 1), by omega, i + 1, by omega, rfl, by rw [bt_sn_s, if_pos hb, if_pos hq]; rfl⟩
        · rw [if_neg (by omega)]
          repeat (refine And.intro (by omega) ?_)
          simp (disch := omega) only [SpX9_worthAt, tX9_worthAt_0, bt_ild, bt_lld, bt_ald, bt_ist, bt_lst, bt_ast, bt_inc, bt_ic, bt_lc, bt_iadd, bt_isub, bt_imul, bt_iand, bt_ior, bt_ixor, bt_ishl, bt_ishr, bt_iushr, bt_ladd, bt_lsub, bt_lmul, bt_land, bt_lor, bt_lushr, bt_lshl, bt_idiv, bt_irem, bt_ldiv, bt_lrem, bt_lcmp, bt_i2l, bt_l2i, bt_i2b, bt_pop, bt_dup, bt_dup2, bt_gfI, bt_gfJ, bt_gfR, bt_pfI, bt_pfZ, bt_pfJ, bt_pfR, bt_ial, bt_bal, bt_zal, bt_lal, bt_aal, bt_ias, bt_bas, bt_zas, bt_las, bt_len, bt_iret, bt_zret, bt_lret, bt_vret, bt_cV, bt_cS, bt_tab, bt_tsw, bt_lk, bt_lsw, bt_acp, bt_mmax, bt_mmin, bt_can, bt_icmpeq, bt_ifeq, bt_icmpne, bt_ifne, bt_icmplt, bt_iflt, bt_icmpge, bt_ifge, bt_icmpgt, bt_ifgt, bt_icmple, bt_ifle, bt_ret, bt_kill, bt_kl, bt_ix, bt_nl, bt_sm, bt_sr, bt_sig, bt_tg, bt_loc, bt_locs, List.getElem?_cons_zero, List.getElem?_cons_succ, List.set_cons_zero, List.set_cons_succ, List.map_cons, List.map_nil, List.take_succ_cons, List.take_zero, List.drop_succ_cons, List.drop_zero, List.reverse_cons, List.reverse_nil, List.nil_append, List.cons_append, List.append_nil, List.length_cons, List.length_nil, List.replicate_succ, List.replicate_zero, Option.toList_some, Option.toList_none, Nat.reduceAdd, Nat.reduceSub, Nat.reduceLeDiff, Nat.zero_add, Nat.zero_le, true_and, and_true, Int.toNat_natCast, Sum.inl.injEq, Sum.inr.injEq, ↓reduceIte, Nat.reduceEqDiff, hρ z _ c2, c3, c4, c5, c6, c7, c8, c9, c10, c11, c12, c13, c14, c15, c16, c17, c18, c19, c20, c21, c22, c23, c24, bt_w_id, tX5_worthOf_69]
          have x1 : ((0 * 10 + (fM σ i : Int)) * 6 + ((bt_pcn C 16 : Int) - 1)).toNat = fM σ i * 6 + (bt_pcn C 16 - 1) := by omega
          rw [x1, ez]
          repeat (refine And.intro (by omega) ?_)
          exact ⟨nG ζ - (i + 1), by omega, i + 1, by omega, rfl, by rw [bt_sn_s, if_pos hb, if_neg hq]; rfl⟩
      · rw [if_neg hb]
        simp (disch := omega) only [bt_w_id, ↓reduceIte, tX5_worthOf_69, bt_ild, bt_lld, bt_ald, bt_ist, bt_lst, bt_ast, bt_inc, bt_ic, bt_lc, bt_iadd, bt_isub, bt_imul, bt_iand, bt_ior, bt_ixor, bt_ishl, bt_ishr, bt_iushr, bt_ladd, bt_lsub, bt_lmul, bt_land, bt_lor, bt_lushr, bt_lshl, bt_idiv, bt_irem, bt_ldiv, bt_lrem, bt_lcmp, bt_i2l, bt_l2i, bt_i2b, bt_pop, bt_dup, bt_dup2, bt_gfI, bt_gfJ, bt_gfR, bt_pfI, bt_pfZ, bt_pfJ, bt_pfR, bt_ial, bt_bal, bt_zal, bt_lal, bt_aal, bt_ias, bt_bas, bt_zas, bt_las, bt_len, bt_iret, bt_zret, bt_lret, bt_vret, bt_cV, bt_cS, bt_tab, bt_tsw, bt_lk, bt_lsw, bt_acp, bt_mmax, bt_mmin, bt_can, bt_icmpeq, bt_ifeq, bt_icmpne, bt_ifne, bt_icmplt, bt_iflt, bt_icmpge, bt_ifge, bt_icmpgt, bt_ifgt, bt_icmple, bt_ifle, bt_ret, bt_kill, bt_kl, bt_ix, bt_nl, bt_sm, bt_sr, bt_sig, bt_tg, bt_loc, bt_locs, List.getElem?_cons_zero, List.getElem?_cons_succ, List.set_cons_zero, List.set_cons_succ, List.map_cons, List.map_nil, List.take_succ_cons, List.take_zero, List.drop_succ_cons, List.drop_zero, List.reverse_cons, List.reverse_nil, List.nil_append, List.cons_append, List.append_nil, List.length_cons, List.length_nil, List.replicate_succ, List.replicate_zero, Option.toList_some, Option.toList_none, Nat.reduceAdd, Nat.reduceSub, Nat.reduceLeDiff, Nat.zero_add, Nat.zero_le, true_and, and_true, Int.toNat_natCast, Sum.inl.injEq, Sum.inr.injEq, ↓reduceIte, Nat.reduceEqDiff]
        exact ⟨nG ζ - (i + 1), by omega, i + 1, by omega, rfl, by rw [bt_sn_s, if_neg hb, Int.add_zero]; rfl⟩
