/-! Show.search -/
def SpX5_search : bt_Sp := fun As w Q => ∃ (ρ : Nat → Nat → Option Nat) (μ : Nat → Nat → Int) (z s : Nat), As = [.inr (.inr 19), .inr (.inr z), .inr (.inr s)] ∧ w = bt_wd ρ μ ∧ bt_Rf ρ ∧ z ∈ bt_zos ∧ s ∈ bt_sts ∧ ab_Z (bt_vw μ z) ∧ ab_S (bt_vw μ z) (bt_vw μ s) ∧ (0 ≤ μ 19 7 ∧ μ 19 7 ≤ 4995) ∧ (0 ≤ μ 19 8 ∧ μ 19 8 ≤ 6) ∧ ∀ μ' σ, ab_sq (bt_vw μ z) σ (bt_vw μ s) → bt_sn6 (nG (bt_vw μ z)) (bt_sx μ') = ab_pt (bt_vw μ z) σ (nG (bt_vw μ z)) 0 (fun _ => 0) (bt_sn6 (nG (bt_vw μ z)) (0, μ 19 7, μ 19 8, μ 33)) → μ' 19 5 = 1 → bt_fr (fun a => 19 ≤ a ∧ a ≤ 35) μ' μ → Q none (bt_wd ρ μ')
set_option maxHeartbeats 4000000 in
theorem mtX5_search : bt_Met yX5_search cX5_search 4 none 66 [2, 2, 2] SpX5_search := by
  refine lpX5_search mtX6_copy (by decide) mtX5_weighCrowds (by decide) mtX5_place (by decide) _ (fun As w Q _ hS => ?_)
  obtain ⟨ρ, μ, z, s, rfl, rfl, hρ, hz, hs, hZ, hSt, htk, hpc, hQ⟩ := hS
  have hzz := bt_zo2 z hz
  have hr := ab_rg hZ
  have vz : ∀ μ1, bt_fr (fun a => 19 ≤ a ∧ a ≤ 35) μ1 μ → bt_vw μ1 z = bt_vw μ z := fun μ1 hf => by
    funext j
    exact hf _ (by omega)
  generalize hζ : bt_vw μ z = ζ at *
  have vz : ∀ μ1, bt_fr (fun a => 19 ≤ a ∧ a ≤ 35) μ1 μ → bt_vw μ1 z = ζ := fun μ1 hf => by
    rw [← hζ]
    funext j
    exact hf _ (by omega)
  generalize hσ0 : bt_vw μ s = σ0 at *
  refine ⟨fun h' m st L w => st = [] ∧ ∃ (i : Nat) (μ1 : Nat → Nat → Int), w = bt_wd ρ μ1 ∧ bt_fr (fun a => 19 ≤ a ∧ a ≤ 35) μ1 μ ∧ L = [some (.inr (.inr 19)), some (.inr (.inr z)), some (.inr (.inr s)), some (.inl (i : Int))] ∧ ab_sq ζ (bt_vw μ1 29) σ0 ∧ (μ1 19 5 = 1 ∧ μ1 19 6 = 0 ∧ μ1 19 7 = μ 19 7 ∧ μ1 19 8 = μ 19 8 ∧ μ1 33 = μ 33) ∧
    (if h' = 20 then i ≤ 6 ∧ m = 100 - i ∧ ∀ p, p < i → μ1 34 p = 0
     else i ≤ 4 ∧ m = 50 - i ∧ (∀ p, p < 6 → μ1 34 p = 0) ∧ ∀ q k C, q ≤ nG ζ → k < i → C < 2 ^ q → μ1 35 (ab_ix5 q k C) = ab_mo ζ (bt_vw μ1 29) k (nG ζ - q) C), ?_, ?_, ?_⟩
  · simp (disch := omega) only [tX5_search_0, bt_ild, bt_lld, bt_ald, bt_ist, bt_lst, bt_ast, bt_inc, bt_ic, bt_lc, bt_iadd, bt_isub, bt_imul, bt_iand, bt_ior, bt_ixor, bt_ishl, bt_ishr, bt_iushr, bt_ladd, bt_lsub, bt_lmul, bt_land, bt_lor, bt_lushr, bt_lshl, bt_idiv, bt_irem, bt_ldiv, bt_lrem, bt_lcmp, bt_i2l, bt_l2i, bt_i2b, bt_pop, bt_dup, bt_dup2, bt_gfI, bt_gfJ, bt_gfR, bt_pfI, bt_pfZ, bt_pfJ, bt_pfR, bt_ial, bt_bal, bt_zal, bt_lal, bt_aal, bt_ias, bt_bas, bt_zas, bt_las, bt_len, bt_iret, bt_zret, bt_lret, bt_vret, bt_cV, bt_cS, bt_tab, bt_tsw, bt_lk, bt_lsw, bt_acp, bt_mmax, bt_mmin, bt_can, bt_icmpeq, bt_ifeq, bt_icmpne, bt_ifne, bt_icmplt, bt_iflt, bt_icmpge, bt_ifge, bt_icmpgt, bt_ifgt, bt_icmple, bt_ifle, bt_ret, bt_kill, bt_kl, bt_ix, bt_nl, bt_sm, bt_sr, bt_sig, bt_tg, bt_loc, bt_locs, List.getElem?_cons_zero, List.getElem?_cons_succ, List.set_cons_zero, List.set_cons_succ, List.map_cons, List.map_nil, List.take_succ_cons, List.take_zero, List.drop_succ_cons, List.drop_zero, List.reverse_cons, List.reverse_nil, List.nil_append, List.cons_append, List.append_nil, List.length_cons, List.length_nil, List.replicate_succ, List.replicate_zero, Option.toList_some, Option.toList_none, Nat.reduceAdd, Nat.reduceSub, Nat.reduceLeDiff, Nat.zero_add, Nat.zero_le, true_and, and_true, Int.toNat_natCast, Sum.inl.injEq, Sum.inr.injEq, ↓reduceIte, Nat.reduceEqDiff, sh_19, hρ 19 _ (by decide), rf_19_1, sh_29]
    refine ⟨by omega, Or.inr trivial, by omega, Or.inl trivial, by omega, by omega, ?_⟩
    refine ⟨ρ, _, 29, s, rfl, rfl, hρ, bt_m20.2, hs, fun μ1 he hf => ?_⟩
    simp (disch := omega) only [bt_ild, bt_lld, bt_ald, bt_ist, bt_lst, bt_ast, bt_inc, bt_ic, bt_lc, bt_iadd, bt_isub, bt_imul, bt_iand, bt_ior, bt_ixor, bt_ishl, bt_ishr, bt_iushr, bt_ladd, bt_lsub, bt_lmul, bt_land, bt_lor, bt_lushr, bt_lshl, bt_idiv, bt_irem, bt_ldiv, bt_lrem, bt_lcmp, bt_i2l, bt_l2i, bt_i2b, bt_pop, bt_dup, bt_dup2, bt_gfI, bt_gfJ, bt_gfR, bt_pfI, bt_pfZ, bt_pfJ, bt_pfR, bt_ial, bt_bal, bt_zal, bt_lal, bt_aal, bt_ias, bt_bas, bt_zas, bt_las, bt_len, bt_iret, bt_zret, bt_lret, bt_vret, bt_cV, bt_cS, bt_tab, bt_tsw, bt_lk, bt_lsw, bt_acp, bt_mmax, bt_mmin, bt_can, bt_icmpeq, bt_ifeq, bt_icmpne, bt_ifne, bt_icmplt, bt_iflt, bt_icmpge, bt_ifge, bt_icmpgt, bt_ifgt, bt_icmple, bt_ifle, bt_ret, bt_kill, bt_kl, bt_ix, bt_nl, bt_sm, bt_sr, bt_sig, bt_tg, bt_loc, bt_locs, List.getElem?_cons_zero, List.getElem?_cons_succ, List.set_cons_zero, List.set_cons_succ, List.map_cons, List.map_nil, List.take_succ_cons, List.take_zero, List.drop_succ_cons, List.drop_zero, List.reverse_cons, List.reverse_nil, List.nil_append, List.cons_append, List.append_nil, List.length_cons, List.length_nil, List.replicate_succ, List.replicate_zero, Option.toList_some, Option.toList_none, Nat.reduceAdd, Nat.reduceSub, Nat.reduceLeDiff, Nat.zero_add, Nat.zero_le, true_and, and_true, Int.toNat_natCast, Sum.inl.injEq, Sum.inr.injEq, ↓reduceIte, Nat.reduceEqDiff]
    have e19 : μ1 19 = bt_up (bt_up μ 19 5 1) 19 6 0 19 := hf 19 (by unfold bt_inS; omega)
    have cc : ∀ a, a ≠ 19 → bt_up (bt_up μ 19 5 1) 19 6 0 a = μ a := fun a ha => by rw [bt_up_cell ha, bt_up_cell ha]
    have hs19 : s ≠ 19 ∧ s + 1 ≠ 19 ∧ s + 2 ≠ 19 ∧ s + 3 ≠ 19 := by
      have := bt_st_ho s hs 20 bt_m20.1
      have h2 := bt_st_ho s hs 10 bt_m136.2.2.1
      omega
    refine ⟨100, 0, μ1, rfl, fun a ha => by rw [hf a (by unfold bt_inS; omega), cc a (by omega)], rfl, ?_, ⟨by rw [e19]; simp [bt_up], by rw [e19]; simp [bt_up], by rw [e19]; simp [bt_up], by rw [e19]; simp [bt_up], by rw [hf 33 (by unfold bt_inS; omega), cc 33 (by decide)]⟩, by omega, by omega, fun p hp => by omega⟩
    have h1 := ab_sq.cp hZ he
    refine h1.tr ?_
    rw [← hσ0]
    refine ab_sq.of (fun j hj => ?_)
    simp only [bt_vw]
    have : j = 0 ∨ j = 1 ∨ j = 2 ∨ j = 3 := by omega
    rcases this with rfl | rfl | rfl | rfl <;> exact cc _ (by omega)
  · rintro m st L w ⟨rfl, i, μ1, rfl, hfr, rfl, hsq, hx, hI⟩
    simp only [↓reduceIte] at hI
    obtain ⟨hi, rfl, hI⟩ := hI
    simp (disch := omega) only [tX5_search_20, bt_ild, bt_lld, bt_ald, bt_ist, bt_lst, bt_ast, bt_inc, bt_ic, bt_lc, bt_iadd, bt_isub, bt_imul, bt_iand, bt_ior, bt_ixor, bt_ishl, bt_ishr, bt_iushr, bt_ladd, bt_lsub, bt_lmul, bt_land, bt_lor, bt_lushr, bt_lshl, bt_idiv, bt_irem, bt_ldiv, bt_lrem, bt_lcmp, bt_i2l, bt_l2i, bt_i2b, bt_pop, bt_dup, bt_dup2, bt_gfI, bt_gfJ, bt_gfR, bt_pfI, bt_pfZ, bt_pfJ, bt_pfR, bt_ial, bt_bal, bt_zal, bt_lal, bt_aal, bt_ias, bt_bas, bt_zas, bt_las, bt_len, bt_iret, bt_zret, bt_lret, bt_vret, bt_cV, bt_cS, bt_tab, bt_tsw, bt_lk, bt_lsw, bt_acp, bt_mmax, bt_mmin, bt_can, bt_icmpeq, bt_ifeq, bt_icmpne, bt_ifne, bt_icmplt, bt_iflt, bt_icmpge, bt_ifge, bt_icmpgt, bt_ifgt, bt_icmple, bt_ifle, bt_ret, bt_kill, bt_kl, bt_ix, bt_nl, bt_sm, bt_sr, bt_sig, bt_tg, bt_loc, bt_locs, List.getElem?_cons_zero, List.getElem?_cons_succ, List.set_cons_zero, List.set_cons_succ, List.map_cons, List.map_nil, List.take_succ_cons, List.take_zero, List.drop_succ_cons, List.drop_zero, List.reverse_cons, List.reverse_nil, List.nil_append, List.cons_append, List.append_nil, List.length_cons, List.length_nil, List.replicate_succ, List.replicate_zero, Option.toList_some, Option.toList_none, Nat.reduceAdd, Nat.reduceSub, Nat.reduceLeDiff, Nat.zero_add, Nat.zero_le, true_and, and_true, Int.toNat_natCast, Sum.inl.injEq, Sum.inr.injEq, ↓reduceIte, Nat.reduceEqDiff, sh_19, hρ 19 _ (by decide), rf_19_3, sh_34, bt_w_id]
    by_cases hc : 6 ≤ i
    · rw [if_pos (by omega)]
      exact ⟨50, by omega, 0, μ1, rfl, hfr, rfl, hsq, hx, by omega, by omega, fun p hp => hI p (by omega), fun q k C _ hk _ => by omega⟩
    · rw [if_neg (by omega)]
      repeat (refine And.intro (by omega) ?_)
      refine ⟨100 - (i + 1), by omega, i + 1, _, rfl, fun a ha => ?_, rfl, ?_, ?_, by omega, rfl, fun p hp => ?_⟩
      · rw [bt_up_cell (by omega)]; exact hfr a ha
      · exact (ab_sq.of (fun j hj => by simp only [bt_vw]; rw [bt_up_cell (by omega)])).tr hsq
      · rw [bt_up_cell (by decide), bt_up_cell (by decide)]; exact hx
      · by_cases e : p = i
        · subst e; rw [bt_up_same]
        · rw [bt_up_ix e]; exact hI p (by omega)
  · rintro m st L w ⟨rfl, i, μ1, rfl, hfr, rfl, hsq, hx, hI⟩
    simp only [↓reduceIte, Nat.reduceEqDiff] at hI
    obtain ⟨hi, rfl, h34, hI⟩ := hI
    have v1 := vz μ1 hfr
    have S1 : ab_S ζ (bt_vw μ1 29) := ab_sq.S (ab_zq.rf ζ) hsq.sy hSt
    simp (disch := omega) only [tX5_search_41, bt_ild, bt_lld, bt_ald, bt_ist, bt_lst, bt_ast, bt_inc, bt_ic, bt_lc, bt_iadd, bt_isub, bt_imul, bt_iand, bt_ior, bt_ixor, bt_ishl, bt_ishr, bt_iushr, bt_ladd, bt_lsub, bt_lmul, bt_land, bt_lor, bt_lushr, bt_lshl, bt_idiv, bt_irem, bt_ldiv, bt_lrem, bt_lcmp, bt_i2l, bt_l2i, bt_i2b, bt_pop, bt_dup, bt_dup2, bt_gfI, bt_gfJ, bt_gfR, bt_pfI, bt_pfZ, bt_pfJ, bt_pfR, bt_ial, bt_bal, bt_zal, bt_lal, bt_aal, bt_ias, bt_bas, bt_zas, bt_las, bt_len, bt_iret, bt_zret, bt_lret, bt_vret, bt_cV, bt_cS, bt_tab, bt_tsw, bt_lk, bt_lsw, bt_acp, bt_mmax, bt_mmin, bt_can, bt_icmpeq, bt_ifeq, bt_icmpne, bt_ifne, bt_icmplt, bt_iflt, bt_icmpge, bt_ifge, bt_icmpgt, bt_ifgt, bt_icmple, bt_ifle, bt_ret, bt_kill, bt_kl, bt_ix, bt_nl, bt_sm, bt_sr, bt_sig, bt_tg, bt_loc, bt_locs, List.getElem?_cons_zero, List.getElem?_cons_succ, List.set_cons_zero, List.set_cons_succ, List.map_cons, List.map_nil, List.take_succ_cons, List.take_zero, List.drop_succ_cons, List.drop_zero, List.reverse_cons, List.reverse_nil, List.nil_append, List.cons_append, List.append_nil, List.length_cons, List.length_nil, List.replicate_succ, List.replicate_zero, Option.toList_some, Option.toList_none, Nat.reduceAdd, Nat.reduceSub, Nat.reduceLeDiff, Nat.zero_add, Nat.zero_le, true_and, and_true, Int.toNat_natCast, Sum.inl.injEq, Sum.inr.injEq, ↓reduceIte, Nat.reduceEqDiff, sh_19, bt_w_id]
    by_cases hc : 4 ≤ i
    · rw [if_pos (by omega)]
      refine ⟨by omega, nG ζ, by omega, ρ, μ1, z, 0, bt_vw μ1 29, fun _ => 0, rfl, rfl, hρ, hz, by rw [v1]; exact hZ, by rw [v1]; exact S1, by rw [v1]; omega, ?_, fun μ2 hs2 h19 _ _ hf2 => ?_⟩
      · rw [v1]
        refine ⟨⟨rfl, rfl, rfl⟩, fun q hq => by omega, fun p hp => by rw [h34 p (by omega)]; rfl, fun q k C h1 h2 h3 => hI q k C h1 (by omega) h3, ?_⟩
        unfold ab_sxr bt_sx
        rw [hx.2.1, hx.2.2.1, hx.2.2.2.1]
        exact ⟨Or.inl rfl, htk, hpc⟩
      · simp (disch := omega) only [bt_ild, bt_lld, bt_ald, bt_ist, bt_lst, bt_ast, bt_inc, bt_ic, bt_lc, bt_iadd, bt_isub, bt_imul, bt_iand, bt_ior, bt_ixor, bt_ishl, bt_ishr, bt_iushr, bt_ladd, bt_lsub, bt_lmul, bt_land, bt_lor, bt_lushr, bt_lshl, bt_idiv, bt_irem, bt_ldiv, bt_lrem, bt_lcmp, bt_i2l, bt_l2i, bt_i2b, bt_pop, bt_dup, bt_dup2, bt_gfI, bt_gfJ, bt_gfR, bt_pfI, bt_pfZ, bt_pfJ, bt_pfR, bt_ial, bt_bal, bt_zal, bt_lal, bt_aal, bt_ias, bt_bas, bt_zas, bt_las, bt_len, bt_iret, bt_zret, bt_lret, bt_vret, bt_cV, bt_cS, bt_tab, bt_tsw, bt_lk, bt_lsw, bt_acp, bt_mmax, bt_mmin, bt_can, bt_icmpeq, bt_ifeq, bt_icmpne, bt_ifne, bt_icmplt, bt_iflt, bt_icmpge, bt_ifge, bt_icmpgt, bt_ifgt, bt_icmple, bt_ifle, bt_ret, bt_kill, bt_kl, bt_ix, bt_nl, bt_sm, bt_sr, bt_sig, bt_tg, bt_loc, bt_locs, List.getElem?_cons_zero, List.getElem?_cons_succ, List.set_cons_zero, List.set_cons_succ, List.map_cons, List.map_nil, List.take_succ_cons, List.take_zero, List.drop_succ_cons, List.drop_zero, List.reverse_cons, List.reverse_nil, List.nil_append, List.cons_append, List.append_nil, List.length_cons, List.length_nil, List.replicate_succ, List.replicate_zero, Option.toList_some, Option.toList_none, Nat.reduceAdd, Nat.reduceSub, Nat.reduceLeDiff, Nat.zero_add, Nat.zero_le, true_and, and_true, Int.toNat_natCast, Sum.inl.injEq, Sum.inr.injEq, ↓reduceIte, Nat.reduceEqDiff]
        rw [v1] at hs2
        refine hQ μ2 (bt_vw μ1 29) hsq ?_ (by rw [h19 5 (by omega)]; exact hx.1) (fun a ha => by rw [hf2 a (by unfold bt_inP; omega)]; exact hfr a ha)
        rw [hs2]
        congr 1
        unfold bt_sx
        rw [hx.2.1, hx.2.2.1, hx.2.2.2.1, hx.2.2.2.2]
    · rw [if_neg (by omega)]
      refine ⟨by omega, ρ, μ1, z, i, rfl, rfl, hρ, hz, by omega, by rw [v1]; exact hZ, by rw [v1]; exact S1, fun μ2 h1 h2 hf2 => ?_⟩
      rw [v1] at h1
      simp (disch := omega) only [bt_ild, bt_lld, bt_ald, bt_ist, bt_lst, bt_ast, bt_inc, bt_ic, bt_lc, bt_iadd, bt_isub, bt_imul, bt_iand, bt_ior, bt_ixor, bt_ishl, bt_ishr, bt_iushr, bt_ladd, bt_lsub, bt_lmul, bt_land, bt_lor, bt_lushr, bt_lshl, bt_idiv, bt_irem, bt_ldiv, bt_lrem, bt_lcmp, bt_i2l, bt_l2i, bt_i2b, bt_pop, bt_dup, bt_dup2, bt_gfI, bt_gfJ, bt_gfR, bt_pfI, bt_pfZ, bt_pfJ, bt_pfR, bt_ial, bt_bal, bt_zal, bt_lal, bt_aal, bt_ias, bt_bas, bt_zas, bt_las, bt_len, bt_iret, bt_zret, bt_lret, bt_vret, bt_cV, bt_cS, bt_tab, bt_tsw, bt_lk, bt_lsw, bt_acp, bt_mmax, bt_mmin, bt_can, bt_icmpeq, bt_ifeq, bt_icmpne, bt_ifne, bt_icmplt, bt_iflt, bt_icmpge, bt_ifge, bt_icmpgt, bt_ifgt, bt_icmple, bt_ifle, bt_ret, bt_kill, bt_kl, bt_ix, bt_nl, bt_sm, bt_sr, bt_sig, bt_tg, bt_loc, bt_locs, List.getElem?_cons_zero, List.getElem?_cons_succ, List.set_cons_zero, List.set_cons_succ, List.map_cons, List.map_nil, List.take_succ_cons, List.take_zero, List.drop_succ_cons, List.drop_zero, List.reverse_cons, List.reverse_nil, List.nil_append, List.cons_append, List.append_nil, List.length_cons, List.length_nil, List.replicate_succ, List.replicate_zero, Option.toList_some, Option.toList_none, Nat.reduceAdd, Nat.reduceSub, Nat.reduceLeDiff, Nat.zero_add, Nat.zero_le, true_and, and_true, Int.toNat_natCast, Sum.inl.injEq, Sum.inr.injEq, ↓reduceIte, Nat.reduceEqDiff]
      have v29 : bt_vw μ2 29 0 = bt_vw μ1 29 0 ∧ bt_vw μ2 29 1 = bt_vw μ1 29 1 ∧ bt_vw μ2 29 2 = bt_vw μ1 29 2 ∧ bt_vw μ2 29 3 = bt_vw μ1 29 3 := ⟨hf2 _ (by omega), hf2 _ (by omega), hf2 _ (by omega), hf2 _ (by omega)⟩
      have emo : ∀ k d C, ab_mo ζ (bt_vw μ2 29) k d C = ab_mo ζ (bt_vw μ1 29) k d C := by
        intro k d
        induction d with
        | zero =>
          intro C
          unfold ab_mo ab_wo fM
          rw [v29.2.2.1]
        | succ d ih =>
          intro C
          unfold ab_mo
          rw [ih, ih]
      refine ⟨50 - (i + 1), by omega, i + 1, μ2, rfl, fun a ha => by rw [hf2 a (by omega)]; exact hfr a ha, rfl, ?_, by rw [hf2 19 (by omega), hf2 33 (by omega)]; exact hx, by omega, rfl, fun p hp => by rw [hf2 34 (by omega)]; exact h34 p hp, fun q k C g1 g2 g3 => ?_⟩
      · refine (ab_sq.of (fun j hj => ?_)).tr hsq
        have : j = 0 ∨ j = 1 ∨ j = 2 ∨ j = 3 := by omega
        rcases this with rfl | rfl | rfl | rfl
        · exact v29.1
        · exact v29.2.1
        · exact v29.2.2.1
        · exact v29.2.2.2
      · rw [emo]
        have h64 : 2 ^ q ≤ 64 := Nat.le_trans (Nat.pow_le_pow_right (by decide) (show q ≤ 6 by omega)) (by decide)
        by_cases e : k = i
        · subst e; exact h1 q C g1 g3
        · rw [h2 q k C (by omega) (by omega) e]; exact hI q k C g1 (by omega) g3
