/-! Hour.setsChoosing, Zoo.setsDrawnBy, Zoo.foePairs, Memory -/
/-- the pen that one who likes the kinds K would choose alone -/
def ab_pick (ζ σ : Nat → Nat → Int) (K : Nat) : Int := (hn_pk (fun p => decide (0 < ζ 4 p)) (hn_w (ζ 9) (fW σ) (fM σ) (fK ζ) (nG ζ) K) (nP ζ)).1
def SpX1_setsChoosing : bt_Sp := fun As w Q => ∃ (ρ : Nat → Nat → Option Nat) (μ : Nat → Nat → Int) (h z s : Nat) (q : Int), As = [.inr (.inr h), .inr (.inr z), .inr (.inr s), .inl q] ∧ w = bt_wd ρ μ ∧ bt_Rf ρ ∧ h ∈ bt_hos ∧ z ∈ bt_zos ∧ s ∈ bt_sts ∧ ab_Z (bt_vw μ z) ∧ ab_S (bt_vw μ z) (bt_vw μ s) ∧ ∀ μ', bt_fr (fun a => h ≤ a ∧ a ≤ h + 8) μ' μ → Q (some (.inl ((bt_bn (fun K => decide (ab_pick (bt_vw μ z) (bt_vw μ s) K = bt_w q)) 16 : Nat) : Int))) (bt_wd ρ μ')
set_option maxHeartbeats 4000000 in
theorem mtX1_setsChoosing : bt_Met yX1_setsChoosing cX1_setsChoosing 6 (some .int) 3 [2, 2, 2, 0] SpX1_setsChoosing := by
  refine lpX1_setsChoosing mtX1_weigh (by decide) mtX1_freeSeats (by decide) mtX1_choice (by decide) _ (fun As w Q _ hS => ?_)
  obtain ⟨ρ, μ, h, z, s, q, rfl, rfl, hρ, hh, hz, hs, hZ, hSt, hQ⟩ := hS
  have hHq := ab_Hq hZ hSt
  obtain ⟨⟨hn, hn6, hg⟩, ⟨hA, hA5, hP, hP6⟩, hl, hse, hsee⟩ := id hHq
  obtain ⟨a1, a2, a3, a4, a5, a6, a7, a8, a9, a10, a11, a12, a13, a14, a15, a16, a17, a18, a19⟩ := bt_ho_f h hh
  obtain ⟨c1, c2, c3, c4, c5, c6, c7, c8, c9, c10, c11, c12, c13, c14, c15, c16, c17, c18, c19, c20, c21, c22, c23, c24, c25⟩ := bt_zo_f z hz
  have d1 := bt_st_ho s hs h hh
  have d2 := bt_ho_zo h hh z hz
  generalize hζ : bt_vw μ z = ζ at *
  generalize hσ : bt_vw μ s = σ at *
  refine ⟨fun h' m st L w => st = [] ∧ ∃ (i : Nat) (μ1 : Nat → Nat → Int), w = bt_wd ρ μ1 ∧ i ≤ 16 ∧ m = 16 - i ∧ L = [some (.inr (.inr h)), some (.inr (.inr z)), some (.inr (.inr s)), some (.inl q), some (.inl ((bt_bn (fun K => decide (ab_pick ζ σ K = bt_w q)) i : Nat) : Int)), some (.inl (i : Int))] ∧ bt_fr (fun a => h ≤ a ∧ a ≤ h + 8) μ1 μ ∧ bt_Wg μ1 (μ (z + 9)) h (nG ζ) (fW σ) (fM σ) (fK ζ) ∧ ∀ p, p < 6 → μ1 (h + 4) p = μ (z + 4) p, ?_, ?_⟩
  · simp (disch := omega) only [tX1_setsChoosing_0, bt_ild, bt_lld, bt_ald, bt_ist, bt_lst, bt_ast, bt_inc, bt_ic, bt_lc, bt_iadd, bt_isub, bt_imul, bt_iand, bt_ior, bt_ixor, bt_ishl, bt_ishr, bt_iushr, bt_ladd, bt_lsub, bt_lmul, bt_land, bt_lor, bt_lushr, bt_lshl, bt_idiv, bt_irem, bt_ldiv, bt_lrem, bt_lcmp, bt_i2l, bt_l2i, bt_i2b, bt_pop, bt_dup, bt_dup2, bt_gfI, bt_gfJ, bt_gfR, bt_pfI, bt_pfZ, bt_pfJ, bt_pfR, bt_ial, bt_bal, bt_zal, bt_lal, bt_aal, bt_ias, bt_bas, bt_zas, bt_las, bt_len, bt_iret, bt_zret, bt_lret, bt_vret, bt_cV, bt_cS, bt_tab, bt_tsw, bt_lk, bt_lsw, bt_acp, bt_mmax, bt_mmin, bt_can, bt_icmpeq, bt_ifeq, bt_icmpne, bt_ifne, bt_icmplt, bt_iflt, bt_icmpge, bt_ifge, bt_icmpgt, bt_ifgt, bt_icmple, bt_ifle, bt_ret, bt_kill, bt_kl, bt_ix, bt_nl, bt_sm, bt_sr, bt_sig, bt_tg, bt_loc, bt_locs, List.getElem?_cons_zero, List.getElem?_cons_succ, List.set_cons_zero, List.set_cons_succ, List.map_cons, List.map_nil, List.take_succ_cons, List.take_zero, List.drop_succ_cons, List.drop_zero, List.reverse_cons, List.reverse_nil, List.nil_append, List.cons_append, List.append_nil, List.length_cons, List.length_nil, List.replicate_succ, List.replicate_zero, Option.toList_some, Option.toList_none, Nat.reduceAdd, Nat.reduceSub, Nat.reduceLeDiff, Nat.zero_add, Nat.zero_le, true_and, and_true, Int.toNat_natCast, Sum.inl.injEq, Sum.inr.injEq, ↓reduceIte, Nat.reduceEqDiff, hρ h _ a2, a3, a4, a5, a6, a7, a8, a9, a10, a11, a12, a13, a14, a15, a16, a17, a18, a19, bt_w_id]
    refine ⟨by omega, ρ, μ, h, z, s, _, _, _, _, rfl, rfl, hρ, hh, hz, hs, ⟨hn, hn6, hg⟩, fun μ' hW hf => ?_⟩
    simp (disch := omega) only [bt_ild, bt_lld, bt_ald, bt_ist, bt_lst, bt_ast, bt_inc, bt_ic, bt_lc, bt_iadd, bt_isub, bt_imul, bt_iand, bt_ior, bt_ixor, bt_ishl, bt_ishr, bt_iushr, bt_ladd, bt_lsub, bt_lmul, bt_land, bt_lor, bt_lushr, bt_lshl, bt_idiv, bt_irem, bt_ldiv, bt_lrem, bt_lcmp, bt_i2l, bt_l2i, bt_i2b, bt_pop, bt_dup, bt_dup2, bt_gfI, bt_gfJ, bt_gfR, bt_pfI, bt_pfZ, bt_pfJ, bt_pfR, bt_ial, bt_bal, bt_zal, bt_lal, bt_aal, bt_ias, bt_bas, bt_zas, bt_las, bt_len, bt_iret, bt_zret, bt_lret, bt_vret, bt_cV, bt_cS, bt_tab, bt_tsw, bt_lk, bt_lsw, bt_acp, bt_mmax, bt_mmin, bt_can, bt_icmpeq, bt_ifeq, bt_icmpne, bt_ifne, bt_icmplt, bt_iflt, bt_icmpge, bt_ifge, bt_icmpgt, bt_ifgt, bt_icmple, bt_ifle, bt_ret, bt_kill, bt_kl, bt_ix, bt_nl, bt_sm, bt_sr, bt_sig, bt_tg, bt_loc, bt_locs, List.getElem?_cons_zero, List.getElem?_cons_succ, List.set_cons_zero, List.set_cons_succ, List.map_cons, List.map_nil, List.take_succ_cons, List.take_zero, List.drop_succ_cons, List.drop_zero, List.reverse_cons, List.reverse_nil, List.nil_append, List.cons_append, List.append_nil, List.length_cons, List.length_nil, List.replicate_succ, List.replicate_zero, Option.toList_some, Option.toList_none, Nat.reduceAdd, Nat.reduceSub, Nat.reduceLeDiff, Nat.zero_add, Nat.zero_le, true_and, and_true, Int.toNat_natCast, Sum.inl.injEq, Sum.inr.injEq, ↓reduceIte, Nat.reduceEqDiff, hρ h _ a2, a3, a4, a5, a6, a7, a8, a9, a10, a11, a12, a13, a14, a15, a16, a17, a18, a19, bt_w_id]
    refine ⟨by omega, ρ, μ', h, z, rfl, rfl, hρ, hh, hz, fun μ2 h2 hf2 => ?_⟩
    simp (disch := omega) only [bt_ild, bt_lld, bt_ald, bt_ist, bt_lst, bt_ast, bt_inc, bt_ic, bt_lc, bt_iadd, bt_isub, bt_imul, bt_iand, bt_ior, bt_ixor, bt_ishl, bt_ishr, bt_iushr, bt_ladd, bt_lsub, bt_lmul, bt_land, bt_lor, bt_lushr, bt_lshl, bt_idiv, bt_irem, bt_ldiv, bt_lrem, bt_lcmp, bt_i2l, bt_l2i, bt_i2b, bt_pop, bt_dup, bt_dup2, bt_gfI, bt_gfJ, bt_gfR, bt_pfI, bt_pfZ, bt_pfJ, bt_pfR, bt_ial, bt_bal, bt_zal, bt_lal, bt_aal, bt_ias, bt_bas, bt_zas, bt_las, bt_len, bt_iret, bt_zret, bt_lret, bt_vret, bt_cV, bt_cS, bt_tab, bt_tsw, bt_lk, bt_lsw, bt_acp, bt_mmax, bt_mmin, bt_can, bt_icmpeq, bt_ifeq, bt_icmpne, bt_ifne, bt_icmplt, bt_iflt, bt_icmpge, bt_ifge, bt_icmpgt, bt_ifgt, bt_icmple, bt_ifle, bt_ret, bt_kill, bt_kl, bt_ix, bt_nl, bt_sm, bt_sr, bt_sig, bt_tg, bt_loc, bt_locs, List.getElem?_cons_zero, List.getElem?_cons_succ, List.set_cons_zero, List.set_cons_succ, List.map_cons, List.map_nil, List.take_succ_cons, List.take_zero, List.drop_succ_cons, List.drop_zero, List.reverse_cons, List.reverse_nil, List.nil_append, List.cons_append, List.append_nil, List.length_cons, List.length_nil, List.replicate_succ, List.replicate_zero, Option.toList_some, Option.toList_none, Nat.reduceAdd, Nat.reduceSub, Nat.reduceLeDiff, Nat.zero_add, Nat.zero_le, true_and, and_true, Int.toNat_natCast, Sum.inl.injEq, Sum.inr.injEq, ↓reduceIte, Nat.reduceEqDiff, hρ h _ a2, a3, a4, a5, a6, a7, a8, a9, a10, a11, a12, a13, a14, a15, a16, a17, a18, a19, bt_w_id]
    have ez : μ' (z + 4) = μ (z + 4) := hf _ (by omega)
    obtain ⟨w1, w2, w3⟩ := hW
    refine ⟨16, 0, μ2, rfl, by omega, by omega, rfl, fun a ha => by rw [hf2 a (by omega), hf a (by omega)], ⟨fun p hp => ?_, fun p hp => ?_, fun k hk p hp => ?_⟩, fun p hp => by rw [(h2 p hp).1, ez]⟩
    · rw [hf2 (h + 1) (by omega)]; exact w1 p hp
    · rw [hf2 (h + 2) (by omega)]; exact w2 p hp
    · rw [hf2 (h + 3) (by omega)]; exact w3 k hk p hp
  · rintro m st L w ⟨rfl, i, μ1, rfl, hi, rfl, rfl, hfr, hW, hse1⟩
    have e1 : μ1 z = μ z := hfr z (by omega)
    simp (disch := omega) only [tX1_setsChoosing_17, tX1_setsChoosing_44, bt_ild, bt_lld, bt_ald, bt_ist, bt_lst, bt_ast, bt_inc, bt_ic, bt_lc, bt_iadd, bt_isub, bt_imul, bt_iand, bt_ior, bt_ixor, bt_ishl, bt_ishr, bt_iushr, bt_ladd, bt_lsub, bt_lmul, bt_land, bt_lor, bt_lushr, bt_lshl, bt_idiv, bt_irem, bt_ldiv, bt_lrem, bt_lcmp, bt_i2l, bt_l2i, bt_i2b, bt_pop, bt_dup, bt_dup2, bt_gfI, bt_gfJ, bt_gfR, bt_pfI, bt_pfZ, bt_pfJ, bt_pfR, bt_ial, bt_bal, bt_zal, bt_lal, bt_aal, bt_ias, bt_bas, bt_zas, bt_las, bt_len, bt_iret, bt_zret, bt_lret, bt_vret, bt_cV, bt_cS, bt_tab, bt_tsw, bt_lk, bt_lsw, bt_acp, bt_mmax, bt_mmin, bt_can, bt_icmpeq, bt_ifeq, bt_icmpne, bt_ifne, bt_icmplt, bt_iflt, bt_icmpge, bt_ifge, bt_icmpgt, bt_ifgt, bt_icmple, bt_ifle, bt_ret, bt_kill, bt_kl, bt_ix, bt_nl, bt_sm, bt_sr, bt_sig, bt_tg, bt_loc, bt_locs, List.getElem?_cons_zero, List.getElem?_cons_succ, List.set_cons_zero, List.set_cons_succ, List.map_cons, List.map_nil, List.take_succ_cons, List.take_zero, List.drop_succ_cons, List.drop_zero, List.reverse_cons, List.reverse_nil, List.nil_append, List.cons_append, List.append_nil, List.length_cons, List.length_nil, List.replicate_succ, List.replicate_zero, Option.toList_some, Option.toList_none, Nat.reduceAdd, Nat.reduceSub, Nat.reduceLeDiff, Nat.zero_add, Nat.zero_le, true_and, and_true, Int.toNat_natCast, Sum.inl.injEq, Sum.inr.injEq, ↓reduceIte, Nat.reduceEqDiff, hρ h _ a2, a3, a4, a5, a6, a7, a8, a9, a10, a11, a12, a13, a14, a15, a16, a17, a18, a19, hρ z _ c2, c3, c4, c5, c6, c7, c8, c9, c10, c11, c12, c13, c14, c15, c16, c17, c18, c19, c20, c21, c22, c23, c24, e1, bt_w_id]
    by_cases hc : 16 ≤ i
    · rw [if_pos (by omega)]
      have : i = 16 := by omega
      subst this
      exact hQ μ1 hfr
    · rw [if_neg (by omega)]
      have hwt : ∀ p, p < nP ζ → hn_wt μ1 h i p = hn_w (μ (z + 9)) (fW σ) (fM σ) (fK ζ) (nG ζ) i p := fun p hp => hn_w_wt hW (fun g hg2 => (hg g hg2).2.2.2.2.2) (by omega)
      have hpk : (hn_pk (fun p => decide (0 < μ1 (h + 4) p)) (hn_wt μ1 h i) (nP ζ)).1 = ab_pick ζ σ i := by
        unfold ab_pick
        rw [hn_pk_congr (ok' := fun p => decide (0 < ζ 4 p)) (wt' := hn_w (ζ 9) (fW σ) (fM σ) (fK ζ) (nG ζ) i) (fun p hp => ⟨by rw [hse1 p (by omega), ← hζ]; rfl, by rw [hwt p hp, ← hζ]; rfl⟩)]
      refine ⟨by omega, ρ, μ1, h, z, i, nP ζ, rfl, rfl, hρ, hh, hz, by omega, by rw [e1]; exact hP, hP6, fun p hp => ?_, ?_⟩
      · have q1 := hn_w_rg (wh := fW σ) (kd := fK ζ) hn6 (fun g hg2 => (hg g hg2).2.2.2.1) hsee i p
        have q2 := hse p hp
        rw [hwt p hp, hse1 p (by omega)]
        omega
      · rw [hpk]
        have hr : -1 ≤ ab_pick ζ σ i ∧ ab_pick ζ σ i < 6 := by
          rw [← hpk]
          rcases hn_pk_of (ok := fun p => decide (0 < μ1 (h + 4) p)) (wt := hn_wt μ1 h i) (n := nP ζ) with h1 | ⟨p, h1, h2, -⟩ <;> omega
        simp (disch := omega) only [bt_ild, bt_lld, bt_ald, bt_ist, bt_lst, bt_ast, bt_inc, bt_ic, bt_lc, bt_iadd, bt_isub, bt_imul, bt_iand, bt_ior, bt_ixor, bt_ishl, bt_ishr, bt_iushr, bt_ladd, bt_lsub, bt_lmul, bt_land, bt_lor, bt_lushr, bt_lshl, bt_idiv, bt_irem, bt_ldiv, bt_lrem, bt_lcmp, bt_i2l, bt_l2i, bt_i2b, bt_pop, bt_dup, bt_dup2, bt_gfI, bt_gfJ, bt_gfR, bt_pfI, bt_pfZ, bt_pfJ, bt_pfR, bt_ial, bt_bal, bt_zal, bt_lal, bt_aal, bt_ias, bt_bas, bt_zas, bt_las, bt_len, bt_iret, bt_zret, bt_lret, bt_vret, bt_cV, bt_cS, bt_tab, bt_tsw, bt_lk, bt_lsw, bt_acp, bt_mmax, bt_mmin, bt_can, bt_icmpeq, bt_ifeq, bt_icmpne, bt_ifne, bt_icmplt, bt_iflt, bt_icmpge, bt_ifge, bt_icmpgt, bt_ifgt, bt_icmple, bt_ifle, bt_ret, bt_kill, bt_kl, bt_ix, bt_nl, bt_sm, bt_sr, bt_sig, bt_tg, bt_loc, bt_locs, List.getElem?_cons_zero, List.getElem?_cons_succ, List.set_cons_zero, List.set_cons_succ, List.map_cons, List.map_nil, List.take_succ_cons, List.take_zero, List.drop_succ_cons, List.drop_zero, List.reverse_cons, List.reverse_nil, List.nil_append, List.cons_append, List.append_nil, List.length_cons, List.length_nil, List.replicate_succ, List.replicate_zero, Option.toList_some, Option.toList_none, Nat.reduceAdd, Nat.reduceSub, Nat.reduceLeDiff, Nat.zero_add, Nat.zero_le, true_and, and_true, Int.toNat_natCast, Sum.inl.injEq, Sum.inr.injEq, ↓reduceIte, Nat.reduceEqDiff, bt_w_id]
        by_cases hb : ab_pick ζ σ i = bt_w q
        · rw [if_pos hb, bo_setbit (bt_bn_lt _ _) (by omega)]
          exact ⟨16 - (i + 1), by omega, i + 1, μ1, rfl, by omega, rfl, by simp [bt_bn, hb], hfr, hW, hse1⟩
        · rw [if_neg hb]
          exact ⟨16 - (i + 1), by omega, i + 1, μ1, rfl, by omega, rfl, by simp [bt_bn, hb], hfr, hW, hse1⟩
def SpX9_setsDrawnBy : bt_Sp := fun As w Q => ∃ (ρ : Nat → Nat → Option Nat) (μ : Nat → Nat → Int) (z g mo kd : Nat), As = [.inr (.inr z), .inl (g : Int), .inl (mo : Int)] ∧ w = bt_wd ρ μ ∧ bt_Rf ρ ∧ z ∈ bt_zos ∧ g < 6 ∧ mo < 10 ∧ μ (z + 5) g = (kd : Int) ∧ kd < 4 ∧ (∀ k, k < 120 → 0 ≤ μ (z + 9) k ∧ μ (z + 9) k ≤ 99) ∧ Q (some (.inl ((bt_bn (fun K => decide (0 < μ (z + 9) ((if K.testBit kd then 10 + mo else mo) * 6))) 16 : Nat) : Int))) w
set_option maxHeartbeats 4000000 in
theorem mtX9_setsDrawnBy : bt_Met yX9_setsDrawnBy cX9_setsDrawnBy 5 (some .int) 2 [2, 0, 0] SpX9_setsDrawnBy := by
  refine lpX9_setsDrawnBy mtX9_worthAt (by decide) _ (fun As w Q _ hS => ?_)
  obtain ⟨ρ, μ, z, g, mo, kd, rfl, rfl, hρ, hz, hg, hmo, hkd, hk4, hsee, hQ⟩ := hS
  obtain ⟨c1, c2, c3, c4, c5, c6, c7, c8, c9, c10, c11, c12, c13, c14, c15, c16, c17, c18, c19, c20, c21, c22, c23, c24, c25⟩ := bt_zo_f z hz
  refine ⟨fun h' m st L w => st = [] ∧ w = bt_wd ρ μ ∧ ∃ (i : Nat), i ≤ 16 ∧ m = 16 - i ∧ L = [some (.inr (.inr z)), some (.inl (g : Int)), some (.inl (mo : Int)), some (.inl ((bt_bn (fun K => decide (0 < μ (z + 9) ((if K.testBit kd then 10 + mo else mo) * 6))) i : Nat) : Int)), some (.inl (i : Int))], ?_, ?_⟩
  · simp (disch := omega) only [tX9_setsDrawnBy_0, bt_ild, bt_lld, bt_ald, bt_ist, bt_lst, bt_ast, bt_inc, bt_ic, bt_lc, bt_iadd, bt_isub, bt_imul, bt_iand, bt_ior, bt_ixor, bt_ishl, bt_ishr, bt_iushr, bt_ladd, bt_lsub, bt_lmul, bt_land, bt_lor, bt_lushr, bt_lshl, bt_idiv, bt_irem, bt_ldiv, bt_lrem, bt_lcmp, bt_i2l, bt_l2i, bt_i2b, bt_pop, bt_dup, bt_dup2, bt_gfI, bt_gfJ, bt_gfR, bt_pfI, bt_pfZ, bt_pfJ, bt_pfR, bt_ial, bt_bal, bt_zal, bt_lal, bt_aal, bt_ias, bt_bas, bt_zas, bt_las, bt_len, bt_iret, bt_zret, bt_lret, bt_vret, bt_cV, bt_cS, bt_tab, bt_tsw, bt_lk, bt_lsw, bt_acp, bt_mmax, bt_mmin, bt_can, bt_icmpeq, bt_ifeq, bt_icmpne, bt_ifne, bt_icmplt, bt_iflt, bt_icmpge, bt_ifge, bt_icmpgt, bt_ifgt, bt_icmple, bt_ifle, bt_ret, bt_kill, bt_kl, bt_ix, bt_nl, bt_sm, bt_sr, bt_sig, bt_tg, bt_loc, bt_locs, List.getElem?_cons_zero, List.getElem?_cons_succ, List.set_cons_zero, List.set_cons_succ, List.map_cons, List.map_nil, List.take_succ_cons, List.take_zero, List.drop_succ_cons, List.drop_zero, List.reverse_cons, List.reverse_nil, List.nil_append, List.cons_append, List.append_nil, List.length_cons, List.length_nil, List.replicate_succ, List.replicate_zero, Option.toList_some, Option.toList_none, Nat.reduceAdd, Nat.reduceSub, Nat.reduceLeDiff, Nat.zero_add, Nat.zero_le, true_and, and_true, Int.toNat_natCast, Sum.inl.injEq, Sum.inr.injEq, ↓reduceIte, Nat.reduceEqDiff]
    exact ⟨16, 0, by omega, by omega, rfl⟩
  · rintro m st L w ⟨rfl, rfl, i, hi, rfl, rfl⟩
    simp (disch := omega) only [tX9_setsDrawnBy_5, tX9_setsDrawnBy_39, SpX9_worthAt, tX9_worthAt_0, bt_ild, bt_lld, bt_ald, bt_ist, bt_lst, bt_ast, bt_inc, bt_ic, bt_lc, bt_iadd, bt_isub, bt_imul, bt_iand, bt_ior, bt_ixor, bt_ishl, bt_ishr, bt_iushr, bt_ladd, bt_lsub, bt_lmul, bt_land, bt_lor, bt_lushr, bt_lshl, bt_idiv, bt_irem, bt_ldiv, bt_lrem, bt_lcmp, bt_i2l, bt_l2i, bt_i2b, bt_pop, bt_dup, bt_dup2, bt_gfI, bt_gfJ, bt_gfR, bt_pfI, bt_pfZ, bt_pfJ, bt_pfR, bt_ial, bt_bal, bt_zal, bt_lal, bt_aal, bt_ias, bt_bas, bt_zas, bt_las, bt_len, bt_iret, bt_zret, bt_lret, bt_vret, bt_cV, bt_cS, bt_tab, bt_tsw, bt_lk, bt_lsw, bt_acp, bt_mmax, bt_mmin, bt_can, bt_icmpeq, bt_ifeq, bt_icmpne, bt_ifne, bt_icmplt, bt_iflt, bt_icmpge, bt_ifge, bt_icmpgt, bt_ifgt, bt_icmple, bt_ifle, bt_ret, bt_kill, bt_kl, bt_ix, bt_nl, bt_sm, bt_sr, bt_sig, bt_tg, bt_loc, bt_locs, List.getElem?_cons_zero, List.getElem?_cons_succ, List.set_cons_zero, List.set_cons_succ, List.map_cons, List.map_nil, List.take_succ_cons, List.take_zero, List.drop_succ_cons, List.drop_zero, List.reverse_cons, List.reverse_nil, List.nil_append, List.cons_append, List.append_nil, List.length_cons, List.length_nil, List.replicate_succ, List.replicate_zero, Option.toList_some, Option.toList_none, Nat.reduceAdd, Nat.reduceSub, Nat.reduceLeDiff, Nat.zero_add, Nat.zero_le, true_and, and_true, Int.toNat_natCast, Sum.inl.injEq, Sum.inr.injEq, ↓reduceIte, Nat.reduceEqDiff, hρ z _ c2, c3, c4, c5, c6, c7, c8, c9, c10, c11, c12, c13, c14, c15, c16, c17, c18, c19, c20, c21, c22, c23, c24, bt_w_id, hkd]
    by_cases hc : 16 ≤ i
    · rw [if_pos (by omega)]
      have : i = 16 := by omega
      subst this
      exact hQ
    · rw [if_neg (by omega), bo_bit (by omega) (by omega)]
      by_cases hb : i.testBit kd
      · have q := hsee ((10 + mo) * 6) (by omega)
        simp (disch := omega) only [hb, if_true, bt_w_id]
        have x1 : (((1 : Int) * 10 + (mo : Int)) * 6 + 0).toNat = (10 + mo) * 6 := by omega
        rw [x1]
        repeat (refine And.intro (by omega) ?_)
        rw [bt_w_id (by omega) (by omega)]
        split
        next h0 => exact ⟨16 - (i + 1), by omega, i + 1, by omega, rfl, by simp [bt_bn, hb, show ¬ 0 < μ (z + 9) ((10 + mo) * 6) by omega]⟩
        next h0 =>
          rw [bo_setbit (bt_bn_lt _ _) (by omega)]
          exact ⟨16 - (i + 1), by omega, i + 1, by omega, rfl, by simp [bt_bn, hb, show 0 < μ (z + 9) ((10 + mo) * 6) by omega]⟩
      · have q := hsee (mo * 6) (by omega)
        simp (disch := omega) only [hb, if_true, bt_w_id]
        have x1 : (((0 : Int) * 10 + (mo : Int)) * 6 + 0).toNat = mo * 6 := by omega
        simp only [Bool.false_eq_true, if_false]
        rw [x1]
        repeat (refine And.intro (by omega) ?_)
        rw [bt_w_id (by omega) (by omega)]
        split
        next h0 => exact ⟨16 - (i + 1), by omega, i + 1, by omega, rfl, by simp [bt_bn, hb, show ¬ 0 < μ (z + 9) (mo * 6) by omega]⟩
        next h0 =>
          rw [bo_setbit (bt_bn_lt _ _) (by omega)]
          exact ⟨16 - (i + 1), by omega, i + 1, by omega, rfl, by simp [bt_bn, hb, show 0 < μ (z + 9) (mo * 6) by omega]⟩
def SpX9_foePairs : bt_Sp := fun As w Q => ∃ (ρ : Nat → Nat → Option Nat) (μ : Nat → Nat → Int) (z n : Nat), As = [.inr (.inr z)] ∧ w = bt_wd ρ μ ∧ bt_Rf ρ ∧ z ∈ bt_zos ∧ μ z 1 = (n : Int) ∧ n ≤ 6 ∧ (∀ g, g < n → 0 ≤ μ (z + 7) g ∧ μ (z + 7) g < 64) ∧ Q (some (.inl ((bt_sn (fun g => (bt_pcn (μ (z + 7) g).toNat 16 : Int)) n).toNat / 2 : Nat))) w
set_option maxHeartbeats 4000000 in
theorem mtX9_foePairs : bt_Met yX9_foePairs cX9_foePairs 3 (some .int) 2 [2] SpX9_foePairs := by
  refine lpX9_foePairs mtJ6_bitCount_0f7a4 (by decide) _ (fun As w Q _ hS => ?_)
  obtain ⟨ρ, μ, z, n, rfl, rfl, hρ, hz, hn, hn6, hf, hQ⟩ := hS
  obtain ⟨c1, c2, c3, c4, c5, c6, c7, c8, c9, c10, c11, c12, c13, c14, c15, c16, c17, c18, c19, c20, c21, c22, c23, c24, c25⟩ := bt_zo_f z hz
  have hpc : ∀ x m, bt_pcn x m ≤ m := by
    intro x m
    induction m with
    | zero => simp [bt_pcn]
    | succ m ih => unfold bt_pcn; split <;> omega
  have hrg : ∀ i, 0 ≤ bt_sn (fun g => (bt_pcn (μ (z + 7) g).toNat 16 : Int)) i ∧ bt_sn (fun g => (bt_pcn (μ (z + 7) g).toNat 16 : Int)) i ≤ i * 16 := fun i => bt_sn_rg i (fun g _ => ⟨by omega, by have := hpc (μ (z + 7) g).toNat 16; omega⟩)
  refine ⟨fun h' m st L w => st = [] ∧ w = bt_wd ρ μ ∧ ∃ (i : Nat), i ≤ n ∧ m = n - i ∧ L = [some (.inr (.inr z)), some (.inl (bt_sn (fun g => (bt_pcn (μ (z + 7) g).toNat 16 : Int)) i)), some (.inl (i : Int))], ?_, ?_⟩
  · simp (disch := omega) only [tX9_foePairs_0, bt_ild, bt_lld, bt_ald, bt_ist, bt_lst, bt_ast, bt_inc, bt_ic, bt_lc, bt_iadd, bt_isub, bt_imul, bt_iand, bt_ior, bt_ixor, bt_ishl, bt_ishr, bt_iushr, bt_ladd, bt_lsub, bt_lmul, bt_land, bt_lor, bt_lushr, bt_lshl, bt_idiv, bt_irem, bt_ldiv, bt_lrem, bt_lcmp, bt_i2l, bt_l2i, bt_i2b, bt_pop, bt_dup, bt_dup2, bt_gfI, bt_gfJ, bt_gfR, bt_pfI, bt_pfZ, bt_pfJ, bt_pfR, bt_ial, bt_bal, bt_zal, bt_lal, bt_aal, bt_ias, bt_bas, bt_zas, bt_las, bt_len, bt_iret, bt_zret, bt_lret, bt_vret, bt_cV, bt_cS, bt_tab, bt_tsw, bt_lk, bt_lsw, bt_acp, bt_mmax, bt_mmin, bt_can, bt_icmpeq, bt_ifeq, bt_icmpne, bt_ifne, bt_icmplt, bt_iflt, bt_icmpge, bt_ifge, bt_icmpgt, bt_ifgt, bt_icmple, bt_ifle, bt_ret, bt_kill, bt_kl, bt_ix, bt_nl, bt_sm, bt_sr, bt_sig, bt_tg, bt_loc, bt_locs, List.getElem?_cons_zero, List.getElem?_cons_succ, List.set_cons_zero, List.set_cons_succ, List.map_cons, List.map_nil, List.take_succ_cons, List.take_zero, List.drop_succ_cons, List.drop_zero, List.reverse_cons, List.reverse_nil, List.nil_append, List.cons_append, List.append_nil, List.length_cons, List.length_nil, List.replicate_succ, List.replicate_zero, Option.toList_some, Option.toList_none, Nat.reduceAdd, Nat.reduceSub, Nat.reduceLeDiff, Nat.zero_add, Nat.zero_le, true_and, and_true, Int.toNat_natCast, Sum.inl.injEq, Sum.inr.injEq, ↓reduceIte, Nat.reduceEqDiff]
    exact ⟨n, 0, by omega, by omega, rfl⟩
  · rintro m st L w ⟨rfl, rfl, i, hi, rfl, rfl⟩
    simp (disch := omega) only [tX9_foePairs_4, bt_ild, bt_lld, bt_ald, bt_ist, bt_lst, bt_ast, bt_inc, bt_ic, bt_lc, bt_iadd, bt_isub, bt_imul, bt_iand, bt_ior, bt_ixor, bt_ishl, bt_ishr, bt_iushr, bt_ladd, bt_lsub, bt_lmul, bt_land, bt_lor, bt_lushr, bt_lshl, bt_idiv, bt_irem, bt_ldiv, bt_lrem, bt_lcmp, bt_i2l, bt_l2i, bt_i2b, bt_pop, bt_dup, bt_dup2, bt_gfI, bt_gfJ, bt_gfR, bt_pfI, bt_pfZ, bt_pfJ, bt_pfR, bt_ial, bt_bal, bt_zal, bt_lal, bt_aal, bt_ias, bt_bas, bt_zas, bt_las, bt_len, bt_iret, bt_zret, bt_lret, bt_vret, bt_cV, bt_cS, bt_tab, bt_tsw, bt_lk, bt_lsw, bt_acp, bt_mmax, bt_mmin, bt_can, bt_icmpeq, bt_ifeq, bt_icmpne, bt_ifne, bt_icmplt, bt_iflt, bt_icmpge, bt_ifge, bt_icmpgt, bt_ifgt, bt_icmple, bt_ifle, bt_ret, bt_kill, bt_kl, bt_ix, bt_nl, bt_sm, bt_sr, bt_sig, bt_tg, bt_loc, bt_locs, List.getElem?_cons_zero, List.getElem?_cons_succ, List.set_cons_zero, List.set_cons_succ, List.map_cons, List.map_nil, List.take_succ_cons, List.take_zero, List.drop_succ_cons, List.drop_zero, List.reverse_cons, List.reverse_nil, List.nil_append, List.cons_append, List.append_nil, List.length_cons, List.length_nil, List.replicate_succ, List.replicate_zero, Option.toList_some, Option.toList_none, Nat.reduceAdd, Nat.reduceSub, Nat.reduceLeDiff, Nat.zero_add, Nat.zero_le, true_and, and_true, Int.toNat_natCast, Sum.inl.injEq, Sum.inr.injEq, ↓reduceIte, Nat.reduceEqDiff, hρ z _ c2, c3, c4, c5, c6, c7, c8, c9, c10, c11, c12, c13, c14, c15, c16, c17, c18, c19, c20, c21, c22, c23, c24, bt_w_id, hn]
    refine And.intro (by omega) ?_
    by_cases hc : n ≤ i
    · rw [if_pos (by omega)]
      have : i = n := by omega
      subst this
      have h1 := hrg i
      refine ⟨by omega, ?_⟩
      have e : bo_idiv (bt_sn (fun g => (bt_pcn (μ (z + 7) g).toNat 16 : Int)) i) 2 = (((bt_sn (fun g => (bt_pcn (μ (z + 7) g).toNat 16 : Int)) i).toNat / 2 : Nat) : Int) := by
        rw [← bo_idiv_nat (by omega) (by omega) (by omega)]
        congr 1
        omega
      rw [e]
      exact hQ
    · rw [if_neg (by omega)]
      have h1 := hf i (by omega)
      repeat (refine And.intro (by omega) ?_)
      refine ⟨(μ (z + 7) i).toNat, by rw [Int.toNat_of_nonneg h1.1], by omega, ?_⟩
      simp (disch := omega) only [bt_ild, bt_lld, bt_ald, bt_ist, bt_lst, bt_ast, bt_inc, bt_ic, bt_lc, bt_iadd, bt_isub, bt_imul, bt_iand, bt_ior, bt_ixor, bt_ishl, bt_ishr, bt_iushr, bt_ladd, bt_lsub, bt_lmul, bt_land, bt_lor, bt_lushr, bt_lshl, bt_idiv, bt_irem, bt_ldiv, bt_lrem, bt_lcmp, bt_i2l, bt_l2i, bt_i2b, bt_pop, bt_dup, bt_dup2, bt_gfI, bt_gfJ, bt_gfR, bt_pfI, bt_pfZ, bt_pfJ, bt_pfR, bt_ial, bt_bal, bt_zal, bt_lal, bt_aal, bt_ias, bt_bas, bt_zas, bt_las, bt_len, bt_iret, bt_zret, bt_lret, bt_vret, bt_cV, bt_cS, bt_tab, bt_tsw, bt_lk, bt_lsw, bt_acp, bt_mmax, bt_mmin, bt_can, bt_icmpeq, bt_ifeq, bt_icmpne, bt_ifne, bt_icmplt, bt_iflt, bt_icmpge, bt_ifge, bt_icmpgt, bt_ifgt, bt_icmple, bt_ifle, bt_ret, bt_kill, bt_kl, bt_ix, bt_nl, bt_sm, bt_sr, bt_sig, bt_tg, bt_loc, bt_locs, List.getElem?_cons_zero, List.getElem?_cons_succ, List.set_cons_zero, List.set_cons_succ, List.map_cons, List.map_nil, List.take_succ_cons, List.take_zero, List.drop_succ_cons, List.drop_zero, List.reverse_cons, List.reverse_nil, List.nil_append, List.cons_append, List.append_nil, List.length_cons, List.length_nil, List.replicate_succ, List.replicate_zero, Option.toList_some, Option.toList_none, Nat.reduceAdd, Nat.reduceSub, Nat.reduceLeDiff, Nat.zero_add, Nat.zero_le, true_and, and_true, Int.toNat_natCast, Sum.inl.injEq, Sum.inr.injEq, ↓reduceIte, Nat.reduceEqDiff]
      exact ⟨n - (i + 1), by omega, i + 1, by omega, rfl, by simp [bt_sn]⟩
