/-! Zoo.shortenWays -/
def ab_dg : Nat → (Nat → Int) → Nat → Int
  | 0, M => M
  | n + 1, M => ab_put (ab_dg n M) (n * 6 + n) 0
def ab_fwI (b : Nat) : Nat → (Nat → Int) → Nat → Int
  | 0, M => M
  | i + 1, M => ab_put (ab_fwI b i M) i (if ab_fwI b i M (i / 6 * 6 + b) + ab_fwI b i M (b * 6 + i % 6) < ab_fwI b i M i then ab_fwI b i M (i / 6 * 6 + b) + ab_fwI b i M (b * 6 + i % 6) else ab_fwI b i M i)
def ab_fwB : Nat → (Nat → Int) → Nat → Int
  | 0, M => M
  | b + 1, M => ab_fwI b 36 (ab_fwB b M)
def ab_M3 (T : Int) (M : Nat → Int) : Prop := ∀ k, k < 36 → 0 ≤ M k ∧ M k ≤ T
theorem ab_M3_put {T : Int} {M : Nat → Int} (h : ab_M3 T M) {i : Nat} {x : Int} (h1 : 0 ≤ x) (h2 : x ≤ T) : ab_M3 T (ab_put M i x) := fun k hk => by
  unfold ab_put
  split
  · exact ⟨h1, h2⟩
  · exact h k hk
theorem ab_M3_dg {T : Int} (hT : 0 ≤ T) {M : Nat → Int} (h : ab_M3 T M) : ∀ n, ab_M3 T (ab_dg n M)
  | 0 => h
  | n + 1 => ab_M3_put (ab_M3_dg hT h n) (by omega) hT
theorem ab_M3_I {T : Int} {M : Nat → Int} (h : ab_M3 T M) {b : Nat} (hb : b < 6) : ∀ i, i ≤ 36 → ab_M3 T (ab_fwI b i M)
  | 0, _ => h
  | i + 1, hi => by
    have ih := ab_M3_I h hb i (by omega)
    have h1 := ih i (by omega)
    have h2 := ih (i / 6 * 6 + b) (by omega)
    have h3 := ih (b * 6 + i % 6) (by omega)
    unfold ab_fwI
    refine ab_M3_put ih ?_ ?_ <;> (split <;> omega)
theorem ab_M3_B {T : Int} {M : Nat → Int} (h : ab_M3 T M) : ∀ b, b ≤ 6 → ab_M3 T (ab_fwB b M)
  | 0, _ => h
  | b + 1, hb => ab_M3_I (ab_M3_B h b (by omega)) (by omega) 36 (Nat.le_refl _)
theorem bt_up_put {μ : Nat → Nat → Int} {a k : Nat} {x : Int} : bt_up μ a k x a = ab_put (μ a) k x := by
  funext j
  simp [bt_up, ab_put]
def SpX9_shortenWays : bt_Sp := fun As w Q => ∃ (ρ : Nat → Nat → Option Nat) (μ : Nat → Nat → Int) (z : Nat), As = [.inr (.inr z)] ∧ w = bt_wd ρ μ ∧ bt_Rf ρ ∧ z ∈ bt_zos ∧ ab_M3 1000 (μ (z + 8)) ∧ ∀ μ', μ' (z + 8) = ab_fwB 6 (ab_dg 6 (μ (z + 8))) → bt_fr (fun a => a = z + 8) μ' μ → Q none (bt_wd ρ μ')
set_option maxHeartbeats 4000000 in
theorem mtX9_shortenWays : bt_Met yX9_shortenWays cX9_shortenWays 4 none 1 [2] SpX9_shortenWays := by
  refine lpX9_shortenWays (by decide) _ (fun As w Q _ hS => ?_)
  obtain ⟨ρ, μ, z, rfl, rfl, hρ, hz, hM, hQ⟩ := hS
  obtain ⟨c1, c2, c3, c4, c5, c6, c7, c8, c9, c10, c11, c12, c13, c14, c15, c16, c17, c18, c19, c20, c21, c22, c23, c24, c25⟩ := bt_zo_f z hz
  have hD := ab_M3_dg (by omega) hM 6
  refine ⟨fun h' m st L w => st = [] ∧ ∃ (b i : Nat) (μ1 : Nat → Nat → Int), w = bt_wd ρ μ1 ∧ bt_fr (fun a => a = z + 8) μ1 μ ∧
    (if h' = 2 then i ≤ 6 ∧ m = 10000 - i ∧ L = [some (.inr (.inr z)), some (.inl (i : Int)), none, none] ∧ μ1 (z + 8) = ab_dg i (μ (z + 8))
     else if h' = 28 then b ≤ 6 ∧ m = (6 - b) * 100 ∧ L = [some (.inr (.inr z)), some (.inl (b : Int)), none, none] ∧ μ1 (z + 8) = ab_fwB b (ab_dg 6 (μ (z + 8)))
     else b < 6 ∧ i ≤ 36 ∧ m = (6 - b) * 100 - 1 - i ∧ L = [some (.inr (.inr z)), some (.inl (b : Int)), some (.inl (i : Int)), none] ∧ μ1 (z + 8) = ab_fwI b i (ab_fwB b (ab_dg 6 (μ (z + 8))))), ?_, ?_, ?_, ?_⟩
  · simp (disch := omega) only [tX9_shortenWays_0, bt_ild, bt_lld, bt_ald, bt_ist, bt_lst, bt_ast, bt_inc, bt_ic, bt_lc, bt_iadd, bt_isub, bt_imul, bt_iand, bt_ior, bt_ixor, bt_ishl, bt_ishr, bt_iushr, bt_ladd, bt_lsub, bt_lmul, bt_land, bt_lor, bt_lushr, bt_lshl, bt_idiv, bt_irem, bt_ldiv, bt_lrem, bt_lcmp, bt_i2l, bt_l2i, bt_i2b, bt_pop, bt_dup, bt_dup2, bt_gfI, bt_gfJ, bt_gfR, bt_pfI, bt_pfZ, bt_pfJ, bt_pfR, bt_ial, bt_bal, bt_zal, bt_lal, bt_aal, bt_ias, bt_bas, bt_zas, bt_las, bt_len, bt_iret, bt_zret, bt_lret, bt_vret, bt_cV, bt_cS, bt_tab, bt_tsw, bt_lk, bt_lsw, bt_acp, bt_mmax, bt_mmin, bt_can, bt_icmpeq, bt_ifeq, bt_icmpne, bt_ifne, bt_icmplt, bt_iflt, bt_icmpge, bt_ifge, bt_icmpgt, bt_ifgt, bt_icmple, bt_ifle, bt_ret, bt_kill, bt_kl, bt_ix, bt_nl, bt_sm, bt_sr, bt_sig, bt_tg, bt_loc, bt_locs, List.getElem?_cons_zero, List.getElem?_cons_succ, List.set_cons_zero, List.set_cons_succ, List.map_cons, List.map_nil, List.take_succ_cons, List.take_zero, List.drop_succ_cons, List.drop_zero, List.reverse_cons, List.reverse_nil, List.nil_append, List.cons_append, List.append_nil, List.length_cons, List.length_nil, List.replicate_succ, List.replicate_zero, Option.toList_some, Option.toList_none, Nat.reduceAdd, Nat.reduceSub, Nat.reduceLeDiff, Nat.zero_add, Nat.zero_le, true_and, and_true, Int.toNat_natCast, Sum.inl.injEq, Sum.inr.injEq, ↓reduceIte, Nat.reduceEqDiff]
    exact ⟨10000, 0, 0, μ, rfl, fun _ _ => rfl, by omega, by omega, rfl, rfl⟩
  · rintro m st L w ⟨rfl, b, i, μ1, rfl, hfr, hI⟩
    simp only [↓reduceIte] at hI
    obtain ⟨hi, rfl, rfl, hI⟩ := hI
    simp (disch := omega) only [tX9_shortenWays_2, bt_ild, bt_lld, bt_ald, bt_ist, bt_lst, bt_ast, bt_inc, bt_ic, bt_lc, bt_iadd, bt_isub, bt_imul, bt_iand, bt_ior, bt_ixor, bt_ishl, bt_ishr, bt_iushr, bt_ladd, bt_lsub, bt_lmul, bt_land, bt_lor, bt_lushr, bt_lshl, bt_idiv, bt_irem, bt_ldiv, bt_lrem, bt_lcmp, bt_i2l, bt_l2i, bt_i2b, bt_pop, bt_dup, bt_dup2, bt_gfI, bt_gfJ, bt_gfR, bt_pfI, bt_pfZ, bt_pfJ, bt_pfR, bt_ial, bt_bal, bt_zal, bt_lal, bt_aal, bt_ias, bt_bas, bt_zas, bt_las, bt_len, bt_iret, bt_zret, bt_lret, bt_vret, bt_cV, bt_cS, bt_tab, bt_tsw, bt_lk, bt_lsw, bt_acp, bt_mmax, bt_mmin, bt_can, bt_icmpeq, bt_ifeq, bt_icmpne, bt_ifne, bt_icmplt, bt_iflt, bt_icmpge, bt_ifge, bt_icmpgt, bt_ifgt, bt_icmple, bt_ifle, bt_ret, bt_kill, bt_kl, bt_ix, bt_nl, bt_sm, bt_sr, bt_sig, bt_tg, bt_loc, bt_locs, List.getElem?_cons_zero, List.getElem?_cons_succ, List.set_cons_zero, List.set_cons_succ, List.map_cons, List.map_nil, List.take_succ_cons, List.take_zero, List.drop_succ_cons, List.drop_zero, List.reverse_cons, List.reverse_nil, List.nil_append, List.cons_append, List.append_nil, List.length_cons, List.length_nil, List.replicate_succ, List.replicate_zero, Option.toList_some, Option.toList_none, Nat.reduceAdd, Nat.reduceSub, Nat.reduceLeDiff, Nat.zero_add, Nat.zero_le, true_and, and_true, Int.toNat_natCast, Sum.inl.injEq, Sum.inr.injEq, ↓reduceIte, Nat.reduceEqDiff, hρ z _ c2, c3, c4, c5, c6, c7, c8, c9, c10, c11, c12, c13, c14, c15, c16, c17, c18, c19, c20, c21, c22, c23, c24, bt_w_id]
    by_cases hc : 6 ≤ i
    · rw [if_pos (by omega)]
      have : i = 6 := by omega
      subst this
      exact ⟨600, by omega, 0, 0, μ1, rfl, hfr, by omega, by omega, rfl, hI⟩
    · rw [if_neg (by omega)]
      have xi : ((i : Int) * 6 + (i : Int)).toNat = i * 6 + i := by omega
      rw [xi]
      repeat (refine And.intro (by omega) ?_)
      refine ⟨10000 - (i + 1), by omega, 0, i + 1, _, rfl, fun a ha => by rw [bt_up_cell ha]; exact hfr a ha, by omega, rfl, rfl, ?_⟩
      rw [bt_up_put, hI]
      rfl
  · rintro m st L w ⟨rfl, b, i, μ1, rfl, hfr, hI⟩
    simp only [↓reduceIte, Nat.reduceEqDiff] at hI
    obtain ⟨hb, rfl, rfl, hI⟩ := hI
    simp (disch := omega) only [tX9_shortenWays_28, bt_ild, bt_lld, bt_ald, bt_ist, bt_lst, bt_ast, bt_inc, bt_ic, bt_lc, bt_iadd, bt_isub, bt_imul, bt_iand, bt_ior, bt_ixor, bt_ishl, bt_ishr, bt_iushr, bt_ladd, bt_lsub, bt_lmul, bt_land, bt_lor, bt_lushr, bt_lshl, bt_idiv, bt_irem, bt_ldiv, bt_lrem, bt_lcmp, bt_i2l, bt_l2i, bt_i2b, bt_pop, bt_dup, bt_dup2, bt_gfI, bt_gfJ, bt_gfR, bt_pfI, bt_pfZ, bt_pfJ, bt_pfR, bt_ial, bt_bal, bt_zal, bt_lal, bt_aal, bt_ias, bt_bas, bt_zas, bt_las, bt_len, bt_iret, bt_zret, bt_lret, bt_vret, bt_cV, bt_cS, bt_tab, bt_tsw, bt_lk, bt_lsw, bt_acp, bt_mmax, bt_mmin, bt_can, bt_icmpeq, bt_ifeq, bt_icmpne, bt_ifne, bt_icmplt, bt_iflt, bt_icmpge, bt_ifge, bt_icmpgt, bt_ifgt, bt_icmple, bt_ifle, bt_ret, bt_kill, bt_kl, bt_ix, bt_nl, bt_sm, bt_sr, bt_sig, bt_tg, bt_loc, bt_locs, List.getElem?_cons_zero, List.getElem?_cons_succ, List.set_cons_zero, List.set_cons_succ, List.map_cons, List.map_nil, List.take_succ_cons, List.take_zero, List.drop_succ_cons, List.drop_zero, List.reverse_cons, List.reverse_nil, List.nil_append, List.cons_append, List.append_nil, List.length_cons, List.length_nil, List.replicate_succ, List.replicate_zero, Option.toList_some, Option.toList_none, Nat.reduceAdd, Nat.reduceSub, Nat.reduceLeDiff, Nat.zero_add, Nat.zero_le, true_and, and_true, Int.toNat_natCast, Sum.inl.injEq, Sum.inr.injEq, ↓reduceIte, Nat.reduceEqDiff, hρ z _ c2, c3, c4, c5, c6, c7, c8, c9, c10, c11, c12, c13, c14, c15, c16, c17, c18, c19, c20, c21, c22, c23, c24, bt_w_id]
    by_cases hc : 6 ≤ b
    · rw [if_pos (by omega)]
      have : b = 6 := by omega
      subst this
      exact hQ μ1 hI hfr
    · rw [if_neg (by omega)]
      exact ⟨(6 - b) * 100 - 1, by omega, b, 0, μ1, rfl, hfr, by omega, by omega, by omega, rfl, hI⟩
  · rintro m st L w ⟨rfl, b, i, μ1, rfl, hfr, hI⟩
    simp only [↓reduceIte, Nat.reduceEqDiff] at hI
    obtain ⟨hb, hi, rfl, rfl, hI⟩ := hI
    have hR := ab_M3_I (ab_M3_B hD b (by omega)) hb i hi
    rw [← hI] at hR
    have d6 : bo_idiv (i : Int) 6 = ((i / 6 : Nat) : Int) := bo_idiv_nat (a := i) (d := 6) (by omega) (by omega) (by omega)
    have r6 : bo_irem (i : Int) 6 = ((i % 6 : Nat) : Int) := bo_irem_nat (a := i) (d := 6) (by omega) (by omega) (by omega)
    by_cases hc : 36 ≤ i
    · simp (disch := omega) only [tX9_shortenWays_36, bt_ild, bt_lld, bt_ald, bt_ist, bt_lst, bt_ast, bt_inc, bt_ic, bt_lc, bt_iadd, bt_isub, bt_imul, bt_iand, bt_ior, bt_ixor, bt_ishl, bt_ishr, bt_iushr, bt_ladd, bt_lsub, bt_lmul, bt_land, bt_lor, bt_lushr, bt_lshl, bt_idiv, bt_irem, bt_ldiv, bt_lrem, bt_lcmp, bt_i2l, bt_l2i, bt_i2b, bt_pop, bt_dup, bt_dup2, bt_gfI, bt_gfJ, bt_gfR, bt_pfI, bt_pfZ, bt_pfJ, bt_pfR, bt_ial, bt_bal, bt_zal, bt_lal, bt_aal, bt_ias, bt_bas, bt_zas, bt_las, bt_len, bt_iret, bt_zret, bt_lret, bt_vret, bt_cV, bt_cS, bt_tab, bt_tsw, bt_lk, bt_lsw, bt_acp, bt_mmax, bt_mmin, bt_can, bt_icmpeq, bt_ifeq, bt_icmpne, bt_ifne, bt_icmplt, bt_iflt, bt_icmpge, bt_ifge, bt_icmpgt, bt_ifgt, bt_icmple, bt_ifle, bt_ret, bt_kill, bt_kl, bt_ix, bt_nl, bt_sm, bt_sr, bt_sig, bt_tg, bt_loc, bt_locs, List.getElem?_cons_zero, List.getElem?_cons_succ, List.set_cons_zero, List.set_cons_succ, List.map_cons, List.map_nil, List.take_succ_cons, List.take_zero, List.drop_succ_cons, List.drop_zero, List.reverse_cons, List.reverse_nil, List.nil_append, List.cons_append, List.append_nil, List.length_cons, List.length_nil, List.replicate_succ, List.replicate_zero, Option.toList_some, Option.toList_none, Nat.reduceAdd, Nat.reduceSub, Nat.reduceLeDiff, Nat.zero_add, Nat.zero_le, true_and, and_true, Int.toNat_natCast, Sum.inl.injEq, Sum.inr.injEq, ↓reduceIte, Nat.reduceEqDiff, bt_w_id]
      rw [if_pos (by omega)]
      have : i = 36 := by omega
      subst this
      exact ⟨(6 - (b + 1)) * 100, by omega, b + 1, 0, μ1, rfl, hfr, by omega, rfl, rfl, hI⟩
    · have x1 : (((i / 6 : Nat) : Int) * 6 + (b : Int)).toNat = i / 6 * 6 + b := by omega
      have x2 : ((b : Int) * 6 + ((i % 6 : Nat) : Int)).toNat = b * 6 + i % 6 := by omega
      have h1 := hR i (by omega)
      have h2 := hR (i / 6 * 6 + b) (by omega)
      have h3 := hR (b * 6 + i % 6) (by omega)
      simp (disch := omega) only [tX9_shortenWays_36, bt_ild, bt_lld, bt_ald, bt_ist, bt_lst, bt_ast, bt_inc, bt_ic, bt_lc, bt_iadd, bt_isub, bt_imul, bt_iand, bt_ior, bt_ixor, bt_ishl, bt_ishr, bt_iushr, bt_ladd, bt_lsub, bt_lmul, bt_land, bt_lor, bt_lushr, bt_lshl, bt_idiv, bt_irem, bt_ldiv, bt_lrem, bt_lcmp, bt_i2l, bt_l2i, bt_i2b, bt_pop, bt_dup, bt_dup2, bt_gfI, bt_gfJ, bt_gfR, bt_pfI, bt_pfZ, bt_pfJ, bt_pfR, bt_ial, bt_bal, bt_zal, bt_lal, bt_aal, bt_ias, bt_bas, bt_zas, bt_las, bt_len, bt_iret, bt_zret, bt_lret, bt_vret, bt_cV, bt_cS, bt_tab, bt_tsw, bt_lk, bt_lsw, bt_acp, bt_mmax, bt_mmin, bt_can, bt_icmpeq, bt_ifeq, bt_icmpne, bt_ifne, bt_icmplt, bt_iflt, bt_icmpge, bt_ifge, bt_icmpgt, bt_ifgt, bt_icmple, bt_ifle, bt_ret, bt_kill, bt_kl, bt_ix, bt_nl, bt_sm, bt_sr, bt_sig, bt_tg, bt_loc, bt_locs, List.getElem?_cons_zero, List.getElem?_cons_succ, List.set_cons_zero, List.set_cons_succ, List.map_cons, List.map_nil, List.take_succ_cons, List.take_zero, List.drop_succ_cons, List.drop_zero, List.reverse_cons, List.reverse_nil, List.nil_append, List.cons_append, List.append_nil, List.length_cons, List.length_nil, List.replicate_succ, List.replicate_zero, Option.toList_some, Option.toList_none, Nat.reduceAdd, Nat.reduceSub, Nat.reduceLeDiff, Nat.zero_add, Nat.zero_le, true_and, and_true, Int.toNat_natCast, Sum.inl.injEq, Sum.inr.injEq, ↓reduceIte, Nat.reduceEqDiff, hρ z _ c2, c3, c4, c5, c6, c7, c8, c9, c10, c11, c12, c13, c14, c15, c16, c17, c18, c19, c20, c21, c22, c23, c24, bt_w_id, d6, r6, x1, x2]
      rw [if_neg (by omega)]
      refine ⟨by omega, by decide, by omega, by omega, by decide, by omega, by omega, by omega, by omega, by omega, ?_⟩
      refine ⟨(6 - b) * 100 - 1 - (i + 1), by omega, b, i + 1, _, rfl, fun a ha => by rw [bt_up_cell ha]; exact hfr a ha, hb, by omega, rfl, rfl, ?_⟩
      rw [bt_up_put]
      have e : bo_min (μ1 (z + 8) i) (μ1 (z + 8) (i / 6 * 6 + b) + μ1 (z + 8) (b * 6 + i % 6)) = (if μ1 (z + 8) (i / 6 * 6 + b) + μ1 (z + 8) (b * 6 + i % 6) < μ1 (z + 8) i then μ1 (z + 8) (i / 6 * 6 + b) + μ1 (z + 8) (b * 6 + i % 6) else μ1 (z + 8) i) := by
        unfold bo_min
        rw [bt_w_id (by omega) (by omega), bt_w_id (by omega) (by omega)]
      rw [e, hI]
      rfl
