/-! Show.hope, Show.judge -/
def ab_hb (seats v : Nat → Int) : Nat → Int
  | 0 => 0
  | n + 1 => if 0 < seats n then (if ab_hb seats v n < v n then v n else ab_hb seats v n) else ab_hb seats v n
theorem ab_hb_rg {seats v : Nat → Int} : ∀ n, (∀ p, p < n → v p ≤ 594) → 0 ≤ ab_hb seats v n ∧ ab_hb seats v n ≤ 594
  | 0, _ => by simp [ab_hb]
  | n + 1, h => by
    have ih := ab_hb_rg (seats := seats) n (fun p hp => h p (by omega))
    have h1 := h n (by omega)
    unfold ab_hb
    split
    · split <;> omega
    · exact ih
def ab_hp (seats : Nat → Int) (H : Nat → Nat) (lk : Nat → Nat) (mo : Nat → Nat → Int) (co : Nat → Int) (P : Nat) (a : Nat) : Int := if co a < ab_hb seats (fun p => mo (lk a) (H p)) P then co a else ab_hb seats (fun p => mo (lk a) (H p)) P
def SpX5_hope : bt_Sp := fun As w Q => ∃ (ρ : Nat → Nat → Option Nat) (μ : Nat → Nat → Int) (z g A P : Nat) (H lk : Nat → Nat) (mo : Nat → Nat → Int), As = [.inr (.inr 19), .inr (.inr z), .inl (g : Int)] ∧ w = bt_wd ρ μ ∧ bt_Rf ρ ∧ z ∈ bt_zos ∧ g ≤ 6 ∧ μ z 2 = (A : Int) ∧ A ≤ 5 ∧ μ z 0 = (P : Int) ∧ P ≤ 6 ∧ (∀ a, a < A → μ (z + 6) a = (lk a : Int) ∧ lk a < 4 ∧ 0 ≤ μ 32 a ∧ μ 32 a ≤ 999) ∧ (∀ p, p < P → (0 ≤ μ (z + 4) p ∧ μ (z + 4) p ≤ 9) ∧ μ 34 p = (H p : Int) ∧ H p < 2 ^ g) ∧ (∀ k C, k < 4 → C < 2 ^ g → μ 35 (ab_ix5 g k C) = mo k C ∧ mo k C ≤ 594 ∧ 0 ≤ mo k C) ∧ Q (some (.inl (bt_sn (ab_hp (μ (z + 4)) H lk mo (μ 32) P) A))) w
set_option maxHeartbeats 4000000 in
theorem mtX5_hope : bt_Met yX5_hope cX5_hope 7 (some .int) 2 [2, 2, 0] SpX5_hope := by
  refine lpX5_hope mtX5_spot (by decide) (by decide) _ (fun As w Q _ hS => ?_)
  obtain ⟨ρ, μ, z, g, A, P, H, lk, mo, rfl, rfl, hρ, hz, hg, hA, hA5, hP, hP6, hl, hH, hmo, hQ⟩ := hS
  obtain ⟨c1, c2, c3, c4, c5, c6, c7, c8, c9, c10, c11, c12, c13, c14, c15, c16, c17, c18, c19, c20, c21, c22, c23, c24, c25⟩ := bt_zo_f z hz
  have h64 : 2 ^ g ≤ 64 := Nat.le_trans (Nat.pow_le_pow_right (by decide) hg) (by decide)
  refine ⟨fun h' m st L w => st = [] ∧ w = bt_wd ρ μ ∧ ∃ (a i : Nat), (if h' = 5 then a ≤ A ∧ m = (A - a) * 100 ∧ L = [some (.inr (.inr 19)), some (.inr (.inr z)), some (.inl (g : Int)), some (.inl (bt_sn (ab_hp (μ (z + 4)) H lk mo (μ 32) P) a)), some (.inl (a : Int)), none, none]
     else a < A ∧ i ≤ P ∧ m = (A - a) * 100 - 1 - i ∧ L = [some (.inr (.inr 19)), some (.inr (.inr z)), some (.inl (g : Int)), some (.inl (bt_sn (ab_hp (μ (z + 4)) H lk mo (μ 32) P) a)), some (.inl (a : Int)), some (.inl (ab_hb (μ (z + 4)) (fun p => mo (lk a) (H p)) i)), some (.inl (i : Int))]), ?_, ?_, ?_⟩
  · simp (disch := omega) only [tX5_hope_0, bt_ild, bt_lld, bt_ald, bt_ist, bt_lst, bt_ast, bt_inc, bt_ic, bt_lc, bt_iadd, bt_isub, bt_imul, bt_iand, bt_ior, bt_ixor, bt_ishl, bt_ishr, bt_iushr, bt_ladd, bt_lsub, bt_lmul, bt_land, bt_lor, bt_lushr, bt_lshl, bt_idiv, bt_irem, bt_ldiv, bt_lrem, bt_lcmp, bt_i2l, bt_l2i, bt_i2b, bt_pop, bt_dup, bt_dup2, bt_gfI, bt_gfJ, bt_gfR, bt_pfI, bt_pfZ, bt_pfJ, bt_pfR, bt_ial, bt_bal, bt_zal, bt_lal, bt_aal, bt_ias, bt_bas, bt_zas, bt_las, bt_len, bt_iret, bt_zret, bt_lret, bt_vret, bt_cV, bt_cS, bt_tab, bt_tsw, bt_lk, bt_lsw, bt_acp, bt_mmax, bt_mmin, bt_can, bt_icmpeq, bt_ifeq, bt_icmpne, bt_ifne, bt_icmplt, bt_iflt, bt_icmpge, bt_ifge, bt_icmpgt, bt_ifgt, bt_icmple, bt_ifle, bt_ret, bt_kill, bt_kl, bt_ix, bt_nl, bt_sm, bt_sr, bt_sig, bt_tg, bt_loc, bt_locs, List.getElem?_cons_zero, List.getElem?_cons_succ, List.set_cons_zero, List.set_cons_succ, List.map_cons, List.map_nil, List.take_succ_cons, List.take_zero, List.drop_succ_cons, List.drop_zero, List.reverse_cons, List.reverse_nil, List.nil_append, List.cons_append, List.append_nil, List.length_cons, List.length_nil, List.replicate_succ, List.replicate_zero, Option.toList_some, Option.toList_none, Nat.reduceAdd, Nat.reduceSub, Nat.reduceLeDiff, Nat.zero_add, Nat.zero_le, true_and, and_true, Int.toNat_natCast, Sum.inl.injEq, Sum.inr.injEq, ↓reduceIte, Nat.reduceEqDiff]
    exact ⟨A * 100, 0, 0, by omega, by omega, rfl⟩
  · rintro m st L w ⟨rfl, rfl, a, i, hI⟩
    simp only [↓reduceIte] at hI
    obtain ⟨ha, rfl, rfl⟩ := hI
    simp (disch := omega) only [tX5_hope_5, tX5_hope_69, bt_ild, bt_lld, bt_ald, bt_ist, bt_lst, bt_ast, bt_inc, bt_ic, bt_lc, bt_iadd, bt_isub, bt_imul, bt_iand, bt_ior, bt_ixor, bt_ishl, bt_ishr, bt_iushr, bt_ladd, bt_lsub, bt_lmul, bt_land, bt_lor, bt_lushr, bt_lshl, bt_idiv, bt_irem, bt_ldiv, bt_lrem, bt_lcmp, bt_i2l, bt_l2i, bt_i2b, bt_pop, bt_dup, bt_dup2, bt_gfI, bt_gfJ, bt_gfR, bt_pfI, bt_pfZ, bt_pfJ, bt_pfR, bt_ial, bt_bal, bt_zal, bt_lal, bt_aal, bt_ias, bt_bas, bt_zas, bt_las, bt_len, bt_iret, bt_zret, bt_lret, bt_vret, bt_cV, bt_cS, bt_tab, bt_tsw, bt_lk, bt_lsw, bt_acp, bt_mmax, bt_mmin, bt_can, bt_icmpeq, bt_ifeq, bt_icmpne, bt_ifne, bt_icmplt, bt_iflt, bt_icmpge, bt_ifge, bt_icmpgt, bt_ifgt, bt_icmple, bt_ifle, bt_ret, bt_kill, bt_kl, bt_ix, bt_nl, bt_sm, bt_sr, bt_sig, bt_tg, bt_loc, bt_locs, List.getElem?_cons_zero, List.getElem?_cons_succ, List.set_cons_zero, List.set_cons_succ, List.map_cons, List.map_nil, List.take_succ_cons, List.take_zero, List.drop_succ_cons, List.drop_zero, List.reverse_cons, List.reverse_nil, List.nil_append, List.cons_append, List.append_nil, List.length_cons, List.length_nil, List.replicate_succ, List.replicate_zero, Option.toList_some, Option.toList_none, Nat.reduceAdd, Nat.reduceSub, Nat.reduceLeDiff, Nat.zero_add, Nat.zero_le, true_and, and_true, Int.toNat_natCast, Sum.inl.injEq, Sum.inr.injEq, ↓reduceIte, Nat.reduceEqDiff, hρ z _ c2, c3, c4, c5, c6, c7, c8, c9, c10, c11, c12, c13, c14, c15, c16, c17, c18, c19, c20, c21, c22, c23, c24, hA, bt_w_id]
    refine And.intro (by omega) ?_
    by_cases hc : A ≤ a
    · rw [if_pos (by omega)]
      have : a = A := by omega
      subst this
      exact hQ
    · rw [if_neg (by omega)]
      exact ⟨(A - a) * 100 - 1, by omega, a, 0, by omega, by omega, by omega, rfl⟩
  · rintro m st L w ⟨rfl, rfl, a, i, hI⟩
    simp only [↓reduceIte, Nat.reduceEqDiff] at hI
    obtain ⟨ha, hi, rfl, rfl⟩ := hI
    obtain ⟨l1, l2, l3, l4⟩ := hl a ha
    have hrg := ab_hb_rg (seats := μ (z + 4)) (v := fun p => mo (lk a) (H p)) i (fun p hp => (hmo (lk a) (H p) l2 (hH p (by omega)).2.2).2.1)
    by_cases hc : P ≤ i
    · simp (disch := omega) only [tX5_hope_20, bt_ild, bt_lld, bt_ald, bt_ist, bt_lst, bt_ast, bt_inc, bt_ic, bt_lc, bt_iadd, bt_isub, bt_imul, bt_iand, bt_ior, bt_ixor, bt_ishl, bt_ishr, bt_iushr, bt_ladd, bt_lsub, bt_lmul, bt_land, bt_lor, bt_lushr, bt_lshl, bt_idiv, bt_irem, bt_ldiv, bt_lrem, bt_lcmp, bt_i2l, bt_l2i, bt_i2b, bt_pop, bt_dup, bt_dup2, bt_gfI, bt_gfJ, bt_gfR, bt_pfI, bt_pfZ, bt_pfJ, bt_pfR, bt_ial, bt_bal, bt_zal, bt_lal, bt_aal, bt_ias, bt_bas, bt_zas, bt_las, bt_len, bt_iret, bt_zret, bt_lret, bt_vret, bt_cV, bt_cS, bt_tab, bt_tsw, bt_lk, bt_lsw, bt_acp, bt_mmax, bt_mmin, bt_can, bt_icmpeq, bt_ifeq, bt_icmpne, bt_ifne, bt_icmplt, bt_iflt, bt_icmpge, bt_ifge, bt_icmpgt, bt_ifgt, bt_icmple, bt_ifle, bt_ret, bt_kill, bt_kl, bt_ix, bt_nl, bt_sm, bt_sr, bt_sig, bt_tg, bt_loc, bt_locs, List.getElem?_cons_zero, List.getElem?_cons_succ, List.set_cons_zero, List.set_cons_succ, List.map_cons, List.map_nil, List.take_succ_cons, List.take_zero, List.drop_succ_cons, List.drop_zero, List.reverse_cons, List.reverse_nil, List.nil_append, List.cons_append, List.append_nil, List.length_cons, List.length_nil, List.replicate_succ, List.replicate_zero, Option.toList_some, Option.toList_none, Nat.reduceAdd, Nat.reduceSub, Nat.reduceLeDiff, Nat.zero_add, Nat.zero_le, true_and, and_true, Int.toNat_natCast, Sum.inl.injEq, Sum.inr.injEq, ↓reduceIte, Nat.reduceEqDiff, hρ z _ c2, c3, c4, c5, c6, c7, c8, c9, c10, c11, c12, c13, c14, c15, c16, c17, c18, c19, c20, c21, c22, c23, c24, hP, sh_19, hρ 19 _ (by decide), rf_19_1, sh_29, hρ 29 _ (by decide), rf_29_4, sh_32, bt_w_id]
      refine And.intro (by omega) ?_
      rw [if_pos (by omega)]
      have : i = P := by omega
      subst this
      repeat (refine And.intro (by omega) ?_)
      have e : bo_min (ab_hb (μ (z + 4)) (fun p => mo (lk a) (H p)) i) (μ 32 a) = ab_hp (μ (z + 4)) H lk mo (μ 32) i a := by
        unfold bo_min ab_hp
        rw [bt_w_id (by omega) (by omega), bt_w_id (by omega) (by omega)]
      rw [e]
      exact ⟨(A - (a + 1)) * 100, by omega, a + 1, 0, by omega, rfl, rfl⟩
    · obtain ⟨s1, s2, s3⟩ := hH i (by omega)
      obtain ⟨m1, m2, m3⟩ := hmo (lk a) (H i) l2 s3
      have hix : ab_ix5 g (lk a) (H i) < 1792 := by unfold ab_ix5; omega
      simp (disch := omega) only [tX5_hope_20, bt_ild, bt_lld, bt_ald, bt_ist, bt_lst, bt_ast, bt_inc, bt_ic, bt_lc, bt_iadd, bt_isub, bt_imul, bt_iand, bt_ior, bt_ixor, bt_ishl, bt_ishr, bt_iushr, bt_ladd, bt_lsub, bt_lmul, bt_land, bt_lor, bt_lushr, bt_lshl, bt_idiv, bt_irem, bt_ldiv, bt_lrem, bt_lcmp, bt_i2l, bt_l2i, bt_i2b, bt_pop, bt_dup, bt_dup2, bt_gfI, bt_gfJ, bt_gfR, bt_pfI, bt_pfZ, bt_pfJ, bt_pfR, bt_ial, bt_bal, bt_zal, bt_lal, bt_aal, bt_ias, bt_bas, bt_zas, bt_las, bt_len, bt_iret, bt_zret, bt_lret, bt_vret, bt_cV, bt_cS, bt_tab, bt_tsw, bt_lk, bt_lsw, bt_acp, bt_mmax, bt_mmin, bt_can, bt_icmpeq, bt_ifeq, bt_icmpne, bt_ifne, bt_icmplt, bt_iflt, bt_icmpge, bt_ifge, bt_icmpgt, bt_ifgt, bt_icmple, bt_ifle, bt_ret, bt_kill, bt_kl, bt_ix, bt_nl, bt_sm, bt_sr, bt_sig, bt_tg, bt_loc, bt_locs, List.getElem?_cons_zero, List.getElem?_cons_succ, List.set_cons_zero, List.set_cons_succ, List.map_cons, List.map_nil, List.take_succ_cons, List.take_zero, List.drop_succ_cons, List.drop_zero, List.reverse_cons, List.reverse_nil, List.nil_append, List.cons_append, List.append_nil, List.length_cons, List.length_nil, List.replicate_succ, List.replicate_zero, Option.toList_some, Option.toList_none, Nat.reduceAdd, Nat.reduceSub, Nat.reduceLeDiff, Nat.zero_add, Nat.zero_le, true_and, and_true, Int.toNat_natCast, Sum.inl.injEq, Sum.inr.injEq, ↓reduceIte, Nat.reduceEqDiff, hρ z _ c2, c3, c4, c5, c6, c7, c8, c9, c10, c11, c12, c13, c14, c15, c16, c17, c18, c19, c20, c21, c22, c23, c24, hP, sh_19, hρ 19 _ (by decide), rf_19_4, rf_19_3, sh_34, l1, s2, bt_w_id]
      refine And.intro (by omega) ?_
      rw [if_neg (by omega)]
      repeat (refine And.intro (by omega) ?_)
      have nxt : ∀ t, t = ab_hb (μ (z + 4)) (fun p => mo (lk a) (H p)) (i + 1) → tX5_hope_69 SpX5_spot (fun h st L w => ∃ m, m < (A - a) * 100 - 1 - i ∧ st = [] ∧ w = bt_wd ρ μ ∧ ∃ (a i : Nat), (if h = 5 then a ≤ A ∧ m = (A - a) * 100 ∧ L = [some (.inr (.inr 19)), some (.inr (.inr z)), some (.inl (g : Int)), some (.inl (bt_sn (ab_hp (μ (z + 4)) H lk mo (μ 32) P) a)), some (.inl (a : Int)), none, none] else a < A ∧ i ≤ P ∧ m = (A - a) * 100 - 1 - i ∧ L = [some (.inr (.inr 19)), some (.inr (.inr z)), some (.inl (g : Int)), some (.inl (bt_sn (ab_hp (μ (z + 4)) H lk mo (μ 32) P) a)), some (.inl (a : Int)), some (.inl (ab_hb (μ (z + 4)) (fun p => mo (lk a) (H p)) i)), some (.inl (i : Int))])) Q [] [some (.inr (.inr 19)), some (.inr (.inr z)), some (.inl (g : Int)), some (.inl (bt_sn (ab_hp (μ (z + 4)) H lk mo (μ 32) P) a)), some (.inl (a : Int)), some (.inl t), some (.inl (i : Int))] (bt_wd ρ μ) := by
        intro t ht
        simp (disch := omega) only [tX5_hope_69, bt_ild, bt_lld, bt_ald, bt_ist, bt_lst, bt_ast, bt_inc, bt_ic, bt_lc, bt_iadd, bt_isub, bt_imul, bt_iand, bt_ior, bt_ixor, bt_ishl, bt_ishr, bt_iushr, bt_ladd, bt_lsub, bt_lmul, bt_land, bt_lor, bt_lushr, bt_lshl, bt_idiv, bt_irem, bt_ldiv, bt_lrem, bt_lcmp, bt_i2l, bt_l2i, bt_i2b, bt_pop, bt_dup, bt_dup2, bt_gfI, bt_gfJ, bt_gfR, bt_pfI, bt_pfZ, bt_pfJ, bt_pfR, bt_ial, bt_bal, bt_zal, bt_lal, bt_aal, bt_ias, bt_bas, bt_zas, bt_las, bt_len, bt_iret, bt_zret, bt_lret, bt_vret, bt_cV, bt_cS, bt_tab, bt_tsw, bt_lk, bt_lsw, bt_acp, bt_mmax, bt_mmin, bt_can, bt_icmpeq, bt_ifeq, bt_icmpne, bt_ifne, bt_icmplt, bt_iflt, bt_icmpge, bt_ifge, bt_icmpgt, bt_ifgt, bt_icmple, bt_ifle, bt_ret, bt_kill, bt_kl, bt_ix, bt_nl, bt_sm, bt_sr, bt_sig, bt_tg, bt_loc, bt_locs, List.getElem?_cons_zero, List.getElem?_cons_succ, List.set_cons_zero, List.set_cons_succ, List.map_cons, List.map_nil, List.take_succ_cons, List.take_zero, List.drop_succ_cons, List.drop_zero, List.reverse_cons, List.reverse_nil, List.nil_append, List.cons_append, List.append_nil, List.length_cons, List.length_nil, List.replicate_succ, List.replicate_zero, Option.toList_some, Option.toList_none, Nat.reduceAdd, Nat.reduceSub, Nat.reduceLeDiff, Nat.zero_add, Nat.zero_le, true_and, and_true, Int.toNat_natCast, Sum.inl.injEq, Sum.inr.injEq, ↓reduceIte, Nat.reduceEqDiff]
        exact ⟨(A - a) * 100 - 1 - (i + 1), by omega, a, i + 1, ha, by omega, rfl, by rw [ht]; rfl⟩
      by_cases hq : μ (z + 4) i ≤ 0
      · rw [if_pos hq]
        exact nxt _ (by simp [ab_hb, show ¬ 0 < μ (z + 4) i by omega])
      · rw [if_neg hq]
        repeat (refine And.intro (by omega) ?_)
        refine ab_spot_call hg l2 (by omega) ?_
        simp (disch := omega) only [bt_ild, bt_lld, bt_ald, bt_ist, bt_lst, bt_ast, bt_inc, bt_ic, bt_lc, bt_iadd, bt_isub, bt_imul, bt_iand, bt_ior, bt_ixor, bt_ishl, bt_ishr, bt_iushr, bt_ladd, bt_lsub, bt_lmul, bt_land, bt_lor, bt_lushr, bt_lshl, bt_idiv, bt_irem, bt_ldiv, bt_lrem, bt_lcmp, bt_i2l, bt_l2i, bt_i2b, bt_pop, bt_dup, bt_dup2, bt_gfI, bt_gfJ, bt_gfR, bt_pfI, bt_pfZ, bt_pfJ, bt_pfR, bt_ial, bt_bal, bt_zal, bt_lal, bt_aal, bt_ias, bt_bas, bt_zas, bt_las, bt_len, bt_iret, bt_zret, bt_lret, bt_vret, bt_cV, bt_cS, bt_tab, bt_tsw, bt_lk, bt_lsw, bt_acp, bt_mmax, bt_mmin, bt_can, bt_icmpeq, bt_ifeq, bt_icmpne, bt_ifne, bt_icmplt, bt_iflt, bt_icmpge, bt_ifge, bt_icmpgt, bt_ifgt, bt_icmple, bt_ifle, bt_ret, bt_kill, bt_kl, bt_ix, bt_nl, bt_sm, bt_sr, bt_sig, bt_tg, bt_loc, bt_locs, List.getElem?_cons_zero, List.getElem?_cons_succ, List.set_cons_zero, List.set_cons_succ, List.map_cons, List.map_nil, List.take_succ_cons, List.take_zero, List.drop_succ_cons, List.drop_zero, List.reverse_cons, List.reverse_nil, List.nil_append, List.cons_append, List.append_nil, List.length_cons, List.length_nil, List.replicate_succ, List.replicate_zero, Option.toList_some, Option.toList_none, Nat.reduceAdd, Nat.reduceSub, Nat.reduceLeDiff, Nat.zero_add, Nat.zero_le, true_and, and_true, Int.toNat_natCast, Sum.inl.injEq, Sum.inr.injEq, ↓reduceIte, Nat.reduceEqDiff, sh_35, bt_w_id, m1]
        repeat (refine And.intro (by omega) ?_)
        refine nxt _ ?_
        have hs : ab_hb (μ (z + 4)) (fun p => mo (lk a) (H p)) (i + 1) = if ab_hb (μ (z + 4)) (fun p => mo (lk a) (H p)) i < mo (lk a) (H i) then mo (lk a) (H i) else ab_hb (μ (z + 4)) (fun p => mo (lk a) (H p)) i := by
          conv => lhs; unfold ab_hb
          rw [if_pos (by omega)]
        rw [hs]
        unfold bo_max
        rw [bt_w_id (by omega) (by omega), bt_w_id (by omega) (by omega)]
/-- the best so far: found, taken, pacing, the row -/
abbrev ab_Sx : Type := Int × Int × Int × (Nat → Int)
def bt_sx (μ : Nat → Nat → Int) : ab_Sx := (μ 19 6, μ 19 7, μ 19 8, μ 33)
def ab_np (ζ σ : Nat → Nat → Int) : Int := (bt_ct (fun g => decide (bt_w (ab_ma ζ σ 1 g) = 0)) (nG ζ) : Int)
def ab_jd (ζ σ : Nat → Nat → Int) (s : ab_Sx) : ab_Sx := if s.1 = 0 ∨ s.2.1 < ab_tk ζ σ 1 ∨ (s.2.1 = ab_tk ζ σ 1 ∧ ab_np ζ σ < s.2.2.1) then (1, ab_tk ζ σ 1, ab_np ζ σ, fun i => if i < 6 then σ 1 i else s.2.2.2 i) else s
theorem ab_tk_rg {ζ σ : Nat → Nat → Int} (hZ : ab_Z ζ) (hS : ab_S ζ σ) (dr : Int) : 0 ≤ ab_tk ζ σ dr ∧ ab_tk ζ σ dr ≤ 4995 := by
  have hr := ab_rg hZ
  have h1 := bt_sn_rg (f := ab_Y ζ σ dr) (B := 999) (nA ζ) (fun a ha => by have q1 := ab_Yrg hZ hS dr ha; have q2 := hS.2 a ha; omega)
  unfold ab_tk
  have : (nA ζ : Int) * 999 ≤ 4995 := by omega
  omega
def SpX5_judge : bt_Sp := fun As w Q => ∃ (ρ : Nat → Nat → Option Nat) (μ : Nat → Nat → Int) (z : Nat), As = [.inr (.inr 19), .inr (.inr z)] ∧ w = bt_wd ρ μ ∧ bt_Rf ρ ∧ z ∈ bt_zos ∧ ab_Z (bt_vw μ z) ∧ ab_S (bt_vw μ z) (bt_vw μ 29) ∧ (μ 19 6 = 0 ∨ μ 19 6 = 1) ∧ (0 ≤ μ 19 7 ∧ μ 19 7 ≤ 4995) ∧ (0 ≤ μ 19 8 ∧ μ 19 8 ≤ 6) ∧ ∀ μ', bt_sx μ' = ab_jd (bt_vw μ z) (bt_vw μ 29) (bt_sx μ) → (∀ i, i < 6 → μ' 19 i = μ 19 i) → bt_fr (fun a => (19 ≤ a ∧ a ≤ 28) ∨ a = 33) μ' μ → Q none (bt_wd ρ μ')
theorem bt_m20 : 20 ∈ bt_hos ∧ 29 ∈ bt_sts := by decide
set_option maxHeartbeats 4000000 in
theorem mtX5_judge : bt_Met yX5_judge cX5_judge 3 none 4 [2, 2] SpX5_judge := by
  refine bt_metW (lfX5_judge mtX1_foresee (by decide) mtX1_pacingAfter (by decide) (by decide)) (fun As w Q _ hS => ?_)
  obtain ⟨ρ, μ, z, rfl, rfl, hρ, hz, hZ, hSt, hfd, htk, hpc, hQ⟩ := hS
  obtain ⟨c1, c2, c3, c4, c5, c6, c7, c8, c9, c10, c11, c12, c13, c14, c15, c16, c17, c18, c19, c20, c21, c22, c23, c24, c25⟩ := bt_zo_f z hz
  have hzz := bt_zo2 z hz
  have hr := ab_rg hZ
  have hG : μ z 1 = (nG (bt_vw μ z) : Int) := by
    have := hZ.1
    simp only [bt_vw, nG, Nat.add_zero] at *
    omega
  have hHq := ab_Hq hZ hSt
  have htr := ab_tk_rg hZ hSt 1
  simp (disch := omega) only [tX5_judge_0, bt_ild, bt_lld, bt_ald, bt_ist, bt_lst, bt_ast, bt_inc, bt_ic, bt_lc, bt_iadd, bt_isub, bt_imul, bt_iand, bt_ior, bt_ixor, bt_ishl, bt_ishr, bt_iushr, bt_ladd, bt_lsub, bt_lmul, bt_land, bt_lor, bt_lushr, bt_lshl, bt_idiv, bt_irem, bt_ldiv, bt_lrem, bt_lcmp, bt_i2l, bt_l2i, bt_i2b, bt_pop, bt_dup, bt_dup2, bt_gfI, bt_gfJ, bt_gfR, bt_pfI, bt_pfZ, bt_pfJ, bt_pfR, bt_ial, bt_bal, bt_zal, bt_lal, bt_aal, bt_ias, bt_bas, bt_zas, bt_las, bt_len, bt_iret, bt_zret, bt_lret, bt_vret, bt_cV, bt_cS, bt_tab, bt_tsw, bt_lk, bt_lsw, bt_acp, bt_mmax, bt_mmin, bt_can, bt_icmpeq, bt_ifeq, bt_icmpne, bt_ifne, bt_icmplt, bt_iflt, bt_icmpge, bt_ifge, bt_icmpgt, bt_ifgt, bt_icmple, bt_ifle, bt_ret, bt_kill, bt_kl, bt_ix, bt_nl, bt_sm, bt_sr, bt_sig, bt_tg, bt_loc, bt_locs, List.getElem?_cons_zero, List.getElem?_cons_succ, List.set_cons_zero, List.set_cons_succ, List.map_cons, List.map_nil, List.take_succ_cons, List.take_zero, List.drop_succ_cons, List.drop_zero, List.reverse_cons, List.reverse_nil, List.nil_append, List.cons_append, List.append_nil, List.length_cons, List.length_nil, List.replicate_succ, List.replicate_zero, Option.toList_some, Option.toList_none, Nat.reduceAdd, Nat.reduceSub, Nat.reduceLeDiff, Nat.zero_add, Nat.zero_le, true_and, and_true, Int.toNat_natCast, Sum.inl.injEq, Sum.inr.injEq, ↓reduceIte, Nat.reduceEqDiff, sh_19, hρ 19 _ (by decide), rf_19_0, rf_19_1, sh_20]
  repeat (refine And.intro (by omega) ?_)
  refine ⟨ρ, μ, 20, z, 29, _, _, _, _, _, _, _, 1, rfl, rfl, hρ, bt_m20.1, hz, bt_m20.2, Or.inr rfl, hHq, fun μ1 hF hf => ?_⟩
  obtain ⟨f1, f2, f3, f4⟩ := hF
  have e1 : μ1 z = μ z := hf z (by omega)
  have e19 : μ1 19 = μ 19 := hf 19 (by omega)
  have e33 : μ1 33 = μ 33 := hf 33 (by omega)
  have e30 : μ1 30 = μ 30 := hf 30 (by omega)
  have t8 : μ1 20 8 = ab_tk (bt_vw μ z) (bt_vw μ 29) 1 := f4
  simp (disch := omega) only [bt_ild, bt_lld, bt_ald, bt_ist, bt_lst, bt_ast, bt_inc, bt_ic, bt_lc, bt_iadd, bt_isub, bt_imul, bt_iand, bt_ior, bt_ixor, bt_ishl, bt_ishr, bt_iushr, bt_ladd, bt_lsub, bt_lmul, bt_land, bt_lor, bt_lushr, bt_lshl, bt_idiv, bt_irem, bt_ldiv, bt_lrem, bt_lcmp, bt_i2l, bt_l2i, bt_i2b, bt_pop, bt_dup, bt_dup2, bt_gfI, bt_gfJ, bt_gfR, bt_pfI, bt_pfZ, bt_pfJ, bt_pfR, bt_ial, bt_bal, bt_zal, bt_lal, bt_aal, bt_ias, bt_bas, bt_zas, bt_las, bt_len, bt_iret, bt_zret, bt_lret, bt_vret, bt_cV, bt_cS, bt_tab, bt_tsw, bt_lk, bt_lsw, bt_acp, bt_mmax, bt_mmin, bt_can, bt_icmpeq, bt_ifeq, bt_icmpne, bt_ifne, bt_icmplt, bt_iflt, bt_icmpge, bt_ifge, bt_icmpgt, bt_ifgt, bt_icmple, bt_ifle, bt_ret, bt_kill, bt_kl, bt_ix, bt_nl, bt_sm, bt_sr, bt_sig, bt_tg, bt_loc, bt_locs, List.getElem?_cons_zero, List.getElem?_cons_succ, List.set_cons_zero, List.set_cons_succ, List.map_cons, List.map_nil, List.take_succ_cons, List.take_zero, List.drop_succ_cons, List.drop_zero, List.reverse_cons, List.reverse_nil, List.nil_append, List.cons_append, List.append_nil, List.length_cons, List.length_nil, List.replicate_succ, List.replicate_zero, Option.toList_some, Option.toList_none, Nat.reduceAdd, Nat.reduceSub, Nat.reduceLeDiff, Nat.zero_add, Nat.zero_le, true_and, and_true, Int.toNat_natCast, Sum.inl.injEq, Sum.inr.injEq, ↓reduceIte, Nat.reduceEqDiff, sh_19, hρ 19 _ (by decide), rf_19_0, rf_19_1, sh_20, hρ z _ c2, c3, c4, c5, c6, c7, c8, c9, c10, c11, c12, c13, c14, c15, c16, c17, c18, c19, c20, c21, c22, c23, c24, e1, hG]
  repeat (refine And.intro (by omega) ?_)
  refine ⟨ρ, μ1, 20, _, rfl, rfl, hρ, bt_m20.1, hr.1, ?_⟩
  have hnp : (bt_ct (fun g => decide (bt_w (μ1 (20 + 8) g) = 0)) (nG (bt_vw μ z)) : Int) = ab_np (bt_vw μ z) (bt_vw μ 29) := by
    unfold ab_np
    congr 1
    exact bt_ct_congr _ (fun g hg => by rw [f3 g hg]; rfl)
  have hnp2 : (bt_ct (fun g => decide (bt_w (μ1 28 g) = 0)) (nG (bt_vw μ z)) : Int) = ab_np (bt_vw μ z) (bt_vw μ 29) := hnp
  have hnr : 0 ≤ ab_np (bt_vw μ z) (bt_vw μ 29) ∧ ab_np (bt_vw μ z) (bt_vw μ 29) ≤ 6 := by
    unfold ab_np
    have := bt_ct_le (fun g => decide (bt_w (ab_ma (bt_vw μ z) (bt_vw μ 29) 1 g) = 0)) (nG (bt_vw μ z))
    omega
  have keep : ¬ (μ 19 6 = 0 ∨ μ 19 7 < ab_tk (bt_vw μ z) (bt_vw μ 29) 1 ∨ (μ 19 7 = ab_tk (bt_vw μ z) (bt_vw μ 29) 1 ∧ ab_np (bt_vw μ z) (bt_vw μ 29) < μ 19 8)) → Q none (bt_wd ρ μ1) := by
    intro hn
    refine hQ μ1 ?_ (fun i _ => by rw [e19]) (fun a ha => hf a (by omega))
    unfold ab_jd
    rw [if_neg (by exact hn)]
    unfold bt_sx
    rw [e19, e33]
  have take : ∀ t, t = ab_np (bt_vw μ z) (bt_vw μ 29) → (μ 19 6 = 0 ∨ μ 19 7 < ab_tk (bt_vw μ z) (bt_vw μ 29) 1 ∨ (μ 19 7 = ab_tk (bt_vw μ z) (bt_vw μ 29) 1 ∧ ab_np (bt_vw μ z) (bt_vw μ 29) < μ 19 8)) → tX5_judge_68 SpX1_foresee SpX1_pacingAfter bt_k0 Q [] [some (.inr (.inr 19)), some (.inr (.inr z)), some (.inl t)] (bt_wd ρ μ1) := by
    intro t ht hn
    subst ht
    simp (disch := omega) only [tX5_judge_68, tX5_judge_107, bt_ild, bt_lld, bt_ald, bt_ist, bt_lst, bt_ast, bt_inc, bt_ic, bt_lc, bt_iadd, bt_isub, bt_imul, bt_iand, bt_ior, bt_ixor, bt_ishl, bt_ishr, bt_iushr, bt_ladd, bt_lsub, bt_lmul, bt_land, bt_lor, bt_lushr, bt_lshl, bt_idiv, bt_irem, bt_ldiv, bt_lrem, bt_lcmp, bt_i2l, bt_l2i, bt_i2b, bt_pop, bt_dup, bt_dup2, bt_gfI, bt_gfJ, bt_gfR, bt_pfI, bt_pfZ, bt_pfJ, bt_pfR, bt_ial, bt_bal, bt_zal, bt_lal, bt_aal, bt_ias, bt_bas, bt_zas, bt_las, bt_len, bt_iret, bt_zret, bt_lret, bt_vret, bt_cV, bt_cS, bt_tab, bt_tsw, bt_lk, bt_lsw, bt_acp, bt_mmax, bt_mmin, bt_can, bt_icmpeq, bt_ifeq, bt_icmpne, bt_ifne, bt_icmplt, bt_iflt, bt_icmpge, bt_ifge, bt_icmpgt, bt_ifgt, bt_icmple, bt_ifle, bt_ret, bt_kill, bt_kl, bt_ix, bt_nl, bt_sm, bt_sr, bt_sig, bt_tg, bt_loc, bt_locs, List.getElem?_cons_zero, List.getElem?_cons_succ, List.set_cons_zero, List.set_cons_succ, List.map_cons, List.map_nil, List.take_succ_cons, List.take_zero, List.drop_succ_cons, List.drop_zero, List.reverse_cons, List.reverse_nil, List.nil_append, List.cons_append, List.append_nil, List.length_cons, List.length_nil, List.replicate_succ, List.replicate_zero, Option.toList_some, Option.toList_none, Nat.reduceAdd, Nat.reduceSub, Nat.reduceLeDiff, Nat.zero_add, Nat.zero_le, true_and, and_true, Int.toNat_natCast, Sum.inl.injEq, Sum.inr.injEq, ↓reduceIte, Nat.reduceEqDiff, sh_19, hρ 19 _ (by decide), rf_19_0, rf_19_1, rf_19_2, sh_20, sh_29, hρ 29 _ (by decide), rf_29_2, sh_30, sh_33, t8, bt_up_cell, bt_w_id]
    repeat (refine And.intro (by omega) ?_)
    have e6 : Int.toNat 6 = 6 := rfl
    have e0 : Int.toNat 0 = 0 := rfl
    simp only [e6, e0]
    refine ⟨Or.inr trivial, ?_⟩
    repeat (refine And.intro (by omega) ?_)
    refine hQ _ ?_ (fun i hi => ?_) (fun a ha => ?_)
    · unfold ab_jd
      rw [if_pos (by exact hn)]
      unfold bt_sx
      refine Prod.ext ?_ (Prod.ext ?_ (Prod.ext ?_ ?_))
      · simp [bt_cp, bt_up]
      · simp [bt_cp, bt_up]
      · simp [bt_cp, bt_up]
      · funext i
        have q1 := congrFun e30 i
        have q2 := congrFun e33 i
        by_cases h6 : i < 6
        · simp [bt_cp, bt_up, h6, q1, bt_vw]
        · simp [bt_cp, bt_up, h6, q2]
    · rw [bt_cp_cell (by decide), bt_up_ix (by omega), bt_up_ix (by omega), bt_up_ix (by omega), e19]
    · rw [bt_cp_cell (by omega), bt_up_cell (by omega), bt_up_cell (by omega), bt_up_cell (by omega)]
      exact hf a (by omega)
  simp (disch := omega) only [bt_ild, bt_lld, bt_ald, bt_ist, bt_lst, bt_ast, bt_inc, bt_ic, bt_lc, bt_iadd, bt_isub, bt_imul, bt_iand, bt_ior, bt_ixor, bt_ishl, bt_ishr, bt_iushr, bt_ladd, bt_lsub, bt_lmul, bt_land, bt_lor, bt_lushr, bt_lshl, bt_idiv, bt_irem, bt_ldiv, bt_lrem, bt_lcmp, bt_i2l, bt_l2i, bt_i2b, bt_pop, bt_dup, bt_dup2, bt_gfI, bt_gfJ, bt_gfR, bt_pfI, bt_pfZ, bt_pfJ, bt_pfR, bt_ial, bt_bal, bt_zal, bt_lal, bt_aal, bt_ias, bt_bas, bt_zas, bt_las, bt_len, bt_iret, bt_zret, bt_lret, bt_vret, bt_cV, bt_cS, bt_tab, bt_tsw, bt_lk, bt_lsw, bt_acp, bt_mmax, bt_mmin, bt_can, bt_icmpeq, bt_ifeq, bt_icmpne, bt_ifne, bt_icmplt, bt_iflt, bt_icmpge, bt_ifge, bt_icmpgt, bt_ifgt, bt_icmple, bt_ifle, bt_ret, bt_kill, bt_kl, bt_ix, bt_nl, bt_sm, bt_sr, bt_sig, bt_tg, bt_loc, bt_locs, List.getElem?_cons_zero, List.getElem?_cons_succ, List.set_cons_zero, List.set_cons_succ, List.map_cons, List.map_nil, List.take_succ_cons, List.take_zero, List.drop_succ_cons, List.drop_zero, List.reverse_cons, List.reverse_nil, List.nil_append, List.cons_append, List.append_nil, List.length_cons, List.length_nil, List.replicate_succ, List.replicate_zero, Option.toList_some, Option.toList_none, Nat.reduceAdd, Nat.reduceSub, Nat.reduceLeDiff, Nat.zero_add, Nat.zero_le, true_and, and_true, Int.toNat_natCast, Sum.inl.injEq, Sum.inr.injEq, ↓reduceIte, Nat.reduceEqDiff, hnp, hnp2, sh_19, hρ 19 _ (by decide), rf_19_0, sh_20, e19, t8, bt_w_id]
  repeat (refine And.intro (by omega) ?_)
  have leave : ¬ (μ 19 6 = 0 ∨ μ 19 7 < ab_tk (bt_vw μ z) (bt_vw μ 29) 1 ∨ (μ 19 7 = ab_tk (bt_vw μ z) (bt_vw μ 29) 1 ∧ ab_np (bt_vw μ z) (bt_vw μ 29) < μ 19 8)) → ∀ t, tX5_judge_107 SpX1_foresee SpX1_pacingAfter bt_k0 Q [] [some (.inr (.inr 19)), some (.inr (.inr z)), some (.inl t)] (bt_wd ρ μ1) := by
    intro hn t
    simp (disch := omega) only [tX5_judge_107, bt_ild, bt_lld, bt_ald, bt_ist, bt_lst, bt_ast, bt_inc, bt_ic, bt_lc, bt_iadd, bt_isub, bt_imul, bt_iand, bt_ior, bt_ixor, bt_ishl, bt_ishr, bt_iushr, bt_ladd, bt_lsub, bt_lmul, bt_land, bt_lor, bt_lushr, bt_lshl, bt_idiv, bt_irem, bt_ldiv, bt_lrem, bt_lcmp, bt_i2l, bt_l2i, bt_i2b, bt_pop, bt_dup, bt_dup2, bt_gfI, bt_gfJ, bt_gfR, bt_pfI, bt_pfZ, bt_pfJ, bt_pfR, bt_ial, bt_bal, bt_zal, bt_lal, bt_aal, bt_ias, bt_bas, bt_zas, bt_las, bt_len, bt_iret, bt_zret, bt_lret, bt_vret, bt_cV, bt_cS, bt_tab, bt_tsw, bt_lk, bt_lsw, bt_acp, bt_mmax, bt_mmin, bt_can, bt_icmpeq, bt_ifeq, bt_icmpne, bt_ifne, bt_icmplt, bt_iflt, bt_icmpge, bt_ifge, bt_icmpgt, bt_ifgt, bt_icmple, bt_ifle, bt_ret, bt_kill, bt_kl, bt_ix, bt_nl, bt_sm, bt_sr, bt_sig, bt_tg, bt_loc, bt_locs, List.getElem?_cons_zero, List.getElem?_cons_succ, List.set_cons_zero, List.set_cons_succ, List.map_cons, List.map_nil, List.take_succ_cons, List.take_zero, List.drop_succ_cons, List.drop_zero, List.reverse_cons, List.reverse_nil, List.nil_append, List.cons_append, List.append_nil, List.length_cons, List.length_nil, List.replicate_succ, List.replicate_zero, Option.toList_some, Option.toList_none, Nat.reduceAdd, Nat.reduceSub, Nat.reduceLeDiff, Nat.zero_add, Nat.zero_le, true_and, and_true, Int.toNat_natCast, Sum.inl.injEq, Sum.inr.injEq, ↓reduceIte, Nat.reduceEqDiff]
    exact keep hn
  by_cases h1 : μ 19 6 = 0
  · rw [if_pos h1]
    exact take _ rfl (Or.inl h1)
  · rw [if_neg h1]
    repeat (refine And.intro (by omega) ?_)
    by_cases h2 : μ 19 7 < ab_tk (bt_vw μ z) (bt_vw μ 29) 1
    · rw [if_pos h2]
      exact take _ rfl (Or.inr (Or.inl h2))
    · rw [if_neg h2]
      repeat (refine And.intro (by omega) ?_)
      by_cases h3 : ab_tk (bt_vw μ z) (bt_vw μ 29) 1 = μ 19 7
      · rw [if_pos h3]
        repeat (refine And.intro (by omega) ?_)
        by_cases h4 : μ 19 8 ≤ ab_np (bt_vw μ z) (bt_vw μ 29)
        · rw [if_pos h4]
          exact leave (by omega) _
        · rw [if_neg h4]
          exact take _ rfl (Or.inr (Or.inr ⟨h3.symm, by omega⟩))
      · rw [if_neg h3]
        exact leave (by omega) _
