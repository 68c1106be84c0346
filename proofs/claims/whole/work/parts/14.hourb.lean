/-! Hour: who goes where -/
/-- the first best among the first n that are free: place and worth -/
def hn_pk (ok : Nat → Bool) (wt : Nat → Int) : Nat → Int × Int
  | 0 => (-1, 0)
  | n + 1 => if ok n = true ∧ (hn_pk ok wt n).2 < wt n then ((n : Int), wt n) else hn_pk ok wt n
theorem hn_pk_rg {ok : Nat → Bool} {wt : Nat → Int} {n : Nat} {B : Int} (hB : 0 ≤ B) (h : ∀ p, p < n → wt p ≤ B) : 0 ≤ (hn_pk ok wt n).2 ∧ (hn_pk ok wt n).2 ≤ B ∧ -1 ≤ (hn_pk ok wt n).1 ∧ (hn_pk ok wt n).1 < n := by
  induction n with
  | zero => simp [hn_pk, hB]
  | succ n ih =>
    have h1 := ih (fun p hp => h p (by omega))
    have h2 := h n (by omega)
    unfold hn_pk
    split
    next hc => exact ⟨by have := hc.2; omega, h2, by show (-1 : Int) ≤ (n : Int); omega, by show (n : Int) < ((n + 1 : Nat) : Int); omega⟩
    next hc => exact ⟨h1.1, h1.2.1, h1.2.2.1, by omega⟩
theorem hn_pk_congr {ok ok' : Nat → Bool} {wt wt' : Nat → Int} {n : Nat} (h : ∀ p, p < n → ok p = ok' p ∧ wt p = wt' p) : hn_pk ok wt n = hn_pk ok' wt' n := by
  induction n with
  | zero => rfl
  | succ n ih =>
    unfold hn_pk
    rw [ih (fun p hp => h p (by omega)), (h n (by omega)).1, (h n (by omega)).2]
/-- what is picked is free, and its worth -/
theorem hn_pk_of {ok : Nat → Bool} {wt : Nat → Int} {n : Nat} : (hn_pk ok wt n).1 = -1 ∧ (hn_pk ok wt n).2 = 0 ∨ ∃ p, p < n ∧ (hn_pk ok wt n).1 = (p : Int) ∧ ok p = true ∧ (hn_pk ok wt n).2 = wt p ∧ 0 < wt p := by
  induction n with
  | zero => left; exact ⟨rfl, rfl⟩
  | succ n ih =>
    have hr : 0 ≤ (hn_pk ok wt n).2 := by rcases ih with h | ⟨p, h⟩ <;> omega
    unfold hn_pk
    split
    next hc => right; exact ⟨n, by omega, rfl, hc.1, rfl, by have := hc.2; show 0 < wt n; omega⟩
    next hc =>
      rcases ih with h | ⟨p, h1, h2⟩
      · left; exact h
      · right; exact ⟨p, by omega, h2⟩
def hn_wt (μ : Nat → Nat → Int) (h K p : Nat) : Int := μ (h + 2) p + bt_sn (fun k => if K.testBit k then μ (h + 3) (k * 6 + p) else 0) 4
def SpX1_choice : bt_Sp := fun As w Q => ∃ (ρ : Nat → Nat → Option Nat) (μ : Nat → Nat → Int) (h z K n : Nat), As = [.inr (.inr h), .inr (.inr z), .inl (K : Int)] ∧ w = bt_wd ρ μ ∧ bt_Rf ρ ∧ h ∈ bt_hos ∧ z ∈ bt_zos ∧ K < 16 ∧ μ z 0 = (n : Int) ∧ n ≤ 6 ∧ (∀ p, p < n → -1000000 ≤ hn_wt μ h K p ∧ hn_wt μ h K p ≤ 1000000 ∧ -1000 ≤ μ (h + 4) p ∧ μ (h + 4) p ≤ 1000) ∧ Q (some (.inl (hn_pk (fun p => decide (0 < μ (h + 4) p)) (hn_wt μ h K) n).1)) w
set_option maxHeartbeats 4000000 in
theorem mtX1_choice : bt_Met yX1_choice cX1_choice 7 (some .int) 2 [2, 2, 0] SpX1_choice := by
  refine lpX1_choice mtX1_worthTo (by decide) _ (fun As w Q _ hS => ?_)
  obtain ⟨ρ, μ, h, z, K, n, rfl, rfl, hρ, hh, hz, hK, hn, hn6, hw, hQ⟩ := hS
  obtain ⟨a1, a2, a3, a4, a5, a6, a7, a8, a9, a10, a11, a12, a13, a14, a15, a16, a17, a18, a19⟩ := bt_ho_f h hh
  obtain ⟨c1, c2, c3, c4, c5, c6, c7, c8, c9, c10, c11, c12, c13, c14, c15, c16, c17, c18, c19, c20, c21, c22, c23, c24, c25⟩ := bt_zo_f z hz
  refine ⟨fun h' m st L w => st = [] ∧ w = bt_wd ρ μ ∧ ∃ i : Nat, i ≤ n ∧ m = n - i ∧ L = [some (.inr (.inr h)), some (.inr (.inr z)), some (.inl (K : Int)), some (.inl (hn_pk (fun p => decide (0 < μ (h + 4) p)) (hn_wt μ h K) i).1), some (.inl (hn_pk (fun p => decide (0 < μ (h + 4) p)) (hn_wt μ h K) i).2), some (.inl (i : Int)), none], ?_, ?_⟩
  · simp (disch := omega) only [tX1_choice_0, tX1_choice_38, tX1_choice_54, bt_ild, bt_lld, bt_ald, bt_ist, bt_lst, bt_ast, bt_inc, bt_ic, bt_lc, bt_iadd, bt_isub, bt_imul, bt_iand, bt_ior, bt_ixor, bt_ishl, bt_ishr, bt_iushr, bt_ladd, bt_lsub, bt_lmul, bt_land, bt_lor, bt_lushr, bt_lshl, bt_idiv, bt_irem, bt_ldiv, bt_lrem, bt_lcmp, bt_i2l, bt_l2i, bt_i2b, bt_pop, bt_dup, bt_dup2, bt_gfI, bt_gfJ, bt_gfR, bt_pfI, bt_pfZ, bt_pfJ, bt_pfR, bt_ial, bt_bal, bt_zal, bt_lal, bt_aal, bt_ias, bt_bas, bt_zas, bt_las, bt_len, bt_iret, bt_zret, bt_lret, bt_vret, bt_cV, bt_cS, bt_tab, bt_tsw, bt_lk, bt_lsw, bt_acp, bt_mmax, bt_mmin, bt_can, bt_icmpeq, bt_ifeq, bt_icmpne, bt_ifne, bt_icmplt, bt_iflt, bt_icmpge, bt_ifge, bt_icmpgt, bt_ifgt, bt_icmple, bt_ifle, bt_ret, bt_kill, bt_kl, bt_ix, bt_nl, bt_sm, bt_sr, bt_sig, bt_tg, bt_loc, bt_locs, List.getElem?_cons_zero, List.getElem?_cons_succ, List.set_cons_zero, List.set_cons_succ, List.map_cons, List.map_nil, List.take_succ_cons, List.take_zero, List.drop_succ_cons, List.drop_zero, List.reverse_cons, List.reverse_nil, List.nil_append, List.cons_append, List.append_nil, List.length_cons, List.length_nil, List.replicate_succ, List.replicate_zero, Option.toList_some, Option.toList_none, Nat.reduceAdd, Nat.reduceSub, Nat.reduceLeDiff, Nat.zero_add, Nat.zero_le, true_and, and_true, Int.toNat_natCast, Sum.inl.injEq, Sum.inr.injEq, ↓reduceIte, Nat.reduceEqDiff, bt_w_id]
    exact ⟨n, 0, by omega, by omega, rfl⟩
  · rintro m st L w ⟨rfl, rfl, i, hi, rfl, rfl⟩
    have hr := hn_pk_rg (ok := fun p => decide (0 < μ (h + 4) p)) (wt := hn_wt μ h K) (n := i) (B := 1000000) (by omega) (fun p hp => (hw p (by omega)).2.1)
    simp (disch := omega) only [tX1_choice_8, tX1_choice_38, tX1_choice_54, hρ h _ a2, a3, a4, a5, a6, a7, a8, a9, a10, a11, a12, a13, a14, a15, a16, a17, a18, a19, hρ z _ c2, c3, c4, c5, c6, c7, c8, c9, c10, c11, c12, c13, c14, c15, c16, c17, c18, c19, c20, c21, c22, c23, c24, hn, bt_ild, bt_lld, bt_ald, bt_ist, bt_lst, bt_ast, bt_inc, bt_ic, bt_lc, bt_iadd, bt_isub, bt_imul, bt_iand, bt_ior, bt_ixor, bt_ishl, bt_ishr, bt_iushr, bt_ladd, bt_lsub, bt_lmul, bt_land, bt_lor, bt_lushr, bt_lshl, bt_idiv, bt_irem, bt_ldiv, bt_lrem, bt_lcmp, bt_i2l, bt_l2i, bt_i2b, bt_pop, bt_dup, bt_dup2, bt_gfI, bt_gfJ, bt_gfR, bt_pfI, bt_pfZ, bt_pfJ, bt_pfR, bt_ial, bt_bal, bt_zal, bt_lal, bt_aal, bt_ias, bt_bas, bt_zas, bt_las, bt_len, bt_iret, bt_zret, bt_lret, bt_vret, bt_cV, bt_cS, bt_tab, bt_tsw, bt_lk, bt_lsw, bt_acp, bt_mmax, bt_mmin, bt_can, bt_icmpeq, bt_ifeq, bt_icmpne, bt_ifne, bt_icmplt, bt_iflt, bt_icmpge, bt_ifge, bt_icmpgt, bt_ifgt, bt_icmple, bt_ifle, bt_ret, bt_kill, bt_kl, bt_ix, bt_nl, bt_sm, bt_sr, bt_sig, bt_tg, bt_loc, bt_locs, List.getElem?_cons_zero, List.getElem?_cons_succ, List.set_cons_zero, List.set_cons_succ, List.map_cons, List.map_nil, List.take_succ_cons, List.take_zero, List.drop_succ_cons, List.drop_zero, List.reverse_cons, List.reverse_nil, List.nil_append, List.cons_append, List.append_nil, List.length_cons, List.length_nil, List.replicate_succ, List.replicate_zero, Option.toList_some, Option.toList_none, Nat.reduceAdd, Nat.reduceSub, Nat.reduceLeDiff, Nat.zero_add, Nat.zero_le, true_and, and_true, Int.toNat_natCast, Sum.inl.injEq, Sum.inr.injEq, ↓reduceIte, Nat.reduceEqDiff, bt_w_id]
    refine And.intro (by omega) ?_
    by_cases hc : n ≤ i
    · rw [if_pos (by omega)]
      have : i = n := by omega
      subst this
      exact hQ
    · rw [if_neg (by omega)]
      obtain ⟨w1, w2, w3, w4⟩ := hw i (by omega)
      rw [bt_w_id (x := μ (h + 4) i) (by omega) (by omega)]
      repeat (refine And.intro (by omega) ?_)
      by_cases hp : μ (h + 4) i ≤ 0
      · rw [if_pos hp, if_pos (by omega)]
        refine ⟨n - (i + 1), by omega, i + 1, by omega, rfl, ?_⟩
        have : ¬ (0 < μ (h + 4) i) := by omega
        simp [hn_pk, this]
      · rw [if_neg hp]
        refine ⟨by omega, ρ, μ, h, i, K, rfl, rfl, hρ, hh, by omega, hK, ?_⟩
        simp only [bt_ild, bt_lld, bt_ald, bt_ist, bt_lst, bt_ast, bt_inc, bt_ic, bt_lc, bt_iadd, bt_isub, bt_imul, bt_iand, bt_ior, bt_ixor, bt_ishl, bt_ishr, bt_iushr, bt_ladd, bt_lsub, bt_lmul, bt_land, bt_lor, bt_lushr, bt_lshl, bt_idiv, bt_irem, bt_ldiv, bt_lrem, bt_lcmp, bt_i2l, bt_l2i, bt_i2b, bt_pop, bt_dup, bt_dup2, bt_gfI, bt_gfJ, bt_gfR, bt_pfI, bt_pfZ, bt_pfJ, bt_pfR, bt_ial, bt_bal, bt_zal, bt_lal, bt_aal, bt_ias, bt_bas, bt_zas, bt_las, bt_len, bt_iret, bt_zret, bt_lret, bt_vret, bt_cV, bt_cS, bt_tab, bt_tsw, bt_lk, bt_lsw, bt_acp, bt_mmax, bt_mmin, bt_can, bt_icmpeq, bt_ifeq, bt_icmpne, bt_ifne, bt_icmplt, bt_iflt, bt_icmpge, bt_ifge, bt_icmpgt, bt_ifgt, bt_icmple, bt_ifle, bt_ret, bt_kill, bt_kl, bt_ix, bt_nl, bt_sm, bt_sr, bt_sig, bt_tg, bt_loc, bt_locs, List.getElem?_cons_zero, List.getElem?_cons_succ, List.set_cons_zero, List.set_cons_succ, List.map_cons, List.map_nil, List.take_succ_cons, List.take_zero, List.drop_succ_cons, List.drop_zero, List.reverse_cons, List.reverse_nil, List.nil_append, List.cons_append, List.append_nil, List.length_cons, List.length_nil, List.replicate_succ, List.replicate_zero, Option.toList_some, Option.toList_none, Nat.reduceAdd, Nat.reduceSub, Nat.reduceLeDiff, Nat.zero_add, Nat.zero_le, true_and, and_true, Int.toNat_natCast, Sum.inl.injEq, Sum.inr.injEq, ↓reduceIte, Nat.reduceEqDiff]
        rw [show μ (h + 2) i + bt_sn (fun k => if K.testBit k then μ (h + 3) (k * 6 + i) else 0) 4 = hn_wt μ h K i from rfl]
        simp (disch := omega) only [bt_w_id]
        have hp2 : 0 < μ (h + 4) i := by omega
        by_cases hq : hn_wt μ h K i ≤ (hn_pk (fun p => decide (0 < μ (h + 4) p)) (hn_wt μ h K) i).2
        · rw [if_pos hq]
          refine ⟨n - (i + 1), by omega, i + 1, by omega, rfl, ?_⟩
          have : ¬ ((hn_pk (fun p => decide (0 < μ (h + 4) p)) (hn_wt μ h K) i).2 < hn_wt μ h K i) := by omega
          simp [hn_pk, this]
        · rw [if_neg hq]
          refine ⟨n - (i + 1), by omega, i + 1, by omega, rfl, ?_⟩
          have : (hn_pk (fun p => decide (0 < μ (h + 4) p)) (hn_wt μ h K) i).2 < hn_wt μ h K i := by omega
          simp [hn_pk, this, hp2]
def SpX1_pacingAfter : bt_Sp := fun As w Q => ∃ (ρ : Nat → Nat → Option Nat) (μ : Nat → Nat → Int) (h n : Nat), As = [.inr (.inr h), .inl (n : Int)] ∧ w = bt_wd ρ μ ∧ bt_Rf ρ ∧ h ∈ bt_hos ∧ n ≤ 6 ∧ Q (some (.inl (bt_ct (fun g => decide (bt_w (μ (h + 8) g) = 0)) n : Int))) w
set_option maxHeartbeats 4000000 in
theorem mtX1_pacingAfter : bt_Met yX1_pacingAfter cX1_pacingAfter 4 (some .int) 1 [2, 0] SpX1_pacingAfter := by
  refine lpX1_pacingAfter _ (fun As w Q _ hS => ?_)
  obtain ⟨ρ, μ, h, n, rfl, rfl, hρ, hh, hn, hQ⟩ := hS
  obtain ⟨a1, a2, a3, a4, a5, a6, a7, a8, a9, a10, a11, a12, a13, a14, a15, a16, a17, a18, a19⟩ := bt_ho_f h hh
  refine ⟨fun h' m st L w => st = [] ∧ w = bt_wd ρ μ ∧ ∃ i : Nat, i ≤ n ∧ m = n - i ∧ L = [some (.inr (.inr h)), some (.inl (n : Int)), some (.inl (bt_ct (fun g => decide (bt_w (μ (h + 8) g) = 0)) i : Int)), some (.inl (i : Int))], ?_, ?_⟩
  · simp (disch := omega) only [tX1_pacingAfter_0, bt_ild, bt_lld, bt_ald, bt_ist, bt_lst, bt_ast, bt_inc, bt_ic, bt_lc, bt_iadd, bt_isub, bt_imul, bt_iand, bt_ior, bt_ixor, bt_ishl, bt_ishr, bt_iushr, bt_ladd, bt_lsub, bt_lmul, bt_land, bt_lor, bt_lushr, bt_lshl, bt_idiv, bt_irem, bt_ldiv, bt_lrem, bt_lcmp, bt_i2l, bt_l2i, bt_i2b, bt_pop, bt_dup, bt_dup2, bt_gfI, bt_gfJ, bt_gfR, bt_pfI, bt_pfZ, bt_pfJ, bt_pfR, bt_ial, bt_bal, bt_zal, bt_lal, bt_aal, bt_ias, bt_bas, bt_zas, bt_las, bt_len, bt_iret, bt_zret, bt_lret, bt_vret, bt_cV, bt_cS, bt_tab, bt_tsw, bt_lk, bt_lsw, bt_acp, bt_mmax, bt_mmin, bt_can, bt_icmpeq, bt_ifeq, bt_icmpne, bt_ifne, bt_icmplt, bt_iflt, bt_icmpge, bt_ifge, bt_icmpgt, bt_ifgt, bt_icmple, bt_ifle, bt_ret, bt_kill, bt_kl, bt_ix, bt_nl, bt_sm, bt_sr, bt_sig, bt_tg, bt_loc, bt_locs, List.getElem?_cons_zero, List.getElem?_cons_succ, List.set_cons_zero, List.set_cons_succ, List.map_cons, List.map_nil, List.take_succ_cons, List.take_zero, List.drop_succ_cons, List.drop_zero, List.reverse_cons, List.reverse_nil, List.nil_append, List.cons_append, List.append_nil, List.length_cons, List.length_nil, List.replicate_succ, List.replicate_zero, Option.toList_some, Option.toList_none, Nat.reduceAdd, Nat.reduceSub, Nat.reduceLeDiff, Nat.zero_add, Nat.zero_le, true_and, and_true, Int.toNat_natCast, Sum.inl.injEq, Sum.inr.injEq, ↓reduceIte, Nat.reduceEqDiff]
    exact ⟨n, 0, by omega, by omega, rfl⟩
  · rintro m st L w ⟨rfl, rfl, i, hi, rfl, rfl⟩
    simp (disch := omega) only [tX1_pacingAfter_4, tX1_pacingAfter_21, hρ h _ a2, a3, a4, a5, a6, a7, a8, a9, a10, a11, a12, a13, a14, a15, a16, a17, a18, a19, bt_ild, bt_lld, bt_ald, bt_ist, bt_lst, bt_ast, bt_inc, bt_ic, bt_lc, bt_iadd, bt_isub, bt_imul, bt_iand, bt_ior, bt_ixor, bt_ishl, bt_ishr, bt_iushr, bt_ladd, bt_lsub, bt_lmul, bt_land, bt_lor, bt_lushr, bt_lshl, bt_idiv, bt_irem, bt_ldiv, bt_lrem, bt_lcmp, bt_i2l, bt_l2i, bt_i2b, bt_pop, bt_dup, bt_dup2, bt_gfI, bt_gfJ, bt_gfR, bt_pfI, bt_pfZ, bt_pfJ, bt_pfR, bt_ial, bt_bal, bt_zal, bt_lal, bt_aal, bt_ias, bt_bas, bt_zas, bt_las, bt_len, bt_iret, bt_zret, bt_lret, bt_vret, bt_cV, bt_cS, bt_tab, bt_tsw, bt_lk, bt_lsw, bt_acp, bt_mmax, bt_mmin, bt_can, bt_icmpeq, bt_ifeq, bt_icmpne, bt_ifne, bt_icmplt, bt_iflt, bt_icmpge, bt_ifge, bt_icmpgt, bt_ifgt, bt_icmple, bt_ifle, bt_ret, bt_kill, bt_kl, bt_ix, bt_nl, bt_sm, bt_sr, bt_sig, bt_tg, bt_loc, bt_locs, List.getElem?_cons_zero, List.getElem?_cons_succ, List.set_cons_zero, List.set_cons_succ, List.map_cons, List.map_nil, List.take_succ_cons, List.take_zero, List.drop_succ_cons, List.drop_zero, List.reverse_cons, List.reverse_nil, List.nil_append, List.cons_append, List.append_nil, List.length_cons, List.length_nil, List.replicate_succ, List.replicate_zero, Option.toList_some, Option.toList_none, Nat.reduceAdd, Nat.reduceSub, Nat.reduceLeDiff, Nat.zero_add, Nat.zero_le, true_and, and_true, Int.toNat_natCast, Sum.inl.injEq, Sum.inr.injEq, ↓reduceIte, Nat.reduceEqDiff, bt_w_id]
    by_cases hc : n ≤ i
    · rw [if_pos (by omega)]
      have : i = n := by omega
      subst this
      exact hQ
    · rw [if_neg (by omega)]
      repeat (refine And.intro (by omega) ?_)
      split
      next hz => exact ⟨n - (i + 1), by omega, i + 1, by omega, rfl, by simp [bt_ct, hz]⟩
      next hz => exact ⟨n - (i + 1), by omega, i + 1, by omega, rfl, by simp [bt_ct, hz]⟩
