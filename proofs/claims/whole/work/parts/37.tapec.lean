/-! Tape: the token at hand -/
/-- which word stands at c: its number, -1 another name, -2 none -/
def tk_w (t : Nat → Int) (n c : Nat) : Int := if tk_k t n c = 1 then tk_wd (tk_x t n c) else -2
theorem tk_w_rg (t : Nat → Int) (n c : Nat) : -2 ≤ tk_w t n c ∧ tk_w t n c < 30 := by
  have := tk_wd_rg (tk_x t n c)
  unfold tk_w
  split <;> omega
/-- the token at c stands, nothing has failed yet -/
def bt_Go (μ' μ : Nat → Nat → Int) (t : Nat → Int) (n c : Nat) : Prop := bt_Tp μ' t n ∧ bt_Tc μ' t n c ∧ μ' 1 3 = μ 1 3
theorem bt_Tp.fr {μ' μ : Nat → Nat → Int} {t : Nat → Int} {n : Nat} (h : bt_Tp μ t n) (h1 : μ' 1 = μ 1) (h2 : μ' 2 = μ 2) (h3 : μ' 3 = μ 3) : bt_Tp μ' t n := by
  unfold bt_Tp at *; rw [h1, h2, h3]; exact h
theorem bt_Tc.fr {μ' μ : Nat → Nat → Int} {t : Nat → Int} {n c : Nat} (h : bt_Tc μ t n c) (h1 : μ' 1 = μ 1) : bt_Tc μ' t n c := by
  unfold bt_Tc at *; rw [h1]; exact h
theorem tk_isWord_call {ρ : Nat → Nat → Option Nat} {μ : Nat → Nat → Int} {t : Nat → Int} {n c k : Nat} (hp : bt_Tp μ t n) (hc : bt_Tc μ t n c) (hk : k < 30) {Q : Option bt_V → bt_W → Prop} (hq : Q (some (.inl (if tk_w t n c = (k : Int) then 1 else 0))) (bt_wd ρ μ)) : SpX7_isWord [.inr (.inr 1), .inl (k : Int)] (bt_wd ρ μ) Q := by
  obtain ⟨hn, hn2, ht, htr, hw⟩ := hp
  obtain ⟨c1, c2, c4, c5, c6, c7, c9⟩ := hc
  have hr := tk_k_rg (t := t) (n := n) (c := c) (fun h => htr c h)
  simp (disch := omega) only [SpX7_isWord, tX7_isWord_0, tX7_isWord_20, tX7_isWord_21, bt_ild, bt_lld, bt_ald, bt_ist, bt_lst, bt_ast, bt_inc, bt_ic, bt_lc, bt_iadd, bt_isub, bt_imul, bt_iand, bt_ior, bt_ixor, bt_ishl, bt_ishr, bt_iushr, bt_ladd, bt_lsub, bt_lmul, bt_land, bt_lor, bt_lushr, bt_lshl, bt_idiv, bt_irem, bt_ldiv, bt_lrem, bt_lcmp, bt_i2l, bt_l2i, bt_i2b, bt_pop, bt_dup, bt_dup2, bt_gfI, bt_gfJ, bt_gfR, bt_pfI, bt_pfZ, bt_pfJ, bt_pfR, bt_ial, bt_bal, bt_zal, bt_lal, bt_aal, bt_ias, bt_bas, bt_zas, bt_las, bt_len, bt_iret, bt_zret, bt_lret, bt_vret, bt_cV, bt_cS, bt_tab, bt_tsw, bt_lk, bt_lsw, bt_acp, bt_mmax, bt_mmin, bt_can, bt_icmpeq, bt_ifeq, bt_icmpne, bt_ifne, bt_icmplt, bt_iflt, bt_icmpge, bt_ifge, bt_icmpgt, bt_ifgt, bt_icmple, bt_ifle, bt_ret, bt_kill, bt_kl, bt_ix, bt_nl, bt_sm, bt_sr, bt_sig, bt_tg, bt_loc, bt_locs, List.getElem?_cons_zero, List.getElem?_cons_succ, List.set_cons_zero, List.set_cons_succ, List.map_cons, List.map_nil, List.take_succ_cons, List.take_zero, List.drop_succ_cons, List.drop_zero, List.reverse_cons, List.reverse_nil, List.nil_append, List.cons_append, List.append_nil, List.length_cons, List.length_nil, List.replicate_succ, List.replicate_zero, Option.toList_some, Option.toList_none, Nat.reduceAdd, Nat.reduceSub, Nat.reduceLeDiff, Nat.zero_add, Nat.zero_le, true_and, and_true, Int.toNat_natCast, Sum.inl.injEq, Sum.inr.injEq, ↓reduceIte, Nat.reduceEqDiff, sh_1, c6, bt_w_id]
  unfold tk_w at hq
  by_cases h1 : tk_k t n c = 1
  · rw [if_pos h1] at hq
    obtain ⟨c7, c8⟩ := c7 h1
    have := tk_wd_rg (tk_x t n c)
    simp (disch := omega) only [c8, h1, ↓reduceIte, bt_w_id]
    by_cases h2 : tk_wd (tk_x t n c) = (k : Int)
    · rw [if_pos h2] at hq
      simp only [h2, ↓reduceIte]
      exact ⟨by decide, by decide, by simp, hq⟩
    · rw [if_neg h2] at hq
      simp only [h2, ↓reduceIte]
      exact ⟨by decide, by decide, by simp, hq⟩
  · rw [if_neg h1, if_neg (by omega)] at hq
    simp only [h1, ↓reduceIte]
    exact ⟨by decide, by simp, hq⟩
theorem tk_isName_call {ρ : Nat → Nat → Option Nat} {μ : Nat → Nat → Int} {t : Nat → Int} {n c : Nat} (hp : bt_Tp μ t n) (hc : bt_Tc μ t n c) {Q : Option bt_V → bt_W → Prop} (hq : Q (some (.inl (if tk_w t n c = -1 ∨ 25 ≤ tk_w t n c then 1 else 0))) (bt_wd ρ μ)) : SpX7_isName [.inr (.inr 1)] (bt_wd ρ μ) Q := by
  obtain ⟨hn, hn2, ht, htr, hw⟩ := hp
  obtain ⟨c1, c2, c4, c5, c6, c7, c9⟩ := hc
  have hr := tk_k_rg (t := t) (n := n) (c := c) (fun h => htr c h)
  simp (disch := omega) only [SpX7_isName, tX7_isName_0, tX7_isName_25, tX7_isName_29, tX7_isName_30, bt_ild, bt_lld, bt_ald, bt_ist, bt_lst, bt_ast, bt_inc, bt_ic, bt_lc, bt_iadd, bt_isub, bt_imul, bt_iand, bt_ior, bt_ixor, bt_ishl, bt_ishr, bt_iushr, bt_ladd, bt_lsub, bt_lmul, bt_land, bt_lor, bt_lushr, bt_lshl, bt_idiv, bt_irem, bt_ldiv, bt_lrem, bt_lcmp, bt_i2l, bt_l2i, bt_i2b, bt_pop, bt_dup, bt_dup2, bt_gfI, bt_gfJ, bt_gfR, bt_pfI, bt_pfZ, bt_pfJ, bt_pfR, bt_ial, bt_bal, bt_zal, bt_lal, bt_aal, bt_ias, bt_bas, bt_zas, bt_las, bt_len, bt_iret, bt_zret, bt_lret, bt_vret, bt_cV, bt_cS, bt_tab, bt_tsw, bt_lk, bt_lsw, bt_acp, bt_mmax, bt_mmin, bt_can, bt_icmpeq, bt_ifeq, bt_icmpne, bt_ifne, bt_icmplt, bt_iflt, bt_icmpge, bt_ifge, bt_icmpgt, bt_ifgt, bt_icmple, bt_ifle, bt_ret, bt_kill, bt_kl, bt_ix, bt_nl, bt_sm, bt_sr, bt_sig, bt_tg, bt_loc, bt_locs, List.getElem?_cons_zero, List.getElem?_cons_succ, List.set_cons_zero, List.set_cons_succ, List.map_cons, List.map_nil, List.take_succ_cons, List.take_zero, List.drop_succ_cons, List.drop_zero, List.reverse_cons, List.reverse_nil, List.nil_append, List.cons_append, List.append_nil, List.length_cons, List.length_nil, List.replicate_succ, List.replicate_zero, Option.toList_some, Option.toList_none, Nat.reduceAdd, Nat.reduceSub, Nat.reduceLeDiff, Nat.zero_add, Nat.zero_le, true_and, and_true, Int.toNat_natCast, Sum.inl.injEq, Sum.inr.injEq, ↓reduceIte, Nat.reduceEqDiff, sh_1, c6, bt_w_id]
  unfold tk_w at hq
  by_cases h1 : tk_k t n c = 1
  · rw [if_pos h1] at hq
    obtain ⟨c7, c8⟩ := c7 h1
    have := tk_wd_rg (tk_x t n c)
    simp (disch := omega) only [c8, h1, ↓reduceIte, bt_w_id]
    refine ⟨by decide, by decide, ?_⟩
    by_cases h2 : tk_wd (tk_x t n c) = -1
    · rw [if_pos (Or.inl h2)] at hq
      rw [if_pos h2]
      exact ⟨by simp, hq⟩
    · rw [if_neg h2]
      refine ⟨by decide, ?_⟩
      by_cases h3 : tk_wd (tk_x t n c) < 25
      · rw [if_neg (by omega)] at hq
        rw [if_pos h3]
        exact ⟨by simp, hq⟩
      · rw [if_pos (by omega)] at hq
        rw [if_neg h3]
        exact ⟨by simp, hq⟩
  · rw [if_neg h1, if_neg (by omega)] at hq
    simp only [h1, ↓reduceIte]
    exact ⟨by decide, by simp, hq⟩
theorem tk_fail_call {ρ : Nat → Nat → Option Nat} {μ : Nat → Nat → Int} {c : Nat} {k : Int} (hc : μ 1 4 = (c : Int)) {Q : Option bt_V → bt_W → Prop} (hq : Q (some (.inl 0)) (bt_wd ρ (bt_up μ 1 3 (k + 16 * (c : Int))))) : SpX7_fail [.inr (.inr 1), .inl k] (bt_wd ρ μ) Q := by
  simp (disch := omega) only [SpX7_fail, tX7_fail_0, bt_ild, bt_lld, bt_ald, bt_ist, bt_lst, bt_ast, bt_inc, bt_ic, bt_lc, bt_iadd, bt_isub, bt_imul, bt_iand, bt_ior, bt_ixor, bt_ishl, bt_ishr, bt_iushr, bt_ladd, bt_lsub, bt_lmul, bt_land, bt_lor, bt_lushr, bt_lshl, bt_idiv, bt_irem, bt_ldiv, bt_lrem, bt_lcmp, bt_i2l, bt_l2i, bt_i2b, bt_pop, bt_dup, bt_dup2, bt_gfI, bt_gfJ, bt_gfR, bt_pfI, bt_pfZ, bt_pfJ, bt_pfR, bt_ial, bt_bal, bt_zal, bt_lal, bt_aal, bt_ias, bt_bas, bt_zas, bt_las, bt_len, bt_iret, bt_zret, bt_lret, bt_vret, bt_cV, bt_cS, bt_tab, bt_tsw, bt_lk, bt_lsw, bt_acp, bt_mmax, bt_mmin, bt_can, bt_icmpeq, bt_ifeq, bt_icmpne, bt_ifne, bt_icmplt, bt_iflt, bt_icmpge, bt_ifge, bt_icmpgt, bt_ifgt, bt_icmple, bt_ifle, bt_ret, bt_kill, bt_kl, bt_ix, bt_nl, bt_sm, bt_sr, bt_sig, bt_tg, bt_loc, bt_locs, List.getElem?_cons_zero, List.getElem?_cons_succ, List.set_cons_zero, List.set_cons_succ, List.map_cons, List.map_nil, List.take_succ_cons, List.take_zero, List.drop_succ_cons, List.drop_zero, List.reverse_cons, List.reverse_nil, List.nil_append, List.cons_append, List.append_nil, List.length_cons, List.length_nil, List.replicate_succ, List.replicate_zero, Option.toList_some, Option.toList_none, Nat.reduceAdd, Nat.reduceSub, Nat.reduceLeDiff, Nat.zero_add, Nat.zero_le, true_and, and_true, Int.toNat_natCast, Sum.inl.injEq, Sum.inr.injEq, ↓reduceIte, Nat.reduceEqDiff, sh_1, hc]
  exact ⟨by decide, by decide, by simp, hq⟩
theorem tk_step_call {ρ : Nat → Nat → Option Nat} {μ : Nat → Nat → Int} {t : Nat → Int} {n c : Nat} (hρ : bt_Rf ρ) (hp : bt_Tp μ t n) (hc : bt_Tc μ t n c) {Q : Option bt_V → bt_W → Prop} (hq : ∀ μ', bt_Go μ' μ t n (tk_nx t n c) → bt_fr (fun a => a = 1) μ' μ → Q none (bt_wd ρ μ')) : SpX7_step [.inr (.inr 1)] (bt_wd ρ μ) Q :=
  ⟨ρ, μ, t, n, tk_e t n c, rfl, rfl, hρ, hp, (tk_e_rg hc.1).2.1, hc.2.2.2.1, fun μ' h1 h2 h3 h4 => hq μ' ⟨h1, h2, h3⟩ h4⟩
def SpX7_begin : bt_Sp := fun As w Q => ∃ (ρ : Nat → Nat → Option Nat) (μ : Nat → Nat → Int) (t : Nat → Int) (n : Nat), As = [.inr (.inr 1)] ∧ w = bt_wd ρ μ ∧ bt_Rf ρ ∧ bt_Tp μ t n ∧ ∀ μ', bt_Tp μ' t n → bt_Tc μ' t n (tk_to tk_B t n 0) → μ' 1 3 = 0 → bt_fr (fun a => a = 1) μ' μ → Q none (bt_wd ρ μ')
set_option maxHeartbeats 4000000 in
theorem mtX7_begin : bt_Met yX7_begin cX7_begin 1 none 4 [2] SpX7_begin := by
  refine bt_metW (lfX7_begin mtX7_step (by decide)) (fun As w Q _ hS => ?_)
  obtain ⟨ρ, μ, t, n, rfl, rfl, hρ, ⟨hn, hn2, ht, htr, hw⟩, hQ⟩ := hS
  simp (disch := omega) only [tX7_begin_0, bt_ild, bt_lld, bt_ald, bt_ist, bt_lst, bt_ast, bt_inc, bt_ic, bt_lc, bt_iadd, bt_isub, bt_imul, bt_iand, bt_ior, bt_ixor, bt_ishl, bt_ishr, bt_iushr, bt_ladd, bt_lsub, bt_lmul, bt_land, bt_lor, bt_lushr, bt_lshl, bt_idiv, bt_irem, bt_ldiv, bt_lrem, bt_lcmp, bt_i2l, bt_l2i, bt_i2b, bt_pop, bt_dup, bt_dup2, bt_gfI, bt_gfJ, bt_gfR, bt_pfI, bt_pfZ, bt_pfJ, bt_pfR, bt_ial, bt_bal, bt_zal, bt_lal, bt_aal, bt_ias, bt_bas, bt_zas, bt_las, bt_len, bt_iret, bt_zret, bt_lret, bt_vret, bt_cV, bt_cS, bt_tab, bt_tsw, bt_lk, bt_lsw, bt_acp, bt_mmax, bt_mmin, bt_can, bt_icmpeq, bt_ifeq, bt_icmpne, bt_ifne, bt_icmplt, bt_iflt, bt_icmpge, bt_ifge, bt_icmpgt, bt_ifgt, bt_icmple, bt_ifle, bt_ret, bt_kill, bt_kl, bt_ix, bt_nl, bt_sm, bt_sr, bt_sig, bt_tg, bt_loc, bt_locs, List.getElem?_cons_zero, List.getElem?_cons_succ, List.set_cons_zero, List.set_cons_succ, List.map_cons, List.map_nil, List.take_succ_cons, List.take_zero, List.drop_succ_cons, List.drop_zero, List.reverse_cons, List.reverse_nil, List.nil_append, List.cons_append, List.append_nil, List.length_cons, List.length_nil, List.replicate_succ, List.replicate_zero, Option.toList_some, Option.toList_none, Nat.reduceAdd, Nat.reduceSub, Nat.reduceLeDiff, Nat.zero_add, Nat.zero_le, true_and, and_true, Int.toNat_natCast, Sum.inl.injEq, Sum.inr.injEq, ↓reduceIte, Nat.reduceEqDiff, sh_1]
  repeat (refine And.intro (by omega) ?_)
  refine ⟨ρ, _, t, n, 0, rfl, rfl, hρ, ⟨?_, hn2, ?_, htr, fun i hi => ?_⟩, by omega, ?_, fun μ' h1 h2 h3 h4 => ?_⟩
  · rw [bt_up_ix (by decide), bt_up_ix (by decide)]; exact hn
  · rw [bt_up_cell (by decide), bt_up_cell (by decide)]; exact ht
  · rw [bt_up_cell (by decide), bt_up_cell (by decide)]; exact hw i hi
  · rw [bt_up_same]; rfl
  · simp (disch := omega) only [bt_ild, bt_lld, bt_ald, bt_ist, bt_lst, bt_ast, bt_inc, bt_ic, bt_lc, bt_iadd, bt_isub, bt_imul, bt_iand, bt_ior, bt_ixor, bt_ishl, bt_ishr, bt_iushr, bt_ladd, bt_lsub, bt_lmul, bt_land, bt_lor, bt_lushr, bt_lshl, bt_idiv, bt_irem, bt_ldiv, bt_lrem, bt_lcmp, bt_i2l, bt_l2i, bt_i2b, bt_pop, bt_dup, bt_dup2, bt_gfI, bt_gfJ, bt_gfR, bt_pfI, bt_pfZ, bt_pfJ, bt_pfR, bt_ial, bt_bal, bt_zal, bt_lal, bt_aal, bt_ias, bt_bas, bt_zas, bt_las, bt_len, bt_iret, bt_zret, bt_lret, bt_vret, bt_cV, bt_cS, bt_tab, bt_tsw, bt_lk, bt_lsw, bt_acp, bt_mmax, bt_mmin, bt_can, bt_icmpeq, bt_ifeq, bt_icmpne, bt_ifne, bt_icmplt, bt_iflt, bt_icmpge, bt_ifge, bt_icmpgt, bt_ifgt, bt_icmple, bt_ifle, bt_ret, bt_kill, bt_kl, bt_ix, bt_nl, bt_sm, bt_sr, bt_sig, bt_tg, bt_loc, bt_locs, List.getElem?_cons_zero, List.getElem?_cons_succ, List.set_cons_zero, List.set_cons_succ, List.map_cons, List.map_nil, List.take_succ_cons, List.take_zero, List.drop_succ_cons, List.drop_zero, List.reverse_cons, List.reverse_nil, List.nil_append, List.cons_append, List.append_nil, List.length_cons, List.length_nil, List.replicate_succ, List.replicate_zero, Option.toList_some, Option.toList_none, Nat.reduceAdd, Nat.reduceSub, Nat.reduceLeDiff, Nat.zero_add, Nat.zero_le, true_and, and_true, Int.toNat_natCast, Sum.inl.injEq, Sum.inr.injEq, ↓reduceIte, Nat.reduceEqDiff]
    refine hQ μ' h1 h2 ?_ (fun a ha => ?_)
    · rw [h3, bt_up_ix (by decide), bt_up_same]
    · rw [h4 a ha, bt_up_cell ha, bt_up_cell ha]
def SpX7_passWord : bt_Sp := fun As w Q => ∃ (ρ : Nat → Nat → Option Nat) (μ : Nat → Nat → Int) (t : Nat → Int) (n c k : Nat), As = [.inr (.inr 1), .inl (k : Int)] ∧ w = bt_wd ρ μ ∧ bt_Rf ρ ∧ bt_Tp μ t n ∧ bt_Tc μ t n c ∧ k < 30 ∧ ∀ μ', (if tk_w t n c = (k : Int) then bt_Go μ' μ t n (tk_nx t n c) else μ' 1 3 = 1 + 16 * (c : Int)) → bt_fr (fun a => a = 1) μ' μ → Q (some (.inl (if tk_w t n c = (k : Int) then 1 else 0))) (bt_wd ρ μ')
set_option maxHeartbeats 4000000 in
theorem mtX7_passWord : bt_Met yX7_passWord cX7_passWord 2 (some .boolean) 4 [2, 0] SpX7_passWord := by
  refine bt_metW (lfX7_passWord mtX7_isWord (by decide) mtX7_fail (by decide) mtX7_step (by decide)) (fun As w Q _ hS => ?_)
  obtain ⟨ρ, μ, t, n, c, k, rfl, rfl, hρ, hp, hc, hk, hQ⟩ := hS
  simp (disch := omega) only [tX7_passWord_0, bt_ild, bt_lld, bt_ald, bt_ist, bt_lst, bt_ast, bt_inc, bt_ic, bt_lc, bt_iadd, bt_isub, bt_imul, bt_iand, bt_ior, bt_ixor, bt_ishl, bt_ishr, bt_iushr, bt_ladd, bt_lsub, bt_lmul, bt_land, bt_lor, bt_lushr, bt_lshl, bt_idiv, bt_irem, bt_ldiv, bt_lrem, bt_lcmp, bt_i2l, bt_l2i, bt_i2b, bt_pop, bt_dup, bt_dup2, bt_gfI, bt_gfJ, bt_gfR, bt_pfI, bt_pfZ, bt_pfJ, bt_pfR, bt_ial, bt_bal, bt_zal, bt_lal, bt_aal, bt_ias, bt_bas, bt_zas, bt_las, bt_len, bt_iret, bt_zret, bt_lret, bt_vret, bt_cV, bt_cS, bt_tab, bt_tsw, bt_lk, bt_lsw, bt_acp, bt_mmax, bt_mmin, bt_can, bt_icmpeq, bt_ifeq, bt_icmpne, bt_ifne, bt_icmplt, bt_iflt, bt_icmpge, bt_ifge, bt_icmpgt, bt_ifgt, bt_icmple, bt_ifle, bt_ret, bt_kill, bt_kl, bt_ix, bt_nl, bt_sm, bt_sr, bt_sig, bt_tg, bt_loc, bt_locs, List.getElem?_cons_zero, List.getElem?_cons_succ, List.set_cons_zero, List.set_cons_succ, List.map_cons, List.map_nil, List.take_succ_cons, List.take_zero, List.drop_succ_cons, List.drop_zero, List.reverse_cons, List.reverse_nil, List.nil_append, List.cons_append, List.append_nil, List.length_cons, List.length_nil, List.replicate_succ, List.replicate_zero, Option.toList_some, Option.toList_none, Nat.reduceAdd, Nat.reduceSub, Nat.reduceLeDiff, Nat.zero_add, Nat.zero_le, true_and, and_true, Int.toNat_natCast, Sum.inl.injEq, Sum.inr.injEq, ↓reduceIte, Nat.reduceEqDiff, sh_1]
  refine ⟨by decide, tk_isWord_call hp hc hk ?_⟩
  simp (disch := omega) only [bt_ild, bt_lld, bt_ald, bt_ist, bt_lst, bt_ast, bt_inc, bt_ic, bt_lc, bt_iadd, bt_isub, bt_imul, bt_iand, bt_ior, bt_ixor, bt_ishl, bt_ishr, bt_iushr, bt_ladd, bt_lsub, bt_lmul, bt_land, bt_lor, bt_lushr, bt_lshl, bt_idiv, bt_irem, bt_ldiv, bt_lrem, bt_lcmp, bt_i2l, bt_l2i, bt_i2b, bt_pop, bt_dup, bt_dup2, bt_gfI, bt_gfJ, bt_gfR, bt_pfI, bt_pfZ, bt_pfJ, bt_pfR, bt_ial, bt_bal, bt_zal, bt_lal, bt_aal, bt_ias, bt_bas, bt_zas, bt_las, bt_len, bt_iret, bt_zret, bt_lret, bt_vret, bt_cV, bt_cS, bt_tab, bt_tsw, bt_lk, bt_lsw, bt_acp, bt_mmax, bt_mmin, bt_can, bt_icmpeq, bt_ifeq, bt_icmpne, bt_ifne, bt_icmplt, bt_iflt, bt_icmpge, bt_ifge, bt_icmpgt, bt_ifgt, bt_icmple, bt_ifle, bt_ret, bt_kill, bt_kl, bt_ix, bt_nl, bt_sm, bt_sr, bt_sig, bt_tg, bt_loc, bt_locs, List.getElem?_cons_zero, List.getElem?_cons_succ, List.set_cons_zero, List.set_cons_succ, List.map_cons, List.map_nil, List.take_succ_cons, List.take_zero, List.drop_succ_cons, List.drop_zero, List.reverse_cons, List.reverse_nil, List.nil_append, List.cons_append, List.append_nil, List.length_cons, List.length_nil, List.replicate_succ, List.replicate_zero, Option.toList_some, Option.toList_none, Nat.reduceAdd, Nat.reduceSub, Nat.reduceLeDiff, Nat.zero_add, Nat.zero_le, true_and, and_true, Int.toNat_natCast, Sum.inl.injEq, Sum.inr.injEq, ↓reduceIte, Nat.reduceEqDiff, sh_1]
  by_cases h : tk_w t n c = (k : Int)
  · rw [if_pos h] at hQ ⊢
    simp only [h, ↓reduceIte] at hQ
    simp (disch := omega) only [bt_w_id, ↓reduceIte, Int.reduceEq]
    refine ⟨by decide, tk_step_call hρ hp hc (fun μ' h1 h2 => ?_)⟩
    simp (disch := omega) only [bt_ild, bt_lld, bt_ald, bt_ist, bt_lst, bt_ast, bt_inc, bt_ic, bt_lc, bt_iadd, bt_isub, bt_imul, bt_iand, bt_ior, bt_ixor, bt_ishl, bt_ishr, bt_iushr, bt_ladd, bt_lsub, bt_lmul, bt_land, bt_lor, bt_lushr, bt_lshl, bt_idiv, bt_irem, bt_ldiv, bt_lrem, bt_lcmp, bt_i2l, bt_l2i, bt_i2b, bt_pop, bt_dup, bt_dup2, bt_gfI, bt_gfJ, bt_gfR, bt_pfI, bt_pfZ, bt_pfJ, bt_pfR, bt_ial, bt_bal, bt_zal, bt_lal, bt_aal, bt_ias, bt_bas, bt_zas, bt_las, bt_len, bt_iret, bt_zret, bt_lret, bt_vret, bt_cV, bt_cS, bt_tab, bt_tsw, bt_lk, bt_lsw, bt_acp, bt_mmax, bt_mmin, bt_can, bt_icmpeq, bt_ifeq, bt_icmpne, bt_ifne, bt_icmplt, bt_iflt, bt_icmpge, bt_ifge, bt_icmpgt, bt_ifgt, bt_icmple, bt_ifle, bt_ret, bt_kill, bt_kl, bt_ix, bt_nl, bt_sm, bt_sr, bt_sig, bt_tg, bt_loc, bt_locs, List.getElem?_cons_zero, List.getElem?_cons_succ, List.set_cons_zero, List.set_cons_succ, List.map_cons, List.map_nil, List.take_succ_cons, List.take_zero, List.drop_succ_cons, List.drop_zero, List.reverse_cons, List.reverse_nil, List.nil_append, List.cons_append, List.append_nil, List.length_cons, List.length_nil, List.replicate_succ, List.replicate_zero, Option.toList_some, Option.toList_none, Nat.reduceAdd, Nat.reduceSub, Nat.reduceLeDiff, Nat.zero_add, Nat.zero_le, true_and, and_true, Int.toNat_natCast, Sum.inl.injEq, Sum.inr.injEq, ↓reduceIte, Nat.reduceEqDiff]
    exact ⟨by simp, hQ μ' h1 h2⟩
  · rw [if_neg h] at hQ ⊢
    simp only [h, ↓reduceIte] at hQ
    simp (disch := omega) only [bt_w_id, ↓reduceIte]
    refine ⟨by decide, tk_fail_call hc.2.2.1 ?_⟩
    simp (disch := omega) only [bt_ild, bt_lld, bt_ald, bt_ist, bt_lst, bt_ast, bt_inc, bt_ic, bt_lc, bt_iadd, bt_isub, bt_imul, bt_iand, bt_ior, bt_ixor, bt_ishl, bt_ishr, bt_iushr, bt_ladd, bt_lsub, bt_lmul, bt_land, bt_lor, bt_lushr, bt_lshl, bt_idiv, bt_irem, bt_ldiv, bt_lrem, bt_lcmp, bt_i2l, bt_l2i, bt_i2b, bt_pop, bt_dup, bt_dup2, bt_gfI, bt_gfJ, bt_gfR, bt_pfI, bt_pfZ, bt_pfJ, bt_pfR, bt_ial, bt_bal, bt_zal, bt_lal, bt_aal, bt_ias, bt_bas, bt_zas, bt_las, bt_len, bt_iret, bt_zret, bt_lret, bt_vret, bt_cV, bt_cS, bt_tab, bt_tsw, bt_lk, bt_lsw, bt_acp, bt_mmax, bt_mmin, bt_can, bt_icmpeq, bt_ifeq, bt_icmpne, bt_ifne, bt_icmplt, bt_iflt, bt_icmpge, bt_ifge, bt_icmpgt, bt_ifgt, bt_icmple, bt_ifle, bt_ret, bt_kill, bt_kl, bt_ix, bt_nl, bt_sm, bt_sr, bt_sig, bt_tg, bt_loc, bt_locs, List.getElem?_cons_zero, List.getElem?_cons_succ, List.set_cons_zero, List.set_cons_succ, List.map_cons, List.map_nil, List.take_succ_cons, List.take_zero, List.drop_succ_cons, List.drop_zero, List.reverse_cons, List.reverse_nil, List.nil_append, List.cons_append, List.append_nil, List.length_cons, List.length_nil, List.replicate_succ, List.replicate_zero, Option.toList_some, Option.toList_none, Nat.reduceAdd, Nat.reduceSub, Nat.reduceLeDiff, Nat.zero_add, Nat.zero_le, true_and, and_true, Int.toNat_natCast, Sum.inl.injEq, Sum.inr.injEq, ↓reduceIte, Nat.reduceEqDiff]
    exact ⟨by simp, hQ _ (bt_up_same _ _ _ _) (fun a ha => bt_up_cell ha)⟩
def SpX7_passSign : bt_Sp := fun As w Q => ∃ (ρ : Nat → Nat → Option Nat) (μ : Nat → Nat → Int) (t : Nat → Int) (n c k : Nat), As = [.inr (.inr 1), .inl (k : Int)] ∧ w = bt_wd ρ μ ∧ bt_Rf ρ ∧ bt_Tp μ t n ∧ bt_Tc μ t n c ∧ k < 127 ∧ ∀ μ', (if tk_k t n c = (k : Int) then bt_Go μ' μ t n (tk_nx t n c) else μ' 1 3 = 1 + 16 * (c : Int)) → bt_fr (fun a => a = 1) μ' μ → Q (some (.inl (if tk_k t n c = (k : Int) then 1 else 0))) (bt_wd ρ μ')
set_option maxHeartbeats 4000000 in
theorem mtX7_passSign : bt_Met yX7_passSign cX7_passSign 2 (some .boolean) 4 [2, 0] SpX7_passSign := by
  refine bt_metW (lfX7_passSign mtX7_fail (by decide) mtX7_step (by decide)) (fun As w Q _ hS => ?_)
  obtain ⟨ρ, μ, t, n, c, k, rfl, rfl, hρ, hp, hc, hk, hQ⟩ := hS
  have hr := tk_k_rg (t := t) (n := n) (c := c) (fun h => hp.2.2.2.1 c h)
  simp (disch := omega) only [tX7_passSign_0, bt_ild, bt_lld, bt_ald, bt_ist, bt_lst, bt_ast, bt_inc, bt_ic, bt_lc, bt_iadd, bt_isub, bt_imul, bt_iand, bt_ior, bt_ixor, bt_ishl, bt_ishr, bt_iushr, bt_ladd, bt_lsub, bt_lmul, bt_land, bt_lor, bt_lushr, bt_lshl, bt_idiv, bt_irem, bt_ldiv, bt_lrem, bt_lcmp, bt_i2l, bt_l2i, bt_i2b, bt_pop, bt_dup, bt_dup2, bt_gfI, bt_gfJ, bt_gfR, bt_pfI, bt_pfZ, bt_pfJ, bt_pfR, bt_ial, bt_bal, bt_zal, bt_lal, bt_aal, bt_ias, bt_bas, bt_zas, bt_las, bt_len, bt_iret, bt_zret, bt_lret, bt_vret, bt_cV, bt_cS, bt_tab, bt_tsw, bt_lk, bt_lsw, bt_acp, bt_mmax, bt_mmin, bt_can, bt_icmpeq, bt_ifeq, bt_icmpne, bt_ifne, bt_icmplt, bt_iflt, bt_icmpge, bt_ifge, bt_icmpgt, bt_ifgt, bt_icmple, bt_ifle, bt_ret, bt_kill, bt_kl, bt_ix, bt_nl, bt_sm, bt_sr, bt_sig, bt_tg, bt_loc, bt_locs, List.getElem?_cons_zero, List.getElem?_cons_succ, List.set_cons_zero, List.set_cons_succ, List.map_cons, List.map_nil, List.take_succ_cons, List.take_zero, List.drop_succ_cons, List.drop_zero, List.reverse_cons, List.reverse_nil, List.nil_append, List.cons_append, List.append_nil, List.length_cons, List.length_nil, List.replicate_succ, List.replicate_zero, Option.toList_some, Option.toList_none, Nat.reduceAdd, Nat.reduceSub, Nat.reduceLeDiff, Nat.zero_add, Nat.zero_le, true_and, and_true, Int.toNat_natCast, Sum.inl.injEq, Sum.inr.injEq, ↓reduceIte, Nat.reduceEqDiff, sh_1, hc.2.2.2.2.1, bt_w_id]
  refine ⟨by decide, ?_⟩
  by_cases h : tk_k t n c = (k : Int)
  · rw [if_pos h]
    simp only [h, ↓reduceIte] at hQ
    refine ⟨by decide, tk_step_call hρ hp hc (fun μ' h1 h2 => ?_)⟩
    simp (disch := omega) only [bt_ild, bt_lld, bt_ald, bt_ist, bt_lst, bt_ast, bt_inc, bt_ic, bt_lc, bt_iadd, bt_isub, bt_imul, bt_iand, bt_ior, bt_ixor, bt_ishl, bt_ishr, bt_iushr, bt_ladd, bt_lsub, bt_lmul, bt_land, bt_lor, bt_lushr, bt_lshl, bt_idiv, bt_irem, bt_ldiv, bt_lrem, bt_lcmp, bt_i2l, bt_l2i, bt_i2b, bt_pop, bt_dup, bt_dup2, bt_gfI, bt_gfJ, bt_gfR, bt_pfI, bt_pfZ, bt_pfJ, bt_pfR, bt_ial, bt_bal, bt_zal, bt_lal, bt_aal, bt_ias, bt_bas, bt_zas, bt_las, bt_len, bt_iret, bt_zret, bt_lret, bt_vret, bt_cV, bt_cS, bt_tab, bt_tsw, bt_lk, bt_lsw, bt_acp, bt_mmax, bt_mmin, bt_can, bt_icmpeq, bt_ifeq, bt_icmpne, bt_ifne, bt_icmplt, bt_iflt, bt_icmpge, bt_ifge, bt_icmpgt, bt_ifgt, bt_icmple, bt_ifle, bt_ret, bt_kill, bt_kl, bt_ix, bt_nl, bt_sm, bt_sr, bt_sig, bt_tg, bt_loc, bt_locs, List.getElem?_cons_zero, List.getElem?_cons_succ, List.set_cons_zero, List.set_cons_succ, List.map_cons, List.map_nil, List.take_succ_cons, List.take_zero, List.drop_succ_cons, List.drop_zero, List.reverse_cons, List.reverse_nil, List.nil_append, List.cons_append, List.append_nil, List.length_cons, List.length_nil, List.replicate_succ, List.replicate_zero, Option.toList_some, Option.toList_none, Nat.reduceAdd, Nat.reduceSub, Nat.reduceLeDiff, Nat.zero_add, Nat.zero_le, true_and, and_true, Int.toNat_natCast, Sum.inl.injEq, Sum.inr.injEq, ↓reduceIte, Nat.reduceEqDiff]
    exact ⟨by simp, hQ μ' h1 h2⟩
  · rw [if_neg h]
    simp only [h, ↓reduceIte] at hQ
    refine ⟨by decide, tk_fail_call hc.2.2.1 ?_⟩
    simp (disch := omega) only [bt_ild, bt_lld, bt_ald, bt_ist, bt_lst, bt_ast, bt_inc, bt_ic, bt_lc, bt_iadd, bt_isub, bt_imul, bt_iand, bt_ior, bt_ixor, bt_ishl, bt_ishr, bt_iushr, bt_ladd, bt_lsub, bt_lmul, bt_land, bt_lor, bt_lushr, bt_lshl, bt_idiv, bt_irem, bt_ldiv, bt_lrem, bt_lcmp, bt_i2l, bt_l2i, bt_i2b, bt_pop, bt_dup, bt_dup2, bt_gfI, bt_gfJ, bt_gfR, bt_pfI, bt_pfZ, bt_pfJ, bt_pfR, bt_ial, bt_bal, bt_zal, bt_lal, bt_aal, bt_ias, bt_bas, bt_zas, bt_las, bt_len, bt_iret, bt_zret, bt_lret, bt_vret, bt_cV, bt_cS, bt_tab, bt_tsw, bt_lk, bt_lsw, bt_acp, bt_mmax, bt_mmin, bt_can, bt_icmpeq, bt_ifeq, bt_icmpne, bt_ifne, bt_icmplt, bt_iflt, bt_icmpge, bt_ifge, bt_icmpgt, bt_ifgt, bt_icmple, bt_ifle, bt_ret, bt_kill, bt_kl, bt_ix, bt_nl, bt_sm, bt_sr, bt_sig, bt_tg, bt_loc, bt_locs, List.getElem?_cons_zero, List.getElem?_cons_succ, List.set_cons_zero, List.set_cons_succ, List.map_cons, List.map_nil, List.take_succ_cons, List.take_zero, List.drop_succ_cons, List.drop_zero, List.reverse_cons, List.reverse_nil, List.nil_append, List.cons_append, List.append_nil, List.length_cons, List.length_nil, List.replicate_succ, List.replicate_zero, Option.toList_some, Option.toList_none, Nat.reduceAdd, Nat.reduceSub, Nat.reduceLeDiff, Nat.zero_add, Nat.zero_le, true_and, and_true, Int.toNat_natCast, Sum.inl.injEq, Sum.inr.injEq, ↓reduceIte, Nat.reduceEqDiff]
    exact ⟨by simp, hQ _ (bt_up_same _ _ _ _) (fun a ha => bt_up_cell ha)⟩
/-- feeding: a byte of eight, what the tape takes of it -/
def tp_by (e : Int) (k : Nat) : Int := bo_iand (bo_l2i (bo_lushr e (56 - 8 * (k : Int)))) 255
def tp_ad (q : Nat × (Nat → Int)) (x : Int) : Nat × (Nat → Int) := if (x = 10 ∨ (32 ≤ x ∧ x ≤ 126)) ∧ q.1 < 1000 then (q.1 + 1, ab_put q.2 q.1 x) else q
def tp_as (q : Nat × (Nat → Int)) (e : Int) : Nat → Nat × (Nat → Int)
  | 0 => q
  | k + 1 => tp_ad (tp_as q e k) (tp_by e k)
theorem bo_iand255 (x : Int) : 0 ≤ bo_iand x 255 ∧ bo_iand x 255 ≤ 255 := by
  unfold bo_iand
  have e : (bt_i x &&& bt_i 255).toInt = (((bt_i x).toBitVec &&& 255#32).toNat : Int) := by
    show ((bt_i x).toBitVec &&& 255#32).toInt = _
    apply BitVec.toInt_eq_toNat_of_lt
    have : ((bt_i x).toBitVec &&& 255#32).toNat ≤ 255 := by
      rw [BitVec.toNat_and]; exact Nat.and_le_right
    omega
  rw [e]
  have : ((bt_i x).toBitVec &&& 255#32).toNat ≤ 255 := by
    rw [BitVec.toNat_and]; exact Nat.and_le_right
  omega
theorem tp_ad_n {q : Nat × (Nat → Int)} {x : Int} (h : q.1 ≤ 1000) : (tp_ad q x).1 ≤ 1000 := by
  unfold tp_ad
  split
  · next h => show q.1 + 1 ≤ 1000; omega
  · exact h
theorem tp_as_n {q : Nat × (Nat → Int)} {e : Int} (h : q.1 ≤ 1000) : ∀ k, (tp_as q e k).1 ≤ 1000
  | 0 => h
  | k + 1 => tp_ad_n (tp_as_n h k)
theorem bo_byte_id : ∀ x : Nat, x < 127 → bo_byte (x : Int) = x ∧ bo_i2b (x : Int) = x := by decide
def SpX7_addAll : bt_Sp := fun As w Q => ∃ (ρ : Nat → Nat → Option Nat) (μ : Nat → Nat → Int) (e : Int) (n : Nat), As = [.inr (.inr 1), .inr (.inl e)] ∧ w = bt_wd ρ μ ∧ bt_Rf ρ ∧ μ 1 2 = (n : Int) ∧ n ≤ 1000 ∧ ∀ μ', μ' 1 2 = ((tp_as (n, μ 2) e 8).1 : Int) → μ' 2 = (tp_as (n, μ 2) e 8).2 → (∀ k, k ≠ 2 → μ' 1 k = μ 1 k) → bt_fr (fun a => a = 1 ∨ a = 2) μ' μ → Q none (bt_wd ρ μ')
def iX7_addAll (ρ : Nat → Nat → Option Nat) (μ : Nat → Nat → Int) (e : Int) (n : Nat) (_h' m : Nat) : bt_K := fun st L w => st = [] ∧ ∃ (μ1 : Nat → Nat → Int), w = bt_wd ρ μ1 ∧ bt_fr (fun a => a = 1 ∨ a = 2) μ1 μ ∧ (∀ k, k ≠ 2 → μ1 1 k = μ 1 k) ∧ ∃ i : Nat, i ≤ 8 ∧ m = 8 - i ∧ L = [some (.inr (.inr 1)), some (.inr (.inl e)), none, some (.inl (56 - 8 * (i : Int))), none, none] ∧ μ1 1 2 = ((tp_as (n, μ 2) e i).1 : Int) ∧ μ1 2 = (tp_as (n, μ 2) e i).2
set_option maxHeartbeats 4000000 in
theorem mtX7_addAll : bt_Met yX7_addAll cX7_addAll 6 none 1 [2, 1] SpX7_addAll := by
  refine lpX7_addAll _ (fun As w Q _ hS => ?_)
  obtain ⟨ρ, μ, e, n, rfl, rfl, hρ, hn, hn2, hQ⟩ := hS
  refine ⟨iX7_addAll ρ μ e n, ?_, ?_⟩
  · simp (disch := omega) only [tX7_addAll_0, bt_ild, bt_lld, bt_ald, bt_ist, bt_lst, bt_ast, bt_inc, bt_ic, bt_lc, bt_iadd, bt_isub, bt_imul, bt_iand, bt_ior, bt_ixor, bt_ishl, bt_ishr, bt_iushr, bt_ladd, bt_lsub, bt_lmul, bt_land, bt_lor, bt_lushr, bt_lshl, bt_idiv, bt_irem, bt_ldiv, bt_lrem, bt_lcmp, bt_i2l, bt_l2i, bt_i2b, bt_pop, bt_dup, bt_dup2, bt_gfI, bt_gfJ, bt_gfR, bt_pfI, bt_pfZ, bt_pfJ, bt_pfR, bt_ial, bt_bal, bt_zal, bt_lal, bt_aal, bt_ias, bt_bas, bt_zas, bt_las, bt_len, bt_iret, bt_zret, bt_lret, bt_vret, bt_cV, bt_cS, bt_tab, bt_tsw, bt_lk, bt_lsw, bt_acp, bt_mmax, bt_mmin, bt_can, bt_icmpeq, bt_ifeq, bt_icmpne, bt_ifne, bt_icmplt, bt_iflt, bt_icmpge, bt_ifge, bt_icmpgt, bt_ifgt, bt_icmple, bt_ifle, bt_ret, bt_kill, bt_kl, bt_ix, bt_nl, bt_sm, bt_sr, bt_sig, bt_tg, bt_loc, bt_locs, List.getElem?_cons_zero, List.getElem?_cons_succ, List.set_cons_zero, List.set_cons_succ, List.map_cons, List.map_nil, List.take_succ_cons, List.take_zero, List.drop_succ_cons, List.drop_zero, List.reverse_cons, List.reverse_nil, List.nil_append, List.cons_append, List.append_nil, List.length_cons, List.length_nil, List.replicate_succ, List.replicate_zero, Option.toList_some, Option.toList_none, Nat.reduceAdd, Nat.reduceSub, Nat.reduceLeDiff, Nat.zero_add, Nat.zero_le, true_and, and_true, Int.toNat_natCast, Sum.inl.injEq, Sum.inr.injEq, ↓reduceIte, Nat.reduceEqDiff]
    exact ⟨8, rfl, μ, rfl, fun _ _ => rfl, fun _ _ => rfl, 0, by omega, rfl, rfl, hn, rfl⟩
  · rintro m st L w ⟨rfl, μ1, rfl, hfr, hk, i, hi, rfl, rfl, g2, gt⟩
    simp (disch := omega) only [tX7_addAll_3, tX7_addAll_38, tX7_addAll_42, tX7_addAll_43, tX7_addAll_82, bt_ild, bt_lld, bt_ald, bt_ist, bt_lst, bt_ast, bt_inc, bt_ic, bt_lc, bt_iadd, bt_isub, bt_imul, bt_iand, bt_ior, bt_ixor, bt_ishl, bt_ishr, bt_iushr, bt_ladd, bt_lsub, bt_lmul, bt_land, bt_lor, bt_lushr, bt_lshl, bt_idiv, bt_irem, bt_ldiv, bt_lrem, bt_lcmp, bt_i2l, bt_l2i, bt_i2b, bt_pop, bt_dup, bt_dup2, bt_gfI, bt_gfJ, bt_gfR, bt_pfI, bt_pfZ, bt_pfJ, bt_pfR, bt_ial, bt_bal, bt_zal, bt_lal, bt_aal, bt_ias, bt_bas, bt_zas, bt_las, bt_len, bt_iret, bt_zret, bt_lret, bt_vret, bt_cV, bt_cS, bt_tab, bt_tsw, bt_lk, bt_lsw, bt_acp, bt_mmax, bt_mmin, bt_can, bt_icmpeq, bt_ifeq, bt_icmpne, bt_ifne, bt_icmplt, bt_iflt, bt_icmpge, bt_ifge, bt_icmpgt, bt_ifgt, bt_icmple, bt_ifle, bt_ret, bt_kill, bt_kl, bt_ix, bt_nl, bt_sm, bt_sr, bt_sig, bt_tg, bt_loc, bt_locs, List.getElem?_cons_zero, List.getElem?_cons_succ, List.set_cons_zero, List.set_cons_succ, List.map_cons, List.map_nil, List.take_succ_cons, List.take_zero, List.drop_succ_cons, List.drop_zero, List.reverse_cons, List.reverse_nil, List.nil_append, List.cons_append, List.append_nil, List.length_cons, List.length_nil, List.replicate_succ, List.replicate_zero, Option.toList_some, Option.toList_none, Nat.reduceAdd, Nat.reduceSub, Nat.reduceLeDiff, Nat.zero_add, Nat.zero_le, true_and, and_true, Int.toNat_natCast, Sum.inl.injEq, Sum.inr.injEq, ↓reduceIte, Nat.reduceEqDiff, sh_1, bt_w_id]
    by_cases hc : 8 ≤ i
    · rw [if_pos (by omega)]
      have : i = 8 := by omega
      subst this
      exact hQ μ1 g2 gt hk hfr
    · rw [if_neg (by omega)]
      have hby : bo_iand (bo_l2i (bo_lushr e (56 - 8 * (i : Int)))) 255 = tp_by e i := rfl
      have hbr : 0 ≤ tp_by e i ∧ tp_by e i ≤ 255 := bo_iand255 _
      have hn1 := tp_as_n (q := (n, μ 2)) (e := e) hn2 i
      rw [hby]
      generalize hx : tp_by e i = x at *
      generalize hq : tp_as (n, μ 2) e i = q at *
      have hnx : tp_as (n, μ 2) e (i + 1) = tp_ad q x := by rw [← hq, ← hx]; rfl
      simp (disch := omega) only [bt_w_id, g2, Int.reduceEq, ↓reduceIte]
      have skip : tp_ad q x = q → ∃ m, m < 8 - i ∧ iX7_addAll ρ μ e n 3 m [] [some (.inr (.inr 1)), some (.inr (.inl e)), none, some (.inl (56 - 8 * (i : Int) + -8)), none, none] (bt_wd ρ μ1) := fun h =>
        ⟨8 - (i + 1), by omega, rfl, μ1, rfl, hfr, hk, i + 1, by omega, rfl, by rw [show (56 - 8 * (i : Int) + -8) = 56 - 8 * ((i + 1 : Nat) : Int) by omega], by rw [hnx, h]; exact g2, by rw [hnx, h]; exact gt⟩
      have take : (x = 10 ∨ (32 ≤ x ∧ x ≤ 126)) → q.1 < 1000 → ∃ m, m < 8 - i ∧ iX7_addAll ρ μ e n 3 m [] [some (.inr (.inr 1)), some (.inr (.inl e)), none, some (.inl (56 - 8 * (i : Int) + -8)), none, none] (bt_wd ρ (bt_up (bt_up μ1 2 q.1 (bo_byte (bo_i2b x))) 1 2 ((q.1 : Int) + 1))) := fun h1 h2 => by
        have hxb : bo_byte (bo_i2b x) = x := by
          obtain ⟨y, hy⟩ : ∃ y : Nat, x = (y : Int) := ⟨x.toNat, by omega⟩
          have := bo_byte_id y (by omega)
          rw [hy, this.2, this.1]
        have ha : tp_ad q x = (q.1 + 1, ab_put q.2 q.1 x) := by unfold tp_ad; rw [if_pos ⟨h1, h2⟩]
        refine ⟨8 - (i + 1), by omega, rfl, _, rfl, fun a ha => ?_, fun k hk' => ?_, i + 1, by omega, rfl, by rw [show (56 - 8 * (i : Int) + -8) = 56 - 8 * ((i + 1 : Nat) : Int) by omega], ?_, ?_⟩
        · rw [bt_up_cell (by omega), bt_up_cell (by omega)]; exact hfr a ha
        · rw [bt_up_ix hk', bt_up_cell (by decide)]; exact hk k hk'
        · rw [bt_up_same, hnx, ha]; rfl
        · rw [bt_up_cell (by decide), bt_up_put, hxb, hnx, ha, gt]
      simp (disch := omega) only [hρ 1 _ (by decide), rf_1_0, sh_2, Int.toNat_natCast, bt_up_cell, g2]
      have hno : ¬ ((x = 10 ∨ (32 ≤ x ∧ x ≤ 126)) ∧ q.1 < 1000) → tp_ad q x = q := fun h => by unfold tp_ad; rw [if_neg h]
      by_cases h10 : x = 10
      · rw [if_pos h10]
        repeat (refine And.intro (by omega) ?_)
        by_cases hq1 : q.1 < 1000
        · rw [if_neg (by omega)]
          exact ⟨by omega, by omega, by refine ⟨by decide, by omega, ?_⟩; show (q.1 : Int) < 1000; omega, by omega, by omega, take (Or.inl h10) hq1⟩
        · rw [if_pos (by omega)]
          exact skip (hno (fun h => hq1 h.2))
      · rw [if_neg h10]
        by_cases h32 : x < 32
        · rw [if_pos h32]
          exact skip (hno (fun h => by omega))
        · rw [if_neg h32]
          by_cases h126 : 126 < x
          · rw [if_pos h126]
            exact skip (hno (fun h => by omega))
          · rw [if_neg h126]
            repeat (refine And.intro (by omega) ?_)
            by_cases hq1 : q.1 < 1000
            · rw [if_neg (by omega)]
              exact ⟨by omega, by omega, by refine ⟨by decide, by omega, ?_⟩; show (q.1 : Int) < 1000; omega, by omega, by omega, take (Or.inr (by omega)) hq1⟩
            · rw [if_pos (by omega)]
              exact skip (hno (fun h => hq1 h.2))
