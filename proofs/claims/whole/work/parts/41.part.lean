/-! Formula: a part; a whole law; its value -/
def SpX0_ptk (k : Nat) : bt_Sp := fo_Sp (fun t n al => fo_pt t n al k) (5 - k) (4 * (5 - k) + 4)
theorem fo_fa_w {t : Nat → Int} {n al c : Nat} (h : fo_fa t n al c = true) : tk_k t n c = 1 ∧ 25 ≤ tk_w t n c ∧ tk_w t n c = tk_wd (tk_x t n c) := by
  unfold fo_fa at h
  have h1 : 25 ≤ tk_w t n c := by simp at h; exact h.1
  unfold tk_w at h1 ⊢
  by_cases hk : tk_k t n c = 1
  · rw [if_pos hk] at h1 ⊢; exact ⟨hk, h1, rfl⟩
  · rw [if_neg hk] at h1; omega
theorem tk_w_k {t : Nat → Int} {n c : Nat} (h : 0 ≤ tk_w t n c) : tk_k t n c = 1 := by
  unfold tk_w at h
  by_cases hk : tk_k t n c = 1
  · exact hk
  · rw [if_neg hk] at h; omega
set_option maxHeartbeats 4000000 in
theorem mtX0_pt (k : Nat) (S5 S6 : bt_Sp) (d5 d6 : Nat) (hS : k = 0 ∨ ∃ k', k = k' + 1 ∧ k' < 5 ∧ S5 = SpX0_tsk k' ∧ S6 = SpX0_ptk k') (m5 : bt_Met yX0_readTests cX0_readTests 5 (some .boolean) d5 [2, 0] S5) (m6 : bt_Met yX0_readPart cX0_readPart 6 (some .boolean) d6 [2, 0] S6) (dd : Nat) (hdd : 5 ≤ dd) (h5 : d5 + 1 ≤ dd) (h6 : d6 + 1 ≤ dd) : bt_Met yX0_readPart cX0_readPart 6 (some .boolean) dd [2, 0] (SpX0_ptk k) := by
  refine bt_metW (lfX0_readPart (dd := dd) mtX0_isFact (by show 1 + 1 ≤ dd; omega) mtX7_isWord (by show 1 + 1 ≤ dd; omega) mtX7_fail (by show 1 + 1 ≤ dd; omega) mtX0_put (by show 1 + 1 ≤ dd; omega) mtX7_step (by show 3 + 1 ≤ dd; omega) m5 h5 m6 h6) (fun As w Q _ hSp => ?_)
  obtain ⟨ρ, μ, t, n, al, c, s, rfl, rfl, hρ, hp, hc, hs, hsc, hal, hal2, hQ0⟩ := hSp
  obtain ⟨R, hR, hQ⟩ : ∃ R : fo_R, fo_pt t n al k c = R ∧ ∀ μ', (if R.1 = 0 then bt_Go μ' μ t n R.2.1 ∧ fo_W μ' μ s c R (4 * (5 - k) + 4) else μ' 1 3 = R.1) → fo_F μ' μ → Q (some (.inl (if R.1 = 0 then 1 else 0))) (bt_wd ρ μ') := ⟨_, rfl, hQ0⟩
  clear hQ0
  have hkr := tk_k_rg (t := t) (n := n) (c := c) (fun h => hp.2.2.2.1 c h)
  have hcn := hc.1
  have hn1 := hp.2.1
  have hG0 : bt_Go μ μ t n c := ⟨hp, hc, rfl⟩
  have hF0 : fo_F μ μ := ⟨⟨s, hs, by omega⟩, rfl, fun _ _ => rfl⟩
  have hFu : ∀ x, fo_F (bt_up μ 1 3 x) μ := fun x => ⟨⟨s, by rw [bt_up_cell (by decide)]; exact hs, by omega⟩, by rw [bt_up_cell (by decide)], fun a ha => bt_up_cell (by omega)⟩
  have body : fo_st t n al c = true → tX0_readPart_67 SpX0_isFact SpX7_isWord SpX7_fail SpX0_put SpX7_step S5 S6 bt_k0 Q [] [some (.inr (.inr 6)), some (.inl ((5 - k : Nat) : Int)), some (.inl (if fo_fa t n al c then 1 else 0)), some (.inl (if tk_k t n c = 40 then 1 else 0)), some (.inl (if tk_w t n c = 22 then 1 else 0)), none] (bt_wd ρ μ) := by
    intro hst
    simp (disch := omega) only [tX0_readPart_67, tX0_readPart_96, tX0_readPart_121, tX0_readPart_161, tX0_readPart_207, tX0_readPart_219, bt_ild, bt_lld, bt_ald, bt_ist, bt_lst, bt_ast, bt_inc, bt_ic, bt_lc, bt_iadd, bt_isub, bt_imul, bt_iand, bt_ior, bt_ixor, bt_ishl, bt_ishr, bt_iushr, bt_ladd, bt_lsub, bt_lmul, bt_land, bt_lor, bt_lushr, bt_lshl, bt_idiv, bt_irem, bt_ldiv, bt_lrem, bt_lcmp, bt_i2l, bt_l2i, bt_i2b, bt_pop, bt_dup, bt_dup2, bt_gfI, bt_gfJ, bt_gfR, bt_pfI, bt_pfZ, bt_pfJ, bt_pfR, bt_ial, bt_bal, bt_zal, bt_lal, bt_aal, bt_ias, bt_bas, bt_zas, bt_las, bt_len, bt_iret, bt_zret, bt_lret, bt_vret, bt_cV, bt_cS, bt_tab, bt_tsw, bt_lk, bt_lsw, bt_acp, bt_mmax, bt_mmin, bt_can, bt_icmpeq, bt_ifeq, bt_icmpne, bt_ifne, bt_icmplt, bt_iflt, bt_icmpge, bt_ifge, bt_icmpgt, bt_ifgt, bt_icmple, bt_ifle, bt_ret, bt_kill, bt_kl, bt_ix, bt_nl, bt_sm, bt_sr, bt_sig, bt_tg, bt_loc, bt_locs, List.getElem?_cons_zero, List.getElem?_cons_succ, List.set_cons_zero, List.set_cons_succ, List.map_cons, List.map_nil, List.take_succ_cons, List.take_zero, List.drop_succ_cons, List.drop_zero, List.reverse_cons, List.reverse_nil, List.nil_append, List.cons_append, List.append_nil, List.length_cons, List.length_nil, List.replicate_succ, List.replicate_zero, Option.toList_some, Option.toList_none, Nat.reduceAdd, Nat.reduceSub, Nat.reduceLeDiff, Nat.zero_add, Nat.zero_le, true_and, and_true, Int.toNat_natCast, Sum.inl.injEq, Sum.inr.injEq, ↓reduceIte, Nat.reduceEqDiff, sh_6, sh_1, hρ 6 _ (by decide), rf_6_0, hc.2.2.2.2.1, bt_w_id]
    rcases hS with rfl | ⟨k, rfl, hk5, rfl, rfl⟩
    · rw [if_neg (by omega)]
      refine ⟨by decide, by decide, tk_fail_call hc.2.2.1 ?_⟩
      simp (disch := omega) only [bt_ild, bt_lld, bt_ald, bt_ist, bt_lst, bt_ast, bt_inc, bt_ic, bt_lc, bt_iadd, bt_isub, bt_imul, bt_iand, bt_ior, bt_ixor, bt_ishl, bt_ishr, bt_iushr, bt_ladd, bt_lsub, bt_lmul, bt_land, bt_lor, bt_lushr, bt_lshl, bt_idiv, bt_irem, bt_ldiv, bt_lrem, bt_lcmp, bt_i2l, bt_l2i, bt_i2b, bt_pop, bt_dup, bt_dup2, bt_gfI, bt_gfJ, bt_gfR, bt_pfI, bt_pfZ, bt_pfJ, bt_pfR, bt_ial, bt_bal, bt_zal, bt_lal, bt_aal, bt_ias, bt_bas, bt_zas, bt_las, bt_len, bt_iret, bt_zret, bt_lret, bt_vret, bt_cV, bt_cS, bt_tab, bt_tsw, bt_lk, bt_lsw, bt_acp, bt_mmax, bt_mmin, bt_can, bt_icmpeq, bt_ifeq, bt_icmpne, bt_ifne, bt_icmplt, bt_iflt, bt_icmpge, bt_ifge, bt_icmpgt, bt_ifgt, bt_icmple, bt_ifle, bt_ret, bt_kill, bt_kl, bt_ix, bt_nl, bt_sm, bt_sr, bt_sig, bt_tg, bt_loc, bt_locs, List.getElem?_cons_zero, List.getElem?_cons_succ, List.set_cons_zero, List.set_cons_succ, List.map_cons, List.map_nil, List.take_succ_cons, List.take_zero, List.drop_succ_cons, List.drop_zero, List.reverse_cons, List.reverse_nil, List.nil_append, List.cons_append, List.append_nil, List.length_cons, List.length_nil, List.replicate_succ, List.replicate_zero, Option.toList_some, Option.toList_none, Nat.reduceAdd, Nat.reduceSub, Nat.reduceLeDiff, Nat.zero_add, Nat.zero_le, true_and, and_true, Int.toNat_natCast, Sum.inl.injEq, Sum.inr.injEq, ↓reduceIte, Nat.reduceEqDiff]
      have e : R.1 = 5 + 16 * (c : Int) := by rw [← hR]; show (if fo_st t n al c then _ else _) = _; rw [if_pos hst]
      exact ⟨by simp, fo_c3 hQ (by omega) (by rw [bt_up_same, e]) (hFu _)⟩
    · rw [if_pos (by omega)]
      have hR2 : R = if fo_fa t n al c then (0, tk_nx t n c, fun F => F (tk_w t n c - 25).toNat) else if tk_k t n c = 2 then (0, tk_nx t n c, fun _ => tk_v t n c) else if tk_k t n c = 40 then
      (if (fo_ts t n (fo_pt t n al k) (tk_nx t n c)).1 = 0 then
        (if tk_k t n (fo_ts t n (fo_pt t n al k) (tk_nx t n c)).2.1 = 41 then (0, tk_nx t n (fo_ts t n (fo_pt t n al k) (tk_nx t n c)).2.1, (fo_ts t n (fo_pt t n al k) (tk_nx t n c)).2.2)
        else (1 + 16 * ((fo_ts t n (fo_pt t n al k) (tk_nx t n c)).2.1 : Int), (fo_ts t n (fo_pt t n al k) (tk_nx t n c)).2.1, fun _ => 0))
      else fo_ts t n (fo_pt t n al k) (tk_nx t n c))
    else (if (fo_pt t n al k (tk_nx t n c)).1 = 0 then (0, (fo_pt t n al k (tk_nx t n c)).2.1, fun F => fo_nt ((fo_pt t n al k (tk_nx t n c)).2.2 F)) else fo_pt t n al k (tk_nx t n c)) := by
        rw [← hR]
        show (if ¬ fo_st t n al c then _ else _) = _
        rw [if_neg (by simp [hst])]
      have eH : 4 * (5 - k) = 4 * (5 - (k + 1)) + 4 := by omega
      have eD : ((5 - (k + 1) : Nat) : Int) + 1 = ((5 - k : Nat) : Int) := by omega
      have hH20 : 4 * (5 - (k + 1)) + 4 < 32 := by omega
      generalize hHH : 4 * (5 - (k + 1)) + 4 = H at *
      -- an atom
      have atom : ∀ (x : Int) (V : fo_V), c < n → ((0 ≤ x ∧ x ≤ 9999 ∧ ∀ F, V F = x) ∨ (-5 ≤ x ∧ x ≤ -1 ∧ ∀ F, V F = F (-1 - x).toNat)) → R = (0, tk_nx t n c, V) → SpX0_put [.inr (.inr 6), .inl x] (bt_wd ρ μ) (bt_ret (bt_ald 0 (bt_gfR 0 0 (bt_cV 0 [2] 7 SpX7_step (bt_ic 1 (bt_zret Q))))) [] [some (.inr (.inr 6)), some (.inl ((5 - (k + 1) : Nat) : Int)), some (.inl (if fo_fa t n al c then 1 else 0)), some (.inl (if tk_k t n c = 40 then 1 else 0)), some (.inl (if tk_w t n c = 22 then 1 else 0)), none]) := by
        intro x V hcn2 hx hRe
        refine fo_put_call hρ hs (by omega) (fun hs1 => ?_) (fun h => by omega)
        simp (disch := omega) only [bt_ild, bt_lld, bt_ald, bt_ist, bt_lst, bt_ast, bt_inc, bt_ic, bt_lc, bt_iadd, bt_isub, bt_imul, bt_iand, bt_ior, bt_ixor, bt_ishl, bt_ishr, bt_iushr, bt_ladd, bt_lsub, bt_lmul, bt_land, bt_lor, bt_lushr, bt_lshl, bt_idiv, bt_irem, bt_ldiv, bt_lrem, bt_lcmp, bt_i2l, bt_l2i, bt_i2b, bt_pop, bt_dup, bt_dup2, bt_gfI, bt_gfJ, bt_gfR, bt_pfI, bt_pfZ, bt_pfJ, bt_pfR, bt_ial, bt_bal, bt_zal, bt_lal, bt_aal, bt_ias, bt_bas, bt_zas, bt_las, bt_len, bt_iret, bt_zret, bt_lret, bt_vret, bt_cV, bt_cS, bt_tab, bt_tsw, bt_lk, bt_lsw, bt_acp, bt_mmax, bt_mmin, bt_can, bt_icmpeq, bt_ifeq, bt_icmpne, bt_ifne, bt_icmplt, bt_iflt, bt_icmpge, bt_ifge, bt_icmpgt, bt_ifgt, bt_icmple, bt_ifle, bt_ret, bt_kill, bt_kl, bt_ix, bt_nl, bt_sm, bt_sr, bt_sig, bt_tg, bt_loc, bt_locs, List.getElem?_cons_zero, List.getElem?_cons_succ, List.set_cons_zero, List.set_cons_succ, List.map_cons, List.map_nil, List.take_succ_cons, List.take_zero, List.drop_succ_cons, List.drop_zero, List.reverse_cons, List.reverse_nil, List.nil_append, List.cons_append, List.append_nil, List.length_cons, List.length_nil, List.replicate_succ, List.replicate_zero, Option.toList_some, Option.toList_none, Nat.reduceAdd, Nat.reduceSub, Nat.reduceLeDiff, Nat.zero_add, Nat.zero_le, true_and, and_true, Int.toNat_natCast, Sum.inl.injEq, Sum.inr.injEq, ↓reduceIte, Nat.reduceEqDiff, sh_6, sh_1, hρ 6 _ (by decide), rf_6_0]
        have hG1 : bt_Go (bt_up (bt_up μ 8 s x) 6 4 ((s : Int) + 1)) μ t n c := hG0.fr (by rw [bt_up_cell (by decide), bt_up_cell (by decide)]) (by rw [bt_up_cell (by decide), bt_up_cell (by decide)]) (by rw [bt_up_cell (by decide), bt_up_cell (by decide)])
        refine ⟨by decide, by decide, tk_step_call hρ hG1.1 hG1.2.1 (fun μ2 g1 g2 => ?_)⟩
        simp (disch := omega) only [bt_ild, bt_lld, bt_ald, bt_ist, bt_lst, bt_ast, bt_inc, bt_ic, bt_lc, bt_iadd, bt_isub, bt_imul, bt_iand, bt_ior, bt_ixor, bt_ishl, bt_ishr, bt_iushr, bt_ladd, bt_lsub, bt_lmul, bt_land, bt_lor, bt_lushr, bt_lshl, bt_idiv, bt_irem, bt_ldiv, bt_lrem, bt_lcmp, bt_i2l, bt_l2i, bt_i2b, bt_pop, bt_dup, bt_dup2, bt_gfI, bt_gfJ, bt_gfR, bt_pfI, bt_pfZ, bt_pfJ, bt_pfR, bt_ial, bt_bal, bt_zal, bt_lal, bt_aal, bt_ias, bt_bas, bt_zas, bt_las, bt_len, bt_iret, bt_zret, bt_lret, bt_vret, bt_cV, bt_cS, bt_tab, bt_tsw, bt_lk, bt_lsw, bt_acp, bt_mmax, bt_mmin, bt_can, bt_icmpeq, bt_ifeq, bt_icmpne, bt_ifne, bt_icmplt, bt_iflt, bt_icmpge, bt_ifge, bt_icmpgt, bt_ifgt, bt_icmple, bt_ifle, bt_ret, bt_kill, bt_kl, bt_ix, bt_nl, bt_sm, bt_sr, bt_sig, bt_tg, bt_loc, bt_locs, List.getElem?_cons_zero, List.getElem?_cons_succ, List.set_cons_zero, List.set_cons_succ, List.map_cons, List.map_nil, List.take_succ_cons, List.take_zero, List.drop_succ_cons, List.drop_zero, List.reverse_cons, List.reverse_nil, List.nil_append, List.cons_append, List.append_nil, List.length_cons, List.length_nil, List.replicate_succ, List.replicate_zero, Option.toList_some, Option.toList_none, Nat.reduceAdd, Nat.reduceSub, Nat.reduceLeDiff, Nat.zero_add, Nat.zero_le, true_and, and_true, Int.toNat_natCast, Sum.inl.injEq, Sum.inr.injEq, ↓reduceIte, Nat.reduceEqDiff]
        subst hRe
        have hlt := (tk_nx_rg (t := t) (n := n) (c := c) (by omega)).2.2 hcn2
        have e8 : μ2 8 = ab_put (μ 8) s x := by rw [g2 8 (by decide), bt_up_cell (by decide), bt_up_put]
        refine ⟨by simp, hQ μ2 ⟨g1.tr hG1, s + 1, ?_, by omega, by show s + 1 + c ≤ s + tk_nx t n c; omega, fun y hy => ?_, fo_Em.at hH20 ?_⟩ ((fo_F.st g2 (s := s + 1) (by rw [bt_up_same]; rfl) (by omega)).tr (hF0.put hs1))⟩
        · rw [g2 6 (by decide), bt_up_same]; rfl
        · rw [e8]; unfold ab_put; rw [if_neg (by omega)]
        · have : μ2 8 s = x := by rw [e8]; unfold ab_put; rw [if_pos rfl]
          rw [this]; exact hx
      by_cases hfa : fo_fa t n al c = true
      · obtain ⟨f1, f2, f3⟩ := fo_fa_w hfa
        rw [if_pos hfa] at hR2 ⊢
        rw [if_pos hfa] at atom
        have w8 : μ 1 8 = tk_w t n c := by rw [f3]; exact (hc.2.2.2.2.2.1 f1).2
        have hwr := tk_w_rg t n c
        simp (disch := omega) only [bt_w_id, Int.reduceEq, ↓reduceIte, w8]
        refine ⟨by decide, by decide, by decide, atom _ _ (tk_k_lt (by rw [f1]; decide)) (Or.inr ⟨by omega, by omega, fun F => ?_⟩) hR2⟩
        rw [show -1 - (24 - tk_w t n c) = tk_w t n c - 25 by omega]
      · rw [if_neg hfa] at hR2 ⊢
        rw [if_neg hfa] at atom
        simp (disch := omega) only [bt_w_id, Int.reduceEq, ↓reduceIte]
        refine ⟨by decide, by decide, ?_⟩
        by_cases hk2 : tk_k t n c = 2
        · rw [if_pos hk2] at hR2 ⊢
          have v9 : μ 1 9 = tk_v t n c := hc.2.2.2.2.2.2 hk2
          have hcn2 : c < n := tk_k_lt (by rw [hk2]; decide)
          have hvr := tk_v_rg hk2 (fun h => (hp.2.2.2.1 c h).1)
          rw [v9]
          exact ⟨by decide, by decide, by decide, atom _ _ hcn2 (Or.inl ⟨by omega, by omega, fun F => rfl⟩) hR2⟩
        · rw [if_neg hk2] at hR2 ⊢
          refine ⟨by decide, by decide, tk_step_call hρ hp hc (fun μ2 g1 g2 => ?_)⟩
          have e6 : μ2 6 = μ 6 := g2 6 (by decide)
          have e8 : μ2 8 = μ 8 := g2 8 (by decide)
          have hF2 : fo_F μ2 μ := fo_F.st g2 hs (by omega)
          simp (disch := omega) only [bt_ild, bt_lld, bt_ald, bt_ist, bt_lst, bt_ast, bt_inc, bt_ic, bt_lc, bt_iadd, bt_isub, bt_imul, bt_iand, bt_ior, bt_ixor, bt_ishl, bt_ishr, bt_iushr, bt_ladd, bt_lsub, bt_lmul, bt_land, bt_lor, bt_lushr, bt_lshl, bt_idiv, bt_irem, bt_ldiv, bt_lrem, bt_lcmp, bt_i2l, bt_l2i, bt_i2b, bt_pop, bt_dup, bt_dup2, bt_gfI, bt_gfJ, bt_gfR, bt_pfI, bt_pfZ, bt_pfJ, bt_pfR, bt_ial, bt_bal, bt_zal, bt_lal, bt_aal, bt_ias, bt_bas, bt_zas, bt_las, bt_len, bt_iret, bt_zret, bt_lret, bt_vret, bt_cV, bt_cS, bt_tab, bt_tsw, bt_lk, bt_lsw, bt_acp, bt_mmax, bt_mmin, bt_can, bt_icmpeq, bt_ifeq, bt_icmpne, bt_ifne, bt_icmplt, bt_iflt, bt_icmpge, bt_ifge, bt_icmpgt, bt_ifgt, bt_icmple, bt_ifle, bt_ret, bt_kill, bt_kl, bt_ix, bt_nl, bt_sm, bt_sr, bt_sig, bt_tg, bt_loc, bt_locs, List.getElem?_cons_zero, List.getElem?_cons_succ, List.set_cons_zero, List.set_cons_succ, List.map_cons, List.map_nil, List.take_succ_cons, List.take_zero, List.drop_succ_cons, List.drop_zero, List.reverse_cons, List.reverse_nil, List.nil_append, List.cons_append, List.append_nil, List.length_cons, List.length_nil, List.replicate_succ, List.replicate_zero, Option.toList_some, Option.toList_none, Nat.reduceAdd, Nat.reduceSub, Nat.reduceLeDiff, Nat.zero_add, Nat.zero_le, true_and, and_true, Int.toNat_natCast, Sum.inl.injEq, Sum.inr.injEq, ↓reduceIte, Nat.reduceEqDiff, sh_6, sh_1, hρ 6 _ (by decide), rf_6_0]
          by_cases hop : tk_k t n c = 40
          · have hnw : ¬ tk_w t n c = 22 := fun h => by have := tk_w_k (t := t) (n := n) (c := c) (by omega); omega
            have hcn2 : c < n := tk_k_lt (by rw [hop]; decide)
            have hlt := (tk_nx_rg (t := t) (n := n) (c := c) (by omega)).2.2 hcn2
            rw [if_pos hop] at hR2 ⊢
            rw [if_neg hnw]
            simp (disch := omega) only [bt_w_id, Int.reduceEq, ↓reduceIte, eD]
            obtain ⟨r, hr⟩ : ∃ r, fo_ts t n (fo_pt t n al k) (tk_nx t n c) = r := ⟨_, rfl⟩
            rw [hr] at hR2
            refine ⟨by decide, fo_call (s := s) hρ g1.1 g1.2.1 (by rw [e6]; exact hs) (by omega) (by rw [e6]; exact hal) hal2 hr (fun μ3 h1 h2 => ?_)⟩
            simp (disch := omega) only [bt_ild, bt_lld, bt_ald, bt_ist, bt_lst, bt_ast, bt_inc, bt_ic, bt_lc, bt_iadd, bt_isub, bt_imul, bt_iand, bt_ior, bt_ixor, bt_ishl, bt_ishr, bt_iushr, bt_ladd, bt_lsub, bt_lmul, bt_land, bt_lor, bt_lushr, bt_lshl, bt_idiv, bt_irem, bt_ldiv, bt_lrem, bt_lcmp, bt_i2l, bt_l2i, bt_i2b, bt_pop, bt_dup, bt_dup2, bt_gfI, bt_gfJ, bt_gfR, bt_pfI, bt_pfZ, bt_pfJ, bt_pfR, bt_ial, bt_bal, bt_zal, bt_lal, bt_aal, bt_ias, bt_bas, bt_zas, bt_las, bt_len, bt_iret, bt_zret, bt_lret, bt_vret, bt_cV, bt_cS, bt_tab, bt_tsw, bt_lk, bt_lsw, bt_acp, bt_mmax, bt_mmin, bt_can, bt_icmpeq, bt_ifeq, bt_icmpne, bt_ifne, bt_icmplt, bt_iflt, bt_icmpge, bt_ifge, bt_icmpgt, bt_ifgt, bt_icmple, bt_ifle, bt_ret, bt_kill, bt_kl, bt_ix, bt_nl, bt_sm, bt_sr, bt_sig, bt_tg, bt_loc, bt_locs, List.getElem?_cons_zero, List.getElem?_cons_succ, List.set_cons_zero, List.set_cons_succ, List.map_cons, List.map_nil, List.take_succ_cons, List.take_zero, List.drop_succ_cons, List.drop_zero, List.reverse_cons, List.reverse_nil, List.nil_append, List.cons_append, List.append_nil, List.length_cons, List.length_nil, List.replicate_succ, List.replicate_zero, Option.toList_some, Option.toList_none, Nat.reduceAdd, Nat.reduceSub, Nat.reduceLeDiff, Nat.zero_add, Nat.zero_le, true_and, and_true, Int.toNat_natCast, Sum.inl.injEq, Sum.inr.injEq, ↓reduceIte, Nat.reduceEqDiff, sh_6, sh_1, hρ 6 _ (by decide), rf_6_0]
            by_cases hr0 : r.1 = 0
            · rw [if_pos hr0] at h1 hR2 ⊢
              obtain ⟨hG3, s3, u1, u2, u3, u4, u5⟩ := h1
              have hkr3 := tk_k_rg (t := t) (n := n) (c := r.2.1) (fun h => hp.2.2.2.1 _ h)
              simp (disch := omega) only [bt_w_id, Int.reduceEq, ↓reduceIte, hG3.2.1.2.2.2.2.1]
              refine ⟨by decide, by decide, ?_⟩
              by_cases hcl : tk_k t n r.2.1 = 41
              · rw [if_pos hcl] at hR2 ⊢
                refine ⟨by decide, by decide, tk_step_call hρ hG3.1 hG3.2.1 (fun μ4 g3 g4 => ?_)⟩
                simp (disch := omega) only [bt_ild, bt_lld, bt_ald, bt_ist, bt_lst, bt_ast, bt_inc, bt_ic, bt_lc, bt_iadd, bt_isub, bt_imul, bt_iand, bt_ior, bt_ixor, bt_ishl, bt_ishr, bt_iushr, bt_ladd, bt_lsub, bt_lmul, bt_land, bt_lor, bt_lushr, bt_lshl, bt_idiv, bt_irem, bt_ldiv, bt_lrem, bt_lcmp, bt_i2l, bt_l2i, bt_i2b, bt_pop, bt_dup, bt_dup2, bt_gfI, bt_gfJ, bt_gfR, bt_pfI, bt_pfZ, bt_pfJ, bt_pfR, bt_ial, bt_bal, bt_zal, bt_lal, bt_aal, bt_ias, bt_bas, bt_zas, bt_las, bt_len, bt_iret, bt_zret, bt_lret, bt_vret, bt_cV, bt_cS, bt_tab, bt_tsw, bt_lk, bt_lsw, bt_acp, bt_mmax, bt_mmin, bt_can, bt_icmpeq, bt_ifeq, bt_icmpne, bt_ifne, bt_icmplt, bt_iflt, bt_icmpge, bt_ifge, bt_icmpgt, bt_ifgt, bt_icmple, bt_ifle, bt_ret, bt_kill, bt_kl, bt_ix, bt_nl, bt_sm, bt_sr, bt_sig, bt_tg, bt_loc, bt_locs, List.getElem?_cons_zero, List.getElem?_cons_succ, List.set_cons_zero, List.set_cons_succ, List.map_cons, List.map_nil, List.take_succ_cons, List.take_zero, List.drop_succ_cons, List.drop_zero, List.reverse_cons, List.reverse_nil, List.nil_append, List.cons_append, List.append_nil, List.length_cons, List.length_nil, List.replicate_succ, List.replicate_zero, Option.toList_some, Option.toList_none, Nat.reduceAdd, Nat.reduceSub, Nat.reduceLeDiff, Nat.zero_add, Nat.zero_le, true_and, and_true, Int.toNat_natCast, Sum.inl.injEq, Sum.inr.injEq, ↓reduceIte, Nat.reduceEqDiff]
                subst hR2
                have hlt3 := (tk_nx_rg (t := t) (n := n) (c := r.2.1) hG3.2.1.1)
                have hn3 := hG3.2.1.1
                have e68 : μ4 8 = μ3 8 := g4 8 (by decide)
                refine ⟨by simp, hQ μ4 ⟨(g3.tr hG3).tr (g1.tr hG0), s3, ?_, u2, ?_, fun y hy => ?_, ?_⟩ ((fo_F.st g4 u1 (by omega)).tr (h2.tr hF2))⟩
                · rw [g4 6 (by decide)]; exact u1
                · show s3 + c ≤ s + tk_nx t n r.2.1; omega
                · rw [e68, u4 y hy, e8]
                · rw [e68]; exact u5.weak (by omega)
              · rw [if_neg hcl] at hR2 ⊢
                refine ⟨by decide, by decide, tk_fail_call hG3.2.1.2.2.1 ?_⟩
                simp (disch := omega) only [bt_ild, bt_lld, bt_ald, bt_ist, bt_lst, bt_ast, bt_inc, bt_ic, bt_lc, bt_iadd, bt_isub, bt_imul, bt_iand, bt_ior, bt_ixor, bt_ishl, bt_ishr, bt_iushr, bt_ladd, bt_lsub, bt_lmul, bt_land, bt_lor, bt_lushr, bt_lshl, bt_idiv, bt_irem, bt_ldiv, bt_lrem, bt_lcmp, bt_i2l, bt_l2i, bt_i2b, bt_pop, bt_dup, bt_dup2, bt_gfI, bt_gfJ, bt_gfR, bt_pfI, bt_pfZ, bt_pfJ, bt_pfR, bt_ial, bt_bal, bt_zal, bt_lal, bt_aal, bt_ias, bt_bas, bt_zas, bt_las, bt_len, bt_iret, bt_zret, bt_lret, bt_vret, bt_cV, bt_cS, bt_tab, bt_tsw, bt_lk, bt_lsw, bt_acp, bt_mmax, bt_mmin, bt_can, bt_icmpeq, bt_ifeq, bt_icmpne, bt_ifne, bt_icmplt, bt_iflt, bt_icmpge, bt_ifge, bt_icmpgt, bt_ifgt, bt_icmple, bt_ifle, bt_ret, bt_kill, bt_kl, bt_ix, bt_nl, bt_sm, bt_sr, bt_sig, bt_tg, bt_loc, bt_locs, List.getElem?_cons_zero, List.getElem?_cons_succ, List.set_cons_zero, List.set_cons_succ, List.map_cons, List.map_nil, List.take_succ_cons, List.take_zero, List.drop_succ_cons, List.drop_zero, List.reverse_cons, List.reverse_nil, List.nil_append, List.cons_append, List.append_nil, List.length_cons, List.length_nil, List.replicate_succ, List.replicate_zero, Option.toList_some, Option.toList_none, Nat.reduceAdd, Nat.reduceSub, Nat.reduceLeDiff, Nat.zero_add, Nat.zero_le, true_and, and_true, Int.toNat_natCast, Sum.inl.injEq, Sum.inr.injEq, ↓reduceIte, Nat.reduceEqDiff]
                subst hR2
                refine ⟨by simp, fo_c3 hQ (by show (1 + 16 * (r.2.1 : Int)) ≠ 0; omega) (by rw [bt_up_same]) ?_⟩
                have := h2.tr hF2
                exact ⟨by rw [bt_up_cell (by decide)]; exact this.1, by rw [bt_up_cell (by decide)]; exact this.2.1, fun a ha => by rw [bt_up_cell (by omega)]; exact this.2.2 a ha⟩
            · rw [if_neg hr0] at h1 hR2 ⊢
              simp (disch := omega) only [bt_w_id, Int.reduceEq, ↓reduceIte]
              subst hR2
              exact ⟨by simp, fo_c3 hQ hr0 h1 (h2.tr hF2)⟩
          · have hnt : tk_w t n c = 22 := by
              unfold fo_st at hst
              simp [hfa, hop, hk2] at hst
              exact hst
            have hk1 := tk_w_k (t := t) (n := n) (c := c) (by omega)
            have hcn2 : c < n := tk_k_lt (by rw [hk1]; decide)
            have hlt := (tk_nx_rg (t := t) (n := n) (c := c) (by omega)).2.2 hcn2
            rw [if_neg hop] at hR2 ⊢
            rw [if_pos hnt]
            simp (disch := omega) only [bt_w_id, Int.reduceEq, ↓reduceIte, eD]
            obtain ⟨r, hr⟩ : ∃ r, fo_pt t n al k (tk_nx t n c) = r := ⟨_, rfl⟩
            rw [hr] at hR2
            refine ⟨by decide, fo_call (s := s) hρ g1.1 g1.2.1 (by rw [e6]; exact hs) (by omega) (by rw [e6]; exact hal) hal2 hr (fun μ3 h1 h2 => ?_)⟩
            simp (disch := omega) only [bt_ild, bt_lld, bt_ald, bt_ist, bt_lst, bt_ast, bt_inc, bt_ic, bt_lc, bt_iadd, bt_isub, bt_imul, bt_iand, bt_ior, bt_ixor, bt_ishl, bt_ishr, bt_iushr, bt_ladd, bt_lsub, bt_lmul, bt_land, bt_lor, bt_lushr, bt_lshl, bt_idiv, bt_irem, bt_ldiv, bt_lrem, bt_lcmp, bt_i2l, bt_l2i, bt_i2b, bt_pop, bt_dup, bt_dup2, bt_gfI, bt_gfJ, bt_gfR, bt_pfI, bt_pfZ, bt_pfJ, bt_pfR, bt_ial, bt_bal, bt_zal, bt_lal, bt_aal, bt_ias, bt_bas, bt_zas, bt_las, bt_len, bt_iret, bt_zret, bt_lret, bt_vret, bt_cV, bt_cS, bt_tab, bt_tsw, bt_lk, bt_lsw, bt_acp, bt_mmax, bt_mmin, bt_can, bt_icmpeq, bt_ifeq, bt_icmpne, bt_ifne, bt_icmplt, bt_iflt, bt_icmpge, bt_ifge, bt_icmpgt, bt_ifgt, bt_icmple, bt_ifle, bt_ret, bt_kill, bt_kl, bt_ix, bt_nl, bt_sm, bt_sr, bt_sig, bt_tg, bt_loc, bt_locs, List.getElem?_cons_zero, List.getElem?_cons_succ, List.set_cons_zero, List.set_cons_succ, List.map_cons, List.map_nil, List.take_succ_cons, List.take_zero, List.drop_succ_cons, List.drop_zero, List.reverse_cons, List.reverse_nil, List.nil_append, List.cons_append, List.append_nil, List.length_cons, List.length_nil, List.replicate_succ, List.replicate_zero, Option.toList_some, Option.toList_none, Nat.reduceAdd, Nat.reduceSub, Nat.reduceLeDiff, Nat.zero_add, Nat.zero_le, true_and, and_true, Int.toNat_natCast, Sum.inl.injEq, Sum.inr.injEq, ↓reduceIte, Nat.reduceEqDiff, sh_6, sh_1, hρ 6 _ (by decide), rf_6_0, bt_w_id, Int.reduceEq]
            have hF3 := h2.tr hF2
            refine ⟨by decide, ?_⟩
            by_cases hr0 : r.1 = 0
            · rw [if_pos hr0] at h1 hR2 ⊢
              obtain ⟨hG3, s3, u1, u2, u3, u4, u5⟩ := h1
              have hn3 := hG3.2.1.1
              refine fo_put_call hρ u1 (by omega) (fun hs3 => ?_) (fun h => by omega)
              simp (disch := omega) only [bt_ild, bt_lld, bt_ald, bt_ist, bt_lst, bt_ast, bt_inc, bt_ic, bt_lc, bt_iadd, bt_isub, bt_imul, bt_iand, bt_ior, bt_ixor, bt_ishl, bt_ishr, bt_iushr, bt_ladd, bt_lsub, bt_lmul, bt_land, bt_lor, bt_lushr, bt_lshl, bt_idiv, bt_irem, bt_ldiv, bt_lrem, bt_lcmp, bt_i2l, bt_l2i, bt_i2b, bt_pop, bt_dup, bt_dup2, bt_gfI, bt_gfJ, bt_gfR, bt_pfI, bt_pfZ, bt_pfJ, bt_pfR, bt_ial, bt_bal, bt_zal, bt_lal, bt_aal, bt_ias, bt_bas, bt_zas, bt_las, bt_len, bt_iret, bt_zret, bt_lret, bt_vret, bt_cV, bt_cS, bt_tab, bt_tsw, bt_lk, bt_lsw, bt_acp, bt_mmax, bt_mmin, bt_can, bt_icmpeq, bt_ifeq, bt_icmpne, bt_ifne, bt_icmplt, bt_iflt, bt_icmpge, bt_ifge, bt_icmpgt, bt_ifgt, bt_icmple, bt_ifle, bt_ret, bt_kill, bt_kl, bt_ix, bt_nl, bt_sm, bt_sr, bt_sig, bt_tg, bt_loc, bt_locs, List.getElem?_cons_zero, List.getElem?_cons_succ, List.set_cons_zero, List.set_cons_succ, List.map_cons, List.map_nil, List.take_succ_cons, List.take_zero, List.drop_succ_cons, List.drop_zero, List.reverse_cons, List.reverse_nil, List.nil_append, List.cons_append, List.append_nil, List.length_cons, List.length_nil, List.replicate_succ, List.replicate_zero, Option.toList_some, Option.toList_none, Nat.reduceAdd, Nat.reduceSub, Nat.reduceLeDiff, Nat.zero_add, Nat.zero_le, true_and, and_true, Int.toNat_natCast, Sum.inl.injEq, Sum.inr.injEq, ↓reduceIte, Nat.reduceEqDiff]
              subst hR2
              have q1 : ∀ x, x ≠ s3 → bt_up (bt_up μ3 8 s3 (-10)) 6 4 ((s3 : Int) + 1) 8 x = μ3 8 x := fun x hx => by rw [bt_up_cell (by decide), bt_up_ix hx]
              refine ⟨by simp, hQ _ ⟨(hG3.tr (g1.tr hG0)).fr (by rw [bt_up_cell (by decide), bt_up_cell (by decide)]) (by rw [bt_up_cell (by decide), bt_up_cell (by decide)]) (by rw [bt_up_cell (by decide), bt_up_cell (by decide)]), s3 + 1, by rw [bt_up_same]; rfl, by omega, by show s3 + 1 + c ≤ s + r.2.1; omega, fun y hy => ?_, ?_⟩ (hF3.put hs3)⟩
              · rw [q1 y (by omega), u4 y hy, e8]
              · refine fo_Em.nt (s1 := s3) ((u5.weak (by omega)).congr (fun x h1 h2 => q1 x (by omega))) (by rw [bt_up_cell (by decide), bt_up_same])
            · rw [if_neg hr0] at h1 hR2 ⊢
              subst hR2
              obtain ⟨s3, u1, u2⟩ := hF3.1
              refine fo_put_call hρ u1 u2 (fun hs3 => ?_) (fun h => ?_)
              · simp (disch := omega) only [bt_ild, bt_lld, bt_ald, bt_ist, bt_lst, bt_ast, bt_inc, bt_ic, bt_lc, bt_iadd, bt_isub, bt_imul, bt_iand, bt_ior, bt_ixor, bt_ishl, bt_ishr, bt_iushr, bt_ladd, bt_lsub, bt_lmul, bt_land, bt_lor, bt_lushr, bt_lshl, bt_idiv, bt_irem, bt_ldiv, bt_lrem, bt_lcmp, bt_i2l, bt_l2i, bt_i2b, bt_pop, bt_dup, bt_dup2, bt_gfI, bt_gfJ, bt_gfR, bt_pfI, bt_pfZ, bt_pfJ, bt_pfR, bt_ial, bt_bal, bt_zal, bt_lal, bt_aal, bt_ias, bt_bas, bt_zas, bt_las, bt_len, bt_iret, bt_zret, bt_lret, bt_vret, bt_cV, bt_cS, bt_tab, bt_tsw, bt_lk, bt_lsw, bt_acp, bt_mmax, bt_mmin, bt_can, bt_icmpeq, bt_ifeq, bt_icmpne, bt_ifne, bt_icmplt, bt_iflt, bt_icmpge, bt_ifge, bt_icmpgt, bt_ifgt, bt_icmple, bt_ifle, bt_ret, bt_kill, bt_kl, bt_ix, bt_nl, bt_sm, bt_sr, bt_sig, bt_tg, bt_loc, bt_locs, List.getElem?_cons_zero, List.getElem?_cons_succ, List.set_cons_zero, List.set_cons_succ, List.map_cons, List.map_nil, List.take_succ_cons, List.take_zero, List.drop_succ_cons, List.drop_zero, List.reverse_cons, List.reverse_nil, List.nil_append, List.cons_append, List.append_nil, List.length_cons, List.length_nil, List.replicate_succ, List.replicate_zero, Option.toList_some, Option.toList_none, Nat.reduceAdd, Nat.reduceSub, Nat.reduceLeDiff, Nat.zero_add, Nat.zero_le, true_and, and_true, Int.toNat_natCast, Sum.inl.injEq, Sum.inr.injEq, ↓reduceIte, Nat.reduceEqDiff]
                exact ⟨by simp, fo_c3 hQ hr0 (by rw [bt_up_cell (by decide), bt_up_cell (by decide)]; exact h1) (hF3.put hs3)⟩
              · simp (disch := omega) only [bt_ild, bt_lld, bt_ald, bt_ist, bt_lst, bt_ast, bt_inc, bt_ic, bt_lc, bt_iadd, bt_isub, bt_imul, bt_iand, bt_ior, bt_ixor, bt_ishl, bt_ishr, bt_iushr, bt_ladd, bt_lsub, bt_lmul, bt_land, bt_lor, bt_lushr, bt_lshl, bt_idiv, bt_irem, bt_ldiv, bt_lrem, bt_lcmp, bt_i2l, bt_l2i, bt_i2b, bt_pop, bt_dup, bt_dup2, bt_gfI, bt_gfJ, bt_gfR, bt_pfI, bt_pfZ, bt_pfJ, bt_pfR, bt_ial, bt_bal, bt_zal, bt_lal, bt_aal, bt_ias, bt_bas, bt_zas, bt_las, bt_len, bt_iret, bt_zret, bt_lret, bt_vret, bt_cV, bt_cS, bt_tab, bt_tsw, bt_lk, bt_lsw, bt_acp, bt_mmax, bt_mmin, bt_can, bt_icmpeq, bt_ifeq, bt_icmpne, bt_ifne, bt_icmplt, bt_iflt, bt_icmpge, bt_ifge, bt_icmpgt, bt_ifgt, bt_icmple, bt_ifle, bt_ret, bt_kill, bt_kl, bt_ix, bt_nl, bt_sm, bt_sr, bt_sig, bt_tg, bt_loc, bt_locs, List.getElem?_cons_zero, List.getElem?_cons_succ, List.set_cons_zero, List.set_cons_succ, List.map_cons, List.map_nil, List.take_succ_cons, List.take_zero, List.drop_succ_cons, List.drop_zero, List.reverse_cons, List.reverse_nil, List.nil_append, List.cons_append, List.append_nil, List.length_cons, List.length_nil, List.replicate_succ, List.replicate_zero, Option.toList_some, Option.toList_none, Nat.reduceAdd, Nat.reduceSub, Nat.reduceLeDiff, Nat.zero_add, Nat.zero_le, true_and, and_true, Int.toNat_natCast, Sum.inl.injEq, Sum.inr.injEq, ↓reduceIte, Nat.reduceEqDiff]
                exact ⟨by simp, fo_c3 hQ hr0 h1 hF3⟩
  have fail : fo_st t n al c = false → R.1 = 1 + 16 * (c : Int) := by
    intro h
    rw [← hR]
    cases k with
    | zero => show (if fo_st t n al c then _ else _) = _; rw [if_neg (by simp [h])]
    | succ k => show (if ¬ fo_st t n al c then _ else _ : fo_R).1 = _; rw [if_pos (by simp [h])]
  simp (disch := omega) only [tX0_readPart_0, tX0_readPart_22, bt_ild, bt_lld, bt_ald, bt_ist, bt_lst, bt_ast, bt_inc, bt_ic, bt_lc, bt_iadd, bt_isub, bt_imul, bt_iand, bt_ior, bt_ixor, bt_ishl, bt_ishr, bt_iushr, bt_ladd, bt_lsub, bt_lmul, bt_land, bt_lor, bt_lushr, bt_lshl, bt_idiv, bt_irem, bt_ldiv, bt_lrem, bt_lcmp, bt_i2l, bt_l2i, bt_i2b, bt_pop, bt_dup, bt_dup2, bt_gfI, bt_gfJ, bt_gfR, bt_pfI, bt_pfZ, bt_pfJ, bt_pfR, bt_ial, bt_bal, bt_zal, bt_lal, bt_aal, bt_ias, bt_bas, bt_zas, bt_las, bt_len, bt_iret, bt_zret, bt_lret, bt_vret, bt_cV, bt_cS, bt_tab, bt_tsw, bt_lk, bt_lsw, bt_acp, bt_mmax, bt_mmin, bt_can, bt_icmpeq, bt_ifeq, bt_icmpne, bt_ifne, bt_icmplt, bt_iflt, bt_icmpge, bt_ifge, bt_icmpgt, bt_ifgt, bt_icmple, bt_ifle, bt_ret, bt_kill, bt_kl, bt_ix, bt_nl, bt_sm, bt_sr, bt_sig, bt_tg, bt_loc, bt_locs, List.getElem?_cons_zero, List.getElem?_cons_succ, List.set_cons_zero, List.set_cons_succ, List.map_cons, List.map_nil, List.take_succ_cons, List.take_zero, List.drop_succ_cons, List.drop_zero, List.reverse_cons, List.reverse_nil, List.nil_append, List.cons_append, List.append_nil, List.length_cons, List.length_nil, List.replicate_succ, List.replicate_zero, Option.toList_some, Option.toList_none, Nat.reduceAdd, Nat.reduceSub, Nat.reduceLeDiff, Nat.zero_add, Nat.zero_le, true_and, and_true, Int.toNat_natCast, Sum.inl.injEq, Sum.inr.injEq, ↓reduceIte, Nat.reduceEqDiff, sh_6, sh_1]
  refine ⟨by decide, fo_fa_call hρ hp hc hal hal2 ?_⟩
  simp (disch := omega) only [bt_ild, bt_lld, bt_ald, bt_ist, bt_lst, bt_ast, bt_inc, bt_ic, bt_lc, bt_iadd, bt_isub, bt_imul, bt_iand, bt_ior, bt_ixor, bt_ishl, bt_ishr, bt_iushr, bt_ladd, bt_lsub, bt_lmul, bt_land, bt_lor, bt_lushr, bt_lshl, bt_idiv, bt_irem, bt_ldiv, bt_lrem, bt_lcmp, bt_i2l, bt_l2i, bt_i2b, bt_pop, bt_dup, bt_dup2, bt_gfI, bt_gfJ, bt_gfR, bt_pfI, bt_pfZ, bt_pfJ, bt_pfR, bt_ial, bt_bal, bt_zal, bt_lal, bt_aal, bt_ias, bt_bas, bt_zas, bt_las, bt_len, bt_iret, bt_zret, bt_lret, bt_vret, bt_cV, bt_cS, bt_tab, bt_tsw, bt_lk, bt_lsw, bt_acp, bt_mmax, bt_mmin, bt_can, bt_icmpeq, bt_ifeq, bt_icmpne, bt_ifne, bt_icmplt, bt_iflt, bt_icmpge, bt_ifge, bt_icmpgt, bt_ifgt, bt_icmple, bt_ifle, bt_ret, bt_kill, bt_kl, bt_ix, bt_nl, bt_sm, bt_sr, bt_sig, bt_tg, bt_loc, bt_locs, List.getElem?_cons_zero, List.getElem?_cons_succ, List.set_cons_zero, List.set_cons_succ, List.map_cons, List.map_nil, List.take_succ_cons, List.take_zero, List.drop_succ_cons, List.drop_zero, List.reverse_cons, List.reverse_nil, List.nil_append, List.cons_append, List.append_nil, List.length_cons, List.length_nil, List.replicate_succ, List.replicate_zero, Option.toList_some, Option.toList_none, Nat.reduceAdd, Nat.reduceSub, Nat.reduceLeDiff, Nat.zero_add, Nat.zero_le, true_and, and_true, Int.toNat_natCast, Sum.inl.injEq, Sum.inr.injEq, ↓reduceIte, Nat.reduceEqDiff, sh_6, sh_1, hρ 6 _ (by decide), rf_6_0, hc.2.2.2.2.1, bt_w_id]
  refine ⟨by decide, by decide, ?_⟩
  have rest : ∀ x : Int, x = (if tk_k t n c = 40 then 1 else 0) → SpX7_isWord [.inr (.inr 1), .inl 22] (bt_wd ρ μ) (bt_ret (bt_ist 4 (bt_ild 2 (bt_ifne (tX0_readPart_67 SpX0_isFact SpX7_isWord SpX7_fail SpX0_put SpX7_step S5 S6 bt_k0 Q) (bt_ild 3 (bt_ifne (tX0_readPart_67 SpX0_isFact SpX7_isWord SpX7_fail SpX0_put SpX7_step S5 S6 bt_k0 Q) (bt_ild 4 (bt_ifne (tX0_readPart_67 SpX0_isFact SpX7_isWord SpX7_fail SpX0_put SpX7_step S5 S6 bt_k0 Q) (bt_ald 0 (bt_gfR 0 0 (bt_gfI 7 6 (bt_ic 2 (bt_icmpeq (tX0_readPart_67 SpX0_isFact SpX7_isWord SpX7_fail SpX0_put SpX7_step S5 S6 bt_k0 Q) (bt_ald 0 (bt_gfR 0 0 (bt_ic 1 (bt_cV 1 [2, 0] 7 SpX7_fail (bt_zret Q))))))))))))))))) [] [some (.inr (.inr 6)), some (.inl ((5 - k : Nat) : Int)), some (.inl (if fo_fa t n al c then 1 else 0)), some (.inl x), none, none]) := by
    intro x hx
    refine tk_isWord_call (k := 22) hp hc (by decide) ?_
    simp (disch := omega) only [bt_ild, bt_lld, bt_ald, bt_ist, bt_lst, bt_ast, bt_inc, bt_ic, bt_lc, bt_iadd, bt_isub, bt_imul, bt_iand, bt_ior, bt_ixor, bt_ishl, bt_ishr, bt_iushr, bt_ladd, bt_lsub, bt_lmul, bt_land, bt_lor, bt_lushr, bt_lshl, bt_idiv, bt_irem, bt_ldiv, bt_lrem, bt_lcmp, bt_i2l, bt_l2i, bt_i2b, bt_pop, bt_dup, bt_dup2, bt_gfI, bt_gfJ, bt_gfR, bt_pfI, bt_pfZ, bt_pfJ, bt_pfR, bt_ial, bt_bal, bt_zal, bt_lal, bt_aal, bt_ias, bt_bas, bt_zas, bt_las, bt_len, bt_iret, bt_zret, bt_lret, bt_vret, bt_cV, bt_cS, bt_tab, bt_tsw, bt_lk, bt_lsw, bt_acp, bt_mmax, bt_mmin, bt_can, bt_icmpeq, bt_ifeq, bt_icmpne, bt_ifne, bt_icmplt, bt_iflt, bt_icmpge, bt_ifge, bt_icmpgt, bt_ifgt, bt_icmple, bt_ifle, bt_ret, bt_kill, bt_kl, bt_ix, bt_nl, bt_sm, bt_sr, bt_sig, bt_tg, bt_loc, bt_locs, List.getElem?_cons_zero, List.getElem?_cons_succ, List.set_cons_zero, List.set_cons_succ, List.map_cons, List.map_nil, List.take_succ_cons, List.take_zero, List.drop_succ_cons, List.drop_zero, List.reverse_cons, List.reverse_nil, List.nil_append, List.cons_append, List.append_nil, List.length_cons, List.length_nil, List.replicate_succ, List.replicate_zero, Option.toList_some, Option.toList_none, Nat.reduceAdd, Nat.reduceSub, Nat.reduceLeDiff, Nat.zero_add, Nat.zero_le, true_and, and_true, Int.toNat_natCast, Sum.inl.injEq, Sum.inr.injEq, ↓reduceIte, Nat.reduceEqDiff, sh_6, sh_1, hρ 6 _ (by decide), rf_6_0, hc.2.2.2.2.1, bt_w_id]
    rw [hx]
    have e22 : ((22 : Nat) : Int) = 22 := rfl
    rw [e22]
    by_cases hst : fo_st t n al c = true
    · have bd := body hst
      have h1 : fo_fa t n al c = true ∨ tk_k t n c = 40 ∨ tk_w t n c = 22 ∨ tk_k t n c = 2 := by
        unfold fo_st at hst
        simp at hst
        rcases hst with ((h | h) | h) | h
        · exact Or.inl h
        · exact Or.inr (Or.inl h)
        · exact Or.inr (Or.inr (Or.inl h))
        · exact Or.inr (Or.inr (Or.inr h))
      by_cases a1 : fo_fa t n al c = true
      · rw [if_pos a1] at bd ⊢
        rw [if_neg (by decide)]
        exact bd
      · rw [if_neg a1] at bd ⊢
        rw [if_pos rfl]
        by_cases a2 : tk_k t n c = 40
        · rw [if_pos a2] at bd ⊢
          rw [if_neg (by decide)]
          exact bd
        · rw [if_neg a2] at bd ⊢
          rw [if_pos rfl]
          by_cases a3 : tk_w t n c = 22
          · rw [if_pos a3] at bd ⊢
            rw [if_neg (by decide)]
            exact bd
          · rw [if_neg a3] at bd ⊢
            rw [if_pos rfl, if_pos (by rcases h1 with h | h | h | h <;> first | exact absurd h a1 | exact absurd h a2 | exact absurd h a3 | exact h)]
            exact ⟨by decide, by decide, bd⟩
    · have hst' : fo_st t n al c = false := by simpa using hst
      have hf := fail hst'
      unfold fo_st at hst'
      simp at hst'
      obtain ⟨⟨⟨a1, a2⟩, a3⟩, a4⟩ := hst'
      simp (disch := omega) only [a1, a2, a3, a4, bt_w_id, ↓reduceIte, Bool.false_eq_true]
      refine ⟨by decide, by decide, by decide, by decide, tk_fail_call hc.2.2.1 ?_⟩
      simp (disch := omega) only [bt_ild, bt_lld, bt_ald, bt_ist, bt_lst, bt_ast, bt_inc, bt_ic, bt_lc, bt_iadd, bt_isub, bt_imul, bt_iand, bt_ior, bt_ixor, bt_ishl, bt_ishr, bt_iushr, bt_ladd, bt_lsub, bt_lmul, bt_land, bt_lor, bt_lushr, bt_lshl, bt_idiv, bt_irem, bt_ldiv, bt_lrem, bt_lcmp, bt_i2l, bt_l2i, bt_i2b, bt_pop, bt_dup, bt_dup2, bt_gfI, bt_gfJ, bt_gfR, bt_pfI, bt_pfZ, bt_pfJ, bt_pfR, bt_ial, bt_bal, bt_zal, bt_lal, bt_aal, bt_ias, bt_bas, bt_zas, bt_las, bt_len, bt_iret, bt_zret, bt_lret, bt_vret, bt_cV, bt_cS, bt_tab, bt_tsw, bt_lk, bt_lsw, bt_acp, bt_mmax, bt_mmin, bt_can, bt_icmpeq, bt_ifeq, bt_icmpne, bt_ifne, bt_icmplt, bt_iflt, bt_icmpge, bt_ifge, bt_icmpgt, bt_ifgt, bt_icmple, bt_ifle, bt_ret, bt_kill, bt_kl, bt_ix, bt_nl, bt_sm, bt_sr, bt_sig, bt_tg, bt_loc, bt_locs, List.getElem?_cons_zero, List.getElem?_cons_succ, List.set_cons_zero, List.set_cons_succ, List.map_cons, List.map_nil, List.take_succ_cons, List.take_zero, List.drop_succ_cons, List.drop_zero, List.reverse_cons, List.reverse_nil, List.nil_append, List.cons_append, List.append_nil, List.length_cons, List.length_nil, List.replicate_succ, List.replicate_zero, Option.toList_some, Option.toList_none, Nat.reduceAdd, Nat.reduceSub, Nat.reduceLeDiff, Nat.zero_add, Nat.zero_le, true_and, and_true, Int.toNat_natCast, Sum.inl.injEq, Sum.inr.injEq, ↓reduceIte, Nat.reduceEqDiff]
      exact ⟨by simp, fo_c3 hQ (by omega) (by rw [bt_up_same, hf]) (hFu _)⟩
  by_cases hop : tk_k t n c = 40
  · rw [if_pos hop]
    exact ⟨by decide, by decide, rest 1 (by rw [if_pos hop])⟩
  · rw [if_neg hop]
    exact ⟨by decide, by decide, rest 0 (by rw [if_neg hop])⟩
