/-! BearTickets: its own references; tyresHelp, tyres -/
def bt_Rb (ρ : Nat → Nat → Option Nat) (P P' : Nat) : Prop := bt_Rf ρ ∧ (P ∈ bt_zos ∧ P' ∈ bt_zos ∧ P ≠ P') ∧ ρ 0 0 = some 1 ∧ ρ 0 1 = some 4 ∧ ρ 0 2 = some 10 ∧ ρ 0 3 = some 19 ∧ ρ 0 4 = some 36 ∧ ρ 0 5 = some 71 ∧ ρ 0 6 = some P ∧ ρ 0 7 = some P' ∧ ρ 0 8 = some 105 ∧ ρ 0 9 = some 111 ∧ ρ 0 10 = some 136 ∧ ρ 0 11 = some 140
theorem ab_sq.tr {ζ a b c : Nat → Nat → Int} (h1 : ab_sq ζ a b) (h2 : ab_sq ζ b c) : ab_sq ζ a c := ⟨h1.1.trans h2.1, h1.2.1.trans h2.2.1, fun g hg => ⟨(h1.2.2.1 g hg).1.trans (h2.2.2.1 g hg).1, (h1.2.2.1 g hg).2.trans (h2.2.2.1 g hg).2⟩, fun a ha => (h1.2.2.2 a ha).trans (h2.2.2.2 a ha)⟩
theorem ab_sq.sy {ζ a b : Nat → Nat → Int} (h1 : ab_sq ζ a b) : ab_sq ζ b a := ⟨h1.1.symm, h1.2.1.symm, fun g hg => ⟨(h1.2.2.1 g hg).1.symm, (h1.2.2.1 g hg).2.symm⟩, fun a ha => (h1.2.2.2 a ha).symm⟩
theorem ab_sq.of {ζ a b : Nat → Nat → Int} (h : ∀ j, j < 4 → a j = b j) : ab_sq ζ a b := by
  refine ⟨?_, ?_, fun g _ => ⟨?_, ?_⟩, fun q _ => ?_⟩
  · rw [h 0 (by omega)]
  · rw [h 0 (by omega)]
  · rw [h 1 (by omega)]
  · rw [h 2 (by omega)]
  · rw [h 3 (by omega)]
theorem ab_sq.cp {ζ : Nat → Nat → Int} {μ' μ : Nat → Nat → Int} {t s : Nat} (hZ : ab_Z ζ) (h : bt_eqS μ' t μ s) : ab_sq ζ (bt_vw μ' t) (bt_vw μ s) := by
  have hr := ab_rg hZ
  exact ⟨h.1, h.2.1, fun g hg => ⟨h.2.2.1 g (by omega), h.2.2.2.1 g (by omega)⟩, fun a ha => h.2.2.2.2 a (by omega)⟩
theorem bt_vw_z {μ' μ : Nat → Nat → Int} {z : Nat} (h : ∀ j, j < 11 → μ' (z + j) = μ (z + j)) : ab_zq (bt_vw μ z) (bt_vw μ' z) := by
  refine ⟨fun k _ => ?_, fun p _ => ?_, fun g _ => ⟨?_, ?_⟩, fun a _ => ?_, fun k _ => ?_, fun k _ => ?_⟩
  · simp only [bt_vw]; rw [h 0 (by omega)]
  · simp only [bt_vw]; rw [h 4 (by omega)]
  · simp only [bt_vw]; rw [h 5 (by omega)]
  · simp only [bt_vw]; rw [h 7 (by omega)]
  · simp only [bt_vw]; rw [h 6 (by omega)]
  · simp only [bt_vw]; rw [h 9 (by omega)]
  · simp only [bt_vw]; rw [h 10 (by omega)]
theorem ab_zq.sy {ζ ζ' : Nat → Nat → Int} (h : ab_zq ζ ζ') : ab_zq ζ' ζ := by
  obtain ⟨n1, n2, n3⟩ := h.n
  exact ⟨fun k hk => (h.1 k hk).symm, fun p hp => (h.2.1 p (by omega)).symm, fun g hg => ⟨(h.2.2.1 g (by omega)).1.symm, (h.2.2.1 g (by omega)).2.symm⟩, fun a ha => (h.2.2.2.1 a (by omega)).symm, fun k hk => (h.2.2.2.2.1 k hk).symm, fun k hk => (h.2.2.2.2.2 k hk).symm⟩
theorem ab_sq.zz {ζ ζ' a b : Nat → Nat → Int} (h : ab_zq ζ ζ') (h1 : ab_sq ζ a b) : ab_sq ζ' a b := by
  obtain ⟨n1, n2, n3⟩ := h.n
  exact ⟨h1.1, h1.2.1, fun g hg => h1.2.2.1 g (by omega), fun a ha => h1.2.2.2 a (by omega)⟩
/-- tyres for those of the set S among the first n guests -/
def ab_chs (ζ σ : Nat → Nat → Int) (S : Nat) : Nat → Nat → Nat → Int
  | 0 => σ
  | n + 1 => if S.testBit n then ab_ch ζ (ab_chs ζ σ S n) n else ab_chs ζ σ S n
theorem ab_Schs {ζ σ : Nat → Nat → Int} (hZ : ab_Z ζ) (hS : ab_S ζ σ) (S : Nat) : ∀ n, n ≤ nG ζ → ab_S ζ (ab_chs ζ σ S n)
  | 0, _ => hS
  | n + 1, hn => by
    have ih := ab_Schs hZ hS S n (by omega)
    unfold ab_chs
    split
    · exact ab_Sch hZ ih (by omega)
    · exact ih
theorem ab_cchs {ζ ζ' σ σ' : Nat → Nat → Int} (hz : ab_zq ζ ζ') (hs : ab_sq ζ σ σ') (S : Nat) : ∀ n, n ≤ nG ζ → ab_sq ζ (ab_chs ζ σ S n) (ab_chs ζ' σ' S n)
  | 0, _ => hs
  | n + 1, hn => by
    have ih := ab_cchs hz hs S n (by omega)
    unfold ab_chs
    split
    · exact ab_cch hz ih (by omega)
    · exact ih
/-- with tyres for S nobody paces behind the hour -/
def ab_help (ζ σ : Nat → Nat → Int) (S : Nat) : Bool := decide (ab_pc ζ (ab_ps ζ (ab_chs ζ σ S (nG ζ)) 1) = 0)
def SpX10_tyresHelp : bt_Sp := fun As w Q => ∃ (ρ : Nat → Nat → Option Nat) (μ : Nat → Nat → Int) (P P' S : Nat), As = [.inr (.inr 0), .inl (S : Int)] ∧ w = bt_wd ρ μ ∧ bt_Rb ρ P P' ∧ S < 64 ∧ ab_Z (bt_vw μ P) ∧ ab_S (bt_vw μ P) (bt_vw μ 106) ∧ ∀ μ', bt_fr (fun a => (10 ≤ a ∧ a ≤ 18) ∨ (136 ≤ a ∧ a ≤ 139)) μ' μ → Q (some (.inl (if ab_help (bt_vw μ P) (bt_vw μ 106) S then 1 else 0))) (bt_wd ρ μ')
theorem bt_m136 : 136 ∈ bt_sts ∧ 106 ∈ bt_sts ∧ 10 ∈ bt_hos ∧ 105 ∈ bt_mes := by decide
theorem bt_zo2 : ∀ z ∈ bt_zos, (75 ≤ z ∧ z + 14 < 105) := by decide
set_option maxHeartbeats 4000000 in
theorem mtX10_tyresHelp : bt_Met yX10_tyresHelp cX10_tyresHelp 3 (some .boolean) 5 [2, 0] SpX10_tyresHelp := by
  refine lpX10_tyresHelp mtX6_copy (by decide) mtX9_cheer (by decide) mtX1_pass (by decide) mtX6_pacing (by decide) _ (fun As w Q _ hS => ?_)
  obtain ⟨ρ, μ, P, P', S, rfl, rfl, hR, hS64, hZ, hSt, hQ⟩ := hS
  obtain ⟨hρ, ⟨hP, hP', hPP⟩, r0, r1, r2, r3, r4, r5, r6, r7, r8, r9, r10, r11⟩ := hR
  obtain ⟨c1, c2, c3, c4, c5, c6, c7, c8, c9, c10, c11, c12, c13, c14, c15, c16, c17, c18, c19, c20, c21, c22, c23, c24, c25⟩ := bt_zo_f P hP
  have hzz := bt_zo2 P hP
  have hr := ab_rg hZ
  have hG : μ P 1 = (nG (bt_vw μ P) : Int) := by
    have := hZ.1
    simp only [bt_vw, nG, Nat.add_zero] at *
    omega
  have vz : ∀ μ1, bt_fr (fun a => (10 ≤ a ∧ a ≤ 18) ∨ (136 ≤ a ∧ a ≤ 139)) μ1 μ → bt_vw μ1 P = bt_vw μ P ∨ ab_zq (bt_vw μ P) (bt_vw μ1 P) := fun μ1 hf => Or.inr (bt_vw_z (fun j hj => hf _ (by omega)))
  generalize hζ : bt_vw μ P = ζ at *
  generalize hσ : bt_vw μ 106 = σ at *
  refine ⟨fun h' m st L w => st = [] ∧ ∃ (i : Nat) (μ1 : Nat → Nat → Int), w = bt_wd ρ μ1 ∧ i ≤ nG ζ ∧ m = nG ζ - i ∧ L = [some (.inr (.inr 0)), some (.inl (S : Int)), some (.inl (i : Int))] ∧ bt_fr (fun a => (136 ≤ a ∧ a ≤ 139)) μ1 μ ∧ ab_sq ζ (bt_vw μ1 136) (ab_chs ζ σ S i), ?_, ?_⟩
  · simp (disch := omega) only [tX10_tyresHelp_0, bt_ild, bt_lld, bt_ald, bt_ist, bt_lst, bt_ast, bt_inc, bt_ic, bt_lc, bt_iadd, bt_isub, bt_imul, bt_iand, bt_ior, bt_ixor, bt_ishl, bt_ishr, bt_iushr, bt_ladd, bt_lsub, bt_lmul, bt_land, bt_lor, bt_lushr, bt_lshl, bt_idiv, bt_irem, bt_ldiv, bt_lrem, bt_lcmp, bt_i2l, bt_l2i, bt_i2b, bt_pop, bt_dup, bt_dup2, bt_gfI, bt_gfJ, bt_gfR, bt_pfI, bt_pfZ, bt_pfJ, bt_pfR, bt_ial, bt_bal, bt_zal, bt_lal, bt_aal, bt_ias, bt_bas, bt_zas, bt_las, bt_len, bt_iret, bt_zret, bt_lret, bt_vret, bt_cV, bt_cS, bt_tab, bt_tsw, bt_lk, bt_lsw, bt_acp, bt_mmax, bt_mmin, bt_can, bt_icmpeq, bt_ifeq, bt_icmpne, bt_ifne, bt_icmplt, bt_iflt, bt_icmpge, bt_ifge, bt_icmpgt, bt_ifgt, bt_icmple, bt_ifle, bt_ret, bt_kill, bt_kl, bt_ix, bt_nl, bt_sm, bt_sr, bt_sig, bt_tg, bt_loc, bt_locs, List.getElem?_cons_zero, List.getElem?_cons_succ, List.set_cons_zero, List.set_cons_succ, List.map_cons, List.map_nil, List.take_succ_cons, List.take_zero, List.drop_succ_cons, List.drop_zero, List.reverse_cons, List.reverse_nil, List.nil_append, List.cons_append, List.append_nil, List.length_cons, List.length_nil, List.replicate_succ, List.replicate_zero, Option.toList_some, Option.toList_none, Nat.reduceAdd, Nat.reduceSub, Nat.reduceLeDiff, Nat.zero_add, Nat.zero_le, true_and, and_true, Int.toNat_natCast, Sum.inl.injEq, Sum.inr.injEq, ↓reduceIte, Nat.reduceEqDiff, r8, r10, hρ 105 _ (by decide), rf_105_0, sh_0, sh_105, sh_136]
    repeat (refine And.intro (by omega) ?_)
    refine ⟨ρ, μ, 136, 106, rfl, rfl, hρ, bt_m136.1, bt_m136.2.1, fun μ' he hf => ?_⟩
    simp (disch := omega) only [bt_ild, bt_lld, bt_ald, bt_ist, bt_lst, bt_ast, bt_inc, bt_ic, bt_lc, bt_iadd, bt_isub, bt_imul, bt_iand, bt_ior, bt_ixor, bt_ishl, bt_ishr, bt_iushr, bt_ladd, bt_lsub, bt_lmul, bt_land, bt_lor, bt_lushr, bt_lshl, bt_idiv, bt_irem, bt_ldiv, bt_lrem, bt_lcmp, bt_i2l, bt_l2i, bt_i2b, bt_pop, bt_dup, bt_dup2, bt_gfI, bt_gfJ, bt_gfR, bt_pfI, bt_pfZ, bt_pfJ, bt_pfR, bt_ial, bt_bal, bt_zal, bt_lal, bt_aal, bt_ias, bt_bas, bt_zas, bt_las, bt_len, bt_iret, bt_zret, bt_lret, bt_vret, bt_cV, bt_cS, bt_tab, bt_tsw, bt_lk, bt_lsw, bt_acp, bt_mmax, bt_mmin, bt_can, bt_icmpeq, bt_ifeq, bt_icmpne, bt_ifne, bt_icmplt, bt_iflt, bt_icmpge, bt_ifge, bt_icmpgt, bt_ifgt, bt_icmple, bt_ifle, bt_ret, bt_kill, bt_kl, bt_ix, bt_nl, bt_sm, bt_sr, bt_sig, bt_tg, bt_loc, bt_locs, List.getElem?_cons_zero, List.getElem?_cons_succ, List.set_cons_zero, List.set_cons_succ, List.map_cons, List.map_nil, List.take_succ_cons, List.take_zero, List.drop_succ_cons, List.drop_zero, List.reverse_cons, List.reverse_nil, List.nil_append, List.cons_append, List.append_nil, List.length_cons, List.length_nil, List.replicate_succ, List.replicate_zero, Option.toList_some, Option.toList_none, Nat.reduceAdd, Nat.reduceSub, Nat.reduceLeDiff, Nat.zero_add, Nat.zero_le, true_and, and_true, Int.toNat_natCast, Sum.inl.injEq, Sum.inr.injEq, ↓reduceIte, Nat.reduceEqDiff]
    refine ⟨nG ζ, 0, μ', rfl, by omega, by omega, rfl, fun a ha => hf a (by unfold bt_inS; omega), ?_⟩
    have := ab_sq.cp hZ he
    rw [hσ] at this
    exact this
  · rintro m st L w ⟨rfl, i, μ1, rfl, hi, rfl, rfl, hfr, hsq⟩
    have e1 : μ1 P = μ P := hfr P (by omega)
    have hz1 : ab_zq ζ (bt_vw μ1 P) := by rw [← hζ]; exact bt_vw_z (fun j hj => hfr _ (by omega))
    have hS1 := ab_Schs hZ hSt S i hi
    have hS2 : ab_S (bt_vw μ1 P) (bt_vw μ1 136) := ab_sq.S hz1 hsq.sy hS1
    simp (disch := omega) only [tX10_tyresHelp_16, tX10_tyresHelp_47, tX10_tyresHelp_91, bt_ild, bt_lld, bt_ald, bt_ist, bt_lst, bt_ast, bt_inc, bt_ic, bt_lc, bt_iadd, bt_isub, bt_imul, bt_iand, bt_ior, bt_ixor, bt_ishl, bt_ishr, bt_iushr, bt_ladd, bt_lsub, bt_lmul, bt_land, bt_lor, bt_lushr, bt_lshl, bt_idiv, bt_irem, bt_ldiv, bt_lrem, bt_lcmp, bt_i2l, bt_l2i, bt_i2b, bt_pop, bt_dup, bt_dup2, bt_gfI, bt_gfJ, bt_gfR, bt_pfI, bt_pfZ, bt_pfJ, bt_pfR, bt_ial, bt_bal, bt_zal, bt_lal, bt_aal, bt_ias, bt_bas, bt_zas, bt_las, bt_len, bt_iret, bt_zret, bt_lret, bt_vret, bt_cV, bt_cS, bt_tab, bt_tsw, bt_lk, bt_lsw, bt_acp, bt_mmax, bt_mmin, bt_can, bt_icmpeq, bt_ifeq, bt_icmpne, bt_ifne, bt_icmplt, bt_iflt, bt_icmpge, bt_ifge, bt_icmpgt, bt_ifgt, bt_icmple, bt_ifle, bt_ret, bt_kill, bt_kl, bt_ix, bt_nl, bt_sm, bt_sr, bt_sig, bt_tg, bt_loc, bt_locs, List.getElem?_cons_zero, List.getElem?_cons_succ, List.set_cons_zero, List.set_cons_succ, List.map_cons, List.map_nil, List.take_succ_cons, List.take_zero, List.drop_succ_cons, List.drop_zero, List.reverse_cons, List.reverse_nil, List.nil_append, List.cons_append, List.append_nil, List.length_cons, List.length_nil, List.replicate_succ, List.replicate_zero, Option.toList_some, Option.toList_none, Nat.reduceAdd, Nat.reduceSub, Nat.reduceLeDiff, Nat.zero_add, Nat.zero_le, true_and, and_true, Int.toNat_natCast, Sum.inl.injEq, Sum.inr.injEq, ↓reduceIte, Nat.reduceEqDiff, r2, r6, r10, hρ P _ c2, c3, c4, c5, c6, c7, c8, c9, c10, c11, c12, c13, c14, c15, c16, c17, c18, c19, c20, c21, c22, c23, c24, sh_0, sh_136, sh_10, e1, hG, bt_w_id]
    repeat (refine And.intro (by omega) ?_)
    by_cases hc : nG ζ ≤ i
    · rw [if_pos (by omega)]
      have : i = nG ζ := by omega
      subst this
      repeat (refine And.intro (by omega) ?_)
      refine ⟨ρ, μ1, 10, P, 136, 1, rfl, rfl, hρ, bt_m136.2.2.1, hP, bt_m136.1, Or.inr rfl, hz1.Z hZ, hS2, fun μ' hj ht hf => ?_⟩
      have e2 : μ' P = μ P := by rw [hf P (by omega)]; exact e1
      simp (disch := omega) only [bt_ild, bt_lld, bt_ald, bt_ist, bt_lst, bt_ast, bt_inc, bt_ic, bt_lc, bt_iadd, bt_isub, bt_imul, bt_iand, bt_ior, bt_ixor, bt_ishl, bt_ishr, bt_iushr, bt_ladd, bt_lsub, bt_lmul, bt_land, bt_lor, bt_lushr, bt_lshl, bt_idiv, bt_irem, bt_ldiv, bt_lrem, bt_lcmp, bt_i2l, bt_l2i, bt_i2b, bt_pop, bt_dup, bt_dup2, bt_gfI, bt_gfJ, bt_gfR, bt_pfI, bt_pfZ, bt_pfJ, bt_pfR, bt_ial, bt_bal, bt_zal, bt_lal, bt_aal, bt_ias, bt_bas, bt_zas, bt_las, bt_len, bt_iret, bt_zret, bt_lret, bt_vret, bt_cV, bt_cS, bt_tab, bt_tsw, bt_lk, bt_lsw, bt_acp, bt_mmax, bt_mmin, bt_can, bt_icmpeq, bt_ifeq, bt_icmpne, bt_ifne, bt_icmplt, bt_iflt, bt_icmpge, bt_ifge, bt_icmpgt, bt_ifgt, bt_icmple, bt_ifle, bt_ret, bt_kill, bt_kl, bt_ix, bt_nl, bt_sm, bt_sr, bt_sig, bt_tg, bt_loc, bt_locs, List.getElem?_cons_zero, List.getElem?_cons_succ, List.set_cons_zero, List.set_cons_succ, List.map_cons, List.map_nil, List.take_succ_cons, List.take_zero, List.drop_succ_cons, List.drop_zero, List.reverse_cons, List.reverse_nil, List.nil_append, List.cons_append, List.append_nil, List.length_cons, List.length_nil, List.replicate_succ, List.replicate_zero, Option.toList_some, Option.toList_none, Nat.reduceAdd, Nat.reduceSub, Nat.reduceLeDiff, Nat.zero_add, Nat.zero_le, true_and, and_true, Int.toNat_natCast, Sum.inl.injEq, Sum.inr.injEq, ↓reduceIte, Nat.reduceEqDiff, r2, r6, r10, hρ P _ c2, c3, c4, c5, c6, c7, c8, c9, c10, c11, c12, c13, c14, c15, c16, c17, c18, c19, c20, c21, c22, c23, c24, sh_0, sh_136, sh_10, e2, hG, bt_w_id]
      repeat (refine And.intro (by omega) ?_)
      refine ⟨ρ, μ', 136, nG ζ, rfl, rfl, hρ, bt_m136.1, by omega, ?_⟩
      have q1 : ab_sq (bt_vw μ1 P) (bt_vw μ' 136) (ab_ps (bt_vw μ1 P) (bt_vw μ1 136) 1) := ab_sq.of hj
      have q2 : ab_sq ζ (ab_ps ζ (ab_chs ζ σ S (nG ζ)) 1) (ab_ps (bt_vw μ1 P) (bt_vw μ1 136) 1) := ab_cps hz1 hsq.sy hZ hS1 1
      have q3 : ab_sq ζ (bt_vw μ' 136) (ab_ps ζ (ab_chs ζ σ S (nG ζ)) 1) := (ab_sq.zz hz1.sy q1).tr q2.sy
      have q4 : bt_bn (fun i => decide (bt_w (μ' 138 i) = 0)) (nG ζ) = ab_pc ζ (ab_ps ζ (ab_chs ζ σ S (nG ζ)) 1) := ab_cpc (ζ := ζ) (ζ' := ζ) (ab_zq.rf ζ) q3
      have q5 : (bt_bn (fun i => decide (bt_w (μ' (136 + 2) i) = 0)) (nG ζ) : Int) = (ab_pc ζ (ab_ps ζ (ab_chs ζ σ S (nG ζ)) 1) : Int) := by rw [← q4]
      have hlt := bt_bn_lt (fun i => decide (bt_w (ab_ps ζ (ab_chs ζ σ S (nG ζ)) 1 2 i) = 0)) (nG ζ)
      have h64 : 2 ^ nG ζ ≤ 2 ^ 6 := Nat.pow_le_pow_right (by decide) hr.1
      have hpc : ab_pc ζ (ab_ps ζ (ab_chs ζ σ S (nG ζ)) 1) < 64 := Nat.lt_of_lt_of_le hlt h64
      simp (disch := omega) only [bt_ild, bt_lld, bt_ald, bt_ist, bt_lst, bt_ast, bt_inc, bt_ic, bt_lc, bt_iadd, bt_isub, bt_imul, bt_iand, bt_ior, bt_ixor, bt_ishl, bt_ishr, bt_iushr, bt_ladd, bt_lsub, bt_lmul, bt_land, bt_lor, bt_lushr, bt_lshl, bt_idiv, bt_irem, bt_ldiv, bt_lrem, bt_lcmp, bt_i2l, bt_l2i, bt_i2b, bt_pop, bt_dup, bt_dup2, bt_gfI, bt_gfJ, bt_gfR, bt_pfI, bt_pfZ, bt_pfJ, bt_pfR, bt_ial, bt_bal, bt_zal, bt_lal, bt_aal, bt_ias, bt_bas, bt_zas, bt_las, bt_len, bt_iret, bt_zret, bt_lret, bt_vret, bt_cV, bt_cS, bt_tab, bt_tsw, bt_lk, bt_lsw, bt_acp, bt_mmax, bt_mmin, bt_can, bt_icmpeq, bt_ifeq, bt_icmpne, bt_ifne, bt_icmplt, bt_iflt, bt_icmpge, bt_ifge, bt_icmpgt, bt_ifgt, bt_icmple, bt_ifle, bt_ret, bt_kill, bt_kl, bt_ix, bt_nl, bt_sm, bt_sr, bt_sig, bt_tg, bt_loc, bt_locs, List.getElem?_cons_zero, List.getElem?_cons_succ, List.set_cons_zero, List.set_cons_succ, List.map_cons, List.map_nil, List.take_succ_cons, List.take_zero, List.drop_succ_cons, List.drop_zero, List.reverse_cons, List.reverse_nil, List.nil_append, List.cons_append, List.append_nil, List.length_cons, List.length_nil, List.replicate_succ, List.replicate_zero, Option.toList_some, Option.toList_none, Nat.reduceAdd, Nat.reduceSub, Nat.reduceLeDiff, Nat.zero_add, Nat.zero_le, true_and, and_true, Int.toNat_natCast, Sum.inl.injEq, Sum.inr.injEq, ↓reduceIte, Nat.reduceEqDiff, q5, bt_w_id]
      have hfin := hQ μ' (fun a ha => by rw [hf a (by omega)]; exact hfr a (by omega))
      by_cases h0 : ab_pc ζ (ab_ps ζ (ab_chs ζ σ S (nG ζ)) 1) = 0
      · rw [if_pos (by omega)]
        have : ab_help ζ σ S = true := by simp [ab_help, h0]
        rw [this] at hfin
        exact ⟨by simp, hfin⟩
      · rw [if_neg (by omega)]
        have : ab_help ζ σ S = false := by simp [ab_help, h0]
        rw [this] at hfin
        exact ⟨by simp, hfin⟩
    · rw [if_neg (by omega), bo_bit (by omega) (by omega)]
      by_cases hb : S.testBit i
      · simp (disch := omega) only [hb, if_true, bt_w_id]
        rw [if_neg (by decide)]
        repeat (refine And.intro (by omega) ?_)
        refine ⟨ρ, μ1, P, 136, i, rfl, rfl, hρ, hP, bt_m136.1, by omega, fun μ' hj hf => ?_⟩
        simp (disch := omega) only [bt_ild, bt_lld, bt_ald, bt_ist, bt_lst, bt_ast, bt_inc, bt_ic, bt_lc, bt_iadd, bt_isub, bt_imul, bt_iand, bt_ior, bt_ixor, bt_ishl, bt_ishr, bt_iushr, bt_ladd, bt_lsub, bt_lmul, bt_land, bt_lor, bt_lushr, bt_lshl, bt_idiv, bt_irem, bt_ldiv, bt_lrem, bt_lcmp, bt_i2l, bt_l2i, bt_i2b, bt_pop, bt_dup, bt_dup2, bt_gfI, bt_gfJ, bt_gfR, bt_pfI, bt_pfZ, bt_pfJ, bt_pfR, bt_ial, bt_bal, bt_zal, bt_lal, bt_aal, bt_ias, bt_bas, bt_zas, bt_las, bt_len, bt_iret, bt_zret, bt_lret, bt_vret, bt_cV, bt_cS, bt_tab, bt_tsw, bt_lk, bt_lsw, bt_acp, bt_mmax, bt_mmin, bt_can, bt_icmpeq, bt_ifeq, bt_icmpne, bt_ifne, bt_icmplt, bt_iflt, bt_icmpge, bt_ifge, bt_icmpgt, bt_ifgt, bt_icmple, bt_ifle, bt_ret, bt_kill, bt_kl, bt_ix, bt_nl, bt_sm, bt_sr, bt_sig, bt_tg, bt_loc, bt_locs, List.getElem?_cons_zero, List.getElem?_cons_succ, List.set_cons_zero, List.set_cons_succ, List.map_cons, List.map_nil, List.take_succ_cons, List.take_zero, List.drop_succ_cons, List.drop_zero, List.reverse_cons, List.reverse_nil, List.nil_append, List.cons_append, List.append_nil, List.length_cons, List.length_nil, List.replicate_succ, List.replicate_zero, Option.toList_some, Option.toList_none, Nat.reduceAdd, Nat.reduceSub, Nat.reduceLeDiff, Nat.zero_add, Nat.zero_le, true_and, and_true, Int.toNat_natCast, Sum.inl.injEq, Sum.inr.injEq, ↓reduceIte, Nat.reduceEqDiff]
        refine ⟨nG ζ - (i + 1), by omega, i + 1, μ', rfl, by omega, rfl, rfl, fun a ha => by rw [hf a (by unfold bt_inS; omega)]; exact hfr a ha, ?_⟩
        unfold ab_chs
        rw [if_pos hb]
        have q1 : ab_sq (bt_vw μ1 P) (bt_vw μ' 136) (ab_ch (bt_vw μ1 P) (bt_vw μ1 136) i) := ab_sq.of hj
        have q2 := ab_cch hz1 hsq.sy (show i < nG ζ by omega)
        exact (ab_sq.zz hz1.sy q1).tr q2.sy
      · simp (disch := omega) only [hb, if_true, bt_w_id]
        refine ⟨nG ζ - (i + 1), by omega, i + 1, μ1, rfl, by omega, rfl, rfl, hfr, ?_⟩
        unfold ab_chs
        rw [if_neg hb]
        exact hsq
