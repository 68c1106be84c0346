/-! Show.weighCrowds, Show.hope -/
theorem ab_wo_rg {ζ σ : Nat → Nat → Int} (hZ : ab_Z ζ) (hS : ab_S ζ σ) (kind : Nat) {C : Nat} (hC : C < 64) : 0 ≤ ab_wo ζ σ kind C ∧ ab_wo ζ σ kind C ≤ 594 := by
  have hr := ab_rg hZ
  have hp6 := ab_pc6 C hC
  have h1 := bt_sn_rg (f := fun g => if C.testBit g then ζ 9 ((if fK ζ g = kind then 10 + fM σ g else fM σ g) * 6 + (bt_pcn C 16 - 1)) else 0) (B := 99) (nG ζ) (fun g hg => by
    have hm1 := ab_fM_lt hS hg
    have hq : (if fK ζ g = kind then 10 + fM σ g else fM σ g) * 6 + (bt_pcn C 16 - 1) < 120 := by split <;> omega
    have := hZ.2.2.2.2.1 _ hq
    split
    · exact this
    · omega)
  unfold ab_wo
  have : (nG ζ : Int) * 99 ≤ 594 := by omega
  omega
/-- what a crowd can be worth at the most when d more guests may come -/
def ab_mo (ζ σ : Nat → Nat → Int) (kind : Nat) : Nat → Nat → Int
  | 0, C => ab_wo ζ σ kind C
  | d + 1, C => if ab_mo ζ σ kind d C < ab_mo ζ σ kind d (C + 2 ^ (nG ζ - (d + 1))) then ab_mo ζ σ kind d (C + 2 ^ (nG ζ - (d + 1))) else ab_mo ζ σ kind d C
theorem ab_mo_rg {ζ σ : Nat → Nat → Int} (hZ : ab_Z ζ) (hS : ab_S ζ σ) (kind : Nat) : ∀ d C, d ≤ nG ζ → C < 2 ^ (nG ζ - d) → 0 ≤ ab_mo ζ σ kind d C ∧ ab_mo ζ σ kind d C ≤ 594
  | 0, C, _, hC => by
    have h2 : 2 ^ nG ζ ≤ 2 ^ 6 := Nat.pow_le_pow_right (by decide) (ab_rg hZ).1
    exact ab_wo_rg hZ hS kind (by rw [Nat.sub_zero] at hC; omega)
  | d + 1, C, hd, hC => by
    have e : 2 ^ (nG ζ - d) = 2 ^ (nG ζ - (d + 1)) * 2 := by rw [← Nat.pow_succ]; congr 1; omega
    have h1 := ab_mo_rg hZ hS kind d C (by omega) (by omega)
    have h2 := ab_mo_rg hZ hS kind d (C + 2 ^ (nG ζ - (d + 1))) (by omega) (by omega)
    unfold ab_mo
    split
    · exact h2
    · exact h1
def ab_ix5 (g kind C : Nat) : Nat := (g * 4 + kind) * 64 + C
theorem ab_spot_call {g kind C : Nat} (hg : g ≤ 6) (hk : kind < 4) (hC : C < 64) {w : bt_W} {Q : Option bt_V → bt_W → Prop} (h : Q (some (.inl (ab_ix5 g kind C : Int))) w) : SpX5_spot [.inl (g : Int), .inl (kind : Int), .inl (C : Int)] w Q := by
  simp (disch := omega) only [SpX5_spot, tX5_spot_0, bt_ild, bt_lld, bt_ald, bt_ist, bt_lst, bt_ast, bt_inc, bt_ic, bt_lc, bt_iadd, bt_isub, bt_imul, bt_iand, bt_ior, bt_ixor, bt_ishl, bt_ishr, bt_iushr, bt_ladd, bt_lsub, bt_lmul, bt_land, bt_lor, bt_lushr, bt_lshl, bt_idiv, bt_irem, bt_ldiv, bt_lrem, bt_lcmp, bt_i2l, bt_l2i, bt_i2b, bt_pop, bt_dup, bt_dup2, bt_gfI, bt_gfJ, bt_gfR, bt_pfI, bt_pfZ, bt_pfJ, bt_pfR, bt_ial, bt_bal, bt_zal, bt_lal, bt_aal, bt_ias, bt_bas, bt_zas, bt_las, bt_len, bt_iret, bt_zret, bt_lret, bt_vret, bt_cV, bt_cS, bt_tab, bt_tsw, bt_lk, bt_lsw, bt_acp, bt_mmax, bt_mmin, bt_can, bt_icmpeq, bt_ifeq, bt_icmpne, bt_ifne, bt_icmplt, bt_iflt, bt_icmpge, bt_ifge, bt_icmpgt, bt_ifgt, bt_icmple, bt_ifle, bt_ret, bt_kill, bt_kl, bt_ix, bt_nl, bt_sm, bt_sr, bt_sig, bt_tg, bt_loc, bt_locs, List.getElem?_cons_zero, List.getElem?_cons_succ, List.set_cons_zero, List.set_cons_succ, List.map_cons, List.map_nil, List.take_succ_cons, List.take_zero, List.drop_succ_cons, List.drop_zero, List.reverse_cons, List.reverse_nil, List.nil_append, List.cons_append, List.append_nil, List.length_cons, List.length_nil, List.replicate_succ, List.replicate_zero, Option.toList_some, Option.toList_none, Nat.reduceAdd, Nat.reduceSub, Nat.reduceLeDiff, Nat.zero_add, Nat.zero_le, true_and, and_true, Int.toNat_natCast, Sum.inl.injEq, Sum.inr.injEq, ↓reduceIte, Nat.reduceEqDiff]
  unfold ab_ix5 at h
  rw [show ((g : Int) * 4 + (kind : Int)) * 64 + (C : Int) = (((g * 4 + kind) * 64 + C : Nat) : Int) by omega]
  exact h
def SpX5_weighCrowds : bt_Sp := fun As w Q => ∃ (ρ : Nat → Nat → Option Nat) (μ : Nat → Nat → Int) (z kind : Nat), As = [.inr (.inr 19), .inr (.inr z), .inl (kind : Int)] ∧ w = bt_wd ρ μ ∧ bt_Rf ρ ∧ z ∈ bt_zos ∧ kind < 4 ∧ ab_Z (bt_vw μ z) ∧ ab_S (bt_vw μ z) (bt_vw μ 29) ∧ ∀ μ', (∀ g C, g ≤ nG (bt_vw μ z) → C < 2 ^ g → μ' 35 (ab_ix5 g kind C) = ab_mo (bt_vw μ z) (bt_vw μ 29) kind (nG (bt_vw μ z) - g) C) → (∀ g k C, k < 4 → C < 64 → k ≠ kind → μ' 35 (ab_ix5 g k C) = μ 35 (ab_ix5 g k C)) → bt_fr (fun a => a = 35) μ' μ → Q none (bt_wd ρ μ')
set_option maxHeartbeats 4000000 in
theorem mtX5_weighCrowds : bt_Met yX5_weighCrowds cX5_weighCrowds 7 none 3 [2, 2, 0] SpX5_weighCrowds := by
  refine lpX5_weighCrowds mtX5_spot (by decide) mtX5_worthOf (by decide) (by decide) _ (fun As w Q _ hS => ?_)
  obtain ⟨ρ, μ, z, kind, rfl, rfl, hρ, hz, hkd, hZ, hSt, hQ⟩ := hS
  obtain ⟨c1, c2, c3, c4, c5, c6, c7, c8, c9, c10, c11, c12, c13, c14, c15, c16, c17, c18, c19, c20, c21, c22, c23, c24, c25⟩ := bt_zo_f z hz
  have hzz := bt_zo2 z hz
  have hr := ab_rg hZ
  have hG : μ z 1 = (nG (bt_vw μ z) : Int) := by
    have := hZ.1
    simp only [bt_vw, nG, Nat.add_zero] at *
    omega
  have hzq : ∀ μ1, bt_fr (fun a => a = 35) μ1 μ → bt_vw μ1 29 0 = bt_vw μ 29 0 → ab_zq (bt_vw μ z) (bt_vw μ1 z) := fun μ1 hf _ => bt_vw_z (fun j hj => hf _ (by omega))
  generalize hζ : bt_vw μ z = ζ at *
  generalize hσ : bt_vw μ 29 = σ at *
  have hpw : ∀ g, g ≤ nG ζ → 2 ^ g ≤ 64 := fun g hg => Nat.le_trans (Nat.pow_le_pow_right (by decide) (show g ≤ 6 by omega)) (by decide)
  refine ⟨fun h' m st L w => st = [] ∧ ∃ (e i : Nat) (μ1 : Nat → Nat → Int), w = bt_wd ρ μ1 ∧ bt_fr (fun a => a = 35) μ1 μ ∧ (∀ g k C, k < 4 → C < 64 → k ≠ kind → μ1 35 (ab_ix5 g k C) = μ 35 (ab_ix5 g k C)) ∧
    (if h' = 2 then i ≤ 2 ^ nG ζ ∧ m = 10000 - i ∧ L = [some (.inr (.inr 19)), some (.inr (.inr z)), some (.inl (kind : Int)), some (.inl (i : Int)), none, none, none] ∧ ∀ C, C < i → μ1 35 (ab_ix5 (nG ζ) kind C) = ab_mo ζ σ kind 0 C
     else if h' = 46 then e ≤ nG ζ ∧ m = e * 100 ∧ L = [some (.inr (.inr 19)), some (.inr (.inr z)), some (.inl (kind : Int)), some (.inl ((e : Int) - 1)), none, none, none] ∧ ∀ g C, e ≤ g → g ≤ nG ζ → C < 2 ^ g → μ1 35 (ab_ix5 g kind C) = ab_mo ζ σ kind (nG ζ - g) C
     else e < nG ζ ∧ i ≤ 2 ^ e ∧ m = e * 100 + (99 - i) ∧ L = [some (.inr (.inr 19)), some (.inr (.inr z)), some (.inl (kind : Int)), some (.inl (e : Int)), some (.inl (i : Int)), none, none] ∧ (∀ g C, e < g → g ≤ nG ζ → C < 2 ^ g → μ1 35 (ab_ix5 g kind C) = ab_mo ζ σ kind (nG ζ - g) C) ∧ ∀ C, C < i → μ1 35 (ab_ix5 e kind C) = ab_mo ζ σ kind (nG ζ - e) C), ?_, ?_, ?_, ?_⟩
  · simp (disch := omega) only [tX5_weighCrowds_0, bt_ild, bt_lld, bt_ald, bt_ist, bt_lst, bt_ast, bt_inc, bt_ic, bt_lc, bt_iadd, bt_isub, bt_imul, bt_iand, bt_ior, bt_ixor, bt_ishl, bt_ishr, bt_iushr, bt_ladd, bt_lsub, bt_lmul, bt_land, bt_lor, bt_lushr, bt_lshl, bt_idiv, bt_irem, bt_ldiv, bt_lrem, bt_lcmp, bt_i2l, bt_l2i, bt_i2b, bt_pop, bt_dup, bt_dup2, bt_gfI, bt_gfJ, bt_gfR, bt_pfI, bt_pfZ, bt_pfJ, bt_pfR, bt_ial, bt_bal, bt_zal, bt_lal, bt_aal, bt_ias, bt_bas, bt_zas, bt_las, bt_len, bt_iret, bt_zret, bt_lret, bt_vret, bt_cV, bt_cS, bt_tab, bt_tsw, bt_lk, bt_lsw, bt_acp, bt_mmax, bt_mmin, bt_can, bt_icmpeq, bt_ifeq, bt_icmpne, bt_ifne, bt_icmplt, bt_iflt, bt_icmpge, bt_ifge, bt_icmpgt, bt_ifgt, bt_icmple, bt_ifle, bt_ret, bt_kill, bt_kl, bt_ix, bt_nl, bt_sm, bt_sr, bt_sig, bt_tg, bt_loc, bt_locs, List.getElem?_cons_zero, List.getElem?_cons_succ, List.set_cons_zero, List.set_cons_succ, List.map_cons, List.map_nil, List.take_succ_cons, List.take_zero, List.drop_succ_cons, List.drop_zero, List.reverse_cons, List.reverse_nil, List.nil_append, List.cons_append, List.append_nil, List.length_cons, List.length_nil, List.replicate_succ, List.replicate_zero, Option.toList_some, Option.toList_none, Nat.reduceAdd, Nat.reduceSub, Nat.reduceLeDiff, Nat.zero_add, Nat.zero_le, true_and, and_true, Int.toNat_natCast, Sum.inl.injEq, Sum.inr.injEq, ↓reduceIte, Nat.reduceEqDiff]
    exact ⟨10000, 0, 0, μ, rfl, fun _ _ => rfl, fun _ _ _ _ _ _ => rfl, Nat.zero_le _, by omega, rfl, fun C hC => by omega⟩
  · rintro m st L w ⟨rfl, e, i, μ1, rfl, hfr, hoth, hI⟩
    simp only [↓reduceIte] at hI
    obtain ⟨hi, rfl, rfl, hI⟩ := hI
    have e1 : μ1 z = μ z := hfr z (by omega)
    have hp := hpw (nG ζ) (Nat.le_refl _)
    simp (disch := omega) only [tX5_weighCrowds_2, bt_ild, bt_lld, bt_ald, bt_ist, bt_lst, bt_ast, bt_inc, bt_ic, bt_lc, bt_iadd, bt_isub, bt_imul, bt_iand, bt_ior, bt_ixor, bt_ishl, bt_ishr, bt_iushr, bt_ladd, bt_lsub, bt_lmul, bt_land, bt_lor, bt_lushr, bt_lshl, bt_idiv, bt_irem, bt_ldiv, bt_lrem, bt_lcmp, bt_i2l, bt_l2i, bt_i2b, bt_pop, bt_dup, bt_dup2, bt_gfI, bt_gfJ, bt_gfR, bt_pfI, bt_pfZ, bt_pfJ, bt_pfR, bt_ial, bt_bal, bt_zal, bt_lal, bt_aal, bt_ias, bt_bas, bt_zas, bt_las, bt_len, bt_iret, bt_zret, bt_lret, bt_vret, bt_cV, bt_cS, bt_tab, bt_tsw, bt_lk, bt_lsw, bt_acp, bt_mmax, bt_mmin, bt_can, bt_icmpeq, bt_ifeq, bt_icmpne, bt_ifne, bt_icmplt, bt_iflt, bt_icmpge, bt_ifge, bt_icmpgt, bt_ifgt, bt_icmple, bt_ifle, bt_ret, bt_kill, bt_kl, bt_ix, bt_nl, bt_sm, bt_sr, bt_sig, bt_tg, bt_loc, bt_locs, List.getElem?_cons_zero, List.getElem?_cons_succ, List.set_cons_zero, List.set_cons_succ, List.map_cons, List.map_nil, List.take_succ_cons, List.take_zero, List.drop_succ_cons, List.drop_zero, List.reverse_cons, List.reverse_nil, List.nil_append, List.cons_append, List.append_nil, List.length_cons, List.length_nil, List.replicate_succ, List.replicate_zero, Option.toList_some, Option.toList_none, Nat.reduceAdd, Nat.reduceSub, Nat.reduceLeDiff, Nat.zero_add, Nat.zero_le, true_and, and_true, Int.toNat_natCast, Sum.inl.injEq, Sum.inr.injEq, ↓reduceIte, Nat.reduceEqDiff, hρ z _ c2, c3, c4, c5, c6, c7, c8, c9, c10, c11, c12, c13, c14, c15, c16, c17, c18, c19, c20, c21, c22, c23, c24, e1, hG, bo_shl1, sh_19, hρ 19 _ (by decide), rf_19_4, bt_w_id]
    refine And.intro (by omega) ?_
    by_cases hc : 2 ^ nG ζ ≤ i
    · rw [if_pos (by omega)]
      refine ⟨by omega, nG ζ * 100, by omega, nG ζ, 0, μ1, rfl, hfr, hoth, by omega, rfl, rfl, fun g C h1 h2 h3 => ?_⟩
      have : g = nG ζ := by omega
      subst this
      rw [Nat.sub_self]
      exact hI C (by omega)
    · rw [if_neg (by omega)]
      repeat (refine And.intro (by omega) ?_)
      refine ab_spot_call hr.1 hkd (by omega) ?_
      simp (disch := omega) only [bt_ild, bt_lld, bt_ald, bt_ist, bt_lst, bt_ast, bt_inc, bt_ic, bt_lc, bt_iadd, bt_isub, bt_imul, bt_iand, bt_ior, bt_ixor, bt_ishl, bt_ishr, bt_iushr, bt_ladd, bt_lsub, bt_lmul, bt_land, bt_lor, bt_lushr, bt_lshl, bt_idiv, bt_irem, bt_ldiv, bt_lrem, bt_lcmp, bt_i2l, bt_l2i, bt_i2b, bt_pop, bt_dup, bt_dup2, bt_gfI, bt_gfJ, bt_gfR, bt_pfI, bt_pfZ, bt_pfJ, bt_pfR, bt_ial, bt_bal, bt_zal, bt_lal, bt_aal, bt_ias, bt_bas, bt_zas, bt_las, bt_len, bt_iret, bt_zret, bt_lret, bt_vret, bt_cV, bt_cS, bt_tab, bt_tsw, bt_lk, bt_lsw, bt_acp, bt_mmax, bt_mmin, bt_can, bt_icmpeq, bt_ifeq, bt_icmpne, bt_ifne, bt_icmplt, bt_iflt, bt_icmpge, bt_ifge, bt_icmpgt, bt_ifgt, bt_icmple, bt_ifle, bt_ret, bt_kill, bt_kl, bt_ix, bt_nl, bt_sm, bt_sr, bt_sig, bt_tg, bt_loc, bt_locs, List.getElem?_cons_zero, List.getElem?_cons_succ, List.set_cons_zero, List.set_cons_succ, List.map_cons, List.map_nil, List.take_succ_cons, List.take_zero, List.drop_succ_cons, List.drop_zero, List.reverse_cons, List.reverse_nil, List.nil_append, List.cons_append, List.append_nil, List.length_cons, List.length_nil, List.replicate_succ, List.replicate_zero, Option.toList_some, Option.toList_none, Nat.reduceAdd, Nat.reduceSub, Nat.reduceLeDiff, Nat.zero_add, Nat.zero_le, true_and, and_true, Int.toNat_natCast, Sum.inl.injEq, Sum.inr.injEq, ↓reduceIte, Nat.reduceEqDiff, sh_19]
      have zq : ab_zq ζ (bt_vw μ1 z) := by rw [← hζ]; exact bt_vw_z (fun j hj => hfr _ (by omega))
      have sq : ab_sq ζ σ (bt_vw μ1 29) := by rw [← hσ]; exact ab_sq.of (fun j hj => (hfr _ (by omega)).symm)
      have ewo : ab_wo (bt_vw μ1 z) (bt_vw μ1 29) kind i = ab_wo ζ σ kind i := by
        have : bt_vw μ1 z 9 = ζ 9 ∧ bt_vw μ1 z 5 = ζ 5 ∧ bt_vw μ1 z 0 = ζ 0 ∧ bt_vw μ1 29 2 = σ 2 := by
          rw [← hζ, ← hσ]
          exact ⟨hfr _ (by omega), hfr _ (by omega), hfr _ (by omega), hfr _ (by omega)⟩
        unfold ab_wo fK fM nG
        rw [this.1, this.2.1, this.2.2.1, this.2.2.2]
      refine ⟨by omega, ρ, μ1, z, kind, i, rfl, rfl, hρ, hz, hkd, by omega, zq.Z hZ, ab_sq.S zq sq hSt, ?_⟩
      rw [ewo]
      have hix : ab_ix5 (nG ζ) kind i < 1792 := by unfold ab_ix5; omega
      simp (disch := omega) only [bt_ild, bt_lld, bt_ald, bt_ist, bt_lst, bt_ast, bt_inc, bt_ic, bt_lc, bt_iadd, bt_isub, bt_imul, bt_iand, bt_ior, bt_ixor, bt_ishl, bt_ishr, bt_iushr, bt_ladd, bt_lsub, bt_lmul, bt_land, bt_lor, bt_lushr, bt_lshl, bt_idiv, bt_irem, bt_ldiv, bt_lrem, bt_lcmp, bt_i2l, bt_l2i, bt_i2b, bt_pop, bt_dup, bt_dup2, bt_gfI, bt_gfJ, bt_gfR, bt_pfI, bt_pfZ, bt_pfJ, bt_pfR, bt_ial, bt_bal, bt_zal, bt_lal, bt_aal, bt_ias, bt_bas, bt_zas, bt_las, bt_len, bt_iret, bt_zret, bt_lret, bt_vret, bt_cV, bt_cS, bt_tab, bt_tsw, bt_lk, bt_lsw, bt_acp, bt_mmax, bt_mmin, bt_can, bt_icmpeq, bt_ifeq, bt_icmpne, bt_ifne, bt_icmplt, bt_iflt, bt_icmpge, bt_ifge, bt_icmpgt, bt_ifgt, bt_icmple, bt_ifle, bt_ret, bt_kill, bt_kl, bt_ix, bt_nl, bt_sm, bt_sr, bt_sig, bt_tg, bt_loc, bt_locs, List.getElem?_cons_zero, List.getElem?_cons_succ, List.set_cons_zero, List.set_cons_succ, List.map_cons, List.map_nil, List.take_succ_cons, List.take_zero, List.drop_succ_cons, List.drop_zero, List.reverse_cons, List.reverse_nil, List.nil_append, List.cons_append, List.append_nil, List.length_cons, List.length_nil, List.replicate_succ, List.replicate_zero, Option.toList_some, Option.toList_none, Nat.reduceAdd, Nat.reduceSub, Nat.reduceLeDiff, Nat.zero_add, Nat.zero_le, true_and, and_true, Int.toNat_natCast, Sum.inl.injEq, Sum.inr.injEq, ↓reduceIte, Nat.reduceEqDiff, sh_35, bt_w_id]
      repeat (refine And.intro (by omega) ?_)
      refine ⟨10000 - (i + 1), by omega, 0, i + 1, _, rfl, fun a ha => by rw [bt_up_cell ha]; exact hfr a ha, fun g k C h1 h2 h3 => ?_, by omega, rfl, rfl, fun C hC => ?_⟩
      · rw [bt_up_ix (by unfold ab_ix5; omega)]; exact hoth g k C h1 h2 h3
      · by_cases e : C = i
        · subst e; rw [bt_up_same]; rfl
        · rw [bt_up_ix (by unfold ab_ix5; omega)]; exact hI C (by omega)
  · rintro m st L w ⟨rfl, e, i, μ1, rfl, hfr, hoth, hI⟩
    simp only [↓reduceIte, Nat.reduceEqDiff] at hI
    obtain ⟨he, rfl, rfl, hI⟩ := hI
    simp (disch := omega) only [tX5_weighCrowds_46, bt_ild, bt_lld, bt_ald, bt_ist, bt_lst, bt_ast, bt_inc, bt_ic, bt_lc, bt_iadd, bt_isub, bt_imul, bt_iand, bt_ior, bt_ixor, bt_ishl, bt_ishr, bt_iushr, bt_ladd, bt_lsub, bt_lmul, bt_land, bt_lor, bt_lushr, bt_lshl, bt_idiv, bt_irem, bt_ldiv, bt_lrem, bt_lcmp, bt_i2l, bt_l2i, bt_i2b, bt_pop, bt_dup, bt_dup2, bt_gfI, bt_gfJ, bt_gfR, bt_pfI, bt_pfZ, bt_pfJ, bt_pfR, bt_ial, bt_bal, bt_zal, bt_lal, bt_aal, bt_ias, bt_bas, bt_zas, bt_las, bt_len, bt_iret, bt_zret, bt_lret, bt_vret, bt_cV, bt_cS, bt_tab, bt_tsw, bt_lk, bt_lsw, bt_acp, bt_mmax, bt_mmin, bt_can, bt_icmpeq, bt_ifeq, bt_icmpne, bt_ifne, bt_icmplt, bt_iflt, bt_icmpge, bt_ifge, bt_icmpgt, bt_ifgt, bt_icmple, bt_ifle, bt_ret, bt_kill, bt_kl, bt_ix, bt_nl, bt_sm, bt_sr, bt_sig, bt_tg, bt_loc, bt_locs, List.getElem?_cons_zero, List.getElem?_cons_succ, List.set_cons_zero, List.set_cons_succ, List.map_cons, List.map_nil, List.take_succ_cons, List.take_zero, List.drop_succ_cons, List.drop_zero, List.reverse_cons, List.reverse_nil, List.nil_append, List.cons_append, List.append_nil, List.length_cons, List.length_nil, List.replicate_succ, List.replicate_zero, Option.toList_some, Option.toList_none, Nat.reduceAdd, Nat.reduceSub, Nat.reduceLeDiff, Nat.zero_add, Nat.zero_le, true_and, and_true, Int.toNat_natCast, Sum.inl.injEq, Sum.inr.injEq, ↓reduceIte, Nat.reduceEqDiff, bt_w_id]
    by_cases hc : e = 0
    · rw [if_pos (by omega)]
      exact hQ μ1 (fun g C h1 h2 => hI g C (by omega) h1 h2) hoth hfr
    · rw [if_neg (by omega)]
      refine ⟨(e - 1) * 100 + 99, by omega, e - 1, 0, μ1, rfl, hfr, hoth, by omega, Nat.zero_le _, rfl, ?_, fun g C h1 h2 h3 => hI g C (by omega) h2 h3, fun C hC => by omega⟩
      rw [show (e : Int) - 1 = ((e - 1 : Nat) : Int) by omega]
      rfl
  · rintro m st L w ⟨rfl, e, i, μ1, rfl, hfr, hoth, hI⟩
    simp only [↓reduceIte, Nat.reduceEqDiff] at hI
    obtain ⟨he, hi, rfl, rfl, hI, hJ⟩ := hI
    have hp := hpw e (by omega)
    have hp1 := hpw (e + 1) (by omega)
    have hps : 2 ^ (e + 1) = 2 ^ e * 2 := Nat.pow_succ 2 e
    simp (disch := omega) only [tX5_weighCrowds_53, bt_ild, bt_lld, bt_ald, bt_ist, bt_lst, bt_ast, bt_inc, bt_ic, bt_lc, bt_iadd, bt_isub, bt_imul, bt_iand, bt_ior, bt_ixor, bt_ishl, bt_ishr, bt_iushr, bt_ladd, bt_lsub, bt_lmul, bt_land, bt_lor, bt_lushr, bt_lshl, bt_idiv, bt_irem, bt_ldiv, bt_lrem, bt_lcmp, bt_i2l, bt_l2i, bt_i2b, bt_pop, bt_dup, bt_dup2, bt_gfI, bt_gfJ, bt_gfR, bt_pfI, bt_pfZ, bt_pfJ, bt_pfR, bt_ial, bt_bal, bt_zal, bt_lal, bt_aal, bt_ias, bt_bas, bt_zas, bt_las, bt_len, bt_iret, bt_zret, bt_lret, bt_vret, bt_cV, bt_cS, bt_tab, bt_tsw, bt_lk, bt_lsw, bt_acp, bt_mmax, bt_mmin, bt_can, bt_icmpeq, bt_ifeq, bt_icmpne, bt_ifne, bt_icmplt, bt_iflt, bt_icmpge, bt_ifge, bt_icmpgt, bt_ifgt, bt_icmple, bt_ifle, bt_ret, bt_kill, bt_kl, bt_ix, bt_nl, bt_sm, bt_sr, bt_sig, bt_tg, bt_loc, bt_locs, List.getElem?_cons_zero, List.getElem?_cons_succ, List.set_cons_zero, List.set_cons_succ, List.map_cons, List.map_nil, List.take_succ_cons, List.take_zero, List.drop_succ_cons, List.drop_zero, List.reverse_cons, List.reverse_nil, List.nil_append, List.cons_append, List.append_nil, List.length_cons, List.length_nil, List.replicate_succ, List.replicate_zero, Option.toList_some, Option.toList_none, Nat.reduceAdd, Nat.reduceSub, Nat.reduceLeDiff, Nat.zero_add, Nat.zero_le, true_and, and_true, Int.toNat_natCast, Sum.inl.injEq, Sum.inr.injEq, ↓reduceIte, Nat.reduceEqDiff, bo_shl1, sh_19, hρ 19 _ (by decide), rf_19_4, bt_w_id]
    by_cases hc : 2 ^ e ≤ i
    · rw [if_pos (by omega)]
      refine ⟨e * 100, by omega, e, 0, μ1, rfl, hfr, hoth, by omega, rfl, ?_, fun g C h1 h2 h3 => ?_⟩
      · rw [show (e : Int) + -1 = (e : Int) - 1 by omega]
      · by_cases eg : g = e
        · subst eg; exact hJ C (by omega)
        · exact hI g C (by omega) h2 h3
    · rw [if_neg (by omega)]
      have a1 := hI (e + 1) i (by omega) (by omega) (by omega)
      have a2 := hI (e + 1) (i + 2 ^ e) (by omega) (by omega) (by omega)
      have r1 := ab_mo_rg hZ hSt kind (nG ζ - (e + 1)) i (by omega) (by rw [show nG ζ - (nG ζ - (e + 1)) = e + 1 by omega]; omega)
      have r2 := ab_mo_rg hZ hSt kind (nG ζ - (e + 1)) (i + 2 ^ e) (by omega) (by rw [show nG ζ - (nG ζ - (e + 1)) = e + 1 by omega]; omega)
      have es : bo_ior (i : Int) (bo_ishl 1 (e : Int)) = ((i + 2 ^ e : Nat) : Int) := bo_setbit (by omega) (by omega)
      have es2 : bo_ior (i : Int) ((2 ^ e : Nat) : Int) = ((i + 2 ^ e : Nat) : Int) := by rw [← es, bo_shl1 (by omega)]
      have ee : (e : Int) + 1 = ((e + 1 : Nat) : Int) := rfl
      repeat (refine And.intro (by omega) ?_)
      rw [ee]
      refine ab_spot_call (by omega) hkd (by omega) ?_
      have hix : ab_ix5 (e + 1) kind i < 1792 ∧ ab_ix5 (e + 1) kind (i + 2 ^ e) < 1792 ∧ ab_ix5 e kind i < 1792 := by unfold ab_ix5; omega
      simp (disch := omega) only [bt_ild, bt_lld, bt_ald, bt_ist, bt_lst, bt_ast, bt_inc, bt_ic, bt_lc, bt_iadd, bt_isub, bt_imul, bt_iand, bt_ior, bt_ixor, bt_ishl, bt_ishr, bt_iushr, bt_ladd, bt_lsub, bt_lmul, bt_land, bt_lor, bt_lushr, bt_lshl, bt_idiv, bt_irem, bt_ldiv, bt_lrem, bt_lcmp, bt_i2l, bt_l2i, bt_i2b, bt_pop, bt_dup, bt_dup2, bt_gfI, bt_gfJ, bt_gfR, bt_pfI, bt_pfZ, bt_pfJ, bt_pfR, bt_ial, bt_bal, bt_zal, bt_lal, bt_aal, bt_ias, bt_bas, bt_zas, bt_las, bt_len, bt_iret, bt_zret, bt_lret, bt_vret, bt_cV, bt_cS, bt_tab, bt_tsw, bt_lk, bt_lsw, bt_acp, bt_mmax, bt_mmin, bt_can, bt_icmpeq, bt_ifeq, bt_icmpne, bt_ifne, bt_icmplt, bt_iflt, bt_icmpge, bt_ifge, bt_icmpgt, bt_ifgt, bt_icmple, bt_ifle, bt_ret, bt_kill, bt_kl, bt_ix, bt_nl, bt_sm, bt_sr, bt_sig, bt_tg, bt_loc, bt_locs, List.getElem?_cons_zero, List.getElem?_cons_succ, List.set_cons_zero, List.set_cons_succ, List.map_cons, List.map_nil, List.take_succ_cons, List.take_zero, List.drop_succ_cons, List.drop_zero, List.reverse_cons, List.reverse_nil, List.nil_append, List.cons_append, List.append_nil, List.length_cons, List.length_nil, List.replicate_succ, List.replicate_zero, Option.toList_some, Option.toList_none, Nat.reduceAdd, Nat.reduceSub, Nat.reduceLeDiff, Nat.zero_add, Nat.zero_le, true_and, and_true, Int.toNat_natCast, Sum.inl.injEq, Sum.inr.injEq, ↓reduceIte, Nat.reduceEqDiff, sh_35, sh_19, hρ 19 _ (by decide), rf_19_4, bt_w_id, bo_shl1, es2, a1]
      repeat (refine And.intro (by omega) ?_)
      first | rw [ee] | skip
      refine ab_spot_call (by omega) hkd (by omega) ?_
      simp (disch := omega) only [bt_ild, bt_lld, bt_ald, bt_ist, bt_lst, bt_ast, bt_inc, bt_ic, bt_lc, bt_iadd, bt_isub, bt_imul, bt_iand, bt_ior, bt_ixor, bt_ishl, bt_ishr, bt_iushr, bt_ladd, bt_lsub, bt_lmul, bt_land, bt_lor, bt_lushr, bt_lshl, bt_idiv, bt_irem, bt_ldiv, bt_lrem, bt_lcmp, bt_i2l, bt_l2i, bt_i2b, bt_pop, bt_dup, bt_dup2, bt_gfI, bt_gfJ, bt_gfR, bt_pfI, bt_pfZ, bt_pfJ, bt_pfR, bt_ial, bt_bal, bt_zal, bt_lal, bt_aal, bt_ias, bt_bas, bt_zas, bt_las, bt_len, bt_iret, bt_zret, bt_lret, bt_vret, bt_cV, bt_cS, bt_tab, bt_tsw, bt_lk, bt_lsw, bt_acp, bt_mmax, bt_mmin, bt_can, bt_icmpeq, bt_ifeq, bt_icmpne, bt_ifne, bt_icmplt, bt_iflt, bt_icmpge, bt_ifge, bt_icmpgt, bt_ifgt, bt_icmple, bt_ifle, bt_ret, bt_kill, bt_kl, bt_ix, bt_nl, bt_sm, bt_sr, bt_sig, bt_tg, bt_loc, bt_locs, List.getElem?_cons_zero, List.getElem?_cons_succ, List.set_cons_zero, List.set_cons_succ, List.map_cons, List.map_nil, List.take_succ_cons, List.take_zero, List.drop_succ_cons, List.drop_zero, List.reverse_cons, List.reverse_nil, List.nil_append, List.cons_append, List.append_nil, List.length_cons, List.length_nil, List.replicate_succ, List.replicate_zero, Option.toList_some, Option.toList_none, Nat.reduceAdd, Nat.reduceSub, Nat.reduceLeDiff, Nat.zero_add, Nat.zero_le, true_and, and_true, Int.toNat_natCast, Sum.inl.injEq, Sum.inr.injEq, ↓reduceIte, Nat.reduceEqDiff, sh_35, sh_19, hρ 19 _ (by decide), rf_19_4, bt_w_id, a2]
      repeat (refine And.intro (by omega) ?_)
      refine ab_spot_call (by omega) hkd (by omega) ?_
      have hmax : bo_max (ab_mo ζ σ kind (nG ζ - (e + 1)) i) (ab_mo ζ σ kind (nG ζ - (e + 1)) (i + 2 ^ e)) = ab_mo ζ σ kind (nG ζ - e) i := by
        unfold bo_max
        rw [bt_w_id (by omega) (by omega), bt_w_id (by omega) (by omega), show nG ζ - e = (nG ζ - (e + 1)) + 1 by omega]
        conv => rhs; unfold ab_mo
        rw [show nG ζ - (nG ζ - (e + 1) + 1) = e by omega]
      simp (disch := omega) only [bt_ild, bt_lld, bt_ald, bt_ist, bt_lst, bt_ast, bt_inc, bt_ic, bt_lc, bt_iadd, bt_isub, bt_imul, bt_iand, bt_ior, bt_ixor, bt_ishl, bt_ishr, bt_iushr, bt_ladd, bt_lsub, bt_lmul, bt_land, bt_lor, bt_lushr, bt_lshl, bt_idiv, bt_irem, bt_ldiv, bt_lrem, bt_lcmp, bt_i2l, bt_l2i, bt_i2b, bt_pop, bt_dup, bt_dup2, bt_gfI, bt_gfJ, bt_gfR, bt_pfI, bt_pfZ, bt_pfJ, bt_pfR, bt_ial, bt_bal, bt_zal, bt_lal, bt_aal, bt_ias, bt_bas, bt_zas, bt_las, bt_len, bt_iret, bt_zret, bt_lret, bt_vret, bt_cV, bt_cS, bt_tab, bt_tsw, bt_lk, bt_lsw, bt_acp, bt_mmax, bt_mmin, bt_can, bt_icmpeq, bt_ifeq, bt_icmpne, bt_ifne, bt_icmplt, bt_iflt, bt_icmpge, bt_ifge, bt_icmpgt, bt_ifgt, bt_icmple, bt_ifle, bt_ret, bt_kill, bt_kl, bt_ix, bt_nl, bt_sm, bt_sr, bt_sig, bt_tg, bt_loc, bt_locs, List.getElem?_cons_zero, List.getElem?_cons_succ, List.set_cons_zero, List.set_cons_succ, List.map_cons, List.map_nil, List.take_succ_cons, List.take_zero, List.drop_succ_cons, List.drop_zero, List.reverse_cons, List.reverse_nil, List.nil_append, List.cons_append, List.append_nil, List.length_cons, List.length_nil, List.replicate_succ, List.replicate_zero, Option.toList_some, Option.toList_none, Nat.reduceAdd, Nat.reduceSub, Nat.reduceLeDiff, Nat.zero_add, Nat.zero_le, true_and, and_true, Int.toNat_natCast, Sum.inl.injEq, Sum.inr.injEq, ↓reduceIte, Nat.reduceEqDiff, sh_35, bt_w_id, hmax]
      repeat (refine And.intro (by omega) ?_)
      refine ⟨e * 100 + (99 - (i + 1)), by omega, e, i + 1, _, rfl, fun a ha => by rw [bt_up_cell ha]; exact hfr a ha, fun g k C h1 h2 h3 => ?_, he, by omega, rfl, rfl, fun g C h1 h2 h3 => ?_, fun C hC => ?_⟩
      · rw [bt_up_ix (by unfold ab_ix5; omega)]; exact hoth g k C h1 h2 h3
      · have := hpw g h2
        rw [bt_up_ix (by unfold ab_ix5; omega)]; exact hI g C h1 h2 h3
      · by_cases eC : C = i
        · subst eC; rw [bt_up_same]
        · rw [bt_up_ix (by unfold ab_ix5; omega)]; exact hJ C (by omega)
