/-! Zoo.canGo, Zoo.cheer, Hour.obey, Hour.setsChoosing -/
def ab_in (ζ σ : Nat → Nat → Int) (p : Int) : Nat := bt_bn (fun i => decide (bt_w (σ 1 i) = bt_w p)) (nG ζ)
/-- a guest may go to p: he isn't there, and no foe of his is -/
def ab_can (ζ σ : Nat → Nat → Int) (g : Nat) (p : Int) : Bool := decide (bt_w (σ 1 g) ≠ bt_w p) && decide (ab_in ζ σ p &&& (ζ 7 g).toNat = 0)
theorem ab_can_iff {ζ σ : Nat → Nat → Int} {g : Nat} {p : Int} : ab_can ζ σ g p = true ↔ bt_w (σ 1 g) ≠ bt_w p ∧ ab_in ζ σ p &&& (ζ 7 g).toNat = 0 := by
  unfold ab_can
  rw [Bool.and_eq_true, decide_eq_true_iff, decide_eq_true_iff]
def SpX9_canGo : bt_Sp := fun As w Q => ∃ (ρ : Nat → Nat → Option Nat) (μ : Nat → Nat → Int) (z s g : Nat) (p : Int), As = [.inr (.inr z), .inr (.inr s), .inl (g : Int), .inl p] ∧ w = bt_wd ρ μ ∧ bt_Rf ρ ∧ z ∈ bt_zos ∧ s ∈ bt_sts ∧ ab_Z (bt_vw μ z) ∧ g < nG (bt_vw μ z) ∧ Q (some (.inl (if ab_can (bt_vw μ z) (bt_vw μ s) g p then 1 else 0))) w
set_option maxHeartbeats 4000000 in
theorem mtX9_canGo : bt_Met yX9_canGo cX9_canGo 4 (some .boolean) 2 [2, 2, 0, 0] SpX9_canGo := by
  refine bt_metW (lfX9_canGo mtX6_guestsIn (by decide)) (fun As w Q _ hS => ?_)
  obtain ⟨ρ, μ, z, s, g, p, rfl, rfl, hρ, hz, hs, hZ, hg, hQ⟩ := hS
  obtain ⟨b1, b2, b3, b4, b5, b6, b7, b8, b9⟩ := bt_st_f s hs
  obtain ⟨c1, c2, c3, c4, c5, c6, c7, c8, c9, c10, c11, c12, c13, c14, c15, c16, c17, c18, c19, c20, c21, c22, c23, c24, c25⟩ := bt_zo_f z hz
  have hG : nG (bt_vw μ z) ≤ 6 ∧ μ z 1 = (nG (bt_vw μ z) : Int) := by
    have := hZ.1
    simp only [bt_vw, nG, Nat.add_zero] at *
    omega
  have hf := (hZ.2.1 g hg).2
  have hf2 : μ (z + 7) g = ((μ (z + 7) g).toNat : Int) := by simp only [bt_vw] at hf; omega
  simp (disch := omega) only [tX9_canGo_0, tX9_canGo_33, tX9_canGo_34, bt_ild, bt_lld, bt_ald, bt_ist, bt_lst, bt_ast, bt_inc, bt_ic, bt_lc, bt_iadd, bt_isub, bt_imul, bt_iand, bt_ior, bt_ixor, bt_ishl, bt_ishr, bt_iushr, bt_ladd, bt_lsub, bt_lmul, bt_land, bt_lor, bt_lushr, bt_lshl, bt_idiv, bt_irem, bt_ldiv, bt_lrem, bt_lcmp, bt_i2l, bt_l2i, bt_i2b, bt_pop, bt_dup, bt_dup2, bt_gfI, bt_gfJ, bt_gfR, bt_pfI, bt_pfZ, bt_pfJ, bt_pfR, bt_ial, bt_bal, bt_zal, bt_lal, bt_aal, bt_ias, bt_bas, bt_zas, bt_las, bt_len, bt_iret, bt_zret, bt_lret, bt_vret, bt_cV, bt_cS, bt_tab, bt_tsw, bt_lk, bt_lsw, bt_acp, bt_mmax, bt_mmin, bt_can, bt_icmpeq, bt_ifeq, bt_icmpne, bt_ifne, bt_icmplt, bt_iflt, bt_icmpge, bt_ifge, bt_icmpgt, bt_ifgt, bt_icmple, bt_ifle, bt_ret, bt_kill, bt_kl, bt_ix, bt_nl, bt_sm, bt_sr, bt_sig, bt_tg, bt_loc, bt_locs, List.getElem?_cons_zero, List.getElem?_cons_succ, List.set_cons_zero, List.set_cons_succ, List.map_cons, List.map_nil, List.take_succ_cons, List.take_zero, List.drop_succ_cons, List.drop_zero, List.reverse_cons, List.reverse_nil, List.nil_append, List.cons_append, List.append_nil, List.length_cons, List.length_nil, List.replicate_succ, List.replicate_zero, Option.toList_some, Option.toList_none, Nat.reduceAdd, Nat.reduceSub, Nat.reduceLeDiff, Nat.zero_add, Nat.zero_le, true_and, and_true, Int.toNat_natCast, Sum.inl.injEq, Sum.inr.injEq, ↓reduceIte, Nat.reduceEqDiff, hρ s _ b2, b3, b4, b5, b6, b7, b8, b9, hρ z _ c2, c3, c4, c5, c6, c7, c8, c9, c10, c11, c12, c13, c14, c15, c16, c17, c18, c19, c20, c21, c22, c23, c24, bt_w_id]
  repeat (refine And.intro (by omega) ?_)
  by_cases h1 : bt_w (μ (s + 1) g) = bt_w p
  · rw [if_pos h1]
    have : ab_can (bt_vw μ z) (bt_vw μ s) g p = false := by simp [ab_can, bt_vw, h1]
    rw [this] at hQ
    exact ⟨by simp, hQ⟩
  · rw [if_neg h1]
    repeat (refine And.intro (by omega) ?_)
    refine ⟨ρ, μ, s, nG (bt_vw μ z), p, ?_, rfl, hρ, hs, hG.1, ?_⟩
    · rw [hG.2]
    simp (disch := omega) only [bt_ild, bt_lld, bt_ald, bt_ist, bt_lst, bt_ast, bt_inc, bt_ic, bt_lc, bt_iadd, bt_isub, bt_imul, bt_iand, bt_ior, bt_ixor, bt_ishl, bt_ishr, bt_iushr, bt_ladd, bt_lsub, bt_lmul, bt_land, bt_lor, bt_lushr, bt_lshl, bt_idiv, bt_irem, bt_ldiv, bt_lrem, bt_lcmp, bt_i2l, bt_l2i, bt_i2b, bt_pop, bt_dup, bt_dup2, bt_gfI, bt_gfJ, bt_gfR, bt_pfI, bt_pfZ, bt_pfJ, bt_pfR, bt_ial, bt_bal, bt_zal, bt_lal, bt_aal, bt_ias, bt_bas, bt_zas, bt_las, bt_len, bt_iret, bt_zret, bt_lret, bt_vret, bt_cV, bt_cS, bt_tab, bt_tsw, bt_lk, bt_lsw, bt_acp, bt_mmax, bt_mmin, bt_can, bt_icmpeq, bt_ifeq, bt_icmpne, bt_ifne, bt_icmplt, bt_iflt, bt_icmpge, bt_ifge, bt_icmpgt, bt_ifgt, bt_icmple, bt_ifle, bt_ret, bt_kill, bt_kl, bt_ix, bt_nl, bt_sm, bt_sr, bt_sig, bt_tg, bt_loc, bt_locs, List.getElem?_cons_zero, List.getElem?_cons_succ, List.set_cons_zero, List.set_cons_succ, List.map_cons, List.map_nil, List.take_succ_cons, List.take_zero, List.drop_succ_cons, List.drop_zero, List.reverse_cons, List.reverse_nil, List.nil_append, List.cons_append, List.append_nil, List.length_cons, List.length_nil, List.replicate_succ, List.replicate_zero, Option.toList_some, Option.toList_none, Nat.reduceAdd, Nat.reduceSub, Nat.reduceLeDiff, Nat.zero_add, Nat.zero_le, true_and, and_true, Int.toNat_natCast, Sum.inl.injEq, Sum.inr.injEq, ↓reduceIte, Nat.reduceEqDiff, hρ s _ b2, b3, b4, b5, b6, b7, b8, b9, hρ z _ c2, c3, c4, c5, c6, c7, c8, c9, c10, c11, c12, c13, c14, c15, c16, c17, c18, c19, c20, c21, c22, c23, c24, bt_w_id]
    repeat (refine And.intro (by omega) ?_)
    rw [hf2, bo_iand_nat (Or.inr (by simp only [bt_vw] at hf; omega))]
    have hle : (bt_bn (fun i => decide (bt_w (μ (s + 1) i) = bt_w p)) (nG (bt_vw μ z)) &&& (μ (z + 7) g).toNat) ≤ (μ (z + 7) g).toNat := Nat.and_le_right
    rw [bt_w_id (by omega) (by simp only [bt_vw] at hf; omega)]
    by_cases h2 : (bt_bn (fun i => decide (bt_w (μ (s + 1) i) = bt_w p)) (nG (bt_vw μ z)) &&& (μ (z + 7) g).toNat) = 0
    · have : ab_can (bt_vw μ z) (bt_vw μ s) g p = true := ab_can_iff.mpr ⟨h1, h2⟩
      rw [this] at hQ
      rw [if_pos (by omega)]
      exact ⟨by simp, hQ⟩
    · have : ab_can (bt_vw μ z) (bt_vw μ s) g p = false := Bool.eq_false_iff.mpr (fun hq => h2 (ab_can_iff.mp hq).2)
      rw [this] at hQ
      rw [if_neg (by omega)]
      exact ⟨by simp, hQ⟩
/-- the mood with a tyre -/
def ab_mt (ζ σ : Nat → Nat → Int) (g : Nat) : Int := bo_min 9 (σ 2 g + ζ 0 5)
def ab_ch (ζ σ : Nat → Nat → Int) (g : Nat) : Nat → Nat → Int := fun j k => if j = 2 ∧ k = g then ab_mt ζ σ g else σ j k
def SpX9_cheer : bt_Sp := fun As w Q => ∃ (ρ : Nat → Nat → Option Nat) (μ : Nat → Nat → Int) (z s g : Nat), As = [.inr (.inr z), .inr (.inr s), .inl (g : Int)] ∧ w = bt_wd ρ μ ∧ bt_Rf ρ ∧ z ∈ bt_zos ∧ s ∈ bt_sts ∧ g < 6 ∧ ∀ μ', (∀ j, j < 4 → μ' (s + j) = ab_ch (bt_vw μ z) (bt_vw μ s) g j) → bt_fr (bt_inS s) μ' μ → Q none (bt_wd ρ μ')
set_option maxHeartbeats 4000000 in
theorem mtX9_cheer : bt_Met yX9_cheer cX9_cheer 3 none 1 [2, 2, 0] SpX9_cheer := by
  refine bt_metW (lfX9_cheer (by decide)) (fun As w Q _ hS => ?_)
  obtain ⟨ρ, μ, z, s, g, rfl, rfl, hρ, hz, hs, hg, hQ⟩ := hS
  obtain ⟨b1, b2, b3, b4, b5, b6, b7, b8, b9⟩ := bt_st_f s hs
  obtain ⟨c1, c2, c3, c4, c5, c6, c7, c8, c9, c10, c11, c12, c13, c14, c15, c16, c17, c18, c19, c20, c21, c22, c23, c24, c25⟩ := bt_zo_f z hz
  simp (disch := omega) only [tX9_cheer_0, bt_ild, bt_lld, bt_ald, bt_ist, bt_lst, bt_ast, bt_inc, bt_ic, bt_lc, bt_iadd, bt_isub, bt_imul, bt_iand, bt_ior, bt_ixor, bt_ishl, bt_ishr, bt_iushr, bt_ladd, bt_lsub, bt_lmul, bt_land, bt_lor, bt_lushr, bt_lshl, bt_idiv, bt_irem, bt_ldiv, bt_lrem, bt_lcmp, bt_i2l, bt_l2i, bt_i2b, bt_pop, bt_dup, bt_dup2, bt_gfI, bt_gfJ, bt_gfR, bt_pfI, bt_pfZ, bt_pfJ, bt_pfR, bt_ial, bt_bal, bt_zal, bt_lal, bt_aal, bt_ias, bt_bas, bt_zas, bt_las, bt_len, bt_iret, bt_zret, bt_lret, bt_vret, bt_cV, bt_cS, bt_tab, bt_tsw, bt_lk, bt_lsw, bt_acp, bt_mmax, bt_mmin, bt_can, bt_icmpeq, bt_ifeq, bt_icmpne, bt_ifne, bt_icmplt, bt_iflt, bt_icmpge, bt_ifge, bt_icmpgt, bt_ifgt, bt_icmple, bt_ifle, bt_ret, bt_kill, bt_kl, bt_ix, bt_nl, bt_sm, bt_sr, bt_sig, bt_tg, bt_loc, bt_locs, List.getElem?_cons_zero, List.getElem?_cons_succ, List.set_cons_zero, List.set_cons_succ, List.map_cons, List.map_nil, List.take_succ_cons, List.take_zero, List.drop_succ_cons, List.drop_zero, List.reverse_cons, List.reverse_nil, List.nil_append, List.cons_append, List.append_nil, List.length_cons, List.length_nil, List.replicate_succ, List.replicate_zero, Option.toList_some, Option.toList_none, Nat.reduceAdd, Nat.reduceSub, Nat.reduceLeDiff, Nat.zero_add, Nat.zero_le, true_and, and_true, Int.toNat_natCast, Sum.inl.injEq, Sum.inr.injEq, ↓reduceIte, Nat.reduceEqDiff, hρ s _ b2, b3, b4, b5, b6, b7, b8, b9, hρ z _ c2, c3, c4, c5, c6, c7, c8, c9, c10, c11, c12, c13, c14, c15, c16, c17, c18, c19, c20, c21, c22, c23, c24, bt_w_id]
  repeat (refine And.intro (by omega) ?_)
  refine hQ _ (fun j hj => ?_) (fun a ha => ?_)
  · funext k
    unfold ab_ch ab_mt
    simp only [bt_vw, Nat.add_zero]
    grind [bt_up]
  · unfold bt_inS at ha
    rw [bt_up_cell (by omega)]
/-- a line of the days: a move of g to p, a tyre for g, an hour -/
def ab_mv (σ : Nat → Nat → Int) (g p : Nat) : Nat → Nat → Int := fun j k => if j = 1 ∧ k = g then (p : Int) else σ j k
def ab_ty (ζ σ : Nat → Nat → Int) (g : Nat) : Nat → Nat → Int := fun j k => if j = 0 ∧ k = 1 then σ 0 1 - ζ 0 6 else ab_ch ζ σ g j k
def ab_ok (ζ σ : Nat → Nat → Int) (v g p : Nat) : Bool := if v = 0 then decide (g < nG ζ) && decide (p < nP ζ) && ab_can ζ σ g p else if v = 1 then decide (g < nG ζ) && decide (¬ bt_w (σ 0 1) < bt_w (ζ 0 6)) else true
def ab_ob (ζ σ : Nat → Nat → Int) (v g p : Nat) : Nat → Nat → Int := if ab_ok ζ σ v g p then (if v = 0 then ab_mv σ g p else if v = 1 then ab_ty ζ σ g else ab_ps ζ σ 1) else σ
def SpX1_obey : bt_Sp := fun As w Q => ∃ (ρ : Nat → Nat → Option Nat) (μ : Nat → Nat → Int) (h z s v g p : Nat), As = [.inr (.inr h), .inr (.inr z), .inr (.inr s), .inl ((v + 4 * g + 32 * p : Nat) : Int)] ∧ w = bt_wd ρ μ ∧ bt_Rf ρ ∧ h ∈ bt_hos ∧ z ∈ bt_zos ∧ s ∈ bt_sts ∧ v < 3 ∧ g < 8 ∧ p < 8 ∧ ab_Z (bt_vw μ z) ∧ ab_S (bt_vw μ z) (bt_vw μ s) ∧ ∀ μ', (∀ j, j < 4 → μ' (s + j) = ab_ob (bt_vw μ z) (bt_vw μ s) v g p j) → bt_fr (fun a => (h ≤ a ∧ a ≤ h + 8) ∨ (s ≤ a ∧ a ≤ s + 3)) μ' μ → Q (some (.inl (if ab_ok (bt_vw μ z) (bt_vw μ s) v g p then 1 else 0))) (bt_wd ρ μ')
set_option maxHeartbeats 4000000 in
theorem mtX1_obey : bt_Met yX1_obey cX1_obey 6 (some .boolean) 5 [2, 2, 2, 0] SpX1_obey := by
  refine bt_metW (lfX1_obey mtX9_cheer (by decide) mtX9_canGo (by decide) mtX1_pass (by decide)) (fun As w Q _ hS => ?_)
  obtain ⟨ρ, μ, h, z, s, v, g, p, rfl, rfl, hρ, hh, hz, hs, hv, hg, hp, hZ, hSt, hQ⟩ := hS
  obtain ⟨a1, a2, a3, a4, a5, a6, a7, a8, a9, a10, a11, a12, a13, a14, a15, a16, a17, a18, a19⟩ := bt_ho_f h hh
  obtain ⟨b1, b2, b3, b4, b5, b6, b7, b8, b9⟩ := bt_st_f s hs
  obtain ⟨c1, c2, c3, c4, c5, c6, c7, c8, c9, c10, c11, c12, c13, c14, c15, c16, c17, c18, c19, c20, c21, c22, c23, c24, c25⟩ := bt_zo_f z hz
  have d3 := bt_st_zo s hs z hz
  have hG : nG (bt_vw μ z) ≤ 6 ∧ μ z 1 = (nG (bt_vw μ z) : Int) ∧ nP (bt_vw μ z) ≤ 6 ∧ μ z 0 = (nP (bt_vw μ z) : Int) := by
    have := hZ.1
    simp only [bt_vw, nG, nP, Nat.add_zero] at *
    omega
  have x1 : bo_iand (bo_ishr ((v + 4 * g + 32 * p : Nat) : Int) 2) 7 = (g : Int) := by
    rw [show (2 : Int) = ((2 : Nat) : Int) from rfl, bo_ishr_nat (by omega) (by omega), show (7 : Int) = ((7 : Nat) : Int) from rfl, bo_iand_nat (Or.inr (by omega)), show (7 : Nat) = 2 ^ 3 - 1 from rfl, Nat.and_two_pow_sub_one_eq_mod]
    omega
  have x2 : bo_iand (bo_ishr ((v + 4 * g + 32 * p : Nat) : Int) 5) 7 = (p : Int) := by
    rw [show (5 : Int) = ((5 : Nat) : Int) from rfl, bo_ishr_nat (by omega) (by omega), show (7 : Int) = ((7 : Nat) : Int) from rfl, bo_iand_nat (Or.inr (by omega)), show (7 : Nat) = 2 ^ 3 - 1 from rfl, Nat.and_two_pow_sub_one_eq_mod]
    omega
  have x3 : bo_iand ((v + 4 * g + 32 * p : Nat) : Int) 3 = (v : Int) := by
    rw [show (3 : Int) = ((3 : Nat) : Int) from rfl, bo_iand_nat (Or.inr (by omega)), show (3 : Nat) = 2 ^ 2 - 1 from rfl, Nat.and_two_pow_sub_one_eq_mod]
    omega
  simp (disch := omega) only [tX1_obey_0, tX1_obey_74, tX1_obey_107, bt_ild, bt_lld, bt_ald, bt_ist, bt_lst, bt_ast, bt_inc, bt_ic, bt_lc, bt_iadd, bt_isub, bt_imul, bt_iand, bt_ior, bt_ixor, bt_ishl, bt_ishr, bt_iushr, bt_ladd, bt_lsub, bt_lmul, bt_land, bt_lor, bt_lushr, bt_lshl, bt_idiv, bt_irem, bt_ldiv, bt_lrem, bt_lcmp, bt_i2l, bt_l2i, bt_i2b, bt_pop, bt_dup, bt_dup2, bt_gfI, bt_gfJ, bt_gfR, bt_pfI, bt_pfZ, bt_pfJ, bt_pfR, bt_ial, bt_bal, bt_zal, bt_lal, bt_aal, bt_ias, bt_bas, bt_zas, bt_las, bt_len, bt_iret, bt_zret, bt_lret, bt_vret, bt_cV, bt_cS, bt_tab, bt_tsw, bt_lk, bt_lsw, bt_acp, bt_mmax, bt_mmin, bt_can, bt_icmpeq, bt_ifeq, bt_icmpne, bt_ifne, bt_icmplt, bt_iflt, bt_icmpge, bt_ifge, bt_icmpgt, bt_ifgt, bt_icmple, bt_ifle, bt_ret, bt_kill, bt_kl, bt_ix, bt_nl, bt_sm, bt_sr, bt_sig, bt_tg, bt_loc, bt_locs, List.getElem?_cons_zero, List.getElem?_cons_succ, List.set_cons_zero, List.set_cons_succ, List.map_cons, List.map_nil, List.take_succ_cons, List.take_zero, List.drop_succ_cons, List.drop_zero, List.reverse_cons, List.reverse_nil, List.nil_append, List.cons_append, List.append_nil, List.length_cons, List.length_nil, List.replicate_succ, List.replicate_zero, Option.toList_some, Option.toList_none, Nat.reduceAdd, Nat.reduceSub, Nat.reduceLeDiff, Nat.zero_add, Nat.zero_le, true_and, and_true, Int.toNat_natCast, Sum.inl.injEq, Sum.inr.injEq, ↓reduceIte, Nat.reduceEqDiff, x1, x2, x3, hρ h _ a2, a3, a4, a5, a6, a7, a8, a9, a10, a11, a12, a13, a14, a15, a16, a17, a18, a19, hρ s _ b2, b3, b4, b5, b6, b7, b8, b9, hρ z _ c2, c3, c4, c5, c6, c7, c8, c9, c10, c11, c12, c13, c14, c15, c16, c17, c18, c19, c20, c21, c22, c23, c24, hG.2.1, hG.2.2.2, bt_w_id]
  have hsame : ab_ok (bt_vw μ z) (bt_vw μ s) v g p = false → Q (some (.inl 0)) (bt_wd ρ μ) := by
    intro h0
    have := hQ μ (fun j hj => by unfold ab_ob; rw [h0]; rfl) (fun a _ => rfl)
    rw [h0] at this
    exact this
  have hdone : ∀ μ', ab_ok (bt_vw μ z) (bt_vw μ s) v g p = true → (∀ j, j < 4 → μ' (s + j) = (if v = 0 then ab_mv (bt_vw μ s) g p else if v = 1 then ab_ty (bt_vw μ z) (bt_vw μ s) g else ab_ps (bt_vw μ z) (bt_vw μ s) 1) j) → bt_fr (fun a => (h ≤ a ∧ a ≤ h + 8) ∨ (s ≤ a ∧ a ≤ s + 3)) μ' μ → Q (some (.inl 1)) (bt_wd ρ μ') := by
    intro μ' h0 h1 h2
    have := hQ μ' (fun j hj => by unfold ab_ob; rw [h0]; exact h1 j hj) h2
    rw [h0] at this
    exact this
  have hv3 : v = 0 ∨ v = 1 ∨ v = 2 := by omega
  rcases hv3 with rfl | rfl | rfl
  · rw [if_pos (by decide)]
    repeat (refine And.intro (by omega) ?_)
    by_cases h1 : nG (bt_vw μ z) ≤ g
    · rw [if_pos (by omega)]
      exact ⟨Or.inl trivial, hsame (by simp [ab_ok]; omega)⟩
    · rw [if_neg (by omega)]
      repeat (refine And.intro (by omega) ?_)
      by_cases h2 : nP (bt_vw μ z) ≤ p
      · rw [if_pos (by omega)]
        exact ⟨Or.inl trivial, hsame (by simp [ab_ok]; omega)⟩
      · rw [if_neg (by omega)]
        refine ⟨by omega, ρ, μ, z, s, g, p, rfl, rfl, hρ, hz, hs, hZ, by omega, ?_⟩
        by_cases h3 : ab_can (bt_vw μ z) (bt_vw μ s) g p
        · simp (disch := omega) only [h3, bt_ild, bt_lld, bt_ald, bt_ist, bt_lst, bt_ast, bt_inc, bt_ic, bt_lc, bt_iadd, bt_isub, bt_imul, bt_iand, bt_ior, bt_ixor, bt_ishl, bt_ishr, bt_iushr, bt_ladd, bt_lsub, bt_lmul, bt_land, bt_lor, bt_lushr, bt_lshl, bt_idiv, bt_irem, bt_ldiv, bt_lrem, bt_lcmp, bt_i2l, bt_l2i, bt_i2b, bt_pop, bt_dup, bt_dup2, bt_gfI, bt_gfJ, bt_gfR, bt_pfI, bt_pfZ, bt_pfJ, bt_pfR, bt_ial, bt_bal, bt_zal, bt_lal, bt_aal, bt_ias, bt_bas, bt_zas, bt_las, bt_len, bt_iret, bt_zret, bt_lret, bt_vret, bt_cV, bt_cS, bt_tab, bt_tsw, bt_lk, bt_lsw, bt_acp, bt_mmax, bt_mmin, bt_can, bt_icmpeq, bt_ifeq, bt_icmpne, bt_ifne, bt_icmplt, bt_iflt, bt_icmpge, bt_ifge, bt_icmpgt, bt_ifgt, bt_icmple, bt_ifle, bt_ret, bt_kill, bt_kl, bt_ix, bt_nl, bt_sm, bt_sr, bt_sig, bt_tg, bt_loc, bt_locs, List.getElem?_cons_zero, List.getElem?_cons_succ, List.set_cons_zero, List.set_cons_succ, List.map_cons, List.map_nil, List.take_succ_cons, List.take_zero, List.drop_succ_cons, List.drop_zero, List.reverse_cons, List.reverse_nil, List.nil_append, List.cons_append, List.append_nil, List.length_cons, List.length_nil, List.replicate_succ, List.replicate_zero, Option.toList_some, Option.toList_none, Nat.reduceAdd, Nat.reduceSub, Nat.reduceLeDiff, Nat.zero_add, Nat.zero_le, true_and, and_true, Int.toNat_natCast, Sum.inl.injEq, Sum.inr.injEq, ↓reduceIte, Nat.reduceEqDiff, hρ s _ b2, b3, b4, b5, b6, b7, b8, b9, bt_w_id]
          repeat (refine And.intro (by omega) ?_)
          refine ⟨by simp, hdone _ (by simp [ab_ok, h3]; omega) (fun j hj => ?_) (fun a ha => ?_)⟩
          · funext k
            simp only [↓reduceIte, ab_mv, bt_vw]
            grind [bt_up]
          · rw [bt_up_cell (by omega)]
        · simp (disch := omega) only [h3, bt_ild, bt_lld, bt_ald, bt_ist, bt_lst, bt_ast, bt_inc, bt_ic, bt_lc, bt_iadd, bt_isub, bt_imul, bt_iand, bt_ior, bt_ixor, bt_ishl, bt_ishr, bt_iushr, bt_ladd, bt_lsub, bt_lmul, bt_land, bt_lor, bt_lushr, bt_lshl, bt_idiv, bt_irem, bt_ldiv, bt_lrem, bt_lcmp, bt_i2l, bt_l2i, bt_i2b, bt_pop, bt_dup, bt_dup2, bt_gfI, bt_gfJ, bt_gfR, bt_pfI, bt_pfZ, bt_pfJ, bt_pfR, bt_ial, bt_bal, bt_zal, bt_lal, bt_aal, bt_ias, bt_bas, bt_zas, bt_las, bt_len, bt_iret, bt_zret, bt_lret, bt_vret, bt_cV, bt_cS, bt_tab, bt_tsw, bt_lk, bt_lsw, bt_acp, bt_mmax, bt_mmin, bt_can, bt_icmpeq, bt_ifeq, bt_icmpne, bt_ifne, bt_icmplt, bt_iflt, bt_icmpge, bt_ifge, bt_icmpgt, bt_ifgt, bt_icmple, bt_ifle, bt_ret, bt_kill, bt_kl, bt_ix, bt_nl, bt_sm, bt_sr, bt_sig, bt_tg, bt_loc, bt_locs, List.getElem?_cons_zero, List.getElem?_cons_succ, List.set_cons_zero, List.set_cons_succ, List.map_cons, List.map_nil, List.take_succ_cons, List.take_zero, List.drop_succ_cons, List.drop_zero, List.reverse_cons, List.reverse_nil, List.nil_append, List.cons_append, List.append_nil, List.length_cons, List.length_nil, List.replicate_succ, List.replicate_zero, Option.toList_some, Option.toList_none, Nat.reduceAdd, Nat.reduceSub, Nat.reduceLeDiff, Nat.zero_add, Nat.zero_le, true_and, and_true, Int.toNat_natCast, Sum.inl.injEq, Sum.inr.injEq, ↓reduceIte, Nat.reduceEqDiff, hρ s _ b2, b3, b4, b5, b6, b7, b8, b9, bt_w_id]
          exact ⟨by simp, hsame (by simp [ab_ok, h3])⟩
  · rw [if_neg (by decide), if_pos (by decide)]
    repeat (refine And.intro (by omega) ?_)
    by_cases h1 : nG (bt_vw μ z) ≤ g
    · rw [if_pos (by omega)]
      exact ⟨Or.inl trivial, hsame (by simp [ab_ok]; omega)⟩
    · rw [if_neg (by omega)]
      repeat (refine And.intro (by omega) ?_)
      by_cases h2 : bt_w (μ z 6) ≤ bt_w (μ s 1)
      · rw [if_pos h2]
        refine ⟨by omega, ρ, μ, z, s, g, rfl, rfl, hρ, hz, hs, by omega, fun μ' hj hf => ?_⟩
        simp (disch := omega) only [bt_ild, bt_lld, bt_ald, bt_ist, bt_lst, bt_ast, bt_inc, bt_ic, bt_lc, bt_iadd, bt_isub, bt_imul, bt_iand, bt_ior, bt_ixor, bt_ishl, bt_ishr, bt_iushr, bt_ladd, bt_lsub, bt_lmul, bt_land, bt_lor, bt_lushr, bt_lshl, bt_idiv, bt_irem, bt_ldiv, bt_lrem, bt_lcmp, bt_i2l, bt_l2i, bt_i2b, bt_pop, bt_dup, bt_dup2, bt_gfI, bt_gfJ, bt_gfR, bt_pfI, bt_pfZ, bt_pfJ, bt_pfR, bt_ial, bt_bal, bt_zal, bt_lal, bt_aal, bt_ias, bt_bas, bt_zas, bt_las, bt_len, bt_iret, bt_zret, bt_lret, bt_vret, bt_cV, bt_cS, bt_tab, bt_tsw, bt_lk, bt_lsw, bt_acp, bt_mmax, bt_mmin, bt_can, bt_icmpeq, bt_ifeq, bt_icmpne, bt_ifne, bt_icmplt, bt_iflt, bt_icmpge, bt_ifge, bt_icmpgt, bt_ifgt, bt_icmple, bt_ifle, bt_ret, bt_kill, bt_kl, bt_ix, bt_nl, bt_sm, bt_sr, bt_sig, bt_tg, bt_loc, bt_locs, List.getElem?_cons_zero, List.getElem?_cons_succ, List.set_cons_zero, List.set_cons_succ, List.map_cons, List.map_nil, List.take_succ_cons, List.take_zero, List.drop_succ_cons, List.drop_zero, List.reverse_cons, List.reverse_nil, List.nil_append, List.cons_append, List.append_nil, List.length_cons, List.length_nil, List.replicate_succ, List.replicate_zero, Option.toList_some, Option.toList_none, Nat.reduceAdd, Nat.reduceSub, Nat.reduceLeDiff, Nat.zero_add, Nat.zero_le, true_and, and_true, Int.toNat_natCast, Sum.inl.injEq, Sum.inr.injEq, ↓reduceIte, Nat.reduceEqDiff, hρ s _ b2, b3, b4, b5, b6, b7, b8, b9, hρ z _ c2, c3, c4, c5, c6, c7, c8, c9, c10, c11, c12, c13, c14, c15, c16, c17, c18, c19, c20, c21, c22, c23, c24, bt_w_id]
        repeat (refine And.intro (by omega) ?_)
        have q1 : ¬ bt_w (bt_vw μ s 0 1) < bt_w (bt_vw μ z 0 6) := by simp only [bt_vw, Nat.add_zero]; omega
        refine ⟨by simp, hdone _ (by simp [ab_ok, q1]; omega) (fun j hj2 => ?_) (fun a ha => ?_)⟩
        · funext k
          have r1 := congrFun (hj j hj2) k
          have r2 := congrFun (hj 0 (by omega)) 1
          have r3 : μ' z = μ z := hf z (by unfold bt_inS; omega)
          simp only [Nat.add_zero] at r2
          by_cases ej : j = 0
          · subst ej
            simp only [Nat.add_zero] at r1 ⊢
            simp only [Nat.reduceEqDiff, ↓reduceIte, ab_ty, ab_ch, bt_vw, Nat.add_zero] at r1 r2 ⊢
            rw [r3]
            grind [bt_up]
          · rw [bt_up_cell (by omega), r1]
            simp [ab_ty, ej]
        · rw [bt_up_cell (by omega)]
          exact hf a (by unfold bt_inS; omega)
      · rw [if_neg h2]
        have q1 : bt_w (bt_vw μ s 0 1) < bt_w (bt_vw μ z 0 6) := by simp only [bt_vw, Nat.add_zero]; omega
        exact ⟨Or.inl trivial, hsame (by simp [ab_ok, q1])⟩
  · rw [if_neg (by decide), if_neg (by decide)]
    refine ⟨by omega, ρ, μ, h, z, s, 1, rfl, rfl, hρ, hh, hz, hs, Or.inr rfl, hZ, hSt, fun μ' hj ht hf => ?_⟩
    simp (disch := omega) only [bt_ild, bt_lld, bt_ald, bt_ist, bt_lst, bt_ast, bt_inc, bt_ic, bt_lc, bt_iadd, bt_isub, bt_imul, bt_iand, bt_ior, bt_ixor, bt_ishl, bt_ishr, bt_iushr, bt_ladd, bt_lsub, bt_lmul, bt_land, bt_lor, bt_lushr, bt_lshl, bt_idiv, bt_irem, bt_ldiv, bt_lrem, bt_lcmp, bt_i2l, bt_l2i, bt_i2b, bt_pop, bt_dup, bt_dup2, bt_gfI, bt_gfJ, bt_gfR, bt_pfI, bt_pfZ, bt_pfJ, bt_pfR, bt_ial, bt_bal, bt_zal, bt_lal, bt_aal, bt_ias, bt_bas, bt_zas, bt_las, bt_len, bt_iret, bt_zret, bt_lret, bt_vret, bt_cV, bt_cS, bt_tab, bt_tsw, bt_lk, bt_lsw, bt_acp, bt_mmax, bt_mmin, bt_can, bt_icmpeq, bt_ifeq, bt_icmpne, bt_ifne, bt_icmplt, bt_iflt, bt_icmpge, bt_ifge, bt_icmpgt, bt_ifgt, bt_icmple, bt_ifle, bt_ret, bt_kill, bt_kl, bt_ix, bt_nl, bt_sm, bt_sr, bt_sig, bt_tg, bt_loc, bt_locs, List.getElem?_cons_zero, List.getElem?_cons_succ, List.set_cons_zero, List.set_cons_succ, List.map_cons, List.map_nil, List.take_succ_cons, List.take_zero, List.drop_succ_cons, List.drop_zero, List.reverse_cons, List.reverse_nil, List.nil_append, List.cons_append, List.append_nil, List.length_cons, List.length_nil, List.replicate_succ, List.replicate_zero, Option.toList_some, Option.toList_none, Nat.reduceAdd, Nat.reduceSub, Nat.reduceLeDiff, Nat.zero_add, Nat.zero_le, true_and, and_true, Int.toNat_natCast, Sum.inl.injEq, Sum.inr.injEq, ↓reduceIte, Nat.reduceEqDiff]
    exact ⟨by simp, hdone _ (by simp [ab_ok]) hj hf⟩
