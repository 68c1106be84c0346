/-! Reader: numbers, kinds, names -/
def rz_po (nm : Nat → Int) (x : Int) : Nat → Nat → Int
  | 0, _ => -1
  | k + 1, i => if nm i = x then (i : Int) else rz_po nm x k (i + 1)
theorem rz_po_rg (nm : Nat → Int) (x : Int) : ∀ k i, -1 ≤ rz_po nm x k i ∧ rz_po nm x k i < ((i + k : Nat) : Int) ∧ (rz_po nm x k i = -1 ∨ (i : Int) ≤ rz_po nm x k i)
  | 0, i => by unfold rz_po; omega
  | k + 1, i => by
    have := rz_po_rg nm x k (i + 1)
    unfold rz_po
    split <;> omega
def rz_ix (nm : Nat → Int) (x : Int) (k : Nat) : Int := rz_po nm x k 0
theorem rz_ix_rg (nm : Nat → Int) (x : Int) (k : Nat) : -1 ≤ rz_ix nm x k ∧ rz_ix nm x k < (k : Int) := by
  have := rz_po_rg nm x k 0
  unfold rz_ix
  omega
def rz_ns (nm : Nat → Int) (k : Nat) : Prop := ∀ i, i < k → 0 ≤ nm i ∧ nm i < 282429536481
def SpX3_placeOf : bt_Sp := fun As w Q => ∃ (ρ : Nat → Nat → Option Nat) (μ : Nat → Nat → Int) (t : Nat → Int) (n c m k : Nat), As = [.inr (.inr 4), .inr (.inr m), .inl (k : Int)] ∧ w = bt_wd ρ μ ∧ bt_Rf ρ ∧ bt_Tp μ t n ∧ bt_Tc μ t n c ∧ tk_k t n c = 1 ∧ m < 262 ∧ (bt_sh0 m).1 = 14 ∧ k ≤ (bt_sh0 m).2 ∧ k ≤ 6 ∧ rz_ns (μ m) k ∧ Q (some (.inl (rz_ix (μ m) (tk_x t n c) k))) w
theorem bt_sh_sm : ∀ m, m < 262 → (bt_sh0 m).2 < 2147483648 := by decide +kernel
def iX3_placeOf (ρ : Nat → Nat → Option Nat) (μ : Nat → Nat → Int) (m k : Nat) (x : Int) (_h q : Nat) : bt_K := fun st L w => st = [] ∧ ∃ i : Nat, w = bt_wd ρ μ ∧ i ≤ k ∧ q = k - i ∧ L = [some (.inr (.inr 4)), some (.inr (.inr m)), some (.inl (k : Int)), some (.inl (i : Int))] ∧ rz_po (μ m) x (k - i) i = rz_ix (μ m) x k
set_option maxHeartbeats 4000000 in
theorem mtX3_placeOf : bt_Met yX3_placeOf cX3_placeOf 4 (some .int) 1 [2, 2, 0] SpX3_placeOf := by
  refine lpX3_placeOf _ (fun As w Q _ hS => ?_)
  obtain ⟨ρ, μ, t, n, c, m, k, rfl, rfl, hρ, hp, hc, hk1, hm, hm1, hm2, hk, hns, hQ⟩ := hS
  refine ⟨iX3_placeOf ρ μ m k (tk_x t n c), ?_, ?_⟩
  · simp (disch := omega) only [tX3_placeOf_0, bt_ild, bt_lld, bt_ald, bt_ist, bt_lst, bt_ast, bt_inc, bt_ic, bt_lc, bt_iadd, bt_isub, bt_imul, bt_iand, bt_ior, bt_ixor, bt_ishl, bt_ishr, bt_iushr, bt_ladd, bt_lsub, bt_lmul, bt_land, bt_lor, bt_lushr, bt_lshl, bt_idiv, bt_irem, bt_ldiv, bt_lrem, bt_lcmp, bt_i2l, bt_l2i, bt_i2b, bt_pop, bt_dup, bt_dup2, bt_gfI, bt_gfJ, bt_gfR, bt_pfI, bt_pfZ, bt_pfJ, bt_pfR, bt_ial, bt_bal, bt_zal, bt_lal, bt_aal, bt_ias, bt_bas, bt_zas, bt_las, bt_len, bt_iret, bt_zret, bt_lret, bt_vret, bt_cV, bt_cS, bt_tab, bt_tsw, bt_lk, bt_lsw, bt_acp, bt_mmax, bt_mmin, bt_can, bt_icmpeq, bt_ifeq, bt_icmpne, bt_ifne, bt_icmplt, bt_iflt, bt_icmpge, bt_ifge, bt_icmpgt, bt_ifgt, bt_icmple, bt_ifle, bt_ret, bt_kill, bt_kl, bt_ix, bt_nl, bt_sm, bt_sr, bt_sig, bt_tg, bt_loc, bt_locs, List.getElem?_cons_zero, List.getElem?_cons_succ, List.set_cons_zero, List.set_cons_succ, List.map_cons, List.map_nil, List.take_succ_cons, List.take_zero, List.drop_succ_cons, List.drop_zero, List.reverse_cons, List.reverse_nil, List.nil_append, List.cons_append, List.append_nil, List.length_cons, List.length_nil, List.replicate_succ, List.replicate_zero, Option.toList_some, Option.toList_none, Nat.reduceAdd, Nat.reduceSub, Nat.reduceLeDiff, Nat.zero_add, Nat.zero_le, true_and, and_true, Int.toNat_natCast, Sum.inl.injEq, Sum.inr.injEq, ↓reduceIte, Nat.reduceEqDiff]
    exact ⟨k, rfl, 0, rfl, by omega, by omega, rfl, rfl⟩
  · rintro q st L w ⟨rfl, i, rfl, hi, rfl, rfl, hI⟩
    have hxr := tk_x_rg hk1 (fun h => (hp.2.2.2.1 c h).1)
    have h7 : μ 1 7 = tk_x t n c := (hc.2.2.2.2.2.1 hk1).1
    simp (disch := omega) only [tX3_placeOf_2, tX3_placeOf_35, bt_ild, bt_lld, bt_ald, bt_ist, bt_lst, bt_ast, bt_inc, bt_ic, bt_lc, bt_iadd, bt_isub, bt_imul, bt_iand, bt_ior, bt_ixor, bt_ishl, bt_ishr, bt_iushr, bt_ladd, bt_lsub, bt_lmul, bt_land, bt_lor, bt_lushr, bt_lshl, bt_idiv, bt_irem, bt_ldiv, bt_lrem, bt_lcmp, bt_i2l, bt_l2i, bt_i2b, bt_pop, bt_dup, bt_dup2, bt_gfI, bt_gfJ, bt_gfR, bt_pfI, bt_pfZ, bt_pfJ, bt_pfR, bt_ial, bt_bal, bt_zal, bt_lal, bt_aal, bt_ias, bt_bas, bt_zas, bt_las, bt_len, bt_iret, bt_zret, bt_lret, bt_vret, bt_cV, bt_cS, bt_tab, bt_tsw, bt_lk, bt_lsw, bt_acp, bt_mmax, bt_mmin, bt_can, bt_icmpeq, bt_ifeq, bt_icmpne, bt_ifne, bt_icmplt, bt_iflt, bt_icmpge, bt_ifge, bt_icmpgt, bt_ifgt, bt_icmple, bt_ifle, bt_ret, bt_kill, bt_kl, bt_ix, bt_nl, bt_sm, bt_sr, bt_sig, bt_tg, bt_loc, bt_locs, List.getElem?_cons_zero, List.getElem?_cons_succ, List.set_cons_zero, List.set_cons_succ, List.map_cons, List.map_nil, List.take_succ_cons, List.take_zero, List.drop_succ_cons, List.drop_zero, List.reverse_cons, List.reverse_nil, List.nil_append, List.cons_append, List.append_nil, List.length_cons, List.length_nil, List.replicate_succ, List.replicate_zero, Option.toList_some, Option.toList_none, Nat.reduceAdd, Nat.reduceSub, Nat.reduceLeDiff, Nat.zero_add, Nat.zero_le, true_and, and_true, Int.toNat_natCast, Sum.inl.injEq, Sum.inr.injEq, ↓reduceIte, Nat.reduceEqDiff, sh_4, sh_1, hρ 4 _ (by decide), rf_4_0, h7, hm1, bt_w_id]
    by_cases hc2 : k ≤ i
    · rw [if_pos (by omega)]
      rw [← hI, show k - i = 0 by omega] at hQ
      exact hQ
    · rw [if_neg (by omega)]
      generalize hL : (bt_sh0 m).2 = ln at *
      by_cases hbig : ln < 2147483648
      · simp (disch := omega) only [bt_w_id]
        refine ⟨by omega, ?_⟩
        rw [if_neg (by omega)]
        refine ⟨by omega, by decide, by decide, ?_⟩
        have hn := hns i (by omega)
        have e1 : bt_wl (μ m i) = μ m i := bt_wl_id (by omega) (by omega)
        have e2 : bt_wl (tk_x t n c) = tk_x t n c := bt_wl_id (by omega) (by omega)
        have hst : rz_po (μ m) (tk_x t n c) (k - i) i = if μ m i = tk_x t n c then (i : Int) else rz_po (μ m) (tk_x t n c) (k - (i + 1)) (i + 1) := by
          rw [show k - i = (k - (i + 1)) + 1 by omega]; rfl
        by_cases hq : μ m i = tk_x t n c
        · rw [if_pos (by rw [bo_lcmp0, e1, e2]; exact hq)]
          rw [← hI, hst, if_pos hq] at hQ
          exact hQ
        · rw [if_neg (by rw [bo_lcmp0, e1, e2]; exact hq)]
          exact ⟨k - (i + 1), by omega, rfl, i + 1, rfl, by omega, rfl, rfl, by rw [← hI, hst, if_neg hq]⟩
      · exfalso
        have := bt_sh_sm m hm
        omega
/-- the faults of a number, a kind, a new name, a told name -/
def rz_nu (t : Nat → Int) (n lo hi c : Nat) : Int := if tk_k t n c = 2 then (if tk_v t n c < lo ∨ hi < tk_v t n c then 4 + 16 * (c : Int) else 0) else 1 + 16 * (c : Int)
def rz_ki (t : Nat → Int) (n c : Nat) : Int := if 18 ≤ tk_w t n c ∧ tk_w t n c < 22 then 0 else 1 + 16 * (c : Int)
def rz_nm (t : Nat → Int) (n c : Nat) : Bool := decide (tk_w t n c = -1 ∨ 25 ≤ tk_w t n c)
def rz_nn (t : Nat → Int) (n : Nat) (ζ : Nat → Nat → Int) (c : Nat) : Int := if rz_nm t n c then (if rz_ix (ζ 1) (tk_x t n c) (nP ζ) = -1 ∧ rz_ix (ζ 2) (tk_x t n c) (nG ζ) = -1 ∧ rz_ix (ζ 3) (tk_x t n c) (nA ζ) = -1 then 0 else 3 + 16 * (c : Int)) else 1 + 16 * (c : Int)
def rz_to (t : Nat → Int) (n : Nat) (nm : Nat → Int) (k c : Nat) : Int := if rz_nm t n c then (if rz_ix nm (tk_x t n c) k = -1 then 2 + 16 * (c : Int) else 0) else 1 + 16 * (c : Int)
def rz_pw (t : Nat → Int) (n k c : Nat) : Int := if tk_w t n c = (k : Int) then 0 else 1 + 16 * (c : Int)
theorem rz_nm_k {t : Nat → Int} {n c : Nat} (h : rz_nm t n c = true) : tk_k t n c = 1 := by
  unfold rz_nm tk_w at h
  by_cases hk : tk_k t n c = 1
  · exact hk
  · rw [if_neg hk] at h; simp at h
def SpX3_passNumber : bt_Sp := fun As w Q => ∃ (ρ : Nat → Nat → Option Nat) (μ : Nat → Nat → Int) (t : Nat → Int) (n c lo hi : Nat), As = [.inr (.inr 4), .inl (lo : Int), .inl (hi : Int)] ∧ w = bt_wd ρ μ ∧ bt_Rf ρ ∧ bt_Tp μ t n ∧ bt_Tc μ t n c ∧ lo < 10000 ∧ hi < 10000 ∧ ∀ μ', (if rz_nu t n lo hi c = 0 then bt_Go μ' μ t n (tk_nx t n c) ∧ μ' 4 4 = tk_v t n c ∧ (∀ k, k ≠ 4 → μ' 4 k = μ 4 k) else μ' 1 3 = rz_nu t n lo hi c) → bt_fr (fun a => a = 1 ∨ a = 4) μ' μ → Q (some (.inl (if rz_nu t n lo hi c = 0 then 1 else 0))) (bt_wd ρ μ')
set_option maxHeartbeats 4000000 in
theorem mtX3_passNumber : bt_Met yX3_passNumber cX3_passNumber 3 (some .boolean) 4 [2, 0, 0] SpX3_passNumber := by
  refine bt_metW (lfX3_passNumber mtX7_fail (by decide) mtX7_step (by decide)) (fun As w Q _ hS => ?_)
  obtain ⟨ρ, μ, t, n, c, lo, hi, rfl, rfl, hρ, hp, hc, hlo, hhi, hQ⟩ := hS
  have hkr := tk_k_rg (t := t) (n := n) (c := c) (fun h => hp.2.2.2.1 c h)
  have fl : ∀ f : Int, rz_nu t n lo hi c = f + 16 * (c : Int) → 0 < f → Q (some (.inl 0)) (bt_wd ρ (bt_up μ 1 3 (f + 16 * (c : Int)))) := fun f hf h0 => by
    have := hQ (bt_up μ 1 3 (f + 16 * (c : Int)))
    rw [hf, if_neg (by omega), if_neg (by omega)] at this
    exact this (bt_up_same _ _ _ _) (fun a ha => bt_up_cell (by omega))
  simp (disch := omega) only [tX3_passNumber_0, tX3_passNumber_42, bt_ild, bt_lld, bt_ald, bt_ist, bt_lst, bt_ast, bt_inc, bt_ic, bt_lc, bt_iadd, bt_isub, bt_imul, bt_iand, bt_ior, bt_ixor, bt_ishl, bt_ishr, bt_iushr, bt_ladd, bt_lsub, bt_lmul, bt_land, bt_lor, bt_lushr, bt_lshl, bt_idiv, bt_irem, bt_ldiv, bt_lrem, bt_lcmp, bt_i2l, bt_l2i, bt_i2b, bt_pop, bt_dup, bt_dup2, bt_gfI, bt_gfJ, bt_gfR, bt_pfI, bt_pfZ, bt_pfJ, bt_pfR, bt_ial, bt_bal, bt_zal, bt_lal, bt_aal, bt_ias, bt_bas, bt_zas, bt_las, bt_len, bt_iret, bt_zret, bt_lret, bt_vret, bt_cV, bt_cS, bt_tab, bt_tsw, bt_lk, bt_lsw, bt_acp, bt_mmax, bt_mmin, bt_can, bt_icmpeq, bt_ifeq, bt_icmpne, bt_ifne, bt_icmplt, bt_iflt, bt_icmpge, bt_ifge, bt_icmpgt, bt_ifgt, bt_icmple, bt_ifle, bt_ret, bt_kill, bt_kl, bt_ix, bt_nl, bt_sm, bt_sr, bt_sig, bt_tg, bt_loc, bt_locs, List.getElem?_cons_zero, List.getElem?_cons_succ, List.set_cons_zero, List.set_cons_succ, List.map_cons, List.map_nil, List.take_succ_cons, List.take_zero, List.drop_succ_cons, List.drop_zero, List.reverse_cons, List.reverse_nil, List.nil_append, List.cons_append, List.append_nil, List.length_cons, List.length_nil, List.replicate_succ, List.replicate_zero, Option.toList_some, Option.toList_none, Nat.reduceAdd, Nat.reduceSub, Nat.reduceLeDiff, Nat.zero_add, Nat.zero_le, true_and, and_true, Int.toNat_natCast, Sum.inl.injEq, Sum.inr.injEq, ↓reduceIte, Nat.reduceEqDiff, sh_4, sh_1, hρ 4 _ (by decide), rf_4_0, hc.2.2.2.2.1, bt_w_id]
  refine ⟨by decide, by decide, ?_⟩
  by_cases hk : tk_k t n c = 2
  · rw [if_pos hk]
    have h9 : μ 1 9 = tk_v t n c := hc.2.2.2.2.2.2 hk
    have hvr := tk_v_rg hk (fun h => (hp.2.2.2.1 c h).1)
    simp (disch := omega) only [h9, bt_w_id]
    refine ⟨by decide, by decide, ?_⟩
    by_cases h1 : tk_v t n c < lo
    · rw [if_pos h1]
      refine ⟨by decide, by decide, tk_fail_call hc.2.2.1 ?_⟩
      simp (disch := omega) only [bt_ild, bt_lld, bt_ald, bt_ist, bt_lst, bt_ast, bt_inc, bt_ic, bt_lc, bt_iadd, bt_isub, bt_imul, bt_iand, bt_ior, bt_ixor, bt_ishl, bt_ishr, bt_iushr, bt_ladd, bt_lsub, bt_lmul, bt_land, bt_lor, bt_lushr, bt_lshl, bt_idiv, bt_irem, bt_ldiv, bt_lrem, bt_lcmp, bt_i2l, bt_l2i, bt_i2b, bt_pop, bt_dup, bt_dup2, bt_gfI, bt_gfJ, bt_gfR, bt_pfI, bt_pfZ, bt_pfJ, bt_pfR, bt_ial, bt_bal, bt_zal, bt_lal, bt_aal, bt_ias, bt_bas, bt_zas, bt_las, bt_len, bt_iret, bt_zret, bt_lret, bt_vret, bt_cV, bt_cS, bt_tab, bt_tsw, bt_lk, bt_lsw, bt_acp, bt_mmax, bt_mmin, bt_can, bt_icmpeq, bt_ifeq, bt_icmpne, bt_ifne, bt_icmplt, bt_iflt, bt_icmpge, bt_ifge, bt_icmpgt, bt_ifgt, bt_icmple, bt_ifle, bt_ret, bt_kill, bt_kl, bt_ix, bt_nl, bt_sm, bt_sr, bt_sig, bt_tg, bt_loc, bt_locs, List.getElem?_cons_zero, List.getElem?_cons_succ, List.set_cons_zero, List.set_cons_succ, List.map_cons, List.map_nil, List.take_succ_cons, List.take_zero, List.drop_succ_cons, List.drop_zero, List.reverse_cons, List.reverse_nil, List.nil_append, List.cons_append, List.append_nil, List.length_cons, List.length_nil, List.replicate_succ, List.replicate_zero, Option.toList_some, Option.toList_none, Nat.reduceAdd, Nat.reduceSub, Nat.reduceLeDiff, Nat.zero_add, Nat.zero_le, true_and, and_true, Int.toNat_natCast, Sum.inl.injEq, Sum.inr.injEq, ↓reduceIte, Nat.reduceEqDiff]
      exact ⟨by simp, fl 4 (by unfold rz_nu; rw [if_pos hk, if_pos (Or.inl h1)]) (by decide)⟩
    · rw [if_neg h1]
      refine ⟨by decide, by decide, ?_⟩
      by_cases h2 : hi < tk_v t n c
      · rw [if_neg (by omega)]
        refine ⟨by decide, by decide, tk_fail_call hc.2.2.1 ?_⟩
        simp (disch := omega) only [bt_ild, bt_lld, bt_ald, bt_ist, bt_lst, bt_ast, bt_inc, bt_ic, bt_lc, bt_iadd, bt_isub, bt_imul, bt_iand, bt_ior, bt_ixor, bt_ishl, bt_ishr, bt_iushr, bt_ladd, bt_lsub, bt_lmul, bt_land, bt_lor, bt_lushr, bt_lshl, bt_idiv, bt_irem, bt_ldiv, bt_lrem, bt_lcmp, bt_i2l, bt_l2i, bt_i2b, bt_pop, bt_dup, bt_dup2, bt_gfI, bt_gfJ, bt_gfR, bt_pfI, bt_pfZ, bt_pfJ, bt_pfR, bt_ial, bt_bal, bt_zal, bt_lal, bt_aal, bt_ias, bt_bas, bt_zas, bt_las, bt_len, bt_iret, bt_zret, bt_lret, bt_vret, bt_cV, bt_cS, bt_tab, bt_tsw, bt_lk, bt_lsw, bt_acp, bt_mmax, bt_mmin, bt_can, bt_icmpeq, bt_ifeq, bt_icmpne, bt_ifne, bt_icmplt, bt_iflt, bt_icmpge, bt_ifge, bt_icmpgt, bt_ifgt, bt_icmple, bt_ifle, bt_ret, bt_kill, bt_kl, bt_ix, bt_nl, bt_sm, bt_sr, bt_sig, bt_tg, bt_loc, bt_locs, List.getElem?_cons_zero, List.getElem?_cons_succ, List.set_cons_zero, List.set_cons_succ, List.map_cons, List.map_nil, List.take_succ_cons, List.take_zero, List.drop_succ_cons, List.drop_zero, List.reverse_cons, List.reverse_nil, List.nil_append, List.cons_append, List.append_nil, List.length_cons, List.length_nil, List.replicate_succ, List.replicate_zero, Option.toList_some, Option.toList_none, Nat.reduceAdd, Nat.reduceSub, Nat.reduceLeDiff, Nat.zero_add, Nat.zero_le, true_and, and_true, Int.toNat_natCast, Sum.inl.injEq, Sum.inr.injEq, ↓reduceIte, Nat.reduceEqDiff]
        exact ⟨by simp, fl 4 (by unfold rz_nu; rw [if_pos hk, if_pos (Or.inr h2)]) (by decide)⟩
      · rw [if_pos (by omega)]
        have hf : rz_nu t n lo hi c = 0 := by unfold rz_nu; rw [if_pos hk, if_neg (by omega)]
        rw [hf] at hQ
        have hG0 : bt_Go (bt_up μ 4 4 (tk_v t n c)) μ t n c := bt_Go.fr (μ := μ) ⟨hp, hc, rfl⟩ (bt_up_cell (by decide)) (bt_up_cell (by decide)) (bt_up_cell (by decide))
        refine ⟨by decide, by decide, by decide, by decide, by decide, tk_step_call hρ hG0.1 hG0.2.1 (fun μ2 g1 g2 => ?_)⟩
        simp (disch := omega) only [bt_ild, bt_lld, bt_ald, bt_ist, bt_lst, bt_ast, bt_inc, bt_ic, bt_lc, bt_iadd, bt_isub, bt_imul, bt_iand, bt_ior, bt_ixor, bt_ishl, bt_ishr, bt_iushr, bt_ladd, bt_lsub, bt_lmul, bt_land, bt_lor, bt_lushr, bt_lshl, bt_idiv, bt_irem, bt_ldiv, bt_lrem, bt_lcmp, bt_i2l, bt_l2i, bt_i2b, bt_pop, bt_dup, bt_dup2, bt_gfI, bt_gfJ, bt_gfR, bt_pfI, bt_pfZ, bt_pfJ, bt_pfR, bt_ial, bt_bal, bt_zal, bt_lal, bt_aal, bt_ias, bt_bas, bt_zas, bt_las, bt_len, bt_iret, bt_zret, bt_lret, bt_vret, bt_cV, bt_cS, bt_tab, bt_tsw, bt_lk, bt_lsw, bt_acp, bt_mmax, bt_mmin, bt_can, bt_icmpeq, bt_ifeq, bt_icmpne, bt_ifne, bt_icmplt, bt_iflt, bt_icmpge, bt_ifge, bt_icmpgt, bt_ifgt, bt_icmple, bt_ifle, bt_ret, bt_kill, bt_kl, bt_ix, bt_nl, bt_sm, bt_sr, bt_sig, bt_tg, bt_loc, bt_locs, List.getElem?_cons_zero, List.getElem?_cons_succ, List.set_cons_zero, List.set_cons_succ, List.map_cons, List.map_nil, List.take_succ_cons, List.take_zero, List.drop_succ_cons, List.drop_zero, List.reverse_cons, List.reverse_nil, List.nil_append, List.cons_append, List.append_nil, List.length_cons, List.length_nil, List.replicate_succ, List.replicate_zero, Option.toList_some, Option.toList_none, Nat.reduceAdd, Nat.reduceSub, Nat.reduceLeDiff, Nat.zero_add, Nat.zero_le, true_and, and_true, Int.toNat_natCast, Sum.inl.injEq, Sum.inr.injEq, ↓reduceIte, Nat.reduceEqDiff]
        have e4 : μ2 4 = bt_up μ 4 4 (tk_v t n c) 4 := g2 4 (by decide)
        exact ⟨by simp, hQ μ2 ⟨g1.tr hG0, by rw [e4, bt_up_same], fun k hk => by rw [e4, bt_up_ix hk]⟩ (fun a ha => by rw [g2 a (by omega), bt_up_cell (by omega)])⟩
  · rw [if_neg hk]
    refine ⟨by decide, by decide, tk_fail_call hc.2.2.1 ?_⟩
    simp (disch := omega) only [bt_ild, bt_lld, bt_ald, bt_ist, bt_lst, bt_ast, bt_inc, bt_ic, bt_lc, bt_iadd, bt_isub, bt_imul, bt_iand, bt_ior, bt_ixor, bt_ishl, bt_ishr, bt_iushr, bt_ladd, bt_lsub, bt_lmul, bt_land, bt_lor, bt_lushr, bt_lshl, bt_idiv, bt_irem, bt_ldiv, bt_lrem, bt_lcmp, bt_i2l, bt_l2i, bt_i2b, bt_pop, bt_dup, bt_dup2, bt_gfI, bt_gfJ, bt_gfR, bt_pfI, bt_pfZ, bt_pfJ, bt_pfR, bt_ial, bt_bal, bt_zal, bt_lal, bt_aal, bt_ias, bt_bas, bt_zas, bt_las, bt_len, bt_iret, bt_zret, bt_lret, bt_vret, bt_cV, bt_cS, bt_tab, bt_tsw, bt_lk, bt_lsw, bt_acp, bt_mmax, bt_mmin, bt_can, bt_icmpeq, bt_ifeq, bt_icmpne, bt_ifne, bt_icmplt, bt_iflt, bt_icmpge, bt_ifge, bt_icmpgt, bt_ifgt, bt_icmple, bt_ifle, bt_ret, bt_kill, bt_kl, bt_ix, bt_nl, bt_sm, bt_sr, bt_sig, bt_tg, bt_loc, bt_locs, List.getElem?_cons_zero, List.getElem?_cons_succ, List.set_cons_zero, List.set_cons_succ, List.map_cons, List.map_nil, List.take_succ_cons, List.take_zero, List.drop_succ_cons, List.drop_zero, List.reverse_cons, List.reverse_nil, List.nil_append, List.cons_append, List.append_nil, List.length_cons, List.length_nil, List.replicate_succ, List.replicate_zero, Option.toList_some, Option.toList_none, Nat.reduceAdd, Nat.reduceSub, Nat.reduceLeDiff, Nat.zero_add, Nat.zero_le, true_and, and_true, Int.toNat_natCast, Sum.inl.injEq, Sum.inr.injEq, ↓reduceIte, Nat.reduceEqDiff]
    exact ⟨by simp, fl 1 (by unfold rz_nu; rw [if_neg hk]) (by decide)⟩
def SpX3_passKind : bt_Sp := fun As w Q => ∃ (ρ : Nat → Nat → Option Nat) (μ : Nat → Nat → Int) (t : Nat → Int) (n c : Nat), As = [.inr (.inr 4)] ∧ w = bt_wd ρ μ ∧ bt_Rf ρ ∧ bt_Tp μ t n ∧ bt_Tc μ t n c ∧ ∀ μ', (if rz_ki t n c = 0 then bt_Go μ' μ t n (tk_nx t n c) ∧ μ' 4 6 = tk_w t n c - 18 ∧ (∀ k, k ≠ 6 → μ' 4 k = μ 4 k) else μ' 1 3 = rz_ki t n c) → bt_fr (fun a => a = 1 ∨ a = 4) μ' μ → Q (some (.inl (if rz_ki t n c = 0 then 1 else 0))) (bt_wd ρ μ')
set_option maxHeartbeats 4000000 in
theorem mtX3_passKind : bt_Met yX3_passKind cX3_passKind 1 (some .boolean) 4 [2] SpX3_passKind := by
  refine bt_metW (lfX3_passKind mtX7_fail (by decide) mtX7_step (by decide)) (fun As w Q _ hS => ?_)
  obtain ⟨ρ, μ, t, n, c, rfl, rfl, hρ, hp, hc, hQ⟩ := hS
  have hkr := tk_k_rg (t := t) (n := n) (c := c) (fun h => hp.2.2.2.1 c h)
  have fl : rz_ki t n c = 1 + 16 * (c : Int) → Q (some (.inl 0)) (bt_wd ρ (bt_up μ 1 3 (1 + 16 * (c : Int)))) := fun hf => by
    have := hQ (bt_up μ 1 3 (1 + 16 * (c : Int)))
    rw [hf, if_neg (by omega), if_neg (by omega)] at this
    exact this (bt_up_same _ _ _ _) (fun a ha => bt_up_cell (by omega))
  simp (disch := omega) only [tX3_passKind_0, tX3_passKind_35, bt_ild, bt_lld, bt_ald, bt_ist, bt_lst, bt_ast, bt_inc, bt_ic, bt_lc, bt_iadd, bt_isub, bt_imul, bt_iand, bt_ior, bt_ixor, bt_ishl, bt_ishr, bt_iushr, bt_ladd, bt_lsub, bt_lmul, bt_land, bt_lor, bt_lushr, bt_lshl, bt_idiv, bt_irem, bt_ldiv, bt_lrem, bt_lcmp, bt_i2l, bt_l2i, bt_i2b, bt_pop, bt_dup, bt_dup2, bt_gfI, bt_gfJ, bt_gfR, bt_pfI, bt_pfZ, bt_pfJ, bt_pfR, bt_ial, bt_bal, bt_zal, bt_lal, bt_aal, bt_ias, bt_bas, bt_zas, bt_las, bt_len, bt_iret, bt_zret, bt_lret, bt_vret, bt_cV, bt_cS, bt_tab, bt_tsw, bt_lk, bt_lsw, bt_acp, bt_mmax, bt_mmin, bt_can, bt_icmpeq, bt_ifeq, bt_icmpne, bt_ifne, bt_icmplt, bt_iflt, bt_icmpge, bt_ifge, bt_icmpgt, bt_ifgt, bt_icmple, bt_ifle, bt_ret, bt_kill, bt_kl, bt_ix, bt_nl, bt_sm, bt_sr, bt_sig, bt_tg, bt_loc, bt_locs, List.getElem?_cons_zero, List.getElem?_cons_succ, List.set_cons_zero, List.set_cons_succ, List.map_cons, List.map_nil, List.take_succ_cons, List.take_zero, List.drop_succ_cons, List.drop_zero, List.reverse_cons, List.reverse_nil, List.nil_append, List.cons_append, List.append_nil, List.length_cons, List.length_nil, List.replicate_succ, List.replicate_zero, Option.toList_some, Option.toList_none, Nat.reduceAdd, Nat.reduceSub, Nat.reduceLeDiff, Nat.zero_add, Nat.zero_le, true_and, and_true, Int.toNat_natCast, Sum.inl.injEq, Sum.inr.injEq, ↓reduceIte, Nat.reduceEqDiff, sh_4, sh_1, hρ 4 _ (by decide), rf_4_0, hc.2.2.2.2.1, bt_w_id]
  refine ⟨by decide, by decide, ?_⟩
  by_cases hk : tk_k t n c = 1
  · rw [if_pos hk]
    have hw8 : μ 1 8 = tk_w t n c := by unfold tk_w; rw [if_pos hk]; exact (hc.2.2.2.2.2.1 hk).2
    have hwr := tk_w_rg t n c
    simp (disch := omega) only [hw8, bt_w_id]
    refine ⟨by decide, by decide, ?_⟩
    by_cases h1 : tk_w t n c < 18
    · rw [if_pos h1]
      refine ⟨by decide, by decide, tk_fail_call hc.2.2.1 ?_⟩
      simp (disch := omega) only [bt_ild, bt_lld, bt_ald, bt_ist, bt_lst, bt_ast, bt_inc, bt_ic, bt_lc, bt_iadd, bt_isub, bt_imul, bt_iand, bt_ior, bt_ixor, bt_ishl, bt_ishr, bt_iushr, bt_ladd, bt_lsub, bt_lmul, bt_land, bt_lor, bt_lushr, bt_lshl, bt_idiv, bt_irem, bt_ldiv, bt_lrem, bt_lcmp, bt_i2l, bt_l2i, bt_i2b, bt_pop, bt_dup, bt_dup2, bt_gfI, bt_gfJ, bt_gfR, bt_pfI, bt_pfZ, bt_pfJ, bt_pfR, bt_ial, bt_bal, bt_zal, bt_lal, bt_aal, bt_ias, bt_bas, bt_zas, bt_las, bt_len, bt_iret, bt_zret, bt_lret, bt_vret, bt_cV, bt_cS, bt_tab, bt_tsw, bt_lk, bt_lsw, bt_acp, bt_mmax, bt_mmin, bt_can, bt_icmpeq, bt_ifeq, bt_icmpne, bt_ifne, bt_icmplt, bt_iflt, bt_icmpge, bt_ifge, bt_icmpgt, bt_ifgt, bt_icmple, bt_ifle, bt_ret, bt_kill, bt_kl, bt_ix, bt_nl, bt_sm, bt_sr, bt_sig, bt_tg, bt_loc, bt_locs, List.getElem?_cons_zero, List.getElem?_cons_succ, List.set_cons_zero, List.set_cons_succ, List.map_cons, List.map_nil, List.take_succ_cons, List.take_zero, List.drop_succ_cons, List.drop_zero, List.reverse_cons, List.reverse_nil, List.nil_append, List.cons_append, List.append_nil, List.length_cons, List.length_nil, List.replicate_succ, List.replicate_zero, Option.toList_some, Option.toList_none, Nat.reduceAdd, Nat.reduceSub, Nat.reduceLeDiff, Nat.zero_add, Nat.zero_le, true_and, and_true, Int.toNat_natCast, Sum.inl.injEq, Sum.inr.injEq, ↓reduceIte, Nat.reduceEqDiff]
      exact ⟨by simp, fl (by unfold rz_ki; rw [if_neg (by omega)])⟩
    · rw [if_neg h1]
      refine ⟨by decide, by decide, ?_⟩
      by_cases h2 : tk_w t n c < 22
      · rw [if_pos h2]
        have hf : rz_ki t n c = 0 := by unfold rz_ki; rw [if_pos (by omega)]
        rw [hf] at hQ
        have hG0 : bt_Go (bt_up μ 4 6 (tk_w t n c - 18)) μ t n c := bt_Go.fr (μ := μ) ⟨hp, hc, rfl⟩ (bt_up_cell (by decide)) (bt_up_cell (by decide)) (bt_up_cell (by decide))
        refine ⟨by decide, by decide, by decide, by decide, by decide, tk_step_call hρ hG0.1 hG0.2.1 (fun μ2 g1 g2 => ?_)⟩
        simp (disch := omega) only [bt_ild, bt_lld, bt_ald, bt_ist, bt_lst, bt_ast, bt_inc, bt_ic, bt_lc, bt_iadd, bt_isub, bt_imul, bt_iand, bt_ior, bt_ixor, bt_ishl, bt_ishr, bt_iushr, bt_ladd, bt_lsub, bt_lmul, bt_land, bt_lor, bt_lushr, bt_lshl, bt_idiv, bt_irem, bt_ldiv, bt_lrem, bt_lcmp, bt_i2l, bt_l2i, bt_i2b, bt_pop, bt_dup, bt_dup2, bt_gfI, bt_gfJ, bt_gfR, bt_pfI, bt_pfZ, bt_pfJ, bt_pfR, bt_ial, bt_bal, bt_zal, bt_lal, bt_aal, bt_ias, bt_bas, bt_zas, bt_las, bt_len, bt_iret, bt_zret, bt_lret, bt_vret, bt_cV, bt_cS, bt_tab, bt_tsw, bt_lk, bt_lsw, bt_acp, bt_mmax, bt_mmin, bt_can, bt_icmpeq, bt_ifeq, bt_icmpne, bt_ifne, bt_icmplt, bt_iflt, bt_icmpge, bt_ifge, bt_icmpgt, bt_ifgt, bt_icmple, bt_ifle, bt_ret, bt_kill, bt_kl, bt_ix, bt_nl, bt_sm, bt_sr, bt_sig, bt_tg, bt_loc, bt_locs, List.getElem?_cons_zero, List.getElem?_cons_succ, List.set_cons_zero, List.set_cons_succ, List.map_cons, List.map_nil, List.take_succ_cons, List.take_zero, List.drop_succ_cons, List.drop_zero, List.reverse_cons, List.reverse_nil, List.nil_append, List.cons_append, List.append_nil, List.length_cons, List.length_nil, List.replicate_succ, List.replicate_zero, Option.toList_some, Option.toList_none, Nat.reduceAdd, Nat.reduceSub, Nat.reduceLeDiff, Nat.zero_add, Nat.zero_le, true_and, and_true, Int.toNat_natCast, Sum.inl.injEq, Sum.inr.injEq, ↓reduceIte, Nat.reduceEqDiff]
        have e4 : μ2 4 = bt_up μ 4 6 (tk_w t n c - 18) 4 := g2 4 (by decide)
        exact ⟨by simp, hQ μ2 ⟨g1.tr hG0, by rw [e4, bt_up_same], fun k hk => by rw [e4, bt_up_ix hk]⟩ (fun a ha => by rw [g2 a (by omega), bt_up_cell (by omega)])⟩
      · rw [if_neg h2]
        refine ⟨by decide, by decide, tk_fail_call hc.2.2.1 ?_⟩
        simp (disch := omega) only [bt_ild, bt_lld, bt_ald, bt_ist, bt_lst, bt_ast, bt_inc, bt_ic, bt_lc, bt_iadd, bt_isub, bt_imul, bt_iand, bt_ior, bt_ixor, bt_ishl, bt_ishr, bt_iushr, bt_ladd, bt_lsub, bt_lmul, bt_land, bt_lor, bt_lushr, bt_lshl, bt_idiv, bt_irem, bt_ldiv, bt_lrem, bt_lcmp, bt_i2l, bt_l2i, bt_i2b, bt_pop, bt_dup, bt_dup2, bt_gfI, bt_gfJ, bt_gfR, bt_pfI, bt_pfZ, bt_pfJ, bt_pfR, bt_ial, bt_bal, bt_zal, bt_lal, bt_aal, bt_ias, bt_bas, bt_zas, bt_las, bt_len, bt_iret, bt_zret, bt_lret, bt_vret, bt_cV, bt_cS, bt_tab, bt_tsw, bt_lk, bt_lsw, bt_acp, bt_mmax, bt_mmin, bt_can, bt_icmpeq, bt_ifeq, bt_icmpne, bt_ifne, bt_icmplt, bt_iflt, bt_icmpge, bt_ifge, bt_icmpgt, bt_ifgt, bt_icmple, bt_ifle, bt_ret, bt_kill, bt_kl, bt_ix, bt_nl, bt_sm, bt_sr, bt_sig, bt_tg, bt_loc, bt_locs, List.getElem?_cons_zero, List.getElem?_cons_succ, List.set_cons_zero, List.set_cons_succ, List.map_cons, List.map_nil, List.take_succ_cons, List.take_zero, List.drop_succ_cons, List.drop_zero, List.reverse_cons, List.reverse_nil, List.nil_append, List.cons_append, List.append_nil, List.length_cons, List.length_nil, List.replicate_succ, List.replicate_zero, Option.toList_some, Option.toList_none, Nat.reduceAdd, Nat.reduceSub, Nat.reduceLeDiff, Nat.zero_add, Nat.zero_le, true_and, and_true, Int.toNat_natCast, Sum.inl.injEq, Sum.inr.injEq, ↓reduceIte, Nat.reduceEqDiff]
        exact ⟨by simp, fl (by unfold rz_ki; rw [if_neg (by omega)])⟩
  · rw [if_neg hk]
    refine ⟨by decide, by decide, tk_fail_call hc.2.2.1 ?_⟩
    simp (disch := omega) only [bt_ild, bt_lld, bt_ald, bt_ist, bt_lst, bt_ast, bt_inc, bt_ic, bt_lc, bt_iadd, bt_isub, bt_imul, bt_iand, bt_ior, bt_ixor, bt_ishl, bt_ishr, bt_iushr, bt_ladd, bt_lsub, bt_lmul, bt_land, bt_lor, bt_lushr, bt_lshl, bt_idiv, bt_irem, bt_ldiv, bt_lrem, bt_lcmp, bt_i2l, bt_l2i, bt_i2b, bt_pop, bt_dup, bt_dup2, bt_gfI, bt_gfJ, bt_gfR, bt_pfI, bt_pfZ, bt_pfJ, bt_pfR, bt_ial, bt_bal, bt_zal, bt_lal, bt_aal, bt_ias, bt_bas, bt_zas, bt_las, bt_len, bt_iret, bt_zret, bt_lret, bt_vret, bt_cV, bt_cS, bt_tab, bt_tsw, bt_lk, bt_lsw, bt_acp, bt_mmax, bt_mmin, bt_can, bt_icmpeq, bt_ifeq, bt_icmpne, bt_ifne, bt_icmplt, bt_iflt, bt_icmpge, bt_ifge, bt_icmpgt, bt_ifgt, bt_icmple, bt_ifle, bt_ret, bt_kill, bt_kl, bt_ix, bt_nl, bt_sm, bt_sr, bt_sig, bt_tg, bt_loc, bt_locs, List.getElem?_cons_zero, List.getElem?_cons_succ, List.set_cons_zero, List.set_cons_succ, List.map_cons, List.map_nil, List.take_succ_cons, List.take_zero, List.drop_succ_cons, List.drop_zero, List.reverse_cons, List.reverse_nil, List.nil_append, List.cons_append, List.append_nil, List.length_cons, List.length_nil, List.replicate_succ, List.replicate_zero, Option.toList_some, Option.toList_none, Nat.reduceAdd, Nat.reduceSub, Nat.reduceLeDiff, Nat.zero_add, Nat.zero_le, true_and, and_true, Int.toNat_natCast, Sum.inl.injEq, Sum.inr.injEq, ↓reduceIte, Nat.reduceEqDiff]
    exact ⟨by simp, fl (by unfold rz_ki tk_w; rw [if_neg hk, if_neg (by omega)])⟩
def SpX3_isTold : bt_Sp := fun As w Q => ∃ (ρ : Nat → Nat → Option Nat) (μ : Nat → Nat → Int) (t : Nat → Int) (n c m k : Nat), As = [.inr (.inr 4), .inr (.inr m), .inl (k : Int)] ∧ w = bt_wd ρ μ ∧ bt_Rf ρ ∧ bt_Tp μ t n ∧ bt_Tc μ t n c ∧ m < 262 ∧ m ≠ 4 ∧ (bt_sh0 m).1 = 14 ∧ k ≤ (bt_sh0 m).2 ∧ k ≤ 6 ∧ rz_ns (μ m) k ∧ ∀ μ', (if rz_to t n (μ m) k c = 0 then bt_Go μ' μ t n c ∧ μ' 4 6 = rz_ix (μ m) (tk_x t n c) k ∧ (∀ k, k ≠ 6 → μ' 4 k = μ 4 k) else μ' 1 3 = rz_to t n (μ m) k c) → bt_fr (fun a => a = 1 ∨ a = 4) μ' μ → Q (some (.inl (if rz_to t n (μ m) k c = 0 then 1 else 0))) (bt_wd ρ μ')
set_option maxHeartbeats 4000000 in
theorem mtX3_isTold : bt_Met yX3_isTold cX3_isTold 3 (some .boolean) 2 [2, 2, 0] SpX3_isTold := by
  refine bt_metW (lfX3_isTold mtX7_isName (by decide) mtX7_fail (by decide) mtX3_placeOf (by decide)) (fun As w Q _ hS => ?_)
  obtain ⟨ρ, μ, t, n, c, m, k, rfl, rfl, hρ, hp, hc, hm, hm4, hm1, hm2, hk, hns, hQ⟩ := hS
  simp (disch := omega) only [tX3_isTold_0, tX3_isTold_53, tX3_isTold_48, bt_ild, bt_lld, bt_ald, bt_ist, bt_lst, bt_ast, bt_inc, bt_ic, bt_lc, bt_iadd, bt_isub, bt_imul, bt_iand, bt_ior, bt_ixor, bt_ishl, bt_ishr, bt_iushr, bt_ladd, bt_lsub, bt_lmul, bt_land, bt_lor, bt_lushr, bt_lshl, bt_idiv, bt_irem, bt_ldiv, bt_lrem, bt_lcmp, bt_i2l, bt_l2i, bt_i2b, bt_pop, bt_dup, bt_dup2, bt_gfI, bt_gfJ, bt_gfR, bt_pfI, bt_pfZ, bt_pfJ, bt_pfR, bt_ial, bt_bal, bt_zal, bt_lal, bt_aal, bt_ias, bt_bas, bt_zas, bt_las, bt_len, bt_iret, bt_zret, bt_lret, bt_vret, bt_cV, bt_cS, bt_tab, bt_tsw, bt_lk, bt_lsw, bt_acp, bt_mmax, bt_mmin, bt_can, bt_icmpeq, bt_ifeq, bt_icmpne, bt_ifne, bt_icmplt, bt_iflt, bt_icmpge, bt_ifge, bt_icmpgt, bt_ifgt, bt_icmple, bt_ifle, bt_ret, bt_kill, bt_kl, bt_ix, bt_nl, bt_sm, bt_sr, bt_sig, bt_tg, bt_loc, bt_locs, List.getElem?_cons_zero, List.getElem?_cons_succ, List.set_cons_zero, List.set_cons_succ, List.map_cons, List.map_nil, List.take_succ_cons, List.take_zero, List.drop_succ_cons, List.drop_zero, List.reverse_cons, List.reverse_nil, List.nil_append, List.cons_append, List.append_nil, List.length_cons, List.length_nil, List.replicate_succ, List.replicate_zero, Option.toList_some, Option.toList_none, Nat.reduceAdd, Nat.reduceSub, Nat.reduceLeDiff, Nat.zero_add, Nat.zero_le, true_and, and_true, Int.toNat_natCast, Sum.inl.injEq, Sum.inr.injEq, ↓reduceIte, Nat.reduceEqDiff, sh_4, sh_1, hρ 4 _ (by decide), rf_4_0]
  refine ⟨by decide, by decide, tk_isName_call hp hc ?_⟩
  simp (disch := omega) only [bt_ild, bt_lld, bt_ald, bt_ist, bt_lst, bt_ast, bt_inc, bt_ic, bt_lc, bt_iadd, bt_isub, bt_imul, bt_iand, bt_ior, bt_ixor, bt_ishl, bt_ishr, bt_iushr, bt_ladd, bt_lsub, bt_lmul, bt_land, bt_lor, bt_lushr, bt_lshl, bt_idiv, bt_irem, bt_ldiv, bt_lrem, bt_lcmp, bt_i2l, bt_l2i, bt_i2b, bt_pop, bt_dup, bt_dup2, bt_gfI, bt_gfJ, bt_gfR, bt_pfI, bt_pfZ, bt_pfJ, bt_pfR, bt_ial, bt_bal, bt_zal, bt_lal, bt_aal, bt_ias, bt_bas, bt_zas, bt_las, bt_len, bt_iret, bt_zret, bt_lret, bt_vret, bt_cV, bt_cS, bt_tab, bt_tsw, bt_lk, bt_lsw, bt_acp, bt_mmax, bt_mmin, bt_can, bt_icmpeq, bt_ifeq, bt_icmpne, bt_ifne, bt_icmplt, bt_iflt, bt_icmpge, bt_ifge, bt_icmpgt, bt_ifgt, bt_icmple, bt_ifle, bt_ret, bt_kill, bt_kl, bt_ix, bt_nl, bt_sm, bt_sr, bt_sig, bt_tg, bt_loc, bt_locs, List.getElem?_cons_zero, List.getElem?_cons_succ, List.set_cons_zero, List.set_cons_succ, List.map_cons, List.map_nil, List.take_succ_cons, List.take_zero, List.drop_succ_cons, List.drop_zero, List.reverse_cons, List.reverse_nil, List.nil_append, List.cons_append, List.append_nil, List.length_cons, List.length_nil, List.replicate_succ, List.replicate_zero, Option.toList_some, Option.toList_none, Nat.reduceAdd, Nat.reduceSub, Nat.reduceLeDiff, Nat.zero_add, Nat.zero_le, true_and, and_true, Int.toNat_natCast, Sum.inl.injEq, Sum.inr.injEq, ↓reduceIte, Nat.reduceEqDiff, sh_4, sh_1, hρ 4 _ (by decide), rf_4_0]
  by_cases hnm : tk_w t n c = -1 ∨ 25 ≤ tk_w t n c
  · rw [if_pos hnm]
    have hnm' : rz_nm t n c = true := by unfold rz_nm; exact decide_eq_true hnm
    have hk1 := rz_nm_k hnm'
    simp (disch := omega) only [bt_w_id, Int.reduceEq, ↓reduceIte]
    refine ⟨by decide, ρ, μ, t, n, c, m, k, rfl, rfl, hρ, hp, hc, hk1, hm, hm1, hm2, hk, hns, ?_⟩
    have hr := rz_ix_rg (μ m) (tk_x t n c) k
    generalize hx : rz_ix (μ m) (tk_x t n c) k = x at *
    simp (disch := omega) only [bt_ild, bt_lld, bt_ald, bt_ist, bt_lst, bt_ast, bt_inc, bt_ic, bt_lc, bt_iadd, bt_isub, bt_imul, bt_iand, bt_ior, bt_ixor, bt_ishl, bt_ishr, bt_iushr, bt_ladd, bt_lsub, bt_lmul, bt_land, bt_lor, bt_lushr, bt_lshl, bt_idiv, bt_irem, bt_ldiv, bt_lrem, bt_lcmp, bt_i2l, bt_l2i, bt_i2b, bt_pop, bt_dup, bt_dup2, bt_gfI, bt_gfJ, bt_gfR, bt_pfI, bt_pfZ, bt_pfJ, bt_pfR, bt_ial, bt_bal, bt_zal, bt_lal, bt_aal, bt_ias, bt_bas, bt_zas, bt_las, bt_len, bt_iret, bt_zret, bt_lret, bt_vret, bt_cV, bt_cS, bt_tab, bt_tsw, bt_lk, bt_lsw, bt_acp, bt_mmax, bt_mmin, bt_can, bt_icmpeq, bt_ifeq, bt_icmpne, bt_ifne, bt_icmplt, bt_iflt, bt_icmpge, bt_ifge, bt_icmpgt, bt_ifgt, bt_icmple, bt_ifle, bt_ret, bt_kill, bt_kl, bt_ix, bt_nl, bt_sm, bt_sr, bt_sig, bt_tg, bt_loc, bt_locs, List.getElem?_cons_zero, List.getElem?_cons_succ, List.set_cons_zero, List.set_cons_succ, List.map_cons, List.map_nil, List.take_succ_cons, List.take_zero, List.drop_succ_cons, List.drop_zero, List.reverse_cons, List.reverse_nil, List.nil_append, List.cons_append, List.append_nil, List.length_cons, List.length_nil, List.replicate_succ, List.replicate_zero, Option.toList_some, Option.toList_none, Nat.reduceAdd, Nat.reduceSub, Nat.reduceLeDiff, Nat.zero_add, Nat.zero_le, true_and, and_true, Int.toNat_natCast, Sum.inl.injEq, Sum.inr.injEq, ↓reduceIte, Nat.reduceEqDiff, sh_4, sh_1, hρ 4 _ (by decide), rf_4_0, bt_up_same, bt_w_id]
    refine ⟨by decide, by decide, ?_⟩
    have hG0 : bt_Go (bt_up μ 4 6 x) μ t n c := bt_Go.fr (μ := μ) ⟨hp, hc, rfl⟩ (bt_up_cell (by decide)) (bt_up_cell (by decide)) (bt_up_cell (by decide))
    by_cases h1 : x = -1
    · rw [if_pos h1]
      refine ⟨by decide, by decide, tk_fail_call (c := c) (by rw [bt_up_cell (by decide)]; exact hc.2.2.1) ?_⟩
      simp (disch := omega) only [bt_ild, bt_lld, bt_ald, bt_ist, bt_lst, bt_ast, bt_inc, bt_ic, bt_lc, bt_iadd, bt_isub, bt_imul, bt_iand, bt_ior, bt_ixor, bt_ishl, bt_ishr, bt_iushr, bt_ladd, bt_lsub, bt_lmul, bt_land, bt_lor, bt_lushr, bt_lshl, bt_idiv, bt_irem, bt_ldiv, bt_lrem, bt_lcmp, bt_i2l, bt_l2i, bt_i2b, bt_pop, bt_dup, bt_dup2, bt_gfI, bt_gfJ, bt_gfR, bt_pfI, bt_pfZ, bt_pfJ, bt_pfR, bt_ial, bt_bal, bt_zal, bt_lal, bt_aal, bt_ias, bt_bas, bt_zas, bt_las, bt_len, bt_iret, bt_zret, bt_lret, bt_vret, bt_cV, bt_cS, bt_tab, bt_tsw, bt_lk, bt_lsw, bt_acp, bt_mmax, bt_mmin, bt_can, bt_icmpeq, bt_ifeq, bt_icmpne, bt_ifne, bt_icmplt, bt_iflt, bt_icmpge, bt_ifge, bt_icmpgt, bt_ifgt, bt_icmple, bt_ifle, bt_ret, bt_kill, bt_kl, bt_ix, bt_nl, bt_sm, bt_sr, bt_sig, bt_tg, bt_loc, bt_locs, List.getElem?_cons_zero, List.getElem?_cons_succ, List.set_cons_zero, List.set_cons_succ, List.map_cons, List.map_nil, List.take_succ_cons, List.take_zero, List.drop_succ_cons, List.drop_zero, List.reverse_cons, List.reverse_nil, List.nil_append, List.cons_append, List.append_nil, List.length_cons, List.length_nil, List.replicate_succ, List.replicate_zero, Option.toList_some, Option.toList_none, Nat.reduceAdd, Nat.reduceSub, Nat.reduceLeDiff, Nat.zero_add, Nat.zero_le, true_and, and_true, Int.toNat_natCast, Sum.inl.injEq, Sum.inr.injEq, ↓reduceIte, Nat.reduceEqDiff, bt_w_id, ↓reduceIte]
      have hf : rz_to t n (μ m) k c = 2 + 16 * (c : Int) := by unfold rz_to; rw [if_pos hnm', hx, if_pos h1]
      rw [hf] at hQ
      rw [if_neg (by omega)] at hQ
      have := hQ (bt_up (bt_up μ 4 6 x) 1 3 (2 + 16 * (c : Int)))
      rw [if_neg (by omega)] at this
      exact ⟨by simp, this (bt_up_same _ _ _ _) (fun a ha => by rw [bt_up_cell (by omega), bt_up_cell (by omega)])⟩
    · rw [if_neg h1]
      have hf : rz_to t n (μ m) k c = 0 := by unfold rz_to; rw [if_pos hnm', hx, if_neg h1]
      rw [hf] at hQ
      exact ⟨by simp, hQ _ ⟨hG0, bt_up_same _ _ _ _, fun k hk => bt_up_ix hk⟩ (fun a ha => bt_up_cell (by omega))⟩
  · rw [if_neg hnm]
    simp (disch := omega) only [bt_w_id, ↓reduceIte]
    refine ⟨by decide, by decide, tk_fail_call hc.2.2.1 ?_⟩
    simp (disch := omega) only [bt_ild, bt_lld, bt_ald, bt_ist, bt_lst, bt_ast, bt_inc, bt_ic, bt_lc, bt_iadd, bt_isub, bt_imul, bt_iand, bt_ior, bt_ixor, bt_ishl, bt_ishr, bt_iushr, bt_ladd, bt_lsub, bt_lmul, bt_land, bt_lor, bt_lushr, bt_lshl, bt_idiv, bt_irem, bt_ldiv, bt_lrem, bt_lcmp, bt_i2l, bt_l2i, bt_i2b, bt_pop, bt_dup, bt_dup2, bt_gfI, bt_gfJ, bt_gfR, bt_pfI, bt_pfZ, bt_pfJ, bt_pfR, bt_ial, bt_bal, bt_zal, bt_lal, bt_aal, bt_ias, bt_bas, bt_zas, bt_las, bt_len, bt_iret, bt_zret, bt_lret, bt_vret, bt_cV, bt_cS, bt_tab, bt_tsw, bt_lk, bt_lsw, bt_acp, bt_mmax, bt_mmin, bt_can, bt_icmpeq, bt_ifeq, bt_icmpne, bt_ifne, bt_icmplt, bt_iflt, bt_icmpge, bt_ifge, bt_icmpgt, bt_ifgt, bt_icmple, bt_ifle, bt_ret, bt_kill, bt_kl, bt_ix, bt_nl, bt_sm, bt_sr, bt_sig, bt_tg, bt_loc, bt_locs, List.getElem?_cons_zero, List.getElem?_cons_succ, List.set_cons_zero, List.set_cons_succ, List.map_cons, List.map_nil, List.take_succ_cons, List.take_zero, List.drop_succ_cons, List.drop_zero, List.reverse_cons, List.reverse_nil, List.nil_append, List.cons_append, List.append_nil, List.length_cons, List.length_nil, List.replicate_succ, List.replicate_zero, Option.toList_some, Option.toList_none, Nat.reduceAdd, Nat.reduceSub, Nat.reduceLeDiff, Nat.zero_add, Nat.zero_le, true_and, and_true, Int.toNat_natCast, Sum.inl.injEq, Sum.inr.injEq, ↓reduceIte, Nat.reduceEqDiff]
    have hf : rz_to t n (μ m) k c = 1 + 16 * (c : Int) := by unfold rz_to rz_nm; rw [if_neg (by simpa using hnm)]
    have := hQ (bt_up μ 1 3 (1 + 16 * (c : Int)))
    rw [hf, if_neg (by omega), if_neg (by omega)] at this
    exact ⟨by simp, this (bt_up_same _ _ _ _) (fun a ha => bt_up_cell (by omega))⟩
