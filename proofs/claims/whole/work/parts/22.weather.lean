/-! Weather: chances by rain -/
theorem bt_metF {y : MethodName} {cc : ByteArray} {nL : Nat} {ret : Option FieldType} {d : Nat} {sg : List Nat} : bt_Met y cc nL ret d sg (fun _ _ _ => False) := fun _ _ _ _ _ _ _ _ _ h => h.elim
def ab_tm (ζ : Nat → Nat → Int) (W : Nat) (rc : (Nat → Nat → Int) → Nat → Nat) (σ : Nat → Nat → Int) (x i : Nat) : Nat :=
  if x / 10 * (if i = 1 then (ζ 0 7).toNat else 10 - (ζ 0 7).toNat) = 0 then 0
  else if ab_pc ζ (ab_ps ζ σ (if i = 0 then 1 else 0)) &&& W ≠ 0 then x / 10 * (if i = 1 then (ζ 0 7).toNat else 10 - (ζ 0 7).toNat)
  else rc (ab_ps ζ σ (if i = 0 then 1 else 0)) (x / 10 * (if i = 1 then (ζ 0 7).toNat else 10 - (ζ 0 7).toNat))
/-- of the weight x, what falls on weathers behind which one of W has paced within k hours -/
def ab_rn (ζ : Nat → Nat → Int) (W : Nat) : Nat → (Nat → Nat → Int) → Nat → Nat
  | 0 => fun _ _ => 0
  | k + 1 => fun σ x => ab_tm ζ W (ab_rn ζ W k) σ x 0 + ab_tm ζ W (ab_rn ζ W k) σ x 1
theorem ab_crn {ζ ζ' : Nat → Nat → Int} (hz : ab_zq ζ ζ') (hZ : ab_Z ζ) (W : Nat) : ∀ k σ σ' x, ab_sq ζ σ σ' → ab_S ζ σ → ab_rn ζ W k σ x = ab_rn ζ' W k σ' x
  | 0, _, _, _, _, _ => rfl
  | k + 1, σ, σ', x, hs, hS => by
    have ih := ab_crn hz hZ W k
    have h1 : ∀ i, ab_tm ζ W (ab_rn ζ W k) σ x i = ab_tm ζ' W (ab_rn ζ' W k) σ' x i := by
      intro i
      unfold ab_tm
      rw [← hz.1 7 (by omega), ← ab_cpc hz ((ab_cps hz hs hZ hS (if i = 0 then 1 else 0)))]
      rw [ih _ _ _ (ab_cps hz hs hZ hS (if i = 0 then 1 else 0)) (ab_Sps hZ hS _)]
    unfold ab_rn
    rw [h1, h1]
def bt_inW (k : Nat) : Nat → Prop := fun a => (37 ≤ a ∧ a ≤ 45) ∨ (47 ≤ a ∧ a < 47 + 4 * k)
def SpX8_cb (k : Nat) : bt_Sp := fun As w Q => ∃ (ρ : Nat → Nat → Option Nat) (μ : Nat → Nat → Int) (z f W x : Nat), As = [.inr (.inr 36), .inr (.inr z), .inr (.inr f), .inl (W : Int), .inl (k : Int), .inl (x : Int)] ∧ w = bt_wd ρ μ ∧ bt_Rf ρ ∧ z ∈ bt_zos ∧ f ∈ bt_sts ∧ 47 + 4 * k ≤ f ∧ W < 64 ∧ x ≤ 1000000 ∧ ab_Z (bt_vw μ z) ∧ ab_S (bt_vw μ z) (bt_vw μ f) ∧ ∀ μ', bt_fr (bt_inW k) μ' μ → Q (some (.inl (ab_rn (bt_vw μ z) W k (bt_vw μ f) x : Int))) (bt_wd ρ μ')
theorem bt_ahead : ∀ k, k < 6 → bt_rf0 46 k = some (47 + 4 * k) ∧ (47 + 4 * k) ∈ bt_sts := by decide
theorem bt_m37 : 37 ∈ bt_hos := by decide
set_option maxHeartbeats 4000000 in
theorem mtX8_cb0 (dd : Nat) (hdd : 12 ≤ dd) : bt_Met yX8_chanceBehind cX8_chanceBehind 10 (some .int) dd [2, 2, 2, 0, 0, 0] (SpX8_cb 0) := by
  refine lpX8_chanceBehind mtX6_copy (by omega) mtX1_pass (by omega) mtX6_pacing (by omega) (bt_metF (d := 0)) (by omega) _ (fun As w Q _ hS => ?_)
  obtain ⟨ρ, μ, z, f, W, x, rfl, rfl, hρ, hz, hf, hlt, hW, hx, hZ, hSt, hQ⟩ := hS
  refine ⟨fun _ _ _ _ _ => False, ?_, fun _ _ _ _ h => h.elim⟩
  simp (disch := omega) only [tX8_chanceBehind_0, tX8_chanceBehind_13, tX8_chanceBehind_63, tX8_chanceBehind_97, tX8_chanceBehind_143, bt_ild, bt_lld, bt_ald, bt_ist, bt_lst, bt_ast, bt_inc, bt_ic, bt_lc, bt_iadd, bt_isub, bt_imul, bt_iand, bt_ior, bt_ixor, bt_ishl, bt_ishr, bt_iushr, bt_ladd, bt_lsub, bt_lmul, bt_land, bt_lor, bt_lushr, bt_lshl, bt_idiv, bt_irem, bt_ldiv, bt_lrem, bt_lcmp, bt_i2l, bt_l2i, bt_i2b, bt_pop, bt_dup, bt_dup2, bt_gfI, bt_gfJ, bt_gfR, bt_pfI, bt_pfZ, bt_pfJ, bt_pfR, bt_ial, bt_bal, bt_zal, bt_lal, bt_aal, bt_ias, bt_bas, bt_zas, bt_las, bt_len, bt_iret, bt_zret, bt_lret, bt_vret, bt_cV, bt_cS, bt_tab, bt_tsw, bt_lk, bt_lsw, bt_acp, bt_mmax, bt_mmin, bt_can, bt_icmpeq, bt_ifeq, bt_icmpne, bt_ifne, bt_icmplt, bt_iflt, bt_icmpge, bt_ifge, bt_icmpgt, bt_ifgt, bt_icmple, bt_ifle, bt_ret, bt_kill, bt_kl, bt_ix, bt_nl, bt_sm, bt_sr, bt_sig, bt_tg, bt_loc, bt_locs, List.getElem?_cons_zero, List.getElem?_cons_succ, List.set_cons_zero, List.set_cons_succ, List.map_cons, List.map_nil, List.take_succ_cons, List.take_zero, List.drop_succ_cons, List.drop_zero, List.reverse_cons, List.reverse_nil, List.nil_append, List.cons_append, List.append_nil, List.length_cons, List.length_nil, List.replicate_succ, List.replicate_zero, Option.toList_some, Option.toList_none, Nat.reduceAdd, Nat.reduceSub, Nat.reduceLeDiff, Nat.zero_add, Nat.zero_le, true_and, and_true, Int.toNat_natCast, Sum.inl.injEq, Sum.inr.injEq, ↓reduceIte, Nat.reduceEqDiff, bt_w_id]
  rw [if_pos (by decide)]
  exact hQ μ (fun _ _ => rfl)
set_option maxHeartbeats 4000000 in
theorem mtX8_cbs (k : Nat) (hk : k < 6) (ih : ∀ d, 12 + k ≤ d → bt_Met yX8_chanceBehind cX8_chanceBehind 10 (some .int) d [2, 2, 2, 0, 0, 0] (SpX8_cb k)) (dd : Nat) (hdd : 12 + (k + 1) ≤ dd) : bt_Met yX8_chanceBehind cX8_chanceBehind 10 (some .int) dd [2, 2, 2, 0, 0, 0] (SpX8_cb (k + 1)) := by
  refine lpX8_chanceBehind mtX6_copy (by omega) mtX1_pass (by omega) mtX6_pacing (by omega) (ih (dd - 1) (by omega)) (by omega) _ (fun As w Q _ hS => ?_)
  obtain ⟨ρ, μ, z, f, W, x, rfl, rfl, hρ, hz, hf, hlt, hW, hx, hZ, hSt, hQ⟩ := hS
  obtain ⟨k1, k2⟩ := bt_ahead k hk
  obtain ⟨c1, c2, c3, c4, c5, c6, c7, c8, c9, c10, c11, c12, c13, c14, c15, c16, c17, c18, c19, c20, c21, c22, c23, c24, c25⟩ := bt_zo_f z hz
  obtain ⟨b1, b2, b3, b4, b5, b6, b7, b8, b9⟩ := bt_st_f f hf
  have hzz := bt_zo2 z hz
  have hr := ab_rg hZ
  have hG : μ z 1 = (nG (bt_vw μ z) : Int) ∧ μ z 7 = ((μ z 7).toNat : Int) ∧ (μ z 7).toNat ≤ 10 := by
    have h1 := hZ.1
    have h2 := hZ.2.2.2.2.2.2.2.2
    simp only [bt_vw, nG, Nat.add_zero] at *
    omega
  generalize hζ : bt_vw μ z = ζ at *
  generalize hσ : bt_vw μ f = σ at *
  have hrn : (ζ 0 7).toNat = (μ z 7).toNat := by rw [← hζ]; rfl
  generalize hrr : (μ z 7).toNat = r at *
  refine ⟨fun h' m st L w => st = [] ∧ ∃ (i : Nat) (μ1 : Nat → Nat → Int), w = bt_wd ρ μ1 ∧ i ≤ 2 ∧ m = 2 - i ∧ L = [some (.inr (.inr 36)), some (.inr (.inr z)), some (.inr (.inr f)), some (.inl (W : Int)), some (.inl ((k + 1 : Nat) : Int)), some (.inl (x : Int)), some (.inr (.inr (47 + 4 * k))), some (.inl (bt_sn (fun i => (ab_tm ζ W (ab_rn ζ W k) σ x i : Int)) i)), some (.inl (i : Int)), none] ∧ bt_fr (bt_inW (k + 1)) μ1 μ, ?_, ?_⟩
  · simp (disch := omega) only [tX8_chanceBehind_0, tX8_chanceBehind_13, tX8_chanceBehind_63, tX8_chanceBehind_97, tX8_chanceBehind_143, bt_ild, bt_lld, bt_ald, bt_ist, bt_lst, bt_ast, bt_inc, bt_ic, bt_lc, bt_iadd, bt_isub, bt_imul, bt_iand, bt_ior, bt_ixor, bt_ishl, bt_ishr, bt_iushr, bt_ladd, bt_lsub, bt_lmul, bt_land, bt_lor, bt_lushr, bt_lshl, bt_idiv, bt_irem, bt_ldiv, bt_lrem, bt_lcmp, bt_i2l, bt_l2i, bt_i2b, bt_pop, bt_dup, bt_dup2, bt_gfI, bt_gfJ, bt_gfR, bt_pfI, bt_pfZ, bt_pfJ, bt_pfR, bt_ial, bt_bal, bt_zal, bt_lal, bt_aal, bt_ias, bt_bas, bt_zas, bt_las, bt_len, bt_iret, bt_zret, bt_lret, bt_vret, bt_cV, bt_cS, bt_tab, bt_tsw, bt_lk, bt_lsw, bt_acp, bt_mmax, bt_mmin, bt_can, bt_icmpeq, bt_ifeq, bt_icmpne, bt_ifne, bt_icmplt, bt_iflt, bt_icmpge, bt_ifge, bt_icmpgt, bt_ifgt, bt_icmple, bt_ifle, bt_ret, bt_kill, bt_kl, bt_ix, bt_nl, bt_sm, bt_sr, bt_sig, bt_tg, bt_loc, bt_locs, List.getElem?_cons_zero, List.getElem?_cons_succ, List.set_cons_zero, List.set_cons_succ, List.map_cons, List.map_nil, List.take_succ_cons, List.take_zero, List.drop_succ_cons, List.drop_zero, List.reverse_cons, List.reverse_nil, List.nil_append, List.cons_append, List.append_nil, List.length_cons, List.length_nil, List.replicate_succ, List.replicate_zero, Option.toList_some, Option.toList_none, Nat.reduceAdd, Nat.reduceSub, Nat.reduceLeDiff, Nat.zero_add, Nat.zero_le, true_and, and_true, Int.toNat_natCast, Sum.inl.injEq, Sum.inr.injEq, ↓reduceIte, Nat.reduceEqDiff, bt_w_id]
    rw [if_neg (by omega), if_pos (by omega)]
    have x1 : (((k + 1 : Nat) : Int) - 1).toNat = k := by omega
    simp (disch := omega) only [bt_ild, bt_lld, bt_ald, bt_ist, bt_lst, bt_ast, bt_inc, bt_ic, bt_lc, bt_iadd, bt_isub, bt_imul, bt_iand, bt_ior, bt_ixor, bt_ishl, bt_ishr, bt_iushr, bt_ladd, bt_lsub, bt_lmul, bt_land, bt_lor, bt_lushr, bt_lshl, bt_idiv, bt_irem, bt_ldiv, bt_lrem, bt_lcmp, bt_i2l, bt_l2i, bt_i2b, bt_pop, bt_dup, bt_dup2, bt_gfI, bt_gfJ, bt_gfR, bt_pfI, bt_pfZ, bt_pfJ, bt_pfR, bt_ial, bt_bal, bt_zal, bt_lal, bt_aal, bt_ias, bt_bas, bt_zas, bt_las, bt_len, bt_iret, bt_zret, bt_lret, bt_vret, bt_cV, bt_cS, bt_tab, bt_tsw, bt_lk, bt_lsw, bt_acp, bt_mmax, bt_mmin, bt_can, bt_icmpeq, bt_ifeq, bt_icmpne, bt_ifne, bt_icmplt, bt_iflt, bt_icmpge, bt_ifge, bt_icmpgt, bt_ifgt, bt_icmple, bt_ifle, bt_ret, bt_kill, bt_kl, bt_ix, bt_nl, bt_sm, bt_sr, bt_sig, bt_tg, bt_loc, bt_locs, List.getElem?_cons_zero, List.getElem?_cons_succ, List.set_cons_zero, List.set_cons_succ, List.map_cons, List.map_nil, List.take_succ_cons, List.take_zero, List.drop_succ_cons, List.drop_zero, List.reverse_cons, List.reverse_nil, List.nil_append, List.cons_append, List.append_nil, List.length_cons, List.length_nil, List.replicate_succ, List.replicate_zero, Option.toList_some, Option.toList_none, Nat.reduceAdd, Nat.reduceSub, Nat.reduceLeDiff, Nat.zero_add, Nat.zero_le, true_and, and_true, Int.toNat_natCast, Sum.inl.injEq, Sum.inr.injEq, ↓reduceIte, Nat.reduceEqDiff, hρ 36 _ (by decide), rf_36_1, sh_36, sh_46, hρ 46 _ (by decide), bt_w_id, x1, k1]
    repeat (refine And.intro (by omega) ?_)
    exact ⟨2, 0, μ, rfl, by omega, by omega, rfl, fun _ _ => rfl⟩
  · rintro m st L w ⟨rfl, i, μ1, rfl, hi, rfl, rfl, hfr⟩
    have e1 : μ1 z = μ z := hfr z (by unfold bt_inW; omega)
    have hz1 : ab_zq ζ (bt_vw μ1 z) := by rw [← hζ]; exact bt_vw_z (fun j hj => hfr _ (by unfold bt_inW; omega))
    have hsf : ab_sq ζ σ (bt_vw μ1 f) := by rw [← hσ]; exact ab_sq.of (fun j hj => (hfr (f + j) (by unfold bt_inW; omega)).symm)
    have xd : bo_idiv (x : Int) 10 = ((x / 10 : Nat) : Int) := bo_idiv_nat (a := x) (d := 10) (by omega) (by omega) (by omega)
    by_cases hc : 2 ≤ i
    · simp (disch := omega) only [tX8_chanceBehind_32, bt_ild, bt_lld, bt_ald, bt_ist, bt_lst, bt_ast, bt_inc, bt_ic, bt_lc, bt_iadd, bt_isub, bt_imul, bt_iand, bt_ior, bt_ixor, bt_ishl, bt_ishr, bt_iushr, bt_ladd, bt_lsub, bt_lmul, bt_land, bt_lor, bt_lushr, bt_lshl, bt_idiv, bt_irem, bt_ldiv, bt_lrem, bt_lcmp, bt_i2l, bt_l2i, bt_i2b, bt_pop, bt_dup, bt_dup2, bt_gfI, bt_gfJ, bt_gfR, bt_pfI, bt_pfZ, bt_pfJ, bt_pfR, bt_ial, bt_bal, bt_zal, bt_lal, bt_aal, bt_ias, bt_bas, bt_zas, bt_las, bt_len, bt_iret, bt_zret, bt_lret, bt_vret, bt_cV, bt_cS, bt_tab, bt_tsw, bt_lk, bt_lsw, bt_acp, bt_mmax, bt_mmin, bt_can, bt_icmpeq, bt_ifeq, bt_icmpne, bt_ifne, bt_icmplt, bt_iflt, bt_icmpge, bt_ifge, bt_icmpgt, bt_ifgt, bt_icmple, bt_ifle, bt_ret, bt_kill, bt_kl, bt_ix, bt_nl, bt_sm, bt_sr, bt_sig, bt_tg, bt_loc, bt_locs, List.getElem?_cons_zero, List.getElem?_cons_succ, List.set_cons_zero, List.set_cons_succ, List.map_cons, List.map_nil, List.take_succ_cons, List.take_zero, List.drop_succ_cons, List.drop_zero, List.reverse_cons, List.reverse_nil, List.nil_append, List.cons_append, List.append_nil, List.length_cons, List.length_nil, List.replicate_succ, List.replicate_zero, Option.toList_some, Option.toList_none, Nat.reduceAdd, Nat.reduceSub, Nat.reduceLeDiff, Nat.zero_add, Nat.zero_le, true_and, and_true, Int.toNat_natCast, Sum.inl.injEq, Sum.inr.injEq, ↓reduceIte, Nat.reduceEqDiff, hρ z _ c2, c3, c4, c5, c6, c7, c8, c9, c10, c11, c12, c13, c14, c15, c16, c17, c18, c19, c20, c21, c22, c23, c24, e1, xd, bt_w_id]
      rw [if_pos (by omega)]
      have : i = 2 := by omega
      subst this
      have := hQ μ1 hfr
      unfold ab_rn at this
      simp only [bt_sn, Int.zero_add]
      rw [Int.natCast_add] at this
      exact this
    · -- the end of a turn
      have fin : ∀ (μ2 : Nat → Nat → Int) (y : Option bt_V) (t : Int), bt_fr (bt_inW (k + 1)) μ2 μ → t = bt_sn (fun i => (ab_tm ζ W (ab_rn ζ W k) σ x i : Int)) (i + 1) → tX8_chanceBehind_143 SpX6_copy SpX1_pass SpX6_pacing (SpX8_cb k) (fun h st L w => ∃ m, m < 2 - i ∧ st = [] ∧ ∃ (i : Nat) (μ1 : Nat → Nat → Int), w = bt_wd ρ μ1 ∧ i ≤ 2 ∧ m = 2 - i ∧ L = [some (.inr (.inr 36)), some (.inr (.inr z)), some (.inr (.inr f)), some (.inl (W : Int)), some (.inl ((k + 1 : Nat) : Int)), some (.inl (x : Int)), some (.inr (.inr (47 + 4 * k))), some (.inl (bt_sn (fun i => (ab_tm ζ W (ab_rn ζ W k) σ x i : Int)) i)), some (.inl (i : Int)), none] ∧ bt_fr (bt_inW (k + 1)) μ1 μ) Q [] [some (.inr (.inr 36)), some (.inr (.inr z)), some (.inr (.inr f)), some (.inl (W : Int)), some (.inl ((k + 1 : Nat) : Int)), some (.inl (x : Int)), some (.inr (.inr (47 + 4 * k))), some (.inl t), some (.inl (i : Int)), y] (bt_wd ρ μ2) := by
        intro μ2 y t h1 h2
        simp (disch := omega) only [tX8_chanceBehind_143, bt_ild, bt_lld, bt_ald, bt_ist, bt_lst, bt_ast, bt_inc, bt_ic, bt_lc, bt_iadd, bt_isub, bt_imul, bt_iand, bt_ior, bt_ixor, bt_ishl, bt_ishr, bt_iushr, bt_ladd, bt_lsub, bt_lmul, bt_land, bt_lor, bt_lushr, bt_lshl, bt_idiv, bt_irem, bt_ldiv, bt_lrem, bt_lcmp, bt_i2l, bt_l2i, bt_i2b, bt_pop, bt_dup, bt_dup2, bt_gfI, bt_gfJ, bt_gfR, bt_pfI, bt_pfZ, bt_pfJ, bt_pfR, bt_ial, bt_bal, bt_zal, bt_lal, bt_aal, bt_ias, bt_bas, bt_zas, bt_las, bt_len, bt_iret, bt_zret, bt_lret, bt_vret, bt_cV, bt_cS, bt_tab, bt_tsw, bt_lk, bt_lsw, bt_acp, bt_mmax, bt_mmin, bt_can, bt_icmpeq, bt_ifeq, bt_icmpne, bt_ifne, bt_icmplt, bt_iflt, bt_icmpge, bt_ifge, bt_icmpgt, bt_ifgt, bt_icmple, bt_ifle, bt_ret, bt_kill, bt_kl, bt_ix, bt_nl, bt_sm, bt_sr, bt_sig, bt_tg, bt_loc, bt_locs, List.getElem?_cons_zero, List.getElem?_cons_succ, List.set_cons_zero, List.set_cons_succ, List.map_cons, List.map_nil, List.take_succ_cons, List.take_zero, List.drop_succ_cons, List.drop_zero, List.reverse_cons, List.reverse_nil, List.nil_append, List.cons_append, List.append_nil, List.length_cons, List.length_nil, List.replicate_succ, List.replicate_zero, Option.toList_some, Option.toList_none, Nat.reduceAdd, Nat.reduceSub, Nat.reduceLeDiff, Nat.zero_add, Nat.zero_le, true_and, and_true, Int.toNat_natCast, Sum.inl.injEq, Sum.inr.injEq, ↓reduceIte, Nat.reduceEqDiff]
        exact ⟨2 - (i + 1), by omega, i + 1, μ2, rfl, by omega, rfl, by rw [h2]; rfl, h1⟩
      have hi2 : i = 0 ∨ i = 1 := by omega
      obtain ⟨d1, d2, d3, d4, d5, d6, d7, d8, d9⟩ := bt_st_f (47 + 4 * k) k2
      rcases hi2 with rfl | rfl
      · simp (disch := omega) only [tX8_chanceBehind_32, tX8_chanceBehind_63, tX8_chanceBehind_97, bt_ild, bt_lld, bt_ald, bt_ist, bt_lst, bt_ast, bt_inc, bt_ic, bt_lc, bt_iadd, bt_isub, bt_imul, bt_iand, bt_ior, bt_ixor, bt_ishl, bt_ishr, bt_iushr, bt_ladd, bt_lsub, bt_lmul, bt_land, bt_lor, bt_lushr, bt_lshl, bt_idiv, bt_irem, bt_ldiv, bt_lrem, bt_lcmp, bt_i2l, bt_l2i, bt_i2b, bt_pop, bt_dup, bt_dup2, bt_gfI, bt_gfJ, bt_gfR, bt_pfI, bt_pfZ, bt_pfJ, bt_pfR, bt_ial, bt_bal, bt_zal, bt_lal, bt_aal, bt_ias, bt_bas, bt_zas, bt_las, bt_len, bt_iret, bt_zret, bt_lret, bt_vret, bt_cV, bt_cS, bt_tab, bt_tsw, bt_lk, bt_lsw, bt_acp, bt_mmax, bt_mmin, bt_can, bt_icmpeq, bt_ifeq, bt_icmpne, bt_ifne, bt_icmplt, bt_iflt, bt_icmpge, bt_ifge, bt_icmpgt, bt_ifgt, bt_icmple, bt_ifle, bt_ret, bt_kill, bt_kl, bt_ix, bt_nl, bt_sm, bt_sr, bt_sig, bt_tg, bt_loc, bt_locs, List.getElem?_cons_zero, List.getElem?_cons_succ, List.set_cons_zero, List.set_cons_succ, List.map_cons, List.map_nil, List.take_succ_cons, List.take_zero, List.drop_succ_cons, List.drop_zero, List.reverse_cons, List.reverse_nil, List.nil_append, List.cons_append, List.append_nil, List.length_cons, List.length_nil, List.replicate_succ, List.replicate_zero, Option.toList_some, Option.toList_none, Nat.reduceAdd, Nat.reduceSub, Nat.reduceLeDiff, Nat.zero_add, Nat.zero_le, true_and, and_true, Int.toNat_natCast, Sum.inl.injEq, Sum.inr.injEq, ↓reduceIte, Nat.reduceEqDiff, hρ z _ c2, c3, c4, c5, c6, c7, c8, c9, c10, c11, c12, c13, c14, c15, c16, c17, c18, c19, c20, c21, c22, c23, c24, e1, xd, bt_w_id, d3]
        rw [if_neg (by decide), if_neg (by decide)]
        refine And.intro (by decide) (And.intro (by omega) ?_)
        have hsh : ((x / 10 : Nat) : Int) * (10 - μ z 7) = ((x / 10 * (10 - r) : Nat) : Int) := by
          rw [Int.natCast_mul]
          congr 1
          omega
        have hle : x / 10 * (10 - r) ≤ 100000 * 10 := Nat.mul_le_mul (by omega) (by omega)
        have htm : ab_tm ζ W (ab_rn ζ W k) σ x 0 = if x / 10 * (10 - r) = 0 then 0 else if ab_pc ζ (ab_ps ζ σ 1) &&& W ≠ 0 then x / 10 * (10 - r) else ab_rn ζ W k (ab_ps ζ σ 1) (x / 10 * (10 - r)) := by
          unfold ab_tm
          rw [hrn]
          simp
        rw [hsh]
        generalize hsg : x / 10 * (10 - r) = sh at *
        rw [bt_w_id (by omega) (by omega)]
        by_cases h0 : sh = 0
        · rw [if_pos (by omega)]
          exact fin μ1 _ _ hfr (by rw [bt_sn_s _ 0, htm, if_pos h0]; simp)
        · rw [if_neg (by omega)]
          rw [if_neg h0] at htm
          refine ⟨by omega, ρ, μ1, 47 + 4 * k, f, rfl, rfl, hρ, k2, hf, fun μ2 he hf2 => ?_⟩
          have z2 : ab_zq ζ (bt_vw μ2 z) := by rw [← hζ]; exact bt_vw_z (fun j hj => by rw [hf2 _ (by unfold bt_inS; omega)]; exact hfr _ (by unfold bt_inW; omega))
          have s2 : ab_sq ζ σ (bt_vw μ2 (47 + 4 * k)) := hsf.tr ((ab_sq.cp hZ he).sy)
          simp (disch := omega) only [bt_ild, bt_lld, bt_ald, bt_ist, bt_lst, bt_ast, bt_inc, bt_ic, bt_lc, bt_iadd, bt_isub, bt_imul, bt_iand, bt_ior, bt_ixor, bt_ishl, bt_ishr, bt_iushr, bt_ladd, bt_lsub, bt_lmul, bt_land, bt_lor, bt_lushr, bt_lshl, bt_idiv, bt_irem, bt_ldiv, bt_lrem, bt_lcmp, bt_i2l, bt_l2i, bt_i2b, bt_pop, bt_dup, bt_dup2, bt_gfI, bt_gfJ, bt_gfR, bt_pfI, bt_pfZ, bt_pfJ, bt_pfR, bt_ial, bt_bal, bt_zal, bt_lal, bt_aal, bt_ias, bt_bas, bt_zas, bt_las, bt_len, bt_iret, bt_zret, bt_lret, bt_vret, bt_cV, bt_cS, bt_tab, bt_tsw, bt_lk, bt_lsw, bt_acp, bt_mmax, bt_mmin, bt_can, bt_icmpeq, bt_ifeq, bt_icmpne, bt_ifne, bt_icmplt, bt_iflt, bt_icmpge, bt_ifge, bt_icmpgt, bt_ifgt, bt_icmple, bt_ifle, bt_ret, bt_kill, bt_kl, bt_ix, bt_nl, bt_sm, bt_sr, bt_sig, bt_tg, bt_loc, bt_locs, List.getElem?_cons_zero, List.getElem?_cons_succ, List.set_cons_zero, List.set_cons_succ, List.map_cons, List.map_nil, List.take_succ_cons, List.take_zero, List.drop_succ_cons, List.drop_zero, List.reverse_cons, List.reverse_nil, List.nil_append, List.cons_append, List.append_nil, List.length_cons, List.length_nil, List.replicate_succ, List.replicate_zero, Option.toList_some, Option.toList_none, Nat.reduceAdd, Nat.reduceSub, Nat.reduceLeDiff, Nat.zero_add, Nat.zero_le, true_and, and_true, Int.toNat_natCast, Sum.inl.injEq, Sum.inr.injEq, ↓reduceIte, Nat.reduceEqDiff, hρ 36 _ (by decide), rf_36_0, sh_36, sh_37, bt_w_id]
          first | rw [if_pos (by decide)] | rw [if_neg (by decide)]
          repeat (refine And.intro (by omega) ?_)
          refine ⟨ρ, μ2, 37, z, 47 + 4 * k, 1, rfl, rfl, hρ, bt_m37, hz, k2, by decide, z2.Z hZ, ab_sq.S z2 s2 hSt, fun μ3 hj ht hf3 => ?_⟩
          have q1 : ab_sq ζ (bt_vw μ3 (47 + 4 * k)) (ab_ps ζ σ 1) := (ab_sq.zz z2.sy (ab_sq.of hj)).tr (ab_cps z2 s2 hZ hSt 1).sy
          have f3 : bt_fr (bt_inW (k + 1)) μ3 μ := fun a ha => by
            rw [hf3 a (by unfold bt_inW at ha; omega), hf2 a (by unfold bt_inW at ha; unfold bt_inS; omega)]
            exact hfr a ha
          have e3 : μ3 z = μ z := f3 z (by unfold bt_inW; omega)
          simp (disch := omega) only [bt_ild, bt_lld, bt_ald, bt_ist, bt_lst, bt_ast, bt_inc, bt_ic, bt_lc, bt_iadd, bt_isub, bt_imul, bt_iand, bt_ior, bt_ixor, bt_ishl, bt_ishr, bt_iushr, bt_ladd, bt_lsub, bt_lmul, bt_land, bt_lor, bt_lushr, bt_lshl, bt_idiv, bt_irem, bt_ldiv, bt_lrem, bt_lcmp, bt_i2l, bt_l2i, bt_i2b, bt_pop, bt_dup, bt_dup2, bt_gfI, bt_gfJ, bt_gfR, bt_pfI, bt_pfZ, bt_pfJ, bt_pfR, bt_ial, bt_bal, bt_zal, bt_lal, bt_aal, bt_ias, bt_bas, bt_zas, bt_las, bt_len, bt_iret, bt_zret, bt_lret, bt_vret, bt_cV, bt_cS, bt_tab, bt_tsw, bt_lk, bt_lsw, bt_acp, bt_mmax, bt_mmin, bt_can, bt_icmpeq, bt_ifeq, bt_icmpne, bt_ifne, bt_icmplt, bt_iflt, bt_icmpge, bt_ifge, bt_icmpgt, bt_ifgt, bt_icmple, bt_ifle, bt_ret, bt_kill, bt_kl, bt_ix, bt_nl, bt_sm, bt_sr, bt_sig, bt_tg, bt_loc, bt_locs, List.getElem?_cons_zero, List.getElem?_cons_succ, List.set_cons_zero, List.set_cons_succ, List.map_cons, List.map_nil, List.take_succ_cons, List.take_zero, List.drop_succ_cons, List.drop_zero, List.reverse_cons, List.reverse_nil, List.nil_append, List.cons_append, List.append_nil, List.length_cons, List.length_nil, List.replicate_succ, List.replicate_zero, Option.toList_some, Option.toList_none, Nat.reduceAdd, Nat.reduceSub, Nat.reduceLeDiff, Nat.zero_add, Nat.zero_le, true_and, and_true, Int.toNat_natCast, Sum.inl.injEq, Sum.inr.injEq, ↓reduceIte, Nat.reduceEqDiff, hρ z _ c2, c3, c4, c5, c6, c7, c8, c9, c10, c11, c12, c13, c14, c15, c16, c17, c18, c19, c20, c21, c22, c23, c24, d3, e3, hG.1, bt_w_id]
          repeat (refine And.intro (by omega) ?_)
          refine ⟨ρ, μ3, 47 + 4 * k, nG ζ, rfl, rfl, hρ, k2, hr.1, ?_⟩
          have hp1 : bt_bn (fun i => decide (bt_w (μ3 (47 + 4 * k + 2) i) = 0)) (nG ζ) = ab_pc ζ (ab_ps ζ σ 1) := ab_cpc (ζ := ζ) (ζ' := ζ) (ab_zq.rf ζ) q1
          simp (disch := omega) only [bt_ild, bt_lld, bt_ald, bt_ist, bt_lst, bt_ast, bt_inc, bt_ic, bt_lc, bt_iadd, bt_isub, bt_imul, bt_iand, bt_ior, bt_ixor, bt_ishl, bt_ishr, bt_iushr, bt_ladd, bt_lsub, bt_lmul, bt_land, bt_lor, bt_lushr, bt_lshl, bt_idiv, bt_irem, bt_ldiv, bt_lrem, bt_lcmp, bt_i2l, bt_l2i, bt_i2b, bt_pop, bt_dup, bt_dup2, bt_gfI, bt_gfJ, bt_gfR, bt_pfI, bt_pfZ, bt_pfJ, bt_pfR, bt_ial, bt_bal, bt_zal, bt_lal, bt_aal, bt_ias, bt_bas, bt_zas, bt_las, bt_len, bt_iret, bt_zret, bt_lret, bt_vret, bt_cV, bt_cS, bt_tab, bt_tsw, bt_lk, bt_lsw, bt_acp, bt_mmax, bt_mmin, bt_can, bt_icmpeq, bt_ifeq, bt_icmpne, bt_ifne, bt_icmplt, bt_iflt, bt_icmpge, bt_ifge, bt_icmpgt, bt_ifgt, bt_icmple, bt_ifle, bt_ret, bt_kill, bt_kl, bt_ix, bt_nl, bt_sm, bt_sr, bt_sig, bt_tg, bt_loc, bt_locs, List.getElem?_cons_zero, List.getElem?_cons_succ, List.set_cons_zero, List.set_cons_succ, List.map_cons, List.map_nil, List.take_succ_cons, List.take_zero, List.drop_succ_cons, List.drop_zero, List.reverse_cons, List.reverse_nil, List.nil_append, List.cons_append, List.append_nil, List.length_cons, List.length_nil, List.replicate_succ, List.replicate_zero, Option.toList_some, Option.toList_none, Nat.reduceAdd, Nat.reduceSub, Nat.reduceLeDiff, Nat.zero_add, Nat.zero_le, true_and, and_true, Int.toNat_natCast, Sum.inl.injEq, Sum.inr.injEq, ↓reduceIte, Nat.reduceEqDiff, hp1]
          rw [bo_iand_nat (Or.inr (by omega))]
          have hle2 : ab_pc ζ (ab_ps ζ σ 1) &&& W ≤ W := Nat.and_le_right
          rw [bt_w_id (by omega) (by omega)]
          by_cases h1 : ab_pc ζ (ab_ps ζ σ 1) &&& W = 0
          · rw [if_pos (by omega)]
            rw [if_neg (by simp [h1])] at htm
            have z3 : ab_zq ζ (bt_vw μ3 z) := by rw [← hζ]; exact bt_vw_z (fun j hj => f3 _ (by unfold bt_inW; omega))
            have S3 := ab_Sps hZ hSt 1
            refine ⟨by rw [sh_36]; omega, ρ, μ3, z, 47 + 4 * k, W, sh, ?_, rfl, hρ, hz, k2, by omega, hW, by omega, z3.Z hZ, ab_sq.S z3 q1.sy S3, fun μ4 hf4 => ?_⟩
            · rw [show ((k + 1 : Nat) : Int) - 1 = (k : Int) by omega]
            have hrr2 : ab_rn (bt_vw μ3 z) W k (bt_vw μ3 (47 + 4 * k)) sh = ab_rn ζ W k (ab_ps ζ σ 1) sh := (ab_crn z3 hZ W k _ _ sh q1.sy S3).symm
            rw [hrr2]
            simp (disch := omega) only [bt_ild, bt_lld, bt_ald, bt_ist, bt_lst, bt_ast, bt_inc, bt_ic, bt_lc, bt_iadd, bt_isub, bt_imul, bt_iand, bt_ior, bt_ixor, bt_ishl, bt_ishr, bt_iushr, bt_ladd, bt_lsub, bt_lmul, bt_land, bt_lor, bt_lushr, bt_lshl, bt_idiv, bt_irem, bt_ldiv, bt_lrem, bt_lcmp, bt_i2l, bt_l2i, bt_i2b, bt_pop, bt_dup, bt_dup2, bt_gfI, bt_gfJ, bt_gfR, bt_pfI, bt_pfZ, bt_pfJ, bt_pfR, bt_ial, bt_bal, bt_zal, bt_lal, bt_aal, bt_ias, bt_bas, bt_zas, bt_las, bt_len, bt_iret, bt_zret, bt_lret, bt_vret, bt_cV, bt_cS, bt_tab, bt_tsw, bt_lk, bt_lsw, bt_acp, bt_mmax, bt_mmin, bt_can, bt_icmpeq, bt_ifeq, bt_icmpne, bt_ifne, bt_icmplt, bt_iflt, bt_icmpge, bt_ifge, bt_icmpgt, bt_ifgt, bt_icmple, bt_ifle, bt_ret, bt_kill, bt_kl, bt_ix, bt_nl, bt_sm, bt_sr, bt_sig, bt_tg, bt_loc, bt_locs, List.getElem?_cons_zero, List.getElem?_cons_succ, List.set_cons_zero, List.set_cons_succ, List.map_cons, List.map_nil, List.take_succ_cons, List.take_zero, List.drop_succ_cons, List.drop_zero, List.reverse_cons, List.reverse_nil, List.nil_append, List.cons_append, List.append_nil, List.length_cons, List.length_nil, List.replicate_succ, List.replicate_zero, Option.toList_some, Option.toList_none, Nat.reduceAdd, Nat.reduceSub, Nat.reduceLeDiff, Nat.zero_add, Nat.zero_le, true_and, and_true, Int.toNat_natCast, Sum.inl.injEq, Sum.inr.injEq, ↓reduceIte, Nat.reduceEqDiff]
            exact fin μ4 _ _ (fun a ha => by rw [hf4 a (by unfold bt_inW at *; omega)]; exact f3 a ha) (by rw [bt_sn_s _ 0, htm])
          · rw [if_neg (by omega)]
            rw [if_pos (by simp [h1])] at htm
            exact fin μ3 _ _ f3 (by rw [bt_sn_s _ 0, htm])
      · simp (disch := omega) only [tX8_chanceBehind_32, tX8_chanceBehind_63, tX8_chanceBehind_97, bt_ild, bt_lld, bt_ald, bt_ist, bt_lst, bt_ast, bt_inc, bt_ic, bt_lc, bt_iadd, bt_isub, bt_imul, bt_iand, bt_ior, bt_ixor, bt_ishl, bt_ishr, bt_iushr, bt_ladd, bt_lsub, bt_lmul, bt_land, bt_lor, bt_lushr, bt_lshl, bt_idiv, bt_irem, bt_ldiv, bt_lrem, bt_lcmp, bt_i2l, bt_l2i, bt_i2b, bt_pop, bt_dup, bt_dup2, bt_gfI, bt_gfJ, bt_gfR, bt_pfI, bt_pfZ, bt_pfJ, bt_pfR, bt_ial, bt_bal, bt_zal, bt_lal, bt_aal, bt_ias, bt_bas, bt_zas, bt_las, bt_len, bt_iret, bt_zret, bt_lret, bt_vret, bt_cV, bt_cS, bt_tab, bt_tsw, bt_lk, bt_lsw, bt_acp, bt_mmax, bt_mmin, bt_can, bt_icmpeq, bt_ifeq, bt_icmpne, bt_ifne, bt_icmplt, bt_iflt, bt_icmpge, bt_ifge, bt_icmpgt, bt_ifgt, bt_icmple, bt_ifle, bt_ret, bt_kill, bt_kl, bt_ix, bt_nl, bt_sm, bt_sr, bt_sig, bt_tg, bt_loc, bt_locs, List.getElem?_cons_zero, List.getElem?_cons_succ, List.set_cons_zero, List.set_cons_succ, List.map_cons, List.map_nil, List.take_succ_cons, List.take_zero, List.drop_succ_cons, List.drop_zero, List.reverse_cons, List.reverse_nil, List.nil_append, List.cons_append, List.append_nil, List.length_cons, List.length_nil, List.replicate_succ, List.replicate_zero, Option.toList_some, Option.toList_none, Nat.reduceAdd, Nat.reduceSub, Nat.reduceLeDiff, Nat.zero_add, Nat.zero_le, true_and, and_true, Int.toNat_natCast, Sum.inl.injEq, Sum.inr.injEq, ↓reduceIte, Nat.reduceEqDiff, hρ z _ c2, c3, c4, c5, c6, c7, c8, c9, c10, c11, c12, c13, c14, c15, c16, c17, c18, c19, c20, c21, c22, c23, c24, e1, xd, bt_w_id, d3]
        rw [if_neg (by decide), if_pos (by decide)]
        refine And.intro (by decide) (And.intro (by omega) ?_)
        have hsh : ((x / 10 : Nat) : Int) * μ z 7 = ((x / 10 * r : Nat) : Int) := by
          rw [Int.natCast_mul]
          congr 1
          omega
        have hle : x / 10 * r ≤ 100000 * 10 := Nat.mul_le_mul (by omega) (by omega)
        have htm : ab_tm ζ W (ab_rn ζ W k) σ x 1 = if x / 10 * r = 0 then 0 else if ab_pc ζ (ab_ps ζ σ 0) &&& W ≠ 0 then x / 10 * r else ab_rn ζ W k (ab_ps ζ σ 0) (x / 10 * r) := by
          unfold ab_tm
          rw [hrn]
          simp
        rw [hsh]
        generalize hsg : x / 10 * r = sh at *
        rw [bt_w_id (by omega) (by omega)]
        by_cases h0 : sh = 0
        · rw [if_pos (by omega)]
          exact fin μ1 _ _ hfr (by rw [bt_sn_s _ 1, htm, if_pos h0]; simp)
        · rw [if_neg (by omega)]
          rw [if_neg h0] at htm
          refine ⟨by omega, ρ, μ1, 47 + 4 * k, f, rfl, rfl, hρ, k2, hf, fun μ2 he hf2 => ?_⟩
          have z2 : ab_zq ζ (bt_vw μ2 z) := by rw [← hζ]; exact bt_vw_z (fun j hj => by rw [hf2 _ (by unfold bt_inS; omega)]; exact hfr _ (by unfold bt_inW; omega))
          have s2 : ab_sq ζ σ (bt_vw μ2 (47 + 4 * k)) := hsf.tr ((ab_sq.cp hZ he).sy)
          simp (disch := omega) only [bt_ild, bt_lld, bt_ald, bt_ist, bt_lst, bt_ast, bt_inc, bt_ic, bt_lc, bt_iadd, bt_isub, bt_imul, bt_iand, bt_ior, bt_ixor, bt_ishl, bt_ishr, bt_iushr, bt_ladd, bt_lsub, bt_lmul, bt_land, bt_lor, bt_lushr, bt_lshl, bt_idiv, bt_irem, bt_ldiv, bt_lrem, bt_lcmp, bt_i2l, bt_l2i, bt_i2b, bt_pop, bt_dup, bt_dup2, bt_gfI, bt_gfJ, bt_gfR, bt_pfI, bt_pfZ, bt_pfJ, bt_pfR, bt_ial, bt_bal, bt_zal, bt_lal, bt_aal, bt_ias, bt_bas, bt_zas, bt_las, bt_len, bt_iret, bt_zret, bt_lret, bt_vret, bt_cV, bt_cS, bt_tab, bt_tsw, bt_lk, bt_lsw, bt_acp, bt_mmax, bt_mmin, bt_can, bt_icmpeq, bt_ifeq, bt_icmpne, bt_ifne, bt_icmplt, bt_iflt, bt_icmpge, bt_ifge, bt_icmpgt, bt_ifgt, bt_icmple, bt_ifle, bt_ret, bt_kill, bt_kl, bt_ix, bt_nl, bt_sm, bt_sr, bt_sig, bt_tg, bt_loc, bt_locs, List.getElem?_cons_zero, List.getElem?_cons_succ, List.set_cons_zero, List.set_cons_succ, List.map_cons, List.map_nil, List.take_succ_cons, List.take_zero, List.drop_succ_cons, List.drop_zero, List.reverse_cons, List.reverse_nil, List.nil_append, List.cons_append, List.append_nil, List.length_cons, List.length_nil, List.replicate_succ, List.replicate_zero, Option.toList_some, Option.toList_none, Nat.reduceAdd, Nat.reduceSub, Nat.reduceLeDiff, Nat.zero_add, Nat.zero_le, true_and, and_true, Int.toNat_natCast, Sum.inl.injEq, Sum.inr.injEq, ↓reduceIte, Nat.reduceEqDiff, hρ 36 _ (by decide), rf_36_0, sh_36, sh_37, bt_w_id]
          first | rw [if_pos (by decide)] | rw [if_neg (by decide)]
          repeat (refine And.intro (by omega) ?_)
          refine ⟨ρ, μ2, 37, z, 47 + 4 * k, 0, rfl, rfl, hρ, bt_m37, hz, k2, by decide, z2.Z hZ, ab_sq.S z2 s2 hSt, fun μ3 hj ht hf3 => ?_⟩
          have q1 : ab_sq ζ (bt_vw μ3 (47 + 4 * k)) (ab_ps ζ σ 0) := (ab_sq.zz z2.sy (ab_sq.of hj)).tr (ab_cps z2 s2 hZ hSt 0).sy
          have f3 : bt_fr (bt_inW (k + 1)) μ3 μ := fun a ha => by
            rw [hf3 a (by unfold bt_inW at ha; omega), hf2 a (by unfold bt_inW at ha; unfold bt_inS; omega)]
            exact hfr a ha
          have e3 : μ3 z = μ z := f3 z (by unfold bt_inW; omega)
          simp (disch := omega) only [bt_ild, bt_lld, bt_ald, bt_ist, bt_lst, bt_ast, bt_inc, bt_ic, bt_lc, bt_iadd, bt_isub, bt_imul, bt_iand, bt_ior, bt_ixor, bt_ishl, bt_ishr, bt_iushr, bt_ladd, bt_lsub, bt_lmul, bt_land, bt_lor, bt_lushr, bt_lshl, bt_idiv, bt_irem, bt_ldiv, bt_lrem, bt_lcmp, bt_i2l, bt_l2i, bt_i2b, bt_pop, bt_dup, bt_dup2, bt_gfI, bt_gfJ, bt_gfR, bt_pfI, bt_pfZ, bt_pfJ, bt_pfR, bt_ial, bt_bal, bt_zal, bt_lal, bt_aal, bt_ias, bt_bas, bt_zas, bt_las, bt_len, bt_iret, bt_zret, bt_lret, bt_vret, bt_cV, bt_cS, bt_tab, bt_tsw, bt_lk, bt_lsw, bt_acp, bt_mmax, bt_mmin, bt_can, bt_icmpeq, bt_ifeq, bt_icmpne, bt_ifne, bt_icmplt, bt_iflt, bt_icmpge, bt_ifge, bt_icmpgt, bt_ifgt, bt_icmple, bt_ifle, bt_ret, bt_kill, bt_kl, bt_ix, bt_nl, bt_sm, bt_sr, bt_sig, bt_tg, bt_loc, bt_locs, List.getElem?_cons_zero, List.getElem?_cons_succ, List.set_cons_zero, List.set_cons_succ, List.map_cons, List.map_nil, List.take_succ_cons, List.take_zero, List.drop_succ_cons, List.drop_zero, List.reverse_cons, List.reverse_nil, List.nil_append, List.cons_append, List.append_nil, List.length_cons, List.length_nil, List.replicate_succ, List.replicate_zero, Option.toList_some, Option.toList_none, Nat.reduceAdd, Nat.reduceSub, Nat.reduceLeDiff, Nat.zero_add, Nat.zero_le, true_and, and_true, Int.toNat_natCast, Sum.inl.injEq, Sum.inr.injEq, ↓reduceIte, Nat.reduceEqDiff, hρ z _ c2, c3, c4, c5, c6, c7, c8, c9, c10, c11, c12, c13, c14, c15, c16, c17, c18, c19, c20, c21, c22, c23, c24, d3, e3, hG.1, bt_w_id]
          repeat (refine And.intro (by omega) ?_)
          refine ⟨ρ, μ3, 47 + 4 * k, nG ζ, rfl, rfl, hρ, k2, hr.1, ?_⟩
          have hp1 : bt_bn (fun i => decide (bt_w (μ3 (47 + 4 * k + 2) i) = 0)) (nG ζ) = ab_pc ζ (ab_ps ζ σ 0) := ab_cpc (ζ := ζ) (ζ' := ζ) (ab_zq.rf ζ) q1
          simp (disch := omega) only [bt_ild, bt_lld, bt_ald, bt_ist, bt_lst, bt_ast, bt_inc, bt_ic, bt_lc, bt_iadd, bt_isub, bt_imul, bt_iand, bt_ior, bt_ixor, bt_ishl, bt_ishr, bt_iushr, bt_ladd, bt_lsub, bt_lmul, bt_land, bt_lor, bt_lushr, bt_lshl, bt_idiv, bt_irem, bt_ldiv, bt_lrem, bt_lcmp, bt_i2l, bt_l2i, bt_i2b, bt_pop, bt_dup, bt_dup2, bt_gfI, bt_gfJ, bt_gfR, bt_pfI, bt_pfZ, bt_pfJ, bt_pfR, bt_ial, bt_bal, bt_zal, bt_lal, bt_aal, bt_ias, bt_bas, bt_zas, bt_las, bt_len, bt_iret, bt_zret, bt_lret, bt_vret, bt_cV, bt_cS, bt_tab, bt_tsw, bt_lk, bt_lsw, bt_acp, bt_mmax, bt_mmin, bt_can, bt_icmpeq, bt_ifeq, bt_icmpne, bt_ifne, bt_icmplt, bt_iflt, bt_icmpge, bt_ifge, bt_icmpgt, bt_ifgt, bt_icmple, bt_ifle, bt_ret, bt_kill, bt_kl, bt_ix, bt_nl, bt_sm, bt_sr, bt_sig, bt_tg, bt_loc, bt_locs, List.getElem?_cons_zero, List.getElem?_cons_succ, List.set_cons_zero, List.set_cons_succ, List.map_cons, List.map_nil, List.take_succ_cons, List.take_zero, List.drop_succ_cons, List.drop_zero, List.reverse_cons, List.reverse_nil, List.nil_append, List.cons_append, List.append_nil, List.length_cons, List.length_nil, List.replicate_succ, List.replicate_zero, Option.toList_some, Option.toList_none, Nat.reduceAdd, Nat.reduceSub, Nat.reduceLeDiff, Nat.zero_add, Nat.zero_le, true_and, and_true, Int.toNat_natCast, Sum.inl.injEq, Sum.inr.injEq, ↓reduceIte, Nat.reduceEqDiff, hp1]
          rw [bo_iand_nat (Or.inr (by omega))]
          have hle2 : ab_pc ζ (ab_ps ζ σ 0) &&& W ≤ W := Nat.and_le_right
          rw [bt_w_id (by omega) (by omega)]
          by_cases h1 : ab_pc ζ (ab_ps ζ σ 0) &&& W = 0
          · rw [if_pos (by omega)]
            rw [if_neg (by simp [h1])] at htm
            have z3 : ab_zq ζ (bt_vw μ3 z) := by rw [← hζ]; exact bt_vw_z (fun j hj => f3 _ (by unfold bt_inW; omega))
            have S3 := ab_Sps hZ hSt 0
            refine ⟨by rw [sh_36]; omega, ρ, μ3, z, 47 + 4 * k, W, sh, ?_, rfl, hρ, hz, k2, by omega, hW, by omega, z3.Z hZ, ab_sq.S z3 q1.sy S3, fun μ4 hf4 => ?_⟩
            · rw [show ((k + 1 : Nat) : Int) - 1 = (k : Int) by omega]
            have hrr2 : ab_rn (bt_vw μ3 z) W k (bt_vw μ3 (47 + 4 * k)) sh = ab_rn ζ W k (ab_ps ζ σ 0) sh := (ab_crn z3 hZ W k _ _ sh q1.sy S3).symm
            rw [hrr2]
            simp (disch := omega) only [bt_ild, bt_lld, bt_ald, bt_ist, bt_lst, bt_ast, bt_inc, bt_ic, bt_lc, bt_iadd, bt_isub, bt_imul, bt_iand, bt_ior, bt_ixor, bt_ishl, bt_ishr, bt_iushr, bt_ladd, bt_lsub, bt_lmul, bt_land, bt_lor, bt_lushr, bt_lshl, bt_idiv, bt_irem, bt_ldiv, bt_lrem, bt_lcmp, bt_i2l, bt_l2i, bt_i2b, bt_pop, bt_dup, bt_dup2, bt_gfI, bt_gfJ, bt_gfR, bt_pfI, bt_pfZ, bt_pfJ, bt_pfR, bt_ial, bt_bal, bt_zal, bt_lal, bt_aal, bt_ias, bt_bas, bt_zas, bt_las, bt_len, bt_iret, bt_zret, bt_lret, bt_vret, bt_cV, bt_cS, bt_tab, bt_tsw, bt_lk, bt_lsw, bt_acp, bt_mmax, bt_mmin, bt_can, bt_icmpeq, bt_ifeq, bt_icmpne, bt_ifne, bt_icmplt, bt_iflt, bt_icmpge, bt_ifge, bt_icmpgt, bt_ifgt, bt_icmple, bt_ifle, bt_ret, bt_kill, bt_kl, bt_ix, bt_nl, bt_sm, bt_sr, bt_sig, bt_tg, bt_loc, bt_locs, List.getElem?_cons_zero, List.getElem?_cons_succ, List.set_cons_zero, List.set_cons_succ, List.map_cons, List.map_nil, List.take_succ_cons, List.take_zero, List.drop_succ_cons, List.drop_zero, List.reverse_cons, List.reverse_nil, List.nil_append, List.cons_append, List.append_nil, List.length_cons, List.length_nil, List.replicate_succ, List.replicate_zero, Option.toList_some, Option.toList_none, Nat.reduceAdd, Nat.reduceSub, Nat.reduceLeDiff, Nat.zero_add, Nat.zero_le, true_and, and_true, Int.toNat_natCast, Sum.inl.injEq, Sum.inr.injEq, ↓reduceIte, Nat.reduceEqDiff]
            exact fin μ4 _ _ (fun a ha => by rw [hf4 a (by unfold bt_inW at *; omega)]; exact f3 a ha) (by rw [bt_sn_s _ 1, htm])
          · rw [if_neg (by omega)]
            rw [if_pos (by simp [h1])] at htm
            exact fin μ3 _ _ f3 (by rw [bt_sn_s _ 1, htm])
theorem mtX8_cb : ∀ k, k ≤ 6 → ∀ d, 12 + k ≤ d → bt_Met yX8_chanceBehind cX8_chanceBehind 10 (some .int) d [2, 2, 2, 0, 0, 0] (SpX8_cb k)
  | 0, _, d, hd => mtX8_cb0 d hd
  | k + 1, hk, d, hd => mtX8_cbs k (by omega) (mtX8_cb k (by omega)) d hd
def SpX8_chanceBehind : bt_Sp := fun As w Q => ∃ k, k ≤ 6 ∧ SpX8_cb k As w Q
theorem mtX8_chanceBehind : bt_Met yX8_chanceBehind cX8_chanceBehind 10 (some .int) 65 [2, 2, 2, 0, 0, 0] SpX8_chanceBehind := fun l D cy ad As w Q sz hsig hS => by
  obtain ⟨k, hk, h⟩ := hS
  exact mtX8_cb k hk _ (by omega) l D cy ad As w Q sz hsig h
/-- who is looked at: all, or one -/
def ab_who (g : Int) : Nat := if g = -1 then 63 else 2 ^ g.toNat
def SpX8_chance : bt_Sp := fun As w Q => ∃ (ρ : Nat → Nat → Option Nat) (μ : Nat → Nat → Int) (z k : Nat) (g : Int), As = [.inr (.inr 36), .inr (.inr z), .inr (.inr 136), .inl g, .inl (k : Int)] ∧ w = bt_wd ρ μ ∧ bt_Rf ρ ∧ z ∈ bt_zos ∧ -1 ≤ g ∧ g < 6 ∧ k ≤ 6 ∧ ab_Z (bt_vw μ z) ∧ ab_S (bt_vw μ z) (bt_vw μ 136) ∧ ∀ μ', bt_fr (bt_inW k) μ' μ → Q (some (.inl (ab_rn (bt_vw μ z) (ab_who g) k (bt_vw μ 136) 1000000 : Int))) (bt_wd ρ μ')
set_option maxHeartbeats 4000000 in
theorem mtX8_chance : bt_Met yX8_chance cX8_chance 6 (some .int) 66 [2, 2, 2, 0, 0] SpX8_chance := by
  refine bt_metW (lfX8_chance mtX8_chanceBehind (by decide)) (fun As w Q _ hS => ?_)
  obtain ⟨ρ, μ, z, k, g, rfl, rfl, hρ, hz, hg1, hg2, hk, hZ, hSt, hQ⟩ := hS
  simp (disch := omega) only [tX8_chance_0, tX8_chance_13, bt_ild, bt_lld, bt_ald, bt_ist, bt_lst, bt_ast, bt_inc, bt_ic, bt_lc, bt_iadd, bt_isub, bt_imul, bt_iand, bt_ior, bt_ixor, bt_ishl, bt_ishr, bt_iushr, bt_ladd, bt_lsub, bt_lmul, bt_land, bt_lor, bt_lushr, bt_lshl, bt_idiv, bt_irem, bt_ldiv, bt_lrem, bt_lcmp, bt_i2l, bt_l2i, bt_i2b, bt_pop, bt_dup, bt_dup2, bt_gfI, bt_gfJ, bt_gfR, bt_pfI, bt_pfZ, bt_pfJ, bt_pfR, bt_ial, bt_bal, bt_zal, bt_lal, bt_aal, bt_ias, bt_bas, bt_zas, bt_las, bt_len, bt_iret, bt_zret, bt_lret, bt_vret, bt_cV, bt_cS, bt_tab, bt_tsw, bt_lk, bt_lsw, bt_acp, bt_mmax, bt_mmin, bt_can, bt_icmpeq, bt_ifeq, bt_icmpne, bt_ifne, bt_icmplt, bt_iflt, bt_icmpge, bt_ifge, bt_icmpgt, bt_ifgt, bt_icmple, bt_ifle, bt_ret, bt_kill, bt_kl, bt_ix, bt_nl, bt_sm, bt_sr, bt_sig, bt_tg, bt_loc, bt_locs, List.getElem?_cons_zero, List.getElem?_cons_succ, List.set_cons_zero, List.set_cons_succ, List.map_cons, List.map_nil, List.take_succ_cons, List.take_zero, List.drop_succ_cons, List.drop_zero, List.reverse_cons, List.reverse_nil, List.nil_append, List.cons_append, List.append_nil, List.length_cons, List.length_nil, List.replicate_succ, List.replicate_zero, Option.toList_some, Option.toList_none, Nat.reduceAdd, Nat.reduceSub, Nat.reduceLeDiff, Nat.zero_add, Nat.zero_le, true_and, and_true, Int.toNat_natCast, Sum.inl.injEq, Sum.inr.injEq, ↓reduceIte, Nat.reduceEqDiff, sh_36, bt_w_id]
  by_cases h0 : g = -1
  · subst h0
    rw [if_pos (by decide)]
    refine ⟨by omega, k, hk, ρ, μ, z, 136, 63, 1000000, rfl, rfl, hρ, hz, bt_m136.1, by omega, by omega, by omega, hZ, hSt, fun μ' hf => ?_⟩
    simp (disch := omega) only [bt_ild, bt_lld, bt_ald, bt_ist, bt_lst, bt_ast, bt_inc, bt_ic, bt_lc, bt_iadd, bt_isub, bt_imul, bt_iand, bt_ior, bt_ixor, bt_ishl, bt_ishr, bt_iushr, bt_ladd, bt_lsub, bt_lmul, bt_land, bt_lor, bt_lushr, bt_lshl, bt_idiv, bt_irem, bt_ldiv, bt_lrem, bt_lcmp, bt_i2l, bt_l2i, bt_i2b, bt_pop, bt_dup, bt_dup2, bt_gfI, bt_gfJ, bt_gfR, bt_pfI, bt_pfZ, bt_pfJ, bt_pfR, bt_ial, bt_bal, bt_zal, bt_lal, bt_aal, bt_ias, bt_bas, bt_zas, bt_las, bt_len, bt_iret, bt_zret, bt_lret, bt_vret, bt_cV, bt_cS, bt_tab, bt_tsw, bt_lk, bt_lsw, bt_acp, bt_mmax, bt_mmin, bt_can, bt_icmpeq, bt_ifeq, bt_icmpne, bt_ifne, bt_icmplt, bt_iflt, bt_icmpge, bt_ifge, bt_icmpgt, bt_ifgt, bt_icmple, bt_ifle, bt_ret, bt_kill, bt_kl, bt_ix, bt_nl, bt_sm, bt_sr, bt_sig, bt_tg, bt_loc, bt_locs, List.getElem?_cons_zero, List.getElem?_cons_succ, List.set_cons_zero, List.set_cons_succ, List.map_cons, List.map_nil, List.take_succ_cons, List.take_zero, List.drop_succ_cons, List.drop_zero, List.reverse_cons, List.reverse_nil, List.nil_append, List.cons_append, List.append_nil, List.length_cons, List.length_nil, List.replicate_succ, List.replicate_zero, Option.toList_some, Option.toList_none, Nat.reduceAdd, Nat.reduceSub, Nat.reduceLeDiff, Nat.zero_add, Nat.zero_le, true_and, and_true, Int.toNat_natCast, Sum.inl.injEq, Sum.inr.injEq, ↓reduceIte, Nat.reduceEqDiff]
    exact hQ μ' hf
  · rw [if_neg (by omega)]
    have e : bo_ishl 1 g = ((2 ^ g.toNat : Nat) : Int) := by
      rw [← bo_shl1 (by omega), Int.toNat_of_nonneg (by omega)]
    have h64 : 2 ^ g.toNat < 2 ^ 6 := Nat.pow_lt_pow_right (by decide) (by omega)
    have ew : ab_who g = 2 ^ g.toNat := by simp [ab_who, h0]
    rw [e]
    refine ⟨by omega, k, hk, ρ, μ, z, 136, 2 ^ g.toNat, 1000000, rfl, rfl, hρ, hz, bt_m136.1, by omega, by omega, by omega, hZ, hSt, fun μ' hf => ?_⟩
    simp (disch := omega) only [bt_ild, bt_lld, bt_ald, bt_ist, bt_lst, bt_ast, bt_inc, bt_ic, bt_lc, bt_iadd, bt_isub, bt_imul, bt_iand, bt_ior, bt_ixor, bt_ishl, bt_ishr, bt_iushr, bt_ladd, bt_lsub, bt_lmul, bt_land, bt_lor, bt_lushr, bt_lshl, bt_idiv, bt_irem, bt_ldiv, bt_lrem, bt_lcmp, bt_i2l, bt_l2i, bt_i2b, bt_pop, bt_dup, bt_dup2, bt_gfI, bt_gfJ, bt_gfR, bt_pfI, bt_pfZ, bt_pfJ, bt_pfR, bt_ial, bt_bal, bt_zal, bt_lal, bt_aal, bt_ias, bt_bas, bt_zas, bt_las, bt_len, bt_iret, bt_zret, bt_lret, bt_vret, bt_cV, bt_cS, bt_tab, bt_tsw, bt_lk, bt_lsw, bt_acp, bt_mmax, bt_mmin, bt_can, bt_icmpeq, bt_ifeq, bt_icmpne, bt_ifne, bt_icmplt, bt_iflt, bt_icmpge, bt_ifge, bt_icmpgt, bt_ifgt, bt_icmple, bt_ifle, bt_ret, bt_kill, bt_kl, bt_ix, bt_nl, bt_sm, bt_sr, bt_sig, bt_tg, bt_loc, bt_locs, List.getElem?_cons_zero, List.getElem?_cons_succ, List.set_cons_zero, List.set_cons_succ, List.map_cons, List.map_nil, List.take_succ_cons, List.take_zero, List.drop_succ_cons, List.drop_zero, List.reverse_cons, List.reverse_nil, List.nil_append, List.cons_append, List.append_nil, List.length_cons, List.length_nil, List.replicate_succ, List.replicate_zero, Option.toList_some, Option.toList_none, Nat.reduceAdd, Nat.reduceSub, Nat.reduceLeDiff, Nat.zero_add, Nat.zero_le, true_and, and_true, Int.toNat_natCast, Sum.inl.injEq, Sum.inr.injEq, ↓reduceIte, Nat.reduceEqDiff]
    rw [← ew]
    exact hQ μ' hf
