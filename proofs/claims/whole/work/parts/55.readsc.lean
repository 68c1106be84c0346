/-! the class: rain, first, years, judged, apart, walk -/
theorem ab_rn_le {ζ : Nat → Nat → Int} (hZ : ab_Z ζ) (W : Nat) : ∀ k σ x, ab_rn ζ W k σ x ≤ x
  | 0, _, _ => Nat.zero_le _
  | k + 1, σ, x => by
    have ih := ab_rn_le hZ W k
    have h7 : (ζ 0 7).toNat ≤ 10 := by have := hZ.2.2.2.2.2.2.2.2; omega
    have ht : ∀ i, ab_tm ζ W (ab_rn ζ W k) σ x i ≤ x / 10 * (if i = 1 then (ζ 0 7).toNat else 10 - (ζ 0 7).toNat) := fun i => by
      unfold ab_tm
      generalize x / 10 * (if i = 1 then (ζ 0 7).toNat else 10 - (ζ 0 7).toNat) = y
      generalize ab_ps ζ σ (if i = 0 then 1 else 0) = σ1
      split
      · exact Nat.zero_le _
      · split
        · exact Nat.le_refl _
        · exact ih _ _
    have h0 := ht 0
    have h1 := ht 1
    rw [if_neg (by decide)] at h0
    rw [if_pos rfl] at h1
    show ab_tm ζ W (ab_rn ζ W k) σ x 0 + ab_tm ζ W (ab_rn ζ W k) σ x 1 ≤ x
    have h2 : x / 10 * (10 - (ζ 0 7).toNat) + x / 10 * (ζ 0 7).toNat = x / 10 * 10 := by
      rw [← Nat.mul_add]
      congr 1
      omega
    omega
def an_rain (ζ σ : Nat → Nat → Int) (x y : Int) : Int := if (x = -1 ∨ (0 ≤ x ∧ x < nG ζ)) ∧ 1 ≤ y ∧ y ≤ 6 then (ab_rn ζ (ab_who x) y.toNat σ 1000000 : Int) else -2
def SpX10_rain : bt_Sp := fun As w Q => ∃ (ρ : Nat → Nat → Option Nat) (μ : Nat → Nat → Int) (Ω : om_O) (x y : Int), As = [.inr (.inr 0), .inl x, .inl y] ∧ w = bt_wd ρ μ ∧ ci_I Ω ρ μ ∧ bt_i32 x ∧ bt_i32 y ∧ ∀ μ', bt_fr ci_s2 μ' μ → Q (some (.inl (an_rain Ω.1 Ω.2.1.1 x y))) (bt_wd ρ μ')
set_option maxHeartbeats 4000000 in
theorem mtX10_rain : bt_Met yX10_rain cX10_rain 3 (some .int) 67 [2, 0, 0] SpX10_rain := by
  refine bt_metW (lfX10_rain mtX10_isGuest (by decide) mtX6_copy (by decide) mtX8_chance (by decide)) (fun As w Q _ hS => ?_)
  obtain ⟨ρ, μ, Ω, x, y, rfl, rfl, hI, hx, hy, hQ⟩ := hS
  obtain ⟨P, P', hR, hE, hz1, hZ', hS', hZ, hSt, hsq, ⟨⟨n0, m0⟩, ⟨n1, m1⟩, n2, m2⟩, hP1, hP2⟩ := ci_f hI
  obtain ⟨hρ, ⟨hP, hP', hPP⟩, r0, r1, r2, r3, r4, r5, r6, r7, r8, r9, r10, r11⟩ := id hR
  obtain ⟨c1, c2, c3, c4, c5, c6, c7, c8, c9, c10, c11, c12, c13, c14, c15, c16, c17, c18, c19, c20, c21, c22, c23, c24, c25⟩ := bt_zo_f P hP
  generalize hζ : Ω.1 = ζ at *
  generalize hσ : Ω.2.1.1 = σ at *
  have q0 := hQ μ (fun a _ => rfl)
  unfold an_rain at q0 hQ
  have hx' := hx
  unfold bt_i32 at hx' hy
  have l13 : (x = -1 ∨ (0 ≤ x ∧ x < (nG ζ : Int))) → tX10_rain_13 SpX10_isGuest SpX6_copy SpX8_chance bt_k0 Q [] [some (.inr (.inr 0)), some (.inl x), some (.inl y)] (bt_wd ρ μ) := fun hg => by
    simp (disch := omega) only [tX10_rain_13, tX10_rain_24, bt_ild, bt_ic, bt_icmplt, bt_icmple, bt_iret, bt_ald, bt_gfR, bt_cV, bt_sig, bt_tg, bt_loc, bt_locs, List.getElem?_cons_zero, List.getElem?_cons_succ, List.set_cons_zero, List.set_cons_succ, List.map_cons, List.map_nil, List.take_succ_cons, List.take_zero, List.drop_succ_cons, List.drop_zero, List.reverse_cons, List.reverse_nil, List.nil_append, List.cons_append, List.append_nil, List.length_cons, List.length_nil, List.replicate_succ, List.replicate_zero, Option.toList_some, Option.toList_none, Nat.reduceAdd, Nat.reduceSub, Nat.reduceLeDiff, Nat.zero_add, Nat.zero_le, true_and, and_true, Int.toNat_natCast, Sum.inl.injEq, Sum.inr.injEq, ↓reduceIte, Nat.reduceEqDiff, bt_w_id, r8, r10, sh_0, sh_105, sh_136, hρ 105 _ (by decide), rf_105_0]
    by_cases h1 : y < 1
    · rw [if_pos h1]
      rw [if_neg (by omega)] at q0
      exact q0
    · rw [if_neg h1]
      by_cases h2 : y ≤ 6
      · rw [if_pos h2]
        have hc2 : (x = -1 ∨ (0 ≤ x ∧ x < (nG ζ : Int))) ∧ 1 ≤ y ∧ y ≤ 6 := ⟨hg, by omega, h2⟩
        simp only [if_pos hc2] at hQ
        obtain ⟨k, rfl⟩ : ∃ k : Nat, y = (k : Int) := ⟨y.toNat, by omega⟩
        simp only [Int.toNat_natCast] at hQ
        repeat (refine And.intro (by first | omega | decide | (simp only [and_true, true_and]; omega)) ?_)
        refine ⟨ρ, μ, 136, 106, rfl, rfl, hρ, bt_m136.1, bt_m136.2.1, fun μ' he hf => ?_⟩
        have hz2 : ab_zq ζ (bt_vw μ' P) := hz1.tr' (bt_vw_z (fun j hj => hf _ (by unfold bt_inS; omega)))
        have hs2 : ab_sq ζ σ (bt_vw μ' 136) := hsq.tr (ab_sq.cp hZ he).sy
        simp (disch := omega) only [bt_ret, bt_ild, bt_ic, bt_iret, bt_ald, bt_gfR, bt_cV, bt_sig, bt_tg, bt_loc, bt_locs, List.getElem?_cons_zero, List.getElem?_cons_succ, List.set_cons_zero, List.set_cons_succ, List.map_cons, List.map_nil, List.take_succ_cons, List.take_zero, List.drop_succ_cons, List.drop_zero, List.reverse_cons, List.reverse_nil, List.nil_append, List.cons_append, List.append_nil, List.length_cons, List.length_nil, List.replicate_succ, List.replicate_zero, Option.toList_some, Option.toList_none, Nat.reduceAdd, Nat.reduceSub, Nat.reduceLeDiff, Nat.zero_add, Nat.zero_le, true_and, and_true, Int.toNat_natCast, Sum.inl.injEq, Sum.inr.injEq, ↓reduceIte, Nat.reduceEqDiff, bt_w_id, r4, r6, r10, sh_0, sh_36]
        repeat (refine And.intro (by first | omega | decide | (simp only [and_true, true_and]; omega)) ?_)
        refine ⟨ρ, μ', P, k, x, rfl, rfl, hρ, hP, by omega, by omega, by omega, hz2.Z hZ, ab_sq.S hz2 hs2 hSt, fun μ2 hf2 => ?_⟩
        simp (disch := omega) only [bt_ild, bt_lld, bt_ald, bt_ist, bt_lst, bt_ast, bt_inc, bt_ic, bt_lc, bt_iadd, bt_isub, bt_imul, bt_iand, bt_ior, bt_ixor, bt_ishl, bt_ishr, bt_iushr, bt_ladd, bt_lsub, bt_lmul, bt_land, bt_lor, bt_lushr, bt_lshl, bt_idiv, bt_irem, bt_ldiv, bt_lrem, bt_lcmp, bt_i2l, bt_l2i, bt_i2b, bt_pop, bt_dup, bt_dup2, bt_gfI, bt_gfJ, bt_gfR, bt_pfI, bt_pfZ, bt_pfJ, bt_pfR, bt_ial, bt_bal, bt_zal, bt_lal, bt_aal, bt_ias, bt_bas, bt_zas, bt_las, bt_len, bt_iret, bt_zret, bt_lret, bt_vret, bt_cV, bt_cS, bt_tab, bt_tsw, bt_lk, bt_lsw, bt_acp, bt_mmax, bt_mmin, bt_can, bt_icmpeq, bt_ifeq, bt_icmpne, bt_ifne, bt_icmplt, bt_iflt, bt_icmpge, bt_ifge, bt_icmpgt, bt_ifgt, bt_icmple, bt_ifle, bt_ret, bt_kill, bt_kl, bt_ix, bt_nl, bt_sm, bt_sr, bt_sig, bt_tg, bt_loc, bt_locs, List.getElem?_cons_zero, List.getElem?_cons_succ, List.set_cons_zero, List.set_cons_succ, List.map_cons, List.map_nil, List.take_succ_cons, List.take_zero, List.drop_succ_cons, List.drop_zero, List.reverse_cons, List.reverse_nil, List.nil_append, List.cons_append, List.append_nil, List.length_cons, List.length_nil, List.replicate_succ, List.replicate_zero, Option.toList_some, Option.toList_none, Nat.reduceAdd, Nat.reduceSub, Nat.reduceLeDiff, Nat.zero_add, Nat.zero_le, true_and, and_true, Int.toNat_natCast, Sum.inl.injEq, Sum.inr.injEq, ↓reduceIte, Nat.reduceEqDiff]
        rw [← ab_crn hz2 hZ (ab_who x) k σ _ 1000000 hs2 hSt]
        exact hQ μ2 (fun a ha => by unfold ci_s2 at ha; rw [hf2 a (by unfold bt_inW; omega), hf a (by unfold bt_inS; omega)])
      · rw [if_neg h2]
        rw [if_neg (by omega)] at q0
        exact q0
  simp (disch := omega) only [tX10_rain_0, tX10_rain_24, bt_ild, bt_ic, bt_icmpeq, bt_ald, bt_cV, bt_sig, bt_tg, bt_loc, bt_locs, List.getElem?_cons_zero, List.getElem?_cons_succ, List.set_cons_zero, List.set_cons_succ, List.map_cons, List.map_nil, List.take_succ_cons, List.take_zero, List.drop_succ_cons, List.drop_zero, List.reverse_cons, List.reverse_nil, List.nil_append, List.cons_append, List.append_nil, List.length_cons, List.length_nil, List.replicate_succ, List.replicate_zero, Option.toList_some, Option.toList_none, Nat.reduceAdd, Nat.reduceSub, Nat.reduceLeDiff, Nat.zero_add, Nat.zero_le, true_and, and_true, Int.toNat_natCast, Sum.inl.injEq, Sum.inr.injEq, ↓reduceIte, Nat.reduceEqDiff, bt_w_id, sh_0]
  by_cases h1 : x = -1
  · rw [if_pos h1]
    exact l13 (Or.inl h1)
  · rw [if_neg h1]
    repeat (refine And.intro (by first | omega | decide | (simp only [and_true, true_and]; omega)) ?_)
    refine is_call (n := nG ζ) (k := 0) hR n1 m1 hx _ (Or.inr (Or.inl ⟨rfl, rfl⟩)) ?_
    by_cases h2 : 0 ≤ x ∧ x < (nG ζ : Int)
    · rw [if_pos h2]
      simp (disch := omega) only [bt_ret, bt_ifeq, bt_loc, bt_locs, List.getElem?_cons_zero, List.getElem?_cons_succ, List.set_cons_zero, List.set_cons_succ, List.map_cons, List.map_nil, List.take_succ_cons, List.take_zero, List.drop_succ_cons, List.drop_zero, List.reverse_cons, List.reverse_nil, List.nil_append, List.cons_append, List.append_nil, List.length_cons, List.length_nil, List.replicate_succ, List.replicate_zero, Option.toList_some, Option.toList_none, Nat.reduceAdd, Nat.reduceSub, Nat.reduceLeDiff, Nat.zero_add, Nat.zero_le, true_and, and_true, Int.toNat_natCast, Sum.inl.injEq, Sum.inr.injEq, ↓reduceIte, Nat.reduceEqDiff, bt_w_id, Int.reduceEq]
      exact l13 (Or.inr h2)
    · rw [if_neg h2]
      rw [if_neg (by omega)] at q0
      simp (disch := omega) only [bt_ret, bt_ifeq, bt_ic, bt_iret, bt_loc, bt_locs, List.getElem?_cons_zero, List.getElem?_cons_succ, List.set_cons_zero, List.set_cons_succ, List.map_cons, List.map_nil, List.take_succ_cons, List.take_zero, List.drop_succ_cons, List.drop_zero, List.reverse_cons, List.reverse_nil, List.nil_append, List.cons_append, List.append_nil, List.length_cons, List.length_nil, List.replicate_succ, List.replicate_zero, Option.toList_some, Option.toList_none, Nat.reduceAdd, Nat.reduceSub, Nat.reduceLeDiff, Nat.zero_add, Nat.zero_le, true_and, and_true, Int.toNat_natCast, Sum.inl.injEq, Sum.inr.injEq, ↓reduceIte, Nat.reduceEqDiff, bt_w_id]
      exact q0
def an_fi (ζ σ : Nat → Nat → Int) (k : Nat) : Nat → Int × Nat
  | 0 => (-1, 1000001)
  | n + 1 => if ab_rn ζ 63 k (ab_ch ζ σ n) 1000000 < (an_fi ζ σ k n).2 then ((n : Int), ab_rn ζ 63 k (ab_ch ζ σ n) 1000000) else an_fi ζ σ k n
theorem an_fi_rg (ζ σ : Nat → Nat → Int) (k : Nat) : ∀ n, (an_fi ζ σ k n).2 ≤ 1000001
  | 0 => Nat.le_refl _
  | n + 1 => by
    have ih := an_fi_rg ζ σ k n
    unfold an_fi
    split
    next h => show ab_rn ζ 63 k (ab_ch ζ σ n) 1000000 ≤ _; omega
    next h => exact ih
def an_first (ζ σ : Nat → Nat → Int) (y : Int) : Int := if 1 ≤ y ∧ y ≤ 6 then (an_fi ζ σ y.toNat (nG ζ)).1 else -1
def SpX10_first : bt_Sp := fun As w Q => ∃ (ρ : Nat → Nat → Option Nat) (μ : Nat → Nat → Int) (Ω : om_O) (y : Int), As = [.inr (.inr 0), .inl y] ∧ w = bt_wd ρ μ ∧ ci_I Ω ρ μ ∧ bt_i32 y ∧ ∀ μ', bt_fr ci_s2 μ' μ → Q (some (.inl (an_first Ω.1 Ω.2.1.1 y))) (bt_wd ρ μ')
set_option maxHeartbeats 4000000 in
theorem mtX10_first : bt_Met yX10_first cX10_first 6 (some .int) 67 [2, 0] SpX10_first := by
  refine lpX10_first mtX6_copy (by decide) mtX9_cheer (by decide) mtX8_chance (by decide) _ (fun As w Q _ hS => ?_)
  obtain ⟨ρ, μ, Ω, y, rfl, rfl, hI, hy, hQ⟩ := hS
  obtain ⟨P, P', hR, hE, hz1, hZ', hS', hZ, hSt, hsq, ⟨⟨n0, m0⟩, ⟨n1, m1⟩, n2, m2⟩, hP1, hP2⟩ := ci_f hI
  obtain ⟨hρ, ⟨hP, hP', hPP⟩, r0, r1, r2, r3, r4, r5, r6, r7, r8, r9, r10, r11⟩ := id hR
  obtain ⟨c1, c2, c3, c4, c5, c6, c7, c8, c9, c10, c11, c12, c13, c14, c15, c16, c17, c18, c19, c20, c21, c22, c23, c24, c25⟩ := bt_zo_f P hP
  generalize hζ : Ω.1 = ζ at *
  generalize hσ : Ω.2.1.1 = σ at *
  have q0 := hQ μ (fun a _ => rfl)
  unfold an_first at q0 hQ
  unfold bt_i32 at hy
  refine ⟨fun _ m st L w => st = [] ∧ ∃ (i k : Nat) (μ1 : Nat → Nat → Int), y = (k : Int) ∧ 1 ≤ k ∧ k ≤ 6 ∧ w = bt_wd ρ μ1 ∧ bt_fr ci_s2 μ1 μ ∧ i ≤ nG ζ ∧ m = nG ζ - i ∧ L = [some (.inr (.inr 0)), some (.inl (k : Int)), some (.inl (an_fi ζ σ k i).1), some (.inl ((an_fi ζ σ k i).2 : Int)), some (.inl (i : Int)), none], ?_, ?_⟩
  · simp (disch := omega) only [tX10_first_0, tX10_first_11, bt_ild, bt_lld, bt_ald, bt_ist, bt_lst, bt_ast, bt_inc, bt_ic, bt_lc, bt_iadd, bt_isub, bt_imul, bt_iand, bt_ior, bt_ixor, bt_ishl, bt_ishr, bt_iushr, bt_ladd, bt_lsub, bt_lmul, bt_land, bt_lor, bt_lushr, bt_lshl, bt_idiv, bt_irem, bt_ldiv, bt_lrem, bt_lcmp, bt_i2l, bt_l2i, bt_i2b, bt_pop, bt_dup, bt_dup2, bt_gfI, bt_gfJ, bt_gfR, bt_pfI, bt_pfZ, bt_pfJ, bt_pfR, bt_ial, bt_bal, bt_zal, bt_lal, bt_aal, bt_ias, bt_bas, bt_zas, bt_las, bt_len, bt_iret, bt_zret, bt_lret, bt_vret, bt_cV, bt_cS, bt_tab, bt_tsw, bt_lk, bt_lsw, bt_acp, bt_mmax, bt_mmin, bt_can, bt_icmpeq, bt_ifeq, bt_icmpne, bt_ifne, bt_icmplt, bt_iflt, bt_icmpge, bt_ifge, bt_icmpgt, bt_ifgt, bt_icmple, bt_ifle, bt_ret, bt_kill, bt_kl, bt_ix, bt_nl, bt_sm, bt_sr, bt_sig, bt_tg, bt_loc, bt_locs, List.getElem?_cons_zero, List.getElem?_cons_succ, List.set_cons_zero, List.set_cons_succ, List.map_cons, List.map_nil, List.take_succ_cons, List.take_zero, List.drop_succ_cons, List.drop_zero, List.reverse_cons, List.reverse_nil, List.nil_append, List.cons_append, List.append_nil, List.length_cons, List.length_nil, List.replicate_succ, List.replicate_zero, Option.toList_some, Option.toList_none, Nat.reduceAdd, Nat.reduceSub, Nat.reduceLeDiff, Nat.zero_add, Nat.zero_le, true_and, and_true, Int.toNat_natCast, Sum.inl.injEq, Sum.inr.injEq, ↓reduceIte, Nat.reduceEqDiff, bt_w_id]
    by_cases h1 : y < 1
    · rw [if_pos h1]
      rw [if_neg (by omega)] at q0
      exact q0
    · rw [if_neg h1]
      by_cases h2 : y ≤ 6
      · rw [if_pos h2]
        exact ⟨nG ζ, 0, y.toNat, μ, by omega, by omega, by omega, rfl, fun _ _ => rfl, by omega, by omega, by rw [Int.toNat_of_nonneg (by omega)]; rfl⟩
      · rw [if_neg h2]
        rw [if_neg (by omega)] at q0
        exact q0
  · rintro m st L w ⟨rfl, i, k, μ1, rfl, hk1, hk2, rfl, hfr, hi, rfl, rfl⟩
    have e1 : μ1 P = μ P := hfr P (by unfold ci_s2; omega)
    have hrg := an_fi_rg ζ σ k i
    simp (disch := omega) only [tX10_first_22, tX10_first_92, bt_ild, bt_ald, bt_gfR, bt_gfI, bt_icmpge, bt_iret, bt_cV, bt_sig, bt_tg, bt_loc, bt_locs, List.getElem?_cons_zero, List.getElem?_cons_succ, List.set_cons_zero, List.set_cons_succ, List.map_cons, List.map_nil, List.take_succ_cons, List.take_zero, List.drop_succ_cons, List.drop_zero, List.reverse_cons, List.reverse_nil, List.nil_append, List.cons_append, List.append_nil, List.length_cons, List.length_nil, List.replicate_succ, List.replicate_zero, Option.toList_some, Option.toList_none, Nat.reduceAdd, Nat.reduceSub, Nat.reduceLeDiff, Nat.zero_add, Nat.zero_le, true_and, and_true, Int.toNat_natCast, Sum.inl.injEq, Sum.inr.injEq, ↓reduceIte, Nat.reduceEqDiff, bt_w_id, r6, r8, r10, sh_0, sh_105, sh_136, hρ 105 _ (by decide), rf_105_0, hρ P _ c2, c3, c4, c5, c6, c7, c8, c9, c10, c11, c12, c13, c14, c15, c16, c17, c18, c19, c20, c21, c22, c23, c24, e1, n1]
    repeat (refine And.intro (by first | omega | decide | (simp only [and_true, true_and]; omega)) ?_)
    by_cases hc : nG ζ ≤ i
    · rw [if_pos (by omega)]
      have : i = nG ζ := by omega
      subst this
      have q := hQ μ1 hfr
      rw [if_pos (by omega)] at q
      exact q
    · rw [if_neg (by omega)]
      repeat (refine And.intro (by first | omega | decide | (simp only [and_true, true_and]; omega)) ?_)
      refine ⟨ρ, μ1, 136, 106, rfl, rfl, hρ, bt_m136.1, bt_m136.2.1, fun μ2 he hf => ?_⟩
      have e106 : ∀ j, j < 4 → μ1 (106 + j) = μ (106 + j) := fun j hj => hfr _ (by unfold ci_s2; omega)
      have hz2 : ab_zq ζ (bt_vw μ2 P) := hz1.tr' (bt_vw_z (fun j hj => by rw [hf _ (by unfold bt_inS; omega)]; exact hfr _ (by unfold ci_s2; omega)))
      have hs2 : ab_sq ζ σ (bt_vw μ2 136) := (bt_vwc e106 ζ σ hsq).tr (ab_sq.cp hZ he).sy
      simp (disch := omega) only [bt_ret, bt_ild, bt_ic, bt_ald, bt_gfR, bt_cV, bt_sig, bt_tg, bt_loc, bt_locs, List.getElem?_cons_zero, List.getElem?_cons_succ, List.set_cons_zero, List.set_cons_succ, List.map_cons, List.map_nil, List.take_succ_cons, List.take_zero, List.drop_succ_cons, List.drop_zero, List.reverse_cons, List.reverse_nil, List.nil_append, List.cons_append, List.append_nil, List.length_cons, List.length_nil, List.replicate_succ, List.replicate_zero, Option.toList_some, Option.toList_none, Nat.reduceAdd, Nat.reduceSub, Nat.reduceLeDiff, Nat.zero_add, Nat.zero_le, true_and, and_true, Int.toNat_natCast, Sum.inl.injEq, Sum.inr.injEq, ↓reduceIte, Nat.reduceEqDiff, r6, r10, sh_0, hρ P _ c2, c3, c4, c5, c6, c7, c8, c9, c10, c11, c12, c13, c14, c15, c16, c17, c18, c19, c20, c21, c22, c23, c24]
      repeat (refine And.intro (by first | omega | decide | (simp only [and_true, true_and]; omega)) ?_)
      refine ⟨ρ, μ2, P, 136, i, rfl, rfl, hρ, hP, bt_m136.1, by omega, fun μ3 hj hf3 => ?_⟩
      have hz3 : ab_zq ζ (bt_vw μ3 P) := hz2.tr' (bt_vw_z (fun j hj => hf3 _ (by unfold bt_inS; omega)))
      have hs3 : ab_sq ζ (ab_ch ζ σ i) (bt_vw μ3 136) := (ab_cch hz2 hs2 (by omega)).tr (ab_sq.of hj).sy
      have hS3 := ab_Sch hZ hSt (show i < nG ζ by omega)
      simp (disch := omega) only [bt_ret, bt_ild, bt_ic, bt_ald, bt_gfR, bt_cV, bt_sig, bt_tg, bt_loc, bt_locs, List.getElem?_cons_zero, List.getElem?_cons_succ, List.set_cons_zero, List.set_cons_succ, List.map_cons, List.map_nil, List.take_succ_cons, List.take_zero, List.drop_succ_cons, List.drop_zero, List.reverse_cons, List.reverse_nil, List.nil_append, List.cons_append, List.append_nil, List.length_cons, List.length_nil, List.replicate_succ, List.replicate_zero, Option.toList_some, Option.toList_none, Nat.reduceAdd, Nat.reduceSub, Nat.reduceLeDiff, Nat.zero_add, Nat.zero_le, true_and, and_true, Int.toNat_natCast, Sum.inl.injEq, Sum.inr.injEq, ↓reduceIte, Nat.reduceEqDiff, r4, r6, r10, sh_0, sh_36]
      repeat (refine And.intro (by first | omega | decide | (simp only [and_true, true_and]; omega)) ?_)
      refine ⟨ρ, μ3, P, k, -1, rfl, rfl, hρ, hP, by omega, by omega, by omega, hz3.Z hZ, ab_sq.S hz3 hs3 hS3, fun μ4 hf4 => ?_⟩
      rw [← ab_crn hz3 hZ (ab_who (-1)) k _ _ 1000000 hs3 hS3]
      have ew : ab_who (-1) = 63 := rfl
      rw [ew]
      have hle := ab_rn_le hZ 63 k (ab_ch ζ σ i) 1000000
      have hst : an_fi ζ σ k (i + 1) = if ab_rn ζ 63 k (ab_ch ζ σ i) 1000000 < (an_fi ζ σ k i).2 then ((i : Int), ab_rn ζ 63 k (ab_ch ζ σ i) 1000000) else an_fi ζ σ k i := rfl
      have hfr4 : bt_fr ci_s2 μ4 μ := fun a ha => by
        have ha' := ha
        unfold ci_s2 at ha'
        rw [hf4 a (by unfold bt_inW; omega), hf3 a (by unfold bt_inS; omega), hf a (by unfold bt_inS; omega)]
        exact hfr a ha
      simp (disch := omega) only [bt_ild, bt_lld, bt_ald, bt_ist, bt_lst, bt_ast, bt_inc, bt_ic, bt_lc, bt_iadd, bt_isub, bt_imul, bt_iand, bt_ior, bt_ixor, bt_ishl, bt_ishr, bt_iushr, bt_ladd, bt_lsub, bt_lmul, bt_land, bt_lor, bt_lushr, bt_lshl, bt_idiv, bt_irem, bt_ldiv, bt_lrem, bt_lcmp, bt_i2l, bt_l2i, bt_i2b, bt_pop, bt_dup, bt_dup2, bt_gfI, bt_gfJ, bt_gfR, bt_pfI, bt_pfZ, bt_pfJ, bt_pfR, bt_ial, bt_bal, bt_zal, bt_lal, bt_aal, bt_ias, bt_bas, bt_zas, bt_las, bt_len, bt_iret, bt_zret, bt_lret, bt_vret, bt_cV, bt_cS, bt_tab, bt_tsw, bt_lk, bt_lsw, bt_acp, bt_mmax, bt_mmin, bt_can, bt_icmpeq, bt_ifeq, bt_icmpne, bt_ifne, bt_icmplt, bt_iflt, bt_icmpge, bt_ifge, bt_icmpgt, bt_ifgt, bt_icmple, bt_ifle, bt_ret, bt_kill, bt_kl, bt_ix, bt_nl, bt_sm, bt_sr, bt_sig, bt_tg, bt_loc, bt_locs, List.getElem?_cons_zero, List.getElem?_cons_succ, List.set_cons_zero, List.set_cons_succ, List.map_cons, List.map_nil, List.take_succ_cons, List.take_zero, List.drop_succ_cons, List.drop_zero, List.reverse_cons, List.reverse_nil, List.nil_append, List.cons_append, List.append_nil, List.length_cons, List.length_nil, List.replicate_succ, List.replicate_zero, Option.toList_some, Option.toList_none, Nat.reduceAdd, Nat.reduceSub, Nat.reduceLeDiff, Nat.zero_add, Nat.zero_le, true_and, and_true, Int.toNat_natCast, Sum.inl.injEq, Sum.inr.injEq, ↓reduceIte, Nat.reduceEqDiff, bt_w_id]
      by_cases hlt : ab_rn ζ 63 k (ab_ch ζ σ i) 1000000 < (an_fi ζ σ k i).2
      · rw [if_neg (by omega)]
        rw [if_pos hlt] at hst
        exact ⟨nG ζ - (i + 1), by omega, i + 1, k, μ4, rfl, hk1, hk2, rfl, hfr4, by omega, rfl, by rw [hst]; rfl⟩
      · rw [if_pos (by omega)]
        rw [if_neg hlt] at hst
        exact ⟨nG ζ - (i + 1), by omega, i + 1, k, μ4, rfl, hk1, hk2, rfl, hfr4, by omega, rfl, by rw [hst]; rfl⟩
def an_years (ζ σ : Nat → Nat → Int) (x y v : Int) : Int := if (0 ≤ x ∧ x ≤ 9999) ∧ (1 ≤ y ∧ y ≤ 100) ∧ 0 ≤ v ∧ v ≤ 2 then (if v = 0 then (ab_ys ζ σ x.toNat y.toNat).2.2.1 else if v = 1 then (ab_ys ζ σ x.toNat y.toNat).2.2.2 else bt_sn ((ab_ys ζ σ x.toNat y.toNat).1 2) (nG ζ)) else -1
def SpX10_years : bt_Sp := fun As w Q => ∃ (ρ : Nat → Nat → Option Nat) (μ : Nat → Nat → Int) (Ω : om_O) (x y v : Int), As = [.inr (.inr 0), .inl x, .inl y, .inl v] ∧ w = bt_wd ρ μ ∧ ci_I Ω ρ μ ∧ bt_i32 x ∧ bt_i32 y ∧ bt_i32 v ∧ ∀ μ', bt_fr ci_s2 μ' μ → Q (some (.inl (an_years Ω.1 Ω.2.1.1 x y v))) (bt_wd ρ μ')
set_option maxHeartbeats 4000000 in
theorem mtX10_years : bt_Met yX10_years cX10_years 4 (some .int) 7 [2, 0, 0, 0] SpX10_years := by
  refine bt_metW (lfX10_years mtX6_copy (by decide) mtX8_liveOn (by decide) mtX6_moodsTogether (by decide)) (fun As w Q _ hS => ?_)
  obtain ⟨ρ, μ, Ω, x, y, v, rfl, rfl, hI, hx, hy, hv, hQ⟩ := hS
  obtain ⟨P, P', hR, hE, hz1, hZ', hS', hZ, hSt, hsq, ⟨⟨n0, m0⟩, ⟨n1, m1⟩, n2, m2⟩, hP1, hP2⟩ := ci_f hI
  obtain ⟨hρ, ⟨hP, hP', hPP⟩, r0, r1, r2, r3, r4, r5, r6, r7, r8, r9, r10, r11⟩ := id hR
  obtain ⟨c1, c2, c3, c4, c5, c6, c7, c8, c9, c10, c11, c12, c13, c14, c15, c16, c17, c18, c19, c20, c21, c22, c23, c24, c25⟩ := bt_zo_f P hP
  generalize hζ : Ω.1 = ζ at *
  generalize hσ : Ω.2.1.1 = σ at *
  have q0 := hQ μ (fun a _ => rfl)
  unfold an_years at q0 hQ
  unfold bt_i32 at hx hy hv
  simp (disch := omega) only [tX10_years_0, tX10_years_31, bt_ild, bt_ic, bt_iflt, bt_icmpgt, bt_icmplt, bt_icmple, bt_iret, bt_ald, bt_gfR, bt_cV, bt_sig, bt_tg, bt_loc, bt_locs, List.getElem?_cons_zero, List.getElem?_cons_succ, List.set_cons_zero, List.set_cons_succ, List.map_cons, List.map_nil, List.take_succ_cons, List.take_zero, List.drop_succ_cons, List.drop_zero, List.reverse_cons, List.reverse_nil, List.nil_append, List.cons_append, List.append_nil, List.length_cons, List.length_nil, List.replicate_succ, List.replicate_zero, Option.toList_some, Option.toList_none, Nat.reduceAdd, Nat.reduceSub, Nat.reduceLeDiff, Nat.zero_add, Nat.zero_le, true_and, and_true, Int.toNat_natCast, Sum.inl.injEq, Sum.inr.injEq, ↓reduceIte, Nat.reduceEqDiff, bt_w_id, r8, r10, sh_0, sh_105, sh_136, hρ 105 _ (by decide), rf_105_0]
  by_cases hc2 : (0 ≤ x ∧ x ≤ 9999) ∧ (1 ≤ y ∧ y ≤ 100) ∧ 0 ≤ v ∧ v ≤ 2
  · simp only [if_pos hc2] at hQ
    rw [if_neg (by omega), if_neg (by omega), if_neg (by omega), if_neg (by omega), if_neg (by omega), if_pos (by omega)]
    obtain ⟨s, rfl⟩ : ∃ k : Nat, x = (k : Int) := ⟨x.toNat, by omega⟩
    obtain ⟨k, rfl⟩ : ∃ k : Nat, y = (k : Int) := ⟨y.toNat, by omega⟩
    simp only [Int.toNat_natCast] at hQ
    repeat (refine And.intro (by first | omega | decide | (simp only [and_true, true_and]; omega)) ?_)
    refine ⟨ρ, μ, 136, 106, rfl, rfl, hρ, bt_m136.1, bt_m136.2.1, fun μ2 he hf => ?_⟩
    have hz2 : ab_zq ζ (bt_vw μ2 P) := hz1.tr' (bt_vw_z (fun j hj => hf _ (by unfold bt_inS; omega)))
    have hs2 : ab_sq ζ σ (bt_vw μ2 136) := hsq.tr (ab_sq.cp hZ he).sy
    simp (disch := omega) only [bt_ret, bt_ild, bt_ald, bt_gfR, bt_cV, bt_sig, bt_tg, bt_loc, bt_locs, List.getElem?_cons_zero, List.getElem?_cons_succ, List.set_cons_zero, List.set_cons_succ, List.map_cons, List.map_nil, List.take_succ_cons, List.take_zero, List.drop_succ_cons, List.drop_zero, List.reverse_cons, List.reverse_nil, List.nil_append, List.cons_append, List.append_nil, List.length_cons, List.length_nil, List.replicate_succ, List.replicate_zero, Option.toList_some, Option.toList_none, Nat.reduceAdd, Nat.reduceSub, Nat.reduceLeDiff, Nat.zero_add, Nat.zero_le, true_and, and_true, Int.toNat_natCast, Sum.inl.injEq, Sum.inr.injEq, ↓reduceIte, Nat.reduceEqDiff, r4, r6, r10, sh_0, sh_36]
    repeat (refine And.intro (by first | omega | decide | (simp only [and_true, true_and]; omega)) ?_)
    refine ⟨ρ, μ2, P, s, k, rfl, rfl, hρ, hP, by omega, by omega, hz2.Z hZ, ab_sq.S hz2 hs2 hSt, fun μ3 g1 g2 g3 hf3 => ?_⟩
    obtain ⟨y1, y2, y3⟩ := ab_cys hz2 hZ hs2 hSt s k
    rw [← y3] at g2 g3
    have hfr3 : bt_fr ci_s2 μ3 μ := fun a ha => by
      unfold ci_s2 at ha
      rw [hf3 a (by unfold bt_inY; omega), hf a (by unfold bt_inS; omega)]
    have e1 : μ3 P = μ P := by rw [hf3 P (by unfold bt_inY; omega), hf P (by unfold bt_inS; omega)]
    have hQ3 := hQ μ3 hfr3
    simp (disch := omega) only [tX10_years_107, bt_ret, bt_ild, bt_ic, bt_ifne, bt_icmpne, bt_iret, bt_ald, bt_gfR, bt_gfI, bt_cV, bt_sig, bt_tg, bt_loc, bt_locs, List.getElem?_cons_zero, List.getElem?_cons_succ, List.set_cons_zero, List.set_cons_succ, List.map_cons, List.map_nil, List.take_succ_cons, List.take_zero, List.drop_succ_cons, List.drop_zero, List.reverse_cons, List.reverse_nil, List.nil_append, List.cons_append, List.append_nil, List.length_cons, List.length_nil, List.replicate_succ, List.replicate_zero, Option.toList_some, Option.toList_none, Nat.reduceAdd, Nat.reduceSub, Nat.reduceLeDiff, Nat.zero_add, Nat.zero_le, true_and, and_true, Int.toNat_natCast, Sum.inl.injEq, Sum.inr.injEq, ↓reduceIte, Nat.reduceEqDiff, bt_w_id, r4, r6, r10, sh_0, sh_36, sh_136, hρ P _ c2, c3, c4, c5, c6, c7, c8, c9, c10, c11, c12, c13, c14, c15, c16, c17, c18, c19, c20, c21, c22, c23, c24, e1, n1, g2, g3]
    by_cases v0 : v = 0
    · rw [if_pos v0] at hQ3 ⊢
      repeat (refine And.intro (by first | omega | decide | (simp only [and_true, true_and]; omega)) ?_)
      exact hQ3
    · rw [if_neg v0] at hQ3 ⊢
      by_cases v1 : v = 1
      · rw [if_pos v1] at hQ3 ⊢
        repeat (refine And.intro (by first | omega | decide | (simp only [and_true, true_and]; omega)) ?_)
        exact hQ3
      · rw [if_neg v1] at hQ3 ⊢
        repeat (refine And.intro (by first | omega | decide | (simp only [and_true, true_and]; omega)) ?_)
        refine ⟨ρ, μ3, 136, nG ζ, rfl, rfl, hρ, bt_m136.1, m1, ?_⟩
        simp (disch := omega) only [bt_ild, bt_lld, bt_ald, bt_ist, bt_lst, bt_ast, bt_inc, bt_ic, bt_lc, bt_iadd, bt_isub, bt_imul, bt_iand, bt_ior, bt_ixor, bt_ishl, bt_ishr, bt_iushr, bt_ladd, bt_lsub, bt_lmul, bt_land, bt_lor, bt_lushr, bt_lshl, bt_idiv, bt_irem, bt_ldiv, bt_lrem, bt_lcmp, bt_i2l, bt_l2i, bt_i2b, bt_pop, bt_dup, bt_dup2, bt_gfI, bt_gfJ, bt_gfR, bt_pfI, bt_pfZ, bt_pfJ, bt_pfR, bt_ial, bt_bal, bt_zal, bt_lal, bt_aal, bt_ias, bt_bas, bt_zas, bt_las, bt_len, bt_iret, bt_zret, bt_lret, bt_vret, bt_cV, bt_cS, bt_tab, bt_tsw, bt_lk, bt_lsw, bt_acp, bt_mmax, bt_mmin, bt_can, bt_icmpeq, bt_ifeq, bt_icmpne, bt_ifne, bt_icmplt, bt_iflt, bt_icmpge, bt_ifge, bt_icmpgt, bt_ifgt, bt_icmple, bt_ifle, bt_ret, bt_kill, bt_kl, bt_ix, bt_nl, bt_sm, bt_sr, bt_sig, bt_tg, bt_loc, bt_locs, List.getElem?_cons_zero, List.getElem?_cons_succ, List.set_cons_zero, List.set_cons_succ, List.map_cons, List.map_nil, List.take_succ_cons, List.take_zero, List.drop_succ_cons, List.drop_zero, List.reverse_cons, List.reverse_nil, List.nil_append, List.cons_append, List.append_nil, List.length_cons, List.length_nil, List.replicate_succ, List.replicate_zero, Option.toList_some, Option.toList_none, Nat.reduceAdd, Nat.reduceSub, Nat.reduceLeDiff, Nat.zero_add, Nat.zero_le, true_and, and_true, Int.toNat_natCast, Sum.inl.injEq, Sum.inr.injEq, ↓reduceIte, Nat.reduceEqDiff]
        have e2 : bt_sn (μ3 (136 + 2)) (nG ζ) = bt_sn ((ab_ys ζ σ s k).1 2) (nG ζ) := bt_sn_congr (fun g hg => by
          have h1 := (g1.2.2.1 g (by rw [← hz2.n.1]; exact hg)).2
          have h2 := (y1.2.2.1 g hg).2
          exact h1.trans h2.symm)
        rw [e2]
        exact hQ3
  · rw [if_neg hc2] at q0
    repeat' split
    all_goals first | exact q0 | (exfalso; omega)
/-- the days from the beginning: the first line that can't be, the first behind which one paces, the state -/
def an_jd (ζ : Nat → Nat → Int) (ln : Nat → Nat) : Nat → Int × Int × (Nat → Nat → Int)
  | 0 => (-1, -1, fun j => ζ (11 + j))
  | i + 1 => if ab_ok ζ (an_jd ζ ln i).2.2 (ln i % 4) (ln i / 4 % 8) (ln i / 32) then ((an_jd ζ ln i).1, (if (an_jd ζ ln i).2.1 = -1 ∧ ab_pc ζ (ab_ob ζ (an_jd ζ ln i).2.2 (ln i % 4) (ln i / 4 % 8) (ln i / 32)) ≠ 0 then (i : Int) else (an_jd ζ ln i).2.1), ab_ob ζ (an_jd ζ ln i).2.2 (ln i % 4) (ln i / 4 % 8) (ln i / 32)) else ((if (an_jd ζ ln i).1 = -1 then (i : Int) else (an_jd ζ ln i).1), (an_jd ζ ln i).2.1, (an_jd ζ ln i).2.2)
theorem an_jd_rg (ζ : Nat → Nat → Int) (ln : Nat → Nat) : ∀ i, (-1 ≤ (an_jd ζ ln i).1 ∧ (an_jd ζ ln i).1 ≤ i) ∧ -1 ≤ (an_jd ζ ln i).2.1 ∧ (an_jd ζ ln i).2.1 ≤ i
  | 0 => by simp [an_jd]
  | i + 1 => by
    have ih := an_jd_rg ζ ln i
    unfold an_jd
    split
    · refine ⟨⟨ih.1.1, ?_⟩, ?_⟩
      · show (an_jd ζ ln i).1 ≤ _; omega
      · dsimp only
        split <;> omega
    · refine ⟨?_, ih.2.1, ?_⟩
      · dsimp only
        split <;> omega
      · show (an_jd ζ ln i).2.1 ≤ _; omega
theorem an_jd_S {ζ : Nat → Nat → Int} (hz : om_z ζ) (ln : Nat → Nat) : ∀ i, ab_S ζ (an_jd ζ ln i).2.2
  | 0 => hz.2.2.1
  | i + 1 => by
    have ih := an_jd_S hz ln i
    unfold an_jd
    split
    · exact ab_Sob hz.1 ih _ _ _
    · exact ih
def an_judged (ζ : Nat → Nat → Int) (lc : Nat) (ln : Nat → Nat) (y : Int) : Int := if 0 ≤ y ∧ y ≤ 2 then (if y = 0 then (an_jd ζ ln lc).1 else if y = 1 then (an_jd ζ ln lc).2.1 else (an_jd ζ ln lc).2.2 0 1) else -2
def SpX10_judged : bt_Sp := fun As w Q => ∃ (ρ : Nat → Nat → Option Nat) (μ : Nat → Nat → Int) (Ω : om_O) (y : Int), As = [.inr (.inr 0), .inl y] ∧ w = bt_wd ρ μ ∧ ci_I Ω ρ μ ∧ bt_i32 y ∧ ∀ μ', bt_fr ci_s2 μ' μ → Q (some (.inl (an_judged Ω.1 Ω.2.1.2.1 Ω.2.1.2.2.1 y))) (bt_wd ρ μ')
theorem bt_zst : ∀ z ∈ bt_zos, z + 11 ∈ bt_sts := by decide
set_option maxHeartbeats 4000000 in
theorem mtX10_judged : bt_Met yX10_judged cX10_judged 5 (some .int) 6 [2, 0] SpX10_judged := by
  refine lpX10_judged mtX6_copy (by decide) mtX1_obey (by decide) mtX6_pacing (by decide) _ (fun As w Q _ hS => ?_)
  obtain ⟨ρ, μ, Ω, y, rfl, rfl, hI, hy, hQ⟩ := hS
  obtain ⟨P, P', hR, hE, hz1, hZ', hS', hZ, hSt, hsq, ⟨⟨n0, m0⟩, ⟨n1, m1⟩, n2, m2⟩, hP1, hP2⟩ := ci_f hI
  obtain ⟨-, -, -, -, hz, -, hM, hg, -, -, -, -⟩ := id hI
  obtain ⟨hρ, ⟨hP, hP', hPP⟩, r0, r1, r2, r3, r4, r5, r6, r7, r8, r9, r10, r11⟩ := id hR
  obtain ⟨c1, c2, c3, c4, c5, c6, c7, c8, c9, c10, c11, c12, c13, c14, c15, c16, c17, c18, c19, c20, c21, c22, c23, c24, c25⟩ := bt_zo_f P hP
  obtain ⟨-, lc1, ln1, -, -⟩ := hM
  obtain ⟨-, lc2, ln2, -, -⟩ := hg
  generalize hζ : Ω.1 = ζ at *
  generalize hlc : Ω.2.1.2.1 = lc at *
  generalize hln : Ω.2.1.2.2.1 = ln at *
  have q0 := hQ μ (fun a _ => rfl)
  unfold an_judged at q0 hQ
  unfold bt_i32 at hy
  refine ⟨fun _ m st L w => st = [] ∧ ∃ (i : Nat) (μ1 : Nat → Nat → Int), (0 ≤ y ∧ y ≤ 2) ∧ w = bt_wd ρ μ1 ∧ bt_fr (fun a => (10 ≤ a ∧ a ≤ 18) ∨ (136 ≤ a ∧ a ≤ 139)) μ1 μ ∧ i ≤ lc ∧ m = lc - i ∧ ab_sq ζ (an_jd ζ ln i).2.2 (bt_vw μ1 136) ∧ L = [some (.inr (.inr 0)), some (.inl y), some (.inl (an_jd ζ ln i).1), some (.inl (an_jd ζ ln i).2.1), some (.inl (i : Int))], ?_, ?_⟩
  · simp (disch := omega) only [tX10_judged_0, tX10_judged_9, bt_ild, bt_ic, bt_iflt, bt_icmple, bt_ist, bt_nl, bt_iret, bt_ald, bt_gfR, bt_cV, bt_sig, bt_tg, bt_loc, bt_locs, List.getElem?_cons_zero, List.getElem?_cons_succ, List.set_cons_zero, List.set_cons_succ, List.map_cons, List.map_nil, List.take_succ_cons, List.take_zero, List.drop_succ_cons, List.drop_zero, List.reverse_cons, List.reverse_nil, List.nil_append, List.cons_append, List.append_nil, List.length_cons, List.length_nil, List.replicate_succ, List.replicate_zero, Option.toList_some, Option.toList_none, Nat.reduceAdd, Nat.reduceSub, Nat.reduceLeDiff, Nat.zero_add, Nat.zero_le, true_and, and_true, Int.toNat_natCast, Sum.inl.injEq, Sum.inr.injEq, ↓reduceIte, Nat.reduceEqDiff, bt_w_id, r6, r10, sh_0, sh_136, hρ P _ c2, c3, c4, c5, c6, c7, c8, c9, c10, c11, c12, c13, c14, c15, c16, c17, c18, c19, c20, c21, c22, c23, c24]
    by_cases h1 : y < 0
    · rw [if_pos h1]
      rw [if_neg (by omega)] at q0
      exact q0
    · rw [if_neg h1]
      by_cases h2 : y ≤ 2
      · rw [if_pos h2]
        repeat (refine And.intro (by first | omega | decide | (simp only [and_true, true_and]; omega)) ?_)
        refine ⟨ρ, μ, 136, P + 11, rfl, rfl, hρ, bt_m136.1, bt_zst P hP, fun μ2 he hf => ?_⟩
        simp (disch := omega) only [bt_ild, bt_lld, bt_ald, bt_ist, bt_lst, bt_ast, bt_inc, bt_ic, bt_lc, bt_iadd, bt_isub, bt_imul, bt_iand, bt_ior, bt_ixor, bt_ishl, bt_ishr, bt_iushr, bt_ladd, bt_lsub, bt_lmul, bt_land, bt_lor, bt_lushr, bt_lshl, bt_idiv, bt_irem, bt_ldiv, bt_lrem, bt_lcmp, bt_i2l, bt_l2i, bt_i2b, bt_pop, bt_dup, bt_dup2, bt_gfI, bt_gfJ, bt_gfR, bt_pfI, bt_pfZ, bt_pfJ, bt_pfR, bt_ial, bt_bal, bt_zal, bt_lal, bt_aal, bt_ias, bt_bas, bt_zas, bt_las, bt_len, bt_iret, bt_zret, bt_lret, bt_vret, bt_cV, bt_cS, bt_tab, bt_tsw, bt_lk, bt_lsw, bt_acp, bt_mmax, bt_mmin, bt_can, bt_icmpeq, bt_ifeq, bt_icmpne, bt_ifne, bt_icmplt, bt_iflt, bt_icmpge, bt_ifge, bt_icmpgt, bt_ifgt, bt_icmple, bt_ifle, bt_ret, bt_kill, bt_kl, bt_ix, bt_nl, bt_sm, bt_sr, bt_sig, bt_tg, bt_loc, bt_locs, List.getElem?_cons_zero, List.getElem?_cons_succ, List.set_cons_zero, List.set_cons_succ, List.map_cons, List.map_nil, List.take_succ_cons, List.take_zero, List.drop_succ_cons, List.drop_zero, List.reverse_cons, List.reverse_nil, List.nil_append, List.cons_append, List.append_nil, List.length_cons, List.length_nil, List.replicate_succ, List.replicate_zero, Option.toList_some, Option.toList_none, Nat.reduceAdd, Nat.reduceSub, Nat.reduceLeDiff, Nat.zero_add, Nat.zero_le, true_and, and_true, Int.toNat_natCast, Sum.inl.injEq, Sum.inr.injEq, ↓reduceIte, Nat.reduceEqDiff]
        refine ⟨lc, 0, μ2, ⟨by omega, h2⟩, rfl, fun a ha => hf a (by unfold bt_inS; omega), by omega, by omega, ?_, rfl⟩
        have h3 := (ab_sq.cp hZ he).sy
        refine ab_sq.tr (ab_sq.of (fun j hj => ?_)) h3
        exact (show μ (P + (11 + j)) = ζ (11 + j) from hE (11 + j) (by omega)).symm.trans (by show _ = μ (P + 11 + j); rw [Nat.add_assoc])
      · rw [if_neg h2]
        rw [if_neg (by omega)] at q0
        exact q0
  · rintro m st L w ⟨rfl, i, μ1, hy2, rfl, hfr, hi, rfl, hs1, rfl⟩
    have e1 : μ1 P = μ P := hfr P (by omega)
    have e105 : μ1 105 = μ 105 := hfr 105 (by omega)
    have e110 : μ1 110 = μ 110 := hfr 110 (by omega)
    have hrg := an_jd_rg ζ ln i
    have hSi := an_jd_S hz ln i
    simp (disch := omega) only [tX10_judged_33, tX10_judged_143, tX10_judged_84, tX10_judged_113, bt_ild, bt_ic, bt_ist, bt_inc, bt_nl, bt_ifne, bt_icmpne, bt_icmpge, bt_iret, bt_ald, bt_gfR, bt_gfI, bt_ial, bt_ix, bt_cV, bt_sig, bt_tg, bt_loc, bt_locs, List.getElem?_cons_zero, List.getElem?_cons_succ, List.set_cons_zero, List.set_cons_succ, List.map_cons, List.map_nil, List.take_succ_cons, List.take_zero, List.drop_succ_cons, List.drop_zero, List.reverse_cons, List.reverse_nil, List.nil_append, List.cons_append, List.append_nil, List.length_cons, List.length_nil, List.replicate_succ, List.replicate_zero, Option.toList_some, Option.toList_none, Nat.reduceAdd, Nat.reduceSub, Nat.reduceLeDiff, Nat.zero_add, Nat.zero_le, true_and, and_true, Int.toNat_natCast, Sum.inl.injEq, Sum.inr.injEq, ↓reduceIte, Nat.reduceEqDiff, bt_w_id, r2, r6, r8, r10, sh_0, sh_10, sh_105, sh_110, sh_136, hρ 105 _ (by decide), rf_105_1, e105, e110, lc1, hρ P _ c2, c3, c4, c5, c6, c7, c8, c9, c10, c11, c12, c13, c14, c15, c16, c17, c18, c19, c20, c21, c22, c23, c24]
    repeat (refine And.intro (by first | omega | decide | (simp only [and_true, true_and]; omega)) ?_)
    by_cases hc : lc ≤ i
    · rw [if_pos (by omega)]
      have : i = lc := by omega
      subst this
      have q := hQ μ1 (fun a ha => hfr a (by unfold ci_s2 at ha; omega))
      rw [if_pos hy2] at q
      by_cases v0 : y = 0
      · rw [if_pos v0] at q ⊢
        exact q
      · rw [if_neg v0] at q ⊢
        by_cases v1 : y = 1
        · rw [if_pos v1] at q ⊢
          exact q
        · rw [if_neg v1] at q ⊢
          repeat (refine And.intro (by first | omega | decide | (simp only [and_true, true_and]; omega)) ?_)
          rw [show μ1 136 1 = (an_jd ζ ln i).2.2 0 1 from hs1.2.1.symm]
          exact q
    · rw [if_neg (by omega)]
      repeat (refine And.intro (by first | omega | decide | (simp only [and_true, true_and]; omega)) ?_)
      have hz2 : ab_zq ζ (bt_vw μ1 P) := hz1.tr' (bt_vw_z (fun j hj => hfr _ (by omega)))
      have hlo := ln2 i (by omega)
      have hx : μ 110 i = ((ln i % 4 + 4 * (ln i / 4 % 8) + 32 * (ln i / 32) : Nat) : Int) := by
        rw [show μ 110 i = (ln i : Int) from ln1 i (by omega)]
        congr 1
        omega
      refine ⟨ρ, μ1, 10, P, 136, ln i % 4, ln i / 4 % 8, ln i / 32, by rw [hx], rfl, hρ, bt_m136.2.2.1, hP, bt_m136.1, hlo.1, by omega, hlo.2.1, hz2.Z hZ, ab_sq.S hz2 hs1 hSi, fun μ2 hj hf2 => ?_⟩
      rw [← ab_cok hz2 hs1]
      have hs2 : ab_sq ζ (ab_ob ζ (an_jd ζ ln i).2.2 (ln i % 4) (ln i / 4 % 8) (ln i / 32)) (bt_vw μ2 136) := (ab_cob hz2 hs1 hZ hSi _ _ _).tr (ab_sq.of hj).sy
      have hfr2 : bt_fr (fun a => (10 ≤ a ∧ a ≤ 18) ∨ (136 ≤ a ∧ a ≤ 139)) μ2 μ := fun a ha => (hf2 a ha).trans (hfr a ha)
      have e2 : μ2 P = μ P := hfr2 P (by omega)
      have hst : an_jd ζ ln (i + 1) = if ab_ok ζ (an_jd ζ ln i).2.2 (ln i % 4) (ln i / 4 % 8) (ln i / 32) then ((an_jd ζ ln i).1, (if (an_jd ζ ln i).2.1 = -1 ∧ ab_pc ζ (ab_ob ζ (an_jd ζ ln i).2.2 (ln i % 4) (ln i / 4 % 8) (ln i / 32)) ≠ 0 then (i : Int) else (an_jd ζ ln i).2.1), ab_ob ζ (an_jd ζ ln i).2.2 (ln i % 4) (ln i / 4 % 8) (ln i / 32)) else ((if (an_jd ζ ln i).1 = -1 then (i : Int) else (an_jd ζ ln i).1), (an_jd ζ ln i).2.1, (an_jd ζ ln i).2.2) := rfl
      by_cases hok : ab_ok ζ (an_jd ζ ln i).2.2 (ln i % 4) (ln i / 4 % 8) (ln i / 32) = true
      · rw [if_pos hok]
        rw [if_pos hok] at hst
        simp (disch := omega) only [bt_ret, bt_ild, bt_ic, bt_ifne, bt_icmpne, bt_ald, bt_gfR, bt_gfI, bt_cV, bt_sig, bt_tg, bt_loc, bt_locs, List.getElem?_cons_zero, List.getElem?_cons_succ, List.set_cons_zero, List.set_cons_succ, List.map_cons, List.map_nil, List.take_succ_cons, List.take_zero, List.drop_succ_cons, List.drop_zero, List.reverse_cons, List.reverse_nil, List.nil_append, List.cons_append, List.append_nil, List.length_cons, List.length_nil, List.replicate_succ, List.replicate_zero, Option.toList_some, Option.toList_none, Nat.reduceAdd, Nat.reduceSub, Nat.reduceLeDiff, Nat.zero_add, Nat.zero_le, true_and, and_true, Int.toNat_natCast, Sum.inl.injEq, Sum.inr.injEq, ↓reduceIte, Nat.reduceEqDiff, bt_w_id, Int.reduceEq, r6, r10, sh_0, sh_136, hρ P _ c2, c3, c4, c5, c6, c7, c8, c9, c10, c11, c12, c13, c14, c15, c16, c17, c18, c19, c20, c21, c22, c23, c24, e2, n1]
        by_cases hp : (an_jd ζ ln i).2.1 = -1
        · rw [if_pos hp]
          repeat (refine And.intro (by first | omega | decide | (simp only [and_true, true_and]; omega)) ?_)
          refine ⟨ρ, μ2, 136, nG ζ, rfl, rfl, hρ, bt_m136.1, m1, ?_⟩
          have hpc : bt_bn (fun i => decide (bt_w (μ2 (136 + 2) i) = 0)) (nG ζ) = ab_pc ζ (ab_ob ζ (an_jd ζ ln i).2.2 (ln i % 4) (ln i / 4 % 8) (ln i / 32)) := ab_cpc (ζ' := ζ) (ab_zq.rf _) hs2.sy
          have hlt : ab_pc ζ (ab_ob ζ (an_jd ζ ln i).2.2 (ln i % 4) (ln i / 4 % 8) (ln i / 32)) < 64 := Nat.lt_of_lt_of_le (bt_bn_lt _ _) ((show 2 ^ nG ζ ≤ 2 ^ 6 from Nat.pow_le_pow_right (by decide) m1))
          rw [hpc]
          simp (disch := omega) only [bt_ret, bt_ild, bt_ist, bt_inc, bt_nl, bt_ifeq, bt_loc, bt_locs, List.getElem?_cons_zero, List.getElem?_cons_succ, List.set_cons_zero, List.set_cons_succ, List.map_cons, List.map_nil, List.take_succ_cons, List.take_zero, List.drop_succ_cons, List.drop_zero, List.reverse_cons, List.reverse_nil, List.nil_append, List.cons_append, List.append_nil, List.length_cons, List.length_nil, List.replicate_succ, List.replicate_zero, Option.toList_some, Option.toList_none, Nat.reduceAdd, Nat.reduceSub, Nat.reduceLeDiff, Nat.zero_add, Nat.zero_le, true_and, and_true, Int.toNat_natCast, Sum.inl.injEq, Sum.inr.injEq, ↓reduceIte, Nat.reduceEqDiff, bt_w_id]
          by_cases hz0 : ab_pc ζ (ab_ob ζ (an_jd ζ ln i).2.2 (ln i % 4) (ln i / 4 % 8) (ln i / 32)) = 0
          · rw [if_pos (by omega)]
            rw [if_neg (fun q => q.2 hz0)] at hst
            first | exact ⟨lc - (i + 1), by omega, rfl, i + 1, μ2, hy2, rfl, hfr2, by omega, rfl, by rw [hst]; exact hs2, by rw [hst]; rfl⟩ | exact ⟨lc - (i + 1), by omega, i + 1, μ2, hy2, rfl, hfr2, by omega, rfl, by rw [hst]; exact hs2, by rw [hst]; rfl⟩
          · rw [if_neg (by omega)]
            rw [if_pos ⟨hp, hz0⟩] at hst
            first | exact ⟨lc - (i + 1), by omega, rfl, i + 1, μ2, hy2, rfl, hfr2, by omega, rfl, by rw [hst]; exact hs2, by rw [hst]; rfl⟩ | exact ⟨lc - (i + 1), by omega, i + 1, μ2, hy2, rfl, hfr2, by omega, rfl, by rw [hst]; exact hs2, by rw [hst]; rfl⟩
        · rw [if_neg hp]
          rw [if_neg (fun q => hp q.1)] at hst
          first | exact ⟨lc - (i + 1), by omega, rfl, i + 1, μ2, hy2, rfl, hfr2, by omega, rfl, by rw [hst]; exact hs2, by rw [hst]; rfl⟩ | exact ⟨lc - (i + 1), by omega, i + 1, μ2, hy2, rfl, hfr2, by omega, rfl, by rw [hst]; exact hs2, by rw [hst]; rfl⟩
      · rw [if_neg hok]
        rw [if_neg hok] at hst
        have hs3 : ab_sq ζ (an_jd ζ ln i).2.2 (bt_vw μ2 136) := by
          unfold ab_ob at hs2
          rw [if_neg hok] at hs2
          exact hs2
        simp (disch := omega) only [bt_ret, bt_ild, bt_ic, bt_ist, bt_inc, bt_nl, bt_ifne, bt_icmpne, bt_loc, bt_locs, List.getElem?_cons_zero, List.getElem?_cons_succ, List.set_cons_zero, List.set_cons_succ, List.map_cons, List.map_nil, List.take_succ_cons, List.take_zero, List.drop_succ_cons, List.drop_zero, List.reverse_cons, List.reverse_nil, List.nil_append, List.cons_append, List.append_nil, List.length_cons, List.length_nil, List.replicate_succ, List.replicate_zero, Option.toList_some, Option.toList_none, Nat.reduceAdd, Nat.reduceSub, Nat.reduceLeDiff, Nat.zero_add, Nat.zero_le, true_and, and_true, Int.toNat_natCast, Sum.inl.injEq, Sum.inr.injEq, ↓reduceIte, Nat.reduceEqDiff, bt_w_id]
        by_cases hr1 : (an_jd ζ ln i).1 = -1
        · rw [if_pos hr1]
          rw [if_pos hr1] at hst
          first | exact ⟨lc - (i + 1), by omega, rfl, i + 1, μ2, hy2, rfl, hfr2, by omega, rfl, by rw [hst]; exact hs3, by rw [hst]; rfl⟩ | exact ⟨lc - (i + 1), by omega, i + 1, μ2, hy2, rfl, hfr2, by omega, rfl, by rw [hst]; exact hs3, by rw [hst]; rfl⟩
        · rw [if_neg hr1]
          rw [if_neg hr1] at hst
          first | exact ⟨lc - (i + 1), by omega, rfl, i + 1, μ2, hy2, rfl, hfr2, by omega, rfl, by rw [hst]; exact hs3, by rw [hst]; rfl⟩ | exact ⟨lc - (i + 1), by omega, i + 1, μ2, hy2, rfl, hfr2, by omega, rfl, by rw [hst]; exact hs3, by rw [hst]; rfl⟩
