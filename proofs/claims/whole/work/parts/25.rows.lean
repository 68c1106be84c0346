/-! Rows: guests kept apart -/
def ab_mf (rw : Nat → Int) (F g : Nat) : Nat → Bool
  | 0 => false
  | n + 1 => ab_mf rw F g n || (decide (bt_w (rw n) = bt_w (rw g)) && F.testBit n)
def SpX4_meetsFoe : bt_Sp := fun As w Q => ∃ (ρ : Nat → Nat → Option Nat) (μ : Nat → Nat → Int) (z g F : Nat), As = [.inr (.inr 71), .inr (.inr z), .inl (g : Int)] ∧ w = bt_wd ρ μ ∧ bt_Rf ρ ∧ z ∈ bt_zos ∧ g < 6 ∧ μ (z + 7) g = (F : Int) ∧ F < 64 ∧ Q (some (.inl (if ab_mf (μ 72) F g g then 1 else 0))) w
theorem ab_mf_mono (rw : Nat → Int) (F g : Nat) {n : Nat} (h : ab_mf rw F g n = true) : ∀ k, ab_mf rw F g (n + k) = true
  | 0 => h
  | k + 1 => by rw [← Nat.add_assoc]; unfold ab_mf; rw [ab_mf_mono rw F g h k]; rfl
set_option maxHeartbeats 4000000 in
theorem mtX4_meetsFoe : bt_Met yX4_meetsFoe cX4_meetsFoe 4 (some .boolean) 1 [2, 2, 0] SpX4_meetsFoe := by
  refine lpX4_meetsFoe _ (fun As w Q _ hS => ?_)
  obtain ⟨ρ, μ, z, g, F, rfl, rfl, hρ, hz, hg, hF, hF64, hQ⟩ := hS
  obtain ⟨c1, c2, c3, c4, c5, c6, c7, c8, c9, c10, c11, c12, c13, c14, c15, c16, c17, c18, c19, c20, c21, c22, c23, c24, c25⟩ := bt_zo_f z hz
  refine ⟨fun h' m st L w => st = [] ∧ w = bt_wd ρ μ ∧ ∃ i : Nat, i ≤ g ∧ m = g - i ∧ L = [some (.inr (.inr 71)), some (.inr (.inr z)), some (.inl (g : Int)), some (.inl (i : Int))] ∧ ab_mf (μ 72) F g i = false, ?_, ?_⟩
  · simp (disch := omega) only [tX4_meetsFoe_0, bt_ild, bt_lld, bt_ald, bt_ist, bt_lst, bt_ast, bt_inc, bt_ic, bt_lc, bt_iadd, bt_isub, bt_imul, bt_iand, bt_ior, bt_ixor, bt_ishl, bt_ishr, bt_iushr, bt_ladd, bt_lsub, bt_lmul, bt_land, bt_lor, bt_lushr, bt_lshl, bt_idiv, bt_irem, bt_ldiv, bt_lrem, bt_lcmp, bt_i2l, bt_l2i, bt_i2b, bt_pop, bt_dup, bt_dup2, bt_gfI, bt_gfJ, bt_gfR, bt_pfI, bt_pfZ, bt_pfJ, bt_pfR, bt_ial, bt_bal, bt_zal, bt_lal, bt_aal, bt_ias, bt_bas, bt_zas, bt_las, bt_len, bt_iret, bt_zret, bt_lret, bt_vret, bt_cV, bt_cS, bt_tab, bt_tsw, bt_lk, bt_lsw, bt_acp, bt_mmax, bt_mmin, bt_can, bt_icmpeq, bt_ifeq, bt_icmpne, bt_ifne, bt_icmplt, bt_iflt, bt_icmpge, bt_ifge, bt_icmpgt, bt_ifgt, bt_icmple, bt_ifle, bt_ret, bt_kill, bt_kl, bt_ix, bt_nl, bt_sm, bt_sr, bt_sig, bt_tg, bt_loc, bt_locs, List.getElem?_cons_zero, List.getElem?_cons_succ, List.set_cons_zero, List.set_cons_succ, List.map_cons, List.map_nil, List.take_succ_cons, List.take_zero, List.drop_succ_cons, List.drop_zero, List.reverse_cons, List.reverse_nil, List.nil_append, List.cons_append, List.append_nil, List.length_cons, List.length_nil, List.replicate_succ, List.replicate_zero, Option.toList_some, Option.toList_none, Nat.reduceAdd, Nat.reduceSub, Nat.reduceLeDiff, Nat.zero_add, Nat.zero_le, true_and, and_true, Int.toNat_natCast, Sum.inl.injEq, Sum.inr.injEq, ↓reduceIte, Nat.reduceEqDiff]
    exact ⟨g, 0, by omega, by omega, rfl, rfl⟩
  · rintro m st L w ⟨rfl, rfl, i, hi, rfl, rfl, hI⟩
    simp (disch := omega) only [tX4_meetsFoe_2, tX4_meetsFoe_37, bt_ild, bt_lld, bt_ald, bt_ist, bt_lst, bt_ast, bt_inc, bt_ic, bt_lc, bt_iadd, bt_isub, bt_imul, bt_iand, bt_ior, bt_ixor, bt_ishl, bt_ishr, bt_iushr, bt_ladd, bt_lsub, bt_lmul, bt_land, bt_lor, bt_lushr, bt_lshl, bt_idiv, bt_irem, bt_ldiv, bt_lrem, bt_lcmp, bt_i2l, bt_l2i, bt_i2b, bt_pop, bt_dup, bt_dup2, bt_gfI, bt_gfJ, bt_gfR, bt_pfI, bt_pfZ, bt_pfJ, bt_pfR, bt_ial, bt_bal, bt_zal, bt_lal, bt_aal, bt_ias, bt_bas, bt_zas, bt_las, bt_len, bt_iret, bt_zret, bt_lret, bt_vret, bt_cV, bt_cS, bt_tab, bt_tsw, bt_lk, bt_lsw, bt_acp, bt_mmax, bt_mmin, bt_can, bt_icmpeq, bt_ifeq, bt_icmpne, bt_ifne, bt_icmplt, bt_iflt, bt_icmpge, bt_ifge, bt_icmpgt, bt_ifgt, bt_icmple, bt_ifle, bt_ret, bt_kill, bt_kl, bt_ix, bt_nl, bt_sm, bt_sr, bt_sig, bt_tg, bt_loc, bt_locs, List.getElem?_cons_zero, List.getElem?_cons_succ, List.set_cons_zero, List.set_cons_succ, List.map_cons, List.map_nil, List.take_succ_cons, List.take_zero, List.drop_succ_cons, List.drop_zero, List.reverse_cons, List.reverse_nil, List.nil_append, List.cons_append, List.append_nil, List.length_cons, List.length_nil, List.replicate_succ, List.replicate_zero, Option.toList_some, Option.toList_none, Nat.reduceAdd, Nat.reduceSub, Nat.reduceLeDiff, Nat.zero_add, Nat.zero_le, true_and, and_true, Int.toNat_natCast, Sum.inl.injEq, Sum.inr.injEq, ↓reduceIte, Nat.reduceEqDiff, hρ 71 _ (by decide), rf_71_0, sh_71, sh_72, hρ z _ c2, c3, c4, c5, c6, c7, c8, c9, c10, c11, c12, c13, c14, c15, c16, c17, c18, c19, c20, c21, c22, c23, c24, hF, bt_w_id]
    by_cases hc : g ≤ i
    · rw [if_pos (by omega)]
      have : i = g := by omega
      subst this
      rw [hI] at hQ
      exact ⟨by simp, hQ⟩
    · rw [if_neg (by omega)]
      repeat (refine And.intro (by omega) ?_)
      by_cases h1 : bt_w (μ 72 i) = bt_w (μ 72 g)
      · simp only [h1, ↓reduceIte]
        repeat (refine And.intro (by omega) ?_)
        rw [bo_bit (by omega) (by omega)]
        by_cases hb : F.testBit i
        · rw [if_pos hb]
          simp (disch := omega) only [bt_w_id]
          have : ab_mf (μ 72) F g g = true := by
            have := ab_mf_mono (μ 72) F g (n := i + 1) (by simp [ab_mf, h1, hb]) (g - (i + 1))
            rwa [show i + 1 + (g - (i + 1)) = g by omega] at this
          rw [this] at hQ
          first | exact ⟨by simp, hQ⟩ | (rw [if_neg (by decide)]; exact ⟨by simp, hQ⟩)
        · rw [if_neg hb]
          simp (disch := omega) only [bt_w_id, ↓reduceIte]
          exact ⟨g - (i + 1), by omega, i + 1, by omega, rfl, rfl, by simp [ab_mf, hI, hb]⟩
      · simp only [h1, ↓reduceIte]
        exact ⟨g - (i + 1), by omega, i + 1, by omega, rfl, rfl, by simp [ab_mf, hI, h1]⟩
def ab_put (rw : Nat → Int) (g : Nat) (x : Int) : Nat → Int := fun k => if k = g then x else rw k
def ab_plL (F g : Nat) (rc : Nat → (Nat → Int) → Bool × (Nat → Int)) (used : Nat) : Nat → Nat → (Nat → Int) → Bool × (Nat → Int)
  | 0, _, rw => (false, rw)
  | c + 1, p, rw => if ab_mf (ab_put rw g p) F g g then ab_plL F g rc used c (p + 1) (ab_put rw g p) else if (rc (max used (p + 1)) (ab_put rw g p)).1 then rc (max used (p + 1)) (ab_put rw g p) else ab_plL F g rc used c (p + 1) (rc (max used (p + 1)) (ab_put rw g p)).2
/-- the first row of the k guests from g on, with the pens below most, no more than one new at a time -/
def ab_pl (fo : Nat → Nat) (most : Nat) : Nat → Nat → Nat → (Nat → Int) → Bool × (Nat → Int)
  | 0, _, _, rw => (true, rw)
  | k + 1, g, used, rw => ab_plL (fo g) g (ab_pl fo most k (g + 1)) used (min (used + 1) most) 0 rw
def SpX4_pl (k : Nat) : bt_Sp := fun As w Q => ∃ (ρ : Nat → Nat → Option Nat) (μ : Nat → Nat → Int) (z g n used most : Nat) (fo : Nat → Nat), As = [.inr (.inr 71), .inr (.inr z), .inl (g : Int), .inl (used : Int), .inl (most : Int)] ∧ w = bt_wd ρ μ ∧ bt_Rf ρ ∧ z ∈ bt_zos ∧ g + k = n ∧ n ≤ 6 ∧ used ≤ 6 ∧ most ≤ 6 ∧ μ z 1 = (n : Int) ∧ (∀ i, i < n → μ (z + 7) i = (fo i : Int) ∧ fo i < 64) ∧ ∀ μ', μ' 72 = (ab_pl fo most k g used (μ 72)).2 → bt_fr (fun a => a = 72) μ' μ → Q (some (.inl (if (ab_pl fo most k g used (μ 72)).1 then 1 else 0))) (bt_wd ρ μ')
set_option maxHeartbeats 4000000 in
theorem mtX4_pl0 (dd : Nat) (hdd : 12 ≤ dd) : bt_Met yX4_place cX4_place 6 (some .boolean) dd [2, 2, 0, 0, 0] (SpX4_pl 0) := by
  refine lpX4_place mtX4_meetsFoe (by omega) (bt_metF (d := 0)) (by omega) (by omega) _ (fun As w Q _ hS => ?_)
  obtain ⟨ρ, μ, z, g, n, used, most, fo, rfl, rfl, hρ, hz, hgk, hn6, hu, hm, hn, hfo, hQ⟩ := hS
  obtain ⟨c1, c2, c3, c4, c5, c6, c7, c8, c9, c10, c11, c12, c13, c14, c15, c16, c17, c18, c19, c20, c21, c22, c23, c24, c25⟩ := bt_zo_f z hz
  refine ⟨fun _ _ _ _ _ => False, ?_, fun _ _ _ _ h => h.elim⟩
  simp (disch := omega) only [tX4_place_0, tX4_place_66, tX4_place_72, bt_ild, bt_lld, bt_ald, bt_ist, bt_lst, bt_ast, bt_inc, bt_ic, bt_lc, bt_iadd, bt_isub, bt_imul, bt_iand, bt_ior, bt_ixor, bt_ishl, bt_ishr, bt_iushr, bt_ladd, bt_lsub, bt_lmul, bt_land, bt_lor, bt_lushr, bt_lshl, bt_idiv, bt_irem, bt_ldiv, bt_lrem, bt_lcmp, bt_i2l, bt_l2i, bt_i2b, bt_pop, bt_dup, bt_dup2, bt_gfI, bt_gfJ, bt_gfR, bt_pfI, bt_pfZ, bt_pfJ, bt_pfR, bt_ial, bt_bal, bt_zal, bt_lal, bt_aal, bt_ias, bt_bas, bt_zas, bt_las, bt_len, bt_iret, bt_zret, bt_lret, bt_vret, bt_cV, bt_cS, bt_tab, bt_tsw, bt_lk, bt_lsw, bt_acp, bt_mmax, bt_mmin, bt_can, bt_icmpeq, bt_ifeq, bt_icmpne, bt_ifne, bt_icmplt, bt_iflt, bt_icmpge, bt_ifge, bt_icmpgt, bt_ifgt, bt_icmple, bt_ifle, bt_ret, bt_kill, bt_kl, bt_ix, bt_nl, bt_sm, bt_sr, bt_sig, bt_tg, bt_loc, bt_locs, List.getElem?_cons_zero, List.getElem?_cons_succ, List.set_cons_zero, List.set_cons_succ, List.map_cons, List.map_nil, List.take_succ_cons, List.take_zero, List.drop_succ_cons, List.drop_zero, List.reverse_cons, List.reverse_nil, List.nil_append, List.cons_append, List.append_nil, List.length_cons, List.length_nil, List.replicate_succ, List.replicate_zero, Option.toList_some, Option.toList_none, Nat.reduceAdd, Nat.reduceSub, Nat.reduceLeDiff, Nat.zero_add, Nat.zero_le, true_and, and_true, Int.toNat_natCast, Sum.inl.injEq, Sum.inr.injEq, ↓reduceIte, Nat.reduceEqDiff, hρ z _ c2, c3, c4, c5, c6, c7, c8, c9, c10, c11, c12, c13, c14, c15, c16, c17, c18, c19, c20, c21, c22, c23, c24, hn, bt_w_id]
  refine ⟨by omega, ?_⟩
  rw [if_neg (by omega)]
  exact ⟨by simp, hQ μ rfl (fun _ _ => rfl)⟩
set_option maxHeartbeats 4000000 in
theorem mtX4_pls (k : Nat) (ih : ∀ d, 12 + k ≤ d → bt_Met yX4_place cX4_place 6 (some .boolean) d [2, 2, 0, 0, 0] (SpX4_pl k)) (dd : Nat) (hdd : 12 + (k + 1) ≤ dd) : bt_Met yX4_place cX4_place 6 (some .boolean) dd [2, 2, 0, 0, 0] (SpX4_pl (k + 1)) := by
  refine lpX4_place mtX4_meetsFoe (by omega) (ih (dd - 1) (by omega)) (by omega) (by omega) _ (fun As w Q _ hS => ?_)
  obtain ⟨ρ, μ, z, g, n, used, most, fo, rfl, rfl, hρ, hz, hgk, hn6, hu, hm, hn, hfo, hQ⟩ := hS
  obtain ⟨c1, c2, c3, c4, c5, c6, c7, c8, c9, c10, c11, c12, c13, c14, c15, c16, c17, c18, c19, c20, c21, c22, c23, c24, c25⟩ := bt_zo_f z hz
  have hzz := bt_zo2 z hz
  obtain ⟨fg1, fg2⟩ := hfo g (by omega)
  generalize hC : min (used + 1) most = C at *
  have hCu : C ≤ used + 1 ∧ C ≤ most ∧ (C = used + 1 ∨ C = most) := by omega
  have hpl : ab_pl fo most (k + 1) g used (μ 72) = ab_plL (fo g) g (ab_pl fo most k (g + 1)) used C 0 (μ 72) := by rw [← hC]; rfl
  rw [hpl] at hQ
  refine ⟨fun h' m st L w => st = [] ∧ ∃ (i : Nat) (μ1 : Nat → Nat → Int), w = bt_wd ρ μ1 ∧ i ≤ C ∧ m = C - i ∧ L = [some (.inr (.inr 71)), some (.inr (.inr z)), some (.inl (g : Int)), some (.inl (used : Int)), some (.inl (most : Int)), some (.inl (i : Int))] ∧ bt_fr (fun a => a = 72) μ1 μ ∧ ab_plL (fo g) g (ab_pl fo most k (g + 1)) used C 0 (μ 72) = ab_plL (fo g) g (ab_pl fo most k (g + 1)) used (C - i) i (μ1 72), ?_, ?_⟩
  · simp (disch := omega) only [tX4_place_0, tX4_place_66, tX4_place_72, bt_ild, bt_lld, bt_ald, bt_ist, bt_lst, bt_ast, bt_inc, bt_ic, bt_lc, bt_iadd, bt_isub, bt_imul, bt_iand, bt_ior, bt_ixor, bt_ishl, bt_ishr, bt_iushr, bt_ladd, bt_lsub, bt_lmul, bt_land, bt_lor, bt_lushr, bt_lshl, bt_idiv, bt_irem, bt_ldiv, bt_lrem, bt_lcmp, bt_i2l, bt_l2i, bt_i2b, bt_pop, bt_dup, bt_dup2, bt_gfI, bt_gfJ, bt_gfR, bt_pfI, bt_pfZ, bt_pfJ, bt_pfR, bt_ial, bt_bal, bt_zal, bt_lal, bt_aal, bt_ias, bt_bas, bt_zas, bt_las, bt_len, bt_iret, bt_zret, bt_lret, bt_vret, bt_cV, bt_cS, bt_tab, bt_tsw, bt_lk, bt_lsw, bt_acp, bt_mmax, bt_mmin, bt_can, bt_icmpeq, bt_ifeq, bt_icmpne, bt_ifne, bt_icmplt, bt_iflt, bt_icmpge, bt_ifge, bt_icmpgt, bt_ifgt, bt_icmple, bt_ifle, bt_ret, bt_kill, bt_kl, bt_ix, bt_nl, bt_sm, bt_sr, bt_sig, bt_tg, bt_loc, bt_locs, List.getElem?_cons_zero, List.getElem?_cons_succ, List.set_cons_zero, List.set_cons_succ, List.map_cons, List.map_nil, List.take_succ_cons, List.take_zero, List.drop_succ_cons, List.drop_zero, List.reverse_cons, List.reverse_nil, List.nil_append, List.cons_append, List.append_nil, List.length_cons, List.length_nil, List.replicate_succ, List.replicate_zero, Option.toList_some, Option.toList_none, Nat.reduceAdd, Nat.reduceSub, Nat.reduceLeDiff, Nat.zero_add, Nat.zero_le, true_and, and_true, Int.toNat_natCast, Sum.inl.injEq, Sum.inr.injEq, ↓reduceIte, Nat.reduceEqDiff, hρ z _ c2, c3, c4, c5, c6, c7, c8, c9, c10, c11, c12, c13, c14, c15, c16, c17, c18, c19, c20, c21, c22, c23, c24, hn, bt_w_id]
    refine ⟨by omega, ?_⟩
    rw [if_pos (by omega)]
    exact ⟨C, 0, μ, rfl, by omega, by omega, rfl, fun _ _ => rfl, rfl⟩
  · rintro m st L w ⟨rfl, i, μ1, rfl, hi, rfl, rfl, hfr, hI⟩
    have e7 : μ1 (z + 7) = μ (z + 7) := hfr _ (by omega)
    have e1 : μ1 z = μ z := hfr _ (by omega)
    by_cases hc : C ≤ i
    · have hiC : i = C := by omega
      subst hiC
      rw [Nat.sub_self] at hI
      rw [hI] at hQ
      have hend : Q (some (.inl 0)) (bt_wd ρ μ1) := hQ μ1 rfl hfr
      simp (disch := omega) only [tX4_place_13, tX4_place_66, tX4_place_72, bt_ild, bt_lld, bt_ald, bt_ist, bt_lst, bt_ast, bt_inc, bt_ic, bt_lc, bt_iadd, bt_isub, bt_imul, bt_iand, bt_ior, bt_ixor, bt_ishl, bt_ishr, bt_iushr, bt_ladd, bt_lsub, bt_lmul, bt_land, bt_lor, bt_lushr, bt_lshl, bt_idiv, bt_irem, bt_ldiv, bt_lrem, bt_lcmp, bt_i2l, bt_l2i, bt_i2b, bt_pop, bt_dup, bt_dup2, bt_gfI, bt_gfJ, bt_gfR, bt_pfI, bt_pfZ, bt_pfJ, bt_pfR, bt_ial, bt_bal, bt_zal, bt_lal, bt_aal, bt_ias, bt_bas, bt_zas, bt_las, bt_len, bt_iret, bt_zret, bt_lret, bt_vret, bt_cV, bt_cS, bt_tab, bt_tsw, bt_lk, bt_lsw, bt_acp, bt_mmax, bt_mmin, bt_can, bt_icmpeq, bt_ifeq, bt_icmpne, bt_ifne, bt_icmplt, bt_iflt, bt_icmpge, bt_ifge, bt_icmpgt, bt_ifgt, bt_icmple, bt_ifle, bt_ret, bt_kill, bt_kl, bt_ix, bt_nl, bt_sm, bt_sr, bt_sig, bt_tg, bt_loc, bt_locs, List.getElem?_cons_zero, List.getElem?_cons_succ, List.set_cons_zero, List.set_cons_succ, List.map_cons, List.map_nil, List.take_succ_cons, List.take_zero, List.drop_succ_cons, List.drop_zero, List.reverse_cons, List.reverse_nil, List.nil_append, List.cons_append, List.append_nil, List.length_cons, List.length_nil, List.replicate_succ, List.replicate_zero, Option.toList_some, Option.toList_none, Nat.reduceAdd, Nat.reduceSub, Nat.reduceLeDiff, Nat.zero_add, Nat.zero_le, true_and, and_true, Int.toNat_natCast, Sum.inl.injEq, Sum.inr.injEq, ↓reduceIte, Nat.reduceEqDiff, bt_w_id]
      by_cases q1 : used < i
      · rw [if_pos (by omega)]
        exact ⟨by simp, hend⟩
      · rw [if_neg (by omega), if_pos (by omega)]
        exact ⟨by simp, hend⟩
    · have next : ∀ (μ2 : Nat → Nat → Int), bt_fr (fun a => a = 72) μ2 μ → ab_plL (fo g) g (ab_pl fo most k (g + 1)) used C 0 (μ 72) = ab_plL (fo g) g (ab_pl fo most k (g + 1)) used (C - (i + 1)) (i + 1) (μ2 72) → tX4_place_66 SpX4_meetsFoe (SpX4_pl k) (fun h st L w => ∃ m, m < C - i ∧ st = [] ∧ ∃ (i : Nat) (μ1 : Nat → Nat → Int), w = bt_wd ρ μ1 ∧ i ≤ C ∧ m = C - i ∧ L = [some (.inr (.inr 71)), some (.inr (.inr z)), some (.inl (g : Int)), some (.inl (used : Int)), some (.inl (most : Int)), some (.inl (i : Int))] ∧ bt_fr (fun a => a = 72) μ1 μ ∧ ab_plL (fo g) g (ab_pl fo most k (g + 1)) used C 0 (μ 72) = ab_plL (fo g) g (ab_pl fo most k (g + 1)) used (C - i) i (μ1 72)) Q [] [some (.inr (.inr 71)), some (.inr (.inr z)), some (.inl (g : Int)), some (.inl (used : Int)), some (.inl (most : Int)), some (.inl (i : Int))] (bt_wd ρ μ2) := by
        intro μ2 h1 h2
        simp (disch := omega) only [tX4_place_66, bt_ild, bt_lld, bt_ald, bt_ist, bt_lst, bt_ast, bt_inc, bt_ic, bt_lc, bt_iadd, bt_isub, bt_imul, bt_iand, bt_ior, bt_ixor, bt_ishl, bt_ishr, bt_iushr, bt_ladd, bt_lsub, bt_lmul, bt_land, bt_lor, bt_lushr, bt_lshl, bt_idiv, bt_irem, bt_ldiv, bt_lrem, bt_lcmp, bt_i2l, bt_l2i, bt_i2b, bt_pop, bt_dup, bt_dup2, bt_gfI, bt_gfJ, bt_gfR, bt_pfI, bt_pfZ, bt_pfJ, bt_pfR, bt_ial, bt_bal, bt_zal, bt_lal, bt_aal, bt_ias, bt_bas, bt_zas, bt_las, bt_len, bt_iret, bt_zret, bt_lret, bt_vret, bt_cV, bt_cS, bt_tab, bt_tsw, bt_lk, bt_lsw, bt_acp, bt_mmax, bt_mmin, bt_can, bt_icmpeq, bt_ifeq, bt_icmpne, bt_ifne, bt_icmplt, bt_iflt, bt_icmpge, bt_ifge, bt_icmpgt, bt_ifgt, bt_icmple, bt_ifle, bt_ret, bt_kill, bt_kl, bt_ix, bt_nl, bt_sm, bt_sr, bt_sig, bt_tg, bt_loc, bt_locs, List.getElem?_cons_zero, List.getElem?_cons_succ, List.set_cons_zero, List.set_cons_succ, List.map_cons, List.map_nil, List.take_succ_cons, List.take_zero, List.drop_succ_cons, List.drop_zero, List.reverse_cons, List.reverse_nil, List.nil_append, List.cons_append, List.append_nil, List.length_cons, List.length_nil, List.replicate_succ, List.replicate_zero, Option.toList_some, Option.toList_none, Nat.reduceAdd, Nat.reduceSub, Nat.reduceLeDiff, Nat.zero_add, Nat.zero_le, true_and, and_true, Int.toNat_natCast, Sum.inl.injEq, Sum.inr.injEq, ↓reduceIte, Nat.reduceEqDiff]
        exact ⟨C - (i + 1), by omega, i + 1, μ2, rfl, by omega, rfl, rfl, h1, h2⟩
      have hput : bt_up μ1 72 g (i : Int) 72 = ab_put (μ1 72) g i := by
        funext j
        simp [bt_up, ab_put]
      have hstep : ab_plL (fo g) g (ab_pl fo most k (g + 1)) used C 0 (μ 72) = if ab_mf (ab_put (μ1 72) g i) (fo g) g g then ab_plL (fo g) g (ab_pl fo most k (g + 1)) used (C - (i + 1)) (i + 1) (ab_put (μ1 72) g i) else if (ab_pl fo most k (g + 1) (max used (i + 1)) (ab_put (μ1 72) g i)).1 then ab_pl fo most k (g + 1) (max used (i + 1)) (ab_put (μ1 72) g i) else ab_plL (fo g) g (ab_pl fo most k (g + 1)) used (C - (i + 1)) (i + 1) (ab_pl fo most k (g + 1) (max used (i + 1)) (ab_put (μ1 72) g i)).2 := by
        rw [hI, show C - i = (C - (i + 1)) + 1 by omega]
        rfl
      have f2 : bt_fr (fun a => a = 72) (bt_up μ1 72 g (i : Int)) μ := fun a ha => by rw [bt_up_cell ha]; exact hfr a ha
      simp (disch := omega) only [tX4_place_13, tX4_place_72, bt_ild, bt_lld, bt_ald, bt_ist, bt_lst, bt_ast, bt_inc, bt_ic, bt_lc, bt_iadd, bt_isub, bt_imul, bt_iand, bt_ior, bt_ixor, bt_ishl, bt_ishr, bt_iushr, bt_ladd, bt_lsub, bt_lmul, bt_land, bt_lor, bt_lushr, bt_lshl, bt_idiv, bt_irem, bt_ldiv, bt_lrem, bt_lcmp, bt_i2l, bt_l2i, bt_i2b, bt_pop, bt_dup, bt_dup2, bt_gfI, bt_gfJ, bt_gfR, bt_pfI, bt_pfZ, bt_pfJ, bt_pfR, bt_ial, bt_bal, bt_zal, bt_lal, bt_aal, bt_ias, bt_bas, bt_zas, bt_las, bt_len, bt_iret, bt_zret, bt_lret, bt_vret, bt_cV, bt_cS, bt_tab, bt_tsw, bt_lk, bt_lsw, bt_acp, bt_mmax, bt_mmin, bt_can, bt_icmpeq, bt_ifeq, bt_icmpne, bt_ifne, bt_icmplt, bt_iflt, bt_icmpge, bt_ifge, bt_icmpgt, bt_ifgt, bt_icmple, bt_ifle, bt_ret, bt_kill, bt_kl, bt_ix, bt_nl, bt_sm, bt_sr, bt_sig, bt_tg, bt_loc, bt_locs, List.getElem?_cons_zero, List.getElem?_cons_succ, List.set_cons_zero, List.set_cons_succ, List.map_cons, List.map_nil, List.take_succ_cons, List.take_zero, List.drop_succ_cons, List.drop_zero, List.reverse_cons, List.reverse_nil, List.nil_append, List.cons_append, List.append_nil, List.length_cons, List.length_nil, List.replicate_succ, List.replicate_zero, Option.toList_some, Option.toList_none, Nat.reduceAdd, Nat.reduceSub, Nat.reduceLeDiff, Nat.zero_add, Nat.zero_le, true_and, and_true, Int.toNat_natCast, Sum.inl.injEq, Sum.inr.injEq, ↓reduceIte, Nat.reduceEqDiff, hρ 71 _ (by decide), rf_71_0, sh_71, sh_72, bt_w_id]
      rw [if_neg (by omega), if_neg (by omega)]
      repeat (refine And.intro (by omega) ?_)
      refine ⟨ρ, _, z, g, fo g, rfl, rfl, hρ, hz, by omega, by rw [bt_up_cell (by omega), e7]; exact fg1, fg2, ?_⟩
      rw [hput]
      by_cases h1 : ab_mf (ab_put (μ1 72) g i) (fo g) g g
      · rw [if_pos h1] at hstep ⊢
        simp (disch := omega) only [bt_ild, bt_lld, bt_ald, bt_ist, bt_lst, bt_ast, bt_inc, bt_ic, bt_lc, bt_iadd, bt_isub, bt_imul, bt_iand, bt_ior, bt_ixor, bt_ishl, bt_ishr, bt_iushr, bt_ladd, bt_lsub, bt_lmul, bt_land, bt_lor, bt_lushr, bt_lshl, bt_idiv, bt_irem, bt_ldiv, bt_lrem, bt_lcmp, bt_i2l, bt_l2i, bt_i2b, bt_pop, bt_dup, bt_dup2, bt_gfI, bt_gfJ, bt_gfR, bt_pfI, bt_pfZ, bt_pfJ, bt_pfR, bt_ial, bt_bal, bt_zal, bt_lal, bt_aal, bt_ias, bt_bas, bt_zas, bt_las, bt_len, bt_iret, bt_zret, bt_lret, bt_vret, bt_cV, bt_cS, bt_tab, bt_tsw, bt_lk, bt_lsw, bt_acp, bt_mmax, bt_mmin, bt_can, bt_icmpeq, bt_ifeq, bt_icmpne, bt_ifne, bt_icmplt, bt_iflt, bt_icmpge, bt_ifge, bt_icmpgt, bt_ifgt, bt_icmple, bt_ifle, bt_ret, bt_kill, bt_kl, bt_ix, bt_nl, bt_sm, bt_sr, bt_sig, bt_tg, bt_loc, bt_locs, List.getElem?_cons_zero, List.getElem?_cons_succ, List.set_cons_zero, List.set_cons_succ, List.map_cons, List.map_nil, List.take_succ_cons, List.take_zero, List.drop_succ_cons, List.drop_zero, List.reverse_cons, List.reverse_nil, List.nil_append, List.cons_append, List.append_nil, List.length_cons, List.length_nil, List.replicate_succ, List.replicate_zero, Option.toList_some, Option.toList_none, Nat.reduceAdd, Nat.reduceSub, Nat.reduceLeDiff, Nat.zero_add, Nat.zero_le, true_and, and_true, Int.toNat_natCast, Sum.inl.injEq, Sum.inr.injEq, ↓reduceIte, Nat.reduceEqDiff, bt_w_id]
        first | exact next _ f2 (by rw [hstep, hput]) | (rw [if_neg (by decide)]; exact next _ f2 (by rw [hstep, hput]))
      · rw [if_neg h1] at hstep ⊢
        have hmx : bo_max (used : Int) ((i : Int) + 1) = ((max used (i + 1) : Nat) : Int) := by
          unfold bo_max
          rw [bt_w_id (by omega) (by omega), bt_w_id (by omega) (by omega)]
          split <;> omega
        simp (disch := omega) only [bt_ild, bt_lld, bt_ald, bt_ist, bt_lst, bt_ast, bt_inc, bt_ic, bt_lc, bt_iadd, bt_isub, bt_imul, bt_iand, bt_ior, bt_ixor, bt_ishl, bt_ishr, bt_iushr, bt_ladd, bt_lsub, bt_lmul, bt_land, bt_lor, bt_lushr, bt_lshl, bt_idiv, bt_irem, bt_ldiv, bt_lrem, bt_lcmp, bt_i2l, bt_l2i, bt_i2b, bt_pop, bt_dup, bt_dup2, bt_gfI, bt_gfJ, bt_gfR, bt_pfI, bt_pfZ, bt_pfJ, bt_pfR, bt_ial, bt_bal, bt_zal, bt_lal, bt_aal, bt_ias, bt_bas, bt_zas, bt_las, bt_len, bt_iret, bt_zret, bt_lret, bt_vret, bt_cV, bt_cS, bt_tab, bt_tsw, bt_lk, bt_lsw, bt_acp, bt_mmax, bt_mmin, bt_can, bt_icmpeq, bt_ifeq, bt_icmpne, bt_ifne, bt_icmplt, bt_iflt, bt_icmpge, bt_ifge, bt_icmpgt, bt_ifgt, bt_icmple, bt_ifle, bt_ret, bt_kill, bt_kl, bt_ix, bt_nl, bt_sm, bt_sr, bt_sig, bt_tg, bt_loc, bt_locs, List.getElem?_cons_zero, List.getElem?_cons_succ, List.set_cons_zero, List.set_cons_succ, List.map_cons, List.map_nil, List.take_succ_cons, List.take_zero, List.drop_succ_cons, List.drop_zero, List.reverse_cons, List.reverse_nil, List.nil_append, List.cons_append, List.append_nil, List.length_cons, List.length_nil, List.replicate_succ, List.replicate_zero, Option.toList_some, Option.toList_none, Nat.reduceAdd, Nat.reduceSub, Nat.reduceLeDiff, Nat.zero_add, Nat.zero_le, true_and, and_true, Int.toNat_natCast, Sum.inl.injEq, Sum.inr.injEq, ↓reduceIte, Nat.reduceEqDiff, bt_w_id, hmx, sh_71]
        repeat (refine And.intro (by omega) ?_)
        refine ⟨ρ, _, z, g + 1, n, max used (i + 1), most, fo, rfl, rfl, hρ, hz, by omega, hn6, by omega, hm, by rw [bt_up_cell (by omega), e1]; exact hn, fun j hj => by rw [bt_up_cell (by omega), e7]; exact hfo j hj, fun μ2 h72 hf2 => ?_⟩
        rw [hput] at h72 ⊢
        have f3 : bt_fr (fun a => a = 72) μ2 μ := fun a ha => by rw [hf2 a ha]; exact f2 a ha
        by_cases h2 : (ab_pl fo most k (g + 1) (max used (i + 1)) (ab_put (μ1 72) g i)).1
        · rw [if_pos h2] at hstep ⊢
          simp (disch := omega) only [bt_ild, bt_lld, bt_ald, bt_ist, bt_lst, bt_ast, bt_inc, bt_ic, bt_lc, bt_iadd, bt_isub, bt_imul, bt_iand, bt_ior, bt_ixor, bt_ishl, bt_ishr, bt_iushr, bt_ladd, bt_lsub, bt_lmul, bt_land, bt_lor, bt_lushr, bt_lshl, bt_idiv, bt_irem, bt_ldiv, bt_lrem, bt_lcmp, bt_i2l, bt_l2i, bt_i2b, bt_pop, bt_dup, bt_dup2, bt_gfI, bt_gfJ, bt_gfR, bt_pfI, bt_pfZ, bt_pfJ, bt_pfR, bt_ial, bt_bal, bt_zal, bt_lal, bt_aal, bt_ias, bt_bas, bt_zas, bt_las, bt_len, bt_iret, bt_zret, bt_lret, bt_vret, bt_cV, bt_cS, bt_tab, bt_tsw, bt_lk, bt_lsw, bt_acp, bt_mmax, bt_mmin, bt_can, bt_icmpeq, bt_ifeq, bt_icmpne, bt_ifne, bt_icmplt, bt_iflt, bt_icmpge, bt_ifge, bt_icmpgt, bt_ifgt, bt_icmple, bt_ifle, bt_ret, bt_kill, bt_kl, bt_ix, bt_nl, bt_sm, bt_sr, bt_sig, bt_tg, bt_loc, bt_locs, List.getElem?_cons_zero, List.getElem?_cons_succ, List.set_cons_zero, List.set_cons_succ, List.map_cons, List.map_nil, List.take_succ_cons, List.take_zero, List.drop_succ_cons, List.drop_zero, List.reverse_cons, List.reverse_nil, List.nil_append, List.cons_append, List.append_nil, List.length_cons, List.length_nil, List.replicate_succ, List.replicate_zero, Option.toList_some, Option.toList_none, Nat.reduceAdd, Nat.reduceSub, Nat.reduceLeDiff, Nat.zero_add, Nat.zero_le, true_and, and_true, Int.toNat_natCast, Sum.inl.injEq, Sum.inr.injEq, ↓reduceIte, Nat.reduceEqDiff, bt_w_id]
          rw [hstep] at hQ
          have := hQ μ2 h72 f3
          rw [if_pos h2] at this
          first | exact ⟨by simp, this⟩ | (rw [if_neg (by decide)]; exact ⟨by simp, this⟩)
        · rw [if_neg h2] at hstep ⊢
          simp (disch := omega) only [bt_ild, bt_lld, bt_ald, bt_ist, bt_lst, bt_ast, bt_inc, bt_ic, bt_lc, bt_iadd, bt_isub, bt_imul, bt_iand, bt_ior, bt_ixor, bt_ishl, bt_ishr, bt_iushr, bt_ladd, bt_lsub, bt_lmul, bt_land, bt_lor, bt_lushr, bt_lshl, bt_idiv, bt_irem, bt_ldiv, bt_lrem, bt_lcmp, bt_i2l, bt_l2i, bt_i2b, bt_pop, bt_dup, bt_dup2, bt_gfI, bt_gfJ, bt_gfR, bt_pfI, bt_pfZ, bt_pfJ, bt_pfR, bt_ial, bt_bal, bt_zal, bt_lal, bt_aal, bt_ias, bt_bas, bt_zas, bt_las, bt_len, bt_iret, bt_zret, bt_lret, bt_vret, bt_cV, bt_cS, bt_tab, bt_tsw, bt_lk, bt_lsw, bt_acp, bt_mmax, bt_mmin, bt_can, bt_icmpeq, bt_ifeq, bt_icmpne, bt_ifne, bt_icmplt, bt_iflt, bt_icmpge, bt_ifge, bt_icmpgt, bt_ifgt, bt_icmple, bt_ifle, bt_ret, bt_kill, bt_kl, bt_ix, bt_nl, bt_sm, bt_sr, bt_sig, bt_tg, bt_loc, bt_locs, List.getElem?_cons_zero, List.getElem?_cons_succ, List.set_cons_zero, List.set_cons_succ, List.map_cons, List.map_nil, List.take_succ_cons, List.take_zero, List.drop_succ_cons, List.drop_zero, List.reverse_cons, List.reverse_nil, List.nil_append, List.cons_append, List.append_nil, List.length_cons, List.length_nil, List.replicate_succ, List.replicate_zero, Option.toList_some, Option.toList_none, Nat.reduceAdd, Nat.reduceSub, Nat.reduceLeDiff, Nat.zero_add, Nat.zero_le, true_and, and_true, Int.toNat_natCast, Sum.inl.injEq, Sum.inr.injEq, ↓reduceIte, Nat.reduceEqDiff, bt_w_id]
          first | exact next μ2 f3 (by rw [hstep, h72]) | (rw [if_pos (by decide)]; exact next μ2 f3 (by rw [hstep, h72]))
