/-! Rows: keepApart, walkOn, walkFrom -/
theorem mtX4_plk : ∀ k d, 12 + k ≤ d → bt_Met yX4_place cX4_place 6 (some .boolean) d [2, 2, 0, 0, 0] (SpX4_pl k)
  | 0, d, hd => mtX4_pl0 d hd
  | k + 1, d, hd => mtX4_pls k (mtX4_plk k) d hd
def SpX4_place : bt_Sp := fun As w Q => ∃ k, k ≤ 6 ∧ SpX4_pl k As w Q
theorem mtX4_place : bt_Met yX4_place cX4_place 6 (some .boolean) 62 [2, 2, 0, 0, 0] SpX4_place := fun l D cy ad As w Q sz hsig hS => by
  obtain ⟨k, hk, h⟩ := hS
  exact mtX4_plk k _ (by omega) l D cy ad As w Q sz hsig h
def ab_kaL (fo : Nat → Nat) (n : Nat) : Nat → Nat → (Nat → Int) → Nat × (Nat → Int)
  | 0, i, rw => (i, (ab_pl fo i n 0 0 rw).2)
  | c + 1, i, rw => if (ab_pl fo i n 0 0 rw).1 then (i, (ab_pl fo i n 0 0 rw).2) else ab_kaL fo n c (i + 1) (ab_pl fo i n 0 0 rw).2
def SpX4_keepApart : bt_Sp := fun As w Q => ∃ (ρ : Nat → Nat → Option Nat) (μ : Nat → Nat → Int) (z n : Nat) (fo : Nat → Nat), As = [.inr (.inr 71), .inr (.inr z)] ∧ w = bt_wd ρ μ ∧ bt_Rf ρ ∧ z ∈ bt_zos ∧ n ≤ 6 ∧ μ z 1 = (n : Int) ∧ (∀ i, i < n → μ (z + 7) i = (fo i : Int) ∧ fo i < 64) ∧ ∀ μ', μ' 72 = (ab_kaL fo n n 0 (μ 72)).2 → bt_fr (fun a => a = 72) μ' μ → Q (some (.inl ((ab_kaL fo n n 0 (μ 72)).1 : Int))) (bt_wd ρ μ')
set_option maxHeartbeats 4000000 in
theorem mtX4_keepApart : bt_Met yX4_keepApart cX4_keepApart 3 (some .int) 63 [2, 2] SpX4_keepApart := by
  refine lpX4_keepApart mtX4_place (by decide) _ (fun As w Q _ hS => ?_)
  obtain ⟨ρ, μ, z, n, fo, rfl, rfl, hρ, hz, hn6, hn, hfo, hQ⟩ := hS
  obtain ⟨c1, c2, c3, c4, c5, c6, c7, c8, c9, c10, c11, c12, c13, c14, c15, c16, c17, c18, c19, c20, c21, c22, c23, c24, c25⟩ := bt_zo_f z hz
  have hzz := bt_zo2 z hz
  refine ⟨fun h' m st L w => st = [] ∧ ∃ (i : Nat) (μ1 : Nat → Nat → Int), w = bt_wd ρ μ1 ∧ i ≤ n ∧ m = n - i ∧ L = [some (.inr (.inr 71)), some (.inr (.inr z)), some (.inl (i : Int))] ∧ bt_fr (fun a => a = 72) μ1 μ ∧ ab_kaL fo n n 0 (μ 72) = ab_kaL fo n (n - i) i (μ1 72), ?_, ?_⟩
  · simp (disch := omega) only [tX4_keepApart_0, bt_ild, bt_lld, bt_ald, bt_ist, bt_lst, bt_ast, bt_inc, bt_ic, bt_lc, bt_iadd, bt_isub, bt_imul, bt_iand, bt_ior, bt_ixor, bt_ishl, bt_ishr, bt_iushr, bt_ladd, bt_lsub, bt_lmul, bt_land, bt_lor, bt_lushr, bt_lshl, bt_idiv, bt_irem, bt_ldiv, bt_lrem, bt_lcmp, bt_i2l, bt_l2i, bt_i2b, bt_pop, bt_dup, bt_dup2, bt_gfI, bt_gfJ, bt_gfR, bt_pfI, bt_pfZ, bt_pfJ, bt_pfR, bt_ial, bt_bal, bt_zal, bt_lal, bt_aal, bt_ias, bt_bas, bt_zas, bt_las, bt_len, bt_iret, bt_zret, bt_lret, bt_vret, bt_cV, bt_cS, bt_tab, bt_tsw, bt_lk, bt_lsw, bt_acp, bt_mmax, bt_mmin, bt_can, bt_icmpeq, bt_ifeq, bt_icmpne, bt_ifne, bt_icmplt, bt_iflt, bt_icmpge, bt_ifge, bt_icmpgt, bt_ifgt, bt_icmple, bt_ifle, bt_ret, bt_kill, bt_kl, bt_ix, bt_nl, bt_sm, bt_sr, bt_sig, bt_tg, bt_loc, bt_locs, List.getElem?_cons_zero, List.getElem?_cons_succ, List.set_cons_zero, List.set_cons_succ, List.map_cons, List.map_nil, List.take_succ_cons, List.take_zero, List.drop_succ_cons, List.drop_zero, List.reverse_cons, List.reverse_nil, List.nil_append, List.cons_append, List.append_nil, List.length_cons, List.length_nil, List.replicate_succ, List.replicate_zero, Option.toList_some, Option.toList_none, Nat.reduceAdd, Nat.reduceSub, Nat.reduceLeDiff, Nat.zero_add, Nat.zero_le, true_and, and_true, Int.toNat_natCast, Sum.inl.injEq, Sum.inr.injEq, ↓reduceIte, Nat.reduceEqDiff]
    exact ⟨n, 0, μ, rfl, by omega, by omega, rfl, fun _ _ => rfl, rfl⟩
  · rintro m st L w ⟨rfl, i, μ1, rfl, hi, rfl, rfl, hfr, hI⟩
    have e7 : μ1 (z + 7) = μ (z + 7) := hfr _ (by omega)
    have e1 : μ1 z = μ z := hfr _ (by omega)
    simp (disch := omega) only [tX4_keepApart_2, bt_ild, bt_lld, bt_ald, bt_ist, bt_lst, bt_ast, bt_inc, bt_ic, bt_lc, bt_iadd, bt_isub, bt_imul, bt_iand, bt_ior, bt_ixor, bt_ishl, bt_ishr, bt_iushr, bt_ladd, bt_lsub, bt_lmul, bt_land, bt_lor, bt_lushr, bt_lshl, bt_idiv, bt_irem, bt_ldiv, bt_lrem, bt_lcmp, bt_i2l, bt_l2i, bt_i2b, bt_pop, bt_dup, bt_dup2, bt_gfI, bt_gfJ, bt_gfR, bt_pfI, bt_pfZ, bt_pfJ, bt_pfR, bt_ial, bt_bal, bt_zal, bt_lal, bt_aal, bt_ias, bt_bas, bt_zas, bt_las, bt_len, bt_iret, bt_zret, bt_lret, bt_vret, bt_cV, bt_cS, bt_tab, bt_tsw, bt_lk, bt_lsw, bt_acp, bt_mmax, bt_mmin, bt_can, bt_icmpeq, bt_ifeq, bt_icmpne, bt_ifne, bt_icmplt, bt_iflt, bt_icmpge, bt_ifge, bt_icmpgt, bt_ifgt, bt_icmple, bt_ifle, bt_ret, bt_kill, bt_kl, bt_ix, bt_nl, bt_sm, bt_sr, bt_sig, bt_tg, bt_loc, bt_locs, List.getElem?_cons_zero, List.getElem?_cons_succ, List.set_cons_zero, List.set_cons_succ, List.map_cons, List.map_nil, List.take_succ_cons, List.take_zero, List.drop_succ_cons, List.drop_zero, List.reverse_cons, List.reverse_nil, List.nil_append, List.cons_append, List.append_nil, List.length_cons, List.length_nil, List.replicate_succ, List.replicate_zero, Option.toList_some, Option.toList_none, Nat.reduceAdd, Nat.reduceSub, Nat.reduceLeDiff, Nat.zero_add, Nat.zero_le, true_and, and_true, Int.toNat_natCast, Sum.inl.injEq, Sum.inr.injEq, ↓reduceIte, Nat.reduceEqDiff, hρ z _ c2, c3, c4, c5, c6, c7, c8, c9, c10, c11, c12, c13, c14, c15, c16, c17, c18, c19, c20, c21, c22, c23, c24, e1, hn, sh_71, bt_w_id]
    refine And.intro (by omega) ?_
    by_cases hc : n ≤ i
    · rw [if_pos (by omega)]
      have : i = n := by omega
      subst this
      rw [Nat.sub_self] at hI
      repeat (refine And.intro (by omega) ?_)
      refine ⟨i, hn6, ρ, μ1, z, 0, i, 0, i, fo, rfl, rfl, hρ, hz, by omega, hn6, by omega, hn6, by rw [e1]; exact hn, fun j hj => by rw [e7]; exact hfo j hj, fun μ2 h72 hf2 => ?_⟩
      have e2 : μ2 z = μ z := by rw [hf2 z (by omega)]; exact e1
      simp (disch := omega) only [bt_ild, bt_lld, bt_ald, bt_ist, bt_lst, bt_ast, bt_inc, bt_ic, bt_lc, bt_iadd, bt_isub, bt_imul, bt_iand, bt_ior, bt_ixor, bt_ishl, bt_ishr, bt_iushr, bt_ladd, bt_lsub, bt_lmul, bt_land, bt_lor, bt_lushr, bt_lshl, bt_idiv, bt_irem, bt_ldiv, bt_lrem, bt_lcmp, bt_i2l, bt_l2i, bt_i2b, bt_pop, bt_dup, bt_dup2, bt_gfI, bt_gfJ, bt_gfR, bt_pfI, bt_pfZ, bt_pfJ, bt_pfR, bt_ial, bt_bal, bt_zal, bt_lal, bt_aal, bt_ias, bt_bas, bt_zas, bt_las, bt_len, bt_iret, bt_zret, bt_lret, bt_vret, bt_cV, bt_cS, bt_tab, bt_tsw, bt_lk, bt_lsw, bt_acp, bt_mmax, bt_mmin, bt_can, bt_icmpeq, bt_ifeq, bt_icmpne, bt_ifne, bt_icmplt, bt_iflt, bt_icmpge, bt_ifge, bt_icmpgt, bt_ifgt, bt_icmple, bt_ifle, bt_ret, bt_kill, bt_kl, bt_ix, bt_nl, bt_sm, bt_sr, bt_sig, bt_tg, bt_loc, bt_locs, List.getElem?_cons_zero, List.getElem?_cons_succ, List.set_cons_zero, List.set_cons_succ, List.map_cons, List.map_nil, List.take_succ_cons, List.take_zero, List.drop_succ_cons, List.drop_zero, List.reverse_cons, List.reverse_nil, List.nil_append, List.cons_append, List.append_nil, List.length_cons, List.length_nil, List.replicate_succ, List.replicate_zero, Option.toList_some, Option.toList_none, Nat.reduceAdd, Nat.reduceSub, Nat.reduceLeDiff, Nat.zero_add, Nat.zero_le, true_and, and_true, Int.toNat_natCast, Sum.inl.injEq, Sum.inr.injEq, ↓reduceIte, Nat.reduceEqDiff, hρ z _ c2, c3, c4, c5, c6, c7, c8, c9, c10, c11, c12, c13, c14, c15, c16, c17, c18, c19, c20, c21, c22, c23, c24, e2, hn]
      rw [hI] at hQ
      exact ⟨by omega, hQ μ2 h72 (fun a ha => by rw [hf2 a ha]; exact hfr a ha)⟩
    · rw [if_neg (by omega)]
      have hstep : ab_kaL fo n n 0 (μ 72) = if (ab_pl fo i n 0 0 (μ1 72)).1 then (i, (ab_pl fo i n 0 0 (μ1 72)).2) else ab_kaL fo n (n - (i + 1)) (i + 1) (ab_pl fo i n 0 0 (μ1 72)).2 := by
        rw [hI, show n - i = (n - (i + 1)) + 1 by omega]
        rfl
      refine ⟨by omega, n, hn6, ρ, μ1, z, 0, n, 0, i, fo, rfl, rfl, hρ, hz, by omega, hn6, by omega, by omega, by rw [e1]; exact hn, fun j hj => by rw [e7]; exact hfo j hj, fun μ2 h72 hf2 => ?_⟩
      have f2 : bt_fr (fun a => a = 72) μ2 μ := fun a ha => by rw [hf2 a ha]; exact hfr a ha
      by_cases h1 : (ab_pl fo i n 0 0 (μ1 72)).1
      · rw [if_pos h1] at hstep ⊢
        simp (disch := omega) only [bt_ild, bt_lld, bt_ald, bt_ist, bt_lst, bt_ast, bt_inc, bt_ic, bt_lc, bt_iadd, bt_isub, bt_imul, bt_iand, bt_ior, bt_ixor, bt_ishl, bt_ishr, bt_iushr, bt_ladd, bt_lsub, bt_lmul, bt_land, bt_lor, bt_lushr, bt_lshl, bt_idiv, bt_irem, bt_ldiv, bt_lrem, bt_lcmp, bt_i2l, bt_l2i, bt_i2b, bt_pop, bt_dup, bt_dup2, bt_gfI, bt_gfJ, bt_gfR, bt_pfI, bt_pfZ, bt_pfJ, bt_pfR, bt_ial, bt_bal, bt_zal, bt_lal, bt_aal, bt_ias, bt_bas, bt_zas, bt_las, bt_len, bt_iret, bt_zret, bt_lret, bt_vret, bt_cV, bt_cS, bt_tab, bt_tsw, bt_lk, bt_lsw, bt_acp, bt_mmax, bt_mmin, bt_can, bt_icmpeq, bt_ifeq, bt_icmpne, bt_ifne, bt_icmplt, bt_iflt, bt_icmpge, bt_ifge, bt_icmpgt, bt_ifgt, bt_icmple, bt_ifle, bt_ret, bt_kill, bt_kl, bt_ix, bt_nl, bt_sm, bt_sr, bt_sig, bt_tg, bt_loc, bt_locs, List.getElem?_cons_zero, List.getElem?_cons_succ, List.set_cons_zero, List.set_cons_succ, List.map_cons, List.map_nil, List.take_succ_cons, List.take_zero, List.drop_succ_cons, List.drop_zero, List.reverse_cons, List.reverse_nil, List.nil_append, List.cons_append, List.append_nil, List.length_cons, List.length_nil, List.replicate_succ, List.replicate_zero, Option.toList_some, Option.toList_none, Nat.reduceAdd, Nat.reduceSub, Nat.reduceLeDiff, Nat.zero_add, Nat.zero_le, true_and, and_true, Int.toNat_natCast, Sum.inl.injEq, Sum.inr.injEq, ↓reduceIte, Nat.reduceEqDiff, bt_w_id]
        rw [hstep] at hQ
        have := hQ μ2 h72 f2
        first | exact this | (rw [if_neg (by decide)]; exact this)
      · rw [if_neg h1] at hstep ⊢
        simp (disch := omega) only [bt_ild, bt_lld, bt_ald, bt_ist, bt_lst, bt_ast, bt_inc, bt_ic, bt_lc, bt_iadd, bt_isub, bt_imul, bt_iand, bt_ior, bt_ixor, bt_ishl, bt_ishr, bt_iushr, bt_ladd, bt_lsub, bt_lmul, bt_land, bt_lor, bt_lushr, bt_lshl, bt_idiv, bt_irem, bt_ldiv, bt_lrem, bt_lcmp, bt_i2l, bt_l2i, bt_i2b, bt_pop, bt_dup, bt_dup2, bt_gfI, bt_gfJ, bt_gfR, bt_pfI, bt_pfZ, bt_pfJ, bt_pfR, bt_ial, bt_bal, bt_zal, bt_lal, bt_aal, bt_ias, bt_bas, bt_zas, bt_las, bt_len, bt_iret, bt_zret, bt_lret, bt_vret, bt_cV, bt_cS, bt_tab, bt_tsw, bt_lk, bt_lsw, bt_acp, bt_mmax, bt_mmin, bt_can, bt_icmpeq, bt_ifeq, bt_icmpne, bt_ifne, bt_icmplt, bt_iflt, bt_icmpge, bt_ifge, bt_icmpgt, bt_ifgt, bt_icmple, bt_ifle, bt_ret, bt_kill, bt_kl, bt_ix, bt_nl, bt_sm, bt_sr, bt_sig, bt_tg, bt_loc, bt_locs, List.getElem?_cons_zero, List.getElem?_cons_succ, List.set_cons_zero, List.set_cons_succ, List.map_cons, List.map_nil, List.take_succ_cons, List.take_zero, List.drop_succ_cons, List.drop_zero, List.reverse_cons, List.reverse_nil, List.nil_append, List.cons_append, List.append_nil, List.length_cons, List.length_nil, List.replicate_succ, List.replicate_zero, Option.toList_some, Option.toList_none, Nat.reduceAdd, Nat.reduceSub, Nat.reduceLeDiff, Nat.zero_add, Nat.zero_le, true_and, and_true, Int.toNat_natCast, Sum.inl.injEq, Sum.inr.injEq, ↓reduceIte, Nat.reduceEqDiff, bt_w_id]
        have : ∃ m, m < n - i ∧ ∃ (i' : Nat) (μ3 : Nat → Nat → Int), bt_wd ρ μ2 = bt_wd ρ μ3 ∧ i' ≤ n ∧ m = n - i' ∧ [some (Sum.inr (Sum.inr 71)), some (Sum.inr (Sum.inr z)), some (Sum.inl ((i : Int) + 1))] = ([some (Sum.inr (Sum.inr 71)), some (Sum.inr (Sum.inr z)), some (Sum.inl (i' : Int))] : List (Option bt_V)) ∧ bt_fr (fun a => a = 72) μ3 μ ∧ ab_kaL fo n n 0 (μ 72) = ab_kaL fo n (n - i') i' (μ3 72) := ⟨n - (i + 1), by omega, i + 1, μ2, rfl, by omega, rfl, rfl, f2, by rw [hstep, h72]⟩
        first | exact this | (rw [if_pos (by decide)]; exact this)
set_option maxRecDepth 100000 in
theorem ab_clr : ∀ G : Nat, G < 64 → ∀ p : Nat, p < 6 → G.testBit p = true → bo_iand (G : Int) (bo_ixor (bo_ishl 1 (p : Int)) (-1)) = ((G - 2 ^ p : Nat) : Int) ∧ bt_pcn (G - 2 ^ p) 16 + 1 = bt_pcn G 16 := by decide +kernel
set_option maxRecDepth 100000 in
theorem ab_pc0 : ∀ G : Nat, G < 64 → (bt_pcn G 16 = 0 ↔ G = 0) := by decide +kernel
/-- the shortest walk so far, its order, the steps at hand -/
abbrev ab_St : Type := Int × (Nat → Int) × (Nat → Int)
def ab_wkL (mn : Nat → Int) (G frm a : Nat) (x : Int) (rc : Nat → Nat → Int → ab_St → ab_St) : Nat → Nat → ab_St → ab_St
  | 0, _, s => s
  | c + 1, p, s => ab_wkL mn G frm a x rc c (p + 1) (if G.testBit p ∧ x + mn (frm * 6 + p) < s.1 then rc p (G - 2 ^ p) (x + mn (frm * 6 + p)) (s.1, s.2.1, ab_put s.2.2 a p) else s)
def ab_wk (mn : Nat → Int) (len P : Nat) : Nat → Nat → Nat → Int → ab_St → ab_St
  | 0, _, _, x, s => (x, (fun i => if i < 6 then s.2.2 i else s.2.1 i), s.2.2)
  | k + 1, frm, G, x, s => ab_wkL mn G frm (len - (k + 1)) x (fun p G' y t => ab_wk mn len P k p G' y t) P 0 s
theorem ab_wk_rg {mn : Nat → Int} {len P : Nat} (hm : ∀ i, i < 36 → 0 ≤ mn i) : ∀ k frm G x s, frm < 6 → P ≤ 6 → 0 ≤ x → x < 1000 → 0 ≤ s.1 → s.1 ≤ 1000 → 0 ≤ (ab_wk mn len P k frm G x s).1 ∧ (ab_wk mn len P k frm G x s).1 ≤ 1000
  | 0, frm, G, x, s, _, _, h1, h2, _, _ => by unfold ab_wk; exact ⟨h1, by show x ≤ 1000; omega⟩
  | k + 1, frm, G, x, s, hf, hP, h1, h2, h3, h4 => by
    have ih := ab_wk_rg (len := len) (P := P) hm k
    unfold ab_wk
    have : ∀ c p s, p + c = P → 0 ≤ s.1 → s.1 ≤ 1000 → 0 ≤ (ab_wkL mn G frm (len - (k + 1)) x (fun p G' y t => ab_wk mn len P k p G' y t) c p s).1 ∧ (ab_wkL mn G frm (len - (k + 1)) x (fun p G' y t => ab_wk mn len P k p G' y t) c p s).1 ≤ 1000 := by
      intro c
      induction c with
      | zero => intro p s _ a b; exact ⟨a, b⟩
      | succ c ihc =>
        intro p s hp a b
        unfold ab_wkL
        split
        next hq =>
          have q := hm (frm * 6 + p) (by omega)
          have r := ih p (G - 2 ^ p) (x + mn (frm * 6 + p)) (s.1, s.2.1, ab_put s.2.2 (len - (k + 1)) p) (by omega) hP (by omega) (by have := hq.2; omega) a b
          exact ihc (p + 1) _ (by omega) r.1 r.2
        next hq => exact ihc (p + 1) _ (by omega) a b
    exact this P 0 s (by omega) h3 h4
def bt_wkS (μ : Nat → Nat → Int) : ab_St := (μ 71 4, μ 74, μ 73)
def bt_inR : Nat → Prop := fun a => a = 71 ∨ a = 73 ∨ a = 74
def SpX4_wk (k : Nat) : bt_Sp := fun As w Q => ∃ (ρ : Nat → Nat → Option Nat) (μ : Nat → Nat → Int) (z frm G len P : Nat) (x : Int), As = [.inr (.inr 71), .inr (.inr z), .inl (frm : Int), .inl (G : Int), .inl x] ∧ w = bt_wd ρ μ ∧ bt_Rf ρ ∧ z ∈ bt_zos ∧ frm < 6 ∧ G < 64 ∧ bt_pcn G 16 = k ∧ k ≤ len ∧ len ≤ 6 ∧ μ 71 3 = (len : Int) ∧ μ z 0 = (P : Int) ∧ P ≤ 6 ∧ 0 ≤ x ∧ x < 1000 ∧ 0 ≤ μ 71 4 ∧ μ 71 4 ≤ 1000 ∧ (∀ i, i < 36 → 0 ≤ μ (z + 8) i ∧ μ (z + 8) i ≤ 1000) ∧ ∀ μ', bt_wkS μ' = ab_wk (μ (z + 8)) len P k frm G x (bt_wkS μ) → (∀ i, i ≠ 4 → μ' 71 i = μ 71 i) → bt_fr bt_inR μ' μ → Q none (bt_wd ρ μ')
set_option maxHeartbeats 4000000 in
theorem mtX4_wk0 (dd : Nat) (hdd : 12 ≤ dd) : bt_Met yX4_walkOn cX4_walkOn 8 none dd [2, 2, 0, 0, 0] (SpX4_wk 0) := by
  refine lpX4_walkOn mtJ6_bitCount_0f7a4 (by omega) (bt_metF (d := 0)) (by omega) ⟨by omega, Nat.le_trans (by decide : 8 + (nativeFrameWords "java/lang/System" "arraycopy" 5 + 11) ≤ 64 * 12) (by omega)⟩ _ (fun As w Q _ hS => ?_)
  obtain ⟨ρ, μ, z, frm, G, len, P, x, rfl, rfl, hρ, hz, hf, hG, hk, hkl, hl6, hlen, hP, hP6, hx0, hx1, hb0, hb1, hmn, hQ⟩ := hS
  have hG0 := (ab_pc0 G hG).mp hk
  subst hG0
  refine ⟨fun _ _ _ _ _ => False, ?_, fun _ _ _ _ h => h.elim⟩
  simp (disch := omega) only [tX4_walkOn_0, tX4_walkOn_115, bt_ild, bt_lld, bt_ald, bt_ist, bt_lst, bt_ast, bt_inc, bt_ic, bt_lc, bt_iadd, bt_isub, bt_imul, bt_iand, bt_ior, bt_ixor, bt_ishl, bt_ishr, bt_iushr, bt_ladd, bt_lsub, bt_lmul, bt_land, bt_lor, bt_lushr, bt_lshl, bt_idiv, bt_irem, bt_ldiv, bt_lrem, bt_lcmp, bt_i2l, bt_l2i, bt_i2b, bt_pop, bt_dup, bt_dup2, bt_gfI, bt_gfJ, bt_gfR, bt_pfI, bt_pfZ, bt_pfJ, bt_pfR, bt_ial, bt_bal, bt_zal, bt_lal, bt_aal, bt_ias, bt_bas, bt_zas, bt_las, bt_len, bt_iret, bt_zret, bt_lret, bt_vret, bt_cV, bt_cS, bt_tab, bt_tsw, bt_lk, bt_lsw, bt_acp, bt_mmax, bt_mmin, bt_can, bt_icmpeq, bt_ifeq, bt_icmpne, bt_ifne, bt_icmplt, bt_iflt, bt_icmpge, bt_ifge, bt_icmpgt, bt_ifgt, bt_icmple, bt_ifle, bt_ret, bt_kill, bt_kl, bt_ix, bt_nl, bt_sm, bt_sr, bt_sig, bt_tg, bt_loc, bt_locs, List.getElem?_cons_zero, List.getElem?_cons_succ, List.set_cons_zero, List.set_cons_succ, List.map_cons, List.map_nil, List.take_succ_cons, List.take_zero, List.drop_succ_cons, List.drop_zero, List.reverse_cons, List.reverse_nil, List.nil_append, List.cons_append, List.append_nil, List.length_cons, List.length_nil, List.replicate_succ, List.replicate_zero, Option.toList_some, Option.toList_none, Nat.reduceAdd, Nat.reduceSub, Nat.reduceLeDiff, Nat.zero_add, Nat.zero_le, true_and, and_true, Int.toNat_natCast, Sum.inl.injEq, Sum.inr.injEq, ↓reduceIte, Nat.reduceEqDiff, hρ 71 _ (by decide), rf_71_1, rf_71_2, sh_71, sh_73, sh_74, bt_w_id]
  rw [if_pos (by decide)]
  repeat (refine And.intro (by omega) ?_)
  have e6 : Int.toNat 6 = 6 := rfl
  have e0 : Int.toNat 0 = 0 := rfl
  rw [e6, e0]
  refine hQ _ ?_ (fun i hi => ?_) (fun a ha => ?_)
  · unfold bt_wkS ab_wk
    refine Prod.ext ?_ (Prod.ext ?_ ?_)
    · simp [bt_cp, bt_up]
    · funext i
      simp only [bt_cp, bt_up]
      by_cases h : i < 6
      · simp [h]
      · simp [h]
    · funext i
      simp [bt_cp, bt_up]
  · simp [bt_cp, bt_up, hi]
  · unfold bt_inR at ha
    rw [bt_cp_cell (by omega), bt_up_cell (by omega)]
set_option maxHeartbeats 4000000 in
theorem mtX4_wks (k : Nat) (ih : ∀ d, 12 + k ≤ d → bt_Met yX4_walkOn cX4_walkOn 8 none d [2, 2, 0, 0, 0] (SpX4_wk k)) (dd : Nat) (hdd : 12 + (k + 1) ≤ dd) : bt_Met yX4_walkOn cX4_walkOn 8 none dd [2, 2, 0, 0, 0] (SpX4_wk (k + 1)) := by
  refine lpX4_walkOn mtJ6_bitCount_0f7a4 (by omega) (ih (dd - 1) (by omega)) (by omega) ⟨by omega, Nat.le_trans (by decide : 8 + (nativeFrameWords "java/lang/System" "arraycopy" 5 + 11) ≤ 64 * 12) (by omega)⟩ _ (fun As w Q _ hS => ?_)
  obtain ⟨ρ, μ, z, frm, G, len, P, x, rfl, rfl, hρ, hz, hf, hG, hk, hkl, hl6, hlen, hP, hP6, hx0, hx1, hb0, hb1, hmn, hQ⟩ := hS
  obtain ⟨c1, c2, c3, c4, c5, c6, c7, c8, c9, c10, c11, c12, c13, c14, c15, c16, c17, c18, c19, c20, c21, c22, c23, c24, c25⟩ := bt_zo_f z hz
  have hzz := bt_zo2 z hz
  have hG0 : G ≠ 0 := fun h => by have := (ab_pc0 G hG).mpr h; omega
  have hwk : ab_wk (μ (z + 8)) len P (k + 1) frm G x (bt_wkS μ) = ab_wkL (μ (z + 8)) G frm (len - (k + 1)) x (fun p G' y t => ab_wk (μ (z + 8)) len P k p G' y t) P 0 (bt_wkS μ) := rfl
  rw [hwk] at hQ
  refine ⟨fun h' m st L w => st = [] ∧ ∃ (i : Nat) (μ1 : Nat → Nat → Int), w = bt_wd ρ μ1 ∧ i ≤ P ∧ m = P - i ∧ L = [some (.inr (.inr 71)), some (.inr (.inr z)), some (.inl (frm : Int)), some (.inl (G : Int)), some (.inl x), some (.inl ((len - (k + 1) : Nat) : Int)), some (.inl (i : Int)), none] ∧ bt_fr bt_inR μ1 μ ∧ (∀ j, j ≠ 4 → μ1 71 j = μ 71 j) ∧ (0 ≤ μ1 71 4 ∧ μ1 71 4 ≤ 1000) ∧ ab_wkL (μ (z + 8)) G frm (len - (k + 1)) x (fun p G' y t => ab_wk (μ (z + 8)) len P k p G' y t) P 0 (bt_wkS μ) = ab_wkL (μ (z + 8)) G frm (len - (k + 1)) x (fun p G' y t => ab_wk (μ (z + 8)) len P k p G' y t) (P - i) i (bt_wkS μ1), ?_, ?_⟩
  · simp (disch := omega) only [tX4_walkOn_0, tX4_walkOn_115, bt_ild, bt_lld, bt_ald, bt_ist, bt_lst, bt_ast, bt_inc, bt_ic, bt_lc, bt_iadd, bt_isub, bt_imul, bt_iand, bt_ior, bt_ixor, bt_ishl, bt_ishr, bt_iushr, bt_ladd, bt_lsub, bt_lmul, bt_land, bt_lor, bt_lushr, bt_lshl, bt_idiv, bt_irem, bt_ldiv, bt_lrem, bt_lcmp, bt_i2l, bt_l2i, bt_i2b, bt_pop, bt_dup, bt_dup2, bt_gfI, bt_gfJ, bt_gfR, bt_pfI, bt_pfZ, bt_pfJ, bt_pfR, bt_ial, bt_bal, bt_zal, bt_lal, bt_aal, bt_ias, bt_bas, bt_zas, bt_las, bt_len, bt_iret, bt_zret, bt_lret, bt_vret, bt_cV, bt_cS, bt_tab, bt_tsw, bt_lk, bt_lsw, bt_acp, bt_mmax, bt_mmin, bt_can, bt_icmpeq, bt_ifeq, bt_icmpne, bt_ifne, bt_icmplt, bt_iflt, bt_icmpge, bt_ifge, bt_icmpgt, bt_ifgt, bt_icmple, bt_ifle, bt_ret, bt_kill, bt_kl, bt_ix, bt_nl, bt_sm, bt_sr, bt_sig, bt_tg, bt_loc, bt_locs, List.getElem?_cons_zero, List.getElem?_cons_succ, List.set_cons_zero, List.set_cons_succ, List.map_cons, List.map_nil, List.take_succ_cons, List.take_zero, List.drop_succ_cons, List.drop_zero, List.reverse_cons, List.reverse_nil, List.nil_append, List.cons_append, List.append_nil, List.length_cons, List.length_nil, List.replicate_succ, List.replicate_zero, Option.toList_some, Option.toList_none, Nat.reduceAdd, Nat.reduceSub, Nat.reduceLeDiff, Nat.zero_add, Nat.zero_le, true_and, and_true, Int.toNat_natCast, Sum.inl.injEq, Sum.inr.injEq, ↓reduceIte, Nat.reduceEqDiff, sh_71, hlen, bt_w_id]
    rw [if_neg (by omega)]
    refine ⟨by omega, G, rfl, by omega, ?_⟩
    rw [hk]
    simp (disch := omega) only [bt_ild, bt_lld, bt_ald, bt_ist, bt_lst, bt_ast, bt_inc, bt_ic, bt_lc, bt_iadd, bt_isub, bt_imul, bt_iand, bt_ior, bt_ixor, bt_ishl, bt_ishr, bt_iushr, bt_ladd, bt_lsub, bt_lmul, bt_land, bt_lor, bt_lushr, bt_lshl, bt_idiv, bt_irem, bt_ldiv, bt_lrem, bt_lcmp, bt_i2l, bt_l2i, bt_i2b, bt_pop, bt_dup, bt_dup2, bt_gfI, bt_gfJ, bt_gfR, bt_pfI, bt_pfZ, bt_pfJ, bt_pfR, bt_ial, bt_bal, bt_zal, bt_lal, bt_aal, bt_ias, bt_bas, bt_zas, bt_las, bt_len, bt_iret, bt_zret, bt_lret, bt_vret, bt_cV, bt_cS, bt_tab, bt_tsw, bt_lk, bt_lsw, bt_acp, bt_mmax, bt_mmin, bt_can, bt_icmpeq, bt_ifeq, bt_icmpne, bt_ifne, bt_icmplt, bt_iflt, bt_icmpge, bt_ifge, bt_icmpgt, bt_ifgt, bt_icmple, bt_ifle, bt_ret, bt_kill, bt_kl, bt_ix, bt_nl, bt_sm, bt_sr, bt_sig, bt_tg, bt_loc, bt_locs, List.getElem?_cons_zero, List.getElem?_cons_succ, List.set_cons_zero, List.set_cons_succ, List.map_cons, List.map_nil, List.take_succ_cons, List.take_zero, List.drop_succ_cons, List.drop_zero, List.reverse_cons, List.reverse_nil, List.nil_append, List.cons_append, List.append_nil, List.length_cons, List.length_nil, List.replicate_succ, List.replicate_zero, Option.toList_some, Option.toList_none, Nat.reduceAdd, Nat.reduceSub, Nat.reduceLeDiff, Nat.zero_add, Nat.zero_le, true_and, and_true, Int.toNat_natCast, Sum.inl.injEq, Sum.inr.injEq, ↓reduceIte, Nat.reduceEqDiff]
    refine ⟨P, 0, μ, rfl, by omega, by omega, ?_, fun _ _ => rfl, fun _ _ => rfl, ⟨hb0, hb1⟩, rfl⟩
    rw [show (len : Int) - ((k + 1 : Nat) : Int) = ((len - (k + 1) : Nat) : Int) by omega]
    rfl
  · rintro m st L w ⟨rfl, i, μ1, rfl, hi, rfl, rfl, hfr, h71, hb, hI⟩
    have e8 : μ1 (z + 8) = μ (z + 8) := hfr _ (by unfold bt_inR; omega)
    have e1 : μ1 z = μ z := hfr _ (by unfold bt_inR; omega)
    by_cases hc : P ≤ i
    · simp (disch := omega) only [tX4_walkOn_40, bt_ild, bt_lld, bt_ald, bt_ist, bt_lst, bt_ast, bt_inc, bt_ic, bt_lc, bt_iadd, bt_isub, bt_imul, bt_iand, bt_ior, bt_ixor, bt_ishl, bt_ishr, bt_iushr, bt_ladd, bt_lsub, bt_lmul, bt_land, bt_lor, bt_lushr, bt_lshl, bt_idiv, bt_irem, bt_ldiv, bt_lrem, bt_lcmp, bt_i2l, bt_l2i, bt_i2b, bt_pop, bt_dup, bt_dup2, bt_gfI, bt_gfJ, bt_gfR, bt_pfI, bt_pfZ, bt_pfJ, bt_pfR, bt_ial, bt_bal, bt_zal, bt_lal, bt_aal, bt_ias, bt_bas, bt_zas, bt_las, bt_len, bt_iret, bt_zret, bt_lret, bt_vret, bt_cV, bt_cS, bt_tab, bt_tsw, bt_lk, bt_lsw, bt_acp, bt_mmax, bt_mmin, bt_can, bt_icmpeq, bt_ifeq, bt_icmpne, bt_ifne, bt_icmplt, bt_iflt, bt_icmpge, bt_ifge, bt_icmpgt, bt_ifgt, bt_icmple, bt_ifle, bt_ret, bt_kill, bt_kl, bt_ix, bt_nl, bt_sm, bt_sr, bt_sig, bt_tg, bt_loc, bt_locs, List.getElem?_cons_zero, List.getElem?_cons_succ, List.set_cons_zero, List.set_cons_succ, List.map_cons, List.map_nil, List.take_succ_cons, List.take_zero, List.drop_succ_cons, List.drop_zero, List.reverse_cons, List.reverse_nil, List.nil_append, List.cons_append, List.append_nil, List.length_cons, List.length_nil, List.replicate_succ, List.replicate_zero, Option.toList_some, Option.toList_none, Nat.reduceAdd, Nat.reduceSub, Nat.reduceLeDiff, Nat.zero_add, Nat.zero_le, true_and, and_true, Int.toNat_natCast, Sum.inl.injEq, Sum.inr.injEq, ↓reduceIte, Nat.reduceEqDiff, hρ z _ c2, c3, c4, c5, c6, c7, c8, c9, c10, c11, c12, c13, c14, c15, c16, c17, c18, c19, c20, c21, c22, c23, c24, e1, hP, bt_w_id]
      refine And.intro (by omega) ?_
      rw [if_pos (by omega)]
      have : i = P := by omega
      subst this
      rw [Nat.sub_self] at hI
      exact hQ μ1 hI.symm h71 hfr
    · have q := hmn (frm * 6 + i) (by omega)
      have next : ∀ (μ2 : Nat → Nat → Int) (y : Option bt_V), bt_fr bt_inR μ2 μ → (∀ j, j ≠ 4 → μ2 71 j = μ 71 j) → (0 ≤ μ2 71 4 ∧ μ2 71 4 ≤ 1000) → bt_wkS μ2 = (if G.testBit i ∧ x + μ (z + 8) (frm * 6 + i) < μ1 71 4 then ab_wk (μ (z + 8)) len P k i (G - 2 ^ i) (x + μ (z + 8) (frm * 6 + i)) ((bt_wkS μ1).1, (bt_wkS μ1).2.1, ab_put (bt_wkS μ1).2.2 (len - (k + 1)) i) else bt_wkS μ1) → tX4_walkOn_115 SpJ6_bitCount_0f7a4 (SpX4_wk k) (fun h st L w => ∃ m, m < P - i ∧ st = [] ∧ ∃ (i : Nat) (μ1 : Nat → Nat → Int), w = bt_wd ρ μ1 ∧ i ≤ P ∧ m = P - i ∧ L = [some (.inr (.inr 71)), some (.inr (.inr z)), some (.inl (frm : Int)), some (.inl (G : Int)), some (.inl x), some (.inl ((len - (k + 1) : Nat) : Int)), some (.inl (i : Int)), none] ∧ bt_fr bt_inR μ1 μ ∧ (∀ j, j ≠ 4 → μ1 71 j = μ 71 j) ∧ (0 ≤ μ1 71 4 ∧ μ1 71 4 ≤ 1000) ∧ ab_wkL (μ (z + 8)) G frm (len - (k + 1)) x (fun p G' y t => ab_wk (μ (z + 8)) len P k p G' y t) P 0 (bt_wkS μ) = ab_wkL (μ (z + 8)) G frm (len - (k + 1)) x (fun p G' y t => ab_wk (μ (z + 8)) len P k p G' y t) (P - i) i (bt_wkS μ1)) Q [] [some (.inr (.inr 71)), some (.inr (.inr z)), some (.inl (frm : Int)), some (.inl (G : Int)), some (.inl x), some (.inl ((len - (k + 1) : Nat) : Int)), some (.inl (i : Int)), y] (bt_wd ρ μ2) := by
        intro μ2 y h1 h2 h3 h4
        simp (disch := omega) only [tX4_walkOn_115, bt_ild, bt_lld, bt_ald, bt_ist, bt_lst, bt_ast, bt_inc, bt_ic, bt_lc, bt_iadd, bt_isub, bt_imul, bt_iand, bt_ior, bt_ixor, bt_ishl, bt_ishr, bt_iushr, bt_ladd, bt_lsub, bt_lmul, bt_land, bt_lor, bt_lushr, bt_lshl, bt_idiv, bt_irem, bt_ldiv, bt_lrem, bt_lcmp, bt_i2l, bt_l2i, bt_i2b, bt_pop, bt_dup, bt_dup2, bt_gfI, bt_gfJ, bt_gfR, bt_pfI, bt_pfZ, bt_pfJ, bt_pfR, bt_ial, bt_bal, bt_zal, bt_lal, bt_aal, bt_ias, bt_bas, bt_zas, bt_las, bt_len, bt_iret, bt_zret, bt_lret, bt_vret, bt_cV, bt_cS, bt_tab, bt_tsw, bt_lk, bt_lsw, bt_acp, bt_mmax, bt_mmin, bt_can, bt_icmpeq, bt_ifeq, bt_icmpne, bt_ifne, bt_icmplt, bt_iflt, bt_icmpge, bt_ifge, bt_icmpgt, bt_ifgt, bt_icmple, bt_ifle, bt_ret, bt_kill, bt_kl, bt_ix, bt_nl, bt_sm, bt_sr, bt_sig, bt_tg, bt_loc, bt_locs, List.getElem?_cons_zero, List.getElem?_cons_succ, List.set_cons_zero, List.set_cons_succ, List.map_cons, List.map_nil, List.take_succ_cons, List.take_zero, List.drop_succ_cons, List.drop_zero, List.reverse_cons, List.reverse_nil, List.nil_append, List.cons_append, List.append_nil, List.length_cons, List.length_nil, List.replicate_succ, List.replicate_zero, Option.toList_some, Option.toList_none, Nat.reduceAdd, Nat.reduceSub, Nat.reduceLeDiff, Nat.zero_add, Nat.zero_le, true_and, and_true, Int.toNat_natCast, Sum.inl.injEq, Sum.inr.injEq, ↓reduceIte, Nat.reduceEqDiff]
        refine ⟨P - (i + 1), by omega, i + 1, μ2, rfl, by omega, rfl, rfl, h1, h2, h3, ?_⟩
        rw [hI, show P - i = (P - (i + 1)) + 1 by omega, h4]
        rfl
      have xi : ((frm : Int) * 6 + (i : Int)).toNat = frm * 6 + i := by omega
      simp (disch := omega) only [tX4_walkOn_40, bt_ild, bt_lld, bt_ald, bt_ist, bt_lst, bt_ast, bt_inc, bt_ic, bt_lc, bt_iadd, bt_isub, bt_imul, bt_iand, bt_ior, bt_ixor, bt_ishl, bt_ishr, bt_iushr, bt_ladd, bt_lsub, bt_lmul, bt_land, bt_lor, bt_lushr, bt_lshl, bt_idiv, bt_irem, bt_ldiv, bt_lrem, bt_lcmp, bt_i2l, bt_l2i, bt_i2b, bt_pop, bt_dup, bt_dup2, bt_gfI, bt_gfJ, bt_gfR, bt_pfI, bt_pfZ, bt_pfJ, bt_pfR, bt_ial, bt_bal, bt_zal, bt_lal, bt_aal, bt_ias, bt_bas, bt_zas, bt_las, bt_len, bt_iret, bt_zret, bt_lret, bt_vret, bt_cV, bt_cS, bt_tab, bt_tsw, bt_lk, bt_lsw, bt_acp, bt_mmax, bt_mmin, bt_can, bt_icmpeq, bt_ifeq, bt_icmpne, bt_ifne, bt_icmplt, bt_iflt, bt_icmpge, bt_ifge, bt_icmpgt, bt_ifgt, bt_icmple, bt_ifle, bt_ret, bt_kill, bt_kl, bt_ix, bt_nl, bt_sm, bt_sr, bt_sig, bt_tg, bt_loc, bt_locs, List.getElem?_cons_zero, List.getElem?_cons_succ, List.set_cons_zero, List.set_cons_succ, List.map_cons, List.map_nil, List.take_succ_cons, List.take_zero, List.drop_succ_cons, List.drop_zero, List.reverse_cons, List.reverse_nil, List.nil_append, List.cons_append, List.append_nil, List.length_cons, List.length_nil, List.replicate_succ, List.replicate_zero, Option.toList_some, Option.toList_none, Nat.reduceAdd, Nat.reduceSub, Nat.reduceLeDiff, Nat.zero_add, Nat.zero_le, true_and, and_true, Int.toNat_natCast, Sum.inl.injEq, Sum.inr.injEq, ↓reduceIte, Nat.reduceEqDiff, hρ z _ c2, c3, c4, c5, c6, c7, c8, c9, c10, c11, c12, c13, c14, c15, c16, c17, c18, c19, c20, c21, c22, c23, c24, e1, e8, hP, sh_71, hρ 71 _ (by decide), rf_71_1, sh_73, bt_w_id, xi]
      refine And.intro (by omega) ?_
      rw [if_neg (by omega)]
      repeat (refine And.intro (by omega) ?_)
      rw [bo_bit (by omega) (by omega)]
      by_cases hbit : G.testBit i
      · simp (disch := omega) only [hbit, if_true, bt_w_id]
        rw [if_neg (by decide)]
        repeat (refine And.intro (by omega) ?_)
        by_cases hlt : x + μ (z + 8) (frm * 6 + i) < μ1 71 4
        · rw [if_neg (by omega), if_neg (by omega)]
          have hcl := ab_clr G hG i (by omega) hbit
          have hle : G - 2 ^ i ≤ G := Nat.sub_le _ _
          simp (disch := omega) only [hcl.1, bt_w_id, Int.toNat_natCast]
          repeat (refine And.intro (by omega) ?_)
          have f2 : ∀ a, a ≠ 73 → bt_up μ1 73 (len - (k + 1)) (i : Int) a = μ1 a := fun a ha => bt_up_cell ha
          refine ⟨ρ, _, z, i, G - 2 ^ i, len, P, x + μ (z + 8) (frm * 6 + i), rfl, rfl, hρ, hz, by omega, by omega, by omega, by omega, hl6, by rw [f2 71 (by decide), h71 3 (by decide)]; exact hlen, by rw [f2 z (by omega), e1]; exact hP, hP6, by omega, by omega, by rw [f2 71 (by decide)]; exact hb.1, by rw [f2 71 (by decide)]; exact hb.2, fun j hj => by rw [f2 _ (by omega), e8]; exact hmn j hj, fun μ2 hs2 h712 hf2 => ?_⟩
          have es : bt_wkS (bt_up μ1 73 (len - (k + 1)) (i : Int)) = ((bt_wkS μ1).1, (bt_wkS μ1).2.1, ab_put (bt_wkS μ1).2.2 (len - (k + 1)) i) := by
            unfold bt_wkS
            refine Prod.ext ?_ (Prod.ext ?_ ?_)
            · simp [bt_up]
            · funext j; simp [bt_up]
            · funext j; simp [bt_up, ab_put]
          rw [f2 (z + 8) (by omega), e8, es] at hs2
          have hrg := ab_wk_rg (mn := μ (z + 8)) (len := len) (P := P) (fun j hj => (hmn j hj).1) k i (G - 2 ^ i) (x + μ (z + 8) (frm * 6 + i)) ((bt_wkS μ1).1, (bt_wkS μ1).2.1, ab_put (bt_wkS μ1).2.2 (len - (k + 1)) i) (by omega) hP6 (by omega) (by omega) hb.1 hb.2
          have hb2 : 0 ≤ μ2 71 4 ∧ μ2 71 4 ≤ 1000 := by
            have : (bt_wkS μ2).1 = μ2 71 4 := rfl
            rw [hs2] at this
            rw [← this]
            exact hrg
          simp (disch := omega) only [bt_ild, bt_lld, bt_ald, bt_ist, bt_lst, bt_ast, bt_inc, bt_ic, bt_lc, bt_iadd, bt_isub, bt_imul, bt_iand, bt_ior, bt_ixor, bt_ishl, bt_ishr, bt_iushr, bt_ladd, bt_lsub, bt_lmul, bt_land, bt_lor, bt_lushr, bt_lshl, bt_idiv, bt_irem, bt_ldiv, bt_lrem, bt_lcmp, bt_i2l, bt_l2i, bt_i2b, bt_pop, bt_dup, bt_dup2, bt_gfI, bt_gfJ, bt_gfR, bt_pfI, bt_pfZ, bt_pfJ, bt_pfR, bt_ial, bt_bal, bt_zal, bt_lal, bt_aal, bt_ias, bt_bas, bt_zas, bt_las, bt_len, bt_iret, bt_zret, bt_lret, bt_vret, bt_cV, bt_cS, bt_tab, bt_tsw, bt_lk, bt_lsw, bt_acp, bt_mmax, bt_mmin, bt_can, bt_icmpeq, bt_ifeq, bt_icmpne, bt_ifne, bt_icmplt, bt_iflt, bt_icmpge, bt_ifge, bt_icmpgt, bt_ifgt, bt_icmple, bt_ifle, bt_ret, bt_kill, bt_kl, bt_ix, bt_nl, bt_sm, bt_sr, bt_sig, bt_tg, bt_loc, bt_locs, List.getElem?_cons_zero, List.getElem?_cons_succ, List.set_cons_zero, List.set_cons_succ, List.map_cons, List.map_nil, List.take_succ_cons, List.take_zero, List.drop_succ_cons, List.drop_zero, List.reverse_cons, List.reverse_nil, List.nil_append, List.cons_append, List.append_nil, List.length_cons, List.length_nil, List.replicate_succ, List.replicate_zero, Option.toList_some, Option.toList_none, Nat.reduceAdd, Nat.reduceSub, Nat.reduceLeDiff, Nat.zero_add, Nat.zero_le, true_and, and_true, Int.toNat_natCast, Sum.inl.injEq, Sum.inr.injEq, ↓reduceIte, Nat.reduceEqDiff]
          exact next μ2 _ (fun a ha => by rw [hf2 a ha, f2 a (by unfold bt_inR at ha; omega)]; exact hfr a ha) (fun j hj => by rw [h712 j hj, f2 71 (by decide)]; exact h71 j hj) hb2 (by rw [hs2, if_pos ⟨hbit, hlt⟩])
        · rw [if_pos (by omega)]
          exact next μ1 _ hfr h71 hb (by rw [if_neg (fun h => hlt h.2)])
      · simp (disch := omega) only [hbit, if_true, bt_w_id, if_false, Bool.false_eq_true]
        first | exact next μ1 _ hfr h71 hb (by simp [hbit]) | (rw [if_pos (by decide)]; exact next μ1 _ hfr h71 hb (by simp [hbit]))
theorem mtX4_wkk : ∀ k d, 12 + k ≤ d → bt_Met yX4_walkOn cX4_walkOn 8 none d [2, 2, 0, 0, 0] (SpX4_wk k)
  | 0, d, hd => mtX4_wk0 d hd
  | k + 1, d, hd => mtX4_wks k (mtX4_wkk k) d hd
def SpX4_walkOn : bt_Sp := fun As w Q => ∃ k, k ≤ 6 ∧ SpX4_wk k As w Q
theorem mtX4_walkOn : bt_Met yX4_walkOn cX4_walkOn 8 none 62 [2, 2, 0, 0, 0] SpX4_walkOn := fun l D cy ad As w Q sz hsig hS => by
  obtain ⟨k, hk, h⟩ := hS
  exact mtX4_wkk k _ (by omega) l D cy ad As w Q sz hsig h
