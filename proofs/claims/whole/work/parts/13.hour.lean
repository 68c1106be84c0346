/-! BearTickets.Hour: what each pen is worth -/
def SpX9_worthAt : bt_Sp := fun As w Q => tX9_worthAt_0 bt_k0 Q [] (bt_loc 4 As) w
theorem mtX9_worthAt : bt_Met yX9_worthAt cX9_worthAt 4 (some .int) 1 [2, 0, 0, 0] SpX9_worthAt := lfX9_worthAt
def SpX9_moodAt : bt_Sp := fun As w Q => tX9_moodAt_0 bt_k0 Q [] (bt_loc 5 As) w
theorem mtX9_moodAt : bt_Met yX9_moodAt cX9_moodAt 5 (some .int) 1 [2, 0, 0, 0, 0] SpX9_moodAt := lfX9_moodAt
/-- how many of the first n are in p -/
def hn_c (wh : Nat → Nat) (p : Nat) : Nat → Nat
  | 0 => 0
  | n + 1 => hn_c wh p n + (if wh n = p then 1 else 0)
theorem hn_c_le (wh : Nat → Nat) (p n : Nat) : hn_c wh p n ≤ n := by
  induction n with
  | zero => simp [hn_c]
  | succ n ih => unfold hn_c; split <;> omega
theorem hn_c_pos {wh : Nat → Nat} {n g : Nat} (h : g < n) : 1 ≤ hn_c wh (wh g) n := by
  induction n with
  | zero => omega
  | succ n ih =>
    unfold hn_c
    by_cases e : g = n
    · subst e; simp
    · have := ih (by omega); omega
def hn_pl (see : Nat → Int) (wh md o : Nat → Nat) (p : Nat) : Nat → Int := bt_sn (fun g => if wh g = p then see (md g * 6 + o p) else 0)
def hn_lk (see : Nat → Int) (wh md kd o : Nat → Nat) (k p : Nat) : Nat → Int := bt_sn (fun g => if wh g = p ∧ kd g = k then see ((10 + md g) * 6 + o p) - see (md g * 6 + o p) else 0)
/-- guests of a zoo and a state -/
def bt_Hp (μ : Nat → Nat → Int) (z s n : Nat) (wh md kd : Nat → Nat) : Prop := μ z 1 = (n : Int) ∧ n ≤ 6 ∧ ∀ g, g < n → μ (s + 1) g = (wh g : Int) ∧ wh g < 6 ∧ μ (s + 2) g = (md g : Int) ∧ md g < 10 ∧ μ (z + 5) g = (kd g : Int) ∧ kd g < 4
def bt_Wg (μ' : Nat → Nat → Int) (see : Nat → Int) (h n : Nat) (wh md kd : Nat → Nat) : Prop := (∀ p, p < 6 → μ' (h + 1) p = (hn_c wh p n : Int)) ∧ (∀ p, p < 6 → μ' (h + 2) p = hn_pl see wh md (fun p => hn_c wh p n - 1) p n) ∧ ∀ k, k < 4 → ∀ p, p < 6 → μ' (h + 3) (k * 6 + p) = hn_lk see wh md kd (fun p => hn_c wh p n - 1) k p n
def SpX1_weigh : bt_Sp := fun As w Q => ∃ (ρ : Nat → Nat → Option Nat) (μ : Nat → Nat → Int) (h z s n : Nat) (wh md kd : Nat → Nat), As = [.inr (.inr h), .inr (.inr z), .inr (.inr s)] ∧ w = bt_wd ρ μ ∧ bt_Rf ρ ∧ h ∈ bt_hos ∧ z ∈ bt_zos ∧ s ∈ bt_sts ∧ bt_Hp μ z s n wh md kd ∧ ∀ μ', bt_Wg μ' (μ (z + 9)) h n wh md kd → bt_fr (fun a => h + 1 ≤ a ∧ a ≤ h + 3) μ' μ → Q none (bt_wd ρ μ')
set_option maxHeartbeats 4000000 in
theorem mtX1_weigh : bt_Met yX1_weigh cX1_weigh 7 none 2 [2, 2, 2] SpX1_weigh := by
  refine lpX1_weigh mtX9_worthAt (by decide) _ (fun As w Q _ hS => ?_)
  obtain ⟨ρ, μ, h, z, s, n, wh, md, kd, rfl, rfl, hρ, hh, hz, hs, ⟨hn, hn6, hg⟩, hQ⟩ := hS
  obtain ⟨a1, a2, a3, a4, a5, a6, a7, a8, a9, a10, a11, a12, a13, a14, a15, a16, a17, a18, a19⟩ := bt_ho_f h hh
  obtain ⟨b1, b2, b3, b4, b5, b6, b7, b8, b9⟩ := bt_st_f s hs
  obtain ⟨c1, c2, c3, c4, c5, c6, c7, c8, c9, c10, c11, c12, c13, c14, c15, c16, c17, c18, c19, c20, c21, c22, c23, c24, c25⟩ := bt_zo_f z hz
  have d1 := bt_st_ho s hs h hh
  have d2 := bt_ho_zo h hh z hz
  refine ⟨fun h' m st L w => st = [] ∧ ∃ (i : Nat) (μ1 : Nat → Nat → Int), w = bt_wd ρ μ1 ∧ bt_fr (fun a => h + 1 ≤ a ∧ a ≤ h + 3) μ1 μ ∧ L = [some (.inr (.inr h)), some (.inr (.inr z)), some (.inr (.inr s)), some (.inl (i : Int)), none, none, none] ∧
    (if h' = 2 then i ≤ 6 ∧ m = 200 - i ∧ ∀ p, p < i → μ1 (h + 1) p = 0 ∧ μ1 (h + 2) p = 0
     else if h' = 30 then i ≤ 24 ∧ m = 100 - i ∧ (∀ p, p < 6 → μ1 (h + 1) p = 0 ∧ μ1 (h + 2) p = 0) ∧ ∀ p, p < i → μ1 (h + 3) p = 0
     else if h' = 51 then i ≤ n ∧ m = 50 - i ∧ (∀ p, p < 6 → μ1 (h + 1) p = (hn_c wh p i : Int)) ∧ (∀ p, p < 6 → μ1 (h + 2) p = 0) ∧ ∀ p, p < 24 → μ1 (h + 3) p = 0
     else i ≤ n ∧ m = 20 - i ∧ (∀ p, p < 6 → μ1 (h + 1) p = (hn_c wh p n : Int)) ∧ (∀ p, p < 6 → μ1 (h + 2) p = hn_pl (μ (z + 9)) wh md (fun p => hn_c wh p n - 1) p i) ∧ ∀ k, k < 4 → ∀ p, p < 6 → μ1 (h + 3) (k * 6 + p) = hn_lk (μ (z + 9)) wh md kd (fun p => hn_c wh p n - 1) k p i), ?_, ?_, ?_, ?_, ?_⟩
  · simp only [tX1_weigh_0, bt_ild, bt_lld, bt_ald, bt_ist, bt_lst, bt_ast, bt_inc, bt_ic, bt_lc, bt_iadd, bt_isub, bt_imul, bt_iand, bt_ior, bt_ixor, bt_ishl, bt_ishr, bt_iushr, bt_ladd, bt_lsub, bt_lmul, bt_land, bt_lor, bt_lushr, bt_lshl, bt_idiv, bt_irem, bt_ldiv, bt_lrem, bt_lcmp, bt_i2l, bt_l2i, bt_i2b, bt_pop, bt_dup, bt_dup2, bt_gfI, bt_gfJ, bt_gfR, bt_pfI, bt_pfZ, bt_pfJ, bt_pfR, bt_ial, bt_bal, bt_zal, bt_lal, bt_aal, bt_ias, bt_bas, bt_zas, bt_las, bt_len, bt_iret, bt_zret, bt_lret, bt_vret, bt_cV, bt_cS, bt_tab, bt_tsw, bt_lk, bt_lsw, bt_acp, bt_mmax, bt_mmin, bt_can, bt_icmpeq, bt_ifeq, bt_icmpne, bt_ifne, bt_icmplt, bt_iflt, bt_icmpge, bt_ifge, bt_icmpgt, bt_ifgt, bt_icmple, bt_ifle, bt_ret, bt_kill, bt_kl, bt_ix, bt_nl, bt_sm, bt_sr, bt_sig, bt_tg, bt_loc, bt_locs, List.getElem?_cons_zero, List.getElem?_cons_succ, List.set_cons_zero, List.set_cons_succ, List.map_cons, List.map_nil, List.take_succ_cons, List.take_zero, List.drop_succ_cons, List.drop_zero, List.reverse_cons, List.reverse_nil, List.nil_append, List.cons_append, List.append_nil, List.length_cons, List.length_nil, List.replicate_succ, List.replicate_zero, Option.toList_some, Option.toList_none, Nat.reduceAdd, Nat.reduceSub, Nat.reduceLeDiff, Nat.zero_add, Nat.zero_le, true_and, and_true, Int.toNat_natCast, Sum.inl.injEq, Sum.inr.injEq, ↓reduceIte, Nat.reduceEqDiff]
    exact ⟨200, 0, μ, rfl, fun _ _ => rfl, rfl, by omega, by omega, fun p hp => by omega⟩
  · rintro m st L w ⟨rfl, i, μ1, rfl, hfr, rfl, hI⟩
    simp only [↓reduceIte] at hI
    obtain ⟨hi, rfl, hI⟩ := hI
    simp (disch := omega) only [tX1_weigh_2, bt_ild, bt_lld, bt_ald, bt_ist, bt_lst, bt_ast, bt_inc, bt_ic, bt_lc, bt_iadd, bt_isub, bt_imul, bt_iand, bt_ior, bt_ixor, bt_ishl, bt_ishr, bt_iushr, bt_ladd, bt_lsub, bt_lmul, bt_land, bt_lor, bt_lushr, bt_lshl, bt_idiv, bt_irem, bt_ldiv, bt_lrem, bt_lcmp, bt_i2l, bt_l2i, bt_i2b, bt_pop, bt_dup, bt_dup2, bt_gfI, bt_gfJ, bt_gfR, bt_pfI, bt_pfZ, bt_pfJ, bt_pfR, bt_ial, bt_bal, bt_zal, bt_lal, bt_aal, bt_ias, bt_bas, bt_zas, bt_las, bt_len, bt_iret, bt_zret, bt_lret, bt_vret, bt_cV, bt_cS, bt_tab, bt_tsw, bt_lk, bt_lsw, bt_acp, bt_mmax, bt_mmin, bt_can, bt_icmpeq, bt_ifeq, bt_icmpne, bt_ifne, bt_icmplt, bt_iflt, bt_icmpge, bt_ifge, bt_icmpgt, bt_ifgt, bt_icmple, bt_ifle, bt_ret, bt_kill, bt_kl, bt_ix, bt_nl, bt_sm, bt_sr, bt_sig, bt_tg, bt_loc, bt_locs, List.getElem?_cons_zero, List.getElem?_cons_succ, List.set_cons_zero, List.set_cons_succ, List.map_cons, List.map_nil, List.take_succ_cons, List.take_zero, List.drop_succ_cons, List.drop_zero, List.reverse_cons, List.reverse_nil, List.nil_append, List.cons_append, List.append_nil, List.length_cons, List.length_nil, List.replicate_succ, List.replicate_zero, Option.toList_some, Option.toList_none, Nat.reduceAdd, Nat.reduceSub, Nat.reduceLeDiff, Nat.zero_add, Nat.zero_le, true_and, and_true, Int.toNat_natCast, Sum.inl.injEq, Sum.inr.injEq, ↓reduceIte, Nat.reduceEqDiff, bt_w_id]
    by_cases hc : 6 ≤ i
    · rw [if_pos (by omega)]
      exact ⟨100, by omega, 0, μ1, rfl, hfr, rfl, by omega, by omega, fun p hp => hI p (by omega), fun p hp => by omega⟩
    · rw [if_neg (by omega)]
      simp (disch := omega) only [hρ h _ a2, a3, a4, a5, a12, a13, bt_ild, bt_lld, bt_ald, bt_ist, bt_lst, bt_ast, bt_inc, bt_ic, bt_lc, bt_iadd, bt_isub, bt_imul, bt_iand, bt_ior, bt_ixor, bt_ishl, bt_ishr, bt_iushr, bt_ladd, bt_lsub, bt_lmul, bt_land, bt_lor, bt_lushr, bt_lshl, bt_idiv, bt_irem, bt_ldiv, bt_lrem, bt_lcmp, bt_i2l, bt_l2i, bt_i2b, bt_pop, bt_dup, bt_dup2, bt_gfI, bt_gfJ, bt_gfR, bt_pfI, bt_pfZ, bt_pfJ, bt_pfR, bt_ial, bt_bal, bt_zal, bt_lal, bt_aal, bt_ias, bt_bas, bt_zas, bt_las, bt_len, bt_iret, bt_zret, bt_lret, bt_vret, bt_cV, bt_cS, bt_tab, bt_tsw, bt_lk, bt_lsw, bt_acp, bt_mmax, bt_mmin, bt_can, bt_icmpeq, bt_ifeq, bt_icmpne, bt_ifne, bt_icmplt, bt_iflt, bt_icmpge, bt_ifge, bt_icmpgt, bt_ifgt, bt_icmple, bt_ifle, bt_ret, bt_kill, bt_kl, bt_ix, bt_nl, bt_sm, bt_sr, bt_sig, bt_tg, bt_loc, bt_locs, List.getElem?_cons_zero, List.getElem?_cons_succ, List.set_cons_zero, List.set_cons_succ, List.map_cons, List.map_nil, List.take_succ_cons, List.take_zero, List.drop_succ_cons, List.drop_zero, List.reverse_cons, List.reverse_nil, List.nil_append, List.cons_append, List.append_nil, List.length_cons, List.length_nil, List.replicate_succ, List.replicate_zero, Option.toList_some, Option.toList_none, Nat.reduceAdd, Nat.reduceSub, Nat.reduceLeDiff, Nat.zero_add, Nat.zero_le, true_and, and_true, Int.toNat_natCast, Sum.inl.injEq, Sum.inr.injEq, ↓reduceIte, Nat.reduceEqDiff, bt_w_id]
      repeat (refine And.intro (by omega) ?_)
      exact ⟨200 - (i + 1), by omega, i + 1, _, rfl, by unfold bt_fr at *; intro a ha; grind [bt_up], rfl, by omega, rfl, fun p hp => by grind [bt_up]⟩
  · rintro m st L w ⟨rfl, i, μ1, rfl, hfr, rfl, hI⟩
    simp only [↓reduceIte, Nat.reduceEqDiff] at hI
    obtain ⟨hi, rfl, hI, hJ⟩ := hI
    simp (disch := omega) only [tX1_weigh_30, bt_ild, bt_lld, bt_ald, bt_ist, bt_lst, bt_ast, bt_inc, bt_ic, bt_lc, bt_iadd, bt_isub, bt_imul, bt_iand, bt_ior, bt_ixor, bt_ishl, bt_ishr, bt_iushr, bt_ladd, bt_lsub, bt_lmul, bt_land, bt_lor, bt_lushr, bt_lshl, bt_idiv, bt_irem, bt_ldiv, bt_lrem, bt_lcmp, bt_i2l, bt_l2i, bt_i2b, bt_pop, bt_dup, bt_dup2, bt_gfI, bt_gfJ, bt_gfR, bt_pfI, bt_pfZ, bt_pfJ, bt_pfR, bt_ial, bt_bal, bt_zal, bt_lal, bt_aal, bt_ias, bt_bas, bt_zas, bt_las, bt_len, bt_iret, bt_zret, bt_lret, bt_vret, bt_cV, bt_cS, bt_tab, bt_tsw, bt_lk, bt_lsw, bt_acp, bt_mmax, bt_mmin, bt_can, bt_icmpeq, bt_ifeq, bt_icmpne, bt_ifne, bt_icmplt, bt_iflt, bt_icmpge, bt_ifge, bt_icmpgt, bt_ifgt, bt_icmple, bt_ifle, bt_ret, bt_kill, bt_kl, bt_ix, bt_nl, bt_sm, bt_sr, bt_sig, bt_tg, bt_loc, bt_locs, List.getElem?_cons_zero, List.getElem?_cons_succ, List.set_cons_zero, List.set_cons_succ, List.map_cons, List.map_nil, List.take_succ_cons, List.take_zero, List.drop_succ_cons, List.drop_zero, List.reverse_cons, List.reverse_nil, List.nil_append, List.cons_append, List.append_nil, List.length_cons, List.length_nil, List.replicate_succ, List.replicate_zero, Option.toList_some, Option.toList_none, Nat.reduceAdd, Nat.reduceSub, Nat.reduceLeDiff, Nat.zero_add, Nat.zero_le, true_and, and_true, Int.toNat_natCast, Sum.inl.injEq, Sum.inr.injEq, ↓reduceIte, Nat.reduceEqDiff, bt_w_id]
    by_cases hc : 24 ≤ i
    · rw [if_pos (by omega)]
      exact ⟨50, by omega, 0, μ1, rfl, hfr, rfl, by omega, by omega, fun p hp => by rw [(hI p hp).1]; rfl, fun p hp => (hI p hp).2, fun p hp => hJ p (by omega)⟩
    · rw [if_neg (by omega)]
      simp (disch := omega) only [hρ h _ a2, a3, a6, a14, bt_ild, bt_lld, bt_ald, bt_ist, bt_lst, bt_ast, bt_inc, bt_ic, bt_lc, bt_iadd, bt_isub, bt_imul, bt_iand, bt_ior, bt_ixor, bt_ishl, bt_ishr, bt_iushr, bt_ladd, bt_lsub, bt_lmul, bt_land, bt_lor, bt_lushr, bt_lshl, bt_idiv, bt_irem, bt_ldiv, bt_lrem, bt_lcmp, bt_i2l, bt_l2i, bt_i2b, bt_pop, bt_dup, bt_dup2, bt_gfI, bt_gfJ, bt_gfR, bt_pfI, bt_pfZ, bt_pfJ, bt_pfR, bt_ial, bt_bal, bt_zal, bt_lal, bt_aal, bt_ias, bt_bas, bt_zas, bt_las, bt_len, bt_iret, bt_zret, bt_lret, bt_vret, bt_cV, bt_cS, bt_tab, bt_tsw, bt_lk, bt_lsw, bt_acp, bt_mmax, bt_mmin, bt_can, bt_icmpeq, bt_ifeq, bt_icmpne, bt_ifne, bt_icmplt, bt_iflt, bt_icmpge, bt_ifge, bt_icmpgt, bt_ifgt, bt_icmple, bt_ifle, bt_ret, bt_kill, bt_kl, bt_ix, bt_nl, bt_sm, bt_sr, bt_sig, bt_tg, bt_loc, bt_locs, List.getElem?_cons_zero, List.getElem?_cons_succ, List.set_cons_zero, List.set_cons_succ, List.map_cons, List.map_nil, List.take_succ_cons, List.take_zero, List.drop_succ_cons, List.drop_zero, List.reverse_cons, List.reverse_nil, List.nil_append, List.cons_append, List.append_nil, List.length_cons, List.length_nil, List.replicate_succ, List.replicate_zero, Option.toList_some, Option.toList_none, Nat.reduceAdd, Nat.reduceSub, Nat.reduceLeDiff, Nat.zero_add, Nat.zero_le, true_and, and_true, Int.toNat_natCast, Sum.inl.injEq, Sum.inr.injEq, ↓reduceIte, Nat.reduceEqDiff, bt_w_id]
      repeat (refine And.intro (by omega) ?_)
      exact ⟨100 - (i + 1), by omega, i + 1, _, rfl, by unfold bt_fr at *; intro a ha; grind [bt_up], rfl, by omega, rfl, fun p hp => by grind [bt_up], fun p hp => by grind [bt_up]⟩
  · rintro m st L w ⟨rfl, i, μ1, rfl, hfr, rfl, hI⟩
    simp only [↓reduceIte, Nat.reduceEqDiff] at hI
    obtain ⟨hi, rfl, hI, hJ, hK⟩ := hI
    have e1 : μ1 z = μ z := hfr z (by omega)
    have e2 : μ1 (s + 1) = μ (s + 1) := hfr _ (by omega)
    simp (disch := omega) only [tX1_weigh_51, bt_ild, bt_lld, bt_ald, bt_ist, bt_lst, bt_ast, bt_inc, bt_ic, bt_lc, bt_iadd, bt_isub, bt_imul, bt_iand, bt_ior, bt_ixor, bt_ishl, bt_ishr, bt_iushr, bt_ladd, bt_lsub, bt_lmul, bt_land, bt_lor, bt_lushr, bt_lshl, bt_idiv, bt_irem, bt_ldiv, bt_lrem, bt_lcmp, bt_i2l, bt_l2i, bt_i2b, bt_pop, bt_dup, bt_dup2, bt_gfI, bt_gfJ, bt_gfR, bt_pfI, bt_pfZ, bt_pfJ, bt_pfR, bt_ial, bt_bal, bt_zal, bt_lal, bt_aal, bt_ias, bt_bas, bt_zas, bt_las, bt_len, bt_iret, bt_zret, bt_lret, bt_vret, bt_cV, bt_cS, bt_tab, bt_tsw, bt_lk, bt_lsw, bt_acp, bt_mmax, bt_mmin, bt_can, bt_icmpeq, bt_ifeq, bt_icmpne, bt_ifne, bt_icmplt, bt_iflt, bt_icmpge, bt_ifge, bt_icmpgt, bt_ifgt, bt_icmple, bt_ifle, bt_ret, bt_kill, bt_kl, bt_ix, bt_nl, bt_sm, bt_sr, bt_sig, bt_tg, bt_loc, bt_locs, List.getElem?_cons_zero, List.getElem?_cons_succ, List.set_cons_zero, List.set_cons_succ, List.map_cons, List.map_nil, List.take_succ_cons, List.take_zero, List.drop_succ_cons, List.drop_zero, List.reverse_cons, List.reverse_nil, List.nil_append, List.cons_append, List.append_nil, List.length_cons, List.length_nil, List.replicate_succ, List.replicate_zero, Option.toList_some, Option.toList_none, Nat.reduceAdd, Nat.reduceSub, Nat.reduceLeDiff, Nat.zero_add, Nat.zero_le, true_and, and_true, Int.toNat_natCast, Sum.inl.injEq, Sum.inr.injEq, ↓reduceIte, Nat.reduceEqDiff, hρ z _ c2, c3, e1, hn, bt_w_id]
    refine And.intro (by omega) ?_
    by_cases hc : n ≤ i
    · rw [if_pos (by omega)]
      have : i = n := by omega
      subst this
      exact ⟨20, by omega, 0, μ1, rfl, hfr, rfl, by omega, by omega, hI, fun p hp => by rw [hJ p hp]; rfl, fun k hk p hp => by rw [hK _ (by omega)]; rfl⟩
    · rw [if_neg (by omega)]
      obtain ⟨g1, g2, g3, g4, g5, g6⟩ := hg i (by omega)
      simp (disch := omega) only [hρ h _ a2, hρ s _ b2, a3, a4, a12, b3, b4, b7, bt_ild, bt_lld, bt_ald, bt_ist, bt_lst, bt_ast, bt_inc, bt_ic, bt_lc, bt_iadd, bt_isub, bt_imul, bt_iand, bt_ior, bt_ixor, bt_ishl, bt_ishr, bt_iushr, bt_ladd, bt_lsub, bt_lmul, bt_land, bt_lor, bt_lushr, bt_lshl, bt_idiv, bt_irem, bt_ldiv, bt_lrem, bt_lcmp, bt_i2l, bt_l2i, bt_i2b, bt_pop, bt_dup, bt_dup2, bt_gfI, bt_gfJ, bt_gfR, bt_pfI, bt_pfZ, bt_pfJ, bt_pfR, bt_ial, bt_bal, bt_zal, bt_lal, bt_aal, bt_ias, bt_bas, bt_zas, bt_las, bt_len, bt_iret, bt_zret, bt_lret, bt_vret, bt_cV, bt_cS, bt_tab, bt_tsw, bt_lk, bt_lsw, bt_acp, bt_mmax, bt_mmin, bt_can, bt_icmpeq, bt_ifeq, bt_icmpne, bt_ifne, bt_icmplt, bt_iflt, bt_icmpge, bt_ifge, bt_icmpgt, bt_ifgt, bt_icmple, bt_ifle, bt_ret, bt_kill, bt_kl, bt_ix, bt_nl, bt_sm, bt_sr, bt_sig, bt_tg, bt_loc, bt_locs, List.getElem?_cons_zero, List.getElem?_cons_succ, List.set_cons_zero, List.set_cons_succ, List.map_cons, List.map_nil, List.take_succ_cons, List.take_zero, List.drop_succ_cons, List.drop_zero, List.reverse_cons, List.reverse_nil, List.nil_append, List.cons_append, List.append_nil, List.length_cons, List.length_nil, List.replicate_succ, List.replicate_zero, Option.toList_some, Option.toList_none, Nat.reduceAdd, Nat.reduceSub, Nat.reduceLeDiff, Nat.zero_add, Nat.zero_le, true_and, and_true, Int.toNat_natCast, Sum.inl.injEq, Sum.inr.injEq, ↓reduceIte, Nat.reduceEqDiff, bt_w_id, e2, g1]
      repeat (refine And.intro (by omega) ?_)
      refine ⟨50 - (i + 1), by omega, i + 1, _, rfl, by unfold bt_fr at *; intro a ha; grind [bt_up], rfl, by omega, rfl, fun p hp => ?_, fun p hp => by grind [bt_up], fun p hp => by grind [bt_up]⟩
      have := hI p hp
      have := hI (wh i) g2
      unfold hn_c
      grind [bt_up]
  · rintro m st L w ⟨rfl, i, μ1, rfl, hfr, rfl, hI⟩
    simp only [↓reduceIte, Nat.reduceEqDiff] at hI
    obtain ⟨hi, rfl, hI, hJ, hK⟩ := hI
    have e1 : μ1 z = μ z := hfr z (by omega)
    have e2 : μ1 (s + 1) = μ (s + 1) := hfr _ (by omega)
    have e3 : μ1 (s + 2) = μ (s + 2) := hfr _ (by omega)
    have e4 : μ1 (z + 5) = μ (z + 5) := hfr _ (by omega)
    have e5 : μ1 (z + 9) = μ (z + 9) := hfr _ (by omega)
    simp (disch := omega) only [tX1_weigh_82, bt_ild, bt_lld, bt_ald, bt_ist, bt_lst, bt_ast, bt_inc, bt_ic, bt_lc, bt_iadd, bt_isub, bt_imul, bt_iand, bt_ior, bt_ixor, bt_ishl, bt_ishr, bt_iushr, bt_ladd, bt_lsub, bt_lmul, bt_land, bt_lor, bt_lushr, bt_lshl, bt_idiv, bt_irem, bt_ldiv, bt_lrem, bt_lcmp, bt_i2l, bt_l2i, bt_i2b, bt_pop, bt_dup, bt_dup2, bt_gfI, bt_gfJ, bt_gfR, bt_pfI, bt_pfZ, bt_pfJ, bt_pfR, bt_ial, bt_bal, bt_zal, bt_lal, bt_aal, bt_ias, bt_bas, bt_zas, bt_las, bt_len, bt_iret, bt_zret, bt_lret, bt_vret, bt_cV, bt_cS, bt_tab, bt_tsw, bt_lk, bt_lsw, bt_acp, bt_mmax, bt_mmin, bt_can, bt_icmpeq, bt_ifeq, bt_icmpne, bt_ifne, bt_icmplt, bt_iflt, bt_icmpge, bt_ifge, bt_icmpgt, bt_ifgt, bt_icmple, bt_ifle, bt_ret, bt_kill, bt_kl, bt_ix, bt_nl, bt_sm, bt_sr, bt_sig, bt_tg, bt_loc, bt_locs, List.getElem?_cons_zero, List.getElem?_cons_succ, List.set_cons_zero, List.set_cons_succ, List.map_cons, List.map_nil, List.take_succ_cons, List.take_zero, List.drop_succ_cons, List.drop_zero, List.reverse_cons, List.reverse_nil, List.nil_append, List.cons_append, List.append_nil, List.length_cons, List.length_nil, List.replicate_succ, List.replicate_zero, Option.toList_some, Option.toList_none, Nat.reduceAdd, Nat.reduceSub, Nat.reduceLeDiff, Nat.zero_add, Nat.zero_le, true_and, and_true, Int.toNat_natCast, Sum.inl.injEq, Sum.inr.injEq, ↓reduceIte, Nat.reduceEqDiff, hρ z _ c2, c3, e1, hn, bt_w_id]
    refine And.intro (by omega) ?_
    by_cases hc : n ≤ i
    · rw [if_pos (by omega)]
      have : i = n := by omega
      subst this
      exact hQ μ1 ⟨hI, hJ, hK⟩ hfr
    · rw [if_neg (by omega)]
      obtain ⟨g1, g2, g3, g4, g5, g6⟩ := hg i (by omega)
      have hcp : 1 ≤ hn_c wh (wh i) n := hn_c_pos (by omega)
      have hcl : hn_c wh (wh i) n ≤ n := hn_c_le _ _ _
      simp (disch := omega) only [SpX9_worthAt, tX9_worthAt_0, hρ h _ a2, a3, a4, a5, a6, a7, a8, a9, a10, a11, a12, a13, a14, a15, a16, a17, a18, a19, hρ s _ b2, b3, b4, b5, b6, b7, b8, b9, hρ z _ c2, c3, c4, c5, c6, c7, c8, c9, c10, c11, c12, c13, c14, c15, c16, c17, c18, c19, c20, c21, c22, c23, c24, bt_ild, bt_lld, bt_ald, bt_ist, bt_lst, bt_ast, bt_inc, bt_ic, bt_lc, bt_iadd, bt_isub, bt_imul, bt_iand, bt_ior, bt_ixor, bt_ishl, bt_ishr, bt_iushr, bt_ladd, bt_lsub, bt_lmul, bt_land, bt_lor, bt_lushr, bt_lshl, bt_idiv, bt_irem, bt_ldiv, bt_lrem, bt_lcmp, bt_i2l, bt_l2i, bt_i2b, bt_pop, bt_dup, bt_dup2, bt_gfI, bt_gfJ, bt_gfR, bt_pfI, bt_pfZ, bt_pfJ, bt_pfR, bt_ial, bt_bal, bt_zal, bt_lal, bt_aal, bt_ias, bt_bas, bt_zas, bt_las, bt_len, bt_iret, bt_zret, bt_lret, bt_vret, bt_cV, bt_cS, bt_tab, bt_tsw, bt_lk, bt_lsw, bt_acp, bt_mmax, bt_mmin, bt_can, bt_icmpeq, bt_ifeq, bt_icmpne, bt_ifne, bt_icmplt, bt_iflt, bt_icmpge, bt_ifge, bt_icmpgt, bt_ifgt, bt_icmple, bt_ifle, bt_ret, bt_kill, bt_kl, bt_ix, bt_nl, bt_sm, bt_sr, bt_sig, bt_tg, bt_loc, bt_locs, List.getElem?_cons_zero, List.getElem?_cons_succ, List.set_cons_zero, List.set_cons_succ, List.map_cons, List.map_nil, List.take_succ_cons, List.take_zero, List.drop_succ_cons, List.drop_zero, List.reverse_cons, List.reverse_nil, List.nil_append, List.cons_append, List.append_nil, List.length_cons, List.length_nil, List.replicate_succ, List.replicate_zero, Option.toList_some, Option.toList_none, Nat.reduceAdd, Nat.reduceSub, Nat.reduceLeDiff, Nat.zero_add, Nat.zero_le, true_and, and_true, Int.toNat_natCast, Sum.inl.injEq, Sum.inr.injEq, ↓reduceIte, Nat.reduceEqDiff, bt_w_id, e1, e2, e3, e4, e5, g1, g3, g5, hI (wh i) g2, bt_up_cell]
      repeat (refine And.intro (by omega) ?_)
      have x1 : ((0 * 10 + (md i : Int)) * 6 + ((hn_c wh (wh i) n : Int) - 1)).toNat = md i * 6 + (hn_c wh (wh i) n - 1) := by omega
      have x2 : ((1 * 10 + (md i : Int)) * 6 + ((hn_c wh (wh i) n : Int) - 1)).toNat = (10 + md i) * 6 + (hn_c wh (wh i) n - 1) := by omega
      have x3 : ((kd i : Int) * 6 + (wh i : Int)).toNat = kd i * 6 + wh i := by omega
      rw [x1, x2, x3]
      refine ⟨20 - (i + 1), by omega, i + 1, _, rfl, by unfold bt_fr at *; intro a ha; grind [bt_up], rfl, by omega, rfl, fun p hp => ?_, fun p hp => ?_, fun k hk p hp => ?_⟩
      · have := hI p hp
        grind [bt_up]
      · have q1 := hJ p hp
        have q2 := hJ (wh i) g2
        unfold hn_pl at *
        unfold bt_sn
        by_cases e : wh i = p
        · subst e; simp [bt_up, q1]
        · simp [bt_up, q1, e]; grind
      · have q1 := hK k hk p hp
        unfold hn_lk at *
        unfold bt_sn
        by_cases e : wh i = p ∧ kd i = k
        · obtain ⟨rfl, rfl⟩ := e; simp [bt_up, q1]
        · have e2 : ¬ (k * 6 + p = kd i * 6 + wh i) := by omega
          simp [bt_up, q1, e, e2]
/-- what a pen is worth to one that likes these kinds -/
def SpX1_worthTo : bt_Sp := fun As w Q => ∃ (ρ : Nat → Nat → Option Nat) (μ : Nat → Nat → Int) (h p K : Nat), As = [.inr (.inr h), .inl (K : Int), .inl (p : Int)] ∧ w = bt_wd ρ μ ∧ bt_Rf ρ ∧ h ∈ bt_hos ∧ p < 6 ∧ K < 16 ∧ Q (some (.inl (μ (h + 2) p + bt_sn (fun k => if K.testBit k then μ (h + 3) (k * 6 + p) else 0) 4))) w
set_option maxHeartbeats 4000000 in
theorem mtX1_worthTo : bt_Met yX1_worthTo cX1_worthTo 5 (some .int) 1 [2, 0, 0] SpX1_worthTo := by
  refine lpX1_worthTo _ (fun As w Q _ hS => ?_)
  obtain ⟨ρ, μ, h, p, K, rfl, rfl, hρ, hh, hp, hK, hQ⟩ := hS
  obtain ⟨a1, a2, a3, a4, a5, a6, a7, a8, a9, a10, a11, a12, a13, a14, a15, a16, a17, a18, a19⟩ := bt_ho_f h hh
  refine ⟨fun h' m st L w => st = [] ∧ w = bt_wd ρ μ ∧ ∃ i : Nat, i ≤ 4 ∧ m = 4 - i ∧ L = [some (.inr (.inr h)), some (.inl (K : Int)), some (.inl (p : Int)), some (.inl (μ (h + 2) p + bt_sn (fun k => if K.testBit k then μ (h + 3) (k * 6 + p) else 0) i)), some (.inl (i : Int))], ?_, ?_⟩
  · simp (disch := omega) only [tX1_worthTo_0, tX1_worthTo_40, hρ h _ a2, a3, a4, a5, a6, a7, a8, a9, a10, a11, a12, a13, a14, a15, a16, a17, a18, a19, bt_ild, bt_lld, bt_ald, bt_ist, bt_lst, bt_ast, bt_inc, bt_ic, bt_lc, bt_iadd, bt_isub, bt_imul, bt_iand, bt_ior, bt_ixor, bt_ishl, bt_ishr, bt_iushr, bt_ladd, bt_lsub, bt_lmul, bt_land, bt_lor, bt_lushr, bt_lshl, bt_idiv, bt_irem, bt_ldiv, bt_lrem, bt_lcmp, bt_i2l, bt_l2i, bt_i2b, bt_pop, bt_dup, bt_dup2, bt_gfI, bt_gfJ, bt_gfR, bt_pfI, bt_pfZ, bt_pfJ, bt_pfR, bt_ial, bt_bal, bt_zal, bt_lal, bt_aal, bt_ias, bt_bas, bt_zas, bt_las, bt_len, bt_iret, bt_zret, bt_lret, bt_vret, bt_cV, bt_cS, bt_tab, bt_tsw, bt_lk, bt_lsw, bt_acp, bt_mmax, bt_mmin, bt_can, bt_icmpeq, bt_ifeq, bt_icmpne, bt_ifne, bt_icmplt, bt_iflt, bt_icmpge, bt_ifge, bt_icmpgt, bt_ifgt, bt_icmple, bt_ifle, bt_ret, bt_kill, bt_kl, bt_ix, bt_nl, bt_sm, bt_sr, bt_sig, bt_tg, bt_loc, bt_locs, List.getElem?_cons_zero, List.getElem?_cons_succ, List.set_cons_zero, List.set_cons_succ, List.map_cons, List.map_nil, List.take_succ_cons, List.take_zero, List.drop_succ_cons, List.drop_zero, List.reverse_cons, List.reverse_nil, List.nil_append, List.cons_append, List.append_nil, List.length_cons, List.length_nil, List.replicate_succ, List.replicate_zero, Option.toList_some, Option.toList_none, Nat.reduceAdd, Nat.reduceSub, Nat.reduceLeDiff, Nat.zero_add, Nat.zero_le, true_and, and_true, Int.toNat_natCast, Sum.inl.injEq, Sum.inr.injEq, ↓reduceIte, Nat.reduceEqDiff, bt_w_id]
    repeat (refine And.intro (by omega) ?_)
    exact ⟨4, 0, by omega, by omega, by simp [bt_sn]⟩
  · rintro n st L w ⟨rfl, rfl, i, hi, rfl, rfl⟩
    simp (disch := omega) only [tX1_worthTo_10, tX1_worthTo_40, hρ h _ a2, a3, a4, a5, a6, a7, a8, a9, a10, a11, a12, a13, a14, a15, a16, a17, a18, a19, bt_ild, bt_lld, bt_ald, bt_ist, bt_lst, bt_ast, bt_inc, bt_ic, bt_lc, bt_iadd, bt_isub, bt_imul, bt_iand, bt_ior, bt_ixor, bt_ishl, bt_ishr, bt_iushr, bt_ladd, bt_lsub, bt_lmul, bt_land, bt_lor, bt_lushr, bt_lshl, bt_idiv, bt_irem, bt_ldiv, bt_lrem, bt_lcmp, bt_i2l, bt_l2i, bt_i2b, bt_pop, bt_dup, bt_dup2, bt_gfI, bt_gfJ, bt_gfR, bt_pfI, bt_pfZ, bt_pfJ, bt_pfR, bt_ial, bt_bal, bt_zal, bt_lal, bt_aal, bt_ias, bt_bas, bt_zas, bt_las, bt_len, bt_iret, bt_zret, bt_lret, bt_vret, bt_cV, bt_cS, bt_tab, bt_tsw, bt_lk, bt_lsw, bt_acp, bt_mmax, bt_mmin, bt_can, bt_icmpeq, bt_ifeq, bt_icmpne, bt_ifne, bt_icmplt, bt_iflt, bt_icmpge, bt_ifge, bt_icmpgt, bt_ifgt, bt_icmple, bt_ifle, bt_ret, bt_kill, bt_kl, bt_ix, bt_nl, bt_sm, bt_sr, bt_sig, bt_tg, bt_loc, bt_locs, List.getElem?_cons_zero, List.getElem?_cons_succ, List.set_cons_zero, List.set_cons_succ, List.map_cons, List.map_nil, List.take_succ_cons, List.take_zero, List.drop_succ_cons, List.drop_zero, List.reverse_cons, List.reverse_nil, List.nil_append, List.cons_append, List.append_nil, List.length_cons, List.length_nil, List.replicate_succ, List.replicate_zero, Option.toList_some, Option.toList_none, Nat.reduceAdd, Nat.reduceSub, Nat.reduceLeDiff, Nat.zero_add, Nat.zero_le, true_and, and_true, Int.toNat_natCast, Sum.inl.injEq, Sum.inr.injEq, ↓reduceIte, Nat.reduceEqDiff, bt_w_id]
    by_cases hc : 4 ≤ i
    · rw [if_pos (by omega)]
      have : i = 4 := by omega
      subst this
      exact hQ
    · rw [if_neg (by omega), bo_bit (by omega) (by omega)]
      have x3 : ((i : Int) * 6 + (p : Int)).toNat = i * 6 + p := by omega
      by_cases hb : K.testBit i
      · simp (disch := omega) only [hb, bt_w_id, if_true, x3]
        rw [if_neg (by omega)]
        repeat (refine And.intro (by omega) ?_)
        exact ⟨4 - (i + 1), by omega, i + 1, by omega, rfl, by simp [bt_sn, hb]; omega⟩
      · simp (disch := omega) only [hb, bt_w_id, if_true, x3]
        exact ⟨4 - (i + 1), by omega, i + 1, by omega, rfl, by simp [bt_sn, hb]⟩
def SpX1_freeSeats : bt_Sp := fun As w Q => ∃ (ρ : Nat → Nat → Option Nat) (μ : Nat → Nat → Int) (h z : Nat), As = [.inr (.inr h), .inr (.inr z)] ∧ w = bt_wd ρ μ ∧ bt_Rf ρ ∧ h ∈ bt_hos ∧ z ∈ bt_zos ∧ ∀ μ', (∀ p, p < 6 → μ' (h + 4) p = μ (z + 4) p ∧ μ' (h + 5) p = 0) → bt_fr (fun a => a = h + 4 ∨ a = h + 5) μ' μ → Q none (bt_wd ρ μ')
set_option maxHeartbeats 4000000 in
theorem mtX1_freeSeats : bt_Met yX1_freeSeats cX1_freeSeats 3 none 1 [2, 2] SpX1_freeSeats := by
  refine lpX1_freeSeats _ (fun As w Q _ hS => ?_)
  obtain ⟨ρ, μ, h, z, rfl, rfl, hρ, hh, hz, hQ⟩ := hS
  obtain ⟨a1, a2, a3, a4, a5, a6, a7, a8, a9, a10, a11, a12, a13, a14, a15, a16, a17, a18, a19⟩ := bt_ho_f h hh
  obtain ⟨c1, c2, c3, c4, c5, c6, c7, c8, c9, c10, c11, c12, c13, c14, c15, c16, c17, c18, c19, c20, c21, c22, c23, c24, c25⟩ := bt_zo_f z hz
  have d2 := bt_ho_zo h hh z hz
  refine ⟨fun h' m st L w => st = [] ∧ ∃ (i : Nat) (μ1 : Nat → Nat → Int), w = bt_wd ρ μ1 ∧ bt_fr (fun a => a = h + 4 ∨ a = h + 5) μ1 μ ∧ i ≤ 6 ∧ m = 6 - i ∧ L = [some (.inr (.inr h)), some (.inr (.inr z)), some (.inl (i : Int))] ∧ ∀ p, p < i → μ1 (h + 4) p = μ (z + 4) p ∧ μ1 (h + 5) p = 0, ?_, ?_⟩
  · simp (disch := omega) only [tX1_freeSeats_0, bt_ild, bt_lld, bt_ald, bt_ist, bt_lst, bt_ast, bt_inc, bt_ic, bt_lc, bt_iadd, bt_isub, bt_imul, bt_iand, bt_ior, bt_ixor, bt_ishl, bt_ishr, bt_iushr, bt_ladd, bt_lsub, bt_lmul, bt_land, bt_lor, bt_lushr, bt_lshl, bt_idiv, bt_irem, bt_ldiv, bt_lrem, bt_lcmp, bt_i2l, bt_l2i, bt_i2b, bt_pop, bt_dup, bt_dup2, bt_gfI, bt_gfJ, bt_gfR, bt_pfI, bt_pfZ, bt_pfJ, bt_pfR, bt_ial, bt_bal, bt_zal, bt_lal, bt_aal, bt_ias, bt_bas, bt_zas, bt_las, bt_len, bt_iret, bt_zret, bt_lret, bt_vret, bt_cV, bt_cS, bt_tab, bt_tsw, bt_lk, bt_lsw, bt_acp, bt_mmax, bt_mmin, bt_can, bt_icmpeq, bt_ifeq, bt_icmpne, bt_ifne, bt_icmplt, bt_iflt, bt_icmpge, bt_ifge, bt_icmpgt, bt_ifgt, bt_icmple, bt_ifle, bt_ret, bt_kill, bt_kl, bt_ix, bt_nl, bt_sm, bt_sr, bt_sig, bt_tg, bt_loc, bt_locs, List.getElem?_cons_zero, List.getElem?_cons_succ, List.set_cons_zero, List.set_cons_succ, List.map_cons, List.map_nil, List.take_succ_cons, List.take_zero, List.drop_succ_cons, List.drop_zero, List.reverse_cons, List.reverse_nil, List.nil_append, List.cons_append, List.append_nil, List.length_cons, List.length_nil, List.replicate_succ, List.replicate_zero, Option.toList_some, Option.toList_none, Nat.reduceAdd, Nat.reduceSub, Nat.reduceLeDiff, Nat.zero_add, Nat.zero_le, true_and, and_true, Int.toNat_natCast, Sum.inl.injEq, Sum.inr.injEq, ↓reduceIte, Nat.reduceEqDiff]
    exact ⟨6, 0, μ, rfl, fun _ _ => rfl, by omega, by omega, rfl, fun p hp => by omega⟩
  · rintro n st L w ⟨rfl, i, μ1, rfl, hfr, hi, rfl, rfl, hI⟩
    have e4 : μ1 (z + 4) = μ (z + 4) := hfr _ (by omega)
    simp (disch := omega) only [tX1_freeSeats_2, hρ h _ a2, a3, a4, a5, a6, a7, a8, a9, a10, a11, a12, a13, a14, a15, a16, a17, a18, a19, hρ z _ c2, c3, c4, c5, c6, c7, c8, c9, c10, c11, c12, c13, c14, c15, c16, c17, c18, c19, c20, c21, c22, c23, c24, bt_ild, bt_lld, bt_ald, bt_ist, bt_lst, bt_ast, bt_inc, bt_ic, bt_lc, bt_iadd, bt_isub, bt_imul, bt_iand, bt_ior, bt_ixor, bt_ishl, bt_ishr, bt_iushr, bt_ladd, bt_lsub, bt_lmul, bt_land, bt_lor, bt_lushr, bt_lshl, bt_idiv, bt_irem, bt_ldiv, bt_lrem, bt_lcmp, bt_i2l, bt_l2i, bt_i2b, bt_pop, bt_dup, bt_dup2, bt_gfI, bt_gfJ, bt_gfR, bt_pfI, bt_pfZ, bt_pfJ, bt_pfR, bt_ial, bt_bal, bt_zal, bt_lal, bt_aal, bt_ias, bt_bas, bt_zas, bt_las, bt_len, bt_iret, bt_zret, bt_lret, bt_vret, bt_cV, bt_cS, bt_tab, bt_tsw, bt_lk, bt_lsw, bt_acp, bt_mmax, bt_mmin, bt_can, bt_icmpeq, bt_ifeq, bt_icmpne, bt_ifne, bt_icmplt, bt_iflt, bt_icmpge, bt_ifge, bt_icmpgt, bt_ifgt, bt_icmple, bt_ifle, bt_ret, bt_kill, bt_kl, bt_ix, bt_nl, bt_sm, bt_sr, bt_sig, bt_tg, bt_loc, bt_locs, List.getElem?_cons_zero, List.getElem?_cons_succ, List.set_cons_zero, List.set_cons_succ, List.map_cons, List.map_nil, List.take_succ_cons, List.take_zero, List.drop_succ_cons, List.drop_zero, List.reverse_cons, List.reverse_nil, List.nil_append, List.cons_append, List.append_nil, List.length_cons, List.length_nil, List.replicate_succ, List.replicate_zero, Option.toList_some, Option.toList_none, Nat.reduceAdd, Nat.reduceSub, Nat.reduceLeDiff, Nat.zero_add, Nat.zero_le, true_and, and_true, Int.toNat_natCast, Sum.inl.injEq, Sum.inr.injEq, ↓reduceIte, Nat.reduceEqDiff, bt_w_id, bt_up_cell, e4]
    by_cases hc : 6 ≤ i
    · rw [if_pos (by omega)]
      exact hQ μ1 (fun p hp => hI p (by omega)) hfr
    · rw [if_neg (by omega)]
      repeat (refine And.intro (by omega) ?_)
      refine ⟨6 - (i + 1), by omega, i + 1, _, rfl, by unfold bt_fr at *; intro a ha; grind [bt_up], by omega, rfl, rfl, fun p hp => ?_⟩
      grind [bt_up]
