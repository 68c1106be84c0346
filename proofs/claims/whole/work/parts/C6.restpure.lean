/-! BearTickets.rests against an_rests -/
def iX10_rests (w0 : bt_W) (a c : Nat) (v : Int) (h m : Nat) : bt_K := fun st L w => st = [] ∧ w = w0 ∧ ∃ (i j : Nat), i < 7 ∧ j ≤ 6 ∧ rs_f a c v (6 * i + j) = none ∧ (if h = 39 then j = 0 ∧ m = (7 - i) * 20 + 10 ∧ L = [some (.inr (.inr 0)), some (.inl (a : Int)), some (.inl (c : Int)), some (.inl v), some (.inl (rs_n a c (6 * i) : Int)), some (.inl ((i + 1 : Nat) : Int)), none] else i < 6 ∧ m = (7 - i) * 20 + (6 - j) ∧ L = [some (.inr (.inr 0)), some (.inl (a : Int)), some (.inl (c : Int)), some (.inl v), some (.inl (rs_n a c (6 * i + j) : Int)), some (.inl ((i + 1 : Nat) : Int)), some (.inl ((j + 1 : Nat) : Int))])
set_option maxHeartbeats 4000000 in
theorem lX10_rests49 {w0 : bt_W} {a c i j n : Nat} {v : Int} {Q : Option bt_V → bt_W → Prop} {PX : bt_W → Prop} (ha : a ≤ 20) (hc : c ≤ 9) (hv : -1 ≤ v ∧ v ≤ 2147483647) (hi : i < 6) (hj : j ≤ 6) (hn : n = (7 - i) * 20 + (6 - j)) (hf : rs_f a c v (6 * i + j) = none) (hQ : ∀ z m, m < 36 → rs_f a c v (m + 1) = some z → Q (some (.inl z)) w0) : tX10_rests_49 SpX10_isRest (fun h st L w => ∃ m, m < n ∧ iX10_rests w0 a c v h m st L w) Q PX [] [some (.inr (.inr 0)), some (.inl (a : Int)), some (.inl (c : Int)), some (.inl v), some (.inl (rs_n a c (6 * i + j) : Int)), some (.inl ((i + 1 : Nat) : Int)), some (.inl ((j + 1 : Nat) : Int))] w0 := by
  have hl := rs_n_le a c (6 * i + j)
  have hs : rs_n a c (6 * i + j + 1) = rs_n a c (6 * i + j) + (if ab_rs a c (i + 1) (j + 1) 6 then 1 else 0) ∨ j = 6 := by
    by_cases h6 : j = 6
    · exact Or.inr h6
    · refine Or.inl ?_
      have e1 : (6 * i + j) / 6 = i := by omega
      have e2 : (6 * i + j) % 6 = j := by omega
      show rs_n a c (6 * i + j) + (if ab_rs a c ((6 * i + j) / 6 + 1) ((6 * i + j) % 6 + 1) 6 then 1 else 0) = _
      rw [e1, e2]
  have hg : j < 6 → rs_f a c v (6 * i + j + 1) = if ab_rs a c (i + 1) (j + 1) 6 = true ∧ (rs_n a c (6 * i + j) : Int) = v then some (10 * ((i + 1 : Nat) : Int) + ((j + 1 : Nat) : Int)) else none := fun h6 => by
    have e1 : (6 * i + j) / 6 = i := by omega
    have e2 : (6 * i + j) % 6 = j := by omega
    show (match rs_f a c v (6 * i + j) with | some z => some z | none => if ab_rs a c ((6 * i + j) / 6 + 1) ((6 * i + j) % 6 + 1) 6 = true ∧ (rs_n a c (6 * i + j) : Int) = v then some (10 * (((6 * i + j) / 6 + 1 : Nat) : Int) + (((6 * i + j) % 6 + 1 : Nat) : Int)) else none) = _
    rw [hf, e1, e2]
  simp (disch := omega) only [tX10_rests_49, bt_ild, bt_lld, bt_ald, bt_ist, bt_lst, bt_ast, bt_inc, bt_ic, bt_lc, bt_iadd, bt_isub, bt_imul, bt_iand, bt_ior, bt_ixor, bt_ishl, bt_ishr, bt_iushr, bt_ladd, bt_lsub, bt_lmul, bt_land, bt_lor, bt_lushr, bt_lshl, bt_idiv, bt_irem, bt_ldiv, bt_lrem, bt_lcmp, bt_i2l, bt_l2i, bt_i2b, bt_pop, bt_dup, bt_dup2, bt_gfI, bt_gfJ, bt_gfR, bt_pfI, bt_pfZ, bt_pfJ, bt_pfR, bt_ial, bt_bal, bt_zal, bt_lal, bt_aal, bt_ias, bt_bas, bt_zas, bt_las, bt_len, bt_iret, bt_zret, bt_lret, bt_vret, bt_cV, bt_cS, bt_tab, bt_tsw, bt_lk, bt_lsw, bt_acp, bt_mmax, bt_mmin, bt_can, bt_icmpeq, bt_ifeq, bt_icmpne, bt_ifne, bt_icmplt, bt_iflt, bt_icmpge, bt_ifge, bt_icmpgt, bt_ifgt, bt_icmple, bt_ifle, bt_ret, bt_kill, bt_kl, bt_ix, bt_nl, bt_sm, bt_sr, bt_sig, bt_tg, bt_loc, bt_locs, List.getElem?_cons_zero, List.getElem?_cons_succ, List.set_cons_zero, List.set_cons_succ, List.map_cons, List.map_nil, List.take_succ_cons, List.take_zero, List.drop_succ_cons, List.drop_zero, List.reverse_cons, List.reverse_nil, List.nil_append, List.cons_append, List.append_nil, List.length_cons, List.length_nil, List.replicate_succ, List.replicate_zero, Option.toList_some, Option.toList_none, Nat.reduceAdd, Nat.reduceSub, Nat.reduceLeDiff, Nat.zero_add, Nat.zero_le, true_and, and_true, Int.toNat_natCast, Sum.inl.injEq, Sum.inr.injEq, ↓reduceIte, Nat.reduceEqDiff, bt_w_id]
  by_cases h6 : 6 ≤ j
  · rw [if_pos (by omega)]
    have hj6 : j = 6 := by omega
    subst hj6
    refine ⟨(7 - (i + 1)) * 20 + 10, by omega, rfl, rfl, i + 1, 0, by omega, by omega, hf, ?_⟩
    rw [if_pos rfl]
    exact ⟨rfl, rfl, rfl⟩
  · rw [if_neg (by omega)]
    rcases hs with hs | hs
    · have hg := hg (by omega)
      have go : ∀ x : Nat, x = rs_n a c (6 * i + j + 1) → rs_f a c v (6 * i + j + 1) = none → tX10_rests_86 SpX10_isRest (fun h st L w => ∃ m, m < n ∧ iX10_rests w0 a c v h m st L w) Q PX [] [some (.inr (.inr 0)), some (.inl (a : Int)), some (.inl (c : Int)), some (.inl v), some (.inl (x : Int)), some (.inl ((i + 1 : Nat) : Int)), some (.inl ((j + 1 : Nat) : Int))] w0 := fun x hx hnn => by
        simp (disch := omega) only [tX10_rests_86, bt_ild, bt_lld, bt_ald, bt_ist, bt_lst, bt_ast, bt_inc, bt_ic, bt_lc, bt_iadd, bt_isub, bt_imul, bt_iand, bt_ior, bt_ixor, bt_ishl, bt_ishr, bt_iushr, bt_ladd, bt_lsub, bt_lmul, bt_land, bt_lor, bt_lushr, bt_lshl, bt_idiv, bt_irem, bt_ldiv, bt_lrem, bt_lcmp, bt_i2l, bt_l2i, bt_i2b, bt_pop, bt_dup, bt_dup2, bt_gfI, bt_gfJ, bt_gfR, bt_pfI, bt_pfZ, bt_pfJ, bt_pfR, bt_ial, bt_bal, bt_zal, bt_lal, bt_aal, bt_ias, bt_bas, bt_zas, bt_las, bt_len, bt_iret, bt_zret, bt_lret, bt_vret, bt_cV, bt_cS, bt_tab, bt_tsw, bt_lk, bt_lsw, bt_acp, bt_mmax, bt_mmin, bt_can, bt_icmpeq, bt_ifeq, bt_icmpne, bt_ifne, bt_icmplt, bt_iflt, bt_icmpge, bt_ifge, bt_icmpgt, bt_ifgt, bt_icmple, bt_ifle, bt_ret, bt_kill, bt_kl, bt_ix, bt_nl, bt_sm, bt_sr, bt_sig, bt_tg, bt_loc, bt_locs, List.getElem?_cons_zero, List.getElem?_cons_succ, List.set_cons_zero, List.set_cons_succ, List.map_cons, List.map_nil, List.take_succ_cons, List.take_zero, List.drop_succ_cons, List.drop_zero, List.reverse_cons, List.reverse_nil, List.nil_append, List.cons_append, List.append_nil, List.length_cons, List.length_nil, List.replicate_succ, List.replicate_zero, Option.toList_some, Option.toList_none, Nat.reduceAdd, Nat.reduceSub, Nat.reduceLeDiff, Nat.zero_add, Nat.zero_le, true_and, and_true, Int.toNat_natCast, Sum.inl.injEq, Sum.inr.injEq, ↓reduceIte, Nat.reduceEqDiff]
        refine ⟨(7 - i) * 20 + (6 - (j + 1)), by omega, rfl, rfl, i, j + 1, by omega, by omega, hnn, ?_⟩
        rw [if_neg (by decide)]
        exact ⟨hi, rfl, by rw [hx]; rfl⟩
      refine ⟨a, c, i + 1, j + 1, rfl, ha, hc, by omega, by omega, ?_⟩
      by_cases hr : ab_rs a c (i + 1) (j + 1) 6 = true
      · rw [if_pos hr]
        rw [if_pos hr] at hs
        simp (disch := omega) only [bt_ild, bt_lld, bt_ald, bt_ist, bt_lst, bt_ast, bt_inc, bt_ic, bt_lc, bt_iadd, bt_isub, bt_imul, bt_iand, bt_ior, bt_ixor, bt_ishl, bt_ishr, bt_iushr, bt_ladd, bt_lsub, bt_lmul, bt_land, bt_lor, bt_lushr, bt_lshl, bt_idiv, bt_irem, bt_ldiv, bt_lrem, bt_lcmp, bt_i2l, bt_l2i, bt_i2b, bt_pop, bt_dup, bt_dup2, bt_gfI, bt_gfJ, bt_gfR, bt_pfI, bt_pfZ, bt_pfJ, bt_pfR, bt_ial, bt_bal, bt_zal, bt_lal, bt_aal, bt_ias, bt_bas, bt_zas, bt_las, bt_len, bt_iret, bt_zret, bt_lret, bt_vret, bt_cV, bt_cS, bt_tab, bt_tsw, bt_lk, bt_lsw, bt_acp, bt_mmax, bt_mmin, bt_can, bt_icmpeq, bt_ifeq, bt_icmpne, bt_ifne, bt_icmplt, bt_iflt, bt_icmpge, bt_ifge, bt_icmpgt, bt_ifgt, bt_icmple, bt_ifle, bt_ret, bt_kill, bt_kl, bt_ix, bt_nl, bt_sm, bt_sr, bt_sig, bt_tg, bt_loc, bt_locs, List.getElem?_cons_zero, List.getElem?_cons_succ, List.set_cons_zero, List.set_cons_succ, List.map_cons, List.map_nil, List.take_succ_cons, List.take_zero, List.drop_succ_cons, List.drop_zero, List.reverse_cons, List.reverse_nil, List.nil_append, List.cons_append, List.append_nil, List.length_cons, List.length_nil, List.replicate_succ, List.replicate_zero, Option.toList_some, Option.toList_none, Nat.reduceAdd, Nat.reduceSub, Nat.reduceLeDiff, Nat.zero_add, Nat.zero_le, true_and, and_true, Int.toNat_natCast, Sum.inl.injEq, Sum.inr.injEq, ↓reduceIte, Nat.reduceEqDiff, bt_w_id, Int.reduceEq, ↓reduceIte]
        by_cases hv2 : (rs_n a c (6 * i + j) : Int) = v
        · rw [if_pos ⟨hr, hv2⟩] at hg
          first | (rw [if_neg (fun q => q hv2)]; exact hQ _ (6 * i + j) (by omega) hg) | (rw [if_pos hv2]; exact hQ _ (6 * i + j) (by omega) hg)
        · rw [if_neg (fun q => hv2 q.2)] at hg
          first | (rw [if_pos hv2]; exact go (rs_n a c (6 * i + j) + 1) hs.symm hg) | (rw [if_neg hv2]; exact go (rs_n a c (6 * i + j) + 1) hs.symm hg)
      · rw [if_neg hr]
        rw [if_neg hr] at hs
        rw [if_neg (fun q => hr q.1)] at hg
        simp (disch := omega) only [bt_ild, bt_lld, bt_ald, bt_ist, bt_lst, bt_ast, bt_inc, bt_ic, bt_lc, bt_iadd, bt_isub, bt_imul, bt_iand, bt_ior, bt_ixor, bt_ishl, bt_ishr, bt_iushr, bt_ladd, bt_lsub, bt_lmul, bt_land, bt_lor, bt_lushr, bt_lshl, bt_idiv, bt_irem, bt_ldiv, bt_lrem, bt_lcmp, bt_i2l, bt_l2i, bt_i2b, bt_pop, bt_dup, bt_dup2, bt_gfI, bt_gfJ, bt_gfR, bt_pfI, bt_pfZ, bt_pfJ, bt_pfR, bt_ial, bt_bal, bt_zal, bt_lal, bt_aal, bt_ias, bt_bas, bt_zas, bt_las, bt_len, bt_iret, bt_zret, bt_lret, bt_vret, bt_cV, bt_cS, bt_tab, bt_tsw, bt_lk, bt_lsw, bt_acp, bt_mmax, bt_mmin, bt_can, bt_icmpeq, bt_ifeq, bt_icmpne, bt_ifne, bt_icmplt, bt_iflt, bt_icmpge, bt_ifge, bt_icmpgt, bt_ifgt, bt_icmple, bt_ifle, bt_ret, bt_kill, bt_kl, bt_ix, bt_nl, bt_sm, bt_sr, bt_sig, bt_tg, bt_loc, bt_locs, List.getElem?_cons_zero, List.getElem?_cons_succ, List.set_cons_zero, List.set_cons_succ, List.map_cons, List.map_nil, List.take_succ_cons, List.take_zero, List.drop_succ_cons, List.drop_zero, List.reverse_cons, List.reverse_nil, List.nil_append, List.cons_append, List.append_nil, List.length_cons, List.length_nil, List.replicate_succ, List.replicate_zero, Option.toList_some, Option.toList_none, Nat.reduceAdd, Nat.reduceSub, Nat.reduceLeDiff, Nat.zero_add, Nat.zero_le, true_and, and_true, Int.toNat_natCast, Sum.inl.injEq, Sum.inr.injEq, ↓reduceIte, Nat.reduceEqDiff, bt_w_id, Int.reduceEq, ↓reduceIte]
        exact go (rs_n a c (6 * i + j)) hs.symm hg
    · omega
set_option maxHeartbeats 4000000 in
theorem lX10_rests39 {w0 : bt_W} {a c i n : Nat} {v : Int} {Q : Option bt_V → bt_W → Prop} {PX : bt_W → Prop} (hv : -1 ≤ v ∧ v ≤ 2147483647) (hi : i < 7) (hn : n = (7 - i) * 20 + 10) (hf : rs_f a c v (6 * i) = none) (hQ : rs_f a c v 36 = none → v = -1 → Q (some (.inl (rs_n a c 36 : Int))) w0) (hP : rs_f a c v 36 = none → v ≠ -1 → PX w0) : tX10_rests_39 SpX10_isRest (fun h st L w => ∃ m, m < n ∧ iX10_rests w0 a c v h m st L w) Q PX [] [some (.inr (.inr 0)), some (.inl (a : Int)), some (.inl (c : Int)), some (.inl v), some (.inl (rs_n a c (6 * i) : Int)), some (.inl ((i + 1 : Nat) : Int)), none] w0 := by
  simp (disch := omega) only [tX10_rests_39, bt_ild, bt_lld, bt_ald, bt_ist, bt_lst, bt_ast, bt_inc, bt_ic, bt_lc, bt_iadd, bt_isub, bt_imul, bt_iand, bt_ior, bt_ixor, bt_ishl, bt_ishr, bt_iushr, bt_ladd, bt_lsub, bt_lmul, bt_land, bt_lor, bt_lushr, bt_lshl, bt_idiv, bt_irem, bt_ldiv, bt_lrem, bt_lcmp, bt_i2l, bt_l2i, bt_i2b, bt_pop, bt_dup, bt_dup2, bt_gfI, bt_gfJ, bt_gfR, bt_pfI, bt_pfZ, bt_pfJ, bt_pfR, bt_ial, bt_bal, bt_zal, bt_lal, bt_aal, bt_ias, bt_bas, bt_zas, bt_las, bt_len, bt_iret, bt_zret, bt_lret, bt_vret, bt_cV, bt_cS, bt_tab, bt_tsw, bt_lk, bt_lsw, bt_acp, bt_mmax, bt_mmin, bt_can, bt_icmpeq, bt_ifeq, bt_icmpne, bt_ifne, bt_icmplt, bt_iflt, bt_icmpge, bt_ifge, bt_icmpgt, bt_ifgt, bt_icmple, bt_ifle, bt_ret, bt_kill, bt_kl, bt_ix, bt_nl, bt_sm, bt_sr, bt_sig, bt_tg, bt_loc, bt_locs, List.getElem?_cons_zero, List.getElem?_cons_succ, List.set_cons_zero, List.set_cons_succ, List.map_cons, List.map_nil, List.take_succ_cons, List.take_zero, List.drop_succ_cons, List.drop_zero, List.reverse_cons, List.reverse_nil, List.nil_append, List.cons_append, List.append_nil, List.length_cons, List.length_nil, List.replicate_succ, List.replicate_zero, Option.toList_some, Option.toList_none, Nat.reduceAdd, Nat.reduceSub, Nat.reduceLeDiff, Nat.zero_add, Nat.zero_le, true_and, and_true, Int.toNat_natCast, Sum.inl.injEq, Sum.inr.injEq, ↓reduceIte, Nat.reduceEqDiff, bt_w_id, bt_thr]
  by_cases h6 : 6 ≤ i
  · rw [if_pos (by omega)]
    have : i = 6 := by omega
    subst this
    by_cases h1 : v = -1
    · rw [if_pos h1]; exact hQ hf h1
    · rw [if_neg h1]; exact hP hf h1
  · rw [if_neg (by omega)]
    refine ⟨(7 - i) * 20 + 6, by omega, rfl, rfl, i, 0, by omega, by omega, hf, ?_⟩
    rw [if_neg (by decide)]
    exact ⟨by omega, rfl, rfl⟩
/-- what a walk of rests needs: the entry, and each head with a measure that falls -/
def bt_hd (Q : Option bt_V → bt_W → Prop) (PX : bt_W → Prop) (a c v : Int) (w : bt_W) : Prop := ∃ I : Nat → Nat → bt_K, tX10_rests_0 SpX10_isRest (fun h st L w => ∃ n, I h n st L w) Q PX [] (bt_loc 7 [.inr (.inr 0), .inl a, .inl c, .inl v]) w ∧ (∀ n st L w, I 39 n st L w → tX10_rests_39 SpX10_isRest (fun h st L w => ∃ m, m < n ∧ I h m st L w) Q PX st L w) ∧ ∀ n st L w, I 49 n st L w → tX10_rests_49 SpX10_isRest (fun h st L w => ∃ m, m < n ∧ I h m st L w) Q PX st L w
set_option maxHeartbeats 4000000 in
theorem rs_walk {w : bt_W} {a c v : Int} {Q : Option bt_V → bt_W → Prop} {PX : bt_W → Prop} (ha : bt_i32 a) (hc : bt_i32 c) (hv : bt_i32 v) (hQ : (an_rests a c v).1 = 0 → Q (some (.inl (an_rests a c v).2)) w) (hP : (an_rests a c v).1 ≠ 0 → PX w) : bt_hd Q PX a c v w := by
  unfold bt_i32 at ha hc hv
  by_cases h : (0 ≤ a ∧ a ≤ 20) ∧ (0 ≤ c ∧ c ≤ 9) ∧ -1 ≤ v
  · obtain ⟨A, rfl⟩ : ∃ A : Nat, a = (A : Int) := ⟨a.toNat, by omega⟩
    obtain ⟨C, rfl⟩ : ∃ C : Nat, c = (C : Int) := ⟨c.toNat, by omega⟩
    have e : an_rests (A : Int) (C : Int) v = (match rs_f A C v 36 with | some z => (0, z) | none => if v = -1 then (0, (rs_n A C 36 : Int)) else (1, 0)) := by
      unfold an_rests
      rw [if_pos h]
      rfl
    rw [e] at hQ hP
    refine ⟨iX10_rests w A C v, ?_, ?_, ?_⟩
    · simp (disch := omega) only [tX10_rests_0, tX10_rests_25, bt_ild, bt_lld, bt_ald, bt_ist, bt_lst, bt_ast, bt_inc, bt_ic, bt_lc, bt_iadd, bt_isub, bt_imul, bt_iand, bt_ior, bt_ixor, bt_ishl, bt_ishr, bt_iushr, bt_ladd, bt_lsub, bt_lmul, bt_land, bt_lor, bt_lushr, bt_lshl, bt_idiv, bt_irem, bt_ldiv, bt_lrem, bt_lcmp, bt_i2l, bt_l2i, bt_i2b, bt_pop, bt_dup, bt_dup2, bt_gfI, bt_gfJ, bt_gfR, bt_pfI, bt_pfZ, bt_pfJ, bt_pfR, bt_ial, bt_bal, bt_zal, bt_lal, bt_aal, bt_ias, bt_bas, bt_zas, bt_las, bt_len, bt_iret, bt_zret, bt_lret, bt_vret, bt_cV, bt_cS, bt_tab, bt_tsw, bt_lk, bt_lsw, bt_acp, bt_mmax, bt_mmin, bt_can, bt_icmpeq, bt_ifeq, bt_icmpne, bt_ifne, bt_icmplt, bt_iflt, bt_icmpge, bt_ifge, bt_icmpgt, bt_ifgt, bt_icmple, bt_ifle, bt_ret, bt_kill, bt_kl, bt_ix, bt_nl, bt_sm, bt_sr, bt_sig, bt_tg, bt_loc, bt_locs, List.getElem?_cons_zero, List.getElem?_cons_succ, List.set_cons_zero, List.set_cons_succ, List.map_cons, List.map_nil, List.take_succ_cons, List.take_zero, List.drop_succ_cons, List.drop_zero, List.reverse_cons, List.reverse_nil, List.nil_append, List.cons_append, List.append_nil, List.length_cons, List.length_nil, List.replicate_succ, List.replicate_zero, Option.toList_some, Option.toList_none, Nat.reduceAdd, Nat.reduceSub, Nat.reduceLeDiff, Nat.zero_add, Nat.zero_le, true_and, and_true, Int.toNat_natCast, Sum.inl.injEq, Sum.inr.injEq, ↓reduceIte, Nat.reduceEqDiff, bt_w_id]
      rw [if_neg (by omega), if_neg (by omega), if_neg (by omega), if_neg (by omega), if_pos (by omega)]
      refine ⟨7 * 20 + 10, rfl, rfl, 0, 0, by omega, by omega, rfl, ?_⟩
      rw [if_pos rfl]
      exact ⟨rfl, rfl, rfl⟩
    · rintro n st L w' ⟨rfl, rfl, i, j, hi, hj, hf, hI⟩
      rw [if_pos rfl] at hI
      obtain ⟨rfl, rfl, rfl⟩ := hI
      refine lX10_rests39 (by omega) hi rfl hf (fun hn h1 => ?_) (fun hn h1 => ?_)
      · rw [hn] at hQ
        simp only [h1, if_true] at hQ
        exact hQ trivial
      · rw [hn] at hP
        simp only [h1, if_false] at hP
        exact hP (by decide)
    · rintro n st L w' ⟨rfl, rfl, i, j, hi, hj, hf, hI⟩
      rw [if_neg (by decide)] at hI
      obtain ⟨hi6, rfl, rfl⟩ := hI
      refine lX10_rests49 (by omega) (by omega) (by omega) hi6 hj rfl hf (fun z m hm hz => ?_)
      have h36 : rs_f A C v 36 = some z := by
        have := rs_f_up hz (36 - (m + 1))
        rwa [show m + 1 + (36 - (m + 1)) = 36 by omega] at this
      rw [h36] at hQ
      exact hQ rfl
  · have e : an_rests a c v = (1, 0) := by
      unfold an_rests
      rw [if_neg h]
    rw [e] at hP
    have hp := hP (by decide)
    refine ⟨fun _ _ _ _ _ => False, ?_, fun _ _ _ _ q => q.elim, fun _ _ _ _ q => q.elim⟩
    simp (disch := omega) only [tX10_rests_0, tX10_rests_25, bt_ild, bt_lld, bt_ald, bt_ist, bt_lst, bt_ast, bt_inc, bt_ic, bt_lc, bt_iadd, bt_isub, bt_imul, bt_iand, bt_ior, bt_ixor, bt_ishl, bt_ishr, bt_iushr, bt_ladd, bt_lsub, bt_lmul, bt_land, bt_lor, bt_lushr, bt_lshl, bt_idiv, bt_irem, bt_ldiv, bt_lrem, bt_lcmp, bt_i2l, bt_l2i, bt_i2b, bt_pop, bt_dup, bt_dup2, bt_gfI, bt_gfJ, bt_gfR, bt_pfI, bt_pfZ, bt_pfJ, bt_pfR, bt_ial, bt_bal, bt_zal, bt_lal, bt_aal, bt_ias, bt_bas, bt_zas, bt_las, bt_len, bt_iret, bt_zret, bt_lret, bt_vret, bt_cV, bt_cS, bt_tab, bt_tsw, bt_lk, bt_lsw, bt_acp, bt_mmax, bt_mmin, bt_can, bt_icmpeq, bt_ifeq, bt_icmpne, bt_ifne, bt_icmplt, bt_iflt, bt_icmpge, bt_ifge, bt_icmpgt, bt_ifgt, bt_icmple, bt_ifle, bt_ret, bt_kill, bt_kl, bt_ix, bt_nl, bt_sm, bt_sr, bt_sig, bt_tg, bt_loc, bt_locs, List.getElem?_cons_zero, List.getElem?_cons_succ, List.set_cons_zero, List.set_cons_succ, List.map_cons, List.map_nil, List.take_succ_cons, List.take_zero, List.drop_succ_cons, List.drop_zero, List.reverse_cons, List.reverse_nil, List.nil_append, List.cons_append, List.append_nil, List.length_cons, List.length_nil, List.replicate_succ, List.replicate_zero, Option.toList_some, Option.toList_none, Nat.reduceAdd, Nat.reduceSub, Nat.reduceLeDiff, Nat.zero_add, Nat.zero_le, true_and, and_true, Int.toNat_natCast, Sum.inl.injEq, Sum.inr.injEq, ↓reduceIte, Nat.reduceEqDiff, bt_w_id, bt_thr]
    by_cases g1 : a < 0
    · rw [if_pos g1]; exact hp
    rw [if_neg g1]
    by_cases g2 : 20 < a
    · rw [if_pos g2]; exact hp
    rw [if_neg g2]
    by_cases g3 : c < 0
    · rw [if_pos g3]; exact hp
    rw [if_neg g3]
    by_cases g4 : 9 < c
    · rw [if_pos g4]; exact hp
    rw [if_neg g4, if_neg (by omega)]
    exact hp
