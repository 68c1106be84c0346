/-! BearTicketsModel's constructor. Printed by prog/mkmodel.py -/
def bt_g11 (ρ : Nat → Nat → Option Nat) : Nat → Nat → Option Nat := (bt_ur (bt_ur (bt_ur (bt_ur (bt_ur (bt_ur (bt_ur (bt_ur (bt_ur (bt_ur (bt_ur (bt_ur (bt_ur (bt_ur (bt_ur (bt_ur (bt_ur (bt_ur (bt_ur (bt_ur (bt_ur (bt_ur (bt_ur (bt_ur (bt_ur (bt_ur (bt_ur (bt_ur (bt_ur (bt_ur (bt_ur (bt_ur (bt_ur (bt_ur (bt_ur (bt_ur (bt_ur (bt_ur (bt_ur (bt_ur (bt_ur (bt_ur (bt_ur (bt_ur (bt_ur (bt_ur (bt_ur (bt_ur (bt_ur (bt_ur (bt_ur (bt_ur (bt_ur (bt_ur (bt_ur ρ 205 2 206) 205 10 207) 205 11 208) 205 12 209) 205 13 210) 205 14 211) 205 15 212) 205 16 213) 205 17 214) 205 18 215) 205 19 216) 205 20 217) 205 21 218) 205 22 219) 205 23 220) 205 24 221) 205 28 222) 205 29 223) 205 30 224) 205 31 225) 205 32 226) 205 33 227) 205 34 228) 205 35 229) 205 36 230) 205 37 231) 205 38 232) 205 39 233) 205 42 234) 205 43 235) 205 44 236) 205 45 237) 205 46 238) 205 47 239) 205 48 240) 205 49 241) 205 50 242) 205 51 243) 205 52 244) 205 53 245) 205 55 246) 205 56 247) 205 57 248) 205 58 249) 205 59 250) 205 60 251) 205 61 252) 205 62 253) 205 63 254) 205 66 255) 205 67 256) 205 68 257) 205 70 258) 205 71 259) 205 72 260)
def SpX11_init : bt_Sp := fun As w Q => ∃ (ρ : Nat → Nat → Option Nat) (μ : Nat → Nat → Int), As = [.inr (.inr 205)] ∧ w = bt_wn 206 ρ μ ∧ bt_nz 205 ρ μ ∧ bt_Rf (bt_g11 ρ) ∧ ∀ μ', rpl_n μ' 0 → rq_F (μ' 240) (μ' 214) (μ' 213) (μ' 216) 0 0 → μ' 239 0 = 65535 → (∀ k, k ≠ 0 → μ' 239 k = 0) → (∀ a k, a < 205 → μ' a k = μ a k) → (∀ a k, 205 ≤ a → a ≠ 207 → a ≠ 239 → a ≠ 240 → μ' a k = 0) → bt_nz 261 (bt_g11 ρ) μ' → Q none (bt_wn 261 (bt_g11 ρ) μ')
set_option maxRecDepth 20000 in
set_option maxHeartbeats 4000000 in
theorem ctX11_init : bt_Cet yX11_init cX11_init 1 100 [2] 55 5032 SpX11_init := by
  refine bt_cet (by decide) rfl (by decide) (fun X As w Q hsig hSp hX hT hI hR => ?_)
  obtain ⟨ρ, μ, rfl, rfl, hn0, hρ, hq⟩ := hSp
  have hn : bt_nz 206 ρ μ := hn0.mono (by omega)
  refine ⟨_, sX11_init_0 (N := 206) (n0 := 206) hX hT hI mtX11_plain (by decide) mtX11_fresh (by decide) mtX11_forgets (by decide) rfl (by decide) hR, ?_⟩
  unfold tX11_init_0
  refine mk_o rfl ?_
  refine mk_arr (s := 205) rfl (by omega) rfl rfl hn (fun hn => ?_)
  refine mk_arr (s := 205) rfl (by omega) rfl rfl hn (fun hn => ?_)
  refine mk_arr (s := 205) rfl (by omega) rfl rfl hn (fun hn => ?_)
  refine mk_arr (s := 205) rfl (by omega) rfl rfl hn (fun hn => ?_)
  refine mk_arr (s := 205) rfl (by omega) rfl rfl hn (fun hn => ?_)
  refine mk_arr (s := 205) rfl (by omega) rfl rfl hn (fun hn => ?_)
  refine mk_arr (s := 205) rfl (by omega) rfl rfl hn (fun hn => ?_)
  refine mk_arr (s := 205) rfl (by omega) rfl rfl hn (fun hn => ?_)
  refine mk_arr (s := 205) rfl (by omega) rfl rfl hn (fun hn => ?_)
  refine mk_arr (s := 205) rfl (by omega) rfl rfl hn (fun hn => ?_)
  refine mk_arr (s := 205) rfl (by omega) rfl rfl hn (fun hn => ?_)
  refine mk_arr (s := 205) rfl (by omega) rfl rfl hn (fun hn => ?_)
  refine mk_arr (s := 205) rfl (by omega) rfl rfl hn (fun hn => ?_)
  refine mk_arr (s := 205) rfl (by omega) rfl rfl hn (fun hn => ?_)
  refine mk_arr (s := 205) rfl (by omega) rfl rfl hn (fun hn => ?_)
  refine mk_arr (s := 205) rfl (by omega) rfl rfl hn (fun hn => ?_)
  refine mk_arr (s := 205) rfl (by omega) rfl rfl hn (fun hn => ?_)
  refine mk_arr (s := 205) rfl (by omega) rfl rfl hn (fun hn => ?_)
  refine mk_arr (s := 205) rfl (by omega) rfl rfl hn (fun hn => ?_)
  refine mk_arr (s := 205) rfl (by omega) rfl rfl hn (fun hn => ?_)
  refine mk_arr (s := 205) rfl (by omega) rfl rfl hn (fun hn => ?_)
  refine mk_arr (s := 205) rfl (by omega) rfl rfl hn (fun hn => ?_)
  refine mk_arr (s := 205) rfl (by omega) rfl rfl hn (fun hn => ?_)
  refine mk_arr (s := 205) rfl (by omega) rfl rfl hn (fun hn => ?_)
  refine mk_arr (s := 205) rfl (by omega) rfl rfl hn (fun hn => ?_)
  refine mk_arr (s := 205) rfl (by omega) rfl rfl hn (fun hn => ?_)
  refine mk_arr (s := 205) rfl (by omega) rfl rfl hn (fun hn => ?_)
  refine mk_arr (s := 205) rfl (by omega) rfl rfl hn (fun hn => ?_)
  refine mk_arr (s := 205) rfl (by omega) rfl rfl hn (fun hn => ?_)
  refine mk_arr (s := 205) rfl (by omega) rfl rfl hn (fun hn => ?_)
  refine mk_arr (s := 205) rfl (by omega) rfl rfl hn (fun hn => ?_)
  refine mk_arr (s := 205) rfl (by omega) rfl rfl hn (fun hn => ?_)
  refine mk_arr (s := 205) rfl (by omega) rfl rfl hn (fun hn => ?_)
  refine mk_arr (s := 205) rfl (by omega) rfl rfl hn (fun hn => ?_)
  refine mk_arr (s := 205) rfl (by omega) rfl rfl hn (fun hn => ?_)
  refine mk_arr (s := 205) rfl (by omega) rfl rfl hn (fun hn => ?_)
  refine mk_arr (s := 205) rfl (by omega) rfl rfl hn (fun hn => ?_)
  refine mk_arr (s := 205) rfl (by omega) rfl rfl hn (fun hn => ?_)
  refine mk_arr (s := 205) rfl (by omega) rfl rfl hn (fun hn => ?_)
  refine mk_arr (s := 205) rfl (by omega) rfl rfl hn (fun hn => ?_)
  refine mk_arr (s := 205) rfl (by omega) rfl rfl hn (fun hn => ?_)
  refine mk_arr (s := 205) rfl (by omega) rfl rfl hn (fun hn => ?_)
  refine mk_arr (s := 205) rfl (by omega) rfl rfl hn (fun hn => ?_)
  refine mk_arr (s := 205) rfl (by omega) rfl rfl hn (fun hn => ?_)
  refine mk_arr (s := 205) rfl (by omega) rfl rfl hn (fun hn => ?_)
  refine mk_arr (s := 205) rfl (by omega) rfl rfl hn (fun hn => ?_)
  refine mk_arr (s := 205) rfl (by omega) rfl rfl hn (fun hn => ?_)
  refine mk_arr (s := 205) rfl (by omega) rfl rfl hn (fun hn => ?_)
  refine mk_arr (s := 205) rfl (by omega) rfl rfl hn (fun hn => ?_)
  refine mk_arr (s := 205) rfl (by omega) rfl rfl hn (fun hn => ?_)
  refine mk_arr (s := 205) rfl (by omega) rfl rfl hn (fun hn => ?_)
  refine mk_arr (s := 205) rfl (by omega) rfl rfl hn (fun hn => ?_)
  refine mk_arr (s := 205) rfl (by omega) rfl rfl hn (fun hn => ?_)
  refine mk_arr (s := 205) rfl (by omega) rfl rfl hn (fun hn => ?_)
  refine mk_arr (s := 205) rfl (by omega) rfl rfl hn (fun hn => ?_)
  have hn1 : bt_nz 261 (bt_g11 ρ) μ := hn
  show bt_ald 0 (bt_ic 0 (bt_cV 1 [2, 0] 11 SpX11_plain (bt_ald 0 (bt_cV 0 [2] 11 SpX11_fresh (bt_ald 0 (bt_cV 0 [2] 11 SpX11_forgets (bt_vret Q))))))) [] [some (.inr (.inr 205))] (bt_wn 261 (bt_g11 ρ) μ)
  simp only [bt_ild, bt_lld, bt_ald, bt_ist, bt_lst, bt_ast, bt_inc, bt_ic, bt_lc, bt_iadd, bt_isub, bt_imul, bt_iand, bt_ior, bt_ixor, bt_ishl, bt_ishr, bt_iushr, bt_ladd, bt_lsub, bt_lmul, bt_land, bt_lor, bt_lushr, bt_lshl, bt_idiv, bt_irem, bt_ldiv, bt_lrem, bt_lcmp, bt_i2l, bt_l2i, bt_i2b, bt_pop, bt_dup, bt_dup2, bt_gfI, bt_gfJ, bt_gfR, bt_pfI, bt_pfZ, bt_pfJ, bt_pfR, bt_ial, bt_bal, bt_zal, bt_lal, bt_aal, bt_ias, bt_bas, bt_zas, bt_las, bt_len, bt_iret, bt_zret, bt_lret, bt_vret, bt_cV, bt_cS, bt_tab, bt_tsw, bt_lk, bt_lsw, bt_acp, bt_mmax, bt_mmin, bt_can, bt_icmpeq, bt_ifeq, bt_icmpne, bt_ifne, bt_icmplt, bt_iflt, bt_icmpge, bt_ifge, bt_icmpgt, bt_ifgt, bt_icmple, bt_ifle, bt_ret, bt_kill, bt_kl, bt_ix, bt_nl, bt_sm, bt_sr, bt_sig, bt_tg, bt_loc, bt_locs, List.getElem?_cons_zero, List.getElem?_cons_succ, List.set_cons_zero, List.set_cons_succ, List.map_cons, List.map_nil, List.take_succ_cons, List.take_zero, List.drop_succ_cons, List.drop_zero, List.reverse_cons, List.reverse_nil, List.nil_append, List.cons_append, List.append_nil, List.length_cons, List.length_nil, List.replicate_succ, List.replicate_zero, Option.toList_some, Option.toList_none, Nat.reduceAdd, Nat.reduceSub, Nat.reduceLeDiff, Nat.zero_add, Nat.zero_le, true_and, and_true, Int.toNat_natCast, Sum.inl.injEq, Sum.inr.injEq, ↓reduceIte, Nat.reduceEqDiff]
  refine ⟨⟨by omega, rfl⟩, bt_g11 ρ, μ, 261, 0, rfl, rfl, hρ, by omega, by omega, fun μ1 p1 p2 p3 p4 => ?_⟩
  simp only [bt_ild, bt_lld, bt_ald, bt_ist, bt_lst, bt_ast, bt_inc, bt_ic, bt_lc, bt_iadd, bt_isub, bt_imul, bt_iand, bt_ior, bt_ixor, bt_ishl, bt_ishr, bt_iushr, bt_ladd, bt_lsub, bt_lmul, bt_land, bt_lor, bt_lushr, bt_lshl, bt_idiv, bt_irem, bt_ldiv, bt_lrem, bt_lcmp, bt_i2l, bt_l2i, bt_i2b, bt_pop, bt_dup, bt_dup2, bt_gfI, bt_gfJ, bt_gfR, bt_pfI, bt_pfZ, bt_pfJ, bt_pfR, bt_ial, bt_bal, bt_zal, bt_lal, bt_aal, bt_ias, bt_bas, bt_zas, bt_las, bt_len, bt_iret, bt_zret, bt_lret, bt_vret, bt_cV, bt_cS, bt_tab, bt_tsw, bt_lk, bt_lsw, bt_acp, bt_mmax, bt_mmin, bt_can, bt_icmpeq, bt_ifeq, bt_icmpne, bt_ifne, bt_icmplt, bt_iflt, bt_icmpge, bt_ifge, bt_icmpgt, bt_ifgt, bt_icmple, bt_ifle, bt_ret, bt_kill, bt_kl, bt_ix, bt_nl, bt_sm, bt_sr, bt_sig, bt_tg, bt_loc, bt_locs, List.getElem?_cons_zero, List.getElem?_cons_succ, List.set_cons_zero, List.set_cons_succ, List.map_cons, List.map_nil, List.take_succ_cons, List.take_zero, List.drop_succ_cons, List.drop_zero, List.reverse_cons, List.reverse_nil, List.nil_append, List.cons_append, List.append_nil, List.length_cons, List.length_nil, List.replicate_succ, List.replicate_zero, Option.toList_some, Option.toList_none, Nat.reduceAdd, Nat.reduceSub, Nat.reduceLeDiff, Nat.zero_add, Nat.zero_le, true_and, and_true, Int.toNat_natCast, Sum.inl.injEq, Sum.inr.injEq, ↓reduceIte, Nat.reduceEqDiff]
  refine ⟨⟨by omega, rfl⟩, bt_g11 ρ, μ1, 261, 0, 0, rfl, rfl, hρ, by omega, by simpa using p1 1 (by omega), by omega, by simpa using p1 2 (by omega), by omega, fun μ2 q1 q2 => ?_⟩
  simp only [bt_ild, bt_lld, bt_ald, bt_ist, bt_lst, bt_ast, bt_inc, bt_ic, bt_lc, bt_iadd, bt_isub, bt_imul, bt_iand, bt_ior, bt_ixor, bt_ishl, bt_ishr, bt_iushr, bt_ladd, bt_lsub, bt_lmul, bt_land, bt_lor, bt_lushr, bt_lshl, bt_idiv, bt_irem, bt_ldiv, bt_lrem, bt_lcmp, bt_i2l, bt_l2i, bt_i2b, bt_pop, bt_dup, bt_dup2, bt_gfI, bt_gfJ, bt_gfR, bt_pfI, bt_pfZ, bt_pfJ, bt_pfR, bt_ial, bt_bal, bt_zal, bt_lal, bt_aal, bt_ias, bt_bas, bt_zas, bt_las, bt_len, bt_iret, bt_zret, bt_lret, bt_vret, bt_cV, bt_cS, bt_tab, bt_tsw, bt_lk, bt_lsw, bt_acp, bt_mmax, bt_mmin, bt_can, bt_icmpeq, bt_ifeq, bt_icmpne, bt_ifne, bt_icmplt, bt_iflt, bt_icmpge, bt_ifge, bt_icmpgt, bt_ifgt, bt_icmple, bt_ifle, bt_ret, bt_kill, bt_kl, bt_ix, bt_nl, bt_sm, bt_sr, bt_sig, bt_tg, bt_loc, bt_locs, List.getElem?_cons_zero, List.getElem?_cons_succ, List.set_cons_zero, List.set_cons_succ, List.map_cons, List.map_nil, List.take_succ_cons, List.take_zero, List.drop_succ_cons, List.drop_zero, List.reverse_cons, List.reverse_nil, List.nil_append, List.cons_append, List.append_nil, List.length_cons, List.length_nil, List.replicate_succ, List.replicate_zero, Option.toList_some, Option.toList_none, Nat.reduceAdd, Nat.reduceSub, Nat.reduceLeDiff, Nat.zero_add, Nat.zero_le, true_and, and_true, Int.toNat_natCast, Sum.inl.injEq, Sum.inr.injEq, ↓reduceIte, Nat.reduceEqDiff]
  refine ⟨⟨by omega, rfl⟩, rp_forgets hρ (by omega) ?_⟩
  simp only [bt_ild, bt_lld, bt_ald, bt_ist, bt_lst, bt_ast, bt_inc, bt_ic, bt_lc, bt_iadd, bt_isub, bt_imul, bt_iand, bt_ior, bt_ixor, bt_ishl, bt_ishr, bt_iushr, bt_ladd, bt_lsub, bt_lmul, bt_land, bt_lor, bt_lushr, bt_lshl, bt_idiv, bt_irem, bt_ldiv, bt_lrem, bt_lcmp, bt_i2l, bt_l2i, bt_i2b, bt_pop, bt_dup, bt_dup2, bt_gfI, bt_gfJ, bt_gfR, bt_pfI, bt_pfZ, bt_pfJ, bt_pfR, bt_ial, bt_bal, bt_zal, bt_lal, bt_aal, bt_ias, bt_bas, bt_zas, bt_las, bt_len, bt_iret, bt_zret, bt_lret, bt_vret, bt_cV, bt_cS, bt_tab, bt_tsw, bt_lk, bt_lsw, bt_acp, bt_mmax, bt_mmin, bt_can, bt_icmpeq, bt_ifeq, bt_icmpne, bt_ifne, bt_icmplt, bt_iflt, bt_icmpge, bt_ifge, bt_icmpgt, bt_ifgt, bt_icmple, bt_ifle, bt_ret, bt_kill, bt_kl, bt_ix, bt_nl, bt_sm, bt_sr, bt_sig, bt_tg, bt_loc, bt_locs, List.getElem?_cons_zero, List.getElem?_cons_succ, List.set_cons_zero, List.set_cons_succ, List.map_cons, List.map_nil, List.take_succ_cons, List.take_zero, List.drop_succ_cons, List.drop_zero, List.reverse_cons, List.reverse_nil, List.nil_append, List.cons_append, List.append_nil, List.length_cons, List.length_nil, List.replicate_succ, List.replicate_zero, Option.toList_some, Option.toList_none, Nat.reduceAdd, Nat.reduceSub, Nat.reduceLeDiff, Nat.zero_add, Nat.zero_le, true_and, and_true, Int.toNat_natCast, Sum.inl.injEq, Sum.inr.injEq, ↓reduceIte, Nat.reduceEqDiff]
  have z : ∀ a k, 205 ≤ a → a ≠ 207 → μ1 a k = 0 := fun a k h1 h2 => by
    by_cases hc : rpl_c 0 a k
    · rcases hc with ⟨rfl, _⟩ | ⟨rfl, h3, h4⟩ | ⟨rfl | rfl, h3, h4⟩
      · exact absurd rfl h2
      · simpa using p2 k (by omega)
      · simpa using (p3 k (by omega)).1
      · simpa using (p3 k (by omega)).2
    · rw [p4 a k hc]; exact (hn0 a h1 k).2
  have lo : ∀ a k, a < 205 → μ1 a k = μ a k := fun a k h1 => p4 a k (by unfold rpl_c; omega)
  have up2 : ∀ a k, a ≠ 239 → a ≠ 240 → bt_up (bt_up μ2 238 0 0) 239 0 65535 a k = μ1 a k := fun a k h1 h2 => by
    rw [bt_up_cell h1]
    by_cases e : a = 238
    · subst e
      rw [bt_upe]
      split
      · rw [z 238 k (by omega) (by omega)]
      · rw [q2 238 (by omega)]
    · rw [bt_up_cell e, q2 a h2]
  have row : bt_up (bt_up μ2 238 0 0) 239 0 65535 240 = μ2 240 := by
    rw [bt_up_cell (by omega), bt_up_cell (by omega)]
  refine hq _ (fun k hk => ?_) ?_ (by rw [bt_up_same]) (fun k hk => ?_) (fun a k h1 => ?_) (fun a k h1 h2 h3 h4 => ?_) (fun i hi k => ⟨(hn1 i hi k).1, ?_⟩)
  · rw [up2 207 _ (by omega) (by omega)]; exact p1 k hk
  · rw [row]
    have e1 : ∀ a, a ≠ 239 → a ≠ 240 → bt_up (bt_up μ2 238 0 0) 239 0 65535 a = μ1 a := fun a h1 h2 => funext (fun k => up2 a k h1 h2)
    rw [e1 214 (by omega) (by omega), e1 213 (by omega) (by omega), e1 216 (by omega) (by omega)]
    exact q1
  · rw [bt_up_ix hk, bt_up_cell (by omega), q2 239 (by omega)]; exact z 239 k (by omega) (by omega)
  · rw [up2 a k (by omega) (by omega)]; exact lo a k h1
  · rw [up2 a k h3 h4]; exact z a k h1 h2
  · rw [up2 i k (by omega) (by omega)]; exact z i k (by omega) (by omega)
