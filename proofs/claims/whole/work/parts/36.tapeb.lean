/-! Tape: its methods -/
theorem tk_nm_s (t : Nat → Int) (b k : Nat) : tk_nm t b (k + 1) = tk_nm t b k * 27 + (t (b + k) - 96) := rfl
theorem tk_nu_s (t : Nat → Int) (b k : Nat) : tk_nu t b (k + 1) = tk_nu t b k * 10 + (t (b + k) - 48) := rfl
def SpX7_isLetter : bt_Sp := fun As w Q => tX7_isLetter_0 bt_k0 Q [] (bt_loc 1 As) w
theorem mtX7_isLetter : bt_Met yX7_isLetter cX7_isLetter 1 (some .boolean) 1 [0] SpX7_isLetter := lfX7_isLetter
def SpX7_isDigit : bt_Sp := fun As w Q => tX7_isDigit_0 bt_k0 Q [] (bt_loc 1 As) w
theorem mtX7_isDigit : bt_Met yX7_isDigit cX7_isDigit 1 (some .boolean) 1 [0] SpX7_isDigit := lfX7_isDigit
def SpX7_isSign : bt_Sp := fun As w Q => tX7_isSign_0 bt_k0 Q [] (bt_loc 1 As) w
theorem mtX7_isSign : bt_Met yX7_isSign cX7_isSign 1 (some .boolean) 1 [0] SpX7_isSign := lfX7_isSign
def SpX7_longer : bt_Sp := fun As w Q => tX7_longer_0 bt_k0 Q [] (bt_loc 3 As) w
theorem mtX7_longer : bt_Met yX7_longer cX7_longer 3 (some .long) 1 [1, 0] SpX7_longer := lfX7_longer
def SpX7_empty : bt_Sp := fun As w Q => tX7_empty_0 bt_k0 Q [] (bt_loc 1 As) w
theorem mtX7_empty : bt_Met yX7_empty cX7_empty 1 (some .int) 1 [2] SpX7_empty := lfX7_empty
def SpX7_fail : bt_Sp := fun As w Q => tX7_fail_0 bt_k0 Q [] (bt_loc 2 As) w
theorem mtX7_fail : bt_Met yX7_fail cX7_fail 2 (some .boolean) 1 [2, 0] SpX7_fail := lfX7_fail
def SpX7_isWord : bt_Sp := fun As w Q => tX7_isWord_0 bt_k0 Q [] (bt_loc 2 As) w
theorem mtX7_isWord : bt_Met yX7_isWord cX7_isWord 2 (some .boolean) 1 [2, 0] SpX7_isWord := lfX7_isWord
def SpX7_isName : bt_Sp := fun As w Q => tX7_isName_0 bt_k0 Q [] (bt_loc 1 As) w
theorem mtX7_isName : bt_Met yX7_isName cX7_isName 1 (some .boolean) 1 [2] SpX7_isName := lfX7_isName
theorem tk_L_call {x : Int} (h : 0 ≤ x ∧ x ≤ 1000) {w : bt_W} {Q : Option bt_V → bt_W → Prop} (hq : Q (some (.inl (if tk_L x then 1 else 0))) w) : SpX7_isLetter [.inl x] w Q := by
  simp (disch := omega) only [SpX7_isLetter, tX7_isLetter_0, tX7_isLetter_16, tX7_isLetter_17, bt_ild, bt_lld, bt_ald, bt_ist, bt_lst, bt_ast, bt_inc, bt_ic, bt_lc, bt_iadd, bt_isub, bt_imul, bt_iand, bt_ior, bt_ixor, bt_ishl, bt_ishr, bt_iushr, bt_ladd, bt_lsub, bt_lmul, bt_land, bt_lor, bt_lushr, bt_lshl, bt_idiv, bt_irem, bt_ldiv, bt_lrem, bt_lcmp, bt_i2l, bt_l2i, bt_i2b, bt_pop, bt_dup, bt_dup2, bt_gfI, bt_gfJ, bt_gfR, bt_pfI, bt_pfZ, bt_pfJ, bt_pfR, bt_ial, bt_bal, bt_zal, bt_lal, bt_aal, bt_ias, bt_bas, bt_zas, bt_las, bt_len, bt_iret, bt_zret, bt_lret, bt_vret, bt_cV, bt_cS, bt_tab, bt_tsw, bt_lk, bt_lsw, bt_acp, bt_mmax, bt_mmin, bt_can, bt_icmpeq, bt_ifeq, bt_icmpne, bt_ifne, bt_icmplt, bt_iflt, bt_icmpge, bt_ifge, bt_icmpgt, bt_ifgt, bt_icmple, bt_ifle, bt_ret, bt_kill, bt_kl, bt_ix, bt_nl, bt_sm, bt_sr, bt_sig, bt_tg, bt_loc, bt_locs, List.getElem?_cons_zero, List.getElem?_cons_succ, List.set_cons_zero, List.set_cons_succ, List.map_cons, List.map_nil, List.take_succ_cons, List.take_zero, List.drop_succ_cons, List.drop_zero, List.reverse_cons, List.reverse_nil, List.nil_append, List.cons_append, List.append_nil, List.length_cons, List.length_nil, List.replicate_succ, List.replicate_zero, Option.toList_some, Option.toList_none, Nat.reduceAdd, Nat.reduceSub, Nat.reduceLeDiff, Nat.zero_add, Nat.zero_le, true_and, and_true, Int.toNat_natCast, Sum.inl.injEq, Sum.inr.injEq, ↓reduceIte, Nat.reduceEqDiff, bt_w_id]
  unfold tk_L at hq
  grind
theorem tk_D_call {x : Int} (h : 0 ≤ x ∧ x ≤ 1000) {w : bt_W} {Q : Option bt_V → bt_W → Prop} (hq : Q (some (.inl (if tk_D x then 1 else 0))) w) : SpX7_isDigit [.inl x] w Q := by
  simp (disch := omega) only [SpX7_isDigit, tX7_isDigit_0, tX7_isDigit_16, tX7_isDigit_17, bt_ild, bt_lld, bt_ald, bt_ist, bt_lst, bt_ast, bt_inc, bt_ic, bt_lc, bt_iadd, bt_isub, bt_imul, bt_iand, bt_ior, bt_ixor, bt_ishl, bt_ishr, bt_iushr, bt_ladd, bt_lsub, bt_lmul, bt_land, bt_lor, bt_lushr, bt_lshl, bt_idiv, bt_irem, bt_ldiv, bt_lrem, bt_lcmp, bt_i2l, bt_l2i, bt_i2b, bt_pop, bt_dup, bt_dup2, bt_gfI, bt_gfJ, bt_gfR, bt_pfI, bt_pfZ, bt_pfJ, bt_pfR, bt_ial, bt_bal, bt_zal, bt_lal, bt_aal, bt_ias, bt_bas, bt_zas, bt_las, bt_len, bt_iret, bt_zret, bt_lret, bt_vret, bt_cV, bt_cS, bt_tab, bt_tsw, bt_lk, bt_lsw, bt_acp, bt_mmax, bt_mmin, bt_can, bt_icmpeq, bt_ifeq, bt_icmpne, bt_ifne, bt_icmplt, bt_iflt, bt_icmpge, bt_ifge, bt_icmpgt, bt_ifgt, bt_icmple, bt_ifle, bt_ret, bt_kill, bt_kl, bt_ix, bt_nl, bt_sm, bt_sr, bt_sig, bt_tg, bt_loc, bt_locs, List.getElem?_cons_zero, List.getElem?_cons_succ, List.set_cons_zero, List.set_cons_succ, List.map_cons, List.map_nil, List.take_succ_cons, List.take_zero, List.drop_succ_cons, List.drop_zero, List.reverse_cons, List.reverse_nil, List.nil_append, List.cons_append, List.append_nil, List.length_cons, List.length_nil, List.replicate_succ, List.replicate_zero, Option.toList_some, Option.toList_none, Nat.reduceAdd, Nat.reduceSub, Nat.reduceLeDiff, Nat.zero_add, Nat.zero_le, true_and, and_true, Int.toNat_natCast, Sum.inl.injEq, Sum.inr.injEq, ↓reduceIte, Nat.reduceEqDiff, bt_w_id]
  unfold tk_D at hq
  grind
theorem tk_S_call {x : Int} (h : 0 ≤ x ∧ x ≤ 1000) {w : bt_W} {Q : Option bt_V → bt_W → Prop} (hq : Q (some (.inl (if tk_S x then 1 else 0))) w) : SpX7_isSign [.inl x] w Q := by
  simp (disch := omega) only [SpX7_isSign, tX7_isSign_0, tX7_isSign_48, tX7_isSign_53, bt_ild, bt_lld, bt_ald, bt_ist, bt_lst, bt_ast, bt_inc, bt_ic, bt_lc, bt_iadd, bt_isub, bt_imul, bt_iand, bt_ior, bt_ixor, bt_ishl, bt_ishr, bt_iushr, bt_ladd, bt_lsub, bt_lmul, bt_land, bt_lor, bt_lushr, bt_lshl, bt_idiv, bt_irem, bt_ldiv, bt_lrem, bt_lcmp, bt_i2l, bt_l2i, bt_i2b, bt_pop, bt_dup, bt_dup2, bt_gfI, bt_gfJ, bt_gfR, bt_pfI, bt_pfZ, bt_pfJ, bt_pfR, bt_ial, bt_bal, bt_zal, bt_lal, bt_aal, bt_ias, bt_bas, bt_zas, bt_las, bt_len, bt_iret, bt_zret, bt_lret, bt_vret, bt_cV, bt_cS, bt_tab, bt_tsw, bt_lk, bt_lsw, bt_acp, bt_mmax, bt_mmin, bt_can, bt_icmpeq, bt_ifeq, bt_icmpne, bt_ifne, bt_icmplt, bt_iflt, bt_icmpge, bt_ifge, bt_icmpgt, bt_ifgt, bt_icmple, bt_ifle, bt_ret, bt_kill, bt_kl, bt_ix, bt_nl, bt_sm, bt_sr, bt_sig, bt_tg, bt_loc, bt_locs, List.getElem?_cons_zero, List.getElem?_cons_succ, List.set_cons_zero, List.set_cons_succ, List.map_cons, List.map_nil, List.take_succ_cons, List.take_zero, List.drop_succ_cons, List.drop_zero, List.reverse_cons, List.reverse_nil, List.nil_append, List.cons_append, List.append_nil, List.length_cons, List.length_nil, List.replicate_succ, List.replicate_zero, Option.toList_some, Option.toList_none, Nat.reduceAdd, Nat.reduceSub, Nat.reduceLeDiff, Nat.zero_add, Nat.zero_le, true_and, and_true, Int.toNat_natCast, Sum.inl.injEq, Sum.inr.injEq, ↓reduceIte, Nat.reduceEqDiff, bt_w_id]
  unfold tk_S at hq
  by_cases h1 : x = 40 ∨ x = 41 ∨ x = 60 ∨ x = 61 ∨ x = 43 ∨ x = 45 ∨ x = 42 ∨ x = 59
  · rw [if_pos (decide_eq_true h1)] at hq
    repeat' (split)
    all_goals first | exact ⟨by simp, hq⟩ | exact hq | (exfalso; omega)
  · rw [if_neg (by simpa using h1)] at hq
    simp only [not_or] at h1
    obtain ⟨a1, a2, a3, a4, a5, a6, a7, a8⟩ := h1
    simp only [a1, a2, a3, a4, a5, a6, a7, a8, ↓reduceIte]
    exact ⟨by simp, hq⟩
def SpX7_readWord : bt_Sp := fun As w Q => ∃ (ρ : Nat → Nat → Option Nat) (μ : Nat → Nat → Int) (t : Nat → Int) (n b : Nat), As = [.inr (.inr 1)] ∧ w = bt_wd ρ μ ∧ bt_Rf ρ ∧ bt_Tp μ t n ∧ b < n ∧ μ 1 4 = (b : Int) ∧ μ 1 5 = (b : Int) ∧ ∀ μ', μ' 1 5 = (tk_to tk_L t n b : Int) → μ' 1 6 = (if tk_to tk_L t n b - b ≤ 8 then 1 else 3) → μ' 1 7 = tk_nm t b (tk_to tk_L t n b - b) → μ' 1 8 = tk_wd (bt_wl (tk_nm t b (tk_to tk_L t n b - b))) → (∀ k, k < 5 → μ' 1 k = μ 1 k) → bt_fr (fun a => a = 1) μ' μ → Q none (bt_wd ρ μ')
def iX7_readWord (ρ : Nat → Nat → Option Nat) (μ : Nat → Nat → Int) (t : Nat → Int) (n b e : Nat) (h' m : Nat) : bt_K := fun st L w => st = [] ∧ ∃ (μ1 : Nat → Nat → Int), w = bt_wd ρ μ1 ∧ bt_fr (fun a => a = 1) μ1 μ ∧ (∀ k, k < 5 → μ1 1 k = μ 1 k) ∧
    (if h' = 5 then ∃ i : Nat, b ≤ i ∧ i ≤ n ∧ m = 100 + (n - i) ∧ L = [some (.inr (.inr 1)), none] ∧ μ1 1 5 = (i : Int) ∧ μ1 1 7 = tk_nm t b (i - b) ∧ tk_to tk_L t n i = e else ∃ i : Nat, i ≤ 30 ∧ m = 30 - i ∧ L = [some (.inr (.inr 1)), some (.inl (i : Int))] ∧ μ1 1 5 = (e : Int) ∧ μ1 1 6 = (if e - b ≤ 8 then 1 else 3) ∧ μ1 1 7 = tk_nm t b (e - b) ∧ μ1 1 8 = tw_ix (bt_wl (tk_nm t b (e - b))) i)
set_option maxHeartbeats 4000000 in
theorem mtX7_readWord : bt_Met yX7_readWord cX7_readWord 2 none 2 [2] SpX7_readWord := by
  refine lpX7_readWord mtX7_isLetter (by decide) mtX7_longer (by decide) _ (fun As w Q _ hS => ?_)
  obtain ⟨ρ, μ, t, n, b, rfl, rfl, hρ, ⟨hn, hn2, ht, htr, hw⟩, hb, h4, h5, hQ⟩ := hS
  generalize he : tk_to tk_L t n b = e at *
  have her := tk_to_rg (ok := tk_L) (t := t) (n := n) (p := b) (by omega)
  rw [he] at her
  refine ⟨iX7_readWord ρ μ t n b e, ?_, ?_, ?_⟩
  · simp (disch := omega) only [tX7_readWord_0, bt_ild, bt_lld, bt_ald, bt_ist, bt_lst, bt_ast, bt_inc, bt_ic, bt_lc, bt_iadd, bt_isub, bt_imul, bt_iand, bt_ior, bt_ixor, bt_ishl, bt_ishr, bt_iushr, bt_ladd, bt_lsub, bt_lmul, bt_land, bt_lor, bt_lushr, bt_lshl, bt_idiv, bt_irem, bt_ldiv, bt_lrem, bt_lcmp, bt_i2l, bt_l2i, bt_i2b, bt_pop, bt_dup, bt_dup2, bt_gfI, bt_gfJ, bt_gfR, bt_pfI, bt_pfZ, bt_pfJ, bt_pfR, bt_ial, bt_bal, bt_zal, bt_lal, bt_aal, bt_ias, bt_bas, bt_zas, bt_las, bt_len, bt_iret, bt_zret, bt_lret, bt_vret, bt_cV, bt_cS, bt_tab, bt_tsw, bt_lk, bt_lsw, bt_acp, bt_mmax, bt_mmin, bt_can, bt_icmpeq, bt_ifeq, bt_icmpne, bt_ifne, bt_icmplt, bt_iflt, bt_icmpge, bt_ifge, bt_icmpgt, bt_ifgt, bt_icmple, bt_ifle, bt_ret, bt_kill, bt_kl, bt_ix, bt_nl, bt_sm, bt_sr, bt_sig, bt_tg, bt_loc, bt_locs, List.getElem?_cons_zero, List.getElem?_cons_succ, List.set_cons_zero, List.set_cons_succ, List.map_cons, List.map_nil, List.take_succ_cons, List.take_zero, List.drop_succ_cons, List.drop_zero, List.reverse_cons, List.reverse_nil, List.nil_append, List.cons_append, List.append_nil, List.length_cons, List.length_nil, List.replicate_succ, List.replicate_zero, Option.toList_some, Option.toList_none, Nat.reduceAdd, Nat.reduceSub, Nat.reduceLeDiff, Nat.zero_add, Nat.zero_le, true_and, and_true, Int.toNat_natCast, Sum.inl.injEq, Sum.inr.injEq, ↓reduceIte, Nat.reduceEqDiff, sh_1]
    repeat (refine And.intro (by omega) ?_)
    refine ⟨100 + (n - b), rfl, _, rfl, fun a ha => bt_up_cell ha, fun k hk => bt_up_ix (by omega), b, by omega, by omega, rfl, rfl, ?_, ?_, he⟩
    · rw [bt_up_ix (by decide)]; exact h5
    · rw [bt_up_same, Nat.sub_self]; rfl
  · rintro m st L w ⟨rfl, μ1, rfl, hfr, hk5, i, hi1, hi2, rfl, rfl, g5, g7, ge⟩
    have c2 : μ1 2 = t := by rw [hfr 2 (by decide)]; exact ht
    have k2 : μ1 1 2 = (n : Int) := by rw [hk5 2 (by omega)]; exact hn
    have k4 : μ1 1 4 = (b : Int) := by rw [hk5 4 (by omega)]; exact h4
    have last : i = e → tX7_readWord_64 SpX7_isLetter SpX7_longer (fun h st L w => ∃ m', m' < 100 + (n - i) ∧ iX7_readWord ρ μ t n b e h m' st L w) Q [] [some (.inr (.inr 1)), none] (bt_wd ρ μ1) := by
      intro hie
      subst hie
      simp (disch := omega) only [tX7_readWord_64, tX7_readWord_84, bt_ild, bt_lld, bt_ald, bt_ist, bt_lst, bt_ast, bt_inc, bt_ic, bt_lc, bt_iadd, bt_isub, bt_imul, bt_iand, bt_ior, bt_ixor, bt_ishl, bt_ishr, bt_iushr, bt_ladd, bt_lsub, bt_lmul, bt_land, bt_lor, bt_lushr, bt_lshl, bt_idiv, bt_irem, bt_ldiv, bt_lrem, bt_lcmp, bt_i2l, bt_l2i, bt_i2b, bt_pop, bt_dup, bt_dup2, bt_gfI, bt_gfJ, bt_gfR, bt_pfI, bt_pfZ, bt_pfJ, bt_pfR, bt_ial, bt_bal, bt_zal, bt_lal, bt_aal, bt_ias, bt_bas, bt_zas, bt_las, bt_len, bt_iret, bt_zret, bt_lret, bt_vret, bt_cV, bt_cS, bt_tab, bt_tsw, bt_lk, bt_lsw, bt_acp, bt_mmax, bt_mmin, bt_can, bt_icmpeq, bt_ifeq, bt_icmpne, bt_ifne, bt_icmplt, bt_iflt, bt_icmpge, bt_ifge, bt_icmpgt, bt_ifgt, bt_icmple, bt_ifle, bt_ret, bt_kill, bt_kl, bt_ix, bt_nl, bt_sm, bt_sr, bt_sig, bt_tg, bt_loc, bt_locs, List.getElem?_cons_zero, List.getElem?_cons_succ, List.set_cons_zero, List.set_cons_succ, List.map_cons, List.map_nil, List.take_succ_cons, List.take_zero, List.drop_succ_cons, List.drop_zero, List.reverse_cons, List.reverse_nil, List.nil_append, List.cons_append, List.append_nil, List.length_cons, List.length_nil, List.replicate_succ, List.replicate_zero, Option.toList_some, Option.toList_none, Nat.reduceAdd, Nat.reduceSub, Nat.reduceLeDiff, Nat.zero_add, Nat.zero_le, true_and, and_true, Int.toNat_natCast, Sum.inl.injEq, Sum.inr.injEq, ↓reduceIte, Nat.reduceEqDiff, sh_1, g5, k4, bt_w_id]
      repeat (refine And.intro (by omega) ?_)
      have fin : ∀ x : Int, x = (if i - b ≤ 8 then 1 else 3) → iX7_readWord ρ μ t n b i 94 30 [] [some (.inr (.inr 1)), some (.inl 0)] (bt_wd ρ (bt_up (bt_up μ1 1 6 x) 1 8 (-1))) := by
        intro x hx
        refine ⟨rfl, _, rfl, fun a ha => ?_, fun k hk => ?_, 0, by omega, rfl, rfl, ?_, ?_, ?_, ?_⟩
        · rw [bt_up_cell ha, bt_up_cell ha]; exact hfr a ha
        · rw [bt_up_ix (by omega), bt_up_ix (by omega)]; exact hk5 k hk
        · rw [bt_up_ix (by decide), bt_up_ix (by decide)]; exact g5
        · rw [bt_up_ix (by decide), bt_up_same]; exact hx
        · rw [bt_up_ix (by decide), bt_up_ix (by decide)]; exact g7
        · rw [bt_up_same]; rfl
      by_cases h8 : i - b ≤ 8
      · rw [if_neg (by omega)]
        exact ⟨by omega, by omega, 30, by omega, fin 1 (by rw [if_pos h8])⟩
      · rw [if_pos (by omega)]
        exact ⟨by omega, by omega, 30, by omega, fin 3 (by rw [if_neg h8])⟩
    simp (disch := omega) only [tX7_readWord_5, bt_ild, bt_lld, bt_ald, bt_ist, bt_lst, bt_ast, bt_inc, bt_ic, bt_lc, bt_iadd, bt_isub, bt_imul, bt_iand, bt_ior, bt_ixor, bt_ishl, bt_ishr, bt_iushr, bt_ladd, bt_lsub, bt_lmul, bt_land, bt_lor, bt_lushr, bt_lshl, bt_idiv, bt_irem, bt_ldiv, bt_lrem, bt_lcmp, bt_i2l, bt_l2i, bt_i2b, bt_pop, bt_dup, bt_dup2, bt_gfI, bt_gfJ, bt_gfR, bt_pfI, bt_pfZ, bt_pfJ, bt_pfR, bt_ial, bt_bal, bt_zal, bt_lal, bt_aal, bt_ias, bt_bas, bt_zas, bt_las, bt_len, bt_iret, bt_zret, bt_lret, bt_vret, bt_cV, bt_cS, bt_tab, bt_tsw, bt_lk, bt_lsw, bt_acp, bt_mmax, bt_mmin, bt_can, bt_icmpeq, bt_ifeq, bt_icmpne, bt_ifne, bt_icmplt, bt_iflt, bt_icmpge, bt_ifge, bt_icmpgt, bt_ifgt, bt_icmple, bt_ifle, bt_ret, bt_kill, bt_kl, bt_ix, bt_nl, bt_sm, bt_sr, bt_sig, bt_tg, bt_loc, bt_locs, List.getElem?_cons_zero, List.getElem?_cons_succ, List.set_cons_zero, List.set_cons_succ, List.map_cons, List.map_nil, List.take_succ_cons, List.take_zero, List.drop_succ_cons, List.drop_zero, List.reverse_cons, List.reverse_nil, List.nil_append, List.cons_append, List.append_nil, List.length_cons, List.length_nil, List.replicate_succ, List.replicate_zero, Option.toList_some, Option.toList_none, Nat.reduceAdd, Nat.reduceSub, Nat.reduceLeDiff, Nat.zero_add, Nat.zero_le, true_and, and_true, Int.toNat_natCast, Sum.inl.injEq, Sum.inr.injEq, ↓reduceIte, Nat.reduceEqDiff, sh_1, g5, k2, bt_w_id]
    repeat (refine And.intro (by omega) ?_)
    by_cases hc : n ≤ i
    · rw [if_pos (by omega)]
      exact last (by rw [← ge, tk_to_stop (fun h => by omega)])
    · rw [if_neg (by omega)]
      have hti := htr i (by omega)
      simp (disch := omega) only [bt_ild, bt_lld, bt_ald, bt_ist, bt_lst, bt_ast, bt_inc, bt_ic, bt_lc, bt_iadd, bt_isub, bt_imul, bt_iand, bt_ior, bt_ixor, bt_ishl, bt_ishr, bt_iushr, bt_ladd, bt_lsub, bt_lmul, bt_land, bt_lor, bt_lushr, bt_lshl, bt_idiv, bt_irem, bt_ldiv, bt_lrem, bt_lcmp, bt_i2l, bt_l2i, bt_i2b, bt_pop, bt_dup, bt_dup2, bt_gfI, bt_gfJ, bt_gfR, bt_pfI, bt_pfZ, bt_pfJ, bt_pfR, bt_ial, bt_bal, bt_zal, bt_lal, bt_aal, bt_ias, bt_bas, bt_zas, bt_las, bt_len, bt_iret, bt_zret, bt_lret, bt_vret, bt_cV, bt_cS, bt_tab, bt_tsw, bt_lk, bt_lsw, bt_acp, bt_mmax, bt_mmin, bt_can, bt_icmpeq, bt_ifeq, bt_icmpne, bt_ifne, bt_icmplt, bt_iflt, bt_icmpge, bt_ifge, bt_icmpgt, bt_ifgt, bt_icmple, bt_ifle, bt_ret, bt_kill, bt_kl, bt_ix, bt_nl, bt_sm, bt_sr, bt_sig, bt_tg, bt_loc, bt_locs, List.getElem?_cons_zero, List.getElem?_cons_succ, List.set_cons_zero, List.set_cons_succ, List.map_cons, List.map_nil, List.take_succ_cons, List.take_zero, List.drop_succ_cons, List.drop_zero, List.reverse_cons, List.reverse_nil, List.nil_append, List.cons_append, List.append_nil, List.length_cons, List.length_nil, List.replicate_succ, List.replicate_zero, Option.toList_some, Option.toList_none, Nat.reduceAdd, Nat.reduceSub, Nat.reduceLeDiff, Nat.zero_add, Nat.zero_le, true_and, and_true, Int.toNat_natCast, Sum.inl.injEq, Sum.inr.injEq, ↓reduceIte, Nat.reduceEqDiff, sh_2, hρ 1 _ (by decide), rf_1_0, g5, c2, bt_w_id]
      repeat (refine And.intro (by omega) ?_)
      refine tk_L_call (by omega) ?_
      simp (disch := omega) only [bt_ild, bt_lld, bt_ald, bt_ist, bt_lst, bt_ast, bt_inc, bt_ic, bt_lc, bt_iadd, bt_isub, bt_imul, bt_iand, bt_ior, bt_ixor, bt_ishl, bt_ishr, bt_iushr, bt_ladd, bt_lsub, bt_lmul, bt_land, bt_lor, bt_lushr, bt_lshl, bt_idiv, bt_irem, bt_ldiv, bt_lrem, bt_lcmp, bt_i2l, bt_l2i, bt_i2b, bt_pop, bt_dup, bt_dup2, bt_gfI, bt_gfJ, bt_gfR, bt_pfI, bt_pfZ, bt_pfJ, bt_pfR, bt_ial, bt_bal, bt_zal, bt_lal, bt_aal, bt_ias, bt_bas, bt_zas, bt_las, bt_len, bt_iret, bt_zret, bt_lret, bt_vret, bt_cV, bt_cS, bt_tab, bt_tsw, bt_lk, bt_lsw, bt_acp, bt_mmax, bt_mmin, bt_can, bt_icmpeq, bt_ifeq, bt_icmpne, bt_ifne, bt_icmplt, bt_iflt, bt_icmpge, bt_ifge, bt_icmpgt, bt_ifgt, bt_icmple, bt_ifle, bt_ret, bt_kill, bt_kl, bt_ix, bt_nl, bt_sm, bt_sr, bt_sig, bt_tg, bt_loc, bt_locs, List.getElem?_cons_zero, List.getElem?_cons_succ, List.set_cons_zero, List.set_cons_succ, List.map_cons, List.map_nil, List.take_succ_cons, List.take_zero, List.drop_succ_cons, List.drop_zero, List.reverse_cons, List.reverse_nil, List.nil_append, List.cons_append, List.append_nil, List.length_cons, List.length_nil, List.replicate_succ, List.replicate_zero, Option.toList_some, Option.toList_none, Nat.reduceAdd, Nat.reduceSub, Nat.reduceLeDiff, Nat.zero_add, Nat.zero_le, true_and, and_true, Int.toNat_natCast, Sum.inl.injEq, Sum.inr.injEq, ↓reduceIte, Nat.reduceEqDiff]
      by_cases hl : tk_L (t i) = true
      · rw [if_pos hl]
        simp (disch := omega) only [bt_w_id, ↓reduceIte, Int.reduceEq]
        have hl2 := hl
        unfold tk_L at hl2
        have hl2 := of_decide_eq_true hl2
        have ei : bo_i2l (t i - 97 + 1) = t i - 96 := by
          obtain ⟨x, hx⟩ : ∃ x : Nat, t i - 97 + 1 = (x : Int) := ⟨(t i - 96).toNat, by omega⟩
          rw [hx, bo_i2l_nat (by omega)]
          omega
        simp (disch := omega) only [bt_ild, bt_lld, bt_ald, bt_ist, bt_lst, bt_ast, bt_inc, bt_ic, bt_lc, bt_iadd, bt_isub, bt_imul, bt_iand, bt_ior, bt_ixor, bt_ishl, bt_ishr, bt_iushr, bt_ladd, bt_lsub, bt_lmul, bt_land, bt_lor, bt_lushr, bt_lshl, bt_idiv, bt_irem, bt_ldiv, bt_lrem, bt_lcmp, bt_i2l, bt_l2i, bt_i2b, bt_pop, bt_dup, bt_dup2, bt_gfI, bt_gfJ, bt_gfR, bt_pfI, bt_pfZ, bt_pfJ, bt_pfR, bt_ial, bt_bal, bt_zal, bt_lal, bt_aal, bt_ias, bt_bas, bt_zas, bt_las, bt_len, bt_iret, bt_zret, bt_lret, bt_vret, bt_cV, bt_cS, bt_tab, bt_tsw, bt_lk, bt_lsw, bt_acp, bt_mmax, bt_mmin, bt_can, bt_icmpeq, bt_ifeq, bt_icmpne, bt_ifne, bt_icmplt, bt_iflt, bt_icmpge, bt_ifge, bt_icmpgt, bt_ifgt, bt_icmple, bt_ifle, bt_ret, bt_kill, bt_kl, bt_ix, bt_nl, bt_sm, bt_sr, bt_sig, bt_tg, bt_loc, bt_locs, List.getElem?_cons_zero, List.getElem?_cons_succ, List.set_cons_zero, List.set_cons_succ, List.map_cons, List.map_nil, List.take_succ_cons, List.take_zero, List.drop_succ_cons, List.drop_zero, List.reverse_cons, List.reverse_nil, List.nil_append, List.cons_append, List.append_nil, List.length_cons, List.length_nil, List.replicate_succ, List.replicate_zero, Option.toList_some, Option.toList_none, Nat.reduceAdd, Nat.reduceSub, Nat.reduceLeDiff, Nat.zero_add, Nat.zero_le, true_and, and_true, Int.toNat_natCast, Sum.inl.injEq, Sum.inr.injEq, ↓reduceIte, Nat.reduceEqDiff, SpX7_longer, tX7_longer_0, sh_1, sh_2, hρ 1 _ (by decide), rf_1_0, g5, g7, c2, ei, bt_w_id]
        repeat (refine And.intro (by omega) ?_)
        refine ⟨100 + (n - (i + 1)), by omega, rfl, _, rfl, fun a ha => ?_, fun k hk => ?_, i + 1, by omega, by omega, rfl, rfl, ?_, ?_, ?_⟩
        · rw [bt_up_cell ha, bt_up_cell ha]; exact hfr a ha
        · rw [bt_up_ix (by omega), bt_up_ix (by omega)]; exact hk5 k hk
        · rw [bt_up_same, bt_up_ix (by decide), g5]; rfl
        · rw [bt_up_ix (by decide), bt_up_same, show i + 1 - b = (i - b) + 1 by omega, tk_nm_s, show b + (i - b) = i by omega]
        · rw [← ge]; exact (tk_to_step (by omega) hl).symm
      · rw [if_neg hl]
        simp (disch := omega) only [bt_w_id, ↓reduceIte]
        exact last (by rw [← ge, tk_to_stop (fun _ => by simpa using hl)])
  · rintro m st L w ⟨rfl, μ1, rfl, hfr, hk5, i, hi, rfl, rfl, g5, g6, g7, g8⟩
    have c3 : ∀ j, j < 30 → μ1 3 j = tw j := fun j hj => by rw [hfr 3 (by decide)]; exact hw j hj
    simp (disch := omega) only [tX7_readWord_94, tX7_readWord_119, bt_ild, bt_lld, bt_ald, bt_ist, bt_lst, bt_ast, bt_inc, bt_ic, bt_lc, bt_iadd, bt_isub, bt_imul, bt_iand, bt_ior, bt_ixor, bt_ishl, bt_ishr, bt_iushr, bt_ladd, bt_lsub, bt_lmul, bt_land, bt_lor, bt_lushr, bt_lshl, bt_idiv, bt_irem, bt_ldiv, bt_lrem, bt_lcmp, bt_i2l, bt_l2i, bt_i2b, bt_pop, bt_dup, bt_dup2, bt_gfI, bt_gfJ, bt_gfR, bt_pfI, bt_pfZ, bt_pfJ, bt_pfR, bt_ial, bt_bal, bt_zal, bt_lal, bt_aal, bt_ias, bt_bas, bt_zas, bt_las, bt_len, bt_iret, bt_zret, bt_lret, bt_vret, bt_cV, bt_cS, bt_tab, bt_tsw, bt_lk, bt_lsw, bt_acp, bt_mmax, bt_mmin, bt_can, bt_icmpeq, bt_ifeq, bt_icmpne, bt_ifne, bt_icmplt, bt_iflt, bt_icmpge, bt_ifge, bt_icmpgt, bt_ifgt, bt_icmple, bt_ifle, bt_ret, bt_kill, bt_kl, bt_ix, bt_nl, bt_sm, bt_sr, bt_sig, bt_tg, bt_loc, bt_locs, List.getElem?_cons_zero, List.getElem?_cons_succ, List.set_cons_zero, List.set_cons_succ, List.map_cons, List.map_nil, List.take_succ_cons, List.take_zero, List.drop_succ_cons, List.drop_zero, List.reverse_cons, List.reverse_nil, List.nil_append, List.cons_append, List.append_nil, List.length_cons, List.length_nil, List.replicate_succ, List.replicate_zero, Option.toList_some, Option.toList_none, Nat.reduceAdd, Nat.reduceSub, Nat.reduceLeDiff, Nat.zero_add, Nat.zero_le, true_and, and_true, Int.toNat_natCast, Sum.inl.injEq, Sum.inr.injEq, ↓reduceIte, Nat.reduceEqDiff, sh_1, sh_3, hρ 1 _ (by decide), rf_1_1, bt_w_id]
    by_cases hc : 30 ≤ i
    · rw [if_pos (by omega)]
      have : i = 30 := by omega
      subst this
      exact hQ μ1 g5 g6 g7 g8 hk5 hfr
    · rw [if_neg (by omega)]
      repeat (refine And.intro (by omega) ?_)
      rw [c3 i (by omega), g7]
      have hwi := tw_rg i (by omega)
      have e1 : bt_wl (tw i) = tw i := bt_wl_id (by omega) (by omega)
      by_cases hq : tw i = bt_wl (tk_nm t b (e - b))
      · rw [if_pos (by rw [bo_lcmp0, e1]; exact hq)]
        refine ⟨by omega, 30 - (i + 1), by omega, rfl, _, rfl, fun a ha => ?_, fun k hk => ?_, i + 1, by omega, rfl, rfl, ?_, ?_, ?_, ?_⟩
        · rw [bt_up_cell ha]; exact hfr a ha
        · rw [bt_up_ix (by omega)]; exact hk5 k hk
        · rw [bt_up_ix (by decide)]; exact g5
        · rw [bt_up_ix (by decide)]; exact g6
        · rw [bt_up_ix (by decide)]; exact g7
        · rw [bt_up_same]
          unfold tw_ix
          rw [if_pos hq]
      · rw [if_neg (by rw [bo_lcmp0, e1]; exact hq)]
        refine ⟨30 - (i + 1), by omega, rfl, _, rfl, hfr, hk5, i + 1, by omega, rfl, rfl, g5, g6, g7, ?_⟩
        rw [g8]
        conv => rhs; unfold tw_ix
        rw [if_neg hq]
def SpX7_readNumber : bt_Sp := fun As w Q => ∃ (ρ : Nat → Nat → Option Nat) (μ : Nat → Nat → Int) (t : Nat → Int) (n b : Nat), As = [.inr (.inr 1)] ∧ w = bt_wd ρ μ ∧ bt_Rf ρ ∧ bt_Tp μ t n ∧ b < n ∧ μ 1 4 = (b : Int) ∧ μ 1 5 = (b : Int) ∧ ∀ μ', μ' 1 5 = (tk_to tk_D t n b : Int) → μ' 1 6 = (if tk_to tk_D t n b - b ≤ 4 then 2 else 3) → μ' 1 9 = tk_nu t b (tk_to tk_D t n b - b) → (∀ k, k < 5 → μ' 1 k = μ 1 k) → bt_fr (fun a => a = 1) μ' μ → Q none (bt_wd ρ μ')
def iX7_readNumber (ρ : Nat → Nat → Option Nat) (μ : Nat → Nat → Int) (t : Nat → Int) (n b e : Nat) (_h' m : Nat) : bt_K := fun st L w => st = [] ∧ ∃ (μ1 : Nat → Nat → Int), w = bt_wd ρ μ1 ∧ bt_fr (fun a => a = 1) μ1 μ ∧ (∀ k, k < 5 → μ1 1 k = μ 1 k) ∧ ∃ i : Nat, b ≤ i ∧ i ≤ n ∧ m = n - i ∧ L = [some (.inr (.inr 1))] ∧ μ1 1 5 = (i : Int) ∧ μ1 1 9 = tk_nu t b (i - b) ∧ tk_to tk_D t n i = e
set_option maxHeartbeats 4000000 in
theorem mtX7_readNumber : bt_Met yX7_readNumber cX7_readNumber 1 none 2 [2] SpX7_readNumber := by
  refine lpX7_readNumber mtX7_isDigit (by decide) _ (fun As w Q _ hS => ?_)
  obtain ⟨ρ, μ, t, n, b, rfl, rfl, hρ, ⟨hn, hn2, ht, htr, hw⟩, hb, h4, h5, hQ⟩ := hS
  generalize he : tk_to tk_D t n b = e at *
  have her := tk_to_rg (ok := tk_D) (t := t) (n := n) (p := b) (by omega)
  rw [he] at her
  refine ⟨iX7_readNumber ρ μ t n b e, ?_, ?_⟩
  · simp (disch := omega) only [tX7_readNumber_0, bt_ild, bt_lld, bt_ald, bt_ist, bt_lst, bt_ast, bt_inc, bt_ic, bt_lc, bt_iadd, bt_isub, bt_imul, bt_iand, bt_ior, bt_ixor, bt_ishl, bt_ishr, bt_iushr, bt_ladd, bt_lsub, bt_lmul, bt_land, bt_lor, bt_lushr, bt_lshl, bt_idiv, bt_irem, bt_ldiv, bt_lrem, bt_lcmp, bt_i2l, bt_l2i, bt_i2b, bt_pop, bt_dup, bt_dup2, bt_gfI, bt_gfJ, bt_gfR, bt_pfI, bt_pfZ, bt_pfJ, bt_pfR, bt_ial, bt_bal, bt_zal, bt_lal, bt_aal, bt_ias, bt_bas, bt_zas, bt_las, bt_len, bt_iret, bt_zret, bt_lret, bt_vret, bt_cV, bt_cS, bt_tab, bt_tsw, bt_lk, bt_lsw, bt_acp, bt_mmax, bt_mmin, bt_can, bt_icmpeq, bt_ifeq, bt_icmpne, bt_ifne, bt_icmplt, bt_iflt, bt_icmpge, bt_ifge, bt_icmpgt, bt_ifgt, bt_icmple, bt_ifle, bt_ret, bt_kill, bt_kl, bt_ix, bt_nl, bt_sm, bt_sr, bt_sig, bt_tg, bt_loc, bt_locs, List.getElem?_cons_zero, List.getElem?_cons_succ, List.set_cons_zero, List.set_cons_succ, List.map_cons, List.map_nil, List.take_succ_cons, List.take_zero, List.drop_succ_cons, List.drop_zero, List.reverse_cons, List.reverse_nil, List.nil_append, List.cons_append, List.append_nil, List.length_cons, List.length_nil, List.replicate_succ, List.replicate_zero, Option.toList_some, Option.toList_none, Nat.reduceAdd, Nat.reduceSub, Nat.reduceLeDiff, Nat.zero_add, Nat.zero_le, true_and, and_true, Int.toNat_natCast, Sum.inl.injEq, Sum.inr.injEq, ↓reduceIte, Nat.reduceEqDiff, sh_1]
    repeat (refine And.intro (by omega) ?_)
    refine ⟨n - b, rfl, _, rfl, fun a ha => bt_up_cell ha, fun k hk => bt_up_ix (by omega), b, by omega, by omega, rfl, rfl, ?_, ?_, he⟩
    · rw [bt_up_ix (by decide)]; exact h5
    · rw [bt_up_same, Nat.sub_self]; rfl
  · rintro m st L w ⟨rfl, μ1, rfl, hfr, hk5, i, hi1, hi2, rfl, rfl, g5, g9, ge⟩
    have c2 : μ1 2 = t := by rw [hfr 2 (by decide)]; exact ht
    have k2 : μ1 1 2 = (n : Int) := by rw [hk5 2 (by omega)]; exact hn
    have k4 : μ1 1 4 = (b : Int) := by rw [hk5 4 (by omega)]; exact h4
    have last : i = e → tX7_readNumber_68 SpX7_isDigit (fun h st L w => ∃ m', m' < n - i ∧ iX7_readNumber ρ μ t n b e h m' st L w) Q [] [some (.inr (.inr 1))] (bt_wd ρ μ1) := by
      intro hie
      subst hie
      simp (disch := omega) only [tX7_readNumber_68, tX7_readNumber_87, bt_ild, bt_lld, bt_ald, bt_ist, bt_lst, bt_ast, bt_inc, bt_ic, bt_lc, bt_iadd, bt_isub, bt_imul, bt_iand, bt_ior, bt_ixor, bt_ishl, bt_ishr, bt_iushr, bt_ladd, bt_lsub, bt_lmul, bt_land, bt_lor, bt_lushr, bt_lshl, bt_idiv, bt_irem, bt_ldiv, bt_lrem, bt_lcmp, bt_i2l, bt_l2i, bt_i2b, bt_pop, bt_dup, bt_dup2, bt_gfI, bt_gfJ, bt_gfR, bt_pfI, bt_pfZ, bt_pfJ, bt_pfR, bt_ial, bt_bal, bt_zal, bt_lal, bt_aal, bt_ias, bt_bas, bt_zas, bt_las, bt_len, bt_iret, bt_zret, bt_lret, bt_vret, bt_cV, bt_cS, bt_tab, bt_tsw, bt_lk, bt_lsw, bt_acp, bt_mmax, bt_mmin, bt_can, bt_icmpeq, bt_ifeq, bt_icmpne, bt_ifne, bt_icmplt, bt_iflt, bt_icmpge, bt_ifge, bt_icmpgt, bt_ifgt, bt_icmple, bt_ifle, bt_ret, bt_kill, bt_kl, bt_ix, bt_nl, bt_sm, bt_sr, bt_sig, bt_tg, bt_loc, bt_locs, List.getElem?_cons_zero, List.getElem?_cons_succ, List.set_cons_zero, List.set_cons_succ, List.map_cons, List.map_nil, List.take_succ_cons, List.take_zero, List.drop_succ_cons, List.drop_zero, List.reverse_cons, List.reverse_nil, List.nil_append, List.cons_append, List.append_nil, List.length_cons, List.length_nil, List.replicate_succ, List.replicate_zero, Option.toList_some, Option.toList_none, Nat.reduceAdd, Nat.reduceSub, Nat.reduceLeDiff, Nat.zero_add, Nat.zero_le, true_and, and_true, Int.toNat_natCast, Sum.inl.injEq, Sum.inr.injEq, ↓reduceIte, Nat.reduceEqDiff, sh_1, g5, k4, bt_w_id]
      repeat (refine And.intro (by omega) ?_)
      have fin : ∀ x : Int, x = (if i - b ≤ 4 then 2 else 3) → Q none (bt_wd ρ (bt_up μ1 1 6 x)) := by
        intro x hx
        refine hQ _ ?_ ?_ ?_ (fun k hk => ?_) (fun a ha => ?_)
        · rw [bt_up_ix (by decide)]; exact g5
        · rw [bt_up_same]; exact hx
        · rw [bt_up_ix (by decide)]; exact g9
        · rw [bt_up_ix (by omega)]; exact hk5 k hk
        · rw [bt_up_cell ha]; exact hfr a ha
      by_cases h8 : i - b ≤ 4
      · rw [if_neg (by omega)]
        exact ⟨by omega, fin 2 (by rw [if_pos h8])⟩
      · rw [if_pos (by omega)]
        exact ⟨by omega, fin 3 (by rw [if_neg h8])⟩
    simp (disch := omega) only [tX7_readNumber_5, bt_ild, bt_lld, bt_ald, bt_ist, bt_lst, bt_ast, bt_inc, bt_ic, bt_lc, bt_iadd, bt_isub, bt_imul, bt_iand, bt_ior, bt_ixor, bt_ishl, bt_ishr, bt_iushr, bt_ladd, bt_lsub, bt_lmul, bt_land, bt_lor, bt_lushr, bt_lshl, bt_idiv, bt_irem, bt_ldiv, bt_lrem, bt_lcmp, bt_i2l, bt_l2i, bt_i2b, bt_pop, bt_dup, bt_dup2, bt_gfI, bt_gfJ, bt_gfR, bt_pfI, bt_pfZ, bt_pfJ, bt_pfR, bt_ial, bt_bal, bt_zal, bt_lal, bt_aal, bt_ias, bt_bas, bt_zas, bt_las, bt_len, bt_iret, bt_zret, bt_lret, bt_vret, bt_cV, bt_cS, bt_tab, bt_tsw, bt_lk, bt_lsw, bt_acp, bt_mmax, bt_mmin, bt_can, bt_icmpeq, bt_ifeq, bt_icmpne, bt_ifne, bt_icmplt, bt_iflt, bt_icmpge, bt_ifge, bt_icmpgt, bt_ifgt, bt_icmple, bt_ifle, bt_ret, bt_kill, bt_kl, bt_ix, bt_nl, bt_sm, bt_sr, bt_sig, bt_tg, bt_loc, bt_locs, List.getElem?_cons_zero, List.getElem?_cons_succ, List.set_cons_zero, List.set_cons_succ, List.map_cons, List.map_nil, List.take_succ_cons, List.take_zero, List.drop_succ_cons, List.drop_zero, List.reverse_cons, List.reverse_nil, List.nil_append, List.cons_append, List.append_nil, List.length_cons, List.length_nil, List.replicate_succ, List.replicate_zero, Option.toList_some, Option.toList_none, Nat.reduceAdd, Nat.reduceSub, Nat.reduceLeDiff, Nat.zero_add, Nat.zero_le, true_and, and_true, Int.toNat_natCast, Sum.inl.injEq, Sum.inr.injEq, ↓reduceIte, Nat.reduceEqDiff, sh_1, g5, k2, bt_w_id]
    repeat (refine And.intro (by omega) ?_)
    by_cases hc : n ≤ i
    · rw [if_pos (by omega)]
      exact last (by rw [← ge, tk_to_stop (fun h => by omega)])
    · rw [if_neg (by omega)]
      have hti := htr i (by omega)
      simp (disch := omega) only [bt_ild, bt_lld, bt_ald, bt_ist, bt_lst, bt_ast, bt_inc, bt_ic, bt_lc, bt_iadd, bt_isub, bt_imul, bt_iand, bt_ior, bt_ixor, bt_ishl, bt_ishr, bt_iushr, bt_ladd, bt_lsub, bt_lmul, bt_land, bt_lor, bt_lushr, bt_lshl, bt_idiv, bt_irem, bt_ldiv, bt_lrem, bt_lcmp, bt_i2l, bt_l2i, bt_i2b, bt_pop, bt_dup, bt_dup2, bt_gfI, bt_gfJ, bt_gfR, bt_pfI, bt_pfZ, bt_pfJ, bt_pfR, bt_ial, bt_bal, bt_zal, bt_lal, bt_aal, bt_ias, bt_bas, bt_zas, bt_las, bt_len, bt_iret, bt_zret, bt_lret, bt_vret, bt_cV, bt_cS, bt_tab, bt_tsw, bt_lk, bt_lsw, bt_acp, bt_mmax, bt_mmin, bt_can, bt_icmpeq, bt_ifeq, bt_icmpne, bt_ifne, bt_icmplt, bt_iflt, bt_icmpge, bt_ifge, bt_icmpgt, bt_ifgt, bt_icmple, bt_ifle, bt_ret, bt_kill, bt_kl, bt_ix, bt_nl, bt_sm, bt_sr, bt_sig, bt_tg, bt_loc, bt_locs, List.getElem?_cons_zero, List.getElem?_cons_succ, List.set_cons_zero, List.set_cons_succ, List.map_cons, List.map_nil, List.take_succ_cons, List.take_zero, List.drop_succ_cons, List.drop_zero, List.reverse_cons, List.reverse_nil, List.nil_append, List.cons_append, List.append_nil, List.length_cons, List.length_nil, List.replicate_succ, List.replicate_zero, Option.toList_some, Option.toList_none, Nat.reduceAdd, Nat.reduceSub, Nat.reduceLeDiff, Nat.zero_add, Nat.zero_le, true_and, and_true, Int.toNat_natCast, Sum.inl.injEq, Sum.inr.injEq, ↓reduceIte, Nat.reduceEqDiff, sh_2, hρ 1 _ (by decide), rf_1_0, g5, c2, bt_w_id]
      repeat (refine And.intro (by omega) ?_)
      refine tk_D_call (by omega) ?_
      simp (disch := omega) only [bt_ild, bt_lld, bt_ald, bt_ist, bt_lst, bt_ast, bt_inc, bt_ic, bt_lc, bt_iadd, bt_isub, bt_imul, bt_iand, bt_ior, bt_ixor, bt_ishl, bt_ishr, bt_iushr, bt_ladd, bt_lsub, bt_lmul, bt_land, bt_lor, bt_lushr, bt_lshl, bt_idiv, bt_irem, bt_ldiv, bt_lrem, bt_lcmp, bt_i2l, bt_l2i, bt_i2b, bt_pop, bt_dup, bt_dup2, bt_gfI, bt_gfJ, bt_gfR, bt_pfI, bt_pfZ, bt_pfJ, bt_pfR, bt_ial, bt_bal, bt_zal, bt_lal, bt_aal, bt_ias, bt_bas, bt_zas, bt_las, bt_len, bt_iret, bt_zret, bt_lret, bt_vret, bt_cV, bt_cS, bt_tab, bt_tsw, bt_lk, bt_lsw, bt_acp, bt_mmax, bt_mmin, bt_can, bt_icmpeq, bt_ifeq, bt_icmpne, bt_ifne, bt_icmplt, bt_iflt, bt_icmpge, bt_ifge, bt_icmpgt, bt_ifgt, bt_icmple, bt_ifle, bt_ret, bt_kill, bt_kl, bt_ix, bt_nl, bt_sm, bt_sr, bt_sig, bt_tg, bt_loc, bt_locs, List.getElem?_cons_zero, List.getElem?_cons_succ, List.set_cons_zero, List.set_cons_succ, List.map_cons, List.map_nil, List.take_succ_cons, List.take_zero, List.drop_succ_cons, List.drop_zero, List.reverse_cons, List.reverse_nil, List.nil_append, List.cons_append, List.append_nil, List.length_cons, List.length_nil, List.replicate_succ, List.replicate_zero, Option.toList_some, Option.toList_none, Nat.reduceAdd, Nat.reduceSub, Nat.reduceLeDiff, Nat.zero_add, Nat.zero_le, true_and, and_true, Int.toNat_natCast, Sum.inl.injEq, Sum.inr.injEq, ↓reduceIte, Nat.reduceEqDiff]
      by_cases hl : tk_D (t i) = true
      · rw [if_pos hl]
        simp (disch := omega) only [bt_w_id, ↓reduceIte, Int.reduceEq]
        simp (disch := omega) only [bt_ild, bt_lld, bt_ald, bt_ist, bt_lst, bt_ast, bt_inc, bt_ic, bt_lc, bt_iadd, bt_isub, bt_imul, bt_iand, bt_ior, bt_ixor, bt_ishl, bt_ishr, bt_iushr, bt_ladd, bt_lsub, bt_lmul, bt_land, bt_lor, bt_lushr, bt_lshl, bt_idiv, bt_irem, bt_ldiv, bt_lrem, bt_lcmp, bt_i2l, bt_l2i, bt_i2b, bt_pop, bt_dup, bt_dup2, bt_gfI, bt_gfJ, bt_gfR, bt_pfI, bt_pfZ, bt_pfJ, bt_pfR, bt_ial, bt_bal, bt_zal, bt_lal, bt_aal, bt_ias, bt_bas, bt_zas, bt_las, bt_len, bt_iret, bt_zret, bt_lret, bt_vret, bt_cV, bt_cS, bt_tab, bt_tsw, bt_lk, bt_lsw, bt_acp, bt_mmax, bt_mmin, bt_can, bt_icmpeq, bt_ifeq, bt_icmpne, bt_ifne, bt_icmplt, bt_iflt, bt_icmpge, bt_ifge, bt_icmpgt, bt_ifgt, bt_icmple, bt_ifle, bt_ret, bt_kill, bt_kl, bt_ix, bt_nl, bt_sm, bt_sr, bt_sig, bt_tg, bt_loc, bt_locs, List.getElem?_cons_zero, List.getElem?_cons_succ, List.set_cons_zero, List.set_cons_succ, List.map_cons, List.map_nil, List.take_succ_cons, List.take_zero, List.drop_succ_cons, List.drop_zero, List.reverse_cons, List.reverse_nil, List.nil_append, List.cons_append, List.append_nil, List.length_cons, List.length_nil, List.replicate_succ, List.replicate_zero, Option.toList_some, Option.toList_none, Nat.reduceAdd, Nat.reduceSub, Nat.reduceLeDiff, Nat.zero_add, Nat.zero_le, true_and, and_true, Int.toNat_natCast, Sum.inl.injEq, Sum.inr.injEq, ↓reduceIte, Nat.reduceEqDiff, sh_1, sh_2, hρ 1 _ (by decide), rf_1_0, g5, g9, c2, bt_w_id]
        repeat (refine And.intro (by omega) ?_)
        refine ⟨n - (i + 1), by omega, rfl, _, rfl, fun a ha => ?_, fun k hk => ?_, i + 1, by omega, by omega, rfl, rfl, ?_, ?_, ?_⟩
        · rw [bt_up_cell ha, bt_up_cell ha]; exact hfr a ha
        · rw [bt_up_ix (by omega), bt_up_ix (by omega)]; exact hk5 k hk
        · rw [bt_up_same, bt_up_ix (by decide), g5]; rfl
        · rw [bt_up_ix (by decide), bt_up_same, show i + 1 - b = (i - b) + 1 by omega, tk_nu_s, show b + (i - b) = i by omega]
        · rw [← ge]; exact (tk_to_step (by omega) hl).symm
      · rw [if_neg hl]
        simp (disch := omega) only [bt_w_id, ↓reduceIte]
        exact last (by rw [← ge, tk_to_stop (fun _ => by simpa using hl)])
/-- a step of the tape -/
def SpX7_step : bt_Sp := fun As w Q => ∃ (ρ : Nat → Nat → Option Nat) (μ : Nat → Nat → Int) (t : Nat → Int) (n p : Nat), As = [.inr (.inr 1)] ∧ w = bt_wd ρ μ ∧ bt_Rf ρ ∧ bt_Tp μ t n ∧ p ≤ n ∧ μ 1 5 = (p : Int) ∧ ∀ μ', bt_Tp μ' t n → bt_Tc μ' t n (tk_to tk_B t n p) → μ' 1 3 = μ 1 3 → bt_fr (fun a => a = 1) μ' μ → Q none (bt_wd ρ μ')
def iX7_step (ρ : Nat → Nat → Option Nat) (μ : Nat → Nat → Int) (t : Nat → Int) (n p e : Nat) (_h' m : Nat) : bt_K := fun st L w => st = [] ∧ ∃ (μ1 : Nat → Nat → Int), w = bt_wd ρ μ1 ∧ bt_fr (fun a => a = 1) μ1 μ ∧ (∀ k, k < 5 → μ1 1 k = μ 1 k) ∧ ∃ i : Nat, p ≤ i ∧ i ≤ n ∧ m = n - i ∧ L = [some (.inr (.inr 1))] ∧ μ1 1 5 = (i : Int) ∧ tk_to tk_B t n i = e
set_option maxHeartbeats 4000000 in
theorem mtX7_step : bt_Met yX7_step cX7_step 1 none 3 [2] SpX7_step := by
  refine lpX7_step mtX7_isLetter (by decide) mtX7_readWord (by decide) mtX7_isDigit (by decide) mtX7_readNumber (by decide) mtX7_isSign (by decide) _ (fun As w Q _ hS => ?_)
  obtain ⟨ρ, μ, t, n, p, rfl, rfl, hρ, ⟨hn, hn2, ht, htr, hw⟩, hp, h5, hQ⟩ := hS
  generalize he : tk_to tk_B t n p = e at *
  have her := tk_to_rg (ok := tk_B) (t := t) (n := n) (p := p) (by omega)
  rw [he] at her
  refine ⟨iX7_step ρ μ t n p e, ⟨n - p, rfl, μ, rfl, fun _ _ => rfl, fun _ _ => rfl, p, by omega, by omega, rfl, rfl, h5, he⟩, ?_⟩
  rintro m st L w ⟨rfl, μ1, rfl, hfr, hk5, i, hi1, hi2, rfl, rfl, g5, ge⟩
  have c2 : μ1 2 = t := by rw [hfr 2 (by decide)]; exact ht
  have c3 : ∀ i, i < 30 → μ1 3 i = tw i := fun j hj => by rw [hfr 3 (by decide)]; exact hw j hj
  have k2 : μ1 1 2 = (n : Int) := by rw [hk5 2 (by omega)]; exact hn
  have k3 : μ1 1 3 = μ 1 3 := hk5 3 (by omega)
  have last : i = e → tX7_step_52 SpX7_isLetter SpX7_readWord SpX7_isDigit SpX7_readNumber SpX7_isSign (fun h st L w => ∃ m', m' < n - i ∧ iX7_step ρ μ t n p e h m' st L w) Q [] [some (.inr (.inr 1))] (bt_wd ρ μ1) := by
    intro hie
    subst hie
    have Tp2 : ∀ μ2, μ2 1 2 = (n : Int) → (∀ a, a ≠ 1 → μ2 a = μ1 a) → bt_Tp μ2 t n := fun μ2 q1 q2 => ⟨q1, hn2, by rw [q2 2 (by decide)]; exact c2, htr, fun j hj => by rw [q2 3 (by decide)]; exact c3 j hj⟩
    have f4 : ∀ x a, a ≠ 1 → bt_up μ1 1 4 x a = μ1 a := fun x a ha => bt_up_cell ha
    have u4 : bt_up μ1 1 4 (i : Int) 1 4 = (i : Int) := bt_up_same _ _ _ _
    have u5 : bt_up μ1 1 4 (i : Int) 1 5 = (i : Int) := by rw [bt_up_ix (by decide)]; exact g5
    have u2 : bt_up μ1 1 4 (i : Int) 1 2 = (n : Int) := by rw [bt_up_ix (by decide)]; exact k2
    have u3 : bt_up μ1 1 4 (i : Int) 1 3 = μ 1 3 := by rw [bt_up_ix (by decide)]; exact k3
    have c2' : bt_up μ1 1 4 (i : Int) 2 = t := by rw [f4 _ 2 (by decide)]; exact c2
    simp (disch := omega) only [tX7_step_52, tX7_step_165, tX7_step_152, bt_ild, bt_lld, bt_ald, bt_ist, bt_lst, bt_ast, bt_inc, bt_ic, bt_lc, bt_iadd, bt_isub, bt_imul, bt_iand, bt_ior, bt_ixor, bt_ishl, bt_ishr, bt_iushr, bt_ladd, bt_lsub, bt_lmul, bt_land, bt_lor, bt_lushr, bt_lshl, bt_idiv, bt_irem, bt_ldiv, bt_lrem, bt_lcmp, bt_i2l, bt_l2i, bt_i2b, bt_pop, bt_dup, bt_dup2, bt_gfI, bt_gfJ, bt_gfR, bt_pfI, bt_pfZ, bt_pfJ, bt_pfR, bt_ial, bt_bal, bt_zal, bt_lal, bt_aal, bt_ias, bt_bas, bt_zas, bt_las, bt_len, bt_iret, bt_zret, bt_lret, bt_vret, bt_cV, bt_cS, bt_tab, bt_tsw, bt_lk, bt_lsw, bt_acp, bt_mmax, bt_mmin, bt_can, bt_icmpeq, bt_ifeq, bt_icmpne, bt_ifne, bt_icmplt, bt_iflt, bt_icmpge, bt_ifge, bt_icmpgt, bt_ifgt, bt_icmple, bt_ifle, bt_ret, bt_kill, bt_kl, bt_ix, bt_nl, bt_sm, bt_sr, bt_sig, bt_tg, bt_loc, bt_locs, List.getElem?_cons_zero, List.getElem?_cons_succ, List.set_cons_zero, List.set_cons_succ, List.map_cons, List.map_nil, List.take_succ_cons, List.take_zero, List.drop_succ_cons, List.drop_zero, List.reverse_cons, List.reverse_nil, List.nil_append, List.cons_append, List.append_nil, List.length_cons, List.length_nil, List.replicate_succ, List.replicate_zero, Option.toList_some, Option.toList_none, Nat.reduceAdd, Nat.reduceSub, Nat.reduceLeDiff, Nat.zero_add, Nat.zero_le, true_and, and_true, Int.toNat_natCast, Sum.inl.injEq, Sum.inr.injEq, ↓reduceIte, Nat.reduceEqDiff, sh_1, g5, u4, u5, u2, bt_w_id]
    repeat (refine And.intro (by omega) ?_)
    by_cases hc : n ≤ i
    · rw [if_neg (by omega)]
      refine ⟨by omega, ?_⟩
      have hin : i = n := by omega
      refine hQ _ (Tp2 _ (by rw [bt_up_ix (by decide)]; exact u2) (fun a ha => by rw [bt_up_cell ha, f4 _ a ha])) ⟨by omega, fun h => by omega, ?_, ?_, ?_, ?_, ?_⟩ (by rw [bt_up_ix (by decide)]; exact u3) (fun a ha => by rw [bt_up_cell ha, f4 _ a ha]; exact hfr a ha)
      · rw [bt_up_ix (by decide)]; exact u4
      · rw [bt_up_ix (by decide), u5]; unfold tk_e; rw [if_pos hc]
      · rw [bt_up_same]; unfold tk_k; rw [if_pos hc]
      · intro h; unfold tk_k at h; rw [if_pos hc] at h; omega
      · intro h; unfold tk_k at h; rw [if_pos hc] at h; omega
    · rw [if_pos (by omega)]
      have hti := htr i (by omega)
      simp (disch := omega) only [bt_ild, bt_lld, bt_ald, bt_ist, bt_lst, bt_ast, bt_inc, bt_ic, bt_lc, bt_iadd, bt_isub, bt_imul, bt_iand, bt_ior, bt_ixor, bt_ishl, bt_ishr, bt_iushr, bt_ladd, bt_lsub, bt_lmul, bt_land, bt_lor, bt_lushr, bt_lshl, bt_idiv, bt_irem, bt_ldiv, bt_lrem, bt_lcmp, bt_i2l, bt_l2i, bt_i2b, bt_pop, bt_dup, bt_dup2, bt_gfI, bt_gfJ, bt_gfR, bt_pfI, bt_pfZ, bt_pfJ, bt_pfR, bt_ial, bt_bal, bt_zal, bt_lal, bt_aal, bt_ias, bt_bas, bt_zas, bt_las, bt_len, bt_iret, bt_zret, bt_lret, bt_vret, bt_cV, bt_cS, bt_tab, bt_tsw, bt_lk, bt_lsw, bt_acp, bt_mmax, bt_mmin, bt_can, bt_icmpeq, bt_ifeq, bt_icmpne, bt_ifne, bt_icmplt, bt_iflt, bt_icmpge, bt_ifge, bt_icmpgt, bt_ifgt, bt_icmple, bt_ifle, bt_ret, bt_kill, bt_kl, bt_ix, bt_nl, bt_sm, bt_sr, bt_sig, bt_tg, bt_loc, bt_locs, List.getElem?_cons_zero, List.getElem?_cons_succ, List.set_cons_zero, List.set_cons_succ, List.map_cons, List.map_nil, List.take_succ_cons, List.take_zero, List.drop_succ_cons, List.drop_zero, List.reverse_cons, List.reverse_nil, List.nil_append, List.cons_append, List.append_nil, List.length_cons, List.length_nil, List.replicate_succ, List.replicate_zero, Option.toList_some, Option.toList_none, Nat.reduceAdd, Nat.reduceSub, Nat.reduceLeDiff, Nat.zero_add, Nat.zero_le, true_and, and_true, Int.toNat_natCast, Sum.inl.injEq, Sum.inr.injEq, ↓reduceIte, Nat.reduceEqDiff, sh_2, hρ 1 _ (by decide), rf_1_0, u5, c2', bt_w_id]
      repeat (refine And.intro (by omega) ?_)
      refine tk_L_call (by omega) ?_
      simp (disch := omega) only [bt_ild, bt_lld, bt_ald, bt_ist, bt_lst, bt_ast, bt_inc, bt_ic, bt_lc, bt_iadd, bt_isub, bt_imul, bt_iand, bt_ior, bt_ixor, bt_ishl, bt_ishr, bt_iushr, bt_ladd, bt_lsub, bt_lmul, bt_land, bt_lor, bt_lushr, bt_lshl, bt_idiv, bt_irem, bt_ldiv, bt_lrem, bt_lcmp, bt_i2l, bt_l2i, bt_i2b, bt_pop, bt_dup, bt_dup2, bt_gfI, bt_gfJ, bt_gfR, bt_pfI, bt_pfZ, bt_pfJ, bt_pfR, bt_ial, bt_bal, bt_zal, bt_lal, bt_aal, bt_ias, bt_bas, bt_zas, bt_las, bt_len, bt_iret, bt_zret, bt_lret, bt_vret, bt_cV, bt_cS, bt_tab, bt_tsw, bt_lk, bt_lsw, bt_acp, bt_mmax, bt_mmin, bt_can, bt_icmpeq, bt_ifeq, bt_icmpne, bt_ifne, bt_icmplt, bt_iflt, bt_icmpge, bt_ifge, bt_icmpgt, bt_ifgt, bt_icmple, bt_ifle, bt_ret, bt_kill, bt_kl, bt_ix, bt_nl, bt_sm, bt_sr, bt_sig, bt_tg, bt_loc, bt_locs, List.getElem?_cons_zero, List.getElem?_cons_succ, List.set_cons_zero, List.set_cons_succ, List.map_cons, List.map_nil, List.take_succ_cons, List.take_zero, List.drop_succ_cons, List.drop_zero, List.reverse_cons, List.reverse_nil, List.nil_append, List.cons_append, List.append_nil, List.length_cons, List.length_nil, List.replicate_succ, List.replicate_zero, Option.toList_some, Option.toList_none, Nat.reduceAdd, Nat.reduceSub, Nat.reduceLeDiff, Nat.zero_add, Nat.zero_le, true_and, and_true, Int.toNat_natCast, Sum.inl.injEq, Sum.inr.injEq, ↓reduceIte, Nat.reduceEqDiff]
      by_cases hl : tk_L (t i) = true
      · rw [if_pos hl]
        simp (disch := omega) only [bt_w_id, ↓reduceIte, Int.reduceEq]
        refine ⟨by decide, ρ, _, t, n, i, rfl, rfl, hρ, Tp2 _ u2 (f4 _), by omega, u4, u5, fun μ2 q5 q6 q7 q8 qk qf => ?_⟩
        simp (disch := omega) only [bt_ild, bt_lld, bt_ald, bt_ist, bt_lst, bt_ast, bt_inc, bt_ic, bt_lc, bt_iadd, bt_isub, bt_imul, bt_iand, bt_ior, bt_ixor, bt_ishl, bt_ishr, bt_iushr, bt_ladd, bt_lsub, bt_lmul, bt_land, bt_lor, bt_lushr, bt_lshl, bt_idiv, bt_irem, bt_ldiv, bt_lrem, bt_lcmp, bt_i2l, bt_l2i, bt_i2b, bt_pop, bt_dup, bt_dup2, bt_gfI, bt_gfJ, bt_gfR, bt_pfI, bt_pfZ, bt_pfJ, bt_pfR, bt_ial, bt_bal, bt_zal, bt_lal, bt_aal, bt_ias, bt_bas, bt_zas, bt_las, bt_len, bt_iret, bt_zret, bt_lret, bt_vret, bt_cV, bt_cS, bt_tab, bt_tsw, bt_lk, bt_lsw, bt_acp, bt_mmax, bt_mmin, bt_can, bt_icmpeq, bt_ifeq, bt_icmpne, bt_ifne, bt_icmplt, bt_iflt, bt_icmpge, bt_ifge, bt_icmpgt, bt_ifgt, bt_icmple, bt_ifle, bt_ret, bt_kill, bt_kl, bt_ix, bt_nl, bt_sm, bt_sr, bt_sig, bt_tg, bt_loc, bt_locs, List.getElem?_cons_zero, List.getElem?_cons_succ, List.set_cons_zero, List.set_cons_succ, List.map_cons, List.map_nil, List.take_succ_cons, List.take_zero, List.drop_succ_cons, List.drop_zero, List.reverse_cons, List.reverse_nil, List.nil_append, List.cons_append, List.append_nil, List.length_cons, List.length_nil, List.replicate_succ, List.replicate_zero, Option.toList_some, Option.toList_none, Nat.reduceAdd, Nat.reduceSub, Nat.reduceLeDiff, Nat.zero_add, Nat.zero_le, true_and, and_true, Int.toNat_natCast, Sum.inl.injEq, Sum.inr.injEq, ↓reduceIte, Nat.reduceEqDiff]
        have ee : tk_e t n i = tk_to tk_L t n i := by unfold tk_e; rw [if_neg hc, if_pos hl]
        have ek : tk_k t n i = if tk_to tk_L t n i - i ≤ 8 then 1 else 3 := by unfold tk_k; rw [if_neg hc, if_pos hl]
        refine hQ μ2 (Tp2 _ (by rw [qk 2 (by omega)]; exact u2) (fun a ha => by rw [qf a ha]; exact f4 _ a ha)) ⟨by omega, fun h => her.2.2 h, by rw [qk 4 (by omega)]; exact u4, by rw [q5, ee], by rw [q6, ek], fun h => ?_, fun h => ?_⟩ (by rw [qk 3 (by omega)]; exact u3) (fun a ha => by rw [qf a ha, f4 _ a ha]; exact hfr a ha)
        · have hx := tk_x_rg h (fun _ => by omega)
          have : tk_x t n i = tk_nm t i (tk_to tk_L t n i - i) := by unfold tk_x; rw [ee]
          refine ⟨by rw [q7, this], ?_⟩
          rw [q8, ← this, bt_wl_id (by omega) (by omega)]
        · rw [ek] at h; split at h <;> omega
      · rw [if_neg hl]
        simp (disch := omega) only [bt_w_id, ↓reduceIte]
        simp (disch := omega) only [bt_ild, bt_lld, bt_ald, bt_ist, bt_lst, bt_ast, bt_inc, bt_ic, bt_lc, bt_iadd, bt_isub, bt_imul, bt_iand, bt_ior, bt_ixor, bt_ishl, bt_ishr, bt_iushr, bt_ladd, bt_lsub, bt_lmul, bt_land, bt_lor, bt_lushr, bt_lshl, bt_idiv, bt_irem, bt_ldiv, bt_lrem, bt_lcmp, bt_i2l, bt_l2i, bt_i2b, bt_pop, bt_dup, bt_dup2, bt_gfI, bt_gfJ, bt_gfR, bt_pfI, bt_pfZ, bt_pfJ, bt_pfR, bt_ial, bt_bal, bt_zal, bt_lal, bt_aal, bt_ias, bt_bas, bt_zas, bt_las, bt_len, bt_iret, bt_zret, bt_lret, bt_vret, bt_cV, bt_cS, bt_tab, bt_tsw, bt_lk, bt_lsw, bt_acp, bt_mmax, bt_mmin, bt_can, bt_icmpeq, bt_ifeq, bt_icmpne, bt_ifne, bt_icmplt, bt_iflt, bt_icmpge, bt_ifge, bt_icmpgt, bt_ifgt, bt_icmple, bt_ifle, bt_ret, bt_kill, bt_kl, bt_ix, bt_nl, bt_sm, bt_sr, bt_sig, bt_tg, bt_loc, bt_locs, List.getElem?_cons_zero, List.getElem?_cons_succ, List.set_cons_zero, List.set_cons_succ, List.map_cons, List.map_nil, List.take_succ_cons, List.take_zero, List.drop_succ_cons, List.drop_zero, List.reverse_cons, List.reverse_nil, List.nil_append, List.cons_append, List.append_nil, List.length_cons, List.length_nil, List.replicate_succ, List.replicate_zero, Option.toList_some, Option.toList_none, Nat.reduceAdd, Nat.reduceSub, Nat.reduceLeDiff, Nat.zero_add, Nat.zero_le, true_and, and_true, Int.toNat_natCast, Sum.inl.injEq, Sum.inr.injEq, ↓reduceIte, Nat.reduceEqDiff, sh_1, sh_2, hρ 1 _ (by decide), rf_1_0, u5, c2', bt_w_id]
        repeat (refine And.intro (by omega) ?_)
        refine tk_D_call (by omega) ?_
        simp (disch := omega) only [bt_ild, bt_lld, bt_ald, bt_ist, bt_lst, bt_ast, bt_inc, bt_ic, bt_lc, bt_iadd, bt_isub, bt_imul, bt_iand, bt_ior, bt_ixor, bt_ishl, bt_ishr, bt_iushr, bt_ladd, bt_lsub, bt_lmul, bt_land, bt_lor, bt_lushr, bt_lshl, bt_idiv, bt_irem, bt_ldiv, bt_lrem, bt_lcmp, bt_i2l, bt_l2i, bt_i2b, bt_pop, bt_dup, bt_dup2, bt_gfI, bt_gfJ, bt_gfR, bt_pfI, bt_pfZ, bt_pfJ, bt_pfR, bt_ial, bt_bal, bt_zal, bt_lal, bt_aal, bt_ias, bt_bas, bt_zas, bt_las, bt_len, bt_iret, bt_zret, bt_lret, bt_vret, bt_cV, bt_cS, bt_tab, bt_tsw, bt_lk, bt_lsw, bt_acp, bt_mmax, bt_mmin, bt_can, bt_icmpeq, bt_ifeq, bt_icmpne, bt_ifne, bt_icmplt, bt_iflt, bt_icmpge, bt_ifge, bt_icmpgt, bt_ifgt, bt_icmple, bt_ifle, bt_ret, bt_kill, bt_kl, bt_ix, bt_nl, bt_sm, bt_sr, bt_sig, bt_tg, bt_loc, bt_locs, List.getElem?_cons_zero, List.getElem?_cons_succ, List.set_cons_zero, List.set_cons_succ, List.map_cons, List.map_nil, List.take_succ_cons, List.take_zero, List.drop_succ_cons, List.drop_zero, List.reverse_cons, List.reverse_nil, List.nil_append, List.cons_append, List.append_nil, List.length_cons, List.length_nil, List.replicate_succ, List.replicate_zero, Option.toList_some, Option.toList_none, Nat.reduceAdd, Nat.reduceSub, Nat.reduceLeDiff, Nat.zero_add, Nat.zero_le, true_and, and_true, Int.toNat_natCast, Sum.inl.injEq, Sum.inr.injEq, ↓reduceIte, Nat.reduceEqDiff]
        by_cases hd : tk_D (t i) = true
        · rw [if_pos hd]
          simp (disch := omega) only [bt_w_id, ↓reduceIte, Int.reduceEq]
          refine ⟨by decide, ρ, _, t, n, i, rfl, rfl, hρ, Tp2 _ u2 (f4 _), by omega, u4, u5, fun μ2 q5 q6 q9 qk qf => ?_⟩
          simp (disch := omega) only [bt_ild, bt_lld, bt_ald, bt_ist, bt_lst, bt_ast, bt_inc, bt_ic, bt_lc, bt_iadd, bt_isub, bt_imul, bt_iand, bt_ior, bt_ixor, bt_ishl, bt_ishr, bt_iushr, bt_ladd, bt_lsub, bt_lmul, bt_land, bt_lor, bt_lushr, bt_lshl, bt_idiv, bt_irem, bt_ldiv, bt_lrem, bt_lcmp, bt_i2l, bt_l2i, bt_i2b, bt_pop, bt_dup, bt_dup2, bt_gfI, bt_gfJ, bt_gfR, bt_pfI, bt_pfZ, bt_pfJ, bt_pfR, bt_ial, bt_bal, bt_zal, bt_lal, bt_aal, bt_ias, bt_bas, bt_zas, bt_las, bt_len, bt_iret, bt_zret, bt_lret, bt_vret, bt_cV, bt_cS, bt_tab, bt_tsw, bt_lk, bt_lsw, bt_acp, bt_mmax, bt_mmin, bt_can, bt_icmpeq, bt_ifeq, bt_icmpne, bt_ifne, bt_icmplt, bt_iflt, bt_icmpge, bt_ifge, bt_icmpgt, bt_ifgt, bt_icmple, bt_ifle, bt_ret, bt_kill, bt_kl, bt_ix, bt_nl, bt_sm, bt_sr, bt_sig, bt_tg, bt_loc, bt_locs, List.getElem?_cons_zero, List.getElem?_cons_succ, List.set_cons_zero, List.set_cons_succ, List.map_cons, List.map_nil, List.take_succ_cons, List.take_zero, List.drop_succ_cons, List.drop_zero, List.reverse_cons, List.reverse_nil, List.nil_append, List.cons_append, List.append_nil, List.length_cons, List.length_nil, List.replicate_succ, List.replicate_zero, Option.toList_some, Option.toList_none, Nat.reduceAdd, Nat.reduceSub, Nat.reduceLeDiff, Nat.zero_add, Nat.zero_le, true_and, and_true, Int.toNat_natCast, Sum.inl.injEq, Sum.inr.injEq, ↓reduceIte, Nat.reduceEqDiff]
          have ee : tk_e t n i = tk_to tk_D t n i := by unfold tk_e; rw [if_neg hc, if_neg hl, if_pos hd]
          have ek : tk_k t n i = if tk_to tk_D t n i - i ≤ 4 then 2 else 3 := by unfold tk_k; rw [if_neg hc, if_neg hl, if_pos hd]
          refine hQ μ2 (Tp2 _ (by rw [qk 2 (by omega)]; exact u2) (fun a ha => by rw [qf a ha]; exact f4 _ a ha)) ⟨by omega, fun h => her.2.2 h, by rw [qk 4 (by omega)]; exact u4, by rw [q5, ee], by rw [q6, ek], fun h => ?_, fun h => ?_⟩ (by rw [qk 3 (by omega)]; exact u3) (fun a ha => by rw [qf a ha, f4 _ a ha]; exact hfr a ha)
          · rw [ek] at h; split at h <;> omega
          · unfold tk_v; rw [q9, ee]
        · rw [if_neg hd]
          simp (disch := omega) only [bt_w_id, ↓reduceIte]
          simp (disch := omega) only [bt_ild, bt_lld, bt_ald, bt_ist, bt_lst, bt_ast, bt_inc, bt_ic, bt_lc, bt_iadd, bt_isub, bt_imul, bt_iand, bt_ior, bt_ixor, bt_ishl, bt_ishr, bt_iushr, bt_ladd, bt_lsub, bt_lmul, bt_land, bt_lor, bt_lushr, bt_lshl, bt_idiv, bt_irem, bt_ldiv, bt_lrem, bt_lcmp, bt_i2l, bt_l2i, bt_i2b, bt_pop, bt_dup, bt_dup2, bt_gfI, bt_gfJ, bt_gfR, bt_pfI, bt_pfZ, bt_pfJ, bt_pfR, bt_ial, bt_bal, bt_zal, bt_lal, bt_aal, bt_ias, bt_bas, bt_zas, bt_las, bt_len, bt_iret, bt_zret, bt_lret, bt_vret, bt_cV, bt_cS, bt_tab, bt_tsw, bt_lk, bt_lsw, bt_acp, bt_mmax, bt_mmin, bt_can, bt_icmpeq, bt_ifeq, bt_icmpne, bt_ifne, bt_icmplt, bt_iflt, bt_icmpge, bt_ifge, bt_icmpgt, bt_ifgt, bt_icmple, bt_ifle, bt_ret, bt_kill, bt_kl, bt_ix, bt_nl, bt_sm, bt_sr, bt_sig, bt_tg, bt_loc, bt_locs, List.getElem?_cons_zero, List.getElem?_cons_succ, List.set_cons_zero, List.set_cons_succ, List.map_cons, List.map_nil, List.take_succ_cons, List.take_zero, List.drop_succ_cons, List.drop_zero, List.reverse_cons, List.reverse_nil, List.nil_append, List.cons_append, List.append_nil, List.length_cons, List.length_nil, List.replicate_succ, List.replicate_zero, Option.toList_some, Option.toList_none, Nat.reduceAdd, Nat.reduceSub, Nat.reduceLeDiff, Nat.zero_add, Nat.zero_le, true_and, and_true, Int.toNat_natCast, Sum.inl.injEq, Sum.inr.injEq, ↓reduceIte, Nat.reduceEqDiff, sh_1, sh_2, hρ 1 _ (by decide), rf_1_0, u5, c2', bt_w_id]
          repeat (refine And.intro (by omega) ?_)
          refine tk_S_call (by omega) ?_
          simp (disch := omega) only [bt_ild, bt_lld, bt_ald, bt_ist, bt_lst, bt_ast, bt_inc, bt_ic, bt_lc, bt_iadd, bt_isub, bt_imul, bt_iand, bt_ior, bt_ixor, bt_ishl, bt_ishr, bt_iushr, bt_ladd, bt_lsub, bt_lmul, bt_land, bt_lor, bt_lushr, bt_lshl, bt_idiv, bt_irem, bt_ldiv, bt_lrem, bt_lcmp, bt_i2l, bt_l2i, bt_i2b, bt_pop, bt_dup, bt_dup2, bt_gfI, bt_gfJ, bt_gfR, bt_pfI, bt_pfZ, bt_pfJ, bt_pfR, bt_ial, bt_bal, bt_zal, bt_lal, bt_aal, bt_ias, bt_bas, bt_zas, bt_las, bt_len, bt_iret, bt_zret, bt_lret, bt_vret, bt_cV, bt_cS, bt_tab, bt_tsw, bt_lk, bt_lsw, bt_acp, bt_mmax, bt_mmin, bt_can, bt_icmpeq, bt_ifeq, bt_icmpne, bt_ifne, bt_icmplt, bt_iflt, bt_icmpge, bt_ifge, bt_icmpgt, bt_ifgt, bt_icmple, bt_ifle, bt_ret, bt_kill, bt_kl, bt_ix, bt_nl, bt_sm, bt_sr, bt_sig, bt_tg, bt_loc, bt_locs, List.getElem?_cons_zero, List.getElem?_cons_succ, List.set_cons_zero, List.set_cons_succ, List.map_cons, List.map_nil, List.take_succ_cons, List.take_zero, List.drop_succ_cons, List.drop_zero, List.reverse_cons, List.reverse_nil, List.nil_append, List.cons_append, List.append_nil, List.length_cons, List.length_nil, List.replicate_succ, List.replicate_zero, Option.toList_some, Option.toList_none, Nat.reduceAdd, Nat.reduceSub, Nat.reduceLeDiff, Nat.zero_add, Nat.zero_le, true_and, and_true, Int.toNat_natCast, Sum.inl.injEq, Sum.inr.injEq, ↓reduceIte, Nat.reduceEqDiff]
          have ee : tk_e t n i = i + 1 := by unfold tk_e; rw [if_neg hc, if_neg hl, if_neg hd]
          have ek : tk_k t n i = if tk_S (t i) then t i else 3 := by unfold tk_k; rw [if_neg hc, if_neg hl, if_neg hd]
          have ek3 : tk_k t n i ≠ 1 ∧ tk_k t n i ≠ 2 := by rw [ek]; split <;> omega
          have fin : ∀ x : Int, x = (if tk_S (t i) then t i else 3) → Q none (bt_wd ρ (bt_up (bt_up (bt_up μ1 1 4 (i : Int)) 1 6 x) 1 5 ((i : Int) + 1))) := by
            intro x hx
            refine hQ _ (Tp2 _ ?_ ?_) ⟨by omega, fun h => her.2.2 h, ?_, ?_, ?_, fun h => absurd h ek3.1, fun h => absurd h ek3.2⟩ ?_ (fun a ha => ?_)
            · rw [bt_up_ix (by decide), bt_up_ix (by decide)]; exact u2
            · intro a ha; rw [bt_up_cell ha, bt_up_cell ha, f4 _ a ha]
            · rw [bt_up_ix (by decide), bt_up_ix (by decide)]; exact u4
            · rw [bt_up_same, ee]; rfl
            · rw [bt_up_ix (by decide), bt_up_same, hx, ek]
            · rw [bt_up_ix (by decide), bt_up_ix (by decide)]; exact u3
            · rw [bt_up_cell ha, bt_up_cell ha, f4 _ a ha]; exact hfr a ha
          by_cases hs : tk_S (t i) = true
          · rw [if_pos hs]
            simp (disch := omega) only [bt_w_id, ↓reduceIte, Int.reduceEq]
            simp (disch := omega) only [bt_ild, bt_lld, bt_ald, bt_ist, bt_lst, bt_ast, bt_inc, bt_ic, bt_lc, bt_iadd, bt_isub, bt_imul, bt_iand, bt_ior, bt_ixor, bt_ishl, bt_ishr, bt_iushr, bt_ladd, bt_lsub, bt_lmul, bt_land, bt_lor, bt_lushr, bt_lshl, bt_idiv, bt_irem, bt_ldiv, bt_lrem, bt_lcmp, bt_i2l, bt_l2i, bt_i2b, bt_pop, bt_dup, bt_dup2, bt_gfI, bt_gfJ, bt_gfR, bt_pfI, bt_pfZ, bt_pfJ, bt_pfR, bt_ial, bt_bal, bt_zal, bt_lal, bt_aal, bt_ias, bt_bas, bt_zas, bt_las, bt_len, bt_iret, bt_zret, bt_lret, bt_vret, bt_cV, bt_cS, bt_tab, bt_tsw, bt_lk, bt_lsw, bt_acp, bt_mmax, bt_mmin, bt_can, bt_icmpeq, bt_ifeq, bt_icmpne, bt_ifne, bt_icmplt, bt_iflt, bt_icmpge, bt_ifge, bt_icmpgt, bt_ifgt, bt_icmple, bt_ifle, bt_ret, bt_kill, bt_kl, bt_ix, bt_nl, bt_sm, bt_sr, bt_sig, bt_tg, bt_loc, bt_locs, List.getElem?_cons_zero, List.getElem?_cons_succ, List.set_cons_zero, List.set_cons_succ, List.map_cons, List.map_nil, List.take_succ_cons, List.take_zero, List.drop_succ_cons, List.drop_zero, List.reverse_cons, List.reverse_nil, List.nil_append, List.cons_append, List.append_nil, List.length_cons, List.length_nil, List.replicate_succ, List.replicate_zero, Option.toList_some, Option.toList_none, Nat.reduceAdd, Nat.reduceSub, Nat.reduceLeDiff, Nat.zero_add, Nat.zero_le, true_and, and_true, Int.toNat_natCast, Sum.inl.injEq, Sum.inr.injEq, ↓reduceIte, Nat.reduceEqDiff, sh_1, sh_2, hρ 1 _ (by decide), rf_1_0, u5, c2', bt_w_id]
            repeat (refine And.intro (by omega) ?_)
            rw [bt_up_ix (by decide), u5]
            exact fin _ (by rw [if_pos hs])
          · rw [if_neg hs]
            simp (disch := omega) only [bt_w_id, ↓reduceIte]
            simp (disch := omega) only [bt_ild, bt_lld, bt_ald, bt_ist, bt_lst, bt_ast, bt_inc, bt_ic, bt_lc, bt_iadd, bt_isub, bt_imul, bt_iand, bt_ior, bt_ixor, bt_ishl, bt_ishr, bt_iushr, bt_ladd, bt_lsub, bt_lmul, bt_land, bt_lor, bt_lushr, bt_lshl, bt_idiv, bt_irem, bt_ldiv, bt_lrem, bt_lcmp, bt_i2l, bt_l2i, bt_i2b, bt_pop, bt_dup, bt_dup2, bt_gfI, bt_gfJ, bt_gfR, bt_pfI, bt_pfZ, bt_pfJ, bt_pfR, bt_ial, bt_bal, bt_zal, bt_lal, bt_aal, bt_ias, bt_bas, bt_zas, bt_las, bt_len, bt_iret, bt_zret, bt_lret, bt_vret, bt_cV, bt_cS, bt_tab, bt_tsw, bt_lk, bt_lsw, bt_acp, bt_mmax, bt_mmin, bt_can, bt_icmpeq, bt_ifeq, bt_icmpne, bt_ifne, bt_icmplt, bt_iflt, bt_icmpge, bt_ifge, bt_icmpgt, bt_ifgt, bt_icmple, bt_ifle, bt_ret, bt_kill, bt_kl, bt_ix, bt_nl, bt_sm, bt_sr, bt_sig, bt_tg, bt_loc, bt_locs, List.getElem?_cons_zero, List.getElem?_cons_succ, List.set_cons_zero, List.set_cons_succ, List.map_cons, List.map_nil, List.take_succ_cons, List.take_zero, List.drop_succ_cons, List.drop_zero, List.reverse_cons, List.reverse_nil, List.nil_append, List.cons_append, List.append_nil, List.length_cons, List.length_nil, List.replicate_succ, List.replicate_zero, Option.toList_some, Option.toList_none, Nat.reduceAdd, Nat.reduceSub, Nat.reduceLeDiff, Nat.zero_add, Nat.zero_le, true_and, and_true, Int.toNat_natCast, Sum.inl.injEq, Sum.inr.injEq, ↓reduceIte, Nat.reduceEqDiff, sh_1, sh_2, hρ 1 _ (by decide), rf_1_0, u5, c2', bt_w_id]
            repeat (refine And.intro (by omega) ?_)
            rw [bt_up_ix (by decide), u5]
            exact fin _ (by rw [if_neg hs])
  have next : i < n → tk_B (t i) = true → ∃ m', m' < n - i ∧ iX7_step ρ μ t n p e 0 m' [] [some (.inr (.inr 1))] (bt_wd ρ (bt_up μ1 1 5 ((i : Int) + 1))) := by
    intro h1 h2
    refine ⟨n - (i + 1), by omega, rfl, _, rfl, fun a ha => ?_, fun k hk => ?_, i + 1, by omega, by omega, rfl, rfl, ?_, ?_⟩
    · rw [bt_up_cell ha]; exact hfr a ha
    · rw [bt_up_ix (by omega)]; exact hk5 k hk
    · rw [bt_up_same]; rfl
    · rw [← ge]; exact (tk_to_step h1 h2).symm
  simp (disch := omega) only [tX7_step_0, tX7_step_39, bt_ild, bt_lld, bt_ald, bt_ist, bt_lst, bt_ast, bt_inc, bt_ic, bt_lc, bt_iadd, bt_isub, bt_imul, bt_iand, bt_ior, bt_ixor, bt_ishl, bt_ishr, bt_iushr, bt_ladd, bt_lsub, bt_lmul, bt_land, bt_lor, bt_lushr, bt_lshl, bt_idiv, bt_irem, bt_ldiv, bt_lrem, bt_lcmp, bt_i2l, bt_l2i, bt_i2b, bt_pop, bt_dup, bt_dup2, bt_gfI, bt_gfJ, bt_gfR, bt_pfI, bt_pfZ, bt_pfJ, bt_pfR, bt_ial, bt_bal, bt_zal, bt_lal, bt_aal, bt_ias, bt_bas, bt_zas, bt_las, bt_len, bt_iret, bt_zret, bt_lret, bt_vret, bt_cV, bt_cS, bt_tab, bt_tsw, bt_lk, bt_lsw, bt_acp, bt_mmax, bt_mmin, bt_can, bt_icmpeq, bt_ifeq, bt_icmpne, bt_ifne, bt_icmplt, bt_iflt, bt_icmpge, bt_ifge, bt_icmpgt, bt_ifgt, bt_icmple, bt_ifle, bt_ret, bt_kill, bt_kl, bt_ix, bt_nl, bt_sm, bt_sr, bt_sig, bt_tg, bt_loc, bt_locs, List.getElem?_cons_zero, List.getElem?_cons_succ, List.set_cons_zero, List.set_cons_succ, List.map_cons, List.map_nil, List.take_succ_cons, List.take_zero, List.drop_succ_cons, List.drop_zero, List.reverse_cons, List.reverse_nil, List.nil_append, List.cons_append, List.append_nil, List.length_cons, List.length_nil, List.replicate_succ, List.replicate_zero, Option.toList_some, Option.toList_none, Nat.reduceAdd, Nat.reduceSub, Nat.reduceLeDiff, Nat.zero_add, Nat.zero_le, true_and, and_true, Int.toNat_natCast, Sum.inl.injEq, Sum.inr.injEq, ↓reduceIte, Nat.reduceEqDiff, sh_1, g5, k2, bt_w_id]
  repeat (refine And.intro (by omega) ?_)
  by_cases hc : n ≤ i
  · rw [if_pos (by omega)]
    exact last (by rw [← ge, tk_to_stop (fun h => by omega)])
  · rw [if_neg (by omega)]
    have hti := htr i (by omega)
    simp (disch := omega) only [bt_ild, bt_lld, bt_ald, bt_ist, bt_lst, bt_ast, bt_inc, bt_ic, bt_lc, bt_iadd, bt_isub, bt_imul, bt_iand, bt_ior, bt_ixor, bt_ishl, bt_ishr, bt_iushr, bt_ladd, bt_lsub, bt_lmul, bt_land, bt_lor, bt_lushr, bt_lshl, bt_idiv, bt_irem, bt_ldiv, bt_lrem, bt_lcmp, bt_i2l, bt_l2i, bt_i2b, bt_pop, bt_dup, bt_dup2, bt_gfI, bt_gfJ, bt_gfR, bt_pfI, bt_pfZ, bt_pfJ, bt_pfR, bt_ial, bt_bal, bt_zal, bt_lal, bt_aal, bt_ias, bt_bas, bt_zas, bt_las, bt_len, bt_iret, bt_zret, bt_lret, bt_vret, bt_cV, bt_cS, bt_tab, bt_tsw, bt_lk, bt_lsw, bt_acp, bt_mmax, bt_mmin, bt_can, bt_icmpeq, bt_ifeq, bt_icmpne, bt_ifne, bt_icmplt, bt_iflt, bt_icmpge, bt_ifge, bt_icmpgt, bt_ifgt, bt_icmple, bt_ifle, bt_ret, bt_kill, bt_kl, bt_ix, bt_nl, bt_sm, bt_sr, bt_sig, bt_tg, bt_loc, bt_locs, List.getElem?_cons_zero, List.getElem?_cons_succ, List.set_cons_zero, List.set_cons_succ, List.map_cons, List.map_nil, List.take_succ_cons, List.take_zero, List.drop_succ_cons, List.drop_zero, List.reverse_cons, List.reverse_nil, List.nil_append, List.cons_append, List.append_nil, List.length_cons, List.length_nil, List.replicate_succ, List.replicate_zero, Option.toList_some, Option.toList_none, Nat.reduceAdd, Nat.reduceSub, Nat.reduceLeDiff, Nat.zero_add, Nat.zero_le, true_and, and_true, Int.toNat_natCast, Sum.inl.injEq, Sum.inr.injEq, ↓reduceIte, Nat.reduceEqDiff, sh_1, sh_2, hρ 1 _ (by decide), rf_1_0, g5, c2, bt_w_id]
    repeat (refine And.intro (by omega) ?_)
    by_cases h32 : t i = 32
    · rw [if_pos h32]
      refine ⟨by omega, by omega, ?_⟩
      exact next (by omega) (by unfold tk_B; simp [h32])
    · rw [if_neg h32]
      repeat (refine And.intro (by omega) ?_)
      by_cases h10 : t i = 10
      · rw [if_pos h10]
        refine ⟨by omega, by omega, ?_⟩
        exact next (by omega) (by unfold tk_B; simp [h10])
      · rw [if_neg h10]
        exact last (by rw [← ge, tk_to_stop (fun _ => by unfold tk_B; simp [h32, h10])])
