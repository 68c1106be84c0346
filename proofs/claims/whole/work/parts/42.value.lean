/-! Formula: begin and readTests as the reader calls them, value -/
theorem mtX0_ptk : ∀ k, k ≤ 5 → ∀ d, 5 + 5 * k ≤ d → bt_Met yX0_readPart cX0_readPart 6 (some .boolean) d [2, 0] (SpX0_ptk k)
  | 0, _, d, hd => mtX0_pt 0 (fun _ _ _ => False) (fun _ _ _ => False) 0 0 (Or.inl rfl) bt_metF bt_metF d (by omega) (by omega) (by omega)
  | k + 1, hk, d, hd =>
    have m1 := mtX0_ptk k (by omega) (d - 5) (by omega)
    have m2 := mtX0_prk k (dd := d - 4) m1 (by omega) (by omega)
    have m3 := mtX0_suk k (dd := d - 3) m2 (by omega) (by omega)
    have m4 := mtX0_tek k (dd := d - 2) m3 (by omega) (by omega)
    have m5 := mtX0_tsk k (dd := d - 1) m4 (by omega) (by omega)
    have m6 := mtX0_ptk k (by omega) (d - 1) (by omega)
    mtX0_pt (k + 1) _ _ (d - 1) (d - 1) (Or.inr ⟨k, rfl, by omega, rfl, rfl⟩) m5 m6 d (by omega) (by omega) (by omega)
def SpX0_readTests : bt_Sp := SpX0_tsk 5
theorem mtX0_readTests : bt_Met yX0_readTests cX0_readTests 5 (some .boolean) 64 [2, 0] SpX0_readTests :=
  have m1 := mtX0_ptk 5 (by omega) 60 (by omega)
  have m2 := mtX0_prk 5 (dd := 61) m1 (by omega) (by omega)
  have m3 := mtX0_suk 5 (dd := 62) m2 (by omega) (by omega)
  have m4 := mtX0_tek 5 (dd := 63) m3 (by omega) (by omega)
  mtX0_tsk 5 m4 (by omega) (by omega)
def SpX0_begin : bt_Sp := fun As w Q => tX0_begin_0 bt_k0 Q [] (bt_loc 2 As) w
theorem mtX0_begin : bt_Met yX0_begin cX0_begin 2 none 1 [2, 0] SpX0_begin := lfX0_begin
theorem fo_begin_call {ρ : Nat → Nat → Option Nat} {μ : Nat → Nat → Int} {al : Nat} {Q : Option bt_V → bt_W → Prop} (h : Q none (bt_wd ρ (bt_up (bt_up μ 6 5 (al : Int)) 6 4 0))) : SpX0_begin [.inr (.inr 6), .inl (al : Int)] (bt_wd ρ μ) Q := by
  simp (disch := omega) only [SpX0_begin, tX0_begin_0, bt_ild, bt_lld, bt_ald, bt_ist, bt_lst, bt_ast, bt_inc, bt_ic, bt_lc, bt_iadd, bt_isub, bt_imul, bt_iand, bt_ior, bt_ixor, bt_ishl, bt_ishr, bt_iushr, bt_ladd, bt_lsub, bt_lmul, bt_land, bt_lor, bt_lushr, bt_lshl, bt_idiv, bt_irem, bt_ldiv, bt_lrem, bt_lcmp, bt_i2l, bt_l2i, bt_i2b, bt_pop, bt_dup, bt_dup2, bt_gfI, bt_gfJ, bt_gfR, bt_pfI, bt_pfZ, bt_pfJ, bt_pfR, bt_ial, bt_bal, bt_zal, bt_lal, bt_aal, bt_ias, bt_bas, bt_zas, bt_las, bt_len, bt_iret, bt_zret, bt_lret, bt_vret, bt_cV, bt_cS, bt_tab, bt_tsw, bt_lk, bt_lsw, bt_acp, bt_mmax, bt_mmin, bt_can, bt_icmpeq, bt_ifeq, bt_icmpne, bt_ifne, bt_icmplt, bt_iflt, bt_icmpge, bt_ifge, bt_icmpgt, bt_ifgt, bt_icmple, bt_ifle, bt_ret, bt_kill, bt_kl, bt_ix, bt_nl, bt_sm, bt_sr, bt_sig, bt_tg, bt_loc, bt_locs, List.getElem?_cons_zero, List.getElem?_cons_succ, List.set_cons_zero, List.set_cons_succ, List.map_cons, List.map_nil, List.take_succ_cons, List.take_zero, List.drop_succ_cons, List.drop_zero, List.reverse_cons, List.reverse_nil, List.nil_append, List.cons_append, List.append_nil, List.length_cons, List.length_nil, List.replicate_succ, List.replicate_zero, Option.toList_some, Option.toList_none, Nat.reduceAdd, Nat.reduceSub, Nat.reduceLeDiff, Nat.zero_add, Nat.zero_le, true_and, and_true, Int.toNat_natCast, Sum.inl.injEq, Sum.inr.injEq, ↓reduceIte, Nat.reduceEqDiff, sh_6]
  repeat (refine And.intro (by first | omega | decide | (simp only [and_true, true_and]; omega)) ?_)
  exact h
set_option maxHeartbeats 4000000 in
theorem fo_read_call {ρ : Nat → Nat → Option Nat} {μ : Nat → Nat → Int} {t : Nat → Int} {n al c : Nat} {R : fo_R} {Q : Option bt_V → bt_W → Prop} (hρ : bt_Rf ρ) (hp : bt_Tp μ t n) (hc : bt_Tc μ t n c) (hal : al < 64) (hR : fo_ts t n (fo_pt t n al 5) c = R)
    (hQ : ∀ μ', (if R.1 = 0 then bt_Go μ' μ t n R.2.1 ∧ ∃ s : Nat, μ' 6 4 = (s : Int) ∧ s ≤ 1000 ∧ fo_Em (μ' 8) 0 s 0 R.2.2 else μ' 1 3 = R.1) → bt_fr (fun a => a = 1 ∨ a = 6 ∨ a = 8) μ' μ → Q (some (.inl (if R.1 = 0 then 1 else 0))) (bt_wd ρ μ')) : SpX0_readTests [.inr (.inr 6), .inl 0] (bt_wd ρ (bt_up (bt_up μ 6 5 (al : Int)) 6 4 0)) Q := by
  have hG0 : bt_Go μ μ t n c := ⟨hp, hc, rfl⟩
  have hG1 : bt_Go (bt_up (bt_up μ 6 5 (al : Int)) 6 4 0) μ t n c := hG0.fr (by rw [bt_up_cell (by decide), bt_up_cell (by decide)]) (by rw [bt_up_cell (by decide), bt_up_cell (by decide)]) (by rw [bt_up_cell (by decide), bt_up_cell (by decide)])
  refine fo_call (s := 0) (al := al) (R := R) hρ hG1.1 hG1.2.1 (by rw [bt_up_same]; rfl) (by omega) (by rw [bt_up_ix (by decide), bt_up_same]) hal hR (fun μ1 h1 h2 => ?_)
  have hf : bt_fr (fun a => a = 1 ∨ a = 6 ∨ a = 8) μ1 μ := fun a ha => by rw [h2.2.2 a ha, bt_up_cell (by omega), bt_up_cell (by omega)]
  by_cases hr : R.1 = 0
  · simp only [hr, ↓reduceIte] at h1 hQ ⊢
    obtain ⟨hG, s, u1, u2, u3, u4, u5⟩ := h1
    have := hG.2.1.1
    have := hG.1.2.1
    exact hQ μ1 ⟨hG.tr hG1, s, u1, by omega, u5⟩ hf
  · simp only [hr, ↓reduceIte] at h1 hQ ⊢
    exact hQ μ1 h1 hf
theorem fo_jn_call {o l r : Int} (ho : -17 ≤ o ∧ o ≤ -11) {w : bt_W} {Q : Option bt_V → bt_W → Prop} (h : Q (some (.inl (fo_jn o l r))) w) : SpX0_joined [.inl o, .inl l, .inl r] w Q := by
  have : o = -17 ∨ o = -16 ∨ o = -15 ∨ o = -14 ∨ o = -13 ∨ o = -12 ∨ o = -11 := by omega
  unfold fo_jn at h
  rcases this with rfl | rfl | rfl | rfl | rfl | rfl | rfl
  all_goals simp (disch := omega) only [SpX0_joined, tX0_joined_0, tX0_joined_52, tX0_joined_53, tX0_joined_62, tX0_joined_67, tX0_joined_78, tX0_joined_89, bt_ild, bt_lld, bt_ald, bt_ist, bt_lst, bt_ast, bt_inc, bt_ic, bt_lc, bt_iadd, bt_isub, bt_imul, bt_iand, bt_ior, bt_ixor, bt_ishl, bt_ishr, bt_iushr, bt_ladd, bt_lsub, bt_lmul, bt_land, bt_lor, bt_lushr, bt_lshl, bt_idiv, bt_irem, bt_ldiv, bt_lrem, bt_lcmp, bt_i2l, bt_l2i, bt_i2b, bt_pop, bt_dup, bt_dup2, bt_gfI, bt_gfJ, bt_gfR, bt_pfI, bt_pfZ, bt_pfJ, bt_pfR, bt_ial, bt_bal, bt_zal, bt_lal, bt_aal, bt_ias, bt_bas, bt_zas, bt_las, bt_len, bt_iret, bt_zret, bt_lret, bt_vret, bt_cV, bt_cS, bt_tab, bt_tsw, bt_lk, bt_lsw, bt_acp, bt_mmax, bt_mmin, bt_can, bt_icmpeq, bt_ifeq, bt_icmpne, bt_ifne, bt_icmplt, bt_iflt, bt_icmpge, bt_ifge, bt_icmpgt, bt_ifgt, bt_icmple, bt_ifle, bt_ret, bt_kill, bt_kl, bt_ix, bt_nl, bt_sm, bt_sr, bt_sig, bt_tg, bt_loc, bt_locs, List.getElem?_cons_zero, List.getElem?_cons_succ, List.set_cons_zero, List.set_cons_succ, List.map_cons, List.map_nil, List.take_succ_cons, List.take_zero, List.drop_succ_cons, List.drop_zero, List.reverse_cons, List.reverse_nil, List.nil_append, List.cons_append, List.append_nil, List.length_cons, List.length_nil, List.replicate_succ, List.replicate_zero, Option.toList_some, Option.toList_none, Nat.reduceAdd, Nat.reduceSub, Nat.reduceLeDiff, Nat.zero_add, Nat.zero_le, true_and, and_true, Int.toNat_natCast, Sum.inl.injEq, Sum.inr.injEq, ↓reduceIte, Nat.reduceEqDiff, bt_w_id, Int.reduceEq, Int.reduceNeg, Int.reduceAdd, ↓reduceIte] at h ⊢
  · exact h
  · exact h
  · exact h
  · split at h <;> simp_all
  · split at h
    · next q => rw [if_neg (by omega)]; exact h
    · next q => rw [if_pos (by omega)]; exact h
  · by_cases h1 : bt_w l = 0
    · by_cases h2 : bt_w r = 0
      · simp only [h1, h2, ↓reduceIte, ne_eq, not_true_eq_false, or_self] at h ⊢; exact h
      · simp only [h1, h2, ↓reduceIte, ne_eq, not_true_eq_false, not_false_eq_true, or_true] at h ⊢; exact h
    · simp only [h1, ↓reduceIte, ne_eq, not_false_eq_true, true_or] at h ⊢; exact h
  · by_cases h1 : bt_w l = 0
    · simp only [h1, ↓reduceIte, ne_eq, not_true_eq_false, false_and] at h ⊢; exact h
    · by_cases h2 : bt_w r = 0
      · simp only [h1, h2, ↓reduceIte, ne_eq, not_true_eq_false, and_false] at h ⊢; exact h
      · simp only [h1, h2, ↓reduceIte, ne_eq, not_false_eq_true, and_self] at h ⊢; exact h
theorem fo_fact_call {ρ : Nat → Nat → Option Nat} {μ : Nat → Nat → Int} {x : Nat} (hρ : bt_Rf ρ) (hx : x < 100) {Q : Option bt_V → bt_W → Prop} (h : Q (some (.inl (if 5 ≤ x then 0 else μ 7 x))) (bt_wd ρ μ)) : SpX0_factAt [.inr (.inr 6), .inl (x : Int)] (bt_wd ρ μ) Q := by
  simp (disch := omega) only [SpX0_factAt, tX0_factAt_0, tX0_factAt_15, bt_ild, bt_lld, bt_ald, bt_ist, bt_lst, bt_ast, bt_inc, bt_ic, bt_lc, bt_iadd, bt_isub, bt_imul, bt_iand, bt_ior, bt_ixor, bt_ishl, bt_ishr, bt_iushr, bt_ladd, bt_lsub, bt_lmul, bt_land, bt_lor, bt_lushr, bt_lshl, bt_idiv, bt_irem, bt_ldiv, bt_lrem, bt_lcmp, bt_i2l, bt_l2i, bt_i2b, bt_pop, bt_dup, bt_dup2, bt_gfI, bt_gfJ, bt_gfR, bt_pfI, bt_pfZ, bt_pfJ, bt_pfR, bt_ial, bt_bal, bt_zal, bt_lal, bt_aal, bt_ias, bt_bas, bt_zas, bt_las, bt_len, bt_iret, bt_zret, bt_lret, bt_vret, bt_cV, bt_cS, bt_tab, bt_tsw, bt_lk, bt_lsw, bt_acp, bt_mmax, bt_mmin, bt_can, bt_icmpeq, bt_ifeq, bt_icmpne, bt_ifne, bt_icmplt, bt_iflt, bt_icmpge, bt_ifge, bt_icmpgt, bt_ifgt, bt_icmple, bt_ifle, bt_ret, bt_kill, bt_kl, bt_ix, bt_nl, bt_sm, bt_sr, bt_sig, bt_tg, bt_loc, bt_locs, List.getElem?_cons_zero, List.getElem?_cons_succ, List.set_cons_zero, List.set_cons_succ, List.map_cons, List.map_nil, List.take_succ_cons, List.take_zero, List.drop_succ_cons, List.drop_zero, List.reverse_cons, List.reverse_nil, List.nil_append, List.cons_append, List.append_nil, List.length_cons, List.length_nil, List.replicate_succ, List.replicate_zero, Option.toList_some, Option.toList_none, Nat.reduceAdd, Nat.reduceSub, Nat.reduceLeDiff, Nat.zero_add, Nat.zero_le, true_and, and_true, Int.toNat_natCast, Sum.inl.injEq, Sum.inr.injEq, ↓reduceIte, Nat.reduceEqDiff, bt_w_id, sh_6, sh_7, hρ 6 _ (by decide), rf_6_1]
  by_cases h5 : 5 ≤ x
  · rw [if_pos h5] at h
    rw [if_pos (by omega)]
    exact h
  · rw [if_neg h5] at h
    rw [if_neg (by omega)]
    exact ⟨by decide, by refine ⟨by decide, by omega, ?_⟩; show (x : Int) < 5; omega, h⟩
theorem fo_e1_top {F : Nat → Int} {q : Nat × (Nat → Int)} {x : Int} (h : q.1 ≤ 32) : (fo_e1 F q x).1 ≤ 32 := by
  unfold fo_e1
  split
  · split
    · show q.1 + 1 ≤ 32; omega
    · exact h
  · split
    · split <;> exact h
    · split
      · show q.1 - 1 ≤ 32; omega
      · exact h
theorem fo_ev_top {F st : Nat → Int} : ∀ a i q, q.1 ≤ 32 → (fo_ev F st a i q).1 ≤ 32
  | 0, _, _, h => h
  | a + 1, i, q, h => fo_ev_top a (i + 1) _ (fo_e1_top h)
def SpX0_value : bt_Sp := fun As w Q => ∃ (ρ : Nat → Nat → Option Nat) (μ : Nat → Nat → Int) (s : Nat) (V : fo_V), As = [.inr (.inr 6)] ∧ w = bt_wd ρ μ ∧ bt_Rf ρ ∧ μ 6 4 = (s : Int) ∧ s ≤ 1000 ∧ fo_Em (μ 8) 0 s 0 V ∧ ∀ μ', bt_fr (fun a => a = 9) μ' μ → Q (some (.inl (bt_w (V (μ 7))))) (bt_wd ρ μ')
def iX0_value (ρ : Nat → Nat → Option Nat) (μ : Nat → Nat → Int) (s : Nat) (_h m : Nat) : bt_K := fun st L w => st = [] ∧ ∃ (μ1 : Nat → Nat → Int) (i : Nat) (q : Nat × (Nat → Int)), w = bt_wd ρ μ1 ∧ i ≤ s ∧ m = s - i ∧ L = [some (.inr (.inr 6)), some (.inl (q.1 : Int)), some (.inl (i : Int)), none] ∧ bt_fr (fun a => a = 9) μ1 μ ∧ q = fo_ev (μ 7) (μ 8) i 0 (0, μ 9) ∧ μ1 9 = q.2
set_option maxHeartbeats 4000000 in
theorem mtX0_value : bt_Met yX0_value cX0_value 4 (some .int) 2 [2] SpX0_value := by
  refine lpX0_value mtX0_factAt (by decide) mtX0_joined (by decide) _ (fun As w Q _ hS => ?_)
  obtain ⟨ρ, μ, s, V, rfl, rfl, hρ, hs, hs2, hE, hQ⟩ := hS
  refine ⟨iX0_value ρ μ s, ?_, ?_⟩
  · simp (disch := omega) only [tX0_value_0, bt_ild, bt_lld, bt_ald, bt_ist, bt_lst, bt_ast, bt_inc, bt_ic, bt_lc, bt_iadd, bt_isub, bt_imul, bt_iand, bt_ior, bt_ixor, bt_ishl, bt_ishr, bt_iushr, bt_ladd, bt_lsub, bt_lmul, bt_land, bt_lor, bt_lushr, bt_lshl, bt_idiv, bt_irem, bt_ldiv, bt_lrem, bt_lcmp, bt_i2l, bt_l2i, bt_i2b, bt_pop, bt_dup, bt_dup2, bt_gfI, bt_gfJ, bt_gfR, bt_pfI, bt_pfZ, bt_pfJ, bt_pfR, bt_ial, bt_bal, bt_zal, bt_lal, bt_aal, bt_ias, bt_bas, bt_zas, bt_las, bt_len, bt_iret, bt_zret, bt_lret, bt_vret, bt_cV, bt_cS, bt_tab, bt_tsw, bt_lk, bt_lsw, bt_acp, bt_mmax, bt_mmin, bt_can, bt_icmpeq, bt_ifeq, bt_icmpne, bt_ifne, bt_icmplt, bt_iflt, bt_icmpge, bt_ifge, bt_icmpgt, bt_ifgt, bt_icmple, bt_ifle, bt_ret, bt_kill, bt_kl, bt_ix, bt_nl, bt_sm, bt_sr, bt_sig, bt_tg, bt_loc, bt_locs, List.getElem?_cons_zero, List.getElem?_cons_succ, List.set_cons_zero, List.set_cons_succ, List.map_cons, List.map_nil, List.take_succ_cons, List.take_zero, List.drop_succ_cons, List.drop_zero, List.reverse_cons, List.reverse_nil, List.nil_append, List.cons_append, List.append_nil, List.length_cons, List.length_nil, List.replicate_succ, List.replicate_zero, Option.toList_some, Option.toList_none, Nat.reduceAdd, Nat.reduceSub, Nat.reduceLeDiff, Nat.zero_add, Nat.zero_le, true_and, and_true, Int.toNat_natCast, Sum.inl.injEq, Sum.inr.injEq, ↓reduceIte, Nat.reduceEqDiff]
    exact ⟨s, rfl, μ, 0, (0, μ 9), rfl, by omega, rfl, rfl, fun _ _ => rfl, rfl, rfl⟩
  · rintro m st L w ⟨rfl, μ1, i, q, rfl, hi, rfl, rfl, hfr, hq, h9⟩
    have c6 : μ1 6 = μ 6 := hfr 6 (by decide)
    have c7 : μ1 7 = μ 7 := hfr 7 (by decide)
    have c8 : μ1 8 = μ 8 := hfr 8 (by decide)
    have ht := fo_ev_top (F := μ 7) (st := μ 8) i 0 (0, μ 9) (Nat.zero_le _)
    rw [← hq] at ht
    simp (disch := omega) only [tX0_value_4, tX0_value_130, tX0_value_92, tX0_value_51, bt_ild, bt_lld, bt_ald, bt_ist, bt_lst, bt_ast, bt_inc, bt_ic, bt_lc, bt_iadd, bt_isub, bt_imul, bt_iand, bt_ior, bt_ixor, bt_ishl, bt_ishr, bt_iushr, bt_ladd, bt_lsub, bt_lmul, bt_land, bt_lor, bt_lushr, bt_lshl, bt_idiv, bt_irem, bt_ldiv, bt_lrem, bt_lcmp, bt_i2l, bt_l2i, bt_i2b, bt_pop, bt_dup, bt_dup2, bt_gfI, bt_gfJ, bt_gfR, bt_pfI, bt_pfZ, bt_pfJ, bt_pfR, bt_ial, bt_bal, bt_zal, bt_lal, bt_aal, bt_ias, bt_bas, bt_zas, bt_las, bt_len, bt_iret, bt_zret, bt_lret, bt_vret, bt_cV, bt_cS, bt_tab, bt_tsw, bt_lk, bt_lsw, bt_acp, bt_mmax, bt_mmin, bt_can, bt_icmpeq, bt_ifeq, bt_icmpne, bt_ifne, bt_icmplt, bt_iflt, bt_icmpge, bt_ifge, bt_icmpgt, bt_ifgt, bt_icmple, bt_ifle, bt_ret, bt_kill, bt_kl, bt_ix, bt_nl, bt_sm, bt_sr, bt_sig, bt_tg, bt_loc, bt_locs, List.getElem?_cons_zero, List.getElem?_cons_succ, List.set_cons_zero, List.set_cons_succ, List.map_cons, List.map_nil, List.take_succ_cons, List.take_zero, List.drop_succ_cons, List.drop_zero, List.reverse_cons, List.reverse_nil, List.nil_append, List.cons_append, List.append_nil, List.length_cons, List.length_nil, List.replicate_succ, List.replicate_zero, Option.toList_some, Option.toList_none, Nat.reduceAdd, Nat.reduceSub, Nat.reduceLeDiff, Nat.zero_add, Nat.zero_le, true_and, and_true, Int.toNat_natCast, Sum.inl.injEq, Sum.inr.injEq, ↓reduceIte, Nat.reduceEqDiff, sh_6, sh_8, sh_9, hρ 6 _ (by decide), rf_6_2, rf_6_3, c6, c8, hs, bt_w_id]
    refine ⟨by decide, ?_⟩
    by_cases hc : s ≤ i
    · rw [if_pos (by omega)]
      have : i = s := by omega
      subst this
      have hv := hE.2.2 (μ 7) 0 (μ 9) (by omega)
      rw [Nat.sub_zero, ← hq] at hv
      have e0 : Int.toNat 0 = 0 := rfl
      rw [e0, h9, hv.2.1]
      exact ⟨by decide, by decide, hQ μ1 hfr⟩
    · rw [if_neg (by omega)]
      have hx := hE.2.1 i (by omega) (by omega)
      have hnext : fo_ev (μ 7) (μ 8) (i + 1) 0 (0, μ 9) = fo_e1 (μ 7) q (μ 8 i) := by rw [fo_ev_s, ← hq, Nat.zero_add]
      generalize hxx : μ 8 i = x at *
      have fin : ∀ (μ2 : Nat → Nat → Int) (q' : Nat × (Nat → Int)) (y : Int), fo_e1 (μ 7) q x = q' → bt_fr (fun a => a = 9) μ2 μ → μ2 9 = q'.2 → y = (q'.1 : Int) → ∃ m, m < s - i ∧ iX0_value ρ μ s 4 m [] [some (.inr (.inr 6)), some (.inl y), some (.inl ((i : Int) + 1)), none] (bt_wd ρ μ2) := by
        intro μ2 q' y h1 h2 h3 h4
        exact ⟨s - (i + 1), by omega, rfl, μ2, i + 1, q', rfl, by omega, rfl, by rw [h4]; rfl, h2, by rw [hnext, h1], h3⟩
      have hfu : ∀ k y, bt_fr (fun a => a = 9) (bt_up μ1 9 k y) μ := fun k y a ha => by rw [bt_up_cell ha]; exact hfr a ha
      simp (disch := omega) only [bt_w_id]
      refine ⟨by decide, by refine ⟨by decide, by omega, ?_⟩; show (i : Int) < 1000; omega, ?_⟩
      unfold fo_e1 at fin
      by_cases h1 : x ≤ -10
      · rw [if_pos h1]
        rw [if_neg (by omega)] at fin
        by_cases h2 : x = -10
        · rw [if_pos h2]
          rw [if_pos h2] at fin
          by_cases h3 : q.1 < 1
          · rw [if_pos (by omega)]
            rw [if_neg (by omega)] at fin
            exact fin μ1 q _ rfl hfr h9 rfl
          · rw [if_neg (by omega)]
            rw [if_pos (by omega)] at fin
            have e1 : ((q.1 : Int) - 1).toNat = q.1 - 1 := by omega
            simp (disch := omega) only [bt_w_id, e1, h9]
            refine ⟨by decide, by decide, ⟨by decide, by omega, by show (q.1 : Int) - 1 < 32; omega⟩, ?_⟩
            by_cases h4 : bt_w (q.2 (q.1 - 1)) = 0
            · rw [if_pos h4]
              refine ⟨⟨by decide, by omega, by show (q.1 : Int) - 1 < 32; omega⟩, ?_⟩
              exact fin _ _ _ rfl (hfu _ _) (by rw [bt_up_put, h9]; unfold fo_nt; rw [if_pos h4]) rfl
            · rw [if_neg h4]
              refine ⟨⟨by decide, by omega, by show (q.1 : Int) - 1 < 32; omega⟩, ?_⟩
              exact fin _ _ _ rfl (hfu _ _) (by rw [bt_up_put, h9]; unfold fo_nt; rw [if_neg h4]) rfl
        · rw [if_neg h2]
          rw [if_neg h2] at fin
          by_cases h3 : q.1 < 2
          · rw [if_pos (by omega)]
            rw [if_neg (by omega)] at fin
            exact fin μ1 q _ rfl hfr h9 rfl
          · rw [if_neg (by omega)]
            rw [if_pos (by omega)] at fin
            have e1 : ((q.1 : Int) + -1).toNat = q.1 - 1 := by omega
            have e2 : ((q.1 : Int) + -1 - 1).toNat = q.1 - 2 := by omega
            simp (disch := omega) only [bt_w_id, e1, e2, h9]
            refine ⟨by decide, by decide, ⟨by decide, by omega, by show (q.1 : Int) + -1 - 1 < 32; omega⟩, by decide, ⟨by decide, by omega, by show (q.1 : Int) + -1 < 32; omega⟩, ?_⟩
            refine fo_jn_call (by omega) ?_
            simp (disch := omega) only [bt_ild, bt_lld, bt_ald, bt_ist, bt_lst, bt_ast, bt_inc, bt_ic, bt_lc, bt_iadd, bt_isub, bt_imul, bt_iand, bt_ior, bt_ixor, bt_ishl, bt_ishr, bt_iushr, bt_ladd, bt_lsub, bt_lmul, bt_land, bt_lor, bt_lushr, bt_lshl, bt_idiv, bt_irem, bt_ldiv, bt_lrem, bt_lcmp, bt_i2l, bt_l2i, bt_i2b, bt_pop, bt_dup, bt_dup2, bt_gfI, bt_gfJ, bt_gfR, bt_pfI, bt_pfZ, bt_pfJ, bt_pfR, bt_ial, bt_bal, bt_zal, bt_lal, bt_aal, bt_ias, bt_bas, bt_zas, bt_las, bt_len, bt_iret, bt_zret, bt_lret, bt_vret, bt_cV, bt_cS, bt_tab, bt_tsw, bt_lk, bt_lsw, bt_acp, bt_mmax, bt_mmin, bt_can, bt_icmpeq, bt_ifeq, bt_icmpne, bt_ifne, bt_icmplt, bt_iflt, bt_icmpge, bt_ifge, bt_icmpgt, bt_ifgt, bt_icmple, bt_ifle, bt_ret, bt_kill, bt_kl, bt_ix, bt_nl, bt_sm, bt_sr, bt_sig, bt_tg, bt_loc, bt_locs, List.getElem?_cons_zero, List.getElem?_cons_succ, List.set_cons_zero, List.set_cons_succ, List.map_cons, List.map_nil, List.take_succ_cons, List.take_zero, List.drop_succ_cons, List.drop_zero, List.reverse_cons, List.reverse_nil, List.nil_append, List.cons_append, List.append_nil, List.length_cons, List.length_nil, List.replicate_succ, List.replicate_zero, Option.toList_some, Option.toList_none, Nat.reduceAdd, Nat.reduceSub, Nat.reduceLeDiff, Nat.zero_add, Nat.zero_le, true_and, and_true, Int.toNat_natCast, Sum.inl.injEq, Sum.inr.injEq, ↓reduceIte, Nat.reduceEqDiff, sh_9, bt_w_id, e2]
            refine ⟨⟨by decide, by omega, by show (q.1 : Int) + -1 - 1 < 32; omega⟩, ?_⟩
            exact fin _ _ _ rfl (hfu _ _) (by rw [bt_up_put, h9]) (by show (q.1 : Int) + -1 = ((q.1 - 1 : Nat) : Int); omega)
      · rw [if_neg h1]
        rw [if_pos (by omega)] at fin
        by_cases h3 : 32 ≤ q.1
        · rw [if_pos (by omega)]
          rw [if_neg (by omega)] at fin
          exact fin μ1 q _ rfl hfr h9 rfl
        · rw [if_neg (by omega)]
          rw [if_pos (by omega)] at fin
          refine ⟨by decide, ?_⟩
          by_cases h4 : x < 0
          · rw [if_pos h4]
            rw [if_neg (by omega)] at fin
            have ex : -1 - x = (((-1 - x).toNat : Nat) : Int) := by omega
            rw [ex]
            refine ⟨by decide, fo_fact_call hρ (by omega) ?_⟩
            simp (disch := omega) only [bt_ild, bt_lld, bt_ald, bt_ist, bt_lst, bt_ast, bt_inc, bt_ic, bt_lc, bt_iadd, bt_isub, bt_imul, bt_iand, bt_ior, bt_ixor, bt_ishl, bt_ishr, bt_iushr, bt_ladd, bt_lsub, bt_lmul, bt_land, bt_lor, bt_lushr, bt_lshl, bt_idiv, bt_irem, bt_ldiv, bt_lrem, bt_lcmp, bt_i2l, bt_l2i, bt_i2b, bt_pop, bt_dup, bt_dup2, bt_gfI, bt_gfJ, bt_gfR, bt_pfI, bt_pfZ, bt_pfJ, bt_pfR, bt_ial, bt_bal, bt_zal, bt_lal, bt_aal, bt_ias, bt_bas, bt_zas, bt_las, bt_len, bt_iret, bt_zret, bt_lret, bt_vret, bt_cV, bt_cS, bt_tab, bt_tsw, bt_lk, bt_lsw, bt_acp, bt_mmax, bt_mmin, bt_can, bt_icmpeq, bt_ifeq, bt_icmpne, bt_ifne, bt_icmplt, bt_iflt, bt_icmpge, bt_ifge, bt_icmpgt, bt_ifgt, bt_icmple, bt_ifle, bt_ret, bt_kill, bt_kl, bt_ix, bt_nl, bt_sm, bt_sr, bt_sig, bt_tg, bt_loc, bt_locs, List.getElem?_cons_zero, List.getElem?_cons_succ, List.set_cons_zero, List.set_cons_succ, List.map_cons, List.map_nil, List.take_succ_cons, List.take_zero, List.drop_succ_cons, List.drop_zero, List.reverse_cons, List.reverse_nil, List.nil_append, List.cons_append, List.append_nil, List.length_cons, List.length_nil, List.replicate_succ, List.replicate_zero, Option.toList_some, Option.toList_none, Nat.reduceAdd, Nat.reduceSub, Nat.reduceLeDiff, Nat.zero_add, Nat.zero_le, true_and, and_true, Int.toNat_natCast, Sum.inl.injEq, Sum.inr.injEq, ↓reduceIte, Nat.reduceEqDiff, sh_9, bt_w_id]
            refine ⟨⟨by decide, by omega, by show (q.1 : Int) < 32; omega⟩, ?_⟩
            rw [c7]
            refine fin (bt_up μ1 9 q.1 (if 5 ≤ (-1 - x).toNat then 0 else μ 7 (-1 - x).toNat)) _ _ rfl (hfu _ _) ?_ rfl
            rw [bt_up_put, h9]
            by_cases h5 : x < -5
            · rw [if_pos h5, if_pos (by omega)]
            · rw [if_neg h5, if_neg (by omega)]
          · rw [if_neg h4]
            rw [if_pos (by omega)] at fin
            refine ⟨⟨by decide, by omega, by show (q.1 : Int) < 32; omega⟩, ?_⟩
            exact fin _ _ _ rfl (hfu _ _) (by rw [bt_up_put, h9]) rfl
