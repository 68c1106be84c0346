/-! the reference: what it holds; its small methods -/
def rf_N (μ ζ : Nat → Nat → Int) : Prop := ((μ 207 0 = (nP ζ : Int) ∧ nP ζ ≤ 6) ∧ (μ 207 1 = (nG ζ : Int) ∧ nG ζ ≤ 6) ∧ μ 207 2 = (nA ζ : Int) ∧ nA ζ ≤ 5) ∧ (μ 207 3 = ζ 0 3 ∧ μ 207 4 = (an_fp ζ : Int) ∧ μ 207 5 = ζ 0 4 ∧ μ 207 6 = ζ 0 5 ∧ μ 207 7 = ζ 0 6 ∧ μ 207 8 = ζ 0 7) ∧ (∀ p, p < nP ζ → μ 211 p = ζ 4 p) ∧ (∀ g, g < nG ζ → μ 212 g = ζ 5 g ∧ μ 218 g = ζ 7 g) ∧ ∀ a, a < nA ζ → μ 215 a = ζ 6 a
def rf_S (row : Nat → Int) (o : Nat) (ζ σ : Nat → Nat → Int) : Prop := row o = σ 0 0 ∧ row (o + 1) = σ 0 1 ∧ (∀ g, g < nG ζ → row (o + 2 + g) = σ 1 g ∧ row (o + 8 + g) = σ 2 g) ∧ (∀ a, a < nA ζ → row (o + 14 + a) = σ 3 a) ∧ (∀ g, nG ζ ≤ g → g < 6 → row (o + 8 + g) = 0) ∧ ∀ a, nA ζ ≤ a → a < 5 → row (o + 14 + a) = 0
theorem rf_S.sq {row : Nat → Int} {o : Nat} {ζ σ σ' : Nat → Nat → Int} (h : rf_S row o ζ σ) (hs : ab_sq ζ σ σ') : rf_S row o ζ σ' :=
  ⟨h.1.trans hs.1, h.2.1.trans hs.2.1, fun g hg => ⟨(h.2.2.1 g hg).1.trans (hs.2.2.1 g hg).1, (h.2.2.1 g hg).2.trans (hs.2.2.1 g hg).2⟩, fun a ha => (h.2.2.2.1 a ha).trans (hs.2.2.2 a ha), h.2.2.2.2⟩
theorem rf_S.cg {row row' : Nat → Int} {o o' : Nat} {ζ σ : Nat → Nat → Int} (hZ : nG ζ ≤ 6 ∧ nA ζ ≤ 5) (h : rf_S row o ζ σ) (e : ∀ k, k < 19 → row' (o' + k) = row (o + k)) : rf_S row' o' ζ σ := by
  obtain ⟨h1, h2, h3, h4, h5, h6⟩ := h
  refine ⟨(e 0 (by omega)).trans h1, (e 1 (by omega)).trans h2, fun g hg => ⟨?_, ?_⟩, fun a ha => ?_, fun g h7 h8 => ?_, fun a h7 h8 => ?_⟩
  · have := e (2 + g) (by omega); rw [← Nat.add_assoc, ← Nat.add_assoc] at this; exact this.trans (h3 g hg).1
  · have := e (8 + g) (by omega); rw [← Nat.add_assoc, ← Nat.add_assoc] at this; exact this.trans (h3 g hg).2
  · have := e (14 + a) (by omega); rw [← Nat.add_assoc, ← Nat.add_assoc] at this; exact this.trans (h4 a ha)
  · have := e (8 + g) (by omega); rw [← Nat.add_assoc, ← Nat.add_assoc] at this; exact this.trans (h5 g h7 h8)
  · have := e (14 + a) (by omega); rw [← Nat.add_assoc, ← Nat.add_assoc] at this; exact this.trans (h6 a h7 h8)
theorem rf_N.fr {μ' μ ζ : Nat → Nat → Int} (h : rf_N μ ζ) (e : ∀ a, a = 207 ∨ a = 211 ∨ a = 212 ∨ a = 215 ∨ a = 218 → μ' a = μ a) : rf_N μ' ζ := by
  unfold rf_N at *
  rw [e 207 (by omega), e 211 (by omega), e 212 (by omega), e 215 (by omega), e 218 (by omega)]
  exact h
def SpX11_thrown : bt_Sp := fun As w Q => tX11_thrown_0 bt_k0 Q [] (bt_loc 1 As) w
theorem mtX11_thrown : bt_Met yX11_thrown cX11_thrown 1 (some .int) 1 [2] SpX11_thrown := lfX11_thrown
def SpX11_within : bt_Sp := fun As w Q => tX11_within_0 bt_k0 Q [] (bt_loc 3 As) w
theorem mtX11_within : bt_Met yX11_within cX11_within 3 (some .boolean) 1 [0, 0, 0] SpX11_within := lfX11_within
def SpX11_between : bt_Sp := fun As w Q => tX11_between_0 bt_k0 Q [] (bt_loc 3 As) w
theorem mtX11_between : bt_Met yX11_between cX11_between 3 (some .int) 1 [0, 0, 0] SpX11_between := lfX11_between
def SpX11_isPen : bt_Sp := fun As w Q => tX11_isPen_0 bt_k0 Q [] (bt_loc 2 As) w
theorem mtX11_isPen : bt_Met yX11_isPen cX11_isPen 2 (some .boolean) 1 [2, 0] SpX11_isPen := lfX11_isPen
def SpX11_isGuest : bt_Sp := fun As w Q => tX11_isGuest_0 bt_k0 Q [] (bt_loc 2 As) w
theorem mtX11_isGuest : bt_Met yX11_isGuest cX11_isGuest 2 (some .boolean) 1 [2, 0] SpX11_isGuest := lfX11_isGuest
def SpX11_isAnimal : bt_Sp := fun As w Q => tX11_isAnimal_0 bt_k0 Q [] (bt_loc 2 As) w
theorem mtX11_isAnimal : bt_Met yX11_isAnimal cX11_isAnimal 2 (some .boolean) 1 [2, 0] SpX11_isAnimal := lfX11_isAnimal
def SpX11_allGuests : bt_Sp := fun As w Q => tX11_allGuests_0 bt_k0 Q [] (bt_loc 1 As) w
theorem mtX11_allGuests : bt_Met yX11_allGuests cX11_allGuests 1 (some .int) 1 [2] SpX11_allGuests := lfX11_allGuests
theorem rw_call {x a b : Int} (hx : bt_i32 x) (ha : bt_i32 a) (hb : bt_i32 b) {w : bt_W} {Q : Option bt_V → bt_W → Prop} (h : Q (some (.inl (if a ≤ x ∧ x ≤ b then 1 else 0))) w) : SpX11_within [.inl x, .inl a, .inl b] w Q := by
  unfold bt_i32 at *
  simp (disch := omega) only [SpX11_within, tX11_within_0, tX11_within_14, tX11_within_15, bt_ild, bt_lld, bt_ald, bt_ist, bt_lst, bt_ast, bt_inc, bt_ic, bt_lc, bt_iadd, bt_isub, bt_imul, bt_iand, bt_ior, bt_ixor, bt_ishl, bt_ishr, bt_iushr, bt_ladd, bt_lsub, bt_lmul, bt_land, bt_lor, bt_lushr, bt_lshl, bt_idiv, bt_irem, bt_ldiv, bt_lrem, bt_lcmp, bt_i2l, bt_l2i, bt_i2b, bt_pop, bt_dup, bt_dup2, bt_gfI, bt_gfJ, bt_gfR, bt_pfI, bt_pfZ, bt_pfJ, bt_pfR, bt_ial, bt_bal, bt_zal, bt_lal, bt_aal, bt_ias, bt_bas, bt_zas, bt_las, bt_len, bt_iret, bt_zret, bt_lret, bt_vret, bt_cV, bt_cS, bt_tab, bt_tsw, bt_lk, bt_lsw, bt_acp, bt_mmax, bt_mmin, bt_can, bt_icmpeq, bt_ifeq, bt_icmpne, bt_ifne, bt_icmplt, bt_iflt, bt_icmpge, bt_ifge, bt_icmpgt, bt_ifgt, bt_icmple, bt_ifle, bt_ret, bt_kill, bt_kl, bt_ix, bt_nl, bt_sm, bt_sr, bt_sig, bt_tg, bt_loc, bt_locs, List.getElem?_cons_zero, List.getElem?_cons_succ, List.set_cons_zero, List.set_cons_succ, List.map_cons, List.map_nil, List.take_succ_cons, List.take_zero, List.drop_succ_cons, List.drop_zero, List.reverse_cons, List.reverse_nil, List.nil_append, List.cons_append, List.append_nil, List.length_cons, List.length_nil, List.replicate_succ, List.replicate_zero, Option.toList_some, Option.toList_none, Nat.reduceAdd, Nat.reduceSub, Nat.reduceLeDiff, Nat.zero_add, Nat.zero_le, true_and, and_true, Int.toNat_natCast, Sum.inl.injEq, Sum.inr.injEq, ↓reduceIte, Nat.reduceEqDiff, bt_w_id]
  by_cases h1 : x < a
  · rw [if_pos h1]
    rw [if_neg (by omega)] at h
    exact ⟨by simp, h⟩
  · rw [if_neg h1]
    by_cases h2 : b < x
    · rw [if_pos h2]
      rw [if_neg (by omega)] at h
      exact ⟨by simp, h⟩
    · rw [if_neg h2]
      rw [if_pos (by omega)] at h
      exact ⟨by simp, h⟩
theorem rb_call {v top : Int} (hv : bt_i32 v) (h3 : 0 ≤ top) (h4 : top ≤ 2147483647) {w : bt_W} {Q : Option bt_V → bt_W → Prop} (h : Q (some (.inl (ab_cl v top))) w) : SpX11_between [.inl v, .inl 0, .inl top] w Q := by
  unfold bt_i32 at *
  unfold ab_cl at h
  simp (disch := omega) only [SpX11_between, tX11_between_0, tX11_between_19, bt_ild, bt_lld, bt_ald, bt_ist, bt_lst, bt_ast, bt_inc, bt_ic, bt_lc, bt_iadd, bt_isub, bt_imul, bt_iand, bt_ior, bt_ixor, bt_ishl, bt_ishr, bt_iushr, bt_ladd, bt_lsub, bt_lmul, bt_land, bt_lor, bt_lushr, bt_lshl, bt_idiv, bt_irem, bt_ldiv, bt_lrem, bt_lcmp, bt_i2l, bt_l2i, bt_i2b, bt_pop, bt_dup, bt_dup2, bt_gfI, bt_gfJ, bt_gfR, bt_pfI, bt_pfZ, bt_pfJ, bt_pfR, bt_ial, bt_bal, bt_zal, bt_lal, bt_aal, bt_ias, bt_bas, bt_zas, bt_las, bt_len, bt_iret, bt_zret, bt_lret, bt_vret, bt_cV, bt_cS, bt_tab, bt_tsw, bt_lk, bt_lsw, bt_acp, bt_mmax, bt_mmin, bt_can, bt_icmpeq, bt_ifeq, bt_icmpne, bt_ifne, bt_icmplt, bt_iflt, bt_icmpge, bt_ifge, bt_icmpgt, bt_ifgt, bt_icmple, bt_ifle, bt_ret, bt_kill, bt_kl, bt_ix, bt_nl, bt_sm, bt_sr, bt_sig, bt_tg, bt_loc, bt_locs, List.getElem?_cons_zero, List.getElem?_cons_succ, List.set_cons_zero, List.set_cons_succ, List.map_cons, List.map_nil, List.take_succ_cons, List.take_zero, List.drop_succ_cons, List.drop_zero, List.reverse_cons, List.reverse_nil, List.nil_append, List.cons_append, List.append_nil, List.length_cons, List.length_nil, List.replicate_succ, List.replicate_zero, Option.toList_some, Option.toList_none, Nat.reduceAdd, Nat.reduceSub, Nat.reduceLeDiff, Nat.zero_add, Nat.zero_le, true_and, and_true, Int.toNat_natCast, Sum.inl.injEq, Sum.inr.injEq, ↓reduceIte, Nat.reduceEqDiff, bt_w_id]
  by_cases h1 : v < 0
  · rw [if_neg (by omega)]
    rw [if_pos h1] at h
    exact h
  · rw [if_pos (by omega)]
    rw [if_neg h1] at h
    by_cases h2 : top < v
    · rw [if_neg (by omega)]
      rw [if_pos h2] at h
      exact h
    · rw [if_pos (by omega)]
      rw [if_neg h2] at h
      exact h
theorem ri_call {ρ : Nat → Nat → Option Nat} {μ : Nat → Nat → Int} {x : Int} {f n : Nat} (hρ : bt_Rf ρ) (hn : μ 207 f = (n : Int)) (hn6 : n ≤ 6) (hx : bt_i32 x) (Sp : bt_Sp) (hSp : Sp = SpX11_isPen ∧ f = 0 ∨ Sp = SpX11_isGuest ∧ f = 1 ∨ Sp = SpX11_isAnimal ∧ f = 2) {Q : Option bt_V → bt_W → Prop} (hq : Q (some (.inl (if 0 ≤ x ∧ x < n then 1 else 0))) (bt_wd ρ μ)) : Sp [.inr (.inr 205), .inl x] (bt_wd ρ μ) Q := by
  unfold bt_i32 at hx
  rcases hSp with ⟨rfl, rfl⟩ | ⟨rfl, rfl⟩ | ⟨rfl, rfl⟩
  · simp (disch := omega) only [SpX11_isPen, tX11_isPen_0, tX11_isPen_18, tX11_isPen_19, bt_ild, bt_lld, bt_ald, bt_ist, bt_lst, bt_ast, bt_inc, bt_ic, bt_lc, bt_iadd, bt_isub, bt_imul, bt_iand, bt_ior, bt_ixor, bt_ishl, bt_ishr, bt_iushr, bt_ladd, bt_lsub, bt_lmul, bt_land, bt_lor, bt_lushr, bt_lshl, bt_idiv, bt_irem, bt_ldiv, bt_lrem, bt_lcmp, bt_i2l, bt_l2i, bt_i2b, bt_pop, bt_dup, bt_dup2, bt_gfI, bt_gfJ, bt_gfR, bt_pfI, bt_pfZ, bt_pfJ, bt_pfR, bt_ial, bt_bal, bt_zal, bt_lal, bt_aal, bt_ias, bt_bas, bt_zas, bt_las, bt_len, bt_iret, bt_zret, bt_lret, bt_vret, bt_cV, bt_cS, bt_tab, bt_tsw, bt_lk, bt_lsw, bt_acp, bt_mmax, bt_mmin, bt_can, bt_icmpeq, bt_ifeq, bt_icmpne, bt_ifne, bt_icmplt, bt_iflt, bt_icmpge, bt_ifge, bt_icmpgt, bt_ifgt, bt_icmple, bt_ifle, bt_ret, bt_kill, bt_kl, bt_ix, bt_nl, bt_sm, bt_sr, bt_sig, bt_tg, bt_loc, bt_locs, List.getElem?_cons_zero, List.getElem?_cons_succ, List.set_cons_zero, List.set_cons_succ, List.map_cons, List.map_nil, List.take_succ_cons, List.take_zero, List.drop_succ_cons, List.drop_zero, List.reverse_cons, List.reverse_nil, List.nil_append, List.cons_append, List.append_nil, List.length_cons, List.length_nil, List.replicate_succ, List.replicate_zero, Option.toList_some, Option.toList_none, Nat.reduceAdd, Nat.reduceSub, Nat.reduceLeDiff, Nat.zero_add, Nat.zero_le, true_and, and_true, Int.toNat_natCast, Sum.inl.injEq, Sum.inr.injEq, ↓reduceIte, Nat.reduceEqDiff, hρ 205 _ (by decide), rf_205_2, rf_205_10, rf_205_11, rf_205_12, rf_205_13, rf_205_14, rf_205_15, rf_205_16, rf_205_17, rf_205_18, rf_205_19, rf_205_20, rf_205_21, rf_205_22, rf_205_23, rf_205_24, rf_205_28, rf_205_29, rf_205_30, rf_205_31, rf_205_32, rf_205_33, rf_205_34, rf_205_35, rf_205_36, rf_205_37, rf_205_38, rf_205_39, rf_205_42, rf_205_43, rf_205_44, rf_205_45, rf_205_46, rf_205_47, rf_205_48, rf_205_49, rf_205_50, rf_205_51, rf_205_52, rf_205_53, rf_205_55, rf_205_56, rf_205_57, rf_205_58, rf_205_59, rf_205_60, rf_205_61, rf_205_62, rf_205_63, rf_205_66, rf_205_67, rf_205_68, rf_205_70, rf_205_71, rf_205_72, sh_205, sh_206, sh_207, sh_208, sh_209, sh_210, sh_211, sh_212, sh_213, sh_214, sh_215, sh_216, sh_217, sh_218, sh_219, sh_220, sh_221, sh_222, sh_223, sh_224, sh_225, sh_226, sh_227, sh_228, sh_229, sh_230, sh_231, sh_232, sh_233, sh_234, sh_235, sh_236, sh_237, sh_238, sh_239, sh_240, sh_241, sh_242, sh_243, sh_244, sh_245, sh_246, sh_247, sh_248, sh_249, sh_250, sh_251, sh_252, sh_253, sh_254, sh_255, sh_256, sh_257, sh_258, sh_259, sh_260, bt_w_id, Int.toNat_zero, hn]
    by_cases h1 : x < 0
    · rw [if_pos h1]
      rw [if_neg (by omega)] at hq
      exact ⟨by simp, hq⟩
    · rw [if_neg h1]
      repeat (refine And.intro (by first | omega | decide | (simp only [and_true, true_and]; omega)) ?_)
      by_cases h2 : x < n
      · rw [if_neg (by omega)]
        rw [if_pos (by omega)] at hq
        exact ⟨by simp, hq⟩
      · rw [if_pos (by omega)]
        rw [if_neg (by omega)] at hq
        exact ⟨by simp, hq⟩
  · simp (disch := omega) only [SpX11_isGuest, tX11_isGuest_0, tX11_isGuest_18, tX11_isGuest_19, bt_ild, bt_lld, bt_ald, bt_ist, bt_lst, bt_ast, bt_inc, bt_ic, bt_lc, bt_iadd, bt_isub, bt_imul, bt_iand, bt_ior, bt_ixor, bt_ishl, bt_ishr, bt_iushr, bt_ladd, bt_lsub, bt_lmul, bt_land, bt_lor, bt_lushr, bt_lshl, bt_idiv, bt_irem, bt_ldiv, bt_lrem, bt_lcmp, bt_i2l, bt_l2i, bt_i2b, bt_pop, bt_dup, bt_dup2, bt_gfI, bt_gfJ, bt_gfR, bt_pfI, bt_pfZ, bt_pfJ, bt_pfR, bt_ial, bt_bal, bt_zal, bt_lal, bt_aal, bt_ias, bt_bas, bt_zas, bt_las, bt_len, bt_iret, bt_zret, bt_lret, bt_vret, bt_cV, bt_cS, bt_tab, bt_tsw, bt_lk, bt_lsw, bt_acp, bt_mmax, bt_mmin, bt_can, bt_icmpeq, bt_ifeq, bt_icmpne, bt_ifne, bt_icmplt, bt_iflt, bt_icmpge, bt_ifge, bt_icmpgt, bt_ifgt, bt_icmple, bt_ifle, bt_ret, bt_kill, bt_kl, bt_ix, bt_nl, bt_sm, bt_sr, bt_sig, bt_tg, bt_loc, bt_locs, List.getElem?_cons_zero, List.getElem?_cons_succ, List.set_cons_zero, List.set_cons_succ, List.map_cons, List.map_nil, List.take_succ_cons, List.take_zero, List.drop_succ_cons, List.drop_zero, List.reverse_cons, List.reverse_nil, List.nil_append, List.cons_append, List.append_nil, List.length_cons, List.length_nil, List.replicate_succ, List.replicate_zero, Option.toList_some, Option.toList_none, Nat.reduceAdd, Nat.reduceSub, Nat.reduceLeDiff, Nat.zero_add, Nat.zero_le, true_and, and_true, Int.toNat_natCast, Sum.inl.injEq, Sum.inr.injEq, ↓reduceIte, Nat.reduceEqDiff, hρ 205 _ (by decide), rf_205_2, rf_205_10, rf_205_11, rf_205_12, rf_205_13, rf_205_14, rf_205_15, rf_205_16, rf_205_17, rf_205_18, rf_205_19, rf_205_20, rf_205_21, rf_205_22, rf_205_23, rf_205_24, rf_205_28, rf_205_29, rf_205_30, rf_205_31, rf_205_32, rf_205_33, rf_205_34, rf_205_35, rf_205_36, rf_205_37, rf_205_38, rf_205_39, rf_205_42, rf_205_43, rf_205_44, rf_205_45, rf_205_46, rf_205_47, rf_205_48, rf_205_49, rf_205_50, rf_205_51, rf_205_52, rf_205_53, rf_205_55, rf_205_56, rf_205_57, rf_205_58, rf_205_59, rf_205_60, rf_205_61, rf_205_62, rf_205_63, rf_205_66, rf_205_67, rf_205_68, rf_205_70, rf_205_71, rf_205_72, sh_205, sh_206, sh_207, sh_208, sh_209, sh_210, sh_211, sh_212, sh_213, sh_214, sh_215, sh_216, sh_217, sh_218, sh_219, sh_220, sh_221, sh_222, sh_223, sh_224, sh_225, sh_226, sh_227, sh_228, sh_229, sh_230, sh_231, sh_232, sh_233, sh_234, sh_235, sh_236, sh_237, sh_238, sh_239, sh_240, sh_241, sh_242, sh_243, sh_244, sh_245, sh_246, sh_247, sh_248, sh_249, sh_250, sh_251, sh_252, sh_253, sh_254, sh_255, sh_256, sh_257, sh_258, sh_259, sh_260, bt_w_id, show Int.toNat 1 = 1 from rfl, hn]
    by_cases h1 : x < 0
    · rw [if_pos h1]
      rw [if_neg (by omega)] at hq
      exact ⟨by simp, hq⟩
    · rw [if_neg h1]
      repeat (refine And.intro (by first | omega | decide | (simp only [and_true, true_and]; omega)) ?_)
      by_cases h2 : x < n
      · rw [if_neg (by omega)]
        rw [if_pos (by omega)] at hq
        exact ⟨by simp, hq⟩
      · rw [if_pos (by omega)]
        rw [if_neg (by omega)] at hq
        exact ⟨by simp, hq⟩
  · simp (disch := omega) only [SpX11_isAnimal, tX11_isAnimal_0, tX11_isAnimal_18, tX11_isAnimal_19, bt_ild, bt_lld, bt_ald, bt_ist, bt_lst, bt_ast, bt_inc, bt_ic, bt_lc, bt_iadd, bt_isub, bt_imul, bt_iand, bt_ior, bt_ixor, bt_ishl, bt_ishr, bt_iushr, bt_ladd, bt_lsub, bt_lmul, bt_land, bt_lor, bt_lushr, bt_lshl, bt_idiv, bt_irem, bt_ldiv, bt_lrem, bt_lcmp, bt_i2l, bt_l2i, bt_i2b, bt_pop, bt_dup, bt_dup2, bt_gfI, bt_gfJ, bt_gfR, bt_pfI, bt_pfZ, bt_pfJ, bt_pfR, bt_ial, bt_bal, bt_zal, bt_lal, bt_aal, bt_ias, bt_bas, bt_zas, bt_las, bt_len, bt_iret, bt_zret, bt_lret, bt_vret, bt_cV, bt_cS, bt_tab, bt_tsw, bt_lk, bt_lsw, bt_acp, bt_mmax, bt_mmin, bt_can, bt_icmpeq, bt_ifeq, bt_icmpne, bt_ifne, bt_icmplt, bt_iflt, bt_icmpge, bt_ifge, bt_icmpgt, bt_ifgt, bt_icmple, bt_ifle, bt_ret, bt_kill, bt_kl, bt_ix, bt_nl, bt_sm, bt_sr, bt_sig, bt_tg, bt_loc, bt_locs, List.getElem?_cons_zero, List.getElem?_cons_succ, List.set_cons_zero, List.set_cons_succ, List.map_cons, List.map_nil, List.take_succ_cons, List.take_zero, List.drop_succ_cons, List.drop_zero, List.reverse_cons, List.reverse_nil, List.nil_append, List.cons_append, List.append_nil, List.length_cons, List.length_nil, List.replicate_succ, List.replicate_zero, Option.toList_some, Option.toList_none, Nat.reduceAdd, Nat.reduceSub, Nat.reduceLeDiff, Nat.zero_add, Nat.zero_le, true_and, and_true, Int.toNat_natCast, Sum.inl.injEq, Sum.inr.injEq, ↓reduceIte, Nat.reduceEqDiff, hρ 205 _ (by decide), rf_205_2, rf_205_10, rf_205_11, rf_205_12, rf_205_13, rf_205_14, rf_205_15, rf_205_16, rf_205_17, rf_205_18, rf_205_19, rf_205_20, rf_205_21, rf_205_22, rf_205_23, rf_205_24, rf_205_28, rf_205_29, rf_205_30, rf_205_31, rf_205_32, rf_205_33, rf_205_34, rf_205_35, rf_205_36, rf_205_37, rf_205_38, rf_205_39, rf_205_42, rf_205_43, rf_205_44, rf_205_45, rf_205_46, rf_205_47, rf_205_48, rf_205_49, rf_205_50, rf_205_51, rf_205_52, rf_205_53, rf_205_55, rf_205_56, rf_205_57, rf_205_58, rf_205_59, rf_205_60, rf_205_61, rf_205_62, rf_205_63, rf_205_66, rf_205_67, rf_205_68, rf_205_70, rf_205_71, rf_205_72, sh_205, sh_206, sh_207, sh_208, sh_209, sh_210, sh_211, sh_212, sh_213, sh_214, sh_215, sh_216, sh_217, sh_218, sh_219, sh_220, sh_221, sh_222, sh_223, sh_224, sh_225, sh_226, sh_227, sh_228, sh_229, sh_230, sh_231, sh_232, sh_233, sh_234, sh_235, sh_236, sh_237, sh_238, sh_239, sh_240, sh_241, sh_242, sh_243, sh_244, sh_245, sh_246, sh_247, sh_248, sh_249, sh_250, sh_251, sh_252, sh_253, sh_254, sh_255, sh_256, sh_257, sh_258, sh_259, sh_260, bt_w_id, show Int.toNat 2 = 2 from rfl, hn]
    by_cases h1 : x < 0
    · rw [if_pos h1]
      rw [if_neg (by omega)] at hq
      exact ⟨by simp, hq⟩
    · rw [if_neg h1]
      repeat (refine And.intro (by first | omega | decide | (simp only [and_true, true_and]; omega)) ?_)
      by_cases h2 : x < n
      · rw [if_neg (by omega)]
        rw [if_pos (by omega)] at hq
        exact ⟨by simp, hq⟩
      · rw [if_pos (by omega)]
        rw [if_neg (by omega)] at hq
        exact ⟨by simp, hq⟩
def SpX11_bits : bt_Sp := fun As w Q => ∃ x : Nat, As = [.inl (x : Int)] ∧ x < 65536 ∧ Q (some (.inl (bt_pcn x 16 : Int))) w
set_option maxHeartbeats 4000000 in
theorem mtX11_bits : bt_Met yX11_bits cX11_bits 3 (some .int) 1 [0] SpX11_bits := by
  refine lpX11_bits _ (fun As w Q _ hS => ?_)
  obtain ⟨x, rfl, hx, hQ⟩ := hS
  refine ⟨fun _ m st L w' => st = [] ∧ w' = w ∧ ∃ i : Nat, i ≤ 16 ∧ m = 16 - i ∧ L = [some (.inl (x : Int)), some (.inl (bt_pcn x i : Int)), some (.inl (i : Int))], ?_, ?_⟩
  · simp (disch := omega) only [tX11_bits_0, bt_ild, bt_lld, bt_ald, bt_ist, bt_lst, bt_ast, bt_inc, bt_ic, bt_lc, bt_iadd, bt_isub, bt_imul, bt_iand, bt_ior, bt_ixor, bt_ishl, bt_ishr, bt_iushr, bt_ladd, bt_lsub, bt_lmul, bt_land, bt_lor, bt_lushr, bt_lshl, bt_idiv, bt_irem, bt_ldiv, bt_lrem, bt_lcmp, bt_i2l, bt_l2i, bt_i2b, bt_pop, bt_dup, bt_dup2, bt_gfI, bt_gfJ, bt_gfR, bt_pfI, bt_pfZ, bt_pfJ, bt_pfR, bt_ial, bt_bal, bt_zal, bt_lal, bt_aal, bt_ias, bt_bas, bt_zas, bt_las, bt_len, bt_iret, bt_zret, bt_lret, bt_vret, bt_cV, bt_cS, bt_tab, bt_tsw, bt_lk, bt_lsw, bt_acp, bt_mmax, bt_mmin, bt_can, bt_icmpeq, bt_ifeq, bt_icmpne, bt_ifne, bt_icmplt, bt_iflt, bt_icmpge, bt_ifge, bt_icmpgt, bt_ifgt, bt_icmple, bt_ifle, bt_ret, bt_kill, bt_kl, bt_ix, bt_nl, bt_sm, bt_sr, bt_sig, bt_tg, bt_loc, bt_locs, List.getElem?_cons_zero, List.getElem?_cons_succ, List.set_cons_zero, List.set_cons_succ, List.map_cons, List.map_nil, List.take_succ_cons, List.take_zero, List.drop_succ_cons, List.drop_zero, List.reverse_cons, List.reverse_nil, List.nil_append, List.cons_append, List.append_nil, List.length_cons, List.length_nil, List.replicate_succ, List.replicate_zero, Option.toList_some, Option.toList_none, Nat.reduceAdd, Nat.reduceSub, Nat.reduceLeDiff, Nat.zero_add, Nat.zero_le, true_and, and_true, Int.toNat_natCast, Sum.inl.injEq, Sum.inr.injEq, ↓reduceIte, Nat.reduceEqDiff]
    exact ⟨16, 0, by omega, by omega, rfl⟩
  · rintro m st L w' ⟨rfl, rfl, i, hi, rfl, rfl⟩
    simp (disch := omega) only [tX11_bits_4, bt_ild, bt_lld, bt_ald, bt_ist, bt_lst, bt_ast, bt_inc, bt_ic, bt_lc, bt_iadd, bt_isub, bt_imul, bt_iand, bt_ior, bt_ixor, bt_ishl, bt_ishr, bt_iushr, bt_ladd, bt_lsub, bt_lmul, bt_land, bt_lor, bt_lushr, bt_lshl, bt_idiv, bt_irem, bt_ldiv, bt_lrem, bt_lcmp, bt_i2l, bt_l2i, bt_i2b, bt_pop, bt_dup, bt_dup2, bt_gfI, bt_gfJ, bt_gfR, bt_pfI, bt_pfZ, bt_pfJ, bt_pfR, bt_ial, bt_bal, bt_zal, bt_lal, bt_aal, bt_ias, bt_bas, bt_zas, bt_las, bt_len, bt_iret, bt_zret, bt_lret, bt_vret, bt_cV, bt_cS, bt_tab, bt_tsw, bt_lk, bt_lsw, bt_acp, bt_mmax, bt_mmin, bt_can, bt_icmpeq, bt_ifeq, bt_icmpne, bt_ifne, bt_icmplt, bt_iflt, bt_icmpge, bt_ifge, bt_icmpgt, bt_ifgt, bt_icmple, bt_ifle, bt_ret, bt_kill, bt_kl, bt_ix, bt_nl, bt_sm, bt_sr, bt_sig, bt_tg, bt_loc, bt_locs, List.getElem?_cons_zero, List.getElem?_cons_succ, List.set_cons_zero, List.set_cons_succ, List.map_cons, List.map_nil, List.take_succ_cons, List.take_zero, List.drop_succ_cons, List.drop_zero, List.reverse_cons, List.reverse_nil, List.nil_append, List.cons_append, List.append_nil, List.length_cons, List.length_nil, List.replicate_succ, List.replicate_zero, Option.toList_some, Option.toList_none, Nat.reduceAdd, Nat.reduceSub, Nat.reduceLeDiff, Nat.zero_add, Nat.zero_le, true_and, and_true, Int.toNat_natCast, Sum.inl.injEq, Sum.inr.injEq, ↓reduceIte, Nat.reduceEqDiff, bt_w_id]
    by_cases hc : 16 ≤ i
    · rw [if_pos (by omega)]
      have : i = 16 := by omega
      subst this
      exact hQ
    · rw [if_neg (by omega), bo_bit (by omega) (by omega)]
      refine ⟨16 - (i + 1), by omega, i + 1, by omega, rfl, ?_⟩
      rw [show bt_pcn x (i + 1) = bt_pcn x i + (if x.testBit i then 1 else 0) from rfl]
      split <;> simp
theorem bo_ior0 {a : Nat} (h : a < 2 ^ 31) : bo_ior (a : Int) 0 = (a : Int) := by
  have := bo_ior_nat (a := a) (b := 0) h (by decide)
  rw [Nat.or_zero] at this
  exact this
theorem bt_bn64 {p : Nat → Bool} {i : Nat} (h : i ≤ 6) : bt_bn p i < 2 ^ 31 := Nat.lt_of_lt_of_le (bt_bn_lt p i) (Nat.pow_le_pow_right (by decide) (by omega))
def SpX11_guestsIn : bt_Sp := fun As w Q => ∃ (ρ : Nat → Nat → Option Nat) (μ : Nat → Nat → Int) (ζ σ : Nat → Nat → Int) (p : Int), As = [.inr (.inr 205), .inl p] ∧ w = bt_wd ρ μ ∧ bt_Rf ρ ∧ rf_N μ ζ ∧ rf_S (μ 240) 0 ζ σ ∧ Q (some (.inl (ab_in ζ σ p : Int))) w
set_option maxHeartbeats 4000000 in
theorem mtX11_guestsIn : bt_Met yX11_guestsIn cX11_guestsIn 4 (some .int) 1 [2, 0] SpX11_guestsIn := by
  refine lpX11_guestsIn _ (fun As w Q _ hS => ?_)
  obtain ⟨ρ, μ, ζ, σ, p, rfl, rfl, hρ, hN, hSt, hQ⟩ := hS
  obtain ⟨⟨-, ⟨n1, m1⟩, -⟩, -⟩ := id hN
  have t1 : Int.toNat 1 = 1 := rfl
  refine ⟨fun _ m st L w => st = [] ∧ w = bt_wd ρ μ ∧ ∃ i : Nat, i ≤ nG ζ ∧ m = nG ζ - i ∧ L = [some (.inr (.inr 205)), some (.inl p), some (.inl ((bt_bn (fun i => decide (bt_w (σ 1 i) = bt_w p)) i : Nat) : Int)), some (.inl (i : Int))], ?_, ?_⟩
  · simp (disch := omega) only [tX11_guestsIn_0, bt_ild, bt_lld, bt_ald, bt_ist, bt_lst, bt_ast, bt_inc, bt_ic, bt_lc, bt_iadd, bt_isub, bt_imul, bt_iand, bt_ior, bt_ixor, bt_ishl, bt_ishr, bt_iushr, bt_ladd, bt_lsub, bt_lmul, bt_land, bt_lor, bt_lushr, bt_lshl, bt_idiv, bt_irem, bt_ldiv, bt_lrem, bt_lcmp, bt_i2l, bt_l2i, bt_i2b, bt_pop, bt_dup, bt_dup2, bt_gfI, bt_gfJ, bt_gfR, bt_pfI, bt_pfZ, bt_pfJ, bt_pfR, bt_ial, bt_bal, bt_zal, bt_lal, bt_aal, bt_ias, bt_bas, bt_zas, bt_las, bt_len, bt_iret, bt_zret, bt_lret, bt_vret, bt_cV, bt_cS, bt_tab, bt_tsw, bt_lk, bt_lsw, bt_acp, bt_mmax, bt_mmin, bt_can, bt_icmpeq, bt_ifeq, bt_icmpne, bt_ifne, bt_icmplt, bt_iflt, bt_icmpge, bt_ifge, bt_icmpgt, bt_ifgt, bt_icmple, bt_ifle, bt_ret, bt_kill, bt_kl, bt_ix, bt_nl, bt_sm, bt_sr, bt_sig, bt_tg, bt_loc, bt_locs, List.getElem?_cons_zero, List.getElem?_cons_succ, List.set_cons_zero, List.set_cons_succ, List.map_cons, List.map_nil, List.take_succ_cons, List.take_zero, List.drop_succ_cons, List.drop_zero, List.reverse_cons, List.reverse_nil, List.nil_append, List.cons_append, List.append_nil, List.length_cons, List.length_nil, List.replicate_succ, List.replicate_zero, Option.toList_some, Option.toList_none, Nat.reduceAdd, Nat.reduceSub, Nat.reduceLeDiff, Nat.zero_add, Nat.zero_le, true_and, and_true, Int.toNat_natCast, Sum.inl.injEq, Sum.inr.injEq, ↓reduceIte, Nat.reduceEqDiff]
    exact ⟨nG ζ, 0, by omega, by omega, rfl⟩
  · rintro m st L w ⟨rfl, rfl, i, hi, rfl, rfl⟩
    simp (disch := omega) only [tX11_guestsIn_4, tX11_guestsIn_34, bt_ild, bt_lld, bt_ald, bt_ist, bt_lst, bt_ast, bt_inc, bt_ic, bt_lc, bt_iadd, bt_isub, bt_imul, bt_iand, bt_ior, bt_ixor, bt_ishl, bt_ishr, bt_iushr, bt_ladd, bt_lsub, bt_lmul, bt_land, bt_lor, bt_lushr, bt_lshl, bt_idiv, bt_irem, bt_ldiv, bt_lrem, bt_lcmp, bt_i2l, bt_l2i, bt_i2b, bt_pop, bt_dup, bt_dup2, bt_gfI, bt_gfJ, bt_gfR, bt_pfI, bt_pfZ, bt_pfJ, bt_pfR, bt_ial, bt_bal, bt_zal, bt_lal, bt_aal, bt_ias, bt_bas, bt_zas, bt_las, bt_len, bt_iret, bt_zret, bt_lret, bt_vret, bt_cV, bt_cS, bt_tab, bt_tsw, bt_lk, bt_lsw, bt_acp, bt_mmax, bt_mmin, bt_can, bt_icmpeq, bt_ifeq, bt_icmpne, bt_ifne, bt_icmplt, bt_iflt, bt_icmpge, bt_ifge, bt_icmpgt, bt_ifgt, bt_icmple, bt_ifle, bt_ret, bt_kill, bt_kl, bt_ix, bt_nl, bt_sm, bt_sr, bt_sig, bt_tg, bt_loc, bt_locs, List.getElem?_cons_zero, List.getElem?_cons_succ, List.set_cons_zero, List.set_cons_succ, List.map_cons, List.map_nil, List.take_succ_cons, List.take_zero, List.drop_succ_cons, List.drop_zero, List.reverse_cons, List.reverse_nil, List.nil_append, List.cons_append, List.append_nil, List.length_cons, List.length_nil, List.replicate_succ, List.replicate_zero, Option.toList_some, Option.toList_none, Nat.reduceAdd, Nat.reduceSub, Nat.reduceLeDiff, Nat.zero_add, Nat.zero_le, true_and, and_true, Int.toNat_natCast, Sum.inl.injEq, Sum.inr.injEq, ↓reduceIte, Nat.reduceEqDiff, hρ 205 _ (by decide), rf_205_2, rf_205_10, rf_205_11, rf_205_12, rf_205_13, rf_205_14, rf_205_15, rf_205_16, rf_205_17, rf_205_18, rf_205_19, rf_205_20, rf_205_21, rf_205_22, rf_205_23, rf_205_24, rf_205_28, rf_205_29, rf_205_30, rf_205_31, rf_205_32, rf_205_33, rf_205_34, rf_205_35, rf_205_36, rf_205_37, rf_205_38, rf_205_39, rf_205_42, rf_205_43, rf_205_44, rf_205_45, rf_205_46, rf_205_47, rf_205_48, rf_205_49, rf_205_50, rf_205_51, rf_205_52, rf_205_53, rf_205_55, rf_205_56, rf_205_57, rf_205_58, rf_205_59, rf_205_60, rf_205_61, rf_205_62, rf_205_63, rf_205_66, rf_205_67, rf_205_68, rf_205_70, rf_205_71, rf_205_72, sh_205, sh_206, sh_207, sh_208, sh_209, sh_210, sh_211, sh_212, sh_213, sh_214, sh_215, sh_216, sh_217, sh_218, sh_219, sh_220, sh_221, sh_222, sh_223, sh_224, sh_225, sh_226, sh_227, sh_228, sh_229, sh_230, sh_231, sh_232, sh_233, sh_234, sh_235, sh_236, sh_237, sh_238, sh_239, sh_240, sh_241, sh_242, sh_243, sh_244, sh_245, sh_246, sh_247, sh_248, sh_249, sh_250, sh_251, sh_252, sh_253, sh_254, sh_255, sh_256, sh_257, sh_258, sh_259, sh_260, bt_w_id, t1, n1]
    repeat (refine And.intro (by first | omega | decide | (simp only [and_true, true_and]; omega)) ?_)
    by_cases hc : nG ζ ≤ i
    · rw [if_pos (by omega)]
      have : i = nG ζ := by omega
      subst this
      exact hQ
    · rw [if_neg (by omega)]
      repeat (refine And.intro (by first | omega | decide | (simp only [and_true, true_and]; omega)) ?_)
      have e1 : μ 240 ((2 : Int) + (i : Int)).toNat = σ 1 i := by
        rw [show ((2 : Int) + (i : Int)).toNat = 0 + 2 + i by omega]
        exact (hSt.2.2.1 i (by omega)).1
      rw [e1]
      by_cases hb : bt_w (σ 1 i) = bt_w p
      · rw [if_pos hb, bo_setbit (bt_bn_lt _ _) (by omega)]
        exact ⟨nG ζ - (i + 1), by omega, i + 1, by omega, rfl, by simp [bt_bn, hb]⟩
      · rw [if_neg hb, bo_ior0 (bt_bn64 (by omega))]
        exact ⟨nG ζ - (i + 1), by omega, i + 1, by omega, rfl, by simp [bt_bn, hb]⟩
def SpX11_pacing : bt_Sp := fun As w Q => ∃ (ρ : Nat → Nat → Option Nat) (μ : Nat → Nat → Int) (ζ σ : Nat → Nat → Int), As = [.inr (.inr 205)] ∧ w = bt_wd ρ μ ∧ bt_Rf ρ ∧ rf_N μ ζ ∧ rf_S (μ 240) 0 ζ σ ∧ Q (some (.inl (ab_pc ζ σ : Int))) w
set_option maxHeartbeats 4000000 in
theorem mtX11_pacing : bt_Met yX11_pacing cX11_pacing 3 (some .int) 1 [2] SpX11_pacing := by
  refine lpX11_pacing _ (fun As w Q _ hS => ?_)
  obtain ⟨ρ, μ, ζ, σ, rfl, rfl, hρ, hN, hSt, hQ⟩ := hS
  obtain ⟨⟨-, ⟨n1, m1⟩, -⟩, -⟩ := id hN
  have t1 : Int.toNat 1 = 1 := rfl
  refine ⟨fun _ m st L w => st = [] ∧ w = bt_wd ρ μ ∧ ∃ i : Nat, i ≤ nG ζ ∧ m = nG ζ - i ∧ L = [some (.inr (.inr 205)), some (.inl ((bt_bn (fun i => decide (bt_w (σ 2 i) = 0)) i : Nat) : Int)), some (.inl (i : Int))], ?_, ?_⟩
  · simp (disch := omega) only [tX11_pacing_0, bt_ild, bt_lld, bt_ald, bt_ist, bt_lst, bt_ast, bt_inc, bt_ic, bt_lc, bt_iadd, bt_isub, bt_imul, bt_iand, bt_ior, bt_ixor, bt_ishl, bt_ishr, bt_iushr, bt_ladd, bt_lsub, bt_lmul, bt_land, bt_lor, bt_lushr, bt_lshl, bt_idiv, bt_irem, bt_ldiv, bt_lrem, bt_lcmp, bt_i2l, bt_l2i, bt_i2b, bt_pop, bt_dup, bt_dup2, bt_gfI, bt_gfJ, bt_gfR, bt_pfI, bt_pfZ, bt_pfJ, bt_pfR, bt_ial, bt_bal, bt_zal, bt_lal, bt_aal, bt_ias, bt_bas, bt_zas, bt_las, bt_len, bt_iret, bt_zret, bt_lret, bt_vret, bt_cV, bt_cS, bt_tab, bt_tsw, bt_lk, bt_lsw, bt_acp, bt_mmax, bt_mmin, bt_can, bt_icmpeq, bt_ifeq, bt_icmpne, bt_ifne, bt_icmplt, bt_iflt, bt_icmpge, bt_ifge, bt_icmpgt, bt_ifgt, bt_icmple, bt_ifle, bt_ret, bt_kill, bt_kl, bt_ix, bt_nl, bt_sm, bt_sr, bt_sig, bt_tg, bt_loc, bt_locs, List.getElem?_cons_zero, List.getElem?_cons_succ, List.set_cons_zero, List.set_cons_succ, List.map_cons, List.map_nil, List.take_succ_cons, List.take_zero, List.drop_succ_cons, List.drop_zero, List.reverse_cons, List.reverse_nil, List.nil_append, List.cons_append, List.append_nil, List.length_cons, List.length_nil, List.replicate_succ, List.replicate_zero, Option.toList_some, Option.toList_none, Nat.reduceAdd, Nat.reduceSub, Nat.reduceLeDiff, Nat.zero_add, Nat.zero_le, true_and, and_true, Int.toNat_natCast, Sum.inl.injEq, Sum.inr.injEq, ↓reduceIte, Nat.reduceEqDiff]
    exact ⟨nG ζ, 0, by omega, by omega, rfl⟩
  · rintro m st L w ⟨rfl, rfl, i, hi, rfl, rfl⟩
    simp (disch := omega) only [tX11_pacing_4, tX11_pacing_34, bt_ild, bt_lld, bt_ald, bt_ist, bt_lst, bt_ast, bt_inc, bt_ic, bt_lc, bt_iadd, bt_isub, bt_imul, bt_iand, bt_ior, bt_ixor, bt_ishl, bt_ishr, bt_iushr, bt_ladd, bt_lsub, bt_lmul, bt_land, bt_lor, bt_lushr, bt_lshl, bt_idiv, bt_irem, bt_ldiv, bt_lrem, bt_lcmp, bt_i2l, bt_l2i, bt_i2b, bt_pop, bt_dup, bt_dup2, bt_gfI, bt_gfJ, bt_gfR, bt_pfI, bt_pfZ, bt_pfJ, bt_pfR, bt_ial, bt_bal, bt_zal, bt_lal, bt_aal, bt_ias, bt_bas, bt_zas, bt_las, bt_len, bt_iret, bt_zret, bt_lret, bt_vret, bt_cV, bt_cS, bt_tab, bt_tsw, bt_lk, bt_lsw, bt_acp, bt_mmax, bt_mmin, bt_can, bt_icmpeq, bt_ifeq, bt_icmpne, bt_ifne, bt_icmplt, bt_iflt, bt_icmpge, bt_ifge, bt_icmpgt, bt_ifgt, bt_icmple, bt_ifle, bt_ret, bt_kill, bt_kl, bt_ix, bt_nl, bt_sm, bt_sr, bt_sig, bt_tg, bt_loc, bt_locs, List.getElem?_cons_zero, List.getElem?_cons_succ, List.set_cons_zero, List.set_cons_succ, List.map_cons, List.map_nil, List.take_succ_cons, List.take_zero, List.drop_succ_cons, List.drop_zero, List.reverse_cons, List.reverse_nil, List.nil_append, List.cons_append, List.append_nil, List.length_cons, List.length_nil, List.replicate_succ, List.replicate_zero, Option.toList_some, Option.toList_none, Nat.reduceAdd, Nat.reduceSub, Nat.reduceLeDiff, Nat.zero_add, Nat.zero_le, true_and, and_true, Int.toNat_natCast, Sum.inl.injEq, Sum.inr.injEq, ↓reduceIte, Nat.reduceEqDiff, hρ 205 _ (by decide), rf_205_2, rf_205_10, rf_205_11, rf_205_12, rf_205_13, rf_205_14, rf_205_15, rf_205_16, rf_205_17, rf_205_18, rf_205_19, rf_205_20, rf_205_21, rf_205_22, rf_205_23, rf_205_24, rf_205_28, rf_205_29, rf_205_30, rf_205_31, rf_205_32, rf_205_33, rf_205_34, rf_205_35, rf_205_36, rf_205_37, rf_205_38, rf_205_39, rf_205_42, rf_205_43, rf_205_44, rf_205_45, rf_205_46, rf_205_47, rf_205_48, rf_205_49, rf_205_50, rf_205_51, rf_205_52, rf_205_53, rf_205_55, rf_205_56, rf_205_57, rf_205_58, rf_205_59, rf_205_60, rf_205_61, rf_205_62, rf_205_63, rf_205_66, rf_205_67, rf_205_68, rf_205_70, rf_205_71, rf_205_72, sh_205, sh_206, sh_207, sh_208, sh_209, sh_210, sh_211, sh_212, sh_213, sh_214, sh_215, sh_216, sh_217, sh_218, sh_219, sh_220, sh_221, sh_222, sh_223, sh_224, sh_225, sh_226, sh_227, sh_228, sh_229, sh_230, sh_231, sh_232, sh_233, sh_234, sh_235, sh_236, sh_237, sh_238, sh_239, sh_240, sh_241, sh_242, sh_243, sh_244, sh_245, sh_246, sh_247, sh_248, sh_249, sh_250, sh_251, sh_252, sh_253, sh_254, sh_255, sh_256, sh_257, sh_258, sh_259, sh_260, bt_w_id, t1, n1]
    repeat (refine And.intro (by first | omega | decide | (simp only [and_true, true_and]; omega)) ?_)
    by_cases hc : nG ζ ≤ i
    · rw [if_pos (by omega)]
      have : i = nG ζ := by omega
      subst this
      exact hQ
    · rw [if_neg (by omega)]
      repeat (refine And.intro (by first | omega | decide | (simp only [and_true, true_and]; omega)) ?_)
      have e1 : μ 240 ((8 : Int) + (i : Int)).toNat = σ 2 i := by
        rw [show ((8 : Int) + (i : Int)).toNat = 0 + 8 + i by omega]
        exact (hSt.2.2.1 i (by omega)).2
      rw [e1]
      by_cases hb : bt_w (σ 2 i) = 0
      · rw [if_pos hb, bo_setbit (bt_bn_lt _ _) (by omega)]
        exact ⟨nG ζ - (i + 1), by omega, i + 1, by omega, rfl, by simp [bt_bn, hb]⟩
      · rw [if_neg hb, bo_ior0 (bt_bn64 (by omega))]
        exact ⟨nG ζ - (i + 1), by omega, i + 1, by omega, rfl, by simp [bt_bn, hb]⟩
def SpX11_sumOf : bt_Sp := fun As w Q => ∃ (ρ : Nat → Nat → Option Nat) (μ : Nat → Nat → Int) (f m : Nat), As = [.inr (.inr 205), .inl (f : Int), .inl (m : Int)] ∧ w = bt_wd ρ μ ∧ bt_Rf ρ ∧ f + m ≤ 19 ∧ Q (some (.inl (bt_sn (fun k => μ 240 (f + k)) m))) w
set_option maxHeartbeats 4000000 in
theorem mtX11_sumOf : bt_Met yX11_sumOf cX11_sumOf 5 (some .int) 1 [2, 0, 0] SpX11_sumOf := by
  refine lpX11_sumOf _ (fun As w Q _ hS => ?_)
  obtain ⟨ρ, μ, f, mm, rfl, rfl, hρ, hf, hQ⟩ := hS
  refine ⟨fun _ m st L w => st = [] ∧ w = bt_wd ρ μ ∧ ∃ i : Nat, i ≤ mm ∧ m = mm - i ∧ L = [some (.inr (.inr 205)), some (.inl (f : Int)), some (.inl (mm : Int)), some (.inl (bt_sn (fun k => μ 240 (f + k)) i)), some (.inl ((f + i : Nat) : Int))], ?_, ?_⟩
  · simp (disch := omega) only [tX11_sumOf_0, bt_ild, bt_lld, bt_ald, bt_ist, bt_lst, bt_ast, bt_inc, bt_ic, bt_lc, bt_iadd, bt_isub, bt_imul, bt_iand, bt_ior, bt_ixor, bt_ishl, bt_ishr, bt_iushr, bt_ladd, bt_lsub, bt_lmul, bt_land, bt_lor, bt_lushr, bt_lshl, bt_idiv, bt_irem, bt_ldiv, bt_lrem, bt_lcmp, bt_i2l, bt_l2i, bt_i2b, bt_pop, bt_dup, bt_dup2, bt_gfI, bt_gfJ, bt_gfR, bt_pfI, bt_pfZ, bt_pfJ, bt_pfR, bt_ial, bt_bal, bt_zal, bt_lal, bt_aal, bt_ias, bt_bas, bt_zas, bt_las, bt_len, bt_iret, bt_zret, bt_lret, bt_vret, bt_cV, bt_cS, bt_tab, bt_tsw, bt_lk, bt_lsw, bt_acp, bt_mmax, bt_mmin, bt_can, bt_icmpeq, bt_ifeq, bt_icmpne, bt_ifne, bt_icmplt, bt_iflt, bt_icmpge, bt_ifge, bt_icmpgt, bt_ifgt, bt_icmple, bt_ifle, bt_ret, bt_kill, bt_kl, bt_ix, bt_nl, bt_sm, bt_sr, bt_sig, bt_tg, bt_loc, bt_locs, List.getElem?_cons_zero, List.getElem?_cons_succ, List.set_cons_zero, List.set_cons_succ, List.map_cons, List.map_nil, List.take_succ_cons, List.take_zero, List.drop_succ_cons, List.drop_zero, List.reverse_cons, List.reverse_nil, List.nil_append, List.cons_append, List.append_nil, List.length_cons, List.length_nil, List.replicate_succ, List.replicate_zero, Option.toList_some, Option.toList_none, Nat.reduceAdd, Nat.reduceSub, Nat.reduceLeDiff, Nat.zero_add, Nat.zero_le, true_and, and_true, Int.toNat_natCast, Sum.inl.injEq, Sum.inr.injEq, ↓reduceIte, Nat.reduceEqDiff]
    exact ⟨mm, 0, by omega, by omega, rfl⟩
  · rintro m st L w ⟨rfl, rfl, i, hi, rfl, rfl⟩
    simp (disch := omega) only [tX11_sumOf_5, bt_ild, bt_lld, bt_ald, bt_ist, bt_lst, bt_ast, bt_inc, bt_ic, bt_lc, bt_iadd, bt_isub, bt_imul, bt_iand, bt_ior, bt_ixor, bt_ishl, bt_ishr, bt_iushr, bt_ladd, bt_lsub, bt_lmul, bt_land, bt_lor, bt_lushr, bt_lshl, bt_idiv, bt_irem, bt_ldiv, bt_lrem, bt_lcmp, bt_i2l, bt_l2i, bt_i2b, bt_pop, bt_dup, bt_dup2, bt_gfI, bt_gfJ, bt_gfR, bt_pfI, bt_pfZ, bt_pfJ, bt_pfR, bt_ial, bt_bal, bt_zal, bt_lal, bt_aal, bt_ias, bt_bas, bt_zas, bt_las, bt_len, bt_iret, bt_zret, bt_lret, bt_vret, bt_cV, bt_cS, bt_tab, bt_tsw, bt_lk, bt_lsw, bt_acp, bt_mmax, bt_mmin, bt_can, bt_icmpeq, bt_ifeq, bt_icmpne, bt_ifne, bt_icmplt, bt_iflt, bt_icmpge, bt_ifge, bt_icmpgt, bt_ifgt, bt_icmple, bt_ifle, bt_ret, bt_kill, bt_kl, bt_ix, bt_nl, bt_sm, bt_sr, bt_sig, bt_tg, bt_loc, bt_locs, List.getElem?_cons_zero, List.getElem?_cons_succ, List.set_cons_zero, List.set_cons_succ, List.map_cons, List.map_nil, List.take_succ_cons, List.take_zero, List.drop_succ_cons, List.drop_zero, List.reverse_cons, List.reverse_nil, List.nil_append, List.cons_append, List.append_nil, List.length_cons, List.length_nil, List.replicate_succ, List.replicate_zero, Option.toList_some, Option.toList_none, Nat.reduceAdd, Nat.reduceSub, Nat.reduceLeDiff, Nat.zero_add, Nat.zero_le, true_and, and_true, Int.toNat_natCast, Sum.inl.injEq, Sum.inr.injEq, ↓reduceIte, Nat.reduceEqDiff, hρ 205 _ (by decide), rf_205_2, rf_205_10, rf_205_11, rf_205_12, rf_205_13, rf_205_14, rf_205_15, rf_205_16, rf_205_17, rf_205_18, rf_205_19, rf_205_20, rf_205_21, rf_205_22, rf_205_23, rf_205_24, rf_205_28, rf_205_29, rf_205_30, rf_205_31, rf_205_32, rf_205_33, rf_205_34, rf_205_35, rf_205_36, rf_205_37, rf_205_38, rf_205_39, rf_205_42, rf_205_43, rf_205_44, rf_205_45, rf_205_46, rf_205_47, rf_205_48, rf_205_49, rf_205_50, rf_205_51, rf_205_52, rf_205_53, rf_205_55, rf_205_56, rf_205_57, rf_205_58, rf_205_59, rf_205_60, rf_205_61, rf_205_62, rf_205_63, rf_205_66, rf_205_67, rf_205_68, rf_205_70, rf_205_71, rf_205_72, sh_205, sh_206, sh_207, sh_208, sh_209, sh_210, sh_211, sh_212, sh_213, sh_214, sh_215, sh_216, sh_217, sh_218, sh_219, sh_220, sh_221, sh_222, sh_223, sh_224, sh_225, sh_226, sh_227, sh_228, sh_229, sh_230, sh_231, sh_232, sh_233, sh_234, sh_235, sh_236, sh_237, sh_238, sh_239, sh_240, sh_241, sh_242, sh_243, sh_244, sh_245, sh_246, sh_247, sh_248, sh_249, sh_250, sh_251, sh_252, sh_253, sh_254, sh_255, sh_256, sh_257, sh_258, sh_259, sh_260, bt_w_id]
    by_cases hc : mm ≤ i
    · rw [if_pos (by omega)]
      have : i = mm := by omega
      subst this
      exact hQ
    · rw [if_neg (by omega)]
      repeat (refine And.intro (by first | omega | decide | (simp only [and_true, true_and]; omega)) ?_)
      exact ⟨mm - (i + 1), by omega, i + 1, by omega, rfl, by simp [bt_sn]; omega⟩
def SpX11_copies : bt_Sp := fun As w Q => ∃ (ρ : Nat → Nat → Option Nat) (μ : Nat → Nat → Int) (r a q b : Nat), As = [.inr (.inr r), .inl (a : Int), .inr (.inr q), .inl (b : Int)] ∧ w = bt_wd ρ μ ∧ r < 262 ∧ q < 262 ∧ r ≠ q ∧ (bt_sh0 r).1 = 13 ∧ (bt_sh0 q).1 = 13 ∧ a + 19 ≤ (bt_sh0 r).2 ∧ b + 19 ≤ (bt_sh0 q).2 ∧ Q none (bt_wd ρ (bt_cp μ r a q b 19))
set_option maxHeartbeats 4000000 in
theorem mtX11_copies : bt_Met yX11_copies cX11_copies 5 none 1 [2, 0, 2, 0] SpX11_copies := by
  refine lpX11_copies _ (fun As w Q _ hS => ?_)
  obtain ⟨ρ, μ, r, a, q, b, rfl, rfl, h1, h2, h3, h4, h5, h6, h7, hQ⟩ := hS
  have s1 := bt_sh_sm r h1
  have s2 := bt_sh_sm q h2
  refine ⟨fun _ m st L w => st = [] ∧ ∃ i : Nat, i ≤ 19 ∧ m = 19 - i ∧ w = bt_wd ρ (bt_cp μ r a q b i) ∧ L = [some (.inr (.inr r)), some (.inl (a : Int)), some (.inr (.inr q)), some (.inl (b : Int)), some (.inl (i : Int))], ?_, ?_⟩
  · simp (disch := omega) only [tX11_copies_0, bt_ild, bt_lld, bt_ald, bt_ist, bt_lst, bt_ast, bt_inc, bt_ic, bt_lc, bt_iadd, bt_isub, bt_imul, bt_iand, bt_ior, bt_ixor, bt_ishl, bt_ishr, bt_iushr, bt_ladd, bt_lsub, bt_lmul, bt_land, bt_lor, bt_lushr, bt_lshl, bt_idiv, bt_irem, bt_ldiv, bt_lrem, bt_lcmp, bt_i2l, bt_l2i, bt_i2b, bt_pop, bt_dup, bt_dup2, bt_gfI, bt_gfJ, bt_gfR, bt_pfI, bt_pfZ, bt_pfJ, bt_pfR, bt_ial, bt_bal, bt_zal, bt_lal, bt_aal, bt_ias, bt_bas, bt_zas, bt_las, bt_len, bt_iret, bt_zret, bt_lret, bt_vret, bt_cV, bt_cS, bt_tab, bt_tsw, bt_lk, bt_lsw, bt_acp, bt_mmax, bt_mmin, bt_can, bt_icmpeq, bt_ifeq, bt_icmpne, bt_ifne, bt_icmplt, bt_iflt, bt_icmpge, bt_ifge, bt_icmpgt, bt_ifgt, bt_icmple, bt_ifle, bt_ret, bt_kill, bt_kl, bt_ix, bt_nl, bt_sm, bt_sr, bt_sig, bt_tg, bt_loc, bt_locs, List.getElem?_cons_zero, List.getElem?_cons_succ, List.set_cons_zero, List.set_cons_succ, List.map_cons, List.map_nil, List.take_succ_cons, List.take_zero, List.drop_succ_cons, List.drop_zero, List.reverse_cons, List.reverse_nil, List.nil_append, List.cons_append, List.append_nil, List.length_cons, List.length_nil, List.replicate_succ, List.replicate_zero, Option.toList_some, Option.toList_none, Nat.reduceAdd, Nat.reduceSub, Nat.reduceLeDiff, Nat.zero_add, Nat.zero_le, true_and, and_true, Int.toNat_natCast, Sum.inl.injEq, Sum.inr.injEq, ↓reduceIte, Nat.reduceEqDiff]
    refine ⟨19, 0, by omega, by omega, ?_, rfl⟩
    rw [show bt_cp μ r a q b 0 = μ from by funext x y; unfold bt_cp; rw [if_neg (by omega)]]
  · rintro m st L w ⟨rfl, i, hi, rfl, rfl, rfl⟩
    simp (disch := omega) only [tX11_copies_3, bt_ild, bt_lld, bt_ald, bt_ist, bt_lst, bt_ast, bt_inc, bt_ic, bt_lc, bt_iadd, bt_isub, bt_imul, bt_iand, bt_ior, bt_ixor, bt_ishl, bt_ishr, bt_iushr, bt_ladd, bt_lsub, bt_lmul, bt_land, bt_lor, bt_lushr, bt_lshl, bt_idiv, bt_irem, bt_ldiv, bt_lrem, bt_lcmp, bt_i2l, bt_l2i, bt_i2b, bt_pop, bt_dup, bt_dup2, bt_gfI, bt_gfJ, bt_gfR, bt_pfI, bt_pfZ, bt_pfJ, bt_pfR, bt_ial, bt_bal, bt_zal, bt_lal, bt_aal, bt_ias, bt_bas, bt_zas, bt_las, bt_len, bt_iret, bt_zret, bt_lret, bt_vret, bt_cV, bt_cS, bt_tab, bt_tsw, bt_lk, bt_lsw, bt_acp, bt_mmax, bt_mmin, bt_can, bt_icmpeq, bt_ifeq, bt_icmpne, bt_ifne, bt_icmplt, bt_iflt, bt_icmpge, bt_ifge, bt_icmpgt, bt_ifgt, bt_icmple, bt_ifle, bt_ret, bt_kill, bt_kl, bt_ix, bt_nl, bt_sm, bt_sr, bt_sig, bt_tg, bt_loc, bt_locs, List.getElem?_cons_zero, List.getElem?_cons_succ, List.set_cons_zero, List.set_cons_succ, List.map_cons, List.map_nil, List.take_succ_cons, List.take_zero, List.drop_succ_cons, List.drop_zero, List.reverse_cons, List.reverse_nil, List.nil_append, List.cons_append, List.append_nil, List.length_cons, List.length_nil, List.replicate_succ, List.replicate_zero, Option.toList_some, Option.toList_none, Nat.reduceAdd, Nat.reduceSub, Nat.reduceLeDiff, Nat.zero_add, Nat.zero_le, true_and, and_true, Int.toNat_natCast, Sum.inl.injEq, Sum.inr.injEq, ↓reduceIte, Nat.reduceEqDiff, bt_w_id]
    by_cases hc : 19 ≤ i
    · rw [if_pos (by omega)]
      have : i = 19 := by omega
      subst this
      exact hQ
    · rw [if_neg (by omega)]
      simp (disch := omega) only [h4, h5]
      repeat (refine And.intro (by first | omega | decide | (simp only [and_true, true_and]; omega)) ?_)
      refine ⟨19 - (i + 1), by omega, i + 1, by omega, rfl, ?_, rfl⟩
      rw [show bt_up (bt_cp μ r a q b i) q ((b : Int) + (i : Int)).toNat (bt_cp μ r a q b i r ((a : Int) + (i : Int)).toNat) = bt_cp μ r a q b (i + 1) from ?_]
      funext x y
      rw [show ((b : Int) + (i : Int)).toNat = b + i by omega, show ((a : Int) + (i : Int)).toNat = a + i by omega]
      unfold bt_up bt_cp
      by_cases hx : x = q
      · subst hx
        by_cases hy : y = b + i
        · subst hy
          rw [if_pos ⟨rfl, rfl⟩, if_neg (by omega), if_pos (by omega)]
          congr 1
          omega
        · rw [if_neg (by omega)]
          by_cases hz : b ≤ y ∧ y < b + i
          · rw [if_pos (by omega), if_pos (by omega)]
          · rw [if_neg (by omega), if_neg (by omega)]
      · rw [if_neg (by omega), if_neg (by omega), if_neg (by omega)]
theorem rf_S.cp {μ ζ σ : Nat → Nat → Int} {r a q b : Nat} (hZ : nG ζ ≤ 6 ∧ nA ζ ≤ 5) (h : rf_S (μ r) a ζ σ) : rf_S (bt_cp μ r a q b 19 q) b ζ σ :=
  h.cg hZ (fun k hk => by unfold bt_cp; rw [if_pos (by omega)]; congr 1; omega)
