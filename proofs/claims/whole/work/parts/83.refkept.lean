/-! the reference: kept words -/
def SpX11_isKept : bt_Sp := fun As w Q => tX11_isKept_0 bt_k0 Q [] (bt_loc 1 As) w
theorem mtX11_isKept : bt_Met yX11_isKept cX11_isKept 1 (some .boolean) 1 [2] SpX11_isKept := lfX11_isKept
set_option maxHeartbeats 4000000 in
theorem rt_isKept {ρ : Nat → Nat → Option Nat} {μ : Nat → Nat → Int} {t : Nat → Int} {n c : Nat} (hT : rf_tr μ t n) (hc : rf_Tc μ t n c) {Q : Option bt_V → bt_W → Prop} (hq : Q (some (.inl (if rz_nm t n c then 0 else 1))) (bt_wd ρ μ)) : SpX11_isKept [.inr (.inr 205)] (bt_wd ρ μ) Q := by
  obtain ⟨r0, r4, -, r1, -⟩ := rt_kk (t := t) (n := n) (c := c)
  obtain ⟨c1, c2, c5, c4, c6, c7, c8⟩ := hc
  have l285 : Q (some (.inl 1)) (bt_wd ρ μ) → ∀ κ L, tX11_isKept_285 κ Q [] L (bt_wd ρ μ) := fun h κ L => by
    simp only [↓tX11_isKept_285, ↓tX11_isKept_290, ↓fq_ild0, ↓fq_ald0, ↓fq_lld0, ↓fq_inc0, ↓fq_ist0, ↓fq_lst0, ↓fq_nl0, ↓fq_ild1, ↓fq_ald1, ↓fq_lld1, ↓fq_inc1, ↓fq_ist1, ↓fq_lst1, ↓fq_nli1, ↓fq_nlr1, ↓fq_nln1, ↓fq_ild2, ↓fq_ald2, ↓fq_lld2, ↓fq_inc2, ↓fq_ist2, ↓fq_lst2, ↓fq_nli2, ↓fq_nlr2, ↓fq_nln2, ↓fq_ild3, ↓fq_ald3, ↓fq_lld3, ↓fq_inc3, ↓fq_ist3, ↓fq_lst3, ↓fq_nli3, ↓fq_nlr3, ↓fq_nln3, ↓fq_ild4, ↓fq_ald4, ↓fq_lld4, ↓fq_inc4, ↓fq_ist4, ↓fq_lst4, ↓fq_nli4, ↓fq_nlr4, ↓fq_nln4, ↓fq_ild5, ↓fq_ald5, ↓fq_lld5, ↓fq_inc5, ↓fq_ist5, ↓fq_lst5, ↓fq_nli5, ↓fq_nlr5, ↓fq_nln5, ↓fq_ild6, ↓fq_ald6, ↓fq_lld6, ↓fq_inc6, ↓fq_ist6, ↓fq_lst6, ↓fq_nli6, ↓fq_nlr6, ↓fq_nln6, ↓fq_ild7, ↓fq_ald7, ↓fq_lld7, ↓fq_inc7, ↓fq_ist7, ↓fq_lst7, ↓fq_nli7, ↓fq_nlr7, ↓fq_nln7, ↓fq_ild8, ↓fq_ald8, ↓fq_lld8, ↓fq_inc8, ↓fq_ist8, ↓fq_lst8, ↓fq_nli8, ↓fq_nlr8, ↓fq_nln8, ↓fq_ild9, ↓fq_ald9, ↓fq_lld9, ↓fq_inc9, ↓fq_ist9, ↓fq_lst9, ↓fq_nli9, ↓fq_nlr9, ↓fq_nln9, ↓fq_ild10, ↓fq_ald10, ↓fq_lld10, ↓fq_inc10, ↓fq_ist10, ↓fq_lst10, ↓fq_nli10, ↓fq_nlr10, ↓fq_nln10, ↓fq_iadd, ↓fq_isub, ↓fq_imul, ↓fq_iand, ↓fq_ior, ↓fq_ixor, ↓fq_ishl, ↓fq_ishr, ↓fq_iushr, ↓fq_ladd, ↓fq_lsub, ↓fq_lmul, ↓fq_land, ↓fq_lor, ↓fq_lushr, ↓fq_lshl, ↓fq_lcmp, ↓fq_i2l, ↓fq_l2i, ↓fq_idiv, ↓fq_irem, ↓fq_ldiv, ↓fq_lrem, ↓fq_ic, ↓fq_lc, ↓fq_dupi, ↓fq_dupr, ↓fq_dup2, ↓fq_popi, ↓fq_mmin, ↓fq_mmax, ↓fq_can, ↓fq_icmpeq, ↓fq_icmpne, ↓fq_icmplt, ↓fq_icmpge, ↓fq_icmpgt, ↓fq_icmple, ↓fq_ifeq, ↓fq_ifne, ↓fq_iflt, ↓fq_ifge, ↓fq_ifgt, ↓fq_ifle, ↓fq_iret, ↓fq_zret, ↓fq_lret, ↓fq_vret, ↓fq_rets, ↓fq_retn, ↓fq_kill, ↓fq_gfI, ↓fq_gfJ, ↓fq_pfI, ↓fq_pfJ, ↓fl_206, ↓fs_206, ↓fl_207, ↓fs_207, ↓fl_208, ↓fs_208, ↓fl_209, ↓fs_209, ↓fl_210, ↓fs_210, ↓fl_211, ↓fs_211, ↓fl_212, ↓fs_212, ↓fl_213, ↓fs_213, ↓fl_214, ↓fs_214, ↓fl_215, ↓fs_215, ↓fl_216, ↓fs_216, ↓fl_217, ↓fs_217, ↓fl_218, ↓fs_218, ↓fl_219, ↓fs_219, ↓fl_220, ↓fs_220, ↓fl_221, ↓fs_221, ↓fl_222, ↓fs_222, ↓fl_223, ↓fs_223, ↓fl_224, ↓fs_224, ↓fl_225, ↓fs_225, ↓fl_226, ↓fs_226, ↓fl_227, ↓fs_227, ↓fl_228, ↓fs_228, ↓fl_229, ↓fs_229, ↓fl_230, ↓fs_230, ↓fl_231, ↓fs_231, ↓fl_232, ↓fs_232, ↓fl_233, ↓fs_233, ↓fl_234, ↓fs_234, ↓fl_235, ↓fs_235, ↓fl_236, ↓fs_236, ↓fl_237, ↓fs_237, ↓fl_238, ↓fs_238, ↓fl_239, ↓fs_239, ↓fl_240, ↓fs_240, ↓fl_241, ↓fs_241, ↓fl_242, ↓fs_242, ↓fl_243, ↓fs_243, ↓fl_244, ↓fs_244, ↓fl_245, ↓fs_245, ↓fl_246, ↓fs_246, ↓fl_247, ↓fs_247, ↓fl_248, ↓fs_248, ↓fl_249, ↓fs_249, ↓fl_250, ↓fs_250, ↓fl_251, ↓fs_251, ↓fl_252, ↓fs_252, ↓fl_253, ↓fs_253, ↓fl_254, ↓fs_254, ↓fl_255, ↓fs_255, ↓fl_256, ↓fs_256, ↓fl_257, ↓fs_257, ↓fl_258, ↓fs_258, ↓fl_259, ↓fs_259, ↓fl_260, ↓fs_260, ↓fc_v0, ↓fc_v1, ↓fc_v2, ↓fc_v3, ↓fc_v4, ↓fc_v5, ↓fc_v6, ↓fc_s0, ↓fc_s1, ↓fc_s2, ↓fc_s3, ↓fc_s4, ↓fc_s5, ↓fq_len0, ↓fq_len1, ↓fq_len2, ↓fq_len3, ↓fq_len4, bt_loc, bt_locs, bt_kl, List.set_cons_zero, List.set_cons_succ, List.replicate_succ, List.replicate_zero, List.cons_append, List.nil_append, List.append_nil, List.length_cons, List.length_nil, Nat.reduceAdd, Nat.reduceSub, true_and, and_true, Nat.zero_add, Int.toNat_natCast, Int.reduceToNat, ↓reduceIte]
    exact ⟨by simp, h⟩
  have l290 : Q (some (.inl 0)) (bt_wd ρ μ) → ∀ κ L, tX11_isKept_290 κ Q [.inl 0] L (bt_wd ρ μ) := fun h κ L => by
    simp only [↓tX11_isKept_290, ↓fq_ild0, ↓fq_ald0, ↓fq_lld0, ↓fq_inc0, ↓fq_ist0, ↓fq_lst0, ↓fq_nl0, ↓fq_ild1, ↓fq_ald1, ↓fq_lld1, ↓fq_inc1, ↓fq_ist1, ↓fq_lst1, ↓fq_nli1, ↓fq_nlr1, ↓fq_nln1, ↓fq_ild2, ↓fq_ald2, ↓fq_lld2, ↓fq_inc2, ↓fq_ist2, ↓fq_lst2, ↓fq_nli2, ↓fq_nlr2, ↓fq_nln2, ↓fq_ild3, ↓fq_ald3, ↓fq_lld3, ↓fq_inc3, ↓fq_ist3, ↓fq_lst3, ↓fq_nli3, ↓fq_nlr3, ↓fq_nln3, ↓fq_ild4, ↓fq_ald4, ↓fq_lld4, ↓fq_inc4, ↓fq_ist4, ↓fq_lst4, ↓fq_nli4, ↓fq_nlr4, ↓fq_nln4, ↓fq_ild5, ↓fq_ald5, ↓fq_lld5, ↓fq_inc5, ↓fq_ist5, ↓fq_lst5, ↓fq_nli5, ↓fq_nlr5, ↓fq_nln5, ↓fq_ild6, ↓fq_ald6, ↓fq_lld6, ↓fq_inc6, ↓fq_ist6, ↓fq_lst6, ↓fq_nli6, ↓fq_nlr6, ↓fq_nln6, ↓fq_ild7, ↓fq_ald7, ↓fq_lld7, ↓fq_inc7, ↓fq_ist7, ↓fq_lst7, ↓fq_nli7, ↓fq_nlr7, ↓fq_nln7, ↓fq_ild8, ↓fq_ald8, ↓fq_lld8, ↓fq_inc8, ↓fq_ist8, ↓fq_lst8, ↓fq_nli8, ↓fq_nlr8, ↓fq_nln8, ↓fq_ild9, ↓fq_ald9, ↓fq_lld9, ↓fq_inc9, ↓fq_ist9, ↓fq_lst9, ↓fq_nli9, ↓fq_nlr9, ↓fq_nln9, ↓fq_ild10, ↓fq_ald10, ↓fq_lld10, ↓fq_inc10, ↓fq_ist10, ↓fq_lst10, ↓fq_nli10, ↓fq_nlr10, ↓fq_nln10, ↓fq_iadd, ↓fq_isub, ↓fq_imul, ↓fq_iand, ↓fq_ior, ↓fq_ixor, ↓fq_ishl, ↓fq_ishr, ↓fq_iushr, ↓fq_ladd, ↓fq_lsub, ↓fq_lmul, ↓fq_land, ↓fq_lor, ↓fq_lushr, ↓fq_lshl, ↓fq_lcmp, ↓fq_i2l, ↓fq_l2i, ↓fq_idiv, ↓fq_irem, ↓fq_ldiv, ↓fq_lrem, ↓fq_ic, ↓fq_lc, ↓fq_dupi, ↓fq_dupr, ↓fq_dup2, ↓fq_popi, ↓fq_mmin, ↓fq_mmax, ↓fq_can, ↓fq_icmpeq, ↓fq_icmpne, ↓fq_icmplt, ↓fq_icmpge, ↓fq_icmpgt, ↓fq_icmple, ↓fq_ifeq, ↓fq_ifne, ↓fq_iflt, ↓fq_ifge, ↓fq_ifgt, ↓fq_ifle, ↓fq_iret, ↓fq_zret, ↓fq_lret, ↓fq_vret, ↓fq_rets, ↓fq_retn, ↓fq_kill, ↓fq_gfI, ↓fq_gfJ, ↓fq_pfI, ↓fq_pfJ, ↓fl_206, ↓fs_206, ↓fl_207, ↓fs_207, ↓fl_208, ↓fs_208, ↓fl_209, ↓fs_209, ↓fl_210, ↓fs_210, ↓fl_211, ↓fs_211, ↓fl_212, ↓fs_212, ↓fl_213, ↓fs_213, ↓fl_214, ↓fs_214, ↓fl_215, ↓fs_215, ↓fl_216, ↓fs_216, ↓fl_217, ↓fs_217, ↓fl_218, ↓fs_218, ↓fl_219, ↓fs_219, ↓fl_220, ↓fs_220, ↓fl_221, ↓fs_221, ↓fl_222, ↓fs_222, ↓fl_223, ↓fs_223, ↓fl_224, ↓fs_224, ↓fl_225, ↓fs_225, ↓fl_226, ↓fs_226, ↓fl_227, ↓fs_227, ↓fl_228, ↓fs_228, ↓fl_229, ↓fs_229, ↓fl_230, ↓fs_230, ↓fl_231, ↓fs_231, ↓fl_232, ↓fs_232, ↓fl_233, ↓fs_233, ↓fl_234, ↓fs_234, ↓fl_235, ↓fs_235, ↓fl_236, ↓fs_236, ↓fl_237, ↓fs_237, ↓fl_238, ↓fs_238, ↓fl_239, ↓fs_239, ↓fl_240, ↓fs_240, ↓fl_241, ↓fs_241, ↓fl_242, ↓fs_242, ↓fl_243, ↓fs_243, ↓fl_244, ↓fs_244, ↓fl_245, ↓fs_245, ↓fl_246, ↓fs_246, ↓fl_247, ↓fs_247, ↓fl_248, ↓fs_248, ↓fl_249, ↓fs_249, ↓fl_250, ↓fs_250, ↓fl_251, ↓fs_251, ↓fl_252, ↓fs_252, ↓fl_253, ↓fs_253, ↓fl_254, ↓fs_254, ↓fl_255, ↓fs_255, ↓fl_256, ↓fs_256, ↓fl_257, ↓fs_257, ↓fl_258, ↓fs_258, ↓fl_259, ↓fs_259, ↓fl_260, ↓fs_260, ↓fc_v0, ↓fc_v1, ↓fc_v2, ↓fc_v3, ↓fc_v4, ↓fc_v5, ↓fc_v6, ↓fc_s0, ↓fc_s1, ↓fc_s2, ↓fc_s3, ↓fc_s4, ↓fc_s5, ↓fq_len0, ↓fq_len1, ↓fq_len2, ↓fq_len3, ↓fq_len4, bt_loc, bt_locs, bt_kl, List.set_cons_zero, List.set_cons_succ, List.replicate_succ, List.replicate_zero, List.cons_append, List.nil_append, List.append_nil, List.length_cons, List.length_nil, Nat.reduceAdd, Nat.reduceSub, true_and, and_true, Nat.zero_add, Int.toNat_natCast, Int.reduceToNat, ↓reduceIte]
    exact ⟨by simp, h⟩
  have w1 : bt_w (rt_k t n c) = rt_k t n c := bt_w_id (by omega) (by omega)
  have w2 : bt_w 1 = 1 := bt_w_id (by omega) (by omega)
  simp only [SpX11_isKept, ↓tX11_isKept_0, ↓fq_ild0, ↓fq_ald0, ↓fq_lld0, ↓fq_inc0, ↓fq_ist0, ↓fq_lst0, ↓fq_nl0, ↓fq_ild1, ↓fq_ald1, ↓fq_lld1, ↓fq_inc1, ↓fq_ist1, ↓fq_lst1, ↓fq_nli1, ↓fq_nlr1, ↓fq_nln1, ↓fq_ild2, ↓fq_ald2, ↓fq_lld2, ↓fq_inc2, ↓fq_ist2, ↓fq_lst2, ↓fq_nli2, ↓fq_nlr2, ↓fq_nln2, ↓fq_ild3, ↓fq_ald3, ↓fq_lld3, ↓fq_inc3, ↓fq_ist3, ↓fq_lst3, ↓fq_nli3, ↓fq_nlr3, ↓fq_nln3, ↓fq_ild4, ↓fq_ald4, ↓fq_lld4, ↓fq_inc4, ↓fq_ist4, ↓fq_lst4, ↓fq_nli4, ↓fq_nlr4, ↓fq_nln4, ↓fq_ild5, ↓fq_ald5, ↓fq_lld5, ↓fq_inc5, ↓fq_ist5, ↓fq_lst5, ↓fq_nli5, ↓fq_nlr5, ↓fq_nln5, ↓fq_ild6, ↓fq_ald6, ↓fq_lld6, ↓fq_inc6, ↓fq_ist6, ↓fq_lst6, ↓fq_nli6, ↓fq_nlr6, ↓fq_nln6, ↓fq_ild7, ↓fq_ald7, ↓fq_lld7, ↓fq_inc7, ↓fq_ist7, ↓fq_lst7, ↓fq_nli7, ↓fq_nlr7, ↓fq_nln7, ↓fq_ild8, ↓fq_ald8, ↓fq_lld8, ↓fq_inc8, ↓fq_ist8, ↓fq_lst8, ↓fq_nli8, ↓fq_nlr8, ↓fq_nln8, ↓fq_ild9, ↓fq_ald9, ↓fq_lld9, ↓fq_inc9, ↓fq_ist9, ↓fq_lst9, ↓fq_nli9, ↓fq_nlr9, ↓fq_nln9, ↓fq_ild10, ↓fq_ald10, ↓fq_lld10, ↓fq_inc10, ↓fq_ist10, ↓fq_lst10, ↓fq_nli10, ↓fq_nlr10, ↓fq_nln10, ↓fq_iadd, ↓fq_isub, ↓fq_imul, ↓fq_iand, ↓fq_ior, ↓fq_ixor, ↓fq_ishl, ↓fq_ishr, ↓fq_iushr, ↓fq_ladd, ↓fq_lsub, ↓fq_lmul, ↓fq_land, ↓fq_lor, ↓fq_lushr, ↓fq_lshl, ↓fq_lcmp, ↓fq_i2l, ↓fq_l2i, ↓fq_idiv, ↓fq_irem, ↓fq_ldiv, ↓fq_lrem, ↓fq_ic, ↓fq_lc, ↓fq_dupi, ↓fq_dupr, ↓fq_dup2, ↓fq_popi, ↓fq_mmin, ↓fq_mmax, ↓fq_can, ↓fq_icmpeq, ↓fq_icmpne, ↓fq_icmplt, ↓fq_icmpge, ↓fq_icmpgt, ↓fq_icmple, ↓fq_ifeq, ↓fq_ifne, ↓fq_iflt, ↓fq_ifge, ↓fq_ifgt, ↓fq_ifle, ↓fq_iret, ↓fq_zret, ↓fq_lret, ↓fq_vret, ↓fq_rets, ↓fq_retn, ↓fq_kill, ↓fq_gfI, ↓fq_gfJ, ↓fq_pfI, ↓fq_pfJ, ↓fl_206, ↓fs_206, ↓fl_207, ↓fs_207, ↓fl_208, ↓fs_208, ↓fl_209, ↓fs_209, ↓fl_210, ↓fs_210, ↓fl_211, ↓fs_211, ↓fl_212, ↓fs_212, ↓fl_213, ↓fs_213, ↓fl_214, ↓fs_214, ↓fl_215, ↓fs_215, ↓fl_216, ↓fs_216, ↓fl_217, ↓fs_217, ↓fl_218, ↓fs_218, ↓fl_219, ↓fs_219, ↓fl_220, ↓fs_220, ↓fl_221, ↓fs_221, ↓fl_222, ↓fs_222, ↓fl_223, ↓fs_223, ↓fl_224, ↓fs_224, ↓fl_225, ↓fs_225, ↓fl_226, ↓fs_226, ↓fl_227, ↓fs_227, ↓fl_228, ↓fs_228, ↓fl_229, ↓fs_229, ↓fl_230, ↓fs_230, ↓fl_231, ↓fs_231, ↓fl_232, ↓fs_232, ↓fl_233, ↓fs_233, ↓fl_234, ↓fs_234, ↓fl_235, ↓fs_235, ↓fl_236, ↓fs_236, ↓fl_237, ↓fs_237, ↓fl_238, ↓fs_238, ↓fl_239, ↓fs_239, ↓fl_240, ↓fs_240, ↓fl_241, ↓fs_241, ↓fl_242, ↓fs_242, ↓fl_243, ↓fs_243, ↓fl_244, ↓fs_244, ↓fl_245, ↓fs_245, ↓fl_246, ↓fs_246, ↓fl_247, ↓fs_247, ↓fl_248, ↓fs_248, ↓fl_249, ↓fs_249, ↓fl_250, ↓fs_250, ↓fl_251, ↓fs_251, ↓fl_252, ↓fs_252, ↓fl_253, ↓fs_253, ↓fl_254, ↓fs_254, ↓fl_255, ↓fs_255, ↓fl_256, ↓fs_256, ↓fl_257, ↓fs_257, ↓fl_258, ↓fs_258, ↓fl_259, ↓fs_259, ↓fl_260, ↓fs_260, ↓fc_v0, ↓fc_v1, ↓fc_v2, ↓fc_v3, ↓fc_v4, ↓fc_v5, ↓fc_v6, ↓fc_s0, ↓fc_s1, ↓fc_s2, ↓fc_s3, ↓fc_s4, ↓fc_s5, ↓fq_len0, ↓fq_len1, ↓fq_len2, ↓fq_len3, ↓fq_len4, bt_loc, bt_locs, bt_kl, List.set_cons_zero, List.set_cons_succ, List.replicate_succ, List.replicate_zero, List.cons_append, List.nil_append, List.append_nil, List.length_cons, List.length_nil, Nat.reduceAdd, Nat.reduceSub, true_and, and_true, Nat.zero_add, Int.toNat_natCast, Int.reduceToNat, ↓reduceIte, c6, w1, w2]
  by_cases h1 : rt_k t n c = 1
  · rw [if_pos h1]
    have hk := r1.mp h1
    have hr := tk_x_rg hk (fun q => (hT.2.2 c q).2.1)
    have hw : tk_w t n c = tk_wd (tk_x t n c) := by unfold tk_w; rw [if_pos hk]
    have hnm : rz_nm t n c = decide (tk_wd (tk_x t n c) = -1 ∨ 25 ≤ tk_wd (tk_x t n c)) := by unfold rz_nm; rw [hw]
    rw [c7 hk]
    rw [hnm] at hq
    generalize tk_x t n c = X at *
    have e : ∀ C : Int, 0 ≤ C → C < 282429536481 → (bt_w (bo_lcmp X C) = 0 ↔ X = C) := fun C a b => by rw [bo_lcmp0, bt_wl_id (by omega) (by omega), bt_wl_id (by omega) (by omega)]
    have fin1 : ∀ i, i < 25 → tw i = X → Q (some (.inl 1)) (bt_wd ρ μ) := fun i hi h => by
      have := (tk_wd_iff (x := X) (i := i) (by omega)).mpr h
      rw [if_neg (by rw [this]; simp; omega)] at hq
      exact hq
    by_cases q0 : X = 11813
    · rw [if_pos ((e 11813 (by decide) (by decide)).mpr q0)]
      exact l285 (fin1 0 (by decide) q0.symm) _ _
    rw [if_neg (fun r => q0 ((e 11813 (by decide) (by decide)).mp r))]
    by_cases q1 : X = 10197082
    · rw [if_pos ((e 10197082 (by decide) (by decide)).mpr q1)]
      exact l285 (fin1 1 (by decide) q1.symm) _ _
    rw [if_neg (fun r => q1 ((e 10197082 (by decide) (by decide)).mp r))]
    by_cases q2 : X = 316205
    · rw [if_pos ((e 316205 (by decide) (by decide)).mpr q2)]
      exact l285 (fin1 2 (by decide) q2.symm) _ _
    rw [if_neg (fun r => q2 ((e 316205 (by decide) (by decide)).mp r))]
    by_cases q3 : X = 4137608
    · rw [if_pos ((e 4137608 (by decide) (by decide)).mpr q3)]
      exact l285 (fin1 3 (by decide) q3.symm) _ _
    rw [if_neg (fun r => q3 ((e 4137608 (by decide) (by decide)).mp r))]
    by_cases q4 : X = 267223
    · rw [if_pos ((e 267223 (by decide) (by decide)).mpr q4)]
      exact l285 (fin1 4 (by decide) q4.symm) _ _
    rw [if_neg (fun r => q4 ((e 267223 (by decide) (by decide)).mp r))]
    by_cases q5 : X = 257
    · rw [if_pos ((e 257 (by decide) (by decide)).mpr q5)]
      exact l285 (fin1 5 (by decide) q5.symm) _ _
    rw [if_neg (fun r => q5 ((e 257 (by decide) (by decide)).mp r))]
    by_cases q6 : X = 21975744
    · rw [if_pos ((e 21975744 (by decide) (by decide)).mpr q6)]
      exact l285 (fin1 6 (by decide) q6.symm) _ _
    rw [if_neg (fun r => q6 ((e 21975744 (by decide) (by decide)).mp r))]
    by_cases q7 : X = 6562612
    · rw [if_pos ((e 6562612 (by decide) (by decide)).mpr q7)]
      exact l285 (fin1 7 (by decide) q7.symm) _ _
    rw [if_neg (fun r => q7 ((e 6562612 (by decide) (by decide)).mp r))]
    by_cases q8 : X = 1896526
    · rw [if_pos ((e 1896526 (by decide) (by decide)).mpr q8)]
      exact l285 (fin1 8 (by decide) q8.symm) _ _
    rw [if_neg (fun r => q8 ((e 1896526 (by decide) (by decide)).mp r))]
    by_cases q9 : X = 4784
    · rw [if_pos ((e 4784 (by decide) (by decide)).mpr q9)]
      exact l285 (fin1 9 (by decide) q9.symm) _ _
    rw [if_neg (fun r => q9 ((e 4784 (by decide) (by decide)).mp r))]
    by_cases q10 : X = 3290833
    · rw [if_pos ((e 3290833 (by decide) (by decide)).mpr q10)]
      exact l285 (fin1 10 (by decide) q10.symm) _ _
    rw [if_neg (fun r => q10 ((e 3290833 (by decide) (by decide)).mp r))]
    by_cases q11 : X = 412376
    · rw [if_pos ((e 412376 (by decide) (by decide)).mpr q11)]
      exact l285 (fin1 11 (by decide) q11.symm) _ _
    rw [if_neg (fun r => q11 ((e 412376 (by decide) (by decide)).mp r))]
    by_cases q12 : X = 1903978
    · rw [if_pos ((e 1903978 (by decide) (by decide)).mpr q12)]
      exact l285 (fin1 12 (by decide) q12.symm) _ _
    rw [if_neg (fun r => q12 ((e 1903978 (by decide) (by decide)).mp r))]
    by_cases q13 : X = 355280
    · rw [if_pos ((e 355280 (by decide) (by decide)).mpr q13)]
      exact l285 (fin1 13 (by decide) q13.symm) _ _
    rw [if_neg (fun r => q13 ((e 355280 (by decide) (by decide)).mp r))]
    by_cases q14 : X = 377776
    · rw [if_pos ((e 377776 (by decide) (by decide)).mpr q14)]
      exact l285 (fin1 14 (by decide) q14.symm) _ _
    rw [if_neg (fun r => q14 ((e 377776 (by decide) (by decide)).mp r))]
    by_cases q15 : X = 7215040
    · rw [if_pos ((e 7215040 (by decide) (by decide)).mpr q15)]
      exact l285 (fin1 15 (by decide) q15.symm) _ _
    rw [if_neg (fun r => q15 ((e 7215040 (by decide) (by decide)).mp r))]
    by_cases q16 : X = 267413
    · rw [if_pos ((e 267413 (by decide) (by decide)).mpr q16)]
      exact l285 (fin1 16 (by decide) q16.symm) _ _
    rw [if_neg (fun r => q16 ((e 267413 (by decide) (by decide)).mp r))]
    by_cases q17 : X = 168984
    · rw [if_pos ((e 168984 (by decide) (by decide)).mpr q17)]
      exact l285 (fin1 17 (by decide) q17.symm) _ _
    rw [if_neg (fun r => q17 ((e 168984 (by decide) (by decide)).mp r))]
    by_cases q18 : X = 8740238
    · rw [if_pos ((e 8740238 (by decide) (by decide)).mpr q18)]
      exact l285 (fin1 18 (by decide) q18.symm) _ _
    rw [if_neg (fun r => q18 ((e 8740238 (by decide) (by decide)).mp r))]
    by_cases q19 : X = 326018
    · rw [if_pos ((e 326018 (by decide) (by decide)).mpr q19)]
      exact l285 (fin1 19 (by decide) q19.symm) _ _
    rw [if_neg (fun r => q19 ((e 326018 (by decide) (by decide)).mp r))]
    by_cases q20 : X = 1888
    · rw [if_pos ((e 1888 (by decide) (by decide)).mpr q20)]
      exact l285 (fin1 20 (by decide) q20.symm) _ _
    rw [if_neg (fun r => q20 ((e 1888 (by decide) (by decide)).mp r))]
    by_cases q21 : X = 277693196
    · rw [if_pos ((e 277693196 (by decide) (by decide)).mpr q21)]
      exact l285 (fin1 21 (by decide) q21.symm) _ _
    rw [if_neg (fun r => q21 ((e 277693196 (by decide) (by decide)).mp r))]
    by_cases q22 : X = 10631
    · rw [if_pos ((e 10631 (by decide) (by decide)).mpr q22)]
      exact l285 (fin1 22 (by decide) q22.symm) _ _
    rw [if_neg (fun r => q22 ((e 10631 (by decide) (by decide)).mp r))]
    by_cases q23 : X = 1111
    · rw [if_pos ((e 1111 (by decide) (by decide)).mpr q23)]
      exact l285 (fin1 23 (by decide) q23.symm) _ _
    rw [if_neg (fun r => q23 ((e 1111 (by decide) (by decide)).mp r))]
    by_cases q24 : X = 423
    · rw [if_pos ((e 423 (by decide) (by decide)).mpr q24)]
      exact l285 (fin1 24 (by decide) q24.symm) _ _
    rw [if_neg (fun r => q24 ((e 423 (by decide) (by decide)).mp r))]
    have no : ∀ i, i < 25 → tw i ≠ X := fun i hi => by
      have hi2 : i = 0 ∨ i = 1 ∨ i = 2 ∨ i = 3 ∨ i = 4 ∨ i = 5 ∨ i = 6 ∨ i = 7 ∨ i = 8 ∨ i = 9 ∨ i = 10 ∨ i = 11 ∨ i = 12 ∨ i = 13 ∨ i = 14 ∨ i = 15 ∨ i = 16 ∨ i = 17 ∨ i = 18 ∨ i = 19 ∨ i = 20 ∨ i = 21 ∨ i = 22 ∨ i = 23 ∨ i = 24 := by omega
      rcases hi2 with rfl | rfl | rfl | rfl | rfl | rfl | rfl | rfl | rfl | rfl | rfl | rfl | rfl | rfl | rfl | rfl | rfl | rfl | rfl | rfl | rfl | rfl | rfl | rfl | rfl
      · exact fun r => q0 r.symm
      · exact fun r => q1 r.symm
      · exact fun r => q2 r.symm
      · exact fun r => q3 r.symm
      · exact fun r => q4 r.symm
      · exact fun r => q5 r.symm
      · exact fun r => q6 r.symm
      · exact fun r => q7 r.symm
      · exact fun r => q8 r.symm
      · exact fun r => q9 r.symm
      · exact fun r => q10 r.symm
      · exact fun r => q11 r.symm
      · exact fun r => q12 r.symm
      · exact fun r => q13 r.symm
      · exact fun r => q14 r.symm
      · exact fun r => q15 r.symm
      · exact fun r => q16 r.symm
      · exact fun r => q17 r.symm
      · exact fun r => q18 r.symm
      · exact fun r => q19 r.symm
      · exact fun r => q20 r.symm
      · exact fun r => q21 r.symm
      · exact fun r => q22 r.symm
      · exact fun r => q23 r.symm
      · exact fun r => q24 r.symm
    have hrg := tk_wd_rg X
    have hno : tk_wd X = -1 ∨ 25 ≤ tk_wd X := by
      by_cases h : tk_wd X = -1 ∨ 25 ≤ tk_wd X
      · exact h
      · exact absurd ((tk_wd_iff (x := X) (i := (tk_wd X).toNat) (by omega)).mp (by omega)) (no _ (by omega))
    rw [if_pos (decide_eq_true hno)] at hq
    first
    | exact l290 hq _ _
    | (simp only [↓tX11_isKept_290, ↓fq_ild0, ↓fq_ald0, ↓fq_lld0, ↓fq_inc0, ↓fq_ist0, ↓fq_lst0, ↓fq_nl0, ↓fq_ild1, ↓fq_ald1, ↓fq_lld1, ↓fq_inc1, ↓fq_ist1, ↓fq_lst1, ↓fq_nli1, ↓fq_nlr1, ↓fq_nln1, ↓fq_ild2, ↓fq_ald2, ↓fq_lld2, ↓fq_inc2, ↓fq_ist2, ↓fq_lst2, ↓fq_nli2, ↓fq_nlr2, ↓fq_nln2, ↓fq_ild3, ↓fq_ald3, ↓fq_lld3, ↓fq_inc3, ↓fq_ist3, ↓fq_lst3, ↓fq_nli3, ↓fq_nlr3, ↓fq_nln3, ↓fq_ild4, ↓fq_ald4, ↓fq_lld4, ↓fq_inc4, ↓fq_ist4, ↓fq_lst4, ↓fq_nli4, ↓fq_nlr4, ↓fq_nln4, ↓fq_ild5, ↓fq_ald5, ↓fq_lld5, ↓fq_inc5, ↓fq_ist5, ↓fq_lst5, ↓fq_nli5, ↓fq_nlr5, ↓fq_nln5, ↓fq_ild6, ↓fq_ald6, ↓fq_lld6, ↓fq_inc6, ↓fq_ist6, ↓fq_lst6, ↓fq_nli6, ↓fq_nlr6, ↓fq_nln6, ↓fq_ild7, ↓fq_ald7, ↓fq_lld7, ↓fq_inc7, ↓fq_ist7, ↓fq_lst7, ↓fq_nli7, ↓fq_nlr7, ↓fq_nln7, ↓fq_ild8, ↓fq_ald8, ↓fq_lld8, ↓fq_inc8, ↓fq_ist8, ↓fq_lst8, ↓fq_nli8, ↓fq_nlr8, ↓fq_nln8, ↓fq_ild9, ↓fq_ald9, ↓fq_lld9, ↓fq_inc9, ↓fq_ist9, ↓fq_lst9, ↓fq_nli9, ↓fq_nlr9, ↓fq_nln9, ↓fq_ild10, ↓fq_ald10, ↓fq_lld10, ↓fq_inc10, ↓fq_ist10, ↓fq_lst10, ↓fq_nli10, ↓fq_nlr10, ↓fq_nln10, ↓fq_iadd, ↓fq_isub, ↓fq_imul, ↓fq_iand, ↓fq_ior, ↓fq_ixor, ↓fq_ishl, ↓fq_ishr, ↓fq_iushr, ↓fq_ladd, ↓fq_lsub, ↓fq_lmul, ↓fq_land, ↓fq_lor, ↓fq_lushr, ↓fq_lshl, ↓fq_lcmp, ↓fq_i2l, ↓fq_l2i, ↓fq_idiv, ↓fq_irem, ↓fq_ldiv, ↓fq_lrem, ↓fq_ic, ↓fq_lc, ↓fq_dupi, ↓fq_dupr, ↓fq_dup2, ↓fq_popi, ↓fq_mmin, ↓fq_mmax, ↓fq_can, ↓fq_icmpeq, ↓fq_icmpne, ↓fq_icmplt, ↓fq_icmpge, ↓fq_icmpgt, ↓fq_icmple, ↓fq_ifeq, ↓fq_ifne, ↓fq_iflt, ↓fq_ifge, ↓fq_ifgt, ↓fq_ifle, ↓fq_iret, ↓fq_zret, ↓fq_lret, ↓fq_vret, ↓fq_rets, ↓fq_retn, ↓fq_kill, ↓fq_gfI, ↓fq_gfJ, ↓fq_pfI, ↓fq_pfJ, ↓fl_206, ↓fs_206, ↓fl_207, ↓fs_207, ↓fl_208, ↓fs_208, ↓fl_209, ↓fs_209, ↓fl_210, ↓fs_210, ↓fl_211, ↓fs_211, ↓fl_212, ↓fs_212, ↓fl_213, ↓fs_213, ↓fl_214, ↓fs_214, ↓fl_215, ↓fs_215, ↓fl_216, ↓fs_216, ↓fl_217, ↓fs_217, ↓fl_218, ↓fs_218, ↓fl_219, ↓fs_219, ↓fl_220, ↓fs_220, ↓fl_221, ↓fs_221, ↓fl_222, ↓fs_222, ↓fl_223, ↓fs_223, ↓fl_224, ↓fs_224, ↓fl_225, ↓fs_225, ↓fl_226, ↓fs_226, ↓fl_227, ↓fs_227, ↓fl_228, ↓fs_228, ↓fl_229, ↓fs_229, ↓fl_230, ↓fs_230, ↓fl_231, ↓fs_231, ↓fl_232, ↓fs_232, ↓fl_233, ↓fs_233, ↓fl_234, ↓fs_234, ↓fl_235, ↓fs_235, ↓fl_236, ↓fs_236, ↓fl_237, ↓fs_237, ↓fl_238, ↓fs_238, ↓fl_239, ↓fs_239, ↓fl_240, ↓fs_240, ↓fl_241, ↓fs_241, ↓fl_242, ↓fs_242, ↓fl_243, ↓fs_243, ↓fl_244, ↓fs_244, ↓fl_245, ↓fs_245, ↓fl_246, ↓fs_246, ↓fl_247, ↓fs_247, ↓fl_248, ↓fs_248, ↓fl_249, ↓fs_249, ↓fl_250, ↓fs_250, ↓fl_251, ↓fs_251, ↓fl_252, ↓fs_252, ↓fl_253, ↓fs_253, ↓fl_254, ↓fs_254, ↓fl_255, ↓fs_255, ↓fl_256, ↓fs_256, ↓fl_257, ↓fs_257, ↓fl_258, ↓fs_258, ↓fl_259, ↓fs_259, ↓fl_260, ↓fs_260, ↓fc_v0, ↓fc_v1, ↓fc_v2, ↓fc_v3, ↓fc_v4, ↓fc_v5, ↓fc_v6, ↓fc_s0, ↓fc_s1, ↓fc_s2, ↓fc_s3, ↓fc_s4, ↓fc_s5, ↓fq_len0, ↓fq_len1, ↓fq_len2, ↓fq_len3, ↓fq_len4, bt_loc, bt_locs, bt_kl, List.set_cons_zero, List.set_cons_succ, List.replicate_succ, List.replicate_zero, List.cons_append, List.nil_append, List.append_nil, List.length_cons, List.length_nil, Nat.reduceAdd, Nat.reduceSub, true_and, and_true, Nat.zero_add, Int.toNat_natCast, Int.reduceToNat, ↓reduceIte]; exact ⟨by simp, hq⟩)
    | exact ⟨by simp, hq⟩
  · rw [if_neg h1]
    have hw : tk_w t n c = -2 := by unfold tk_w; rw [if_neg (fun q => h1 (r1.mpr q))]
    have hnm : rz_nm t n c = false := by unfold rz_nm; rw [hw]; decide
    rw [hnm] at hq
    first
    | exact ⟨by simp, hq⟩
    | exact l285 hq _ _
    | (simp only [↓tX11_isKept_285, ↓tX11_isKept_290, ↓fq_ild0, ↓fq_ald0, ↓fq_lld0, ↓fq_inc0, ↓fq_ist0, ↓fq_lst0, ↓fq_nl0, ↓fq_ild1, ↓fq_ald1, ↓fq_lld1, ↓fq_inc1, ↓fq_ist1, ↓fq_lst1, ↓fq_nli1, ↓fq_nlr1, ↓fq_nln1, ↓fq_ild2, ↓fq_ald2, ↓fq_lld2, ↓fq_inc2, ↓fq_ist2, ↓fq_lst2, ↓fq_nli2, ↓fq_nlr2, ↓fq_nln2, ↓fq_ild3, ↓fq_ald3, ↓fq_lld3, ↓fq_inc3, ↓fq_ist3, ↓fq_lst3, ↓fq_nli3, ↓fq_nlr3, ↓fq_nln3, ↓fq_ild4, ↓fq_ald4, ↓fq_lld4, ↓fq_inc4, ↓fq_ist4, ↓fq_lst4, ↓fq_nli4, ↓fq_nlr4, ↓fq_nln4, ↓fq_ild5, ↓fq_ald5, ↓fq_lld5, ↓fq_inc5, ↓fq_ist5, ↓fq_lst5, ↓fq_nli5, ↓fq_nlr5, ↓fq_nln5, ↓fq_ild6, ↓fq_ald6, ↓fq_lld6, ↓fq_inc6, ↓fq_ist6, ↓fq_lst6, ↓fq_nli6, ↓fq_nlr6, ↓fq_nln6, ↓fq_ild7, ↓fq_ald7, ↓fq_lld7, ↓fq_inc7, ↓fq_ist7, ↓fq_lst7, ↓fq_nli7, ↓fq_nlr7, ↓fq_nln7, ↓fq_ild8, ↓fq_ald8, ↓fq_lld8, ↓fq_inc8, ↓fq_ist8, ↓fq_lst8, ↓fq_nli8, ↓fq_nlr8, ↓fq_nln8, ↓fq_ild9, ↓fq_ald9, ↓fq_lld9, ↓fq_inc9, ↓fq_ist9, ↓fq_lst9, ↓fq_nli9, ↓fq_nlr9, ↓fq_nln9, ↓fq_ild10, ↓fq_ald10, ↓fq_lld10, ↓fq_inc10, ↓fq_ist10, ↓fq_lst10, ↓fq_nli10, ↓fq_nlr10, ↓fq_nln10, ↓fq_iadd, ↓fq_isub, ↓fq_imul, ↓fq_iand, ↓fq_ior, ↓fq_ixor, ↓fq_ishl, ↓fq_ishr, ↓fq_iushr, ↓fq_ladd, ↓fq_lsub, ↓fq_lmul, ↓fq_land, ↓fq_lor, ↓fq_lushr, ↓fq_lshl, ↓fq_lcmp, ↓fq_i2l, ↓fq_l2i, ↓fq_idiv, ↓fq_irem, ↓fq_ldiv, ↓fq_lrem, ↓fq_ic, ↓fq_lc, ↓fq_dupi, ↓fq_dupr, ↓fq_dup2, ↓fq_popi, ↓fq_mmin, ↓fq_mmax, ↓fq_can, ↓fq_icmpeq, ↓fq_icmpne, ↓fq_icmplt, ↓fq_icmpge, ↓fq_icmpgt, ↓fq_icmple, ↓fq_ifeq, ↓fq_ifne, ↓fq_iflt, ↓fq_ifge, ↓fq_ifgt, ↓fq_ifle, ↓fq_iret, ↓fq_zret, ↓fq_lret, ↓fq_vret, ↓fq_rets, ↓fq_retn, ↓fq_kill, ↓fq_gfI, ↓fq_gfJ, ↓fq_pfI, ↓fq_pfJ, ↓fl_206, ↓fs_206, ↓fl_207, ↓fs_207, ↓fl_208, ↓fs_208, ↓fl_209, ↓fs_209, ↓fl_210, ↓fs_210, ↓fl_211, ↓fs_211, ↓fl_212, ↓fs_212, ↓fl_213, ↓fs_213, ↓fl_214, ↓fs_214, ↓fl_215, ↓fs_215, ↓fl_216, ↓fs_216, ↓fl_217, ↓fs_217, ↓fl_218, ↓fs_218, ↓fl_219, ↓fs_219, ↓fl_220, ↓fs_220, ↓fl_221, ↓fs_221, ↓fl_222, ↓fs_222, ↓fl_223, ↓fs_223, ↓fl_224, ↓fs_224, ↓fl_225, ↓fs_225, ↓fl_226, ↓fs_226, ↓fl_227, ↓fs_227, ↓fl_228, ↓fs_228, ↓fl_229, ↓fs_229, ↓fl_230, ↓fs_230, ↓fl_231, ↓fs_231, ↓fl_232, ↓fs_232, ↓fl_233, ↓fs_233, ↓fl_234, ↓fs_234, ↓fl_235, ↓fs_235, ↓fl_236, ↓fs_236, ↓fl_237, ↓fs_237, ↓fl_238, ↓fs_238, ↓fl_239, ↓fs_239, ↓fl_240, ↓fs_240, ↓fl_241, ↓fs_241, ↓fl_242, ↓fs_242, ↓fl_243, ↓fs_243, ↓fl_244, ↓fs_244, ↓fl_245, ↓fs_245, ↓fl_246, ↓fs_246, ↓fl_247, ↓fs_247, ↓fl_248, ↓fs_248, ↓fl_249, ↓fs_249, ↓fl_250, ↓fs_250, ↓fl_251, ↓fs_251, ↓fl_252, ↓fs_252, ↓fl_253, ↓fs_253, ↓fl_254, ↓fs_254, ↓fl_255, ↓fs_255, ↓fl_256, ↓fs_256, ↓fl_257, ↓fs_257, ↓fl_258, ↓fs_258, ↓fl_259, ↓fs_259, ↓fl_260, ↓fs_260, ↓fc_v0, ↓fc_v1, ↓fc_v2, ↓fc_v3, ↓fc_v4, ↓fc_v5, ↓fc_v6, ↓fc_s0, ↓fc_s1, ↓fc_s2, ↓fc_s3, ↓fc_s4, ↓fc_s5, ↓fq_len0, ↓fq_len1, ↓fq_len2, ↓fq_len3, ↓fq_len4, bt_loc, bt_locs, bt_kl, List.set_cons_zero, List.set_cons_succ, List.replicate_succ, List.replicate_zero, List.cons_append, List.nil_append, List.append_nil, List.length_cons, List.length_nil, Nat.reduceAdd, Nat.reduceSub, true_and, and_true, Nat.zero_add, Int.toNat_natCast, Int.reduceToNat, ↓reduceIte]; exact ⟨by simp, hq⟩)
