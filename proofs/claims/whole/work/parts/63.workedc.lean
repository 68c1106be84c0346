/-! the reference: worked -/
def SpX11_worked : bt_Sp := fun As w Q => ∃ (ρ : Nat → Nat → Option Nat) (μ : Nat → Nat → Int) (l a b : Nat) (V : fo_V), As = [.inr (.inr 205), .inl (l : Int)] ∧ w = bt_wd ρ μ ∧ bt_Rf ρ ∧ l < 2 ∧ μ 219 l = (a : Int) ∧ μ 220 l = (b : Int) ∧ a ≤ b ∧ b ≤ 1000 ∧ wk_ok (μ 221) a b V ∧ ∀ μ', bt_fr wk_in μ' μ → Q (some (.inl (bt_w (V (fun k => μ 233 (k + 1)))))) (bt_wd ρ μ')
def iX11_worked (ρ : Nat → Nat → Option Nat) (μ : Nat → Nat → Int) (l b : Nat) (G : wk_Q) (h m : Nat) : bt_K := fun st L w => st = [] ∧ ∃ (μ1 M : Nat → Nat → Int) (k d : Nat), w = bt_wd ρ μ1 ∧ wk_E μ1 M ∧ bt_fr wk_in μ1 μ ∧ d < 7 ∧ (if h = 14 then k ≤ b ∧ m = (b - k) * 20 + 10 ∧ L = [some (.inr (.inr 205)), some (.inl (l : Int)), some (.inl (d : Int)), some (.inl (k : Int)), none, none] ∧ wk_r (fun k => μ 233 (k + 1)) (μ 221) (b - k) k (d, M) = some G else k < b ∧ m = (b - k) * 20 + d ∧ ∃ v, L = [some (.inr (.inr 205)), some (.inl (l : Int)), some (.inl (d : Int)), some (.inl (k : Int)), none, some (.inl v)] ∧ wk_r (fun k => μ 233 (k + 1)) (μ 221) (b - (k + 1)) (k + 1) (wk_dl d v M) = some G)
set_option maxHeartbeats 4000000 in
theorem mtX11_worked : bt_Met yX11_worked cX11_worked 6 (some .int) 3 [2, 0] SpX11_worked := by
  refine lpX11_worked mtX11_opens (by decide) mtX11_sums (by decide) mtX11_tests (by decide) _ (fun As w Q _ hS => ?_)
  obtain ⟨ρ, μ, l, a, b, V, rfl, rfl, hρ, hl, ha, hb, hab, hb1, hok, hQ⟩ := hS
  obtain ⟨M0, hrun, hval⟩ := hok (fun k => μ 233 (k + 1)) (fun j => μ (224 + j))
  refine ⟨iX11_worked ρ μ l b (0, M0), ?_, ?_, ?_⟩
  · simp (disch := omega) only [↓tX11_worked_0, ↓fq_ild0, ↓fq_ald0, ↓fq_lld0, ↓fq_inc0, ↓fq_ist0, ↓fq_lst0, ↓fq_nl0, ↓fq_ild1, ↓fq_ald1, ↓fq_lld1, ↓fq_inc1, ↓fq_ist1, ↓fq_lst1, ↓fq_nli1, ↓fq_nlr1, ↓fq_nln1, ↓fq_ild2, ↓fq_ald2, ↓fq_lld2, ↓fq_inc2, ↓fq_ist2, ↓fq_lst2, ↓fq_nli2, ↓fq_nlr2, ↓fq_nln2, ↓fq_ild3, ↓fq_ald3, ↓fq_lld3, ↓fq_inc3, ↓fq_ist3, ↓fq_lst3, ↓fq_nli3, ↓fq_nlr3, ↓fq_nln3, ↓fq_ild4, ↓fq_ald4, ↓fq_lld4, ↓fq_inc4, ↓fq_ist4, ↓fq_lst4, ↓fq_nli4, ↓fq_nlr4, ↓fq_nln4, ↓fq_ild5, ↓fq_ald5, ↓fq_lld5, ↓fq_inc5, ↓fq_ist5, ↓fq_lst5, ↓fq_nli5, ↓fq_nlr5, ↓fq_nln5, ↓fq_ild6, ↓fq_ald6, ↓fq_lld6, ↓fq_inc6, ↓fq_ist6, ↓fq_lst6, ↓fq_nli6, ↓fq_nlr6, ↓fq_nln6, ↓fq_ild7, ↓fq_ald7, ↓fq_lld7, ↓fq_inc7, ↓fq_ist7, ↓fq_lst7, ↓fq_nli7, ↓fq_nlr7, ↓fq_nln7, ↓fq_ild8, ↓fq_ald8, ↓fq_lld8, ↓fq_inc8, ↓fq_ist8, ↓fq_lst8, ↓fq_nli8, ↓fq_nlr8, ↓fq_nln8, ↓fq_ild9, ↓fq_ald9, ↓fq_lld9, ↓fq_inc9, ↓fq_ist9, ↓fq_lst9, ↓fq_nli9, ↓fq_nlr9, ↓fq_nln9, ↓fq_ild10, ↓fq_ald10, ↓fq_lld10, ↓fq_inc10, ↓fq_ist10, ↓fq_lst10, ↓fq_nli10, ↓fq_nlr10, ↓fq_nln10, ↓fq_iadd, ↓fq_isub, ↓fq_imul, ↓fq_iand, ↓fq_ior, ↓fq_ixor, ↓fq_ishl, ↓fq_ishr, ↓fq_iushr, ↓fq_ladd, ↓fq_lsub, ↓fq_lmul, ↓fq_land, ↓fq_lor, ↓fq_lushr, ↓fq_lshl, ↓fq_lcmp, ↓fq_i2l, ↓fq_l2i, ↓fq_idiv, ↓fq_irem, ↓fq_ldiv, ↓fq_lrem, ↓fq_ic, ↓fq_lc, ↓fq_dupi, ↓fq_dupr, ↓fq_dup2, ↓fq_popi, ↓fq_mmin, ↓fq_mmax, ↓fq_can, ↓fq_icmpeq, ↓fq_icmpne, ↓fq_icmplt, ↓fq_icmpge, ↓fq_icmpgt, ↓fq_icmple, ↓fq_ifeq, ↓fq_ifne, ↓fq_iflt, ↓fq_ifge, ↓fq_ifgt, ↓fq_ifle, ↓fq_iret, ↓fq_zret, ↓fq_lret, ↓fq_vret, ↓fq_rets, ↓fq_retn, ↓fq_kill, ↓fq_gfI, ↓fq_gfJ, ↓fq_pfI, ↓fq_pfJ, ↓fl_206, ↓fs_206, ↓fl_207, ↓fs_207, ↓fl_208, ↓fs_208, ↓fl_209, ↓fs_209, ↓fl_210, ↓fs_210, ↓fl_211, ↓fs_211, ↓fl_212, ↓fs_212, ↓fl_213, ↓fs_213, ↓fl_214, ↓fs_214, ↓fl_215, ↓fs_215, ↓fl_216, ↓fs_216, ↓fl_217, ↓fs_217, ↓fl_218, ↓fs_218, ↓fl_219, ↓fs_219, ↓fl_220, ↓fs_220, ↓fl_221, ↓fs_221, ↓fl_222, ↓fs_222, ↓fl_223, ↓fs_223, ↓fl_224, ↓fs_224, ↓fl_225, ↓fs_225, ↓fl_226, ↓fs_226, ↓fl_227, ↓fs_227, ↓fl_228, ↓fs_228, ↓fl_229, ↓fs_229, ↓fl_230, ↓fs_230, ↓fl_231, ↓fs_231, ↓fl_232, ↓fs_232, ↓fl_233, ↓fs_233, ↓fl_234, ↓fs_234, ↓fl_235, ↓fs_235, ↓fl_236, ↓fs_236, ↓fl_237, ↓fs_237, ↓fl_238, ↓fs_238, ↓fl_239, ↓fs_239, ↓fl_240, ↓fs_240, ↓fl_241, ↓fs_241, ↓fl_242, ↓fs_242, ↓fl_243, ↓fs_243, ↓fl_244, ↓fs_244, ↓fl_245, ↓fs_245, ↓fl_246, ↓fs_246, ↓fl_247, ↓fs_247, ↓fl_248, ↓fs_248, ↓fl_249, ↓fs_249, ↓fl_250, ↓fs_250, ↓fl_251, ↓fs_251, ↓fl_252, ↓fs_252, ↓fl_253, ↓fs_253, ↓fl_254, ↓fs_254, ↓fl_255, ↓fs_255, ↓fl_256, ↓fs_256, ↓fl_257, ↓fs_257, ↓fl_258, ↓fs_258, ↓fl_259, ↓fs_259, ↓fl_260, ↓fs_260, ↓fc_v0, ↓fc_v1, ↓fc_v2, ↓fc_v3, ↓fc_v4, ↓fc_v5, ↓fc_v6, ↓fc_s0, ↓fc_s1, ↓fc_s2, ↓fc_s3, ↓fc_s4, ↓fc_s5, ↓fq_len0, ↓fq_len1, ↓fq_len2, ↓fq_len3, ↓fq_len4, ↓fg_2 hρ, ↓fg_10 hρ, ↓fg_11 hρ, ↓fg_12 hρ, ↓fg_13 hρ, ↓fg_14 hρ, ↓fg_15 hρ, ↓fg_16 hρ, ↓fg_17 hρ, ↓fg_18 hρ, ↓fg_19 hρ, ↓fg_20 hρ, ↓fg_21 hρ, ↓fg_22 hρ, ↓fg_23 hρ, ↓fg_24 hρ, ↓fg_28 hρ, ↓fg_29 hρ, ↓fg_30 hρ, ↓fg_31 hρ, ↓fg_32 hρ, ↓fg_33 hρ, ↓fg_34 hρ, ↓fg_35 hρ, ↓fg_36 hρ, ↓fg_37 hρ, ↓fg_38 hρ, ↓fg_39 hρ, ↓fg_42 hρ, ↓fg_43 hρ, ↓fg_44 hρ, ↓fg_45 hρ, ↓fg_46 hρ, ↓fg_47 hρ, ↓fg_48 hρ, ↓fg_49 hρ, ↓fg_50 hρ, ↓fg_51 hρ, ↓fg_52 hρ, ↓fg_53 hρ, ↓fg_55 hρ, ↓fg_56 hρ, ↓fg_57 hρ, ↓fg_58 hρ, ↓fg_59 hρ, ↓fg_60 hρ, ↓fg_61 hρ, ↓fg_62 hρ, ↓fg_63 hρ, ↓fg_66 hρ, ↓fg_67 hρ, ↓fg_68 hρ, ↓fg_70 hρ, ↓fg_71 hρ, ↓fg_72 hρ, bt_loc, bt_locs, bt_kl, List.set_cons_zero, List.set_cons_succ, List.replicate_succ, List.replicate_zero, List.cons_append, List.nil_append, List.append_nil, List.length_cons, List.length_nil, Nat.reduceAdd, Nat.reduceSub, true_and, and_true, Nat.zero_add, Int.toNat_natCast, Int.reduceToNat, ↓reduceIte]
    repeat (refine And.intro (by first | omega | decide | (simp only [and_true, true_and]; omega)) ?_)
    refine wk_op_call (d := 0) (M := fun j => μ (224 + j)) hρ (fun j _ => rfl) (by omega) (fun μ1 hE1 f1 => ?_)
    have e1 : μ1 219 l = (a : Int) := by rw [f1 219 (by unfold wk_in; omega)]; exact ha
    simp (disch := omega) only [↓fq_ild0, ↓fq_ald0, ↓fq_lld0, ↓fq_inc0, ↓fq_ist0, ↓fq_lst0, ↓fq_nl0, ↓fq_ild1, ↓fq_ald1, ↓fq_lld1, ↓fq_inc1, ↓fq_ist1, ↓fq_lst1, ↓fq_nli1, ↓fq_nlr1, ↓fq_nln1, ↓fq_ild2, ↓fq_ald2, ↓fq_lld2, ↓fq_inc2, ↓fq_ist2, ↓fq_lst2, ↓fq_nli2, ↓fq_nlr2, ↓fq_nln2, ↓fq_ild3, ↓fq_ald3, ↓fq_lld3, ↓fq_inc3, ↓fq_ist3, ↓fq_lst3, ↓fq_nli3, ↓fq_nlr3, ↓fq_nln3, ↓fq_ild4, ↓fq_ald4, ↓fq_lld4, ↓fq_inc4, ↓fq_ist4, ↓fq_lst4, ↓fq_nli4, ↓fq_nlr4, ↓fq_nln4, ↓fq_ild5, ↓fq_ald5, ↓fq_lld5, ↓fq_inc5, ↓fq_ist5, ↓fq_lst5, ↓fq_nli5, ↓fq_nlr5, ↓fq_nln5, ↓fq_ild6, ↓fq_ald6, ↓fq_lld6, ↓fq_inc6, ↓fq_ist6, ↓fq_lst6, ↓fq_nli6, ↓fq_nlr6, ↓fq_nln6, ↓fq_ild7, ↓fq_ald7, ↓fq_lld7, ↓fq_inc7, ↓fq_ist7, ↓fq_lst7, ↓fq_nli7, ↓fq_nlr7, ↓fq_nln7, ↓fq_ild8, ↓fq_ald8, ↓fq_lld8, ↓fq_inc8, ↓fq_ist8, ↓fq_lst8, ↓fq_nli8, ↓fq_nlr8, ↓fq_nln8, ↓fq_ild9, ↓fq_ald9, ↓fq_lld9, ↓fq_inc9, ↓fq_ist9, ↓fq_lst9, ↓fq_nli9, ↓fq_nlr9, ↓fq_nln9, ↓fq_ild10, ↓fq_ald10, ↓fq_lld10, ↓fq_inc10, ↓fq_ist10, ↓fq_lst10, ↓fq_nli10, ↓fq_nlr10, ↓fq_nln10, ↓fq_iadd, ↓fq_isub, ↓fq_imul, ↓fq_iand, ↓fq_ior, ↓fq_ixor, ↓fq_ishl, ↓fq_ishr, ↓fq_iushr, ↓fq_ladd, ↓fq_lsub, ↓fq_lmul, ↓fq_land, ↓fq_lor, ↓fq_lushr, ↓fq_lshl, ↓fq_lcmp, ↓fq_i2l, ↓fq_l2i, ↓fq_idiv, ↓fq_irem, ↓fq_ldiv, ↓fq_lrem, ↓fq_ic, ↓fq_lc, ↓fq_dupi, ↓fq_dupr, ↓fq_dup2, ↓fq_popi, ↓fq_mmin, ↓fq_mmax, ↓fq_can, ↓fq_icmpeq, ↓fq_icmpne, ↓fq_icmplt, ↓fq_icmpge, ↓fq_icmpgt, ↓fq_icmple, ↓fq_ifeq, ↓fq_ifne, ↓fq_iflt, ↓fq_ifge, ↓fq_ifgt, ↓fq_ifle, ↓fq_iret, ↓fq_zret, ↓fq_lret, ↓fq_vret, ↓fq_rets, ↓fq_retn, ↓fq_kill, ↓fq_gfI, ↓fq_gfJ, ↓fq_pfI, ↓fq_pfJ, ↓fl_206, ↓fs_206, ↓fl_207, ↓fs_207, ↓fl_208, ↓fs_208, ↓fl_209, ↓fs_209, ↓fl_210, ↓fs_210, ↓fl_211, ↓fs_211, ↓fl_212, ↓fs_212, ↓fl_213, ↓fs_213, ↓fl_214, ↓fs_214, ↓fl_215, ↓fs_215, ↓fl_216, ↓fs_216, ↓fl_217, ↓fs_217, ↓fl_218, ↓fs_218, ↓fl_219, ↓fs_219, ↓fl_220, ↓fs_220, ↓fl_221, ↓fs_221, ↓fl_222, ↓fs_222, ↓fl_223, ↓fs_223, ↓fl_224, ↓fs_224, ↓fl_225, ↓fs_225, ↓fl_226, ↓fs_226, ↓fl_227, ↓fs_227, ↓fl_228, ↓fs_228, ↓fl_229, ↓fs_229, ↓fl_230, ↓fs_230, ↓fl_231, ↓fs_231, ↓fl_232, ↓fs_232, ↓fl_233, ↓fs_233, ↓fl_234, ↓fs_234, ↓fl_235, ↓fs_235, ↓fl_236, ↓fs_236, ↓fl_237, ↓fs_237, ↓fl_238, ↓fs_238, ↓fl_239, ↓fs_239, ↓fl_240, ↓fs_240, ↓fl_241, ↓fs_241, ↓fl_242, ↓fs_242, ↓fl_243, ↓fs_243, ↓fl_244, ↓fs_244, ↓fl_245, ↓fs_245, ↓fl_246, ↓fs_246, ↓fl_247, ↓fs_247, ↓fl_248, ↓fs_248, ↓fl_249, ↓fs_249, ↓fl_250, ↓fs_250, ↓fl_251, ↓fs_251, ↓fl_252, ↓fs_252, ↓fl_253, ↓fs_253, ↓fl_254, ↓fs_254, ↓fl_255, ↓fs_255, ↓fl_256, ↓fs_256, ↓fl_257, ↓fs_257, ↓fl_258, ↓fs_258, ↓fl_259, ↓fs_259, ↓fl_260, ↓fs_260, ↓fc_v0, ↓fc_v1, ↓fc_v2, ↓fc_v3, ↓fc_v4, ↓fc_v5, ↓fc_v6, ↓fc_s0, ↓fc_s1, ↓fc_s2, ↓fc_s3, ↓fc_s4, ↓fc_s5, ↓fq_len0, ↓fq_len1, ↓fq_len2, ↓fq_len3, ↓fq_len4, ↓fg_2 hρ, ↓fg_10 hρ, ↓fg_11 hρ, ↓fg_12 hρ, ↓fg_13 hρ, ↓fg_14 hρ, ↓fg_15 hρ, ↓fg_16 hρ, ↓fg_17 hρ, ↓fg_18 hρ, ↓fg_19 hρ, ↓fg_20 hρ, ↓fg_21 hρ, ↓fg_22 hρ, ↓fg_23 hρ, ↓fg_24 hρ, ↓fg_28 hρ, ↓fg_29 hρ, ↓fg_30 hρ, ↓fg_31 hρ, ↓fg_32 hρ, ↓fg_33 hρ, ↓fg_34 hρ, ↓fg_35 hρ, ↓fg_36 hρ, ↓fg_37 hρ, ↓fg_38 hρ, ↓fg_39 hρ, ↓fg_42 hρ, ↓fg_43 hρ, ↓fg_44 hρ, ↓fg_45 hρ, ↓fg_46 hρ, ↓fg_47 hρ, ↓fg_48 hρ, ↓fg_49 hρ, ↓fg_50 hρ, ↓fg_51 hρ, ↓fg_52 hρ, ↓fg_53 hρ, ↓fg_55 hρ, ↓fg_56 hρ, ↓fg_57 hρ, ↓fg_58 hρ, ↓fg_59 hρ, ↓fg_60 hρ, ↓fg_61 hρ, ↓fg_62 hρ, ↓fg_63 hρ, ↓fg_66 hρ, ↓fg_67 hρ, ↓fg_68 hρ, ↓fg_70 hρ, ↓fg_71 hρ, ↓fg_72 hρ, bt_loc, bt_locs, bt_kl, List.set_cons_zero, List.set_cons_succ, List.replicate_succ, List.replicate_zero, List.cons_append, List.nil_append, List.append_nil, List.length_cons, List.length_nil, Nat.reduceAdd, Nat.reduceSub, true_and, and_true, Nat.zero_add, Int.toNat_natCast, Int.reduceToNat, ↓reduceIte, bt_w_id, e1]
    repeat (refine And.intro (by first | omega | decide | (simp only [and_true, true_and]; omega)) ?_)
    exact ⟨_, rfl, μ1, _, a, 0, rfl, hE1, f1, by omega, hab, rfl, rfl, hrun⟩
  · rintro m st L w ⟨rfl, μ1, M, k, d, rfl, hE, hfr, hd, hI⟩
    simp only [↓reduceIte] at hI
    obtain ⟨hk, rfl, rfl, hr⟩ := hI
    have e1 : μ1 220 l = (b : Int) := by rw [hfr 220 (by unfold wk_in; omega)]; exact hb
    have e2 : μ1 221 = μ 221 := hfr 221 (by unfold wk_in; omega)
    have e3 : μ1 233 = μ 233 := hfr 233 (by unfold wk_in; omega)
    by_cases hc : b ≤ k
    · have hcb : (b : Int) ≤ (k : Int) := by omega
      have hkb : k = b := by omega
      subst hkb
      rw [Nat.sub_self] at hr
      have hq : (d, M) = (0, M0) := Option.some.inj hr
      have hd0 : d = 0 := congrArg (fun q : wk_Q => q.1) hq
      have hM0 : M = M0 := congrArg (fun q : wk_Q => q.2) hq
      subst hd0 hM0
      simp (disch := omega) only [↓tX11_worked_14, ↓fq_ild0, ↓fq_ald0, ↓fq_lld0, ↓fq_inc0, ↓fq_ist0, ↓fq_lst0, ↓fq_nl0, ↓fq_ild1, ↓fq_ald1, ↓fq_lld1, ↓fq_inc1, ↓fq_ist1, ↓fq_lst1, ↓fq_nli1, ↓fq_nlr1, ↓fq_nln1, ↓fq_ild2, ↓fq_ald2, ↓fq_lld2, ↓fq_inc2, ↓fq_ist2, ↓fq_lst2, ↓fq_nli2, ↓fq_nlr2, ↓fq_nln2, ↓fq_ild3, ↓fq_ald3, ↓fq_lld3, ↓fq_inc3, ↓fq_ist3, ↓fq_lst3, ↓fq_nli3, ↓fq_nlr3, ↓fq_nln3, ↓fq_ild4, ↓fq_ald4, ↓fq_lld4, ↓fq_inc4, ↓fq_ist4, ↓fq_lst4, ↓fq_nli4, ↓fq_nlr4, ↓fq_nln4, ↓fq_ild5, ↓fq_ald5, ↓fq_lld5, ↓fq_inc5, ↓fq_ist5, ↓fq_lst5, ↓fq_nli5, ↓fq_nlr5, ↓fq_nln5, ↓fq_ild6, ↓fq_ald6, ↓fq_lld6, ↓fq_inc6, ↓fq_ist6, ↓fq_lst6, ↓fq_nli6, ↓fq_nlr6, ↓fq_nln6, ↓fq_ild7, ↓fq_ald7, ↓fq_lld7, ↓fq_inc7, ↓fq_ist7, ↓fq_lst7, ↓fq_nli7, ↓fq_nlr7, ↓fq_nln7, ↓fq_ild8, ↓fq_ald8, ↓fq_lld8, ↓fq_inc8, ↓fq_ist8, ↓fq_lst8, ↓fq_nli8, ↓fq_nlr8, ↓fq_nln8, ↓fq_ild9, ↓fq_ald9, ↓fq_lld9, ↓fq_inc9, ↓fq_ist9, ↓fq_lst9, ↓fq_nli9, ↓fq_nlr9, ↓fq_nln9, ↓fq_ild10, ↓fq_ald10, ↓fq_lld10, ↓fq_inc10, ↓fq_ist10, ↓fq_lst10, ↓fq_nli10, ↓fq_nlr10, ↓fq_nln10, ↓fq_iadd, ↓fq_isub, ↓fq_imul, ↓fq_iand, ↓fq_ior, ↓fq_ixor, ↓fq_ishl, ↓fq_ishr, ↓fq_iushr, ↓fq_ladd, ↓fq_lsub, ↓fq_lmul, ↓fq_land, ↓fq_lor, ↓fq_lushr, ↓fq_lshl, ↓fq_lcmp, ↓fq_i2l, ↓fq_l2i, ↓fq_idiv, ↓fq_irem, ↓fq_ldiv, ↓fq_lrem, ↓fq_ic, ↓fq_lc, ↓fq_dupi, ↓fq_dupr, ↓fq_dup2, ↓fq_popi, ↓fq_mmin, ↓fq_mmax, ↓fq_can, ↓fq_icmpeq, ↓fq_icmpne, ↓fq_icmplt, ↓fq_icmpge, ↓fq_icmpgt, ↓fq_icmple, ↓fq_ifeq, ↓fq_ifne, ↓fq_iflt, ↓fq_ifge, ↓fq_ifgt, ↓fq_ifle, ↓fq_iret, ↓fq_zret, ↓fq_lret, ↓fq_vret, ↓fq_rets, ↓fq_retn, ↓fq_kill, ↓fq_gfI, ↓fq_gfJ, ↓fq_pfI, ↓fq_pfJ, ↓fl_206, ↓fs_206, ↓fl_207, ↓fs_207, ↓fl_208, ↓fs_208, ↓fl_209, ↓fs_209, ↓fl_210, ↓fs_210, ↓fl_211, ↓fs_211, ↓fl_212, ↓fs_212, ↓fl_213, ↓fs_213, ↓fl_214, ↓fs_214, ↓fl_215, ↓fs_215, ↓fl_216, ↓fs_216, ↓fl_217, ↓fs_217, ↓fl_218, ↓fs_218, ↓fl_219, ↓fs_219, ↓fl_220, ↓fs_220, ↓fl_221, ↓fs_221, ↓fl_222, ↓fs_222, ↓fl_223, ↓fs_223, ↓fl_224, ↓fs_224, ↓fl_225, ↓fs_225, ↓fl_226, ↓fs_226, ↓fl_227, ↓fs_227, ↓fl_228, ↓fs_228, ↓fl_229, ↓fs_229, ↓fl_230, ↓fs_230, ↓fl_231, ↓fs_231, ↓fl_232, ↓fs_232, ↓fl_233, ↓fs_233, ↓fl_234, ↓fs_234, ↓fl_235, ↓fs_235, ↓fl_236, ↓fs_236, ↓fl_237, ↓fs_237, ↓fl_238, ↓fs_238, ↓fl_239, ↓fs_239, ↓fl_240, ↓fs_240, ↓fl_241, ↓fs_241, ↓fl_242, ↓fs_242, ↓fl_243, ↓fs_243, ↓fl_244, ↓fs_244, ↓fl_245, ↓fs_245, ↓fl_246, ↓fs_246, ↓fl_247, ↓fs_247, ↓fl_248, ↓fs_248, ↓fl_249, ↓fs_249, ↓fl_250, ↓fs_250, ↓fl_251, ↓fs_251, ↓fl_252, ↓fs_252, ↓fl_253, ↓fs_253, ↓fl_254, ↓fs_254, ↓fl_255, ↓fs_255, ↓fl_256, ↓fs_256, ↓fl_257, ↓fs_257, ↓fl_258, ↓fs_258, ↓fl_259, ↓fs_259, ↓fl_260, ↓fs_260, ↓fc_v0, ↓fc_v1, ↓fc_v2, ↓fc_v3, ↓fc_v4, ↓fc_v5, ↓fc_v6, ↓fc_s0, ↓fc_s1, ↓fc_s2, ↓fc_s3, ↓fc_s4, ↓fc_s5, ↓fq_len0, ↓fq_len1, ↓fq_len2, ↓fq_len3, ↓fq_len4, ↓fg_2 hρ, ↓fg_10 hρ, ↓fg_11 hρ, ↓fg_12 hρ, ↓fg_13 hρ, ↓fg_14 hρ, ↓fg_15 hρ, ↓fg_16 hρ, ↓fg_17 hρ, ↓fg_18 hρ, ↓fg_19 hρ, ↓fg_20 hρ, ↓fg_21 hρ, ↓fg_22 hρ, ↓fg_23 hρ, ↓fg_24 hρ, ↓fg_28 hρ, ↓fg_29 hρ, ↓fg_30 hρ, ↓fg_31 hρ, ↓fg_32 hρ, ↓fg_33 hρ, ↓fg_34 hρ, ↓fg_35 hρ, ↓fg_36 hρ, ↓fg_37 hρ, ↓fg_38 hρ, ↓fg_39 hρ, ↓fg_42 hρ, ↓fg_43 hρ, ↓fg_44 hρ, ↓fg_45 hρ, ↓fg_46 hρ, ↓fg_47 hρ, ↓fg_48 hρ, ↓fg_49 hρ, ↓fg_50 hρ, ↓fg_51 hρ, ↓fg_52 hρ, ↓fg_53 hρ, ↓fg_55 hρ, ↓fg_56 hρ, ↓fg_57 hρ, ↓fg_58 hρ, ↓fg_59 hρ, ↓fg_60 hρ, ↓fg_61 hρ, ↓fg_62 hρ, ↓fg_63 hρ, ↓fg_66 hρ, ↓fg_67 hρ, ↓fg_68 hρ, ↓fg_70 hρ, ↓fg_71 hρ, ↓fg_72 hρ, bt_loc, bt_locs, bt_kl, List.set_cons_zero, List.set_cons_succ, List.replicate_succ, List.replicate_zero, List.cons_append, List.nil_append, List.append_nil, List.length_cons, List.length_nil, Nat.reduceAdd, Nat.reduceSub, true_and, and_true, Nat.zero_add, Int.toNat_natCast, Int.reduceToNat, ↓reduceIte, bt_w_id, e1, hcb]
      repeat (refine And.intro (by first | omega | decide | (simp only [and_true, true_and]; omega)) ?_)
      refine ⟨ρ, μ1, M, 0, rfl, rfl, hρ, hE, by omega, fun μ2 hE2 f2 => ?_⟩
      have e4 : μ2 224 0 = V (fun k => μ 233 (k + 1)) := by
        rw [hE2 0 (by decide), ← hval]
        unfold wk_te
        rw [bt_up_cell (by decide), bt_up_cell (by decide), bt_up_cell (by decide), bt_up_same]
      simp (disch := omega) only [↓fq_ild0, ↓fq_ald0, ↓fq_lld0, ↓fq_inc0, ↓fq_ist0, ↓fq_lst0, ↓fq_nl0, ↓fq_ild1, ↓fq_ald1, ↓fq_lld1, ↓fq_inc1, ↓fq_ist1, ↓fq_lst1, ↓fq_nli1, ↓fq_nlr1, ↓fq_nln1, ↓fq_ild2, ↓fq_ald2, ↓fq_lld2, ↓fq_inc2, ↓fq_ist2, ↓fq_lst2, ↓fq_nli2, ↓fq_nlr2, ↓fq_nln2, ↓fq_ild3, ↓fq_ald3, ↓fq_lld3, ↓fq_inc3, ↓fq_ist3, ↓fq_lst3, ↓fq_nli3, ↓fq_nlr3, ↓fq_nln3, ↓fq_ild4, ↓fq_ald4, ↓fq_lld4, ↓fq_inc4, ↓fq_ist4, ↓fq_lst4, ↓fq_nli4, ↓fq_nlr4, ↓fq_nln4, ↓fq_ild5, ↓fq_ald5, ↓fq_lld5, ↓fq_inc5, ↓fq_ist5, ↓fq_lst5, ↓fq_nli5, ↓fq_nlr5, ↓fq_nln5, ↓fq_ild6, ↓fq_ald6, ↓fq_lld6, ↓fq_inc6, ↓fq_ist6, ↓fq_lst6, ↓fq_nli6, ↓fq_nlr6, ↓fq_nln6, ↓fq_ild7, ↓fq_ald7, ↓fq_lld7, ↓fq_inc7, ↓fq_ist7, ↓fq_lst7, ↓fq_nli7, ↓fq_nlr7, ↓fq_nln7, ↓fq_ild8, ↓fq_ald8, ↓fq_lld8, ↓fq_inc8, ↓fq_ist8, ↓fq_lst8, ↓fq_nli8, ↓fq_nlr8, ↓fq_nln8, ↓fq_ild9, ↓fq_ald9, ↓fq_lld9, ↓fq_inc9, ↓fq_ist9, ↓fq_lst9, ↓fq_nli9, ↓fq_nlr9, ↓fq_nln9, ↓fq_ild10, ↓fq_ald10, ↓fq_lld10, ↓fq_inc10, ↓fq_ist10, ↓fq_lst10, ↓fq_nli10, ↓fq_nlr10, ↓fq_nln10, ↓fq_iadd, ↓fq_isub, ↓fq_imul, ↓fq_iand, ↓fq_ior, ↓fq_ixor, ↓fq_ishl, ↓fq_ishr, ↓fq_iushr, ↓fq_ladd, ↓fq_lsub, ↓fq_lmul, ↓fq_land, ↓fq_lor, ↓fq_lushr, ↓fq_lshl, ↓fq_lcmp, ↓fq_i2l, ↓fq_l2i, ↓fq_idiv, ↓fq_irem, ↓fq_ldiv, ↓fq_lrem, ↓fq_ic, ↓fq_lc, ↓fq_dupi, ↓fq_dupr, ↓fq_dup2, ↓fq_popi, ↓fq_mmin, ↓fq_mmax, ↓fq_can, ↓fq_icmpeq, ↓fq_icmpne, ↓fq_icmplt, ↓fq_icmpge, ↓fq_icmpgt, ↓fq_icmple, ↓fq_ifeq, ↓fq_ifne, ↓fq_iflt, ↓fq_ifge, ↓fq_ifgt, ↓fq_ifle, ↓fq_iret, ↓fq_zret, ↓fq_lret, ↓fq_vret, ↓fq_rets, ↓fq_retn, ↓fq_kill, ↓fq_gfI, ↓fq_gfJ, ↓fq_pfI, ↓fq_pfJ, ↓fl_206, ↓fs_206, ↓fl_207, ↓fs_207, ↓fl_208, ↓fs_208, ↓fl_209, ↓fs_209, ↓fl_210, ↓fs_210, ↓fl_211, ↓fs_211, ↓fl_212, ↓fs_212, ↓fl_213, ↓fs_213, ↓fl_214, ↓fs_214, ↓fl_215, ↓fs_215, ↓fl_216, ↓fs_216, ↓fl_217, ↓fs_217, ↓fl_218, ↓fs_218, ↓fl_219, ↓fs_219, ↓fl_220, ↓fs_220, ↓fl_221, ↓fs_221, ↓fl_222, ↓fs_222, ↓fl_223, ↓fs_223, ↓fl_224, ↓fs_224, ↓fl_225, ↓fs_225, ↓fl_226, ↓fs_226, ↓fl_227, ↓fs_227, ↓fl_228, ↓fs_228, ↓fl_229, ↓fs_229, ↓fl_230, ↓fs_230, ↓fl_231, ↓fs_231, ↓fl_232, ↓fs_232, ↓fl_233, ↓fs_233, ↓fl_234, ↓fs_234, ↓fl_235, ↓fs_235, ↓fl_236, ↓fs_236, ↓fl_237, ↓fs_237, ↓fl_238, ↓fs_238, ↓fl_239, ↓fs_239, ↓fl_240, ↓fs_240, ↓fl_241, ↓fs_241, ↓fl_242, ↓fs_242, ↓fl_243, ↓fs_243, ↓fl_244, ↓fs_244, ↓fl_245, ↓fs_245, ↓fl_246, ↓fs_246, ↓fl_247, ↓fs_247, ↓fl_248, ↓fs_248, ↓fl_249, ↓fs_249, ↓fl_250, ↓fs_250, ↓fl_251, ↓fs_251, ↓fl_252, ↓fs_252, ↓fl_253, ↓fs_253, ↓fl_254, ↓fs_254, ↓fl_255, ↓fs_255, ↓fl_256, ↓fs_256, ↓fl_257, ↓fs_257, ↓fl_258, ↓fs_258, ↓fl_259, ↓fs_259, ↓fl_260, ↓fs_260, ↓fc_v0, ↓fc_v1, ↓fc_v2, ↓fc_v3, ↓fc_v4, ↓fc_v5, ↓fc_v6, ↓fc_s0, ↓fc_s1, ↓fc_s2, ↓fc_s3, ↓fc_s4, ↓fc_s5, ↓fq_len0, ↓fq_len1, ↓fq_len2, ↓fq_len3, ↓fq_len4, ↓fg_2 hρ, ↓fg_10 hρ, ↓fg_11 hρ, ↓fg_12 hρ, ↓fg_13 hρ, ↓fg_14 hρ, ↓fg_15 hρ, ↓fg_16 hρ, ↓fg_17 hρ, ↓fg_18 hρ, ↓fg_19 hρ, ↓fg_20 hρ, ↓fg_21 hρ, ↓fg_22 hρ, ↓fg_23 hρ, ↓fg_24 hρ, ↓fg_28 hρ, ↓fg_29 hρ, ↓fg_30 hρ, ↓fg_31 hρ, ↓fg_32 hρ, ↓fg_33 hρ, ↓fg_34 hρ, ↓fg_35 hρ, ↓fg_36 hρ, ↓fg_37 hρ, ↓fg_38 hρ, ↓fg_39 hρ, ↓fg_42 hρ, ↓fg_43 hρ, ↓fg_44 hρ, ↓fg_45 hρ, ↓fg_46 hρ, ↓fg_47 hρ, ↓fg_48 hρ, ↓fg_49 hρ, ↓fg_50 hρ, ↓fg_51 hρ, ↓fg_52 hρ, ↓fg_53 hρ, ↓fg_55 hρ, ↓fg_56 hρ, ↓fg_57 hρ, ↓fg_58 hρ, ↓fg_59 hρ, ↓fg_60 hρ, ↓fg_61 hρ, ↓fg_62 hρ, ↓fg_63 hρ, ↓fg_66 hρ, ↓fg_67 hρ, ↓fg_68 hρ, ↓fg_70 hρ, ↓fg_71 hρ, ↓fg_72 hρ, bt_loc, bt_locs, bt_kl, List.set_cons_zero, List.set_cons_succ, List.replicate_succ, List.replicate_zero, List.cons_append, List.nil_append, List.append_nil, List.length_cons, List.length_nil, Nat.reduceAdd, Nat.reduceSub, true_and, and_true, Nat.zero_add, Int.toNat_natCast, Int.reduceToNat, ↓reduceIte, bt_w_id, e4]
      repeat (refine And.intro (by first | omega | decide | (simp only [and_true, true_and]; omega)) ?_)
      exact hQ μ2 (fun a ha => (f2 a ha).trans (hfr a ha))
    · rw [show b - k = (b - (k + 1)) + 1 by omega] at hr
      obtain ⟨q', hs1, hr⟩ := wk_r_s hr
      generalize hcc : μ 221 k = c at *
      have hcr := wk_1_c hs1
      have e221 : μ1 221 k = c := by rw [e2]; exact hcc
      have hkb : k < b := by omega
      have l14 : ∀ μ2 M' (d' : Nat), wk_E μ2 M' → bt_fr wk_in μ2 μ1 → d' < 7 → wk_r (fun k => μ 233 (k + 1)) (μ 221) (b - (k + 1)) (k + 1) (d', M') = some (0, M0) → ∃ m, m < (b - k) * 20 + 10 ∧ iX11_worked ρ μ l b (0, M0) 14 m [] [some (.inr (.inr 205)), some (.inl (l : Int)), some (.inl (d' : Int)), some (.inl ((k : Int) + 1)), none, none] (bt_wd ρ μ2) := fun μ2 M' d' h1 h2 h3 h4 =>
        ⟨(b - (k + 1)) * 20 + 10, by omega, rfl, μ2, M', k + 1, d', rfl, h1, fun a ha => (h2 a ha).trans (hfr a ha), h3, by omega, rfl, rfl, h4⟩
      have l268 : ∀ μ2 M' (d' : Nat) v, wk_E μ2 M' → bt_fr wk_in μ2 μ1 → d' < 7 → wk_r (fun k => μ 233 (k + 1)) (μ 221) (b - (k + 1)) (k + 1) (wk_dl d' v M') = some (0, M0) → ∃ m, m < (b - k) * 20 + 10 ∧ iX11_worked ρ μ l b (0, M0) 268 m [] [some (.inr (.inr 205)), some (.inl (l : Int)), some (.inl (d' : Int)), some (.inl (k : Int)), none, some (.inl v)] (bt_wd ρ μ2) := fun μ2 M' d' v h1 h2 h3 h4 =>
        ⟨(b - k) * 20 + d', by omega, rfl, μ2, M', k, d', rfl, h1, fun a ha => (h2 a ha).trans (hfr a ha), h3, by omega, rfl, v, rfl, h4⟩
      rcases hcr with rfl | rfl | rfl | rfl | rfl | rfl | rfl | rfl | rfl | rfl | ⟨c1, c2⟩ | ⟨c1, c2⟩
      · have hd6 : d < 6 := by
          apply Classical.byContradiction
          intro hn
          unfold wk_1 at hs1
          rw [if_pos (by omega), if_neg hn] at hs1
          cases hs1
        unfold wk_1 at hs1
        rw [if_pos (by omega), if_pos hd6] at hs1
        have hq' := Option.some.inj hs1
        subst hq'
        exact wk_c28 hρ hE hd hl e1 hkb hb1 e221 hd6 (fun μ2 hE2 f2 => l14 μ2 _ (d + 1) hE2 f2 (by omega) hr)
      · have hd6 : d < 6 := by
          apply Classical.byContradiction
          intro hn
          unfold wk_1 at hs1
          rw [if_pos (by omega), if_neg hn] at hs1
          cases hs1
        unfold wk_1 at hs1
        rw [if_pos (by omega), if_pos hd6] at hs1
        have hq' := Option.some.inj hs1
        subst hq'
        exact wk_c30 hρ hE hd hl e1 hkb hb1 e221 hd6 (fun μ2 hE2 f2 => l14 μ2 _ (d + 1) hE2 f2 (by omega) hr)
      · unfold wk_1 at hs1
        rw [if_neg (by omega), if_pos (by omega)] at hs1
        have hq' := Option.some.inj hs1
        subst hq'
        exact wk_c20 hρ hE hd hl e1 hkb hb1 e221 (fun μ2 hE2 f2 => l14 μ2 _ d hE2 f2 hd hr)
      · unfold wk_1 at hs1
        rw [if_neg (by omega), if_pos (by omega)] at hs1
        have hq' := Option.some.inj hs1
        subst hq'
        exact wk_c21 hρ hE hd hl e1 hkb hb1 e221 (fun μ2 hE2 f2 => l14 μ2 _ d hE2 f2 hd hr)
      · unfold wk_1 at hs1
        rw [if_neg (by omega), if_neg (by omega), if_pos (by omega)] at hs1
        have hq' := Option.some.inj hs1
        subst hq'
        exact wk_c22 hρ hE hd hl e1 hkb hb1 e221 (fun μ2 hE2 f2 => l14 μ2 _ d hE2 f2 hd hr)
      · unfold wk_1 at hs1
        rw [if_neg (by omega), if_neg (by omega), if_neg (by omega), if_pos (by omega)] at hs1
        have hq' := Option.some.inj hs1
        subst hq'
        exact wk_c24 hρ hE hd hl e1 hkb hb1 e221 (fun μ2 hE2 f2 => l14 μ2 _ d hE2 f2 hd hr)
      · unfold wk_1 at hs1
        rw [if_neg (by omega), if_neg (by omega), if_neg (by omega), if_pos (by omega)] at hs1
        have hq' := Option.some.inj hs1
        subst hq'
        exact wk_c25 hρ hE hd hl e1 hkb hb1 e221 (fun μ2 hE2 f2 => l14 μ2 _ d hE2 f2 hd hr)
      · unfold wk_1 at hs1
        rw [if_neg (by omega), if_neg (by omega), if_neg (by omega), if_neg (by omega), if_pos (by omega)] at hs1
        have hq' := Option.some.inj hs1
        subst hq'
        exact wk_c26 hρ hE hd hl e1 hkb hb1 e221 (fun μ2 hE2 f2 => l14 μ2 _ d hE2 f2 hd hr)
      · unfold wk_1 at hs1
        rw [if_neg (by omega), if_neg (by omega), if_neg (by omega), if_neg (by omega), if_pos (by omega)] at hs1
        have hq' := Option.some.inj hs1
        subst hq'
        exact wk_c27 hρ hE hd hl e1 hkb hb1 e221 (fun μ2 hE2 f2 => l14 μ2 _ d hE2 f2 hd hr)
      · have hd0 : 0 < d := by
          apply Classical.byContradiction
          intro hn
          unfold wk_1 at hs1
          rw [if_neg (by omega), if_neg (by omega), if_neg (by omega), if_neg (by omega), if_neg (by omega), if_pos rfl, if_neg hn] at hs1
          cases hs1
        unfold wk_1 at hs1
        rw [if_neg (by omega), if_neg (by omega), if_neg (by omega), if_neg (by omega), if_neg (by omega), if_pos rfl, if_pos hd0] at hs1
        have hq' := Option.some.inj hs1
        subst hq'
        exact wk_c29 hρ hE hd hl e1 hkb hb1 e221 hd0 (fun μ2 hE2 f2 => l268 μ2 _ (d - 1) _ hE2 f2 (by omega) hr)
      · unfold wk_1 at hs1
        rw [if_neg (by omega), if_neg (by omega), if_neg (by omega), if_neg (by omega), if_neg (by omega), if_neg (by omega), if_pos ⟨c1, c2⟩] at hs1
        have hq' := Option.some.inj hs1
        subst hq'
        exact wk_cnu hρ hE hd hl e1 hkb hb1 e221 c1 c2 (l268 μ1 M d _ hE (fun _ _ => rfl) hd hr)
      · unfold wk_1 at hs1
        rw [if_neg (by omega), if_neg (by omega), if_neg (by omega), if_neg (by omega), if_neg (by omega), if_neg (by omega), if_neg (by omega), if_pos ⟨c1, c2⟩] at hs1
        have hq' := Option.some.inj hs1
        subst hq'
        refine wk_cfa hρ hE hd hl e1 hkb hb1 e221 c1 c2 ?_
        rw [e3]
        exact l268 μ1 M d _ hE (fun _ _ => rfl) hd hr
  · rintro m st L w ⟨rfl, μ1, M, k, d, rfl, hE, hfr, hd, hI⟩
    simp only [↓reduceIte, Nat.reduceEqDiff] at hI
    obtain ⟨hk, rfl, v, rfl, hr⟩ := hI
    have e8 : μ1 232 = M 8 := hE 8 (by decide)
    have e7 : μ1 231 = M 7 := hE 7 (by decide)
    have e6 : μ1 230 = M 6 := hE 6 (by decide)
    have l300 : wk_dl d v M = (d, wk_rv d v M) → tX11_worked_300 SpX11_opens SpX11_sums SpX11_tests (fun h st L w => ∃ m, m < (b - k) * 20 + d ∧ iX11_worked ρ μ l b (0, M0) h m st L w) Q [] [some (.inr (.inr 205)), some (.inl (l : Int)), some (.inl (d : Int)), some (.inl (k : Int)), none, some (.inl v)] (bt_wd ρ μ1) := fun hq => by
      rw [hq] at hr
      simp (disch := omega) only [↓tX11_worked_300, ↓tX11_worked_328, ↓tX11_worked_329, ↓fq_ild0, ↓fq_ald0, ↓fq_lld0, ↓fq_inc0, ↓fq_ist0, ↓fq_lst0, ↓fq_nl0, ↓fq_ild1, ↓fq_ald1, ↓fq_lld1, ↓fq_inc1, ↓fq_ist1, ↓fq_lst1, ↓fq_nli1, ↓fq_nlr1, ↓fq_nln1, ↓fq_ild2, ↓fq_ald2, ↓fq_lld2, ↓fq_inc2, ↓fq_ist2, ↓fq_lst2, ↓fq_nli2, ↓fq_nlr2, ↓fq_nln2, ↓fq_ild3, ↓fq_ald3, ↓fq_lld3, ↓fq_inc3, ↓fq_ist3, ↓fq_lst3, ↓fq_nli3, ↓fq_nlr3, ↓fq_nln3, ↓fq_ild4, ↓fq_ald4, ↓fq_lld4, ↓fq_inc4, ↓fq_ist4, ↓fq_lst4, ↓fq_nli4, ↓fq_nlr4, ↓fq_nln4, ↓fq_ild5, ↓fq_ald5, ↓fq_lld5, ↓fq_inc5, ↓fq_ist5, ↓fq_lst5, ↓fq_nli5, ↓fq_nlr5, ↓fq_nln5, ↓fq_ild6, ↓fq_ald6, ↓fq_lld6, ↓fq_inc6, ↓fq_ist6, ↓fq_lst6, ↓fq_nli6, ↓fq_nlr6, ↓fq_nln6, ↓fq_ild7, ↓fq_ald7, ↓fq_lld7, ↓fq_inc7, ↓fq_ist7, ↓fq_lst7, ↓fq_nli7, ↓fq_nlr7, ↓fq_nln7, ↓fq_ild8, ↓fq_ald8, ↓fq_lld8, ↓fq_inc8, ↓fq_ist8, ↓fq_lst8, ↓fq_nli8, ↓fq_nlr8, ↓fq_nln8, ↓fq_ild9, ↓fq_ald9, ↓fq_lld9, ↓fq_inc9, ↓fq_ist9, ↓fq_lst9, ↓fq_nli9, ↓fq_nlr9, ↓fq_nln9, ↓fq_ild10, ↓fq_ald10, ↓fq_lld10, ↓fq_inc10, ↓fq_ist10, ↓fq_lst10, ↓fq_nli10, ↓fq_nlr10, ↓fq_nln10, ↓fq_iadd, ↓fq_isub, ↓fq_imul, ↓fq_iand, ↓fq_ior, ↓fq_ixor, ↓fq_ishl, ↓fq_ishr, ↓fq_iushr, ↓fq_ladd, ↓fq_lsub, ↓fq_lmul, ↓fq_land, ↓fq_lor, ↓fq_lushr, ↓fq_lshl, ↓fq_lcmp, ↓fq_i2l, ↓fq_l2i, ↓fq_idiv, ↓fq_irem, ↓fq_ldiv, ↓fq_lrem, ↓fq_ic, ↓fq_lc, ↓fq_dupi, ↓fq_dupr, ↓fq_dup2, ↓fq_popi, ↓fq_mmin, ↓fq_mmax, ↓fq_can, ↓fq_icmpeq, ↓fq_icmpne, ↓fq_icmplt, ↓fq_icmpge, ↓fq_icmpgt, ↓fq_icmple, ↓fq_ifeq, ↓fq_ifne, ↓fq_iflt, ↓fq_ifge, ↓fq_ifgt, ↓fq_ifle, ↓fq_iret, ↓fq_zret, ↓fq_lret, ↓fq_vret, ↓fq_rets, ↓fq_retn, ↓fq_kill, ↓fq_gfI, ↓fq_gfJ, ↓fq_pfI, ↓fq_pfJ, ↓fl_206, ↓fs_206, ↓fl_207, ↓fs_207, ↓fl_208, ↓fs_208, ↓fl_209, ↓fs_209, ↓fl_210, ↓fs_210, ↓fl_211, ↓fs_211, ↓fl_212, ↓fs_212, ↓fl_213, ↓fs_213, ↓fl_214, ↓fs_214, ↓fl_215, ↓fs_215, ↓fl_216, ↓fs_216, ↓fl_217, ↓fs_217, ↓fl_218, ↓fs_218, ↓fl_219, ↓fs_219, ↓fl_220, ↓fs_220, ↓fl_221, ↓fs_221, ↓fl_222, ↓fs_222, ↓fl_223, ↓fs_223, ↓fl_224, ↓fs_224, ↓fl_225, ↓fs_225, ↓fl_226, ↓fs_226, ↓fl_227, ↓fs_227, ↓fl_228, ↓fs_228, ↓fl_229, ↓fs_229, ↓fl_230, ↓fs_230, ↓fl_231, ↓fs_231, ↓fl_232, ↓fs_232, ↓fl_233, ↓fs_233, ↓fl_234, ↓fs_234, ↓fl_235, ↓fs_235, ↓fl_236, ↓fs_236, ↓fl_237, ↓fs_237, ↓fl_238, ↓fs_238, ↓fl_239, ↓fs_239, ↓fl_240, ↓fs_240, ↓fl_241, ↓fs_241, ↓fl_242, ↓fs_242, ↓fl_243, ↓fs_243, ↓fl_244, ↓fs_244, ↓fl_245, ↓fs_245, ↓fl_246, ↓fs_246, ↓fl_247, ↓fs_247, ↓fl_248, ↓fs_248, ↓fl_249, ↓fs_249, ↓fl_250, ↓fs_250, ↓fl_251, ↓fs_251, ↓fl_252, ↓fs_252, ↓fl_253, ↓fs_253, ↓fl_254, ↓fs_254, ↓fl_255, ↓fs_255, ↓fl_256, ↓fs_256, ↓fl_257, ↓fs_257, ↓fl_258, ↓fs_258, ↓fl_259, ↓fs_259, ↓fl_260, ↓fs_260, ↓fc_v0, ↓fc_v1, ↓fc_v2, ↓fc_v3, ↓fc_v4, ↓fc_v5, ↓fc_v6, ↓fc_s0, ↓fc_s1, ↓fc_s2, ↓fc_s3, ↓fc_s4, ↓fc_s5, ↓fq_len0, ↓fq_len1, ↓fq_len2, ↓fq_len3, ↓fq_len4, ↓fg_2 hρ, ↓fg_10 hρ, ↓fg_11 hρ, ↓fg_12 hρ, ↓fg_13 hρ, ↓fg_14 hρ, ↓fg_15 hρ, ↓fg_16 hρ, ↓fg_17 hρ, ↓fg_18 hρ, ↓fg_19 hρ, ↓fg_20 hρ, ↓fg_21 hρ, ↓fg_22 hρ, ↓fg_23 hρ, ↓fg_24 hρ, ↓fg_28 hρ, ↓fg_29 hρ, ↓fg_30 hρ, ↓fg_31 hρ, ↓fg_32 hρ, ↓fg_33 hρ, ↓fg_34 hρ, ↓fg_35 hρ, ↓fg_36 hρ, ↓fg_37 hρ, ↓fg_38 hρ, ↓fg_39 hρ, ↓fg_42 hρ, ↓fg_43 hρ, ↓fg_44 hρ, ↓fg_45 hρ, ↓fg_46 hρ, ↓fg_47 hρ, ↓fg_48 hρ, ↓fg_49 hρ, ↓fg_50 hρ, ↓fg_51 hρ, ↓fg_52 hρ, ↓fg_53 hρ, ↓fg_55 hρ, ↓fg_56 hρ, ↓fg_57 hρ, ↓fg_58 hρ, ↓fg_59 hρ, ↓fg_60 hρ, ↓fg_61 hρ, ↓fg_62 hρ, ↓fg_63 hρ, ↓fg_66 hρ, ↓fg_67 hρ, ↓fg_68 hρ, ↓fg_70 hρ, ↓fg_71 hρ, ↓fg_72 hρ, bt_loc, bt_locs, bt_kl, List.set_cons_zero, List.set_cons_succ, List.replicate_succ, List.replicate_zero, List.cons_append, List.nil_append, List.append_nil, List.length_cons, List.length_nil, Nat.reduceAdd, Nat.reduceSub, true_and, and_true, Nat.zero_add, Int.toNat_natCast, Int.reduceToNat, ↓reduceIte, bt_w_id, e7, e6]
      repeat (refine And.intro (by first | omega | decide | (simp only [and_true, true_and]; omega)) ?_)
      have hf : ∀ x, bt_fr wk_in (bt_up μ1 230 d x) μ := fun x a ha => by have ha' := ha; unfold wk_in at ha'; rw [bt_up_cell (by omega)]; exact hfr a ha
      by_cases h0 : bt_w (M 7 d) = 0
      · rw [if_pos h0]
        repeat (refine And.intro (by first | omega | decide | (simp only [and_true, true_and]; omega)) ?_)
        refine ⟨(b - (k + 1)) * 20 + 10, by omega, rfl, _, wk_rv d v M, k + 1, d, rfl, ?_, hf _, hd, by omega, rfl, rfl, hr⟩
        unfold wk_rv
        rw [if_pos h0]
        exact hE.up (i := 6) rfl
      · rw [if_neg h0]
        repeat (refine And.intro (by first | omega | decide | (simp only [and_true, true_and]; omega)) ?_)
        refine ⟨(b - (k + 1)) * 20 + 10, by omega, rfl, _, wk_rv d v M, k + 1, d, rfl, ?_, hf _, hd, by omega, rfl, rfl, hr⟩
        unfold wk_rv
        rw [if_neg h0]
        exact hE.up (i := 6) rfl
    simp (disch := omega) only [↓tX11_worked_268, ↓tX11_worked_292, ↓fq_ild0, ↓fq_ald0, ↓fq_lld0, ↓fq_inc0, ↓fq_ist0, ↓fq_lst0, ↓fq_nl0, ↓fq_ild1, ↓fq_ald1, ↓fq_lld1, ↓fq_inc1, ↓fq_ist1, ↓fq_lst1, ↓fq_nli1, ↓fq_nlr1, ↓fq_nln1, ↓fq_ild2, ↓fq_ald2, ↓fq_lld2, ↓fq_inc2, ↓fq_ist2, ↓fq_lst2, ↓fq_nli2, ↓fq_nlr2, ↓fq_nln2, ↓fq_ild3, ↓fq_ald3, ↓fq_lld3, ↓fq_inc3, ↓fq_ist3, ↓fq_lst3, ↓fq_nli3, ↓fq_nlr3, ↓fq_nln3, ↓fq_ild4, ↓fq_ald4, ↓fq_lld4, ↓fq_inc4, ↓fq_ist4, ↓fq_lst4, ↓fq_nli4, ↓fq_nlr4, ↓fq_nln4, ↓fq_ild5, ↓fq_ald5, ↓fq_lld5, ↓fq_inc5, ↓fq_ist5, ↓fq_lst5, ↓fq_nli5, ↓fq_nlr5, ↓fq_nln5, ↓fq_ild6, ↓fq_ald6, ↓fq_lld6, ↓fq_inc6, ↓fq_ist6, ↓fq_lst6, ↓fq_nli6, ↓fq_nlr6, ↓fq_nln6, ↓fq_ild7, ↓fq_ald7, ↓fq_lld7, ↓fq_inc7, ↓fq_ist7, ↓fq_lst7, ↓fq_nli7, ↓fq_nlr7, ↓fq_nln7, ↓fq_ild8, ↓fq_ald8, ↓fq_lld8, ↓fq_inc8, ↓fq_ist8, ↓fq_lst8, ↓fq_nli8, ↓fq_nlr8, ↓fq_nln8, ↓fq_ild9, ↓fq_ald9, ↓fq_lld9, ↓fq_inc9, ↓fq_ist9, ↓fq_lst9, ↓fq_nli9, ↓fq_nlr9, ↓fq_nln9, ↓fq_ild10, ↓fq_ald10, ↓fq_lld10, ↓fq_inc10, ↓fq_ist10, ↓fq_lst10, ↓fq_nli10, ↓fq_nlr10, ↓fq_nln10, ↓fq_iadd, ↓fq_isub, ↓fq_imul, ↓fq_iand, ↓fq_ior, ↓fq_ixor, ↓fq_ishl, ↓fq_ishr, ↓fq_iushr, ↓fq_ladd, ↓fq_lsub, ↓fq_lmul, ↓fq_land, ↓fq_lor, ↓fq_lushr, ↓fq_lshl, ↓fq_lcmp, ↓fq_i2l, ↓fq_l2i, ↓fq_idiv, ↓fq_irem, ↓fq_ldiv, ↓fq_lrem, ↓fq_ic, ↓fq_lc, ↓fq_dupi, ↓fq_dupr, ↓fq_dup2, ↓fq_popi, ↓fq_mmin, ↓fq_mmax, ↓fq_can, ↓fq_icmpeq, ↓fq_icmpne, ↓fq_icmplt, ↓fq_icmpge, ↓fq_icmpgt, ↓fq_icmple, ↓fq_ifeq, ↓fq_ifne, ↓fq_iflt, ↓fq_ifge, ↓fq_ifgt, ↓fq_ifle, ↓fq_iret, ↓fq_zret, ↓fq_lret, ↓fq_vret, ↓fq_rets, ↓fq_retn, ↓fq_kill, ↓fq_gfI, ↓fq_gfJ, ↓fq_pfI, ↓fq_pfJ, ↓fl_206, ↓fs_206, ↓fl_207, ↓fs_207, ↓fl_208, ↓fs_208, ↓fl_209, ↓fs_209, ↓fl_210, ↓fs_210, ↓fl_211, ↓fs_211, ↓fl_212, ↓fs_212, ↓fl_213, ↓fs_213, ↓fl_214, ↓fs_214, ↓fl_215, ↓fs_215, ↓fl_216, ↓fs_216, ↓fl_217, ↓fs_217, ↓fl_218, ↓fs_218, ↓fl_219, ↓fs_219, ↓fl_220, ↓fs_220, ↓fl_221, ↓fs_221, ↓fl_222, ↓fs_222, ↓fl_223, ↓fs_223, ↓fl_224, ↓fs_224, ↓fl_225, ↓fs_225, ↓fl_226, ↓fs_226, ↓fl_227, ↓fs_227, ↓fl_228, ↓fs_228, ↓fl_229, ↓fs_229, ↓fl_230, ↓fs_230, ↓fl_231, ↓fs_231, ↓fl_232, ↓fs_232, ↓fl_233, ↓fs_233, ↓fl_234, ↓fs_234, ↓fl_235, ↓fs_235, ↓fl_236, ↓fs_236, ↓fl_237, ↓fs_237, ↓fl_238, ↓fs_238, ↓fl_239, ↓fs_239, ↓fl_240, ↓fs_240, ↓fl_241, ↓fs_241, ↓fl_242, ↓fs_242, ↓fl_243, ↓fs_243, ↓fl_244, ↓fs_244, ↓fl_245, ↓fs_245, ↓fl_246, ↓fs_246, ↓fl_247, ↓fs_247, ↓fl_248, ↓fs_248, ↓fl_249, ↓fs_249, ↓fl_250, ↓fs_250, ↓fl_251, ↓fs_251, ↓fl_252, ↓fs_252, ↓fl_253, ↓fs_253, ↓fl_254, ↓fs_254, ↓fl_255, ↓fs_255, ↓fl_256, ↓fs_256, ↓fl_257, ↓fs_257, ↓fl_258, ↓fs_258, ↓fl_259, ↓fs_259, ↓fl_260, ↓fs_260, ↓fc_v0, ↓fc_v1, ↓fc_v2, ↓fc_v3, ↓fc_v4, ↓fc_v5, ↓fc_v6, ↓fc_s0, ↓fc_s1, ↓fc_s2, ↓fc_s3, ↓fc_s4, ↓fc_s5, ↓fq_len0, ↓fq_len1, ↓fq_len2, ↓fq_len3, ↓fq_len4, ↓fg_2 hρ, ↓fg_10 hρ, ↓fg_11 hρ, ↓fg_12 hρ, ↓fg_13 hρ, ↓fg_14 hρ, ↓fg_15 hρ, ↓fg_16 hρ, ↓fg_17 hρ, ↓fg_18 hρ, ↓fg_19 hρ, ↓fg_20 hρ, ↓fg_21 hρ, ↓fg_22 hρ, ↓fg_23 hρ, ↓fg_24 hρ, ↓fg_28 hρ, ↓fg_29 hρ, ↓fg_30 hρ, ↓fg_31 hρ, ↓fg_32 hρ, ↓fg_33 hρ, ↓fg_34 hρ, ↓fg_35 hρ, ↓fg_36 hρ, ↓fg_37 hρ, ↓fg_38 hρ, ↓fg_39 hρ, ↓fg_42 hρ, ↓fg_43 hρ, ↓fg_44 hρ, ↓fg_45 hρ, ↓fg_46 hρ, ↓fg_47 hρ, ↓fg_48 hρ, ↓fg_49 hρ, ↓fg_50 hρ, ↓fg_51 hρ, ↓fg_52 hρ, ↓fg_53 hρ, ↓fg_55 hρ, ↓fg_56 hρ, ↓fg_57 hρ, ↓fg_58 hρ, ↓fg_59 hρ, ↓fg_60 hρ, ↓fg_61 hρ, ↓fg_62 hρ, ↓fg_63 hρ, ↓fg_66 hρ, ↓fg_67 hρ, ↓fg_68 hρ, ↓fg_70 hρ, ↓fg_71 hρ, ↓fg_72 hρ, bt_loc, bt_locs, bt_kl, List.set_cons_zero, List.set_cons_succ, List.replicate_succ, List.replicate_zero, List.cons_append, List.nil_append, List.append_nil, List.length_cons, List.length_nil, Nat.reduceAdd, Nat.reduceSub, true_and, and_true, Nat.zero_add, Int.toNat_natCast, Int.reduceToNat, ↓reduceIte, bt_w_id, e8]
    cases d with
    | zero =>
      rw [if_pos (by omega)]
      exact l300 rfl
    | succ d =>
      rw [if_neg (by omega)]
      repeat (refine And.intro (by first | omega | decide | (simp only [and_true, true_and]; omega)) ?_)
      by_cases h1 : bt_w (M 8 (d + 1)) = 1
      · rw [if_pos h1]
        have hdl : wk_dl (d + 1) v M = wk_dl d (fo_nt v) M := by show (if bt_w (M 8 (d + 1)) = 1 then _ else _) = _; rw [if_pos h1]
        rw [hdl] at hr
        have xd : (((d + 1 : Nat) : Int) + -1) = (d : Int) := by omega
        unfold fo_nt at hr
        by_cases hv : bt_w v = 0
        · rw [if_pos hv] at hr ⊢
          rw [xd]
          exact ⟨(b - k) * 20 + d, by omega, rfl, μ1, M, k, d, rfl, hE, hfr, by omega, by omega, rfl, 1, rfl, hr⟩
        · rw [if_neg hv] at hr ⊢
          rw [xd]
          exact ⟨(b - k) * 20 + d, by omega, rfl, μ1, M, k, d, rfl, hE, hfr, by omega, by omega, rfl, 0, rfl, hr⟩
      · rw [if_neg h1]
        refine l300 ?_
        show (if bt_w (M 8 (d + 1)) = 1 then _ else _) = _
        rw [if_neg h1]
