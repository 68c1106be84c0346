/-! the reference: a law read, as a machine without a memory -/
abbrev rd_R : Type := Int × (Nat → Int) × Nat × Nat
def rd_pop (op : Nat → Int) : Nat → Nat
  | 0 => 0
  | d + 1 => if op (d + 1) = 1 then rd_pop op d else d + 1
def rd_run (t : Nat → Int) (n al : Nat) : Nat → Nat → Bool → (Nat → Int) → (Nat → Int) → (Nat → Int) → Nat → Nat → Option rd_R
  | 0, _, _, _, _, _, _, _ => none
  | m + 1, d, true, op, cm, cd, k, c =>
    if ¬ fo_st t n al c then some (1 + 16 * (c : Int), cd, k, c)
    else if d = 5 then some (5 + 16 * (c : Int), cd, k, c)
    else if tk_k t n c = 40 ∨ tk_w t n c = 22 then rd_run t n al m (d + 1) true (ab_put op (d + 1) (if tk_w t n c = 22 then 1 else 2)) (ab_put cm (d + 1) 0) (ab_put cd k (if tk_w t n c = 22 then 30 else 28)) (k + 1) (tk_nx t n c)
    else rd_run t n al m (rd_pop op d) false op cm (ab_put cd k (if fo_fa t n al c then tk_w t n c - 24 else 100 + tk_v t n c)) (k + 1) (tk_nx t n c)
  | m + 1, d, false, op, cm, cd, k, c =>
    if tk_k t n c = 43 ∨ tk_k t n c = 45 ∨ tk_k t n c = 42 then rd_run t n al m d true op cm (ab_put cd k (if tk_k t n c = 43 then 20 else if tk_k t n c = 45 then 21 else 22)) (k + 1) (tk_nx t n c)
    else if (tk_k t n c = 60 ∨ tk_k t n c = 61) ∧ cm d = 0 then rd_run t n al m d true op (ab_put cm d 1) (ab_put cd k (if tk_k t n c = 60 then 24 else 25)) (k + 1) (tk_nx t n c)
    else if tk_w t n c = 23 ∨ tk_w t n c = 24 then rd_run t n al m d true op (ab_put cm d 0) (ab_put cd k (if tk_w t n c = 23 then 26 else 27)) (k + 1) (tk_nx t n c)
    else if tk_k t n c = 41 ∧ 0 < d then rd_run t n al m (rd_pop op (d - 1)) false op cm (ab_put cd k 29) (k + 1) (tk_nx t n c)
    else if d = 0 ∧ tk_k t n c = 59 then some (0, cd, k, tk_nx t n c)
    else some (1 + 16 * (c : Int), cd, k, c)
def SpX11_puts : bt_Sp := fun As w Q => tX11_puts_0 bt_k0 Q [] (bt_loc 2 As) w
theorem mtX11_puts : bt_Met yX11_puts cX11_puts 2 none 1 [2, 0] SpX11_puts := lfX11_puts
def SpX11_fact : bt_Sp := fun As w Q => tX11_fact_0 bt_k0 Q [] (bt_loc 1 As) w
theorem mtX11_fact : bt_Met yX11_fact cX11_fact 1 (some .int) 1 [2] SpX11_fact := lfX11_fact
theorem rq_puts {ρ : Nat → Nat → Option Nat} {μ : Nat → Nat → Int} {k : Nat} {v : Int} (hρ : bt_Rf ρ) (hk : μ 205 25 = (k : Int)) (hk2 : k < 2000) {Q : Option bt_V → bt_W → Prop} (hq : Q none (bt_wd ρ (bt_up (bt_up μ 221 k v) 205 25 ((k + 1 : Nat) : Int)))) : SpX11_puts [.inr (.inr 205), .inl v] (bt_wd ρ μ) Q := by
  simp (disch := omega) only [SpX11_puts, ↓tX11_puts_0, ↓fq_ild0, ↓fq_ald0, ↓fq_lld0, ↓fq_inc0, ↓fq_ist0, ↓fq_lst0, ↓fq_nl0, ↓fq_ild1, ↓fq_ald1, ↓fq_lld1, ↓fq_inc1, ↓fq_ist1, ↓fq_lst1, ↓fq_nli1, ↓fq_nlr1, ↓fq_nln1, ↓fq_ild2, ↓fq_ald2, ↓fq_lld2, ↓fq_inc2, ↓fq_ist2, ↓fq_lst2, ↓fq_nli2, ↓fq_nlr2, ↓fq_nln2, ↓fq_ild3, ↓fq_ald3, ↓fq_lld3, ↓fq_inc3, ↓fq_ist3, ↓fq_lst3, ↓fq_nli3, ↓fq_nlr3, ↓fq_nln3, ↓fq_ild4, ↓fq_ald4, ↓fq_lld4, ↓fq_inc4, ↓fq_ist4, ↓fq_lst4, ↓fq_nli4, ↓fq_nlr4, ↓fq_nln4, ↓fq_ild5, ↓fq_ald5, ↓fq_lld5, ↓fq_inc5, ↓fq_ist5, ↓fq_lst5, ↓fq_nli5, ↓fq_nlr5, ↓fq_nln5, ↓fq_ild6, ↓fq_ald6, ↓fq_lld6, ↓fq_inc6, ↓fq_ist6, ↓fq_lst6, ↓fq_nli6, ↓fq_nlr6, ↓fq_nln6, ↓fq_ild7, ↓fq_ald7, ↓fq_lld7, ↓fq_inc7, ↓fq_ist7, ↓fq_lst7, ↓fq_nli7, ↓fq_nlr7, ↓fq_nln7, ↓fq_ild8, ↓fq_ald8, ↓fq_lld8, ↓fq_inc8, ↓fq_ist8, ↓fq_lst8, ↓fq_nli8, ↓fq_nlr8, ↓fq_nln8, ↓fq_ild9, ↓fq_ald9, ↓fq_lld9, ↓fq_inc9, ↓fq_ist9, ↓fq_lst9, ↓fq_nli9, ↓fq_nlr9, ↓fq_nln9, ↓fq_ild10, ↓fq_ald10, ↓fq_lld10, ↓fq_inc10, ↓fq_ist10, ↓fq_lst10, ↓fq_nli10, ↓fq_nlr10, ↓fq_nln10, ↓fq_iadd, ↓fq_isub, ↓fq_imul, ↓fq_iand, ↓fq_ior, ↓fq_ixor, ↓fq_ishl, ↓fq_ishr, ↓fq_iushr, ↓fq_ladd, ↓fq_lsub, ↓fq_lmul, ↓fq_land, ↓fq_lor, ↓fq_lushr, ↓fq_lshl, ↓fq_lcmp, ↓fq_i2l, ↓fq_l2i, ↓fq_idiv, ↓fq_irem, ↓fq_ldiv, ↓fq_lrem, ↓fq_ic, ↓fq_lc, ↓fq_dupi, ↓fq_dupr, ↓fq_dup2, ↓fq_popi, ↓fq_mmin, ↓fq_mmax, ↓fq_can, ↓fq_icmpeq, ↓fq_icmpne, ↓fq_icmplt, ↓fq_icmpge, ↓fq_icmpgt, ↓fq_icmple, ↓fq_ifeq, ↓fq_ifne, ↓fq_iflt, ↓fq_ifge, ↓fq_ifgt, ↓fq_ifle, ↓fq_iret, ↓fq_zret, ↓fq_lret, ↓fq_vret, ↓fq_rets, ↓fq_retn, ↓fq_kill, ↓fq_gfI, ↓fq_gfJ, ↓fq_pfI, ↓fq_pfJ, ↓fl_206, ↓fs_206, ↓fl_207, ↓fs_207, ↓fl_208, ↓fs_208, ↓fl_209, ↓fs_209, ↓fl_210, ↓fs_210, ↓fl_211, ↓fs_211, ↓fl_212, ↓fs_212, ↓fl_213, ↓fs_213, ↓fl_214, ↓fs_214, ↓fl_215, ↓fs_215, ↓fl_216, ↓fs_216, ↓fl_217, ↓fs_217, ↓fl_218, ↓fs_218, ↓fl_219, ↓fs_219, ↓fl_220, ↓fs_220, ↓fl_221, ↓fs_221, ↓fl_222, ↓fs_222, ↓fl_223, ↓fs_223, ↓fl_224, ↓fs_224, ↓fl_225, ↓fs_225, ↓fl_226, ↓fs_226, ↓fl_227, ↓fs_227, ↓fl_228, ↓fs_228, ↓fl_229, ↓fs_229, ↓fl_230, ↓fs_230, ↓fl_231, ↓fs_231, ↓fl_232, ↓fs_232, ↓fl_233, ↓fs_233, ↓fl_234, ↓fs_234, ↓fl_235, ↓fs_235, ↓fl_236, ↓fs_236, ↓fl_237, ↓fs_237, ↓fl_238, ↓fs_238, ↓fl_239, ↓fs_239, ↓fl_240, ↓fs_240, ↓fl_241, ↓fs_241, ↓fl_242, ↓fs_242, ↓fl_243, ↓fs_243, ↓fl_244, ↓fs_244, ↓fl_245, ↓fs_245, ↓fl_246, ↓fs_246, ↓fl_247, ↓fs_247, ↓fl_248, ↓fs_248, ↓fl_249, ↓fs_249, ↓fl_250, ↓fs_250, ↓fl_251, ↓fs_251, ↓fl_252, ↓fs_252, ↓fl_253, ↓fs_253, ↓fl_254, ↓fs_254, ↓fl_255, ↓fs_255, ↓fl_256, ↓fs_256, ↓fl_257, ↓fs_257, ↓fl_258, ↓fs_258, ↓fl_259, ↓fs_259, ↓fl_260, ↓fs_260, ↓fc_v0, ↓fc_v1, ↓fc_v2, ↓fc_v3, ↓fc_v4, ↓fc_v5, ↓fc_v6, ↓fc_s0, ↓fc_s1, ↓fc_s2, ↓fc_s3, ↓fc_s4, ↓fc_s5, ↓fq_len0, ↓fq_len1, ↓fq_len2, ↓fq_len3, ↓fq_len4, ↓fg_2 hρ, ↓fg_10 hρ, ↓fg_11 hρ, ↓fg_12 hρ, ↓fg_13 hρ, ↓fg_14 hρ, ↓fg_15 hρ, ↓fg_16 hρ, ↓fg_17 hρ, ↓fg_18 hρ, ↓fg_19 hρ, ↓fg_20 hρ, ↓fg_21 hρ, ↓fg_22 hρ, ↓fg_23 hρ, ↓fg_24 hρ, ↓fg_28 hρ, ↓fg_29 hρ, ↓fg_30 hρ, ↓fg_31 hρ, ↓fg_32 hρ, ↓fg_33 hρ, ↓fg_34 hρ, ↓fg_35 hρ, ↓fg_36 hρ, ↓fg_37 hρ, ↓fg_38 hρ, ↓fg_39 hρ, ↓fg_42 hρ, ↓fg_43 hρ, ↓fg_44 hρ, ↓fg_45 hρ, ↓fg_46 hρ, ↓fg_47 hρ, ↓fg_48 hρ, ↓fg_49 hρ, ↓fg_50 hρ, ↓fg_51 hρ, ↓fg_52 hρ, ↓fg_53 hρ, ↓fg_55 hρ, ↓fg_56 hρ, ↓fg_57 hρ, ↓fg_58 hρ, ↓fg_59 hρ, ↓fg_60 hρ, ↓fg_61 hρ, ↓fg_62 hρ, ↓fg_63 hρ, ↓fg_66 hρ, ↓fg_67 hρ, ↓fg_68 hρ, ↓fg_70 hρ, ↓fg_71 hρ, ↓fg_72 hρ, bt_loc, bt_locs, bt_kl, List.set_cons_zero, List.set_cons_succ, List.replicate_succ, List.replicate_zero, List.cons_append, List.nil_append, List.append_nil, List.length_cons, List.length_nil, Nat.reduceAdd, Nat.reduceSub, true_and, and_true, Nat.zero_add, Int.toNat_natCast, Int.reduceToNat, ↓reduceIte, bt_w_id, hk, bt_up_cell]
  repeat (refine And.intro (by first | omega | decide | (simp only [and_true, true_and]; omega)) ?_)
  exact hq
set_option maxHeartbeats 4000000 in
theorem rq_fact {ρ : Nat → Nat → Option Nat} {μ : Nat → Nat → Int} {t : Nat → Int} {n c l al : Nat} (hT : rf_tr μ t n) (hc : rf_Tc μ t n c) (hl : μ 205 26 = (l : Int)) (hla : l = 0 ∧ al = 7 ∨ l = 1 ∧ al = 30) {Q : Option bt_V → bt_W → Prop} (hq : Q (some (.inl (if fo_fa t n al c then tk_w t n c - 24 else 0))) (bt_wd ρ μ)) : SpX11_fact [.inr (.inr 205)] (bt_wd ρ μ) Q := by
  obtain ⟨r0, r4, -, r1, -⟩ := rt_kk (t := t) (n := n) (c := c)
  obtain ⟨c1, c2, c5, c4, c6, c7, c8⟩ := hc
  simp (disch := omega) only [SpX11_fact, ↓tX11_fact_0, ↓fq_ild0, ↓fq_ald0, ↓fq_lld0, ↓fq_inc0, ↓fq_ist0, ↓fq_lst0, ↓fq_nl0, ↓fq_ild1, ↓fq_ald1, ↓fq_lld1, ↓fq_inc1, ↓fq_ist1, ↓fq_lst1, ↓fq_nli1, ↓fq_nlr1, ↓fq_nln1, ↓fq_ild2, ↓fq_ald2, ↓fq_lld2, ↓fq_inc2, ↓fq_ist2, ↓fq_lst2, ↓fq_nli2, ↓fq_nlr2, ↓fq_nln2, ↓fq_ild3, ↓fq_ald3, ↓fq_lld3, ↓fq_inc3, ↓fq_ist3, ↓fq_lst3, ↓fq_nli3, ↓fq_nlr3, ↓fq_nln3, ↓fq_ild4, ↓fq_ald4, ↓fq_lld4, ↓fq_inc4, ↓fq_ist4, ↓fq_lst4, ↓fq_nli4, ↓fq_nlr4, ↓fq_nln4, ↓fq_ild5, ↓fq_ald5, ↓fq_lld5, ↓fq_inc5, ↓fq_ist5, ↓fq_lst5, ↓fq_nli5, ↓fq_nlr5, ↓fq_nln5, ↓fq_ild6, ↓fq_ald6, ↓fq_lld6, ↓fq_inc6, ↓fq_ist6, ↓fq_lst6, ↓fq_nli6, ↓fq_nlr6, ↓fq_nln6, ↓fq_ild7, ↓fq_ald7, ↓fq_lld7, ↓fq_inc7, ↓fq_ist7, ↓fq_lst7, ↓fq_nli7, ↓fq_nlr7, ↓fq_nln7, ↓fq_ild8, ↓fq_ald8, ↓fq_lld8, ↓fq_inc8, ↓fq_ist8, ↓fq_lst8, ↓fq_nli8, ↓fq_nlr8, ↓fq_nln8, ↓fq_ild9, ↓fq_ald9, ↓fq_lld9, ↓fq_inc9, ↓fq_ist9, ↓fq_lst9, ↓fq_nli9, ↓fq_nlr9, ↓fq_nln9, ↓fq_ild10, ↓fq_ald10, ↓fq_lld10, ↓fq_inc10, ↓fq_ist10, ↓fq_lst10, ↓fq_nli10, ↓fq_nlr10, ↓fq_nln10, ↓fq_iadd, ↓fq_isub, ↓fq_imul, ↓fq_iand, ↓fq_ior, ↓fq_ixor, ↓fq_ishl, ↓fq_ishr, ↓fq_iushr, ↓fq_ladd, ↓fq_lsub, ↓fq_lmul, ↓fq_land, ↓fq_lor, ↓fq_lushr, ↓fq_lshl, ↓fq_lcmp, ↓fq_i2l, ↓fq_l2i, ↓fq_idiv, ↓fq_irem, ↓fq_ldiv, ↓fq_lrem, ↓fq_ic, ↓fq_lc, ↓fq_dupi, ↓fq_dupr, ↓fq_dup2, ↓fq_popi, ↓fq_mmin, ↓fq_mmax, ↓fq_can, ↓fq_icmpeq, ↓fq_icmpne, ↓fq_icmplt, ↓fq_icmpge, ↓fq_icmpgt, ↓fq_icmple, ↓fq_ifeq, ↓fq_ifne, ↓fq_iflt, ↓fq_ifge, ↓fq_ifgt, ↓fq_ifle, ↓fq_iret, ↓fq_zret, ↓fq_lret, ↓fq_vret, ↓fq_rets, ↓fq_retn, ↓fq_kill, ↓fq_gfI, ↓fq_gfJ, ↓fq_pfI, ↓fq_pfJ, ↓fl_206, ↓fs_206, ↓fl_207, ↓fs_207, ↓fl_208, ↓fs_208, ↓fl_209, ↓fs_209, ↓fl_210, ↓fs_210, ↓fl_211, ↓fs_211, ↓fl_212, ↓fs_212, ↓fl_213, ↓fs_213, ↓fl_214, ↓fs_214, ↓fl_215, ↓fs_215, ↓fl_216, ↓fs_216, ↓fl_217, ↓fs_217, ↓fl_218, ↓fs_218, ↓fl_219, ↓fs_219, ↓fl_220, ↓fs_220, ↓fl_221, ↓fs_221, ↓fl_222, ↓fs_222, ↓fl_223, ↓fs_223, ↓fl_224, ↓fs_224, ↓fl_225, ↓fs_225, ↓fl_226, ↓fs_226, ↓fl_227, ↓fs_227, ↓fl_228, ↓fs_228, ↓fl_229, ↓fs_229, ↓fl_230, ↓fs_230, ↓fl_231, ↓fs_231, ↓fl_232, ↓fs_232, ↓fl_233, ↓fs_233, ↓fl_234, ↓fs_234, ↓fl_235, ↓fs_235, ↓fl_236, ↓fs_236, ↓fl_237, ↓fs_237, ↓fl_238, ↓fs_238, ↓fl_239, ↓fs_239, ↓fl_240, ↓fs_240, ↓fl_241, ↓fs_241, ↓fl_242, ↓fs_242, ↓fl_243, ↓fs_243, ↓fl_244, ↓fs_244, ↓fl_245, ↓fs_245, ↓fl_246, ↓fs_246, ↓fl_247, ↓fs_247, ↓fl_248, ↓fs_248, ↓fl_249, ↓fs_249, ↓fl_250, ↓fs_250, ↓fl_251, ↓fs_251, ↓fl_252, ↓fs_252, ↓fl_253, ↓fs_253, ↓fl_254, ↓fs_254, ↓fl_255, ↓fs_255, ↓fl_256, ↓fs_256, ↓fl_257, ↓fs_257, ↓fl_258, ↓fs_258, ↓fl_259, ↓fs_259, ↓fl_260, ↓fs_260, ↓fc_v0, ↓fc_v1, ↓fc_v2, ↓fc_v3, ↓fc_v4, ↓fc_v5, ↓fc_v6, ↓fc_s0, ↓fc_s1, ↓fc_s2, ↓fc_s3, ↓fc_s4, ↓fc_s5, ↓fq_len0, ↓fq_len1, ↓fq_len2, ↓fq_len3, ↓fq_len4, bt_loc, bt_locs, bt_kl, List.set_cons_zero, List.set_cons_succ, List.replicate_succ, List.replicate_zero, List.cons_append, List.nil_append, List.append_nil, List.length_cons, List.length_nil, Nat.reduceAdd, Nat.reduceSub, true_and, and_true, Nat.zero_add, Int.toNat_natCast, Int.reduceToNat, ↓reduceIte, bt_w_id, c6]
  by_cases h1 : rt_k t n c = 1
  · rw [if_pos h1]
    have hk := r1.mp h1
    have hr := tk_x_rg hk (fun q => (hT.2.2 c q).2.1)
    have hw : ∀ i : Nat, i < 30 → (tk_w t n c = (i : Int) ↔ tk_x t n c = tw i) := fun i hi => by
      rw [← tk_w_tw (t := t) (n := n) (c := c) hi]
      exact ⟨fun q => q.2, fun q => ⟨hk, q⟩⟩
    have hw25 := hw 25 (by omega)
    have hw26 := hw 26 (by omega)
    have hw27 := hw 27 (by omega)
    have hw28 := hw 28 (by omega)
    have hw29 := hw 29 (by omega)
    have hrg : -2 ≤ tk_w t n c ∧ tk_w t n c < 30 := by
      unfold tk_w
      rw [if_pos hk]
      have := tk_wd_rg (tk_x t n c)
      omega
    have hfa : fo_fa t n al c = (decide (25 ≤ tk_w t n c) && al.testBit (tk_w t n c - 25).toNat) := rfl
    rw [c7 hk]
    generalize tk_x t n c = X at *
    generalize tk_w t n c = W at *
    have e : ∀ C : Int, 0 ≤ C → C < 282429536481 → (bt_w (bo_lcmp X C) = 0 ↔ X = C) := fun C a b => by rw [bo_lcmp0, bt_wl_id (by omega) (by omega), bt_wl_id (by omega) (by omega)]
    by_cases q26 : X = 126218916
    · rw [if_pos ((e 126218916 (by decide) (by decide)).mpr q26)]
      have hW : W = 26 := hw26.mpr q26
      have hf : fo_fa t n al c = true := by rw [hfa, hW]; rcases hla with ⟨-, rfl⟩ | ⟨-, rfl⟩ <;> decide
      rw [if_pos hf, hW] at hq
      exact hq
    rw [if_neg (fun z => q26 ((e 126218916 (by decide) (by decide)).mp z))]
    by_cases q27 : X = 226024039
    · rw [if_pos ((e 226024039 (by decide) (by decide)).mpr q27)]
      have hW : W = 27 := hw27.mpr q27
      have hf : fo_fa t n al c = true := by rw [hfa, hW]; rcases hla with ⟨-, rfl⟩ | ⟨-, rfl⟩ <;> decide
      rw [if_pos hf, hW] at hq
      exact hq
    rw [if_neg (fun z => q27 ((e 226024039 (by decide) (by decide)).mp z))]
    have n26 : W ≠ 26 := fun z => q26 (hw26.mp z)
    have n27 : W ≠ 27 := fun z => q27 (hw27.mp z)
    rcases hla with ⟨rfl, rfl⟩ | ⟨rfl, rfl⟩
    · rw [show μ 205 26 = 0 from hl]
      simp (disch := omega) only [bt_w_id, Int.reduceEq, ↓reduceIte, ↓tX11_fact_59, ↓fq_ild0, ↓fq_ald0, ↓fq_lld0, ↓fq_inc0, ↓fq_ist0, ↓fq_lst0, ↓fq_nl0, ↓fq_ild1, ↓fq_ald1, ↓fq_lld1, ↓fq_inc1, ↓fq_ist1, ↓fq_lst1, ↓fq_nli1, ↓fq_nlr1, ↓fq_nln1, ↓fq_ild2, ↓fq_ald2, ↓fq_lld2, ↓fq_inc2, ↓fq_ist2, ↓fq_lst2, ↓fq_nli2, ↓fq_nlr2, ↓fq_nln2, ↓fq_ild3, ↓fq_ald3, ↓fq_lld3, ↓fq_inc3, ↓fq_ist3, ↓fq_lst3, ↓fq_nli3, ↓fq_nlr3, ↓fq_nln3, ↓fq_ild4, ↓fq_ald4, ↓fq_lld4, ↓fq_inc4, ↓fq_ist4, ↓fq_lst4, ↓fq_nli4, ↓fq_nlr4, ↓fq_nln4, ↓fq_ild5, ↓fq_ald5, ↓fq_lld5, ↓fq_inc5, ↓fq_ist5, ↓fq_lst5, ↓fq_nli5, ↓fq_nlr5, ↓fq_nln5, ↓fq_ild6, ↓fq_ald6, ↓fq_lld6, ↓fq_inc6, ↓fq_ist6, ↓fq_lst6, ↓fq_nli6, ↓fq_nlr6, ↓fq_nln6, ↓fq_ild7, ↓fq_ald7, ↓fq_lld7, ↓fq_inc7, ↓fq_ist7, ↓fq_lst7, ↓fq_nli7, ↓fq_nlr7, ↓fq_nln7, ↓fq_ild8, ↓fq_ald8, ↓fq_lld8, ↓fq_inc8, ↓fq_ist8, ↓fq_lst8, ↓fq_nli8, ↓fq_nlr8, ↓fq_nln8, ↓fq_ild9, ↓fq_ald9, ↓fq_lld9, ↓fq_inc9, ↓fq_ist9, ↓fq_lst9, ↓fq_nli9, ↓fq_nlr9, ↓fq_nln9, ↓fq_ild10, ↓fq_ald10, ↓fq_lld10, ↓fq_inc10, ↓fq_ist10, ↓fq_lst10, ↓fq_nli10, ↓fq_nlr10, ↓fq_nln10, ↓fq_iadd, ↓fq_isub, ↓fq_imul, ↓fq_iand, ↓fq_ior, ↓fq_ixor, ↓fq_ishl, ↓fq_ishr, ↓fq_iushr, ↓fq_ladd, ↓fq_lsub, ↓fq_lmul, ↓fq_land, ↓fq_lor, ↓fq_lushr, ↓fq_lshl, ↓fq_lcmp, ↓fq_i2l, ↓fq_l2i, ↓fq_idiv, ↓fq_irem, ↓fq_ldiv, ↓fq_lrem, ↓fq_ic, ↓fq_lc, ↓fq_dupi, ↓fq_dupr, ↓fq_dup2, ↓fq_popi, ↓fq_mmin, ↓fq_mmax, ↓fq_can, ↓fq_icmpeq, ↓fq_icmpne, ↓fq_icmplt, ↓fq_icmpge, ↓fq_icmpgt, ↓fq_icmple, ↓fq_ifeq, ↓fq_ifne, ↓fq_iflt, ↓fq_ifge, ↓fq_ifgt, ↓fq_ifle, ↓fq_iret, ↓fq_zret, ↓fq_lret, ↓fq_vret, ↓fq_rets, ↓fq_retn, ↓fq_kill, ↓fq_gfI, ↓fq_gfJ, ↓fq_pfI, ↓fq_pfJ, ↓fl_206, ↓fs_206, ↓fl_207, ↓fs_207, ↓fl_208, ↓fs_208, ↓fl_209, ↓fs_209, ↓fl_210, ↓fs_210, ↓fl_211, ↓fs_211, ↓fl_212, ↓fs_212, ↓fl_213, ↓fs_213, ↓fl_214, ↓fs_214, ↓fl_215, ↓fs_215, ↓fl_216, ↓fs_216, ↓fl_217, ↓fs_217, ↓fl_218, ↓fs_218, ↓fl_219, ↓fs_219, ↓fl_220, ↓fs_220, ↓fl_221, ↓fs_221, ↓fl_222, ↓fs_222, ↓fl_223, ↓fs_223, ↓fl_224, ↓fs_224, ↓fl_225, ↓fs_225, ↓fl_226, ↓fs_226, ↓fl_227, ↓fs_227, ↓fl_228, ↓fs_228, ↓fl_229, ↓fs_229, ↓fl_230, ↓fs_230, ↓fl_231, ↓fs_231, ↓fl_232, ↓fs_232, ↓fl_233, ↓fs_233, ↓fl_234, ↓fs_234, ↓fl_235, ↓fs_235, ↓fl_236, ↓fs_236, ↓fl_237, ↓fs_237, ↓fl_238, ↓fs_238, ↓fl_239, ↓fs_239, ↓fl_240, ↓fs_240, ↓fl_241, ↓fs_241, ↓fl_242, ↓fs_242, ↓fl_243, ↓fs_243, ↓fl_244, ↓fs_244, ↓fl_245, ↓fs_245, ↓fl_246, ↓fs_246, ↓fl_247, ↓fs_247, ↓fl_248, ↓fs_248, ↓fl_249, ↓fs_249, ↓fl_250, ↓fs_250, ↓fl_251, ↓fs_251, ↓fl_252, ↓fs_252, ↓fl_253, ↓fs_253, ↓fl_254, ↓fs_254, ↓fl_255, ↓fs_255, ↓fl_256, ↓fs_256, ↓fl_257, ↓fs_257, ↓fl_258, ↓fs_258, ↓fl_259, ↓fs_259, ↓fl_260, ↓fs_260, ↓fc_v0, ↓fc_v1, ↓fc_v2, ↓fc_v3, ↓fc_v4, ↓fc_v5, ↓fc_v6, ↓fc_s0, ↓fc_s1, ↓fc_s2, ↓fc_s3, ↓fc_s4, ↓fc_s5, ↓fq_len0, ↓fq_len1, ↓fq_len2, ↓fq_len3, ↓fq_len4, bt_loc, bt_locs, bt_kl, List.set_cons_zero, List.set_cons_succ, List.replicate_succ, List.replicate_zero, List.cons_append, List.nil_append, List.append_nil, List.length_cons, List.length_nil, Nat.reduceAdd, Nat.reduceSub, true_and, and_true, Nat.zero_add, Int.toNat_natCast, Int.reduceToNat, ↓reduceIte]
      by_cases q25 : X = 6562597
      · rw [if_pos ((e 6562597 (by decide) (by decide)).mpr q25)]
        have hW : W = 25 := hw25.mpr q25
        have hf : fo_fa t n 7 c = true := by rw [hfa, hW]; decide
        rw [if_pos hf, hW] at hq
        exact hq
      · rw [if_neg (fun z => q25 ((e 6562597 (by decide) (by decide)).mp z))]
        have n25 : W ≠ 25 := fun z => q25 (hw25.mp z)
        have hf : fo_fa t n 7 c = false := by
          rw [hfa]
          by_cases h : 25 ≤ W
          · have h2 : W = 28 ∨ W = 29 := by omega
            rcases h2 with rfl | rfl <;> decide
          · rw [decide_eq_false h]; rfl
        rw [if_neg (by rw [hf]; decide)] at hq
        exact hq
    · rw [show μ 205 26 = 1 from hl]
      simp (disch := omega) only [bt_w_id, Int.reduceEq, ↓reduceIte, ↓tX11_fact_91, ↓fq_ild0, ↓fq_ald0, ↓fq_lld0, ↓fq_inc0, ↓fq_ist0, ↓fq_lst0, ↓fq_nl0, ↓fq_ild1, ↓fq_ald1, ↓fq_lld1, ↓fq_inc1, ↓fq_ist1, ↓fq_lst1, ↓fq_nli1, ↓fq_nlr1, ↓fq_nln1, ↓fq_ild2, ↓fq_ald2, ↓fq_lld2, ↓fq_inc2, ↓fq_ist2, ↓fq_lst2, ↓fq_nli2, ↓fq_nlr2, ↓fq_nln2, ↓fq_ild3, ↓fq_ald3, ↓fq_lld3, ↓fq_inc3, ↓fq_ist3, ↓fq_lst3, ↓fq_nli3, ↓fq_nlr3, ↓fq_nln3, ↓fq_ild4, ↓fq_ald4, ↓fq_lld4, ↓fq_inc4, ↓fq_ist4, ↓fq_lst4, ↓fq_nli4, ↓fq_nlr4, ↓fq_nln4, ↓fq_ild5, ↓fq_ald5, ↓fq_lld5, ↓fq_inc5, ↓fq_ist5, ↓fq_lst5, ↓fq_nli5, ↓fq_nlr5, ↓fq_nln5, ↓fq_ild6, ↓fq_ald6, ↓fq_lld6, ↓fq_inc6, ↓fq_ist6, ↓fq_lst6, ↓fq_nli6, ↓fq_nlr6, ↓fq_nln6, ↓fq_ild7, ↓fq_ald7, ↓fq_lld7, ↓fq_inc7, ↓fq_ist7, ↓fq_lst7, ↓fq_nli7, ↓fq_nlr7, ↓fq_nln7, ↓fq_ild8, ↓fq_ald8, ↓fq_lld8, ↓fq_inc8, ↓fq_ist8, ↓fq_lst8, ↓fq_nli8, ↓fq_nlr8, ↓fq_nln8, ↓fq_ild9, ↓fq_ald9, ↓fq_lld9, ↓fq_inc9, ↓fq_ist9, ↓fq_lst9, ↓fq_nli9, ↓fq_nlr9, ↓fq_nln9, ↓fq_ild10, ↓fq_ald10, ↓fq_lld10, ↓fq_inc10, ↓fq_ist10, ↓fq_lst10, ↓fq_nli10, ↓fq_nlr10, ↓fq_nln10, ↓fq_iadd, ↓fq_isub, ↓fq_imul, ↓fq_iand, ↓fq_ior, ↓fq_ixor, ↓fq_ishl, ↓fq_ishr, ↓fq_iushr, ↓fq_ladd, ↓fq_lsub, ↓fq_lmul, ↓fq_land, ↓fq_lor, ↓fq_lushr, ↓fq_lshl, ↓fq_lcmp, ↓fq_i2l, ↓fq_l2i, ↓fq_idiv, ↓fq_irem, ↓fq_ldiv, ↓fq_lrem, ↓fq_ic, ↓fq_lc, ↓fq_dupi, ↓fq_dupr, ↓fq_dup2, ↓fq_popi, ↓fq_mmin, ↓fq_mmax, ↓fq_can, ↓fq_icmpeq, ↓fq_icmpne, ↓fq_icmplt, ↓fq_icmpge, ↓fq_icmpgt, ↓fq_icmple, ↓fq_ifeq, ↓fq_ifne, ↓fq_iflt, ↓fq_ifge, ↓fq_ifgt, ↓fq_ifle, ↓fq_iret, ↓fq_zret, ↓fq_lret, ↓fq_vret, ↓fq_rets, ↓fq_retn, ↓fq_kill, ↓fq_gfI, ↓fq_gfJ, ↓fq_pfI, ↓fq_pfJ, ↓fl_206, ↓fs_206, ↓fl_207, ↓fs_207, ↓fl_208, ↓fs_208, ↓fl_209, ↓fs_209, ↓fl_210, ↓fs_210, ↓fl_211, ↓fs_211, ↓fl_212, ↓fs_212, ↓fl_213, ↓fs_213, ↓fl_214, ↓fs_214, ↓fl_215, ↓fs_215, ↓fl_216, ↓fs_216, ↓fl_217, ↓fs_217, ↓fl_218, ↓fs_218, ↓fl_219, ↓fs_219, ↓fl_220, ↓fs_220, ↓fl_221, ↓fs_221, ↓fl_222, ↓fs_222, ↓fl_223, ↓fs_223, ↓fl_224, ↓fs_224, ↓fl_225, ↓fs_225, ↓fl_226, ↓fs_226, ↓fl_227, ↓fs_227, ↓fl_228, ↓fs_228, ↓fl_229, ↓fs_229, ↓fl_230, ↓fs_230, ↓fl_231, ↓fs_231, ↓fl_232, ↓fs_232, ↓fl_233, ↓fs_233, ↓fl_234, ↓fs_234, ↓fl_235, ↓fs_235, ↓fl_236, ↓fs_236, ↓fl_237, ↓fs_237, ↓fl_238, ↓fs_238, ↓fl_239, ↓fs_239, ↓fl_240, ↓fs_240, ↓fl_241, ↓fs_241, ↓fl_242, ↓fs_242, ↓fl_243, ↓fs_243, ↓fl_244, ↓fs_244, ↓fl_245, ↓fs_245, ↓fl_246, ↓fs_246, ↓fl_247, ↓fs_247, ↓fl_248, ↓fs_248, ↓fl_249, ↓fs_249, ↓fl_250, ↓fs_250, ↓fl_251, ↓fs_251, ↓fl_252, ↓fs_252, ↓fl_253, ↓fs_253, ↓fl_254, ↓fs_254, ↓fl_255, ↓fs_255, ↓fl_256, ↓fs_256, ↓fl_257, ↓fs_257, ↓fl_258, ↓fs_258, ↓fl_259, ↓fs_259, ↓fl_260, ↓fs_260, ↓fc_v0, ↓fc_v1, ↓fc_v2, ↓fc_v3, ↓fc_v4, ↓fc_v5, ↓fc_v6, ↓fc_s0, ↓fc_s1, ↓fc_s2, ↓fc_s3, ↓fc_s4, ↓fc_s5, ↓fq_len0, ↓fq_len1, ↓fq_len2, ↓fq_len3, ↓fq_len4, bt_loc, bt_locs, bt_kl, List.set_cons_zero, List.set_cons_succ, List.replicate_succ, List.replicate_zero, List.cons_append, List.nil_append, List.append_nil, List.length_cons, List.length_nil, Nat.reduceAdd, Nat.reduceSub, true_and, and_true, Nat.zero_add, Int.toNat_natCast, Int.reduceToNat, ↓reduceIte]
      by_cases q28 : X = 8935713994
      · rw [if_pos ((e 8935713994 (by decide) (by decide)).mpr q28)]
        have hW : W = 28 := hw28.mpr q28
        have hf : fo_fa t n 30 c = true := by rw [hfa, hW]; decide
        rw [if_pos hf, hW] at hq
        exact hq
      rw [if_neg (fun z => q28 ((e 8935713994 (by decide) (by decide)).mp z))]
      by_cases q29 : X = 4513
      · rw [if_pos ((e 4513 (by decide) (by decide)).mpr q29)]
        have hW : W = 29 := hw29.mpr q29
        have hf : fo_fa t n 30 c = true := by rw [hfa, hW]; decide
        rw [if_pos hf, hW] at hq
        exact hq
      · rw [if_neg (fun z => q29 ((e 4513 (by decide) (by decide)).mp z))]
        have n28 : W ≠ 28 := fun z => q28 (hw28.mp z)
        have n29 : W ≠ 29 := fun z => q29 (hw29.mp z)
        have hf : fo_fa t n 30 c = false := by
          rw [hfa]
          by_cases h : 25 ≤ W
          · have h2 : W = 25 := by omega
            rw [h2]; decide
          · rw [decide_eq_false h]; rfl
        rw [if_neg (by rw [hf]; decide)] at hq
        exact hq
  · rw [if_neg h1]
    have hf : fo_fa t n al c = false := by
      unfold fo_fa tk_w
      rw [if_neg (fun q => h1 (r1.mpr q))]; rfl
    rw [if_neg (by rw [hf]; decide)] at hq
    exact hq
