/-! the reference: a law worked out -/
abbrev wk_Q : Type := Nat × (Nat → Nat → Int)
def wk_op (d : Nat) (M : Nat → Nat → Int) : Nat → Nat → Int := bt_up (bt_up (bt_up (bt_up (bt_up M 1 d 0) 3 d 0) 4 d 0) 5 d 20) 7 d 0
def wk_sv (d : Nat) (M : Nat → Nat → Int) : Int := if bt_w (M 5 d) = 21 then M 4 d - M 6 d else M 4 d + M 6 d
def wk_su (d : Nat) (M : Nat → Nat → Int) : Nat → Nat → Int := bt_up (bt_up M 4 d (wk_sv d M)) 7 d 0
def wk_v1 (d : Nat) (M : Nat → Nat → Int) : Int := if bt_w (M 3 d) = 24 then (if bt_w (M 2 d) < bt_w (wk_sv d M) then 1 else 0) else if bt_w (M 3 d) = 25 then (if bt_w (M 2 d) = bt_w (wk_sv d M) then 1 else 0) else wk_sv d M
def wk_v (d : Nat) (M : Nat → Nat → Int) : Int := if bt_w (M 1 d) = 26 then (if bt_w (M 0 d) ≠ 0 ∧ bt_w (wk_v1 d M) ≠ 0 then 1 else 0) else if bt_w (M 1 d) = 27 then (if bt_w (M 0 d) ≠ 0 ∨ bt_w (wk_v1 d M) ≠ 0 then 1 else 0) else wk_v1 d M
def wk_te (d : Nat) (M : Nat → Nat → Int) : Nat → Nat → Int := bt_up (bt_up (bt_up (bt_up (wk_su d M) 0 d (wk_v d M)) 3 d 0) 4 d 0) 5 d 20
def wk_rv (d : Nat) (v : Int) (M : Nat → Nat → Int) : Nat → Nat → Int := bt_up M 6 d (if bt_w (M 7 d) = 0 then v else M 6 d * v)
def wk_dl : Nat → Int → (Nat → Nat → Int) → wk_Q
  | 0, v, M => (0, wk_rv 0 v M)
  | d + 1, v, M => if bt_w (M 8 (d + 1)) = 1 then wk_dl d (fo_nt v) M else (d + 1, wk_rv (d + 1) v M)
def wk_1 (F : Nat → Int) (c : Int) (q : wk_Q) : Option wk_Q :=
  if c = 28 ∨ c = 30 then (if q.1 < 6 then some (q.1 + 1, wk_op (q.1 + 1) (bt_up q.2 8 (q.1 + 1) (if c = 30 then 1 else 0))) else none)
  else if c = 20 ∨ c = 21 then some (q.1, bt_up (wk_su q.1 q.2) 5 q.1 c)
  else if c = 22 then some (q.1, bt_up q.2 7 q.1 c)
  else if c = 24 ∨ c = 25 then some (q.1, bt_up (bt_up (bt_up (bt_up (wk_su q.1 q.2) 2 q.1 (wk_sv q.1 q.2)) 3 q.1 c) 4 q.1 0) 5 q.1 20)
  else if c = 26 ∨ c = 27 then some (q.1, bt_up (wk_te q.1 q.2) 1 q.1 c)
  else if c = 29 then (if 0 < q.1 then some (wk_dl (q.1 - 1) (wk_v q.1 q.2) (wk_te q.1 q.2)) else none)
  else if 100 ≤ c ∧ c ≤ 20000 then some (wk_dl q.1 (c - 100) q.2)
  else if 1 ≤ c ∧ c ≤ 5 then some (wk_dl q.1 (F (c - 1).toNat) q.2) else none
def wk_r (F cd : Nat → Int) : Nat → Nat → wk_Q → Option wk_Q
  | 0, _, q => some q
  | n + 1, i, q => match wk_1 F (cd i) q with
    | none => none
    | some q' => wk_r F cd n (i + 1) q'
def wk_ok (cd : Nat → Int) (a b : Nat) (V : fo_V) : Prop := ∀ F M, ∃ M', wk_r F cd (b - a) a (0, wk_op 0 M) = some (0, M') ∧ wk_v 0 M' = V F
/-- the arrays, as the machine has them -/
def wk_E (μ M : Nat → Nat → Int) : Prop := ∀ j, j < 9 → μ (224 + j) = M j
theorem wk_E.up {μ M : Nat → Nat → Int} (h : wk_E μ M) {i k : Nat} {x : Int} {a : Nat} (ha : a = 224 + i) : wk_E (bt_up μ a k x) (bt_up M i k x) := by
  subst ha
  intro j hj
  by_cases e : j = i
  · subst e
    funext y
    have := congrFun (h j hj) y
    unfold bt_up
    by_cases hy : y = k
    · simp [hy]
    · simp [hy, this]
  · rw [bt_up_cell (by omega), bt_up_cell e]
    exact h j hj
def SpX11_opens : bt_Sp := fun As w Q => tX11_opens_0 bt_k0 Q [] (bt_loc 2 As) w
theorem mtX11_opens : bt_Met yX11_opens cX11_opens 2 none 1 [2, 0] SpX11_opens := lfX11_opens
def SpX11_sums : bt_Sp := fun As w Q => tX11_sums_0 bt_k0 Q [] (bt_loc 2 As) w
theorem mtX11_sums : bt_Met yX11_sums cX11_sums 2 none 1 [2, 0] SpX11_sums := lfX11_sums
def wk_in : Nat → Prop := fun a => 224 ≤ a ∧ a ≤ 232
theorem wk_op_call {ρ : Nat → Nat → Option Nat} {μ M : Nat → Nat → Int} {d : Nat} (hρ : bt_Rf ρ) (hE : wk_E μ M) (hd : d < 7) {Q : Option bt_V → bt_W → Prop} (hq : ∀ μ', wk_E μ' (wk_op d M) → bt_fr wk_in μ' μ → Q none (bt_wd ρ μ')) : SpX11_opens [.inr (.inr 205), .inl (d : Int)] (bt_wd ρ μ) Q := by
  simp (disch := omega) only [SpX11_opens, tX11_opens_0, bt_ild, bt_lld, bt_ald, bt_ist, bt_lst, bt_ast, bt_inc, bt_ic, bt_lc, bt_iadd, bt_isub, bt_imul, bt_iand, bt_ior, bt_ixor, bt_ishl, bt_ishr, bt_iushr, bt_ladd, bt_lsub, bt_lmul, bt_land, bt_lor, bt_lushr, bt_lshl, bt_idiv, bt_irem, bt_ldiv, bt_lrem, bt_lcmp, bt_i2l, bt_l2i, bt_i2b, bt_pop, bt_dup, bt_dup2, bt_gfI, bt_gfJ, bt_gfR, bt_pfI, bt_pfZ, bt_pfJ, bt_pfR, bt_ial, bt_bal, bt_zal, bt_lal, bt_aal, bt_ias, bt_bas, bt_zas, bt_las, bt_len, bt_iret, bt_zret, bt_lret, bt_vret, bt_cV, bt_cS, bt_tab, bt_tsw, bt_lk, bt_lsw, bt_acp, bt_mmax, bt_mmin, bt_can, bt_icmpeq, bt_ifeq, bt_icmpne, bt_ifne, bt_icmplt, bt_iflt, bt_icmpge, bt_ifge, bt_icmpgt, bt_ifgt, bt_icmple, bt_ifle, bt_ret, bt_kill, bt_kl, bt_ix, bt_nl, bt_sm, bt_sr, bt_sig, bt_tg, bt_loc, bt_locs, List.getElem?_cons_zero, List.getElem?_cons_succ, List.set_cons_zero, List.set_cons_succ, List.map_cons, List.map_nil, List.take_succ_cons, List.take_zero, List.drop_succ_cons, List.drop_zero, List.reverse_cons, List.reverse_nil, List.nil_append, List.cons_append, List.append_nil, List.length_cons, List.length_nil, List.replicate_succ, List.replicate_zero, Option.toList_some, Option.toList_none, Nat.reduceAdd, Nat.reduceSub, Nat.reduceLeDiff, Nat.zero_add, Nat.zero_le, true_and, and_true, Int.toNat_natCast, Sum.inl.injEq, Sum.inr.injEq, ↓reduceIte, Nat.reduceEqDiff, hρ 205 _ (by decide), rf_205_2, rf_205_10, rf_205_11, rf_205_12, rf_205_13, rf_205_14, rf_205_15, rf_205_16, rf_205_17, rf_205_18, rf_205_19, rf_205_20, rf_205_21, rf_205_22, rf_205_23, rf_205_24, rf_205_28, rf_205_29, rf_205_30, rf_205_31, rf_205_32, rf_205_33, rf_205_34, rf_205_35, rf_205_36, rf_205_37, rf_205_38, rf_205_39, rf_205_42, rf_205_43, rf_205_44, rf_205_45, rf_205_46, rf_205_47, rf_205_48, rf_205_49, rf_205_50, rf_205_51, rf_205_52, rf_205_53, rf_205_55, rf_205_56, rf_205_57, rf_205_58, rf_205_59, rf_205_60, rf_205_61, rf_205_62, rf_205_63, rf_205_66, rf_205_67, rf_205_68, rf_205_70, rf_205_71, rf_205_72, sh_205, sh_206, sh_207, sh_208, sh_209, sh_210, sh_211, sh_212, sh_213, sh_214, sh_215, sh_216, sh_217, sh_218, sh_219, sh_220, sh_221, sh_222, sh_223, sh_224, sh_225, sh_226, sh_227, sh_228, sh_229, sh_230, sh_231, sh_232, sh_233, sh_234, sh_235, sh_236, sh_237, sh_238, sh_239, sh_240, sh_241, sh_242, sh_243, sh_244, sh_245, sh_246, sh_247, sh_248, sh_249, sh_250, sh_251, sh_252, sh_253, sh_254, sh_255, sh_256, sh_257, sh_258, sh_259, sh_260, bt_w_id]
  repeat (refine And.intro (by first | omega | decide | (simp only [and_true, true_and]; omega)) ?_)
  refine hq _ ?_ (fun a ha => ?_)
  · exact ((((hE.up (i := 1) rfl).up (i := 3) rfl).up (i := 4) rfl).up (i := 5) rfl).up (i := 7) rfl
  · unfold wk_in at ha
    rw [bt_up_cell (by omega), bt_up_cell (by omega), bt_up_cell (by omega), bt_up_cell (by omega), bt_up_cell (by omega)]
theorem wk_su_call {ρ : Nat → Nat → Option Nat} {μ M : Nat → Nat → Int} {d : Nat} (hρ : bt_Rf ρ) (hE : wk_E μ M) (hd : d < 7) {Q : Option bt_V → bt_W → Prop} (hq : ∀ μ', wk_E μ' (wk_su d M) → bt_fr wk_in μ' μ → Q none (bt_wd ρ μ')) : SpX11_sums [.inr (.inr 205), .inl (d : Int)] (bt_wd ρ μ) Q := by
  have e4 : μ 228 = M 4 := hE 4 (by decide)
  have e5 : μ 229 = M 5 := hE 5 (by decide)
  have e6 : μ 230 = M 6 := hE 6 (by decide)
  simp (disch := omega) only [SpX11_sums, tX11_sums_0, tX11_sums_45, bt_ild, bt_lld, bt_ald, bt_ist, bt_lst, bt_ast, bt_inc, bt_ic, bt_lc, bt_iadd, bt_isub, bt_imul, bt_iand, bt_ior, bt_ixor, bt_ishl, bt_ishr, bt_iushr, bt_ladd, bt_lsub, bt_lmul, bt_land, bt_lor, bt_lushr, bt_lshl, bt_idiv, bt_irem, bt_ldiv, bt_lrem, bt_lcmp, bt_i2l, bt_l2i, bt_i2b, bt_pop, bt_dup, bt_dup2, bt_gfI, bt_gfJ, bt_gfR, bt_pfI, bt_pfZ, bt_pfJ, bt_pfR, bt_ial, bt_bal, bt_zal, bt_lal, bt_aal, bt_ias, bt_bas, bt_zas, bt_las, bt_len, bt_iret, bt_zret, bt_lret, bt_vret, bt_cV, bt_cS, bt_tab, bt_tsw, bt_lk, bt_lsw, bt_acp, bt_mmax, bt_mmin, bt_can, bt_icmpeq, bt_ifeq, bt_icmpne, bt_ifne, bt_icmplt, bt_iflt, bt_icmpge, bt_ifge, bt_icmpgt, bt_ifgt, bt_icmple, bt_ifle, bt_ret, bt_kill, bt_kl, bt_ix, bt_nl, bt_sm, bt_sr, bt_sig, bt_tg, bt_loc, bt_locs, List.getElem?_cons_zero, List.getElem?_cons_succ, List.set_cons_zero, List.set_cons_succ, List.map_cons, List.map_nil, List.take_succ_cons, List.take_zero, List.drop_succ_cons, List.drop_zero, List.reverse_cons, List.reverse_nil, List.nil_append, List.cons_append, List.append_nil, List.length_cons, List.length_nil, List.replicate_succ, List.replicate_zero, Option.toList_some, Option.toList_none, Nat.reduceAdd, Nat.reduceSub, Nat.reduceLeDiff, Nat.zero_add, Nat.zero_le, true_and, and_true, Int.toNat_natCast, Sum.inl.injEq, Sum.inr.injEq, ↓reduceIte, Nat.reduceEqDiff, hρ 205 _ (by decide), rf_205_2, rf_205_10, rf_205_11, rf_205_12, rf_205_13, rf_205_14, rf_205_15, rf_205_16, rf_205_17, rf_205_18, rf_205_19, rf_205_20, rf_205_21, rf_205_22, rf_205_23, rf_205_24, rf_205_28, rf_205_29, rf_205_30, rf_205_31, rf_205_32, rf_205_33, rf_205_34, rf_205_35, rf_205_36, rf_205_37, rf_205_38, rf_205_39, rf_205_42, rf_205_43, rf_205_44, rf_205_45, rf_205_46, rf_205_47, rf_205_48, rf_205_49, rf_205_50, rf_205_51, rf_205_52, rf_205_53, rf_205_55, rf_205_56, rf_205_57, rf_205_58, rf_205_59, rf_205_60, rf_205_61, rf_205_62, rf_205_63, rf_205_66, rf_205_67, rf_205_68, rf_205_70, rf_205_71, rf_205_72, sh_205, sh_206, sh_207, sh_208, sh_209, sh_210, sh_211, sh_212, sh_213, sh_214, sh_215, sh_216, sh_217, sh_218, sh_219, sh_220, sh_221, sh_222, sh_223, sh_224, sh_225, sh_226, sh_227, sh_228, sh_229, sh_230, sh_231, sh_232, sh_233, sh_234, sh_235, sh_236, sh_237, sh_238, sh_239, sh_240, sh_241, sh_242, sh_243, sh_244, sh_245, sh_246, sh_247, sh_248, sh_249, sh_250, sh_251, sh_252, sh_253, sh_254, sh_255, sh_256, sh_257, sh_258, sh_259, sh_260, bt_w_id, e4, e5, e6]
  repeat (refine And.intro (by first | omega | decide | (simp only [and_true, true_and]; omega)) ?_)
  have hf : ∀ x, bt_fr wk_in (bt_up (bt_up μ 228 d x) 231 d 0) μ := fun x a ha => by unfold wk_in at ha; rw [bt_up_cell (by omega), bt_up_cell (by omega)]
  by_cases h : bt_w (M 5 d) = 21
  · rw [if_pos h]
    repeat (refine And.intro (by first | omega | decide | (simp only [and_true, true_and]; omega)) ?_)
    refine hq _ ?_ (hf _)
    unfold wk_su wk_sv
    rw [if_pos h]
    exact (hE.up (i := 4) rfl).up (i := 7) rfl
  · rw [if_neg h]
    repeat (refine And.intro (by first | omega | decide | (simp only [and_true, true_and]; omega)) ?_)
    refine hq _ ?_ (hf _)
    unfold wk_su wk_sv
    rw [if_neg h]
    exact (hE.up (i := 4) rfl).up (i := 7) rfl
def SpX11_tests : bt_Sp := fun As w Q => ∃ (ρ : Nat → Nat → Option Nat) (μ : Nat → Nat → Int) (M : Nat → Nat → Int) (d : Nat), As = [.inr (.inr 205), .inl (d : Int)] ∧ w = bt_wd ρ μ ∧ bt_Rf ρ ∧ wk_E μ M ∧ d < 7 ∧ ∀ μ', wk_E μ' (wk_te d M) → bt_fr wk_in μ' μ → Q none (bt_wd ρ μ')
set_option maxHeartbeats 4000000 in
theorem mtX11_tests : bt_Met yX11_tests cX11_tests 3 none 2 [2, 0] SpX11_tests := by
  refine bt_metW (lfX11_tests mtX11_sums (by decide)) (fun As w Q _ hS => ?_)
  obtain ⟨ρ, μ, M, d, rfl, rfl, hρ, hE, hd, hQ⟩ := hS
  simp (disch := omega) only [tX11_tests_0, bt_ald, bt_ild, bt_cV, bt_sig, bt_tg, bt_loc, bt_locs, List.getElem?_cons_zero, List.getElem?_cons_succ, List.set_cons_zero, List.set_cons_succ, List.map_cons, List.map_nil, List.take_succ_cons, List.take_zero, List.drop_succ_cons, List.drop_zero, List.reverse_cons, List.reverse_nil, List.nil_append, List.cons_append, List.append_nil, List.length_cons, List.length_nil, List.replicate_succ, List.replicate_zero, Option.toList_some, Option.toList_none, Nat.reduceAdd, Nat.reduceSub, Nat.reduceLeDiff, Nat.zero_add, Nat.zero_le, true_and, and_true, Int.toNat_natCast, Sum.inl.injEq, Sum.inr.injEq, ↓reduceIte, Nat.reduceEqDiff, hρ 205 _ (by decide), rf_205_2, rf_205_10, rf_205_11, rf_205_12, rf_205_13, rf_205_14, rf_205_15, rf_205_16, rf_205_17, rf_205_18, rf_205_19, rf_205_20, rf_205_21, rf_205_22, rf_205_23, rf_205_24, rf_205_28, rf_205_29, rf_205_30, rf_205_31, rf_205_32, rf_205_33, rf_205_34, rf_205_35, rf_205_36, rf_205_37, rf_205_38, rf_205_39, rf_205_42, rf_205_43, rf_205_44, rf_205_45, rf_205_46, rf_205_47, rf_205_48, rf_205_49, rf_205_50, rf_205_51, rf_205_52, rf_205_53, rf_205_55, rf_205_56, rf_205_57, rf_205_58, rf_205_59, rf_205_60, rf_205_61, rf_205_62, rf_205_63, rf_205_66, rf_205_67, rf_205_68, rf_205_70, rf_205_71, rf_205_72, sh_205, sh_206, sh_207, sh_208, sh_209, sh_210, sh_211, sh_212, sh_213, sh_214, sh_215, sh_216, sh_217, sh_218, sh_219, sh_220, sh_221, sh_222, sh_223, sh_224, sh_225, sh_226, sh_227, sh_228, sh_229, sh_230, sh_231, sh_232, sh_233, sh_234, sh_235, sh_236, sh_237, sh_238, sh_239, sh_240, sh_241, sh_242, sh_243, sh_244, sh_245, sh_246, sh_247, sh_248, sh_249, sh_250, sh_251, sh_252, sh_253, sh_254, sh_255, sh_256, sh_257, sh_258, sh_259, sh_260]
  repeat (refine And.intro (by first | omega | decide | (simp only [and_true, true_and]; omega)) ?_)
  refine wk_su_call hρ hE hd (fun μ1 hE1 f1 => ?_)
  have k0 : μ1 224 = M 0 := by rw [hE1 0 (by decide)]; unfold wk_su; rw [bt_up_cell (by decide), bt_up_cell (by decide)]
  have k1 : μ1 225 = M 1 := by rw [hE1 1 (by decide)]; unfold wk_su; rw [bt_up_cell (by decide), bt_up_cell (by decide)]
  have k2 : μ1 226 = M 2 := by rw [hE1 2 (by decide)]; unfold wk_su; rw [bt_up_cell (by decide), bt_up_cell (by decide)]
  have k3 : μ1 227 = M 3 := by rw [hE1 3 (by decide)]; unfold wk_su; rw [bt_up_cell (by decide), bt_up_cell (by decide)]
  have k4 : μ1 228 d = wk_sv d M := by rw [hE1 4 (by decide)]; unfold wk_su; rw [bt_up_cell (by decide), bt_up_same]
  /- the end -/
  have l136 : ∀ v, v = wk_v d M → tX11_tests_136 SpX11_sums bt_k0 Q [] [some (.inr (.inr 205)), some (.inl (d : Int)), some (.inl v)] (bt_wd ρ μ1) := fun v hv => by
    subst hv
    simp (disch := omega) only [tX11_tests_136, bt_ild, bt_lld, bt_ald, bt_ist, bt_lst, bt_ast, bt_inc, bt_ic, bt_lc, bt_iadd, bt_isub, bt_imul, bt_iand, bt_ior, bt_ixor, bt_ishl, bt_ishr, bt_iushr, bt_ladd, bt_lsub, bt_lmul, bt_land, bt_lor, bt_lushr, bt_lshl, bt_idiv, bt_irem, bt_ldiv, bt_lrem, bt_lcmp, bt_i2l, bt_l2i, bt_i2b, bt_pop, bt_dup, bt_dup2, bt_gfI, bt_gfJ, bt_gfR, bt_pfI, bt_pfZ, bt_pfJ, bt_pfR, bt_ial, bt_bal, bt_zal, bt_lal, bt_aal, bt_ias, bt_bas, bt_zas, bt_las, bt_len, bt_iret, bt_zret, bt_lret, bt_vret, bt_cV, bt_cS, bt_tab, bt_tsw, bt_lk, bt_lsw, bt_acp, bt_mmax, bt_mmin, bt_can, bt_icmpeq, bt_ifeq, bt_icmpne, bt_ifne, bt_icmplt, bt_iflt, bt_icmpge, bt_ifge, bt_icmpgt, bt_ifgt, bt_icmple, bt_ifle, bt_ret, bt_kill, bt_kl, bt_ix, bt_nl, bt_sm, bt_sr, bt_sig, bt_tg, bt_loc, bt_locs, List.getElem?_cons_zero, List.getElem?_cons_succ, List.set_cons_zero, List.set_cons_succ, List.map_cons, List.map_nil, List.take_succ_cons, List.take_zero, List.drop_succ_cons, List.drop_zero, List.reverse_cons, List.reverse_nil, List.nil_append, List.cons_append, List.append_nil, List.length_cons, List.length_nil, List.replicate_succ, List.replicate_zero, Option.toList_some, Option.toList_none, Nat.reduceAdd, Nat.reduceSub, Nat.reduceLeDiff, Nat.zero_add, Nat.zero_le, true_and, and_true, Int.toNat_natCast, Sum.inl.injEq, Sum.inr.injEq, ↓reduceIte, Nat.reduceEqDiff, hρ 205 _ (by decide), rf_205_2, rf_205_10, rf_205_11, rf_205_12, rf_205_13, rf_205_14, rf_205_15, rf_205_16, rf_205_17, rf_205_18, rf_205_19, rf_205_20, rf_205_21, rf_205_22, rf_205_23, rf_205_24, rf_205_28, rf_205_29, rf_205_30, rf_205_31, rf_205_32, rf_205_33, rf_205_34, rf_205_35, rf_205_36, rf_205_37, rf_205_38, rf_205_39, rf_205_42, rf_205_43, rf_205_44, rf_205_45, rf_205_46, rf_205_47, rf_205_48, rf_205_49, rf_205_50, rf_205_51, rf_205_52, rf_205_53, rf_205_55, rf_205_56, rf_205_57, rf_205_58, rf_205_59, rf_205_60, rf_205_61, rf_205_62, rf_205_63, rf_205_66, rf_205_67, rf_205_68, rf_205_70, rf_205_71, rf_205_72, sh_205, sh_206, sh_207, sh_208, sh_209, sh_210, sh_211, sh_212, sh_213, sh_214, sh_215, sh_216, sh_217, sh_218, sh_219, sh_220, sh_221, sh_222, sh_223, sh_224, sh_225, sh_226, sh_227, sh_228, sh_229, sh_230, sh_231, sh_232, sh_233, sh_234, sh_235, sh_236, sh_237, sh_238, sh_239, sh_240, sh_241, sh_242, sh_243, sh_244, sh_245, sh_246, sh_247, sh_248, sh_249, sh_250, sh_251, sh_252, sh_253, sh_254, sh_255, sh_256, sh_257, sh_258, sh_259, sh_260, bt_w_id]
    repeat (refine And.intro (by first | omega | decide | (simp only [and_true, true_and]; omega)) ?_)
    refine hQ _ ?_ (fun a ha => ?_)
    · exact (((hE1.up (i := 0) rfl).up (i := 3) rfl).up (i := 4) rfl).up (i := 5) rfl
    · have ha' := ha
      unfold wk_in at ha'
      rw [bt_up_cell (by omega), bt_up_cell (by omega), bt_up_cell (by omega), bt_up_cell (by omega)]
      exact f1 a ha
  have l106 : ∀ v, (bt_w (M 1 d) = 26 → v = wk_v d M) → (bt_w (M 1 d) ≠ 26 → v = wk_v1 d M) → tX11_tests_106 SpX11_sums bt_k0 Q [] [some (.inr (.inr 205)), some (.inl (d : Int)), some (.inl v)] (bt_wd ρ μ1) := fun v h1 h2 => by
    simp (disch := omega) only [tX11_tests_106, tX11_tests_130, tX11_tests_135, bt_ald, bt_gfR, bt_ild, bt_ial, bt_ix, bt_ic, bt_icmpne, bt_ifne, bt_ifeq, bt_ist, bt_nl, bt_loc, bt_locs, List.getElem?_cons_zero, List.getElem?_cons_succ, List.set_cons_zero, List.set_cons_succ, List.map_cons, List.map_nil, List.take_succ_cons, List.take_zero, List.drop_succ_cons, List.drop_zero, List.reverse_cons, List.reverse_nil, List.nil_append, List.cons_append, List.append_nil, List.length_cons, List.length_nil, List.replicate_succ, List.replicate_zero, Option.toList_some, Option.toList_none, Nat.reduceAdd, Nat.reduceSub, Nat.reduceLeDiff, Nat.zero_add, Nat.zero_le, true_and, and_true, Int.toNat_natCast, Sum.inl.injEq, Sum.inr.injEq, ↓reduceIte, Nat.reduceEqDiff, hρ 205 _ (by decide), rf_205_2, rf_205_10, rf_205_11, rf_205_12, rf_205_13, rf_205_14, rf_205_15, rf_205_16, rf_205_17, rf_205_18, rf_205_19, rf_205_20, rf_205_21, rf_205_22, rf_205_23, rf_205_24, rf_205_28, rf_205_29, rf_205_30, rf_205_31, rf_205_32, rf_205_33, rf_205_34, rf_205_35, rf_205_36, rf_205_37, rf_205_38, rf_205_39, rf_205_42, rf_205_43, rf_205_44, rf_205_45, rf_205_46, rf_205_47, rf_205_48, rf_205_49, rf_205_50, rf_205_51, rf_205_52, rf_205_53, rf_205_55, rf_205_56, rf_205_57, rf_205_58, rf_205_59, rf_205_60, rf_205_61, rf_205_62, rf_205_63, rf_205_66, rf_205_67, rf_205_68, rf_205_70, rf_205_71, rf_205_72, sh_205, sh_206, sh_207, sh_208, sh_209, sh_210, sh_211, sh_212, sh_213, sh_214, sh_215, sh_216, sh_217, sh_218, sh_219, sh_220, sh_221, sh_222, sh_223, sh_224, sh_225, sh_226, sh_227, sh_228, sh_229, sh_230, sh_231, sh_232, sh_233, sh_234, sh_235, sh_236, sh_237, sh_238, sh_239, sh_240, sh_241, sh_242, sh_243, sh_244, sh_245, sh_246, sh_247, sh_248, sh_249, sh_250, sh_251, sh_252, sh_253, sh_254, sh_255, sh_256, sh_257, sh_258, sh_259, sh_260, bt_w_id, k0, k1]
    repeat (refine And.intro (by first | omega | decide | (simp only [and_true, true_and]; omega)) ?_)
    by_cases h27 : bt_w (M 1 d) = 27
    · rw [if_pos h27]
      have hv := h2 (by omega)
      repeat (refine And.intro (by first | omega | decide | (simp only [and_true, true_and]; omega)) ?_)
      have hd27 : wk_v d M = if bt_w (M 0 d) ≠ 0 ∨ bt_w (wk_v1 d M) ≠ 0 then 1 else 0 := by unfold wk_v; rw [if_neg (by omega), if_pos h27]
      by_cases h0 : bt_w (M 0 d) = 0
      · rw [if_pos h0]
        by_cases hv0 : bt_w v = 0
        · rw [if_pos hv0]
          refine l136 0 ?_
          rw [hd27, if_neg]
          rw [← hv]
          omega
        · rw [if_neg hv0]
          refine l136 1 ?_
          rw [hd27, if_pos]
          rw [← hv]
          exact Or.inr hv0
      · rw [if_neg h0]
        refine l136 1 ?_
        rw [hd27, if_pos (Or.inl h0)]
    · rw [if_neg h27]
      refine l136 v ?_
      by_cases h26 : bt_w (M 1 d) = 26
      · exact h1 h26
      · rw [h2 h26]
        unfold wk_v
        rw [if_neg h26, if_neg h27]
  have l76 : tX11_tests_76 SpX11_sums bt_k0 Q [] [some (.inr (.inr 205)), some (.inl (d : Int)), some (.inl (wk_v1 d M))] (bt_wd ρ μ1) := by
    simp (disch := omega) only [tX11_tests_76, tX11_tests_104, tX11_tests_105, bt_ald, bt_gfR, bt_ild, bt_ial, bt_ix, bt_ic, bt_icmpne, bt_ifne, bt_ifeq, bt_ist, bt_nl, bt_loc, bt_locs, List.getElem?_cons_zero, List.getElem?_cons_succ, List.set_cons_zero, List.set_cons_succ, List.map_cons, List.map_nil, List.take_succ_cons, List.take_zero, List.drop_succ_cons, List.drop_zero, List.reverse_cons, List.reverse_nil, List.nil_append, List.cons_append, List.append_nil, List.length_cons, List.length_nil, List.replicate_succ, List.replicate_zero, Option.toList_some, Option.toList_none, Nat.reduceAdd, Nat.reduceSub, Nat.reduceLeDiff, Nat.zero_add, Nat.zero_le, true_and, and_true, Int.toNat_natCast, Sum.inl.injEq, Sum.inr.injEq, ↓reduceIte, Nat.reduceEqDiff, hρ 205 _ (by decide), rf_205_2, rf_205_10, rf_205_11, rf_205_12, rf_205_13, rf_205_14, rf_205_15, rf_205_16, rf_205_17, rf_205_18, rf_205_19, rf_205_20, rf_205_21, rf_205_22, rf_205_23, rf_205_24, rf_205_28, rf_205_29, rf_205_30, rf_205_31, rf_205_32, rf_205_33, rf_205_34, rf_205_35, rf_205_36, rf_205_37, rf_205_38, rf_205_39, rf_205_42, rf_205_43, rf_205_44, rf_205_45, rf_205_46, rf_205_47, rf_205_48, rf_205_49, rf_205_50, rf_205_51, rf_205_52, rf_205_53, rf_205_55, rf_205_56, rf_205_57, rf_205_58, rf_205_59, rf_205_60, rf_205_61, rf_205_62, rf_205_63, rf_205_66, rf_205_67, rf_205_68, rf_205_70, rf_205_71, rf_205_72, sh_205, sh_206, sh_207, sh_208, sh_209, sh_210, sh_211, sh_212, sh_213, sh_214, sh_215, sh_216, sh_217, sh_218, sh_219, sh_220, sh_221, sh_222, sh_223, sh_224, sh_225, sh_226, sh_227, sh_228, sh_229, sh_230, sh_231, sh_232, sh_233, sh_234, sh_235, sh_236, sh_237, sh_238, sh_239, sh_240, sh_241, sh_242, sh_243, sh_244, sh_245, sh_246, sh_247, sh_248, sh_249, sh_250, sh_251, sh_252, sh_253, sh_254, sh_255, sh_256, sh_257, sh_258, sh_259, sh_260, bt_w_id, k0, k1]
    repeat (refine And.intro (by first | omega | decide | (simp only [and_true, true_and]; omega)) ?_)
    by_cases h26 : bt_w (M 1 d) = 26
    · rw [if_pos h26]
      repeat (refine And.intro (by first | omega | decide | (simp only [and_true, true_and]; omega)) ?_)
      have hd26 : wk_v d M = if bt_w (M 0 d) ≠ 0 ∧ bt_w (wk_v1 d M) ≠ 0 then 1 else 0 := by unfold wk_v; rw [if_pos h26]
      by_cases h0 : bt_w (M 0 d) = 0
      · rw [if_pos h0]
        exact l106 0 (fun _ => by rw [hd26, if_neg (fun q => q.1 h0)]) (fun q => absurd h26 q)
      · rw [if_neg h0]
        by_cases hv0 : bt_w (wk_v1 d M) = 0
        · rw [if_pos hv0]
          exact l106 0 (fun _ => by rw [hd26, if_neg (fun q => q.2 hv0)]) (fun q => absurd h26 q)
        · rw [if_neg hv0]
          exact l106 1 (fun _ => by rw [hd26, if_pos ⟨h0, hv0⟩]) (fun q => absurd h26 q)
    · rw [if_neg h26]
      exact l106 _ (fun q => absurd q h26) (fun _ => rfl)
  have l44 : ∀ v, (bt_w (M 3 d) = 24 → v = wk_v1 d M) → (bt_w (M 3 d) ≠ 24 → v = wk_sv d M) → tX11_tests_44 SpX11_sums bt_k0 Q [] [some (.inr (.inr 205)), some (.inl (d : Int)), some (.inl v)] (bt_wd ρ μ1) := fun v h1 h2 => by
    simp (disch := omega) only [tX11_tests_44, tX11_tests_75, bt_ald, bt_gfR, bt_ild, bt_ial, bt_ix, bt_ic, bt_icmpne, bt_ist, bt_nl, bt_loc, bt_locs, List.getElem?_cons_zero, List.getElem?_cons_succ, List.set_cons_zero, List.set_cons_succ, List.map_cons, List.map_nil, List.take_succ_cons, List.take_zero, List.drop_succ_cons, List.drop_zero, List.reverse_cons, List.reverse_nil, List.nil_append, List.cons_append, List.append_nil, List.length_cons, List.length_nil, List.replicate_succ, List.replicate_zero, Option.toList_some, Option.toList_none, Nat.reduceAdd, Nat.reduceSub, Nat.reduceLeDiff, Nat.zero_add, Nat.zero_le, true_and, and_true, Int.toNat_natCast, Sum.inl.injEq, Sum.inr.injEq, ↓reduceIte, Nat.reduceEqDiff, hρ 205 _ (by decide), rf_205_2, rf_205_10, rf_205_11, rf_205_12, rf_205_13, rf_205_14, rf_205_15, rf_205_16, rf_205_17, rf_205_18, rf_205_19, rf_205_20, rf_205_21, rf_205_22, rf_205_23, rf_205_24, rf_205_28, rf_205_29, rf_205_30, rf_205_31, rf_205_32, rf_205_33, rf_205_34, rf_205_35, rf_205_36, rf_205_37, rf_205_38, rf_205_39, rf_205_42, rf_205_43, rf_205_44, rf_205_45, rf_205_46, rf_205_47, rf_205_48, rf_205_49, rf_205_50, rf_205_51, rf_205_52, rf_205_53, rf_205_55, rf_205_56, rf_205_57, rf_205_58, rf_205_59, rf_205_60, rf_205_61, rf_205_62, rf_205_63, rf_205_66, rf_205_67, rf_205_68, rf_205_70, rf_205_71, rf_205_72, sh_205, sh_206, sh_207, sh_208, sh_209, sh_210, sh_211, sh_212, sh_213, sh_214, sh_215, sh_216, sh_217, sh_218, sh_219, sh_220, sh_221, sh_222, sh_223, sh_224, sh_225, sh_226, sh_227, sh_228, sh_229, sh_230, sh_231, sh_232, sh_233, sh_234, sh_235, sh_236, sh_237, sh_238, sh_239, sh_240, sh_241, sh_242, sh_243, sh_244, sh_245, sh_246, sh_247, sh_248, sh_249, sh_250, sh_251, sh_252, sh_253, sh_254, sh_255, sh_256, sh_257, sh_258, sh_259, sh_260, bt_w_id, k2, k3, k4]
    repeat (refine And.intro (by first | omega | decide | (simp only [and_true, true_and]; omega)) ?_)
    by_cases h25 : bt_w (M 3 d) = 25
    · rw [if_pos h25]
      repeat (refine And.intro (by first | omega | decide | (simp only [and_true, true_and]; omega)) ?_)
      have hd25 : wk_v1 d M = if bt_w (M 2 d) = bt_w (wk_sv d M) then 1 else 0 := by unfold wk_v1; rw [if_neg (by omega), if_pos h25]
      by_cases he : bt_w (M 2 d) = bt_w (wk_sv d M)
      · rw [if_pos he]
        rw [if_pos he] at hd25
        rw [hd25] at l76
        exact l76
      · rw [if_neg he]
        rw [if_neg he] at hd25
        rw [hd25] at l76
        exact l76
    · rw [if_neg h25]
      by_cases h24 : bt_w (M 3 d) = 24
      · rw [h1 h24]; exact l76
      · have : wk_v1 d M = v := by rw [h2 h24]; unfold wk_v1; rw [if_neg h24, if_neg h25]
        rw [this] at l76
        exact l76
  simp (disch := omega) only [bt_ret, tX11_tests_43, bt_ald, bt_gfR, bt_ild, bt_ial, bt_ix, bt_ic, bt_icmpne, bt_icmpge, bt_ist, bt_nl, bt_loc, bt_locs, List.getElem?_cons_zero, List.getElem?_cons_succ, List.set_cons_zero, List.set_cons_succ, List.map_cons, List.map_nil, List.take_succ_cons, List.take_zero, List.drop_succ_cons, List.drop_zero, List.reverse_cons, List.reverse_nil, List.nil_append, List.cons_append, List.append_nil, List.length_cons, List.length_nil, List.replicate_succ, List.replicate_zero, Option.toList_some, Option.toList_none, Nat.reduceAdd, Nat.reduceSub, Nat.reduceLeDiff, Nat.zero_add, Nat.zero_le, true_and, and_true, Int.toNat_natCast, Sum.inl.injEq, Sum.inr.injEq, ↓reduceIte, Nat.reduceEqDiff, hρ 205 _ (by decide), rf_205_2, rf_205_10, rf_205_11, rf_205_12, rf_205_13, rf_205_14, rf_205_15, rf_205_16, rf_205_17, rf_205_18, rf_205_19, rf_205_20, rf_205_21, rf_205_22, rf_205_23, rf_205_24, rf_205_28, rf_205_29, rf_205_30, rf_205_31, rf_205_32, rf_205_33, rf_205_34, rf_205_35, rf_205_36, rf_205_37, rf_205_38, rf_205_39, rf_205_42, rf_205_43, rf_205_44, rf_205_45, rf_205_46, rf_205_47, rf_205_48, rf_205_49, rf_205_50, rf_205_51, rf_205_52, rf_205_53, rf_205_55, rf_205_56, rf_205_57, rf_205_58, rf_205_59, rf_205_60, rf_205_61, rf_205_62, rf_205_63, rf_205_66, rf_205_67, rf_205_68, rf_205_70, rf_205_71, rf_205_72, sh_205, sh_206, sh_207, sh_208, sh_209, sh_210, sh_211, sh_212, sh_213, sh_214, sh_215, sh_216, sh_217, sh_218, sh_219, sh_220, sh_221, sh_222, sh_223, sh_224, sh_225, sh_226, sh_227, sh_228, sh_229, sh_230, sh_231, sh_232, sh_233, sh_234, sh_235, sh_236, sh_237, sh_238, sh_239, sh_240, sh_241, sh_242, sh_243, sh_244, sh_245, sh_246, sh_247, sh_248, sh_249, sh_250, sh_251, sh_252, sh_253, sh_254, sh_255, sh_256, sh_257, sh_258, sh_259, sh_260, bt_w_id, k2, k3, k4]
  repeat (refine And.intro (by first | omega | decide | (simp only [and_true, true_and]; omega)) ?_)
  by_cases h24 : bt_w (M 3 d) = 24
  · rw [if_pos h24]
    repeat (refine And.intro (by first | omega | decide | (simp only [and_true, true_and]; omega)) ?_)
    have hd24 : wk_v1 d M = if bt_w (M 2 d) < bt_w (wk_sv d M) then 1 else 0 := by unfold wk_v1; rw [if_pos h24]
    by_cases he : bt_w (M 2 d) < bt_w (wk_sv d M)
    · rw [if_neg (by omega)]
      exact l44 1 (fun _ => by rw [hd24, if_pos he]) (fun q => absurd h24 q)
    · rw [if_pos (by omega)]
      exact l44 0 (fun _ => by rw [hd24, if_neg he]) (fun q => absurd h24 q)
  · rw [if_neg h24]
    exact l44 _ (fun q => absurd q h24) (fun _ => rfl)
theorem wk_dl_d : ∀ d v M, (wk_dl d v M).1 ≤ d
  | 0, v, M => Nat.le_refl _
  | d + 1, v, M => by
    unfold wk_dl
    split
    · exact Nat.le_trans (wk_dl_d d _ M) (Nat.le_succ d)
    · exact Nat.le_refl _
theorem wk_r_s {F cd : Nat → Int} {n i : Nat} {q G : wk_Q} (h : wk_r F cd (n + 1) i q = some G) : ∃ q', wk_1 F (cd i) q = some q' ∧ wk_r F cd n (i + 1) q' = some G := by
  unfold wk_r at h
  split at h
  · cases h
  · next q' hq => exact ⟨q', hq, h⟩
theorem wk_1_c {F : Nat → Int} {c : Int} {q q' : wk_Q} (h : wk_1 F c q = some q') : c = 28 ∨ c = 30 ∨ c = 20 ∨ c = 21 ∨ c = 22 ∨ c = 24 ∨ c = 25 ∨ c = 26 ∨ c = 27 ∨ c = 29 ∨ (100 ≤ c ∧ c ≤ 20000) ∨ (1 ≤ c ∧ c ≤ 5) := by
  apply Classical.byContradiction
  intro hn
  unfold wk_1 at h
  rw [if_neg (by omega), if_neg (by omega), if_neg (by omega), if_neg (by omega), if_neg (by omega), if_neg (by omega), if_neg (by omega), if_neg (by omega)] at h
  cases h
