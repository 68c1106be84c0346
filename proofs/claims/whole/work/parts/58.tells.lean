/-! the class: tell, mark, feed, days, zoo -/
def an_tl (Ω : om_O) (x : Int) : Bool := decide (Ω.2.1.2.2.2.1 < 8) && (decide (x = -1) || (decide (0 ≤ x ∧ x < nP Ω.1) && decide (Ω.1 4 x.toNat ≠ 0)))
def an_ch (ζ σ : Nat → Nat → Int) (x : Int) : Nat := bt_bn (fun K => decide (ab_pick ζ σ K = x)) 16
def om_tl (Ω : om_O) (x : Int) : om_O := (Ω.1, (Ω.2.1.1, Ω.2.1.2.1, Ω.2.1.2.2.1, Ω.2.1.2.2.2.1 + 1, Ω.2.1.2.2.2.2 &&& an_ch Ω.1 Ω.2.1.1 x), Ω.2.2)
def SpX10_tell : bt_Sp := fun As w Q => ∃ (ρ : Nat → Nat → Option Nat) (μ : Nat → Nat → Int) (Ω : om_O) (x : Int), As = [.inr (.inr 0), .inl x] ∧ w = bt_wd ρ μ ∧ ci_I Ω ρ μ ∧ bt_i32 x ∧ (an_tl Ω x = true → ∀ μ', ci_I (om_tl Ω x) ρ μ' → bt_fr (fun a => a < 205) μ' μ → Q (some (.inl 1)) (bt_wd ρ μ')) ∧ (an_tl Ω x = false → Q (some (.inl 0)) (bt_wd ρ μ))
set_option maxHeartbeats 4000000 in
theorem mtX10_tell : bt_Met yX10_tell cX10_tell 2 (some .boolean) 4 [2, 0] SpX10_tell := by
  refine bt_metW (lfX10_tell mtX10_isPen (by decide) mtX1_setsChoosing (by decide)) (fun As w Q _ hS => ?_)
  obtain ⟨ρ, μ, Ω, x, rfl, rfl, hI, hx, hQ1, hQ0⟩ := hS
  obtain ⟨P, P', hR, hE, hz1, hZ', hS', hZ, hSt, hsq, ⟨⟨n0, m0⟩, ⟨n1, m1⟩, n2, m2⟩, hP1, hP2⟩ := ci_f hI
  obtain ⟨PP, PP', wR, wE, hz, ws, wM, wg, wK, wU, wT, wW⟩ := id hI
  obtain ⟨hρ, ⟨hP, hP', hPP⟩, r0, r1, r2, r3, r4, r5, r6, r7, r8, r9, r10, r11⟩ := id hR
  obtain ⟨c1, c2, c3, c4, c5, c6, c7, c8, c9, c10, c11, c12, c13, c14, c15, c16, c17, c18, c19, c20, c21, c22, c23, c24, c25⟩ := bt_zo_f P hP
  have hPP1 : PP = P := by
    have h1 := wR.2.2.2.2.2.2.2.2.1
    rw [r6] at h1
    exact (Option.some.inj h1).symm
  have hPP2 : PP' = P' := by
    have h1 := wR.2.2.2.2.2.2.2.2.2.1
    rw [r7] at h1
    exact (Option.some.inj h1).symm
  subst hPP1 hPP2
  have b2 := bt_zo2 PP' hP'
  have hx' := hx
  unfold bt_i32 at hx'
  have t1 := wM.2.2.2.1
  have t2 := wM.2.2.2.2
  have t3 := wg.2.2.2.1
  have t4 := wg.2.2.2.2
  have l41 : an_tl Ω x = true → tX10_tell_41 SpX10_isPen SpX1_setsChoosing bt_k0 Q [] [some (.inr (.inr 0)), some (.inl x)] (bt_wd ρ μ) := fun hk => by
    have t8 : Ω.2.1.2.2.2.1 < 8 := by
      unfold an_tl at hk
      simp only [Bool.and_eq_true, decide_eq_true_eq] at hk
      exact hk.1
    simp (disch := omega) only [tX10_tell_41, bt_ald, bt_gfR, bt_gfI, bt_dup, bt_ild, bt_cV, bt_sig, bt_tg, bt_loc, bt_locs, List.getElem?_cons_zero, List.getElem?_cons_succ, List.set_cons_zero, List.set_cons_succ, List.map_cons, List.map_nil, List.take_succ_cons, List.take_zero, List.drop_succ_cons, List.drop_zero, List.reverse_cons, List.reverse_nil, List.nil_append, List.cons_append, List.append_nil, List.length_cons, List.length_nil, List.replicate_succ, List.replicate_zero, Option.toList_some, Option.toList_none, Nat.reduceAdd, Nat.reduceSub, Nat.reduceLeDiff, Nat.zero_add, Nat.zero_le, true_and, and_true, Int.toNat_natCast, Sum.inl.injEq, Sum.inr.injEq, ↓reduceIte, Nat.reduceEqDiff, r2, r6, r8, sh_0, sh_10, sh_105, hρ 105 _ (by decide), rf_105_0]
    repeat (refine And.intro (by first | omega | decide | (simp only [and_true, true_and]; omega)) ?_)
    refine ⟨ρ, μ, 10, PP, 106, x, rfl, rfl, hρ, bt_m136.2.2.1, hP, bt_m136.2.1, hZ', hS', fun μ2 f2 => ?_⟩
    have ech : bt_bn (fun K => decide (ab_pick (bt_vw μ PP) (bt_vw μ 106) K = bt_w x)) 16 = an_ch Ω.1 Ω.2.1.1 x := bt_bn_congr (fun K _ => by rw [ab_cpick hz1 hsq hZ hSt K, bt_w_id hx'.1 hx'.2])
    rw [ech]
    have s105 : μ2 105 = μ 105 := f2 105 (by omega)
    have s4 : μ 105 4 = (Ω.2.1.2.2.2.2 : Int) := t2
    have s3 : μ 105 3 = (Ω.2.1.2.2.2.1 : Int) := t1
    have c3 : bt_up μ2 105 4 ((Ω.2.1.2.2.2.2 &&& an_ch Ω.1 Ω.2.1.1 x : Nat) : Int) 105 3 = (Ω.2.1.2.2.2.1 : Int) := by rw [bt_up_ix (by decide), s105]; exact s3
    rw [s4]
    simp (disch := omega) only [bt_ild, bt_lld, bt_ald, bt_ist, bt_lst, bt_ast, bt_inc, bt_ic, bt_lc, bt_iadd, bt_isub, bt_imul, bt_iand, bt_ior, bt_ixor, bt_ishl, bt_ishr, bt_iushr, bt_ladd, bt_lsub, bt_lmul, bt_land, bt_lor, bt_lushr, bt_lshl, bt_idiv, bt_irem, bt_ldiv, bt_lrem, bt_lcmp, bt_i2l, bt_l2i, bt_i2b, bt_pop, bt_dup, bt_dup2, bt_gfI, bt_gfJ, bt_gfR, bt_pfI, bt_pfZ, bt_pfJ, bt_pfR, bt_ial, bt_bal, bt_zal, bt_lal, bt_aal, bt_ias, bt_bas, bt_zas, bt_las, bt_len, bt_iret, bt_zret, bt_lret, bt_vret, bt_cV, bt_cS, bt_tab, bt_tsw, bt_lk, bt_lsw, bt_acp, bt_mmax, bt_mmin, bt_can, bt_icmpeq, bt_ifeq, bt_icmpne, bt_ifne, bt_icmplt, bt_iflt, bt_icmpge, bt_ifge, bt_icmpgt, bt_ifgt, bt_icmple, bt_ifle, bt_ret, bt_kill, bt_kl, bt_ix, bt_nl, bt_sm, bt_sr, bt_sig, bt_tg, bt_loc, bt_locs, List.getElem?_cons_zero, List.getElem?_cons_succ, List.set_cons_zero, List.set_cons_succ, List.map_cons, List.map_nil, List.take_succ_cons, List.take_zero, List.drop_succ_cons, List.drop_zero, List.reverse_cons, List.reverse_nil, List.nil_append, List.cons_append, List.append_nil, List.length_cons, List.length_nil, List.replicate_succ, List.replicate_zero, Option.toList_some, Option.toList_none, Nat.reduceAdd, Nat.reduceSub, Nat.reduceLeDiff, Nat.zero_add, Nat.zero_le, true_and, and_true, Int.toNat_natCast, Sum.inl.injEq, Sum.inr.injEq, ↓reduceIte, Nat.reduceEqDiff, bo_iand_nat (Or.inl (show Ω.2.1.2.2.2.2 < 2 ^ 31 by omega)), r8, sh_0, sh_105, c3]
    repeat (refine And.intro (by first | omega | decide | (simp only [and_true, true_and]; omega)) ?_)
    first | refine ⟨by simp, hQ1 hk _ ?_ (fun a ha => ?_)⟩ | refine hQ1 hk _ ?_ (fun a ha => ?_)
    · generalize hμ4 : bt_up (bt_up μ2 105 4 ((Ω.2.1.2.2.2.2 &&& an_ch Ω.1 Ω.2.1.1 x : Nat) : Int)) 105 3 ((Ω.2.1.2.2.2.1 : Int) + 1) = μ4
      have g4 : ∀ a, a ≠ 105 → ¬ (10 ≤ a ∧ a ≤ 18) → μ4 a = μ a := fun a h1 h2 => by rw [← hμ4, bt_up_cell h1, bt_up_cell h1, f2 a (by omega)]
      refine ⟨PP, PP', hR, fun j hj => ?_, hz, ⟨?_, ?_⟩, ⟨bt_vwc (fun j hj => g4 _ (by omega) (by omega)) _ _ wM.1, ?_, fun i hi => ?_, ?_, ?_⟩, ⟨wg.1, wg.2.1, wg.2.2.1, by show Ω.2.1.2.2.2.1 + 1 ≤ 8; omega, Nat.lt_of_le_of_lt Nat.and_le_left t4⟩, fun i hi => (wK i hi).fr (fun a h1 h2 => g4 a (by omega) (by omega)), wU.fr (g4 0 (by omega) (by omega)) (fun a h1 h2 => g4 a (by omega) (by omega)), wT.fr (by rw [g4 1 (by omega) (by omega)]) (g4 2 (by omega) (by omega)) (g4 3 (by omega) (by omega)), wW.fr (g4 19 (by omega) (by omega)) (g4 33 (by omega) (by omega))⟩
      · rw [g4 _ (by omega) (by omega)]; exact wE j hj
      · rw [g4 _ (by omega) (by omega)]; exact ws.1
      · rw [g4 _ (by omega) (by omega)]; exact ws.2
      · rw [← hμ4, bt_up_ix (by decide), bt_up_ix (by decide), s105]; exact wM.2.1
      · rw [g4 _ (by omega) (by omega)]; exact wM.2.2.1 i hi
      · rw [← hμ4, bt_up_same]; rfl
      · rw [← hμ4, bt_up_ix (by decide), bt_up_same]; rfl
    · rw [bt_up_cell (by omega), bt_up_cell (by omega), f2 a (by omega)]
  simp (disch := omega) only [tX10_tell_0, tX10_tell_39, bt_ald, bt_gfR, bt_gfI, bt_ild, bt_ic, bt_icmplt, bt_icmpeq, bt_zret, bt_cV, bt_sig, bt_tg, bt_loc, bt_locs, List.getElem?_cons_zero, List.getElem?_cons_succ, List.set_cons_zero, List.set_cons_succ, List.map_cons, List.map_nil, List.take_succ_cons, List.take_zero, List.drop_succ_cons, List.drop_zero, List.reverse_cons, List.reverse_nil, List.nil_append, List.cons_append, List.append_nil, List.length_cons, List.length_nil, List.replicate_succ, List.replicate_zero, Option.toList_some, Option.toList_none, Nat.reduceAdd, Nat.reduceSub, Nat.reduceLeDiff, Nat.zero_add, Nat.zero_le, true_and, and_true, Int.toNat_natCast, Sum.inl.injEq, Sum.inr.injEq, ↓reduceIte, Nat.reduceEqDiff, r8, sh_0, sh_105, bt_w_id, t1]
  repeat (refine And.intro (by first | omega | decide | (simp only [and_true, true_and]; omega)) ?_)
  by_cases h8 : Ω.2.1.2.2.2.1 < 8
  · rw [if_pos (by omega)]
    by_cases h1 : x = -1
    · rw [if_pos h1]
      exact l41 (by unfold an_tl; simp [h8, h1])
    · rw [if_neg h1]
      repeat (refine And.intro (by first | omega | decide | (simp only [and_true, true_and]; omega)) ?_)
      refine is_call (n := nP Ω.1) (k := 0) hR n0 m0 hx _ (Or.inl ⟨rfl, rfl⟩) ?_
      by_cases h2 : 0 ≤ x ∧ x < (nP Ω.1 : Int)
      · rw [if_pos h2]
        obtain ⟨p, hp⟩ : ∃ k : Nat, x = (k : Int) := ⟨x.toNat, by omega⟩
        have hp6 : p < nP Ω.1 := by omega
        have e4 : μ (PP + 4) p = Ω.1 4 p := congrFun (hE 4 (by decide)) p
        have h9 := hZ.2.2.2.1 p hp6
        simp (disch := omega) only [bt_ret, bt_ifeq, bt_ifne, bt_ald, bt_gfR, bt_ild, bt_ial, bt_ix, bt_ic, bt_zret, bt_loc, bt_locs, List.getElem?_cons_zero, List.getElem?_cons_succ, List.set_cons_zero, List.set_cons_succ, List.map_cons, List.map_nil, List.take_succ_cons, List.take_zero, List.drop_succ_cons, List.drop_zero, List.reverse_cons, List.reverse_nil, List.nil_append, List.cons_append, List.append_nil, List.length_cons, List.length_nil, List.replicate_succ, List.replicate_zero, Option.toList_some, Option.toList_none, Nat.reduceAdd, Nat.reduceSub, Nat.reduceLeDiff, Nat.zero_add, Nat.zero_le, true_and, and_true, Int.toNat_natCast, Sum.inl.injEq, Sum.inr.injEq, ↓reduceIte, Nat.reduceEqDiff, bt_w_id, Int.reduceEq, r6, sh_0, hρ PP _ c2, c3, c4, c5, c6, c7, c8, c9, c10, c11, c12, c13, c14, c15, c16, c17, c18, c19, c20, c21, c22, c23, c24]
        repeat (refine And.intro (by first | omega | decide | (simp only [and_true, true_and]; omega)) ?_)
        have xt : x.toNat = p := by omega
        rw [xt, e4, bt_w_id (by omega) (by omega)]
        by_cases h3 : Ω.1 4 p = 0
        · rw [if_pos h3]
          first | exact ⟨by simp, hQ0 (by unfold an_tl; rw [xt]; simp [h1, h3])⟩ | exact hQ0 (by unfold an_tl; rw [xt]; simp [h1, h3])
        · rw [if_neg h3]
          exact l41 (by unfold an_tl; rw [xt]; simp [h8, h2, h3])
      · rw [if_neg h2]
        simp (disch := omega) only [bt_ret, bt_ifeq, bt_ic, bt_zret, bt_loc, bt_locs, List.getElem?_cons_zero, List.getElem?_cons_succ, List.set_cons_zero, List.set_cons_succ, List.map_cons, List.map_nil, List.take_succ_cons, List.take_zero, List.drop_succ_cons, List.drop_zero, List.reverse_cons, List.reverse_nil, List.nil_append, List.cons_append, List.append_nil, List.length_cons, List.length_nil, List.replicate_succ, List.replicate_zero, Option.toList_some, Option.toList_none, Nat.reduceAdd, Nat.reduceSub, Nat.reduceLeDiff, Nat.zero_add, Nat.zero_le, true_and, and_true, Int.toNat_natCast, Sum.inl.injEq, Sum.inr.injEq, ↓reduceIte, Nat.reduceEqDiff, bt_w_id]
        first | exact ⟨by simp, hQ0 (by unfold an_tl; rw [decide_eq_false h1, decide_eq_false h2]; simp)⟩ | exact hQ0 (by unfold an_tl; rw [decide_eq_false h1, decide_eq_false h2]; simp)
  · rw [if_neg (by omega)]
    first | exact ⟨by simp, hQ0 (by unfold an_tl; rw [decide_eq_false h8]; rfl)⟩ | exact hQ0 (by unfold an_tl; rw [decide_eq_false h8]; rfl)
theorem bt_mkf : ∀ k, k < 4 → bt_rf0 111 k = some (112 + 6 * k) ∧ (112 + 6 * k) ∈ bt_mes ∧ bt_sh0 (112 + 6 * k) = (2, 6) := by decide
theorem ab_eqS_sq {ζ σ μ' μ : Nat → Nat → Int} {t s : Nat} (hZ : ab_Z ζ) (he : bt_eqS μ' t μ s) (h : ab_sq ζ σ (bt_vw μ s)) : ab_sq ζ σ (bt_vw μ' t) := h.tr (ab_sq.cp hZ he).sy
def om_mk (Ω : om_O) (k : Nat) : om_O := (Ω.1, Ω.2.1, (fun i => if i = k then some Ω.2.1 else Ω.2.2.1 i), Ω.2.2.2)
def om_bk (Ω : om_O) (M : om_M) : om_O := (Ω.1, M, Ω.2.2.1, (0, Ω.2.2.2.1.2), Ω.2.2.2.2)
def SpX10_mark : bt_Sp := fun As w Q => ∃ (ρ : Nat → Nat → Option Nat) (μ : Nat → Nat → Int) (Ω : om_O) (x v : Int), As = [.inr (.inr 0), .inl x, .inl v] ∧ w = bt_wd ρ μ ∧ ci_I Ω ρ μ ∧ bt_i32 x ∧ (v = 0 ∨ v = 1) ∧ (¬ (0 ≤ x ∧ x < 4) ∨ (v = 1 ∧ Ω.2.2.1 x.toNat = none) → Q (some (.inl 0)) (bt_wd ρ μ)) ∧ (∀ (k : Nat) M, x = (k : Int) → k < 4 → v = 1 → Ω.2.2.1 k = some M → ∀ μ', ci_I (om_bk Ω M) ρ μ' → bt_fr (fun a => a < 205) μ' μ → Q (some (.inl 1)) (bt_wd ρ μ')) ∧ (∀ (k : Nat), x = (k : Int) → k < 4 → v = 0 → ∀ μ', ci_I (om_mk Ω k) ρ μ' → bt_fr (fun a => a < 205) μ' μ → Q (some (.inl 1)) (bt_wd ρ μ'))
set_option maxHeartbeats 4000000 in
theorem mtX10_mark : bt_Met yX10_mark cX10_mark 3 (some .boolean) 3 [2, 0, 0] SpX10_mark := by
  refine bt_metW (lfX10_mark mtX2_copy (by decide)) (fun As w Q _ hS => ?_)
  obtain ⟨ρ, μ, Ω, x, v, rfl, rfl, hI, hx, hv, hQ0, hQb, hQl⟩ := hS
  obtain ⟨P, P', hR, hE, hz, hs, hM, hg, hK, hU, hT, hW⟩ := id hI
  obtain ⟨hρ, ⟨hP, hP', hPP⟩, r0, r1, r2, r3, r4, r5, r6, r7, r8, r9, r10, r11⟩ := id hR
  have hZ := hz.1
  have b1 := bt_zo2 P hP
  have b2 := bt_zo2 P' hP'
  unfold bt_i32 at hx
  simp (disch := omega) only [tX10_mark_0, tX10_mark_25, bt_ild, bt_ic, bt_iflt, bt_icmpge, bt_ifeq, bt_ifne, bt_zret, bt_ald, bt_gfR, bt_gfI, bt_aal, bt_ix, bt_loc, bt_locs, List.getElem?_cons_zero, List.getElem?_cons_succ, List.set_cons_zero, List.set_cons_succ, List.map_cons, List.map_nil, List.take_succ_cons, List.take_zero, List.drop_succ_cons, List.drop_zero, List.reverse_cons, List.reverse_nil, List.nil_append, List.cons_append, List.append_nil, List.length_cons, List.length_nil, List.replicate_succ, List.replicate_zero, Option.toList_some, Option.toList_none, Nat.reduceAdd, Nat.reduceSub, Nat.reduceLeDiff, Nat.zero_add, Nat.zero_le, true_and, and_true, Int.toNat_natCast, Sum.inl.injEq, Sum.inr.injEq, ↓reduceIte, Nat.reduceEqDiff, bt_w_id, r9, sh_0, sh_111, hρ 111 _ (by decide)]
  by_cases h1 : x < 0
  · rw [if_pos h1]
    first | exact ⟨by simp, hQ0 (Or.inl (by omega))⟩ | exact hQ0 (Or.inl (by omega))
  rw [if_neg h1]
  by_cases h2 : 4 ≤ x
  · rw [if_pos h2]
    first | exact ⟨by simp, hQ0 (Or.inl (by omega))⟩ | exact hQ0 (Or.inl (by omega))
  rw [if_neg h2]
  obtain ⟨k, rfl⟩ : ∃ k : Nat, x = (k : Int) := ⟨x.toNat, by omega⟩
  have hk4 : k < 4 := by omega
  obtain ⟨p1, p2, p3⟩ := bt_mkf k hk4
  simp only [Int.toNat_natCast] at hQ0
  have hKk := hK k hk4
  rcases hv with rfl | rfl
  · rw [if_pos rfl]
    simp (disch := omega) only [tX10_mark_27, tX10_mark_83, bt_ild, bt_ifeq, bt_ald, bt_gfR, bt_aal, bt_ix, bt_cV, bt_sig, bt_tg, bt_loc, bt_locs, List.getElem?_cons_zero, List.getElem?_cons_succ, List.set_cons_zero, List.set_cons_succ, List.map_cons, List.map_nil, List.take_succ_cons, List.take_zero, List.drop_succ_cons, List.drop_zero, List.reverse_cons, List.reverse_nil, List.nil_append, List.cons_append, List.append_nil, List.length_cons, List.length_nil, List.replicate_succ, List.replicate_zero, Option.toList_some, Option.toList_none, Nat.reduceAdd, Nat.reduceSub, Nat.reduceLeDiff, Nat.zero_add, Nat.zero_le, true_and, and_true, Int.toNat_natCast, Sum.inl.injEq, Sum.inr.injEq, ↓reduceIte, Nat.reduceEqDiff, bt_w_id, Int.toNat_natCast, r8, r9, sh_0, sh_111, hρ 111 _ (by decide), p1, p3]
    try rw [if_pos rfl]
    repeat (refine And.intro (by first | omega | decide | (simp only [and_true, true_and]; omega)) ?_)
    have hne : (112 + 6 * k) ≠ 105 := by omega
    refine ⟨ρ, μ, 112 + 6 * k, 105, rfl, rfl, hρ, p2, bt_m136.2.2.2, hne, fun μ2 he h40 ⟨y2, y3, y4, y5⟩ f2 => ?_⟩
    simp (disch := omega) only [bt_ild, bt_lld, bt_ald, bt_ist, bt_lst, bt_ast, bt_inc, bt_ic, bt_lc, bt_iadd, bt_isub, bt_imul, bt_iand, bt_ior, bt_ixor, bt_ishl, bt_ishr, bt_iushr, bt_ladd, bt_lsub, bt_lmul, bt_land, bt_lor, bt_lushr, bt_lshl, bt_idiv, bt_irem, bt_ldiv, bt_lrem, bt_lcmp, bt_i2l, bt_l2i, bt_i2b, bt_pop, bt_dup, bt_dup2, bt_gfI, bt_gfJ, bt_gfR, bt_pfI, bt_pfZ, bt_pfJ, bt_pfR, bt_ial, bt_bal, bt_zal, bt_lal, bt_aal, bt_ias, bt_bas, bt_zas, bt_las, bt_len, bt_iret, bt_zret, bt_lret, bt_vret, bt_cV, bt_cS, bt_tab, bt_tsw, bt_lk, bt_lsw, bt_acp, bt_mmax, bt_mmin, bt_can, bt_icmpeq, bt_ifeq, bt_icmpne, bt_ifne, bt_icmplt, bt_iflt, bt_icmpge, bt_ifge, bt_icmpgt, bt_ifgt, bt_icmple, bt_ifle, bt_ret, bt_kill, bt_kl, bt_ix, bt_nl, bt_sm, bt_sr, bt_sig, bt_tg, bt_loc, bt_locs, List.getElem?_cons_zero, List.getElem?_cons_succ, List.set_cons_zero, List.set_cons_succ, List.map_cons, List.map_nil, List.take_succ_cons, List.take_zero, List.drop_succ_cons, List.drop_zero, List.reverse_cons, List.reverse_nil, List.nil_append, List.cons_append, List.append_nil, List.length_cons, List.length_nil, List.replicate_succ, List.replicate_zero, Option.toList_some, Option.toList_none, Nat.reduceAdd, Nat.reduceSub, Nat.reduceLeDiff, Nat.zero_add, Nat.zero_le, true_and, and_true, Int.toNat_natCast, Sum.inl.injEq, Sum.inr.injEq, ↓reduceIte, Nat.reduceEqDiff, bt_w_id, Int.toNat_natCast, r9, sh_0, sh_111, hρ 111 _ (by decide), p1, p3]
    repeat (refine And.intro (by first | omega | decide | (simp only [and_true, true_and]; omega)) ?_)
    first | refine ⟨by simp, hQl k rfl hk4 rfl _ ?_ (fun a ha => ?_)⟩ | refine hQl k rfl hk4 rfl _ ?_ (fun a ha => ?_)
    · generalize hμ4 : bt_up μ2 (112 + 6 * k) 5 1 = μ4
      have g4 : ∀ a, ¬ (112 + 6 * k ≤ a ∧ a ≤ 117 + 6 * k) → μ4 a = μ a := fun a h => by rw [← hμ4, bt_up_cell (by omega), f2 a (by omega)]
      refine ⟨P, P', hR, fun j hj => ?_, hz, ⟨?_, ?_⟩, hM.fr (fun a h1 h2 => g4 a (by omega)), hg, fun i hi => ?_, hU.fr (g4 0 (by omega)) (fun a h1 h2 => g4 a (by omega)), hT.fr (by rw [g4 1 (by omega)]) (g4 2 (by omega)) (g4 3 (by omega)), hW.fr (g4 19 (by omega)) (g4 33 (by omega))⟩
      · rw [g4 _ (by omega)]; exact hE j hj
      · rw [g4 _ (by omega)]; exact hs.1
      · rw [g4 _ (by omega)]; exact hs.2
      · show ci_K μ4 Ω.1 (112 + 6 * i) (if i = k then some Ω.2.1 else Ω.2.2.1 i)
        by_cases hik : i = k
        · subst hik
          rw [if_pos rfl]
          refine ⟨by rw [← hμ4]; exact bt_up_same _ _ _ _, ⟨?_, ?_, fun j hj => ?_, ?_, ?_⟩, hg⟩
          · refine bt_vwc (μ := μ2) (fun j hj => by rw [← hμ4, bt_up_cell (by omega)]) _ _ ?_
            exact ab_eqS_sq hZ he hM.1
          · rw [← hμ4, bt_up_ix (by decide), y2]; exact hM.2.1
          · have hlc := hg.2.1
            rw [← hμ4, bt_up_cell (by omega), h40 j (by omega)]; exact hM.2.2.1 j hj
          · rw [← hμ4, bt_up_ix (by decide), y3]; exact hM.2.2.2.1
          · rw [← hμ4, bt_up_ix (by decide), y4]; exact hM.2.2.2.2
        · rw [if_neg hik]
          exact (hK i hi).fr (fun a h1 h2 => g4 a (by omega))
    · rw [bt_up_cell (by omega), f2 a (by omega)]
  · rw [if_neg (by decide)]
    simp (disch := omega) only [Int.toNat_natCast, p1, p3]
    repeat (refine And.intro (by first | omega | decide | (simp only [and_true, true_and]; omega)) ?_)
    cases hm : Ω.2.2.1 k with
    | none =>
      rw [hm] at hKk
      have h5 : μ (112 + 6 * k) 5 = 0 := hKk
      rw [if_pos (show bt_w (μ (112 + 6 * k) 5) = 0 by rw [h5]; rfl)]
      first | exact ⟨by simp, hQ0 (Or.inr ⟨rfl, hm⟩)⟩ | exact hQ0 (Or.inr ⟨rfl, hm⟩)
    | some M =>
      rw [hm] at hKk
      obtain ⟨h5, mM, mg⟩ := hKk
      rw [if_neg (show ¬ bt_w (μ (112 + 6 * k) 5) = 0 by rw [h5]; decide)]
      simp (disch := omega) only [tX10_mark_27, tX10_mark_83, bt_ild, bt_ifeq, bt_ald, bt_gfR, bt_aal, bt_ix, bt_cV, bt_sig, bt_tg, bt_loc, bt_locs, List.getElem?_cons_zero, List.getElem?_cons_succ, List.set_cons_zero, List.set_cons_succ, List.map_cons, List.map_nil, List.take_succ_cons, List.take_zero, List.drop_succ_cons, List.drop_zero, List.reverse_cons, List.reverse_nil, List.nil_append, List.cons_append, List.append_nil, List.length_cons, List.length_nil, List.replicate_succ, List.replicate_zero, Option.toList_some, Option.toList_none, Nat.reduceAdd, Nat.reduceSub, Nat.reduceLeDiff, Nat.zero_add, Nat.zero_le, true_and, and_true, Int.toNat_natCast, Sum.inl.injEq, Sum.inr.injEq, ↓reduceIte, Nat.reduceEqDiff, bt_w_id, Int.toNat_natCast, r8, r9, sh_0, sh_105, sh_111, hρ 111 _ (by decide), p1]
      try rw [if_neg (by decide)]
      repeat (refine And.intro (by first | omega | decide | (simp only [and_true, true_and]; omega)) ?_)
      refine ⟨ρ, μ, 105, 112 + 6 * k, rfl, rfl, hρ, bt_m136.2.2.2, p2, by omega, fun μ2 he h40 ⟨y2, y3, y4, y5⟩ f2 => ?_⟩
      simp (disch := omega) only [bt_ild, bt_lld, bt_ald, bt_ist, bt_lst, bt_ast, bt_inc, bt_ic, bt_lc, bt_iadd, bt_isub, bt_imul, bt_iand, bt_ior, bt_ixor, bt_ishl, bt_ishr, bt_iushr, bt_ladd, bt_lsub, bt_lmul, bt_land, bt_lor, bt_lushr, bt_lshl, bt_idiv, bt_irem, bt_ldiv, bt_lrem, bt_lcmp, bt_i2l, bt_l2i, bt_i2b, bt_pop, bt_dup, bt_dup2, bt_gfI, bt_gfJ, bt_gfR, bt_pfI, bt_pfZ, bt_pfJ, bt_pfR, bt_ial, bt_bal, bt_zal, bt_lal, bt_aal, bt_ias, bt_bas, bt_zas, bt_las, bt_len, bt_iret, bt_zret, bt_lret, bt_vret, bt_cV, bt_cS, bt_tab, bt_tsw, bt_lk, bt_lsw, bt_acp, bt_mmax, bt_mmin, bt_can, bt_icmpeq, bt_ifeq, bt_icmpne, bt_ifne, bt_icmplt, bt_iflt, bt_icmpge, bt_ifge, bt_icmpgt, bt_ifgt, bt_icmple, bt_ifle, bt_ret, bt_kill, bt_kl, bt_ix, bt_nl, bt_sm, bt_sr, bt_sig, bt_tg, bt_loc, bt_locs, List.getElem?_cons_zero, List.getElem?_cons_succ, List.set_cons_zero, List.set_cons_succ, List.map_cons, List.map_nil, List.take_succ_cons, List.take_zero, List.drop_succ_cons, List.drop_zero, List.reverse_cons, List.reverse_nil, List.nil_append, List.cons_append, List.append_nil, List.length_cons, List.length_nil, List.replicate_succ, List.replicate_zero, Option.toList_some, Option.toList_none, Nat.reduceAdd, Nat.reduceSub, Nat.reduceLeDiff, Nat.zero_add, Nat.zero_le, true_and, and_true, Int.toNat_natCast, Sum.inl.injEq, Sum.inr.injEq, ↓reduceIte, Nat.reduceEqDiff, r3, sh_0, sh_19]
      repeat (refine And.intro (by first | omega | decide | (simp only [and_true, true_and]; omega)) ?_)
      first | refine ⟨by simp, hQb k M rfl hk4 rfl hm _ ?_ (fun a ha => ?_)⟩ | refine hQb k M rfl hk4 rfl hm _ ?_ (fun a ha => ?_)
      · generalize hμ4 : bt_up (bt_up μ2 0 12 0) 19 5 0 = μ4
        have g4 : ∀ a, a ≠ 0 → a ≠ 19 → ¬ (105 ≤ a ∧ a ≤ 110) → μ4 a = μ a := fun a h0 h1 h => by rw [← hμ4, bt_up_cell h1, bt_up_cell h0, f2 a (by omega)]
        have g5 : ∀ a, a ≠ 0 → a ≠ 19 → μ4 a = μ2 a := fun a h0 h1 => by rw [← hμ4, bt_up_cell h1, bt_up_cell h0]
        obtain ⟨e, u1, u2, u3, u4, u5⟩ := hU
        refine ⟨P, P', hR, fun j hj => ?_, hz, ⟨?_, ?_⟩, ⟨?_, ?_, fun j hj => ?_, ?_, ?_⟩, mg, fun i hi => (hK i hi).fr (fun a h1 h2 => g4 a (by omega) (by omega) (by omega)), ⟨e, ?_, by show (0 : Nat) ≤ 16; omega, ?_, u4, fun i hi => absurd hi (Nat.not_lt_zero i)⟩, hT.fr (by rw [g4 1 (by omega) (by omega) (by omega)]) (g4 2 (by omega) (by omega) (by omega)) (g4 3 (by omega) (by omega) (by omega)), ?_⟩
        · rw [g4 _ (by omega) (by omega) (by omega)]; exact hE j hj
        · rw [g4 _ (by omega) (by omega) (by omega)]; exact hs.1
        · rw [g4 _ (by omega) (by omega) (by omega)]; exact hs.2
        · refine bt_vwc (μ := μ2) (fun j hj => g5 _ (by omega) (by omega)) _ _ ?_
          exact ab_eqS_sq hZ he mM.1
        · rw [g5 _ (by omega) (by omega), y2]; exact mM.2.1
        · have hlc := mg.2.1
          rw [g5 _ (by omega) (by omega), h40 j (by show j < 40; have : j < M.2.1 := hj; omega)]; exact mM.2.2.1 j hj
        · rw [g5 _ (by omega) (by omega), y3]; exact mM.2.2.2.1
        · rw [g5 _ (by omega) (by omega), y4]; exact mM.2.2.2.2
        · rw [← hμ4, bt_up_cell (by decide), bt_up_same]; rfl
        · rw [← hμ4, bt_up_cell (by decide), bt_up_ix (by decide), f2 0 (by omega)]; exact u3
        · refine ⟨?_, ?_, Or.inl (by rw [← hμ4]; exact bt_up_same _ _ _ _)⟩
          · rw [← hμ4, bt_up_ix (by decide), bt_up_cell (by decide), f2 19 (by omega)]; exact hW.1
          · rw [← hμ4, bt_up_ix (by decide), bt_up_cell (by decide), f2 19 (by omega)]; exact hW.2.1
      · rw [bt_up_cell (by omega), bt_up_cell (by omega), f2 a (by omega)]
def tp_3 (n : Nat) (t : Nat → Int) (a b c : Int) : Nat × (Nat → Int) := tp_as (tp_as (tp_as (n, t) a 8) b 8) c 8
theorem tp_ad_t {q : Nat × (Nat → Int)} {x : Int} (h : ∀ i, i < q.1 → 10 ≤ q.2 i ∧ q.2 i ≤ 126) : ∀ i, i < (tp_ad q x).1 → 10 ≤ (tp_ad q x).2 i ∧ (tp_ad q x).2 i ≤ 126 := by
  intro i hi
  unfold tp_ad at hi ⊢
  split
  next hc =>
    rw [if_pos hc] at hi
    show 10 ≤ ab_put q.2 q.1 x i ∧ ab_put q.2 q.1 x i ≤ 126
    unfold ab_put
    split
    · omega
    · exact h i (by have : i < q.1 + 1 := hi; omega)
  next hc =>
    rw [if_neg hc] at hi
    exact h i hi
theorem tp_as_t {q : Nat × (Nat → Int)} {e : Int} (h : ∀ i, i < q.1 → 10 ≤ q.2 i ∧ q.2 i ≤ 126) : ∀ k i, i < (tp_as q e k).1 → 10 ≤ (tp_as q e k).2 i ∧ (tp_as q e k).2 i ≤ 126
  | 0 => h
  | k + 1 => tp_ad_t (tp_as_t h k)
def om_fd (Ω : om_O) (q : Nat × (Nat → Int)) : om_O := (Ω.1, Ω.2.1, Ω.2.2.1, Ω.2.2.2.1, q)
def SpX10_feed : bt_Sp := fun As w Q => ∃ (ρ : Nat → Nat → Option Nat) (μ : Nat → Nat → Int) (Ω : om_O) (a b c : Int), As = [.inr (.inr 0), .inr (.inl a), .inr (.inl b), .inr (.inl c)] ∧ w = bt_wd ρ μ ∧ ci_I Ω ρ μ ∧ ∀ μ', ci_I (om_fd Ω (tp_3 Ω.2.2.2.2.1 Ω.2.2.2.2.2 a b c)) ρ μ' → bt_fr (fun a => a < 205) μ' μ → Q (some (.inl ((tp_3 Ω.2.2.2.2.1 Ω.2.2.2.2.2 a b c).1 : Int))) (bt_wd ρ μ')
set_option maxHeartbeats 4000000 in
theorem mtX10_feed : bt_Met yX10_feed cX10_feed 7 (some .int) 2 [2, 1, 1, 1] SpX10_feed := by
  refine bt_metW (lfX10_feed mtX7_addAll (by decide)) (fun As w Q _ hS => ?_)
  obtain ⟨ρ, μ, Ω, a, b, c, rfl, rfl, hI, hQ⟩ := hS
  obtain ⟨P, P', hR, hE, hz, hs, hM, hg, hK, hU, hT, hW⟩ := id hI
  obtain ⟨hρ, ⟨hP, hP', hPP⟩, r0, r1, r2, r3, r4, r5, r6, r7, r8, r9, r10, r11⟩ := id hR
  have b1 := bt_zo2 P hP
  have b2 := bt_zo2 P' hP'
  obtain ⟨t1, t2, t3, t4, t5⟩ := hT
  generalize hn : Ω.2.2.2.2.1 = n at *
  generalize ht : Ω.2.2.2.2.2 = t at *
  simp (disch := omega) only [tX10_feed_0, bt_ald, bt_gfR, bt_lld, bt_cV, bt_sig, bt_tg, bt_loc, bt_locs, List.getElem?_cons_zero, List.getElem?_cons_succ, List.set_cons_zero, List.set_cons_succ, List.map_cons, List.map_nil, List.take_succ_cons, List.take_zero, List.drop_succ_cons, List.drop_zero, List.reverse_cons, List.reverse_nil, List.nil_append, List.cons_append, List.append_nil, List.length_cons, List.length_nil, List.replicate_succ, List.replicate_zero, Option.toList_some, Option.toList_none, Nat.reduceAdd, Nat.reduceSub, Nat.reduceLeDiff, Nat.zero_add, Nat.zero_le, true_and, and_true, Int.toNat_natCast, Sum.inl.injEq, Sum.inr.injEq, ↓reduceIte, Nat.reduceEqDiff, r0, sh_0, sh_1]
  repeat (refine And.intro (by first | omega | decide | (simp only [and_true, true_and]; omega)) ?_)
  refine ⟨ρ, μ, a, n, rfl, rfl, hρ, t1, t2, fun μ1 a1 a2 a3 f1 => ?_⟩
  rw [t3] at a1 a2
  have l1 := tp_as_n (q := (n, t)) (e := a) t2 8
  simp (disch := omega) only [bt_ret, bt_ald, bt_gfR, bt_lld, bt_cV, bt_sig, bt_tg, bt_loc, bt_locs, List.getElem?_cons_zero, List.getElem?_cons_succ, List.set_cons_zero, List.set_cons_succ, List.map_cons, List.map_nil, List.take_succ_cons, List.take_zero, List.drop_succ_cons, List.drop_zero, List.reverse_cons, List.reverse_nil, List.nil_append, List.cons_append, List.append_nil, List.length_cons, List.length_nil, List.replicate_succ, List.replicate_zero, Option.toList_some, Option.toList_none, Nat.reduceAdd, Nat.reduceSub, Nat.reduceLeDiff, Nat.zero_add, Nat.zero_le, true_and, and_true, Int.toNat_natCast, Sum.inl.injEq, Sum.inr.injEq, ↓reduceIte, Nat.reduceEqDiff, r0, sh_0, sh_1]
  repeat (refine And.intro (by first | omega | decide | (simp only [and_true, true_and]; omega)) ?_)
  refine ⟨ρ, μ1, b, (tp_as (n, t) a 8).1, rfl, rfl, hρ, a1, l1, fun μ2 b1' b2' b3 f2 => ?_⟩
  rw [a2] at b1' b2'
  have l2 := tp_as_n (q := tp_as (n, t) a 8) (e := b) l1 8
  simp (disch := omega) only [bt_ret, bt_ald, bt_gfR, bt_lld, bt_cV, bt_sig, bt_tg, bt_loc, bt_locs, List.getElem?_cons_zero, List.getElem?_cons_succ, List.set_cons_zero, List.set_cons_succ, List.map_cons, List.map_nil, List.take_succ_cons, List.take_zero, List.drop_succ_cons, List.drop_zero, List.reverse_cons, List.reverse_nil, List.nil_append, List.cons_append, List.append_nil, List.length_cons, List.length_nil, List.replicate_succ, List.replicate_zero, Option.toList_some, Option.toList_none, Nat.reduceAdd, Nat.reduceSub, Nat.reduceLeDiff, Nat.zero_add, Nat.zero_le, true_and, and_true, Int.toNat_natCast, Sum.inl.injEq, Sum.inr.injEq, ↓reduceIte, Nat.reduceEqDiff, r0, sh_0, sh_1]
  repeat (refine And.intro (by first | omega | decide | (simp only [and_true, true_and]; omega)) ?_)
  refine ⟨ρ, μ2, c, (tp_as (tp_as (n, t) a 8) b 8).1, rfl, rfl, hρ, b1', l2, fun μ3 c1 c2 c3 f3 => ?_⟩
  rw [b2'] at c1 c2
  have e3 : tp_as ((tp_as (tp_as (n, t) a 8) b 8).1, (tp_as (tp_as (n, t) a 8) b 8).2) c 8 = tp_3 n t a b c := rfl
  rw [e3] at c1 c2
  have l3 : (tp_3 n t a b c).1 ≤ 1000 := tp_as_n (q := tp_as (tp_as (n, t) a 8) b 8) (e := c) l2 8
  simp (disch := omega) only [bt_ild, bt_lld, bt_ald, bt_ist, bt_lst, bt_ast, bt_inc, bt_ic, bt_lc, bt_iadd, bt_isub, bt_imul, bt_iand, bt_ior, bt_ixor, bt_ishl, bt_ishr, bt_iushr, bt_ladd, bt_lsub, bt_lmul, bt_land, bt_lor, bt_lushr, bt_lshl, bt_idiv, bt_irem, bt_ldiv, bt_lrem, bt_lcmp, bt_i2l, bt_l2i, bt_i2b, bt_pop, bt_dup, bt_dup2, bt_gfI, bt_gfJ, bt_gfR, bt_pfI, bt_pfZ, bt_pfJ, bt_pfR, bt_ial, bt_bal, bt_zal, bt_lal, bt_aal, bt_ias, bt_bas, bt_zas, bt_las, bt_len, bt_iret, bt_zret, bt_lret, bt_vret, bt_cV, bt_cS, bt_tab, bt_tsw, bt_lk, bt_lsw, bt_acp, bt_mmax, bt_mmin, bt_can, bt_icmpeq, bt_ifeq, bt_icmpne, bt_ifne, bt_icmplt, bt_iflt, bt_icmpge, bt_ifge, bt_icmpgt, bt_ifgt, bt_icmple, bt_ifle, bt_ret, bt_kill, bt_kl, bt_ix, bt_nl, bt_sm, bt_sr, bt_sig, bt_tg, bt_loc, bt_locs, List.getElem?_cons_zero, List.getElem?_cons_succ, List.set_cons_zero, List.set_cons_succ, List.map_cons, List.map_nil, List.take_succ_cons, List.take_zero, List.drop_succ_cons, List.drop_zero, List.reverse_cons, List.reverse_nil, List.nil_append, List.cons_append, List.append_nil, List.length_cons, List.length_nil, List.replicate_succ, List.replicate_zero, Option.toList_some, Option.toList_none, Nat.reduceAdd, Nat.reduceSub, Nat.reduceLeDiff, Nat.zero_add, Nat.zero_le, true_and, and_true, Int.toNat_natCast, Sum.inl.injEq, Sum.inr.injEq, ↓reduceIte, Nat.reduceEqDiff, r0, sh_0, sh_1, c1]
  repeat (refine And.intro (by first | omega | decide | (simp only [and_true, true_and]; omega)) ?_)
  refine hQ μ3 ?_ (fun a ha => by rw [f3 a (by omega), f2 a (by omega), f1 a (by omega)])
  have g : ∀ a, a ≠ 1 → a ≠ 2 → μ3 a = μ a := fun a h1 h2 => by rw [f3 a (by omega), f2 a (by omega), f1 a (by omega)]
  refine ⟨P, P', hR, fun j hj => ?_, hz, ⟨?_, ?_⟩, hM.fr (fun a h1 h2 => g a (by omega) (by omega)), hg, fun i hi => (hK i hi).fr (fun a h1 h2 => g a (by omega) (by omega)), hU.fr (g 0 (by omega) (by omega)) (fun a h1 h2 => g a (by omega) (by omega)), ⟨c1, l3, c2, tp_as_t (tp_as_t (tp_as_t t4 8) 8) 8, fun i hi => by rw [g 3 (by omega) (by omega)]; exact t5 i hi⟩, hW.fr (g 19 (by omega) (by omega)) (g 33 (by omega) (by omega))⟩
  · rw [g _ (by omega) (by omega)]; exact hE j hj
  · rw [g _ (by omega) (by omega)]; exact hs.1
  · rw [g _ (by omega) (by omega)]; exact hs.2
