/-! the class's calls that only look -/
def ci_s2 : Nat → Prop := fun a => (10 ≤ a ∧ a ≤ 18) ∨ (36 ≤ a ∧ a ≤ 74) ∨ (136 ≤ a ∧ a ≤ 139)
theorem ci_f {Ω : om_O} {ρ : Nat → Nat → Option Nat} {μ : Nat → Nat → Int} (h : ci_I Ω ρ μ) : ∃ P P' : Nat, bt_Rb ρ P P' ∧ rz_E μ P Ω.1 ∧ ab_zq Ω.1 (bt_vw μ P) ∧ ab_Z (bt_vw μ P) ∧ ab_S (bt_vw μ P) (bt_vw μ 106) ∧ ab_Z Ω.1 ∧ ab_S Ω.1 Ω.2.1.1 ∧ ab_sq Ω.1 Ω.2.1.1 (bt_vw μ 106) ∧ ((μ P 0 = (nP Ω.1 : Int) ∧ nP Ω.1 ≤ 6) ∧ (μ P 1 = (nG Ω.1 : Int) ∧ nG Ω.1 ≤ 6) ∧ μ P 2 = (nA Ω.1 : Int) ∧ nA Ω.1 ≤ 5) ∧ 75 ≤ P ∧ P + 14 < 105 := by
  obtain ⟨P, P', hR, hE, hz, hs, hM, hg, hK, hU, hT, hW⟩ := h
  have hz1 := hE.zq
  have hn := ab_Zn hz.1
  have hr := ab_rg hz.1
  have e0 : μ P = Ω.1 0 := hE 0 (by decide)
  refine ⟨P, P', hR, hE, hz1, hz1.Z hz.1, ab_sq.S hz1 hM.1 hg.1, hz.1, hg.1, hM.1, ⟨⟨?_, hr.2.2⟩, ⟨?_, hr.1⟩, ?_, hr.2.1⟩, bt_zo2 P hR.2.1.1⟩
  · rw [e0]; exact hn.2.2
  · rw [e0]; exact hn.1
  · rw [e0]; exact hn.2.1
theorem fs_call {ζ σ μ : Nat → Nat → Int} {ρ : Nat → Nat → Option Nat} {P : Nat} (hρ : bt_Rf ρ) (hP : P ∈ bt_zos) (hz1 : ab_zq ζ (bt_vw μ P)) (hZ : ab_Z ζ) (hS : ab_S ζ σ) (hsq : ab_sq ζ σ (bt_vw μ 106)) {Q : Option bt_V → bt_W → Prop} (hq : ∀ μ', (∀ a, a < nA ζ → μ' 16 a = ab_B ζ σ 1 a ∧ μ' 17 a = ab_Y ζ σ 1 a) → (∀ p : Nat, p < 6 → μ' 15 p = ((bt_bn (fun a => decide (ab_B ζ σ 1 a = (p : Int))) (nA ζ) : Nat) : Int)) → (∀ g, g < nG ζ → μ' 18 g = ab_ma ζ σ 1 g) → bt_fr (fun a => 10 ≤ a ∧ a ≤ 18) μ' μ → Q none (bt_wd ρ μ')) : SpX1_foresee [.inr (.inr 10), .inr (.inr P), .inr (.inr 106), .inl 1] (bt_wd ρ μ) Q := by
  have hZ' := hz1.Z hZ
  have hS' := ab_sq.S hz1 hsq hS
  have hHq := ab_Hq hZ' hS'
  obtain ⟨e1, e2, e3⟩ := hz1.n
  refine ⟨ρ, μ, 10, P, 106, _, _, _, _, _, _, _, 1, rfl, rfl, hρ, bt_m136.2.2.1, hP, bt_m136.2.1, Or.inr rfl, hHq, fun μ' hF hf => ?_⟩
  obtain ⟨f1, f2, f3, f4⟩ := hF
  refine hq μ' (fun a ha => ⟨?_, ?_⟩) (fun p hp => ?_) (fun g hg => ?_) hf
  · exact ((f1 a (by omega)).1).trans (ab_cB hz1 hsq hZ hS 1 ha).symm
  · exact ((f1 a (by omega)).2).trans (ab_cY hz1 hsq hZ hS 1 ha).symm
  · refine (f2 p hp).trans (congrArg (fun n : Nat => (n : Int)) ?_)
    rw [e2]
    refine bt_bn_congr (fun a ha => ?_)
    have h1 := ab_cB hz1 hsq hZ hS 1 (a := a) (by omega)
    rw [h1]
    rfl
  · exact (f3 g (by omega)).trans (ab_cma hz1 hsq hZ hS 1 hg).symm
def an_pen (ζ σ : Nat → Nat → Int) (x y : Int) : Int := if 0 ≤ x ∧ x < nP ζ then (if y = 0 then ζ 4 x.toNat else if y = 1 then (ab_in ζ σ x : Int) else if y = 2 then ((bt_bn (fun a => decide (ab_B ζ σ 1 a = x)) (nA ζ) : Nat) : Int) else -1) else -1
def an_guest (ζ σ : Nat → Nat → Int) (x y : Int) : Int := if 0 ≤ x ∧ x < nG ζ then (if y = 0 then ζ 5 x.toNat else if y = 1 then σ 2 x.toNat else if y = 2 then σ 1 x.toNat else if y = 3 then ab_ma ζ σ 1 x.toNat else -1) else -1
def an_animal (ζ σ : Nat → Nat → Int) (x y : Int) : Int := if 0 ≤ x ∧ x < nA ζ then (if y = 0 then ζ 6 x.toNat else if y = 1 then σ 3 x.toNat else if y = 2 then ab_B ζ σ 1 x.toNat else if y = 3 then ab_Y ζ σ 1 x.toNat else -2) else -2
def an_worth (ζ σ : Nat → Nat → Int) (x y : Int) : Int := if (0 ≤ x ∧ x < nA ζ) ∧ 0 ≤ y ∧ y < nP ζ then ab_wa ζ σ x.toNat y.toNat else -1
def SpX10_pen : bt_Sp := fun As w Q => ∃ (ρ : Nat → Nat → Option Nat) (μ : Nat → Nat → Int) (Ω : om_O) (x y : Int), As = [.inr (.inr 0), .inl x, .inl y] ∧ w = bt_wd ρ μ ∧ ci_I Ω ρ μ ∧ bt_i32 x ∧ bt_i32 y ∧ ∀ μ', bt_fr ci_s2 μ' μ → Q (some (.inl (an_pen Ω.1 Ω.2.1.1 x y))) (bt_wd ρ μ')
set_option maxHeartbeats 4000000 in
theorem mtX10_pen : bt_Met yX10_pen cX10_pen 3 (some .int) 4 [2, 0, 0] SpX10_pen := by
  refine bt_metW (lfX10_pen mtX10_isPen (by decide) mtX1_foresee (by decide) mtX6_guestsIn (by decide)) (fun As w Q _ hS => ?_)
  obtain ⟨ρ, μ, Ω, x, y, rfl, rfl, hI, hx, hy, hQ⟩ := hS
  obtain ⟨P, P', hR, hE, hz1, hZ', hS', hZ, hSt, hsq, ⟨⟨n0, m0⟩, ⟨n1, m1⟩, n2, m2⟩, hP1, hP2⟩ := ci_f hI
  obtain ⟨hρ, ⟨hP, hP', hPP⟩, r0, r1, r2, r3, r4, r5, r6, r7, r8, r9, r10, r11⟩ := id hR
  obtain ⟨c1, c2, c3, c4, c5, c6, c7, c8, c9, c10, c11, c12, c13, c14, c15, c16, c17, c18, c19, c20, c21, c22, c23, c24, c25⟩ := bt_zo_f P hP
  generalize hζ : Ω.1 = ζ at *
  generalize hσ : Ω.2.1.1 = σ at *
  have hy' := hy
  unfold bt_i32 at hy'
  simp (disch := omega) only [tX10_pen_0, bt_ald, bt_ild, bt_cV, bt_sig, bt_tg, bt_loc, bt_locs, List.getElem?_cons_zero, List.getElem?_cons_succ, List.set_cons_zero, List.set_cons_succ, List.map_cons, List.map_nil, List.take_succ_cons, List.take_zero, List.drop_succ_cons, List.drop_zero, List.reverse_cons, List.reverse_nil, List.nil_append, List.cons_append, List.append_nil, List.length_cons, List.length_nil, List.replicate_succ, List.replicate_zero, Option.toList_some, Option.toList_none, Nat.reduceAdd, Nat.reduceSub, Nat.reduceLeDiff, Nat.zero_add, Nat.zero_le, true_and, and_true, Int.toNat_natCast, Sum.inl.injEq, Sum.inr.injEq, ↓reduceIte, Nat.reduceEqDiff, sh_0]
  repeat (refine And.intro (by first | omega | decide | (simp only [and_true, true_and]; omega)) ?_)
  refine is_call (n := nP ζ) (k := 0) hR n0 m0 hx _ (Or.inl ⟨rfl, rfl⟩) ?_
  have q0 := hQ μ (fun a _ => rfl)
  unfold an_pen at q0 hQ
  by_cases hx2 : 0 ≤ x ∧ x < (nP ζ : Int)
  · rw [if_pos hx2]
    rw [if_pos hx2] at q0
    simp only [if_pos hx2] at hQ
    obtain ⟨p, rfl⟩ : ∃ p : Nat, x = (p : Int) := ⟨x.toNat, by omega⟩
    have hp : p < 6 := by omega
    simp only [Int.toNat_natCast] at q0 hQ
    simp (disch := omega) only [bt_ild, bt_lld, bt_ald, bt_ist, bt_lst, bt_ast, bt_inc, bt_ic, bt_lc, bt_iadd, bt_isub, bt_imul, bt_iand, bt_ior, bt_ixor, bt_ishl, bt_ishr, bt_iushr, bt_ladd, bt_lsub, bt_lmul, bt_land, bt_lor, bt_lushr, bt_lshl, bt_idiv, bt_irem, bt_ldiv, bt_lrem, bt_lcmp, bt_i2l, bt_l2i, bt_i2b, bt_pop, bt_dup, bt_dup2, bt_gfI, bt_gfJ, bt_gfR, bt_pfI, bt_pfZ, bt_pfJ, bt_pfR, bt_ial, bt_bal, bt_zal, bt_lal, bt_aal, bt_ias, bt_bas, bt_zas, bt_las, bt_len, bt_iret, bt_zret, bt_lret, bt_vret, bt_cV, bt_cS, bt_tab, bt_tsw, bt_lk, bt_lsw, bt_acp, bt_mmax, bt_mmin, bt_can, bt_icmpeq, bt_ifeq, bt_icmpne, bt_ifne, bt_icmplt, bt_iflt, bt_icmpge, bt_ifge, bt_icmpgt, bt_ifgt, bt_icmple, bt_ifle, bt_ret, bt_kill, bt_kl, bt_ix, bt_nl, bt_sm, bt_sr, bt_sig, bt_tg, bt_loc, bt_locs, List.getElem?_cons_zero, List.getElem?_cons_succ, List.set_cons_zero, List.set_cons_succ, List.map_cons, List.map_nil, List.take_succ_cons, List.take_zero, List.drop_succ_cons, List.drop_zero, List.reverse_cons, List.reverse_nil, List.nil_append, List.cons_append, List.append_nil, List.length_cons, List.length_nil, List.replicate_succ, List.replicate_zero, Option.toList_some, Option.toList_none, Nat.reduceAdd, Nat.reduceSub, Nat.reduceLeDiff, Nat.zero_add, Nat.zero_le, true_and, and_true, Int.toNat_natCast, Sum.inl.injEq, Sum.inr.injEq, ↓reduceIte, Nat.reduceEqDiff, bt_w_id, ↓reduceIte, Int.reduceEq, bt_tsw, Int.reduceAdd, Int.zero_add, r6, r8, r2, sh_0, sh_105, sh_106, sh_10, hρ 105 _ (by decide), rf_105_0, hρ P _ c2, c3, c4, c5, c6, c7, c8, c9, c10, c11, c12, c13, c14, c15, c16, c17, c18, c19, c20, c21, c22, c23, c24]
    by_cases y0 : y = 0
    · rw [if_pos y0]
      rw [if_pos y0] at q0
      repeat (refine And.intro (by first | omega | decide | (simp only [and_true, true_and]; omega)) ?_)
      rw [show μ (P + 4) p = ζ 4 p from congrFun (hE 4 (by decide)) p]
      exact q0
    · rw [if_neg y0]
      simp only [if_neg y0] at q0 hQ
      by_cases y1 : y = 1
      · rw [if_pos y1]
        rw [if_pos y1] at q0
        repeat (refine And.intro (by first | omega | decide | (simp only [and_true, true_and]; omega)) ?_)
        refine ⟨ρ, μ, 106, nG ζ, p, by rw [n1], rfl, hρ, bt_m136.2.1, m1, ?_⟩
        simp (disch := omega) only [bt_ild, bt_lld, bt_ald, bt_ist, bt_lst, bt_ast, bt_inc, bt_ic, bt_lc, bt_iadd, bt_isub, bt_imul, bt_iand, bt_ior, bt_ixor, bt_ishl, bt_ishr, bt_iushr, bt_ladd, bt_lsub, bt_lmul, bt_land, bt_lor, bt_lushr, bt_lshl, bt_idiv, bt_irem, bt_ldiv, bt_lrem, bt_lcmp, bt_i2l, bt_l2i, bt_i2b, bt_pop, bt_dup, bt_dup2, bt_gfI, bt_gfJ, bt_gfR, bt_pfI, bt_pfZ, bt_pfJ, bt_pfR, bt_ial, bt_bal, bt_zal, bt_lal, bt_aal, bt_ias, bt_bas, bt_zas, bt_las, bt_len, bt_iret, bt_zret, bt_lret, bt_vret, bt_cV, bt_cS, bt_tab, bt_tsw, bt_lk, bt_lsw, bt_acp, bt_mmax, bt_mmin, bt_can, bt_icmpeq, bt_ifeq, bt_icmpne, bt_ifne, bt_icmplt, bt_iflt, bt_icmpge, bt_ifge, bt_icmpgt, bt_ifgt, bt_icmple, bt_ifle, bt_ret, bt_kill, bt_kl, bt_ix, bt_nl, bt_sm, bt_sr, bt_sig, bt_tg, bt_loc, bt_locs, List.getElem?_cons_zero, List.getElem?_cons_succ, List.set_cons_zero, List.set_cons_succ, List.map_cons, List.map_nil, List.take_succ_cons, List.take_zero, List.drop_succ_cons, List.drop_zero, List.reverse_cons, List.reverse_nil, List.nil_append, List.cons_append, List.append_nil, List.length_cons, List.length_nil, List.replicate_succ, List.replicate_zero, Option.toList_some, Option.toList_none, Nat.reduceAdd, Nat.reduceSub, Nat.reduceLeDiff, Nat.zero_add, Nat.zero_le, true_and, and_true, Int.toNat_natCast, Sum.inl.injEq, Sum.inr.injEq, ↓reduceIte, Nat.reduceEqDiff]
        rw [show bt_bn (fun i => decide (bt_w (μ (106 + 1) i) = bt_w (p : Int))) (nG ζ) = ab_in ζ σ (p : Int) from (ab_cin (ζ' := ζ) (ab_zq.rf ζ) hsq.sy (p : Int))]
        exact q0
      · rw [if_neg y1]
        simp only [if_neg y1] at q0 hQ
        by_cases y2 : y = 2
        · rw [if_pos y2]
          simp only [if_pos y2] at hQ
          repeat (refine And.intro (by first | omega | decide | (simp only [and_true, true_and]; omega)) ?_)
          refine fs_call hρ hP hz1 hZ hSt hsq (fun μ' f1 f2 f3 hf => ?_)
          simp (disch := omega) only [bt_ild, bt_lld, bt_ald, bt_ist, bt_lst, bt_ast, bt_inc, bt_ic, bt_lc, bt_iadd, bt_isub, bt_imul, bt_iand, bt_ior, bt_ixor, bt_ishl, bt_ishr, bt_iushr, bt_ladd, bt_lsub, bt_lmul, bt_land, bt_lor, bt_lushr, bt_lshl, bt_idiv, bt_irem, bt_ldiv, bt_lrem, bt_lcmp, bt_i2l, bt_l2i, bt_i2b, bt_pop, bt_dup, bt_dup2, bt_gfI, bt_gfJ, bt_gfR, bt_pfI, bt_pfZ, bt_pfJ, bt_pfR, bt_ial, bt_bal, bt_zal, bt_lal, bt_aal, bt_ias, bt_bas, bt_zas, bt_las, bt_len, bt_iret, bt_zret, bt_lret, bt_vret, bt_cV, bt_cS, bt_tab, bt_tsw, bt_lk, bt_lsw, bt_acp, bt_mmax, bt_mmin, bt_can, bt_icmpeq, bt_ifeq, bt_icmpne, bt_ifne, bt_icmplt, bt_iflt, bt_icmpge, bt_ifge, bt_icmpgt, bt_ifgt, bt_icmple, bt_ifle, bt_ret, bt_kill, bt_kl, bt_ix, bt_nl, bt_sm, bt_sr, bt_sig, bt_tg, bt_loc, bt_locs, List.getElem?_cons_zero, List.getElem?_cons_succ, List.set_cons_zero, List.set_cons_succ, List.map_cons, List.map_nil, List.take_succ_cons, List.take_zero, List.drop_succ_cons, List.drop_zero, List.reverse_cons, List.reverse_nil, List.nil_append, List.cons_append, List.append_nil, List.length_cons, List.length_nil, List.replicate_succ, List.replicate_zero, Option.toList_some, Option.toList_none, Nat.reduceAdd, Nat.reduceSub, Nat.reduceLeDiff, Nat.zero_add, Nat.zero_le, true_and, and_true, Int.toNat_natCast, Sum.inl.injEq, Sum.inr.injEq, ↓reduceIte, Nat.reduceEqDiff, bt_w_id, r2, sh_0, sh_10, sh_15, hρ 10 _ (by decide), rf_10_4]
          repeat (refine And.intro (by first | omega | decide | (simp only [and_true, true_and]; omega)) ?_)
          rw [f2 p hp]
          exact hQ μ' (fun a ha => hf a (by unfold ci_s2 at ha; omega))
        · rw [if_neg y2]
          rw [if_neg y2] at q0
          exact q0
  · rw [if_neg hx2]
    rw [if_neg hx2] at q0
    simp (disch := omega) only [bt_ild, bt_lld, bt_ald, bt_ist, bt_lst, bt_ast, bt_inc, bt_ic, bt_lc, bt_iadd, bt_isub, bt_imul, bt_iand, bt_ior, bt_ixor, bt_ishl, bt_ishr, bt_iushr, bt_ladd, bt_lsub, bt_lmul, bt_land, bt_lor, bt_lushr, bt_lshl, bt_idiv, bt_irem, bt_ldiv, bt_lrem, bt_lcmp, bt_i2l, bt_l2i, bt_i2b, bt_pop, bt_dup, bt_dup2, bt_gfI, bt_gfJ, bt_gfR, bt_pfI, bt_pfZ, bt_pfJ, bt_pfR, bt_ial, bt_bal, bt_zal, bt_lal, bt_aal, bt_ias, bt_bas, bt_zas, bt_las, bt_len, bt_iret, bt_zret, bt_lret, bt_vret, bt_cV, bt_cS, bt_tab, bt_tsw, bt_lk, bt_lsw, bt_acp, bt_mmax, bt_mmin, bt_can, bt_icmpeq, bt_ifeq, bt_icmpne, bt_ifne, bt_icmplt, bt_iflt, bt_icmpge, bt_ifge, bt_icmpgt, bt_ifgt, bt_icmple, bt_ifle, bt_ret, bt_kill, bt_kl, bt_ix, bt_nl, bt_sm, bt_sr, bt_sig, bt_tg, bt_loc, bt_locs, List.getElem?_cons_zero, List.getElem?_cons_succ, List.set_cons_zero, List.set_cons_succ, List.map_cons, List.map_nil, List.take_succ_cons, List.take_zero, List.drop_succ_cons, List.drop_zero, List.reverse_cons, List.reverse_nil, List.nil_append, List.cons_append, List.append_nil, List.length_cons, List.length_nil, List.replicate_succ, List.replicate_zero, Option.toList_some, Option.toList_none, Nat.reduceAdd, Nat.reduceSub, Nat.reduceLeDiff, Nat.zero_add, Nat.zero_le, true_and, and_true, Int.toNat_natCast, Sum.inl.injEq, Sum.inr.injEq, ↓reduceIte, Nat.reduceEqDiff, bt_w_id, ↓reduceIte]
    exact q0
def SpX10_guest : bt_Sp := fun As w Q => ∃ (ρ : Nat → Nat → Option Nat) (μ : Nat → Nat → Int) (Ω : om_O) (x y : Int), As = [.inr (.inr 0), .inl x, .inl y] ∧ w = bt_wd ρ μ ∧ ci_I Ω ρ μ ∧ bt_i32 x ∧ bt_i32 y ∧ ∀ μ', bt_fr ci_s2 μ' μ → Q (some (.inl (an_guest Ω.1 Ω.2.1.1 x y))) (bt_wd ρ μ')
set_option maxHeartbeats 4000000 in
theorem mtX10_guest : bt_Met yX10_guest cX10_guest 3 (some .int) 4 [2, 0, 0] SpX10_guest := by
  refine bt_metW (lfX10_guest mtX10_isGuest (by decide) mtX1_foresee (by decide)) (fun As w Q _ hS => ?_)
  obtain ⟨ρ, μ, Ω, x, y, rfl, rfl, hI, hx, hy, hQ⟩ := hS
  obtain ⟨P, P', hR, hE, hz1, hZ', hS', hZ, hSt, hsq, ⟨⟨n0, m0⟩, ⟨n1, m1⟩, n2, m2⟩, hP1, hP2⟩ := ci_f hI
  obtain ⟨hρ, ⟨hP, hP', hPP⟩, r0, r1, r2, r3, r4, r5, r6, r7, r8, r9, r10, r11⟩ := id hR
  obtain ⟨c1, c2, c3, c4, c5, c6, c7, c8, c9, c10, c11, c12, c13, c14, c15, c16, c17, c18, c19, c20, c21, c22, c23, c24, c25⟩ := bt_zo_f P hP
  generalize hζ : Ω.1 = ζ at *
  generalize hσ : Ω.2.1.1 = σ at *
  have hy' := hy
  unfold bt_i32 at hy'
  simp (disch := omega) only [tX10_guest_0, bt_ald, bt_ild, bt_cV, bt_sig, bt_tg, bt_loc, bt_locs, List.getElem?_cons_zero, List.getElem?_cons_succ, List.set_cons_zero, List.set_cons_succ, List.map_cons, List.map_nil, List.take_succ_cons, List.take_zero, List.drop_succ_cons, List.drop_zero, List.reverse_cons, List.reverse_nil, List.nil_append, List.cons_append, List.append_nil, List.length_cons, List.length_nil, List.replicate_succ, List.replicate_zero, Option.toList_some, Option.toList_none, Nat.reduceAdd, Nat.reduceSub, Nat.reduceLeDiff, Nat.zero_add, Nat.zero_le, true_and, and_true, Int.toNat_natCast, Sum.inl.injEq, Sum.inr.injEq, ↓reduceIte, Nat.reduceEqDiff, sh_0]
  repeat (refine And.intro (by first | omega | decide | (simp only [and_true, true_and]; omega)) ?_)
  refine is_call (n := nG ζ) (k := 0) hR n1 m1 hx _ (Or.inr (Or.inl ⟨rfl, rfl⟩)) ?_
  have q0 := hQ μ (fun a _ => rfl)
  unfold an_guest at q0 hQ
  by_cases hx2 : 0 ≤ x ∧ x < (nG ζ : Int)
  · rw [if_pos hx2]
    rw [if_pos hx2] at q0
    simp only [if_pos hx2] at hQ
    obtain ⟨p, rfl⟩ : ∃ p : Nat, x = (p : Int) := ⟨x.toNat, by omega⟩
    have hp : p < nG ζ := by omega
    simp only [Int.toNat_natCast] at q0 hQ
    obtain ⟨s1, s2⟩ := hsq.2.2.1 p hp
    simp (disch := omega) only [bt_ild, bt_lld, bt_ald, bt_ist, bt_lst, bt_ast, bt_inc, bt_ic, bt_lc, bt_iadd, bt_isub, bt_imul, bt_iand, bt_ior, bt_ixor, bt_ishl, bt_ishr, bt_iushr, bt_ladd, bt_lsub, bt_lmul, bt_land, bt_lor, bt_lushr, bt_lshl, bt_idiv, bt_irem, bt_ldiv, bt_lrem, bt_lcmp, bt_i2l, bt_l2i, bt_i2b, bt_pop, bt_dup, bt_dup2, bt_gfI, bt_gfJ, bt_gfR, bt_pfI, bt_pfZ, bt_pfJ, bt_pfR, bt_ial, bt_bal, bt_zal, bt_lal, bt_aal, bt_ias, bt_bas, bt_zas, bt_las, bt_len, bt_iret, bt_zret, bt_lret, bt_vret, bt_cV, bt_cS, bt_tab, bt_tsw, bt_lk, bt_lsw, bt_acp, bt_mmax, bt_mmin, bt_can, bt_icmpeq, bt_ifeq, bt_icmpne, bt_ifne, bt_icmplt, bt_iflt, bt_icmpge, bt_ifge, bt_icmpgt, bt_ifgt, bt_icmple, bt_ifle, bt_ret, bt_kill, bt_kl, bt_ix, bt_nl, bt_sm, bt_sr, bt_sig, bt_tg, bt_loc, bt_locs, List.getElem?_cons_zero, List.getElem?_cons_succ, List.set_cons_zero, List.set_cons_succ, List.map_cons, List.map_nil, List.take_succ_cons, List.take_zero, List.drop_succ_cons, List.drop_zero, List.reverse_cons, List.reverse_nil, List.nil_append, List.cons_append, List.append_nil, List.length_cons, List.length_nil, List.replicate_succ, List.replicate_zero, Option.toList_some, Option.toList_none, Nat.reduceAdd, Nat.reduceSub, Nat.reduceLeDiff, Nat.zero_add, Nat.zero_le, true_and, and_true, Int.toNat_natCast, Sum.inl.injEq, Sum.inr.injEq, ↓reduceIte, Nat.reduceEqDiff, bt_w_id, ↓reduceIte, Int.reduceEq, bt_tsw, Int.reduceAdd, Int.zero_add, r6, r8, r2, sh_0, sh_105, sh_106, sh_107, sh_108, sh_10, hρ 105 _ (by decide), rf_105_0, hρ 106 _ (by decide), rf_106_2, rf_106_3, hρ P _ c2, c3, c4, c5, c6, c7, c8, c9, c10, c11, c12, c13, c14, c15, c16, c17, c18, c19, c20, c21, c22, c23, c24]
    by_cases y0 : y = 0
    · rw [if_pos y0]
      rw [if_pos y0] at q0
      repeat (refine And.intro (by first | omega | decide | (simp only [and_true, true_and]; omega)) ?_)
      rw [show μ (P + 5) p = ζ 5 p from congrFun (hE 5 (by decide)) p]
      exact q0
    · rw [if_neg y0]
      simp only [if_neg y0] at q0 hQ
      by_cases y1 : y = 1
      · rw [if_pos y1]
        rw [if_pos y1] at q0
        repeat (refine And.intro (by first | omega | decide | (simp only [and_true, true_and]; omega)) ?_)
        rw [show μ 108 p = σ 2 p from s2.symm]
        exact q0
      · rw [if_neg y1]
        simp only [if_neg y1] at q0 hQ
        by_cases y2 : y = 2
        · rw [if_pos y2]
          rw [if_pos y2] at q0
          repeat (refine And.intro (by first | omega | decide | (simp only [and_true, true_and]; omega)) ?_)
          rw [show μ 107 p = σ 1 p from s1.symm]
          exact q0
        · rw [if_neg y2]
          simp only [if_neg y2] at q0 hQ
          by_cases y3 : y = 3
          · rw [if_pos y3]
            simp only [if_pos y3] at hQ
            repeat (refine And.intro (by first | omega | decide | (simp only [and_true, true_and]; omega)) ?_)
            refine fs_call hρ hP hz1 hZ hSt hsq (fun μ' f1 f2 f3 hf => ?_)
            simp (disch := omega) only [bt_ild, bt_lld, bt_ald, bt_ist, bt_lst, bt_ast, bt_inc, bt_ic, bt_lc, bt_iadd, bt_isub, bt_imul, bt_iand, bt_ior, bt_ixor, bt_ishl, bt_ishr, bt_iushr, bt_ladd, bt_lsub, bt_lmul, bt_land, bt_lor, bt_lushr, bt_lshl, bt_idiv, bt_irem, bt_ldiv, bt_lrem, bt_lcmp, bt_i2l, bt_l2i, bt_i2b, bt_pop, bt_dup, bt_dup2, bt_gfI, bt_gfJ, bt_gfR, bt_pfI, bt_pfZ, bt_pfJ, bt_pfR, bt_ial, bt_bal, bt_zal, bt_lal, bt_aal, bt_ias, bt_bas, bt_zas, bt_las, bt_len, bt_iret, bt_zret, bt_lret, bt_vret, bt_cV, bt_cS, bt_tab, bt_tsw, bt_lk, bt_lsw, bt_acp, bt_mmax, bt_mmin, bt_can, bt_icmpeq, bt_ifeq, bt_icmpne, bt_ifne, bt_icmplt, bt_iflt, bt_icmpge, bt_ifge, bt_icmpgt, bt_ifgt, bt_icmple, bt_ifle, bt_ret, bt_kill, bt_kl, bt_ix, bt_nl, bt_sm, bt_sr, bt_sig, bt_tg, bt_loc, bt_locs, List.getElem?_cons_zero, List.getElem?_cons_succ, List.set_cons_zero, List.set_cons_succ, List.map_cons, List.map_nil, List.take_succ_cons, List.take_zero, List.drop_succ_cons, List.drop_zero, List.reverse_cons, List.reverse_nil, List.nil_append, List.cons_append, List.append_nil, List.length_cons, List.length_nil, List.replicate_succ, List.replicate_zero, Option.toList_some, Option.toList_none, Nat.reduceAdd, Nat.reduceSub, Nat.reduceLeDiff, Nat.zero_add, Nat.zero_le, true_and, and_true, Int.toNat_natCast, Sum.inl.injEq, Sum.inr.injEq, ↓reduceIte, Nat.reduceEqDiff, bt_w_id, r2, sh_0, sh_10, sh_18, hρ 10 _ (by decide), rf_10_7]
            repeat (refine And.intro (by first | omega | decide | (simp only [and_true, true_and]; omega)) ?_)
            rw [f3 p hp]
            exact hQ μ' (fun a ha => hf a (by unfold ci_s2 at ha; omega))
          · rw [if_neg y3]
            rw [if_neg y3] at q0
            exact q0
  · rw [if_neg hx2]
    rw [if_neg hx2] at q0
    simp (disch := omega) only [bt_ild, bt_lld, bt_ald, bt_ist, bt_lst, bt_ast, bt_inc, bt_ic, bt_lc, bt_iadd, bt_isub, bt_imul, bt_iand, bt_ior, bt_ixor, bt_ishl, bt_ishr, bt_iushr, bt_ladd, bt_lsub, bt_lmul, bt_land, bt_lor, bt_lushr, bt_lshl, bt_idiv, bt_irem, bt_ldiv, bt_lrem, bt_lcmp, bt_i2l, bt_l2i, bt_i2b, bt_pop, bt_dup, bt_dup2, bt_gfI, bt_gfJ, bt_gfR, bt_pfI, bt_pfZ, bt_pfJ, bt_pfR, bt_ial, bt_bal, bt_zal, bt_lal, bt_aal, bt_ias, bt_bas, bt_zas, bt_las, bt_len, bt_iret, bt_zret, bt_lret, bt_vret, bt_cV, bt_cS, bt_tab, bt_tsw, bt_lk, bt_lsw, bt_acp, bt_mmax, bt_mmin, bt_can, bt_icmpeq, bt_ifeq, bt_icmpne, bt_ifne, bt_icmplt, bt_iflt, bt_icmpge, bt_ifge, bt_icmpgt, bt_ifgt, bt_icmple, bt_ifle, bt_ret, bt_kill, bt_kl, bt_ix, bt_nl, bt_sm, bt_sr, bt_sig, bt_tg, bt_loc, bt_locs, List.getElem?_cons_zero, List.getElem?_cons_succ, List.set_cons_zero, List.set_cons_succ, List.map_cons, List.map_nil, List.take_succ_cons, List.take_zero, List.drop_succ_cons, List.drop_zero, List.reverse_cons, List.reverse_nil, List.nil_append, List.cons_append, List.append_nil, List.length_cons, List.length_nil, List.replicate_succ, List.replicate_zero, Option.toList_some, Option.toList_none, Nat.reduceAdd, Nat.reduceSub, Nat.reduceLeDiff, Nat.zero_add, Nat.zero_le, true_and, and_true, Int.toNat_natCast, Sum.inl.injEq, Sum.inr.injEq, ↓reduceIte, Nat.reduceEqDiff, bt_w_id, ↓reduceIte]
    exact q0
def SpX10_animal : bt_Sp := fun As w Q => ∃ (ρ : Nat → Nat → Option Nat) (μ : Nat → Nat → Int) (Ω : om_O) (x y : Int), As = [.inr (.inr 0), .inl x, .inl y] ∧ w = bt_wd ρ μ ∧ ci_I Ω ρ μ ∧ bt_i32 x ∧ bt_i32 y ∧ ∀ μ', bt_fr ci_s2 μ' μ → Q (some (.inl (an_animal Ω.1 Ω.2.1.1 x y))) (bt_wd ρ μ')
set_option maxHeartbeats 4000000 in
theorem mtX10_animal : bt_Met yX10_animal cX10_animal 3 (some .int) 4 [2, 0, 0] SpX10_animal := by
  refine bt_metW (lfX10_animal mtX10_isAnimal (by decide) mtX1_foresee (by decide)) (fun As w Q _ hS => ?_)
  obtain ⟨ρ, μ, Ω, x, y, rfl, rfl, hI, hx, hy, hQ⟩ := hS
  obtain ⟨P, P', hR, hE, hz1, hZ', hS', hZ, hSt, hsq, ⟨⟨n0, m0⟩, ⟨n1, m1⟩, n2, m2⟩, hP1, hP2⟩ := ci_f hI
  obtain ⟨hρ, ⟨hP, hP', hPP⟩, r0, r1, r2, r3, r4, r5, r6, r7, r8, r9, r10, r11⟩ := id hR
  obtain ⟨c1, c2, c3, c4, c5, c6, c7, c8, c9, c10, c11, c12, c13, c14, c15, c16, c17, c18, c19, c20, c21, c22, c23, c24, c25⟩ := bt_zo_f P hP
  generalize hζ : Ω.1 = ζ at *
  generalize hσ : Ω.2.1.1 = σ at *
  have hy' := hy
  unfold bt_i32 at hy'
  simp (disch := omega) only [tX10_animal_0, bt_ald, bt_ild, bt_cV, bt_sig, bt_tg, bt_loc, bt_locs, List.getElem?_cons_zero, List.getElem?_cons_succ, List.set_cons_zero, List.set_cons_succ, List.map_cons, List.map_nil, List.take_succ_cons, List.take_zero, List.drop_succ_cons, List.drop_zero, List.reverse_cons, List.reverse_nil, List.nil_append, List.cons_append, List.append_nil, List.length_cons, List.length_nil, List.replicate_succ, List.replicate_zero, Option.toList_some, Option.toList_none, Nat.reduceAdd, Nat.reduceSub, Nat.reduceLeDiff, Nat.zero_add, Nat.zero_le, true_and, and_true, Int.toNat_natCast, Sum.inl.injEq, Sum.inr.injEq, ↓reduceIte, Nat.reduceEqDiff, sh_0]
  repeat (refine And.intro (by first | omega | decide | (simp only [and_true, true_and]; omega)) ?_)
  refine is_call (n := nA ζ) (k := 0) hR n2 (by omega) hx _ (Or.inr (Or.inr ⟨rfl, rfl⟩)) ?_
  have q0 := hQ μ (fun a _ => rfl)
  unfold an_animal at q0 hQ
  by_cases hx2 : 0 ≤ x ∧ x < (nA ζ : Int)
  · rw [if_pos hx2]
    rw [if_pos hx2] at q0
    simp only [if_pos hx2] at hQ
    obtain ⟨p, rfl⟩ : ∃ p : Nat, x = (p : Int) := ⟨x.toNat, by omega⟩
    have hp : p < nA ζ := by omega
    simp only [Int.toNat_natCast] at q0 hQ
    have s1 := hsq.2.2.2 p hp
    simp (disch := omega) only [bt_ild, bt_lld, bt_ald, bt_ist, bt_lst, bt_ast, bt_inc, bt_ic, bt_lc, bt_iadd, bt_isub, bt_imul, bt_iand, bt_ior, bt_ixor, bt_ishl, bt_ishr, bt_iushr, bt_ladd, bt_lsub, bt_lmul, bt_land, bt_lor, bt_lushr, bt_lshl, bt_idiv, bt_irem, bt_ldiv, bt_lrem, bt_lcmp, bt_i2l, bt_l2i, bt_i2b, bt_pop, bt_dup, bt_dup2, bt_gfI, bt_gfJ, bt_gfR, bt_pfI, bt_pfZ, bt_pfJ, bt_pfR, bt_ial, bt_bal, bt_zal, bt_lal, bt_aal, bt_ias, bt_bas, bt_zas, bt_las, bt_len, bt_iret, bt_zret, bt_lret, bt_vret, bt_cV, bt_cS, bt_tab, bt_tsw, bt_lk, bt_lsw, bt_acp, bt_mmax, bt_mmin, bt_can, bt_icmpeq, bt_ifeq, bt_icmpne, bt_ifne, bt_icmplt, bt_iflt, bt_icmpge, bt_ifge, bt_icmpgt, bt_ifgt, bt_icmple, bt_ifle, bt_ret, bt_kill, bt_kl, bt_ix, bt_nl, bt_sm, bt_sr, bt_sig, bt_tg, bt_loc, bt_locs, List.getElem?_cons_zero, List.getElem?_cons_succ, List.set_cons_zero, List.set_cons_succ, List.map_cons, List.map_nil, List.take_succ_cons, List.take_zero, List.drop_succ_cons, List.drop_zero, List.reverse_cons, List.reverse_nil, List.nil_append, List.cons_append, List.append_nil, List.length_cons, List.length_nil, List.replicate_succ, List.replicate_zero, Option.toList_some, Option.toList_none, Nat.reduceAdd, Nat.reduceSub, Nat.reduceLeDiff, Nat.zero_add, Nat.zero_le, true_and, and_true, Int.toNat_natCast, Sum.inl.injEq, Sum.inr.injEq, ↓reduceIte, Nat.reduceEqDiff, bt_w_id, ↓reduceIte, Int.reduceEq, bt_tsw, Int.reduceAdd, Int.zero_add, r6, r8, r2, sh_0, sh_105, sh_106, sh_109, sh_10, hρ 105 _ (by decide), rf_105_0, hρ 106 _ (by decide), rf_106_4, hρ P _ c2, c3, c4, c5, c6, c7, c8, c9, c10, c11, c12, c13, c14, c15, c16, c17, c18, c19, c20, c21, c22, c23, c24]
    by_cases y0 : y = 0
    · rw [if_pos y0]
      rw [if_pos y0] at q0
      repeat (refine And.intro (by first | omega | decide | (simp only [and_true, true_and]; omega)) ?_)
      rw [show μ (P + 6) p = ζ 6 p from congrFun (hE 6 (by decide)) p]
      exact q0
    · rw [if_neg y0]
      simp only [if_neg y0] at q0 hQ
      by_cases y1 : y = 1
      · rw [if_pos y1]
        rw [if_pos y1] at q0
        repeat (refine And.intro (by first | omega | decide | (simp only [and_true, true_and]; omega)) ?_)
        rw [show μ 109 p = σ 3 p from s1.symm]
        exact q0
      · rw [if_neg y1]
        simp only [if_neg y1] at q0 hQ
        by_cases y2 : y = 2
        · rw [if_pos y2]
          simp only [if_pos y2] at hQ
          repeat (refine And.intro (by first | omega | decide | (simp only [and_true, true_and]; omega)) ?_)
          refine fs_call hρ hP hz1 hZ hSt hsq (fun μ' f1 f2 f3 hf => ?_)
          simp (disch := omega) only [bt_ild, bt_lld, bt_ald, bt_ist, bt_lst, bt_ast, bt_inc, bt_ic, bt_lc, bt_iadd, bt_isub, bt_imul, bt_iand, bt_ior, bt_ixor, bt_ishl, bt_ishr, bt_iushr, bt_ladd, bt_lsub, bt_lmul, bt_land, bt_lor, bt_lushr, bt_lshl, bt_idiv, bt_irem, bt_ldiv, bt_lrem, bt_lcmp, bt_i2l, bt_l2i, bt_i2b, bt_pop, bt_dup, bt_dup2, bt_gfI, bt_gfJ, bt_gfR, bt_pfI, bt_pfZ, bt_pfJ, bt_pfR, bt_ial, bt_bal, bt_zal, bt_lal, bt_aal, bt_ias, bt_bas, bt_zas, bt_las, bt_len, bt_iret, bt_zret, bt_lret, bt_vret, bt_cV, bt_cS, bt_tab, bt_tsw, bt_lk, bt_lsw, bt_acp, bt_mmax, bt_mmin, bt_can, bt_icmpeq, bt_ifeq, bt_icmpne, bt_ifne, bt_icmplt, bt_iflt, bt_icmpge, bt_ifge, bt_icmpgt, bt_ifgt, bt_icmple, bt_ifle, bt_ret, bt_kill, bt_kl, bt_ix, bt_nl, bt_sm, bt_sr, bt_sig, bt_tg, bt_loc, bt_locs, List.getElem?_cons_zero, List.getElem?_cons_succ, List.set_cons_zero, List.set_cons_succ, List.map_cons, List.map_nil, List.take_succ_cons, List.take_zero, List.drop_succ_cons, List.drop_zero, List.reverse_cons, List.reverse_nil, List.nil_append, List.cons_append, List.append_nil, List.length_cons, List.length_nil, List.replicate_succ, List.replicate_zero, Option.toList_some, Option.toList_none, Nat.reduceAdd, Nat.reduceSub, Nat.reduceLeDiff, Nat.zero_add, Nat.zero_le, true_and, and_true, Int.toNat_natCast, Sum.inl.injEq, Sum.inr.injEq, ↓reduceIte, Nat.reduceEqDiff, bt_w_id, r2, sh_0, sh_10, sh_16, hρ 10 _ (by decide), rf_10_5]
          repeat (refine And.intro (by first | omega | decide | (simp only [and_true, true_and]; omega)) ?_)
          rw [(f1 p hp).1]
          exact hQ μ' (fun a ha => hf a (by unfold ci_s2 at ha; omega))
        · rw [if_neg y2]
          simp only [if_neg y2] at q0 hQ
          by_cases y3 : y = 3
          · rw [if_pos y3]
            simp only [if_pos y3] at hQ
            repeat (refine And.intro (by first | omega | decide | (simp only [and_true, true_and]; omega)) ?_)
            refine fs_call hρ hP hz1 hZ hSt hsq (fun μ' f1 f2 f3 hf => ?_)
            simp (disch := omega) only [bt_ild, bt_lld, bt_ald, bt_ist, bt_lst, bt_ast, bt_inc, bt_ic, bt_lc, bt_iadd, bt_isub, bt_imul, bt_iand, bt_ior, bt_ixor, bt_ishl, bt_ishr, bt_iushr, bt_ladd, bt_lsub, bt_lmul, bt_land, bt_lor, bt_lushr, bt_lshl, bt_idiv, bt_irem, bt_ldiv, bt_lrem, bt_lcmp, bt_i2l, bt_l2i, bt_i2b, bt_pop, bt_dup, bt_dup2, bt_gfI, bt_gfJ, bt_gfR, bt_pfI, bt_pfZ, bt_pfJ, bt_pfR, bt_ial, bt_bal, bt_zal, bt_lal, bt_aal, bt_ias, bt_bas, bt_zas, bt_las, bt_len, bt_iret, bt_zret, bt_lret, bt_vret, bt_cV, bt_cS, bt_tab, bt_tsw, bt_lk, bt_lsw, bt_acp, bt_mmax, bt_mmin, bt_can, bt_icmpeq, bt_ifeq, bt_icmpne, bt_ifne, bt_icmplt, bt_iflt, bt_icmpge, bt_ifge, bt_icmpgt, bt_ifgt, bt_icmple, bt_ifle, bt_ret, bt_kill, bt_kl, bt_ix, bt_nl, bt_sm, bt_sr, bt_sig, bt_tg, bt_loc, bt_locs, List.getElem?_cons_zero, List.getElem?_cons_succ, List.set_cons_zero, List.set_cons_succ, List.map_cons, List.map_nil, List.take_succ_cons, List.take_zero, List.drop_succ_cons, List.drop_zero, List.reverse_cons, List.reverse_nil, List.nil_append, List.cons_append, List.append_nil, List.length_cons, List.length_nil, List.replicate_succ, List.replicate_zero, Option.toList_some, Option.toList_none, Nat.reduceAdd, Nat.reduceSub, Nat.reduceLeDiff, Nat.zero_add, Nat.zero_le, true_and, and_true, Int.toNat_natCast, Sum.inl.injEq, Sum.inr.injEq, ↓reduceIte, Nat.reduceEqDiff, bt_w_id, r2, sh_0, sh_10, sh_17, hρ 10 _ (by decide), rf_10_6]
            repeat (refine And.intro (by first | omega | decide | (simp only [and_true, true_and]; omega)) ?_)
            rw [(f1 p hp).2]
            exact hQ μ' (fun a ha => hf a (by unfold ci_s2 at ha; omega))
          · rw [if_neg y3]
            rw [if_neg y3] at q0
            exact q0
  · rw [if_neg hx2]
    rw [if_neg hx2] at q0
    simp (disch := omega) only [bt_ild, bt_lld, bt_ald, bt_ist, bt_lst, bt_ast, bt_inc, bt_ic, bt_lc, bt_iadd, bt_isub, bt_imul, bt_iand, bt_ior, bt_ixor, bt_ishl, bt_ishr, bt_iushr, bt_ladd, bt_lsub, bt_lmul, bt_land, bt_lor, bt_lushr, bt_lshl, bt_idiv, bt_irem, bt_ldiv, bt_lrem, bt_lcmp, bt_i2l, bt_l2i, bt_i2b, bt_pop, bt_dup, bt_dup2, bt_gfI, bt_gfJ, bt_gfR, bt_pfI, bt_pfZ, bt_pfJ, bt_pfR, bt_ial, bt_bal, bt_zal, bt_lal, bt_aal, bt_ias, bt_bas, bt_zas, bt_las, bt_len, bt_iret, bt_zret, bt_lret, bt_vret, bt_cV, bt_cS, bt_tab, bt_tsw, bt_lk, bt_lsw, bt_acp, bt_mmax, bt_mmin, bt_can, bt_icmpeq, bt_ifeq, bt_icmpne, bt_ifne, bt_icmplt, bt_iflt, bt_icmpge, bt_ifge, bt_icmpgt, bt_ifgt, bt_icmple, bt_ifle, bt_ret, bt_kill, bt_kl, bt_ix, bt_nl, bt_sm, bt_sr, bt_sig, bt_tg, bt_loc, bt_locs, List.getElem?_cons_zero, List.getElem?_cons_succ, List.set_cons_zero, List.set_cons_succ, List.map_cons, List.map_nil, List.take_succ_cons, List.take_zero, List.drop_succ_cons, List.drop_zero, List.reverse_cons, List.reverse_nil, List.nil_append, List.cons_append, List.append_nil, List.length_cons, List.length_nil, List.replicate_succ, List.replicate_zero, Option.toList_some, Option.toList_none, Nat.reduceAdd, Nat.reduceSub, Nat.reduceLeDiff, Nat.zero_add, Nat.zero_le, true_and, and_true, Int.toNat_natCast, Sum.inl.injEq, Sum.inr.injEq, ↓reduceIte, Nat.reduceEqDiff, bt_w_id, ↓reduceIte]
    exact q0
