/-! the class: apart, walk, show; what acts -/
def an_fo (ζ : Nat → Nat → Int) : Nat → Nat := fun i => (ζ 7 i).toNat
def an_apart (n : Nat) (R : Nat × (Nat → Int)) (x : Int) : Int := if x = -1 then (R.1 : Int) else if 0 ≤ x ∧ x < n then R.2 x.toNat else -2
def SpX10_apart : bt_Sp := fun As w Q => ∃ (ρ : Nat → Nat → Option Nat) (μ : Nat → Nat → Int) (Ω : om_O) (x : Int), As = [.inr (.inr 0), .inl x] ∧ w = bt_wd ρ μ ∧ ci_I Ω ρ μ ∧ bt_i32 x ∧ ∀ μ', bt_fr ci_s2 μ' μ → Q (some (.inl (an_apart (nG Ω.1) (ab_kaL (an_fo Ω.1) (nG Ω.1) (nG Ω.1) 0 (μ 72)) x))) (bt_wd ρ μ')
set_option maxHeartbeats 4000000 in
theorem mtX10_apart : bt_Met yX10_apart cX10_apart 3 (some .int) 64 [2, 0] SpX10_apart := by
  refine bt_metW (lfX10_apart mtX10_isGuest (by decide) mtX4_keepApart (by decide)) (fun As w Q _ hS => ?_)
  obtain ⟨ρ, μ, Ω, x, rfl, rfl, hI, hx, hQ⟩ := hS
  obtain ⟨P, P', hR, hE, hz1, hZ', hS', hZ, hSt, hsq, ⟨⟨n0, m0⟩, ⟨n1, m1⟩, n2, m2⟩, hP1, hP2⟩ := ci_f hI
  obtain ⟨hρ, ⟨hP, hP', hPP⟩, r0, r1, r2, r3, r4, r5, r6, r7, r8, r9, r10, r11⟩ := id hR
  obtain ⟨c1, c2, c3, c4, c5, c6, c7, c8, c9, c10, c11, c12, c13, c14, c15, c16, c17, c18, c19, c20, c21, c22, c23, c24, c25⟩ := bt_zo_f P hP
  generalize hζ : Ω.1 = ζ at *
  have q0 := hQ μ (fun a _ => rfl)
  have hx' := hx
  unfold bt_i32 at hx'
  unfold an_apart at q0 hQ
  have l16 : (x = -1 ∨ (0 ≤ x ∧ x < (nG ζ : Int))) → tX10_apart_16 SpX10_isGuest SpX4_keepApart bt_k0 Q [] [some (.inr (.inr 0)), some (.inl x), none] (bt_wd ρ μ) := fun hg => by
    simp (disch := omega) only [tX10_apart_16, tX10_apart_46, bt_ald, bt_gfR, bt_cV, bt_sig, bt_tg, bt_loc, bt_locs, List.getElem?_cons_zero, List.getElem?_cons_succ, List.set_cons_zero, List.set_cons_succ, List.map_cons, List.map_nil, List.take_succ_cons, List.take_zero, List.drop_succ_cons, List.drop_zero, List.reverse_cons, List.reverse_nil, List.nil_append, List.cons_append, List.append_nil, List.length_cons, List.length_nil, List.replicate_succ, List.replicate_zero, Option.toList_some, Option.toList_none, Nat.reduceAdd, Nat.reduceSub, Nat.reduceLeDiff, Nat.zero_add, Nat.zero_le, true_and, and_true, Int.toNat_natCast, Sum.inl.injEq, Sum.inr.injEq, ↓reduceIte, Nat.reduceEqDiff, r5, r6, sh_0, sh_71]
    repeat (refine And.intro (by first | omega | decide | (simp only [and_true, true_and]; omega)) ?_)
    refine ⟨ρ, μ, P, nG ζ, an_fo ζ, rfl, rfl, hρ, hP, m1, n1, fun i hi => ?_, fun μ2 h72 hf => ?_⟩
    · rw [show μ (P + 7) i = ζ 7 i from congrFun (hE 7 (by decide)) i]
      have := (hZ.2.1 i hi).2
      unfold an_fo
      omega
    have q := hQ μ2 (fun a ha => hf a (by unfold ci_s2 at ha; omega))
    generalize ab_kaL (an_fo ζ) (nG ζ) (nG ζ) 0 (μ 72) = R at *
    simp (disch := omega) only [bt_ret, bt_ist, bt_nl, bt_ild, bt_ic, bt_icmpne, bt_ial, bt_ix, bt_iret, bt_ald, bt_gfR, bt_loc, bt_locs, List.getElem?_cons_zero, List.getElem?_cons_succ, List.set_cons_zero, List.set_cons_succ, List.map_cons, List.map_nil, List.take_succ_cons, List.take_zero, List.drop_succ_cons, List.drop_zero, List.reverse_cons, List.reverse_nil, List.nil_append, List.cons_append, List.append_nil, List.length_cons, List.length_nil, List.replicate_succ, List.replicate_zero, Option.toList_some, Option.toList_none, Nat.reduceAdd, Nat.reduceSub, Nat.reduceLeDiff, Nat.zero_add, Nat.zero_le, true_and, and_true, Int.toNat_natCast, Sum.inl.injEq, Sum.inr.injEq, ↓reduceIte, Nat.reduceEqDiff, r5, sh_0, sh_71, sh_72, hρ 71 _ (by decide), rf_71_0, bt_w_id]
    by_cases h1 : x = -1
    · rw [if_pos h1] at q ⊢
      exact q
    · rw [if_neg h1] at q ⊢
      rw [if_pos (by omega)] at q
      repeat (refine And.intro (by first | omega | decide | (simp only [and_true, true_and]; omega)) ?_)
      rw [h72]
      exact q
  simp (disch := omega) only [tX10_apart_0, bt_ild, bt_ic, bt_icmpeq, bt_ald, bt_cV, bt_sig, bt_tg, bt_loc, bt_locs, List.getElem?_cons_zero, List.getElem?_cons_succ, List.set_cons_zero, List.set_cons_succ, List.map_cons, List.map_nil, List.take_succ_cons, List.take_zero, List.drop_succ_cons, List.drop_zero, List.reverse_cons, List.reverse_nil, List.nil_append, List.cons_append, List.append_nil, List.length_cons, List.length_nil, List.replicate_succ, List.replicate_zero, Option.toList_some, Option.toList_none, Nat.reduceAdd, Nat.reduceSub, Nat.reduceLeDiff, Nat.zero_add, Nat.zero_le, true_and, and_true, Int.toNat_natCast, Sum.inl.injEq, Sum.inr.injEq, ↓reduceIte, Nat.reduceEqDiff, bt_w_id, sh_0]
  by_cases h1 : x = -1
  · rw [if_pos h1]
    exact l16 (Or.inl h1)
  · rw [if_neg h1]
    rw [if_neg h1] at q0
    repeat (refine And.intro (by first | omega | decide | (simp only [and_true, true_and]; omega)) ?_)
    refine is_call (n := nG ζ) (k := 0) hR n1 m1 hx _ (Or.inr (Or.inl ⟨rfl, rfl⟩)) ?_
    by_cases h2 : 0 ≤ x ∧ x < (nG ζ : Int)
    · rw [if_pos h2]
      simp (disch := omega) only [bt_ret, bt_ifne, bt_loc, bt_locs, List.getElem?_cons_zero, List.getElem?_cons_succ, List.set_cons_zero, List.set_cons_succ, List.map_cons, List.map_nil, List.take_succ_cons, List.take_zero, List.drop_succ_cons, List.drop_zero, List.reverse_cons, List.reverse_nil, List.nil_append, List.cons_append, List.append_nil, List.length_cons, List.length_nil, List.replicate_succ, List.replicate_zero, Option.toList_some, Option.toList_none, Nat.reduceAdd, Nat.reduceSub, Nat.reduceLeDiff, Nat.zero_add, Nat.zero_le, true_and, and_true, Int.toNat_natCast, Sum.inl.injEq, Sum.inr.injEq, ↓reduceIte, Nat.reduceEqDiff, bt_w_id, Int.reduceEq]
      exact l16 (Or.inr h2)
    · rw [if_neg h2]
      rw [if_neg h2] at q0
      simp (disch := omega) only [bt_ret, bt_ifne, bt_ic, bt_iret, bt_loc, bt_locs, List.getElem?_cons_zero, List.getElem?_cons_succ, List.set_cons_zero, List.set_cons_succ, List.map_cons, List.map_nil, List.take_succ_cons, List.take_zero, List.drop_succ_cons, List.drop_zero, List.reverse_cons, List.reverse_nil, List.nil_append, List.cons_append, List.append_nil, List.length_cons, List.length_nil, List.replicate_succ, List.replicate_zero, Option.toList_some, Option.toList_none, Nat.reduceAdd, Nat.reduceSub, Nat.reduceLeDiff, Nat.zero_add, Nat.zero_le, true_and, and_true, Int.toNat_natCast, Sum.inl.injEq, Sum.inr.injEq, ↓reduceIte, Nat.reduceEqDiff, bt_w_id]
      exact q0
def an_G (ζ σ : Nat → Nat → Int) : Nat := ab_gl (fW σ) (nG ζ)
def an_walk (len : Nat) (P : Nat) (R : Int × (Nat → Int)) (x y : Int) : Int := if (0 ≤ x ∧ x < P) ∧ 0 ≤ y then (if 1000 ≤ R.1 ∨ (len : Int) < y then -1 else if y = 0 then R.1 else R.2 (y - 1).toNat) else -1
def SpX10_walk : bt_Sp := fun As w Q => ∃ (ρ : Nat → Nat → Option Nat) (μ : Nat → Nat → Int) (Ω : om_O) (x y : Int), As = [.inr (.inr 0), .inl x, .inl y] ∧ w = bt_wd ρ μ ∧ ci_I Ω ρ μ ∧ bt_i32 x ∧ bt_i32 y ∧ ∀ μ', bt_fr ci_s2 μ' μ → Q (some (.inl (an_walk (bt_pcn (an_G Ω.1 Ω.2.1.1) 16) (nP Ω.1) ((ab_wk (Ω.1 8) (bt_pcn (an_G Ω.1 Ω.2.1.1) 16) (nP Ω.1) (bt_pcn (an_G Ω.1 Ω.2.1.1) 16) x.toNat (an_G Ω.1 Ω.2.1.1) 0 (1000, μ 74, μ 73)).1, (ab_wk (Ω.1 8) (bt_pcn (an_G Ω.1 Ω.2.1.1) 16) (nP Ω.1) (bt_pcn (an_G Ω.1 Ω.2.1.1) 16) x.toNat (an_G Ω.1 Ω.2.1.1) 0 (1000, μ 74, μ 73)).2.1) x y))) (bt_wd ρ μ')
theorem ab_gl_congr {wh wh' : Nat → Nat} : ∀ n, (∀ g, g < n → wh g = wh' g) → ab_gl wh n = ab_gl wh' n
  | 0, _ => rfl
  | n + 1, h => by unfold ab_gl; rw [ab_gl_congr n (fun g hg => h g (by omega)), h n (by omega)]
set_option maxHeartbeats 4000000 in
theorem mtX10_walk : bt_Met yX10_walk cX10_walk 3 (some .int) 64 [2, 0, 0] SpX10_walk := by
  refine bt_metW (lfX10_walk mtX10_isPen (by decide) mtX4_walkFrom (by decide)) (fun As w Q _ hS => ?_)
  obtain ⟨ρ, μ, Ω, x, y, rfl, rfl, hI, hx, hy, hQ⟩ := hS
  obtain ⟨P, P', hR, hE, hz1, hZ', hS', hZ, hSt, hsq, ⟨⟨n0, m0⟩, ⟨n1, m1⟩, n2, m2⟩, hP1, hP2⟩ := ci_f hI
  obtain ⟨-, -, -, -, hz, -, -, -, -, -, -, -⟩ := id hI
  obtain ⟨hρ, ⟨hP, hP', hPP⟩, r0, r1, r2, r3, r4, r5, r6, r7, r8, r9, r10, r11⟩ := id hR
  obtain ⟨c1, c2, c3, c4, c5, c6, c7, c8, c9, c10, c11, c12, c13, c14, c15, c16, c17, c18, c19, c20, c21, c22, c23, c24, c25⟩ := bt_zo_f P hP
  generalize hζ : Ω.1 = ζ at *
  generalize hσ : Ω.2.1.1 = σ at *
  have q0 := hQ μ (fun a _ => rfl)
  unfold bt_i32 at hy
  unfold an_walk at q0 hQ
  simp (disch := omega) only [tX10_walk_0, tX10_walk_12, bt_ild, bt_ald, bt_cV, bt_sig, bt_tg, bt_loc, bt_locs, List.getElem?_cons_zero, List.getElem?_cons_succ, List.set_cons_zero, List.set_cons_succ, List.map_cons, List.map_nil, List.take_succ_cons, List.take_zero, List.drop_succ_cons, List.drop_zero, List.reverse_cons, List.reverse_nil, List.nil_append, List.cons_append, List.append_nil, List.length_cons, List.length_nil, List.replicate_succ, List.replicate_zero, Option.toList_some, Option.toList_none, Nat.reduceAdd, Nat.reduceSub, Nat.reduceLeDiff, Nat.zero_add, Nat.zero_le, true_and, and_true, Int.toNat_natCast, Sum.inl.injEq, Sum.inr.injEq, ↓reduceIte, Nat.reduceEqDiff, sh_0]
  repeat (refine And.intro (by first | omega | decide | (simp only [and_true, true_and]; omega)) ?_)
  refine is_call (n := nP ζ) (k := 0) hR n0 m0 hx _ (Or.inl ⟨rfl, rfl⟩) ?_
  by_cases h1 : 0 ≤ x ∧ x < (nP ζ : Int)
  · rw [if_pos h1]
    simp (disch := omega) only [bt_ret, bt_ifeq, bt_ild, bt_ic, bt_ifge, bt_iret, bt_ald, bt_gfR, bt_cV, bt_sig, bt_tg, bt_loc, bt_locs, List.getElem?_cons_zero, List.getElem?_cons_succ, List.set_cons_zero, List.set_cons_succ, List.map_cons, List.map_nil, List.take_succ_cons, List.take_zero, List.drop_succ_cons, List.drop_zero, List.reverse_cons, List.reverse_nil, List.nil_append, List.cons_append, List.append_nil, List.length_cons, List.length_nil, List.replicate_succ, List.replicate_zero, Option.toList_some, Option.toList_none, Nat.reduceAdd, Nat.reduceSub, Nat.reduceLeDiff, Nat.zero_add, Nat.zero_le, true_and, and_true, Int.toNat_natCast, Sum.inl.injEq, Sum.inr.injEq, ↓reduceIte, Nat.reduceEqDiff, bt_w_id, Int.reduceEq, ↓reduceIte, r5, r6, r8, sh_0, sh_71, sh_105, hρ 105 _ (by decide), rf_105_0]
    by_cases h2 : 0 ≤ y
    · rw [if_pos h2]
      simp only [if_pos (And.intro h1 h2)] at hQ
      obtain ⟨p, rfl⟩ : ∃ k : Nat, x = (k : Int) := ⟨x.toNat, by omega⟩
      simp only [Int.toNat_natCast] at hQ
      have e8 : μ (P + 8) = ζ 8 := hE 8 (by decide)
      have ewh : ab_gl (fW (bt_vw μ 106)) (nG ζ) = an_G ζ σ := ab_gl_congr _ (fun g hg => by unfold fW; rw [(hsq.2.2.1 g hg).1])
      repeat (refine And.intro (by first | omega | decide | (simp only [and_true, true_and]; omega)) ?_)
      refine ⟨ρ, μ, P, 106, nG ζ, nP ζ, p, fW (bt_vw μ 106), rfl, rfl, hρ, hP, bt_m136.2.1, by omega, n1, m1, fun g hg => ?_, n0, m0, fun i hi => by rw [e8]; exact hz.2.2.2.2 i hi, fun μ2 h72 h3 hf => ?_⟩
      · have h4 := (hSt.1 g hg).1
        have h5 : bt_vw μ 106 1 g = σ 1 g := (hsq.2.2.1 g hg).1.symm
        unfold fW
        rw [h5]
        have h6 : μ (106 + 1) g = σ 1 g := h5
        rw [h6]
        omega
      rw [ewh, e8] at h72
      rw [ewh] at h3
      have q := hQ μ2 (fun a ha => hf a (by unfold ci_s2 at ha; unfold bt_inR; omega))
      have hpc : bt_pcn (an_G ζ σ) 16 ≤ 6 := ab_pc6 _ (ab_gl_lt _ (fun g hg => by have := (hSt.1 g hg).1; unfold fW; omega))
      have hr := ab_wk_rg (mn := ζ 8) (len := bt_pcn (an_G ζ σ) 16) (P := nP ζ) (fun i hi => (hz.2.2.2.2 i hi).1) (bt_pcn (an_G ζ σ) 16) p (an_G ζ σ) 0 (1000, μ 74, μ 73) (by omega) m0 (by omega) (by omega) (by show (0 : Int) ≤ 1000; omega) (by show (1000 : Int) ≤ 1000; omega)
      generalize hRR : ab_wk (ζ 8) (bt_pcn (an_G ζ σ) 16) (nP ζ) (bt_pcn (an_G ζ σ) 16) p (an_G ζ σ) 0 (1000, μ 74, μ 73) = R at *
      have g1 : μ2 71 4 = R.1 := congrArg (fun s : ab_St => s.1) h72
      have g2 : μ2 74 = R.2.1 := congrArg (fun s : ab_St => s.2.1) h72
      simp (disch := omega) only [tX10_walk_57, tX10_walk_84, bt_ret, bt_ild, bt_ic, bt_ifne, bt_icmpge, bt_icmple, bt_isub, bt_ial, bt_ix, bt_iret, bt_ald, bt_gfR, bt_gfI, bt_loc, bt_locs, List.getElem?_cons_zero, List.getElem?_cons_succ, List.set_cons_zero, List.set_cons_succ, List.map_cons, List.map_nil, List.take_succ_cons, List.take_zero, List.drop_succ_cons, List.drop_zero, List.reverse_cons, List.reverse_nil, List.nil_append, List.cons_append, List.append_nil, List.length_cons, List.length_nil, List.replicate_succ, List.replicate_zero, Option.toList_some, Option.toList_none, Nat.reduceAdd, Nat.reduceSub, Nat.reduceLeDiff, Nat.zero_add, Nat.zero_le, true_and, and_true, Int.toNat_natCast, Sum.inl.injEq, Sum.inr.injEq, ↓reduceIte, Nat.reduceEqDiff, bt_w_id, r5, sh_0, sh_71, sh_74, hρ 71 _ (by decide), rf_71_2, g1, h3]
      repeat (refine And.intro (by first | omega | decide | (simp only [and_true, true_and]; omega)) ?_)
      by_cases h5 : 1000 ≤ R.1
      · rw [if_pos h5]
        rw [if_pos (Or.inl h5)] at q
        exact q
      · rw [if_neg h5]
        repeat (refine And.intro (by first | omega | decide | (simp only [and_true, true_and]; omega)) ?_)
        by_cases h6 : y ≤ (bt_pcn (an_G ζ σ) 16 : Int)
        · rw [if_pos h6]
          rw [if_neg (by omega)] at q
          by_cases h7 : y = 0
          · rw [if_pos h7] at q ⊢
            repeat (refine And.intro (by first | omega | decide | (simp only [and_true, true_and]; omega)) ?_)
            exact q
          · rw [if_neg h7] at q ⊢
            repeat (refine And.intro (by first | omega | decide | (simp only [and_true, true_and]; omega)) ?_)
            rw [g2]
            exact q
        · rw [if_neg h6]
          rw [if_pos (by omega)] at q
          exact q
    · rw [if_neg h2]
      rw [if_neg (fun q => h2 q.2)] at q0
      exact q0
  · rw [if_neg h1]
    rw [if_neg (fun q => h1 q.1)] at q0
    simp (disch := omega) only [bt_ild, bt_lld, bt_ald, bt_ist, bt_lst, bt_ast, bt_inc, bt_ic, bt_lc, bt_iadd, bt_isub, bt_imul, bt_iand, bt_ior, bt_ixor, bt_ishl, bt_ishr, bt_iushr, bt_ladd, bt_lsub, bt_lmul, bt_land, bt_lor, bt_lushr, bt_lshl, bt_idiv, bt_irem, bt_ldiv, bt_lrem, bt_lcmp, bt_i2l, bt_l2i, bt_i2b, bt_pop, bt_dup, bt_dup2, bt_gfI, bt_gfJ, bt_gfR, bt_pfI, bt_pfZ, bt_pfJ, bt_pfR, bt_ial, bt_bal, bt_zal, bt_lal, bt_aal, bt_ias, bt_bas, bt_zas, bt_las, bt_len, bt_iret, bt_zret, bt_lret, bt_vret, bt_cV, bt_cS, bt_tab, bt_tsw, bt_lk, bt_lsw, bt_acp, bt_mmax, bt_mmin, bt_can, bt_icmpeq, bt_ifeq, bt_icmpne, bt_ifne, bt_icmplt, bt_iflt, bt_icmpge, bt_ifge, bt_icmpgt, bt_ifgt, bt_icmple, bt_ifle, bt_ret, bt_kill, bt_kl, bt_ix, bt_nl, bt_sm, bt_sr, bt_sig, bt_tg, bt_loc, bt_locs, List.getElem?_cons_zero, List.getElem?_cons_succ, List.set_cons_zero, List.set_cons_succ, List.map_cons, List.map_nil, List.take_succ_cons, List.take_zero, List.drop_succ_cons, List.drop_zero, List.reverse_cons, List.reverse_nil, List.nil_append, List.cons_append, List.append_nil, List.length_cons, List.length_nil, List.replicate_succ, List.replicate_zero, Option.toList_some, Option.toList_none, Nat.reduceAdd, Nat.reduceSub, Nat.reduceLeDiff, Nat.zero_add, Nat.zero_le, true_and, and_true, Int.toNat_natCast, Sum.inl.injEq, Sum.inr.injEq, ↓reduceIte, Nat.reduceEqDiff, bt_w_id, ↓reduceIte]
    exact q0
def sh_R (ζ σ : Nat → Nat → Int) (s : ab_Sx) : Prop := ∃ ζ' σ' a b r, ab_zq ζ ζ' ∧ ab_sq ζ σ σ' ∧ s = ab_pt ζ' σ' (nG ζ) 0 (fun _ => 0) (bt_sn6 (nG ζ) (0, a, b, r)) ∧ (0 ≤ a ∧ a ≤ 4995) ∧ 0 ≤ b ∧ b ≤ 6
def an_show (n : Nat) (s : ab_Sx) (y : Int) : Int := if s.1 = 0 ∨ y < 0 ∨ (n : Int) + 2 ≤ y then -1 else if y = 0 then s.2.1 else if y = 1 then s.2.2.1 else s.2.2.2 (y - 2).toNat
def SpX10_show : bt_Sp := fun As w Q => ∃ (ρ : Nat → Nat → Option Nat) (μ : Nat → Nat → Int) (Ω : om_O) (y : Int), As = [.inr (.inr 0), .inl y] ∧ w = bt_wd ρ μ ∧ ci_I Ω ρ μ ∧ bt_i32 y ∧ ∀ μ' s, sh_R Ω.1 Ω.2.1.1 s → ci_I Ω ρ μ' → bt_fr (fun a => 19 ≤ a ∧ a ≤ 35) μ' μ → Q (some (.inl (an_show (nG Ω.1) s y))) (bt_wd ρ μ')
set_option maxHeartbeats 4000000 in
theorem mtX10_show : bt_Met yX10_show cX10_show 2 (some .int) 67 [2, 0] SpX10_show := by
  refine bt_metW (lfX10_show mtX5_search (by decide)) (fun As w Q _ hS => ?_)
  obtain ⟨ρ, μ, Ω, y, rfl, rfl, hI, hy, hQ⟩ := hS
  obtain ⟨P, P', hR, hE, hz1, hZ', hS', hZ, hSt, hsq, ⟨⟨n0, m0⟩, ⟨n1, m1⟩, n2, m2⟩, hP1, hP2⟩ := ci_f hI
  obtain ⟨PP, PP', wR, wE, hz, ws, wM, wg, wK, wU, wT, hW⟩ := id hI
  obtain ⟨hρ, ⟨hP, hP', hPP⟩, r0, r1, r2, r3, r4, r5, r6, r7, r8, r9, r10, r11⟩ := id hR
  obtain ⟨c1, c2, c3, c4, c5, c6, c7, c8, c9, c10, c11, c12, c13, c14, c15, c16, c17, c18, c19, c20, c21, c22, c23, c24, c25⟩ := bt_zo_f P hP
  have hPP1 : PP = P := by
    have h1 := wR.2.2.2.2.2.2.2.2.1
    rw [r6] at h1
    exact (Option.some.inj h1).symm
  have hPP2 : PP' = P' := by
    have h1 := wR.2.2.2.2.2.2.2.2.2.1
    rw [r7] at h1
    exact (Option.some.inj h1).symm
  subst hPP1 hPP2
  unfold bt_i32 at hy
  obtain ⟨w1, w2, w3⟩ := hW
  have l28 : ∀ μ2 s, sh_R Ω.1 Ω.2.1.1 s → s = bt_sn6 (nG Ω.1) (bt_sx μ2) → ab_sxr (bt_sx μ2) → ci_I Ω ρ μ2 → bt_fr (fun a => 19 ≤ a ∧ a ≤ 35) μ2 μ → tX10_show_28 SpX5_search bt_k0 Q [] [some (.inr (.inr 0)), some (.inl y)] (bt_wd ρ μ2) := fun μ2 s hsR hs hr hI2 hf => by
    have q := hQ μ2 s hsR hI2 hf
    unfold an_show at q
    have e1 : μ2 PP = μ PP := hf PP (by omega)
    have s1 : s.1 = μ2 19 6 := by rw [hs]; rfl
    have s2 : s.2.1 = μ2 19 7 := by rw [hs]; rfl
    have s3 : s.2.2.1 = μ2 19 8 := by rw [hs]; rfl
    have s4 : ∀ i, i < nG Ω.1 → s.2.2.2 i = μ2 33 i := fun i hi => by
      rw [hs]
      show (if i < nG Ω.1 then μ2 33 i else 0) = _
      rw [if_pos hi]
    have hr1 : μ2 19 6 = 0 ∨ μ2 19 6 = 1 := hr.1
    rw [s1, s2, s3] at q
    simp (disch := omega) only [tX10_show_28, tX10_show_55, tX10_show_97, bt_ild, bt_ic, bt_ifeq, bt_iflt, bt_ifne, bt_icmplt, bt_icmpne, bt_iadd, bt_isub, bt_ial, bt_ix, bt_iret, bt_ald, bt_gfR, bt_gfI, bt_loc, bt_locs, List.getElem?_cons_zero, List.getElem?_cons_succ, List.set_cons_zero, List.set_cons_succ, List.map_cons, List.map_nil, List.take_succ_cons, List.take_zero, List.drop_succ_cons, List.drop_zero, List.reverse_cons, List.reverse_nil, List.nil_append, List.cons_append, List.append_nil, List.length_cons, List.length_nil, List.replicate_succ, List.replicate_zero, Option.toList_some, Option.toList_none, Nat.reduceAdd, Nat.reduceSub, Nat.reduceLeDiff, Nat.zero_add, Nat.zero_le, true_and, and_true, Int.toNat_natCast, Sum.inl.injEq, Sum.inr.injEq, ↓reduceIte, Nat.reduceEqDiff, bt_w_id, r3, r6, sh_0, sh_19, sh_33, hρ 19 _ (by decide), rf_19_2, hρ PP _ c2, c3, c4, c5, c6, c7, c8, c9, c10, c11, c12, c13, c14, c15, c16, c17, c18, c19, c20, c21, c22, c23, c24, e1, n1]
    repeat (refine And.intro (by first | omega | decide | (simp only [and_true, true_and]; omega)) ?_)
    by_cases h6 : μ2 19 6 = 0
    · rw [if_pos h6]
      rw [if_pos (Or.inl h6)] at q
      exact q
    · rw [if_neg h6]
      by_cases hy0 : y < 0
      · rw [if_pos hy0]
        rw [if_pos (Or.inr (Or.inl hy0))] at q
        exact q
      · rw [if_neg hy0]
        repeat (refine And.intro (by first | omega | decide | (simp only [and_true, true_and]; omega)) ?_)
        by_cases hyn : y < 2 + (nG Ω.1 : Int)
        · rw [if_pos hyn]
          rw [if_neg (by omega)] at q
          by_cases v0 : y = 0
          · rw [if_pos v0] at q ⊢
            repeat (refine And.intro (by first | omega | decide | (simp only [and_true, true_and]; omega)) ?_)
            exact q
          · rw [if_neg v0] at q ⊢
            by_cases v1 : y = 1
            · rw [if_pos v1] at q ⊢
              repeat (refine And.intro (by first | omega | decide | (simp only [and_true, true_and]; omega)) ?_)
              exact q
            · rw [if_neg v1] at q ⊢
              rw [s4 _ (by omega)] at q
              repeat (refine And.intro (by first | omega | decide | (simp only [and_true, true_and]; omega)) ?_)
              exact q
        · rw [if_neg hyn]
          rw [if_pos (by omega)] at q
          exact q
  simp (disch := omega) only [tX10_show_0, bt_ald, bt_gfR, bt_gfI, bt_ifne, bt_cV, bt_sig, bt_tg, bt_loc, bt_locs, List.getElem?_cons_zero, List.getElem?_cons_succ, List.set_cons_zero, List.set_cons_succ, List.map_cons, List.map_nil, List.take_succ_cons, List.take_zero, List.drop_succ_cons, List.drop_zero, List.reverse_cons, List.reverse_nil, List.nil_append, List.cons_append, List.append_nil, List.length_cons, List.length_nil, List.replicate_succ, List.replicate_zero, Option.toList_some, Option.toList_none, Nat.reduceAdd, Nat.reduceSub, Nat.reduceLeDiff, Nat.zero_add, Nat.zero_le, true_and, and_true, Int.toNat_natCast, Sum.inl.injEq, Sum.inr.injEq, ↓reduceIte, Nat.reduceEqDiff, r3, r6, r8, sh_0, sh_19, sh_105, hρ 105 _ (by decide), rf_105_0]
  repeat (refine And.intro (by first | omega | decide | (simp only [and_true, true_and]; omega)) ?_)
  rcases w3 with h5 | ⟨h5, ζ', σ', a, b, r, z1, z2, z3, z4, z5⟩
  · rw [if_pos (show bt_w (μ 19 5) = 0 by rw [h5]; rfl)]
    repeat (refine And.intro (by first | omega | decide | (simp only [and_true, true_and]; omega)) ?_)
    refine ⟨ρ, μ, PP, 106, rfl, rfl, hρ, hP, bt_m136.2.1, hZ', hS', w1, w2, fun μ2 σ' g1 g2 g3 hf => ?_⟩
    have hnn := hz1.n.1
    rw [← hnn] at g2
    have hs2 : ab_sq Ω.1 Ω.2.1.1 σ' := hsq.tr (ab_sq.zz hz1.sy g1).sy
    have hr0 : ab_sxr (bt_sn6 (nG Ω.1) (0, μ 19 7, μ 19 8, μ 33)) := ⟨Or.inl rfl, w1, w2⟩
    have hr := ab_pt_r hZ' (ab_sq.S hz1 hs2 hSt) (nG Ω.1) 0 (fun _ => 0) _ (by rw [hnn]; omega) (fun i hi => by omega) hr0
    rw [← g2] at hr
    have hsR : sh_R Ω.1 Ω.2.1.1 (bt_sn6 (nG Ω.1) (bt_sx μ2)) := ⟨bt_vw μ PP, σ', μ 19 7, μ 19 8, μ 33, hz1, hs2, g2, w1, w2⟩
    have hfc : ∀ a, ¬ (19 ≤ a ∧ a ≤ 35) → μ2 a = μ a := hf
    have hI2 : ci_I Ω ρ μ2 := by
      refine ⟨PP, PP', hR, fun j hj => ?_, hz, ⟨?_, ?_⟩, wM.fr (fun a h1 h2 => hfc a (by omega)), wg, fun i hi => (wK i hi).fr (fun a h1 h2 => hfc a (by omega)), wU.fr (hfc 0 (by omega)) (fun a h1 h2 => hfc a (by omega)), wT.fr (by rw [hfc 1 (by omega)]) (hfc 2 (by omega)) (hfc 3 (by omega)), ?_, ?_, Or.inr ⟨g3, hsR⟩⟩
      · rw [hfc _ (by omega)]; exact wE j hj
      · have := bt_zo2 PP' hP'; rw [hfc _ (by omega)]; exact ws.1
      · have := bt_zo2 PP' hP'; rw [hfc _ (by omega)]; exact ws.2
      · exact hr.2.1
      · exact hr.2.2
    simp (disch := omega) only [bt_ret, bt_loc, bt_locs, List.getElem?_cons_zero, List.getElem?_cons_succ, List.set_cons_zero, List.set_cons_succ, List.map_cons, List.map_nil, List.take_succ_cons, List.take_zero, List.drop_succ_cons, List.drop_zero, List.reverse_cons, List.reverse_nil, List.nil_append, List.cons_append, List.append_nil, List.length_cons, List.length_nil, List.replicate_succ, List.replicate_zero, Option.toList_some, Option.toList_none, Nat.reduceAdd, Nat.reduceSub, Nat.reduceLeDiff, Nat.zero_add, Nat.zero_le, true_and, and_true, Int.toNat_natCast, Sum.inl.injEq, Sum.inr.injEq, ↓reduceIte, Nat.reduceEqDiff]
    exact l28 μ2 _ hsR rfl hr hI2 hf
  · rw [if_neg (show ¬ bt_w (μ 19 5) = 0 by rw [h5]; decide)]
    have hnn := z1.n.1
    have hr0 : ab_sxr (bt_sn6 (nG Ω.1) (0, a, b, r)) := ⟨Or.inl rfl, z4, z5⟩
    have hr := ab_pt_r (z1.Z hZ) (ab_sq.S z1 z2 hSt) (nG Ω.1) 0 (fun _ => 0) _ (by rw [← hnn]; omega) (fun i hi => by omega) hr0
    rw [← z3] at hr
    exact l28 μ _ ⟨ζ', σ', a, b, r, z1, z2, z3, z4, z5⟩ rfl hr hI (fun _ _ => rfl)
