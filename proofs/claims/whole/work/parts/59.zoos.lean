/-! the class: days, zoo -/
def dy_R (Ω : om_O) (l5 : Nat → Int) : Int × Nat × (Nat → Int) := rz_dal Ω.2.2.2.2.2 Ω.2.2.2.2.1 Ω.1 41 0 l5 (tk_to tk_B Ω.2.2.2.2.2 Ω.2.2.2.2.1 0)
def om_dy (Ω : om_O) (R : Int × Nat × (Nat → Int)) : om_O := (Ω.1, (if R.1 = 0 then (Ω.2.1.1, R.2.1, (fun i => (R.2.2 i).toNat), Ω.2.1.2.2.2) else Ω.2.1), Ω.2.2.1, Ω.2.2.2.1, (0, Ω.2.2.2.2.2))
/-- lines that are put are good -/
theorem rz_dy_ok {t : Nat → Int} {n : Nat} {ζ : Nat → Nat → Int} {lc c : Nat} (hN : rz_N ζ) (h : (rz_dy t n ζ lc c).1 = 0) : ∃ x : Nat, (rz_dy t n ζ lc c).2.2 = (x : Int) ∧ ln_ok ζ x ∧ lc < 40 := by
  have hn := hN.n
  unfold rz_dy at h ⊢
  split at h
  · dsimp only at h; omega
  next h1 =>
    rw [if_neg h1]
    split at h
    · dsimp only at h; omega
    next h2 =>
      rw [if_neg h2]
      split at h
      next h3 =>
        rw [if_pos h3]
        exact ⟨2, rfl, ⟨by decide, by decide, fun q => by omega, fun q => by omega⟩, by omega⟩
      next h3 =>
        rw [if_neg h3]
        split at h
        · contradiction
        next h4 =>
          rw [if_neg h4]
          have h4' : rz_to t n (ζ 2) (nG ζ) (tk_j t n 1 c) = 0 := Classical.not_not.mp h4
          obtain ⟨-, i1, i2⟩ := rz_to_0 h4'
          have hg : rz_a t n (ζ 2) (nG ζ) (tk_j t n 1 c) < nG ζ := by unfold rz_a; omega
          split at h
          next h5 =>
            rw [if_pos h5]
            refine ⟨_, rfl, ⟨by omega, by omega, fun q => by omega, fun q => by omega⟩, by omega⟩
          next h5 =>
            rw [if_neg h5]
            split at h
            · contradiction
            next h6 =>
              rw [if_neg h6]
              have h6' : rz_to t n (ζ 1) (nP ζ) (tk_j t n 2 c) = 0 := Classical.not_not.mp h6
              obtain ⟨-, j1, j2⟩ := rz_to_0 h6'
              have hp : rz_a t n (ζ 1) (nP ζ) (tk_j t n 2 c) < nP ζ := by unfold rz_a; omega
              refine ⟨_, rfl, ⟨by omega, by omega, fun q => by omega, fun q => by omega⟩, by omega⟩
theorem rz_dal_ok {t : Nat → Int} {n : Nat} {ζ : Nat → Nat → Int} (hN : rz_N ζ) : ∀ f lc ln c, lc ≤ 40 → (∀ i, i < lc → ∃ x : Nat, ln i = (x : Int) ∧ ln_ok ζ x) → (rz_dal t n ζ f lc ln c).1 = 0 → (rz_dal t n ζ f lc ln c).2.1 ≤ 40 ∧ ∀ i, i < (rz_dal t n ζ f lc ln c).2.1 → ∃ x : Nat, (rz_dal t n ζ f lc ln c).2.2 i = (x : Int) ∧ ln_ok ζ x
  | 0, lc, ln, c, h40, hl, _ => ⟨h40, hl⟩
  | f + 1, lc, ln, c, h40, hl, h => by
    unfold rz_dal at h ⊢
    split at h
    next h1 => rw [if_pos h1]; exact ⟨h40, hl⟩
    next h1 =>
      rw [if_neg h1]
      split at h
      · contradiction
      next h2 =>
        rw [if_neg h2]
        split at h
        next h3 =>
          rw [if_pos h3]
          obtain ⟨x, x1, x2, x3⟩ := rz_dy_ok hN (Classical.not_not.mp h2)
          refine rz_dal_ok hN f (lc + 1) _ _ (by omega) (fun i hi => ?_) h
          unfold ab_put
          by_cases e : i = lc
          · rw [if_pos e]; exact ⟨x, x1, x2⟩
          · rw [if_neg e]; exact hl i (by omega)
        · dsimp only at h; omega
def SpX10_days : bt_Sp := fun As w Q => ∃ (ρ : Nat → Nat → Option Nat) (μ : Nat → Nat → Int) (Ω : om_O), As = [.inr (.inr 0)] ∧ w = bt_wd ρ μ ∧ ci_I Ω ρ μ ∧ ∀ μ', ci_I (om_dy Ω (dy_R Ω (μ 5))) ρ μ' → bt_fr (fun a => a < 205) μ' μ → Q (some (.inl (dy_R Ω (μ 5)).1)) (bt_wd ρ μ')
set_option maxHeartbeats 4000000 in
theorem mtX10_days : bt_Met yX10_days cX10_days 2 (some .int) 6 [2] SpX10_days := by
  refine bt_metW (lfX10_days mtX3_readDays (by decide) mtX2_takeDays (by decide)) (fun As w Q _ hS => ?_)
  obtain ⟨ρ, μ, Ω, rfl, rfl, hI, hQ⟩ := hS
  obtain ⟨P, P', hR, hE, hz, hs, hM, hg, hK, hU, hT, hW⟩ := id hI
  obtain ⟨hρ, ⟨hP, hP', hPP⟩, r0, r1, r2, r3, r4, r5, r6, r7, r8, r9, r10, r11⟩ := id hR
  have b1 := bt_zo2 P hP
  have b2 := bt_zo2 P' hP'
  have hTp : bt_Tp μ Ω.2.2.2.2.2 Ω.2.2.2.2.1 := ⟨hT.1, hT.2.1, hT.2.2.1, hT.2.2.2.1, hT.2.2.2.2⟩
  simp (disch := omega) only [tX10_days_0, bt_ald, bt_gfR, bt_cV, bt_sig, bt_tg, bt_loc, bt_locs, List.getElem?_cons_zero, List.getElem?_cons_succ, List.set_cons_zero, List.set_cons_succ, List.map_cons, List.map_nil, List.take_succ_cons, List.take_zero, List.drop_succ_cons, List.drop_zero, List.reverse_cons, List.reverse_nil, List.nil_append, List.cons_append, List.append_nil, List.length_cons, List.length_nil, List.replicate_succ, List.replicate_zero, Option.toList_some, Option.toList_none, Nat.reduceAdd, Nat.reduceSub, Nat.reduceLeDiff, Nat.zero_add, Nat.zero_le, true_and, and_true, Int.toNat_natCast, Sum.inl.injEq, Sum.inr.injEq, ↓reduceIte, Nat.reduceEqDiff, r1, r6, sh_0, sh_4]
  repeat (refine And.intro (by first | omega | decide | (simp only [and_true, true_and]; omega)) ?_)
  refine ⟨ρ, μ, Ω.2.2.2.2.2, Ω.2.2.2.2.1, P, Ω.1, rfl, rfl, hρ, hP, hTp, fun j hj => hE j (by omega), hz.2.1, fun μ1 R hRR g1 g2 f1 => ?_⟩
  have hRR' : dy_R Ω (μ 5) = R := hRR
  rw [hRR'] at hQ
  have hok := rz_dal_ok (t := Ω.2.2.2.2.2) (n := Ω.2.2.2.2.1) hz.2.1 41 0 (μ 5) (tk_to tk_B Ω.2.2.2.2.2 Ω.2.2.2.2.1 0) (by omega) (fun i hi => by omega)
  rw [hRR] at hok
  have fr1 : ∀ a, a ≠ 1 → a ≠ 4 → a ≠ 5 → μ1 a = μ a := fun a h1 h2 h3 => f1 a (by unfold rz_iD; omega)
  have hT1 : ∀ μ2, μ2 1 2 = 0 → μ2 2 = μ 2 → μ2 3 = μ 3 → ci_T μ2 0 Ω.2.2.2.2.2 := fun μ2 h1 h2 h3 => ⟨h1, by omega, by rw [h2]; exact hT.2.2.1, fun i hi => by omega, by rw [h3]; exact hT.2.2.2.2⟩
  have hRi : R.1 ≠ 0 ∨ R.1 = 0 := by omega
  simp (disch := omega) only [bt_ret, bt_ist, bt_nl, bt_ild, bt_ifne, bt_loc, bt_locs, List.getElem?_cons_zero, List.getElem?_cons_succ, List.set_cons_zero, List.set_cons_succ, List.map_cons, List.map_nil, List.take_succ_cons, List.take_zero, List.drop_succ_cons, List.drop_zero, List.reverse_cons, List.reverse_nil, List.nil_append, List.cons_append, List.append_nil, List.length_cons, List.length_nil, List.replicate_succ, List.replicate_zero, Option.toList_some, Option.toList_none, Nat.reduceAdd, Nat.reduceSub, Nat.reduceLeDiff, Nat.zero_add, Nat.zero_le, true_and, and_true, Int.toNat_natCast, Sum.inl.injEq, Sum.inr.injEq, ↓reduceIte, Nat.reduceEqDiff]
  have hrg : bt_w R.1 = R.1 := by
    have h1 := rz_dal_r (t := Ω.2.2.2.2.2) (n := Ω.2.2.2.2.1) (ζ := Ω.1) 41 0 (μ 5) _ (tk_to_rg (ok := tk_B) (t := Ω.2.2.2.2.2) (Nat.zero_le Ω.2.2.2.2.1)).2.1
    rw [hRR] at h1
    have h2 := hT.2.1
    unfold fl_r at h1
    exact bt_w_id (by omega) (by omega)
  rw [hrg]
  rcases hRi with h0 | h0
  · rw [if_neg h0]
    simp (disch := omega) only [tX10_days_37, bt_ild, bt_lld, bt_ald, bt_ist, bt_lst, bt_ast, bt_inc, bt_ic, bt_lc, bt_iadd, bt_isub, bt_imul, bt_iand, bt_ior, bt_ixor, bt_ishl, bt_ishr, bt_iushr, bt_ladd, bt_lsub, bt_lmul, bt_land, bt_lor, bt_lushr, bt_lshl, bt_idiv, bt_irem, bt_ldiv, bt_lrem, bt_lcmp, bt_i2l, bt_l2i, bt_i2b, bt_pop, bt_dup, bt_dup2, bt_gfI, bt_gfJ, bt_gfR, bt_pfI, bt_pfZ, bt_pfJ, bt_pfR, bt_ial, bt_bal, bt_zal, bt_lal, bt_aal, bt_ias, bt_bas, bt_zas, bt_las, bt_len, bt_iret, bt_zret, bt_lret, bt_vret, bt_cV, bt_cS, bt_tab, bt_tsw, bt_lk, bt_lsw, bt_acp, bt_mmax, bt_mmin, bt_can, bt_icmpeq, bt_ifeq, bt_icmpne, bt_ifne, bt_icmplt, bt_iflt, bt_icmpge, bt_ifge, bt_icmpgt, bt_ifgt, bt_icmple, bt_ifle, bt_ret, bt_kill, bt_kl, bt_ix, bt_nl, bt_sm, bt_sr, bt_sig, bt_tg, bt_loc, bt_locs, List.getElem?_cons_zero, List.getElem?_cons_succ, List.set_cons_zero, List.set_cons_succ, List.map_cons, List.map_nil, List.take_succ_cons, List.take_zero, List.drop_succ_cons, List.drop_zero, List.reverse_cons, List.reverse_nil, List.nil_append, List.cons_append, List.append_nil, List.length_cons, List.length_nil, List.replicate_succ, List.replicate_zero, Option.toList_some, Option.toList_none, Nat.reduceAdd, Nat.reduceSub, Nat.reduceLeDiff, Nat.zero_add, Nat.zero_le, true_and, and_true, Int.toNat_natCast, Sum.inl.injEq, Sum.inr.injEq, ↓reduceIte, Nat.reduceEqDiff]
    refine hQ μ1 ?_ (fun a ha => fr1 a (by omega) (by omega) (by omega))
    unfold om_dy
    rw [if_neg h0]
    refine ⟨P, P', hR, fun j hj => ?_, hz, ⟨?_, ?_⟩, hM.fr (fun a h1 h2 => fr1 a (by omega) (by omega) (by omega)), hg, fun i hi => (hK i hi).fr (fun a h1 h2 => fr1 a (by omega) (by omega) (by omega)), hU.fr (fr1 0 (by omega) (by omega) (by omega)) (fun a h1 h2 => fr1 a (by omega) (by omega) (by omega)), hT1 μ1 g2 (fr1 2 (by omega) (by omega) (by omega)) (fr1 3 (by omega) (by omega) (by omega)), hW.fr (fr1 19 (by omega) (by omega) (by omega)) (fr1 33 (by omega) (by omega) (by omega))⟩
    · rw [fr1 _ (by omega) (by omega) (by omega)]; exact hE j hj
    · rw [fr1 _ (by omega) (by omega) (by omega)]; exact hs.1
    · rw [fr1 _ (by omega) (by omega) (by omega)]; exact hs.2
  · rw [if_pos h0]
    obtain ⟨g3, g4, g5⟩ := g1 h0
    obtain ⟨-, ok2⟩ := hok h0
    simp (disch := omega) only [tX10_days_37, bt_ild, bt_lld, bt_ald, bt_ist, bt_lst, bt_ast, bt_inc, bt_ic, bt_lc, bt_iadd, bt_isub, bt_imul, bt_iand, bt_ior, bt_ixor, bt_ishl, bt_ishr, bt_iushr, bt_ladd, bt_lsub, bt_lmul, bt_land, bt_lor, bt_lushr, bt_lshl, bt_idiv, bt_irem, bt_ldiv, bt_lrem, bt_lcmp, bt_i2l, bt_l2i, bt_i2b, bt_pop, bt_dup, bt_dup2, bt_gfI, bt_gfJ, bt_gfR, bt_pfI, bt_pfZ, bt_pfJ, bt_pfR, bt_ial, bt_bal, bt_zal, bt_lal, bt_aal, bt_ias, bt_bas, bt_zas, bt_las, bt_len, bt_iret, bt_zret, bt_lret, bt_vret, bt_cV, bt_cS, bt_tab, bt_tsw, bt_lk, bt_lsw, bt_acp, bt_mmax, bt_mmin, bt_can, bt_icmpeq, bt_ifeq, bt_icmpne, bt_ifne, bt_icmplt, bt_iflt, bt_icmpge, bt_ifge, bt_icmpgt, bt_ifgt, bt_icmple, bt_ifle, bt_ret, bt_kill, bt_kl, bt_ix, bt_nl, bt_sm, bt_sr, bt_sig, bt_tg, bt_loc, bt_locs, List.getElem?_cons_zero, List.getElem?_cons_succ, List.set_cons_zero, List.set_cons_succ, List.map_cons, List.map_nil, List.take_succ_cons, List.take_zero, List.drop_succ_cons, List.drop_zero, List.reverse_cons, List.reverse_nil, List.nil_append, List.cons_append, List.append_nil, List.length_cons, List.length_nil, List.replicate_succ, List.replicate_zero, Option.toList_some, Option.toList_none, Nat.reduceAdd, Nat.reduceSub, Nat.reduceLeDiff, Nat.zero_add, Nat.zero_le, true_and, and_true, Int.toNat_natCast, Sum.inl.injEq, Sum.inr.injEq, ↓reduceIte, Nat.reduceEqDiff, r1, r8, sh_0, sh_4, sh_105, hρ 4 _ (by decide), rf_4_2, g3]
    repeat (refine And.intro (by first | omega | decide | (simp only [and_true, true_and]; omega)) ?_)
    refine ⟨ρ, μ1, 105, 5, _, rfl, rfl, hρ, bt_m136.2.2.2, by decide, rfl, fun μ2 y1 y2 f2 => ?_⟩
    have fr2 : ∀ a, a ≠ 1 → a ≠ 4 → a ≠ 5 → a ≠ 105 → a ≠ 110 → μ2 a = μ a := fun a h1 h2 h3 h4 h5 => by rw [f2 a (by omega), fr1 a h1 h2 h3]
    simp (disch := omega) only [bt_ild, bt_lld, bt_ald, bt_ist, bt_lst, bt_ast, bt_inc, bt_ic, bt_lc, bt_iadd, bt_isub, bt_imul, bt_iand, bt_ior, bt_ixor, bt_ishl, bt_ishr, bt_iushr, bt_ladd, bt_lsub, bt_lmul, bt_land, bt_lor, bt_lushr, bt_lshl, bt_idiv, bt_irem, bt_ldiv, bt_lrem, bt_lcmp, bt_i2l, bt_l2i, bt_i2b, bt_pop, bt_dup, bt_dup2, bt_gfI, bt_gfJ, bt_gfR, bt_pfI, bt_pfZ, bt_pfJ, bt_pfR, bt_ial, bt_bal, bt_zal, bt_lal, bt_aal, bt_ias, bt_bas, bt_zas, bt_las, bt_len, bt_iret, bt_zret, bt_lret, bt_vret, bt_cV, bt_cS, bt_tab, bt_tsw, bt_lk, bt_lsw, bt_acp, bt_mmax, bt_mmin, bt_can, bt_icmpeq, bt_ifeq, bt_icmpne, bt_ifne, bt_icmplt, bt_iflt, bt_icmpge, bt_ifge, bt_icmpgt, bt_ifgt, bt_icmple, bt_ifle, bt_ret, bt_kill, bt_kl, bt_ix, bt_nl, bt_sm, bt_sr, bt_sig, bt_tg, bt_loc, bt_locs, List.getElem?_cons_zero, List.getElem?_cons_succ, List.set_cons_zero, List.set_cons_succ, List.map_cons, List.map_nil, List.take_succ_cons, List.take_zero, List.drop_succ_cons, List.drop_zero, List.reverse_cons, List.reverse_nil, List.nil_append, List.cons_append, List.append_nil, List.length_cons, List.length_nil, List.replicate_succ, List.replicate_zero, Option.toList_some, Option.toList_none, Nat.reduceAdd, Nat.reduceSub, Nat.reduceLeDiff, Nat.zero_add, Nat.zero_le, true_and, and_true, Int.toNat_natCast, Sum.inl.injEq, Sum.inr.injEq, ↓reduceIte, Nat.reduceEqDiff]
    refine hQ μ2 ?_ (fun a ha => fr2 a (by omega) (by omega) (by omega) (by omega) (by omega))
    unfold om_dy
    rw [if_pos h0]
    refine ⟨P, P', hR, fun j hj => ?_, hz, ⟨?_, ?_⟩, ⟨bt_vwc (fun j hj => fr2 _ (by omega) (by omega) (by omega) (by omega) (by omega)) _ _ hM.1, ?_, fun i hi => ?_, ?_, ?_⟩, ⟨hg.1, g4, fun i hi => ?_, hg.2.2.2⟩, fun i hi => (hK i hi).fr (fun a h1 h2 => fr2 a (by omega) (by omega) (by omega) (by omega) (by omega)), hU.fr (fr2 0 (by omega) (by omega) (by omega) (by omega) (by omega)) (fun a h1 h2 => fr2 a (by omega) (by omega) (by omega) (by omega) (by omega)), hT1 μ2 (by rw [f2 1 (by omega)]; exact g2) (fr2 2 (by omega) (by omega) (by omega) (by omega) (by omega)) (fr2 3 (by omega) (by omega) (by omega) (by omega) (by omega)), hW.fr (fr2 19 (by omega) (by omega) (by omega) (by omega) (by omega)) (fr2 33 (by omega) (by omega) (by omega) (by omega) (by omega))⟩
    · rw [fr2 _ (by omega) (by omega) (by omega) (by omega) (by omega)]; exact hE j hj
    · rw [fr2 _ (by omega) (by omega) (by omega) (by omega) (by omega)]; exact hs.1
    · rw [fr2 _ (by omega) (by omega) (by omega) (by omega) (by omega)]; exact hs.2
    · rw [y2 2, if_pos rfl]
    · have hi' : i < R.2.1 := hi
      obtain ⟨q, q1, q2⟩ := ok2 i hi'
      rw [y1 i (by omega), g5, q1]
      show (q : Int) = (((R.2.2 i).toNat : Nat) : Int)
      rw [q1]
      rfl
    · rw [y2 3, if_neg (by decide), fr1 105 (by omega) (by omega) (by omega)]; exact hM.2.2.2.1
    · rw [y2 4, if_neg (by decide), fr1 105 (by omega) (by omega) (by omega)]; exact hM.2.2.2.2
    · obtain ⟨q, q1, q2⟩ := ok2 i hi
      show ln_ok Ω.1 (R.2.2 i).toNat
      rw [q1]
      exact q2
def zo_c0 (Ω : om_O) : Nat := tk_to tk_B Ω.2.2.2.2.2 Ω.2.2.2.2.1 0
/-- the zoo that was read, and all from its beginning -/
def om_zo (Ω : om_O) (ζ' : Nat → Nat → Int) : om_O := (ζ', ((fun j => ζ' (11 + j)), 0, (fun _ => 0), 0, 65535), (fun _ => none), (0, Ω.2.2.2.1.2), (0, Ω.2.2.2.2.2))
def om_em (Ω : om_O) : om_O := (Ω.1, Ω.2.1, Ω.2.2.1, Ω.2.2.2.1, (0, Ω.2.2.2.2.2))
def SpX10_zoo : bt_Sp := fun As w Q => ∃ (ρ : Nat → Nat → Option Nat) (μ : Nat → Nat → Int) (Ω : om_O), As = [.inr (.inr 0)] ∧ w = bt_wd ρ μ ∧ ci_I Ω ρ μ ∧ ∀ ρ' μ' ζ0 R, rz_clr ζ0 → rz_all Ω.2.2.2.2.2 Ω.2.2.2.2.1 1001 ζ0 (zo_c0 Ω) = R → (R.1 = 0 → ∃ ζ', rz_cl ζ' 0 R.2 ∧ rz_K R.2 ∧ ci_I (om_zo Ω ζ') ρ' μ') → (R.1 ≠ 0 → ci_I (om_em Ω) ρ' μ') → bt_fr (fun a => a < 205) μ' μ → Q (some (.inl R.1)) (bt_wd ρ' μ')
theorem rz_cl_z {μ ζ : Nat → Nat → Int} {z : Nat} (hz : z + 14 < 262) (h : rz_cl μ z ζ) (hK : rz_K ζ) : om_z (fun j => μ (z + j)) := by
  obtain ⟨c1, c2, c3, c4⟩ := h
  obtain ⟨⟨⟨⟨d1, d2, d3⟩, n1, n2, n3⟩, m3, fo, on1, on2⟩, se, gu, an, nu, st, s14, s15⟩ := hK
  have e : ∀ j, j < 15 → j ≠ 8 → j ≠ 9 → j ≠ 10 → (fun j => μ (z + j)) j = ζ j := c1
  have eP : nP (fun j => μ (z + j)) = nP ζ := by unfold nP; rw [e 0 (by decide) (by decide) (by decide) (by decide)]
  have eG : nG (fun j => μ (z + j)) = nG ζ := by unfold nG; rw [e 0 (by decide) (by decide) (by decide) (by decide)]
  have eA : nA (fun j => μ (z + j)) = nA ζ := by unfold nA; rw [e 0 (by decide) (by decide) (by decide) (by decide)]
  have g6 : nG ζ ≤ 6 := by unfold nG; omega
  generalize hZ : (fun j => μ (z + j)) = Z at *
  have z8 : Z 8 = ab_fwB 6 (ab_dg 6 (ζ 8)) := by rw [← hZ]; exact c2
  have z9 : ∀ k, k < 120 → Z 9 k = if (ζ 0 8).toNat.testBit 14 then ζ 9 k else ab_pw k := fun k hk => by rw [← hZ]; exact c3 k hk
  have z10 : ∀ k, k < 720 → Z 10 k = if (ζ 0 8).toNat.testBit 15 then ζ 10 k else ab_pm k := fun k hk => by rw [← hZ]; exact c4 k hk
  have e0 := e 0 (by decide) (by decide) (by decide) (by decide)
  have r9 : ∀ k, k < 120 → 0 ≤ Z 9 k ∧ Z 9 k ≤ 99 := fun k hk => by
    rw [z9 k hk]
    split
    · next hb => exact s14 hb k hk
    · exact ab_cl_rg (by decide)
  have r10 : ∀ k, k < 720 → 0 ≤ Z 10 k ∧ Z 10 k ≤ 9 := fun k hk => by
    rw [z10 k hk]
    split
    · next hb => exact s15 hb k hk
    · exact ab_cl_rg (by decide)
  refine ⟨⟨?_, fun g hg => ?_, fun a ha => ?_, fun p hp => ?_, r9, r10, ?_, ?_, ?_⟩, ⟨?_, ?_, ?_, ?_⟩, ⟨fun g hg => ?_, fun a ha => ?_⟩, ?_, ?_⟩
  · rw [e0]; exact ⟨d1, d2, d3⟩
  · rw [eG] at hg
    rw [e 5 (by decide) (by decide) (by decide) (by decide), e 7 (by decide) (by decide) (by decide) (by decide)]
    exact ⟨(gu g hg).1, fo g (by omega)⟩
  · rw [eA] at ha
    rw [e 6 (by decide) (by decide) (by decide) (by decide)]
    exact (an a ha).1
  · rw [eP] at hp
    rw [e 4 (by decide) (by decide) (by decide) (by decide)]
    exact se p hp
  · rw [e0]; exact nu.2.1
  · rw [e0]; exact nu.2.2.1
  · rw [e0]; exact nu.2.2.2
  · rw [e0]; exact ⟨d1, d2, d3⟩
  · rw [eP, e 1 (by decide) (by decide) (by decide) (by decide)]; exact n1
  · rw [eG, e 2 (by decide) (by decide) (by decide) (by decide)]; exact n2
  · rw [eA, e 3 (by decide) (by decide) (by decide) (by decide)]; exact n3
  · rw [eG] at hg
    rw [eP]
    show (0 ≤ Z (11 + 1) g ∧ Z (11 + 1) g < _) ∧ 0 ≤ Z (11 + 2) g ∧ Z (11 + 2) g ≤ 9
    rw [e 12 (by decide) (by decide) (by decide) (by decide), e 13 (by decide) (by decide) (by decide) (by decide)]
    exact (gu g hg).2
  · rw [eA] at ha
    show 0 ≤ Z (11 + 3) a ∧ Z (11 + 3) a ≤ 999
    rw [e 14 (by decide) (by decide) (by decide) (by decide)]
    exact (an a ha).2
  · rw [e 11 (by decide) (by decide) (by decide) (by decide)]; exact st
  · rw [z8]
    exact ab_M3_B (ab_M3_dg (by decide) m3 6) 6 (Nat.le_refl _)
set_option maxHeartbeats 4000000 in
theorem mtX10_zoo : bt_Met yX10_zoo cX10_zoo 4 (some .int) 68 [2] SpX10_zoo := by
  refine lpX10_zoo mtX3_readZoo (by decide) mtX2_begin (by decide) _ (fun As w Q _ hS => ?_)
  obtain ⟨ρ, μ, Ω, rfl, rfl, hI, hQ⟩ := hS
  obtain ⟨P, Z, hR, hE, hz, hs, hM, hg, hK, hU, hT, hW⟩ := id hI
  obtain ⟨hρ, ⟨hP, hZ, hPP⟩, r0, r1, r2, r3, r4, r5, r6, r7, r8, r9, r10, r11⟩ := id hR
  obtain ⟨c1, c2, c3, c4, c5, c6, c7, c8, c9, c10, c11, c12, c13, c14, c15, c16, c17, c18, c19, c20, c21, c22, c23, c24, c25⟩ := bt_zo_f P hP
  obtain ⟨d1, d2, d3, d4, d5, d6, d7, d8, d9, d10, d11, d12, d13, d14, d15, d16, d17, d18, d19, d20, d21, d22, d23, d24, d25⟩ := bt_zo_f Z hZ
  have b1 := bt_zo2 P hP
  have b2 := bt_zo2 Z hZ
  have bd : P + 14 < Z ∨ Z + 14 < P := by
    have : ∀ a ∈ bt_zos, ∀ b ∈ bt_zos, a ≠ b → a + 14 < b ∨ b + 14 < a := by decide
    exact this P hP Z hZ hPP
  have hTp : bt_Tp μ Ω.2.2.2.2.2 Ω.2.2.2.2.1 := ⟨hT.1, hT.2.1, hT.2.2.1, hT.2.2.2.1, hT.2.2.2.2⟩
  have x0 : ∀ j, (262, bt_sh0, bt_ur (bt_ur ρ 0 6 Z) 0 7 P, j) = bt_wd (bt_ur (bt_ur ρ 0 6 Z) 0 7 P) j := fun j => rfl
  have hρ2 : bt_Rf (bt_ur (bt_ur ρ 0 6 Z) 0 7 P) := fun a k ha => by unfold bt_ur; rw [if_neg (by omega), if_neg (by omega)]; exact hρ a k ha
  have hR2 : bt_Rb (bt_ur (bt_ur ρ 0 6 Z) 0 7 P) Z P := by
    refine ⟨hρ2, ⟨hZ, hP, fun q => hPP q.symm⟩, ?_⟩
    unfold bt_ur
    simp [r0, r1, r2, r3, r4, r5, r8, r9, r10, r11]
  obtain ⟨-, -, q0, q1, q2, q3, q4, q5, q6, q7, q8, q9, q10, q11⟩ := id hR2
  have hT1 : ∀ μ2, μ2 1 2 = 0 → μ2 2 = μ 2 → μ2 3 = μ 3 → ci_T μ2 0 Ω.2.2.2.2.2 := fun μ2 h1 h2 h3 => ⟨h1, by omega, by rw [h2]; exact hT.2.2.1, fun i hi => by omega, by rw [h3]; exact hT.2.2.2.2⟩
  refine ⟨fun _ m st L w => st = [] ∧ ∃ (i : Nat) (μ1 μ2 ζ0 : Nat → Nat → Int), w = bt_wd (bt_ur (bt_ur ρ 0 6 Z) 0 7 P) μ2 ∧ i ≤ 4 ∧ m = 4 - i ∧ L = [some (.inr (.inr 0)), some (.inl 0), none, some (.inl (i : Int))] ∧ rz_clr ζ0 ∧ (rz_all Ω.2.2.2.2.2 Ω.2.2.2.2.1 1001 ζ0 (zo_c0 Ω)).1 = 0 ∧ rz_cl μ2 Z (rz_all Ω.2.2.2.2.2 Ω.2.2.2.2.1 1001 ζ0 (zo_c0 Ω)).2 ∧ rz_K (rz_all Ω.2.2.2.2.2 Ω.2.2.2.2.1 1001 ζ0 (zo_c0 Ω)).2 ∧ μ2 1 2 = 0 ∧ (∀ a, ¬ rz_in Z a → a ≠ 0 → a ≠ 19 → ¬ (105 ≤ a ∧ a ≤ 135) → μ2 a = μ a) ∧ bt_eqS μ2 106 μ2 (Z + 11) ∧ (μ2 105 2 = 0 ∧ μ2 105 3 = 0 ∧ μ2 105 4 = 65535) ∧ (∀ k, k < i → μ2 (112 + 6 * k) 5 = 0) ∧ (μ2 0 12 = 0 ∧ μ2 0 13 = μ 0 13) ∧ (μ2 19 5 = 0 ∧ μ2 19 7 = μ 19 7 ∧ μ2 19 8 = μ 19 8), ?_, ?_⟩
  · simp (disch := omega) only [tX10_zoo_0, bt_ald, bt_gfR, bt_cV, bt_sig, bt_tg, bt_loc, bt_locs, List.getElem?_cons_zero, List.getElem?_cons_succ, List.set_cons_zero, List.set_cons_succ, List.map_cons, List.map_nil, List.take_succ_cons, List.take_zero, List.drop_succ_cons, List.drop_zero, List.reverse_cons, List.reverse_nil, List.nil_append, List.cons_append, List.append_nil, List.length_cons, List.length_nil, List.replicate_succ, List.replicate_zero, Option.toList_some, Option.toList_none, Nat.reduceAdd, Nat.reduceSub, Nat.reduceLeDiff, Nat.zero_add, Nat.zero_le, true_and, and_true, Int.toNat_natCast, Sum.inl.injEq, Sum.inr.injEq, ↓reduceIte, Nat.reduceEqDiff, r1, r7, sh_0, sh_4]
    repeat (refine And.intro (by first | omega | decide | (simp only [and_true, true_and]; omega)) ?_)
    refine ⟨ρ, μ, Ω.2.2.2.2.2, Ω.2.2.2.2.1, Z, rfl, rfl, hρ, hZ, hTp, hs.1, hs.2, fun μ1 ζ0 hclr g1 g2 f1 => ?_⟩
    have g1' : (rz_all Ω.2.2.2.2.2 Ω.2.2.2.2.1 1001 ζ0 (zo_c0 Ω)).1 = 0 → rz_cl μ1 Z (rz_all Ω.2.2.2.2.2 Ω.2.2.2.2.1 1001 ζ0 (zo_c0 Ω)).2 ∧ rz_K (rz_all Ω.2.2.2.2.2 Ω.2.2.2.2.1 1001 ζ0 (zo_c0 Ω)).2 := g1
    have hrg := rz_all_r (t := Ω.2.2.2.2.2) (n := Ω.2.2.2.2.1) 1001 ζ0 (zo_c0 Ω) (tk_to_rg (ok := tk_B) (t := Ω.2.2.2.2.2) (Nat.zero_le Ω.2.2.2.2.1)).2.1
    have hT2 := hT.2.1
    show (bt_ret _ _ _ (some (.inl (rz_all Ω.2.2.2.2.2 Ω.2.2.2.2.1 1001 ζ0 (zo_c0 Ω)).1)) _)
    have q := fun ρ' μ' => hQ ρ' μ' ζ0 _ hclr rfl
    generalize hRR : rz_all Ω.2.2.2.2.2 Ω.2.2.2.2.1 1001 ζ0 (zo_c0 Ω) = R at *
    unfold fl_r at hrg
    simp (disch := omega) only [bt_ret, bt_ist, bt_nl, bt_ild, bt_ifne, bt_loc, bt_locs, List.getElem?_cons_zero, List.getElem?_cons_succ, List.set_cons_zero, List.set_cons_succ, List.map_cons, List.map_nil, List.take_succ_cons, List.take_zero, List.drop_succ_cons, List.drop_zero, List.reverse_cons, List.reverse_nil, List.nil_append, List.cons_append, List.append_nil, List.length_cons, List.length_nil, List.replicate_succ, List.replicate_zero, Option.toList_some, Option.toList_none, Nat.reduceAdd, Nat.reduceSub, Nat.reduceLeDiff, Nat.zero_add, Nat.zero_le, true_and, and_true, Int.toNat_natCast, Sum.inl.injEq, Sum.inr.injEq, ↓reduceIte, Nat.reduceEqDiff, bt_w_id]
    by_cases h0 : R.1 = 0
    · rw [if_pos h0]
      obtain ⟨k1, k2⟩ := g1' h0
      have fr1 : ∀ a, ¬ rz_in Z a → μ1 a = μ a := f1
      simp (disch := omega) only [bt_ald, bt_gfR, bt_ast, bt_pfR, bt_sr, bt_nl, bt_cV, bt_sig, bt_tg, bt_loc, bt_locs, List.getElem?_cons_zero, List.getElem?_cons_succ, List.set_cons_zero, List.set_cons_succ, List.map_cons, List.map_nil, List.take_succ_cons, List.take_zero, List.drop_succ_cons, List.drop_zero, List.reverse_cons, List.reverse_nil, List.nil_append, List.cons_append, List.append_nil, List.length_cons, List.length_nil, List.replicate_succ, List.replicate_zero, Option.toList_some, Option.toList_none, Nat.reduceAdd, Nat.reduceSub, Nat.reduceLeDiff, Nat.zero_add, Nat.zero_le, true_and, and_true, Int.toNat_natCast, Sum.inl.injEq, Sum.inr.injEq, ↓reduceIte, Nat.reduceEqDiff, r6, r7, q6, q8, sh_0, sh_105, hρ2 Z _ d2, d3, d24]
      repeat (refine And.intro (by first | omega | decide | (simp only [and_true, true_and]; omega)) ?_)
      refine ⟨bt_ur (bt_ur ρ 0 6 Z) 0 7 P, μ1, 105, Z + 11, rfl, rfl, hρ2, bt_m136.2.2.2, bt_zst Z hZ, fun μ2 he y1 f2 => ?_⟩
      simp (disch := omega) only [bt_ild, bt_lld, bt_ald, bt_ist, bt_lst, bt_ast, bt_inc, bt_ic, bt_lc, bt_iadd, bt_isub, bt_imul, bt_iand, bt_ior, bt_ixor, bt_ishl, bt_ishr, bt_iushr, bt_ladd, bt_lsub, bt_lmul, bt_land, bt_lor, bt_lushr, bt_lshl, bt_idiv, bt_irem, bt_ldiv, bt_lrem, bt_lcmp, bt_i2l, bt_l2i, bt_i2b, bt_pop, bt_dup, bt_dup2, bt_gfI, bt_gfJ, bt_gfR, bt_pfI, bt_pfZ, bt_pfJ, bt_pfR, bt_ial, bt_bal, bt_zal, bt_lal, bt_aal, bt_ias, bt_bas, bt_zas, bt_las, bt_len, bt_iret, bt_zret, bt_lret, bt_vret, bt_cV, bt_cS, bt_tab, bt_tsw, bt_lk, bt_lsw, bt_acp, bt_mmax, bt_mmin, bt_can, bt_icmpeq, bt_ifeq, bt_icmpne, bt_ifne, bt_icmplt, bt_iflt, bt_icmpge, bt_ifge, bt_icmpgt, bt_ifgt, bt_icmple, bt_ifle, bt_ret, bt_kill, bt_kl, bt_ix, bt_nl, bt_sm, bt_sr, bt_sig, bt_tg, bt_loc, bt_locs, List.getElem?_cons_zero, List.getElem?_cons_succ, List.set_cons_zero, List.set_cons_succ, List.map_cons, List.map_nil, List.take_succ_cons, List.take_zero, List.drop_succ_cons, List.drop_zero, List.reverse_cons, List.reverse_nil, List.nil_append, List.cons_append, List.append_nil, List.length_cons, List.length_nil, List.replicate_succ, List.replicate_zero, Option.toList_some, Option.toList_none, Nat.reduceAdd, Nat.reduceSub, Nat.reduceLeDiff, Nat.zero_add, Nat.zero_le, true_and, and_true, Int.toNat_natCast, Sum.inl.injEq, Sum.inr.injEq, ↓reduceIte, Nat.reduceEqDiff, q3, sh_0, sh_19]
      repeat (refine And.intro (by first | omega | decide | (simp only [and_true, true_and]; omega)) ?_)
      have g : ∀ a, a ≠ 0 → a ≠ 19 → ¬ (105 ≤ a ∧ a ≤ 109) → bt_up (bt_up μ2 0 12 0) 19 5 0 a = μ1 a := fun a h1 h2 h3 => by rw [bt_up_cell h2, bt_up_cell h1, f2 a (by omega)]
      have g' : ∀ a, a ≠ 0 → a ≠ 19 → bt_up (bt_up μ2 0 12 0) 19 5 0 a = μ2 a := fun a h1 h2 => by rw [bt_up_cell h2, bt_up_cell h1]
      refine ⟨4, 0, μ1, _, ζ0, rfl, by omega, by omega, by rw [h0]; rfl, hclr, by rw [hRR]; exact h0, ?_, by rw [hRR]; exact k2, ?_, fun a h1 h2 h3 h4 => ?_, ?_, ?_, fun k hk => by omega, ?_, ?_⟩
      · rw [hRR]
        obtain ⟨c1, c2, c3, c4⟩ := k1
        refine ⟨fun j hj h8 h9 h10 => ?_, ?_, fun k hk => ?_, fun k hk => ?_⟩
        · rw [g _ (by omega) (by omega) (by omega)]; exact c1 j hj h8 h9 h10
        · rw [g _ (by omega) (by omega) (by omega)]; exact c2
        · rw [g _ (by omega) (by omega) (by omega)]; exact c3 k hk
        · rw [g _ (by omega) (by omega) (by omega)]; exact c4 k hk
      · rw [g 1 (by omega) (by omega) (by omega)]; exact g2
      · rw [g a h2 h3 (by omega)]; exact fr1 a h1
      · obtain ⟨s1, s2, s3, s4, s5⟩ := he
        refine ⟨?_, ?_, fun i hi => ?_, fun i hi => ?_, fun i hi => ?_⟩
        · rw [g' 106 (by omega) (by omega), g (Z + 11) (by omega) (by omega) (by omega)]; exact s1
        · rw [g' 106 (by omega) (by omega), g (Z + 11) (by omega) (by omega) (by omega)]; exact s2
        · rw [g' _ (by omega) (by omega), g _ (by omega) (by omega) (by omega)]; exact s3 i hi
        · rw [g' _ (by omega) (by omega), g _ (by omega) (by omega) (by omega)]; exact s4 i hi
        · rw [g' _ (by omega) (by omega), g _ (by omega) (by omega) (by omega)]; exact s5 i hi
      · rw [g' 105 (by omega) (by omega), y1 2, y1 3, y1 4]
        simp
      · refine ⟨by rw [bt_up_cell (by decide), bt_up_same], ?_⟩
        rw [bt_up_cell (by decide), bt_up_ix (by decide), f2 0 (by omega), fr1 0 (by unfold rz_in; omega)]
      · refine ⟨bt_up_same _ _ _ _, ?_, ?_⟩
        · rw [bt_up_ix (by decide), bt_up_cell (by decide), f2 19 (by omega), fr1 19 (by unfold rz_in; omega)]
        · rw [bt_up_ix (by decide), bt_up_cell (by decide), f2 19 (by omega), fr1 19 (by unfold rz_in; omega)]
    · rw [if_neg h0]
      have fr1 : ∀ a, ¬ rz_in Z a → μ1 a = μ a := f1
      simp (disch := omega) only [tX10_zoo_84, bt_ild, bt_lld, bt_ald, bt_ist, bt_lst, bt_ast, bt_inc, bt_ic, bt_lc, bt_iadd, bt_isub, bt_imul, bt_iand, bt_ior, bt_ixor, bt_ishl, bt_ishr, bt_iushr, bt_ladd, bt_lsub, bt_lmul, bt_land, bt_lor, bt_lushr, bt_lshl, bt_idiv, bt_irem, bt_ldiv, bt_lrem, bt_lcmp, bt_i2l, bt_l2i, bt_i2b, bt_pop, bt_dup, bt_dup2, bt_gfI, bt_gfJ, bt_gfR, bt_pfI, bt_pfZ, bt_pfJ, bt_pfR, bt_ial, bt_bal, bt_zal, bt_lal, bt_aal, bt_ias, bt_bas, bt_zas, bt_las, bt_len, bt_iret, bt_zret, bt_lret, bt_vret, bt_cV, bt_cS, bt_tab, bt_tsw, bt_lk, bt_lsw, bt_acp, bt_mmax, bt_mmin, bt_can, bt_icmpeq, bt_ifeq, bt_icmpne, bt_ifne, bt_icmplt, bt_iflt, bt_icmpge, bt_ifge, bt_icmpgt, bt_ifgt, bt_icmple, bt_ifle, bt_ret, bt_kill, bt_kl, bt_ix, bt_nl, bt_sm, bt_sr, bt_sig, bt_tg, bt_loc, bt_locs, List.getElem?_cons_zero, List.getElem?_cons_succ, List.set_cons_zero, List.set_cons_succ, List.map_cons, List.map_nil, List.take_succ_cons, List.take_zero, List.drop_succ_cons, List.drop_zero, List.reverse_cons, List.reverse_nil, List.nil_append, List.cons_append, List.append_nil, List.length_cons, List.length_nil, List.replicate_succ, List.replicate_zero, Option.toList_some, Option.toList_none, Nat.reduceAdd, Nat.reduceSub, Nat.reduceLeDiff, Nat.zero_add, Nat.zero_le, true_and, and_true, Int.toNat_natCast, Sum.inl.injEq, Sum.inr.injEq, ↓reduceIte, Nat.reduceEqDiff]
      refine q ρ μ1 (fun h => absurd h h0) (fun _ => ?_) (fun a ha => fr1 a (by unfold rz_in; omega))
      have f : ∀ a, a ≠ 1 → a ≠ 4 → ¬ (6 ≤ a ∧ a ≤ 9) → ¬ (Z ≤ a ∧ a ≤ Z + 14) → μ1 a = μ a := fun a h1 h2 h3 h4 => fr1 a (by unfold rz_in; omega)
      refine ⟨P, Z, hR, fun j hj => ?_, hz, ⟨?_, ?_⟩, hM.fr (fun a h1 h2 => f a (by omega) (by omega) (by omega) (by omega)), hg, fun i hi => (hK i hi).fr (fun a h1 h2 => f a (by omega) (by omega) (by omega) (by omega)), hU.fr (f 0 (by omega) (by omega) (by omega) (by omega)) (fun a h1 h2 => f a (by omega) (by omega) (by omega) (by omega)), hT1 μ1 g2 (f 2 (by omega) (by omega) (by omega) (by omega)) (f 3 (by omega) (by omega) (by omega) (by omega)), hW.fr (f 19 (by omega) (by omega) (by omega) (by omega)) (f 33 (by omega) (by omega) (by omega) (by omega))⟩
      · rw [f _ (by omega) (by omega) (by omega) (by omega)]; exact hE j hj
      · rw [fr1 (Z + 11) (by unfold rz_in; omega)]; exact hs.1
      · rw [fr1 (Z + 11) (by unfold rz_in; omega)]; exact hs.2
  · rintro m st L w ⟨rfl, i, μ1, μ2, ζ0, rfl, hi, rfl, rfl, hclr, h0, k1, k2, t1, fr, he, ⟨m2, m3, m4⟩, hmk, ⟨u1, u2⟩, v1, v2, v3⟩
    simp (disch := omega) only [tX10_zoo_63, tX10_zoo_84, bt_ild, bt_lld, bt_ald, bt_ist, bt_lst, bt_ast, bt_inc, bt_ic, bt_lc, bt_iadd, bt_isub, bt_imul, bt_iand, bt_ior, bt_ixor, bt_ishl, bt_ishr, bt_iushr, bt_ladd, bt_lsub, bt_lmul, bt_land, bt_lor, bt_lushr, bt_lshl, bt_idiv, bt_irem, bt_ldiv, bt_lrem, bt_lcmp, bt_i2l, bt_l2i, bt_i2b, bt_pop, bt_dup, bt_dup2, bt_gfI, bt_gfJ, bt_gfR, bt_pfI, bt_pfZ, bt_pfJ, bt_pfR, bt_ial, bt_bal, bt_zal, bt_lal, bt_aal, bt_ias, bt_bas, bt_zas, bt_las, bt_len, bt_iret, bt_zret, bt_lret, bt_vret, bt_cV, bt_cS, bt_tab, bt_tsw, bt_lk, bt_lsw, bt_acp, bt_mmax, bt_mmin, bt_can, bt_icmpeq, bt_ifeq, bt_icmpne, bt_ifne, bt_icmplt, bt_iflt, bt_icmpge, bt_ifge, bt_icmpgt, bt_ifgt, bt_icmple, bt_ifle, bt_ret, bt_kill, bt_kl, bt_ix, bt_nl, bt_sm, bt_sr, bt_sig, bt_tg, bt_loc, bt_locs, List.getElem?_cons_zero, List.getElem?_cons_succ, List.set_cons_zero, List.set_cons_succ, List.map_cons, List.map_nil, List.take_succ_cons, List.take_zero, List.drop_succ_cons, List.drop_zero, List.reverse_cons, List.reverse_nil, List.nil_append, List.cons_append, List.append_nil, List.length_cons, List.length_nil, List.replicate_succ, List.replicate_zero, Option.toList_some, Option.toList_none, Nat.reduceAdd, Nat.reduceSub, Nat.reduceLeDiff, Nat.zero_add, Nat.zero_le, true_and, and_true, Int.toNat_natCast, Sum.inl.injEq, Sum.inr.injEq, ↓reduceIte, Nat.reduceEqDiff, bt_w_id, q9, sh_0, sh_111, hρ2 111 _ (by decide)]
    by_cases hc : 4 ≤ i
    · rw [if_pos (by omega)]
      have f : ∀ a, a ≠ 1 → a ≠ 4 → a ≠ 0 → a ≠ 19 → ¬ (6 ≤ a ∧ a ≤ 9) → ¬ (Z ≤ a ∧ a ≤ Z + 14) → ¬ (105 ≤ a ∧ a ≤ 135) → μ2 a = μ a := fun a h1 h2 h3 h4 h5 h6 h7 => fr a (by unfold rz_in; omega) h3 h4 h7
      have hq := hQ (bt_ur (bt_ur ρ 0 6 Z) 0 7 P) μ2 ζ0 _ hclr rfl
      generalize hRR : rz_all Ω.2.2.2.2.2 Ω.2.2.2.2.1 1001 ζ0 (zo_c0 Ω) = R at *
      rw [h0] at hq
      refine hq (fun _ => ⟨fun j => μ2 (Z + j), ?_, k2, ?_⟩) (fun h => absurd rfl h) (fun a ha => f a (by omega) (by omega) (by omega) (by omega) (by omega) (by omega) (by omega))
      · obtain ⟨c1, c2, c3, c4⟩ := k1
        refine ⟨fun j hj h8 h9 h10 => ?_, c2, c3, c4⟩
        show μ2 (Z + (0 + j)) = _
        rw [Nat.zero_add]
        exact c1 j hj h8 h9 h10
      · have hoz := rz_cl_z (by omega) k1 k2
        obtain ⟨e, -, -, u3, u4, -⟩ := hU
        have hsq : ab_sq (fun j => μ2 (Z + j)) (fun j => μ2 (Z + (11 + j))) (bt_vw μ2 106) := by
          have := (ab_sq.cp (ζ := fun j => μ2 (Z + j)) hoz.1 he).sy
          refine ab_sq.tr (ab_sq.of (fun j hj => ?_)) this
          show μ2 (Z + (11 + j)) = μ2 (Z + 11 + j)
          rw [Nat.add_assoc]
        refine ⟨Z, P, hR2, fun j hj => rfl, hoz, ⟨?_, ?_⟩, ⟨hsq, m2, fun i hi => absurd hi (Nat.not_lt_zero i), m3, m4⟩, ⟨hoz.2.2.1, by show (0 : Nat) ≤ 40; omega, fun i hi => absurd hi (Nat.not_lt_zero i), by show (0 : Nat) ≤ 8; omega, by show 65535 < 65536; omega⟩, fun i hi => hmk i (by omega), ⟨e, u1, by show (0 : Nat) ≤ 16; omega, by rw [u2]; exact u3, u4, fun i hi => absurd hi (Nat.not_lt_zero i)⟩, hT1 μ2 t1 (f 2 (by omega) (by omega) (by omega) (by omega) (by omega) (by omega) (by omega)) (f 3 (by omega) (by omega) (by omega) (by omega) (by omega) (by omega) (by omega)), ⟨by rw [v2]; exact hW.1, by rw [v3]; exact hW.2.1, Or.inl v1⟩⟩
        · rw [f (P + 11) (by omega) (by omega) (by omega) (by omega) (by omega) (by omega) (by omega), hE 11 (by decide)]; exact hz.2.2.2.1.1
        · rw [f (P + 11) (by omega) (by omega) (by omega) (by omega) (by omega) (by omega) (by omega), hE 11 (by decide)]; exact hz.2.2.2.1.2
    · rw [if_neg (by omega)]
      obtain ⟨p1, p2, p3⟩ := bt_mkf i (by omega)
      simp (disch := omega) only [Int.toNat_natCast, p1, p3]
      repeat (refine And.intro (by first | omega | decide | (simp only [and_true, true_and]; omega)) ?_)
      have g : ∀ a, a ≠ 112 + 6 * i → bt_up μ2 (112 + 6 * i) 5 0 a = μ2 a := fun a h => bt_up_cell h
      refine ⟨4 - (i + 1), by omega, i + 1, μ1, _, ζ0, rfl, by omega, rfl, rfl, hclr, h0, ?_, k2, ?_, fun a h1 h2 h3 h4 => ?_, ?_, ?_, fun k hk => ?_, ?_, ?_⟩
      · obtain ⟨c1, c2, c3, c4⟩ := k1
        refine ⟨fun j hj h8 h9 h10 => ?_, ?_, fun k hk => ?_, fun k hk => ?_⟩
        · rw [g _ (by omega)]; exact c1 j hj h8 h9 h10
        · rw [g _ (by omega)]; exact c2
        · rw [g _ (by omega)]; exact c3 k hk
        · rw [g _ (by omega)]; exact c4 k hk
      · rw [g 1 (by omega)]; exact t1
      · rw [g a (by omega)]; exact fr a h1 h2 h3 h4
      · obtain ⟨s1, s2, s3, s4, s5⟩ := he
        refine ⟨?_, ?_, fun i hi => ?_, fun i hi => ?_, fun i hi => ?_⟩
        · rw [g _ (by omega), g _ (by omega)]; exact s1
        · rw [g _ (by omega), g _ (by omega)]; exact s2
        · rw [g _ (by omega), g _ (by omega)]; exact s3 i hi
        · rw [g _ (by omega), g _ (by omega)]; exact s4 i hi
        · rw [g _ (by omega), g _ (by omega)]; exact s5 i hi
      · rw [g 105 (by omega)]; exact ⟨m2, m3, m4⟩
      · by_cases hki : k = i
        · subst hki; exact bt_up_same _ _ _ _
        · rw [g _ (by omega)]; exact hmk k (by omega)
      · rw [g 0 (by omega)]; exact ⟨u1, u2⟩
      · rw [g 19 (by omega)]; exact ⟨v1, v2, v3⟩
