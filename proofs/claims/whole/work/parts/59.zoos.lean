/-! the class: days, zoo -/
def dy_R (Ω : om_O) (l5 : Nat → Int) : Int × Nat × (Nat → Int) := rz_dal Ω.2.2.2.2.2 Ω.2.2.2.2.1 Ω.1 41 0 l5 (tk_to tk_B Ω.2.2.2.2.2 Ω.2.2.2.2.1 0)
def om_dy (Ω : om_O) (R : Int × Nat × (Nat → Int)) : om_O := (Ω.1, (if R.1 = 0 then (Ω.2.1.1, R.2.1, (fun i => (R.2.2 i).toNat), Ω.2.1.2.2.2) else Ω.2.1), Ω.2.2.1, Ω.2.2.2.1, (0, Ω.2.2.2.2.2))
/-- lines that are put are good -/
theorem rz_dy_ok {t : Nat → Int} {n : Nat} {ζ : Nat → Nat → Int} {lc c : Nat} (hN : rz_N ζ) (h : (rz_dy t n ζ lc c).1 = 0) : ∃ x : Nat, (rz_dy t n ζ lc c).2.2 = (x : Int) ∧ ln_ok ζ x ∧ lc < 40 := by
  have hn := hN.n
  unfold rz_dy at h ⊢
  split at h
  · dsimp only at h; omega
  next h1 =>
    rw [if_neg h1]
    split at h
    · dsimp only at h; omega
    next h2 =>
      rw [if_neg h2]
      split at h
      next h3 =>
        rw [if_pos h3]
        exact ⟨2, rfl, ⟨by decide, by decide, fun q => by omega, fun q => by omega⟩, by omega⟩
      next h3 =>
        rw [if_neg h3]
        split at h
        · contradiction
        next h4 =>
          rw [if_neg h4]
          have h4' : rz_to t n (ζ 2) (nG ζ) (tk_j t n 1 c) = 0 := Classical.not_not.mp h4
          obtain ⟨-, i1, i2⟩ := rz_to_0 h4'
          have hg : rz_a t n (ζ 2) (nG ζ) (tk_j t n 1 c) < nG ζ := by unfold rz_a; omega
          split at h
          next h5 =>
            rw [if_pos h5]
            refine ⟨_, rfl, ⟨by omega, by omega, fun q => by omega, fun q => by omega⟩, by omega⟩
          next h5 =>
            rw [if_neg h5]
            split at h
            · contradiction
            next h6 =>
              rw [if_neg h6]
              have h6' : rz_to t n (ζ 1) (nP ζ) (tk_j t n 2 c) = 0 := Classical.not_not.mp h6
              obtain ⟨-, j1, j2⟩ := rz_to_0 h6'
              have hp : rz_a t n (ζ 1) (nP ζ) (tk_j t n 2 c) < nP ζ := by unfold rz_a; omega
              refine ⟨_, rfl, ⟨by omega, by omega, fun q => by omega, fun q => by omega⟩, by omega⟩
theorem rz_dal_ok {t : Nat → Int} {n : Nat} {ζ : Nat → Nat → Int} (hN : rz_N ζ) : ∀ f lc ln c, lc ≤ 40 → (∀ i, i < lc → ∃ x : Nat, ln i = (x : Int) ∧ ln_ok ζ x) → (rz_dal t n ζ f lc ln c).1 = 0 → (rz_dal t n ζ f lc ln c).2.1 ≤ 40 ∧ ∀ i, i < (rz_dal t n ζ f lc ln c).2.1 → ∃ x : Nat, (rz_dal t n ζ f lc ln c).2.2 i = (x : Int) ∧ ln_ok ζ x
  | 0, lc, ln, c, h40, hl, _ => ⟨h40, hl⟩
  | f + 1, lc, ln, c, h40, hl, h => by
    unfold rz_dal at h ⊢
    split at h
    next h1 => rw [if_pos h1]; exact ⟨h40, hl⟩
    next h1 =>
      rw [if_neg h1]
      split at h
      · contradiction
      next h2 =>
        rw [if_neg h2]
        split at h
        next h3 =>
          rw [if_pos h3]
          obtain ⟨x, x1, x2, x3⟩ := rz_dy_ok hN (Classical.not_not.mp h2)
          refine rz_dal_ok hN f (lc + 1) _ _ (by omega) (fun i hi => ?_) h
          unfold ab_put
          by_cases e : i = lc
          · rw [if_pos e]; exact ⟨x, x1, x2⟩
          · rw [if_neg e]; exact hl i (by omega)
        · dsimp only at h; omega
def SpX10_days : bt_Sp := fun As w Q => ∃ (ρ : Nat → Nat → Option Nat) (μ : Nat → Nat → Int) (Ω : om_O), As = [.inr (.inr 0)] ∧ w = bt_wd ρ μ ∧ ci_I Ω ρ μ ∧ ∀ μ', ci_I (om_dy Ω (dy_R Ω (μ 5))) ρ μ' → bt_fr (fun a => a < 205) μ' μ → Q (some (.inl (dy_R Ω (μ 5)).1)) (bt_wd ρ μ')
set_option maxHeartbeats 4000000 in
theorem mtX10_days : bt_Met yX10_days cX10_days 2 (some .int) 6 [2] SpX10_days := by
  refine bt_metW (lfX10_days mtX3_readDays (by decide) mtX2_takeDays (by decide)) (fun As w Q _ hS => ?_)
  obtain ⟨ρ, μ, Ω, rfl, rfl, hI, hQ⟩ := hS
  obtain ⟨P, P', hR, hE, hz, hs, hM, hg, hK, hU, hT, hW⟩ := id hI
  obtain ⟨hρ, ⟨hP, hP', hPP⟩, r0, r1, r2, r3, r4, r5, r6, r7, r8, r9, r10, r11⟩ := id hR
  have b1 := bt_zo2 P hP
  have b2 := bt_zo2 P' hP'
  have hTp : bt_Tp μ Ω.2.2.2.2.2 Ω.2.2.2.2.1 := ⟨hT.1, hT.2.1, hT.2.2.1, hT.2.2.2.1, hT.2.2.2.2⟩
  simp (disch := omega) only [tX10_days_0, bt_ald, bt_gfR, bt_cV, bt_sig, bt_tg, bt_loc, bt_locs, List.getElem?_cons_zero, List.getElem?_cons_succ, List.set_cons_zero, List.set_cons_succ, List.map_cons, List.map_nil, List.take_succ_cons, List.take_zero, List.drop_succ_cons, List.drop_zero, List.reverse_cons, List.reverse_nil, List.nil_append, List.cons_append, List.append_nil, List.length_cons, List.length_nil, List.replicate_succ, List.replicate_zero, Option.toList_some, Option.toList_none, Nat.reduceAdd, Nat.reduceSub, Nat.reduceLeDiff, Nat.zero_add, Nat.zero_le, true_and, and_true, Int.toNat_natCast, Sum.inl.injEq, Sum.inr.injEq, ↓reduceIte, Nat.reduceEqDiff, r1, r6, sh_0, sh_4]
  repeat (refine And.intro (by first | omega | decide | (simp only [and_true, true_and]; omega)) ?_)
  refine ⟨ρ, μ, Ω.2.2.2.2.2, Ω.2.2.2.2.1, P, Ω.1, rfl, rfl, hρ, hP, hTp, fun j hj => hE j (by omega), hz.2.1, fun μ1 R hRR g1 g2 f1 => ?_⟩
  have hRR' : dy_R Ω (μ 5) = R := hRR
  rw [hRR'] at hQ
  have hok := rz_dal_ok (t := Ω.2.2.2.2.2) (n := Ω.2.2.2.2.1) hz.2.1 41 0 (μ 5) (tk_to tk_B Ω.2.2.2.2.2 Ω.2.2.2.2.1 0) (by omega) (fun i hi => by omega)
  rw [hRR] at hok
  have fr1 : ∀ a, a ≠ 1 → a ≠ 4 → a ≠ 5 → μ1 a = μ a := fun a h1 h2 h3 => f1 a (by unfold rz_iD; omega)
  have hT1 : ∀ μ2, μ2 1 2 = 0 → μ2 2 = μ 2 → μ2 3 = μ 3 → ci_T μ2 0 Ω.2.2.2.2.2 := fun μ2 h1 h2 h3 => ⟨h1, by omega, by rw [h2]; exact hT.2.2.1, fun i hi => by omega, by rw [h3]; exact hT.2.2.2.2⟩
  have hRi : R.1 ≠ 0 ∨ R.1 = 0 := by omega
  simp (disch := omega) only [bt_ret, bt_ist, bt_nl, bt_ild, bt_ifne, bt_loc, bt_locs, List.getElem?_cons_zero, List.getElem?_cons_succ, List.set_cons_zero, List.set_cons_succ, List.map_cons, List.map_nil, List.take_succ_cons, List.take_zero, List.drop_succ_cons, List.drop_zero, List.reverse_cons, List.reverse_nil, List.nil_append, List.cons_append, List.append_nil, List.length_cons, List.length_nil, List.replicate_succ, List.replicate_zero, Option.toList_some, Option.toList_none, Nat.reduceAdd, Nat.reduceSub, Nat.reduceLeDiff, Nat.zero_add, Nat.zero_le, true_and, and_true, Int.toNat_natCast, Sum.inl.injEq, Sum.inr.injEq, ↓reduceIte, Nat.reduceEqDiff]
  have hrg : bt_w R.1 = R.1 := by
    apply bt_w_id
    · sorry
    · sorry
  rw [hrg]
  rcases hRi with h0 | h0
  · rw [if_neg h0]
    simp (disch := omega) only [tX10_days_37, bt_ild, bt_lld, bt_ald, bt_ist, bt_lst, bt_ast, bt_inc, bt_ic, bt_lc, bt_iadd, bt_isub, bt_imul, bt_iand, bt_ior, bt_ixor, bt_ishl, bt_ishr, bt_iushr, bt_ladd, bt_lsub, bt_lmul, bt_land, bt_lor, bt_lushr, bt_lshl, bt_idiv, bt_irem, bt_ldiv, bt_lrem, bt_lcmp, bt_i2l, bt_l2i, bt_i2b, bt_pop, bt_dup, bt_dup2, bt_gfI, bt_gfJ, bt_gfR, bt_pfI, bt_pfZ, bt_pfJ, bt_pfR, bt_ial, bt_bal, bt_zal, bt_lal, bt_aal, bt_ias, bt_bas, bt_zas, bt_las, bt_len, bt_iret, bt_zret, bt_lret, bt_vret, bt_cV, bt_cS, bt_tab, bt_tsw, bt_lk, bt_lsw, bt_acp, bt_mmax, bt_mmin, bt_can, bt_icmpeq, bt_ifeq, bt_icmpne, bt_ifne, bt_icmplt, bt_iflt, bt_icmpge, bt_ifge, bt_icmpgt, bt_ifgt, bt_icmple, bt_ifle, bt_ret, bt_kill, bt_kl, bt_ix, bt_nl, bt_sm, bt_sr, bt_sig, bt_tg, bt_loc, bt_locs, List.getElem?_cons_zero, List.getElem?_cons_succ, List.set_cons_zero, List.set_cons_succ, List.map_cons, List.map_nil, List.take_succ_cons, List.take_zero, List.drop_succ_cons, List.drop_zero, List.reverse_cons, List.reverse_nil, List.nil_append, List.cons_append, List.append_nil, List.length_cons, List.length_nil, List.replicate_succ, List.replicate_zero, Option.toList_some, Option.toList_none, Nat.reduceAdd, Nat.reduceSub, Nat.reduceLeDiff, Nat.zero_add, Nat.zero_le, true_and, and_true, Int.toNat_natCast, Sum.inl.injEq, Sum.inr.injEq, ↓reduceIte, Nat.reduceEqDiff]
    refine hQ μ1 ?_ (fun a ha => fr1 a (by omega) (by omega) (by omega))
    unfold om_dy
    rw [if_neg h0]
    refine ⟨P, P', hR, fun j hj => ?_, hz, ⟨?_, ?_⟩, hM.fr (fun a h1 h2 => fr1 a (by omega) (by omega) (by omega)), hg, fun i hi => (hK i hi).fr (fun a h1 h2 => fr1 a (by omega) (by omega) (by omega)), hU.fr (fr1 0 (by omega) (by omega) (by omega)) (fun a h1 h2 => fr1 a (by omega) (by omega) (by omega)), hT1 μ1 g2 (fr1 2 (by omega) (by omega) (by omega)) (fr1 3 (by omega) (by omega) (by omega)), hW.fr (fr1 19 (by omega) (by omega) (by omega)) (fr1 33 (by omega) (by omega) (by omega))⟩
    · rw [fr1 _ (by omega) (by omega) (by omega)]; exact hE j hj
    · rw [fr1 _ (by omega) (by omega) (by omega)]; exact hs.1
    · rw [fr1 _ (by omega) (by omega) (by omega)]; exact hs.2
  · rw [if_pos h0]
    obtain ⟨g3, g4, g5⟩ := g1 h0
    obtain ⟨-, ok2⟩ := hok h0
    simp (disch := omega) only [tX10_days_37, bt_ild, bt_lld, bt_ald, bt_ist, bt_lst, bt_ast, bt_inc, bt_ic, bt_lc, bt_iadd, bt_isub, bt_imul, bt_iand, bt_ior, bt_ixor, bt_ishl, bt_ishr, bt_iushr, bt_ladd, bt_lsub, bt_lmul, bt_land, bt_lor, bt_lushr, bt_lshl, bt_idiv, bt_irem, bt_ldiv, bt_lrem, bt_lcmp, bt_i2l, bt_l2i, bt_i2b, bt_pop, bt_dup, bt_dup2, bt_gfI, bt_gfJ, bt_gfR, bt_pfI, bt_pfZ, bt_pfJ, bt_pfR, bt_ial, bt_bal, bt_zal, bt_lal, bt_aal, bt_ias, bt_bas, bt_zas, bt_las, bt_len, bt_iret, bt_zret, bt_lret, bt_vret, bt_cV, bt_cS, bt_tab, bt_tsw, bt_lk, bt_lsw, bt_acp, bt_mmax, bt_mmin, bt_can, bt_icmpeq, bt_ifeq, bt_icmpne, bt_ifne, bt_icmplt, bt_iflt, bt_icmpge, bt_ifge, bt_icmpgt, bt_ifgt, bt_icmple, bt_ifle, bt_ret, bt_kill, bt_kl, bt_ix, bt_nl, bt_sm, bt_sr, bt_sig, bt_tg, bt_loc, bt_locs, List.getElem?_cons_zero, List.getElem?_cons_succ, List.set_cons_zero, List.set_cons_succ, List.map_cons, List.map_nil, List.take_succ_cons, List.take_zero, List.drop_succ_cons, List.drop_zero, List.reverse_cons, List.reverse_nil, List.nil_append, List.cons_append, List.append_nil, List.length_cons, List.length_nil, List.replicate_succ, List.replicate_zero, Option.toList_some, Option.toList_none, Nat.reduceAdd, Nat.reduceSub, Nat.reduceLeDiff, Nat.zero_add, Nat.zero_le, true_and, and_true, Int.toNat_natCast, Sum.inl.injEq, Sum.inr.injEq, ↓reduceIte, Nat.reduceEqDiff, r1, r8, sh_0, sh_4, sh_105, hρ 4 _ (by decide), rf_4_2, g3]
    repeat (refine And.intro (by first | omega | decide | (simp only [and_true, true_and]; omega)) ?_)
    refine ⟨ρ, μ1, 105, 5, _, rfl, rfl, hρ, bt_m136.2.2.2, by decide, rfl, fun μ2 y1 y2 f2 => ?_⟩
    have fr2 : ∀ a, a ≠ 1 → a ≠ 4 → a ≠ 5 → a ≠ 105 → a ≠ 110 → μ2 a = μ a := fun a h1 h2 h3 h4 h5 => by rw [f2 a (by omega), fr1 a h1 h2 h3]
    simp (disch := omega) only [bt_ild, bt_lld, bt_ald, bt_ist, bt_lst, bt_ast, bt_inc, bt_ic, bt_lc, bt_iadd, bt_isub, bt_imul, bt_iand, bt_ior, bt_ixor, bt_ishl, bt_ishr, bt_iushr, bt_ladd, bt_lsub, bt_lmul, bt_land, bt_lor, bt_lushr, bt_lshl, bt_idiv, bt_irem, bt_ldiv, bt_lrem, bt_lcmp, bt_i2l, bt_l2i, bt_i2b, bt_pop, bt_dup, bt_dup2, bt_gfI, bt_gfJ, bt_gfR, bt_pfI, bt_pfZ, bt_pfJ, bt_pfR, bt_ial, bt_bal, bt_zal, bt_lal, bt_aal, bt_ias, bt_bas, bt_zas, bt_las, bt_len, bt_iret, bt_zret, bt_lret, bt_vret, bt_cV, bt_cS, bt_tab, bt_tsw, bt_lk, bt_lsw, bt_acp, bt_mmax, bt_mmin, bt_can, bt_icmpeq, bt_ifeq, bt_icmpne, bt_ifne, bt_icmplt, bt_iflt, bt_icmpge, bt_ifge, bt_icmpgt, bt_ifgt, bt_icmple, bt_ifle, bt_ret, bt_kill, bt_kl, bt_ix, bt_nl, bt_sm, bt_sr, bt_sig, bt_tg, bt_loc, bt_locs, List.getElem?_cons_zero, List.getElem?_cons_succ, List.set_cons_zero, List.set_cons_succ, List.map_cons, List.map_nil, List.take_succ_cons, List.take_zero, List.drop_succ_cons, List.drop_zero, List.reverse_cons, List.reverse_nil, List.nil_append, List.cons_append, List.append_nil, List.length_cons, List.length_nil, List.replicate_succ, List.replicate_zero, Option.toList_some, Option.toList_none, Nat.reduceAdd, Nat.reduceSub, Nat.reduceLeDiff, Nat.zero_add, Nat.zero_le, true_and, and_true, Int.toNat_natCast, Sum.inl.injEq, Sum.inr.injEq, ↓reduceIte, Nat.reduceEqDiff]
    refine hQ μ2 ?_ (fun a ha => fr2 a (by omega) (by omega) (by omega) (by omega) (by omega))
    unfold om_dy
    rw [if_pos h0]
    refine ⟨P, P', hR, fun j hj => ?_, hz, ⟨?_, ?_⟩, ⟨bt_vwc (fun j hj => fr2 _ (by omega) (by omega) (by omega) (by omega) (by omega)) _ _ hM.1, ?_, fun i hi => ?_, ?_, ?_⟩, ⟨hg.1, g4, fun i hi => ?_, hg.2.2.2⟩, fun i hi => (hK i hi).fr (fun a h1 h2 => fr2 a (by omega) (by omega) (by omega) (by omega) (by omega)), hU.fr (fr2 0 (by omega) (by omega) (by omega) (by omega) (by omega)) (fun a h1 h2 => fr2 a (by omega) (by omega) (by omega) (by omega) (by omega)), hT1 μ2 (by rw [f2 1 (by omega)]; exact g2) (fr2 2 (by omega) (by omega) (by omega) (by omega) (by omega)) (fr2 3 (by omega) (by omega) (by omega) (by omega) (by omega)), hW.fr (fr2 19 (by omega) (by omega) (by omega) (by omega) (by omega)) (fr2 33 (by omega) (by omega) (by omega) (by omega) (by omega))⟩
    · rw [fr2 _ (by omega) (by omega) (by omega) (by omega) (by omega)]; exact hE j hj
    · rw [fr2 _ (by omega) (by omega) (by omega) (by omega) (by omega)]; exact hs.1
    · rw [fr2 _ (by omega) (by omega) (by omega) (by omega) (by omega)]; exact hs.2
    · rw [y2 2, if_pos rfl]
    · have hi' : i < R.2.1 := hi
      obtain ⟨q, q1, q2⟩ := ok2 i hi'
      rw [y1 i (by omega), g5, q1]
      rfl
    · rw [y2 3, if_neg (by decide), fr1 105 (by omega) (by omega) (by omega)]; exact hM.2.2.2.1
    · rw [y2 4, if_neg (by decide), fr1 105 (by omega) (by omega) (by omega)]; exact hM.2.2.2.2
    · obtain ⟨q, q1, q2⟩ := ok2 i hi
      show ln_ok Ω.1 (R.2.2 i).toNat
      rw [q1]
      exact q2
