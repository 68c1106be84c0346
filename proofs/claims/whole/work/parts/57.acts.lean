/-! the class: act, move, tyre, hour, undo, tell -/
def om_do (Ω : om_O) (σ' : Nat → Nat → Int) : om_O := (Ω.1, (σ', Ω.2.1.2), Ω.2.2.1, (min (Ω.2.2.2.1.1 + 1) 16, fun i => if i = 0 then Ω.2.1.1 else Ω.2.2.2.1.2 (i - 1)), Ω.2.2.2.2)
theorem bt_past : ∀ k, k < 16 → bt_rf0 140 k = some (141 + 4 * k) ∧ (141 + 4 * k) ∈ bt_sts ∧ bt_sh0 (141 + 4 * k) = (6, 5) := by decide
def SpX10_act : bt_Sp := fun As w Q => ∃ (ρ : Nat → Nat → Option Nat) (μ : Nat → Nat → Int) (Ω : om_O) (x : Nat), As = [.inr (.inr 0), .inl (x : Int)] ∧ w = bt_wd ρ μ ∧ ci_I Ω ρ μ ∧ x % 4 < 3 ∧ x / 32 < 8 ∧ (ab_ok Ω.1 Ω.2.1.1 (x % 4) (x / 4 % 8) (x / 32) = true → ∀ μ', ci_I (om_do Ω (ab_ob Ω.1 Ω.2.1.1 (x % 4) (x / 4 % 8) (x / 32))) ρ μ' → bt_fr (fun a => a < 205) μ' μ → Q (some (.inl 1)) (bt_wd ρ μ')) ∧ (ab_ok Ω.1 Ω.2.1.1 (x % 4) (x / 4 % 8) (x / 32) = false → ∀ μ', bt_fr ci_s2 μ' μ → Q (some (.inl 0)) (bt_wd ρ μ'))
set_option maxHeartbeats 4000000 in
theorem mtX10_act : bt_Met yX10_act cX10_act 2 (some .boolean) 6 [2, 0] SpX10_act := by
  refine bt_metW (lfX10_act mtX6_copy (by decide) mtX1_obey (by decide) (by decide)) (fun As w Q _ hS => ?_)
  obtain ⟨ρ, μ, Ω, x, rfl, rfl, hI, hx4, hx32, hQ1, hQ0⟩ := hS
  obtain ⟨P, P', hR, hE, hz, hs, hM, hg, hK, hU, hT, hW⟩ := id hI
  obtain ⟨hρ, ⟨hP, hP', hPP⟩, r0, r1, r2, r3, r4, r5, r6, r7, r8, r9, r10, r11⟩ := id hR
  have hz1 := hE.zq
  have hsq := hM.1
  have hZ := hz.1
  have hSt := hg.1
  have b1 := bt_zo2 P hP
  have b2 := bt_zo2 P' hP'
  obtain ⟨e, u1, u2, u3, u4, u5⟩ := hU
  obtain ⟨p1, p2, p3⟩ := bt_past e u4
  have hxx : (x : Int) = ((x % 4 + 4 * (x / 4 % 8) + 32 * (x / 32) : Nat) : Int) := by congr 1; omega
  simp (disch := omega) only [tX10_act_0, bt_ald, bt_gfR, bt_cV, bt_sig, bt_tg, bt_loc, bt_locs, List.getElem?_cons_zero, List.getElem?_cons_succ, List.set_cons_zero, List.set_cons_succ, List.map_cons, List.map_nil, List.take_succ_cons, List.take_zero, List.drop_succ_cons, List.drop_zero, List.reverse_cons, List.reverse_nil, List.nil_append, List.cons_append, List.append_nil, List.length_cons, List.length_nil, List.replicate_succ, List.replicate_zero, Option.toList_some, Option.toList_none, Nat.reduceAdd, Nat.reduceSub, Nat.reduceLeDiff, Nat.zero_add, Nat.zero_le, true_and, and_true, Int.toNat_natCast, Sum.inl.injEq, Sum.inr.injEq, ↓reduceIte, Nat.reduceEqDiff, r8, r10, sh_0, sh_105, sh_136, hρ 105 _ (by decide), rf_105_0]
  repeat (refine And.intro (by first | omega | decide | (simp only [and_true, true_and]; omega)) ?_)
  refine ⟨ρ, μ, 136, 106, rfl, rfl, hρ, bt_m136.1, bt_m136.2.1, fun μ1 he1 f1 => ?_⟩
  simp (disch := omega) only [bt_ret, bt_ald, bt_ild, bt_gfR, bt_cV, bt_sig, bt_tg, bt_loc, bt_locs, List.getElem?_cons_zero, List.getElem?_cons_succ, List.set_cons_zero, List.set_cons_succ, List.map_cons, List.map_nil, List.take_succ_cons, List.take_zero, List.drop_succ_cons, List.drop_zero, List.reverse_cons, List.reverse_nil, List.nil_append, List.cons_append, List.append_nil, List.length_cons, List.length_nil, List.replicate_succ, List.replicate_zero, Option.toList_some, Option.toList_none, Nat.reduceAdd, Nat.reduceSub, Nat.reduceLeDiff, Nat.zero_add, Nat.zero_le, true_and, and_true, Int.toNat_natCast, Sum.inl.injEq, Sum.inr.injEq, ↓reduceIte, Nat.reduceEqDiff, r2, r6, r10, sh_0, sh_10]
  repeat (refine And.intro (by first | omega | decide | (simp only [and_true, true_and]; omega)) ?_)
  have hz2 : ab_zq Ω.1 (bt_vw μ1 P) := hz1.tr' (bt_vw_z (fun j hj => f1 _ (by unfold bt_inS; omega)))
  have hs2 : ab_sq Ω.1 Ω.2.1.1 (bt_vw μ1 136) := hsq.tr (ab_sq.cp hZ he1).sy
  refine ⟨ρ, μ1, 10, P, 136, x % 4, x / 4 % 8, x / 32, by rw [← hxx], rfl, hρ, bt_m136.2.2.1, hP, bt_m136.1, hx4, by omega, hx32, hz2.Z hZ, ab_sq.S hz2 hs2 hSt, fun μ2 hj f2 => ?_⟩
  rw [← ab_cok hz2 hs2]
  have hs3 : ab_sq Ω.1 (ab_ob Ω.1 Ω.2.1.1 (x % 4) (x / 4 % 8) (x / 32)) (bt_vw μ2 136) := (ab_cob hz2 hs2 hZ hSt _ _ _).tr (ab_sq.of hj).sy
  have hSb := ab_Sob hZ hSt (x % 4) (x / 4 % 8) (x / 32)
  have fr2 : ∀ a, ¬ ((10 ≤ a ∧ a ≤ 18) ∨ (136 ≤ a ∧ a ≤ 139)) → μ2 a = μ a := fun a ha => by rw [f2 a (by omega), f1 a (by unfold bt_inS; omega)]
  by_cases hok : ab_ok Ω.1 Ω.2.1.1 (x % 4) (x / 4 % 8) (x / 32) = true
  · rw [if_pos hok]
    have e0 : μ2 0 13 = (e : Int) := by rw [fr2 0 (by omega)]; exact u3
    have xe : bo_irem ((e : Int) + 1) 16 = (((e + 1) % 16 : Nat) : Int) := bo_irem_nat (a := e + 1) (d := 16) (by omega) (by decide) (by decide)
    have xm : bo_min ((Ω.2.2.2.1.1 : Int) + 1) 16 = ((min (Ω.2.2.2.1.1 + 1) 16 : Nat) : Int) := by
      unfold bo_min
      rw [bt_w_id (by omega) (by omega), bt_w_id (by omega) (by omega)]
      split <;> omega
    simp (disch := omega) only [bt_ret, bt_ifne, bt_ald, bt_gfR, bt_gfI, bt_aal, bt_ix, bt_cV, bt_sig, bt_tg, bt_loc, bt_locs, List.getElem?_cons_zero, List.getElem?_cons_succ, List.set_cons_zero, List.set_cons_succ, List.map_cons, List.map_nil, List.take_succ_cons, List.take_zero, List.drop_succ_cons, List.drop_zero, List.reverse_cons, List.reverse_nil, List.nil_append, List.cons_append, List.append_nil, List.length_cons, List.length_nil, List.replicate_succ, List.replicate_zero, Option.toList_some, Option.toList_none, Nat.reduceAdd, Nat.reduceSub, Nat.reduceLeDiff, Nat.zero_add, Nat.zero_le, true_and, and_true, Int.toNat_natCast, Sum.inl.injEq, Sum.inr.injEq, ↓reduceIte, Nat.reduceEqDiff, bt_w_id, Int.reduceEq, r8, r11, sh_0, sh_105, sh_140, hρ 105 _ (by decide), hρ 140 _ (by decide), rf_105_0, e0, p1]
    repeat (refine And.intro (by first | omega | decide | (simp only [and_true, true_and]; omega)) ?_)
    rw [p3]
    repeat (refine And.intro (by first | omega | decide | (simp only [and_true, true_and]; omega)) ?_)
    refine ⟨ρ, μ2, 141 + 4 * e, 106, rfl, rfl, hρ, p2, bt_m136.2.1, fun μ3 he3 f3 => ?_⟩
    have fr3 : ∀ a, ¬ ((10 ≤ a ∧ a ≤ 18) ∨ (136 ≤ a ∧ a ≤ 139) ∨ (141 + 4 * e ≤ a ∧ a ≤ 144 + 4 * e)) → μ3 a = μ a := fun a ha => by rw [f3 a (by unfold bt_inS; omega), fr2 a (by omega)]
    have c0 : μ3 0 13 = (e : Int) := by rw [fr3 0 (by omega)]; exact u3
    have c1 : μ3 0 12 = (Ω.2.2.2.1.1 : Int) := by rw [fr3 0 (by omega)]; exact u1
    have c2 : bt_up μ3 0 13 (((e + 1) % 16 : Nat) : Int) 0 12 = (Ω.2.2.2.1.1 : Int) := by rw [bt_up_ix (by decide)]; exact c1
    simp (disch := omega) only [bt_ret, bt_ald, bt_gfR, bt_gfI, bt_ic, bt_iadd, bt_irem, bt_mmin, bt_pfI, bt_sm, bt_cV, bt_sig, bt_tg, bt_loc, bt_locs, List.getElem?_cons_zero, List.getElem?_cons_succ, List.set_cons_zero, List.set_cons_succ, List.map_cons, List.map_nil, List.take_succ_cons, List.take_zero, List.drop_succ_cons, List.drop_zero, List.reverse_cons, List.reverse_nil, List.nil_append, List.cons_append, List.append_nil, List.length_cons, List.length_nil, List.replicate_succ, List.replicate_zero, Option.toList_some, Option.toList_none, Nat.reduceAdd, Nat.reduceSub, Nat.reduceLeDiff, Nat.zero_add, Nat.zero_le, true_and, and_true, Int.toNat_natCast, Sum.inl.injEq, Sum.inr.injEq, ↓reduceIte, Nat.reduceEqDiff, r8, r10, sh_0, sh_105, sh_106, hρ 105 _ (by decide), rf_105_0, c0, xe, c2, xm, bt_w_id, ne_eq, Int.reduceEq, not_false_eq_true]
    repeat (refine And.intro (by first | omega | decide | (simp only [and_true, true_and]; omega)) ?_)
    generalize hμ4 : bt_up (bt_up μ3 0 13 (((e + 1) % 16 : Nat) : Int)) 0 12 ((min (Ω.2.2.2.1.1 + 1) 16 : Nat) : Int) = μ4
    have g4 : ∀ a, a ≠ 0 → μ4 a = μ3 a := fun a ha => by rw [← hμ4, bt_up_cell ha, bt_up_cell ha]
    refine ⟨ρ, μ4, 106, 136, rfl, rfl, hρ, bt_m136.2.1, bt_m136.1, fun μ5 he5 f5 => ?_⟩
    simp (disch := omega) only [bt_ild, bt_lld, bt_ald, bt_ist, bt_lst, bt_ast, bt_inc, bt_ic, bt_lc, bt_iadd, bt_isub, bt_imul, bt_iand, bt_ior, bt_ixor, bt_ishl, bt_ishr, bt_iushr, bt_ladd, bt_lsub, bt_lmul, bt_land, bt_lor, bt_lushr, bt_lshl, bt_idiv, bt_irem, bt_ldiv, bt_lrem, bt_lcmp, bt_i2l, bt_l2i, bt_i2b, bt_pop, bt_dup, bt_dup2, bt_gfI, bt_gfJ, bt_gfR, bt_pfI, bt_pfZ, bt_pfJ, bt_pfR, bt_ial, bt_bal, bt_zal, bt_lal, bt_aal, bt_ias, bt_bas, bt_zas, bt_las, bt_len, bt_iret, bt_zret, bt_lret, bt_vret, bt_cV, bt_cS, bt_tab, bt_tsw, bt_lk, bt_lsw, bt_acp, bt_mmax, bt_mmin, bt_can, bt_icmpeq, bt_ifeq, bt_icmpne, bt_ifne, bt_icmplt, bt_iflt, bt_icmpge, bt_ifge, bt_icmpgt, bt_ifgt, bt_icmple, bt_ifle, bt_ret, bt_kill, bt_kl, bt_ix, bt_nl, bt_sm, bt_sr, bt_sig, bt_tg, bt_loc, bt_locs, List.getElem?_cons_zero, List.getElem?_cons_succ, List.set_cons_zero, List.set_cons_succ, List.map_cons, List.map_nil, List.take_succ_cons, List.take_zero, List.drop_succ_cons, List.drop_zero, List.reverse_cons, List.reverse_nil, List.nil_append, List.cons_append, List.append_nil, List.length_cons, List.length_nil, List.replicate_succ, List.replicate_zero, Option.toList_some, Option.toList_none, Nat.reduceAdd, Nat.reduceSub, Nat.reduceLeDiff, Nat.zero_add, Nat.zero_le, true_and, and_true, Int.toNat_natCast, Sum.inl.injEq, Sum.inr.injEq, ↓reduceIte, Nat.reduceEqDiff, r3, sh_0, sh_19]
    repeat (refine And.intro (by first | omega | decide | (simp only [and_true, true_and]; omega)) ?_)
    first | refine ⟨by simp, hQ1 hok _ ?_ (fun a ha => ?_)⟩ | refine hQ1 hok _ ?_ (fun a ha => ?_)
    · have k5 : ∀ a, a ≠ 19 → ¬ (106 ≤ a ∧ a ≤ 109) → bt_up μ5 19 5 0 a = μ4 a := fun a h1 h2 => by rw [bt_up_cell h1, f5 a (by unfold bt_inS; omega)]
      have k6 : ∀ a, a ≠ 19 → a ≠ 0 → ¬ ((10 ≤ a ∧ a ≤ 18) ∨ (136 ≤ a ∧ a ≤ 139) ∨ (141 + 4 * e ≤ a ∧ a ≤ 144 + 4 * e) ∨ (106 ≤ a ∧ a ≤ 109)) → bt_up μ5 19 5 0 a = μ a := fun a h1 h2 h3 => by rw [k5 a h1 (by omega), g4 a h2, fr3 a (by omega)]
      have s106 : ab_sq Ω.1 (ab_ob Ω.1 Ω.2.1.1 (x % 4) (x / 4 % 8) (x / 32)) (bt_vw (bt_up μ5 19 5 0) 106) := by
        refine bt_vwc (μ := μ5) (fun j hj => bt_up_cell (by omega)) Ω.1 _ ?_
        refine ab_sq.tr ?_ (ab_sq.cp hZ he5).sy
        refine bt_vwc (μ := μ2) (fun j hj => ?_) Ω.1 _ hs3
        rw [g4 _ (by omega), f3 _ (by unfold bt_inS; omega)]
      refine ⟨P, P', hR, fun j hj => ?_, hz, ⟨?_, ?_⟩, ⟨s106, ?_, fun i hi => ?_, ?_, ?_⟩, ⟨hSb, hg.2⟩, fun i hi => (hK i hi).fr (fun a h1 h2 => k6 a (by omega) (by omega) (by omega)), ⟨(e + 1) % 16, ?_, ?_, ?_, Nat.mod_lt _ (by decide), fun i hi => ?_⟩, hT.fr ?_ ?_ ?_, ?_⟩
      · rw [k6 _ (by omega) (by omega) (by omega)]; exact hE j hj
      · rw [k6 _ (by omega) (by omega) (by omega)]; exact hs.1
      · rw [k6 _ (by omega) (by omega) (by omega)]; exact hs.2
      · rw [k6 _ (by omega) (by omega) (by omega)]; exact hM.2.1
      · rw [k6 _ (by omega) (by omega) (by omega)]; exact hM.2.2.1 i hi
      · rw [k6 _ (by omega) (by omega) (by omega)]; exact hM.2.2.2.1
      · rw [k6 _ (by omega) (by omega) (by omega)]; exact hM.2.2.2.2
      · rw [k5 0 (by omega) (by omega), ← hμ4, bt_up_same]; rfl
      · show min (Ω.2.2.2.1.1 + 1) 16 ≤ 16; omega
      · rw [k5 0 (by omega) (by omega), ← hμ4, bt_up_ix (by decide), bt_up_same]
      · have hi' : i < min (Ω.2.2.2.1.1 + 1) 16 := hi
        show ab_sq Ω.1 (if i = 0 then Ω.2.1.1 else Ω.2.2.2.1.2 (i - 1)) _ ∧ ab_S Ω.1 (if i = 0 then Ω.2.1.1 else Ω.2.2.2.1.2 (i - 1))
        by_cases i0 : i = 0
        · rw [if_pos i0]
          refine ⟨?_, hSt⟩
          have hix : ((e + 1) % 16 + 15 - i) % 16 = e := by omega
          rw [hix]
          refine bt_vwc (μ := μ3) (fun j hj => by rw [k5 _ (by omega) (by omega), g4 _ (by omega)]) Ω.1 _ ?_
          refine ab_sq.tr ?_ (ab_sq.cp hZ he3).sy
          exact bt_vwc (fun j hj => fr2 _ (by omega)) Ω.1 _ hsq
        · rw [if_neg i0]
          obtain ⟨v1, v2⟩ := u5 (i - 1) (by omega)
          refine ⟨?_, v2⟩
          have hix : ((e + 1) % 16 + 15 - i) % 16 = (e + 15 - (i - 1)) % 16 := by omega
          rw [hix]
          have hne : (e + 15 - (i - 1)) % 16 ≠ e := by omega
          generalize (e + 15 - (i - 1)) % 16 = q at *
          exact bt_vwc (fun j hj => k6 _ (by omega) (by omega) (by omega)) Ω.1 _ v1
      · rw [k6 1 (by omega) (by omega) (by omega)]
      · exact k6 2 (by omega) (by omega) (by omega)
      · exact k6 3 (by omega) (by omega) (by omega)
      · refine ⟨?_, ?_, Or.inl (bt_up_same _ _ _ _)⟩
        · rw [bt_up_ix (by decide), f5 19 (by unfold bt_inS; omega), g4 19 (by omega), fr3 19 (by omega)]; exact hW.1
        · rw [bt_up_ix (by decide), f5 19 (by unfold bt_inS; omega), g4 19 (by omega), fr3 19 (by omega)]; exact hW.2.1
    · rw [bt_up_cell (by omega), f5 a (by unfold bt_inS; omega), g4 a (by omega), fr3 a (by omega)]
  · have hok' : ab_ok Ω.1 Ω.2.1.1 (x % 4) (x / 4 % 8) (x / 32) = false := Bool.eq_false_iff.mpr hok
    rw [if_neg hok]
    simp (disch := omega) only [bt_ret, bt_ifne, bt_ic, bt_zret, bt_loc, bt_locs, List.getElem?_cons_zero, List.getElem?_cons_succ, List.set_cons_zero, List.set_cons_succ, List.map_cons, List.map_nil, List.take_succ_cons, List.take_zero, List.drop_succ_cons, List.drop_zero, List.reverse_cons, List.reverse_nil, List.nil_append, List.cons_append, List.append_nil, List.length_cons, List.length_nil, List.replicate_succ, List.replicate_zero, Option.toList_some, Option.toList_none, Nat.reduceAdd, Nat.reduceSub, Nat.reduceLeDiff, Nat.zero_add, Nat.zero_le, true_and, and_true, Int.toNat_natCast, Sum.inl.injEq, Sum.inr.injEq, ↓reduceIte, Nat.reduceEqDiff, bt_w_id]
    first | exact ⟨by simp, hQ0 hok' μ2 (fun a ha => fr2 a (by unfold ci_s2 at ha; omega))⟩ | exact hQ0 hok' μ2 (fun a ha => fr2 a (by unfold ci_s2 at ha; omega))
/-- move: may it be -/
def an_mv (ζ σ : Nat → Nat → Int) (x y : Int) : Bool := decide (0 ≤ x ∧ x < nG ζ) && decide (0 ≤ y ∧ y < nP ζ) && ab_can ζ σ x.toNat y
def SpX10_move : bt_Sp := fun As w Q => ∃ (ρ : Nat → Nat → Option Nat) (μ : Nat → Nat → Int) (Ω : om_O) (x y : Int), As = [.inr (.inr 0), .inl x, .inl y] ∧ w = bt_wd ρ μ ∧ ci_I Ω ρ μ ∧ bt_i32 x ∧ bt_i32 y ∧ (an_mv Ω.1 Ω.2.1.1 x y = true → ∀ μ', ci_I (om_do Ω (ab_mv Ω.2.1.1 x.toNat y.toNat)) ρ μ' → bt_fr (fun a => a < 205) μ' μ → Q (some (.inl 1)) (bt_wd ρ μ')) ∧ (an_mv Ω.1 Ω.2.1.1 x y = false → ∀ μ', bt_fr ci_s2 μ' μ → Q (some (.inl 0)) (bt_wd ρ μ'))
set_option maxHeartbeats 4000000 in
theorem mtX10_move : bt_Met yX10_move cX10_move 3 (some .boolean) 7 [2, 0, 0] SpX10_move := by
  refine bt_metW (lfX10_move mtX10_isGuest (by decide) mtX10_isPen (by decide) mtX10_lineOf (by decide) mtX10_act (by decide)) (fun As w Q _ hS => ?_)
  obtain ⟨ρ, μ, Ω, x, y, rfl, rfl, hI, hx, hy, hQ1, hQ0⟩ := hS
  obtain ⟨P, P', hR, hE, hz1, hZ', hS', hZ, hSt, hsq, ⟨⟨n0, m0⟩, ⟨n1, m1⟩, n2, m2⟩, hP1, hP2⟩ := ci_f hI
  simp (disch := omega) only [tX10_move_0, tX10_move_33, tX10_move_34, bt_ald, bt_ild, bt_cV, bt_sig, bt_tg, bt_loc, bt_locs, List.getElem?_cons_zero, List.getElem?_cons_succ, List.set_cons_zero, List.set_cons_succ, List.map_cons, List.map_nil, List.take_succ_cons, List.take_zero, List.drop_succ_cons, List.drop_zero, List.reverse_cons, List.reverse_nil, List.nil_append, List.cons_append, List.append_nil, List.length_cons, List.length_nil, List.replicate_succ, List.replicate_zero, Option.toList_some, Option.toList_none, Nat.reduceAdd, Nat.reduceSub, Nat.reduceLeDiff, Nat.zero_add, Nat.zero_le, true_and, and_true, Int.toNat_natCast, Sum.inl.injEq, Sum.inr.injEq, ↓reduceIte, Nat.reduceEqDiff, sh_0]
  repeat (refine And.intro (by first | omega | decide | (simp only [and_true, true_and]; omega)) ?_)
  refine is_call (n := nG Ω.1) (k := 0) hR n1 m1 hx _ (Or.inr (Or.inl ⟨rfl, rfl⟩)) ?_
  by_cases h1 : 0 ≤ x ∧ x < (nG Ω.1 : Int)
  · rw [if_pos h1]
    simp (disch := omega) only [bt_ret, bt_ifeq, bt_ald, bt_ild, bt_cV, bt_sig, bt_tg, bt_loc, bt_locs, List.getElem?_cons_zero, List.getElem?_cons_succ, List.set_cons_zero, List.set_cons_succ, List.map_cons, List.map_nil, List.take_succ_cons, List.take_zero, List.drop_succ_cons, List.drop_zero, List.reverse_cons, List.reverse_nil, List.nil_append, List.cons_append, List.append_nil, List.length_cons, List.length_nil, List.replicate_succ, List.replicate_zero, Option.toList_some, Option.toList_none, Nat.reduceAdd, Nat.reduceSub, Nat.reduceLeDiff, Nat.zero_add, Nat.zero_le, true_and, and_true, Int.toNat_natCast, Sum.inl.injEq, Sum.inr.injEq, ↓reduceIte, Nat.reduceEqDiff, sh_0, bt_w_id, Int.reduceEq]
    repeat (refine And.intro (by first | omega | decide | (simp only [and_true, true_and]; omega)) ?_)
    refine is_call (n := nP Ω.1) (k := 0) hR n0 m0 hy _ (Or.inl ⟨rfl, rfl⟩) ?_
    by_cases h2 : 0 ≤ y ∧ y < (nP Ω.1 : Int)
    · rw [if_pos h2]
      obtain ⟨g, rfl⟩ : ∃ k : Nat, x = (k : Int) := ⟨x.toNat, by omega⟩
      obtain ⟨p, rfl⟩ : ∃ k : Nat, y = (k : Int) := ⟨y.toNat, by omega⟩
      simp (disch := omega) only [bt_ret, bt_ifeq, bt_ald, bt_ild, bt_ic, bt_cV, bt_cS, bt_sig, bt_tg, bt_loc, bt_locs, List.getElem?_cons_zero, List.getElem?_cons_succ, List.set_cons_zero, List.set_cons_succ, List.map_cons, List.map_nil, List.take_succ_cons, List.take_zero, List.drop_succ_cons, List.drop_zero, List.reverse_cons, List.reverse_nil, List.nil_append, List.cons_append, List.append_nil, List.length_cons, List.length_nil, List.replicate_succ, List.replicate_zero, Option.toList_some, Option.toList_none, Nat.reduceAdd, Nat.reduceSub, Nat.reduceLeDiff, Nat.zero_add, Nat.zero_le, true_and, and_true, Int.toNat_natCast, Sum.inl.injEq, Sum.inr.injEq, ↓reduceIte, Nat.reduceEqDiff, sh_0, bt_w_id, Int.reduceEq]
      repeat (refine And.intro (by first | omega | decide | (simp only [and_true, true_and]; omega)) ?_)
      refine ab_line_call (v := 0) (g := g) (p := p) ?_
      simp (disch := omega) only [bt_ret, bt_cV, bt_sig, bt_tg, bt_loc, bt_locs, List.getElem?_cons_zero, List.getElem?_cons_succ, List.set_cons_zero, List.set_cons_succ, List.map_cons, List.map_nil, List.take_succ_cons, List.take_zero, List.drop_succ_cons, List.drop_zero, List.reverse_cons, List.reverse_nil, List.nil_append, List.cons_append, List.append_nil, List.length_cons, List.length_nil, List.replicate_succ, List.replicate_zero, Option.toList_some, Option.toList_none, Nat.reduceAdd, Nat.reduceSub, Nat.reduceLeDiff, Nat.zero_add, Nat.zero_le, true_and, and_true, Int.toNat_natCast, Sum.inl.injEq, Sum.inr.injEq, ↓reduceIte, Nat.reduceEqDiff, sh_0]
      repeat (refine And.intro (by first | omega | decide | (simp only [and_true, true_and]; omega)) ?_)
      have x1 : (4 * g + 32 * p) % 4 = 0 := by omega
      have x2 : (4 * g + 32 * p) / 4 % 8 = g := by omega
      have x3 : (4 * g + 32 * p) / 32 = p := by omega
      have hmv : an_mv Ω.1 Ω.2.1.1 (g : Int) (p : Int) = ab_ok Ω.1 Ω.2.1.1 0 g p := by
        unfold an_mv ab_ok
        simp only [Int.toNat_natCast, ↓reduceIte]
        congr 2
        · simp
        · simp
      refine ⟨ρ, μ, Ω, 4 * g + 32 * p, rfl, rfl, hI, by omega, by omega, fun hk μ2 hI2 hf2 => ?_, fun hk μ2 hf2 => ?_⟩
      · rw [x1, x2, x3] at hk hI2
        simp (disch := omega) only [bt_ild, bt_lld, bt_ald, bt_ist, bt_lst, bt_ast, bt_inc, bt_ic, bt_lc, bt_iadd, bt_isub, bt_imul, bt_iand, bt_ior, bt_ixor, bt_ishl, bt_ishr, bt_iushr, bt_ladd, bt_lsub, bt_lmul, bt_land, bt_lor, bt_lushr, bt_lshl, bt_idiv, bt_irem, bt_ldiv, bt_lrem, bt_lcmp, bt_i2l, bt_l2i, bt_i2b, bt_pop, bt_dup, bt_dup2, bt_gfI, bt_gfJ, bt_gfR, bt_pfI, bt_pfZ, bt_pfJ, bt_pfR, bt_ial, bt_bal, bt_zal, bt_lal, bt_aal, bt_ias, bt_bas, bt_zas, bt_las, bt_len, bt_iret, bt_zret, bt_lret, bt_vret, bt_cV, bt_cS, bt_tab, bt_tsw, bt_lk, bt_lsw, bt_acp, bt_mmax, bt_mmin, bt_can, bt_icmpeq, bt_ifeq, bt_icmpne, bt_ifne, bt_icmplt, bt_iflt, bt_icmpge, bt_ifge, bt_icmpgt, bt_ifgt, bt_icmple, bt_ifle, bt_ret, bt_kill, bt_kl, bt_ix, bt_nl, bt_sm, bt_sr, bt_sig, bt_tg, bt_loc, bt_locs, List.getElem?_cons_zero, List.getElem?_cons_succ, List.set_cons_zero, List.set_cons_succ, List.map_cons, List.map_nil, List.take_succ_cons, List.take_zero, List.drop_succ_cons, List.drop_zero, List.reverse_cons, List.reverse_nil, List.nil_append, List.cons_append, List.append_nil, List.length_cons, List.length_nil, List.replicate_succ, List.replicate_zero, Option.toList_some, Option.toList_none, Nat.reduceAdd, Nat.reduceSub, Nat.reduceLeDiff, Nat.zero_add, Nat.zero_le, true_and, and_true, Int.toNat_natCast, Sum.inl.injEq, Sum.inr.injEq, ↓reduceIte, Nat.reduceEqDiff, bt_w_id, Int.reduceEq, ↓reduceIte]
        first | refine ⟨by simp, hQ1 (by rw [hmv]; exact hk) μ2 ?_ hf2⟩ | refine hQ1 (by rw [hmv]; exact hk) μ2 ?_ hf2
        have e1 : ab_ob Ω.1 Ω.2.1.1 0 g p = ab_mv Ω.2.1.1 g p := by unfold ab_ob; rw [hk]; rfl
        rw [e1] at hI2
        exact hI2
      · rw [x1, x2, x3] at hk
        simp (disch := omega) only [bt_ild, bt_lld, bt_ald, bt_ist, bt_lst, bt_ast, bt_inc, bt_ic, bt_lc, bt_iadd, bt_isub, bt_imul, bt_iand, bt_ior, bt_ixor, bt_ishl, bt_ishr, bt_iushr, bt_ladd, bt_lsub, bt_lmul, bt_land, bt_lor, bt_lushr, bt_lshl, bt_idiv, bt_irem, bt_ldiv, bt_lrem, bt_lcmp, bt_i2l, bt_l2i, bt_i2b, bt_pop, bt_dup, bt_dup2, bt_gfI, bt_gfJ, bt_gfR, bt_pfI, bt_pfZ, bt_pfJ, bt_pfR, bt_ial, bt_bal, bt_zal, bt_lal, bt_aal, bt_ias, bt_bas, bt_zas, bt_las, bt_len, bt_iret, bt_zret, bt_lret, bt_vret, bt_cV, bt_cS, bt_tab, bt_tsw, bt_lk, bt_lsw, bt_acp, bt_mmax, bt_mmin, bt_can, bt_icmpeq, bt_ifeq, bt_icmpne, bt_ifne, bt_icmplt, bt_iflt, bt_icmpge, bt_ifge, bt_icmpgt, bt_ifgt, bt_icmple, bt_ifle, bt_ret, bt_kill, bt_kl, bt_ix, bt_nl, bt_sm, bt_sr, bt_sig, bt_tg, bt_loc, bt_locs, List.getElem?_cons_zero, List.getElem?_cons_succ, List.set_cons_zero, List.set_cons_succ, List.map_cons, List.map_nil, List.take_succ_cons, List.take_zero, List.drop_succ_cons, List.drop_zero, List.reverse_cons, List.reverse_nil, List.nil_append, List.cons_append, List.append_nil, List.length_cons, List.length_nil, List.replicate_succ, List.replicate_zero, Option.toList_some, Option.toList_none, Nat.reduceAdd, Nat.reduceSub, Nat.reduceLeDiff, Nat.zero_add, Nat.zero_le, true_and, and_true, Int.toNat_natCast, Sum.inl.injEq, Sum.inr.injEq, ↓reduceIte, Nat.reduceEqDiff, bt_w_id, ↓reduceIte]
        first | exact ⟨by simp, hQ0 (by rw [hmv]; exact hk) μ2 hf2⟩ | exact hQ0 (by rw [hmv]; exact hk) μ2 hf2
    · rw [if_neg h2]
      simp (disch := omega) only [bt_ild, bt_lld, bt_ald, bt_ist, bt_lst, bt_ast, bt_inc, bt_ic, bt_lc, bt_iadd, bt_isub, bt_imul, bt_iand, bt_ior, bt_ixor, bt_ishl, bt_ishr, bt_iushr, bt_ladd, bt_lsub, bt_lmul, bt_land, bt_lor, bt_lushr, bt_lshl, bt_idiv, bt_irem, bt_ldiv, bt_lrem, bt_lcmp, bt_i2l, bt_l2i, bt_i2b, bt_pop, bt_dup, bt_dup2, bt_gfI, bt_gfJ, bt_gfR, bt_pfI, bt_pfZ, bt_pfJ, bt_pfR, bt_ial, bt_bal, bt_zal, bt_lal, bt_aal, bt_ias, bt_bas, bt_zas, bt_las, bt_len, bt_iret, bt_zret, bt_lret, bt_vret, bt_cV, bt_cS, bt_tab, bt_tsw, bt_lk, bt_lsw, bt_acp, bt_mmax, bt_mmin, bt_can, bt_icmpeq, bt_ifeq, bt_icmpne, bt_ifne, bt_icmplt, bt_iflt, bt_icmpge, bt_ifge, bt_icmpgt, bt_ifgt, bt_icmple, bt_ifle, bt_ret, bt_kill, bt_kl, bt_ix, bt_nl, bt_sm, bt_sr, bt_sig, bt_tg, bt_loc, bt_locs, List.getElem?_cons_zero, List.getElem?_cons_succ, List.set_cons_zero, List.set_cons_succ, List.map_cons, List.map_nil, List.take_succ_cons, List.take_zero, List.drop_succ_cons, List.drop_zero, List.reverse_cons, List.reverse_nil, List.nil_append, List.cons_append, List.append_nil, List.length_cons, List.length_nil, List.replicate_succ, List.replicate_zero, Option.toList_some, Option.toList_none, Nat.reduceAdd, Nat.reduceSub, Nat.reduceLeDiff, Nat.zero_add, Nat.zero_le, true_and, and_true, Int.toNat_natCast, Sum.inl.injEq, Sum.inr.injEq, ↓reduceIte, Nat.reduceEqDiff, bt_w_id, ↓reduceIte]
      first | exact ⟨by simp, hQ0 (by unfold an_mv; rw [decide_eq_false h2]; simp) μ (fun _ _ => rfl)⟩ | exact hQ0 (by unfold an_mv; rw [decide_eq_false h2]; simp) μ (fun _ _ => rfl)
  · rw [if_neg h1]
    simp (disch := omega) only [bt_ild, bt_lld, bt_ald, bt_ist, bt_lst, bt_ast, bt_inc, bt_ic, bt_lc, bt_iadd, bt_isub, bt_imul, bt_iand, bt_ior, bt_ixor, bt_ishl, bt_ishr, bt_iushr, bt_ladd, bt_lsub, bt_lmul, bt_land, bt_lor, bt_lushr, bt_lshl, bt_idiv, bt_irem, bt_ldiv, bt_lrem, bt_lcmp, bt_i2l, bt_l2i, bt_i2b, bt_pop, bt_dup, bt_dup2, bt_gfI, bt_gfJ, bt_gfR, bt_pfI, bt_pfZ, bt_pfJ, bt_pfR, bt_ial, bt_bal, bt_zal, bt_lal, bt_aal, bt_ias, bt_bas, bt_zas, bt_las, bt_len, bt_iret, bt_zret, bt_lret, bt_vret, bt_cV, bt_cS, bt_tab, bt_tsw, bt_lk, bt_lsw, bt_acp, bt_mmax, bt_mmin, bt_can, bt_icmpeq, bt_ifeq, bt_icmpne, bt_ifne, bt_icmplt, bt_iflt, bt_icmpge, bt_ifge, bt_icmpgt, bt_ifgt, bt_icmple, bt_ifle, bt_ret, bt_kill, bt_kl, bt_ix, bt_nl, bt_sm, bt_sr, bt_sig, bt_tg, bt_loc, bt_locs, List.getElem?_cons_zero, List.getElem?_cons_succ, List.set_cons_zero, List.set_cons_succ, List.map_cons, List.map_nil, List.take_succ_cons, List.take_zero, List.drop_succ_cons, List.drop_zero, List.reverse_cons, List.reverse_nil, List.nil_append, List.cons_append, List.append_nil, List.length_cons, List.length_nil, List.replicate_succ, List.replicate_zero, Option.toList_some, Option.toList_none, Nat.reduceAdd, Nat.reduceSub, Nat.reduceLeDiff, Nat.zero_add, Nat.zero_le, true_and, and_true, Int.toNat_natCast, Sum.inl.injEq, Sum.inr.injEq, ↓reduceIte, Nat.reduceEqDiff, bt_w_id, ↓reduceIte]
    first | exact ⟨by simp, hQ0 (by unfold an_mv; rw [decide_eq_false h1]; rfl) μ (fun _ _ => rfl)⟩ | exact hQ0 (by unfold an_mv; rw [decide_eq_false h1]; rfl) μ (fun _ _ => rfl)
def an_tr (ζ σ : Nat → Nat → Int) (x : Int) : Bool := decide (0 ≤ x ∧ x < nG ζ) && decide (¬ bt_w (σ 0 1) < bt_w (ζ 0 6))
def SpX10_tyre : bt_Sp := fun As w Q => ∃ (ρ : Nat → Nat → Option Nat) (μ : Nat → Nat → Int) (Ω : om_O) (x : Int), As = [.inr (.inr 0), .inl x] ∧ w = bt_wd ρ μ ∧ ci_I Ω ρ μ ∧ bt_i32 x ∧ (an_tr Ω.1 Ω.2.1.1 x = true → ∀ μ', ci_I (om_do Ω (ab_ty Ω.1 Ω.2.1.1 x.toNat)) ρ μ' → bt_fr (fun a => a < 205) μ' μ → Q (some (.inl (ab_mt Ω.1 Ω.2.1.1 x.toNat))) (bt_wd ρ μ')) ∧ (an_tr Ω.1 Ω.2.1.1 x = false → ∀ μ', bt_fr ci_s2 μ' μ → Q (some (.inl (-1))) (bt_wd ρ μ'))
set_option maxHeartbeats 4000000 in
theorem mtX10_tyre : bt_Met yX10_tyre cX10_tyre 2 (some .int) 7 [2, 0] SpX10_tyre := by
  refine bt_metW (lfX10_tyre mtX10_isGuest (by decide) mtX10_lineOf (by decide) mtX10_act (by decide)) (fun As w Q _ hS => ?_)
  obtain ⟨ρ, μ, Ω, x, rfl, rfl, hI, hx, hQ1, hQ0⟩ := hS
  obtain ⟨P, P', hR, hE, hz1, hZ', hS', hZ, hSt, hsq, ⟨⟨n0, m0⟩, ⟨n1, m1⟩, n2, m2⟩, hP1, hP2⟩ := ci_f hI
  obtain ⟨hρ, ⟨hP, hP', hPP⟩, r0, r1, r2, r3, r4, r5, r6, r7, r8, r9, r10, r11⟩ := id hR
  simp (disch := omega) only [tX10_tyre_0, tX10_tyre_21, bt_ald, bt_ild, bt_cV, bt_sig, bt_tg, bt_loc, bt_locs, List.getElem?_cons_zero, List.getElem?_cons_succ, List.set_cons_zero, List.set_cons_succ, List.map_cons, List.map_nil, List.take_succ_cons, List.take_zero, List.drop_succ_cons, List.drop_zero, List.reverse_cons, List.reverse_nil, List.nil_append, List.cons_append, List.append_nil, List.length_cons, List.length_nil, List.replicate_succ, List.replicate_zero, Option.toList_some, Option.toList_none, Nat.reduceAdd, Nat.reduceSub, Nat.reduceLeDiff, Nat.zero_add, Nat.zero_le, true_and, and_true, Int.toNat_natCast, Sum.inl.injEq, Sum.inr.injEq, ↓reduceIte, Nat.reduceEqDiff, sh_0]
  repeat (refine And.intro (by first | omega | decide | (simp only [and_true, true_and]; omega)) ?_)
  refine is_call (n := nG Ω.1) (k := 0) hR n1 m1 hx _ (Or.inr (Or.inl ⟨rfl, rfl⟩)) ?_
  by_cases h1 : 0 ≤ x ∧ x < (nG Ω.1 : Int)
  · rw [if_pos h1]
    obtain ⟨g, rfl⟩ : ∃ k : Nat, x = (k : Int) := ⟨x.toNat, by omega⟩
    simp only [Int.toNat_natCast] at hQ1
    simp (disch := omega) only [bt_ret, bt_ifeq, bt_ald, bt_ild, bt_ic, bt_cV, bt_cS, bt_sig, bt_tg, bt_loc, bt_locs, List.getElem?_cons_zero, List.getElem?_cons_succ, List.set_cons_zero, List.set_cons_succ, List.map_cons, List.map_nil, List.take_succ_cons, List.take_zero, List.drop_succ_cons, List.drop_zero, List.reverse_cons, List.reverse_nil, List.nil_append, List.cons_append, List.append_nil, List.length_cons, List.length_nil, List.replicate_succ, List.replicate_zero, Option.toList_some, Option.toList_none, Nat.reduceAdd, Nat.reduceSub, Nat.reduceLeDiff, Nat.zero_add, Nat.zero_le, true_and, and_true, Int.toNat_natCast, Sum.inl.injEq, Sum.inr.injEq, ↓reduceIte, Nat.reduceEqDiff, sh_0, bt_w_id, Int.reduceEq]
    repeat (refine And.intro (by first | omega | decide | (simp only [and_true, true_and]; omega)) ?_)
    refine ab_line_call (v := 1) (g := g) (p := 0) ?_
    simp (disch := omega) only [bt_ret, bt_cV, bt_sig, bt_tg, bt_loc, bt_locs, List.getElem?_cons_zero, List.getElem?_cons_succ, List.set_cons_zero, List.set_cons_succ, List.map_cons, List.map_nil, List.take_succ_cons, List.take_zero, List.drop_succ_cons, List.drop_zero, List.reverse_cons, List.reverse_nil, List.nil_append, List.cons_append, List.append_nil, List.length_cons, List.length_nil, List.replicate_succ, List.replicate_zero, Option.toList_some, Option.toList_none, Nat.reduceAdd, Nat.reduceSub, Nat.reduceLeDiff, Nat.zero_add, Nat.zero_le, true_and, and_true, Int.toNat_natCast, Sum.inl.injEq, Sum.inr.injEq, ↓reduceIte, Nat.reduceEqDiff, sh_0]
    repeat (refine And.intro (by first | omega | decide | (simp only [and_true, true_and]; omega)) ?_)
    have x1 : (1 + 4 * g + 32 * 0) % 4 = 1 := by omega
    have x2 : (1 + 4 * g + 32 * 0) / 4 % 8 = g := by omega
    have x3 : (1 + 4 * g + 32 * 0) / 32 = 0 := by omega
    have hg : g < nG Ω.1 := by omega
    have hmv : an_tr Ω.1 Ω.2.1.1 (g : Int) = ab_ok Ω.1 Ω.2.1.1 1 g 0 := by
      unfold an_tr ab_ok
      simp [hg]
    refine ⟨ρ, μ, Ω, 1 + 4 * g + 32 * 0, rfl, rfl, hI, by omega, by omega, fun hk μ2 hI2 hf2 => ?_, fun hk μ2 hf2 => ?_⟩
    · rw [x1, x2, x3] at hk hI2
      have e1 : ab_ob Ω.1 Ω.2.1.1 1 g 0 = ab_ty Ω.1 Ω.2.1.1 g := by unfold ab_ob; rw [hk]; rfl
      rw [e1] at hI2
      have q := hQ1 (by rw [hmv]; exact hk) μ2 hI2 hf2
      obtain ⟨-, -, -, -, -, -, hM2, -⟩ := id hI2
      have e2 : μ2 108 g = ab_mt Ω.1 Ω.2.1.1 g := by
        have := (hM2.1.2.2.1 g hg).2
        refine this.symm.trans ?_
        simp [om_do, ab_ty, ab_ch]
      simp (disch := omega) only [bt_ild, bt_lld, bt_ald, bt_ist, bt_lst, bt_ast, bt_inc, bt_ic, bt_lc, bt_iadd, bt_isub, bt_imul, bt_iand, bt_ior, bt_ixor, bt_ishl, bt_ishr, bt_iushr, bt_ladd, bt_lsub, bt_lmul, bt_land, bt_lor, bt_lushr, bt_lshl, bt_idiv, bt_irem, bt_ldiv, bt_lrem, bt_lcmp, bt_i2l, bt_l2i, bt_i2b, bt_pop, bt_dup, bt_dup2, bt_gfI, bt_gfJ, bt_gfR, bt_pfI, bt_pfZ, bt_pfJ, bt_pfR, bt_ial, bt_bal, bt_zal, bt_lal, bt_aal, bt_ias, bt_bas, bt_zas, bt_las, bt_len, bt_iret, bt_zret, bt_lret, bt_vret, bt_cV, bt_cS, bt_tab, bt_tsw, bt_lk, bt_lsw, bt_acp, bt_mmax, bt_mmin, bt_can, bt_icmpeq, bt_ifeq, bt_icmpne, bt_ifne, bt_icmplt, bt_iflt, bt_icmpge, bt_ifge, bt_icmpgt, bt_ifgt, bt_icmple, bt_ifle, bt_ret, bt_kill, bt_kl, bt_ix, bt_nl, bt_sm, bt_sr, bt_sig, bt_tg, bt_loc, bt_locs, List.getElem?_cons_zero, List.getElem?_cons_succ, List.set_cons_zero, List.set_cons_succ, List.map_cons, List.map_nil, List.take_succ_cons, List.take_zero, List.drop_succ_cons, List.drop_zero, List.reverse_cons, List.reverse_nil, List.nil_append, List.cons_append, List.append_nil, List.length_cons, List.length_nil, List.replicate_succ, List.replicate_zero, Option.toList_some, Option.toList_none, Nat.reduceAdd, Nat.reduceSub, Nat.reduceLeDiff, Nat.zero_add, Nat.zero_le, true_and, and_true, Int.toNat_natCast, Sum.inl.injEq, Sum.inr.injEq, ↓reduceIte, Nat.reduceEqDiff, bt_w_id, Int.reduceEq, ↓reduceIte, r8, sh_0, sh_105, sh_106, sh_108, hρ 105 _ (by decide), hρ 106 _ (by decide), rf_105_0, rf_106_3]
      repeat (refine And.intro (by first | omega | decide | (simp only [and_true, true_and]; omega)) ?_)
      rw [e2]
      exact q
    · rw [x1, x2, x3] at hk
      simp (disch := omega) only [bt_ild, bt_lld, bt_ald, bt_ist, bt_lst, bt_ast, bt_inc, bt_ic, bt_lc, bt_iadd, bt_isub, bt_imul, bt_iand, bt_ior, bt_ixor, bt_ishl, bt_ishr, bt_iushr, bt_ladd, bt_lsub, bt_lmul, bt_land, bt_lor, bt_lushr, bt_lshl, bt_idiv, bt_irem, bt_ldiv, bt_lrem, bt_lcmp, bt_i2l, bt_l2i, bt_i2b, bt_pop, bt_dup, bt_dup2, bt_gfI, bt_gfJ, bt_gfR, bt_pfI, bt_pfZ, bt_pfJ, bt_pfR, bt_ial, bt_bal, bt_zal, bt_lal, bt_aal, bt_ias, bt_bas, bt_zas, bt_las, bt_len, bt_iret, bt_zret, bt_lret, bt_vret, bt_cV, bt_cS, bt_tab, bt_tsw, bt_lk, bt_lsw, bt_acp, bt_mmax, bt_mmin, bt_can, bt_icmpeq, bt_ifeq, bt_icmpne, bt_ifne, bt_icmplt, bt_iflt, bt_icmpge, bt_ifge, bt_icmpgt, bt_ifgt, bt_icmple, bt_ifle, bt_ret, bt_kill, bt_kl, bt_ix, bt_nl, bt_sm, bt_sr, bt_sig, bt_tg, bt_loc, bt_locs, List.getElem?_cons_zero, List.getElem?_cons_succ, List.set_cons_zero, List.set_cons_succ, List.map_cons, List.map_nil, List.take_succ_cons, List.take_zero, List.drop_succ_cons, List.drop_zero, List.reverse_cons, List.reverse_nil, List.nil_append, List.cons_append, List.append_nil, List.length_cons, List.length_nil, List.replicate_succ, List.replicate_zero, Option.toList_some, Option.toList_none, Nat.reduceAdd, Nat.reduceSub, Nat.reduceLeDiff, Nat.zero_add, Nat.zero_le, true_and, and_true, Int.toNat_natCast, Sum.inl.injEq, Sum.inr.injEq, ↓reduceIte, Nat.reduceEqDiff, bt_w_id, ↓reduceIte]
      exact hQ0 (by rw [hmv]; exact hk) μ2 hf2
  · rw [if_neg h1]
    simp (disch := omega) only [bt_ild, bt_lld, bt_ald, bt_ist, bt_lst, bt_ast, bt_inc, bt_ic, bt_lc, bt_iadd, bt_isub, bt_imul, bt_iand, bt_ior, bt_ixor, bt_ishl, bt_ishr, bt_iushr, bt_ladd, bt_lsub, bt_lmul, bt_land, bt_lor, bt_lushr, bt_lshl, bt_idiv, bt_irem, bt_ldiv, bt_lrem, bt_lcmp, bt_i2l, bt_l2i, bt_i2b, bt_pop, bt_dup, bt_dup2, bt_gfI, bt_gfJ, bt_gfR, bt_pfI, bt_pfZ, bt_pfJ, bt_pfR, bt_ial, bt_bal, bt_zal, bt_lal, bt_aal, bt_ias, bt_bas, bt_zas, bt_las, bt_len, bt_iret, bt_zret, bt_lret, bt_vret, bt_cV, bt_cS, bt_tab, bt_tsw, bt_lk, bt_lsw, bt_acp, bt_mmax, bt_mmin, bt_can, bt_icmpeq, bt_ifeq, bt_icmpne, bt_ifne, bt_icmplt, bt_iflt, bt_icmpge, bt_ifge, bt_icmpgt, bt_ifgt, bt_icmple, bt_ifle, bt_ret, bt_kill, bt_kl, bt_ix, bt_nl, bt_sm, bt_sr, bt_sig, bt_tg, bt_loc, bt_locs, List.getElem?_cons_zero, List.getElem?_cons_succ, List.set_cons_zero, List.set_cons_succ, List.map_cons, List.map_nil, List.take_succ_cons, List.take_zero, List.drop_succ_cons, List.drop_zero, List.reverse_cons, List.reverse_nil, List.nil_append, List.cons_append, List.append_nil, List.length_cons, List.length_nil, List.replicate_succ, List.replicate_zero, Option.toList_some, Option.toList_none, Nat.reduceAdd, Nat.reduceSub, Nat.reduceLeDiff, Nat.zero_add, Nat.zero_le, true_and, and_true, Int.toNat_natCast, Sum.inl.injEq, Sum.inr.injEq, ↓reduceIte, Nat.reduceEqDiff, bt_w_id, ↓reduceIte]
    exact hQ0 (by unfold an_tr; rw [decide_eq_false h1]; rfl) μ (fun _ _ => rfl)
def SpX10_hour : bt_Sp := fun As w Q => ∃ (ρ : Nat → Nat → Option Nat) (μ : Nat → Nat → Int) (Ω : om_O), As = [.inr (.inr 0)] ∧ w = bt_wd ρ μ ∧ ci_I Ω ρ μ ∧ ∀ μ', ci_I (om_do Ω (ab_ps Ω.1 Ω.2.1.1 1)) ρ μ' → bt_fr (fun a => a < 205) μ' μ → Q (some (.inl (ab_tk Ω.1 Ω.2.1.1 1))) (bt_wd ρ μ')
set_option maxHeartbeats 4000000 in
theorem mtX10_hour : bt_Met yX10_hour cX10_hour 2 (some .int) 7 [2] SpX10_hour := by
  refine bt_metW (lfX10_hour mtX10_act (by decide)) (fun As w Q _ hS => ?_)
  obtain ⟨ρ, μ, Ω, rfl, rfl, hI, hQ⟩ := hS
  obtain ⟨P, P', hR, hE, hz1, hZ', hS', hZ, hSt, hsq, ⟨⟨n0, m0⟩, ⟨n1, m1⟩, n2, m2⟩, hP1, hP2⟩ := ci_f hI
  obtain ⟨hρ, ⟨hP, hP', hPP⟩, r0, r1, r2, r3, r4, r5, r6, r7, r8, r9, r10, r11⟩ := id hR
  simp (disch := omega) only [tX10_hour_0, bt_ald, bt_gfR, bt_gfI, bt_ist, bt_nl, bt_ic, bt_cV, bt_sig, bt_tg, bt_loc, bt_locs, List.getElem?_cons_zero, List.getElem?_cons_succ, List.set_cons_zero, List.set_cons_succ, List.map_cons, List.map_nil, List.take_succ_cons, List.take_zero, List.drop_succ_cons, List.drop_zero, List.reverse_cons, List.reverse_nil, List.nil_append, List.cons_append, List.append_nil, List.length_cons, List.length_nil, List.replicate_succ, List.replicate_zero, Option.toList_some, Option.toList_none, Nat.reduceAdd, Nat.reduceSub, Nat.reduceLeDiff, Nat.zero_add, Nat.zero_le, true_and, and_true, Int.toNat_natCast, Sum.inl.injEq, Sum.inr.injEq, ↓reduceIte, Nat.reduceEqDiff, r8, sh_0, sh_105, sh_106, hρ 105 _ (by decide), rf_105_0]
  repeat (refine And.intro (by first | omega | decide | (simp only [and_true, true_and]; omega)) ?_)
  have hk : ab_ok Ω.1 Ω.2.1.1 2 0 0 = true := rfl
  refine ⟨ρ, μ, Ω, 2, rfl, rfl, hI, by decide, by decide, fun _ μ2 hI2 hf2 => ?_, fun hk2 => ?_⟩
  · have e1 : ab_ob Ω.1 Ω.2.1.1 (2 % 4) (2 / 4 % 8) (2 / 32) = ab_ps Ω.1 Ω.2.1.1 1 := rfl
    rw [e1] at hI2
    have q := hQ μ2 hI2 hf2
    obtain ⟨-, -, -, -, -, -, hM2, -⟩ := id hI2
    have e2 : μ2 106 1 = Ω.2.1.1 0 1 + ab_tk Ω.1 Ω.2.1.1 1 := hM2.1.2.1.symm
    have e3 : μ 106 1 = Ω.2.1.1 0 1 := hsq.2.1.symm
    simp (disch := omega) only [bt_ild, bt_lld, bt_ald, bt_ist, bt_lst, bt_ast, bt_inc, bt_ic, bt_lc, bt_iadd, bt_isub, bt_imul, bt_iand, bt_ior, bt_ixor, bt_ishl, bt_ishr, bt_iushr, bt_ladd, bt_lsub, bt_lmul, bt_land, bt_lor, bt_lushr, bt_lshl, bt_idiv, bt_irem, bt_ldiv, bt_lrem, bt_lcmp, bt_i2l, bt_l2i, bt_i2b, bt_pop, bt_dup, bt_dup2, bt_gfI, bt_gfJ, bt_gfR, bt_pfI, bt_pfZ, bt_pfJ, bt_pfR, bt_ial, bt_bal, bt_zal, bt_lal, bt_aal, bt_ias, bt_bas, bt_zas, bt_las, bt_len, bt_iret, bt_zret, bt_lret, bt_vret, bt_cV, bt_cS, bt_tab, bt_tsw, bt_lk, bt_lsw, bt_acp, bt_mmax, bt_mmin, bt_can, bt_icmpeq, bt_ifeq, bt_icmpne, bt_ifne, bt_icmplt, bt_iflt, bt_icmpge, bt_ifge, bt_icmpgt, bt_ifgt, bt_icmple, bt_ifle, bt_ret, bt_kill, bt_kl, bt_ix, bt_nl, bt_sm, bt_sr, bt_sig, bt_tg, bt_loc, bt_locs, List.getElem?_cons_zero, List.getElem?_cons_succ, List.set_cons_zero, List.set_cons_succ, List.map_cons, List.map_nil, List.take_succ_cons, List.take_zero, List.drop_succ_cons, List.drop_zero, List.reverse_cons, List.reverse_nil, List.nil_append, List.cons_append, List.append_nil, List.length_cons, List.length_nil, List.replicate_succ, List.replicate_zero, Option.toList_some, Option.toList_none, Nat.reduceAdd, Nat.reduceSub, Nat.reduceLeDiff, Nat.zero_add, Nat.zero_le, true_and, and_true, Int.toNat_natCast, Sum.inl.injEq, Sum.inr.injEq, ↓reduceIte, Nat.reduceEqDiff, r8, sh_0, sh_105, sh_106, hρ 105 _ (by decide), rf_105_0, e2, e3]
    repeat (refine And.intro (by first | omega | decide | (simp only [and_true, true_and]; omega)) ?_)
    rw [show Ω.2.1.1 0 1 + ab_tk Ω.1 Ω.2.1.1 1 - Ω.2.1.1 0 1 = ab_tk Ω.1 Ω.2.1.1 1 by omega]
    exact q
  · exact absurd hk2 (by rw [show ab_ok Ω.1 Ω.2.1.1 (2 % 4) (2 / 4 % 8) (2 / 32) = true from rfl]; decide)
def om_un (Ω : om_O) : om_O := (Ω.1, (Ω.2.2.2.1.2 0, Ω.2.1.2), Ω.2.2.1, (Ω.2.2.2.1.1 - 1, fun i => Ω.2.2.2.1.2 (i + 1)), Ω.2.2.2.2)
def SpX10_undo : bt_Sp := fun As w Q => ∃ (ρ : Nat → Nat → Option Nat) (μ : Nat → Nat → Int) (Ω : om_O), As = [.inr (.inr 0)] ∧ w = bt_wd ρ μ ∧ ci_I Ω ρ μ ∧ (Ω.2.2.2.1.1 = 0 → Q (some (.inl 0)) (bt_wd ρ μ)) ∧ (0 < Ω.2.2.2.1.1 → ∀ μ', ci_I (om_un Ω) ρ μ' → bt_fr (fun a => a < 205) μ' μ → Q (some (.inl 1)) (bt_wd ρ μ'))
set_option maxHeartbeats 4000000 in
theorem mtX10_undo : bt_Met yX10_undo cX10_undo 1 (some .boolean) 2 [2] SpX10_undo := by
  refine bt_metW (lfX10_undo mtX6_copy (by decide)) (fun As w Q _ hS => ?_)
  obtain ⟨ρ, μ, Ω, rfl, rfl, hI, hQ0, hQ1⟩ := hS
  obtain ⟨P, P', hR, hE, hz, hs, hM, hg, hK, hU, hT, hW⟩ := id hI
  obtain ⟨hρ, ⟨hP, hP', hPP⟩, r0, r1, r2, r3, r4, r5, r6, r7, r8, r9, r10, r11⟩ := id hR
  have hZ := hz.1
  have b1 := bt_zo2 P hP
  have b2 := bt_zo2 P' hP'
  obtain ⟨e, u1, u2, u3, u4, u5⟩ := hU
  by_cases h0 : Ω.2.2.2.1.1 = 0
  · rw [h0] at u1
    simp (disch := omega) only [tX10_undo_0, bt_ald, bt_gfI, bt_ifgt, bt_ic, bt_zret, bt_loc, bt_locs, List.getElem?_cons_zero, List.getElem?_cons_succ, List.set_cons_zero, List.set_cons_succ, List.map_cons, List.map_nil, List.take_succ_cons, List.take_zero, List.drop_succ_cons, List.drop_zero, List.reverse_cons, List.reverse_nil, List.nil_append, List.cons_append, List.append_nil, List.length_cons, List.length_nil, List.replicate_succ, List.replicate_zero, Option.toList_some, Option.toList_none, Nat.reduceAdd, Nat.reduceSub, Nat.reduceLeDiff, Nat.zero_add, Nat.zero_le, true_and, and_true, Int.toNat_natCast, Sum.inl.injEq, Sum.inr.injEq, ↓reduceIte, Nat.reduceEqDiff, sh_0, u1]
    repeat (refine And.intro (by first | omega | decide | (simp only [and_true, true_and]; omega)) ?_)
    first | exact hQ0 h0 | (rw [if_neg (by decide)]; exact ⟨by simp, hQ0 h0⟩)
  · have xe : bo_irem ((e : Int) + 16 - 1) 16 = (((e + 15) % 16 : Nat) : Int) := by
      rw [show (e : Int) + 16 - 1 = ((e + 15 : Nat) : Int) by omega]
      exact bo_irem_nat (a := e + 15) (d := 16) (by omega) (by decide) (by decide)
    obtain ⟨p1, p2, p3⟩ := bt_past ((e + 15) % 16) (Nat.mod_lt _ (by decide))
    have c0 : bt_up μ 0 12 ((Ω.2.2.2.1.1 : Int) - 1) 0 13 = (e : Int) := by rw [bt_up_ix (by decide)]; exact u3
    generalize hq : (e + 15) % 16 = q at *
    have c1 : bt_up (bt_up μ 0 12 ((Ω.2.2.2.1.1 : Int) - 1)) 0 13 (q : Int) 0 13 = (q : Int) := bt_up_same _ _ _ _
    simp (disch := omega) only [tX10_undo_0, bt_ald, bt_gfR, bt_gfI, bt_ifgt, bt_dup, bt_ic, bt_iadd, bt_isub, bt_irem, bt_pfI, bt_sm, bt_aal, bt_ix, bt_cV, bt_sig, bt_tg, bt_loc, bt_locs, List.getElem?_cons_zero, List.getElem?_cons_succ, List.set_cons_zero, List.set_cons_succ, List.map_cons, List.map_nil, List.take_succ_cons, List.take_zero, List.drop_succ_cons, List.drop_zero, List.reverse_cons, List.reverse_nil, List.nil_append, List.cons_append, List.append_nil, List.length_cons, List.length_nil, List.replicate_succ, List.replicate_zero, Option.toList_some, Option.toList_none, Nat.reduceAdd, Nat.reduceSub, Nat.reduceLeDiff, Nat.zero_add, Nat.zero_le, true_and, and_true, Int.toNat_natCast, Sum.inl.injEq, Sum.inr.injEq, ↓reduceIte, Nat.reduceEqDiff, bt_w_id, r8, r11, sh_0, sh_105, sh_106, sh_140, hρ 105 _ (by decide), hρ 140 _ (by decide), rf_105_0, u1, c0, xe, c1, p1, ne_eq, Int.reduceEq, not_false_eq_true]
    repeat (refine And.intro (by first | omega | decide | (simp only [and_true, true_and]; omega)) ?_)
    rw [if_pos (by omega)]
    repeat (refine And.intro (by first | omega | decide | (simp only [and_true, true_and]; omega)) ?_)
    generalize hμ4 : bt_up (bt_up μ 0 12 ((Ω.2.2.2.1.1 : Int) - 1)) 0 13 (q : Int) = μ4
    have g4 : ∀ a, a ≠ 0 → μ4 a = μ a := fun a ha => by rw [← hμ4, bt_up_cell ha, bt_up_cell ha]
    refine ⟨ρ, μ4, 106, 141 + 4 * q, rfl, rfl, hρ, bt_m136.2.1, p2, fun μ5 he5 f5 => ?_⟩
    simp (disch := omega) only [bt_ild, bt_lld, bt_ald, bt_ist, bt_lst, bt_ast, bt_inc, bt_ic, bt_lc, bt_iadd, bt_isub, bt_imul, bt_iand, bt_ior, bt_ixor, bt_ishl, bt_ishr, bt_iushr, bt_ladd, bt_lsub, bt_lmul, bt_land, bt_lor, bt_lushr, bt_lshl, bt_idiv, bt_irem, bt_ldiv, bt_lrem, bt_lcmp, bt_i2l, bt_l2i, bt_i2b, bt_pop, bt_dup, bt_dup2, bt_gfI, bt_gfJ, bt_gfR, bt_pfI, bt_pfZ, bt_pfJ, bt_pfR, bt_ial, bt_bal, bt_zal, bt_lal, bt_aal, bt_ias, bt_bas, bt_zas, bt_las, bt_len, bt_iret, bt_zret, bt_lret, bt_vret, bt_cV, bt_cS, bt_tab, bt_tsw, bt_lk, bt_lsw, bt_acp, bt_mmax, bt_mmin, bt_can, bt_icmpeq, bt_ifeq, bt_icmpne, bt_ifne, bt_icmplt, bt_iflt, bt_icmpge, bt_ifge, bt_icmpgt, bt_ifgt, bt_icmple, bt_ifle, bt_ret, bt_kill, bt_kl, bt_ix, bt_nl, bt_sm, bt_sr, bt_sig, bt_tg, bt_loc, bt_locs, List.getElem?_cons_zero, List.getElem?_cons_succ, List.set_cons_zero, List.set_cons_succ, List.map_cons, List.map_nil, List.take_succ_cons, List.take_zero, List.drop_succ_cons, List.drop_zero, List.reverse_cons, List.reverse_nil, List.nil_append, List.cons_append, List.append_nil, List.length_cons, List.length_nil, List.replicate_succ, List.replicate_zero, Option.toList_some, Option.toList_none, Nat.reduceAdd, Nat.reduceSub, Nat.reduceLeDiff, Nat.zero_add, Nat.zero_le, true_and, and_true, Int.toNat_natCast, Sum.inl.injEq, Sum.inr.injEq, ↓reduceIte, Nat.reduceEqDiff, r3, sh_0, sh_19]
    repeat (refine And.intro (by first | omega | decide | (simp only [and_true, true_and]; omega)) ?_)
    obtain ⟨v1, v2⟩ := u5 0 (by omega)
    rw [show (e + 15 - 0) % 16 = q by omega] at v1
    first | refine ⟨by simp, hQ1 (by omega) _ ?_ (fun a ha => ?_)⟩ | refine hQ1 (by omega) _ ?_ (fun a ha => ?_)
    · have k5 : ∀ a, a ≠ 19 → ¬ (106 ≤ a ∧ a ≤ 109) → bt_up μ5 19 5 0 a = μ4 a := fun a h1 h2 => by rw [bt_up_cell h1, f5 a (by unfold bt_inS; omega)]
      have k6 : ∀ a, a ≠ 19 → a ≠ 0 → ¬ (106 ≤ a ∧ a ≤ 109) → bt_up μ5 19 5 0 a = μ a := fun a h1 h2 h3 => by rw [k5 a h1 h3, g4 a h2]
      have s106 : ab_sq Ω.1 (Ω.2.2.2.1.2 0) (bt_vw (bt_up μ5 19 5 0) 106) := by
        refine bt_vwc (μ := μ5) (fun j hj => bt_up_cell (by omega)) Ω.1 _ ?_
        refine ab_sq.tr ?_ (ab_sq.cp hZ he5).sy
        exact bt_vwc (fun j hj => g4 _ (by omega)) Ω.1 _ v1
      refine ⟨P, P', hR, fun j hj => ?_, hz, ⟨?_, ?_⟩, ⟨s106, ?_, fun i hi => ?_, ?_, ?_⟩, ⟨v2, hg.2⟩, fun i hi => (hK i hi).fr (fun a h1 h2 => k6 a (by omega) (by omega) (by omega)), ⟨q, ?_, ?_, ?_, by omega, fun i hi => ?_⟩, hT.fr ?_ ?_ ?_, ?_⟩
      · rw [k6 _ (by omega) (by omega) (by omega)]; exact hE j hj
      · rw [k6 _ (by omega) (by omega) (by omega)]; exact hs.1
      · rw [k6 _ (by omega) (by omega) (by omega)]; exact hs.2
      · rw [k6 _ (by omega) (by omega) (by omega)]; exact hM.2.1
      · rw [k6 _ (by omega) (by omega) (by omega)]; exact hM.2.2.1 i hi
      · rw [k6 _ (by omega) (by omega) (by omega)]; exact hM.2.2.2.1
      · rw [k6 _ (by omega) (by omega) (by omega)]; exact hM.2.2.2.2
      · rw [k5 0 (by omega) (by omega), ← hμ4, bt_up_ix (by decide), bt_up_same]
        show (Ω.2.2.2.1.1 : Int) - 1 = ((Ω.2.2.2.1.1 - 1 : Nat) : Int)
        omega
      · show Ω.2.2.2.1.1 - 1 ≤ 16; omega
      · rw [k5 0 (by omega) (by omega), ← hμ4, bt_up_same]
      · have hi' : i < Ω.2.2.2.1.1 - 1 := hi
        obtain ⟨w1, w2⟩ := u5 (i + 1) (by omega)
        refine ⟨?_, w2⟩
        have hix : (q + 15 - i) % 16 = (e + 15 - (i + 1)) % 16 := by omega
        rw [hix]
        generalize (e + 15 - (i + 1)) % 16 = q' at *
        exact bt_vwc (fun j hj => k6 _ (by omega) (by omega) (by omega)) Ω.1 _ w1
      · rw [k6 1 (by omega) (by omega) (by omega)]
      · exact k6 2 (by omega) (by omega) (by omega)
      · exact k6 3 (by omega) (by omega) (by omega)
      · refine ⟨?_, ?_, Or.inl (bt_up_same _ _ _ _)⟩
        · rw [bt_up_ix (by decide), f5 19 (by unfold bt_inS; omega), g4 19 (by omega)]; exact hW.1
        · rw [bt_up_ix (by decide), f5 19 (by unfold bt_inS; omega), g4 19 (by omega)]; exact hW.2.1
    · rw [bt_up_cell (by omega), f5 a (by unfold bt_inS; omega), g4 a (by omega)]
