/-! what an object of the class holds, against the abstract words -/
def bt_i32 (x : Int) : Prop := -2147483648 ≤ x ∧ x ≤ 2147483647
/-- a state, the days (how many lines, the lines), how many are told, the sets that are left -/
abbrev om_M : Type := (Nat → Nat → Int) × Nat × (Nat → Nat) × Nat × Nat
/-- the zoo, what is now, the marks, what can be undone, the tape -/
abbrev om_O : Type := (Nat → Nat → Int) × om_M × (Nat → Option om_M) × (Nat × (Nat → Nat → Nat → Int)) × (Nat × (Nat → Int))
def ln_ok (ζ : Nat → Nat → Int) (x : Nat) : Prop := x % 4 < 3 ∧ x / 32 < 8 ∧ (x % 4 < 2 → x / 4 % 8 < nG ζ) ∧ (x % 4 = 0 → x / 32 < nP ζ)
def om_g (ζ : Nat → Nat → Int) (M : om_M) : Prop := ab_S ζ M.1 ∧ M.2.1 ≤ 40 ∧ (∀ i, i < M.2.1 → ln_ok ζ (M.2.2.1 i)) ∧ M.2.2.2.1 ≤ 8 ∧ M.2.2.2.2 < 65536
def om_z (ζ : Nat → Nat → Int) : Prop := ab_Z ζ ∧ rz_N ζ ∧ ab_S ζ (fun j => ζ (11 + j)) ∧ (ζ 11 0 = 0 ∧ ζ 11 1 = 0) ∧ ab_M3 1000 (ζ 8)
def ci_M (μ ζ : Nat → Nat → Int) (m : Nat) (M : om_M) : Prop := ab_sq ζ M.1 (bt_vw μ (m + 1)) ∧ μ m 2 = (M.2.1 : Int) ∧ (∀ i, i < M.2.1 → μ (m + 5) i = (M.2.2.1 i : Int)) ∧ μ m 3 = (M.2.2.2.1 : Int) ∧ μ m 4 = (M.2.2.2.2 : Int)
def ci_K (μ ζ : Nat → Nat → Int) (m : Nat) : Option om_M → Prop
  | none => μ m 5 = 0
  | some M => μ m 5 = 1 ∧ ci_M μ ζ m M ∧ om_g ζ M
def ci_T (μ : Nat → Nat → Int) (n : Nat) (t : Nat → Int) : Prop := μ 1 2 = (n : Int) ∧ n ≤ 1000 ∧ μ 2 = t ∧ (∀ i, i < n → 10 ≤ t i ∧ t i ≤ 126) ∧ ∀ i, i < 30 → μ 3 i = tw i
def ci_U (μ ζ : Nat → Nat → Int) (u : Nat) (past : Nat → Nat → Nat → Int) : Prop := ∃ e : Nat, μ 0 12 = (u : Int) ∧ u ≤ 16 ∧ μ 0 13 = (e : Int) ∧ e < 16 ∧ ∀ i, i < u → ab_sq ζ (past i) (bt_vw μ (141 + 4 * ((e + 15 - i) % 16))) ∧ ab_S ζ (past i)
def ci_W (μ ζ σ : Nat → Nat → Int) : Prop := (0 ≤ μ 19 7 ∧ μ 19 7 ≤ 4995) ∧ (0 ≤ μ 19 8 ∧ μ 19 8 ≤ 6) ∧ (μ 19 5 = 0 ∨ (μ 19 5 = 1 ∧ ∃ ζ' σ' a b r, ab_zq ζ ζ' ∧ ab_sq ζ σ σ' ∧ bt_sn6 (nG ζ) (bt_sx μ) = ab_pt ζ' σ' (nG ζ) 0 (fun _ => 0) (bt_sn6 (nG ζ) (0, a, b, r)) ∧ (0 ≤ a ∧ a ≤ 4995) ∧ 0 ≤ b ∧ b ≤ 6))
def ci_I (Ω : om_O) (ρ : Nat → Nat → Option Nat) (μ : Nat → Nat → Int) : Prop := ∃ P P' : Nat, bt_Rb ρ P P' ∧ rz_E μ P Ω.1 ∧ om_z Ω.1 ∧ (μ (P' + 11) 0 = 0 ∧ μ (P' + 11) 1 = 0) ∧ ci_M μ Ω.1 105 Ω.2.1 ∧ om_g Ω.1 Ω.2.1 ∧ (∀ i, i < 4 → ci_K μ Ω.1 (112 + 6 * i) (Ω.2.2.1 i)) ∧ ci_U μ Ω.1 Ω.2.2.2.1.1 Ω.2.2.2.1.2 ∧ ci_T μ Ω.2.2.2.2.1 Ω.2.2.2.2.2 ∧ ci_W μ Ω.1 Ω.2.1.1
/-- cells that hold nothing between calls -/
def ci_sc : Nat → Prop := fun a => (10 ≤ a ∧ a ≤ 18) ∨ (36 ≤ a ∧ a ≤ 74) ∨ (136 ≤ a ∧ a ≤ 139) ∨ 205 ≤ a
theorem bt_vwc {μ' μ : Nat → Nat → Int} {a : Nat} (h : ∀ j, j < 4 → μ' (a + j) = μ (a + j)) (ζ σ : Nat → Nat → Int) (hs : ab_sq ζ σ (bt_vw μ a)) : ab_sq ζ σ (bt_vw μ' a) :=
  hs.tr (ab_sq.of (fun j hj => (h j hj).symm))
theorem ci_M.fr {μ' μ ζ : Nat → Nat → Int} {m : Nat} {M : om_M} (h : ci_M μ ζ m M) (hf : ∀ a, m ≤ a → a ≤ m + 5 → μ' a = μ a) : ci_M μ' ζ m M := by
  obtain ⟨h1, h2, h3, h4, h5⟩ := h
  refine ⟨bt_vwc (fun j hj => hf _ (by omega) (by omega)) ζ _ h1, ?_, fun i hi => ?_, ?_, ?_⟩
  · rw [hf m (by omega) (by omega)]; exact h2
  · rw [hf (m + 5) (by omega) (by omega)]; exact h3 i hi
  · rw [hf m (by omega) (by omega)]; exact h4
  · rw [hf m (by omega) (by omega)]; exact h5
theorem ci_K.fr {μ' μ ζ : Nat → Nat → Int} {m : Nat} {o : Option om_M} (h : ci_K μ ζ m o) (hf : ∀ a, m ≤ a → a ≤ m + 5 → μ' a = μ a) : ci_K μ' ζ m o := by
  cases o with
  | none => show μ' m 5 = 0; rw [hf m (by omega) (by omega)]; exact h
  | some M => exact ⟨by rw [hf m (by omega) (by omega)]; exact h.1, h.2.1.fr hf, h.2.2⟩
theorem ci_U.fr {μ' μ ζ : Nat → Nat → Int} {u : Nat} {past : Nat → Nat → Nat → Int} (h : ci_U μ ζ u past) (h0 : μ' 0 = μ 0) (hf : ∀ a, 141 ≤ a → a ≤ 204 → μ' a = μ a) : ci_U μ' ζ u past := by
  obtain ⟨e, h1, h2, h3, h4, h5⟩ := h
  exact ⟨e, by rw [h0]; exact h1, h2, by rw [h0]; exact h3, h4, fun i hi => ⟨bt_vwc (fun j hj => hf _ (by omega) (by omega)) ζ _ (h5 i hi).1, (h5 i hi).2⟩⟩
theorem ci_W.fr {μ' μ ζ σ : Nat → Nat → Int} (h : ci_W μ ζ σ) (h1 : μ' 19 = μ 19) (h2 : μ' 33 = μ 33) : ci_W μ' ζ σ := by
  have e : bt_sx μ' = bt_sx μ := by unfold bt_sx; rw [h1, h2]
  unfold ci_W at *
  rw [h1, e]
  exact h
theorem ci_T.fr {μ' μ : Nat → Nat → Int} {n : Nat} {t : Nat → Int} (h : ci_T μ n t) (h1 : μ' 1 2 = μ 1 2) (h2 : μ' 2 = μ 2) (h3 : μ' 3 = μ 3) : ci_T μ' n t := by
  unfold ci_T at *
  rw [h1, h2, h3]
  exact h
theorem ci_I.fr {Ω : om_O} {ρ : Nat → Nat → Option Nat} {μ' μ : Nat → Nat → Int} (h : ci_I Ω ρ μ) (hf : bt_fr ci_sc μ' μ) : ci_I Ω ρ μ' := by
  obtain ⟨P, P', hR, hE, hz, hs, hM, hg, hK, hU, hT, hW⟩ := h
  have z1 := bt_zo2 P hR.2.1.1
  have z2 := bt_zo2 P' hR.2.1.2.1
  have f : ∀ a, ¬ ci_sc a → μ' a = μ a := hf
  refine ⟨P, P', hR, fun j hj => ?_, hz, ⟨?_, ?_⟩, hM.fr (fun a h1 h2 => f a (by unfold ci_sc; omega)), hg, fun i hi => (hK i hi).fr (fun a h1 h2 => f a (by unfold ci_sc; omega)), hU.fr (f 0 (by unfold ci_sc; omega)) (fun a h1 h2 => f a (by unfold ci_sc; omega)), hT.fr (by rw [f 1 (by unfold ci_sc; omega)]) (f 2 (by unfold ci_sc; omega)) (f 3 (by unfold ci_sc; omega)), hW.fr (f 19 (by unfold ci_sc; omega)) (f 33 (by unfold ci_sc; omega))⟩
  · rw [f _ (by unfold ci_sc; omega)]; exact hE j hj
  · rw [f _ (by unfold ci_sc; omega)]; exact hs.1
  · rw [f _ (by unfold ci_sc; omega)]; exact hs.2
/-- what the views say -/
theorem rz_E.zq {μ ζ : Nat → Nat → Int} {P : Nat} (h : rz_E μ P ζ) : ab_zq ζ (bt_vw μ P) := by
  have e : ∀ j, j < 15 → bt_vw μ P j = ζ j := fun j hj => h j hj
  refine ⟨fun k _ => ?_, fun p _ => ?_, fun g _ => ⟨?_, ?_⟩, fun a _ => ?_, fun k _ => ?_, fun k _ => ?_⟩
  · rw [e 0 (by decide)]
  · rw [e 4 (by decide)]
  · rw [e 5 (by decide)]
  · rw [e 7 (by decide)]
  · rw [e 6 (by decide)]
  · rw [e 9 (by decide)]
  · rw [e 10 (by decide)]
theorem ab_zq.nn {ζ ζ' : Nat → Nat → Int} (h : ab_zq ζ ζ') : nG ζ' = nG ζ ∧ nA ζ' = nA ζ ∧ nP ζ' = nP ζ := ⟨h.n.1.symm, h.n.2.1.symm, h.n.2.2.symm⟩
theorem ab_Zn {ζ : Nat → Nat → Int} (h : ab_Z ζ) : ζ 0 1 = (nG ζ : Int) ∧ ζ 0 2 = (nA ζ : Int) ∧ ζ 0 0 = (nP ζ : Int) := by
  have := h.1
  unfold nG nA nP
  omega
/-- is it a pen, a guest, an animal -/
def SpX10_isPen : bt_Sp := fun As w Q => tX10_isPen_0 bt_k0 Q [] (bt_loc 2 As) w
theorem mtX10_isPen : bt_Met yX10_isPen cX10_isPen 2 (some .boolean) 1 [2, 0] SpX10_isPen := lfX10_isPen
def SpX10_isGuest : bt_Sp := fun As w Q => tX10_isGuest_0 bt_k0 Q [] (bt_loc 2 As) w
theorem mtX10_isGuest : bt_Met yX10_isGuest cX10_isGuest 2 (some .boolean) 1 [2, 0] SpX10_isGuest := lfX10_isGuest
def SpX10_isAnimal : bt_Sp := fun As w Q => tX10_isAnimal_0 bt_k0 Q [] (bt_loc 2 As) w
theorem mtX10_isAnimal : bt_Met yX10_isAnimal cX10_isAnimal 2 (some .boolean) 1 [2, 0] SpX10_isAnimal := lfX10_isAnimal
theorem is_call {ρ : Nat → Nat → Option Nat} {μ : Nat → Nat → Int} {P P' : Nat} {k x : Int} {f n : Nat} (hR : bt_Rb ρ P P') (hn : μ P f = (n : Int)) (hn6 : n ≤ 6) (hx : bt_i32 x) (Sp : bt_Sp) (hSp : Sp = SpX10_isPen ∧ f = 0 ∨ Sp = SpX10_isGuest ∧ f = 1 ∨ Sp = SpX10_isAnimal ∧ f = 2) {Q : Option bt_V → bt_W → Prop} (hq : Q (some (.inl (if 0 ≤ x ∧ x < n then 1 else 0))) (bt_wd ρ μ)) : Sp [.inr (.inr 0), .inl x] (bt_wd ρ μ) Q := by
  obtain ⟨hρ, ⟨hP, hP', hPP⟩, r0, r1, r2, r3, r4, r5, r6, r7, r8, r9, r10, r11⟩ := hR
  obtain ⟨c1, c2, c3, c4, c5, c6, c7, c8, c9, c10, c11, c12, c13, c14, c15, c16, c17, c18, c19, c20, c21, c22, c23, c24, c25⟩ := bt_zo_f P hP
  unfold bt_i32 at hx
  rcases hSp with ⟨rfl, rfl⟩ | ⟨rfl, rfl⟩ | ⟨rfl, rfl⟩
  · simp (disch := omega) only [SpX10_isPen, tX10_isPen_0, tX10_isPen_19, tX10_isPen_20, bt_ild, bt_lld, bt_ald, bt_ist, bt_lst, bt_ast, bt_inc, bt_ic, bt_lc, bt_iadd, bt_isub, bt_imul, bt_iand, bt_ior, bt_ixor, bt_ishl, bt_ishr, bt_iushr, bt_ladd, bt_lsub, bt_lmul, bt_land, bt_lor, bt_lushr, bt_lshl, bt_idiv, bt_irem, bt_ldiv, bt_lrem, bt_lcmp, bt_i2l, bt_l2i, bt_i2b, bt_pop, bt_dup, bt_dup2, bt_gfI, bt_gfJ, bt_gfR, bt_pfI, bt_pfZ, bt_pfJ, bt_pfR, bt_ial, bt_bal, bt_zal, bt_lal, bt_aal, bt_ias, bt_bas, bt_zas, bt_las, bt_len, bt_iret, bt_zret, bt_lret, bt_vret, bt_cV, bt_cS, bt_tab, bt_tsw, bt_lk, bt_lsw, bt_acp, bt_mmax, bt_mmin, bt_can, bt_icmpeq, bt_ifeq, bt_icmpne, bt_ifne, bt_icmplt, bt_iflt, bt_icmpge, bt_ifge, bt_icmpgt, bt_ifgt, bt_icmple, bt_ifle, bt_ret, bt_kill, bt_kl, bt_ix, bt_nl, bt_sm, bt_sr, bt_sig, bt_tg, bt_loc, bt_locs, List.getElem?_cons_zero, List.getElem?_cons_succ, List.set_cons_zero, List.set_cons_succ, List.map_cons, List.map_nil, List.take_succ_cons, List.take_zero, List.drop_succ_cons, List.drop_zero, List.reverse_cons, List.reverse_nil, List.nil_append, List.cons_append, List.append_nil, List.length_cons, List.length_nil, List.replicate_succ, List.replicate_zero, Option.toList_some, Option.toList_none, Nat.reduceAdd, Nat.reduceSub, Nat.reduceLeDiff, Nat.zero_add, Nat.zero_le, true_and, and_true, Int.toNat_natCast, Sum.inl.injEq, Sum.inr.injEq, ↓reduceIte, Nat.reduceEqDiff, r6, sh_0, hρ P _ c2, c3, c4, c5, c6, c7, c8, c9, c10, c11, c12, c13, c14, c15, c16, c17, c18, c19, c20, c21, c22, c23, c24, hn, bt_w_id]
    by_cases h1 : x < 0
    · rw [if_pos h1]
      rw [if_neg (by omega)] at hq
      exact ⟨by simp, hq⟩
    · rw [if_neg h1]
      repeat (refine And.intro (by first | omega | decide | (simp only [and_true, true_and]; omega)) ?_)
      by_cases h2 : x < n
      · rw [if_neg (by omega)]
        rw [if_pos (by omega)] at hq
        exact ⟨by simp, hq⟩
      · rw [if_pos (by omega)]
        rw [if_neg (by omega)] at hq
        exact ⟨by simp, hq⟩
  · simp (disch := omega) only [SpX10_isGuest, tX10_isGuest_0, tX10_isGuest_19, tX10_isGuest_20, bt_ild, bt_lld, bt_ald, bt_ist, bt_lst, bt_ast, bt_inc, bt_ic, bt_lc, bt_iadd, bt_isub, bt_imul, bt_iand, bt_ior, bt_ixor, bt_ishl, bt_ishr, bt_iushr, bt_ladd, bt_lsub, bt_lmul, bt_land, bt_lor, bt_lushr, bt_lshl, bt_idiv, bt_irem, bt_ldiv, bt_lrem, bt_lcmp, bt_i2l, bt_l2i, bt_i2b, bt_pop, bt_dup, bt_dup2, bt_gfI, bt_gfJ, bt_gfR, bt_pfI, bt_pfZ, bt_pfJ, bt_pfR, bt_ial, bt_bal, bt_zal, bt_lal, bt_aal, bt_ias, bt_bas, bt_zas, bt_las, bt_len, bt_iret, bt_zret, bt_lret, bt_vret, bt_cV, bt_cS, bt_tab, bt_tsw, bt_lk, bt_lsw, bt_acp, bt_mmax, bt_mmin, bt_can, bt_icmpeq, bt_ifeq, bt_icmpne, bt_ifne, bt_icmplt, bt_iflt, bt_icmpge, bt_ifge, bt_icmpgt, bt_ifgt, bt_icmple, bt_ifle, bt_ret, bt_kill, bt_kl, bt_ix, bt_nl, bt_sm, bt_sr, bt_sig, bt_tg, bt_loc, bt_locs, List.getElem?_cons_zero, List.getElem?_cons_succ, List.set_cons_zero, List.set_cons_succ, List.map_cons, List.map_nil, List.take_succ_cons, List.take_zero, List.drop_succ_cons, List.drop_zero, List.reverse_cons, List.reverse_nil, List.nil_append, List.cons_append, List.append_nil, List.length_cons, List.length_nil, List.replicate_succ, List.replicate_zero, Option.toList_some, Option.toList_none, Nat.reduceAdd, Nat.reduceSub, Nat.reduceLeDiff, Nat.zero_add, Nat.zero_le, true_and, and_true, Int.toNat_natCast, Sum.inl.injEq, Sum.inr.injEq, ↓reduceIte, Nat.reduceEqDiff, r6, sh_0, hρ P _ c2, c3, c4, c5, c6, c7, c8, c9, c10, c11, c12, c13, c14, c15, c16, c17, c18, c19, c20, c21, c22, c23, c24, hn, bt_w_id]
    by_cases h1 : x < 0
    · rw [if_pos h1]
      rw [if_neg (by omega)] at hq
      exact ⟨by simp, hq⟩
    · rw [if_neg h1]
      repeat (refine And.intro (by first | omega | decide | (simp only [and_true, true_and]; omega)) ?_)
      by_cases h2 : x < n
      · rw [if_neg (by omega)]
        rw [if_pos (by omega)] at hq
        exact ⟨by simp, hq⟩
      · rw [if_pos (by omega)]
        rw [if_neg (by omega)] at hq
        exact ⟨by simp, hq⟩
  · simp (disch := omega) only [SpX10_isAnimal, tX10_isAnimal_0, tX10_isAnimal_19, tX10_isAnimal_20, bt_ild, bt_lld, bt_ald, bt_ist, bt_lst, bt_ast, bt_inc, bt_ic, bt_lc, bt_iadd, bt_isub, bt_imul, bt_iand, bt_ior, bt_ixor, bt_ishl, bt_ishr, bt_iushr, bt_ladd, bt_lsub, bt_lmul, bt_land, bt_lor, bt_lushr, bt_lshl, bt_idiv, bt_irem, bt_ldiv, bt_lrem, bt_lcmp, bt_i2l, bt_l2i, bt_i2b, bt_pop, bt_dup, bt_dup2, bt_gfI, bt_gfJ, bt_gfR, bt_pfI, bt_pfZ, bt_pfJ, bt_pfR, bt_ial, bt_bal, bt_zal, bt_lal, bt_aal, bt_ias, bt_bas, bt_zas, bt_las, bt_len, bt_iret, bt_zret, bt_lret, bt_vret, bt_cV, bt_cS, bt_tab, bt_tsw, bt_lk, bt_lsw, bt_acp, bt_mmax, bt_mmin, bt_can, bt_icmpeq, bt_ifeq, bt_icmpne, bt_ifne, bt_icmplt, bt_iflt, bt_icmpge, bt_ifge, bt_icmpgt, bt_ifgt, bt_icmple, bt_ifle, bt_ret, bt_kill, bt_kl, bt_ix, bt_nl, bt_sm, bt_sr, bt_sig, bt_tg, bt_loc, bt_locs, List.getElem?_cons_zero, List.getElem?_cons_succ, List.set_cons_zero, List.set_cons_succ, List.map_cons, List.map_nil, List.take_succ_cons, List.take_zero, List.drop_succ_cons, List.drop_zero, List.reverse_cons, List.reverse_nil, List.nil_append, List.cons_append, List.append_nil, List.length_cons, List.length_nil, List.replicate_succ, List.replicate_zero, Option.toList_some, Option.toList_none, Nat.reduceAdd, Nat.reduceSub, Nat.reduceLeDiff, Nat.zero_add, Nat.zero_le, true_and, and_true, Int.toNat_natCast, Sum.inl.injEq, Sum.inr.injEq, ↓reduceIte, Nat.reduceEqDiff, r6, sh_0, hρ P _ c2, c3, c4, c5, c6, c7, c8, c9, c10, c11, c12, c13, c14, c15, c16, c17, c18, c19, c20, c21, c22, c23, c24, hn, bt_w_id]
    by_cases h1 : x < 0
    · rw [if_pos h1]
      rw [if_neg (by omega)] at hq
      exact ⟨by simp, hq⟩
    · rw [if_neg h1]
      repeat (refine And.intro (by first | omega | decide | (simp only [and_true, true_and]; omega)) ?_)
      by_cases h2 : x < n
      · rw [if_neg (by omega)]
        rw [if_pos (by omega)] at hq
        exact ⟨by simp, hq⟩
      · rw [if_pos (by omega)]
        rw [if_neg (by omega)] at hq
        exact ⟨by simp, hq⟩
theorem ab_zq.tr' {a b c : Nat → Nat → Int} (h : ab_zq a b) (h' : ab_zq b c) : ab_zq a c := by
  obtain ⟨e1, e2, e3⟩ := h.n
  refine ⟨fun k hk => (h.1 k hk).trans (h'.1 k hk), fun p hp => (h.2.1 p hp).trans (h'.2.1 p (by omega)), fun g hg => ⟨(h.2.2.1 g hg).1.trans (h'.2.2.1 g (by omega)).1, (h.2.2.1 g hg).2.trans (h'.2.2.1 g (by omega)).2⟩, fun a ha => (h.2.2.2.1 a ha).trans (h'.2.2.2.1 a (by omega)), fun k hk => (h.2.2.2.2.1 k hk).trans (h'.2.2.2.2.1 k hk), fun k hk => (h.2.2.2.2.2 k hk).trans (h'.2.2.2.2.2 k hk)⟩
theorem bt_tsw_cn {x lo : Int} {k kd : bt_K} {ks : List bt_K} {st : List bt_V} {L : List (Option bt_V)} {w : bt_W} (h1 : bt_w x = lo → k st L w) (h2 : bt_w x ≠ lo → bt_tsw x (lo + 1) ks kd st L w) : bt_tsw x lo (k :: ks) kd st L w := by
  unfold bt_tsw
  split
  · next h => exact h1 h
  · next h => exact h2 h
