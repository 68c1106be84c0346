/-! the zoo and the state as functions: ζ j = what the zoo's cell j holds, σ j likewise of the state -/
def bt_vw (μ : Nat → Nat → Int) (a : Nat) : Nat → Nat → Int := fun j => μ (a + j)
def nG (ζ : Nat → Nat → Int) : Nat := (ζ 0 1).toNat
def nA (ζ : Nat → Nat → Int) : Nat := (ζ 0 2).toNat
def nP (ζ : Nat → Nat → Int) : Nat := (ζ 0 0).toNat
def fW (σ : Nat → Nat → Int) (g : Nat) : Nat := (σ 1 g).toNat
def fM (σ : Nat → Nat → Int) (g : Nat) : Nat := (σ 2 g).toNat
def fK (ζ : Nat → Nat → Int) (g : Nat) : Nat := (ζ 5 g).toNat
def fL (ζ : Nat → Nat → Int) (g : Nat) : Nat := (ζ 6 g).toNat
def ab_Z (ζ : Nat → Nat → Int) : Prop := ((0 ≤ ζ 0 0 ∧ ζ 0 0 ≤ 6) ∧ (0 ≤ ζ 0 1 ∧ ζ 0 1 ≤ 6) ∧ 0 ≤ ζ 0 2 ∧ ζ 0 2 ≤ 5) ∧ (∀ g, g < nG ζ → (0 ≤ ζ 5 g ∧ ζ 5 g ≤ 3) ∧ 0 ≤ ζ 7 g ∧ ζ 7 g < 64) ∧ (∀ a, a < nA ζ → 0 ≤ ζ 6 a ∧ ζ 6 a ≤ 3) ∧ (∀ p, p < nP ζ → 0 ≤ ζ 4 p ∧ ζ 4 p ≤ 9) ∧ (∀ k, k < 120 → 0 ≤ ζ 9 k ∧ ζ 9 k ≤ 99) ∧ (∀ k, k < 720 → 0 ≤ ζ 10 k ∧ ζ 10 k ≤ 9) ∧ (0 ≤ ζ 0 5 ∧ ζ 0 5 ≤ 9) ∧ (0 ≤ ζ 0 6 ∧ ζ 0 6 ≤ 99) ∧ 0 ≤ ζ 0 7 ∧ ζ 0 7 ≤ 10
def ab_S (ζ σ : Nat → Nat → Int) : Prop := (∀ g, g < nG ζ → (0 ≤ σ 1 g ∧ σ 1 g < nP ζ) ∧ 0 ≤ σ 2 g ∧ σ 2 g ≤ 9) ∧ ∀ a, a < nA ζ → 0 ≤ σ 3 a ∧ σ 3 a ≤ 999
/-- what a pen is worth to animal a; who goes where, who pays what; the moods behind the hour -/
def ab_wa (ζ σ : Nat → Nat → Int) : Nat → Nat → Int := hn_wa (ζ 9) (fW σ) (fM σ) (fK ζ) (fL ζ) (nG ζ)
def ab_B (ζ σ : Nat → Nat → Int) (dr : Int) : Nat → Int := hn_B dr (nP ζ) (ζ 4) (ab_wa ζ σ)
def ab_Y (ζ σ : Nat → Nat → Int) (dr : Int) : Nat → Int := hn_Y dr (nP ζ) (ζ 4) (ab_wa ζ σ) (σ 3)
def ab_fed (ζ σ : Nat → Nat → Int) : Nat := if bt_w (bo_irem (σ 0 0) 10) = bt_w (ζ 0 4) then 1 else 0
def ab_ma (ζ σ : Nat → Nat → Int) (dr : Int) : Nat → Int := hn_ma (ζ 10) (ab_fed ζ σ) (fW σ) (fM σ) (nG ζ) (nA ζ) (ab_B ζ σ dr)
def ab_tk (ζ σ : Nat → Nat → Int) (dr : Int) : Int := bt_sn (ab_Y ζ σ dr) (nA ζ)
/-- the state behind an hour -/
def ab_ps (ζ σ : Nat → Nat → Int) (dr : Int) : Nat → Nat → Int := fun j k =>
  if j = 0 then (if k = 0 then σ 0 0 + 1 else if k = 1 then σ 0 1 + ab_tk ζ σ dr else σ 0 k)
  else if j = 2 then (if k < nG ζ then ab_ma ζ σ dr k else σ 2 k)
  else if j = 3 then (if k < nA ζ then σ 3 k - ab_Y ζ σ dr k else σ 3 k)
  else σ j k
theorem ab_Hq {μ : Nat → Nat → Int} {z s : Nat} (hZ : ab_Z (bt_vw μ z)) (hS : ab_S (bt_vw μ z) (bt_vw μ s)) : bt_Hq μ z s (nG (bt_vw μ z)) (nA (bt_vw μ z)) (nP (bt_vw μ z)) (fW (bt_vw μ s)) (fM (bt_vw μ s)) (fK (bt_vw μ z)) (fL (bt_vw μ z)) := by
  obtain ⟨⟨z1, z2, z3⟩, z4, z5, z6, z7, -⟩ := hZ
  obtain ⟨s1, s2⟩ := hS
  refine ⟨⟨?_, ?_, fun g hg => ?_⟩, ⟨?_, ?_, ?_, ?_⟩, fun a ha => ?_, fun p hp => ?_, fun k hk => ?_⟩
  · simp only [bt_vw, nG, Nat.add_zero] at *; omega
  · simp only [bt_vw, nG, Nat.add_zero] at *; omega
  · have h1 := z4 g hg
    have h2 := s1 g hg
    have h3 : nP (bt_vw μ z) ≤ 6 := by simp only [bt_vw, nP, Nat.add_zero] at *; omega
    simp only [bt_vw, fW, fM, fK] at *
    omega
  · simp only [bt_vw, nA, Nat.add_zero] at *; omega
  · simp only [bt_vw, nA, Nat.add_zero] at *; omega
  · simp only [bt_vw, nP, Nat.add_zero] at *; omega
  · simp only [bt_vw, nP, Nat.add_zero] at *; omega
  · have h1 := z5 a ha
    have h2 := s2 a ha
    simp only [bt_vw, fL] at *
    omega
  · exact z6 p hp
  · exact z7 k hk
def SpX1_pass : bt_Sp := fun As w Q => ∃ (ρ : Nat → Nat → Option Nat) (μ : Nat → Nat → Int) (h z s : Nat) (dr : Int), As = [.inr (.inr h), .inr (.inr z), .inr (.inr s), .inl dr] ∧ w = bt_wd ρ μ ∧ bt_Rf ρ ∧ h ∈ bt_hos ∧ z ∈ bt_zos ∧ s ∈ bt_sts ∧ (dr = 0 ∨ dr = 1) ∧ ab_Z (bt_vw μ z) ∧ ab_S (bt_vw μ z) (bt_vw μ s) ∧ ∀ μ', (∀ j, j < 4 → μ' (s + j) = ab_ps (bt_vw μ z) (bt_vw μ s) dr j) → μ' h 8 = ab_tk (bt_vw μ z) (bt_vw μ s) dr → bt_fr (fun a => (h ≤ a ∧ a ≤ h + 8) ∨ (s ≤ a ∧ a ≤ s + 3)) μ' μ → Q none (bt_wd ρ μ')
set_option maxHeartbeats 4000000 in
theorem mtX1_pass : bt_Met yX1_pass cX1_pass 5 none 4 [2, 2, 2, 0] SpX1_pass := by
  refine lpX1_pass mtX1_foresee (by decide) _ (fun As w Q _ hS => ?_)
  obtain ⟨ρ, μ, h, z, s, dr, rfl, rfl, hρ, hh, hz, hs, hdr, hZ, hSt, hQ⟩ := hS
  have hHq := ab_Hq hZ hSt
  obtain ⟨⟨hn, hn6, hg⟩, ⟨hA, hA5, hP, hP6⟩, hl, hse, hsee⟩ := id hHq
  obtain ⟨a1, a2, a3, a4, a5, a6, a7, a8, a9, a10, a11, a12, a13, a14, a15, a16, a17, a18, a19⟩ := bt_ho_f h hh
  obtain ⟨b1, b2, b3, b4, b5, b6, b7, b8, b9⟩ := bt_st_f s hs
  obtain ⟨c1, c2, c3, c4, c5, c6, c7, c8, c9, c10, c11, c12, c13, c14, c15, c16, c17, c18, c19, c20, c21, c22, c23, c24, c25⟩ := bt_zo_f z hz
  have d1 := bt_st_ho s hs h hh
  have d2 := bt_ho_zo h hh z hz
  have d3 := bt_st_zo s hs z hz
  generalize hζ : bt_vw μ z = ζ at *
  generalize hσ : bt_vw μ s = σ at *
  have e0 : ∀ j k, μ (s + j) k = σ j k := fun j k => by rw [← hσ]; rfl
  have ez : ∀ j k, μ (z + j) k = ζ j k := fun j k => by rw [← hζ]; rfl
  refine ⟨fun h' m st L w => st = [] ∧ ∃ (i : Nat) (μ1 : Nat → Nat → Int), w = bt_wd ρ μ1 ∧ L = [some (.inr (.inr h)), some (.inr (.inr z)), some (.inr (.inr s)), some (.inl dr), some (.inl (i : Int))] ∧ bt_fr (fun a => (h ≤ a ∧ a ≤ h + 8) ∨ (s ≤ a ∧ a ≤ s + 3)) μ1 μ ∧ μ1 s = μ s ∧ μ1 (s + 1) = μ (s + 1) ∧ (∀ a, a < nA ζ → μ1 (h + 7) a = ab_Y ζ σ dr a) ∧ (∀ g, g < nG ζ → μ1 (h + 8) g = ab_ma ζ σ dr g) ∧ μ1 h 8 = ab_tk ζ σ dr ∧
    (if h' = 10 then i ≤ nA ζ ∧ m = 100 - i ∧ (∀ k, μ1 (s + 3) k = if k < i then σ 3 k - ab_Y ζ σ dr k else σ 3 k) ∧ μ1 (s + 2) = μ (s + 2)
     else i ≤ nG ζ ∧ m = 50 - i ∧ (∀ k, μ1 (s + 3) k = if k < nA ζ then σ 3 k - ab_Y ζ σ dr k else σ 3 k) ∧ (∀ k, μ1 (s + 2) k = if k < i then ab_ma ζ σ dr k else σ 2 k)), ?_, ?_, ?_⟩
  · simp (disch := omega) only [tX1_pass_0, bt_ild, bt_lld, bt_ald, bt_ist, bt_lst, bt_ast, bt_inc, bt_ic, bt_lc, bt_iadd, bt_isub, bt_imul, bt_iand, bt_ior, bt_ixor, bt_ishl, bt_ishr, bt_iushr, bt_ladd, bt_lsub, bt_lmul, bt_land, bt_lor, bt_lushr, bt_lshl, bt_idiv, bt_irem, bt_ldiv, bt_lrem, bt_lcmp, bt_i2l, bt_l2i, bt_i2b, bt_pop, bt_dup, bt_dup2, bt_gfI, bt_gfJ, bt_gfR, bt_pfI, bt_pfZ, bt_pfJ, bt_pfR, bt_ial, bt_bal, bt_zal, bt_lal, bt_aal, bt_ias, bt_bas, bt_zas, bt_las, bt_len, bt_iret, bt_zret, bt_lret, bt_vret, bt_cV, bt_cS, bt_tab, bt_tsw, bt_lk, bt_lsw, bt_acp, bt_mmax, bt_mmin, bt_can, bt_icmpeq, bt_ifeq, bt_icmpne, bt_ifne, bt_icmplt, bt_iflt, bt_icmpge, bt_ifge, bt_icmpgt, bt_ifgt, bt_icmple, bt_ifle, bt_ret, bt_kill, bt_kl, bt_ix, bt_nl, bt_sm, bt_sr, bt_sig, bt_tg, bt_loc, bt_locs, List.getElem?_cons_zero, List.getElem?_cons_succ, List.set_cons_zero, List.set_cons_succ, List.map_cons, List.map_nil, List.take_succ_cons, List.take_zero, List.drop_succ_cons, List.drop_zero, List.reverse_cons, List.reverse_nil, List.nil_append, List.cons_append, List.append_nil, List.length_cons, List.length_nil, List.replicate_succ, List.replicate_zero, Option.toList_some, Option.toList_none, Nat.reduceAdd, Nat.reduceSub, Nat.reduceLeDiff, Nat.zero_add, Nat.zero_le, true_and, and_true, Int.toNat_natCast, Sum.inl.injEq, Sum.inr.injEq, ↓reduceIte, Nat.reduceEqDiff, hρ h _ a2, a3, a4, a5, a6, a7, a8, a9, a10, a11, a12, a13, a14, a15, a16, a17, a18, a19, bt_w_id]
    refine ⟨by omega, ρ, μ, h, z, s, _, _, _, _, _, _, _, dr, rfl, rfl, hρ, hh, hz, hs, hdr, hHq, fun μ' hF hf => ?_⟩
    simp (disch := omega) only [bt_ild, bt_lld, bt_ald, bt_ist, bt_lst, bt_ast, bt_inc, bt_ic, bt_lc, bt_iadd, bt_isub, bt_imul, bt_iand, bt_ior, bt_ixor, bt_ishl, bt_ishr, bt_iushr, bt_ladd, bt_lsub, bt_lmul, bt_land, bt_lor, bt_lushr, bt_lshl, bt_idiv, bt_irem, bt_ldiv, bt_lrem, bt_lcmp, bt_i2l, bt_l2i, bt_i2b, bt_pop, bt_dup, bt_dup2, bt_gfI, bt_gfJ, bt_gfR, bt_pfI, bt_pfZ, bt_pfJ, bt_pfR, bt_ial, bt_bal, bt_zal, bt_lal, bt_aal, bt_ias, bt_bas, bt_zas, bt_las, bt_len, bt_iret, bt_zret, bt_lret, bt_vret, bt_cV, bt_cS, bt_tab, bt_tsw, bt_lk, bt_lsw, bt_acp, bt_mmax, bt_mmin, bt_can, bt_icmpeq, bt_ifeq, bt_icmpne, bt_ifne, bt_icmplt, bt_iflt, bt_icmpge, bt_ifge, bt_icmpgt, bt_ifgt, bt_icmple, bt_ifle, bt_ret, bt_kill, bt_kl, bt_ix, bt_nl, bt_sm, bt_sr, bt_sig, bt_tg, bt_loc, bt_locs, List.getElem?_cons_zero, List.getElem?_cons_succ, List.set_cons_zero, List.set_cons_succ, List.map_cons, List.map_nil, List.take_succ_cons, List.take_zero, List.drop_succ_cons, List.drop_zero, List.reverse_cons, List.reverse_nil, List.nil_append, List.cons_append, List.append_nil, List.length_cons, List.length_nil, List.replicate_succ, List.replicate_zero, Option.toList_some, Option.toList_none, Nat.reduceAdd, Nat.reduceSub, Nat.reduceLeDiff, Nat.zero_add, Nat.zero_le, true_and, and_true, Int.toNat_natCast, Sum.inl.injEq, Sum.inr.injEq, ↓reduceIte, Nat.reduceEqDiff]
    obtain ⟨f1, f2, f3, f4⟩ := hF
    refine ⟨100, 0, μ', rfl, rfl, fun a ha => hf a (by omega), hf _ (by omega), hf _ (by omega), fun a ha => by rw [(f1 a ha).2, ← hζ, ← hσ]; rfl, fun g hg2 => by rw [f3 g hg2, ← hζ, ← hσ]; rfl, by rw [f4, ← hζ, ← hσ]; rfl, by omega, by omega, fun k => ?_, hf _ (by omega)⟩
    rw [hf (s + 3) (by omega), e0]; simp
  · rintro m st L w ⟨rfl, i, μ1, rfl, rfl, hfr, hs0, hs1, hY, hM, hT, hI⟩
    simp only [↓reduceIte] at hI
    obtain ⟨hi, rfl, h3, h2⟩ := hI
    have e1 : μ1 z = μ z := hfr z (by omega)
    simp (disch := omega) only [tX1_pass_10, bt_ild, bt_lld, bt_ald, bt_ist, bt_lst, bt_ast, bt_inc, bt_ic, bt_lc, bt_iadd, bt_isub, bt_imul, bt_iand, bt_ior, bt_ixor, bt_ishl, bt_ishr, bt_iushr, bt_ladd, bt_lsub, bt_lmul, bt_land, bt_lor, bt_lushr, bt_lshl, bt_idiv, bt_irem, bt_ldiv, bt_lrem, bt_lcmp, bt_i2l, bt_l2i, bt_i2b, bt_pop, bt_dup, bt_dup2, bt_gfI, bt_gfJ, bt_gfR, bt_pfI, bt_pfZ, bt_pfJ, bt_pfR, bt_ial, bt_bal, bt_zal, bt_lal, bt_aal, bt_ias, bt_bas, bt_zas, bt_las, bt_len, bt_iret, bt_zret, bt_lret, bt_vret, bt_cV, bt_cS, bt_tab, bt_tsw, bt_lk, bt_lsw, bt_acp, bt_mmax, bt_mmin, bt_can, bt_icmpeq, bt_ifeq, bt_icmpne, bt_ifne, bt_icmplt, bt_iflt, bt_icmpge, bt_ifge, bt_icmpgt, bt_ifgt, bt_icmple, bt_ifle, bt_ret, bt_kill, bt_kl, bt_ix, bt_nl, bt_sm, bt_sr, bt_sig, bt_tg, bt_loc, bt_locs, List.getElem?_cons_zero, List.getElem?_cons_succ, List.set_cons_zero, List.set_cons_succ, List.map_cons, List.map_nil, List.take_succ_cons, List.take_zero, List.drop_succ_cons, List.drop_zero, List.reverse_cons, List.reverse_nil, List.nil_append, List.cons_append, List.append_nil, List.length_cons, List.length_nil, List.replicate_succ, List.replicate_zero, Option.toList_some, Option.toList_none, Nat.reduceAdd, Nat.reduceSub, Nat.reduceLeDiff, Nat.zero_add, Nat.zero_le, true_and, and_true, Int.toNat_natCast, Sum.inl.injEq, Sum.inr.injEq, ↓reduceIte, Nat.reduceEqDiff, hρ h _ a2, a3, a4, a5, a6, a7, a8, a9, a10, a11, a12, a13, a14, a15, a16, a17, a18, a19, hρ s _ b2, b3, b4, b5, b6, b7, b8, b9, hρ z _ c2, c3, c4, c5, c6, c7, c8, c9, c10, c11, c12, c13, c14, c15, c16, c17, c18, c19, c20, c21, c22, c23, c24, e1, hA, bt_w_id]
    refine And.intro (by omega) ?_
    by_cases hc : nA ζ ≤ i
    · rw [if_pos (by omega)]
      have : i = nA ζ := by omega
      subst this
      exact ⟨50, by omega, 0, μ1, rfl, rfl, hfr, hs0, hs1, hY, hM, hT, by omega, by omega, h3, fun k => by rw [h2, e0]; simp⟩
    · rw [if_neg (by omega)]
      repeat (refine And.intro (by omega) ?_)
      refine ⟨100 - (i + 1), by omega, i + 1, _, rfl, rfl, fun a ha => ?_, ?_, ?_, fun a ha => ?_, fun g hg2 => ?_, ?_, by omega, rfl, fun k => ?_, ?_⟩
      · rw [bt_up_cell (by omega)]; exact hfr a ha
      · rw [bt_up_cell (by omega)]; exact hs0
      · rw [bt_up_cell (by omega)]; exact hs1
      · rw [bt_up_cell (by omega)]; exact hY a ha
      · rw [bt_up_cell (by omega)]; exact hM g hg2
      · rw [bt_up_cell (by omega)]; exact hT
      · by_cases e : k = i
        · subst e; rw [bt_up_same, h3, hY k (by omega)]; simp
        · rw [bt_up_ix e, h3]
          by_cases e2 : k < i
          · simp [e2, show k < i + 1 by omega]
          · simp [e2, show ¬ k < i + 1 by omega]
      · rw [bt_up_cell (by omega)]; exact h2
  · rintro m st L w ⟨rfl, i, μ1, rfl, rfl, hfr, hs0, hs1, hY, hM, hT, hI⟩
    simp only [↓reduceIte, Nat.reduceEqDiff] at hI
    obtain ⟨hi, rfl, h3, h2⟩ := hI
    have e1 : μ1 z = μ z := hfr z (by omega)
    simp (disch := omega) only [tX1_pass_45, bt_ild, bt_lld, bt_ald, bt_ist, bt_lst, bt_ast, bt_inc, bt_ic, bt_lc, bt_iadd, bt_isub, bt_imul, bt_iand, bt_ior, bt_ixor, bt_ishl, bt_ishr, bt_iushr, bt_ladd, bt_lsub, bt_lmul, bt_land, bt_lor, bt_lushr, bt_lshl, bt_idiv, bt_irem, bt_ldiv, bt_lrem, bt_lcmp, bt_i2l, bt_l2i, bt_i2b, bt_pop, bt_dup, bt_dup2, bt_gfI, bt_gfJ, bt_gfR, bt_pfI, bt_pfZ, bt_pfJ, bt_pfR, bt_ial, bt_bal, bt_zal, bt_lal, bt_aal, bt_ias, bt_bas, bt_zas, bt_las, bt_len, bt_iret, bt_zret, bt_lret, bt_vret, bt_cV, bt_cS, bt_tab, bt_tsw, bt_lk, bt_lsw, bt_acp, bt_mmax, bt_mmin, bt_can, bt_icmpeq, bt_ifeq, bt_icmpne, bt_ifne, bt_icmplt, bt_iflt, bt_icmpge, bt_ifge, bt_icmpgt, bt_ifgt, bt_icmple, bt_ifle, bt_ret, bt_kill, bt_kl, bt_ix, bt_nl, bt_sm, bt_sr, bt_sig, bt_tg, bt_loc, bt_locs, List.getElem?_cons_zero, List.getElem?_cons_succ, List.set_cons_zero, List.set_cons_succ, List.map_cons, List.map_nil, List.take_succ_cons, List.take_zero, List.drop_succ_cons, List.drop_zero, List.reverse_cons, List.reverse_nil, List.nil_append, List.cons_append, List.append_nil, List.length_cons, List.length_nil, List.replicate_succ, List.replicate_zero, Option.toList_some, Option.toList_none, Nat.reduceAdd, Nat.reduceSub, Nat.reduceLeDiff, Nat.zero_add, Nat.zero_le, true_and, and_true, Int.toNat_natCast, Sum.inl.injEq, Sum.inr.injEq, ↓reduceIte, Nat.reduceEqDiff, hρ h _ a2, a3, a4, a5, a6, a7, a8, a9, a10, a11, a12, a13, a14, a15, a16, a17, a18, a19, hρ s _ b2, b3, b4, b5, b6, b7, b8, b9, hρ z _ c2, c3, c4, c5, c6, c7, c8, c9, c10, c11, c12, c13, c14, c15, c16, c17, c18, c19, c20, c21, c22, c23, c24, e1, hn, bt_w_id]
    refine And.intro (by omega) ?_
    by_cases hc : nG ζ ≤ i
    · rw [if_pos (by omega)]
      have : i = nG ζ := by omega
      subst this
      repeat (refine And.intro (by omega) ?_)
      refine hQ _ (fun j hj => ?_) ?_ (fun a ha => ?_)
      · have : j = 0 ∨ j = 1 ∨ j = 2 ∨ j = 3 := by omega
        funext k
        rcases this with rfl | rfl | rfl | rfl
        · simp only [ab_ps, Nat.add_zero, ↓reduceIte]
          have q0 := e0 0 0
          have q1 := e0 0 1
          have q2 := e0 0 k
          have q3 := congrFun hs0 k
          have q4 := congrFun hs0 0
          have q5 := congrFun hs0 1
          simp only [Nat.add_zero] at q0 q1 q2
          grind [bt_up]
        · rw [bt_up_cell (by omega), bt_up_cell (by omega), hs1, e0]; rfl
        · rw [bt_up_cell (by omega), bt_up_cell (by omega), h2]; rfl
        · rw [bt_up_cell (by omega), bt_up_cell (by omega), h3]; rfl
      · rw [bt_up_cell (by omega), bt_up_cell (by omega)]; exact hT
      · rw [bt_up_cell (by omega), bt_up_cell (by omega)]; exact hfr a ha
    · rw [if_neg (by omega)]
      repeat (refine And.intro (by omega) ?_)
      refine ⟨50 - (i + 1), by omega, i + 1, _, rfl, rfl, fun a ha => ?_, ?_, ?_, fun a ha => ?_, fun g hg2 => ?_, ?_, by omega, rfl, fun k => ?_, fun k => ?_⟩
      · rw [bt_up_cell (by omega)]; exact hfr a ha
      · rw [bt_up_cell (by omega)]; exact hs0
      · rw [bt_up_cell (by omega)]; exact hs1
      · rw [bt_up_cell (by omega)]; exact hY a ha
      · rw [bt_up_cell (by omega)]; exact hM g hg2
      · rw [bt_up_cell (by omega)]; exact hT
      · rw [bt_up_cell (by omega)]; exact h3 k
      · by_cases e : k = i
        · subst e; rw [bt_up_same, hM k (by omega)]; simp
        · rw [bt_up_ix e, h2]
          by_cases e2 : k < i
          · simp [e2, show k < i + 1 by omega]
          · simp [e2, show ¬ k < i + 1 by omega]
