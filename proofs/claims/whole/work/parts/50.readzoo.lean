/-! Reader: a whole zoo -/
theorem tk_nx_ge (t : Nat → Int) (n c : Nat) : c ≤ tk_nx t n c := by
  by_cases h : c ≤ n
  · exact (tk_nx_rg h).1
  · unfold tk_nx tk_to
    have e : tk_e t n c = c := by unfold tk_e; rw [if_pos (by omega)]
    rw [e, show n - c = 0 by omega]
    exact Nat.le_refl _
theorem tk_j_ge (t : Nat → Int) (n : Nat) : ∀ k c, c ≤ tk_j t n k c
  | 0, _ => Nat.le_refl _
  | k + 1, c => Nat.le_trans (tk_j_ge t n k c) (tk_nx_ge t n _)
def fo_ge (P : fo_P) : Prop := ∀ c, c ≤ (P c).2.1
theorem fo_ge_ch {t : Nat → Int} {n : Nat} {op : Nat → Int} {sub : fo_P} (h : fo_ge sub) : ∀ f c V, c ≤ (fo_ch op (tk_nx t n) sub f c V).2.1
  | 0, c, V => Nat.le_refl _
  | f + 1, c, V => by
    have h1 := h (tk_nx t n c)
    have h2 := tk_nx_ge t n c
    have h3 := fo_ge_ch (t := t) (n := n) (op := op) h f (sub (tk_nx t n c)).2.1 (fun F => fo_jn (op c) (V F) ((sub (tk_nx t n c)).2.2 F))
    unfold fo_ch
    split
    · exact Nat.le_refl _
    · split
      · omega
      · omega
theorem fo_ge_cn {t : Nat → Int} {n : Nat} {op : Nat → Int} {sub : fo_P} (h : fo_ge sub) : fo_ge (fo_cn op (tk_nx t n) sub) := by
  intro c
  have h1 := h c
  have h2 := fo_ge_ch (t := t) (n := n) (op := op) h 1000 (sub c).2.1 (sub c).2.2
  unfold fo_cn
  split
  · omega
  · omega
theorem fo_ge_ts {t : Nat → Int} {n : Nat} {pt : fo_P} (h : fo_ge pt) : fo_ge (fo_ts t n pt) := by
  have hs : fo_ge (fo_su t n pt) := fo_ge_cn (fo_ge_cn h)
  refine fo_ge_cn (fun c => ?_)
  have h1 := hs c
  have h2 := tk_nx_ge t n (fo_su t n pt c).2.1
  have h3 := hs (tk_nx t n (fo_su t n pt c).2.1)
  unfold fo_te
  split
  · split
    · show c ≤ (fo_su t n pt (tk_nx t n (fo_su t n pt c).2.1)).2.1; omega
    · omega
  · omega
theorem fo_ge_pt {t : Nat → Int} {n al : Nat} : ∀ k, fo_ge (fo_pt t n al k)
  | 0 => fun c => Nat.le_refl _
  | k + 1 => fun c => by
    have ih := fo_ge_pt (t := t) (n := n) (al := al) k
    have h1 := tk_nx_ge t n c
    have h2 := fo_ge_ts (t := t) (n := n) ih (tk_nx t n c)
    have h3 := ih (tk_nx t n c)
    have h4 := tk_nx_ge t n (fo_ts t n (fo_pt t n al k) (tk_nx t n c)).2.1
    unfold fo_pt
    split
    · exact Nat.le_refl _
    · split
      · exact h1
      · split
        · exact h1
        · split
          · split
            · split
              · show c ≤ tk_nx t n (fo_ts t n (fo_pt t n al k) (tk_nx t n c)).2.1; omega
              · show c ≤ (fo_ts t n (fo_pt t n al k) (tk_nx t n c)).2.1; omega
            · omega
          · split
            · show c ≤ (fo_pt t n al k (tk_nx t n c)).2.1; omega
            · omega
theorem rz_line_ge (t : Nat → Int) (n : Nat) (ζ : Nat → Nat → Int) (c : Nat) : c ≤ (rz_line t n ζ c).2.1 := by
  have hs : ∀ ζ, c ≤ (rz_sees t n ζ c).2.1 := fun ζ => Nat.le_trans (tk_j_ge t n 1 c) (fo_ge_ts (fo_ge_pt 5) _)
  have hm : ∀ ζ, c ≤ (rz_moods t n ζ c).2.1 := fun ζ => Nat.le_trans (tk_j_ge t n 1 c) (fo_ge_ts (fo_ge_pt 5) _)
  have h1 : ∀ wd P, (∀ ζ, c ≤ (P t n ζ c).2.1) → c ≤ (rz_one wd P t n ζ c).2.1 := fun wd P hP => by
    unfold rz_one
    split
    · exact Nat.le_refl _
    · exact hP _
  unfold rz_line
  repeat' split
  · exact tk_j_ge t n 4 c
  · exact tk_j_ge t n 4 c
  · exact tk_j_ge t n 7 c
  · exact tk_j_ge t n 6 c
  · exact tk_j_ge t n 3 c
  · exact h1 10 rz_feeds (fun ζ => tk_j_ge t n 2 c)
  · exact h1 11 rz_tyre (fun ζ => tk_j_ge t n 4 c)
  · exact h1 13 rz_rain (fun ζ => tk_j_ge t n 2 c)
  · exact h1 14 rz_sees hs
  · exact h1 15 rz_moods hm
  · exact Nat.le_refl _
def rz_all (t : Nat → Int) (n : Nat) : Nat → (Nat → Nat → Int) → Nat → Int × (Nat → Nat → Int)
  | 0, ζ, _ => (0, ζ)
  | f + 1, ζ, c => if n ≤ c then (0, ζ) else if (rz_line t n ζ c).1 ≠ 0 then ((rz_line t n ζ c).1, ζ) else if tk_k t n (rz_line t n ζ c).2.1 = 59 then rz_all t n f (rz_line t n ζ c).2.2 (tk_nx t n (rz_line t n ζ c).2.1) else (1 + 16 * ((rz_line t n ζ c).2.1 : Int), ζ)
def rz_clr (ζ : Nat → Nat → Int) : Prop := (ζ 0 0 = 0 ∧ ζ 0 1 = 0 ∧ ζ 0 2 = 0 ∧ ζ 0 3 = 0 ∧ ζ 0 4 = 3 ∧ ζ 0 5 = 3 ∧ ζ 0 6 = 5 ∧ ζ 0 7 = 0 ∧ ζ 0 8 = 0) ∧ (∀ k, k < 36 → ζ 8 k = 1000) ∧ (∀ k, k < 6 → ζ 7 k = 0) ∧ ζ 11 0 = 0 ∧ ζ 11 1 = 0
theorem rz_clr.K {ζ : Nat → Nat → Int} (h : rz_clr ζ) : rz_K ζ := by
  obtain ⟨⟨a0, a1, a2, a3, a4, a5, a6, a7, a8⟩, b, d, e0, e1⟩ := h
  have hP : nP ζ = 0 := by unfold nP; rw [a0]; rfl
  have hG : nG ζ = 0 := by unfold nG; rw [a1]; rfl
  have hA : nA ζ = 0 := by unfold nA; rw [a2]; rfl
  unfold rz_K rz_G rz_N rz_ns
  rw [hP, hG, hA]
  refine ⟨⟨⟨⟨by omega, by omega, by omega⟩, fun i hi => by omega, fun i hi => by omega, fun i hi => by omega⟩, fun k hk => by rw [b k hk]; omega, fun g hg => by rw [d g hg]; omega, by omega, by omega⟩, fun i hi => by omega, fun i hi => by omega, fun i hi => by omega, by omega, ⟨e0, e1⟩, fun q => ?_, fun q => ?_⟩
  · rw [a8] at q; exact absurd q (by decide)
  · rw [a8] at q; exact absurd q (by decide)
def rz_cl (μ' : Nat → Nat → Int) (z : Nat) (ζ : Nat → Nat → Int) : Prop := (∀ j, j < 15 → j ≠ 8 → j ≠ 9 → j ≠ 10 → μ' (z + j) = ζ j) ∧ μ' (z + 8) = ab_fwB 6 (ab_dg 6 (ζ 8)) ∧ (∀ k, k < 120 → μ' (z + 9) k = if (ζ 0 8).toNat.testBit 14 then ζ 9 k else ab_pw k) ∧ ∀ k, k < 720 → μ' (z + 10) k = if (ζ 0 8).toNat.testBit 15 then ζ 10 k else ab_pm k
theorem tk_empty_call {ρ : Nat → Nat → Option Nat} {μ : Nat → Nat → Int} {Q : Option bt_V → bt_W → Prop} (hq : Q (some (.inl (μ 1 3))) (bt_wd ρ (bt_up μ 1 2 0))) : SpX7_empty [.inr (.inr 1)] (bt_wd ρ μ) Q := by
  simp (disch := omega) only [SpX7_empty, tX7_empty_0, bt_ild, bt_lld, bt_ald, bt_ist, bt_lst, bt_ast, bt_inc, bt_ic, bt_lc, bt_iadd, bt_isub, bt_imul, bt_iand, bt_ior, bt_ixor, bt_ishl, bt_ishr, bt_iushr, bt_ladd, bt_lsub, bt_lmul, bt_land, bt_lor, bt_lushr, bt_lshl, bt_idiv, bt_irem, bt_ldiv, bt_lrem, bt_lcmp, bt_i2l, bt_l2i, bt_i2b, bt_pop, bt_dup, bt_dup2, bt_gfI, bt_gfJ, bt_gfR, bt_pfI, bt_pfZ, bt_pfJ, bt_pfR, bt_ial, bt_bal, bt_zal, bt_lal, bt_aal, bt_ias, bt_bas, bt_zas, bt_las, bt_len, bt_iret, bt_zret, bt_lret, bt_vret, bt_cV, bt_cS, bt_tab, bt_tsw, bt_lk, bt_lsw, bt_acp, bt_mmax, bt_mmin, bt_can, bt_icmpeq, bt_ifeq, bt_icmpne, bt_ifne, bt_icmplt, bt_iflt, bt_icmpge, bt_ifge, bt_icmpgt, bt_ifgt, bt_icmple, bt_ifle, bt_ret, bt_kill, bt_kl, bt_ix, bt_nl, bt_sm, bt_sr, bt_sig, bt_tg, bt_loc, bt_locs, List.getElem?_cons_zero, List.getElem?_cons_succ, List.set_cons_zero, List.set_cons_succ, List.map_cons, List.map_nil, List.take_succ_cons, List.take_zero, List.drop_succ_cons, List.drop_zero, List.reverse_cons, List.reverse_nil, List.nil_append, List.cons_append, List.append_nil, List.length_cons, List.length_nil, List.replicate_succ, List.replicate_zero, Option.toList_some, Option.toList_none, Nat.reduceAdd, Nat.reduceSub, Nat.reduceLeDiff, Nat.zero_add, Nat.zero_le, true_and, and_true, Int.toNat_natCast, Sum.inl.injEq, Sum.inr.injEq, ↓reduceIte, Nat.reduceEqDiff, sh_1]
  repeat (refine And.intro (by first | omega | decide | (simp only [and_true, true_and]; omega)) ?_)
  rw [bt_up_ix (by decide)]
  exact hq
def SpX3_readZoo : bt_Sp := fun As w Q => ∃ (ρ : Nat → Nat → Option Nat) (μ : Nat → Nat → Int) (t : Nat → Int) (n z : Nat), As = [.inr (.inr 4), .inr (.inr z)] ∧ w = bt_wd ρ μ ∧ bt_Rf ρ ∧ z ∈ bt_zos ∧ bt_Tp μ t n ∧ μ (z + 11) 0 = 0 ∧ μ (z + 11) 1 = 0 ∧ ∀ μ' ζ, rz_clr ζ → ((rz_all t n 1001 ζ (tk_to tk_B t n 0)).1 = 0 → rz_cl μ' z (rz_all t n 1001 ζ (tk_to tk_B t n 0)).2 ∧ rz_K (rz_all t n 1001 ζ (tk_to tk_B t n 0)).2) → μ' 1 2 = 0 → bt_fr (rz_in z) μ' μ → Q (some (.inl (rz_all t n 1001 ζ (tk_to tk_B t n 0)).1)) (bt_wd ρ μ')
def iX3_readZoo (ρ : Nat → Nat → Option Nat) (μ : Nat → Nat → Int) (t : Nat → Int) (n z : Nat) (_h m : Nat) : bt_K := fun st L w => st = [] ∧ ∃ (μ1 ζ0 : Nat → Nat → Int) (i : Nat) (g : Int) (R : Int × (Nat → Nat → Int)), w = bt_wd ρ μ1 ∧ i ≤ 1001 ∧ m = 1001 - i ∧ L = [some (.inr (.inr 4)), some (.inr (.inr z)), some (.inl g), some (.inl (i : Int))] ∧ bt_fr (rz_in z) μ1 μ ∧ rz_clr ζ0 ∧ rz_all t n 1001 ζ0 (tk_to tk_B t n 0) = R ∧
  ((g = 1 ∧ ∃ (ζ : Nat → Nat → Int) (c : Nat), rz_E μ1 z ζ ∧ rz_K ζ ∧ bt_Tp μ1 t n ∧ bt_Tc μ1 t n c ∧ μ1 1 3 = 0 ∧ i ≤ c ∧ rz_all t n (1001 - i) ζ c = R) ∨ (g = 0 ∧ R.1 ≠ 0 ∧ μ1 1 3 = R.1))
set_option maxHeartbeats 4000000 in
theorem mtX3_readZoo : bt_Met yX3_readZoo cX3_readZoo 4 (some .int) 67 [2, 2] SpX3_readZoo := by
  refine lpX3_readZoo mtX9_clear (by decide) mtX7_begin (by decide) mtX3_readLine (by decide) mtX7_passSign (by decide) mtX9_close (by decide) mtX7_empty (by decide) _ (fun As w Q _ hS => ?_)
  obtain ⟨ρ, μ, t, n, z, rfl, rfl, hρ, hz, hp, hs0, hs1, hQ⟩ := hS
  obtain ⟨e1, e2, e3, e4, e5, e6, e7, e8, e9, e10, e11, e12, e13, e14, e15, e16, e17, e18, e19, e20, e21, e22, e23, e24, e25⟩ := bt_zo_f z hz
  have hzz := bt_zo2 z hz
  have hn := hp.2.1
  refine ⟨iX3_readZoo ρ μ t n z, ?_, ?_⟩
  · simp (disch := omega) only [tX3_readZoo_0, bt_ild, bt_lld, bt_ald, bt_ist, bt_lst, bt_ast, bt_inc, bt_ic, bt_lc, bt_iadd, bt_isub, bt_imul, bt_iand, bt_ior, bt_ixor, bt_ishl, bt_ishr, bt_iushr, bt_ladd, bt_lsub, bt_lmul, bt_land, bt_lor, bt_lushr, bt_lshl, bt_idiv, bt_irem, bt_ldiv, bt_lrem, bt_lcmp, bt_i2l, bt_l2i, bt_i2b, bt_pop, bt_dup, bt_dup2, bt_gfI, bt_gfJ, bt_gfR, bt_pfI, bt_pfZ, bt_pfJ, bt_pfR, bt_ial, bt_bal, bt_zal, bt_lal, bt_aal, bt_ias, bt_bas, bt_zas, bt_las, bt_len, bt_iret, bt_zret, bt_lret, bt_vret, bt_cV, bt_cS, bt_tab, bt_tsw, bt_lk, bt_lsw, bt_acp, bt_mmax, bt_mmin, bt_can, bt_icmpeq, bt_ifeq, bt_icmpne, bt_ifne, bt_icmplt, bt_iflt, bt_icmpge, bt_ifge, bt_icmpgt, bt_ifgt, bt_icmple, bt_ifle, bt_ret, bt_kill, bt_kl, bt_ix, bt_nl, bt_sm, bt_sr, bt_sig, bt_tg, bt_loc, bt_locs, List.getElem?_cons_zero, List.getElem?_cons_succ, List.set_cons_zero, List.set_cons_succ, List.map_cons, List.map_nil, List.take_succ_cons, List.take_zero, List.drop_succ_cons, List.drop_zero, List.reverse_cons, List.reverse_nil, List.nil_append, List.cons_append, List.append_nil, List.length_cons, List.length_nil, List.replicate_succ, List.replicate_zero, Option.toList_some, Option.toList_none, Nat.reduceAdd, Nat.reduceSub, Nat.reduceLeDiff, Nat.zero_add, Nat.zero_le, true_and, and_true, Int.toNat_natCast, Sum.inl.injEq, Sum.inr.injEq, ↓reduceIte, Nat.reduceEqDiff, hρ z _ e2, e3, e4, e5, e6, e7, e8, e9, e10, e11, e12, e13, e14, e15, e16, e17, e18, e19, e20, e21, e22, e23, e24]
    repeat (refine And.intro (by first | omega | decide | (simp only [and_true, true_and]; omega)) ?_)
    refine ⟨ρ, μ, z, rfl, rfl, hρ, hz, fun μ1 a1 a2 a3 f1 => ?_⟩
    simp (disch := omega) only [bt_ild, bt_lld, bt_ald, bt_ist, bt_lst, bt_ast, bt_inc, bt_ic, bt_lc, bt_iadd, bt_isub, bt_imul, bt_iand, bt_ior, bt_ixor, bt_ishl, bt_ishr, bt_iushr, bt_ladd, bt_lsub, bt_lmul, bt_land, bt_lor, bt_lushr, bt_lshl, bt_idiv, bt_irem, bt_ldiv, bt_lrem, bt_lcmp, bt_i2l, bt_l2i, bt_i2b, bt_pop, bt_dup, bt_dup2, bt_gfI, bt_gfJ, bt_gfR, bt_pfI, bt_pfZ, bt_pfJ, bt_pfR, bt_ial, bt_bal, bt_zal, bt_lal, bt_aal, bt_ias, bt_bas, bt_zas, bt_las, bt_len, bt_iret, bt_zret, bt_lret, bt_vret, bt_cV, bt_cS, bt_tab, bt_tsw, bt_lk, bt_lsw, bt_acp, bt_mmax, bt_mmin, bt_can, bt_icmpeq, bt_ifeq, bt_icmpne, bt_ifne, bt_icmplt, bt_iflt, bt_icmpge, bt_ifge, bt_icmpgt, bt_ifgt, bt_icmple, bt_ifle, bt_ret, bt_kill, bt_kl, bt_ix, bt_nl, bt_sm, bt_sr, bt_sig, bt_tg, bt_loc, bt_locs, List.getElem?_cons_zero, List.getElem?_cons_succ, List.set_cons_zero, List.set_cons_succ, List.map_cons, List.map_nil, List.take_succ_cons, List.take_zero, List.drop_succ_cons, List.drop_zero, List.reverse_cons, List.reverse_nil, List.nil_append, List.cons_append, List.append_nil, List.length_cons, List.length_nil, List.replicate_succ, List.replicate_zero, Option.toList_some, Option.toList_none, Nat.reduceAdd, Nat.reduceSub, Nat.reduceLeDiff, Nat.zero_add, Nat.zero_le, true_and, and_true, Int.toNat_natCast, Sum.inl.injEq, Sum.inr.injEq, ↓reduceIte, Nat.reduceEqDiff, sh_4, sh_1, hρ 4 _ (by decide), rf_4_0]
    repeat (refine And.intro (by first | omega | decide | (simp only [and_true, true_and]; omega)) ?_)
    refine ⟨ρ, μ1, t, n, rfl, rfl, hρ, hp.fr (f1 1 (by omega)) (f1 2 (by omega)) (f1 3 (by omega)), fun μ2 b1 b2 b3 f2 => ?_⟩
    simp (disch := omega) only [bt_ild, bt_lld, bt_ald, bt_ist, bt_lst, bt_ast, bt_inc, bt_ic, bt_lc, bt_iadd, bt_isub, bt_imul, bt_iand, bt_ior, bt_ixor, bt_ishl, bt_ishr, bt_iushr, bt_ladd, bt_lsub, bt_lmul, bt_land, bt_lor, bt_lushr, bt_lshl, bt_idiv, bt_irem, bt_ldiv, bt_lrem, bt_lcmp, bt_i2l, bt_l2i, bt_i2b, bt_pop, bt_dup, bt_dup2, bt_gfI, bt_gfJ, bt_gfR, bt_pfI, bt_pfZ, bt_pfJ, bt_pfR, bt_ial, bt_bal, bt_zal, bt_lal, bt_aal, bt_ias, bt_bas, bt_zas, bt_las, bt_len, bt_iret, bt_zret, bt_lret, bt_vret, bt_cV, bt_cS, bt_tab, bt_tsw, bt_lk, bt_lsw, bt_acp, bt_mmax, bt_mmin, bt_can, bt_icmpeq, bt_ifeq, bt_icmpne, bt_ifne, bt_icmplt, bt_iflt, bt_icmpge, bt_ifge, bt_icmpgt, bt_ifgt, bt_icmple, bt_ifle, bt_ret, bt_kill, bt_kl, bt_ix, bt_nl, bt_sm, bt_sr, bt_sig, bt_tg, bt_loc, bt_locs, List.getElem?_cons_zero, List.getElem?_cons_succ, List.set_cons_zero, List.set_cons_succ, List.map_cons, List.map_nil, List.take_succ_cons, List.take_zero, List.drop_succ_cons, List.drop_zero, List.reverse_cons, List.reverse_nil, List.nil_append, List.cons_append, List.append_nil, List.length_cons, List.length_nil, List.replicate_succ, List.replicate_zero, Option.toList_some, Option.toList_none, Nat.reduceAdd, Nat.reduceSub, Nat.reduceLeDiff, Nat.zero_add, Nat.zero_le, true_and, and_true, Int.toNat_natCast, Sum.inl.injEq, Sum.inr.injEq, ↓reduceIte, Nat.reduceEqDiff]
    have hv : rz_E μ2 z (bt_vw μ1 z) := fun j hj => f2 _ (by omega)
    have hclr : rz_clr (bt_vw μ1 z) := ⟨a1, a2, a3, by show μ1 (z + 11) 0 = 0; rw [f1 _ (by omega)]; exact hs0, by show μ1 (z + 11) 1 = 0; rw [f1 _ (by omega)]; exact hs1⟩
    exact ⟨1001, rfl, μ2, bt_vw μ1 z, 0, 1, _, rfl, by omega, by omega, rfl, fun a ha => by unfold rz_in at ha; rw [f2 a (by omega), f1 a (by omega)], hclr, rfl, Or.inl ⟨rfl, _, _, hv, hclr.K, b1, b2, b3, by omega, rfl⟩⟩
  · rintro m st L w ⟨rfl, μ1, ζ0, i, g, R, rfl, hi, rfl, rfl, hfr, hclr, hR, hI⟩
    rcases hI with ⟨rfl, ζ, c, hv, hK, hp1, hc, h13, hic, hall⟩ | ⟨rfl, hR0, h13⟩
    · have hi2 : i ≤ 1000 := by have := hc.1; omega
      have hkr := tk_k_rg (t := t) (n := n) (c := c) (fun h => hp1.2.2.2.1 c h)
      have hk0 := tk_k0 (t := t) (n := n) (c := c) (fun h => (hp1.2.2.2.1 c h).1)
      simp (disch := omega) only [tX3_readZoo_15, tX3_readZoo_60, tX3_readZoo_61, tX3_readZoo_68, tX3_readZoo_76, bt_ild, bt_lld, bt_ald, bt_ist, bt_lst, bt_ast, bt_inc, bt_ic, bt_lc, bt_iadd, bt_isub, bt_imul, bt_iand, bt_ior, bt_ixor, bt_ishl, bt_ishr, bt_iushr, bt_ladd, bt_lsub, bt_lmul, bt_land, bt_lor, bt_lushr, bt_lshl, bt_idiv, bt_irem, bt_ldiv, bt_lrem, bt_lcmp, bt_i2l, bt_l2i, bt_i2b, bt_pop, bt_dup, bt_dup2, bt_gfI, bt_gfJ, bt_gfR, bt_pfI, bt_pfZ, bt_pfJ, bt_pfR, bt_ial, bt_bal, bt_zal, bt_lal, bt_aal, bt_ias, bt_bas, bt_zas, bt_las, bt_len, bt_iret, bt_zret, bt_lret, bt_vret, bt_cV, bt_cS, bt_tab, bt_tsw, bt_lk, bt_lsw, bt_acp, bt_mmax, bt_mmin, bt_can, bt_icmpeq, bt_ifeq, bt_icmpne, bt_ifne, bt_icmplt, bt_iflt, bt_icmpge, bt_ifge, bt_icmpgt, bt_ifgt, bt_icmple, bt_ifle, bt_ret, bt_kill, bt_kl, bt_ix, bt_nl, bt_sm, bt_sr, bt_sig, bt_tg, bt_loc, bt_locs, List.getElem?_cons_zero, List.getElem?_cons_succ, List.set_cons_zero, List.set_cons_succ, List.map_cons, List.map_nil, List.take_succ_cons, List.take_zero, List.drop_succ_cons, List.drop_zero, List.reverse_cons, List.reverse_nil, List.nil_append, List.cons_append, List.append_nil, List.length_cons, List.length_nil, List.replicate_succ, List.replicate_zero, Option.toList_some, Option.toList_none, Nat.reduceAdd, Nat.reduceSub, Nat.reduceLeDiff, Nat.zero_add, Nat.zero_le, true_and, and_true, Int.toNat_natCast, Sum.inl.injEq, Sum.inr.injEq, ↓reduceIte, Nat.reduceEqDiff, sh_4, sh_1, hρ 4 _ (by decide), rf_4_0, hc.2.2.2.2.1, bt_w_id, Int.reduceEq, ↓reduceIte]
      rw [if_neg (by omega)]
      repeat (refine And.intro (by first | omega | decide | (simp only [and_true, true_and]; omega)) ?_)
      rw [show 1001 - i = (1000 - i) + 1 by omega] at hall
      by_cases hend : tk_k t n c = 0
      · rw [if_pos hend]
        have hnc := hk0.mp hend
        have hR2 : (0, ζ) = R := by
          rw [← hall]
          show _ = (if n ≤ c then (0, ζ) else _)
          rw [if_pos hnc]
        subst hR2
        have z8 : μ1 z 8 = ((ζ 0 8).toNat : Int) := by
          rw [show μ1 z 8 = ζ 0 8 from congrFun (hv 0 (by decide)) 8]
          have := hK.1.2.2.2
          omega
        simp (disch := omega) only [e3]
        repeat (refine And.intro (by first | omega | decide | (simp only [and_true, true_and]; omega)) ?_)
        refine ⟨ρ, μ1, z, (ζ 0 8).toNat, rfl, rfl, hρ, hz, z8, by have := hK.1.2.2.2; omega, by rw [hv 8 (by decide)]; exact hK.1.2.1, fun μ2 a1 a2 a3 f2 => ?_⟩
        simp (disch := omega) only [bt_ild, bt_lld, bt_ald, bt_ist, bt_lst, bt_ast, bt_inc, bt_ic, bt_lc, bt_iadd, bt_isub, bt_imul, bt_iand, bt_ior, bt_ixor, bt_ishl, bt_ishr, bt_iushr, bt_ladd, bt_lsub, bt_lmul, bt_land, bt_lor, bt_lushr, bt_lshl, bt_idiv, bt_irem, bt_ldiv, bt_lrem, bt_lcmp, bt_i2l, bt_l2i, bt_i2b, bt_pop, bt_dup, bt_dup2, bt_gfI, bt_gfJ, bt_gfR, bt_pfI, bt_pfZ, bt_pfJ, bt_pfR, bt_ial, bt_bal, bt_zal, bt_lal, bt_aal, bt_ias, bt_bas, bt_zas, bt_las, bt_len, bt_iret, bt_zret, bt_lret, bt_vret, bt_cV, bt_cS, bt_tab, bt_tsw, bt_lk, bt_lsw, bt_acp, bt_mmax, bt_mmin, bt_can, bt_icmpeq, bt_ifeq, bt_icmpne, bt_ifne, bt_icmplt, bt_iflt, bt_icmpge, bt_ifge, bt_icmpgt, bt_ifgt, bt_icmple, bt_ifle, bt_ret, bt_kill, bt_kl, bt_ix, bt_nl, bt_sm, bt_sr, bt_sig, bt_tg, bt_loc, bt_locs, List.getElem?_cons_zero, List.getElem?_cons_succ, List.set_cons_zero, List.set_cons_succ, List.map_cons, List.map_nil, List.take_succ_cons, List.take_zero, List.drop_succ_cons, List.drop_zero, List.reverse_cons, List.reverse_nil, List.nil_append, List.cons_append, List.append_nil, List.length_cons, List.length_nil, List.replicate_succ, List.replicate_zero, Option.toList_some, Option.toList_none, Nat.reduceAdd, Nat.reduceSub, Nat.reduceLeDiff, Nat.zero_add, Nat.zero_le, true_and, and_true, Int.toNat_natCast, Sum.inl.injEq, Sum.inr.injEq, ↓reduceIte, Nat.reduceEqDiff, sh_4, sh_1, hρ 4 _ (by decide), rf_4_0]
        repeat (refine And.intro (by first | omega | decide | (simp only [and_true, true_and]; omega)) ?_)
        refine tk_empty_call ?_
        simp (disch := omega) only [bt_ild, bt_lld, bt_ald, bt_ist, bt_lst, bt_ast, bt_inc, bt_ic, bt_lc, bt_iadd, bt_isub, bt_imul, bt_iand, bt_ior, bt_ixor, bt_ishl, bt_ishr, bt_iushr, bt_ladd, bt_lsub, bt_lmul, bt_land, bt_lor, bt_lushr, bt_lshl, bt_idiv, bt_irem, bt_ldiv, bt_lrem, bt_lcmp, bt_i2l, bt_l2i, bt_i2b, bt_pop, bt_dup, bt_dup2, bt_gfI, bt_gfJ, bt_gfR, bt_pfI, bt_pfZ, bt_pfJ, bt_pfR, bt_ial, bt_bal, bt_zal, bt_lal, bt_aal, bt_ias, bt_bas, bt_zas, bt_las, bt_len, bt_iret, bt_zret, bt_lret, bt_vret, bt_cV, bt_cS, bt_tab, bt_tsw, bt_lk, bt_lsw, bt_acp, bt_mmax, bt_mmin, bt_can, bt_icmpeq, bt_ifeq, bt_icmpne, bt_ifne, bt_icmplt, bt_iflt, bt_icmpge, bt_ifge, bt_icmpgt, bt_ifgt, bt_icmple, bt_ifle, bt_ret, bt_kill, bt_kl, bt_ix, bt_nl, bt_sm, bt_sr, bt_sig, bt_tg, bt_loc, bt_locs, List.getElem?_cons_zero, List.getElem?_cons_succ, List.set_cons_zero, List.set_cons_succ, List.map_cons, List.map_nil, List.take_succ_cons, List.take_zero, List.drop_succ_cons, List.drop_zero, List.reverse_cons, List.reverse_nil, List.nil_append, List.cons_append, List.append_nil, List.length_cons, List.length_nil, List.replicate_succ, List.replicate_zero, Option.toList_some, Option.toList_none, Nat.reduceAdd, Nat.reduceSub, Nat.reduceLeDiff, Nat.zero_add, Nat.zero_le, true_and, and_true, Int.toNat_natCast, Sum.inl.injEq, Sum.inr.injEq, ↓reduceIte, Nat.reduceEqDiff]
        rw [f2 1 (by omega), h13]
        have q := hQ (bt_up μ2 1 2 0) ζ0 hclr
        rw [hR] at q
        refine q (fun _ => ⟨⟨fun j hj h8 h9 h10 => ?_, ?_, fun k hk => ?_, fun k hk => ?_⟩, hK⟩) (bt_up_same _ _ _ _) (fun a ha => ?_)
        · rw [bt_up_cell (by omega), f2 _ (by omega)]; exact hv j hj
        · rw [bt_up_cell (by omega), a3, hv 8 (by decide)]
        · rw [bt_up_cell (by omega), a1 k hk, hv 9 (by decide)]
        · rw [bt_up_cell (by omega), a2 k hk, hv 10 (by decide)]
        · unfold rz_in at ha
          rw [bt_up_cell (by omega), f2 a (by omega)]
          exact hfr a (by unfold rz_in; omega)
      · rw [if_neg hend]
        have hnc : ¬ n ≤ c := fun q => hend (hk0.mpr q)
        repeat (refine And.intro (by first | omega | decide | (simp only [and_true, true_and]; omega)) ?_)
        refine ⟨ρ, μ1, t, n, c, z, ζ, rfl, rfl, hρ, hz, hp1, hc, hv, hK.1, fun μ2 g1 f2 => ?_⟩
        have hge := rz_line_ge t n ζ c
        have hKl := rz_line_K (c := c) hp1.2.2.2.1 hK
        have hall2 : (if (rz_line t n ζ c).1 ≠ 0 then ((rz_line t n ζ c).1, ζ) else if tk_k t n (rz_line t n ζ c).2.1 = 59 then rz_all t n (1000 - i) (rz_line t n ζ c).2.2 (tk_nx t n (rz_line t n ζ c).2.1) else (1 + 16 * ((rz_line t n ζ c).2.1 : Int), ζ)) = R := by
          rw [← hall]
          show _ = (if n ≤ c then (0, ζ) else _)
          rw [if_neg hnc]
        have hfr2 : bt_fr (rz_in z) μ2 μ := fun a ha => (f2 a ha).trans (hfr a ha)
        generalize rz_line t n ζ c = W at *
        by_cases hf : W.1 = 0
        · rw [if_pos hf] at g1 ⊢
          rw [if_neg (fun q => q hf)] at hall2
          obtain ⟨g2, hv2⟩ := g1
          simp (disch := omega) only [bt_ild, bt_lld, bt_ald, bt_ist, bt_lst, bt_ast, bt_inc, bt_ic, bt_lc, bt_iadd, bt_isub, bt_imul, bt_iand, bt_ior, bt_ixor, bt_ishl, bt_ishr, bt_iushr, bt_ladd, bt_lsub, bt_lmul, bt_land, bt_lor, bt_lushr, bt_lshl, bt_idiv, bt_irem, bt_ldiv, bt_lrem, bt_lcmp, bt_i2l, bt_l2i, bt_i2b, bt_pop, bt_dup, bt_dup2, bt_gfI, bt_gfJ, bt_gfR, bt_pfI, bt_pfZ, bt_pfJ, bt_pfR, bt_ial, bt_bal, bt_zal, bt_lal, bt_aal, bt_ias, bt_bas, bt_zas, bt_las, bt_len, bt_iret, bt_zret, bt_lret, bt_vret, bt_cV, bt_cS, bt_tab, bt_tsw, bt_lk, bt_lsw, bt_acp, bt_mmax, bt_mmin, bt_can, bt_icmpeq, bt_ifeq, bt_icmpne, bt_ifne, bt_icmplt, bt_iflt, bt_icmpge, bt_ifge, bt_icmpgt, bt_ifgt, bt_icmple, bt_ifle, bt_ret, bt_kill, bt_kl, bt_ix, bt_nl, bt_sm, bt_sr, bt_sig, bt_tg, bt_loc, bt_locs, List.getElem?_cons_zero, List.getElem?_cons_succ, List.set_cons_zero, List.set_cons_succ, List.map_cons, List.map_nil, List.take_succ_cons, List.take_zero, List.drop_succ_cons, List.drop_zero, List.reverse_cons, List.reverse_nil, List.nil_append, List.cons_append, List.append_nil, List.length_cons, List.length_nil, List.replicate_succ, List.replicate_zero, Option.toList_some, Option.toList_none, Nat.reduceAdd, Nat.reduceSub, Nat.reduceLeDiff, Nat.zero_add, Nat.zero_le, true_and, and_true, Int.toNat_natCast, Sum.inl.injEq, Sum.inr.injEq, ↓reduceIte, Nat.reduceEqDiff, sh_4, sh_1, hρ 4 _ (by decide), rf_4_0, bt_w_id, Int.reduceEq, ↓reduceIte, tX3_readZoo_60, tX3_readZoo_61]
          repeat (refine And.intro (by first | omega | decide | (simp only [and_true, true_and]; omega)) ?_)
          refine ⟨ρ, μ2, t, n, W.2.1, 59, rfl, rfl, hρ, g2.1, g2.2.1, by decide, fun μ3 g3 f3 => ?_⟩
          have hfr3 : bt_fr (rz_in z) μ3 μ := fun a ha => (f3 a (by unfold rz_in at ha; omega)).trans (hfr2 a ha)
          by_cases hse : tk_k t n W.2.1 = 59
          · have hse' : tk_k t n W.2.1 = ((59 : Nat) : Int) := hse
            rw [if_pos hse'] at g3 ⊢
            rw [if_pos hse] at hall2
            simp (disch := omega) only [bt_ild, bt_lld, bt_ald, bt_ist, bt_lst, bt_ast, bt_inc, bt_ic, bt_lc, bt_iadd, bt_isub, bt_imul, bt_iand, bt_ior, bt_ixor, bt_ishl, bt_ishr, bt_iushr, bt_ladd, bt_lsub, bt_lmul, bt_land, bt_lor, bt_lushr, bt_lshl, bt_idiv, bt_irem, bt_ldiv, bt_lrem, bt_lcmp, bt_i2l, bt_l2i, bt_i2b, bt_pop, bt_dup, bt_dup2, bt_gfI, bt_gfJ, bt_gfR, bt_pfI, bt_pfZ, bt_pfJ, bt_pfR, bt_ial, bt_bal, bt_zal, bt_lal, bt_aal, bt_ias, bt_bas, bt_zas, bt_las, bt_len, bt_iret, bt_zret, bt_lret, bt_vret, bt_cV, bt_cS, bt_tab, bt_tsw, bt_lk, bt_lsw, bt_acp, bt_mmax, bt_mmin, bt_can, bt_icmpeq, bt_ifeq, bt_icmpne, bt_ifne, bt_icmplt, bt_iflt, bt_icmpge, bt_ifge, bt_icmpgt, bt_ifgt, bt_icmple, bt_ifle, bt_ret, bt_kill, bt_kl, bt_ix, bt_nl, bt_sm, bt_sr, bt_sig, bt_tg, bt_loc, bt_locs, List.getElem?_cons_zero, List.getElem?_cons_succ, List.set_cons_zero, List.set_cons_succ, List.map_cons, List.map_nil, List.take_succ_cons, List.take_zero, List.drop_succ_cons, List.drop_zero, List.reverse_cons, List.reverse_nil, List.nil_append, List.cons_append, List.append_nil, List.length_cons, List.length_nil, List.replicate_succ, List.replicate_zero, Option.toList_some, Option.toList_none, Nat.reduceAdd, Nat.reduceSub, Nat.reduceLeDiff, Nat.zero_add, Nat.zero_le, true_and, and_true, Int.toNat_natCast, Sum.inl.injEq, Sum.inr.injEq, ↓reduceIte, Nat.reduceEqDiff, bt_w_id, Int.reduceEq, ↓reduceIte]
            have hlt : W.2.1 < n := tk_k_lt (by rw [hse]; decide)
            have hx := tk_nx_rg (t := t) g2.2.1.1
            refine ⟨1001 - (i + 1), by omega, rfl, μ3, ζ0, i + 1, 1, R, rfl, by omega, rfl, rfl, hfr3, hclr, hR, Or.inl ⟨rfl, W.2.2, tk_nx t n W.2.1, fun j hj => by rw [f3 _ (by omega)]; exact hv2 j hj, hKl hf, g3.1, g3.2.1, ?_, by omega, by rw [show 1001 - (i + 1) = 1000 - i by omega]; exact hall2⟩⟩
            rw [g3.2.2, g2.2.2]; exact h13
          · have hse' : ¬ tk_k t n W.2.1 = ((59 : Nat) : Int) := hse
            rw [if_neg hse'] at g3 ⊢
            rw [if_neg hse] at hall2
            simp (disch := omega) only [bt_ild, bt_lld, bt_ald, bt_ist, bt_lst, bt_ast, bt_inc, bt_ic, bt_lc, bt_iadd, bt_isub, bt_imul, bt_iand, bt_ior, bt_ixor, bt_ishl, bt_ishr, bt_iushr, bt_ladd, bt_lsub, bt_lmul, bt_land, bt_lor, bt_lushr, bt_lshl, bt_idiv, bt_irem, bt_ldiv, bt_lrem, bt_lcmp, bt_i2l, bt_l2i, bt_i2b, bt_pop, bt_dup, bt_dup2, bt_gfI, bt_gfJ, bt_gfR, bt_pfI, bt_pfZ, bt_pfJ, bt_pfR, bt_ial, bt_bal, bt_zal, bt_lal, bt_aal, bt_ias, bt_bas, bt_zas, bt_las, bt_len, bt_iret, bt_zret, bt_lret, bt_vret, bt_cV, bt_cS, bt_tab, bt_tsw, bt_lk, bt_lsw, bt_acp, bt_mmax, bt_mmin, bt_can, bt_icmpeq, bt_ifeq, bt_icmpne, bt_ifne, bt_icmplt, bt_iflt, bt_icmpge, bt_ifge, bt_icmpgt, bt_ifgt, bt_icmple, bt_ifle, bt_ret, bt_kill, bt_kl, bt_ix, bt_nl, bt_sm, bt_sr, bt_sig, bt_tg, bt_loc, bt_locs, List.getElem?_cons_zero, List.getElem?_cons_succ, List.set_cons_zero, List.set_cons_succ, List.map_cons, List.map_nil, List.take_succ_cons, List.take_zero, List.drop_succ_cons, List.drop_zero, List.reverse_cons, List.reverse_nil, List.nil_append, List.cons_append, List.append_nil, List.length_cons, List.length_nil, List.replicate_succ, List.replicate_zero, Option.toList_some, Option.toList_none, Nat.reduceAdd, Nat.reduceSub, Nat.reduceLeDiff, Nat.zero_add, Nat.zero_le, true_and, and_true, Int.toNat_natCast, Sum.inl.injEq, Sum.inr.injEq, ↓reduceIte, Nat.reduceEqDiff, bt_w_id, Int.reduceEq, ↓reduceIte]
            subst hall2
            refine ⟨1001 - (i + 1), by omega, rfl, μ3, ζ0, i + 1, 0, _, rfl, by omega, rfl, rfl, hfr3, hclr, hR, Or.inr ⟨rfl, ?_, g3⟩⟩
            show (1 + 16 * (W.2.1 : Int)) ≠ 0
            omega
        · rw [if_neg hf] at g1 ⊢
          rw [if_pos hf] at hall2
          simp (disch := omega) only [bt_ild, bt_lld, bt_ald, bt_ist, bt_lst, bt_ast, bt_inc, bt_ic, bt_lc, bt_iadd, bt_isub, bt_imul, bt_iand, bt_ior, bt_ixor, bt_ishl, bt_ishr, bt_iushr, bt_ladd, bt_lsub, bt_lmul, bt_land, bt_lor, bt_lushr, bt_lshl, bt_idiv, bt_irem, bt_ldiv, bt_lrem, bt_lcmp, bt_i2l, bt_l2i, bt_i2b, bt_pop, bt_dup, bt_dup2, bt_gfI, bt_gfJ, bt_gfR, bt_pfI, bt_pfZ, bt_pfJ, bt_pfR, bt_ial, bt_bal, bt_zal, bt_lal, bt_aal, bt_ias, bt_bas, bt_zas, bt_las, bt_len, bt_iret, bt_zret, bt_lret, bt_vret, bt_cV, bt_cS, bt_tab, bt_tsw, bt_lk, bt_lsw, bt_acp, bt_mmax, bt_mmin, bt_can, bt_icmpeq, bt_ifeq, bt_icmpne, bt_ifne, bt_icmplt, bt_iflt, bt_icmpge, bt_ifge, bt_icmpgt, bt_ifgt, bt_icmple, bt_ifle, bt_ret, bt_kill, bt_kl, bt_ix, bt_nl, bt_sm, bt_sr, bt_sig, bt_tg, bt_loc, bt_locs, List.getElem?_cons_zero, List.getElem?_cons_succ, List.set_cons_zero, List.set_cons_succ, List.map_cons, List.map_nil, List.take_succ_cons, List.take_zero, List.drop_succ_cons, List.drop_zero, List.reverse_cons, List.reverse_nil, List.nil_append, List.cons_append, List.append_nil, List.length_cons, List.length_nil, List.replicate_succ, List.replicate_zero, Option.toList_some, Option.toList_none, Nat.reduceAdd, Nat.reduceSub, Nat.reduceLeDiff, Nat.zero_add, Nat.zero_le, true_and, and_true, Int.toNat_natCast, Sum.inl.injEq, Sum.inr.injEq, ↓reduceIte, Nat.reduceEqDiff, bt_w_id, Int.reduceEq, ↓reduceIte, tX3_readZoo_60, tX3_readZoo_61]
          subst hall2
          exact ⟨1001 - (i + 1), by omega, rfl, μ2, ζ0, i + 1, 0, _, rfl, by omega, rfl, rfl, hfr2, hclr, hR, Or.inr ⟨rfl, hf, g1⟩⟩
    · simp (disch := omega) only [tX3_readZoo_15, tX3_readZoo_60, tX3_readZoo_61, tX3_readZoo_68, tX3_readZoo_76, bt_ild, bt_lld, bt_ald, bt_ist, bt_lst, bt_ast, bt_inc, bt_ic, bt_lc, bt_iadd, bt_isub, bt_imul, bt_iand, bt_ior, bt_ixor, bt_ishl, bt_ishr, bt_iushr, bt_ladd, bt_lsub, bt_lmul, bt_land, bt_lor, bt_lushr, bt_lshl, bt_idiv, bt_irem, bt_ldiv, bt_lrem, bt_lcmp, bt_i2l, bt_l2i, bt_i2b, bt_pop, bt_dup, bt_dup2, bt_gfI, bt_gfJ, bt_gfR, bt_pfI, bt_pfZ, bt_pfJ, bt_pfR, bt_ial, bt_bal, bt_zal, bt_lal, bt_aal, bt_ias, bt_bas, bt_zas, bt_las, bt_len, bt_iret, bt_zret, bt_lret, bt_vret, bt_cV, bt_cS, bt_tab, bt_tsw, bt_lk, bt_lsw, bt_acp, bt_mmax, bt_mmin, bt_can, bt_icmpeq, bt_ifeq, bt_icmpne, bt_ifne, bt_icmplt, bt_iflt, bt_icmpge, bt_ifge, bt_icmpgt, bt_ifgt, bt_icmple, bt_ifle, bt_ret, bt_kill, bt_kl, bt_ix, bt_nl, bt_sm, bt_sr, bt_sig, bt_tg, bt_loc, bt_locs, List.getElem?_cons_zero, List.getElem?_cons_succ, List.set_cons_zero, List.set_cons_succ, List.map_cons, List.map_nil, List.take_succ_cons, List.take_zero, List.drop_succ_cons, List.drop_zero, List.reverse_cons, List.reverse_nil, List.nil_append, List.cons_append, List.append_nil, List.length_cons, List.length_nil, List.replicate_succ, List.replicate_zero, Option.toList_some, Option.toList_none, Nat.reduceAdd, Nat.reduceSub, Nat.reduceLeDiff, Nat.zero_add, Nat.zero_le, true_and, and_true, Int.toNat_natCast, Sum.inl.injEq, Sum.inr.injEq, ↓reduceIte, Nat.reduceEqDiff, sh_4, sh_1, hρ 4 _ (by decide), rf_4_0, bt_w_id, Int.reduceEq, ↓reduceIte]
      have fin : ∀ L, SpX7_empty [.inr (.inr 1)] (bt_wd ρ μ1) (bt_ret (bt_iret Q) [] L) := fun L => by
        refine tk_empty_call ?_
        simp (disch := omega) only [bt_ild, bt_lld, bt_ald, bt_ist, bt_lst, bt_ast, bt_inc, bt_ic, bt_lc, bt_iadd, bt_isub, bt_imul, bt_iand, bt_ior, bt_ixor, bt_ishl, bt_ishr, bt_iushr, bt_ladd, bt_lsub, bt_lmul, bt_land, bt_lor, bt_lushr, bt_lshl, bt_idiv, bt_irem, bt_ldiv, bt_lrem, bt_lcmp, bt_i2l, bt_l2i, bt_i2b, bt_pop, bt_dup, bt_dup2, bt_gfI, bt_gfJ, bt_gfR, bt_pfI, bt_pfZ, bt_pfJ, bt_pfR, bt_ial, bt_bal, bt_zal, bt_lal, bt_aal, bt_ias, bt_bas, bt_zas, bt_las, bt_len, bt_iret, bt_zret, bt_lret, bt_vret, bt_cV, bt_cS, bt_tab, bt_tsw, bt_lk, bt_lsw, bt_acp, bt_mmax, bt_mmin, bt_can, bt_icmpeq, bt_ifeq, bt_icmpne, bt_ifne, bt_icmplt, bt_iflt, bt_icmpge, bt_ifge, bt_icmpgt, bt_ifgt, bt_icmple, bt_ifle, bt_ret, bt_kill, bt_kl, bt_ix, bt_nl, bt_sm, bt_sr, bt_sig, bt_tg, bt_loc, bt_locs, List.getElem?_cons_zero, List.getElem?_cons_succ, List.set_cons_zero, List.set_cons_succ, List.map_cons, List.map_nil, List.take_succ_cons, List.take_zero, List.drop_succ_cons, List.drop_zero, List.reverse_cons, List.reverse_nil, List.nil_append, List.cons_append, List.append_nil, List.length_cons, List.length_nil, List.replicate_succ, List.replicate_zero, Option.toList_some, Option.toList_none, Nat.reduceAdd, Nat.reduceSub, Nat.reduceLeDiff, Nat.zero_add, Nat.zero_le, true_and, and_true, Int.toNat_natCast, Sum.inl.injEq, Sum.inr.injEq, ↓reduceIte, Nat.reduceEqDiff]
        rw [h13]
        have q := hQ (bt_up μ1 1 2 0) ζ0 hclr
        rw [hR] at q
        exact q (fun q0 => absurd q0 hR0) (bt_up_same _ _ _ _) (fun a ha => by rw [bt_up_cell (by unfold rz_in at ha; omega)]; exact hfr a ha)
      split
      · repeat (refine And.intro (by first | omega | decide | (simp only [and_true, true_and]; omega)) ?_)
        exact fin _
      · repeat (refine And.intro (by first | omega | decide | (simp only [and_true, true_and]; omega)) ?_)
        exact fin _
