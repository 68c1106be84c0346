/-! Formula: put, isFact, and what a reading leaves -/
def SpX0_put : bt_Sp := fun As w Q => tX0_put_0 bt_k0 Q [] (bt_loc 2 As) w
theorem mtX0_put : bt_Met yX0_put cX0_put 2 none 1 [2, 0] SpX0_put := lfX0_put
def SpX0_isFact : bt_Sp := fun As w Q => tX0_isFact_0 bt_k0 Q [] (bt_loc 1 As) w
theorem mtX0_isFact : bt_Met yX0_isFact cX0_isFact 1 (some .boolean) 1 [2] SpX0_isFact := lfX0_isFact
def SpX0_factAt : bt_Sp := fun As w Q => tX0_factAt_0 bt_k0 Q [] (bt_loc 2 As) w
theorem mtX0_factAt : bt_Met yX0_factAt cX0_factAt 2 (some .int) 1 [2, 0] SpX0_factAt := lfX0_factAt
def SpX0_joined : bt_Sp := fun As w Q => tX0_joined_0 bt_k0 Q [] (bt_loc 3 As) w
theorem mtX0_joined : bt_Met yX0_joined cX0_joined 3 (some .int) 1 [0, 0, 0] SpX0_joined := lfX0_joined
def fo_W (μ' μ : Nat → Nat → Int) (s c : Nat) (r : fo_R) (H : Nat) : Prop := ∃ s' : Nat, μ' 6 4 = (s' : Int) ∧ s ≤ s' ∧ s' + c ≤ s + r.2.1 ∧ (∀ x, x < s → μ' 8 x = μ 8 x) ∧ fo_Em (μ' 8) s s' H r.2.2
def fo_F (μ' μ : Nat → Nat → Int) : Prop := (∃ s : Nat, μ' 6 4 = (s : Int) ∧ s ≤ 1000) ∧ μ' 6 5 = μ 6 5 ∧ bt_fr (fun a => a = 1 ∨ a = 6 ∨ a = 8) μ' μ
def fo_Sp (P : (Nat → Int) → Nat → Nat → fo_P) (d H : Nat) : bt_Sp := fun As w Q => ∃ (ρ : Nat → Nat → Option Nat) (μ : Nat → Nat → Int) (t : Nat → Int) (n al c s : Nat), As = [.inr (.inr 6), .inl (d : Int)] ∧ w = bt_wd ρ μ ∧ bt_Rf ρ ∧ bt_Tp μ t n ∧ bt_Tc μ t n c ∧ μ 6 4 = (s : Int) ∧ s ≤ c ∧ μ 6 5 = (al : Int) ∧ al < 64 ∧ ∀ μ', (if (P t n al c).1 = 0 then bt_Go μ' μ t n (P t n al c).2.1 ∧ fo_W μ' μ s c (P t n al c) H else μ' 1 3 = (P t n al c).1) → fo_F μ' μ → Q (some (.inl (if (P t n al c).1 = 0 then 1 else 0))) (bt_wd ρ μ')
theorem fo_put_call {ρ : Nat → Nat → Option Nat} {μ : Nat → Nat → Int} {s : Nat} {x : Int} (hρ : bt_Rf ρ) (hs : μ 6 4 = (s : Int)) (hs2 : s ≤ 1000) {Q : Option bt_V → bt_W → Prop} (h1 : s < 1000 → Q none (bt_wd ρ (bt_up (bt_up μ 8 s x) 6 4 ((s : Int) + 1)))) (h2 : s = 1000 → Q none (bt_wd ρ μ)) : SpX0_put [.inr (.inr 6), .inl x] (bt_wd ρ μ) Q := by
  simp (disch := omega) only [SpX0_put, tX0_put_0, tX0_put_30, bt_ild, bt_lld, bt_ald, bt_ist, bt_lst, bt_ast, bt_inc, bt_ic, bt_lc, bt_iadd, bt_isub, bt_imul, bt_iand, bt_ior, bt_ixor, bt_ishl, bt_ishr, bt_iushr, bt_ladd, bt_lsub, bt_lmul, bt_land, bt_lor, bt_lushr, bt_lshl, bt_idiv, bt_irem, bt_ldiv, bt_lrem, bt_lcmp, bt_i2l, bt_l2i, bt_i2b, bt_pop, bt_dup, bt_dup2, bt_gfI, bt_gfJ, bt_gfR, bt_pfI, bt_pfZ, bt_pfJ, bt_pfR, bt_ial, bt_bal, bt_zal, bt_lal, bt_aal, bt_ias, bt_bas, bt_zas, bt_las, bt_len, bt_iret, bt_zret, bt_lret, bt_vret, bt_cV, bt_cS, bt_tab, bt_tsw, bt_lk, bt_lsw, bt_acp, bt_mmax, bt_mmin, bt_can, bt_icmpeq, bt_ifeq, bt_icmpne, bt_ifne, bt_icmplt, bt_iflt, bt_icmpge, bt_ifge, bt_icmpgt, bt_ifgt, bt_icmple, bt_ifle, bt_ret, bt_kill, bt_kl, bt_ix, bt_nl, bt_sm, bt_sr, bt_sig, bt_tg, bt_loc, bt_locs, List.getElem?_cons_zero, List.getElem?_cons_succ, List.set_cons_zero, List.set_cons_succ, List.map_cons, List.map_nil, List.take_succ_cons, List.take_zero, List.drop_succ_cons, List.drop_zero, List.reverse_cons, List.reverse_nil, List.nil_append, List.cons_append, List.append_nil, List.length_cons, List.length_nil, List.replicate_succ, List.replicate_zero, Option.toList_some, Option.toList_none, Nat.reduceAdd, Nat.reduceSub, Nat.reduceLeDiff, Nat.zero_add, Nat.zero_le, true_and, and_true, Int.toNat_natCast, Sum.inl.injEq, Sum.inr.injEq, ↓reduceIte, Nat.reduceEqDiff, sh_6, hs, bt_w_id]
  refine ⟨by decide, ?_⟩
  by_cases hc : s < 1000
  · rw [if_neg (by omega)]
    simp (disch := omega) only [hρ 6 _ (by decide), rf_6_2, sh_8, bt_ild, bt_lld, bt_ald, bt_ist, bt_lst, bt_ast, bt_inc, bt_ic, bt_lc, bt_iadd, bt_isub, bt_imul, bt_iand, bt_ior, bt_ixor, bt_ishl, bt_ishr, bt_iushr, bt_ladd, bt_lsub, bt_lmul, bt_land, bt_lor, bt_lushr, bt_lshl, bt_idiv, bt_irem, bt_ldiv, bt_lrem, bt_lcmp, bt_i2l, bt_l2i, bt_i2b, bt_pop, bt_dup, bt_dup2, bt_gfI, bt_gfJ, bt_gfR, bt_pfI, bt_pfZ, bt_pfJ, bt_pfR, bt_ial, bt_bal, bt_zal, bt_lal, bt_aal, bt_ias, bt_bas, bt_zas, bt_las, bt_len, bt_iret, bt_zret, bt_lret, bt_vret, bt_cV, bt_cS, bt_tab, bt_tsw, bt_lk, bt_lsw, bt_acp, bt_mmax, bt_mmin, bt_can, bt_icmpeq, bt_ifeq, bt_icmpne, bt_ifne, bt_icmplt, bt_iflt, bt_icmpge, bt_ifge, bt_icmpgt, bt_ifgt, bt_icmple, bt_ifle, bt_ret, bt_kill, bt_kl, bt_ix, bt_nl, bt_sm, bt_sr, bt_sig, bt_tg, bt_loc, bt_locs, List.getElem?_cons_zero, List.getElem?_cons_succ, List.set_cons_zero, List.set_cons_succ, List.map_cons, List.map_nil, List.take_succ_cons, List.take_zero, List.drop_succ_cons, List.drop_zero, List.reverse_cons, List.reverse_nil, List.nil_append, List.cons_append, List.append_nil, List.length_cons, List.length_nil, List.replicate_succ, List.replicate_zero, Option.toList_some, Option.toList_none, Nat.reduceAdd, Nat.reduceSub, Nat.reduceLeDiff, Nat.zero_add, Nat.zero_le, true_and, and_true, Int.toNat_natCast, Sum.inl.injEq, Sum.inr.injEq, ↓reduceIte, Nat.reduceEqDiff, bt_up_cell, hs]
    exact ⟨by decide, by decide, by refine ⟨by decide, by omega, ?_⟩; show (s : Int) < 1000; omega, by decide, by decide, h1 hc⟩
  · rw [if_pos (by omega)]
    exact h2 (by omega)
theorem fo_F.put {μ' μ : Nat → Nat → Int} (h : fo_F μ' μ) {s : Nat} {x : Int} (hs : s < 1000) : fo_F (bt_up (bt_up μ' 8 s x) 6 4 ((s : Int) + 1)) μ := by
  refine ⟨⟨s + 1, by rw [bt_up_same]; rfl, by omega⟩, ?_, fun a ha => ?_⟩
  · rw [bt_up_ix (by decide), bt_up_cell (by decide)]; exact h.2.1
  · rw [bt_up_cell (by omega), bt_up_cell (by omega)]; exact h.2.2 a ha
theorem fo_F.tr {a b c : Nat → Nat → Int} (h : fo_F a b) (h' : fo_F b c) : fo_F a c := ⟨h.1, h.2.1.trans h'.2.1, fun q hq => (h.2.2 q hq).trans (h'.2.2 q hq)⟩
theorem fo_F.st {a b : Nat → Nat → Int} {s : Nat} (h : bt_fr (fun a => a = 1) a b) (hs : b 6 4 = (s : Int)) (hs2 : s ≤ 1000) : fo_F a b := ⟨⟨s, by rw [h 6 (by decide)]; exact hs, hs2⟩, by rw [h 6 (by decide)], fun q hq => h q (by omega)⟩
theorem bt_Go.tr {a b c : Nat → Nat → Int} {t : Nat → Int} {n q q' : Nat} (h : bt_Go a b t n q) (h' : bt_Go b c t n q') : bt_Go a c t n q := ⟨h.1, h.2.1, h.2.2.trans h'.2.2⟩
theorem bt_Go.fr {μ' μ μ0 : Nat → Nat → Int} {t : Nat → Int} {n q : Nat} (h : bt_Go μ μ0 t n q) (h1 : μ' 1 = μ 1) (h2 : μ' 2 = μ 2) (h3 : μ' 3 = μ 3) : bt_Go μ' μ0 t n q := ⟨h.1.fr h1 h2 h3, h.2.1.fr h1, by rw [h1]; exact h.2.2⟩
theorem fo_bin {μ1 μ2 μ3 μ : Nat → Nat → Int} {c c1 c2 s s1 s3 H : Nat} {V : fo_V} {r : fo_R} {o : Int} (w2 : s ≤ s1) (w3 : s1 + c ≤ s + c1) (w4 : ∀ x, x < s → μ1 8 x = μ 8 x) (w5 : fo_Em (μ1 8) s s1 H V) (e8 : μ2 8 = μ1 8) (u2 : s1 ≤ s3) (u3 : s3 + c2 ≤ s1 + r.2.1) (u4 : ∀ x, x < s1 → μ3 8 x = μ2 8 x) (u5 : fo_Em (μ3 8) s1 s3 (H + 1) r.2.2) (hc : c1 < c2) (ho : -17 ≤ o ∧ o < -10) : fo_W (bt_up (bt_up μ3 8 s3 o) 6 4 ((s3 : Int) + 1)) μ s c (0, r.2.1, fun F => fo_jn o (V F) (r.2.2 F)) H := by
  have e1 : ∀ x, x ≠ s3 → bt_up (bt_up μ3 8 s3 o) 6 4 ((s3 : Int) + 1) 8 x = μ3 8 x := fun x hx => by rw [bt_up_cell (by decide), bt_up_ix hx]
  refine ⟨s3 + 1, by rw [bt_up_same]; rfl, by omega, by show s3 + 1 + c ≤ s + r.2.1; omega, fun x hx => ?_, ?_⟩
  · rw [e1 x (by omega), u4 x (by omega), e8]; exact w4 x hx
  · refine fo_Em.bin (s1 := s1) (s2 := s3) (w5.congr (fun x h1 h2 => ?_)) (u5.congr (fun x h1 h2 => ?_)) ?_ ho
    · rw [e1 x (by omega), u4 x (by omega), e8]
    · rw [e1 x (by omega)]
    · rw [bt_up_cell (by decide), bt_up_same]
theorem fo_fa_call {ρ : Nat → Nat → Option Nat} {μ : Nat → Nat → Int} {t : Nat → Int} {n al c : Nat} (hρ : bt_Rf ρ) (hp : bt_Tp μ t n) (hc : bt_Tc μ t n c) (ha : μ 6 5 = (al : Int)) (ha2 : al < 64) {Q : Option bt_V → bt_W → Prop} (hq : Q (some (.inl (if fo_fa t n al c then 1 else 0))) (bt_wd ρ μ)) : SpX0_isFact [.inr (.inr 6)] (bt_wd ρ μ) Q := by
  obtain ⟨hn, hn2, ht, htr, hw⟩ := hp
  obtain ⟨c1, c2, c4, c5, c6, c7, c9⟩ := hc
  have hr := tk_k_rg (t := t) (n := n) (c := c) (fun h => htr c h)
  have hwr := tk_w_rg t n c
  simp (disch := omega) only [SpX0_isFact, tX0_isFact_0, tX0_isFact_47, tX0_isFact_48, bt_ild, bt_lld, bt_ald, bt_ist, bt_lst, bt_ast, bt_inc, bt_ic, bt_lc, bt_iadd, bt_isub, bt_imul, bt_iand, bt_ior, bt_ixor, bt_ishl, bt_ishr, bt_iushr, bt_ladd, bt_lsub, bt_lmul, bt_land, bt_lor, bt_lushr, bt_lshl, bt_idiv, bt_irem, bt_ldiv, bt_lrem, bt_lcmp, bt_i2l, bt_l2i, bt_i2b, bt_pop, bt_dup, bt_dup2, bt_gfI, bt_gfJ, bt_gfR, bt_pfI, bt_pfZ, bt_pfJ, bt_pfR, bt_ial, bt_bal, bt_zal, bt_lal, bt_aal, bt_ias, bt_bas, bt_zas, bt_las, bt_len, bt_iret, bt_zret, bt_lret, bt_vret, bt_cV, bt_cS, bt_tab, bt_tsw, bt_lk, bt_lsw, bt_acp, bt_mmax, bt_mmin, bt_can, bt_icmpeq, bt_ifeq, bt_icmpne, bt_ifne, bt_icmplt, bt_iflt, bt_icmpge, bt_ifge, bt_icmpgt, bt_ifgt, bt_icmple, bt_ifle, bt_ret, bt_kill, bt_kl, bt_ix, bt_nl, bt_sm, bt_sr, bt_sig, bt_tg, bt_loc, bt_locs, List.getElem?_cons_zero, List.getElem?_cons_succ, List.set_cons_zero, List.set_cons_succ, List.map_cons, List.map_nil, List.take_succ_cons, List.take_zero, List.drop_succ_cons, List.drop_zero, List.reverse_cons, List.reverse_nil, List.nil_append, List.cons_append, List.append_nil, List.length_cons, List.length_nil, List.replicate_succ, List.replicate_zero, Option.toList_some, Option.toList_none, Nat.reduceAdd, Nat.reduceSub, Nat.reduceLeDiff, Nat.zero_add, Nat.zero_le, true_and, and_true, Int.toNat_natCast, Sum.inl.injEq, Sum.inr.injEq, ↓reduceIte, Nat.reduceEqDiff, sh_6, sh_1, hρ 6 _ (by decide), rf_6_0, c6, bt_w_id]
  refine ⟨by decide, by decide, ?_⟩
  unfold fo_fa at hq
  by_cases h1 : tk_k t n c = 1
  · have hwe : tk_w t n c = tk_wd (tk_x t n c) := by unfold tk_w; rw [if_pos h1]
    obtain ⟨c7, c8⟩ := c7 h1
    rw [← hwe] at c8
    generalize tk_w t n c = v at *
    rw [if_pos h1]
    simp (disch := omega) only [c8, bt_w_id]
    refine ⟨by decide, by decide, ?_⟩
    by_cases h2 : v < 25
    · rw [if_pos h2]
      rw [if_neg (by simp; omega)] at hq
      exact ⟨by simp, hq⟩
    · rw [if_neg h2]
      have hb : bo_iand (bo_ishr (al : Int) (v - 25)) 1 = if al.testBit (v - 25).toNat then 1 else 0 := by
        have e : v - 25 = (((v - 25).toNat : Nat) : Int) := by omega
        rw [e]
        exact bo_bit (by omega) (by omega)
      rw [ha, hb]
      refine ⟨by decide, by decide, by decide, ?_⟩
      by_cases h3 : al.testBit (v - 25).toNat = true
      · rw [if_pos h3]
        rw [if_pos (by simp [h3]; omega)] at hq
        simp (disch := omega) only [bt_w_id, ↓reduceIte, Int.reduceEq]
        exact ⟨by simp, hq⟩
      · rw [if_neg h3]
        rw [if_neg (by simp [h3])] at hq
        simp (disch := omega) only [bt_w_id, ↓reduceIte]
        exact ⟨by simp, hq⟩
  · rw [if_neg h1]
    have hwe : tk_w t n c = -2 := by unfold tk_w; rw [if_neg h1]
    rw [if_neg (by simp [hwe])] at hq
    exact ⟨by simp, hq⟩
/-- a chain of parts -/
def iX0_c (ρ : Nat → Nat → Option Nat) (μ : Nat → Nat → Int) (t : Nat → Int) (n c s : Nat) (op : Nat → Int) (sub : fo_P) (d H : Nat) (nl : List (Option bt_V)) (_h m : Nat) : bt_K := fun st L w => st = [] ∧ ∃ (μ1 : Nat → Nat → Int) (i : Nat) (g : Int), w = bt_wd ρ μ1 ∧ i ≤ 1000 ∧ m = 1000 - i ∧ L = some (.inr (.inr 6)) :: some (.inl (d : Int)) :: some (.inl g) :: some (.inl (i : Int)) :: nl ∧ fo_F μ1 μ ∧ ((g = 1 ∧ ∃ c1 V, fo_ch op (tk_nx t n) sub (1000 - i) c1 V = fo_cn op (tk_nx t n) sub c ∧ bt_Go μ1 μ t n c1 ∧ fo_W μ1 μ s c (0, c1, V) H) ∨ (g = 0 ∧ (fo_cn op (tk_nx t n) sub c).1 ≠ 0 ∧ μ1 1 3 = (fo_cn op (tk_nx t n) sub c).1))
theorem fo_c0 {ρ : Nat → Nat → Option Nat} {μ : Nat → Nat → Int} {t : Nat → Int} {n c s : Nat} {op : Nat → Int} {sub : fo_P} {d H : Nat} {nl : List (Option bt_V)} {h : Nat} {μ1 : Nat → Nat → Int} (h1 : if (sub c).1 = 0 then bt_Go μ1 μ t n (sub c).2.1 ∧ fo_W μ1 μ s c (sub c) (H + 1) else μ1 1 3 = (sub c).1) (h2 : fo_F μ1 μ) : iX0_c ρ μ t n c s op sub d H nl h 1000 [] (some (.inr (.inr 6)) :: some (.inl (d : Int)) :: some (.inl (if (sub c).1 = 0 then 1 else 0)) :: some (.inl 0) :: nl) (bt_wd ρ μ1) := by
  refine ⟨rfl, μ1, 0, _, rfl, by omega, rfl, rfl, h2, ?_⟩
  unfold fo_cn
  by_cases hr : (sub c).1 = 0
  · rw [if_pos hr] at h1 ⊢
    rw [if_pos hr]
    obtain ⟨g1, s', k1, k2, k3, k4, k5⟩ := h1
    exact Or.inl ⟨rfl, (sub c).2.1, (sub c).2.2, rfl, g1, s', k1, k2, k3, k4, k5.weak (by omega)⟩
  · rw [if_neg hr] at h1 ⊢
    rw [if_neg hr]
    exact Or.inr ⟨rfl, hr, h1⟩
theorem fo_c1 {ρ : Nat → Nat → Option Nat} {μ : Nat → Nat → Int} {t : Nat → Int} {n al c s : Nat} {op : Nat → Int} {P : (Nat → Int) → Nat → Nat → fo_P} {d H : Nat} {nl : List (Option bt_V)} {i c1 : Nat} {V : fo_V} {μ1 : Nat → Nat → Int} {o : Int} (hρ : bt_Rf ρ) (hal : μ 6 5 = (al : Int)) (hal2 : al < 64) (hsc : s ≤ c) (hi : i < 1000) (hF : fo_F μ1 μ) (he : fo_ch op (tk_nx t n) (P t n al) (1000 - i) c1 V = fo_cn op (tk_nx t n) (P t n al) c) (hG : bt_Go μ1 μ t n c1) (hW : fo_W μ1 μ s c (0, c1, V) H) (ho : op c1 = o) (ho2 : -17 ≤ o ∧ o < -10) (hcn : c1 < n) (k : bt_K) (L0 : List (Option bt_V))
    (hk : ∀ (μ3 : Nat → Nat → Int) (g : Int), (g = 0 ∨ g = 1) → (∃ s3 : Nat, μ3 6 4 = (s3 : Int) ∧ s3 ≤ 1000 ∧ (s3 < 1000 → iX0_c ρ μ t n c s op (P t n al) d H nl 8 (1000 - (i + 1)) [] (some (.inr (.inr 6)) :: some (.inl (d : Int)) :: some (.inl g) :: some (.inl ((i : Int) + 1)) :: nl) (bt_wd ρ (bt_up (bt_up μ3 8 s3 o) 6 4 ((s3 : Int) + 1)))) ∧ (s3 = 1000 → iX0_c ρ μ t n c s op (P t n al) d H nl 8 (1000 - (i + 1)) [] (some (.inr (.inr 6)) :: some (.inl (d : Int)) :: some (.inl g) :: some (.inl ((i : Int) + 1)) :: nl) (bt_wd ρ μ3))) → bt_ret k [] L0 (some (.inl g)) (bt_wd ρ μ3)) :
    ∀ μ2, bt_Go μ2 μ1 t n (tk_nx t n c1) → bt_fr (fun a => a = 1) μ2 μ1 → fo_Sp P d (H + 1) [.inr (.inr 6), .inl (d : Int)] (bt_wd ρ μ2) (bt_ret k [] L0) := by
  intro μ2 hG2 hf2
  obtain ⟨s1, w1, w2, w3, w4, w5⟩ := hW
  have hlt := (tk_nx_rg (t := t) (n := n) (c := c1) (by omega)).2.2 hcn
  have e6 : μ2 6 = μ1 6 := hf2 6 (by decide)
  have e8 : μ2 8 = μ1 8 := hf2 8 (by decide)
  have hgo : fo_ch op (tk_nx t n) (P t n al) (1000 - i) c1 V = if (P t n al (tk_nx t n c1)).1 = 0 then fo_ch op (tk_nx t n) (P t n al) (1000 - (i + 1)) (P t n al (tk_nx t n c1)).2.1 (fun F => fo_jn o (V F) ((P t n al (tk_nx t n c1)).2.2 F)) else P t n al (tk_nx t n c1) := by
    rw [show 1000 - i = (1000 - (i + 1)) + 1 by omega]
    show (if op c1 = 0 then _ else _) = _
    rw [ho, if_neg (by omega)]
  rw [he] at hgo
  have w3' : s1 + c ≤ s + c1 := w3
  refine ⟨ρ, μ2, t, n, al, tk_nx t n c1, s1, rfl, rfl, hρ, hG2.1, hG2.2.1, by rw [e6]; exact w1, by omega, by rw [e6, hF.2.1]; exact hal, hal2, fun μ3 hr hF3 => ?_⟩
  generalize hrr : P t n al (tk_nx t n c1) = r at *
  have hF31 : fo_F μ3 μ := hF3.tr ((fo_F.st hf2 w1 (by have := hG.2.1.1; have := hG.1.2.1; omega)).tr hF)
  by_cases h0 : r.1 = 0
  · rw [if_pos h0] at hr hgo ⊢
    obtain ⟨hG3, s3, u1, u2, u3, u4, u5⟩ := hr
    have hn3 := hG3.2.1.1
    have hn4 := hG3.1.2.1
    refine hk μ3 1 (Or.inr rfl) ⟨s3, u1, by omega, fun _ => ?_, fun h => by omega⟩
    refine ⟨rfl, _, i + 1, 1, rfl, by omega, rfl, rfl, hF31.put (by omega), Or.inl ⟨rfl, r.2.1, _, hgo.symm, ?_, fo_bin (c1 := c1) (c2 := tk_nx t n c1) w2 w3' w4 w5 e8 u2 u3 u4 u5 hlt ho2⟩⟩
    exact (hG3.tr (hG2.tr hG)).fr (by rw [bt_up_cell (by decide), bt_up_cell (by decide)]) (by rw [bt_up_cell (by decide), bt_up_cell (by decide)]) (by rw [bt_up_cell (by decide), bt_up_cell (by decide)])
  · rw [if_neg h0] at hr hgo ⊢
    obtain ⟨s3, u1, u2⟩ := hF3.1
    refine hk μ3 0 (Or.inl rfl) ⟨s3, u1, u2, fun h => ?_, fun h => ?_⟩
    · refine ⟨rfl, _, i + 1, 0, rfl, by omega, rfl, rfl, hF31.put h, Or.inr ⟨rfl, by rw [hgo]; exact h0, ?_⟩⟩
      rw [bt_up_cell (by decide), bt_up_cell (by decide), hgo]; exact hr
    · exact ⟨rfl, _, i + 1, 0, rfl, by omega, rfl, rfl, hF31, Or.inr ⟨rfl, by rw [hgo]; exact h0, by rw [hgo]; exact hr⟩⟩
theorem fo_ch_stop {op : Nat → Int} {nx : Nat → Nat} {sub : fo_P} {f c : Nat} {V : fo_V} (h : f = 0 ∨ op c = 0) : fo_ch op nx sub f c V = (0, c, V) := by
  cases f with
  | zero => rfl
  | succ f => show (if op c = 0 then _ else _) = _; rw [if_pos (by omega)]
theorem fo_c2 {ρ : Nat → Nat → Option Nat} {μ μ1 : Nat → Nat → Int} {t : Nat → Int} {n c s i c1 H : Nat} {op : Nat → Int} {sub : fo_P} {V : fo_V} {R : fo_R} {Q : Option bt_V → bt_W → Prop} (hQ : ∀ μ', (if R.1 = 0 then bt_Go μ' μ t n R.2.1 ∧ fo_W μ' μ s c R H else μ' 1 3 = R.1) → fo_F μ' μ → Q (some (.inl (if R.1 = 0 then 1 else 0))) (bt_wd ρ μ')) (he : fo_ch op (tk_nx t n) sub (1000 - i) c1 V = R) (hst : 1000 - i = 0 ∨ op c1 = 0) (hG : bt_Go μ1 μ t n c1) (hW : fo_W μ1 μ s c (0, c1, V) H) (hF : fo_F μ1 μ) : Q (some (.inl 1)) (bt_wd ρ μ1) := by
  rw [fo_ch_stop hst] at he
  subst he
  exact hQ μ1 ⟨hG, hW⟩ hF
theorem fo_c3 {ρ : Nat → Nat → Option Nat} {μ μ1 : Nat → Nat → Int} {t : Nat → Int} {n c s H : Nat} {R : fo_R} {Q : Option bt_V → bt_W → Prop} (hQ : ∀ μ', (if R.1 = 0 then bt_Go μ' μ t n R.2.1 ∧ fo_W μ' μ s c R H else μ' 1 3 = R.1) → fo_F μ' μ → Q (some (.inl (if R.1 = 0 then 1 else 0))) (bt_wd ρ μ')) (h1 : R.1 ≠ 0) (h2 : μ1 1 3 = R.1) (hF : fo_F μ1 μ) : Q (some (.inl 0)) (bt_wd ρ μ1) := by
  have := hQ μ1
  rw [if_neg h1, if_neg h1] at this
  exact this h2 hF
theorem fo_call {ρ : Nat → Nat → Option Nat} {μ : Nat → Nat → Int} {t : Nat → Int} {n al c s : Nat} {P : (Nat → Int) → Nat → Nat → fo_P} {d H : Nat} {R : fo_R} {Q : Option bt_V → bt_W → Prop} (hρ : bt_Rf ρ) (hp : bt_Tp μ t n) (hc : bt_Tc μ t n c) (hs : μ 6 4 = (s : Int)) (hsc : s ≤ c) (hal : μ 6 5 = (al : Int)) (hal2 : al < 64) (hR : P t n al c = R) (hQ : ∀ μ', (if R.1 = 0 then bt_Go μ' μ t n R.2.1 ∧ fo_W μ' μ s c R H else μ' 1 3 = R.1) → fo_F μ' μ → Q (some (.inl (if R.1 = 0 then 1 else 0))) (bt_wd ρ μ')) : fo_Sp P d H [.inr (.inr 6), .inl (d : Int)] (bt_wd ρ μ) Q := by
  subst hR
  exact ⟨ρ, μ, t, n, al, c, s, rfl, rfl, hρ, hp, hc, hs, hsc, hal, hal2, hQ⟩
theorem fo_te_eq {t : Nat → Int} {n c : Nat} {pt : fo_P} {r u : fo_R} (hr : fo_su t n pt c = r) (hu : fo_su t n pt (tk_nx t n r.2.1) = u) : fo_te t n pt c = if r.1 = 0 ∧ fo_opC t n r.2.1 ≠ 0 then (if u.1 = 0 then (0, u.2.1, fun F => fo_jn (fo_opC t n r.2.1) (r.2.2 F) (u.2.2 F)) else u) else r := by
  subst hu; subst hr; rfl
