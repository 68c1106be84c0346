/-! Weather: draws and years -/
theorem bt_jn (n : Nat) : bt_j (n : Int) = lN n := by
  apply Int64.toInt_inj.mp
  simp [bt_j, lN]
theorem bo_lrem_nat {a b : Nat} (ha : a < 2 ^ 63) (h0 : 0 < b) (hb : b < 2 ^ 63) : bo_lrem (a : Int) (b : Int) = ((a % b : Nat) : Int) := by
  unfold bo_lrem
  rw [bt_jn, bt_jn, pk_lRem ha h0 hb, pk_lT (Nat.lt_of_le_of_lt (Nat.mod_le _ _) ha)]
theorem bo_ldiv_nat {a b : Nat} (ha : a < 2 ^ 63) (h0 : 0 < b) (hb : b < 2 ^ 63) : bo_ldiv (a : Int) (b : Int) = ((a / b : Nat) : Int) := by
  unfold bo_ldiv
  rw [bt_jn, bt_jn, pk_lDiv ha h0 hb, pk_lT (Nat.lt_of_le_of_lt (Nat.div_le_self _ _) ha)]
theorem bo_i2l_nat {n : Nat} (h : n < 2 ^ 31) : bo_i2l (n : Int) = (n : Int) := by
  unfold bo_i2l
  rw [bt_in, nI_l h, lN_toInt h]
theorem bo_l2i_nat {n : Nat} (h : n < 2 ^ 31) : bo_l2i (n : Int) = (n : Int) := by
  unfold bo_l2i
  rw [bt_jn, lN_i, nI_toInt h]
def ab_dr (x : Nat) : Nat := (x * 1103515245 + 12345) % 2147483648
theorem ab_dr_lt (x : Nat) : ab_dr x < 2147483648 := Nat.mod_lt _ (by decide)
def SpX8_draw : bt_Sp := fun As w Q => ∃ (ρ : Nat → Nat → Option Nat) (μ : Nat → Nat → Int) (x m : Nat), As = [.inr (.inr 36), .inl (m : Int)] ∧ w = bt_wd ρ μ ∧ bt_Rf ρ ∧ μ 36 4 = (x : Int) ∧ x < 2147483648 ∧ 0 < m ∧ m < 1000 ∧ Q (some (.inl ((ab_dr x / 65536 % m : Nat) : Int))) (bt_wd ρ (bt_up μ 36 4 (ab_dr x)))
set_option maxHeartbeats 4000000 in
theorem mtX8_draw : bt_Met yX8_draw cX8_draw 2 (some .int) 1 [2, 0] SpX8_draw := by
  refine bt_metW (lfX8_draw) (fun As w Q _ hS => ?_)
  obtain ⟨ρ, μ, x, m, rfl, rfl, hρ, hx, hx2, hm0, hm, hQ⟩ := hS
  have h1 := ab_dr_lt x
  have e1 : bo_lrem ((x : Int) * 1103515245 + 12345) 2147483648 = (ab_dr x : Int) := by
    have := bo_lrem_nat (a := x * 1103515245 + 12345) (b := 2147483648) (by omega) (by omega) (by omega)
    rw [Int.natCast_add, Int.natCast_mul] at this
    exact this
  have e2 : bo_ldiv (ab_dr x : Int) 65536 = ((ab_dr x / 65536 : Nat) : Int) := bo_ldiv_nat (a := ab_dr x) (b := 65536) (by omega) (by omega) (by omega)
  have e3 : bo_lrem ((ab_dr x / 65536 : Nat) : Int) (m : Int) = ((ab_dr x / 65536 % m : Nat) : Int) := bo_lrem_nat (by omega) (by omega) (by omega)
  have h4 : ab_dr x / 65536 % m < m := Nat.mod_lt _ hm0
  simp (disch := omega) only [tX8_draw_0, tX8_draw_40, bt_ild, bt_lld, bt_ald, bt_ist, bt_lst, bt_ast, bt_inc, bt_ic, bt_lc, bt_iadd, bt_isub, bt_imul, bt_iand, bt_ior, bt_ixor, bt_ishl, bt_ishr, bt_iushr, bt_ladd, bt_lsub, bt_lmul, bt_land, bt_lor, bt_lushr, bt_lshl, bt_idiv, bt_irem, bt_ldiv, bt_lrem, bt_lcmp, bt_i2l, bt_l2i, bt_i2b, bt_pop, bt_dup, bt_dup2, bt_gfI, bt_gfJ, bt_gfR, bt_pfI, bt_pfZ, bt_pfJ, bt_pfR, bt_ial, bt_bal, bt_zal, bt_lal, bt_aal, bt_ias, bt_bas, bt_zas, bt_las, bt_len, bt_iret, bt_zret, bt_lret, bt_vret, bt_cV, bt_cS, bt_tab, bt_tsw, bt_lk, bt_lsw, bt_acp, bt_mmax, bt_mmin, bt_can, bt_icmpeq, bt_ifeq, bt_icmpne, bt_ifne, bt_icmplt, bt_iflt, bt_icmpge, bt_ifge, bt_icmpgt, bt_ifgt, bt_icmple, bt_ifle, bt_ret, bt_kill, bt_kl, bt_ix, bt_nl, bt_sm, bt_sr, bt_sig, bt_tg, bt_loc, bt_locs, List.getElem?_cons_zero, List.getElem?_cons_succ, List.set_cons_zero, List.set_cons_succ, List.map_cons, List.map_nil, List.take_succ_cons, List.take_zero, List.drop_succ_cons, List.drop_zero, List.reverse_cons, List.reverse_nil, List.nil_append, List.cons_append, List.append_nil, List.length_cons, List.length_nil, List.replicate_succ, List.replicate_zero, Option.toList_some, Option.toList_none, Nat.reduceAdd, Nat.reduceSub, Nat.reduceLeDiff, Nat.zero_add, Nat.zero_le, true_and, and_true, Int.toNat_natCast, Sum.inl.injEq, Sum.inr.injEq, ↓reduceIte, Nat.reduceEqDiff, sh_36, hx, e1, bt_up_same, bt_w_id, bt_wl_id, e2, bo_i2l_nat, e3, bo_l2i_nat]
  refine ⟨by omega, by omega, by omega, ?_⟩
  rw [if_neg (by omega)]
  exact ⟨by omega, by omega, by omega, hQ⟩
def SpX10_lineOf : bt_Sp := fun As w Q => tX10_lineOf_0 bt_k0 Q [] (bt_loc 3 As) w
theorem mtX10_lineOf : bt_Met yX10_lineOf cX10_lineOf 3 (some .int) 1 [0, 0, 0] SpX10_lineOf := lfX10_lineOf
theorem ab_line_call {v g p : Nat} {w : bt_W} {Q : Option bt_V → bt_W → Prop} (h : Q (some (.inl ((v + 4 * g + 32 * p : Nat) : Int))) w) : SpX10_lineOf [.inl (v : Int), .inl (g : Int), .inl (p : Int)] w Q := by
  simp (disch := omega) only [SpX10_lineOf, tX10_lineOf_0, bt_ild, bt_lld, bt_ald, bt_ist, bt_lst, bt_ast, bt_inc, bt_ic, bt_lc, bt_iadd, bt_isub, bt_imul, bt_iand, bt_ior, bt_ixor, bt_ishl, bt_ishr, bt_iushr, bt_ladd, bt_lsub, bt_lmul, bt_land, bt_lor, bt_lushr, bt_lshl, bt_idiv, bt_irem, bt_ldiv, bt_lrem, bt_lcmp, bt_i2l, bt_l2i, bt_i2b, bt_pop, bt_dup, bt_dup2, bt_gfI, bt_gfJ, bt_gfR, bt_pfI, bt_pfZ, bt_pfJ, bt_pfR, bt_ial, bt_bal, bt_zal, bt_lal, bt_aal, bt_ias, bt_bas, bt_zas, bt_las, bt_len, bt_iret, bt_zret, bt_lret, bt_vret, bt_cV, bt_cS, bt_tab, bt_tsw, bt_lk, bt_lsw, bt_acp, bt_mmax, bt_mmin, bt_can, bt_icmpeq, bt_ifeq, bt_icmpne, bt_ifne, bt_icmplt, bt_iflt, bt_icmpge, bt_ifge, bt_icmpgt, bt_ifgt, bt_icmple, bt_ifle, bt_ret, bt_kill, bt_kl, bt_ix, bt_nl, bt_sm, bt_sr, bt_sig, bt_tg, bt_loc, bt_locs, List.getElem?_cons_zero, List.getElem?_cons_succ, List.set_cons_zero, List.set_cons_succ, List.map_cons, List.map_nil, List.take_succ_cons, List.take_zero, List.drop_succ_cons, List.drop_zero, List.reverse_cons, List.reverse_nil, List.nil_append, List.cons_append, List.append_nil, List.length_cons, List.length_nil, List.replicate_succ, List.replicate_zero, Option.toList_some, Option.toList_none, Nat.reduceAdd, Nat.reduceSub, Nat.reduceLeDiff, Nat.zero_add, Nat.zero_le, true_and, and_true, Int.toNat_natCast, Sum.inl.injEq, Sum.inr.injEq, ↓reduceIte, Nat.reduceEqDiff]
  rw [show (v : Int) + 4 * (g : Int) + 32 * (p : Int) = ((v + 4 * g + 32 * p : Nat) : Int) by omega]
  exact h
/-- an hour of the years: the state, what was drawn last, what is taken and who has paced in all -/
def ab_yh (ζ : Nat → Nat → Int) (q : (Nat → Nat → Int) × Nat × Int × Int) : (Nat → Nat → Int) × Nat × Int × Int :=
  let x1 := ab_dr q.2.1
  let x2 := ab_dr x1
  let σ1 := if 0 < nG ζ ∧ 0 < nP ζ then ab_ob ζ q.1 0 (x1 / 65536 % nG ζ) (x2 / 65536 % nP ζ) else q.1
  let x3 := if 0 < nG ζ ∧ 0 < nP ζ then ab_dr x2 else ab_dr q.2.1
  let dr : Int := if (ζ 0 7).toNat ≤ x3 / 65536 % 10 then 1 else 0
  (ab_ps ζ σ1 dr, x3, q.2.2.1 + ab_tk ζ σ1 dr, q.2.2.2 + (bt_pcn (ab_pc ζ (ab_ps ζ σ1 dr)) 16 : Int))
def ab_ys (ζ σ : Nat → Nat → Int) (seed : Nat) : Nat → (Nat → Nat → Int) × Nat × Int × Int
  | 0 => (σ, seed, 0, 0)
  | n + 1 => ab_yh ζ (ab_ys ζ σ seed n)
theorem ab_cyh {ζ ζ' : Nat → Nat → Int} (hz : ab_zq ζ ζ') (hZ : ab_Z ζ) {q q' : (Nat → Nat → Int) × Nat × Int × Int} (hs : ab_sq ζ q.1 q'.1) (hS : ab_S ζ q.1) (h2 : q.2 = q'.2) : ab_sq ζ (ab_yh ζ q).1 (ab_yh ζ' q').1 ∧ ab_S ζ (ab_yh ζ q).1 ∧ (ab_yh ζ q).2 = (ab_yh ζ' q').2 := by
  obtain ⟨n1, n2, n3⟩ := hz.n
  obtain ⟨σ, r⟩ := q
  obtain ⟨σ', r'⟩ := q'
  dsimp only at hs hS h2
  subst h2
  have hs1 : ab_sq ζ (if 0 < nG ζ ∧ 0 < nP ζ then ab_ob ζ σ 0 (ab_dr r.1 / 65536 % nG ζ) (ab_dr (ab_dr r.1) / 65536 % nP ζ) else σ) (if 0 < nG ζ ∧ 0 < nP ζ then ab_ob ζ' σ' 0 (ab_dr r.1 / 65536 % nG ζ) (ab_dr (ab_dr r.1) / 65536 % nP ζ) else σ') := by
    split
    · exact ab_cob hz hs hZ hS _ _ _
    · exact hs
  have hS1 : ab_S ζ (if 0 < nG ζ ∧ 0 < nP ζ then ab_ob ζ σ 0 (ab_dr r.1 / 65536 % nG ζ) (ab_dr (ab_dr r.1) / 65536 % nP ζ) else σ) := by
    split
    · exact ab_Sob hZ hS _ _ _
    · exact hS
  unfold ab_yh
  simp only [← n1, ← n3, ← hz.1 7 (by omega)]
  refine ⟨ab_cps hz hs1 hZ hS1 _, ab_Sps hZ hS1 _, ?_⟩
  rw [ab_ctk hz hs1 hZ hS1 _, ab_cpc hz (ab_cps hz hs1 hZ hS1 _)]
theorem ab_cys {ζ ζ' : Nat → Nat → Int} (hz : ab_zq ζ ζ') (hZ : ab_Z ζ) {σ σ' : Nat → Nat → Int} (hs : ab_sq ζ σ σ') (hS : ab_S ζ σ) (seed : Nat) : ∀ n, ab_sq ζ (ab_ys ζ σ seed n).1 (ab_ys ζ' σ' seed n).1 ∧ ab_S ζ (ab_ys ζ σ seed n).1 ∧ (ab_ys ζ σ seed n).2 = (ab_ys ζ' σ' seed n).2
  | 0 => ⟨hs, hS, rfl⟩
  | n + 1 => by
    obtain ⟨h1, h2, h3⟩ := ab_cys hz hZ hs hS seed n
    exact ab_cyh hz hZ h1 h2 h3
