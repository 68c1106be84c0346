/-! Tape's constructor: the words out of the String constant -/
theorem ar_byte : Cond.arrayClass (newarray.typeOf .byte) ∈ bt_tb := bt_m 130 (by decide +kernel) rfl
theorem ob_X7_3 : Cond.methodLink RX7 3 Lib.objectInit ∈ bt_tb ∧ Cond.instanceMethod Lib.objectInit ∈ bt_tb ∧ Cond.code Lib.objectInit ⟨#[0xb1]⟩ 1 none ∈ bt_tb := ⟨bt_m 37 (by decide +kernel) rfl, bt_m 30 (by decide +kernel) rfl, bt_m 31 (by decide +kernel) rfl⟩
def tX7_init_25 (κ : bt_K) (Q : Option bt_V → bt_W → Prop) : bt_K := bt_ild 2 (bt_sln (bt_icmpge (bt_vret Q) (bt_ild 1 (bt_ic 30 (bt_icmpge (bt_vret Q) (bt_sch (bt_ist 3 (bt_ild 3 (bt_ic 32 (bt_icmpne (bt_ald 0 (bt_gfR 7 1 (bt_ild 1 (bt_ald 0 (bt_gfR 7 1 (bt_ild 1 (bt_lal (bt_ild 3 (bt_cS 2 [1, 0] SpX7_longer (bt_las (bt_inc 2 1 κ))))))))))) (bt_inc 1 1 (bt_inc 2 1 κ))))))))))))
def tX7_init_0 (N : Nat) (K : bt_K) : bt_K := bt_ald 0 (bt_obj (bt_ald 0 (bt_ic 1000 (bt_newa 12 1000 N (bt_pfR 7 0 (bt_ald 0 (bt_ic 30 (bt_newa 14 30 (N + 1) (bt_pfR 7 1 (bt_ic 0 (bt_ist 1 (bt_ic 0 (bt_ist 2 K)))))))))))))
set_option maxHeartbeats 4000000 in
theorem sX7_init_25 {X : bt_X} {κ : bt_K} {Q : Option bt_V → bt_W → Prop} (hX : bt_Ow X cX7_init 4 RX7 (bt_rw 20 2 1030)) (hR : bt_Rt X (2, 1030) none Q) (hκ : bt_Snd X 4 (2, 1030) 25 κ) : bt_Snd X 4 (2, 1030) 25 (tX7_init_25 κ Q) := by
  have r81 : bt_Snd X 4 (2, 1030) 81 (bt_vret Q) := bw_vret hX dX7_init_81 hR
  have r75 : bt_Snd X 4 (2, 1030) 75 (bt_inc 2 1 κ) := bw_iinc hX dX7_init_75 (by decide) (bw_goto hX dX7_init_78 (tgt := 25) rfl hκ)
  have r59 : bt_Snd X 4 (2, 1030) 59 (bt_ald 0 (bt_gfR 7 1 (bt_ild 1 (bt_ald 0 (bt_gfR 7 1 (bt_ild 1 (bt_lal (bt_ild 3 (bt_cS 2 [1, 0] SpX7_longer (bt_las (bt_inc 2 1 κ))))))))))) := bw_ald_n hX dX7_init_59 rfl (bw_gfR hX dX7_init_60 fl_X7_15 rfl (bw_ild_n hX dX7_init_63 rfl (bw_ald_n hX dX7_init_64 rfl (bw_gfR hX dX7_init_65 fl_X7_15 rfl (bw_ild_n hX dX7_init_68 rfl (bw_lal hX dX7_init_69 (bw_ild_n hX dX7_init_70 rfl (bw_cS hX dX7_init_71 mtX7_longer cs_X7_31 ⟨⟨Nat.le_of_ble_eq_true rfl, Nat.le_of_ble_eq_true rfl⟩, by decide, rfl, Nat.le_of_ble_eq_true rfl, Nat.le_of_ble_eq_true rfl⟩ (bw_las hX dX7_init_74 r75)))))))))
  unfold tX7_init_25
  exact bw_ild_n hX dX7_init_25 rfl (bw_sln hX dX7_init_26 dX7_init_28 ⟨Nat.le_of_ble_eq_true rfl, Nat.le_of_ble_eq_true rfl, Nat.le_of_ble_eq_true rfl, Nat.le_of_ble_eq_true rfl⟩ (bw_icmpge hX dX7_init_31 (tgt := 81) rfl r81 (bw_ild_n hX dX7_init_34 rfl (bw_bipush hX dX7_init_35 (by decide) (bw_icmpge hX dX7_init_37 (tgt := 81) rfl r81 (bw_sch hX dX7_init_40 dX7_init_42 dX7_init_43 ⟨Nat.le_of_ble_eq_true rfl, Nat.le_of_ble_eq_true rfl, Nat.le_of_ble_eq_true rfl, Nat.le_of_ble_eq_true rfl⟩ (bw_ist_n hX dX7_init_46 rfl (by decide) (bw_ild_n hX dX7_init_47 rfl (bw_bipush hX dX7_init_48 (by decide) (bw_icmpne hX dX7_init_50 (tgt := 59) rfl r59 (bw_iinc hX dX7_init_53 (by decide) (bw_goto hX dX7_init_56 (tgt := 75) rfl r75))))))))))))
set_option maxHeartbeats 4000000 in
theorem sX7_init_0 {X : bt_X} {N n0 : Nat} {K : bt_K} (hX : bt_Ow X cX7_init 4 RX7 (bt_rw 20 2 1030)) (hT : bt_Tl X n0) (hI : bt_In X) (hN : N = n0 + 0) (hlt : N + 2 ≤ 262) (h25 : bt_Snd X 4 (2, 1030) 25 K) : bt_Snd X 4 (0, 0) 0 (tX7_init_0 N K) := by
  unfold tX7_init_0
  have hrw : (bt_rw 20 2 1030).cells = 2 ∧ (bt_rw 20 2 1030).slots = 1030 := ⟨rfl, rfl⟩
  exact bw_ald_n hX dX7_init_0 rfl (bw_obj hX dX7_init_1 ob_X7_3 ⟨(Nat.le_of_ble_eq_true rfl), (Nat.le_of_ble_eq_true rfl)⟩ (bw_ald_n hX dX7_init_4 rfl (bw_sipush hX dX7_init_5 (by decide) (bw_newa hX hT dX7_init_8 (by unfold bt_ak; decide) ar_byte (by decide) (by first | omega | (dsimp only; omega)) (by omega) (by refine ⟨?_, ?_⟩ <;> first | omega | (dsimp only; omega)) (bw_pfF hX hI dX7_init_10 fl_X7_9 (Or.inr ⟨_, rfl⟩) (fun q hq => by cases hq; exact ⟨rfl, rfl⟩) (bw_ald_n hX dX7_init_13 rfl (bw_bipush hX dX7_init_14 (by decide) (bw_newa hX hT dX7_init_16 (by unfold bt_ak; decide) ar_long (by decide) (by first | omega | (dsimp only; omega)) (by omega) (by refine ⟨?_, ?_⟩ <;> first | omega | (dsimp only; omega)) (bw_pfF hX hI dX7_init_18 fl_X7_15 (Or.inr ⟨_, rfl⟩) (fun q hq => by cases hq; exact ⟨rfl, rfl⟩) (bw_iconst hX dX7_init_21 (bw_ist_n hX dX7_init_22 rfl (by decide) (bw_iconst hX dX7_init_23 (bw_ist_n hX dX7_init_24 rfl (by decide) h25)))))))))))))
/-- behind i signs: how many words are whole, and what stands of the next -/
def bt_jl : List Nat := [0, 0, 0, 0, 1, 1, 1, 1, 1, 1, 2, 2, 2, 2, 2, 3, 3, 3, 3, 3, 3, 4, 4, 4, 4, 4, 5, 5, 5, 6, 6, 6, 6, 6, 6, 6, 7, 7, 7, 7, 7, 7, 8, 8, 8, 8, 8, 8, 9, 9, 9, 9, 10, 10, 10, 10, 10, 10, 11, 11, 11, 11, 11, 12, 12, 12, 12, 12, 12, 13, 13, 13, 13, 13, 14, 14, 14, 14, 14, 15, 15, 15, 15, 15, 15, 16, 16, 16, 16, 16, 17, 17, 17, 17, 17, 18, 18, 18, 18, 18, 18, 19, 19, 19, 19, 19, 20, 20, 20, 20, 21, 21, 21, 21, 21, 21, 21, 22, 22, 22, 22, 23, 23, 23, 23, 24, 24, 24, 25, 25, 25, 25, 25, 25, 26, 26, 26, 26, 26, 26, 26, 27, 27, 27, 27, 27, 27, 27, 28, 28, 28, 28, 28, 28, 28, 28, 29, 29, 29, 29, 30]
def bt_vl : List Int := [0, 16, 437, 11813, 0, 19, 518, 13987, 377669, 10197082, 0, 16, 433, 11711, 316205, 0, 7, 210, 5675, 153244, 4137608, 0, 13, 366, 9897, 267223, 0, 9, 257, 0, 1, 41, 1116, 30145, 813916, 21975744, 0, 12, 333, 9002, 243059, 6562612, 0, 3, 96, 2601, 70241, 1896526, 0, 6, 177, 4784, 0, 6, 167, 4514, 121882, 3290833, 0, 20, 565, 15273, 412376, 0, 3, 96, 2611, 70517, 1903978, 0, 18, 487, 13158, 355280, 0, 19, 518, 13991, 377776, 0, 13, 366, 9897, 267223, 7215040, 0, 13, 366, 9904, 267413, 0, 8, 231, 6258, 168984, 0, 16, 444, 11989, 323712, 8740238, 0, 16, 447, 12074, 326018, 0, 2, 69, 1888, 0, 19, 522, 14108, 380923, 10284933, 277693196, 0, 14, 393, 10631, 0, 1, 41, 1111, 0, 15, 423, 0, 12, 333, 9002, 243059, 6562597, 0, 8, 237, 6412, 173139, 4674774, 126218916, 0, 15, 425, 11483, 310046, 8371260, 226024039, 0, 23, 622, 16814, 453981, 12257495, 330952370, 8935713994, 0, 6, 167, 4513, 0]
def bt_wj (i : Nat) : Nat := bt_jl.getD i 0
def bt_wv (i : Nat) : Int := bt_vl.getD i 0
def bt_wx (i k : Nat) : Int := if k < bt_wj i then tw k else if k = bt_wj i then bt_wv i else 0
theorem bt_wf : ∀ i, i < 160 → bt_wj i < 30 ∧ ((bt_chr i = 32 ∧ bt_wj (i + 1) = bt_wj i + 1 ∧ bt_wv i = tw (bt_wj i) ∧ bt_wv (i + 1) = 0) ∨ ((97 ≤ bt_chr i ∧ bt_chr i ≤ 122) ∧ bt_wj (i + 1) = bt_wj i ∧ bt_wv (i + 1) = bt_wv i * 27 + (bt_chr i - 96))) := by decide +kernel
theorem bt_wx_0 (k : Nat) : bt_wx 0 k = 0 := by
  unfold bt_wx
  rw [show bt_wj 0 = 0 from rfl, show bt_wv 0 = 0 from rfl, if_neg (by omega)]
  split <;> rfl
theorem bt_wx_e {k : Nat} (hk : k < 30) : bt_wx 160 k = tw k := by
  unfold bt_wx
  rw [show bt_wj 160 = 30 from by decide +kernel, if_pos hk]
theorem bt_wx_s {i : Nat} (h1 : bt_wj (i + 1) = bt_wj i + 1) (h2 : bt_wv i = tw (bt_wj i)) (h3 : bt_wv (i + 1) = 0) (k : Nat) : bt_wx (i + 1) k = bt_wx i k := by
  unfold bt_wx
  rw [h1, h3]
  by_cases e1 : k < bt_wj i
  · rw [if_pos (by omega), if_pos e1]
  · rw [if_neg e1]
    by_cases e2 : k = bt_wj i
    · rw [if_pos (by omega), if_pos e2, h2, e2]
    · rw [if_neg (by omega), if_neg e2]
      split <;> rfl
theorem bt_wx_l {i : Nat} (h1 : bt_wj (i + 1) = bt_wj i) (k : Nat) : bt_wx (i + 1) k = if k = bt_wj i then bt_wv (i + 1) else bt_wx i k := by
  unfold bt_wx
  rw [h1]
  by_cases e2 : k = bt_wj i
  · rw [if_neg (by omega), if_pos e2, if_pos e2]
  · rw [if_neg e2]
    split <;> rfl
def bt_wm (s : Nat) (μ : Nat → Nat → Int) (i : Nat) : Nat → Nat → Int := fun a k => if a = s + 2 ∧ k < 30 then bt_wx i k else μ a k
def iX7_init (s : Nat) (ρ : Nat → Nat → Option Nat) (μ : Nat → Nat → Int) : Nat → Nat → bt_K := fun _ n st L w => ∃ (i : Nat) (c : Option bt_V), i ≤ 160 ∧ n = 160 - i ∧ st = [] ∧ L = [some (.inr (.inr s)), some (.inl (bt_wj i : Int)), some (.inl (i : Int)), c] ∧ w = bt_wn (s + 3) (bt_g7 s ρ) (bt_wm s μ i)
theorem bt_wm_s {s i : Nat} {μ : Nat → Nat → Int} (h1 : bt_wj (i + 1) = bt_wj i + 1) (h2 : bt_wv i = tw (bt_wj i)) (h3 : bt_wv (i + 1) = 0) : bt_wm s μ (i + 1) = bt_wm s μ i := by
  funext a k
  unfold bt_wm
  rw [bt_wx_s h1 h2 h3]
theorem bt_wm_l {s i : Nat} {μ : Nat → Nat → Int} (h0 : bt_wj i < 30) (h1 : bt_wj (i + 1) = bt_wj i) : bt_wm s μ (i + 1) = bt_up (bt_wm s μ i) (s + 2) (bt_wj i) (bt_wv (i + 1)) := by
  funext a k
  unfold bt_wm bt_up
  rw [bt_wx_l h1]
  by_cases e : a = s + 2 ∧ k = bt_wj i
  · rw [if_pos e, if_pos ⟨e.1, by omega⟩, if_pos e.2]
  · rw [if_neg e]
    by_cases e2 : a = s + 2 ∧ k < 30
    · simp only [if_pos e2]
      rw [if_neg (fun q => e ⟨e2.1, q⟩)]
    · simp only [if_neg e2]
theorem bt_wm_at {s i : Nat} {μ : Nat → Nat → Int} (h0 : bt_wj i < 30) : bt_wm s μ i (s + 2) (bt_wj i) = bt_wv i := by
  unfold bt_wm bt_wx
  rw [if_pos ⟨rfl, h0⟩, if_neg (by omega), if_pos rfl]
theorem bt_wm_0 {s : Nat} {ρ : Nat → Nat → Option Nat} {μ : Nat → Nat → Int} (hn : bt_nz (s + 1) ρ μ) : bt_wm s μ 0 = μ := by
  funext a k
  unfold bt_wm
  split
  · next h => rw [bt_wx_0, h.1, (hn (s + 2) (by omega) k).2]
  · rfl
theorem bt_wm_e {s : Nat} {μ : Nat → Nat → Int} : bt_wm s μ 160 = bt_m7 s μ := by
  funext a k
  unfold bt_wm bt_m7
  by_cases e : a = s + 2 ∧ k < 30
  · rw [if_pos e, if_pos e, bt_wx_e e.2]
  · rw [if_neg e, if_neg e]
theorem bt_g7_1 {s : Nat} {ρ : Nat → Nat → Option Nat} : bt_g7 s ρ s 1 = some (s + 2) := by
  unfold bt_g7 bt_ur
  rw [if_pos ⟨rfl, rfl⟩]
set_option maxHeartbeats 4000000 in
theorem iX7_nstep {s : Nat} {ρ : Nat → Nat → Option Nat} {μ : Nat → Nat → Int} {Q : Option bt_V → bt_W → Prop} (h0 : bt_sh0 s = (7, 10)) (h2 : bt_sh0 (s + 2) = (14, 30)) (hq : Q none (bt_wn (s + 3) (bt_g7 s ρ) (bt_m7 s μ))) (n : Nat) (st : List bt_V) (L : List (Option bt_V)) (w : bt_W) (hi : iX7_init s ρ μ 25 n st L w) : tX7_init_25 (fun st L w => ∃ m, m < n ∧ iX7_init s ρ μ 25 m st L w) Q st L w := by
  obtain ⟨i, c, hi, rfl, rfl, rfl, rfl⟩ := hi
  have hr := bt_g7_1 (s := s) (ρ := ρ)
  simp (disch := omega) only [tX7_init_25, bt_sln, bt_ild, bt_lld, bt_ald, bt_ist, bt_lst, bt_ast, bt_inc, bt_ic, bt_lc, bt_iadd, bt_isub, bt_imul, bt_iand, bt_ior, bt_ixor, bt_ishl, bt_ishr, bt_iushr, bt_ladd, bt_lsub, bt_lmul, bt_land, bt_lor, bt_lushr, bt_lshl, bt_idiv, bt_irem, bt_ldiv, bt_lrem, bt_lcmp, bt_i2l, bt_l2i, bt_i2b, bt_pop, bt_dup, bt_dup2, bt_gfI, bt_gfJ, bt_gfR, bt_pfI, bt_pfZ, bt_pfJ, bt_pfR, bt_ial, bt_bal, bt_zal, bt_lal, bt_aal, bt_ias, bt_bas, bt_zas, bt_las, bt_len, bt_iret, bt_zret, bt_lret, bt_vret, bt_cV, bt_cS, bt_tab, bt_tsw, bt_lk, bt_lsw, bt_acp, bt_mmax, bt_mmin, bt_can, bt_icmpeq, bt_ifeq, bt_icmpne, bt_ifne, bt_icmplt, bt_iflt, bt_icmpge, bt_ifge, bt_icmpgt, bt_ifgt, bt_icmple, bt_ifle, bt_ret, bt_kill, bt_kl, bt_ix, bt_nl, bt_sm, bt_sr, bt_sig, bt_tg, bt_loc, bt_locs, List.getElem?_cons_zero, List.getElem?_cons_succ, List.set_cons_zero, List.set_cons_succ, List.map_cons, List.map_nil, List.take_succ_cons, List.take_zero, List.drop_succ_cons, List.drop_zero, List.reverse_cons, List.reverse_nil, List.nil_append, List.cons_append, List.append_nil, List.length_cons, List.length_nil, List.replicate_succ, List.replicate_zero, Option.toList_some, Option.toList_none, Nat.reduceAdd, Nat.reduceSub, Nat.reduceLeDiff, Nat.zero_add, Nat.zero_le, true_and, and_true, Int.toNat_natCast, Sum.inl.injEq, Sum.inr.injEq, ↓reduceIte, Nat.reduceEqDiff, bt_w_id]
  by_cases h160 : i = 160
  · subst h160
    rw [if_pos (by omega), bt_wm_e]
    exact hq
  · obtain ⟨hj, hc⟩ := bt_wf i (by omega)
    rw [if_neg (by omega)]
    simp (disch := omega) only [bt_sch, bt_ild, bt_lld, bt_ald, bt_ist, bt_lst, bt_ast, bt_inc, bt_ic, bt_lc, bt_iadd, bt_isub, bt_imul, bt_iand, bt_ior, bt_ixor, bt_ishl, bt_ishr, bt_iushr, bt_ladd, bt_lsub, bt_lmul, bt_land, bt_lor, bt_lushr, bt_lshl, bt_idiv, bt_irem, bt_ldiv, bt_lrem, bt_lcmp, bt_i2l, bt_l2i, bt_i2b, bt_pop, bt_dup, bt_dup2, bt_gfI, bt_gfJ, bt_gfR, bt_pfI, bt_pfZ, bt_pfJ, bt_pfR, bt_ial, bt_bal, bt_zal, bt_lal, bt_aal, bt_ias, bt_bas, bt_zas, bt_las, bt_len, bt_iret, bt_zret, bt_lret, bt_vret, bt_cV, bt_cS, bt_tab, bt_tsw, bt_lk, bt_lsw, bt_acp, bt_mmax, bt_mmin, bt_can, bt_icmpeq, bt_ifeq, bt_icmpne, bt_ifne, bt_icmplt, bt_iflt, bt_icmpge, bt_ifge, bt_icmpgt, bt_ifgt, bt_icmple, bt_ifle, bt_ret, bt_kill, bt_kl, bt_ix, bt_nl, bt_sm, bt_sr, bt_sig, bt_tg, bt_loc, bt_locs, List.getElem?_cons_zero, List.getElem?_cons_succ, List.set_cons_zero, List.set_cons_succ, List.map_cons, List.map_nil, List.take_succ_cons, List.take_zero, List.drop_succ_cons, List.drop_zero, List.reverse_cons, List.reverse_nil, List.nil_append, List.cons_append, List.append_nil, List.length_cons, List.length_nil, List.replicate_succ, List.replicate_zero, Option.toList_some, Option.toList_none, Nat.reduceAdd, Nat.reduceSub, Nat.reduceLeDiff, Nat.zero_add, Nat.zero_le, true_and, and_true, Int.toNat_natCast, Sum.inl.injEq, Sum.inr.injEq, ↓reduceIte, Nat.reduceEqDiff, bt_w_id]
    rw [if_neg (by omega)]
    rcases hc with ⟨c1, c2, c3, c4⟩ | ⟨⟨c1, c1'⟩, c2, c3⟩
    · simp (disch := omega) only [bt_ild, bt_lld, bt_ald, bt_ist, bt_lst, bt_ast, bt_inc, bt_ic, bt_lc, bt_iadd, bt_isub, bt_imul, bt_iand, bt_ior, bt_ixor, bt_ishl, bt_ishr, bt_iushr, bt_ladd, bt_lsub, bt_lmul, bt_land, bt_lor, bt_lushr, bt_lshl, bt_idiv, bt_irem, bt_ldiv, bt_lrem, bt_lcmp, bt_i2l, bt_l2i, bt_i2b, bt_pop, bt_dup, bt_dup2, bt_gfI, bt_gfJ, bt_gfR, bt_pfI, bt_pfZ, bt_pfJ, bt_pfR, bt_ial, bt_bal, bt_zal, bt_lal, bt_aal, bt_ias, bt_bas, bt_zas, bt_las, bt_len, bt_iret, bt_zret, bt_lret, bt_vret, bt_cV, bt_cS, bt_tab, bt_tsw, bt_lk, bt_lsw, bt_acp, bt_mmax, bt_mmin, bt_can, bt_icmpeq, bt_ifeq, bt_icmpne, bt_ifne, bt_icmplt, bt_iflt, bt_icmpge, bt_ifge, bt_icmpgt, bt_ifgt, bt_icmple, bt_ifle, bt_ret, bt_kill, bt_kl, bt_ix, bt_nl, bt_sm, bt_sr, bt_sig, bt_tg, bt_loc, bt_locs, List.getElem?_cons_zero, List.getElem?_cons_succ, List.set_cons_zero, List.set_cons_succ, List.map_cons, List.map_nil, List.take_succ_cons, List.take_zero, List.drop_succ_cons, List.drop_zero, List.reverse_cons, List.reverse_nil, List.nil_append, List.cons_append, List.append_nil, List.length_cons, List.length_nil, List.replicate_succ, List.replicate_zero, Option.toList_some, Option.toList_none, Nat.reduceAdd, Nat.reduceSub, Nat.reduceLeDiff, Nat.zero_add, Nat.zero_le, true_and, and_true, Int.toNat_natCast, Sum.inl.injEq, Sum.inr.injEq, ↓reduceIte, Nat.reduceEqDiff, bt_w_id, c1]
      refine ⟨⟨by omega, by omega⟩, 160 - (i + 1), by omega, i + 1, some (.inl 32), by omega, rfl, rfl, ?_, ?_⟩
      · rw [c2]
        rfl
      · rw [bt_wm_s c2 c3 c4]
    · have ei : bo_i2l (bt_chr i - 97 + 1) = bt_chr i - 96 := by
        obtain ⟨x, hx⟩ : ∃ x : Nat, bt_chr i - 97 + 1 = (x : Int) := ⟨(bt_chr i - 96).toNat, by omega⟩
        rw [hx, bo_i2l_nat (by omega)]
        omega
      rw [if_neg (by omega)]
      simp (disch := omega) only [bt_ild, bt_lld, bt_ald, bt_ist, bt_lst, bt_ast, bt_inc, bt_ic, bt_lc, bt_iadd, bt_isub, bt_imul, bt_iand, bt_ior, bt_ixor, bt_ishl, bt_ishr, bt_iushr, bt_ladd, bt_lsub, bt_lmul, bt_land, bt_lor, bt_lushr, bt_lshl, bt_idiv, bt_irem, bt_ldiv, bt_lrem, bt_lcmp, bt_i2l, bt_l2i, bt_i2b, bt_pop, bt_dup, bt_dup2, bt_gfI, bt_gfJ, bt_gfR, bt_pfI, bt_pfZ, bt_pfJ, bt_pfR, bt_ial, bt_bal, bt_zal, bt_lal, bt_aal, bt_ias, bt_bas, bt_zas, bt_las, bt_len, bt_iret, bt_zret, bt_lret, bt_vret, bt_cV, bt_cS, bt_tab, bt_tsw, bt_lk, bt_lsw, bt_acp, bt_mmax, bt_mmin, bt_can, bt_icmpeq, bt_ifeq, bt_icmpne, bt_ifne, bt_icmplt, bt_iflt, bt_icmpge, bt_ifge, bt_icmpgt, bt_ifgt, bt_icmple, bt_ifle, bt_ret, bt_kill, bt_kl, bt_ix, bt_nl, bt_sm, bt_sr, bt_sig, bt_tg, bt_loc, bt_locs, List.getElem?_cons_zero, List.getElem?_cons_succ, List.set_cons_zero, List.set_cons_succ, List.map_cons, List.map_nil, List.take_succ_cons, List.take_zero, List.drop_succ_cons, List.drop_zero, List.reverse_cons, List.reverse_nil, List.nil_append, List.cons_append, List.append_nil, List.length_cons, List.length_nil, List.replicate_succ, List.replicate_zero, Option.toList_some, Option.toList_none, Nat.reduceAdd, Nat.reduceSub, Nat.reduceLeDiff, Nat.zero_add, Nat.zero_le, true_and, and_true, Int.toNat_natCast, Sum.inl.injEq, Sum.inr.injEq, ↓reduceIte, Nat.reduceEqDiff, SpX7_longer, tX7_longer_0, h0, h2, hr, bt_w_id, ei, bt_wm_at hj]
      refine ⟨⟨by omega, by omega⟩, ?_⟩
      repeat (refine And.intro (by omega) ?_)
      refine ⟨160 - (i + 1), by omega, i + 1, some (.inl (bt_chr i)), by omega, rfl, rfl, ?_, ?_⟩
      · rw [c2]
        rfl
      · rw [bt_wm_l hj c2, c3]
set_option maxHeartbeats 4000000 in
theorem ctX7_init : bt_Cet yX7_init cX7_init 4 20 [2] 2 1030 SpX7_init := by
  refine bt_cet (by decide) rfl (by decide) (fun X As w Q hsig hSp hX hT hI hR => ?_)
  obtain ⟨s, ρ, μ, rfl, rfl, hb, hsh, hn, hq⟩ := hSp
  have h0 : bt_sh0 s = (7, 10) := hsh 0 (by decide)
  have h1 : bt_sh0 (s + 1) = (12, 1000) := hsh 1 (by decide)
  have h2 : bt_sh0 (s + 2) = (14, 30) := hsh 2 (by decide)
  have hnz : bt_nz (s + 1 + 2) (bt_g7 s ρ) (bt_m7 s μ) := by
    intro a ha k
    unfold bt_g7 bt_ur bt_m7
    rw [if_neg (by omega), if_neg (by omega), if_neg (by omega)]
    exact hn a (by omega) k
  have hs := bt_heads (X := X) (nL := 4) (cs := (2, 1030)) [25] (iX7_init s ρ μ) (fun h κ => tX7_init_25 (κ 25) Q) (fun h hh κ hκ => by
    simp only [List.mem_cons, List.not_mem_nil, or_false] at hh
    subst hh
    exact sX7_init_25 hX hR (hκ 25 (by simp))) (fun h hh n st L w hi => by
    simp only [List.mem_cons, List.not_mem_nil, or_false] at hh
    subst hh
    exact iX7_nstep h0 h2 (hq hnz) n st L w hi)
  refine ⟨_, sX7_init_0 (N := s + 1) (n0 := s + 1) hX hT hI rfl (by omega) (hs 25 (by simp)), ?_⟩
  unfold tX7_init_0
  refine mk_o rfl ?_
  refine mk_arr (s := s) (n := 1000) rfl (by omega) (by rw [h0]) h1 hn (fun hn1 => ?_)
  refine mk_arr (s := s) (n := 30) rfl (by omega) (by rw [h0]) h2 hn1 (fun hn2 => ?_)
  simp (disch := omega) only [bt_ild, bt_lld, bt_ald, bt_ist, bt_lst, bt_ast, bt_inc, bt_ic, bt_lc, bt_iadd, bt_isub, bt_imul, bt_iand, bt_ior, bt_ixor, bt_ishl, bt_ishr, bt_iushr, bt_ladd, bt_lsub, bt_lmul, bt_land, bt_lor, bt_lushr, bt_lshl, bt_idiv, bt_irem, bt_ldiv, bt_lrem, bt_lcmp, bt_i2l, bt_l2i, bt_i2b, bt_pop, bt_dup, bt_dup2, bt_gfI, bt_gfJ, bt_gfR, bt_pfI, bt_pfZ, bt_pfJ, bt_pfR, bt_ial, bt_bal, bt_zal, bt_lal, bt_aal, bt_ias, bt_bas, bt_zas, bt_las, bt_len, bt_iret, bt_zret, bt_lret, bt_vret, bt_cV, bt_cS, bt_tab, bt_tsw, bt_lk, bt_lsw, bt_acp, bt_mmax, bt_mmin, bt_can, bt_icmpeq, bt_ifeq, bt_icmpne, bt_ifne, bt_icmplt, bt_iflt, bt_icmpge, bt_ifge, bt_icmpgt, bt_ifgt, bt_icmple, bt_ifle, bt_ret, bt_kill, bt_kl, bt_ix, bt_nl, bt_sm, bt_sr, bt_sig, bt_tg, bt_loc, bt_locs, List.getElem?_cons_zero, List.getElem?_cons_succ, List.set_cons_zero, List.set_cons_succ, List.map_cons, List.map_nil, List.take_succ_cons, List.take_zero, List.drop_succ_cons, List.drop_zero, List.reverse_cons, List.reverse_nil, List.nil_append, List.cons_append, List.append_nil, List.length_cons, List.length_nil, List.replicate_succ, List.replicate_zero, Option.toList_some, Option.toList_none, Nat.reduceAdd, Nat.reduceSub, Nat.reduceLeDiff, Nat.zero_add, Nat.zero_le, true_and, and_true, Int.toNat_natCast, Sum.inl.injEq, Sum.inr.injEq, ↓reduceIte, Nat.reduceEqDiff]
  refine ⟨160, 0, none, by omega, rfl, rfl, rfl, ?_⟩
  rw [bt_wm_0 hn]
  rfl
/-- BearTickets' constructor, with nothing left to ask -/
theorem ctX10_new : bt_Cet yX10_init cX10_init 2 100 [2] 204 7001 SpX10_init := ctX10_init ctX7_init
