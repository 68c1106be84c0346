/-! Weather's constructor -/
def bt_l8 : List (Nat × Nat) := (8, 5) :: bt_l1 ++ (17, 6) :: bt_l6 ++ bt_l6 ++ bt_l6 ++ bt_l6 ++ bt_l6 ++ bt_l6
def bt_g8 (s : Nat) (ρ : Nat → Nat → Option Nat) : Nat → Nat → Option Nat := bt_gL bt_g6 (s + 10) 4 6 0 (s + 11) (bt_ur (bt_ur (bt_g1 (s + 1) ρ) s 0 (s + 1)) s 1 (s + 10))
def bt_m8 (s : Nat) (μ : Nat → Nat → Int) : Nat → Nat → Int := bt_mL bt_m6 4 6 (s + 11) (bt_m1 (s + 1) μ)
def SpX8_init : bt_Sp := bt_SpC 34 bt_l8 bt_g8 bt_m8
theorem bt_shs_6 {N : Nat} (h : bt_shs N bt_l6) : (bt_sh0 N).1 = 6 := congrArg Prod.fst (h 0 (by decide))
theorem bt_shs_2 {N : Nat} (h : bt_shs N bt_l2) : (bt_sh0 N).1 = 2 := congrArg Prod.fst (h 0 (by decide))
theorem bt_g6_o {N s f : Nat} {ρ : Nat → Nat → Option Nat} (h : s < N) : bt_g6 N ρ s f = ρ s f := by
  simp only [bt_g6, bt_ur]
  rw [if_neg (by omega), if_neg (by omega), if_neg (by omega)]
theorem bt_g2_o {N s f : Nat} {ρ : Nat → Nat → Option Nat} (h : s < N) : bt_g2 N ρ s f = ρ s f := by
  simp only [bt_g2, bt_ur]
  rw [if_neg (by omega), if_neg (by omega), bt_g6_o (by omega)]
set_option maxHeartbeats 4000000 in
theorem ctX8_init : bt_Cet yX8_init cX8_init 2 4 [2] 34 211 SpX8_init := by
  refine bt_cet (by decide) rfl (by decide) (fun X As w Q hsig hSp hX hT hI hR => ?_)
  obtain ⟨s, ρ, μ, rfl, rfl, hb, hsh, hn, hq⟩ := hSp
  refine ⟨_, sX8_init_0 (N := s + 1) (n0 := s + 1) hX hT hI ctX1_init ctX6_init (by omega) (by omega) (loX8_init_26 hX hT hI ctX1_init ctX6_init (sX8_init_51 (N := s + 35) (n0 := s + 1) hX hT hI ctX1_init ctX6_init (by omega) (by omega) hR) 6 (10, 79) (s + 11) rfl (by decide) (by decide) (by omega)), ?_⟩
  unfold tX8_init_0
  refine mk_o rfl ?_
  refine mk_obj (s := s) rfl (by omega) (congrArg Prod.fst (hsh 0 (by decide))) (congrArg Prod.fst (hsh 1 (by decide))) (by omega) (bt_shs_sub hsh 1 (by decide)) hn (fun hn => ?_)
  refine mk_arr (s := s) rfl (by omega) (congrArg Prod.fst (hsh 0 (by decide))) (hsh 10 (by decide)) hn (fun hn => ?_)
  simp only [bt_ic, bt_ist, bt_loc, bt_locs, List.getElem?_cons_zero, List.getElem?_cons_succ, List.set_cons_zero, List.set_cons_succ, List.map_cons, List.map_nil, List.take_succ_cons, List.take_zero, List.drop_succ_cons, List.drop_zero, List.reverse_cons, List.reverse_nil, List.nil_append, List.cons_append, List.append_nil, List.length_cons, List.length_nil, List.replicate_succ, List.replicate_zero, Option.toList_some, Option.toList_none, Nat.reduceAdd, Nat.reduceSub, Nat.reduceLeDiff, Nat.zero_add, Nat.zero_le, true_and, and_true, Int.toNat_natCast, Sum.inl.injEq, Sum.inr.injEq, ↓reduceIte, Nat.reduceEqDiff]
  refine ⟨by simp [bt_nl], ?_⟩
  exact mk_loop (E := tX8_init_51 SpX1_init SpX6_init (s + 35) Q) (c := 8) (f := 1) (kd := 17) (ck := 6) (mc := 3) (n := 6) (a := s + 10) (s := s) (l := bt_l6) (G := bt_g6) (M := bt_m6) (by omega) (congrArg Prod.fst (hsh 0 (by decide))) (hsh 10 (by decide)) (by omega) (fun N h => bt_shs_6 h) (fun N ρ h => bt_g6_o h) 6 0 (s + 11) _ _ rfl (by omega) (by omega) (by omega) (fun t ht => by
    have := bt_shs_sub (l' := bt_l6) hsh (11 + 4 * t) (by
      have : t = 0 ∨ t = 1 ∨ t = 2 ∨ t = 3 ∨ t = 4 ∨ t = 5 := by omega
      rcases this with rfl | rfl | rfl | rfl | rfl | rfl <;> decide)
    rw [show s + 11 + (3 + 1) * t = s + (11 + 4 * t) by omega]
    exact this) (by simp [bt_ur]) hn (fun hn => hq hn)
