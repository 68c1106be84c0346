/-! What the small constructors leave. Printed by prog/mkgs.py -/
def bt_l6 : List (Nat × Nat) := [(6, 5), (13, 6), (13, 6), (13, 5)]
def bt_g6 (s : Nat) (ρ : Nat → Nat → Option Nat) : Nat → Nat → Option Nat := (bt_ur (bt_ur (bt_ur ρ s 2 (s + 1)) s 3 (s + 2)) s 4 (s + 3))
def bt_m6 (s : Nat) (μ : Nat → Nat → Int) : Nat → Nat → Int := μ
def SpX6_init : bt_Sp := bt_SpC 3 bt_l6 bt_g6 bt_m6
set_option maxHeartbeats 4000000 in
theorem ctX6_init : bt_Cet yX6_init cX6_init 1 2 [2] 3 17 SpX6_init := by
  refine bt_cet (by decide) rfl (by decide) (fun X As w Q hsig hSp hX hT hI hR => ?_)
  obtain ⟨s, ρ, μ, rfl, rfl, hb, hsh, hn, hq⟩ := hSp
  refine ⟨_, sX6_init_0 (N := s + 1) (n0 := s + 1) hX hT hI (by omega) (by omega) hR, ?_⟩
  unfold tX6_init_0
  refine mk_o rfl ?_
  refine mk_arr (s := s) rfl (by omega) (congrArg Prod.fst (hsh 0 (by decide))) (hsh 1 (by decide)) hn (fun hn => ?_)
  refine mk_arr (s := s) rfl (by omega) (congrArg Prod.fst (hsh 0 (by decide))) (hsh 2 (by decide)) hn (fun hn => ?_)
  refine mk_arr (s := s) rfl (by omega) (congrArg Prod.fst (hsh 0 (by decide))) (hsh 3 (by decide)) hn (fun hn => ?_)
  exact hq hn
def bt_l1 : List (Nat × Nat) := [(1, 9), (13, 6), (13, 6), (13, 24), (13, 6), (13, 6), (13, 5), (13, 5), (13, 6)]
def bt_g1 (s : Nat) (ρ : Nat → Nat → Option Nat) : Nat → Nat → Option Nat := (bt_ur (bt_ur (bt_ur (bt_ur (bt_ur (bt_ur (bt_ur (bt_ur ρ s 0 (s + 1)) s 1 (s + 2)) s 2 (s + 3)) s 3 (s + 4)) s 4 (s + 5)) s 5 (s + 6)) s 6 (s + 7)) s 7 (s + 8))
def bt_m1 (s : Nat) (μ : Nat → Nat → Int) : Nat → Nat → Int := μ
def SpX1_init : bt_Sp := bt_SpC 8 bt_l1 bt_g1 bt_m1
set_option maxHeartbeats 4000000 in
theorem ctX1_init : bt_Cet yX1_init cX1_init 1 2 [2] 8 64 SpX1_init := by
  refine bt_cet (by decide) rfl (by decide) (fun X As w Q hsig hSp hX hT hI hR => ?_)
  obtain ⟨s, ρ, μ, rfl, rfl, hb, hsh, hn, hq⟩ := hSp
  refine ⟨_, sX1_init_0 (N := s + 1) (n0 := s + 1) hX hT hI (by omega) (by omega) hR, ?_⟩
  unfold tX1_init_0
  refine mk_o rfl ?_
  refine mk_arr (s := s) rfl (by omega) (congrArg Prod.fst (hsh 0 (by decide))) (hsh 1 (by decide)) hn (fun hn => ?_)
  refine mk_arr (s := s) rfl (by omega) (congrArg Prod.fst (hsh 0 (by decide))) (hsh 2 (by decide)) hn (fun hn => ?_)
  refine mk_arr (s := s) rfl (by omega) (congrArg Prod.fst (hsh 0 (by decide))) (hsh 3 (by decide)) hn (fun hn => ?_)
  refine mk_arr (s := s) rfl (by omega) (congrArg Prod.fst (hsh 0 (by decide))) (hsh 4 (by decide)) hn (fun hn => ?_)
  refine mk_arr (s := s) rfl (by omega) (congrArg Prod.fst (hsh 0 (by decide))) (hsh 5 (by decide)) hn (fun hn => ?_)
  refine mk_arr (s := s) rfl (by omega) (congrArg Prod.fst (hsh 0 (by decide))) (hsh 6 (by decide)) hn (fun hn => ?_)
  refine mk_arr (s := s) rfl (by omega) (congrArg Prod.fst (hsh 0 (by decide))) (hsh 7 (by decide)) hn (fun hn => ?_)
  refine mk_arr (s := s) rfl (by omega) (congrArg Prod.fst (hsh 0 (by decide))) (hsh 8 (by decide)) hn (fun hn => ?_)
  exact hq hn
def bt_l0 : List (Nat × Nat) := [(0, 6), (13, 5), (13, 1000), (13, 32)]
def bt_g0 (s : Nat) (t : Nat) (ρ : Nat → Nat → Option Nat) : Nat → Nat → Option Nat := (bt_ur (bt_ur (bt_ur (bt_ur ρ s 1 (s + 1)) s 2 (s + 2)) s 3 (s + 3)) s 0 t)
def bt_m0 (s : Nat) (μ : Nat → Nat → Int) : Nat → Nat → Int := μ
def SpX0_init : bt_Sp := bt_SpD 3 bt_l0 bt_g0 bt_m0
set_option maxHeartbeats 4000000 in
theorem ctX0_init : bt_Cet yX0_init cX0_init 2 2 [2, 2] 3 1037 SpX0_init := by
  refine bt_cet (by decide) rfl (by decide) (fun X As w Q hsig hSp hX hT hI hR => ?_)
  obtain ⟨s, t, ρ, μ, rfl, rfl, hb, hsh, hn, hq⟩ := hSp
  refine ⟨_, sX0_init_0 (N := s + 1) (n0 := s + 1) hX hT hI (by omega) (by omega) hR, ?_⟩
  unfold tX0_init_0
  refine mk_o rfl ?_
  refine mk_arr (s := s) rfl (by omega) (congrArg Prod.fst (hsh 0 (by decide))) (hsh 1 (by decide)) hn (fun hn => ?_)
  refine mk_arr (s := s) rfl (by omega) (congrArg Prod.fst (hsh 0 (by decide))) (hsh 2 (by decide)) hn (fun hn => ?_)
  refine mk_arr (s := s) rfl (by omega) (congrArg Prod.fst (hsh 0 (by decide))) (hsh 3 (by decide)) hn (fun hn => ?_)
  refine mk_par (s := s) (t := t) rfl rfl (by omega) (congrArg Prod.fst (hsh 0 (by decide))) hn (fun hn => ?_)
  exact hq hn
def bt_l4 : List (Nat × Nat) := [(4, 5), (13, 6), (13, 6), (13, 6)]
def bt_g4 (s : Nat) (ρ : Nat → Nat → Option Nat) : Nat → Nat → Option Nat := (bt_ur (bt_ur (bt_ur ρ s 0 (s + 1)) s 1 (s + 2)) s 2 (s + 3))
def bt_m4 (s : Nat) (μ : Nat → Nat → Int) : Nat → Nat → Int := μ
def SpX4_init : bt_Sp := bt_SpC 3 bt_l4 bt_g4 bt_m4
set_option maxHeartbeats 4000000 in
theorem ctX4_init : bt_Cet yX4_init cX4_init 1 2 [2] 3 18 SpX4_init := by
  refine bt_cet (by decide) rfl (by decide) (fun X As w Q hsig hSp hX hT hI hR => ?_)
  obtain ⟨s, ρ, μ, rfl, rfl, hb, hsh, hn, hq⟩ := hSp
  refine ⟨_, sX4_init_0 (N := s + 1) (n0 := s + 1) hX hT hI (by omega) (by omega) hR, ?_⟩
  unfold tX4_init_0
  refine mk_o rfl ?_
  refine mk_arr (s := s) rfl (by omega) (congrArg Prod.fst (hsh 0 (by decide))) (hsh 1 (by decide)) hn (fun hn => ?_)
  refine mk_arr (s := s) rfl (by omega) (congrArg Prod.fst (hsh 0 (by decide))) (hsh 2 (by decide)) hn (fun hn => ?_)
  refine mk_arr (s := s) rfl (by omega) (congrArg Prod.fst (hsh 0 (by decide))) (hsh 3 (by decide)) hn (fun hn => ?_)
  exact hq hn
def bt_l2 : List (Nat × Nat) := [(2, 6), (6, 5), (13, 6), (13, 6), (13, 5), (13, 40)]
def bt_g2 (s : Nat) (ρ : Nat → Nat → Option Nat) : Nat → Nat → Option Nat := (bt_ur (bt_ur (bt_g6 (s + 1) ρ) s 0 (s + 1)) s 1 (s + 5))
def bt_m2 (s : Nat) (μ : Nat → Nat → Int) : Nat → Nat → Int := (bt_up (bt_m6 (s + 1) μ) s 4 65535)
def SpX2_init : bt_Sp := bt_SpC 5 bt_l2 bt_g2 bt_m2
set_option maxHeartbeats 4000000 in
theorem ctX2_init : bt_Cet yX2_init cX2_init 1 4 [2] 5 62 SpX2_init := by
  refine bt_cet (by decide) rfl (by decide) (fun X As w Q hsig hSp hX hT hI hR => ?_)
  obtain ⟨s, ρ, μ, rfl, rfl, hb, hsh, hn, hq⟩ := hSp
  refine ⟨_, sX2_init_0 (N := s + 1) (n0 := s + 1) hX hT hI ctX6_init (by omega) (by omega) hR, ?_⟩
  unfold tX2_init_0
  refine mk_o rfl ?_
  refine mk_obj (s := s) rfl (by omega) (congrArg Prod.fst (hsh 0 (by decide))) (congrArg Prod.fst (hsh 1 (by decide))) (by omega) (bt_shs_sub hsh 1 (by decide)) hn (fun hn => ?_)
  refine mk_arr (s := s) rfl (by omega) (congrArg Prod.fst (hsh 0 (by decide))) (hsh 5 (by decide)) hn (fun hn => ?_)
  refine mk_int (s := s) rfl (by omega) (congrArg Prod.fst (hsh 0 (by decide))) hn (fun hn => ?_)
  exact hq hn
def bt_l3 : List (Nat × Nat) := [(3, 8), (13, 40), (0, 6), (13, 5), (13, 1000), (13, 32)]
def bt_g3 (s : Nat) (t : Nat) (ρ : Nat → Nat → Option Nat) : Nat → Nat → Option Nat := (bt_ur (bt_g0 (s + 2) t (bt_ur (bt_ur ρ s 2 (s + 1)) s 0 t)) s 1 (s + 2))
def bt_m3 (s : Nat) (μ : Nat → Nat → Int) : Nat → Nat → Int := μ
def SpX3_init : bt_Sp := bt_SpD 5 bt_l3 bt_g3 bt_m3
set_option maxHeartbeats 4000000 in
theorem ctX3_init : bt_Cet yX3_init cX3_init 2 4 [2, 2] 5 1083 SpX3_init := by
  refine bt_cet (by decide) rfl (by decide) (fun X As w Q hsig hSp hX hT hI hR => ?_)
  obtain ⟨s, t, ρ, μ, rfl, rfl, hb, hsh, hn, hq⟩ := hSp
  refine ⟨_, sX3_init_0 (N := s + 1) (n0 := s + 1) hX hT hI ctX0_init (by omega) (by omega) hR, ?_⟩
  unfold tX3_init_0
  refine mk_o rfl ?_
  refine mk_arr (s := s) rfl (by omega) (congrArg Prod.fst (hsh 0 (by decide))) (hsh 1 (by decide)) hn (fun hn => ?_)
  refine mk_par (s := s) (t := t) rfl rfl (by omega) (congrArg Prod.fst (hsh 0 (by decide))) hn (fun hn => ?_)
  refine mk_obd (s := s) (t := t) rfl rfl (by omega) (congrArg Prod.fst (hsh 0 (by decide))) (congrArg Prod.fst (hsh 2 (by decide))) (by omega) (bt_shs_sub hsh 2 (by decide)) hn (fun hn => ?_)
  exact hq hn
def bt_l5 : List (Nat × Nat) := [(5, 9), (1, 9), (13, 6), (13, 6), (13, 24), (13, 6), (13, 6), (13, 5), (13, 5), (13, 6), (6, 5), (13, 6), (13, 6), (13, 5), (13, 6), (13, 6), (13, 1792)]
def bt_g5 (s : Nat) (ρ : Nat → Nat → Option Nat) : Nat → Nat → Option Nat := (bt_ur (bt_ur (bt_ur (bt_ur (bt_g6 (s + 10) (bt_ur (bt_g1 (s + 1) ρ) s 0 (s + 1))) s 1 (s + 10)) s 2 (s + 14)) s 3 (s + 15)) s 4 (s + 16))
def bt_m5 (s : Nat) (μ : Nat → Nat → Int) : Nat → Nat → Int := (bt_m6 (s + 10) (bt_m1 (s + 1) μ))
def SpX5_init : bt_Sp := bt_SpC 16 bt_l5 bt_g5 bt_m5
set_option maxHeartbeats 4000000 in
theorem ctX5_init : bt_Cet yX5_init cX5_init 1 4 [2] 16 1899 SpX5_init := by
  refine bt_cet (by decide) rfl (by decide) (fun X As w Q hsig hSp hX hT hI hR => ?_)
  obtain ⟨s, ρ, μ, rfl, rfl, hb, hsh, hn, hq⟩ := hSp
  refine ⟨_, sX5_init_0 (N := s + 1) (n0 := s + 1) hX hT hI ctX1_init ctX6_init (by omega) (by omega) hR, ?_⟩
  unfold tX5_init_0
  refine mk_o rfl ?_
  refine mk_obj (s := s) rfl (by omega) (congrArg Prod.fst (hsh 0 (by decide))) (congrArg Prod.fst (hsh 1 (by decide))) (by omega) (bt_shs_sub hsh 1 (by decide)) hn (fun hn => ?_)
  refine mk_obj (s := s) rfl (by omega) (congrArg Prod.fst (hsh 0 (by decide))) (congrArg Prod.fst (hsh 10 (by decide))) (by omega) (bt_shs_sub hsh 10 (by decide)) hn (fun hn => ?_)
  refine mk_arr (s := s) rfl (by omega) (congrArg Prod.fst (hsh 0 (by decide))) (hsh 14 (by decide)) hn (fun hn => ?_)
  refine mk_arr (s := s) rfl (by omega) (congrArg Prod.fst (hsh 0 (by decide))) (hsh 15 (by decide)) hn (fun hn => ?_)
  refine mk_arr (s := s) rfl (by omega) (congrArg Prod.fst (hsh 0 (by decide))) (hsh 16 (by decide)) hn (fun hn => ?_)
  exact hq hn
def bt_l9 : List (Nat × Nat) := [(9, 20), (14, 6), (14, 6), (14, 5), (13, 6), (13, 6), (13, 5), (13, 6), (13, 36), (13, 120), (13, 720), (6, 5), (13, 6), (13, 6), (13, 5)]
def bt_g9 (s : Nat) (ρ : Nat → Nat → Option Nat) : Nat → Nat → Option Nat := (bt_ur (bt_g6 (s + 11) (bt_ur (bt_ur (bt_ur (bt_ur (bt_ur (bt_ur (bt_ur (bt_ur (bt_ur (bt_ur ρ s 9 (s + 1)) s 10 (s + 2)) s 11 (s + 3)) s 12 (s + 4)) s 13 (s + 5)) s 14 (s + 6)) s 15 (s + 7)) s 16 (s + 8)) s 17 (s + 9)) s 18 (s + 10))) s 19 (s + 11))
def bt_m9 (s : Nat) (μ : Nat → Nat → Int) : Nat → Nat → Int := (bt_m6 (s + 11) μ)
def SpX9_init : bt_Sp := bt_SpC 14 bt_l9 bt_g9 bt_m9
set_option maxHeartbeats 4000000 in
theorem ctX9_init : bt_Cet yX9_init cX9_init 1 4 [2] 14 938 SpX9_init := by
  refine bt_cet (by decide) rfl (by decide) (fun X As w Q hsig hSp hX hT hI hR => ?_)
  obtain ⟨s, ρ, μ, rfl, rfl, hb, hsh, hn, hq⟩ := hSp
  refine ⟨_, sX9_init_0 (N := s + 1) (n0 := s + 1) hX hT hI ctX6_init (by omega) (by omega) hR, ?_⟩
  unfold tX9_init_0
  refine mk_o rfl ?_
  refine mk_arr (s := s) rfl (by omega) (congrArg Prod.fst (hsh 0 (by decide))) (hsh 1 (by decide)) hn (fun hn => ?_)
  refine mk_arr (s := s) rfl (by omega) (congrArg Prod.fst (hsh 0 (by decide))) (hsh 2 (by decide)) hn (fun hn => ?_)
  refine mk_arr (s := s) rfl (by omega) (congrArg Prod.fst (hsh 0 (by decide))) (hsh 3 (by decide)) hn (fun hn => ?_)
  refine mk_arr (s := s) rfl (by omega) (congrArg Prod.fst (hsh 0 (by decide))) (hsh 4 (by decide)) hn (fun hn => ?_)
  refine mk_arr (s := s) rfl (by omega) (congrArg Prod.fst (hsh 0 (by decide))) (hsh 5 (by decide)) hn (fun hn => ?_)
  refine mk_arr (s := s) rfl (by omega) (congrArg Prod.fst (hsh 0 (by decide))) (hsh 6 (by decide)) hn (fun hn => ?_)
  refine mk_arr (s := s) rfl (by omega) (congrArg Prod.fst (hsh 0 (by decide))) (hsh 7 (by decide)) hn (fun hn => ?_)
  refine mk_arr (s := s) rfl (by omega) (congrArg Prod.fst (hsh 0 (by decide))) (hsh 8 (by decide)) hn (fun hn => ?_)
  refine mk_arr (s := s) rfl (by omega) (congrArg Prod.fst (hsh 0 (by decide))) (hsh 9 (by decide)) hn (fun hn => ?_)
  refine mk_arr (s := s) rfl (by omega) (congrArg Prod.fst (hsh 0 (by decide))) (hsh 10 (by decide)) hn (fun hn => ?_)
  refine mk_obj (s := s) rfl (by omega) (congrArg Prod.fst (hsh 0 (by decide))) (congrArg Prod.fst (hsh 11 (by decide))) (by omega) (bt_shs_sub hsh 11 (by decide)) hn (fun hn => ?_)
  exact hq hn
