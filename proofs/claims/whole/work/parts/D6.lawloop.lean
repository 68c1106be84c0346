/-! the law's loop. Printed by prog/mkloop.py -/
abbrev lw_L (j : Nat) (l5 l6 : Option bt_V) : List (Option bt_V) := [some (.inr (.inr 999)), some (.inr (.inr 0)), some (.inr (.inr 205)), some (.inr (.inr 261)), some (.inl (7 * (j : Int))), l5, l6]
theorem an_rests_01 (a c v : Int) : (an_rests a c v).1 = 0 ∨ (an_rests a c v).1 = 1 := by
  unfold an_rests
  split
  · split
    · exact Or.inl rfl
    · split
      · exact Or.inl rfl
      · exact Or.inr rfl
  · exact Or.inr rfl
section ST2
variable {K kf : bt_K} {st rest : List bt_V} {L : List (Option bt_V)} {w : bt_W}
theorem st_ist {i : Nat} {a : Int} (hn : bt_nl L i) (h : K st (L.set i (some (.inl a))) w) : bt_ist i K (.inl a :: st) L w := by
  unfold bt_ist
  exact ⟨hn, h⟩
theorem st_inc {i : Nat} {a k : Int} (h0 : L[i]? = some (some (.inl a))) (h : K st (L.set i (some (.inl (a + k)))) w) : bt_inc i k K st L w := by
  simp only [bt_inc, h0]
  exact h
theorem st_las {i a : Int} {q : Nat} (hix : bt_ix w q 14 i) (h : K st L (bt_sm w q (bt_w i).toNat a)) : bt_las K (.inr (.inl a) :: .inl i :: .inr (.inr q) :: st) L w := by
  unfold bt_las
  exact ⟨hix, h⟩
theorem st_lal {i : Int} {q : Nat} (hix : bt_ix w q 14 i) (h : K (.inr (.inl (w.2.2.2 q (bt_w i).toNat)) :: st) L w) : bt_lal K (.inl i :: .inr (.inr q) :: st) L w := by
  unfold bt_lal
  exact ⟨hix, h⟩
theorem st_cR {a c v : Int} (hr : rest.length ≤ 4) (h : tL_rests_0 (bt_ret K rest L) [] (bt_loc 6 [.inr (.inr 0), .inl a, .inl c, .inl v, .inr (.inr 261)]) w) : bt_cR K (.inr (.inr 261) :: .inl v :: .inl c :: .inl a :: .inr (.inr 0) :: rest) L w := by
  unfold bt_cR
  exact ⟨⟨rfl, rfl, hr⟩, h⟩
theorem st_cX {E : bt_K} {a c v : Int} (hw : 0 < w.1 ∧ (w.2.1 0).1 = 10) (hr : rest.length ≤ 4) (hn : bt_nl L 5) (h : bt_hd (bt_ret K rest L) (fun w' => E [] (L.set 5 none) w') a c v w) : bt_cX K E (.inl v :: .inl c :: .inl a :: .inr (.inr 0) :: rest) L w := by
  unfold bt_cX
  exact ⟨hw, hr, hn, h⟩
theorem st_lcmp {a b : Int} (h : K (.inl (bo_lcmp a b) :: st) L w) : bt_lcmp K (.inr (.inl b) :: .inr (.inl a) :: st) L w := by
  unfold bt_lcmp
  exact h
theorem st_iand {a b : Int} (h : K (.inl (bo_iand a b) :: st) L w) : bt_iand K (.inl b :: .inl a :: st) L w := by
  unfold bt_iand
  exact h
theorem st_isub {a b : Int} (h : K (.inl (a - b) :: st) L w) : bt_isub K (.inl b :: .inl a :: st) L w := by
  unfold bt_isub
  exact h
theorem st_gfI {c f q : Nat} (hq : q < w.1 ∧ (w.2.1 q).1 = c) (h : K (.inl (w.2.2.2 q f) :: st) L w) : bt_gfI c f K (.inr (.inr q) :: st) L w := by
  unfold bt_gfI
  exact ⟨hq, h⟩
theorem st_iret {Q : Option bt_V → bt_W → Prop} {a : Int} (h : Q (some (.inl a)) w) : bt_iret Q [.inl a] L w := by
  unfold bt_iret
  exact h
theorem st_ifne0 {a : Int} (e : bt_w a = 0) (h : kf st L w) : bt_ifne K kf (.inl a :: st) L w := by
  unfold bt_ifne
  simp only [e, if_true]
  exact h
theorem st_ifne1 {a : Int} (e : ¬ bt_w a = 0) (h : K st L w) : bt_ifne K kf (.inl a :: st) L w := by
  unfold bt_ifne
  simp only [e, if_false]
  exact h
theorem st_ifeq0 {a : Int} (e : bt_w a = 0) (h : K st L w) : bt_ifeq K kf (.inl a :: st) L w := by
  unfold bt_ifeq
  simp only [e, if_true]
  exact h
end ST2
theorem lx_261 (ρ : Nat → Nat → Option Nat) (μ : Nat → Nat → Int) : bt_ix (bt_wd ρ μ) 261 14 0 := by
  have e : bt_w 0 = 0 := by decide
  unfold bt_ix
  rw [e]
  show (261 < 262 ∧ (bt_sh0 261).1 = 14) ∧ 0 ≤ 0 ∧ 0 < ((bt_sh0 261).2 : Int)
  rw [sh_261]
  decide
theorem bo_lcmp_z (z : Int) : bt_w (bo_lcmp z z) = 0 := by
  have e : bo_lcmp z z = 0 := by simp [bo_lcmp, lg_cmp]
  rw [e]
  decide
section REST
variable {n j : Nat} {x : Nat → Int} {K : bt_K} {l5 l6 : Option bt_V} {Ω : om_O} {ρ : Nat → Nat → Option Nat} {μ : Nat → Nat → Int}
set_option maxHeartbeats 4000000 in
theorem lc_19b {k : Int} {μ1 : Nat → Nat → Int} (hj : 7 * j + 7 ≤ n) (hn : n ≤ 3584) (hx : ∀ i, bt_i32 (x i)) (hK : ∀ l5 l6, lc_K K (lw_L j l5 l6)) (hc : ci_I Ω ρ μ1) (hr : ri_I Ω μ1) (hk : (an_rests (x (7 * j + 1)) (x (7 * j + 2)) (x (7 * j + 3))).1 = k) (hout : k = 0 → μ1 261 0 = bo_i2l (an_rests (x (7 * j + 1)) (x (7 * j + 2)) (x (7 * j + 3))).2) :(bt_ist 5 (bt_ald 2 (bt_ald 0 (bt_ild 4 (bt_ic 1 (bt_iadd (bt_sia n x (bt_ald 0 (bt_ild 4 (bt_ic 2 (bt_iadd (bt_sia n x (bt_ald 0 (bt_ild 4 (bt_ic 3 (bt_iadd (bt_sia n x (bt_cV 3 [2, 0, 0, 0] 11 SpX11_rests (bt_ist 6 (bt_ald 2 (bt_cV 0 [2] 11 SpX11_thrown (bt_ild 5 (bt_icmpeq (bt_ild 5 (bt_ifne K (bt_ald 3 (bt_ic 0 (bt_lal (bt_ild 6 (bt_i2l (bt_lcmp (bt_ifeq K bt_nix))))))))) bt_nix))))))))))))))))))))))) [.inl k] (lw_L j l5 l6) (bt_wd ρ μ1) := by
  refine st_ist trivial (st_ald rfl (st_arg rfl rfl hj hn (by decide) (st_arg rfl rfl hj hn (by decide) (st_arg rfl rfl hj hn (by decide) (st_c3 (lx_205 _ _) (by simp) ?_)))))
  unfold SpX11_rests
  refine ⟨ρ, μ1, Ω, _, _, _, rfl, rfl, lk_rf hc, hr, hx _, hx _, hx _, fun μ2 hr2 hf2 ht2 => ?_⟩
  refine st_ret (st_ist trivial (st_ald rfl (st_c0 (lx_205 _ _) (by simp) ?_)))
  unfold SpX11_thrown tX11_thrown_0
  refine st_ald rfl (st_gfI (lx_205 _ _) (st_iret (st_ret (st_ild rfl ?_))))
  have ht3 : μ2 205 0 = k := ht2.trans hk
  show bt_icmpeq _ _ [.inl k, .inl (μ2 205 0)] _ _
  rw [ht3]
  refine st_eq (st_ild rfl ?_)
  have hc2 : ci_I Ω ρ μ2 := lk_3 hc hf2
  rcases an_rests_01 (x (7 * j + 1)) (x (7 * j + 2)) (x (7 * j + 3)) with e | e
  · have hk0 : k = 0 := hk.symm.trans e
    subst hk0
    refine st_ifne0 (by decide) (st_ald rfl (st_ic (st_lal (lx_261 _ _) (st_ild rfl (st_i2l (st_lcmp (st_ifeq0 ?_ (hK _ _ Ω ρ μ2 hc2 hr2))))))))
    have e261 : μ2 261 = μ1 261 := hf2 261 (by unfold ri_in; omega)
    have e0 : (bt_w 0).toNat = 0 := by decide
    show bt_w (bo_lcmp (μ2 261 (bt_w 0).toNat) _) = 0
    rw [e0, e261, hout rfl]
    exact bo_lcmp_z _
  · have hk1 : k = 1 := hk.symm.trans e
    subst hk1
    exact st_ifne1 (by decide) (hK _ _ Ω ρ μ2 hc2 hr2)
set_option maxHeartbeats 4000000 in
theorem lc_19 (hj : 7 * j + 7 ≤ n) (hn : n ≤ 3584) (hx : ∀ i, bt_i32 (x i)) (hK : ∀ l5 l6, lc_K K (lw_L j l5 l6)) (hc : ci_I Ω ρ μ) (hr : ri_I Ω μ) : tL_19 n x K [] (lw_L j l5 l6) (bt_wd ρ μ) := by
  unfold tL_19
  refine st_ald rfl (st_arg rfl rfl hj hn (by decide) (st_arg rfl rfl hj hn (by decide) (st_arg rfl rfl hj hn (by decide) (st_ald rfl (st_cR (by simp) ?_)))))
  unfold tL_rests_0
  refine st_ald rfl (st_ic (st_ald rfl (st_ild rfl (st_ild rfl (st_ild rfl (st_cX (lx_0 _ _) (by simp) trivial (rs_walk (hx _) (hx _) (hx _) (fun e => ?_) (fun e => ?_))))))))
  · refine st_ret (st_i2l (st_las (lx_261 _ _) (st_ic (st_iret ?_))))
    have e0 : (bt_w 0).toNat = 0 := by decide
    rw [e0]
    refine lc_19b (μ1 := bt_up μ 261 0 (bo_i2l (an_rests (x (7 * j + 1)) (x (7 * j + 2)) (x (7 * j + 3))).2)) hj hn hx hK (hc.fr (fun a ha => ?_)) (lk_r hr (fun a h1 h2 => ?_)) e (fun _ => ?_)
    · exact bt_up_cell (fun q => ha (by unfold ci_sc; omega))
    · exact bt_up_cell (by omega)
    · exact bt_up_same _ _ _ _
  · refine st_ic (st_iret ?_)
    exact lc_19b hj hn hx hK hc hr ((an_rests_01 _ _ _).resolve_left e) (fun q => absurd q (by decide))
end REST
/-- a switch, from its cases -/
theorem bt_tsw_in {x : Int} {kd : bt_K} {st : List bt_V} {L : List (Option bt_V)} {w : bt_W} (ks : List bt_K) : ∀ (lo : Int), (∀ (i : Nat) (k : bt_K), ks[i]? = some k → k st L w) → kd st L w → bt_tsw x lo ks kd st L w := by
  induction ks with
  | nil =>
    intro lo _ h
    exact h
  | cons k ks ih =>
    intro lo h1 h2
    unfold bt_tsw
    split
    · exact h1 0 k rfl
    · exact ih (lo + 1) (fun i k' hk => h1 (i + 1) k' hk) h2
def tL_h (n : Nat) (x : Nat → Int) (κ : bt_K) : bt_K := bt_ild 4 (bt_ald 0 (bt_slk n (bt_ic 7 (bt_isub (bt_icmpgt bt_fin (bt_ald 0 (bt_ild 4 (bt_sia n x (bt_ic 31 (bt_iand (bt_tab 0 [tL_0 n x (bt_inc 4 7 κ), tL_1 n x (bt_inc 4 7 κ), tL_2 n x (bt_inc 4 7 κ), tL_3 n x (bt_inc 4 7 κ), tL_4 n x (bt_inc 4 7 κ), tL_5 n x (bt_inc 4 7 κ), tL_6 n x (bt_inc 4 7 κ), tL_7 n x (bt_inc 4 7 κ), tL_8 n x (bt_inc 4 7 κ), tL_9 n x (bt_inc 4 7 κ), tL_10 n x (bt_inc 4 7 κ), tL_11 n x (bt_inc 4 7 κ), tL_12 n x (bt_inc 4 7 κ), tL_13 n x (bt_inc 4 7 κ), tL_14 n x (bt_inc 4 7 κ), tL_15 n x (bt_inc 4 7 κ), tL_16 n x (bt_inc 4 7 κ), tL_17 n x (bt_inc 4 7 κ), tL_18 n x (bt_inc 4 7 κ), tL_19 n x (bt_inc 4 7 κ), tL_20 n x (bt_inc 4 7 κ), tL_21 n x (bt_inc 4 7 κ), tL_22 n x (bt_inc 4 7 κ), tL_23 n x (bt_inc 4 7 κ), tL_24 n x (bt_inc 4 7 κ)] (bt_inc 4 7 κ))))))))))))
set_option maxRecDepth 20000 in
set_option maxHeartbeats 4000000 in
theorem sL_h {X : bt_X} {cs : Nat × Nat} {n : Nat} {xs : Nat → Int32} {κ : bt_K} (hX : bt_Ow X cL_law 7 RL room_1) (hs : bt_Sc X n xs) (hth : bt_Tw X) (hE : bt_En X) (h1 : cs.1 + 1 ≤ 601024) (h2 : cs.2 + 6 ≤ 7293033) (hκ : bt_Snd X 7 (cs.1 + 1, cs.2 + 6) 23 κ) : bt_Snd X 7 cs 23 (tL_h n (fun j => (xs j).toInt) κ) := by
  have r2 : bt_Snd X 7 (cs.1 + 1, cs.2 + 6) 1022 (bt_inc 4 7 κ) := bw_iinc hX dL_law_1022 (by decide) (bw_goto hX dL_law_1025 (tgt := 23) rfl hκ)
  have r1 : bt_Snd X 7 cs 1022 (bt_inc 4 7 κ) := bw_widen (Nat.le_add_right _ _) (Nat.le_add_right _ _) r2
  have c1 : cs.1 ≤ room_1.cells := by show cs.1 ≤ 601024; omega
  have c2 : cs.2 ≤ room_1.slots := by show cs.2 ≤ 7293033; omega
  have c3 : cs.1 + 1 ≤ room_1.cells := h1
  have c4 : cs.2 + 6 ≤ room_1.slots := h2
  unfold tL_h
  exact bw_ild hX dL_law_23 (bw_ald_n hX dL_law_25 rfl (bw_slk hX hs dL_law_26 (bw_bipush hX dL_law_27 (by decide) (bw_isub hX dL_law_29 (bw_icmpgt hX dL_law_30 (tgt := 1028) rfl (bw_fin hX hE (by omega) (by omega)) (bw_ald_n hX dL_law_33 rfl (bw_ild hX dL_law_34 (bw_sia hX hs dL_law_36 (bw_bipush hX dL_law_37 (by decide) (bw_iand hX dL_law_39 (bw_tab hX dL_law_40 (by rfl) (td := 1022) (by decide) r1 ⟨⟨156, by decide, sL_0 hX hs c1 c2 r1⟩, ⟨303, by decide, sL_1 hX hs c1 c2 r1⟩, ⟨316, by decide, sL_2 hX hs c1 c2 r1⟩, ⟨329, by decide, sL_3 hX hs c1 c2 r1⟩, ⟨366, by decide, sL_4 hX hs c1 c2 r1⟩, ⟨403, by decide, sL_5 hX hs c1 c2 r1⟩, ⟨440, by decide, sL_6 hX hs c1 c2 r1⟩, ⟨477, by decide, sL_7 hX hs c1 c2 r1⟩, ⟨514, by decide, sL_8 hX hs c1 c2 r1⟩, ⟨539, by decide, sL_9 hX hs c1 c2 r1⟩, ⟨552, by decide, sL_10 hX hs c1 c2 r1⟩, ⟨565, by decide, sL_11 hX hs c1 c2 r1⟩, ⟨590, by decide, sL_12 hX hs c1 c2 r1⟩, ⟨615, by decide, sL_13 hX hs c1 c2 r1⟩, ⟨640, by decide, sL_14 hX hs c1 c2 r1⟩, ⟨665, by decide, sL_15 hX hs c1 c2 r1⟩, ⟨678, by decide, sL_16 hX hs c1 c2 r1⟩, ⟨703, by decide, sL_17 hX hs c1 c2 r1⟩, ⟨716, by decide, sL_18 hX hs c1 c2 r1⟩, ⟨753, by decide, sL_19 hX hs hth c3 c4 r2⟩, ⟨833, by decide, sL_20 hX hs c1 c2 r1⟩, ⟨870, by decide, sL_21 hX hs c1 c2 r1⟩, ⟨895, by decide, sL_22 hX hs c1 c2 r1⟩, ⟨944, by decide, sL_23 hX hs c1 c2 r1⟩, ⟨997, by decide, sL_24 hX hs c1 c2 r1⟩, trivial⟩)))))))))))
/-- the law's invariant at its loop's head, j rounds done -/
def lI (n j : Nat) : bt_K := fun st L w => st = [] ∧ 7 * j ≤ n ∧ ∃ (l5 l6 : Option bt_V) (Ω : om_O) (ρ : Nat → Nat → Option Nat) (μ : Nat → Nat → Int), L = lw_L j l5 l6 ∧ w = bt_wd ρ μ ∧ ci_I Ω ρ μ ∧ ri_I Ω μ
set_option maxRecDepth 20000 in
set_option maxHeartbeats 4000000 in
theorem lI_step {n j : Nat} {x : Nat → Int} (hn : n ≤ 3584) (hx : ∀ i, bt_i32 (x i)) {st : List bt_V} {L : List (Option bt_V)} {w : bt_W} (h : lI n j st L w) : tL_h n x (lI n (j + 1)) st L w := by
  obtain ⟨rfl, hj0, l5, l6, Ω, ρ, μ, rfl, rfl, hc, hr⟩ := h
  unfold tL_h
  refine st_ild rfl (st_ald rfl ?_)
  unfold bt_slk
  refine ⟨rfl, st_ic (st_isub ?_)⟩
  unfold bt_icmpgt
  have e1 : bt_w ((n : Int) - 7) = (n : Int) - 7 := bt_w_id (by omega) (by omega)
  have e2 : bt_w (7 * (j : Int)) = 7 * (j : Int) := bt_w_id (by omega) (by omega)
  by_cases hq : (n : Int) - 7 < 7 * (j : Int)
  · simp only [e1, e2, if_pos hq]
    exact rfl
  · simp only [e1, e2, if_neg hq]
    have hj : 7 * j + 7 ≤ n := by omega
    refine st_ald rfl (st_ild rfl ?_)
    unfold bt_sia
    refine ⟨⟨rfl, by rw [e2]; omega, by rw [e2]; omega⟩, st_ic (st_iand ?_)⟩
    unfold bt_tab
    have hK : ∀ l5 l6, lc_K (bt_inc 4 7 (lI n (j + 1))) (lw_L j l5 l6) := by
      intro l5 l6 Ω' ρ' μ' hc' hr'
      refine st_inc rfl ⟨rfl, by omega, l5, l6, Ω', ρ', μ', ?_, rfl, hc', hr'⟩
      show List.set (lw_L j l5 l6) 4 _ = _
      simp only [List.set_cons_succ, List.set_cons_zero, lw_L]
      rw [show (7 * ((j + 1 : Nat) : Int)) = 7 * (j : Int) + 7 by omega]
    have H : lc_H n j x (lw_L j l5 l6) := ⟨rfl, rfl, rfl, rfl, hj, hn, hx⟩
    refine bt_tsw_in _ 0 (fun i k hk => ?_) (hK l5 l6 Ω ρ μ hc hr)
    match i, hk with
    | 0, hk => cases hk; exact lc_0 H (hK _ _) hc hr
    | 1, hk => cases hk; exact lc_1 H (hK _ _) hc hr
    | 2, hk => cases hk; exact lc_2 H (hK _ _) hc hr
    | 3, hk => cases hk; exact lc_3 H (hK _ _) hc hr
    | 4, hk => cases hk; exact lc_4 H (hK _ _) hc hr
    | 5, hk => cases hk; exact lc_5 H (hK _ _) hc hr
    | 6, hk => cases hk; exact lc_6 H (hK _ _) hc hr
    | 7, hk => cases hk; exact lc_7 H (hK _ _) hc hr
    | 8, hk => cases hk; exact lc_8 H (hK _ _) hc hr
    | 9, hk => cases hk; exact lc_9 H (hK _ _) hc hr
    | 10, hk => cases hk; exact lc_10 H (hK _ _) hc hr
    | 11, hk => cases hk; exact lc_11 H (hK _ _) hc hr
    | 12, hk => cases hk; exact lc_12 H (hK _ _) hc hr
    | 13, hk => cases hk; exact lc_13 H (hK _ _) hc hr
    | 14, hk => cases hk; exact lc_14 H (hK _ _) hc hr
    | 15, hk => cases hk; exact lc_15 H (hK _ _) hc hr
    | 16, hk => cases hk; exact lc_16 H (hK _ _) hc hr
    | 17, hk => cases hk; exact lc_17 H (hK _ _) hc hr
    | 18, hk => cases hk; exact lc_18 H (hK _ _) hc hr
    | 19, hk => cases hk; exact lc_19 hj hn hx hK hc hr
    | 20, hk => cases hk; exact lc_20 H (hK _ _) hc hr
    | 21, hk => cases hk; exact lc_21 H (hK _ _) hc hr
    | 22, hk => cases hk; exact lc_22 H (hK _ _) hc hr
    | 23, hk => cases hk; exact lc_23 H (hK _ _) hc hr
    | 24, hk => cases hk; exact lc_24 H (hK _ _) hc hr
    | i + 25, hk => simp at hk
theorem lw_loop {X : bt_X} {n : Nat} {xs : Nat → Int32} (hn : n ≤ 3584) (hX : bt_Ow X cL_law 7 RL room_1) (hs : bt_Sc X n xs) (hth : bt_Tw X) (hE : bt_En X) : ∀ k j : Nat, j + k = 513 → bt_Snd X 7 (262 + j, 12124 + 6 * j) 23 (lI n j) := by
  intro k
  induction k with
  | zero =>
    intro j hj
    refine bt_weak (bw_nix _ _) (fun st L w h => ?_)
    obtain ⟨-, h, -⟩ := h
    omega
  | succ k ih =>
    intro j hj
    have h1 := ih (j + 1) (by omega)
    have r := sL_h (cs := (262 + j, 12124 + 6 * j)) (κ := lI n (j + 1)) hX hs hth hE (by show 262 + j + 1 ≤ 601024; omega) (by show 12124 + 6 * j + 6 ≤ 7293033; omega) (by
      have e : (262 + (j + 1), 12124 + 6 * (j + 1)) = ((262 + j, 12124 + 6 * j).1 + 1, (262 + j, 12124 + 6 * j).2 + 6) := by
        show (_, _) = (_, _)
        congr 1
      rw [← e]
      exact h1)
    exact bt_weak r (fun st L w h => lI_step hn (fun i => ⟨by have := Int32.le_toInt (xs i); omega, by have := Int32.toInt_lt (xs i); omega⟩) h)
