/-! a part; a law -/
def rd_pg (cd : Nat → Int) (k k' d : Nat) (V : fo_V) : Prop := ∀ F M, ∃ M', wk_r F cd (k' - k) k (d, M) = some (wk_dl d (V F) M') ∧ ∀ j i, i ≤ d → M' j i = M j i
def rd_ps (t : Nat → Int) (n al d : Nat) (op cm cd : Nat → Int) (k c : Nat) (r : fo_R) : Prop :=
  (r.1 ≠ 0 → ∃ R : rd_R, R.1 = r.1 ∧ rd_at t n al R d true op cm cd k c) ∧ (r.1 = 0 → r.2.1 ≤ n ∧ c ≤ r.2.1 ∧ ∃ (op' cm' cd' : Nat → Int) (k' : Nat), (∀ R, rd_at t n al R (rd_pop op d) false op' cm' cd' k' r.2.1 → rd_at t n al R d true op cm cd k c) ∧ (∀ i, i ≤ d → op' i = op i) ∧ (∀ i, i ≤ d → cm' i = cm i) ∧ (∀ i, i < k → cd' i = cd i) ∧ k < k' ∧ k' + c ≤ k + r.2.1 ∧ rd_pg cd' k k' d r.2.2)
theorem rd_pop_cg {op op' : Nat → Int} : ∀ d, (∀ i, i ≤ d → op' i = op i) → rd_pop op' d = rd_pop op d
  | 0, _ => rfl
  | d + 1, h => by
    unfold rd_pop
    rw [h (d + 1) (Nat.le_refl _), rd_pop_cg d (fun i hi => h i (by omega))]
theorem rd_pop_st {op : Nat → Int} : ∀ d, (d = 0 ∨ op d ≠ 1) → rd_pop op d = d
  | 0, _ => rfl
  | d + 1, h => by
    unfold rd_pop
    rw [if_neg (by rcases h with h | h; exact absurd h (by omega); exact h)]
theorem wk_dl_st {M : Nat → Nat → Int} {v : Int} : ∀ d, (d = 0 ∨ bt_w (M 8 d) ≠ 1) → wk_dl d v M = (d, wk_rv d v M)
  | 0, _ => rfl
  | d + 1, h => by
    unfold wk_dl
    rw [if_neg (by rcases h with h | h; exact absurd h (by omega); exact h)]
/-- a part where no not waits -/
theorem rd_ps.lv {t : Nat → Int} {n al d : Nat} {P : fo_P} (h : ∀ op cm cd k c, c ≤ n → rd_ps t n al d op cm cd k c (P c)) : rd_lv t n al P d false (fun _ => True) (wB_pt d) rd_Ep := fun op cm cd k c hc hop _ => by
  obtain ⟨h1, h2⟩ := h op cm cd k c hc
  refine ⟨h1, fun q => ?_⟩
  obtain ⟨y1, y2, op1, cm1, cd1, k1, g1, g2, g3, g4, g5, g6, g7⟩ := h2 q
  rw [rd_pop_st d hop] at g1
  refine ⟨y1, y2, op1, cm1, cd1, k1, g1, g2, fun i hi => g3 i (by omega), fun _ => g3 d (Nat.le_refl d), g4, ⟨by omega, fun _ => g5⟩, g6, trivial, fun F M _ hM => ?_⟩
  obtain ⟨M1, r1, b1⟩ := g7 F M
  rw [wk_dl_st d (by rw [b1 8 d (Nat.le_refl d)]; exact hM)] at r1
  refine ⟨_, r1, ?_, fun j hj => ?_, fun j i hi => ?_⟩
  · unfold wk_rv
    rw [bt_up_same, b1 7 d (Nat.le_refl d), b1 6 d (Nat.le_refl d)]
  · unfold wk_rv
    rw [bt_up_cell hj]
    exact b1 j d (Nat.le_refl d)
  · unfold wk_rv
    rw [bt_upe, if_neg (by omega)]
    exact b1 j i (by omega)
theorem rd_stop {t : Nat → Int} {n al d : Nat} {op cm cd : Nat → Int} {k c : Nat} (h : rd_Et t n c (cm d) ∧ fo_opL t n c = 0) (h41 : ¬ (tk_k t n c = 41 ∧ 0 < d)) : rd_at t n al (if d = 0 ∧ tk_k t n c = 59 then (0, cd, k, tk_nx t n c) else (1 + 16 * (c : Int), cd, k, c)) d false op cm cd k c := by
  obtain ⟨⟨⟨e1, e2⟩, e3⟩, e4⟩ := h
  have n42 : tk_k t n c ≠ 42 := fun q => by unfold fo_opT at e1; rw [if_pos q] at e1; omega
  have n43 : tk_k t n c ≠ 43 := fun q => by unfold fo_opS at e2; rw [if_pos q] at e2; omega
  have n45 : tk_k t n c ≠ 45 := fun q => by unfold fo_opS at e2; rw [if_neg n43, if_pos q] at e2; omega
  have n60 : ¬ ((tk_k t n c = 60 ∨ tk_k t n c = 61) ∧ cm d = 0) := fun q => by
    rcases e3 with e3 | e3
    · unfold fo_opC at e3
      rcases q.1 with h | h
      · rw [if_pos h] at e3; omega
      · rw [if_neg (by omega), if_pos h] at e3; omega
    · exact e3 q.2
  have n23 : tk_w t n c ≠ 23 := fun q => by unfold fo_opL at e4; rw [if_pos q] at e4; omega
  have n24 : tk_w t n c ≠ 24 := fun q => by unfold fo_opL at e4; rw [if_neg n23, if_pos q] at e4; omega
  refine ⟨1, ?_⟩
  unfold rd_run
  rw [if_neg (by omega), if_neg n60, if_neg (by omega), if_neg h41]
  by_cases h59 : d = 0 ∧ tk_k t n c = 59
  · rw [if_pos h59, if_pos h59]
  · rw [if_neg h59, if_neg h59]
theorem fo_fa_k {t : Nat → Int} {n al c : Nat} (h : fo_fa t n al c = true) : 25 ≤ tk_w t n c ∧ tk_w t n c < 30 ∧ tk_k t n c = 1 := by
  unfold fo_fa at h
  have h1 := (Bool.and_eq_true _ _ ▸ h).1
  have h2 := of_decide_eq_true h1
  have h3 := tk_w_k (t := t) (n := n) (c := c) (by omega)
  refine ⟨h2, ?_, h3⟩
  unfold tk_w
  rw [if_pos h3]
  exact (tk_wd_rg _).2
theorem rd_pt {t : Nat → Int} {n al : Nat} (hn : n ≤ 1000) (ht : rz_T t n) : ∀ kk d, d + kk = 5 → ∀ op cm cd k c, c ≤ n → rd_ps t n al d op cm cd k c (fo_pt t n al kk c)
  | 0, d, hd, op, cm, cd, k, c, hc => by
    by_cases hst : fo_st t n al c = true
    · have hr : fo_pt t n al 0 c = (5 + 16 * (c : Int), c, fun _ => 0) := by unfold fo_pt; rw [if_pos hst]
      rw [hr]
      refine ⟨fun _ => ⟨(5 + 16 * (c : Int), cd, k, c), rfl, 1, ?_⟩, fun q => by dsimp only at q; omega⟩
      unfold rd_run
      rw [if_neg (fun q => q hst), if_pos (by omega)]
    · have hr : fo_pt t n al 0 c = (1 + 16 * (c : Int), c, fun _ => 0) := by unfold fo_pt; rw [if_neg hst]
      rw [hr]
      refine ⟨fun _ => ⟨(1 + 16 * (c : Int), cd, k, c), rfl, 1, ?_⟩, fun q => by dsimp only at q; omega⟩
      unfold rd_run
      rw [if_pos hst]
  | kk + 1, d, hd, op, cm, cd, k, c, hc => by
    by_cases hst : fo_st t n al c = true
    case neg =>
      have hr : fo_pt t n al (kk + 1) c = (1 + 16 * (c : Int), c, fun _ => 0) := by unfold fo_pt; rw [if_pos hst]
      rw [hr]
      refine ⟨fun _ => ⟨(1 + 16 * (c : Int), cd, k, c), rfl, 1, ?_⟩, fun q => by dsimp only at q; omega⟩
      unfold rd_run
      rw [if_pos hst]
    case pos =>
    have hcn : c < n := by
      apply Classical.byContradiction
      intro q
      obtain ⟨e1, e2⟩ := tk_end (t := t) (n := n) (c := c) (by omega)
      unfold fo_st fo_fa at hst
      rw [e1, e2] at hst
      simp at hst
    obtain ⟨x1, x2, x3⟩ := tk_nx_rg (t := t) (n := n) hc
    have x3 := x3 hcn
    /- a leaf -/
    have leaf : ∀ (V : fo_V) (v : Int), ¬ (tk_k t n c = 40 ∨ tk_w t n c = 22) → (v = if fo_fa t n al c then tk_w t n c - 24 else 100 + tk_v t n c) → (∀ F M, wk_1 F v (d, M) = some (wk_dl d (V F) M)) → rd_ps t n al d op cm cd k c (0, tk_nx t n c, V) := fun V v ho hv hw => by
      refine ⟨fun q => absurd rfl q, fun _ => ⟨x2, x1, op, cm, ab_put cd k v, k + 1, fun R hr => ?_, fun _ _ => rfl, fun _ _ => rfl, fun i hi => by unfold ab_put; rw [if_neg (by omega)], by omega, by dsimp only; omega, fun F M => ⟨M, ?_, fun _ _ _ => rfl⟩⟩⟩
      · obtain ⟨m, hm⟩ := hr
        refine ⟨m + 1, ?_⟩
        unfold rd_run
        rw [if_neg (fun q => q hst), if_neg (by omega), if_neg ho, ← hv]
        exact hm
      · rw [show k + 1 - k = 1 by omega]
        exact wk_r_1 (by unfold ab_put; rw [if_pos rfl]; exact hw F M)
    by_cases hfa : fo_fa t n al c = true
    · obtain ⟨f1, f2, f3⟩ := fo_fa_k hfa
      have hr : fo_pt t n al (kk + 1) c = (0, tk_nx t n c, fun F => F (tk_w t n c - 25).toNat) := by unfold fo_pt; rw [if_neg (fun q => q hst), if_pos hfa]
      rw [hr]
      refine leaf _ (tk_w t n c - 24) (by omega) (by rw [if_pos hfa]) (fun F M => ?_)
      unfold wk_1
      rw [if_neg (by omega), if_neg (by omega), if_neg (by omega), if_neg (by omega), if_neg (by omega), if_neg (by omega), if_neg (by omega), if_pos (by omega), show tk_w t n c - 24 - 1 = tk_w t n c - 25 by omega]
    by_cases h2 : tk_k t n c = 2
    · have hr : fo_pt t n al (kk + 1) c = (0, tk_nx t n c, fun _ => tk_v t n c) := by unfold fo_pt; rw [if_neg (fun q => q hst), if_neg hfa, if_pos h2]
      rw [hr]
      have hv := tk_v_rg h2 (fun q => (ht c q).1)
      have hw : tk_w t n c = -2 := by unfold tk_w; rw [if_neg (by omega)]
      refine leaf _ (100 + tk_v t n c) (by omega) (by rw [if_neg hfa]) (fun F M => ?_)
      unfold wk_1
      rw [if_neg (by omega), if_neg (by omega), if_neg (by omega), if_neg (by omega), if_neg (by omega), if_neg (by omega), if_pos (by omega), show 100 + tk_v t n c - 100 = tk_v t n c by omega]
    by_cases h40 : tk_k t n c = 40
    · have hw : tk_w t n c = -2 := by unfold tk_w; rw [if_neg (by omega)]
      have hgo : ∀ R, rd_at t n al R (d + 1) true (ab_put op (d + 1) 2) (ab_put cm (d + 1) 0) (ab_put cd k 28) (k + 1) (tk_nx t n c) → rd_at t n al R d true op cm cd k c := fun R hr => by
        obtain ⟨m, hm⟩ := hr
        refine ⟨m + 1, ?_⟩
        unfold rd_run
        rw [if_neg (fun q => q hst), if_neg (by omega), if_pos (by omega), if_neg (by omega), if_neg (by omega)]
        exact hm
      have hts := rd_ts hn (rd_ps.lv (rd_pt (al := al) hn ht kk (d + 1) (by omega)))
      obtain ⟨s1, s2⟩ := hts (ab_put op (d + 1) 2) (ab_put cm (d + 1) 0) (ab_put cd k 28) (k + 1) (tk_nx t n c) x2 (Or.inr (by unfold ab_put; rw [if_pos rfl]; decide)) (fun _ => by unfold ab_put; rw [if_pos rfl])
      have hr : fo_pt t n al (kk + 1) c = (if (fo_ts t n (fo_pt t n al kk) (tk_nx t n c)).1 = 0 then
        (if tk_k t n (fo_ts t n (fo_pt t n al kk) (tk_nx t n c)).2.1 = 41 then (0, tk_nx t n (fo_ts t n (fo_pt t n al kk) (tk_nx t n c)).2.1, (fo_ts t n (fo_pt t n al kk) (tk_nx t n c)).2.2)
        else (1 + 16 * ((fo_ts t n (fo_pt t n al kk) (tk_nx t n c)).2.1 : Int), (fo_ts t n (fo_pt t n al kk) (tk_nx t n c)).2.1, fun _ => 0))
      else fo_ts t n (fo_pt t n al kk) (tk_nx t n c)) := by
        show (if ¬ fo_st t n al c then _ else if fo_fa t n al c then _ else if tk_k t n c = 2 then _ else if tk_k t n c = 40 then _ else _) = _
        rw [if_neg (fun q => q hst), if_neg hfa, if_neg h2, if_pos h40]
      rw [hr]
      clear hr
      generalize fo_ts t n (fo_pt t n al kk) (tk_nx t n c) = r1 at *
      by_cases hs : r1.1 = 0
      · rw [if_pos hs]
        obtain ⟨y1, y2, op1, cm1, cd1, k1, g1, g2, g3, g4, g5, ⟨g6, g6'⟩, g7, g8, g9⟩ := s2 hs
        by_cases h41 : tk_k t n r1.2.1 = 41
        · rw [if_pos h41]
          have hcn1 : r1.2.1 < n := by
            apply Classical.byContradiction
            intro q
            have := (tk_end (t := t) (n := n) (c := r1.2.1) (by omega)).1
            omega
          obtain ⟨u1, u2, u3⟩ := tk_nx_rg (t := t) (n := n) y1
          have u3 := u3 hcn1
          have hw1 : tk_w t n r1.2.1 = -2 := by unfold tk_w; rw [if_neg (by omega)]
          have hop : ∀ i, i ≤ d → op1 i = op i := fun i hi => by rw [g2 i (by omega)]; unfold ab_put; rw [if_neg (by omega)]
          refine ⟨fun q => absurd rfl q, fun _ => ⟨u2, by dsimp only; omega, op1, cm1, ab_put cd1 k1 29, k1 + 1, fun R hr => hgo R (g1 R ?_), hop, fun i hi => by rw [g3 i (by omega)]; unfold ab_put; rw [if_neg (by omega)], fun i hi => ?_, by omega, by dsimp only; omega, fun F M => ?_⟩⟩
          · obtain ⟨m, hm⟩ := hr
            refine ⟨m + 1, ?_⟩
            unfold rd_run
            rw [if_neg (by omega), if_neg (by omega), if_neg (by omega), if_pos ⟨h41, by omega⟩, show d + 1 - 1 = d by omega, rd_pop_cg d hop]
            exact hm
          · unfold ab_put
            rw [if_neg (by omega), g5 i (by omega)]
            unfold ab_put
            rw [if_neg (by omega)]
          · have hM8 : wk_op (d + 1) (bt_up M 8 (d + 1) 0) 8 (d + 1) = 0 := by unfold wk_op; simp (disch := omega) only [bt_up_cell, bt_up_same]
            obtain ⟨M1, r1', b1, b2, b3⟩ := g9 F (wk_op (d + 1) (bt_up M 8 (d + 1) 0)) ⟨⟨⟨by unfold wk_op; simp (disch := omega) only [bt_up_cell, bt_up_same], by unfold wk_op; simp (disch := omega) only [bt_up_cell, bt_up_same], by unfold wk_op; simp (disch := omega) only [bt_up_cell, bt_up_same]⟩, by unfold wk_op; simp (disch := omega) only [bt_up_cell, bt_up_same]⟩, by unfold wk_op; simp (disch := omega) only [bt_up_cell, bt_up_same]⟩ (Or.inr (by rw [hM8, bt_wc (by omega)]; decide))
            refine ⟨wk_te (d + 1) M1, ?_, fun j i hi => ?_⟩
            · have q1 : wk_r F (ab_put cd1 k1 29) 1 k (d, M) = some (d + 1, wk_op (d + 1) (bt_up M 8 (d + 1) 0)) := wk_r_1 (by
                have e : ab_put cd1 k1 29 k = 28 := by
                  unfold ab_put
                  rw [if_neg (by omega), g5 k (by omega)]
                  unfold ab_put
                  rw [if_pos rfl]
                rw [e]
                unfold wk_1
                rw [if_pos (by omega), if_pos (by show d < 6; omega), if_neg (by decide)])
              have q2 : wk_r F (ab_put cd1 k1 29) (k1 - (k + 1)) (k + 1) (d + 1, wk_op (d + 1) (bt_up M 8 (d + 1) 0)) = some (d + 1, M1) := by
                rw [wk_r_cg (cd' := cd1) _ _ _ (fun x h1 h2 => by unfold ab_put; rw [if_neg (by omega)])]
                exact r1'
              have q3 : wk_r F (ab_put cd1 k1 29) 1 k1 (d + 1, M1) = some (wk_dl d (r1.2.2 F) (wk_te (d + 1) M1)) := wk_r_1 (by
                have e : ab_put cd1 k1 29 k1 = 29 := by unfold ab_put; rw [if_pos rfl]
                rw [e]
                unfold wk_1
                rw [if_neg (by omega), if_neg (by omega), if_neg (by omega), if_neg (by omega), if_neg (by omega), if_pos rfl, if_pos (by show 0 < d + 1; omega)]
                show some (wk_dl (d + 1 - 1) (wk_v (d + 1) M1) (wk_te (d + 1) M1)) = _
                rw [b1]
                rfl)
              rw [show k1 + 1 - k = 1 + ((k1 - (k + 1)) + 1) by omega, wk_r_add _ _ _ _ _ q1, wk_r_add _ _ _ _ _ q2, show k + 1 + (k1 - (k + 1)) = k1 by omega]
              exact q3
            · unfold wk_te wk_su
              rw [bt_upe, if_neg (by omega), bt_upe, if_neg (by omega), bt_upe, if_neg (by omega), bt_upe, if_neg (by omega), bt_upe, if_neg (by omega), bt_upe, if_neg (by omega), b3 j i (by omega)]
              unfold wk_op
              rw [bt_upe, if_neg (by omega), bt_upe, if_neg (by omega), bt_upe, if_neg (by omega), bt_upe, if_neg (by omega), bt_upe, if_neg (by omega), bt_upe, if_neg (by omega)]
        · rw [if_neg h41]
          refine ⟨fun _ => ?_, fun q => by dsimp only at q; omega⟩
          have hst := rd_stop (t := t) (n := n) (al := al) (d := d + 1) (op := op1) (cm := cm1) (cd := cd1) (k := k1) (c := r1.2.1) g8 (fun q => h41 q.1)
          rw [if_neg (by omega)] at hst
          exact ⟨_, rfl, hgo _ (g1 _ hst)⟩
      · rw [if_neg hs]
        refine ⟨fun q => ?_, fun q => absurd q hs⟩
        obtain ⟨R, e1, e2⟩ := s1 hs
        exact ⟨R, e1, hgo R e2⟩
    · /- not -/
      have hw : tk_w t n c = 22 := by
        unfold fo_st at hst
        rw [Bool.eq_false_iff.mpr hfa, decide_eq_false h40, decide_eq_false h2] at hst
        simpa using hst
      have hgo : ∀ R, rd_at t n al R (d + 1) true (ab_put op (d + 1) 1) (ab_put cm (d + 1) 0) (ab_put cd k 30) (k + 1) (tk_nx t n c) → rd_at t n al R d true op cm cd k c := fun R hr => by
        obtain ⟨m, hm⟩ := hr
        refine ⟨m + 1, ?_⟩
        unfold rd_run
        rw [if_neg (fun q => q hst), if_neg (by omega), if_pos (by omega), if_pos hw, if_pos hw]
        exact hm
      obtain ⟨s1, s2⟩ := rd_pt hn ht kk (d + 1) (by omega) (ab_put op (d + 1) 1) (ab_put cm (d + 1) 0) (ab_put cd k 30) (k + 1) (tk_nx t n c) x2
      have hr : fo_pt t n al (kk + 1) c = (if (fo_pt t n al kk (tk_nx t n c)).1 = 0 then (0, (fo_pt t n al kk (tk_nx t n c)).2.1, fun F => fo_nt ((fo_pt t n al kk (tk_nx t n c)).2.2 F)) else fo_pt t n al kk (tk_nx t n c)) := by
        show (if ¬ fo_st t n al c then _ else if fo_fa t n al c then _ else if tk_k t n c = 2 then _ else if tk_k t n c = 40 then _ else _) = _
        rw [if_neg (fun q => q hst), if_neg hfa, if_neg h2, if_neg h40]
      rw [hr]
      clear hr
      generalize fo_pt t n al kk (tk_nx t n c) = r1 at *
      by_cases hs : r1.1 = 0
      · rw [if_pos hs]
        obtain ⟨y1, y2, op1, cm1, cd1, k1, g1, g2, g3, g4, g5, g6, g7⟩ := s2 hs
        have hpop : rd_pop (ab_put op (d + 1) 1) (d + 1) = rd_pop op d := by
          show (if ab_put op (d + 1) 1 (d + 1) = 1 then rd_pop (ab_put op (d + 1) 1) d else d + 1) = _
          rw [if_pos (by unfold ab_put; rw [if_pos rfl])]
          exact rd_pop_cg d (fun i hi => by unfold ab_put; rw [if_neg (by omega)])
        rw [hpop] at g1
        refine ⟨fun q => absurd rfl q, fun _ => ⟨y1, by dsimp only; omega, op1, cm1, cd1, k1, fun R hr => hgo R (g1 R hr), fun i hi => by rw [g2 i (by omega)]; unfold ab_put; rw [if_neg (by omega)], fun i hi => by rw [g3 i (by omega)]; unfold ab_put; rw [if_neg (by omega)], fun i hi => by rw [g4 i (by omega)]; unfold ab_put; rw [if_neg (by omega)], by omega, by dsimp only; omega, fun F M => ?_⟩⟩
        obtain ⟨M1, r1', b1⟩ := g7 F (wk_op (d + 1) (bt_up M 8 (d + 1) 1))
        have hM8 : wk_op (d + 1) (bt_up M 8 (d + 1) 1) 8 (d + 1) = 1 := by unfold wk_op; simp (disch := omega) only [bt_up_cell, bt_up_same]
        have hdl : wk_dl (d + 1) (r1.2.2 F) M1 = wk_dl d (fo_nt (r1.2.2 F)) M1 := by
          show (if bt_w (M1 8 (d + 1)) = 1 then wk_dl d (fo_nt (r1.2.2 F)) M1 else _) = _
          rw [if_pos (by rw [b1 8 (d + 1) (Nat.le_refl _), hM8, bt_wc (by omega)])]
        rw [hdl] at r1'
        refine ⟨M1, ?_, fun j i hi => ?_⟩
        · have q1 : wk_r F cd1 1 k (d, M) = some (d + 1, wk_op (d + 1) (bt_up M 8 (d + 1) 1)) := wk_r_1 (by
            have e : cd1 k = 30 := by
              rw [g4 k (by omega)]
              unfold ab_put
              rw [if_pos rfl]
            rw [e]
            unfold wk_1
            rw [if_pos (by omega), if_pos (by show d < 6; omega), if_pos rfl])
          rw [show k1 - k = 1 + (k1 - (k + 1)) by omega, wk_r_add _ _ _ _ _ q1]
          exact r1'
        · rw [b1 j i (by omega)]
          unfold wk_op
          rw [bt_upe, if_neg (by omega), bt_upe, if_neg (by omega), bt_upe, if_neg (by omega), bt_upe, if_neg (by omega), bt_upe, if_neg (by omega), bt_upe, if_neg (by omega)]
      · rw [if_neg hs]
        refine ⟨fun q => ?_, fun q => absurd q hs⟩
        obtain ⟨R, e1, e2⟩ := s1 hs
        exact ⟨R, e1, hgo R e2⟩
/-- a law, to its end -/
def rd_F (t : Nat → Int) (n : Nat) (r : fo_R) : Int := if r.1 ≠ 0 then r.1 else if tk_k t n r.2.1 = 59 then 0 else 1 + 16 * (r.2.1 : Int)
theorem rd_law {t : Nat → Int} {n al c k : Nat} {op cm cd : Nat → Int} (hn : n ≤ 1000) (ht : rz_T t n) (hc : c ≤ n) : ∃ R : rd_R, rd_at t n al R 0 true op (ab_put cm 0 0) cd k c ∧ R.1 = rd_F t n (fo_ts t n (fo_pt t n al 5) c) ∧ (R.1 = 0 → R.2.2.2 = tk_nx t n (fo_ts t n (fo_pt t n al 5) c).2.1 ∧ (∀ i, i < k → R.2.1 i = cd i) ∧ k < R.2.2.1 ∧ R.2.2.1 + c ≤ k + (fo_ts t n (fo_pt t n al 5) c).2.1 ∧ wk_ok R.2.1 k R.2.2.1 (fo_ts t n (fo_pt t n al 5) c).2.2) := by
  have hts := rd_ts hn (rd_ps.lv (rd_pt (al := al) hn ht 5 0 (by omega)))
  obtain ⟨s1, s2⟩ := hts op (ab_put cm 0 0) cd k c hc (Or.inl rfl) (fun _ => by unfold ab_put; rw [if_pos rfl])
  generalize fo_ts t n (fo_pt t n al 5) c = r1 at *
  unfold rd_F
  by_cases hs : r1.1 = 0
  · obtain ⟨y1, y2, op1, cm1, cd1, k1, g1, g2, g3, g4, g5, ⟨g6, g6'⟩, g7, g8, g9⟩ := s2 hs
    have hst := rd_stop (t := t) (n := n) (al := al) (d := 0) (op := op1) (cm := cm1) (cd := cd1) (k := k1) (c := r1.2.1) g8 (by omega)
    rw [if_neg (fun q => q hs)]
    by_cases h59 : tk_k t n r1.2.1 = 59
    · rw [if_pos ⟨rfl, h59⟩] at hst
      rw [if_pos h59]
      refine ⟨_, g1 _ hst, rfl, fun _ => ⟨rfl, g5, g6' rfl, g7, fun F M => ?_⟩⟩
      obtain ⟨M1, r1', b1, b2, b3⟩ := g9 F (wk_op 0 M) ⟨⟨⟨by unfold wk_op; simp (disch := omega) only [bt_up_cell, bt_up_same], by unfold wk_op; simp (disch := omega) only [bt_up_cell, bt_up_same], by unfold wk_op; simp (disch := omega) only [bt_up_cell, bt_up_same]⟩, by unfold wk_op; simp (disch := omega) only [bt_up_cell, bt_up_same]⟩, by unfold wk_op; simp (disch := omega) only [bt_up_cell, bt_up_same]⟩ (Or.inl rfl)
      exact ⟨M1, r1', b1⟩
    · rw [if_neg (fun q => h59 q.2)] at hst
      rw [if_neg h59]
      exact ⟨_, g1 _ hst, rfl, fun q => by dsimp only at q; omega⟩
  · obtain ⟨R, e1, e2⟩ := s1 hs
    rw [if_pos hs]
    exact ⟨R, e2, e1, fun q => absurd (e1.symm.trans q) hs⟩
