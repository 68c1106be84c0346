/-! products, sums, tests -/
def wk_lo (d : Nat) (M M' : Nat → Nat → Int) : Prop := ∀ j i, i < d → M' j i = M j i
def wB_pt (d : Nat) (M M' : Nat → Nat → Int) (v : Int) : Prop := M' 6 d = (if bt_w (M 7 d) = 0 then v else M 6 d * v) ∧ (∀ j, j ≠ 6 → M' j d = M j d) ∧ wk_lo d M M'
def wA_pr (d : Nat) (M : Nat → Nat → Int) : Prop := M 7 d = 0
def wB_pr (d : Nat) (M M' : Nat → Nat → Int) (v : Int) : Prop := M' 6 d = v ∧ (∀ j, j ≠ 6 → j ≠ 7 → M' j d = M j d) ∧ wk_lo d M M'
def wA_su (d : Nat) (M : Nat → Nat → Int) : Prop := M 4 d = 0 ∧ M 5 d = 20 ∧ M 7 d = 0
def wB_su (d : Nat) (M M' : Nat → Nat → Int) (v : Int) : Prop := wk_sv d M' = v ∧ (∀ j, j < 4 ∨ j = 8 → M' j d = M j d) ∧ wk_lo d M M'
def wA_te (d : Nat) (M : Nat → Nat → Int) : Prop := wA_su d M ∧ M 3 d = 0
def wB_te (d : Nat) (M M' : Nat → Nat → Int) (v : Int) : Prop := wk_v1 d M' = v ∧ (∀ j, j < 2 ∨ j = 8 → M' j d = M j d) ∧ wk_lo d M M'
def wA_ts (d : Nat) (M : Nat → Nat → Int) : Prop := wA_te d M ∧ M 1 d = 0
def wB_ts (d : Nat) (M M' : Nat → Nat → Int) (v : Int) : Prop := wk_v d M' = v ∧ M' 8 d = M 8 d ∧ wk_lo d M M'
theorem bt_wc {x : Int} (h : 0 ≤ x ∧ x ≤ 100) : bt_w x = x := bt_w_id (by omega) (by omega)
theorem wk_lo.up {d j : Nat} {x : Int} {M M' : Nat → Nat → Int} (h : wk_lo d M M') : wk_lo d M (bt_up M' j d x) := fun a i hi => by rw [bt_upe, if_neg (by omega)]; exact h a i hi
theorem wk_lo.tr {d : Nat} {a b c : Nat → Nat → Int} (h : wk_lo d a b) (h' : wk_lo d b c) : wk_lo d a c := fun j i hi => (h' j i hi).trans (h j i hi)
theorem tk_end {t : Nat → Int} {n c : Nat} (h : n ≤ c) : tk_k t n c = 0 ∧ tk_w t n c = -2 := by
  have hk : tk_k t n c = 0 := by unfold tk_k; rw [if_pos h]
  exact ⟨hk, by unfold tk_w; rw [if_neg (by omega)]⟩
def rd_cT (_ : Nat) : Int := 22
def rd_cS (t : Nat → Int) (n c : Nat) : Int := if tk_k t n c = 43 then 20 else 21
def rd_cC (t : Nat → Int) (n c : Nat) : Int := if tk_k t n c = 60 then 24 else 25
def rd_cL (t : Nat → Int) (n c : Nat) : Int := if tk_w t n c = 23 then 26 else 27
def rd_Ep (_ : Nat) (_ : Int) : Prop := True
theorem rd_pr {t : Nat → Int} {n al d : Nat} {pt : fo_P} (hn : n ≤ 1000) (h : rd_lv t n al pt d false (fun _ => True) (wB_pt d) rd_Ep) : rd_lv t n al (fo_pr t n pt) d false (wA_pr d) (wB_pr d) (fun c x => rd_Ep c x ∧ fo_opT t n c = 0) := by
  refine rd_cn (cf := rd_cT) hn h (fun c hc => by unfold fo_opT; rw [(tk_end hc).1]; rfl) (fun R op cm cd k c ho hr => ?_) (fun _ _ => trivial) (fun M M' v a b => ?_) (fun M M' v b => b.2.1 8 (by decide) (by decide)) (fun c ho F M M1 v a b => ?_)
  · have hk : tk_k t n c = 42 := Classical.byContradiction (fun q => ho (by unfold fo_opT; rw [if_neg q]))
    obtain ⟨m, hm⟩ := hr
    refine ⟨m + 1, ?_⟩
    unfold rd_run
    rw [if_pos (by omega), if_neg (by omega), if_neg (by omega)]
    exact hm
  · obtain ⟨b1, b2, b3⟩ := b
    have a' : M 7 d = 0 := a
    rw [a', bt_wc (by omega), if_pos rfl] at b1
    exact ⟨b1, fun j h1 _ => b2 j h1, b3⟩
  · have hk : tk_k t n c = 42 := Classical.byContradiction (fun q => ho (by unfold fo_opT; rw [if_neg q]))
    obtain ⟨b1, b2, b3⟩ := b
    refine ⟨bt_up M1 7 d 22, ?_, trivial, by rw [bt_up_cell (by decide)], fun M3 v2 b' => ?_⟩
    · unfold wk_1 rd_cT
      rw [if_neg (by omega), if_neg (by omega), if_pos rfl]
    · obtain ⟨c1, c2, c3⟩ := b'
      rw [bt_up_same, bt_wc (by omega), if_neg (by decide), bt_up_cell (by decide), b1] at c1
      have hj : fo_jn (fo_opT t n c) v v2 = v * v2 := by unfold fo_opT; rw [if_pos hk]; rfl
      rw [hj]
      exact ⟨c1, fun j h1 h2 => by rw [c2 j h1, bt_up_cell h2]; exact b2 j h1 h2, fun j i hi => by rw [c3 j i hi, bt_upe, if_neg (by omega)]; exact b3 j i hi⟩
theorem rd_su {t : Nat → Int} {n al d : Nat} {pt : fo_P} (hn : n ≤ 1000) (h : rd_lv t n al pt d false (fun _ => True) (wB_pt d) rd_Ep) : rd_lv t n al (fo_su t n pt) d false (wA_su d) (wB_su d) (fun c x => (rd_Ep c x ∧ fo_opT t n c = 0) ∧ fo_opS t n c = 0) := by
  have hkS : ∀ c, fo_opS t n c ≠ 0 → (tk_k t n c = 43 ∧ fo_opS t n c = -15 ∧ rd_cS t n c = 20) ∨ (tk_k t n c = 45 ∧ fo_opS t n c = -16 ∧ rd_cS t n c = 21) := fun c ho => by
    unfold fo_opS rd_cS at *
    by_cases h43 : tk_k t n c = 43
    · exact Or.inl ⟨h43, by rw [if_pos h43], by rw [if_pos h43]⟩
    · rw [if_neg h43] at ho ⊢
      by_cases h45 : tk_k t n c = 45
      · exact Or.inr ⟨h45, by rw [if_pos h45], by rw [if_neg h43]⟩
      · exact absurd (if_neg h45) ho
  refine rd_cn (cf := rd_cS t n) hn (rd_pr hn h) (fun c hc => by unfold fo_opS; rw [(tk_end hc).1]; rfl) (fun R op cm cd k c ho hr => ?_) (fun _ a => a.2.2) (fun M M' v a b => ?_) (fun M M' v b => b.2.1 8 (by omega)) (fun c ho F M M1 v a b => ?_)
  · obtain ⟨m, hm⟩ := hr
    refine ⟨m + 1, ?_⟩
    unfold rd_run
    rcases hkS c ho with ⟨h1, -, h2⟩ | ⟨h1, -, h2⟩
    · rw [if_pos (by omega), if_pos h1]
      rw [h2] at hm
      exact hm
    · rw [if_pos (by omega), if_neg (by omega), if_pos h1]
      rw [h2] at hm
      exact hm
  · obtain ⟨b1, b2, b3⟩ := b
    obtain ⟨a1, a2, a3⟩ := a
    refine ⟨?_, fun j hj => b2 j (by omega) (by omega), b3⟩
    unfold wk_sv
    rw [b2 5 (by decide) (by decide), a2, bt_wc (by omega), if_neg (by decide), b2 4 (by decide) (by decide), a1, b1, Int.zero_add]
  · obtain ⟨b1, b2, b3⟩ := b
    have hcc : rd_cS t n c = 20 ∨ rd_cS t n c = 21 := by rcases hkS c ho with ⟨-, -, h2⟩ | ⟨-, -, h2⟩ <;> omega
    refine ⟨bt_up (wk_su d M1) 5 d (rd_cS t n c), ?_, ?_, ?_, fun M3 v2 b' => ?_⟩
    · unfold wk_1
      rw [if_neg (by omega), if_pos hcc]
    · unfold wA_pr wk_su
      rw [bt_up_cell (by decide), bt_up_same]
    · unfold wk_su
      rw [bt_up_cell (by decide), bt_up_cell (by decide), bt_up_cell (by decide)]
    · obtain ⟨c1, c2, c3⟩ := b'
      have k5 : M3 5 d = rd_cS t n c := by rw [c2 5 (by decide) (by decide), bt_up_same]
      have k4 : M3 4 d = v := by
        rw [c2 4 (by decide) (by decide), bt_up_cell (by decide)]
        unfold wk_su
        rw [bt_up_cell (by decide), bt_up_same]
        exact b1
      refine ⟨?_, fun j hj => ?_, fun j i hi => ?_⟩
      · unfold wk_sv
        rw [k5, k4, c1]
        rcases hkS c ho with ⟨-, h1, h2⟩ | ⟨-, h1, h2⟩
        · rw [h2, h1, bt_wc (by omega), if_neg (by decide)]; rfl
        · rw [h2, h1, bt_wc (by omega), if_pos rfl]; rfl
      · rw [c2 j (by omega) (by omega), bt_up_cell (by omega)]
        unfold wk_su
        rw [bt_up_cell (by omega), bt_up_cell (by omega)]
        exact b2 j hj
      · rw [c3 j i hi]
        unfold wk_su
        rw [bt_upe, if_neg (by omega), bt_upe, if_neg (by omega), bt_upe, if_neg (by omega)]
        exact b3 j i hi
def rd_Et (t : Nat → Int) (n : Nat) (c : Nat) (x : Int) : Prop := (fo_opT t n c = 0 ∧ fo_opS t n c = 0) ∧ (fo_opC t n c = 0 ∨ x ≠ 0)
theorem rd_te {t : Nat → Int} {n al d : Nat} {pt : fo_P} (hn : n ≤ 1000) (h : rd_lv t n al pt d false (fun _ => True) (wB_pt d) rd_Ep) : rd_lv t n al (fo_te t n pt) d true (wA_te d) (wB_te d) (rd_Et t n) := fun op cm cd k c hc hop hz => by
  have hcm := hz rfl
  have hsu := rd_su hn h
  obtain ⟨s1, s2⟩ := hsu op cm cd k c hc hop (fun q => by cases q)
  by_cases hs : (fo_su t n pt c).1 = 0
  · obtain ⟨y1, y2, op1, cm1, cd1, k1, g1, g2, g3, g4, g5, ⟨g6, g6'⟩, g7, g8, g9⟩ := s2 hs
    have g6' := g6' rfl
    have g4 := g4 rfl
    by_cases ho : fo_opC t n (fo_su t n pt c).2.1 = 0
    · have hr : fo_te t n pt c = fo_su t n pt c := by unfold fo_te; rw [if_neg (fun q => q.2 ho)]
      rw [hr]
      refine ⟨s1, fun _ => ⟨y1, y2, op1, cm1, cd1, k1, g1, g2, g3, fun q => (by cases q), g5, ⟨g6, fun _ => g6'⟩, g7, ⟨⟨g8.1.2, g8.2⟩, Or.inl ho⟩, fun F M a b => ?_⟩⟩
      obtain ⟨M1, r1, b1, b2, b3⟩ := g9 F M a.1 b
      refine ⟨M1, r1, ?_, fun j hj => b2 j (by omega), b3⟩
      unfold wk_v1
      rw [b2 3 (by omega), a.2, bt_wc (by omega), if_neg (by decide), if_neg (by decide)]
      exact b1
    · have hkC : (tk_k t n (fo_su t n pt c).2.1 = 60 ∧ fo_opC t n (fo_su t n pt c).2.1 = -13 ∧ rd_cC t n (fo_su t n pt c).2.1 = 24) ∨ (tk_k t n (fo_su t n pt c).2.1 = 61 ∧ fo_opC t n (fo_su t n pt c).2.1 = -14 ∧ rd_cC t n (fo_su t n pt c).2.1 = 25) := by
        unfold fo_opC rd_cC at *
        by_cases h60 : tk_k t n (fo_su t n pt c).2.1 = 60
        · exact Or.inl ⟨h60, by rw [if_pos h60], by rw [if_pos h60]⟩
        · rw [if_neg h60] at ho ⊢
          by_cases h61 : tk_k t n (fo_su t n pt c).2.1 = 61
          · exact Or.inr ⟨h61, by rw [if_pos h61], by rw [if_neg h60]⟩
          · exact absurd (if_neg h61) ho
      have hdef : fo_te t n pt c = (if (fo_su t n pt (tk_nx t n (fo_su t n pt c).2.1)).1 = 0 then (0, (fo_su t n pt (tk_nx t n (fo_su t n pt c).2.1)).2.1, fun F => fo_jn (fo_opC t n (fo_su t n pt c).2.1) ((fo_su t n pt c).2.2 F) ((fo_su t n pt (tk_nx t n (fo_su t n pt c).2.1)).2.2 F)) else fo_su t n pt (tk_nx t n (fo_su t n pt c).2.1)) := by
        unfold fo_te; rw [if_pos ⟨hs, ho⟩]
      rw [hdef]
      generalize fo_su t n pt c = r1 at *
      obtain ⟨x1, x2, x3⟩ := tk_nx_rg (t := t) (n := n) y1
      have hcn : r1.2.1 < n := by
        apply Classical.byContradiction
        intro q
        have := (tk_end (t := t) (n := n) (c := r1.2.1) (by omega)).1
        omega
      have x3 := x3 hcn
      have hw : tk_w t n r1.2.1 = -2 := by unfold tk_w; rw [if_neg (by omega)]
      have hgo : ∀ R, rd_at t n al R d true op1 (ab_put cm1 d 1) (ab_put cd1 k1 (rd_cC t n r1.2.1)) (k1 + 1) (tk_nx t n r1.2.1) → rd_at t n al R d true op cm cd k c := fun R hr => by
        apply g1
        obtain ⟨m, hm⟩ := hr
        refine ⟨m + 1, ?_⟩
        unfold rd_run
        rw [if_neg (by omega), if_pos ⟨by omega, by rw [g4]; exact hcm⟩]
        exact hm
      obtain ⟨s3, s4⟩ := hsu op1 (ab_put cm1 d 1) (ab_put cd1 k1 (rd_cC t n r1.2.1)) (k1 + 1) (tk_nx t n r1.2.1) x2 (by rw [g2 d (Nat.le_refl d)]; exact hop) (fun q => by cases q)
      by_cases hs2 : (fo_su t n pt (tk_nx t n r1.2.1)).1 = 0
      · rw [if_pos hs2]
        obtain ⟨z1, z2, op2, cm2, cd2, k2, w1, w2, w3, w4, w5, ⟨w6, w6'⟩, w7, w8, w9⟩ := s4 hs2
        have w6' := w6' rfl
        have w4 : cm2 d = 1 := by rw [w4 rfl]; unfold ab_put; rw [if_pos rfl]
        refine ⟨fun q => absurd rfl q, fun _ => ⟨z1, by dsimp only; omega, op2, cm2, cd2, k2, fun R hr => hgo R (w1 R hr), fun i hi => (w2 i hi).trans (g2 i hi), fun i hi => ?_, fun q => (by cases q), fun i hi => ?_, ⟨by omega, fun _ => by omega⟩, by dsimp only; omega, ⟨⟨w8.1.2, w8.2⟩, Or.inr (by omega)⟩, fun F M a b => ?_⟩⟩
        · rw [w3 i hi]; unfold ab_put; rw [if_neg (by omega)]; exact g3 i hi
        · rw [w5 i (by omega)]; unfold ab_put; rw [if_neg (by omega)]; exact g5 i hi
        · obtain ⟨M1, r1', b1, b2, b3⟩ := g9 F M a.1 b
          have hcc : rd_cC t n r1.2.1 = 24 ∨ rd_cC t n r1.2.1 = 25 := hkC.elim (fun z => Or.inl z.2.2) (fun z => Or.inr z.2.2)
          have hst : wk_1 F (rd_cC t n r1.2.1) (d, M1) = some (d, bt_up (bt_up (bt_up (bt_up (wk_su d M1) 2 d (wk_sv d M1)) 3 d (rd_cC t n r1.2.1)) 4 d 0) 5 d 20) := by
            unfold wk_1
            rw [if_neg (by omega), if_neg (by omega), if_neg (by omega), if_pos hcc]
          generalize hM2 : bt_up (bt_up (bt_up (bt_up (wk_su d M1) 2 d (wk_sv d M1)) 3 d (rd_cC t n r1.2.1)) 4 d 0) 5 d 20 = M2 at *
          have m2 : M2 2 d = r1.2.2 F := by rw [← hM2, bt_up_cell (by decide), bt_up_cell (by decide), bt_up_cell (by decide), bt_up_same]; exact b1
          have m3 : M2 3 d = rd_cC t n r1.2.1 := by rw [← hM2, bt_up_cell (by decide), bt_up_cell (by decide), bt_up_same]
          have m4 : M2 4 d = 0 := by rw [← hM2, bt_up_cell (by decide), bt_up_same]
          have m5 : M2 5 d = 20 := by rw [← hM2, bt_up_same]
          have m7 : M2 7 d = 0 := by rw [← hM2, bt_up_cell (by decide), bt_up_cell (by decide), bt_up_cell (by decide), bt_up_cell (by decide)]; unfold wk_su; rw [bt_up_same]
          have mj : ∀ j, j < 2 ∨ j = 8 → M2 j d = M1 j d := fun j hj => by rw [← hM2, bt_up_cell (by omega), bt_up_cell (by omega), bt_up_cell (by omega), bt_up_cell (by omega)]; unfold wk_su; rw [bt_up_cell (by omega), bt_up_cell (by omega)]
          have ml : wk_lo d M1 M2 := fun j i hi => by rw [← hM2]; unfold wk_su; rw [bt_upe, if_neg (by omega), bt_upe, if_neg (by omega), bt_upe, if_neg (by omega), bt_upe, if_neg (by omega), bt_upe, if_neg (by omega), bt_upe, if_neg (by omega)]
          obtain ⟨M3, r3, c1, c2, c3⟩ := w9 F M2 ⟨m4, m5, m7⟩ (by rw [mj 8 (by omega), b2 8 (by omega)]; exact b)
          refine ⟨M3, ?_, ?_, fun j hj => by rw [c2 j (by omega), mj j hj]; exact b2 j (by omega), (b3.tr ml).tr c3⟩
          · have q1 : wk_r F cd2 (k1 - k) k (d, M) = some (d, M1) := by
              rw [wk_r_cg (cd' := cd1) (k1 - k) k (d, M) (fun x h1 h2 => by rw [w5 x (by omega)]; unfold ab_put; rw [if_neg (by omega)])]
              exact r1'
            have q2 : wk_r F cd2 1 k1 (d, M1) = some (d, M2) := wk_r_1 (by rw [w5 k1 (by omega)]; unfold ab_put; rw [if_pos rfl]; exact hst)
            rw [show k2 - k = (k1 - k) + (1 + (k2 - (k1 + 1))) by omega, wk_r_add _ _ _ _ _ q1, show k + (k1 - k) = k1 by omega, wk_r_add _ _ _ _ _ q2]
            exact r3
          · unfold wk_v1
            rw [c2 3 (by omega), m3, c2 2 (by omega), m2, c1]
            rcases hkC with ⟨-, h1, h2⟩ | ⟨-, h1, h2⟩
            · rw [h2, h1, bt_wc (by omega), if_pos rfl]; rfl
            · rw [h2, h1, bt_wc (by omega), if_neg (by decide), if_pos rfl]; rfl
      · rw [if_neg hs2]
        refine ⟨fun q => ?_, fun q => absurd q hs2⟩
        obtain ⟨R, e1, e2⟩ := s3 q
        exact ⟨R, e1, hgo R e2⟩
  · have hr : fo_te t n pt c = fo_su t n pt c := by unfold fo_te; rw [if_neg (fun q => hs q.1)]
    rw [hr]
    exact ⟨s1, fun q => absurd q hs⟩
theorem rd_ts {t : Nat → Int} {n al d : Nat} {pt : fo_P} (hn : n ≤ 1000) (h : rd_lv t n al pt d false (fun _ => True) (wB_pt d) rd_Ep) : rd_lv t n al (fo_ts t n pt) d true (wA_ts d) (wB_ts d) (fun c x => rd_Et t n c x ∧ fo_opL t n c = 0) := by
  have hkL : ∀ c, fo_opL t n c ≠ 0 → (tk_w t n c = 23 ∧ fo_opL t n c = -11 ∧ rd_cL t n c = 26) ∨ (tk_w t n c = 24 ∧ fo_opL t n c = -12 ∧ rd_cL t n c = 27) := fun c ho => by
    unfold fo_opL rd_cL at *
    by_cases h43 : tk_w t n c = 23
    · exact Or.inl ⟨h43, by rw [if_pos h43], by rw [if_pos h43]⟩
    · rw [if_neg h43] at ho ⊢
      by_cases h45 : tk_w t n c = 24
      · exact Or.inr ⟨h45, by rw [if_pos h45], by rw [if_neg h43]⟩
      · exact absurd (if_neg h45) ho
  refine rd_cn (cf := rd_cL t n) hn (rd_te hn h) (fun c hc => by unfold fo_opL; rw [(tk_end hc).2]; rfl) (fun R op cm cd k c ho hr => ?_) (fun _ a => a.1) (fun M M' v a b => ?_) (fun M M' v b => b.2.1) (fun c ho F M M1 v a b => ?_)
  · obtain ⟨m, hm⟩ := hr
    refine ⟨m + 1, ?_⟩
    have hk1 : tk_k t n c = 1 := tk_w_k (by rcases hkL c ho with ⟨h1, -⟩ | ⟨h1, -⟩ <;> omega)
    unfold rd_run
    rcases hkL c ho with ⟨h1, -, h2⟩ | ⟨h1, -, h2⟩
    · rw [if_neg (by omega), if_neg (by omega), if_pos (by omega), if_pos h1]
      rw [h2] at hm
      exact hm
    · rw [if_neg (by omega), if_neg (by omega), if_pos (by omega), if_neg (by omega)]
      rw [h2] at hm
      exact hm
  · obtain ⟨b1, b2, b3⟩ := b
    refine ⟨?_, b2 8 (by omega), b3⟩
    unfold wk_v
    rw [b2 1 (by omega), a.2, bt_wc (by omega), if_neg (by decide), if_neg (by decide)]
    exact b1
  · obtain ⟨b1, b2, b3⟩ := b
    have hcc : rd_cL t n c = 26 ∨ rd_cL t n c = 27 := by rcases hkL c ho with ⟨-, -, h2⟩ | ⟨-, -, h2⟩ <;> omega
    refine ⟨bt_up (wk_te d M1) 1 d (rd_cL t n c), ?_, ⟨⟨?_, ?_, ?_⟩, ?_⟩, ?_, fun M3 v2 b' => ?_⟩
    · unfold wk_1
      rw [if_neg (by omega), if_neg (by omega), if_neg (by omega), if_neg (by omega), if_pos hcc]
    · unfold wk_te; simp (disch := omega) only [bt_up_cell, bt_up_same]
    · unfold wk_te; simp (disch := omega) only [bt_up_cell, bt_up_same]
    · unfold wk_te wk_su; simp (disch := omega) only [bt_up_cell, bt_up_same]
    · unfold wk_te; simp (disch := omega) only [bt_up_cell, bt_up_same]
    · unfold wk_te wk_su; simp (disch := omega) only [bt_up_cell]
    · obtain ⟨c1, c2, c3⟩ := b'
      have k1 : M3 1 d = rd_cL t n c := by rw [c2 1 (by omega), bt_up_same]
      have k0 : M3 0 d = v := by
        rw [c2 0 (by omega), bt_up_cell (by decide)]
        unfold wk_te
        simp (disch := omega) only [bt_up_cell, bt_up_same]
        exact b1
      refine ⟨?_, ?_, fun j i hi => ?_⟩
      · unfold wk_v
        rw [k1, k0, c1]
        rcases hkL c ho with ⟨-, h1, h2⟩ | ⟨-, h1, h2⟩
        · rw [h2, h1, bt_wc (by omega), if_pos rfl]; rfl
        · rw [h2, h1, bt_wc (by omega), if_neg (by decide), if_pos rfl]; rfl
      · rw [c2 8 (by omega)]
        unfold wk_te wk_su
        simp (disch := omega) only [bt_up_cell]
        exact b2
      · rw [c3 j i hi]
        unfold wk_te wk_su
        rw [bt_upe, if_neg (by omega), bt_upe, if_neg (by omega), bt_upe, if_neg (by omega), bt_upe, if_neg (by omega), bt_upe, if_neg (by omega), bt_upe, if_neg (by omega), bt_upe, if_neg (by omega)]
        exact b3 j i hi
