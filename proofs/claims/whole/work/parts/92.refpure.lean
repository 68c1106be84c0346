/-! a law read by the machine, and as the class reads it -/
theorem wk_r_add {F cd : Nat → Int} (b : Nat) : ∀ a i q q1, wk_r F cd a i q = some q1 → wk_r F cd (a + b) i q = wk_r F cd b (i + a) q1
  | 0, i, q, q1, h => by
    have := Option.some.inj h
    subst this
    rw [Nat.zero_add, Nat.add_zero]
  | a + 1, i, q, q1, h => by
    obtain ⟨q', h1, h2⟩ := wk_r_s h
    rw [show a + 1 + b = (a + b) + 1 by omega]
    show (match wk_1 F (cd i) q with
      | none => none
      | some q' => wk_r F cd (a + b) (i + 1) q') = _
    rw [h1]
    show wk_r F cd (a + b) (i + 1) q' = _
    rw [wk_r_add b a (i + 1) q' q1 h2, show i + 1 + a = i + (a + 1) by omega]
theorem wk_r_cg {F cd cd' : Nat → Int} : ∀ a i q, (∀ x, i ≤ x → x < i + a → cd x = cd' x) → wk_r F cd a i q = wk_r F cd' a i q
  | 0, _, _, _ => rfl
  | a + 1, i, q, h => by
    unfold wk_r
    rw [h i (by omega) (by omega)]
    cases wk_1 F (cd' i) q with
    | none => rfl
    | some q' => exact wk_r_cg a (i + 1) q' (fun x h1 h2 => h x (by omega) (by omega))
theorem wk_r_1 {F cd : Nat → Int} {i : Nat} {q q' : wk_Q} (h : wk_1 F (cd i) q = some q') : wk_r F cd 1 i q = some q' := by
  unfold wk_r
  rw [h]
  rfl
def rd_at (t : Nat → Int) (n al : Nat) (R : rd_R) (d : Nat) (g : Bool) (op cm cd : Nat → Int) (k c : Nat) : Prop := ∃ m, rd_run t n al m d g op cm cd k c = some R
def rd_sg (cd : Nat → Int) (k k' d : Nat) (A : (Nat → Nat → Int) → Prop) (B : (Nat → Nat → Int) → (Nat → Nat → Int) → Int → Prop) (V : fo_V) : Prop := ∀ F M, A M → (d = 0 ∨ bt_w (M 8 d) ≠ 1) → ∃ M', wk_r F cd (k' - k) k (d, M) = some (d, M') ∧ B M M' (V F)
def rd_suc (t : Nat → Int) (n al d : Nat) (g : Bool) (op cm cd : Nat → Int) (k c : Nat) (z : Bool) (k0 : Nat) (A : (Nat → Nat → Int) → Prop) (B : (Nat → Nat → Int) → (Nat → Nat → Int) → Int → Prop) (E : Nat → Int → Prop) (r : fo_R) : Prop :=
  r.2.1 ≤ n ∧ c ≤ r.2.1 ∧ ∃ (op' cm' cd' : Nat → Int) (k' : Nat), (∀ R, rd_at t n al R d false op' cm' cd' k' r.2.1 → rd_at t n al R d g op cm cd k c) ∧ (∀ i, i ≤ d → op' i = op i) ∧ (∀ i, i < d → cm' i = cm i) ∧ (z = false → cm' d = cm d) ∧ (∀ i, i < k → cd' i = cd i) ∧ (k ≤ k' ∧ (g = true → k < k')) ∧ k' + c ≤ k + r.2.1 ∧ E r.2.1 (cm' d) ∧ rd_sg cd' k0 k' d A B r.2.2
def rd_lv (t : Nat → Int) (n al : Nat) (P : fo_P) (d : Nat) (z : Bool) (A : (Nat → Nat → Int) → Prop) (B : (Nat → Nat → Int) → (Nat → Nat → Int) → Int → Prop) (E : Nat → Int → Prop) : Prop := ∀ (op cm cd : Nat → Int) (k c : Nat), c ≤ n → (d = 0 ∨ op d ≠ 1) → (z = true → cm d = 0) → ((P c).1 ≠ 0 → ∃ R : rd_R, R.1 = (P c).1 ∧ rd_at t n al R d true op cm cd k c) ∧ ((P c).1 = 0 → rd_suc t n al d true op cm cd k c z k A B E (P c))
/-- a chain: what stands between its members is put as one code -/
theorem rd_ch {t : Nat → Int} {n al d : Nat} {opf cf : Nat → Int} {sub : fo_P} {z : Bool} {A A' : (Nat → Nat → Int) → Prop} {B B' : (Nat → Nat → Int) → (Nat → Nat → Int) → Int → Prop} {E : Nat → Int → Prop} (hsub : rd_lv t n al sub d z A B E) (hend : ∀ c, n ≤ c → opf c = 0)
    (hstep : ∀ R op cm cd k c, opf c ≠ 0 → rd_at t n al R d true op (if z then ab_put cm d 0 else cm) (ab_put cd k (cf c)) (k + 1) (tk_nx t n c) → rd_at t n al R d false op cm cd k c)
    (h8 : ∀ M M' v, B' M M' v → M' 8 d = M 8 d)
    (hB1 : ∀ c, opf c ≠ 0 → ∀ F M M1 v, A' M → B' M M1 v → ∃ M2, wk_1 F (cf c) (d, M1) = some (d, M2) ∧ A M2 ∧ M2 8 d = M1 8 d ∧ ∀ M3 v2, B M2 M3 v2 → B' M M3 (fo_jn (opf c) v v2)) :
    ∀ f op cm cd k k0 c V, n ≤ f + c → c ≤ n → (d = 0 ∨ op d ≠ 1) → k0 ≤ k → E c (cm d) → rd_sg cd k0 k d A' B' V → ((fo_ch opf (tk_nx t n) sub f c V).1 ≠ 0 → ∃ R : rd_R, R.1 = (fo_ch opf (tk_nx t n) sub f c V).1 ∧ rd_at t n al R d false op cm cd k c) ∧ ((fo_ch opf (tk_nx t n) sub f c V).1 = 0 → rd_suc t n al d false op cm cd k c z k0 A' B' (fun c x => E c x ∧ opf c = 0) (fo_ch opf (tk_nx t n) sub f c V))
  | 0, op, cm, cd, k, k0, c, V, hf, hc, hop, hk, hE, hsg => by
    have h0 : fo_ch opf (tk_nx t n) sub 0 c V = (0, c, V) := rfl
    rw [h0]
    exact ⟨fun q => absurd rfl q, fun _ => ⟨hc, Nat.le_refl _, op, cm, cd, k, fun R h => h, fun _ _ => rfl, fun _ _ => rfl, fun _ => rfl, fun _ _ => rfl, ⟨Nat.le_refl _, fun q => by cases q⟩, Nat.le_refl _, ⟨hE, hend c (by omega)⟩, hsg⟩⟩
  | f + 1, op, cm, cd, k, k0, c, V, hf, hc, hop, hk, hE, hsg => by
    by_cases ho : opf c = 0
    · have h0 : fo_ch opf (tk_nx t n) sub (f + 1) c V = (0, c, V) := by unfold fo_ch; rw [if_pos ho]
      rw [h0]
      exact ⟨fun q => absurd rfl q, fun _ => ⟨hc, Nat.le_refl _, op, cm, cd, k, fun R h => h, fun _ _ => rfl, fun _ _ => rfl, fun _ => rfl, fun _ _ => rfl, ⟨Nat.le_refl _, fun q => by cases q⟩, Nat.le_refl _, ⟨hE, ho⟩, hsg⟩⟩
    · have hcn : c < n := by
        apply Classical.byContradiction
        intro h
        exact ho (hend c (by omega))
      obtain ⟨x1, x2, x3⟩ := tk_nx_rg (t := t) (n := n) hc
      have x3 := x3 hcn
      have hz : z = true → (if z then ab_put cm d 0 else cm) d = 0 := fun q => by rw [if_pos q]; unfold ab_put; rw [if_pos rfl]
      have hz2 : ∀ i, i < d → (if z then ab_put cm d 0 else cm) i = cm i := fun i hi => by
        cases z
        · rfl
        · show ab_put cm d 0 i = cm i
          unfold ab_put; rw [if_neg (by omega)]
      have hz3 : z = false → (if z then ab_put cm d 0 else cm) d = cm d := fun q => by subst q; rfl
      obtain ⟨s1, s2⟩ := hsub op (if z then ab_put cm d 0 else cm) (ab_put cd k (cf c)) (k + 1) (tk_nx t n c) x2 hop hz
      by_cases hs : (sub (tk_nx t n c)).1 = 0
      · obtain ⟨y1, y2, op1, cm1, cd1, k1, g1, g2, g3, g4, g5, ⟨g6, g6'⟩, g7, g8, g9⟩ := s2 hs
        have hr : fo_ch opf (tk_nx t n) sub (f + 1) c V = fo_ch opf (tk_nx t n) sub f (sub (tk_nx t n c)).2.1 (fun F => fo_jn (opf c) (V F) ((sub (tk_nx t n c)).2.2 F)) := by
          show (if opf c = 0 then _ else if (sub (tk_nx t n c)).1 = 0 then _ else _) = _
          rw [if_neg ho, if_pos hs]
        rw [hr]
        have hsg' : rd_sg cd1 k0 k1 d A' B' (fun F => fo_jn (opf c) (V F) ((sub (tk_nx t n c)).2.2 F)) := fun F M hA hM => by
          obtain ⟨M1, r1, b1⟩ := hsg F M hA hM
          obtain ⟨M2, r2, a2, e2, b2⟩ := hB1 c ho F M M1 (V F) hA b1
          obtain ⟨M3, r3, b3⟩ := g9 F M2 a2 (by rw [e2, h8 M M1 _ b1]; exact hM)
          refine ⟨M3, ?_, b2 M3 _ b3⟩
          have q1 : wk_r F cd1 (k - k0) k0 (d, M) = some (d, M1) := by
            rw [wk_r_cg (cd' := cd) (k - k0) k0 (d, M) (fun x h1 h2 => by
              rw [g5 x (by omega)]; unfold ab_put; rw [if_neg (by omega)])]
            exact r1
          have q2 : wk_r F cd1 1 k (d, M1) = some (d, M2) := wk_r_1 (by
            rw [g5 k (by omega)]; unfold ab_put; rw [if_pos rfl]; exact r2)
          rw [show k1 - k0 = (k - k0) + (1 + (k1 - (k + 1))) by omega, wk_r_add _ _ _ _ _ q1, show k0 + (k - k0) = k by omega, wk_r_add _ _ _ _ _ q2]
          exact r3
        obtain ⟨i1, i2⟩ := rd_ch hsub hend hstep h8 hB1 f op1 cm1 cd1 k1 k0 (sub (tk_nx t n c)).2.1 (fun F => fo_jn (opf c) (V F) ((sub (tk_nx t n c)).2.2 F)) (by omega) y1 (by rw [g2 d (Nat.le_refl d)]; exact hop) (by omega) g8 hsg'
        refine ⟨fun q => ?_, fun q => ?_⟩
        · obtain ⟨R, e1, e2⟩ := i1 q
          exact ⟨R, e1, hstep R op cm cd k c ho (g1 R e2)⟩
        · obtain ⟨j1, j2, op2, cm2, cd2, k2, w1, w2, w3, w4, w5, w6, w7, w8, w9⟩ := i2 q
          refine ⟨j1, by omega, op2, cm2, cd2, k2, fun R h => hstep R op cm cd k c ho (g1 R (w1 R h)), fun i hi => (w2 i hi).trans (g2 i hi), fun i hi => (w3 i hi).trans ((g3 i hi).trans (hz2 i hi)), fun q => (w4 q).trans ((g4 q).trans (hz3 q)), fun i hi => ?_, ⟨by omega, fun q => by cases q⟩, by omega, w8, w9⟩
          rw [w5 i (by omega), g5 i (by omega)]
          unfold ab_put; rw [if_neg (by omega)]
      · have hr : fo_ch opf (tk_nx t n) sub (f + 1) c V = sub (tk_nx t n c) := by
          show (if opf c = 0 then _ else if (sub (tk_nx t n c)).1 = 0 then _ else _) = _
          rw [if_neg ho, if_neg hs]
        rw [hr]
        refine ⟨fun q => ?_, fun q => absurd q hs⟩
        obtain ⟨R, e1, e2⟩ := s1 hs
        exact ⟨R, e1, hstep R op cm cd k c ho e2⟩
theorem rd_cn {t : Nat → Int} {n al d : Nat} {opf cf : Nat → Int} {sub : fo_P} {z : Bool} {A A' : (Nat → Nat → Int) → Prop} {B B' : (Nat → Nat → Int) → (Nat → Nat → Int) → Int → Prop} {E : Nat → Int → Prop} (hn : n ≤ 1000) (hsub : rd_lv t n al sub d z A B E) (hend : ∀ c, n ≤ c → opf c = 0)
    (hstep : ∀ R op cm cd k c, opf c ≠ 0 → rd_at t n al R d true op (if z then ab_put cm d 0 else cm) (ab_put cd k (cf c)) (k + 1) (tk_nx t n c) → rd_at t n al R d false op cm cd k c)
    (hA : ∀ M, A' M → A M) (hB0 : ∀ M M' v, A' M → B M M' v → B' M M' v) (h8 : ∀ M M' v, B' M M' v → M' 8 d = M 8 d)
    (hB1 : ∀ c, opf c ≠ 0 → ∀ F M M1 v, A' M → B' M M1 v → ∃ M2, wk_1 F (cf c) (d, M1) = some (d, M2) ∧ A M2 ∧ M2 8 d = M1 8 d ∧ ∀ M3 v2, B M2 M3 v2 → B' M M3 (fo_jn (opf c) v v2)) :
    rd_lv t n al (fo_cn opf (tk_nx t n) sub) d z A' B' (fun c x => E c x ∧ opf c = 0) := fun op cm cd k c hc hop hz => by
  obtain ⟨s1, s2⟩ := hsub op cm cd k c hc hop hz
  by_cases hs : (sub c).1 = 0
  · have hr : fo_cn opf (tk_nx t n) sub c = fo_ch opf (tk_nx t n) sub 1000 (sub c).2.1 (sub c).2.2 := by unfold fo_cn; rw [if_pos hs]
    rw [hr]
    obtain ⟨y1, y2, op1, cm1, cd1, k1, g1, g2, g3, g4, g5, ⟨g6, g6'⟩, g7, g8, g9⟩ := s2 hs
    obtain ⟨i1, i2⟩ := rd_ch hsub hend hstep h8 hB1 1000 op1 cm1 cd1 k1 k (sub c).2.1 (sub c).2.2 (by omega) y1 (by rw [g2 d (Nat.le_refl d)]; exact hop) g6 g8 (fun F M a b => by
      obtain ⟨M1, r1, b1⟩ := g9 F M (hA M a) b
      exact ⟨M1, r1, hB0 M M1 _ a b1⟩)
    refine ⟨fun q => ?_, fun q => ?_⟩
    · obtain ⟨R, e1, e2⟩ := i1 q
      exact ⟨R, e1, g1 R e2⟩
    · obtain ⟨j1, j2, op2, cm2, cd2, k2, w1, w2, w3, w4, w5, w6, w7, w8, w9⟩ := i2 q
      have := g6' rfl
      exact ⟨j1, by omega, op2, cm2, cd2, k2, fun R h => g1 R (w1 R h), fun i hi => (w2 i hi).trans (g2 i hi), fun i hi => (w3 i hi).trans (g3 i hi), fun q => (w4 q).trans (g4 q), fun i hi => (w5 i (by omega)).trans (g5 i hi), ⟨by omega, fun _ => by omega⟩, by omega, w8, w9⟩
  · have hr : fo_cn opf (tk_nx t n) sub c = sub c := by unfold fo_cn; rw [if_neg hs]
    rw [hr]
    exact ⟨s1, fun q => absurd q hs⟩
