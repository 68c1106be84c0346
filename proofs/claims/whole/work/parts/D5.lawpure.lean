/-! the law, case by case: both answer alike, both invariants go on. Printed by prog/mkcases.py -/
section ST
variable {K kf : bt_K} {st rest : List bt_V} {L : List (Option bt_V)} {w : bt_W}
theorem st_ald {i a : Nat} (h : L[i]? = some (some (.inr (.inr a)))) (hk : K (.inr (.inr a) :: st) L w) : bt_ald i K st L w := by
  simp only [bt_ald, h]
  exact hk
theorem st_ild {i : Nat} {a : Int} (h : L[i]? = some (some (.inl a))) (hk : K (.inl a :: st) L w) : bt_ild i K st L w := by
  simp only [bt_ild, h]
  exact hk
theorem st_arg {n j : Nat} {k : Int} {x : Nat → Int} (h0 : L[0]? = some (some (.inr (.inr 999)))) (h4 : L[4]? = some (some (.inl (7 * (j : Int))))) (hj : 7 * j + 7 ≤ n) (hn : n ≤ 3584) (hk : 0 ≤ k ∧ k < 7) (h : K (.inl (x (7 * j + k.toNat)) :: st) L w) : (bt_ald 0 (bt_ild 4 (bt_ic k (bt_iadd (bt_sia n x K))))) st L w := by
  simp only [bt_ald, bt_ild, bt_ic, bt_iadd, bt_sia, h0, h4]
  have e : bt_w (7 * (j : Int) + k) = 7 * (j : Int) + k := bt_w_id (by omega) (by omega)
  have e2 : (7 * (j : Int) + k).toNat = 7 * j + k.toNat := by omega
  rw [e, e2]
  exact ⟨⟨trivial, by omega, by omega⟩, h⟩
theorem st_ret {v : Int} (h : K (.inl v :: rest) L w) : bt_ret K rest L (some (.inl v)) w := h
theorem st_eq {v : Int} (h : K st L w) : bt_icmpeq K kf (.inl v :: .inl v :: st) L w := by
  simp only [bt_icmpeq, if_pos]
  exact h
theorem st_c0 {ci o : Nat} {Sp : bt_Sp} (ho : o < w.1 ∧ (w.2.1 o).1 = ci) (hr : rest.length ≤ 4) (h : Sp [.inr (.inr o)] w (bt_ret K rest L)) : bt_cV 0 [2] ci Sp K (.inr (.inr o) :: rest) L w := by
  unfold bt_cV
  exact ⟨ho, rfl, hr, h⟩
theorem st_c1 {ci o : Nat} {Sp : bt_Sp} {a : Int} (ho : o < w.1 ∧ (w.2.1 o).1 = ci) (hr : rest.length ≤ 4) (h : Sp [.inr (.inr o), .inl a] w (bt_ret K rest L)) : bt_cV 1 [2, 0] ci Sp K (.inl a :: .inr (.inr o) :: rest) L w := by
  unfold bt_cV
  exact ⟨ho, rfl, hr, h⟩
theorem st_c2 {ci o : Nat} {Sp : bt_Sp} {a b : Int} (ho : o < w.1 ∧ (w.2.1 o).1 = ci) (hr : rest.length ≤ 4) (h : Sp [.inr (.inr o), .inl a, .inl b] w (bt_ret K rest L)) : bt_cV 2 [2, 0, 0] ci Sp K (.inl b :: .inl a :: .inr (.inr o) :: rest) L w := by
  unfold bt_cV
  exact ⟨ho, rfl, hr, h⟩
theorem st_c3 {ci o : Nat} {Sp : bt_Sp} {a b c : Int} (ho : o < w.1 ∧ (w.2.1 o).1 = ci) (hr : rest.length ≤ 4) (h : Sp [.inr (.inr o), .inl a, .inl b, .inl c] w (bt_ret K rest L)) : bt_cV 3 [2, 0, 0, 0] ci Sp K (.inl c :: .inl b :: .inl a :: .inr (.inr o) :: rest) L w := by
  unfold bt_cV
  exact ⟨ho, rfl, hr, h⟩
theorem st_c3j {ci o : Nat} {Sp : bt_Sp} {a b c : Int} (ho : o < w.1 ∧ (w.2.1 o).1 = ci) (hr : rest.length ≤ 4) (h : Sp [.inr (.inr o), .inr (.inl a), .inr (.inl b), .inr (.inl c)] w (bt_ret K rest L)) : bt_cV 3 [2, 1, 1, 1] ci Sp K (.inr (.inl c) :: .inr (.inl b) :: .inr (.inl a) :: .inr (.inr o) :: rest) L w := by
  unfold bt_cV
  exact ⟨ho, rfl, hr, h⟩
theorem st_i2l {a : Int} (h : K (.inr (.inl (bo_i2l a)) :: st) L w) : bt_i2l K (.inl a :: st) L w := by
  unfold bt_i2l
  exact h
theorem st_lshl {a b : Int} (h : K (.inr (.inl (bo_lshl a b)) :: st) L w) : bt_lshl K (.inl b :: .inr (.inl a) :: st) L w := by
  unfold bt_lshl
  exact h
theorem st_land {a b : Int} (h : K (.inr (.inl (bo_land a b)) :: st) L w) : bt_land K (.inr (.inl b) :: .inr (.inl a) :: st) L w := by
  unfold bt_land
  exact h
theorem st_lor {a b : Int} (h : K (.inr (.inl (bo_lor a b)) :: st) L w) : bt_lor K (.inr (.inl b) :: .inr (.inl a) :: st) L w := by
  unfold bt_lor
  exact h
theorem st_ic {a : Int} (h : K (.inl a :: st) L w) : bt_ic a K st L w := h
theorem st_lc {a : Int} (h : K (.inr (.inl a) :: st) L w) : bt_lc a K st L w := h
end ST
/-- the law's locals and its script, as a case finds them -/
def lc_H (n j : Nat) (x : Nat → Int) (L : List (Option bt_V)) : Prop := L[0]? = some (some (.inr (.inr 999))) ∧ L[1]? = some (some (.inr (.inr 0))) ∧ L[2]? = some (some (.inr (.inr 205))) ∧ L[4]? = some (some (.inl (7 * (j : Int)))) ∧ 7 * j + 7 ≤ n ∧ n ≤ 3584 ∧ ∀ i, bt_i32 (x i)
def lc_K (K : bt_K) (L : List (Option bt_V)) : Prop := ∀ (Ω : om_O) (ρ : Nat → Nat → Option Nat) (μ : Nat → Nat → Int), ci_I Ω ρ μ → ri_I Ω μ → K [] L (bt_wd ρ μ)
theorem lx_0 (ρ : Nat → Nat → Option Nat) (μ : Nat → Nat → Int) : 0 < (bt_wd ρ μ).1 ∧ ((bt_wd ρ μ).2.1 0).1 = 10 := ⟨Nat.le_of_ble_eq_true rfl, by show (bt_sh0 0).1 = 10; rw [sh_0]⟩
theorem lx_205 (ρ : Nat → Nat → Option Nat) (μ : Nat → Nat → Int) : 205 < (bt_wd ρ μ).1 ∧ ((bt_wd ρ μ).2.1 205).1 = 11 := ⟨Nat.le_of_ble_eq_true rfl, by show (bt_sh0 205).1 = 11; rw [sh_205]⟩
section LK
variable {Ω : om_O} {ρ : Nat → Nat → Option Nat} {μ μ' : Nat → Nat → Int}
theorem lk_rf (h : ci_I Ω ρ μ) : bt_Rf ρ := by
  obtain ⟨P, P', h, -⟩ := h
  exact h.1
theorem lk_r (h : ri_I Ω μ) (hf : ∀ a, 205 ≤ a → a ≤ 260 → μ' a = μ a) : ri_I Ω μ' := h.fr (fun a h1 h2 _ => hf a (by omega) h2) (by rw [hf 205 (by omega) (by omega)]) (by rw [hf 205 (by omega) (by omega)])
theorem lk_1 (h : ri_I Ω μ) (hf : bt_fr ci_s2 μ' μ) : ri_I Ω μ' := lk_r h (fun a h1 _ => hf a (by unfold ci_s2; omega))
theorem lk_2 (h : ri_I Ω μ) (hf : bt_fr (fun a => a < 205) μ' μ) : ri_I Ω μ' := lk_r h (fun a h1 _ => hf a (by omega))
theorem lk_3 (h : ci_I Ω ρ μ) (hf : bt_fr ri_in μ' μ) : ci_I Ω ρ μ' := h.fr (fun a ha => hf a (fun q => ha (by unfold ri_in at q; unfold ci_sc; omega)))
theorem lk_4 (h : ci_I Ω ρ μ) (hf : bt_fr ci_s2 μ' μ) : ci_I Ω ρ μ' := h.fr (fun a ha => hf a (fun q => ha (by unfold ci_s2 at q; unfold ci_sc; omega)))
end LK
section CASES
variable {n j : Nat} {x : Nat → Int} {K : bt_K} {L : List (Option bt_V)} {Ω : om_O} {ρ : Nat → Nat → Option Nat} {μ : Nat → Nat → Int}
theorem lc_1 (H : lc_H n j x L) (hK : lc_K K L) (hc : ci_I Ω ρ μ) (hr : ri_I Ω μ) : tL_1 n x K [] L (bt_wd ρ μ) := by
  obtain ⟨h0, h1, h2, h4, hj, hn, hx⟩ := H
  unfold tL_1
  refine (st_ald h1 (st_c0 (lx_0 _ _) (by simp) ?_))
  unfold SpX10_zoo
  refine ⟨ρ, μ, Ω, rfl, rfl, hc, fun ρ1 μ1 ζ0 R hz hR hg hb hf => ?_⟩
  have hrf : bt_Rf ρ1 := by
    by_cases e : R.1 = 0
    · obtain ⟨ζ1, -, -, q⟩ := hg e
      exact lk_rf q
    · exact lk_rf (hb e)
  refine st_ret ((st_ald h2 (st_c0 (lx_205 _ _) (by simp) ?_)))
  unfold SpX11_zoo
  refine ⟨ρ1, μ1, Ω, ζ0, R, rfl, rfl, hrf, lk_2 hr hf, hc.ok, hz, hR, fun μ2 hg2 hb2 hf2 _ => ?_⟩
  refine st_ret (st_eq ?_)
  by_cases e : R.1 = 0
  · obtain ⟨ζ1, q1, q2, q3⟩ := hg e
    exact hK _ ρ1 μ2 (lk_3 q3 hf2) (hg2 e ζ1 q1 q2)
  · exact hK _ ρ1 μ2 (lk_3 (hb e) hf2) (hb2 e)
theorem lc_2 (H : lc_H n j x L) (hK : lc_K K L) (hc : ci_I Ω ρ μ) (hr : ri_I Ω μ) : tL_2 n x K [] L (bt_wd ρ μ) := by
  obtain ⟨h0, h1, h2, h4, hj, hn, hx⟩ := H
  unfold tL_2
  refine (st_ald h1 (st_c0 (lx_0 _ _) (by simp) ?_))
  unfold SpX10_days
  refine ⟨ρ, μ, Ω, rfl, rfl, hc, fun μ1 hc1 hf => ?_⟩
  refine st_ret ((st_ald h2 (st_c0 (lx_205 _ _) (by simp) ?_)))
  unfold SpX11_days
  refine ⟨ρ, μ1, Ω, μ 5, rfl, rfl, lk_rf hc, lk_2 hr hf, hc.ok, fun μ2 hr2 hf2 _ => ?_⟩
  exact st_ret (st_eq (hK _ ρ μ2 (lk_3 hc1 hf2) hr2))
theorem lc_3 (H : lc_H n j x L) (hK : lc_K K L) (hc : ci_I Ω ρ μ) (hr : ri_I Ω μ) : tL_3 n x K [] L (bt_wd ρ μ) := by
  obtain ⟨h0, h1, h2, h4, hj, hn, hx⟩ := H
  unfold tL_3
  refine (st_ald h1 (st_arg h0 h4 hj hn (by decide) (st_arg h0 h4 hj hn (by decide) (st_c2 (lx_0 _ _) (by simp) ?_))))
  unfold SpX10_pen
  refine ⟨ρ, μ, Ω, _, _, rfl, rfl, hc, hx _, hx _, fun μ1 hf => ?_⟩
  refine st_ret ((st_ald h2 (st_arg h0 h4 hj hn (by decide) (st_arg h0 h4 hj hn (by decide) (st_c2 (lx_205 _ _) (by simp) ?_)))))
  unfold SpX11_pen
  refine ⟨ρ, μ1, Ω, _, _, rfl, rfl, lk_rf hc, lk_1 hr hf, hc.ok, hx _, hx _, fun μ2 hr2 hf2 _ => ?_⟩
  exact st_ret (st_eq (hK Ω ρ μ2 (lk_3 (lk_4 hc hf) hf2) hr2))
theorem lc_4 (H : lc_H n j x L) (hK : lc_K K L) (hc : ci_I Ω ρ μ) (hr : ri_I Ω μ) : tL_4 n x K [] L (bt_wd ρ μ) := by
  obtain ⟨h0, h1, h2, h4, hj, hn, hx⟩ := H
  unfold tL_4
  refine (st_ald h1 (st_arg h0 h4 hj hn (by decide) (st_arg h0 h4 hj hn (by decide) (st_c2 (lx_0 _ _) (by simp) ?_))))
  unfold SpX10_guest
  refine ⟨ρ, μ, Ω, _, _, rfl, rfl, hc, hx _, hx _, fun μ1 hf => ?_⟩
  refine st_ret ((st_ald h2 (st_arg h0 h4 hj hn (by decide) (st_arg h0 h4 hj hn (by decide) (st_c2 (lx_205 _ _) (by simp) ?_)))))
  unfold SpX11_guest
  refine ⟨ρ, μ1, Ω, _, _, rfl, rfl, lk_rf hc, lk_1 hr hf, hc.ok, hx _, hx _, fun μ2 hr2 hf2 _ => ?_⟩
  exact st_ret (st_eq (hK Ω ρ μ2 (lk_3 (lk_4 hc hf) hf2) hr2))
theorem lc_5 (H : lc_H n j x L) (hK : lc_K K L) (hc : ci_I Ω ρ μ) (hr : ri_I Ω μ) : tL_5 n x K [] L (bt_wd ρ μ) := by
  obtain ⟨h0, h1, h2, h4, hj, hn, hx⟩ := H
  unfold tL_5
  refine (st_ald h1 (st_arg h0 h4 hj hn (by decide) (st_arg h0 h4 hj hn (by decide) (st_c2 (lx_0 _ _) (by simp) ?_))))
  unfold SpX10_animal
  refine ⟨ρ, μ, Ω, _, _, rfl, rfl, hc, hx _, hx _, fun μ1 hf => ?_⟩
  refine st_ret ((st_ald h2 (st_arg h0 h4 hj hn (by decide) (st_arg h0 h4 hj hn (by decide) (st_c2 (lx_205 _ _) (by simp) ?_)))))
  unfold SpX11_animal
  refine ⟨ρ, μ1, Ω, _, _, rfl, rfl, lk_rf hc, lk_1 hr hf, hc.ok, hx _, hx _, fun μ2 hr2 hf2 _ => ?_⟩
  exact st_ret (st_eq (hK Ω ρ μ2 (lk_3 (lk_4 hc hf) hf2) hr2))
theorem lc_6 (H : lc_H n j x L) (hK : lc_K K L) (hc : ci_I Ω ρ μ) (hr : ri_I Ω μ) : tL_6 n x K [] L (bt_wd ρ μ) := by
  obtain ⟨h0, h1, h2, h4, hj, hn, hx⟩ := H
  unfold tL_6
  refine (st_ald h1 (st_arg h0 h4 hj hn (by decide) (st_arg h0 h4 hj hn (by decide) (st_c2 (lx_0 _ _) (by simp) ?_))))
  unfold SpX10_worth
  refine ⟨ρ, μ, Ω, _, _, rfl, rfl, hc, hx _, hx _, fun μ1 hf => ?_⟩
  refine st_ret ((st_ald h2 (st_arg h0 h4 hj hn (by decide) (st_arg h0 h4 hj hn (by decide) (st_c2 (lx_205 _ _) (by simp) ?_)))))
  unfold SpX11_worth
  refine ⟨ρ, μ1, Ω, _, _, rfl, rfl, lk_rf hc, lk_1 hr hf, hc.ok, hx _, hx _, fun μ2 hr2 hf2 _ => ?_⟩
  exact st_ret (st_eq (hK Ω ρ μ2 (lk_3 (lk_4 hc hf) hf2) hr2))
theorem lc_7 (H : lc_H n j x L) (hK : lc_K K L) (hc : ci_I Ω ρ μ) (hr : ri_I Ω μ) : tL_7 n x K [] L (bt_wd ρ μ) := by
  obtain ⟨h0, h1, h2, h4, hj, hn, hx⟩ := H
  unfold tL_7
  refine (st_ald h1 (st_arg h0 h4 hj hn (by decide) (st_arg h0 h4 hj hn (by decide) (st_c2 (lx_0 _ _) (by simp) ?_))))
  unfold SpX10_move
  refine ⟨ρ, μ, Ω, _, _, rfl, rfl, hc, hx _, hx _, fun ht μ1 hc1 hf => ?_, fun ht μ1 hf => ?_⟩
  · refine st_ret ((st_ald h2 (st_arg h0 h4 hj hn (by decide) (st_arg h0 h4 hj hn (by decide) (st_c2 (lx_205 _ _) (by simp) ?_)))))
    unfold SpX11_move
    refine ⟨ρ, μ1, Ω, _, _, rfl, rfl, lk_rf hc, lk_2 hr hf, hc.ok, hx _, hx _, fun _ μ2 hr2 hf2 _ => ?_, fun q => absurd (ht.symm.trans q) (by decide)⟩
    exact st_ret (st_eq (hK _ ρ μ2 (lk_3 hc1 hf2) hr2))
  · refine st_ret ((st_ald h2 (st_arg h0 h4 hj hn (by decide) (st_arg h0 h4 hj hn (by decide) (st_c2 (lx_205 _ _) (by simp) ?_)))))
    unfold SpX11_move
    refine ⟨ρ, μ1, Ω, _, _, rfl, rfl, lk_rf hc, lk_1 hr hf, hc.ok, hx _, hx _, fun q => absurd (q.symm.trans ht) (by decide), fun _ μ2 hr2 hf2 _ => ?_⟩
    exact st_ret (st_eq (hK _ ρ μ2 (lk_3 (lk_4 hc hf) hf2) hr2))
theorem lc_8 (H : lc_H n j x L) (hK : lc_K K L) (hc : ci_I Ω ρ μ) (hr : ri_I Ω μ) : tL_8 n x K [] L (bt_wd ρ μ) := by
  obtain ⟨h0, h1, h2, h4, hj, hn, hx⟩ := H
  unfold tL_8
  refine (st_ald h1 (st_arg h0 h4 hj hn (by decide) (st_c1 (lx_0 _ _) (by simp) ?_)))
  unfold SpX10_tyre
  refine ⟨ρ, μ, Ω, _, rfl, rfl, hc, hx _, fun ht μ1 hc1 hf => ?_, fun ht μ1 hf => ?_⟩
  · refine st_ret ((st_ald h2 (st_arg h0 h4 hj hn (by decide) (st_c1 (lx_205 _ _) (by simp) ?_))))
    unfold SpX11_tyre
    refine ⟨ρ, μ1, Ω, _, rfl, rfl, lk_rf hc, lk_2 hr hf, hc.ok, hx _, fun _ μ2 hr2 hf2 _ => ?_, fun q => absurd (ht.symm.trans q) (by decide)⟩
    exact st_ret (st_eq (hK _ ρ μ2 (lk_3 hc1 hf2) hr2))
  · refine st_ret ((st_ald h2 (st_arg h0 h4 hj hn (by decide) (st_c1 (lx_205 _ _) (by simp) ?_))))
    unfold SpX11_tyre
    refine ⟨ρ, μ1, Ω, _, rfl, rfl, lk_rf hc, lk_1 hr hf, hc.ok, hx _, fun q => absurd (q.symm.trans ht) (by decide), fun _ μ2 hr2 hf2 _ => ?_⟩
    exact st_ret (st_eq (hK _ ρ μ2 (lk_3 (lk_4 hc hf) hf2) hr2))
theorem lc_9 (H : lc_H n j x L) (hK : lc_K K L) (hc : ci_I Ω ρ μ) (hr : ri_I Ω μ) : tL_9 n x K [] L (bt_wd ρ μ) := by
  obtain ⟨h0, h1, h2, h4, hj, hn, hx⟩ := H
  unfold tL_9
  refine (st_ald h1 (st_c0 (lx_0 _ _) (by simp) ?_))
  unfold SpX10_hour
  refine ⟨ρ, μ, Ω, rfl, rfl, hc, fun μ1 hc1 hf => ?_⟩
  refine st_ret ((st_ald h2 (st_c0 (lx_205 _ _) (by simp) ?_)))
  unfold SpX11_hour
  refine ⟨ρ, μ1, Ω, rfl, rfl, lk_rf hc, lk_2 hr hf, hc.ok, fun μ2 hr2 hf2 _ => ?_⟩
  exact st_ret (st_eq (hK _ ρ μ2 (lk_3 hc1 hf2) hr2))
theorem lc_10 (H : lc_H n j x L) (hK : lc_K K L) (hc : ci_I Ω ρ μ) (hr : ri_I Ω μ) : tL_10 n x K [] L (bt_wd ρ μ) := by
  obtain ⟨h0, h1, h2, h4, hj, hn, hx⟩ := H
  unfold tL_10
  refine (st_ald h1 (st_c0 (lx_0 _ _) (by simp) ?_))
  unfold SpX10_undo
  refine ⟨ρ, μ, Ω, rfl, rfl, hc, fun ht => ?_, fun ht μ1 hc1 hf => ?_⟩
  · refine st_ret ((st_ald h2 (st_c0 (lx_205 _ _) (by simp) ?_)))
    unfold SpX11_undo
    refine ⟨ρ, μ, Ω, rfl, rfl, lk_rf hc, hr, hc.ok, fun _ μ2 hr2 hf2 _ => ?_, fun q => absurd q (by omega)⟩
    exact st_ret (st_eq (hK _ ρ μ2 (lk_3 hc hf2) hr2))
  · refine st_ret ((st_ald h2 (st_c0 (lx_205 _ _) (by simp) ?_)))
    unfold SpX11_undo
    refine ⟨ρ, μ1, Ω, rfl, rfl, lk_rf hc, lk_2 hr hf, hc.ok, fun q => absurd q (by omega), fun _ μ2 hr2 hf2 _ => ?_⟩
    exact st_ret (st_eq (hK _ ρ μ2 (lk_3 hc1 hf2) hr2))
theorem lc_11 (H : lc_H n j x L) (hK : lc_K K L) (hc : ci_I Ω ρ μ) (hr : ri_I Ω μ) : tL_11 n x K [] L (bt_wd ρ μ) := by
  obtain ⟨h0, h1, h2, h4, hj, hn, hx⟩ := H
  unfold tL_11
  refine (st_ald h1 (st_arg h0 h4 hj hn (by decide) (st_c1 (lx_0 _ _) (by simp) ?_)))
  unfold SpX10_judged
  refine ⟨ρ, μ, Ω, _, rfl, rfl, hc, hx _, fun μ1 hf => ?_⟩
  refine st_ret ((st_ald h2 (st_arg h0 h4 hj hn (by decide) (st_c1 (lx_205 _ _) (by simp) ?_))))
  unfold SpX11_judged
  refine ⟨ρ, μ1, Ω, _, rfl, rfl, lk_rf hc, lk_1 hr hf, hc.ok, hx _, fun μ2 hr2 hf2 _ => ?_⟩
  exact st_ret (st_eq (hK Ω ρ μ2 (lk_3 (lk_4 hc hf) hf2) hr2))
theorem lc_12 (H : lc_H n j x L) (hK : lc_K K L) (hc : ci_I Ω ρ μ) (hr : ri_I Ω μ) : tL_12 n x K [] L (bt_wd ρ μ) := by
  obtain ⟨h0, h1, h2, h4, hj, hn, hx⟩ := H
  unfold tL_12
  refine (st_ald h1 (st_arg h0 h4 hj hn (by decide) (st_c1 (lx_0 _ _) (by simp) ?_)))
  unfold SpX10_show
  refine ⟨ρ, μ, Ω, _, rfl, rfl, hc, hx _, fun μ1 s hs hc1 hf => ?_⟩
  refine st_ret ((st_ald h2 (st_arg h0 h4 hj hn (by decide) (st_c1 (lx_205 _ _) (by simp) ?_))))
  unfold SpX11_show
  refine ⟨ρ, μ1, Ω, _, s, rfl, rfl, lk_rf hc, lk_r hr (fun a ha _ => hf a (by omega)), hc.ok, hx _, hs, fun μ2 hr2 hf2 _ => ?_⟩
  exact st_ret (st_eq (hK Ω ρ μ2 (lk_3 hc1 hf2) hr2))
theorem lc_13 (H : lc_H n j x L) (hK : lc_K K L) (hc : ci_I Ω ρ μ) (hr : ri_I Ω μ) : tL_13 n x K [] L (bt_wd ρ μ) := by
  obtain ⟨h0, h1, h2, h4, hj, hn, hx⟩ := H
  unfold tL_13
  refine (st_ald h1 (st_arg h0 h4 hj hn (by decide) (st_c1 (lx_0 _ _) (by simp) ?_)))
  unfold SpX10_tell
  refine ⟨ρ, μ, Ω, _, rfl, rfl, hc, hx _, fun ht μ1 hc1 hf => ?_, fun ht => ?_⟩
  · refine st_ret ((st_ald h2 (st_arg h0 h4 hj hn (by decide) (st_c1 (lx_205 _ _) (by simp) ?_))))
    unfold SpX11_tell
    refine ⟨ρ, μ1, Ω, _, rfl, rfl, lk_rf hc, lk_2 hr hf, hc.ok, hx _, fun _ μ2 hr2 hf2 _ => ?_, fun q => absurd (ht.symm.trans q) (by decide)⟩
    exact st_ret (st_eq (hK _ ρ μ2 (lk_3 hc1 hf2) hr2))
  · refine st_ret ((st_ald h2 (st_arg h0 h4 hj hn (by decide) (st_c1 (lx_205 _ _) (by simp) ?_))))
    unfold SpX11_tell
    refine ⟨ρ, μ, Ω, _, rfl, rfl, lk_rf hc, hr, hc.ok, hx _, fun q => absurd (q.symm.trans ht) (by decide), fun _ μ2 hr2 hf2 _ => ?_⟩
    exact st_ret (st_eq (hK _ ρ μ2 (lk_3 hc hf2) hr2))
theorem lc_14 (H : lc_H n j x L) (hK : lc_K K L) (hc : ci_I Ω ρ μ) (hr : ri_I Ω μ) : tL_14 n x K [] L (bt_wd ρ μ) := by
  obtain ⟨h0, h1, h2, h4, hj, hn, hx⟩ := H
  unfold tL_14
  refine (st_ald h1 (st_arg h0 h4 hj hn (by decide) (st_c1 (lx_0 _ _) (by simp) ?_)))
  unfold SpX10_sets
  refine ⟨ρ, μ, Ω, _, rfl, rfl, hc, hx _, ?_⟩
  refine st_ret ((st_ald h2 (st_arg h0 h4 hj hn (by decide) (st_c1 (lx_205 _ _) (by simp) ?_))))
  unfold SpX11_sets
  refine ⟨ρ, μ, Ω, _, rfl, rfl, lk_rf hc, hr, hc.ok, hx _, fun μ2 hr2 hf2 _ => ?_⟩
  exact st_ret (st_eq (hK Ω ρ μ2 (lk_3 hc hf2) hr2))
theorem lc_15 (H : lc_H n j x L) (hK : lc_K K L) (hc : ci_I Ω ρ μ) (hr : ri_I Ω μ) : tL_15 n x K [] L (bt_wd ρ μ) := by
  obtain ⟨h0, h1, h2, h4, hj, hn, hx⟩ := H
  unfold tL_15
  refine (st_ald h1 (st_c0 (lx_0 _ _) (by simp) ?_))
  unfold SpX10_next
  refine ⟨ρ, μ, Ω, rfl, rfl, hc, ?_⟩
  refine st_ret ((st_ald h2 (st_c0 (lx_205 _ _) (by simp) ?_)))
  unfold SpX11_next
  refine ⟨ρ, μ, Ω, rfl, rfl, lk_rf hc, hr, hc.ok, fun μ2 hr2 hf2 _ => ?_⟩
  exact st_ret (st_eq (hK Ω ρ μ2 (lk_3 hc hf2) hr2))
theorem lc_16 (H : lc_H n j x L) (hK : lc_K K L) (hc : ci_I Ω ρ μ) (hr : ri_I Ω μ) : tL_16 n x K [] L (bt_wd ρ μ) := by
  obtain ⟨h0, h1, h2, h4, hj, hn, hx⟩ := H
  unfold tL_16
  refine (st_ald h1 (st_arg h0 h4 hj hn (by decide) (st_c1 (lx_0 _ _) (by simp) ?_)))
  unfold SpX10_apart
  refine ⟨ρ, μ, Ω, _, rfl, rfl, hc, hx _, fun μ1 hf => ?_⟩
  refine st_ret ((st_ald h2 (st_arg h0 h4 hj hn (by decide) (st_c1 (lx_205 _ _) (by simp) ?_))))
  unfold SpX11_apart
  refine ⟨ρ, μ1, Ω, _, μ 72, rfl, rfl, lk_rf hc, lk_1 hr hf, hc.ok, hx _, fun μ2 hr2 hf2 _ => ?_⟩
  exact st_ret (st_eq (hK Ω ρ μ2 (lk_3 (lk_4 hc hf) hf2) hr2))
theorem lc_17 (H : lc_H n j x L) (hK : lc_K K L) (hc : ci_I Ω ρ μ) (hr : ri_I Ω μ) : tL_17 n x K [] L (bt_wd ρ μ) := by
  obtain ⟨h0, h1, h2, h4, hj, hn, hx⟩ := H
  unfold tL_17
  refine (st_ald h1 (st_c0 (lx_0 _ _) (by simp) ?_))
  unfold SpX10_tyres
  refine ⟨ρ, μ, Ω, rfl, rfl, hc, fun μ1 hf => ?_⟩
  refine st_ret ((st_ald h2 (st_c0 (lx_205 _ _) (by simp) ?_)))
  unfold SpX11_tyres
  refine ⟨ρ, μ1, Ω, rfl, rfl, lk_rf hc, lk_1 hr hf, hc.ok, fun μ2 hr2 hf2 _ => ?_⟩
  exact st_ret (st_eq (hK Ω ρ μ2 (lk_3 (lk_4 hc hf) hf2) hr2))
theorem lc_18 (H : lc_H n j x L) (hK : lc_K K L) (hc : ci_I Ω ρ μ) (hr : ri_I Ω μ) : tL_18 n x K [] L (bt_wd ρ μ) := by
  obtain ⟨h0, h1, h2, h4, hj, hn, hx⟩ := H
  unfold tL_18
  refine (st_ald h1 (st_arg h0 h4 hj hn (by decide) (st_arg h0 h4 hj hn (by decide) (st_c2 (lx_0 _ _) (by simp) ?_))))
  unfold SpX10_walk
  refine ⟨ρ, μ, Ω, _, _, rfl, rfl, hc, hx _, hx _, fun μ1 hf => ?_⟩
  refine st_ret ((st_ald h2 (st_arg h0 h4 hj hn (by decide) (st_arg h0 h4 hj hn (by decide) (st_c2 (lx_205 _ _) (by simp) ?_)))))
  unfold SpX11_walk
  refine ⟨ρ, μ1, Ω, _, _, μ 74, μ 73, rfl, rfl, lk_rf hc, lk_1 hr hf, hc.ok, hx _, hx _, fun μ2 hr2 hf2 _ => ?_⟩
  exact st_ret (st_eq (hK Ω ρ μ2 (lk_3 (lk_4 hc hf) hf2) hr2))
theorem lc_20 (H : lc_H n j x L) (hK : lc_K K L) (hc : ci_I Ω ρ μ) (hr : ri_I Ω μ) : tL_20 n x K [] L (bt_wd ρ μ) := by
  obtain ⟨h0, h1, h2, h4, hj, hn, hx⟩ := H
  unfold tL_20
  refine (st_ald h1 (st_arg h0 h4 hj hn (by decide) (st_arg h0 h4 hj hn (by decide) (st_c2 (lx_0 _ _) (by simp) ?_))))
  unfold SpX10_rain
  refine ⟨ρ, μ, Ω, _, _, rfl, rfl, hc, hx _, hx _, fun μ1 hf => ?_⟩
  refine st_ret ((st_ald h2 (st_arg h0 h4 hj hn (by decide) (st_arg h0 h4 hj hn (by decide) (st_c2 (lx_205 _ _) (by simp) ?_)))))
  unfold SpX11_rain
  refine ⟨ρ, μ1, Ω, _, _, rfl, rfl, lk_rf hc, lk_1 hr hf, hc.ok, hx _, hx _, fun μ2 hr2 hf2 _ => ?_⟩
  exact st_ret (st_eq (hK Ω ρ μ2 (lk_3 (lk_4 hc hf) hf2) hr2))
theorem lc_21 (H : lc_H n j x L) (hK : lc_K K L) (hc : ci_I Ω ρ μ) (hr : ri_I Ω μ) : tL_21 n x K [] L (bt_wd ρ μ) := by
  obtain ⟨h0, h1, h2, h4, hj, hn, hx⟩ := H
  unfold tL_21
  refine (st_ald h1 (st_arg h0 h4 hj hn (by decide) (st_c1 (lx_0 _ _) (by simp) ?_)))
  unfold SpX10_first
  refine ⟨ρ, μ, Ω, _, rfl, rfl, hc, hx _, fun μ1 hf => ?_⟩
  refine st_ret ((st_ald h2 (st_arg h0 h4 hj hn (by decide) (st_c1 (lx_205 _ _) (by simp) ?_))))
  unfold SpX11_first
  refine ⟨ρ, μ1, Ω, _, rfl, rfl, lk_rf hc, lk_1 hr hf, hc.ok, hx _, fun μ2 hr2 hf2 _ => ?_⟩
  exact st_ret (st_eq (hK Ω ρ μ2 (lk_3 (lk_4 hc hf) hf2) hr2))
theorem lc_22 (H : lc_H n j x L) (hK : lc_K K L) (hc : ci_I Ω ρ μ) (hr : ri_I Ω μ) : tL_22 n x K [] L (bt_wd ρ μ) := by
  obtain ⟨h0, h1, h2, h4, hj, hn, hx⟩ := H
  unfold tL_22
  refine (st_ald h1 (st_arg h0 h4 hj hn (by decide) (st_arg h0 h4 hj hn (by decide) (st_arg h0 h4 hj hn (by decide) (st_c3 (lx_0 _ _) (by simp) ?_)))))
  unfold SpX10_years
  refine ⟨ρ, μ, Ω, _, _, _, rfl, rfl, hc, hx _, hx _, hx _, fun μ1 hf => ?_⟩
  refine st_ret ((st_ald h2 (st_arg h0 h4 hj hn (by decide) (st_arg h0 h4 hj hn (by decide) (st_arg h0 h4 hj hn (by decide) (st_c3 (lx_205 _ _) (by simp) ?_))))))
  unfold SpX11_years
  refine ⟨ρ, μ1, Ω, _, _, _, rfl, rfl, lk_rf hc, lk_1 hr hf, hc.ok, hx _, hx _, hx _, fun μ2 hr2 hf2 _ => ?_⟩
  exact st_ret (st_eq (hK Ω ρ μ2 (lk_3 (lk_4 hc hf) hf2) hr2))
theorem lc_24 (H : lc_H n j x L) (hK : lc_K K L) (hc : ci_I Ω ρ μ) (hr : ri_I Ω μ) : tL_24 n x K [] L (bt_wd ρ μ) := by
  obtain ⟨h0, h1, h2, h4, hj, hn, hx⟩ := H
  unfold tL_24
  refine (st_ald h1 (st_arg h0 h4 hj hn (by decide) (st_c1 (lx_0 _ _) (by simp) ?_)))
  unfold SpX10_count
  refine ⟨ρ, μ, Ω, _, rfl, rfl, hc, hx _, ?_⟩
  refine st_ret ((st_ald h2 (st_arg h0 h4 hj hn (by decide) (st_c1 (lx_205 _ _) (by simp) ?_))))
  unfold SpX11_count
  refine ⟨ρ, μ, Ω, _, rfl, rfl, lk_rf hc, hr, hc.ok, hx _, fun μ2 hr2 hf2 _ => ?_⟩
  exact st_ret (st_eq (hK Ω ρ μ2 (lk_3 hc hf2) hr2))
theorem lc_0 (H : lc_H n j x L) (hK : lc_K K L) (hc : ci_I Ω ρ μ) (hr : ri_I Ω μ) : tL_0 n x K [] L (bt_wd ρ μ) := by
  obtain ⟨h0, h1, h2, h4, hj, hn, hx⟩ := H
  unfold tL_0
  refine (st_ald h1 (st_arg h0 h4 hj hn (by decide) (st_i2l (st_ic (st_lshl (st_arg h0 h4 hj hn (by decide) (st_i2l (st_lc (st_land (st_lor (st_arg h0 h4 hj hn (by decide) (st_i2l (st_ic (st_lshl (st_arg h0 h4 hj hn (by decide) (st_i2l (st_lc (st_land (st_lor (st_arg h0 h4 hj hn (by decide) (st_i2l (st_ic (st_lshl (st_arg h0 h4 hj hn (by decide) (st_i2l (st_lc (st_land (st_lor (st_c3j (lx_0 _ _) (by simp) ?_)))))))))))))))))))))))))))))
  unfold SpX10_feed
  refine ⟨ρ, μ, Ω, _, _, _, rfl, rfl, hc, fun μ1 hc1 hf => ?_⟩
  refine st_ret ((st_ald h2 (st_arg h0 h4 hj hn (by decide) (st_i2l (st_ic (st_lshl (st_arg h0 h4 hj hn (by decide) (st_i2l (st_lc (st_land (st_lor (st_arg h0 h4 hj hn (by decide) (st_i2l (st_ic (st_lshl (st_arg h0 h4 hj hn (by decide) (st_i2l (st_lc (st_land (st_lor (st_arg h0 h4 hj hn (by decide) (st_i2l (st_ic (st_lshl (st_arg h0 h4 hj hn (by decide) (st_i2l (st_lc (st_land (st_lor (st_c3j (lx_205 _ _) (by simp) ?_))))))))))))))))))))))))))))))
  unfold SpX11_feed
  refine ⟨ρ, μ1, Ω, _, _, _, rfl, rfl, lk_rf hc, lk_2 hr hf, hc.ok, fun μ2 hr2 hf2 _ => ?_⟩
  exact st_ret (st_eq (hK _ ρ μ2 (lk_3 hc1 hf2) hr2))
theorem st_if {K1 K2 : bt_K} {st : List bt_V} {L : List (Option bt_V)} {w : bt_W} {a : Int} (h : ∀ v : Int, v = 0 ∨ v = 1 → (v = 0 ↔ bt_w a = 0) → (if v = 0 then K1 st L w else K2 st L w)) : bt_ifeq K1 K2 (.inl a :: st) L w := by
  unfold bt_ifeq
  by_cases e : bt_w a = 0
  · have := h 0 (Or.inl rfl) (by simp [e])
    rw [if_pos rfl] at this
    simp only [e, if_true]
    exact this
  · have := h 1 (Or.inr rfl) (by simp [e])
    rw [if_neg (by decide)] at this
    simp only [e, if_false]
    exact this
/-- the reference's mark, behind the class's: with the same v -/
theorem lc_mk {v r : Int} {μ1 : Nat → Nat → Int} {Ω' : om_O} (H : lc_H n j x L) (hK : lc_K K L) (ho : om_ok Ω) (hrf : bt_Rf ρ) (hr1 : ri_I Ω μ1) (hc1 : ci_I Ω' ρ μ1) (hv : v = 0 ∨ v = 1)
    (h : (¬ (0 ≤ x (7 * j + 1) ∧ x (7 * j + 1) < 4) ∨ (v = 1 ∧ Ω.2.2.1 (x (7 * j + 1)).toNat = none) → Ω' = Ω ∧ r = 0) ∧ (∀ (k : Nat) M, x (7 * j + 1) = (k : Int) → k < 4 → v = 1 → Ω.2.2.1 k = some M → Ω' = om_bk Ω M ∧ r = 1) ∧ (∀ (k : Nat), x (7 * j + 1) = (k : Int) → k < 4 → v = 0 → Ω' = om_mk Ω k ∧ r = 1)) :
    SpX11_mark [.inr (.inr 205), .inl (x (7 * j + 1)), .inl v] (bt_wd ρ μ1) (bt_ret (bt_icmpeq K bt_nix) [.inl r] L) := by
  obtain ⟨h0, h1, h2, h4, hj, hn, hx⟩ := H
  unfold SpX11_mark
  refine ⟨ρ, μ1, Ω, _, _, rfl, rfl, hrf, hr1, ho, hx _, hv, fun q μ2 hr2 hf2 _ => ?_, fun k M e1 e2 e3 e4 μ2 hr2 hf2 _ => ?_, fun k e1 e2 e3 μ2 hr2 hf2 _ => ?_⟩
  · obtain ⟨e, rfl⟩ := h.1 q
    subst e
    exact st_ret (st_eq (hK _ ρ μ2 (lk_3 hc1 hf2) hr2))
  · obtain ⟨e, rfl⟩ := h.2.1 k M e1 e2 e3 e4
    subst e
    exact st_ret (st_eq (hK _ ρ μ2 (lk_3 hc1 hf2) hr2))
  · obtain ⟨e, rfl⟩ := h.2.2 k e1 e2 e3
    subst e
    exact st_ret (st_eq (hK _ ρ μ2 (lk_3 hc1 hf2) hr2))
/-- from the class's answer on: load the reference, its arguments, call, compare -/
theorem lc_mk2 {v r : Int} {μ1 : Nat → Nat → Int} {Ω' : om_O} (H : lc_H n j x L) (hK : lc_K K L) (ho : om_ok Ω) (hrf : bt_Rf ρ) (hr1 : ri_I Ω μ1) (hc1 : ci_I Ω' ρ μ1) (hv : v = 0 ∨ v = 1) (hvw : v = 0 ↔ bt_w (x (7 * j + 2)) = 0)
    (h : (¬ (0 ≤ x (7 * j + 1) ∧ x (7 * j + 1) < 4) ∨ (v = 1 ∧ Ω.2.2.1 (x (7 * j + 1)).toNat = none) → Ω' = Ω ∧ r = 0) ∧ (∀ (k : Nat) M, x (7 * j + 1) = (k : Int) → k < 4 → v = 1 → Ω.2.2.1 k = some M → Ω' = om_bk Ω M ∧ r = 1) ∧ (∀ (k : Nat), x (7 * j + 1) = (k : Int) → k < 4 → v = 0 → Ω' = om_mk Ω k ∧ r = 1)) :
    (bt_ald 2 (bt_ald 0 (bt_ild 4 (bt_ic 1 (bt_iadd (bt_sia n x (bt_ald 0 (bt_ild 4 (bt_ic 2 (bt_iadd (bt_sia n x (bt_ifeq (bt_ic 0 (bt_cV 2 [2, 0, 0] 11 SpX11_mark (bt_icmpeq K bt_nix))) (bt_ic 1 (bt_cV 2 [2, 0, 0] 11 SpX11_mark (bt_icmpeq K bt_nix))))))))))))))) [.inl r] L (bt_wd ρ μ1) := by
  obtain ⟨h0, h1, h2, h4, hj, hn, hx⟩ := id H
  refine st_ald h2 (st_arg h0 h4 hj hn (by decide) (st_arg h0 h4 hj hn (by decide) (st_if (fun v' hv' hvw' => ?_))))
  have hvv : v' = v := by
    have q1 : v' = 0 ↔ v = 0 := hvw'.trans hvw.symm
    rcases hv with rfl | rfl <;> rcases hv' with rfl | rfl <;> first | rfl | exact absurd (q1.mp rfl) (by decide) | exact absurd (q1.mpr rfl) (by decide)
  subst hvv
  have key := lc_mk H hK ho hrf hr1 hc1 hv' h
  rcases hv' with rfl | rfl
  · rw [if_pos rfl]
    exact st_ic (st_c2 (lx_205 _ _) (by simp) key)
  · rw [if_neg (by decide)]
    exact st_ic (st_c2 (lx_205 _ _) (by simp) key)
theorem lc_mk3 {v : Int} {kk : bt_K} (H : lc_H n j x L) (hc : ci_I Ω ρ μ) (hr : ri_I Ω μ) (hv : v = 0 ∨ v = 1) (h : ∀ (r : Int) (μ1 : Nat → Nat → Int) (Ω' : om_O), ri_I Ω μ1 → ci_I Ω' ρ μ1 → ((¬ (0 ≤ x (7 * j + 1) ∧ x (7 * j + 1) < 4) ∨ (v = 1 ∧ Ω.2.2.1 (x (7 * j + 1)).toNat = none) → Ω' = Ω ∧ r = 0) ∧ (∀ (k : Nat) M, x (7 * j + 1) = (k : Int) → k < 4 → v = 1 → Ω.2.2.1 k = some M → Ω' = om_bk Ω M ∧ r = 1) ∧ (∀ (k : Nat), x (7 * j + 1) = (k : Int) → k < 4 → v = 0 → Ω' = om_mk Ω k ∧ r = 1)) → kk [.inl r] L (bt_wd ρ μ1)) : SpX10_mark [.inr (.inr 0), .inl (x (7 * j + 1)), .inl v] (bt_wd ρ μ) (bt_ret kk [] L) := by
  obtain ⟨h0, h1, h2, h4, hj, hn, hx⟩ := H
  unfold SpX10_mark
  refine ⟨ρ, μ, Ω, _, _, rfl, rfl, hc, hx _, hv, fun q => ?_, fun k M e1 e2 e3 e4 μ1 hc1 hf => ?_, fun k e1 e2 e3 μ1 hc1 hf => ?_⟩
  · refine st_ret (h 0 μ Ω hr hc ⟨fun _ => ⟨rfl, rfl⟩, fun k M e1 e2 e3 e4 => ?_, fun k e1 e2 e3 => ?_⟩)
    · exfalso
      rcases q with q | q
      · omega
      · rw [e1, Int.toNat_natCast, e4] at q
        cases q.2
    · exfalso
      rcases q with q | q <;> omega
  · refine st_ret (h 1 μ1 _ (lk_2 hr hf) hc1 ⟨fun q => ?_, fun k' M' e1' e2' e3' e4' => ?_, fun k' e1' e2' e3' => ?_⟩)
    · exfalso
      rcases q with q | q
      · omega
      · rw [e1, Int.toNat_natCast, e4] at q
        cases q.2
    · have ek : k' = k := by omega
      subst ek
      rw [e4] at e4'
      cases e4'
      exact ⟨rfl, rfl⟩
    · omega
  · refine st_ret (h 1 μ1 _ (lk_2 hr hf) hc1 ⟨fun q => ?_, fun k' M' e1' e2' e3' e4' => ?_, fun k' e1' e2' e3' => ?_⟩)
    · exfalso
      rcases q with q | q <;> omega
    · omega
    · have ek : k' = k := by omega
      subst ek
      exact ⟨rfl, rfl⟩
theorem lc_23 (H : lc_H n j x L) (hK : lc_K K L) (hc : ci_I Ω ρ μ) (hr : ri_I Ω μ) : tL_23 n x K [] L (bt_wd ρ μ) := by
  obtain ⟨h0, h1, h2, h4, hj, hn, hx⟩ := id H
  unfold tL_23
  refine st_ald h1 (st_arg h0 h4 hj hn (by decide) (st_arg h0 h4 hj hn (by decide) (st_if (fun v hv hvw => ?_))))
  have key := lc_mk3 (kk := bt_ald 2 (bt_ald 0 (bt_ild 4 (bt_ic 1 (bt_iadd (bt_sia n x (bt_ald 0 (bt_ild 4 (bt_ic 2 (bt_iadd (bt_sia n x (bt_ifeq (bt_ic 0 (bt_cV 2 [2, 0, 0] 11 SpX11_mark (bt_icmpeq K bt_nix))) (bt_ic 1 (bt_cV 2 [2, 0, 0] 11 SpX11_mark (bt_icmpeq K bt_nix))))))))))))))) (v := v) H hc hr hv (fun r μ1 Ω' hr1 hc1 h => lc_mk2 H hK hc.ok (lk_rf hc) hr1 hc1 hv hvw h)
  rcases hv with rfl | rfl
  · rw [if_pos rfl]
    exact st_ic (st_c2 (lx_0 _ _) (by simp) key)
  · rw [if_neg (by decide)]
    exact st_ic (st_c2 (lx_0 _ _) (by simp) key)
end CASES
