/-! zoos and states that agree where it matters give the same hours -/
def ab_zq (ζ ζ' : Nat → Nat → Int) : Prop := (∀ k, k < 8 → ζ 0 k = ζ' 0 k) ∧ (∀ p, p < nP ζ → ζ 4 p = ζ' 4 p) ∧ (∀ g, g < nG ζ → ζ 5 g = ζ' 5 g ∧ ζ 7 g = ζ' 7 g) ∧ (∀ a, a < nA ζ → ζ 6 a = ζ' 6 a) ∧ (∀ k, k < 120 → ζ 9 k = ζ' 9 k) ∧ ∀ k, k < 720 → ζ 10 k = ζ' 10 k
def ab_sq (ζ σ σ' : Nat → Nat → Int) : Prop := σ 0 0 = σ' 0 0 ∧ σ 0 1 = σ' 0 1 ∧ (∀ g, g < nG ζ → σ 1 g = σ' 1 g ∧ σ 2 g = σ' 2 g) ∧ ∀ a, a < nA ζ → σ 3 a = σ' 3 a
theorem ab_zq.n {ζ ζ' : Nat → Nat → Int} (h : ab_zq ζ ζ') : nG ζ = nG ζ' ∧ nA ζ = nA ζ' ∧ nP ζ = nP ζ' := by
  unfold nG nA nP
  rw [h.1 0 (by omega), h.1 1 (by omega), h.1 2 (by omega)]
  exact ⟨rfl, rfl, rfl⟩
theorem ab_zq.rf (ζ : Nat → Nat → Int) : ab_zq ζ ζ := ⟨fun _ _ => rfl, fun _ _ => rfl, fun _ _ => ⟨rfl, rfl⟩, fun _ _ => rfl, fun _ _ => rfl, fun _ _ => rfl⟩
theorem ab_sq.rf (ζ σ : Nat → Nat → Int) : ab_sq ζ σ σ := ⟨rfl, rfl, fun _ _ => ⟨rfl, rfl⟩, fun _ _ => rfl⟩
theorem ab_zq.Z {ζ ζ' : Nat → Nat → Int} (h : ab_zq ζ ζ') (hZ : ab_Z ζ) : ab_Z ζ' := by
  obtain ⟨n1, n2, n3⟩ := h.n
  obtain ⟨⟨z1, z2, z3⟩, z4, z5, z6, z7, z8, z9, z10, z11⟩ := hZ
  have h0 := h.1
  rw [h0 0 (by omega)] at z1
  rw [h0 1 (by omega)] at z2
  rw [h0 2 (by omega)] at z3
  rw [h0 5 (by omega)] at z9
  rw [h0 6 (by omega)] at z10
  rw [h0 7 (by omega)] at z11
  refine ⟨⟨z1, z2, z3⟩, fun g hg => ?_, fun a ha => ?_, fun p hp => ?_, fun k hk => ?_, fun k hk => ?_, z9, z10, z11⟩
  · rw [← (h.2.2.1 g (by omega)).1, ← (h.2.2.1 g (by omega)).2]; exact z4 g (by omega)
  · rw [← h.2.2.2.1 a (by omega)]; exact z5 a (by omega)
  · rw [← h.2.1 p (by omega)]; exact z6 p (by omega)
  · rw [← h.2.2.2.2.1 k hk]; exact z7 k hk
  · rw [← h.2.2.2.2.2 k hk]; exact z8 k hk
theorem ab_sq.S {ζ ζ' σ σ' : Nat → Nat → Int} (hz : ab_zq ζ ζ') (hs : ab_sq ζ σ σ') (hS : ab_S ζ σ) : ab_S ζ' σ' := by
  obtain ⟨n1, n2, n3⟩ := hz.n
  refine ⟨fun g hg => ?_, fun a ha => ?_⟩
  · rw [← (hs.2.2.1 g (by omega)).1, ← (hs.2.2.1 g (by omega)).2, ← n3]; exact hS.1 g (by omega)
  · rw [← hs.2.2.2 a (by omega)]; exact hS.2 a (by omega)
theorem hn_c_congr {wh wh' : Nat → Nat} {p : Nat} : ∀ n, (∀ g, g < n → wh g = wh' g) → hn_c wh p n = hn_c wh' p n
  | 0, _ => rfl
  | n + 1, h => by unfold hn_c; rw [hn_c_congr n (fun g hg => h g (by omega)), h n (by omega)]
section CG
variable {ζ ζ' σ σ' : Nat → Nat → Int}
theorem ab_rg (hZ : ab_Z ζ) : nG ζ ≤ 6 ∧ nA ζ ≤ 5 ∧ nP ζ ≤ 6 := by
  have := hZ.1
  unfold nG nA nP
  omega
theorem ab_fM_lt (hS : ab_S ζ σ) {g : Nat} (hg : g < nG ζ) : fM σ g < 10 := by
  have := (hS.1 g hg).2
  unfold fM
  omega
theorem ab_cw (hz : ab_zq ζ ζ') (hs : ab_sq ζ σ σ') (hZ : ab_Z ζ) (hS : ab_S ζ σ) (K p : Nat) : hn_w (ζ 9) (fW σ) (fM σ) (fK ζ) (nG ζ) K p = hn_w (ζ' 9) (fW σ') (fM σ') (fK ζ') (nG ζ') K p := by
  obtain ⟨n1, n2, n3⟩ := hz.n
  have hr := ab_rg hZ
  unfold hn_w
  rw [← n1]
  refine bt_sn_congr (fun g hg => ?_)
  have e1 : fW σ g = fW σ' g := by unfold fW; rw [(hs.2.2.1 g hg).1]
  have e2 : fM σ g = fM σ' g := by unfold fM; rw [(hs.2.2.1 g hg).2]
  have e3 : fK ζ g = fK ζ' g := by unfold fK; rw [(hz.2.2.1 g hg).1]
  have e4 : hn_c (fW σ) p (nG ζ) = hn_c (fW σ') p (nG ζ) := hn_c_congr _ (fun q hq => by unfold fW; rw [(hs.2.2.1 q hq).1])
  rw [e1, ← e2, e3, ← e4]
  have hl := hn_c_le (fW σ) p (nG ζ)
  have hm := ab_fM_lt hS hg
  split
  · exact hz.2.2.2.2.1 _ (by split <;> omega)
  · rfl
theorem ab_cwa (hz : ab_zq ζ ζ') (hs : ab_sq ζ σ σ') (hZ : ab_Z ζ) (hS : ab_S ζ σ) {a : Nat} (ha : a < nA ζ) (p : Nat) : ab_wa ζ σ a p = ab_wa ζ' σ' a p := by
  have e : fL ζ a = fL ζ' a := by unfold fL; rw [hz.2.2.2.1 a ha]
  unfold ab_wa hn_wa
  rw [e]
  exact ab_cw hz hs hZ hS _ _
theorem ab_csl (hz : ab_zq ζ ζ') (hs : ab_sq ζ σ σ') (hZ : ab_Z ζ) (hS : ab_S ζ σ) : ∀ a, a ≤ nA ζ → ∀ p, p < nP ζ → hn_sl (nP ζ) (ζ 4) (ab_wa ζ σ) a p = hn_sl (nP ζ') (ζ' 4) (ab_wa ζ' σ') a p
  | 0, _, p, hp => hz.2.1 p hp
  | a + 1, ha, p, hp => by
    have ih := ab_csl hz hs hZ hS a (by omega)
    unfold hn_sl
    rw [← hz.n.2.2, ih p hp] at *
    rw [hn_pk_congr (ok' := fun p => decide (0 < hn_sl (nP ζ) (ζ' 4) (ab_wa ζ' σ') a p)) (wt' := ab_wa ζ' σ' a) (fun q hq => ⟨by rw [ih q hq], ab_cwa hz hs hZ hS (by omega) q⟩)]
theorem ab_cbp (hz : ab_zq ζ ζ') (hs : ab_sq ζ σ σ') (hZ : ab_Z ζ) (hS : ab_S ζ σ) {a : Nat} (ha : a < nA ζ) : hn_bp (nP ζ) (ζ 4) (ab_wa ζ σ) a = hn_bp (nP ζ') (ζ' 4) (ab_wa ζ' σ') a := by
  unfold hn_bp
  have h1 := ab_csl hz hs hZ hS a (by omega)
  rw [← hz.n.2.2] at *
  exact hn_pk_congr (fun q hq => ⟨by rw [h1 q hq], ab_cwa hz hs hZ hS ha q⟩)
theorem ab_cB (hz : ab_zq ζ ζ') (hs : ab_sq ζ σ σ') (hZ : ab_Z ζ) (hS : ab_S ζ σ) (dr : Int) {a : Nat} (ha : a < nA ζ) : ab_B ζ σ dr a = ab_B ζ' σ' dr a := by
  unfold ab_B hn_B
  rw [ab_cbp hz hs hZ hS ha]
theorem ab_cY (hz : ab_zq ζ ζ') (hs : ab_sq ζ σ σ') (hZ : ab_Z ζ) (hS : ab_S ζ σ) (dr : Int) {a : Nat} (ha : a < nA ζ) : ab_Y ζ σ dr a = ab_Y ζ' σ' dr a := by
  unfold ab_Y hn_Y
  rw [ab_cbp hz hs hZ hS ha, hs.2.2.2 a ha]
theorem ab_ctk (hz : ab_zq ζ ζ') (hs : ab_sq ζ σ σ') (hZ : ab_Z ζ) (hS : ab_S ζ σ) (dr : Int) : ab_tk ζ σ dr = ab_tk ζ' σ' dr := by
  unfold ab_tk
  rw [← hz.n.2.1]
  exact bt_sn_congr (fun a ha => ab_cY hz hs hZ hS dr ha)
theorem ab_cfed (hz : ab_zq ζ ζ') (hs : ab_sq ζ σ σ') : ab_fed ζ σ = ab_fed ζ' σ' := by
  unfold ab_fed
  rw [hs.1, hz.1 4 (by omega)]
theorem ab_fed_le (ζ σ : Nat → Nat → Int) : ab_fed ζ σ ≤ 1 := by unfold ab_fed; split <;> omega
theorem bt_ct_congr {p q : Nat → Bool} : ∀ n, (∀ i, i < n → p i = q i) → bt_ct p n = bt_ct q n
  | 0, _ => rfl
  | n + 1, h => by unfold bt_ct; rw [bt_ct_congr n (fun i hi => h i (by omega)), h n (by omega)]
theorem ab_ix (hZ : ab_Z ζ) (hS : ab_S ζ σ) (dr : Int) {g : Nat} (hg : g < nG ζ) : ((ab_fed ζ σ * 10 + fM σ g) * 6 + (hn_c (fW σ) (fW σ g) (nG ζ) - 1)) * 6 + bt_ct (fun a => decide (ab_B ζ σ dr a = (fW σ g : Int))) (nA ζ) < 720 := by
  have h1 := ab_fed_le ζ σ
  have h2 := ab_fM_lt hS hg
  have h3 := hn_c_le (fW σ) (fW σ g) (nG ζ)
  have h4 := bt_ct_le (fun a => decide (ab_B ζ σ dr a = (fW σ g : Int))) (nA ζ)
  have h5 := ab_rg hZ
  omega
theorem ab_cma (hz : ab_zq ζ ζ') (hs : ab_sq ζ σ σ') (hZ : ab_Z ζ) (hS : ab_S ζ σ) (dr : Int) {g : Nat} (hg : g < nG ζ) : ab_ma ζ σ dr g = ab_ma ζ' σ' dr g := by
  have hi := ab_ix hZ hS dr hg
  unfold ab_ma hn_ma
  rw [hz.2.2.2.2.2 _ hi]
  have e1 : fW σ g = fW σ' g := by unfold fW; rw [(hs.2.2.1 g hg).1]
  have e2 : fM σ g = fM σ' g := by unfold fM; rw [(hs.2.2.1 g hg).2]
  have e4 : hn_c (fW σ) (fW σ g) (nG ζ) = hn_c (fW σ') (fW σ g) (nG ζ) := hn_c_congr _ (fun q hq => by unfold fW; rw [(hs.2.2.1 q hq).1])
  have e5 : bt_ct (fun a => decide (ab_B ζ σ dr a = (fW σ g : Int))) (nA ζ) = bt_ct (fun a => decide (ab_B ζ' σ' dr a = (fW σ g : Int))) (nA ζ) := bt_ct_congr _ (fun a ha => by rw [ab_cB hz hs hZ hS dr ha])
  rw [e5, e4, e1, e2, ab_cfed hz hs, hz.n.1, hz.n.2.1]
theorem ab_cps (hz : ab_zq ζ ζ') (hs : ab_sq ζ σ σ') (hZ : ab_Z ζ) (hS : ab_S ζ σ) (dr : Int) : ab_sq ζ (ab_ps ζ σ dr) (ab_ps ζ' σ' dr) := by
  have hn := hz.n
  refine ⟨?_, ?_, fun g hg => ⟨?_, ?_⟩, fun a ha => ?_⟩
  · simp [ab_ps, hs.1]
  · simp [ab_ps, hs.2.1, ab_ctk hz hs hZ hS dr]
  · simp [ab_ps, (hs.2.2.1 g hg).1]
  · simp [ab_ps, hg, show g < nG ζ' by omega, ab_cma hz hs hZ hS dr hg]
  · simp [ab_ps, ha, show a < nA ζ' by omega, ab_cY hz hs hZ hS dr ha, hs.2.2.2 a ha]
/-- an hour leaves a good state -/
theorem ab_Yrg (hZ : ab_Z ζ) (hS : ab_S ζ σ) (dr : Int) {a : Nat} (ha : a < nA ζ) : 0 ≤ ab_Y ζ σ dr a ∧ ab_Y ζ σ dr a ≤ σ 3 a := by
  have h1 := hS.2 a ha
  unfold ab_Y hn_Y
  split
  · omega
  · have h2 : 0 ≤ (hn_bp (nP ζ) (ζ 4) (ab_wa ζ σ) a).2 := by
      rcases hn_pk_of (ok := fun p => decide (0 < hn_sl (nP ζ) (ζ 4) (ab_wa ζ σ) a p)) (wt := ab_wa ζ σ a) (n := nP ζ) with h | ⟨p, -, -, -, h⟩
      · have : (hn_bp (nP ζ) (ζ 4) (ab_wa ζ σ) a).2 = 0 := h.2
        omega
      · have : (hn_bp (nP ζ) (ζ 4) (ab_wa ζ σ) a).2 = ab_wa ζ σ a p := h.1
        omega
    split <;> omega
theorem ab_Sps (hZ : ab_Z ζ) (hS : ab_S ζ σ) (dr : Int) : ab_S ζ (ab_ps ζ σ dr) := by
  refine ⟨fun g hg => ⟨?_, ?_⟩, fun a ha => ?_⟩
  · simpa [ab_ps] using (hS.1 g hg).1
  · simp only [ab_ps, Nat.reduceEqDiff, ↓reduceIte, hg]
    exact hZ.2.2.2.2.2.1 _ (ab_ix hZ hS dr hg)
  · have h1 := ab_Yrg hZ hS dr ha
    have h2 := hS.2 a ha
    simp only [ab_ps, Nat.reduceEqDiff, ↓reduceIte, ha]
    omega
theorem ab_cin (hz : ab_zq ζ ζ') (hs : ab_sq ζ σ σ') (p : Int) : ab_in ζ σ p = ab_in ζ' σ' p := by
  unfold ab_in
  rw [← hz.n.1]
  exact bt_bn_congr (fun g hg => by rw [(hs.2.2.1 g hg).1])
theorem ab_ccan (hz : ab_zq ζ ζ') (hs : ab_sq ζ σ σ') {g : Nat} (hg : g < nG ζ) (p : Int) : ab_can ζ σ g p = ab_can ζ' σ' g p := by
  unfold ab_can
  rw [ab_cin hz hs p, (hs.2.2.1 g hg).1, (hz.2.2.1 g hg).2]
theorem ab_cok (hz : ab_zq ζ ζ') (hs : ab_sq ζ σ σ') (v g p : Nat) : ab_ok ζ σ v g p = ab_ok ζ' σ' v g p := by
  obtain ⟨n1, n2, n3⟩ := hz.n
  unfold ab_ok
  rw [← n1, ← n3, hs.2.1, hz.1 6 (by omega)]
  by_cases hg : g < nG ζ
  · rw [ab_ccan hz hs hg]
  · simp [hg]
theorem ab_cmt (hz : ab_zq ζ ζ') (hs : ab_sq ζ σ σ') {g : Nat} (hg : g < nG ζ) : ab_mt ζ σ g = ab_mt ζ' σ' g := by
  unfold ab_mt
  rw [(hs.2.2.1 g hg).2, hz.1 5 (by omega)]
theorem ab_cch (hz : ab_zq ζ ζ') (hs : ab_sq ζ σ σ') {g : Nat} (hg : g < nG ζ) : ab_sq ζ (ab_ch ζ σ g) (ab_ch ζ' σ' g) := by
  refine ⟨?_, ?_, fun q hq => ⟨?_, ?_⟩, fun a ha => ?_⟩
  · simp [ab_ch, hs.1]
  · simp [ab_ch, hs.2.1]
  · simp [ab_ch, (hs.2.2.1 q hq).1]
  · simp [ab_ch, (hs.2.2.1 q hq).2, ab_cmt hz hs hg]
  · simp [ab_ch, hs.2.2.2 a ha]
theorem ab_mt_rg (hZ : ab_Z ζ) (hS : ab_S ζ σ) {g : Nat} (hg : g < nG ζ) : 0 ≤ ab_mt ζ σ g ∧ ab_mt ζ σ g ≤ 9 := by
  have h1 := (hS.1 g hg).2
  have h2 := hZ.2.2.2.2.2.2.1
  unfold ab_mt bo_min
  rw [bt_w_id (by omega) (by omega), bt_w_id (x := 9) (by omega) (by omega)]
  split <;> omega
theorem ab_Sch (hZ : ab_Z ζ) (hS : ab_S ζ σ) {g : Nat} (hg : g < nG ζ) : ab_S ζ (ab_ch ζ σ g) := by
  refine ⟨fun q hq => ⟨?_, ?_⟩, fun a ha => ?_⟩
  · simpa [ab_ch] using (hS.1 q hq).1
  · have h1 := ab_mt_rg hZ hS hg
    have h2 := (hS.1 q hq).2
    simp only [ab_ch, true_and]
    split
    · exact h1
    · exact h2
  · simpa [ab_ch] using hS.2 a ha
theorem ab_cob (hz : ab_zq ζ ζ') (hs : ab_sq ζ σ σ') (hZ : ab_Z ζ) (hS : ab_S ζ σ) (v g p : Nat) : ab_sq ζ (ab_ob ζ σ v g p) (ab_ob ζ' σ' v g p) := by
  unfold ab_ob
  rw [← ab_cok hz hs v g p]
  by_cases ho : ab_ok ζ σ v g p
  · rw [if_pos ho, if_pos ho]
    by_cases h0 : v = 0
    · rw [if_pos h0, if_pos h0]
      refine ⟨?_, ?_, fun q hq => ⟨?_, ?_⟩, fun a ha => ?_⟩
      · simp [ab_mv, hs.1]
      · simp [ab_mv, hs.2.1]
      · simp [ab_mv, (hs.2.2.1 q hq).1]
      · simp [ab_mv, (hs.2.2.1 q hq).2]
      · simp [ab_mv, hs.2.2.2 a ha]
    · rw [if_neg h0, if_neg h0]
      by_cases h1 : v = 1
      · rw [if_pos h1, if_pos h1]
        have hg : g < nG ζ := by
          unfold ab_ok at ho
          rw [if_neg h0, if_pos h1] at ho
          simp at ho
          exact ho.1
        have hc := ab_cch hz hs hg
        refine ⟨?_, ?_, fun q hq => ⟨?_, ?_⟩, fun a ha => ?_⟩
        · simp [ab_ty]; exact hc.1
        · simp [ab_ty, hs.2.1, hz.1 6 (by omega)]
        · simp [ab_ty]; exact (hc.2.2.1 q hq).1
        · simp [ab_ty]; exact (hc.2.2.1 q hq).2
        · simp [ab_ty]; exact hc.2.2.2 a ha
      · rw [if_neg h1, if_neg h1]
        exact ab_cps hz hs hZ hS 1
  · rw [if_neg ho, if_neg ho]
    exact hs
theorem ab_Sob (hZ : ab_Z ζ) (hS : ab_S ζ σ) (v g p : Nat) : ab_S ζ (ab_ob ζ σ v g p) := by
  unfold ab_ob
  by_cases ho : ab_ok ζ σ v g p
  · rw [if_pos ho]
    by_cases h0 : v = 0
    · rw [if_pos h0]
      have hp : p < nP ζ := by
        unfold ab_ok at ho
        rw [if_pos h0] at ho
        simp at ho
        exact ho.1.2
      refine ⟨fun q hq => ⟨?_, ?_⟩, fun a ha => ?_⟩
      · have h2 := (hS.1 q hq).1
        simp only [ab_mv, true_and]
        split
        · omega
        · exact h2
      · simpa [ab_mv] using (hS.1 q hq).2
      · simpa [ab_mv] using hS.2 a ha
    · rw [if_neg h0]
      by_cases h1 : v = 1
      · rw [if_pos h1]
        have hg : g < nG ζ := by
          unfold ab_ok at ho
          rw [if_neg h0, if_pos h1] at ho
          simp at ho
          exact ho.1
        have hc := ab_Sch hZ hS hg
        exact ⟨fun q hq => by simpa [ab_ty] using hc.1 q hq, fun a ha => by simpa [ab_ty] using hc.2 a ha⟩
      · rw [if_neg h1]
        exact ab_Sps hZ hS 1
  · rw [if_neg ho]
    exact hS
/-- who paces, as a set -/
def ab_pc (ζ σ : Nat → Nat → Int) : Nat := bt_bn (fun i => decide (bt_w (σ 2 i) = 0)) (nG ζ)
theorem ab_cpc (hz : ab_zq ζ ζ') (hs : ab_sq ζ σ σ') : ab_pc ζ σ = ab_pc ζ' σ' := by
  unfold ab_pc
  rw [← hz.n.1]
  exact bt_bn_congr (fun g hg => by rw [(hs.2.2.1 g hg).2])
theorem ab_cpick (hz : ab_zq ζ ζ') (hs : ab_sq ζ σ σ') (hZ : ab_Z ζ) (hS : ab_S ζ σ) (K : Nat) : ab_pick ζ σ K = ab_pick ζ' σ' K := by
  unfold ab_pick
  rw [← hz.n.2.2]
  rw [hn_pk_congr (fun p hp => ⟨by rw [hz.2.1 p hp], ab_cw hz hs hZ hS K p⟩)]
end CG
