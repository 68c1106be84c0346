/-! show: nothing that is left out could be better -/
theorem rw_wo {ζ σ : Nat → Nat → Int} {kind C : Nat} : rw_w ζ σ (2 ^ kind) C (nG ζ) = ab_wo ζ σ kind C := by
  unfold rw_w ab_wo
  refine bt_sn_congr (fun g _ => ?_)
  rw [Nat.testBit_two_pow]
  by_cases h : fK ζ g = kind
  · rw [if_pos h, if_pos (decide_eq_true h.symm)]
  · have h' : ¬ (decide (kind = fK ζ g) = true) := by rw [decide_eq_false (fun q => h q.symm)]; decide
    simp only [if_neg h, if_neg h']
theorem ab_wo_wr {ζ σ : Nat → Nat → Int} {wh : Nat → Int} {kind C : Nat} : ab_wo ζ (ab_wr σ wh) kind C = ab_wo ζ σ kind C := rfl
/-- pens of a whole row -/
theorem ab_in_wr {ζ σ : Nat → Nat → Int} {wh : Nat → Int} (hP : nP ζ ≤ 6) (hw : ∀ i, i < nG ζ → 0 ≤ wh i ∧ wh i < (nP ζ : Int)) {p : Nat} (hp : p < nP ζ) : ab_in ζ (ab_wr σ wh) (p : Int) = ab_hd wh (nG ζ) p := by
  unfold ab_in ab_hd
  refine bt_bn_congr (fun i hi => ?_)
  have := hw i hi
  show decide (bt_w (wh i) = bt_w (p : Int)) = _
  rw [bt_w_id (by omega) (by omega), bt_w_id (by omega) (by omega)]
theorem ab_wa_wr {ζ σ : Nat → Nat → Int} {wh : Nat → Int} (hZ : ab_Z ζ) (hS : ab_S ζ σ) (hw : ∀ i, i < nG ζ → 0 ≤ wh i ∧ wh i < (nP ζ : Int)) {a p : Nat} (hp : p < nP ζ) : ab_wa ζ (ab_wr σ wh) a p = ab_wo ζ σ (fL ζ a) (ab_hd wh (nG ζ) p) := by
  have h1 := rw_w_in hZ (ab_Swr hS hw) (2 ^ fL ζ a) hp
  rw [ab_in_wr (ab_rg hZ).2.2 hw hp, rw_wo, ab_wo_wr] at h1
  exact h1.symm
/-- more guests may come to a crowd -/
theorem ab_mo_ge {ζ σ : Nat → Nat → Int} {wh : Nat → Int} {kind p : Nat} : ∀ d, d ≤ nG ζ → ab_wo ζ σ kind (ab_hd wh (nG ζ) p) ≤ ab_mo ζ σ kind d (ab_hd wh (nG ζ - d) p)
  | 0, _ => Int.le_refl _
  | d + 1, hd => by
    have ih := ab_mo_ge (ζ := ζ) (σ := σ) (wh := wh) (kind := kind) (p := p) d (by omega)
    have e : ab_hd wh (nG ζ - d) p = ab_hd wh (nG ζ - (d + 1)) p + (if decide (wh (nG ζ - (d + 1)) = (p : Int)) = true then 2 ^ (nG ζ - (d + 1)) else 0) := by
      rw [show nG ζ - d = (nG ζ - (d + 1)) + 1 by omega]
      rfl
    unfold ab_mo
    by_cases hb : decide (wh (nG ζ - (d + 1)) = (p : Int)) = true
    · rw [if_pos hb] at e
      rw [e] at ih
      split <;> omega
    · rw [if_neg hb, Nat.add_zero] at e
      rw [e] at ih
      split <;> omega
theorem hn_sl_le {P : Nat} {seats : Nat → Int} {wt : Nat → Nat → Int} : ∀ a p, hn_sl P seats wt a p ≤ seats p
  | 0, p => Int.le_refl _
  | a + 1, p => by
    have := hn_sl_le (P := P) (seats := seats) (wt := wt) a p
    unfold hn_sl
    split <;> omega
theorem hn_pk_hb {ok : Nat → Bool} {wt seats v : Nat → Int} : ∀ n, (∀ p, p < n → (ok p = true → 0 < seats p) ∧ wt p ≤ v p) → (hn_pk ok wt n).2 ≤ ab_hb seats v n
  | 0, _ => Int.le_refl _
  | n + 1, h => by
    have ih := hn_pk_hb (ok := ok) (wt := wt) (seats := seats) (v := v) n (fun p hp => h p (by omega))
    obtain ⟨h1, h2⟩ := h n (by omega)
    unfold hn_pk ab_hb
    by_cases h3 : ok n = true ∧ (hn_pk ok wt n).2 < wt n
    · rw [if_pos h3, if_pos (h1 h3.1)]
      show wt n ≤ _
      split <;> omega
    · rw [if_neg h3]
      split
      · split <;> omega
      · exact ih
theorem bt_sn_le {f g : Nat → Int} : ∀ n, (∀ i, i < n → f i ≤ g i) → bt_sn f n ≤ bt_sn g n
  | 0, _ => Int.le_refl _
  | n + 1, h => by
    have := bt_sn_le n (fun i hi => h i (by omega))
    have := h n (by omega)
    unfold bt_sn
    omega
/-- what is hoped is no less than what is taken -/
theorem ab_hop_ge {ζ σ : Nat → Nat → Int} (hZ : ab_Z ζ) (hS : ab_S ζ σ) {g : Nat} (hg : g ≤ nG ζ) {wh wh' : Nat → Int} (he : ∀ i, i < g → wh' i = wh i) (hw : ∀ i, i < nG ζ → 0 ≤ wh' i ∧ wh' i < (nP ζ : Int)) : ab_tk ζ (ab_wr σ wh') 1 ≤ ab_hop ζ σ g wh := by
  unfold ab_tk ab_hop
  refine bt_sn_le (nA ζ) (fun a ha => ?_)
  have hd : ∀ p, ab_hd wh g p = ab_hd wh' g p := fun p => bt_bn_congr (fun i hi => by rw [he i hi])
  have hb : (hn_bp (nP ζ) (ζ 4) (ab_wa ζ (ab_wr σ wh')) a).2 ≤ ab_hb (ζ 4) (fun p => ab_mo ζ σ (fL ζ a) (nG ζ - g) (ab_hd wh g p)) (nP ζ) := by
    unfold hn_bp
    refine hn_pk_hb (nP ζ) (fun p hp => ⟨fun q => ?_, ?_⟩)
    · have h1 : 0 < hn_sl (nP ζ) (ζ 4) (ab_wa ζ (ab_wr σ wh')) a p := of_decide_eq_true q
      have h2 := hn_sl_le (P := nP ζ) (seats := ζ 4) (wt := ab_wa ζ (ab_wr σ wh')) a p
      omega
    · rw [ab_wa_wr hZ hS hw hp, hd p]
      have := ab_mo_ge (ζ := ζ) (σ := σ) (wh := wh') (kind := fL ζ a) (p := p) (nG ζ - g) (by omega)
      rw [show nG ζ - (nG ζ - g) = g by omega] at this
      exact this
  unfold ab_Y hn_Y ab_hp
  rw [if_neg (by decide)]
  show (if _ < σ 3 a then _ else σ 3 a) ≤ _
  dsimp only
  split <;> split <;> omega
/-- the search without any leaving out -/
def ab_pu (ζ σ : Nat → Nat → Int) : Nat → Nat → (Nat → Int) → ab_Sx → ab_Sx
  | 0, _, wh, s => ab_jt ζ σ wh s
  | k + 1, g, wh, s => ab_ptL ζ g wh (ab_pu ζ σ k (g + 1)) (nP ζ) 0 s
theorem ab_pu_cut {ζ σ : Nat → Nat → Int} (hZ : ab_Z ζ) {B : Int} {s : ab_Sx} (hs : s.1 ≠ 0 ∧ (B < s.2.1 ∨ (B = s.2.1 ∧ s.2.2.1 ≤ 0))) : ∀ (k g : Nat) (wh : Nat → Int), g + k = nG ζ → (∀ i, i < g → 0 ≤ wh i ∧ wh i < (nP ζ : Int)) → (∀ wh' : Nat → Int, (∀ i, i < g → wh' i = wh i) → (∀ i, i < nG ζ → 0 ≤ wh' i ∧ wh' i < (nP ζ : Int)) → ab_tk ζ (ab_wr σ wh') 1 ≤ B) → ab_pu ζ σ k g wh s = s
  | 0, g, wh, hg, hw, hB => by
    have h1 := hB wh (fun _ _ => rfl) (fun i hi => hw i (by omega))
    have h2 := ab_np_rg ζ (ab_wr σ wh) hZ
    unfold ab_pu ab_jt
    rw [if_neg (by omega)]
  | k + 1, g, wh, hg, hw, hB => by
    unfold ab_pu
    have : ∀ c p, p + c = nP ζ → ab_ptL ζ g wh (ab_pu ζ σ k (g + 1)) c p s = s := by
      intro c
      induction c with
      | zero => intro p _; rfl
      | succ c ih =>
        intro p hp
        unfold ab_ptL
        have : (if ab_hd wh g p &&& (ζ 7 g).toNat = 0 then ab_pu ζ σ k (g + 1) (ab_put wh g p) s else s) = s := by
          split
          · refine ab_pu_cut hZ hs k (g + 1) (ab_put wh g p) (by omega) (fun i hi => ?_) (fun wh' e hv => hB wh' (fun i hi => ?_) hv)
            · unfold ab_put
              split
              · omega
              · exact hw i (by omega)
            · rw [e i (by omega)]
              unfold ab_put
              rw [if_neg (by omega)]
          · rfl
        rw [this]
        exact ih (p + 1) (by omega)
    exact this (nP ζ) 0 (by omega)
theorem ab_pt_pu {ζ σ : Nat → Nat → Int} (hZ : ab_Z ζ) (hS : ab_S ζ σ) : ∀ (k g : Nat) (wh : Nat → Int) (s : ab_Sx), g + k = nG ζ → (∀ i, i < g → 0 ≤ wh i ∧ wh i < (nP ζ : Int)) → ab_pt ζ σ k g wh s = ab_pu ζ σ k g wh s := by
  have cut : ∀ (k g : Nat) (wh : Nat → Int) (s : ab_Sx), g + k = nG ζ → (∀ i, i < g → 0 ≤ wh i ∧ wh i < (nP ζ : Int)) → ab_cut ζ σ g wh s = true → ab_pu ζ σ k g wh s = s := fun k g wh s hg hw hc => by
    refine ab_pu_cut hZ (B := ab_hop ζ σ g wh) ?_ k g wh hg hw (fun wh' e hv => ab_hop_ge hZ hS (by omega) e hv)
    unfold ab_cut at hc
    simp only [Bool.and_eq_true, decide_eq_true_eq, Bool.not_eq_true', Bool.or_eq_false_iff, decide_eq_false_iff_not, Bool.and_eq_false_iff] at hc
    omega
  intro k
  induction k with
  | zero =>
    intro g wh s hg hw
    unfold ab_pt
    split
    · next h => exact (cut 0 g wh s hg hw h).symm
    · rfl
  | succ k ih =>
    intro g wh s hg hw
    unfold ab_pt
    split
    · next h => exact (cut (k + 1) g wh s hg hw h).symm
    · unfold ab_pu
      have : ∀ c p s, p + c = nP ζ → ab_ptL ζ g wh (ab_pt ζ σ k (g + 1)) c p s = ab_ptL ζ g wh (ab_pu ζ σ k (g + 1)) c p s := by
        intro c
        induction c with
        | zero => intro p s _; rfl
        | succ c ihc =>
          intro p s hp
          unfold ab_ptL
          rw [ih (g + 1) (ab_put wh g p) s (by omega) (fun i hi => by
            unfold ab_put
            split
            · omega
            · exact hw i (by omega))]
          exact ihc (p + 1) _ (by omega)
      exact this (nP ζ) 0 s (by omega)
/-- zoos and states that agree where it matters -/
theorem ab_jt_cg {ζ ζ' σ σ' : Nat → Nat → Int} (hz : ab_zq ζ ζ') (hs : ab_sq ζ σ σ') (hZ : ab_Z ζ) (hS : ab_S ζ σ) {wh : Nat → Int} (hw : ∀ i, i < nG ζ → 0 ≤ wh i ∧ wh i < (nP ζ : Int)) (s : ab_Sx) : ab_jt ζ σ wh s = ab_jt ζ' σ' wh s := by
  have hs' : ab_sq ζ (ab_wr σ wh) (ab_wr σ' wh) := ⟨hs.1, hs.2.1, fun g hg => ⟨rfl, (hs.2.2.1 g hg).2⟩, hs.2.2.2⟩
  have hS' := ab_Swr hS hw
  have e1 := ab_ctk hz hs' hZ hS' 1
  have e2 : ab_np ζ (ab_wr σ wh) = ab_np ζ' (ab_wr σ' wh) := by
    unfold ab_np
    rw [← hz.n.1]
    congr 1
    exact bt_ct_congr _ (fun i hi => by rw [ab_cma hz hs' hZ hS' 1 hi])
  unfold ab_jt
  rw [e1, e2, hz.n.1]
theorem ab_pu_cg {ζ ζ' σ σ' : Nat → Nat → Int} (hz : ab_zq ζ ζ') (hs : ab_sq ζ σ σ') (hZ : ab_Z ζ) (hS : ab_S ζ σ) : ∀ (k g : Nat) (wh : Nat → Int) (s : ab_Sx), g + k = nG ζ → (∀ i, i < g → 0 ≤ wh i ∧ wh i < (nP ζ : Int)) → ab_pu ζ σ k g wh s = ab_pu ζ' σ' k g wh s
  | 0, g, wh, s, hg, hw => ab_jt_cg hz hs hZ hS (fun i hi => hw i (by omega)) s
  | k + 1, g, wh, s, hg, hw => by
    unfold ab_pu
    rw [← hz.n.2.2]
    have e7 := (hz.2.2.1 g (by omega)).2
    have : ∀ c p s, p + c = nP ζ → ab_ptL ζ g wh (ab_pu ζ σ k (g + 1)) c p s = ab_ptL ζ' g wh (ab_pu ζ' σ' k (g + 1)) c p s := by
      intro c
      induction c with
      | zero => intro p s _; rfl
      | succ c ihc =>
        intro p s hp
        unfold ab_ptL
        rw [← e7, ab_pu_cg hz hs hZ hS k (g + 1) (ab_put wh g p) s (by omega) (fun i hi => by
            unfold ab_put
            split
            · omega
            · exact hw i (by omega))]
        exact ihc (p + 1) _ (by omega)
    exact this (nP ζ) 0 s (by omega)
