/-! the reference: a row that is being told -/
theorem bt_upe (μ : Nat → Nat → Int) (a k : Nat) (x : Int) (a' k' : Nat) : bt_up μ a k x a' k' = if a' = a ∧ k' = k then x else μ a' k' := rfl
def rr_c (a k : Nat) : Prop := (a = 205 ∧ ((4 ≤ k ∧ k ≤ 9) ∨ (25 ≤ k ∧ k ≤ 27) ∨ k = 40 ∨ k = 41)) ∨ (a = 207 ∧ 9 ≤ k) ∨ ((a = 208 ∨ a = 209 ∨ (211 ≤ a ∧ a ≤ 214) ∨ a = 218) ∧ 6 ≤ k) ∨ ((a = 210 ∨ a = 215 ∨ a = 216) ∧ 5 ≤ k) ∨ (a = 217 ∧ 36 ≤ k) ∨ ((a = 219 ∨ a = 220) ∧ 2 ≤ k) ∨ (a = 221 ∧ 1000 ≤ k) ∨ a = 222 ∨ a = 223
def rr_fr (μ' μ : Nat → Nat → Int) : Prop := ∀ a k, ¬ rr_c a k → μ' a k = μ a k
theorem rr_rf {μ : Nat → Nat → Int} : rr_fr μ μ := fun _ _ _ => rfl
theorem rr_fr.tr {a b c : Nat → Nat → Int} (h : rr_fr a b) (h' : rr_fr b c) : rr_fr a c := fun x k hn => (h x k hn).trans (h' x k hn)
theorem rr_fr.up {μ' μ : Nat → Nat → Int} {a k : Nat} {v : Int} (h : rr_fr μ' μ) (hc : rr_c a k) : rr_fr (bt_up μ' a k v) μ := fun a' k' hn => by
  rw [bt_upe, if_neg (fun q => hn (by rw [q.1, q.2]; exact hc))]; exact h a' k' hn
theorem rq_fr.r {μ' μ : Nat → Nat → Int} (h : rq_fr μ' μ) : rr_fr μ' μ := fun a k hn => by
  by_cases e : a = 205
  · subst e; exact h.2 k (by unfold rr_c at hn; omega)
  · rw [h.1 a e]
/-- pens, guests, animals, numbers, paths, foes, lines that may stand once -/
def rr_p (μ ζ : Nat → Nat → Int) : Prop := μ 207 9 = (nP ζ : Int) ∧ ∀ i, i < nP ζ → μ 208 (6 + i) = ζ 1 i ∧ μ 211 (6 + i) = ζ 4 i
def rr_g (μ ζ : Nat → Nat → Int) : Prop := μ 207 10 = (nG ζ : Int) ∧ ∀ i, i < nG ζ → μ 209 (6 + i) = ζ 2 i ∧ μ 212 (6 + i) = ζ 5 i ∧ μ 213 (6 + i) = ζ 13 i ∧ μ 214 (6 + i) = ζ 12 i ∧ μ 218 (6 + i) = ζ 7 i
def rr_a (μ ζ : Nat → Nat → Int) : Prop := μ 207 11 = (nA ζ : Int) ∧ ∀ i, i < nA ζ → μ 210 (5 + i) = ζ 3 i ∧ μ 215 (5 + i) = ζ 6 i ∧ μ 216 (5 + i) = ζ 14 i
def rr_n (μ ζ : Nat → Nat → Int) : Prop := μ 207 12 = ζ 0 3 ∧ μ 207 14 = ζ 0 4 ∧ μ 207 15 = ζ 0 5 ∧ μ 207 16 = ζ 0 6 ∧ μ 207 17 = ζ 0 7
def rr_W (μ ζ : Nat → Nat → Int) : Prop := ∀ k, k < 36 → (ζ 8 k = 1000 ∧ μ 217 (36 + k) = 0) ∨ (1 ≤ ζ 8 k ∧ ζ 8 k ≤ 30 ∧ μ 217 (36 + k) = ζ 8 k)
def rr_F (μ ζ : Nat → Nat → Int) : Prop := (∀ g, nG ζ ≤ g → g < 6 → ζ 7 g = 0) ∧ (∀ a b, a < 6 → b < 6 → (ζ 7 a).toNat.testBit b = (ζ 7 b).toNat.testBit a) ∧ 2 * μ 207 13 = bt_sn (fun g => (bt_pcn (ζ 7 g).toNat 16 : Int)) (nG ζ)
def rr_T (μ ζ : Nat → Nat → Int) : Prop := ∃ T : Nat, μ 205 27 = (T : Int) ∧ T < 512 ∧ T.testBit 5 = (ζ 0 8).toNat.testBit 10 ∧ T.testBit 6 = (ζ 0 8).toNat.testBit 11 ∧ T.testBit 8 = (ζ 0 8).toNat.testBit 13
/-- a law that is told, or is not -/
def rr_l (μ : Nat → Nat → Int) (l s : Nat) (told : Bool) (al : Nat) (val : fo_V → Prop) : Prop := ∃ a b : Nat, μ 219 (2 + l) = ((1000 + a : Nat) : Int) ∧ μ 220 (2 + l) = ((1000 + b : Nat) : Int) ∧ b ≤ s ∧ ((told = true ∧ a < b ∧ ∃ V, wk_ok (μ 221) (1000 + a) (1000 + b) V ∧ fo_dp al V ∧ val V) ∨ (told = false ∧ a = b))
def rr_v9 (f : Nat → Int) (V : fo_V) : Prop := ∀ i, i < 120 → f i = ab_cl (bt_w (V (fo_sf i))) 99
def rr_v10 (f : Nat → Int) (V : fo_V) : Prop := ∀ i, i < 720 → f i = ab_cl (bt_w (V (fo_mf i))) 9
def rr_L (μ ζ : Nat → Nat → Int) (c : Nat) : Prop := ∃ s : Nat, μ 205 25 = ((1000 + s : Nat) : Int) ∧ s ≤ c ∧ rr_l μ 0 s ((ζ 0 8).toNat.testBit 14) 7 (rr_v9 (ζ 9)) ∧ rr_l μ 1 s ((ζ 0 8).toNat.testBit 15) 30 (rr_v10 (ζ 10))
def rr_E (μ ζ : Nat → Nat → Int) (c : Nat) : Prop := (rr_p μ ζ ∧ rr_g μ ζ ∧ rr_a μ ζ) ∧ rr_n μ ζ ∧ rr_W μ ζ ∧ rr_F μ ζ ∧ rr_T μ ζ ∧ rr_L μ ζ c
theorem nP_cg {ζ ζ' : Nat → Nat → Int} (h : ζ' 0 0 = ζ 0 0) : nP ζ' = nP ζ := by unfold nP; rw [h]
theorem nG_cg {ζ ζ' : Nat → Nat → Int} (h : ζ' 0 1 = ζ 0 1) : nG ζ' = nG ζ := by unfold nG; rw [h]
theorem nA_cg {ζ ζ' : Nat → Nat → Int} (h : ζ' 0 2 = ζ 0 2) : nA ζ' = nA ζ := by unfold nA; rw [h]
theorem rr_p.cg {μ μ' ζ ζ' : Nat → Nat → Int} (h : rr_p μ ζ) (e : μ' 207 9 = μ 207 9) (e1 : μ' 208 = μ 208) (e2 : μ' 211 = μ 211) (f : ζ' 0 0 = ζ 0 0) (f1 : ζ' 1 = ζ 1) (f4 : ζ' 4 = ζ 4) : rr_p μ' ζ' := by
  unfold rr_p at *
  rw [nP_cg f, e, e1, e2, f1, f4]
  exact h
theorem rr_g.cg {μ μ' ζ ζ' : Nat → Nat → Int} (h : rr_g μ ζ) (e : μ' 207 10 = μ 207 10) (e1 : μ' 209 = μ 209) (e2 : μ' 212 = μ 212) (e3 : μ' 213 = μ 213) (e4 : μ' 214 = μ 214) (e5 : μ' 218 = μ 218) (f : ζ' 0 1 = ζ 0 1) (f1 : ζ' 2 = ζ 2) (f2 : ζ' 5 = ζ 5) (f3 : ζ' 13 = ζ 13) (f4 : ζ' 12 = ζ 12) (f5 : ζ' 7 = ζ 7) : rr_g μ' ζ' := by
  unfold rr_g at *
  rw [nG_cg f, e, e1, e2, e3, e4, e5, f1, f2, f3, f4, f5]
  exact h
theorem rr_a.cg {μ μ' ζ ζ' : Nat → Nat → Int} (h : rr_a μ ζ) (e : μ' 207 11 = μ 207 11) (e1 : μ' 210 = μ 210) (e2 : μ' 215 = μ 215) (e3 : μ' 216 = μ 216) (f : ζ' 0 2 = ζ 0 2) (f1 : ζ' 3 = ζ 3) (f2 : ζ' 6 = ζ 6) (f3 : ζ' 14 = ζ 14) : rr_a μ' ζ' := by
  unfold rr_a at *
  rw [nA_cg f, e, e1, e2, e3, f1, f2, f3]
  exact h
theorem rr_n.cg {μ μ' ζ ζ' : Nat → Nat → Int} (h : rr_n μ ζ) (e : ∀ k, k = 12 ∨ (14 ≤ k ∧ k ≤ 17) → μ' 207 k = μ 207 k) (f : ∀ k, 3 ≤ k → k ≤ 7 → ζ' 0 k = ζ 0 k) : rr_n μ' ζ' := by
  unfold rr_n at *
  rw [e 12 (by omega), e 14 (by omega), e 15 (by omega), e 16 (by omega), e 17 (by omega), f 3 (by omega) (by omega), f 4 (by omega) (by omega), f 5 (by omega) (by omega), f 6 (by omega) (by omega), f 7 (by omega) (by omega)]
  exact h
theorem rr_W.cg {μ μ' ζ ζ' : Nat → Nat → Int} (h : rr_W μ ζ) (e : μ' 217 = μ 217) (f : ζ' 8 = ζ 8) : rr_W μ' ζ' := by
  unfold rr_W at *
  rw [e, f]
  exact h
theorem rr_F.cg {μ μ' ζ ζ' : Nat → Nat → Int} (h : rr_F μ ζ) (e : μ' 207 13 = μ 207 13) (f : ζ' 0 1 = ζ 0 1) (f7 : ζ' 7 = ζ 7) : rr_F μ' ζ' := by
  unfold rr_F at *
  rw [nG_cg f, e, f7]
  exact h
theorem rr_T.cg {μ μ' ζ ζ' : Nat → Nat → Int} (h : rr_T μ ζ) (e : μ' 205 27 = μ 205 27) (f : ζ' 0 8 = ζ 0 8) : rr_T μ' ζ' := by
  unfold rr_T at *
  rw [e, f]
  exact h
theorem rr_L.cg {μ μ' ζ ζ' : Nat → Nat → Int} {c c' : Nat} (h : rr_L μ ζ c) (hc : c ≤ c') (e : μ' 205 25 = μ 205 25) (e1 : μ' 219 = μ 219) (e2 : μ' 220 = μ 220) (e3 : μ' 221 = μ 221) (f : (ζ' 0 8).toNat.testBit 14 = (ζ 0 8).toNat.testBit 14) (f' : (ζ' 0 8).toNat.testBit 15 = (ζ 0 8).toNat.testBit 15) (f1 : ζ' 9 = ζ 9) (f2 : ζ' 10 = ζ 10) : rr_L μ' ζ' c' := by
  obtain ⟨s, h1, h2, h3, h4⟩ := h
  unfold rr_l at h3 h4
  refine ⟨s, by rw [e]; exact h1, by omega, ?_, ?_⟩
  · unfold rr_l
    rw [e1, e2, e3, f, f1]
    exact h3
  · unfold rr_l
    rw [e1, e2, e3, f', f2]
    exact h4
theorem rr_E.q {μ μ' ζ : Nat → Nat → Int} {c c' : Nat} (h : rr_E μ ζ c) (f : rq_fr μ' μ) (hc : c ≤ c') : rr_E μ' ζ c' := by
  obtain ⟨⟨h1, h2, h3⟩, h4, h5, h6, h7, h8⟩ := h
  have e : ∀ a, a ≠ 205 → μ' a = μ a := f.1
  exact ⟨⟨h1.cg (by rw [e 207 (by decide)]) (e 208 (by decide)) (e 211 (by decide)) rfl rfl rfl, h2.cg (by rw [e 207 (by decide)]) (e 209 (by decide)) (e 212 (by decide)) (e 213 (by decide)) (e 214 (by decide)) (e 218 (by decide)) rfl rfl rfl rfl rfl rfl, h3.cg (by rw [e 207 (by decide)]) (e 210 (by decide)) (e 215 (by decide)) (e 216 (by decide)) rfl rfl rfl rfl⟩, h4.cg (fun k _ => by rw [e 207 (by decide)]) (fun _ _ _ => rfl), h5.cg (e 217 (by decide)) rfl, h6.cg (by rw [e 207 (by decide)]) rfl rfl, h7.cg (f.2 27 (by omega)) rfl, h8.cg hc (f.2 25 (by omega)) (e 219 (by decide)) (e 220 (by decide)) (e 221 (by decide)) rfl rfl rfl rfl⟩
theorem rr_E.nm {μ ζ : Nat → Nat → Int} {c : Nat} (h : rr_E μ ζ c) : rr_nm μ ζ 1 := ⟨⟨h.1.1.1, h.1.2.1.1⟩, fun i hi => (h.1.1.2 i hi).1, fun i hi => (h.1.2.1.2 i hi).1⟩
/-- a pen more -/
theorem rr_pen {μ ζ : Nat → Nat → Int} {c : Nat} {x v : Int} (h : rr_E μ ζ c) : rr_E (bt_up (bt_up (bt_up μ 211 (6 + nP ζ) v) 208 (6 + nP ζ) x) 207 9 ((nP ζ : Int) + 1)) (bt_up (bt_up (bt_up ζ 1 (nP ζ) x) 4 (nP ζ) v) 0 0 ((nP ζ : Int) + 1)) c := by
  obtain ⟨⟨⟨p1, p2⟩, h2, h3⟩, h4, h5, h6, h7, h8⟩ := h
  refine ⟨⟨⟨?_, fun i hi => ?_⟩, h2.cg (by simp (disch := omega) only [bt_up_cell, bt_up_ix, bt_up_same]) (by simp (disch := omega) only [bt_up_cell, bt_up_ix, bt_up_same]) (by simp (disch := omega) only [bt_up_cell, bt_up_ix, bt_up_same]) (by simp (disch := omega) only [bt_up_cell, bt_up_ix, bt_up_same]) (by simp (disch := omega) only [bt_up_cell, bt_up_ix, bt_up_same]) (by simp (disch := omega) only [bt_up_cell, bt_up_ix, bt_up_same]) (by simp (disch := omega) only [bt_up_cell, bt_up_ix, bt_up_same]) (by simp (disch := omega) only [bt_up_cell, bt_up_ix, bt_up_same]) (by simp (disch := omega) only [bt_up_cell, bt_up_ix, bt_up_same]) (by simp (disch := omega) only [bt_up_cell, bt_up_ix, bt_up_same]) (by simp (disch := omega) only [bt_up_cell, bt_up_ix, bt_up_same]) (by simp (disch := omega) only [bt_up_cell, bt_up_ix, bt_up_same]), h3.cg (by simp (disch := omega) only [bt_up_cell, bt_up_ix, bt_up_same]) (by simp (disch := omega) only [bt_up_cell, bt_up_ix, bt_up_same]) (by simp (disch := omega) only [bt_up_cell, bt_up_ix, bt_up_same]) (by simp (disch := omega) only [bt_up_cell, bt_up_ix, bt_up_same]) (by simp (disch := omega) only [bt_up_cell, bt_up_ix, bt_up_same]) (by simp (disch := omega) only [bt_up_cell, bt_up_ix, bt_up_same]) (by simp (disch := omega) only [bt_up_cell, bt_up_ix, bt_up_same]) (by simp (disch := omega) only [bt_up_cell, bt_up_ix, bt_up_same])⟩, h4.cg (fun k hk => (by simp (disch := omega) only [bt_up_cell, bt_up_ix, bt_up_same])) (fun k k1 k2 => (by simp (disch := omega) only [bt_up_cell, bt_up_ix, bt_up_same])), h5.cg (by simp (disch := omega) only [bt_up_cell, bt_up_ix, bt_up_same]) (by simp (disch := omega) only [bt_up_cell, bt_up_ix, bt_up_same]), h6.cg (by simp (disch := omega) only [bt_up_cell, bt_up_ix, bt_up_same]) (by simp (disch := omega) only [bt_up_cell, bt_up_ix, bt_up_same]) (by simp (disch := omega) only [bt_up_cell, bt_up_ix, bt_up_same]), h7.cg (by simp (disch := omega) only [bt_up_cell, bt_up_ix, bt_up_same]) (by simp (disch := omega) only [bt_up_cell, bt_up_ix, bt_up_same]), h8.cg (Nat.le_refl _) (by simp (disch := omega) only [bt_up_cell, bt_up_ix, bt_up_same]) (by simp (disch := omega) only [bt_up_cell, bt_up_ix, bt_up_same]) (by simp (disch := omega) only [bt_up_cell, bt_up_ix, bt_up_same]) (by simp (disch := omega) only [bt_up_cell, bt_up_ix, bt_up_same]) (by simp (disch := omega) only [bt_up_cell, bt_up_ix, bt_up_same]) (by simp (disch := omega) only [bt_up_cell, bt_up_ix, bt_up_same]) (by simp (disch := omega) only [bt_up_cell, bt_up_ix, bt_up_same]) (by simp (disch := omega) only [bt_up_cell, bt_up_ix, bt_up_same])⟩
  · rw [bt_up_same]
    unfold nP
    rw [bt_up_same]
    omega
  · have hn : nP (bt_up (bt_up (bt_up ζ 1 (nP ζ) x) 4 (nP ζ) v) 0 0 ((nP ζ : Int) + 1)) = nP ζ + 1 := by
      show (bt_up _ 0 0 _ 0 0).toNat = _
      rw [bt_up_same]; omega
    rw [hn] at hi
    rw [bt_up_cell (b := 208) (by decide), bt_up_cell (b := 211) (by decide), bt_up_cell (b := 211) (by decide), bt_up_cell (b := 1) (by decide), bt_up_cell (b := 1) (by decide), bt_up_cell (b := 4) (by decide)]
    by_cases e : i = nP ζ
    · subst e
      rw [bt_up_same, bt_up_same, bt_up_same, bt_up_same]
      exact ⟨rfl, rfl⟩
    · have := p2 i (by omega)
      simp (disch := omega) only [bt_up_cell, bt_up_ix]
      exact this
/-- an animal more -/
theorem rr_animal {μ ζ : Nat → Nat → Int} {c : Nat} {x k v : Int} (h : rr_E μ ζ c) : rr_E (bt_up (bt_up (bt_up (bt_up μ 215 (5 + nA ζ) k) 216 (5 + nA ζ) v) 210 (5 + nA ζ) x) 207 11 ((nA ζ : Int) + 1)) (bt_up (bt_up (bt_up (bt_up ζ 3 (nA ζ) x) 6 (nA ζ) k) 14 (nA ζ) v) 0 2 ((nA ζ : Int) + 1)) c := by
  obtain ⟨⟨h1, h2, p1, p2⟩, h4, h5, h6, h7, h8⟩ := h
  refine ⟨⟨h1.cg (by simp (disch := omega) only [bt_up_cell, bt_up_ix, bt_up_same]) (by simp (disch := omega) only [bt_up_cell, bt_up_ix, bt_up_same]) (by simp (disch := omega) only [bt_up_cell, bt_up_ix, bt_up_same]) (by simp (disch := omega) only [bt_up_cell, bt_up_ix, bt_up_same]) (by simp (disch := omega) only [bt_up_cell, bt_up_ix, bt_up_same]) (by simp (disch := omega) only [bt_up_cell, bt_up_ix, bt_up_same]), h2.cg (by simp (disch := omega) only [bt_up_cell, bt_up_ix, bt_up_same]) (by simp (disch := omega) only [bt_up_cell, bt_up_ix, bt_up_same]) (by simp (disch := omega) only [bt_up_cell, bt_up_ix, bt_up_same]) (by simp (disch := omega) only [bt_up_cell, bt_up_ix, bt_up_same]) (by simp (disch := omega) only [bt_up_cell, bt_up_ix, bt_up_same]) (by simp (disch := omega) only [bt_up_cell, bt_up_ix, bt_up_same]) (by simp (disch := omega) only [bt_up_cell, bt_up_ix, bt_up_same]) (by simp (disch := omega) only [bt_up_cell, bt_up_ix, bt_up_same]) (by simp (disch := omega) only [bt_up_cell, bt_up_ix, bt_up_same]) (by simp (disch := omega) only [bt_up_cell, bt_up_ix, bt_up_same]) (by simp (disch := omega) only [bt_up_cell, bt_up_ix, bt_up_same]) (by simp (disch := omega) only [bt_up_cell, bt_up_ix, bt_up_same]), ?_, fun i hi => ?_⟩, h4.cg (fun k hk => (by simp (disch := omega) only [bt_up_cell, bt_up_ix, bt_up_same])) (fun k k1 k2 => (by simp (disch := omega) only [bt_up_cell, bt_up_ix, bt_up_same])), h5.cg (by simp (disch := omega) only [bt_up_cell, bt_up_ix, bt_up_same]) (by simp (disch := omega) only [bt_up_cell, bt_up_ix, bt_up_same]), h6.cg (by simp (disch := omega) only [bt_up_cell, bt_up_ix, bt_up_same]) (by simp (disch := omega) only [bt_up_cell, bt_up_ix, bt_up_same]) (by simp (disch := omega) only [bt_up_cell, bt_up_ix, bt_up_same]), h7.cg (by simp (disch := omega) only [bt_up_cell, bt_up_ix, bt_up_same]) (by simp (disch := omega) only [bt_up_cell, bt_up_ix, bt_up_same]), h8.cg (Nat.le_refl _) (by simp (disch := omega) only [bt_up_cell, bt_up_ix, bt_up_same]) (by simp (disch := omega) only [bt_up_cell, bt_up_ix, bt_up_same]) (by simp (disch := omega) only [bt_up_cell, bt_up_ix, bt_up_same]) (by simp (disch := omega) only [bt_up_cell, bt_up_ix, bt_up_same]) (by simp (disch := omega) only [bt_up_cell, bt_up_ix, bt_up_same]) (by simp (disch := omega) only [bt_up_cell, bt_up_ix, bt_up_same]) (by simp (disch := omega) only [bt_up_cell, bt_up_ix, bt_up_same]) (by simp (disch := omega) only [bt_up_cell, bt_up_ix, bt_up_same])⟩
  · rw [bt_up_same]
    unfold nA
    rw [bt_up_same]
    omega
  · have hn : nA (bt_up (bt_up (bt_up (bt_up ζ 3 (nA ζ) x) 6 (nA ζ) k) 14 (nA ζ) v) 0 2 ((nA ζ : Int) + 1)) = nA ζ + 1 := by
      show (bt_up _ 0 2 _ 0 2).toNat = _
      rw [bt_up_same]; omega
    rw [hn] at hi
    by_cases e : i = nA ζ
    · subst e
      refine ⟨?_, ?_, ?_⟩
      · simp (disch := omega) only [bt_up_cell, bt_up_ix, bt_up_same]
      · simp (disch := omega) only [bt_up_cell, bt_up_ix, bt_up_same]
      · simp (disch := omega) only [bt_up_cell, bt_up_ix, bt_up_same]
    · have := p2 i (by omega)
      simp (disch := omega) only [bt_up_cell, bt_up_ix]
      exact this
theorem bt_pcn_0 : ∀ k, bt_pcn 0 k = 0
  | 0 => rfl
  | k + 1 => by unfold bt_pcn; rw [bt_pcn_0 k]; simp
theorem bt_sn_cg {f g : Nat → Int} : ∀ k, (∀ i, i < k → f i = g i) → bt_sn f k = bt_sn g k
  | 0, _ => rfl
  | k + 1, h => by unfold bt_sn; rw [h k (by omega), bt_sn_cg k (fun i hi => h i (by omega))]
/-- a guest more -/
theorem rr_guest {μ ζ : Nat → Nat → Int} {c : Nat} {x k v p : Int} (h : rr_E μ ζ c) (h6 : nG ζ < 6) : rr_E (bt_up (bt_up (bt_up (bt_up (bt_up (bt_up μ 212 (6 + nG ζ) k) 213 (6 + nG ζ) v) 214 (6 + nG ζ) p) 218 (6 + nG ζ) 0) 209 (6 + nG ζ) x) 207 10 ((nG ζ : Int) + 1)) (bt_up (bt_up (bt_up (bt_up (bt_up ζ 2 (nG ζ) x) 5 (nG ζ) k) 13 (nG ζ) v) 12 (nG ζ) p) 0 1 ((nG ζ : Int) + 1)) c := by
  obtain ⟨⟨h1, ⟨p1, p2⟩, h3⟩, h4, h5, ⟨q1, q2, q3⟩, h7, h8⟩ := h
  have hn : nG (bt_up (bt_up (bt_up (bt_up (bt_up ζ 2 (nG ζ) x) 5 (nG ζ) k) 13 (nG ζ) v) 12 (nG ζ) p) 0 1 ((nG ζ : Int) + 1)) = nG ζ + 1 := by
    show (bt_up _ 0 1 _ 0 1).toNat = _
    rw [bt_up_same]; omega
  have hz7 : (bt_up (bt_up (bt_up (bt_up (bt_up ζ 2 (nG ζ) x) 5 (nG ζ) k) 13 (nG ζ) v) 12 (nG ζ) p) 0 1 ((nG ζ : Int) + 1)) 7 = ζ 7 := (by simp (disch := omega) only [bt_up_cell, bt_up_ix, bt_up_same])
  refine ⟨⟨h1.cg (by simp (disch := omega) only [bt_up_cell, bt_up_ix, bt_up_same]) (by simp (disch := omega) only [bt_up_cell, bt_up_ix, bt_up_same]) (by simp (disch := omega) only [bt_up_cell, bt_up_ix, bt_up_same]) (by simp (disch := omega) only [bt_up_cell, bt_up_ix, bt_up_same]) (by simp (disch := omega) only [bt_up_cell, bt_up_ix, bt_up_same]) (by simp (disch := omega) only [bt_up_cell, bt_up_ix, bt_up_same]), ⟨?_, fun i hi => ?_⟩, h3.cg (by simp (disch := omega) only [bt_up_cell, bt_up_ix, bt_up_same]) (by simp (disch := omega) only [bt_up_cell, bt_up_ix, bt_up_same]) (by simp (disch := omega) only [bt_up_cell, bt_up_ix, bt_up_same]) (by simp (disch := omega) only [bt_up_cell, bt_up_ix, bt_up_same]) (by simp (disch := omega) only [bt_up_cell, bt_up_ix, bt_up_same]) (by simp (disch := omega) only [bt_up_cell, bt_up_ix, bt_up_same]) (by simp (disch := omega) only [bt_up_cell, bt_up_ix, bt_up_same]) (by simp (disch := omega) only [bt_up_cell, bt_up_ix, bt_up_same])⟩, h4.cg (fun k hk => (by simp (disch := omega) only [bt_up_cell, bt_up_ix, bt_up_same])) (fun k k1 k2 => (by simp (disch := omega) only [bt_up_cell, bt_up_ix, bt_up_same])), h5.cg (by simp (disch := omega) only [bt_up_cell, bt_up_ix, bt_up_same]) (by simp (disch := omega) only [bt_up_cell, bt_up_ix, bt_up_same]), ⟨fun g g1 g2 => ?_, fun a b ha hb => ?_, ?_⟩, h7.cg (by simp (disch := omega) only [bt_up_cell, bt_up_ix, bt_up_same]) (by simp (disch := omega) only [bt_up_cell, bt_up_ix, bt_up_same]), h8.cg (Nat.le_refl _) (by simp (disch := omega) only [bt_up_cell, bt_up_ix, bt_up_same]) (by simp (disch := omega) only [bt_up_cell, bt_up_ix, bt_up_same]) (by simp (disch := omega) only [bt_up_cell, bt_up_ix, bt_up_same]) (by simp (disch := omega) only [bt_up_cell, bt_up_ix, bt_up_same]) (by simp (disch := omega) only [bt_up_cell, bt_up_ix, bt_up_same]) (by simp (disch := omega) only [bt_up_cell, bt_up_ix, bt_up_same]) (by simp (disch := omega) only [bt_up_cell, bt_up_ix, bt_up_same]) (by simp (disch := omega) only [bt_up_cell, bt_up_ix, bt_up_same])⟩
  · rw [bt_up_same, hn]; omega
  · rw [hn] at hi
    by_cases e : i = nG ζ
    · subst e
      have := q1 (nG ζ) (Nat.le_refl _) h6
      refine ⟨?_, ?_, ?_, ?_, ?_⟩
      · simp (disch := omega) only [bt_up_cell, bt_up_ix, bt_up_same]
      · simp (disch := omega) only [bt_up_cell, bt_up_ix, bt_up_same]
      · simp (disch := omega) only [bt_up_cell, bt_up_ix, bt_up_same]
      · simp (disch := omega) only [bt_up_cell, bt_up_ix, bt_up_same]
      · rw [hz7, this]
        simp (disch := omega) only [bt_up_cell, bt_up_ix, bt_up_same]
    · have := p2 i (by omega)
      simp (disch := omega) only [bt_up_cell, bt_up_ix]
      exact this
  · rw [hn] at g1
    rw [hz7]
    exact q1 g (by omega) g2
  · rw [hz7]
    exact q2 a b ha hb
  · rw [hn, hz7]
    have e13 : bt_up (bt_up (bt_up (bt_up (bt_up (bt_up μ 212 (6 + nG ζ) k) 213 (6 + nG ζ) v) 214 (6 + nG ζ) p) 218 (6 + nG ζ) 0) 209 (6 + nG ζ) x) 207 10 ((nG ζ : Int) + 1) 207 13 = μ 207 13 := (by simp (disch := omega) only [bt_up_cell, bt_up_ix, bt_up_same])
    rw [e13, q3]
    show _ = bt_sn _ (nG ζ) + ((bt_pcn (ζ 7 (nG ζ)).toNat 16 : Nat) : Int)
    rw [q1 (nG ζ) (Nat.le_refl _) h6]
    show _ = _ + ((bt_pcn 0 16 : Nat) : Int)
    rw [bt_pcn_0]
    omega
/-- a number told -/
theorem rr_num {μ ζ : Nat → Nat → Int} {c j k : Nat} {v : Int} (h : rr_E μ ζ c) (hk : (j = 14 ∧ k = 4) ∨ (j = 15 ∧ k = 5) ∨ (j = 16 ∧ k = 6) ∨ (j = 17 ∧ k = 7)) : rr_E (bt_up μ 207 j v) (bt_up ζ 0 k v) c := by
  obtain ⟨⟨h1, h2, h3⟩, ⟨n1, n2, n3, n4, n5⟩, h5, h6, h7, h8⟩ := h
  refine ⟨⟨h1.cg (by simp (disch := omega) only [bt_up_cell, bt_up_ix, bt_up_same]) (by simp (disch := omega) only [bt_up_cell, bt_up_ix, bt_up_same]) (by simp (disch := omega) only [bt_up_cell, bt_up_ix, bt_up_same]) (by simp (disch := omega) only [bt_up_cell, bt_up_ix, bt_up_same]) (by simp (disch := omega) only [bt_up_cell, bt_up_ix, bt_up_same]) (by simp (disch := omega) only [bt_up_cell, bt_up_ix, bt_up_same]), h2.cg (by simp (disch := omega) only [bt_up_cell, bt_up_ix, bt_up_same]) (by simp (disch := omega) only [bt_up_cell, bt_up_ix, bt_up_same]) (by simp (disch := omega) only [bt_up_cell, bt_up_ix, bt_up_same]) (by simp (disch := omega) only [bt_up_cell, bt_up_ix, bt_up_same]) (by simp (disch := omega) only [bt_up_cell, bt_up_ix, bt_up_same]) (by simp (disch := omega) only [bt_up_cell, bt_up_ix, bt_up_same]) (by simp (disch := omega) only [bt_up_cell, bt_up_ix, bt_up_same]) (by simp (disch := omega) only [bt_up_cell, bt_up_ix, bt_up_same]) (by simp (disch := omega) only [bt_up_cell, bt_up_ix, bt_up_same]) (by simp (disch := omega) only [bt_up_cell, bt_up_ix, bt_up_same]) (by simp (disch := omega) only [bt_up_cell, bt_up_ix, bt_up_same]) (by simp (disch := omega) only [bt_up_cell, bt_up_ix, bt_up_same]), h3.cg (by simp (disch := omega) only [bt_up_cell, bt_up_ix, bt_up_same]) (by simp (disch := omega) only [bt_up_cell, bt_up_ix, bt_up_same]) (by simp (disch := omega) only [bt_up_cell, bt_up_ix, bt_up_same]) (by simp (disch := omega) only [bt_up_cell, bt_up_ix, bt_up_same]) (by simp (disch := omega) only [bt_up_cell, bt_up_ix, bt_up_same]) (by simp (disch := omega) only [bt_up_cell, bt_up_ix, bt_up_same]) (by simp (disch := omega) only [bt_up_cell, bt_up_ix, bt_up_same]) (by simp (disch := omega) only [bt_up_cell, bt_up_ix, bt_up_same])⟩, ?_, h5.cg (by simp (disch := omega) only [bt_up_cell, bt_up_ix, bt_up_same]) (by simp (disch := omega) only [bt_up_cell, bt_up_ix, bt_up_same]), h6.cg (by simp (disch := omega) only [bt_up_cell, bt_up_ix, bt_up_same]) (by simp (disch := omega) only [bt_up_cell, bt_up_ix, bt_up_same]) (by simp (disch := omega) only [bt_up_cell, bt_up_ix, bt_up_same]), h7.cg (by simp (disch := omega) only [bt_up_cell, bt_up_ix, bt_up_same]) (by simp (disch := omega) only [bt_up_cell, bt_up_ix, bt_up_same]), h8.cg (Nat.le_refl _) (by simp (disch := omega) only [bt_up_cell, bt_up_ix, bt_up_same]) (by simp (disch := omega) only [bt_up_cell, bt_up_ix, bt_up_same]) (by simp (disch := omega) only [bt_up_cell, bt_up_ix, bt_up_same]) (by simp (disch := omega) only [bt_up_cell, bt_up_ix, bt_up_same]) (by simp (disch := omega) only [bt_up_cell, bt_up_ix, bt_up_same]) (by simp (disch := omega) only [bt_up_cell, bt_up_ix, bt_up_same]) (by simp (disch := omega) only [bt_up_cell, bt_up_ix, bt_up_same]) (by simp (disch := omega) only [bt_up_cell, bt_up_ix, bt_up_same])⟩
  unfold rr_n
  simp only [bt_upe]
  rcases hk with ⟨rfl, rfl⟩ | ⟨rfl, rfl⟩ | ⟨rfl, rfl⟩ | ⟨rfl, rfl⟩
  · simp [n1, n2, n3, n4, n5]
  · simp [n1, n2, n3, n4, n5]
  · simp [n1, n2, n3, n4, n5]
  · simp [n1, n2, n3, n4, n5]
/-- a path more -/
theorem rr_path {μ ζ : Nat → Nat → Int} {c i j : Nat} {v : Int} (h : rr_E μ ζ c) (hv : 1 ≤ v ∧ v ≤ 30) : rr_E (bt_up (bt_up (bt_up μ 217 (36 + i) v) 217 (36 + j) v) 207 12 (ζ 0 3 + 1)) (bt_up (bt_up (bt_up ζ 8 i v) 8 j v) 0 3 (ζ 0 3 + 1)) c := by
  obtain ⟨⟨h1, h2, h3⟩, ⟨n1, n2, n3, n4, n5⟩, h5, h6, h7, h8⟩ := h
  refine ⟨⟨h1.cg (by simp (disch := omega) only [bt_up_cell, bt_up_ix, bt_up_same]) (by simp (disch := omega) only [bt_up_cell, bt_up_ix, bt_up_same]) (by simp (disch := omega) only [bt_up_cell, bt_up_ix, bt_up_same]) (by simp (disch := omega) only [bt_up_cell, bt_up_ix, bt_up_same]) (by simp (disch := omega) only [bt_up_cell, bt_up_ix, bt_up_same]) (by simp (disch := omega) only [bt_up_cell, bt_up_ix, bt_up_same]), h2.cg (by simp (disch := omega) only [bt_up_cell, bt_up_ix, bt_up_same]) (by simp (disch := omega) only [bt_up_cell, bt_up_ix, bt_up_same]) (by simp (disch := omega) only [bt_up_cell, bt_up_ix, bt_up_same]) (by simp (disch := omega) only [bt_up_cell, bt_up_ix, bt_up_same]) (by simp (disch := omega) only [bt_up_cell, bt_up_ix, bt_up_same]) (by simp (disch := omega) only [bt_up_cell, bt_up_ix, bt_up_same]) (by simp (disch := omega) only [bt_up_cell, bt_up_ix, bt_up_same]) (by simp (disch := omega) only [bt_up_cell, bt_up_ix, bt_up_same]) (by simp (disch := omega) only [bt_up_cell, bt_up_ix, bt_up_same]) (by simp (disch := omega) only [bt_up_cell, bt_up_ix, bt_up_same]) (by simp (disch := omega) only [bt_up_cell, bt_up_ix, bt_up_same]) (by simp (disch := omega) only [bt_up_cell, bt_up_ix, bt_up_same]), h3.cg (by simp (disch := omega) only [bt_up_cell, bt_up_ix, bt_up_same]) (by simp (disch := omega) only [bt_up_cell, bt_up_ix, bt_up_same]) (by simp (disch := omega) only [bt_up_cell, bt_up_ix, bt_up_same]) (by simp (disch := omega) only [bt_up_cell, bt_up_ix, bt_up_same]) (by simp (disch := omega) only [bt_up_cell, bt_up_ix, bt_up_same]) (by simp (disch := omega) only [bt_up_cell, bt_up_ix, bt_up_same]) (by simp (disch := omega) only [bt_up_cell, bt_up_ix, bt_up_same]) (by simp (disch := omega) only [bt_up_cell, bt_up_ix, bt_up_same])⟩, ?_, fun k hk => ?_, h6.cg (by simp (disch := omega) only [bt_up_cell, bt_up_ix, bt_up_same]) (by simp (disch := omega) only [bt_up_cell, bt_up_ix, bt_up_same]) (by simp (disch := omega) only [bt_up_cell, bt_up_ix, bt_up_same]), h7.cg (by simp (disch := omega) only [bt_up_cell, bt_up_ix, bt_up_same]) (by simp (disch := omega) only [bt_up_cell, bt_up_ix, bt_up_same]), h8.cg (Nat.le_refl _) (by simp (disch := omega) only [bt_up_cell, bt_up_ix, bt_up_same]) (by simp (disch := omega) only [bt_up_cell, bt_up_ix, bt_up_same]) (by simp (disch := omega) only [bt_up_cell, bt_up_ix, bt_up_same]) (by simp (disch := omega) only [bt_up_cell, bt_up_ix, bt_up_same]) (by simp (disch := omega) only [bt_up_cell, bt_up_ix, bt_up_same]) (by simp (disch := omega) only [bt_up_cell, bt_up_ix, bt_up_same]) (by simp (disch := omega) only [bt_up_cell, bt_up_ix, bt_up_same]) (by simp (disch := omega) only [bt_up_cell, bt_up_ix, bt_up_same])⟩
  · unfold rr_n
    simp only [bt_upe]
    simp [n2, n3, n4, n5]
  · have := h5 k hk
    rw [bt_up_cell (b := 8) (by decide), bt_up_cell (b := 217) (by decide)]
    by_cases e : k = j
    · subst e
      rw [bt_up_same, bt_up_same]
      exact Or.inr ⟨hv.1, hv.2, rfl⟩
    · by_cases e' : k = i
      · subst e'
        simp (disch := omega) only [bt_up_cell, bt_up_ix, bt_up_same]
        exact Or.inr ⟨hv.1, hv.2, trivial⟩
      · simp (disch := omega) only [bt_up_cell, bt_up_ix]
        exact this
theorem rr_orp : ∀ G : Nat, G < 64 → ∀ p : Nat, p < 6 → G.testBit p = false → bt_pcn (G ||| 2 ^ p) 16 = bt_pcn G 16 + 1 := by decide +kernel
theorem bt_sn_up1 {f f' : Nat → Int} {A : Nat} (h : ∀ i, i ≠ A → f' i = f i) (hA : f' A = f A + 1) : ∀ k, bt_sn f' k = bt_sn f k + if A < k then 1 else 0
  | 0 => by unfold bt_sn; rw [if_neg (by omega)]; rfl
  | k + 1 => by
    unfold bt_sn
    rw [bt_sn_up1 h hA k]
    by_cases e : k = A
    · subst e
      rw [hA, if_neg (by omega), if_pos (by omega)]; omega
    · rw [h k e]
      by_cases e2 : A < k
      · rw [if_pos e2, if_pos (by omega)]; omega
      · rw [if_neg e2, if_neg (by omega)]; omega
/-- a pair of foes more -/
theorem rr_foe {μ ζ : Nat → Nat → Int} {c A B : Nat} (h : rr_E μ ζ c) (h6 : nG ζ ≤ 6) (hA : A < nG ζ) (hB : B < nG ζ) (hAB : A ≠ B) (hb : (ζ 7 A).toNat.testBit B = false) (hr : ∀ g, g < 6 → 0 ≤ ζ 7 g ∧ ζ 7 g < 64) : rr_E (bt_up (bt_up (bt_up μ 218 (6 + A) (((ζ 7 A).toNat ||| 2 ^ B : Nat) : Int)) 218 (6 + B) (((ζ 7 B).toNat ||| 2 ^ A : Nat) : Int)) 207 13 (μ 207 13 + 1)) (bt_up (bt_up ζ 7 A (((ζ 7 A).toNat ||| 2 ^ B : Nat) : Int)) 7 B (((ζ 7 B).toNat ||| 2 ^ A : Nat) : Int)) c := by
  obtain ⟨⟨h1, ⟨p1, p2⟩, h3⟩, h4, h5, ⟨q1, q2, q3⟩, h7, h8⟩ := h
  have hn : nG (bt_up (bt_up ζ 7 A (((ζ 7 A).toNat ||| 2 ^ B : Nat) : Int)) 7 B (((ζ 7 B).toNat ||| 2 ^ A : Nat) : Int)) = nG ζ := nG_cg (by simp (disch := omega) only [bt_up_cell, bt_up_ix, bt_up_same])
  have rA := hr A (by omega)
  have rB := hr B (by omega)
  have hb' : (ζ 7 B).toNat.testBit A = false := by rw [← q2 A B (by omega) (by omega)]; exact hb
  have z7 : ∀ g, bt_up (bt_up ζ 7 A (((ζ 7 A).toNat ||| 2 ^ B : Nat) : Int)) 7 B (((ζ 7 B).toNat ||| 2 ^ A : Nat) : Int) 7 g = if g = B then (((ζ 7 B).toNat ||| 2 ^ A : Nat) : Int) else if g = A then (((ζ 7 A).toNat ||| 2 ^ B : Nat) : Int) else ζ 7 g := fun g => by
    by_cases e : g = B
    · subst e; rw [bt_up_same, if_pos rfl]
    · rw [bt_up_ix e, if_neg e]
      by_cases e' : g = A
      · subst e'; rw [bt_up_same, if_pos rfl]
      · rw [bt_up_ix e', if_neg e']
  refine ⟨⟨h1.cg (by simp (disch := omega) only [bt_up_cell, bt_up_ix, bt_up_same]) (by simp (disch := omega) only [bt_up_cell, bt_up_ix, bt_up_same]) (by simp (disch := omega) only [bt_up_cell, bt_up_ix, bt_up_same]) (by simp (disch := omega) only [bt_up_cell, bt_up_ix, bt_up_same]) (by simp (disch := omega) only [bt_up_cell, bt_up_ix, bt_up_same]) (by simp (disch := omega) only [bt_up_cell, bt_up_ix, bt_up_same]), ⟨?_, fun i hi => ?_⟩, h3.cg (by simp (disch := omega) only [bt_up_cell, bt_up_ix, bt_up_same]) (by simp (disch := omega) only [bt_up_cell, bt_up_ix, bt_up_same]) (by simp (disch := omega) only [bt_up_cell, bt_up_ix, bt_up_same]) (by simp (disch := omega) only [bt_up_cell, bt_up_ix, bt_up_same]) (by simp (disch := omega) only [bt_up_cell, bt_up_ix, bt_up_same]) (by simp (disch := omega) only [bt_up_cell, bt_up_ix, bt_up_same]) (by simp (disch := omega) only [bt_up_cell, bt_up_ix, bt_up_same]) (by simp (disch := omega) only [bt_up_cell, bt_up_ix, bt_up_same])⟩, h4.cg (fun k hk => (by simp (disch := omega) only [bt_up_cell, bt_up_ix, bt_up_same])) (fun k k1 k2 => (by simp (disch := omega) only [bt_up_cell, bt_up_ix, bt_up_same])), h5.cg (by simp (disch := omega) only [bt_up_cell, bt_up_ix, bt_up_same]) (by simp (disch := omega) only [bt_up_cell, bt_up_ix, bt_up_same]), ⟨fun g g1 g2 => ?_, fun a b ha hb2 => ?_, ?_⟩, h7.cg (by simp (disch := omega) only [bt_up_cell, bt_up_ix, bt_up_same]) (by simp (disch := omega) only [bt_up_cell, bt_up_ix, bt_up_same]), h8.cg (Nat.le_refl _) (by simp (disch := omega) only [bt_up_cell, bt_up_ix, bt_up_same]) (by simp (disch := omega) only [bt_up_cell, bt_up_ix, bt_up_same]) (by simp (disch := omega) only [bt_up_cell, bt_up_ix, bt_up_same]) (by simp (disch := omega) only [bt_up_cell, bt_up_ix, bt_up_same]) (by simp (disch := omega) only [bt_up_cell, bt_up_ix, bt_up_same]) (by simp (disch := omega) only [bt_up_cell, bt_up_ix, bt_up_same]) (by simp (disch := omega) only [bt_up_cell, bt_up_ix, bt_up_same]) (by simp (disch := omega) only [bt_up_cell, bt_up_ix, bt_up_same])⟩
  · rw [hn]
    simp (disch := omega) only [bt_up_cell, bt_up_ix]
    exact p1
  · rw [hn] at hi
    obtain ⟨y1, y2, y3, y4, y5⟩ := p2 i hi
    refine ⟨?_, ?_, ?_, ?_, ?_⟩
    · simp (disch := omega) only [bt_up_cell, bt_up_ix]; exact y1
    · simp (disch := omega) only [bt_up_cell, bt_up_ix]; exact y2
    · simp (disch := omega) only [bt_up_cell, bt_up_ix]; exact y3
    · simp (disch := omega) only [bt_up_cell, bt_up_ix]; exact y4
    · rw [z7 i, bt_up_cell (by decide)]
      by_cases e : i = B
      · subst e; rw [bt_up_same, if_pos rfl]
      · rw [bt_up_ix (by omega), if_neg e]
        by_cases e' : i = A
        · subst e'; rw [bt_up_same, if_pos rfl]
        · rw [bt_up_ix (by omega), if_neg e']; exact y5
  · rw [hn] at g1
    rw [z7 g, if_neg (by omega), if_neg (by omega)]
    exact q1 g g1 g2
  · rw [z7 a, z7 b]
    have bt : ∀ x y, x < 6 → y < 6 → ((if x = B then (((ζ 7 B).toNat ||| 2 ^ A : Nat) : Int) else if x = A then (((ζ 7 A).toNat ||| 2 ^ B : Nat) : Int) else ζ 7 x)).toNat.testBit y = ((ζ 7 x).toNat.testBit y || (decide (x = B ∧ y = A) || decide (x = A ∧ y = B))) := fun x y hx hy => by
      by_cases e : x = B
      · subst e
        rw [if_pos rfl, Int.toNat_natCast, Nat.testBit_or, Nat.testBit_two_pow]
        by_cases e2 : A = y
        · subst e2; simp
        · have : ¬ (x = A) := fun q => hAB q.symm
          have e3 : ¬ (y = A) := fun q => e2 q.symm
          simp [e2, e3, this]
      · rw [if_neg e]
        by_cases e' : x = A
        · subst e'
          rw [if_pos rfl, Int.toNat_natCast, Nat.testBit_or, Nat.testBit_two_pow]
          by_cases e2 : B = y
          · subst e2; simp
          · have e3 : ¬ (y = B) := fun q => e2 q.symm
            simp [e, e2, e3]
        · rw [if_neg e']
          simp [e, e']
    rw [bt a b ha hb2, bt b a hb2 ha, q2 a b ha hb2]
    congr 1
    by_cases x1 : a = B <;> by_cases x2 : b = A <;> by_cases x3 : a = A <;> by_cases x4 : b = B <;> simp [x1, x2, x3, x4]
  · rw [hn]
    have e13 : bt_up (bt_up (bt_up μ 218 (6 + A) (((ζ 7 A).toNat ||| 2 ^ B : Nat) : Int)) 218 (6 + B) (((ζ 7 B).toNat ||| 2 ^ A : Nat) : Int)) 207 13 (μ 207 13 + 1) 207 13 = μ 207 13 + 1 := bt_up_same _ _ _ _
    rw [e13]
    have s1 := bt_sn_up1 (A := A) (f := fun g => ((bt_pcn (ζ 7 g).toNat 16 : Nat) : Int)) (f' := fun g => ((bt_pcn (if g = A then (((ζ 7 A).toNat ||| 2 ^ B : Nat) : Int) else ζ 7 g).toNat 16 : Nat) : Int)) (fun i hi => by simp only [if_neg hi]) (by
      simp only [↓reduceIte, Int.toNat_natCast]
      rw [rr_orp _ (by omega) B (by omega) hb]
      omega) (nG ζ)
    have s2 := bt_sn_up1 (A := B) (f := fun g => ((bt_pcn (if g = A then (((ζ 7 A).toNat ||| 2 ^ B : Nat) : Int) else ζ 7 g).toNat 16 : Nat) : Int)) (f' := fun g => ((bt_pcn (bt_up (bt_up ζ 7 A (((ζ 7 A).toNat ||| 2 ^ B : Nat) : Int)) 7 B (((ζ 7 B).toNat ||| 2 ^ A : Nat) : Int) 7 g).toNat 16 : Nat) : Int)) (fun i hi => by simp only [z7 i, if_neg hi]) (by
      simp only [z7 B, ↓reduceIte, Int.toNat_natCast, if_neg (fun q : B = A => hAB q.symm)]
      rw [rr_orp _ (by omega) A (by omega) hb']
      omega) (nG ζ)
    rw [if_pos hA] at s1
    rw [if_pos hB] at s2
    rw [s2, s1]
    omega
/-- the same put on both sides of a frame -/
theorem rq_up {μ' μ : Nat → Nat → Int} {a k : Nat} {v : Int} (h : rq_fr μ' μ) : rq_fr (bt_up μ' a k v) (bt_up μ a k v) := by
  refine ⟨fun b hb => ?_, fun j hj => ?_⟩
  · funext i
    rw [bt_upe, bt_upe, h.1 b hb]
  · rw [bt_upe, bt_upe, h.2 j hj]
