/-! Show.place, Show.search -/
def ab_wr (σ : Nat → Nat → Int) (wh : Nat → Int) : Nat → Nat → Int := fun j i => if j = 1 then wh i else σ j i
def ab_hd (wh : Nat → Int) (g p : Nat) : Nat := bt_bn (fun i => decide (wh i = (p : Int))) g
def ab_hop (ζ σ : Nat → Nat → Int) (g : Nat) (wh : Nat → Int) : Int := bt_sn (ab_hp (ζ 4) (ab_hd wh g) (fL ζ) (fun k C => ab_mo ζ σ k (nG ζ - g) C) (σ 3) (nP ζ)) (nA ζ)
/-- nothing better can come of this beginning -/
def ab_cut (ζ σ : Nat → Nat → Int) (g : Nat) (wh : Nat → Int) (s : ab_Sx) : Bool := decide (s.1 ≠ 0) && !(decide (s.2.1 < ab_hop ζ σ g wh) || (decide (ab_hop ζ σ g wh = s.2.1) && decide (0 < s.2.2.1)))
def ab_jt (ζ σ : Nat → Nat → Int) (wh : Nat → Int) (s : ab_Sx) : ab_Sx := if s.1 = 0 ∨ s.2.1 < ab_tk ζ (ab_wr σ wh) 1 ∨ (s.2.1 = ab_tk ζ (ab_wr σ wh) 1 ∧ ab_np ζ (ab_wr σ wh) < s.2.2.1) then (1, ab_tk ζ (ab_wr σ wh) 1, ab_np ζ (ab_wr σ wh), fun i => if i < nG ζ then wh i else 0) else s
def ab_ptL (ζ : Nat → Nat → Int) (g : Nat) (wh : Nat → Int) (rc : (Nat → Int) → ab_Sx → ab_Sx) : Nat → Nat → ab_Sx → ab_Sx
  | 0, _, s => s
  | c + 1, p, s => ab_ptL ζ g wh rc c (p + 1) (if ab_hd wh g p &&& (ζ 7 g).toNat = 0 then rc (ab_put wh g p) s else s)
def ab_pt (ζ σ : Nat → Nat → Int) : Nat → Nat → (Nat → Int) → ab_Sx → ab_Sx
  | 0, g, wh, s => if ab_cut ζ σ g wh s then s else ab_jt ζ σ wh s
  | k + 1, g, wh, s => if ab_cut ζ σ g wh s then s else ab_ptL ζ g wh (ab_pt ζ σ k (g + 1)) (nP ζ) 0 s
def ab_sxr (s : ab_Sx) : Prop := (s.1 = 0 ∨ s.1 = 1) ∧ (0 ≤ s.2.1 ∧ s.2.1 ≤ 4995) ∧ 0 ≤ s.2.2.1 ∧ s.2.2.1 ≤ 6
def bt_sn6 (n : Nat) (s : ab_Sx) : ab_Sx := (s.1, s.2.1, s.2.2.1, fun i => if i < n then s.2.2.2 i else 0)
theorem ab_np_rg (ζ σ : Nat → Nat → Int) (hZ : ab_Z ζ) : 0 ≤ ab_np ζ σ ∧ ab_np ζ σ ≤ 6 := by
  unfold ab_np
  have := bt_ct_le (fun g => decide (bt_w (ab_ma ζ σ 1 g) = 0)) (nG ζ)
  have := ab_rg hZ
  omega
theorem ab_Swr {ζ σ : Nat → Nat → Int} (hS : ab_S ζ σ) {wh : Nat → Int} (h : ∀ i, i < nG ζ → 0 ≤ wh i ∧ wh i < nP ζ) : ab_S ζ (ab_wr σ wh) :=
  ⟨fun g hg => ⟨by simpa [ab_wr] using h g hg, by simpa [ab_wr] using (hS.1 g hg).2⟩, fun a ha => by simpa [ab_wr] using hS.2 a ha⟩
theorem ab_jt_r {ζ σ : Nat → Nat → Int} (hZ : ab_Z ζ) (hS : ab_S ζ σ) {wh : Nat → Int} (h : ∀ i, i < nG ζ → 0 ≤ wh i ∧ wh i < nP ζ) {s : ab_Sx} (hs : ab_sxr s) : ab_sxr (ab_jt ζ σ wh s) := by
  unfold ab_jt
  split
  · exact ⟨Or.inr rfl, ab_tk_rg hZ (ab_Swr hS h) 1, ab_np_rg ζ _ hZ⟩
  · exact hs
theorem ab_pt_r {ζ σ : Nat → Nat → Int} (hZ : ab_Z ζ) (hS : ab_S ζ σ) : ∀ k g wh s, g + k = nG ζ → (∀ i, i < g → 0 ≤ wh i ∧ wh i < (nP ζ : Int)) → ab_sxr s → ab_sxr (ab_pt ζ σ k g wh s)
  | 0, g, wh, s, hg, hw, hs => by
    unfold ab_pt
    split
    · exact hs
    · exact ab_jt_r hZ hS (fun i hi => hw i (by omega)) hs
  | k + 1, g, wh, s, hg, hw, hs => by
    unfold ab_pt
    split
    · exact hs
    · have : ∀ c p s, p + c = nP ζ → ab_sxr s → ab_sxr (ab_ptL ζ g wh (ab_pt ζ σ k (g + 1)) c p s) := by
        intro c
        induction c with
        | zero => intro p s _ h; exact h
        | succ c ih =>
          intro p s hp h
          unfold ab_ptL
          refine ih (p + 1) _ (by omega) ?_
          split
          · refine ab_pt_r hZ hS k (g + 1) (ab_put wh g p) s (by omega) (fun i hi => ?_) h
            unfold ab_put
            split
            · omega
            · exact hw i (by omega)
          · exact h
      exact this _ 0 s (by omega) hs
def bt_inP : Nat → Prop := fun a => (19 ≤ a ∧ a ≤ 28) ∨ a = 30 ∨ a = 33 ∨ a = 34
/-- the search's own cells, at guest g -/
def bt_PtI (μ ζ σ : Nat → Nat → Int) (g : Nat) (wh : Nat → Int) : Prop := (μ 29 = σ 0 ∧ μ 31 = σ 2 ∧ μ 32 = σ 3) ∧ (∀ i, i < g → μ 30 i = wh i ∧ 0 ≤ wh i ∧ wh i < (nP ζ : Int)) ∧ (∀ p, p < nP ζ → μ 34 p = (ab_hd wh g p : Int)) ∧ (∀ q k C, q ≤ nG ζ → k < 4 → C < 2 ^ q → μ 35 (ab_ix5 q k C) = ab_mo ζ σ k (nG ζ - q) C) ∧ ab_sxr (bt_sx μ)
def SpX5_pt (k : Nat) : bt_Sp := fun As w Q => ∃ (ρ : Nat → Nat → Option Nat) (μ : Nat → Nat → Int) (z g : Nat) (σ : Nat → Nat → Int) (wh : Nat → Int), As = [.inr (.inr 19), .inr (.inr z), .inl (g : Int)] ∧ w = bt_wd ρ μ ∧ bt_Rf ρ ∧ z ∈ bt_zos ∧ ab_Z (bt_vw μ z) ∧ ab_S (bt_vw μ z) σ ∧ g + k = nG (bt_vw μ z) ∧ bt_PtI μ (bt_vw μ z) σ g wh ∧ ∀ μ', bt_sn6 (nG (bt_vw μ z)) (bt_sx μ') = ab_pt (bt_vw μ z) σ k g wh (bt_sn6 (nG (bt_vw μ z)) (bt_sx μ)) → (∀ i, i < 6 → μ' 19 i = μ 19 i) → (∀ i, i < g → μ' 30 i = μ 30 i) → (∀ p, p < nP (bt_vw μ z) → μ' 34 p = μ 34 p) → bt_fr bt_inP μ' μ → Q none (bt_wd ρ μ')
theorem ab_hd_lt (wh : Nat → Int) (g p : Nat) : ab_hd wh g p < 2 ^ g := bt_bn_lt _ _
/-- the bound's test, as the walk has it -/
theorem ab_cut_call {ρ : Nat → Nat → Option Nat} {μ : Nat → Nat → Int} {σ : Nat → Nat → Int} {z g : Nat} {wh : Nat → Int} (hρ : bt_Rf ρ) (hz : z ∈ bt_zos) (hZ : ab_Z (bt_vw μ z)) (hS : ab_S (bt_vw μ z) σ) (hg : g ≤ nG (bt_vw μ z)) (hI : bt_PtI μ (bt_vw μ z) σ g wh) {Q : Option bt_V → bt_W → Prop} (h : Q (some (.inl (ab_hop (bt_vw μ z) σ g wh))) (bt_wd ρ μ)) : SpX5_hope [.inr (.inr 19), .inr (.inr z), .inl (g : Int)] (bt_wd ρ μ) Q := by
  have hr := ab_rg hZ
  obtain ⟨⟨i1, i2, i3⟩, i4, i5, i6, i7⟩ := hI
  have h1 := hZ.1
  refine ⟨ρ, μ, z, g, nA (bt_vw μ z), nP (bt_vw μ z), ab_hd wh g, fL (bt_vw μ z), fun k C => ab_mo (bt_vw μ z) σ k (nG (bt_vw μ z) - g) C, rfl, rfl, hρ, hz, by omega, ?_, hr.2.1, ?_, hr.2.2, fun a ha => ?_, fun p hp => ⟨hZ.2.2.2.1 p hp, i5 p hp, ab_hd_lt _ _ _⟩, fun k C hk hC => ?_, ?_⟩
  · simp only [bt_vw, nA, Nat.add_zero] at *; omega
  · simp only [bt_vw, nP, Nat.add_zero] at *; omega
  · have q1 := hZ.2.2.1 a ha
    have q2 := hS.2 a ha
    rw [i3]
    simp only [bt_vw, fL] at *
    omega
  · have q := ab_mo_rg hZ hS k (nG (bt_vw μ z) - g) C (by omega) (by rw [show nG (bt_vw μ z) - (nG (bt_vw μ z) - g) = g by omega]; exact hC)
    exact ⟨i6 g k C hg hk hC, q.2, q.1⟩
  · rw [i3]
    exact h
theorem ab_hop_rg {ζ σ : Nat → Nat → Int} (hZ : ab_Z ζ) (hS : ab_S ζ σ) (g : Nat) (hg : g ≤ nG ζ) (wh : Nat → Int) : 0 ≤ ab_hop ζ σ g wh ∧ ab_hop ζ σ g wh ≤ 4995 := by
  have hr := ab_rg hZ
  have h1 := bt_sn_rg (f := ab_hp (ζ 4) (ab_hd wh g) (fL ζ) (fun k C => ab_mo ζ σ k (nG ζ - g) C) (σ 3) (nP ζ)) (B := 999) (nA ζ) (fun a ha => by
    have q2 := hS.2 a ha
    have q3 := ab_hb_rg (seats := ζ 4) (v := fun p => ab_mo ζ σ (fL ζ a) (nG ζ - g) (ab_hd wh g p)) (nP ζ) (fun p hp => (ab_mo_rg hZ hS (fL ζ a) (nG ζ - g) (ab_hd wh g p) (by omega) (by rw [show nG ζ - (nG ζ - g) = g by omega]; exact ab_hd_lt _ _ _)).2)
    unfold ab_hp
    dsimp only
    split <;> omega)
  unfold ab_hop
  have : (nA ζ : Int) * 999 ≤ 4995 := by omega
  omega
theorem ab_hd_put {wh : Nat → Int} {g p q : Nat} : ab_hd (ab_put wh g (p : Int)) (g + 1) q = ab_hd wh g q + (if p = q then 2 ^ g else 0) := by
  unfold ab_hd
  rw [bt_bn_s]
  congr 1
  · exact bt_bn_congr (fun i hi => by simp [ab_put, show i ≠ g by omega])
  · by_cases e : p = q
    · subst e; simp [ab_put]
    · have : ¬ ((p : Int) = (q : Int)) := by omega
      simp [ab_put, e, this]
set_option maxRecDepth 100000 in
theorem ab_unset : ∀ g : Nat, g < 6 → ∀ H : Nat, H < 2 ^ g → bo_iand ((H + 2 ^ g : Nat) : Int) (bo_ixor (bo_ishl 1 (g : Int)) (-1)) = (H : Int) := by decide +kernel
set_option maxHeartbeats 4000000 in
theorem mtX5_pt (k : Nat) (S4 : bt_Sp) (d4 : Nat) (hS4 : k = 0 ∨ ∃ k', k = k' + 1 ∧ S4 = SpX5_pt k') (m4 : bt_Met yX5_place cX5_place 4 none d4 [2, 2, 0] S4) (dd : Nat) (hdd : 20 ≤ dd) (h4 : d4 + 1 ≤ dd) : bt_Met yX5_place cX5_place 4 none dd [2, 2, 0] (SpX5_pt k) := by
  refine lpX5_place mtX5_hope (by omega) mtX5_canBeat (by omega) mtX5_judge (by omega) m4 h4 _ (fun As w Q _ hS => ?_)
  obtain ⟨ρ, μ, z, g, σ, wh, rfl, rfl, hρ, hz, hZ, hSt, hgk, hI, hQ⟩ := hS
  obtain ⟨⟨i1, i2, i3⟩, i4, i5, i6, i7⟩ := id hI
  obtain ⟨c1, c2, c3, c4, c5, c6, c7, c8, c9, c10, c11, c12, c13, c14, c15, c16, c17, c18, c19, c20, c21, c22, c23, c24, c25⟩ := bt_zo_f z hz
  have hzz := bt_zo2 z hz
  have hr := ab_rg hZ
  have hG : μ z 1 = (nG (bt_vw μ z) : Int) ∧ μ z 0 = (nP (bt_vw μ z) : Int) := by
    have := hZ.1
    simp only [bt_vw, nG, nP, Nat.add_zero] at *
    omega
  have hhop := ab_hop_rg hZ hSt g (by omega) wh
  obtain ⟨x1, x2, x3, x4⟩ := id i7
  have x1' : μ 19 6 = 0 ∨ μ 19 6 = 1 := x1
  have x2' : 0 ≤ μ 19 7 ∧ μ 19 7 ≤ 4995 := x2
  have x3' : 0 ≤ μ 19 8 ∧ μ 19 8 ≤ 6 := ⟨x3, x4⟩
  have hsame : ab_cut (bt_vw μ z) σ g wh (bt_sn6 (nG (bt_vw μ z)) (bt_sx μ)) = true → Q none (bt_wd ρ μ) := by
    intro hc
    refine hQ μ ?_ (fun _ _ => rfl) (fun _ _ => rfl) (fun _ _ => rfl) (fun _ _ => rfl)
    cases k with
    | zero => unfold ab_pt; rw [if_pos hc]
    | succ k => unfold ab_pt; rw [if_pos hc]
  have cutI : ∀ b : Prop, (ab_cut (bt_vw μ z) σ g wh (bt_sn6 (nG (bt_vw μ z)) (bt_sx μ)) = true ↔ (μ 19 6 ≠ 0 ∧ ¬ (μ 19 7 < ab_hop (bt_vw μ z) σ g wh ∨ (ab_hop (bt_vw μ z) σ g wh = μ 19 7 ∧ 0 < μ 19 8)))) := by
    intro _
    by_cases hA : μ 19 7 < ab_hop (bt_vw μ z) σ g wh <;> by_cases hB : ab_hop (bt_vw μ z) σ g wh = μ 19 7 <;> by_cases hC : 0 < μ 19 8 <;> by_cases hD : μ 19 6 = 0 <;> simp [ab_cut, bt_sn6, bt_sx, hA, hB, hC, hD] <;> omega
  have cutI := cutI True
  generalize hζ : bt_vw μ z = ζ at *
  generalize hs0 : bt_sn6 (nG ζ) (bt_sx μ) = s0 at *
  refine ⟨fun h' m st L w => st = [] ∧ ∃ (i : Nat) (μ1 : Nat → Nat → Int), w = bt_wd ρ μ1 ∧ i ≤ nP ζ ∧ m = nP ζ - i ∧ L = [some (.inr (.inr 19)), some (.inr (.inr z)), some (.inl (g : Int)), some (.inl (i : Int))] ∧ g < nG ζ ∧ bt_fr bt_inP μ1 μ ∧ bt_PtI μ1 ζ σ g wh ∧ (∀ i, i < 6 → μ1 19 i = μ 19 i) ∧ (∀ i, i < g → μ1 30 i = μ 30 i) ∧ ab_pt ζ σ k g wh s0 = ab_ptL ζ g wh (ab_pt ζ σ (k - 1) (g + 1)) (nP ζ - i) i (bt_sn6 (nG ζ) (bt_sx μ1)), ?_, ?_⟩
  · -- the entry
    have go : ab_cut ζ σ g wh s0 = false → tX5_place_21 SpX5_hope SpX5_canBeat SpX5_judge S4 (fun h st L w => ∃ n, st = [] ∧ ∃ (i : Nat) (μ1 : Nat → Nat → Int), w = bt_wd ρ μ1 ∧ i ≤ nP ζ ∧ n = nP ζ - i ∧ L = [some (.inr (.inr 19)), some (.inr (.inr z)), some (.inl (g : Int)), some (.inl (i : Int))] ∧ g < nG ζ ∧ bt_fr bt_inP μ1 μ ∧ bt_PtI μ1 ζ σ g wh ∧ (∀ i, i < 6 → μ1 19 i = μ 19 i) ∧ (∀ i, i < g → μ1 30 i = μ 30 i) ∧ ab_pt ζ σ k g wh s0 = ab_ptL ζ g wh (ab_pt ζ σ (k - 1) (g + 1)) (nP ζ - i) i (bt_sn6 (nG ζ) (bt_sx μ1))) Q [] [some (.inr (.inr 19)), some (.inr (.inr z)), some (.inl (g : Int)), none] (bt_wd ρ μ) := by
      intro hcut
      simp (disch := omega) only [tX5_place_21, bt_ild, bt_lld, bt_ald, bt_ist, bt_lst, bt_ast, bt_inc, bt_ic, bt_lc, bt_iadd, bt_isub, bt_imul, bt_iand, bt_ior, bt_ixor, bt_ishl, bt_ishr, bt_iushr, bt_ladd, bt_lsub, bt_lmul, bt_land, bt_lor, bt_lushr, bt_lshl, bt_idiv, bt_irem, bt_ldiv, bt_lrem, bt_lcmp, bt_i2l, bt_l2i, bt_i2b, bt_pop, bt_dup, bt_dup2, bt_gfI, bt_gfJ, bt_gfR, bt_pfI, bt_pfZ, bt_pfJ, bt_pfR, bt_ial, bt_bal, bt_zal, bt_lal, bt_aal, bt_ias, bt_bas, bt_zas, bt_las, bt_len, bt_iret, bt_zret, bt_lret, bt_vret, bt_cV, bt_cS, bt_tab, bt_tsw, bt_lk, bt_lsw, bt_acp, bt_mmax, bt_mmin, bt_can, bt_icmpeq, bt_ifeq, bt_icmpne, bt_ifne, bt_icmplt, bt_iflt, bt_icmpge, bt_ifge, bt_icmpgt, bt_ifgt, bt_icmple, bt_ifle, bt_ret, bt_kill, bt_kl, bt_ix, bt_nl, bt_sm, bt_sr, bt_sig, bt_tg, bt_loc, bt_locs, List.getElem?_cons_zero, List.getElem?_cons_succ, List.set_cons_zero, List.set_cons_succ, List.map_cons, List.map_nil, List.take_succ_cons, List.take_zero, List.drop_succ_cons, List.drop_zero, List.reverse_cons, List.reverse_nil, List.nil_append, List.cons_append, List.append_nil, List.length_cons, List.length_nil, List.replicate_succ, List.replicate_zero, Option.toList_some, Option.toList_none, Nat.reduceAdd, Nat.reduceSub, Nat.reduceLeDiff, Nat.zero_add, Nat.zero_le, true_and, and_true, Int.toNat_natCast, Sum.inl.injEq, Sum.inr.injEq, ↓reduceIte, Nat.reduceEqDiff, hρ z _ c2, c3, c4, c5, c6, c7, c8, c9, c10, c11, c12, c13, c14, c15, c16, c17, c18, c19, c20, c21, c22, c23, c24, hG.1, sh_19, bt_w_id]
      refine And.intro (by omega) ?_
      cases k with
      | zero =>
        rw [if_neg (by omega)]
        have hgn : g = nG ζ := by omega
        have s1 : ab_sq ζ (bt_vw μ 29) (ab_wr σ wh) := by
          refine ⟨by simp [bt_vw, ab_wr, i1], by simp [bt_vw, ab_wr, i1], fun q hq => ⟨?_, ?_⟩, fun a ha => ?_⟩
          · simp only [bt_vw, ab_wr, ↓reduceIte]; exact (i4 q (by omega)).1
          · simp only [bt_vw, ab_wr, Nat.reduceEqDiff, ↓reduceIte]; rw [show μ (29 + 2) = μ 31 from rfl, i2]
          · simp only [bt_vw, ab_wr, Nat.reduceEqDiff, ↓reduceIte]; rw [show μ (29 + 3) = μ 32 from rfl, i3]
        have S1 : ab_S ζ (ab_wr σ wh) := ab_Swr hSt (fun i hi => (i4 i (by omega)).2)
        refine ⟨by omega, ρ, μ, z, rfl, rfl, hρ, hz, by rw [hζ]; exact hZ, by rw [hζ]; exact ab_sq.S (ab_zq.rf ζ) s1.sy S1, x1', x2', x3', fun μ' hs' h19 hf => ?_⟩
        simp (disch := omega) only [bt_ild, bt_lld, bt_ald, bt_ist, bt_lst, bt_ast, bt_inc, bt_ic, bt_lc, bt_iadd, bt_isub, bt_imul, bt_iand, bt_ior, bt_ixor, bt_ishl, bt_ishr, bt_iushr, bt_ladd, bt_lsub, bt_lmul, bt_land, bt_lor, bt_lushr, bt_lshl, bt_idiv, bt_irem, bt_ldiv, bt_lrem, bt_lcmp, bt_i2l, bt_l2i, bt_i2b, bt_pop, bt_dup, bt_dup2, bt_gfI, bt_gfJ, bt_gfR, bt_pfI, bt_pfZ, bt_pfJ, bt_pfR, bt_ial, bt_bal, bt_zal, bt_lal, bt_aal, bt_ias, bt_bas, bt_zas, bt_las, bt_len, bt_iret, bt_zret, bt_lret, bt_vret, bt_cV, bt_cS, bt_tab, bt_tsw, bt_lk, bt_lsw, bt_acp, bt_mmax, bt_mmin, bt_can, bt_icmpeq, bt_ifeq, bt_icmpne, bt_ifne, bt_icmplt, bt_iflt, bt_icmpge, bt_ifge, bt_icmpgt, bt_ifgt, bt_icmple, bt_ifle, bt_ret, bt_kill, bt_kl, bt_ix, bt_nl, bt_sm, bt_sr, bt_sig, bt_tg, bt_loc, bt_locs, List.getElem?_cons_zero, List.getElem?_cons_succ, List.set_cons_zero, List.set_cons_succ, List.map_cons, List.map_nil, List.take_succ_cons, List.take_zero, List.drop_succ_cons, List.drop_zero, List.reverse_cons, List.reverse_nil, List.nil_append, List.cons_append, List.append_nil, List.length_cons, List.length_nil, List.replicate_succ, List.replicate_zero, Option.toList_some, Option.toList_none, Nat.reduceAdd, Nat.reduceSub, Nat.reduceLeDiff, Nat.zero_add, Nat.zero_le, true_and, and_true, Int.toNat_natCast, Sum.inl.injEq, Sum.inr.injEq, ↓reduceIte, Nat.reduceEqDiff]
        rw [hζ] at hs'
        refine hQ μ' ?_ h19 (fun i hi => by rw [hf 30 (by omega)]) (fun p hp => by rw [hf 34 (by omega)]) (fun a ha => hf a (by unfold bt_inP at ha; omega))
        unfold ab_pt
        rw [if_neg (by rw [hcut]; decide)]
        rw [hs', ← hs0]
        have q1 := ab_ctk (ab_zq.rf ζ) s1 hZ (ab_sq.S (ab_zq.rf ζ) s1.sy S1) 1
        have q2 : ab_np ζ (bt_vw μ 29) = ab_np ζ (ab_wr σ wh) := by
          unfold ab_np
          congr 1
          exact bt_ct_congr _ (fun q hq => by rw [ab_cma (ab_zq.rf ζ) s1 hZ (ab_sq.S (ab_zq.rf ζ) s1.sy S1) 1 hq])
        unfold ab_jd ab_jt
        rw [q1, q2]
        by_cases hq : μ 19 6 = 0 ∨ μ 19 7 < ab_tk ζ (ab_wr σ wh) 1 ∨ (μ 19 7 = ab_tk ζ (ab_wr σ wh) 1 ∧ ab_np ζ (ab_wr σ wh) < μ 19 8)
        · rw [if_pos (by exact hq), if_pos (by exact hq)]
          unfold bt_sn6
          refine Prod.ext rfl (Prod.ext rfl (Prod.ext rfl ?_))
          funext i
          dsimp only
          by_cases h : i < nG ζ
          · rw [if_pos h, if_pos h, if_pos (by omega)]
            exact (i4 i (by omega)).1
          · rw [if_neg h, if_neg h]
        · rw [if_neg (by exact hq), if_neg (by exact hq)]
      | succ k' =>
        rw [if_pos (by omega)]
        refine ⟨nP ζ, 0, μ, rfl, by omega, by omega, rfl, by omega, fun _ _ => rfl, hI, fun _ _ => rfl, fun _ _ => rfl, ?_⟩
        conv => lhs; unfold ab_pt
        rw [if_neg (by rw [hcut]; decide), ← hs0]
        rfl
    simp (disch := omega) only [tX5_place_0, bt_ild, bt_lld, bt_ald, bt_ist, bt_lst, bt_ast, bt_inc, bt_ic, bt_lc, bt_iadd, bt_isub, bt_imul, bt_iand, bt_ior, bt_ixor, bt_ishl, bt_ishr, bt_iushr, bt_ladd, bt_lsub, bt_lmul, bt_land, bt_lor, bt_lushr, bt_lshl, bt_idiv, bt_irem, bt_ldiv, bt_lrem, bt_lcmp, bt_i2l, bt_l2i, bt_i2b, bt_pop, bt_dup, bt_dup2, bt_gfI, bt_gfJ, bt_gfR, bt_pfI, bt_pfZ, bt_pfJ, bt_pfR, bt_ial, bt_bal, bt_zal, bt_lal, bt_aal, bt_ias, bt_bas, bt_zas, bt_las, bt_len, bt_iret, bt_zret, bt_lret, bt_vret, bt_cV, bt_cS, bt_tab, bt_tsw, bt_lk, bt_lsw, bt_acp, bt_mmax, bt_mmin, bt_can, bt_icmpeq, bt_ifeq, bt_icmpne, bt_ifne, bt_icmplt, bt_iflt, bt_icmpge, bt_ifge, bt_icmpgt, bt_ifgt, bt_icmple, bt_ifle, bt_ret, bt_kill, bt_kl, bt_ix, bt_nl, bt_sm, bt_sr, bt_sig, bt_tg, bt_loc, bt_locs, List.getElem?_cons_zero, List.getElem?_cons_succ, List.set_cons_zero, List.set_cons_succ, List.map_cons, List.map_nil, List.take_succ_cons, List.take_zero, List.drop_succ_cons, List.drop_zero, List.reverse_cons, List.reverse_nil, List.nil_append, List.cons_append, List.append_nil, List.length_cons, List.length_nil, List.replicate_succ, List.replicate_zero, Option.toList_some, Option.toList_none, Nat.reduceAdd, Nat.reduceSub, Nat.reduceLeDiff, Nat.zero_add, Nat.zero_le, true_and, and_true, Int.toNat_natCast, Sum.inl.injEq, Sum.inr.injEq, ↓reduceIte, Nat.reduceEqDiff, sh_19, bt_w_id]
    refine And.intro (by omega) ?_
    by_cases h0 : μ 19 6 = 0
    · rw [if_pos h0]
      exact go (by rw [Bool.eq_false_iff, ne_eq, cutI]; omega)
    · rw [if_neg h0]
      refine ⟨by omega, ?_⟩
      rw [← hζ]
      refine ab_cut_call hρ hz (by rw [hζ]; exact hZ) (by rw [hζ]; exact hSt) (by rw [hζ]; omega) (by rw [hζ]; exact hI) ?_
      rw [hζ]
      simp (disch := omega) only [SpX5_canBeat, tX5_canBeat_0, tX5_canBeat_23, tX5_canBeat_27, tX5_canBeat_28, bt_ild, bt_lld, bt_ald, bt_ist, bt_lst, bt_ast, bt_inc, bt_ic, bt_lc, bt_iadd, bt_isub, bt_imul, bt_iand, bt_ior, bt_ixor, bt_ishl, bt_ishr, bt_iushr, bt_ladd, bt_lsub, bt_lmul, bt_land, bt_lor, bt_lushr, bt_lshl, bt_idiv, bt_irem, bt_ldiv, bt_lrem, bt_lcmp, bt_i2l, bt_l2i, bt_i2b, bt_pop, bt_dup, bt_dup2, bt_gfI, bt_gfJ, bt_gfR, bt_pfI, bt_pfZ, bt_pfJ, bt_pfR, bt_ial, bt_bal, bt_zal, bt_lal, bt_aal, bt_ias, bt_bas, bt_zas, bt_las, bt_len, bt_iret, bt_zret, bt_lret, bt_vret, bt_cV, bt_cS, bt_tab, bt_tsw, bt_lk, bt_lsw, bt_acp, bt_mmax, bt_mmin, bt_can, bt_icmpeq, bt_ifeq, bt_icmpne, bt_ifne, bt_icmplt, bt_iflt, bt_icmpge, bt_ifge, bt_icmpgt, bt_ifgt, bt_icmple, bt_ifle, bt_ret, bt_kill, bt_kl, bt_ix, bt_nl, bt_sm, bt_sr, bt_sig, bt_tg, bt_loc, bt_locs, List.getElem?_cons_zero, List.getElem?_cons_succ, List.set_cons_zero, List.set_cons_succ, List.map_cons, List.map_nil, List.take_succ_cons, List.take_zero, List.drop_succ_cons, List.drop_zero, List.reverse_cons, List.reverse_nil, List.nil_append, List.cons_append, List.append_nil, List.length_cons, List.length_nil, List.replicate_succ, List.replicate_zero, Option.toList_some, Option.toList_none, Nat.reduceAdd, Nat.reduceSub, Nat.reduceLeDiff, Nat.zero_add, Nat.zero_le, true_and, and_true, Int.toNat_natCast, Sum.inl.injEq, Sum.inr.injEq, ↓reduceIte, Nat.reduceEqDiff, sh_19, bt_w_id]
      repeat (refine And.intro (by omega) ?_)
      by_cases h1 : μ 19 7 < ab_hop ζ σ g wh
      · rw [if_pos h1]
        refine ⟨Or.inr trivial, ?_⟩
        rw [if_neg (by decide)]
        exact go (by rw [Bool.eq_false_iff, ne_eq, cutI]; omega)
      · rw [if_neg h1]
        repeat (refine And.intro (by omega) ?_)
        by_cases h2 : ab_hop ζ σ g wh = μ 19 7
        · rw [if_pos h2]
          repeat (refine And.intro (by omega) ?_)
          by_cases h3 : μ 19 8 ≤ 0
          · rw [if_pos h3]
            exact ⟨Or.inl trivial, hsame (cutI.mpr ⟨h0, by omega⟩)⟩
          · rw [if_neg h3]
            refine ⟨Or.inr trivial, ?_⟩
            rw [if_neg (by decide)]
            exact go (by rw [Bool.eq_false_iff, ne_eq, cutI]; omega)
        · rw [if_neg h2]
          exact ⟨Or.inl trivial, hsame (cutI.mpr ⟨h0, by omega⟩)⟩
  · rintro m st L w ⟨rfl, i, μ1, rfl, hi, rfl, rfl, hgn, hfr, hI1, h19, h30, hpt⟩
    obtain ⟨⟨j1, j2, j3⟩, j4, j5, j6, j7⟩ := id hI1
    have e1 : μ1 z = μ z := hfr z (by unfold bt_inP; omega)
    have e7 : μ1 (z + 7) = μ (z + 7) := hfr _ (by unfold bt_inP; omega)
    obtain ⟨k', rfl, rfl⟩ : ∃ k', k = k' + 1 ∧ S4 = SpX5_pt k' := by
      rcases hS4 with h | h
      · omega
      · exact h
    rw [Nat.add_sub_cancel] at hpt
    have hf7 := (hZ.2.1 g hgn).2
    have hf72 : μ (z + 7) g = ((ζ 7 g).toNat : Int) := by rw [← hζ] at *; simp only [bt_vw] at *; omega
    have h64 : 2 ^ g ≤ 64 := Nat.le_trans (Nat.pow_le_pow_right (by decide) (show g ≤ 6 by omega)) (by decide)
    by_cases hc : nP ζ ≤ i
    · simp (disch := omega) only [tX5_place_37, bt_ild, bt_lld, bt_ald, bt_ist, bt_lst, bt_ast, bt_inc, bt_ic, bt_lc, bt_iadd, bt_isub, bt_imul, bt_iand, bt_ior, bt_ixor, bt_ishl, bt_ishr, bt_iushr, bt_ladd, bt_lsub, bt_lmul, bt_land, bt_lor, bt_lushr, bt_lshl, bt_idiv, bt_irem, bt_ldiv, bt_lrem, bt_lcmp, bt_i2l, bt_l2i, bt_i2b, bt_pop, bt_dup, bt_dup2, bt_gfI, bt_gfJ, bt_gfR, bt_pfI, bt_pfZ, bt_pfJ, bt_pfR, bt_ial, bt_bal, bt_zal, bt_lal, bt_aal, bt_ias, bt_bas, bt_zas, bt_las, bt_len, bt_iret, bt_zret, bt_lret, bt_vret, bt_cV, bt_cS, bt_tab, bt_tsw, bt_lk, bt_lsw, bt_acp, bt_mmax, bt_mmin, bt_can, bt_icmpeq, bt_ifeq, bt_icmpne, bt_ifne, bt_icmplt, bt_iflt, bt_icmpge, bt_ifge, bt_icmpgt, bt_ifgt, bt_icmple, bt_ifle, bt_ret, bt_kill, bt_kl, bt_ix, bt_nl, bt_sm, bt_sr, bt_sig, bt_tg, bt_loc, bt_locs, List.getElem?_cons_zero, List.getElem?_cons_succ, List.set_cons_zero, List.set_cons_succ, List.map_cons, List.map_nil, List.take_succ_cons, List.take_zero, List.drop_succ_cons, List.drop_zero, List.reverse_cons, List.reverse_nil, List.nil_append, List.cons_append, List.append_nil, List.length_cons, List.length_nil, List.replicate_succ, List.replicate_zero, Option.toList_some, Option.toList_none, Nat.reduceAdd, Nat.reduceSub, Nat.reduceLeDiff, Nat.zero_add, Nat.zero_le, true_and, and_true, Int.toNat_natCast, Sum.inl.injEq, Sum.inr.injEq, ↓reduceIte, Nat.reduceEqDiff, hρ z _ c2, c3, c4, c5, c6, c7, c8, c9, c10, c11, c12, c13, c14, c15, c16, c17, c18, c19, c20, c21, c22, c23, c24, e1, hG.2, bt_w_id]
      refine And.intro (by omega) ?_
      rw [if_pos (by omega)]
      have : i = nP ζ := by omega
      subst this
      rw [Nat.sub_self] at hpt
      exact hQ μ1 hpt.symm h19 h30 (fun p hp => by rw [j5 p hp, i5 p hp]) hfr
    · have hlt := ab_hd_lt wh g i
      have next : ∀ μ2 : Nat → Nat → Int, bt_fr bt_inP μ2 μ → bt_PtI μ2 ζ σ g wh → (∀ i, i < 6 → μ2 19 i = μ 19 i) → (∀ i, i < g → μ2 30 i = μ 30 i) → bt_sn6 (nG ζ) (bt_sx μ2) = (if ab_hd wh g i &&& (ζ 7 g).toNat = 0 then ab_pt ζ σ k' (g + 1) (ab_put wh g i) (bt_sn6 (nG ζ) (bt_sx μ1)) else bt_sn6 (nG ζ) (bt_sx μ1)) → tX5_place_105 SpX5_hope SpX5_canBeat SpX5_judge (SpX5_pt k') (fun h st L w => ∃ m, m < nP ζ - i ∧ st = [] ∧ ∃ (i : Nat) (μ1 : Nat → Nat → Int), w = bt_wd ρ μ1 ∧ i ≤ nP ζ ∧ m = nP ζ - i ∧ L = [some (.inr (.inr 19)), some (.inr (.inr z)), some (.inl (g : Int)), some (.inl (i : Int))] ∧ g < nG ζ ∧ bt_fr bt_inP μ1 μ ∧ bt_PtI μ1 ζ σ g wh ∧ (∀ i, i < 6 → μ1 19 i = μ 19 i) ∧ (∀ i, i < g → μ1 30 i = μ 30 i) ∧ ab_pt ζ σ (k' + 1) g wh s0 = ab_ptL ζ g wh (ab_pt ζ σ (k' + 1 - 1) (g + 1)) (nP ζ - i) i (bt_sn6 (nG ζ) (bt_sx μ1))) Q [] [some (.inr (.inr 19)), some (.inr (.inr z)), some (.inl (g : Int)), some (.inl (i : Int))] (bt_wd ρ μ2) := by
        intro μ2 n1 n2 n3 n4 n5
        simp (disch := omega) only [tX5_place_105, bt_ild, bt_lld, bt_ald, bt_ist, bt_lst, bt_ast, bt_inc, bt_ic, bt_lc, bt_iadd, bt_isub, bt_imul, bt_iand, bt_ior, bt_ixor, bt_ishl, bt_ishr, bt_iushr, bt_ladd, bt_lsub, bt_lmul, bt_land, bt_lor, bt_lushr, bt_lshl, bt_idiv, bt_irem, bt_ldiv, bt_lrem, bt_lcmp, bt_i2l, bt_l2i, bt_i2b, bt_pop, bt_dup, bt_dup2, bt_gfI, bt_gfJ, bt_gfR, bt_pfI, bt_pfZ, bt_pfJ, bt_pfR, bt_ial, bt_bal, bt_zal, bt_lal, bt_aal, bt_ias, bt_bas, bt_zas, bt_las, bt_len, bt_iret, bt_zret, bt_lret, bt_vret, bt_cV, bt_cS, bt_tab, bt_tsw, bt_lk, bt_lsw, bt_acp, bt_mmax, bt_mmin, bt_can, bt_icmpeq, bt_ifeq, bt_icmpne, bt_ifne, bt_icmplt, bt_iflt, bt_icmpge, bt_ifge, bt_icmpgt, bt_ifgt, bt_icmple, bt_ifle, bt_ret, bt_kill, bt_kl, bt_ix, bt_nl, bt_sm, bt_sr, bt_sig, bt_tg, bt_loc, bt_locs, List.getElem?_cons_zero, List.getElem?_cons_succ, List.set_cons_zero, List.set_cons_succ, List.map_cons, List.map_nil, List.take_succ_cons, List.take_zero, List.drop_succ_cons, List.drop_zero, List.reverse_cons, List.reverse_nil, List.nil_append, List.cons_append, List.append_nil, List.length_cons, List.length_nil, List.replicate_succ, List.replicate_zero, Option.toList_some, Option.toList_none, Nat.reduceAdd, Nat.reduceSub, Nat.reduceLeDiff, Nat.zero_add, Nat.zero_le, true_and, and_true, Int.toNat_natCast, Sum.inl.injEq, Sum.inr.injEq, ↓reduceIte, Nat.reduceEqDiff]
        refine ⟨nP ζ - (i + 1), by omega, i + 1, μ2, rfl, by omega, rfl, rfl, hgn, n1, n2, n3, n4, ?_⟩
        rw [Nat.add_sub_cancel, hpt, n5, show nP ζ - i = (nP ζ - (i + 1)) + 1 by omega]
        rfl
      simp (disch := omega) only [tX5_place_37, bt_ild, bt_lld, bt_ald, bt_ist, bt_lst, bt_ast, bt_inc, bt_ic, bt_lc, bt_iadd, bt_isub, bt_imul, bt_iand, bt_ior, bt_ixor, bt_ishl, bt_ishr, bt_iushr, bt_ladd, bt_lsub, bt_lmul, bt_land, bt_lor, bt_lushr, bt_lshl, bt_idiv, bt_irem, bt_ldiv, bt_lrem, bt_lcmp, bt_i2l, bt_l2i, bt_i2b, bt_pop, bt_dup, bt_dup2, bt_gfI, bt_gfJ, bt_gfR, bt_pfI, bt_pfZ, bt_pfJ, bt_pfR, bt_ial, bt_bal, bt_zal, bt_lal, bt_aal, bt_ias, bt_bas, bt_zas, bt_las, bt_len, bt_iret, bt_zret, bt_lret, bt_vret, bt_cV, bt_cS, bt_tab, bt_tsw, bt_lk, bt_lsw, bt_acp, bt_mmax, bt_mmin, bt_can, bt_icmpeq, bt_ifeq, bt_icmpne, bt_ifne, bt_icmplt, bt_iflt, bt_icmpge, bt_ifge, bt_icmpgt, bt_ifgt, bt_icmple, bt_ifle, bt_ret, bt_kill, bt_kl, bt_ix, bt_nl, bt_sm, bt_sr, bt_sig, bt_tg, bt_loc, bt_locs, List.getElem?_cons_zero, List.getElem?_cons_succ, List.set_cons_zero, List.set_cons_succ, List.map_cons, List.map_nil, List.take_succ_cons, List.take_zero, List.drop_succ_cons, List.drop_zero, List.reverse_cons, List.reverse_nil, List.nil_append, List.cons_append, List.append_nil, List.length_cons, List.length_nil, List.replicate_succ, List.replicate_zero, Option.toList_some, Option.toList_none, Nat.reduceAdd, Nat.reduceSub, Nat.reduceLeDiff, Nat.zero_add, Nat.zero_le, true_and, and_true, Int.toNat_natCast, Sum.inl.injEq, Sum.inr.injEq, ↓reduceIte, Nat.reduceEqDiff, hρ z _ c2, c3, c4, c5, c6, c7, c8, c9, c10, c11, c12, c13, c14, c15, c16, c17, c18, c19, c20, c21, c22, c23, c24, e1, e7, hG.2, sh_19, hρ 19 _ (by decide), rf_19_1, rf_19_3, sh_34, sh_29, hρ 29 _ (by decide), rf_29_2, sh_30, bt_w_id]
      refine And.intro (by omega) ?_
      rw [if_neg (by omega)]
      repeat (refine And.intro (by omega) ?_)
      rw [j5 i (by omega), hf72, bo_iand_nat (Or.inl (by omega))]
      have hle : ab_hd wh g i &&& (ζ 7 g).toNat ≤ ab_hd wh g i := Nat.and_le_left
      rw [bt_w_id (by omega) (by omega)]
      by_cases hq : ab_hd wh g i &&& (ζ 7 g).toNat = 0
      · rw [if_pos (by omega)]
        repeat (refine And.intro (by omega) ?_)
        have d30 : ∀ v u, bt_up (bt_up μ1 30 g v) 34 i u 34 i = u := fun v u => bt_up_same _ _ _ _
        rw [bt_up_cell (by omega), j5 i (by omega), bo_setbit hlt (by omega)]
        repeat (refine And.intro (by omega) ?_)
        generalize hμ2 : bt_up (bt_up μ1 30 g (i : Int)) 34 i ((ab_hd wh g i + 2 ^ g : Nat) : Int) = μ2
        have c2 : ∀ a, a ≠ 30 → a ≠ 34 → μ2 a = μ1 a := fun a h1 h2 => by rw [← hμ2, bt_up_cell h2, bt_up_cell h1]
        have c30 : μ2 30 = ab_put (μ1 30) g i := by
          rw [← hμ2, bt_up_cell (by decide)]
          funext j
          simp [bt_up, ab_put]
        have v2 : bt_vw μ2 z = ζ := by
          rw [← hζ]
          funext j
          simp only [bt_vw]
          rw [c2 _ (by omega) (by omega), hfr _ (by unfold bt_inP; omega)]
        have sx2 : bt_sx μ2 = bt_sx μ1 := by
          unfold bt_sx
          rw [c2 19 (by decide) (by decide), c2 33 (by decide) (by decide)]
        have I2 : bt_PtI μ2 ζ σ (g + 1) (ab_put wh g i) := by
          refine ⟨⟨by rw [c2 29 (by decide) (by decide)]; exact j1, by rw [c2 31 (by decide) (by decide)]; exact j2, by rw [c2 32 (by decide) (by decide)]; exact j3⟩, fun q hq2 => ?_, fun p hp => ?_, fun q k C h1 h2 h3 => by rw [c2 35 (by decide) (by decide)]; exact j6 q k C h1 h2 h3, by rw [sx2]; exact j7⟩
          · rw [c30]
            unfold ab_put
            by_cases e : q = g
            · rw [if_pos e, if_pos e]; exact ⟨rfl, by omega, by omega⟩
            · rw [if_neg e, if_neg e]; exact j4 q (by omega)
          · rw [ab_hd_put, ← hμ2]
            by_cases e : i = p
            · subst e; rw [bt_up_same, if_pos rfl]
            · rw [bt_up_ix (fun h => e h.symm), bt_up_cell (by decide), j5 p hp, if_neg e, Nat.add_zero]
        refine ⟨ρ, μ2, z, g + 1, σ, ab_put wh g i, rfl, rfl, hρ, hz, by rw [v2]; exact hZ, by rw [v2]; exact hSt, by rw [v2]; omega, by rw [v2]; exact I2, fun μ3 hs3 h193 h303 h343 hf3 => ?_⟩
        rw [v2] at hs3 h343
        have hrg := ab_pt_r hZ hSt k' (g + 1) (ab_put wh g i) (bt_sn6 (nG ζ) (bt_sx μ2)) (by omega) (fun q hq2 => (I2.2.1 q hq2).2) I2.2.2.2.2
        have a3 : μ3 34 i = ((ab_hd wh g i + 2 ^ g : Nat) : Int) := by rw [h343 i (by omega), ← hμ2, bt_up_same]
        simp (disch := omega) only [bt_ild, bt_lld, bt_ald, bt_ist, bt_lst, bt_ast, bt_inc, bt_ic, bt_lc, bt_iadd, bt_isub, bt_imul, bt_iand, bt_ior, bt_ixor, bt_ishl, bt_ishr, bt_iushr, bt_ladd, bt_lsub, bt_lmul, bt_land, bt_lor, bt_lushr, bt_lshl, bt_idiv, bt_irem, bt_ldiv, bt_lrem, bt_lcmp, bt_i2l, bt_l2i, bt_i2b, bt_pop, bt_dup, bt_dup2, bt_gfI, bt_gfJ, bt_gfR, bt_pfI, bt_pfZ, bt_pfJ, bt_pfR, bt_ial, bt_bal, bt_zal, bt_lal, bt_aal, bt_ias, bt_bas, bt_zas, bt_las, bt_len, bt_iret, bt_zret, bt_lret, bt_vret, bt_cV, bt_cS, bt_tab, bt_tsw, bt_lk, bt_lsw, bt_acp, bt_mmax, bt_mmin, bt_can, bt_icmpeq, bt_ifeq, bt_icmpne, bt_ifne, bt_icmplt, bt_iflt, bt_icmpge, bt_ifge, bt_icmpgt, bt_ifgt, bt_icmple, bt_ifle, bt_ret, bt_kill, bt_kl, bt_ix, bt_nl, bt_sm, bt_sr, bt_sig, bt_tg, bt_loc, bt_locs, List.getElem?_cons_zero, List.getElem?_cons_succ, List.set_cons_zero, List.set_cons_succ, List.map_cons, List.map_nil, List.take_succ_cons, List.take_zero, List.drop_succ_cons, List.drop_zero, List.reverse_cons, List.reverse_nil, List.nil_append, List.cons_append, List.append_nil, List.length_cons, List.length_nil, List.replicate_succ, List.replicate_zero, Option.toList_some, Option.toList_none, Nat.reduceAdd, Nat.reduceSub, Nat.reduceLeDiff, Nat.zero_add, Nat.zero_le, true_and, and_true, Int.toNat_natCast, Sum.inl.injEq, Sum.inr.injEq, ↓reduceIte, Nat.reduceEqDiff, sh_19, hρ 19 _ (by decide), rf_19_3, sh_34, bt_w_id, a3]
        repeat (refine And.intro (by omega) ?_)
        rw [ab_unset g (by omega) (ab_hd wh g i) hlt]
        have c4 : ∀ a, a ≠ 34 → bt_up μ3 34 i (ab_hd wh g i : Int) a = μ3 a := fun a ha => bt_up_cell ha
        have sx4 : bt_sx (bt_up μ3 34 i (ab_hd wh g i : Int)) = bt_sx μ3 := by
          unfold bt_sx
          rw [c4 19 (by decide), c4 33 (by decide)]
        refine next _ (fun a ha => ?_) ⟨⟨?_, ?_, ?_⟩, fun q hq2 => ?_, fun p hp => ?_, fun q k C h1 h2 h3 => ?_, ?_⟩ (fun q hq2 => ?_) (fun q hq2 => ?_) ?_
        · rw [c4 a (by unfold bt_inP at ha; omega), hf3 a ha, c2 a (by unfold bt_inP at ha; omega) (by unfold bt_inP at ha; omega)]
          exact hfr a ha
        · rw [c4 29 (by decide), hf3 29 (by unfold bt_inP; omega), c2 29 (by decide) (by decide)]; exact j1
        · rw [c4 31 (by decide), hf3 31 (by unfold bt_inP; omega), c2 31 (by decide) (by decide)]; exact j2
        · rw [c4 32 (by decide), hf3 32 (by unfold bt_inP; omega), c2 32 (by decide) (by decide)]; exact j3
        · rw [c4 30 (by decide), h303 q (by omega), c30]
          unfold ab_put
          rw [if_neg (by omega)]
          exact j4 q hq2
        · by_cases e : p = i
          · subst e; rw [bt_up_same]
          · rw [bt_up_ix e, h343 p hp, ← hμ2, bt_up_ix e, bt_up_cell (by decide)]; exact j5 p hp
        · rw [c4 35 (by decide), hf3 35 (by unfold bt_inP; omega), c2 35 (by decide) (by decide)]; exact j6 q k C h1 h2 h3
        · rw [sx4]
          rw [← hs3] at hrg
          exact hrg
        · rw [c4 19 (by decide), h193 q hq2, c2 19 (by decide) (by decide)]; exact h19 q hq2
        · rw [c4 30 (by decide), h303 q (by omega), c30]
          unfold ab_put
          rw [if_neg (by omega)]
          exact h30 q hq2
        · rw [sx4, if_pos hq, hs3, sx2]
      · rw [if_neg (by omega)]
        exact next μ1 hfr hI1 h19 h30 (by rw [if_neg hq])
theorem mtX5_ptk : ∀ k d, 20 + k ≤ d → bt_Met yX5_place cX5_place 4 none d [2, 2, 0] (SpX5_pt k)
  | 0, d, hd => mtX5_pt 0 (fun _ _ _ => False) 0 (Or.inl rfl) bt_metF d (by omega) (by omega)
  | k + 1, d, hd => mtX5_pt (k + 1) (SpX5_pt k) (d - 1) (Or.inr ⟨k, rfl, rfl⟩) (mtX5_ptk k (d - 1) (by omega)) d (by omega) (by omega)
def SpX5_place : bt_Sp := fun As w Q => ∃ k, k ≤ 6 ∧ SpX5_pt k As w Q
theorem mtX5_place : bt_Met yX5_place cX5_place 4 none 65 [2, 2, 0] SpX5_place := fun l D cy ad As w Q sz hsig hS => by
  obtain ⟨k, hk, h⟩ := hS
  exact mtX5_ptk k _ (by omega) l D cy ad As w Q sz hsig h
