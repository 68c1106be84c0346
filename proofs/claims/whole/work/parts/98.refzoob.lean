/-! the reference: zoo -/
theorem wk_r_sh {F cd : Nat → Int} (s : Nat) : ∀ a i q, wk_r F cd a (s + i) q = wk_r F (fun k => cd (s + k)) a i q
  | 0, _, _ => rfl
  | a + 1, i, q => by
    show (match wk_1 F (cd (s + i)) q with
      | none => none
      | some q' => wk_r F cd a (s + i + 1) q') = (match wk_1 F (cd (s + i)) q with
      | none => none
      | some q' => wk_r F (fun k => cd (s + k)) a (i + 1) q')
    cases wk_1 F (cd (s + i)) q with
    | none => rfl
    | some q' => exact wk_r_sh s a (i + 1) q'
theorem wk_ok.sh {cd cd' : Nat → Int} {a b s : Nat} {V : fo_V} (h : wk_ok cd (s + a) (s + b) V) (e : ∀ k, a ≤ k → k < b → cd' k = cd (s + k)) : wk_ok cd' a b V := fun F M => by
  obtain ⟨M', h1, h2⟩ := h F M
  refine ⟨M', ?_, h2⟩
  rw [show s + b - (s + a) = b - a by omega, wk_r_sh] at h1
  rw [wk_r_cg (cd' := fun k => cd (s + k)) (b - a) a (0, wk_op 0 M) (fun x h1 h2 => e x h1 (by omega))]
  exact h1
theorem rz_cl_e {ζ ζ' : Nat → Nat → Int} (hc : rz_cl ζ' 0 ζ) : ∀ j, j < 15 → j ≠ 8 → j ≠ 9 → j ≠ 10 → ζ' j = ζ j := fun j h1 h2 h3 h4 => by
  have := hc.1 j h1 h2 h3 h4
  rw [Nat.zero_add] at this
  exact this
theorem rls_at {μ : Nat → Nat → Int} {c n k : Nat} (h : rls_n c = n) (hk : k < n) : rls_f μ c k = μ c (n + k) := by
  unfold rls_f
  rw [h, if_pos hk]
/-- behind lays and fresh -/
theorem rr_E.Z {μ μ' ζ ζ' : Nat → Nat → Int} (hE : rr_E μ ζ 1000) (hK : rz_K ζ) (hc : rz_cl ζ' 0 ζ) (e : ∀ c, 207 ≤ c → c ≤ 221 → c ≠ 219 → c ≠ 220 → μ' c = rls_f μ c) (e2 : ∀ l, l < 2 → ∀ a b : Nat, μ 219 (2 + l) = (a : Int) → μ 220 (2 + l) = (b : Int) → μ' 219 l = (a : Int) - 1000 ∧ μ' 220 l = (b : Int) - 1000) : rf_Z μ' ζ' ∧ rf_T μ' ζ' ∧ rf_P μ' ζ' := by
  obtain ⟨⟨⟨p1, p2⟩, ⟨g1, g2⟩, a1, a2⟩, ⟨n1, n2, n3, n4, n5⟩, hW, ⟨f1, f2, f3⟩, hTT, s, s1, s2, l0, l1⟩ := hE
  obtain ⟨c1, c2, c3, c4⟩ := id hc
  have c1 : ∀ j, j < 15 → j ≠ 8 → j ≠ 9 → j ≠ 10 → ζ' j = ζ j := fun j h1 h2 h3 h4 => by have := c1 j h1 h2 h3 h4; rw [Nat.zero_add] at this; exact this
  have c2 : ζ' 8 = ab_fwB 6 (ab_dg 6 (ζ 8)) := c2
  have c3 : ∀ k, k < 120 → ζ' 9 k = if (ζ 0 8).toNat.testBit 14 then ζ 9 k else ab_pw k := c3
  have c4 : ∀ k, k < 720 → ζ' 10 k = if (ζ 0 8).toNat.testBit 15 then ζ 10 k else ab_pm k := c4
  have z0 := c1 0 (by decide) (by decide) (by decide) (by decide)
  have eP : nP ζ' = nP ζ := nP_cg (by rw [z0])
  have eG : nG ζ' = nG ζ := nG_cg (by rw [z0])
  have eA : nA ζ' = nA ζ := nA_cg (by rw [z0])
  have hn := hK.1.1.n
  have hz := rz_cl_z (μ := ζ') (z := 0) (by decide) hc hK
  have hz' : om_z ζ' := by
    have : (fun j => ζ' (0 + j)) = ζ' := by funext j; rw [Nat.zero_add]
    rw [this] at hz; exact hz
  have L : ∀ c n k, 207 ≤ c → c ≤ 221 → c ≠ 219 → c ≠ 220 → rls_n c = n → k < n → μ' c k = μ c (n + k) := fun c n k h1 h2 h3 h4 h5 h6 => by
    rw [e c h1 h2 h3 h4]
    unfold rls_f
    rw [h5, if_pos h6]
  have L207 : ∀ k, k < 9 → μ' 207 k = μ 207 (9 + k) := fun k hk => L 207 9 k (by decide) (by decide) (by decide) (by decide) (by decide) hk
  have hsn : ∀ k, k ≤ 6 → 0 ≤ bt_sn (fun g => ((bt_pcn (ζ 7 g).toNat 16 : Nat) : Int)) k ∧ bt_sn (fun g => ((bt_pcn (ζ 7 g).toNat 16 : Nat) : Int)) k ≤ k * 16 := fun k _ => bt_sn_rg k (fun g _ => by
    have := bt_pcn_le (ζ 7 g).toNat 16
    omega)
  have hfp : μ 207 13 = (an_fp ζ' : Int) := by
    unfold an_fp
    rw [eG, c1 7 (by decide) (by decide) (by decide) (by decide)]
    have := (hsn (nG ζ) (by omega)).1
    omega
  refine ⟨⟨⟨⟨⟨?_, by omega⟩, ⟨?_, by omega⟩, ?_, by omega⟩, ⟨?_, ?_, ?_, ?_, ?_, ?_⟩, fun p hp => ?_, fun g hg => ⟨?_, ?_⟩, fun a ha => ?_⟩, ?_, hz'.1⟩, ⟨fun g hg => ⟨?_, ?_⟩, fun a ha => ?_, fun p hp => ?_, fun g hg => ?_⟩, ζ 8, c2, fun k hk => ?_⟩
  · rw [L207 0 (by omega), eP]; exact p1
  · rw [L207 1 (by omega), eG]; exact g1
  · rw [L207 2 (by omega), eA]; exact a1
  · rw [L207 3 (by omega), z0]; exact n1
  · rw [L207 4 (by omega)]; exact hfp
  · rw [L207 5 (by omega), z0]; exact n2
  · rw [L207 6 (by omega), z0]; exact n3
  · rw [L207 7 (by omega), z0]; exact n4
  · rw [L207 8 (by omega), z0]; exact n5
  · rw [L 211 6 p (by decide) (by decide) (by decide) (by decide) (by decide) (by omega), c1 4 (by decide) (by decide) (by decide) (by decide)]; exact (p2 p (by omega)).2
  · rw [L 212 6 g (by decide) (by decide) (by decide) (by decide) (by decide) (by omega), c1 5 (by decide) (by decide) (by decide) (by decide)]; exact (g2 g (by omega)).2.1
  · rw [L 218 6 g (by decide) (by decide) (by decide) (by decide) (by decide) (by omega), c1 7 (by decide) (by decide) (by decide) (by decide)]; exact (g2 g (by omega)).2.2.2.2
  · rw [L 215 5 a (by decide) (by decide) (by decide) (by decide) (by decide) (by omega), c1 6 (by decide) (by decide) (by decide) (by decide)]; exact (a2 a (by omega)).2.1
  · obtain ⟨x0, y0, u1, u2, u3, u4⟩ := l0
    obtain ⟨x1, y1, w1, w2, w3, w4⟩ := l1
    obtain ⟨v1, v2⟩ := e2 0 (by omega) _ _ u1 u2
    obtain ⟨v3, v4⟩ := e2 1 (by omega) _ _ w1 w2
    have L221 : ∀ k, k < 1000 → μ' 221 k = μ 221 (1000 + k) := fun k hk => L 221 1000 k (by decide) (by decide) (by decide) (by decide) (by decide) hk
    refine ⟨x0, y0, x1, y1, ⟨by rw [v1]; omega, by rw [v2]; omega, by rw [v3]; omega, by rw [v4]; omega⟩, ⟨by omega, by omega, by omega, by omega⟩, ?_, ?_⟩
    · rcases u4 with ⟨b1, b2, V, b3, b4, b5⟩ | ⟨b1, b2⟩
      · exact Or.inl ⟨b2, V, b3.sh (fun k k1 k2 => L221 k (by omega)), b4, fun i hi => by rw [c3 i hi, if_pos b1]; exact b5 i hi⟩
      · exact Or.inr ⟨b2, fun i hi => by rw [c3 i hi, if_neg (by rw [b1]; decide)]⟩
    · rcases w4 with ⟨b1, b2, V, b3, b4, b5⟩ | ⟨b1, b2⟩
      · exact Or.inl ⟨b2, V, b3.sh (fun k k1 k2 => L221 k (by omega)), b4, fun i hi => by rw [c4 i hi, if_pos b1]; exact b5 i hi⟩
      · exact Or.inr ⟨b2, fun i hi => by rw [c4 i hi, if_neg (by rw [b1]; decide)]⟩
  · rw [L 214 6 g (by decide) (by decide) (by decide) (by decide) (by decide) (by omega), c1 12 (by decide) (by decide) (by decide) (by decide)]; exact (g2 g (by omega)).2.2.2.1
  · rw [L 213 6 g (by decide) (by decide) (by decide) (by decide) (by decide) (by omega), c1 13 (by decide) (by decide) (by decide) (by decide)]; exact (g2 g (by omega)).2.2.1
  · rw [L 216 5 a (by decide) (by decide) (by decide) (by decide) (by decide) (by omega), c1 14 (by decide) (by decide) (by decide) (by decide)]; exact (a2 a (by omega)).2.2
  · rw [L 208 6 p (by decide) (by decide) (by decide) (by decide) (by decide) (by omega), c1 1 (by decide) (by decide) (by decide) (by decide)]; exact (p2 p (by omega)).1
  · rw [L 209 6 g (by decide) (by decide) (by decide) (by decide) (by decide) (by omega), c1 2 (by decide) (by decide) (by decide) (by decide)]; exact (g2 g (by omega)).1
  · rw [L 217 36 k (by decide) (by decide) (by decide) (by decide) (by decide) hk]
    exact hW k hk
/-- the row that stands is left as it is -/
theorem ri_I.row {Ω : om_O} {μ μ' : Nat → Nat → Int} (h : ri_I Ω μ) (hO : om_ok Ω) (f : ∀ a k, ¬ rr_c a k → a ≠ 205 → 206 ≤ a → a ≤ 260 → μ' a k = μ a k) (h1 : μ' 205 1 = 0) (h54 : μ' 205 54 = μ 205 54) : ri_I (om_em Ω) μ' := by
  obtain ⟨⟨⟨⟨⟨z1, z2⟩, ⟨z3, z4⟩, z5, z6⟩, ⟨z7, z8, z9, z10, z11, z12⟩, z13, z14, z15⟩, ⟨a, b, c, d, ⟨l1, l2, l3, l4⟩, ⟨l5, l6, l7, l8⟩, l9, l10⟩, z16⟩, ⟨t1, t2, t3, t4⟩, ⟨M0, p1, p2⟩, hSS, hM, hKK, hU, htp⟩ := h
  have f7 : ∀ k, k < 9 → μ' 207 k = μ 207 k := fun k hk => f 207 k (by unfold rr_c; omega) (by decide) (by decide) (by decide)
  have fa : ∀ a, 206 ≤ a → a ≤ 206 ∨ 224 ≤ a → a ≤ 260 → μ' a = μ a := fun a h1 h2 h3 => by funext k; exact f a k (by unfold rr_c; omega) (by omega) h1 h3
  have cdE : ∀ x, x < 1000 → μ' 221 x = μ 221 x := fun x hx => f 221 x (by unfold rr_c; omega) (by decide) (by decide) (by decide)
  refine ⟨⟨⟨⟨⟨by rw [f7 0 (by omega)]; exact z1, z2⟩, ⟨by rw [f7 1 (by omega)]; exact z3, z4⟩, by rw [f7 2 (by omega)]; exact z5, z6⟩, ⟨by rw [f7 3 (by omega)]; exact z7, by rw [f7 4 (by omega)]; exact z8, by rw [f7 5 (by omega)]; exact z9, by rw [f7 6 (by omega)]; exact z10, by rw [f7 7 (by omega)]; exact z11, by rw [f7 8 (by omega)]; exact z12⟩, fun p hp => ?_, fun g hg => ⟨?_, ?_⟩, fun a ha => ?_⟩, ⟨a, b, c, d, ⟨?_, ?_, ?_, ?_⟩, ⟨l5, l6, l7, l8⟩, ?_, ?_⟩, z16⟩, ⟨fun g hg => ⟨?_, ?_⟩, fun a ha => ?_, fun p hp => ?_, fun g hg => ?_⟩, ⟨M0, p1, fun k hk => ?_⟩, ?_, ?_, fun i hi => ?_, ⟨?_, ?_⟩, ?_, fun i hi => ?_⟩
  · rw [f 211 p (by unfold rr_c; have : p < nP Ω.1 := hp; omega) (by decide) (by decide) (by decide)]; exact z13 p hp
  · rw [f 212 g (by unfold rr_c; have : g < nG Ω.1 := hg; omega) (by decide) (by decide) (by decide)]; exact (z14 g hg).1
  · rw [f 218 g (by unfold rr_c; have : g < nG Ω.1 := hg; omega) (by decide) (by decide) (by decide)]; exact (z14 g hg).2
  · rw [f 215 a (by unfold rr_c; have : a < nA Ω.1 := ha; omega) (by decide) (by decide) (by decide)]; exact z15 a ha
  · rw [f 219 0 (by unfold rr_c; omega) (by decide) (by decide) (by decide)]; exact l1
  · rw [f 220 0 (by unfold rr_c; omega) (by decide) (by decide) (by decide)]; exact l2
  · rw [f 219 1 (by unfold rr_c; omega) (by decide) (by decide) (by decide)]; exact l3
  · rw [f 220 1 (by unfold rr_c; omega) (by decide) (by decide) (by decide)]; exact l4
  · rcases l9 with ⟨q1, V, q2, q3⟩ | q
    · exact Or.inl ⟨q1, V, q2.cg (fun x h1 h2 => cdE x (by omega)), q3⟩
    · exact Or.inr q
  · rcases l10 with ⟨q1, V, q2, q3⟩ | q
    · exact Or.inl ⟨q1, V, q2.cg (fun x h1 h2 => cdE x (by omega)), q3⟩
    · exact Or.inr q
  · rw [f 214 g (by unfold rr_c; dsimp only [om_em] at hg; omega) (by decide) (by decide) (by decide)]; exact (t1 g hg).1
  · rw [f 213 g (by unfold rr_c; dsimp only [om_em] at hg; omega) (by decide) (by decide) (by decide)]; exact (t1 g hg).2
  · rw [f 216 a (by unfold rr_c; dsimp only [om_em] at ha; omega) (by decide) (by decide) (by decide)]; exact t2 a ha
  · rw [f 208 p (by unfold rr_c; dsimp only [om_em] at hp; omega) (by decide) (by decide) (by decide)]; exact t3 p hp
  · rw [f 209 g (by unfold rr_c; dsimp only [om_em] at hg; omega) (by decide) (by decide) (by decide)]; exact t4 g hg
  · rw [f 217 k (by unfold rr_c; omega) (by decide) (by decide) (by decide)]; exact p2 k hk
  · rw [fa 240 (by omega) (by omega) (by omega)]; exact hSS
  · exact hM.fr (fun a h1 h2 => fa a (by omega) (by omega) (by omega))
  · exact (hKK i hi).fr (fun a h1 h2 => fa a (by omega) (by omega) (by omega)) (fa 243 (by omega) (by omega) (by omega)) (fa 245 (by omega) (by omega) (by omega))
  · rw [h54]; exact hU.1
  · rw [fa 244 (by omega) (by omega) (by omega)]; exact hU.2
  · exact h1
  · exact absurd hi (Nat.not_lt_zero i)
def SpX11_zoo : bt_Sp := fun As w Q => ∃ (ρ : Nat → Nat → Option Nat) (μ : Nat → Nat → Int) (Ω : om_O) (ζ0 : Nat → Nat → Int) (R : Int × (Nat → Nat → Int)), As = [.inr (.inr 205)] ∧ w = bt_wd ρ μ ∧ bt_Rf ρ ∧ ri_I Ω μ ∧ om_ok Ω ∧ rz_clr ζ0 ∧ rz_all Ω.2.2.2.2.2 Ω.2.2.2.2.1 1001 ζ0 (zo_c0 Ω) = R ∧ ∀ μ', (R.1 = 0 → ∀ ζ', rz_cl ζ' 0 R.2 → rz_K R.2 → ri_I (om_zo Ω ζ') μ') → (R.1 ≠ 0 → ri_I (om_em Ω) μ') → bt_fr ri_in μ' μ → μ' 205 0 = 0 → Q (some (.inl R.1)) (bt_wd ρ μ')
def iX11_zoo (ρ : Nat → Nat → Option Nat) (μ : Nat → Nat → Int) (Ω : om_O) (Z : Nat → Nat → Int) (m : Nat) : bt_K := fun st L w => st = [] ∧ ∃ (μ1 : Nat → Nat → Int) (i : Nat), w = bt_wd ρ μ1 ∧ L = [some (.inr (.inr 205)), some (.inl (i : Int))] ∧ i ≤ 4 ∧ m = 4 - i ∧ (∀ k, k < i → μ1 245 k = 0) ∧ bt_fr ri_in μ1 μ ∧ μ1 205 0 = 0 ∧ ∀ μ2, (∀ a, a ≠ 245 → μ2 a = μ1 a) → (∀ k, k < 4 → μ2 245 k = 0) → ∀ ζ', rz_cl ζ' 0 Z → rz_K Z → ri_I (om_zo Ω ζ') μ2
set_option maxHeartbeats 4000000 in
theorem mtX11_zoo : bt_Met yX11_zoo cX11_zoo 2 (some .int) 7 [2] SpX11_zoo := by
  refine lpX11_zoo mtX11_readsAll (by decide) mtX11_lays (by decide) mtX11_fresh (by decide) mtX11_forgets (by decide) _ (fun As w Q _ hS => ?_)
  obtain ⟨ρ, μ, Ω, ζ0, R, rfl, rfl, hρ, hI, hO, hz0, hR, hQ⟩ := hS
  have hb0 : bo_bool 0 = 0 := by decide
  refine ⟨fun _ m => if R.1 = 0 then iX11_zoo ρ μ Ω R.2 m else fun _ _ _ => False, ?_, ?_⟩
  · have hI0 := ri_t0 hI
    obtain ⟨hZ, hTT, hP, hSS, hM, hKK, hU, htp⟩ := id hI0
    simp (disch := omega) only [↓tX11_zoo_0, ↓fq_ild0, ↓fq_ald0, ↓fq_lld0, ↓fq_inc0, ↓fq_ist0, ↓fq_lst0, ↓fq_nl0, ↓fq_ild1, ↓fq_ald1, ↓fq_lld1, ↓fq_inc1, ↓fq_ist1, ↓fq_lst1, ↓fq_nli1, ↓fq_nlr1, ↓fq_nln1, ↓fq_ild2, ↓fq_ald2, ↓fq_lld2, ↓fq_inc2, ↓fq_ist2, ↓fq_lst2, ↓fq_nli2, ↓fq_nlr2, ↓fq_nln2, ↓fq_ild3, ↓fq_ald3, ↓fq_lld3, ↓fq_inc3, ↓fq_ist3, ↓fq_lst3, ↓fq_nli3, ↓fq_nlr3, ↓fq_nln3, ↓fq_ild4, ↓fq_ald4, ↓fq_lld4, ↓fq_inc4, ↓fq_ist4, ↓fq_lst4, ↓fq_nli4, ↓fq_nlr4, ↓fq_nln4, ↓fq_ild5, ↓fq_ald5, ↓fq_lld5, ↓fq_inc5, ↓fq_ist5, ↓fq_lst5, ↓fq_nli5, ↓fq_nlr5, ↓fq_nln5, ↓fq_ild6, ↓fq_ald6, ↓fq_lld6, ↓fq_inc6, ↓fq_ist6, ↓fq_lst6, ↓fq_nli6, ↓fq_nlr6, ↓fq_nln6, ↓fq_ild7, ↓fq_ald7, ↓fq_lld7, ↓fq_inc7, ↓fq_ist7, ↓fq_lst7, ↓fq_nli7, ↓fq_nlr7, ↓fq_nln7, ↓fq_ild8, ↓fq_ald8, ↓fq_lld8, ↓fq_inc8, ↓fq_ist8, ↓fq_lst8, ↓fq_nli8, ↓fq_nlr8, ↓fq_nln8, ↓fq_ild9, ↓fq_ald9, ↓fq_lld9, ↓fq_inc9, ↓fq_ist9, ↓fq_lst9, ↓fq_nli9, ↓fq_nlr9, ↓fq_nln9, ↓fq_ild10, ↓fq_ald10, ↓fq_lld10, ↓fq_inc10, ↓fq_ist10, ↓fq_lst10, ↓fq_nli10, ↓fq_nlr10, ↓fq_nln10, ↓fq_iadd, ↓fq_isub, ↓fq_imul, ↓fq_iand, ↓fq_ior, ↓fq_ixor, ↓fq_ishl, ↓fq_ishr, ↓fq_iushr, ↓fq_ladd, ↓fq_lsub, ↓fq_lmul, ↓fq_land, ↓fq_lor, ↓fq_lushr, ↓fq_lshl, ↓fq_lcmp, ↓fq_i2l, ↓fq_l2i, ↓fq_idiv, ↓fq_irem, ↓fq_ldiv, ↓fq_lrem, ↓fq_ic, ↓fq_lc, ↓fq_dupi, ↓fq_dupr, ↓fq_dup2, ↓fq_popi, ↓fq_mmin, ↓fq_mmax, ↓fq_can, ↓fq_icmpeq, ↓fq_icmpne, ↓fq_icmplt, ↓fq_icmpge, ↓fq_icmpgt, ↓fq_icmple, ↓fq_ifeq, ↓fq_ifne, ↓fq_iflt, ↓fq_ifge, ↓fq_ifgt, ↓fq_ifle, ↓fq_iret, ↓fq_zret, ↓fq_lret, ↓fq_vret, ↓fq_rets, ↓fq_retn, ↓fq_kill, ↓fq_gfI, ↓fq_gfJ, ↓fq_pfI, ↓fq_pfJ, ↓fl_206, ↓fs_206, ↓fl_207, ↓fs_207, ↓fl_208, ↓fs_208, ↓fl_209, ↓fs_209, ↓fl_210, ↓fs_210, ↓fl_211, ↓fs_211, ↓fl_212, ↓fs_212, ↓fl_213, ↓fs_213, ↓fl_214, ↓fs_214, ↓fl_215, ↓fs_215, ↓fl_216, ↓fs_216, ↓fl_217, ↓fs_217, ↓fl_218, ↓fs_218, ↓fl_219, ↓fs_219, ↓fl_220, ↓fs_220, ↓fl_221, ↓fs_221, ↓fl_222, ↓fs_222, ↓fl_223, ↓fs_223, ↓fl_224, ↓fs_224, ↓fl_225, ↓fs_225, ↓fl_226, ↓fs_226, ↓fl_227, ↓fs_227, ↓fl_228, ↓fs_228, ↓fl_229, ↓fs_229, ↓fl_230, ↓fs_230, ↓fl_231, ↓fs_231, ↓fl_232, ↓fs_232, ↓fl_233, ↓fs_233, ↓fl_234, ↓fs_234, ↓fl_235, ↓fs_235, ↓fl_236, ↓fs_236, ↓fl_237, ↓fs_237, ↓fl_238, ↓fs_238, ↓fl_239, ↓fs_239, ↓fl_240, ↓fs_240, ↓fl_241, ↓fs_241, ↓fl_242, ↓fs_242, ↓fl_243, ↓fs_243, ↓fl_244, ↓fs_244, ↓fl_245, ↓fs_245, ↓fl_246, ↓fs_246, ↓fl_247, ↓fs_247, ↓fl_248, ↓fs_248, ↓fl_249, ↓fs_249, ↓fl_250, ↓fs_250, ↓fl_251, ↓fs_251, ↓fl_252, ↓fs_252, ↓fl_253, ↓fs_253, ↓fl_254, ↓fs_254, ↓fl_255, ↓fs_255, ↓fl_256, ↓fs_256, ↓fl_257, ↓fs_257, ↓fl_258, ↓fs_258, ↓fl_259, ↓fs_259, ↓fl_260, ↓fs_260, ↓fc_v0, ↓fc_v1, ↓fc_v2, ↓fc_v3, ↓fc_v4, ↓fc_v5, ↓fc_v6, ↓fc_s0, ↓fc_s1, ↓fc_s2, ↓fc_s3, ↓fc_s4, ↓fc_s5, ↓fq_len0, ↓fq_len1, ↓fq_len2, ↓fq_len3, ↓fq_len4, ↓fg_2 hρ, ↓fg_10 hρ, ↓fg_11 hρ, ↓fg_12 hρ, ↓fg_13 hρ, ↓fg_14 hρ, ↓fg_15 hρ, ↓fg_16 hρ, ↓fg_17 hρ, ↓fg_18 hρ, ↓fg_19 hρ, ↓fg_20 hρ, ↓fg_21 hρ, ↓fg_22 hρ, ↓fg_23 hρ, ↓fg_24 hρ, ↓fg_28 hρ, ↓fg_29 hρ, ↓fg_30 hρ, ↓fg_31 hρ, ↓fg_32 hρ, ↓fg_33 hρ, ↓fg_34 hρ, ↓fg_35 hρ, ↓fg_36 hρ, ↓fg_37 hρ, ↓fg_38 hρ, ↓fg_39 hρ, ↓fg_42 hρ, ↓fg_43 hρ, ↓fg_44 hρ, ↓fg_45 hρ, ↓fg_46 hρ, ↓fg_47 hρ, ↓fg_48 hρ, ↓fg_49 hρ, ↓fg_50 hρ, ↓fg_51 hρ, ↓fg_52 hρ, ↓fg_53 hρ, ↓fg_55 hρ, ↓fg_56 hρ, ↓fg_57 hρ, ↓fg_58 hρ, ↓fg_59 hρ, ↓fg_60 hρ, ↓fg_61 hρ, ↓fg_62 hρ, ↓fg_63 hρ, ↓fg_66 hρ, ↓fg_67 hρ, ↓fg_68 hρ, ↓fg_70 hρ, ↓fg_71 hρ, ↓fg_72 hρ, bt_loc, bt_locs, bt_kl, List.set_cons_zero, List.set_cons_succ, List.replicate_succ, List.replicate_zero, List.cons_append, List.nil_append, List.append_nil, List.length_cons, List.length_nil, Nat.reduceAdd, Nat.reduceSub, true_and, and_true, Nat.zero_add, Int.toNat_natCast, Int.reduceToNat, ↓reduceIte]
    refine ⟨ρ, _, Ω.2.2.2.2.2, Ω.2.2.2.2.1, ζ0, R, rfl, rfl, hρ, htp, hO.2.2.2.2.1, hO.2.2.2.2.2, hz0, hR, fun h0 μ1 g1 g2 f1 => ?_, fun h0 μ1 hE hK g2 f1 => ?_⟩
    · simp (disch := omega) only [↓fq_ild0, ↓fq_ald0, ↓fq_lld0, ↓fq_inc0, ↓fq_ist0, ↓fq_lst0, ↓fq_nl0, ↓fq_ild1, ↓fq_ald1, ↓fq_lld1, ↓fq_inc1, ↓fq_ist1, ↓fq_lst1, ↓fq_nli1, ↓fq_nlr1, ↓fq_nln1, ↓fq_ild2, ↓fq_ald2, ↓fq_lld2, ↓fq_inc2, ↓fq_ist2, ↓fq_lst2, ↓fq_nli2, ↓fq_nlr2, ↓fq_nln2, ↓fq_ild3, ↓fq_ald3, ↓fq_lld3, ↓fq_inc3, ↓fq_ist3, ↓fq_lst3, ↓fq_nli3, ↓fq_nlr3, ↓fq_nln3, ↓fq_ild4, ↓fq_ald4, ↓fq_lld4, ↓fq_inc4, ↓fq_ist4, ↓fq_lst4, ↓fq_nli4, ↓fq_nlr4, ↓fq_nln4, ↓fq_ild5, ↓fq_ald5, ↓fq_lld5, ↓fq_inc5, ↓fq_ist5, ↓fq_lst5, ↓fq_nli5, ↓fq_nlr5, ↓fq_nln5, ↓fq_ild6, ↓fq_ald6, ↓fq_lld6, ↓fq_inc6, ↓fq_ist6, ↓fq_lst6, ↓fq_nli6, ↓fq_nlr6, ↓fq_nln6, ↓fq_ild7, ↓fq_ald7, ↓fq_lld7, ↓fq_inc7, ↓fq_ist7, ↓fq_lst7, ↓fq_nli7, ↓fq_nlr7, ↓fq_nln7, ↓fq_ild8, ↓fq_ald8, ↓fq_lld8, ↓fq_inc8, ↓fq_ist8, ↓fq_lst8, ↓fq_nli8, ↓fq_nlr8, ↓fq_nln8, ↓fq_ild9, ↓fq_ald9, ↓fq_lld9, ↓fq_inc9, ↓fq_ist9, ↓fq_lst9, ↓fq_nli9, ↓fq_nlr9, ↓fq_nln9, ↓fq_ild10, ↓fq_ald10, ↓fq_lld10, ↓fq_inc10, ↓fq_ist10, ↓fq_lst10, ↓fq_nli10, ↓fq_nlr10, ↓fq_nln10, ↓fq_iadd, ↓fq_isub, ↓fq_imul, ↓fq_iand, ↓fq_ior, ↓fq_ixor, ↓fq_ishl, ↓fq_ishr, ↓fq_iushr, ↓fq_ladd, ↓fq_lsub, ↓fq_lmul, ↓fq_land, ↓fq_lor, ↓fq_lushr, ↓fq_lshl, ↓fq_lcmp, ↓fq_i2l, ↓fq_l2i, ↓fq_idiv, ↓fq_irem, ↓fq_ldiv, ↓fq_lrem, ↓fq_ic, ↓fq_lc, ↓fq_dupi, ↓fq_dupr, ↓fq_dup2, ↓fq_popi, ↓fq_mmin, ↓fq_mmax, ↓fq_can, ↓fq_icmpeq, ↓fq_icmpne, ↓fq_icmplt, ↓fq_icmpge, ↓fq_icmpgt, ↓fq_icmple, ↓fq_ifeq, ↓fq_ifne, ↓fq_iflt, ↓fq_ifge, ↓fq_ifgt, ↓fq_ifle, ↓fq_iret, ↓fq_zret, ↓fq_lret, ↓fq_vret, ↓fq_rets, ↓fq_retn, ↓fq_kill, ↓fq_gfI, ↓fq_gfJ, ↓fq_pfI, ↓fq_pfJ, ↓fl_206, ↓fs_206, ↓fl_207, ↓fs_207, ↓fl_208, ↓fs_208, ↓fl_209, ↓fs_209, ↓fl_210, ↓fs_210, ↓fl_211, ↓fs_211, ↓fl_212, ↓fs_212, ↓fl_213, ↓fs_213, ↓fl_214, ↓fs_214, ↓fl_215, ↓fs_215, ↓fl_216, ↓fs_216, ↓fl_217, ↓fs_217, ↓fl_218, ↓fs_218, ↓fl_219, ↓fs_219, ↓fl_220, ↓fs_220, ↓fl_221, ↓fs_221, ↓fl_222, ↓fs_222, ↓fl_223, ↓fs_223, ↓fl_224, ↓fs_224, ↓fl_225, ↓fs_225, ↓fl_226, ↓fs_226, ↓fl_227, ↓fs_227, ↓fl_228, ↓fs_228, ↓fl_229, ↓fs_229, ↓fl_230, ↓fs_230, ↓fl_231, ↓fs_231, ↓fl_232, ↓fs_232, ↓fl_233, ↓fs_233, ↓fl_234, ↓fs_234, ↓fl_235, ↓fs_235, ↓fl_236, ↓fs_236, ↓fl_237, ↓fs_237, ↓fl_238, ↓fs_238, ↓fl_239, ↓fs_239, ↓fl_240, ↓fs_240, ↓fl_241, ↓fs_241, ↓fl_242, ↓fs_242, ↓fl_243, ↓fs_243, ↓fl_244, ↓fs_244, ↓fl_245, ↓fs_245, ↓fl_246, ↓fs_246, ↓fl_247, ↓fs_247, ↓fl_248, ↓fs_248, ↓fl_249, ↓fs_249, ↓fl_250, ↓fs_250, ↓fl_251, ↓fs_251, ↓fl_252, ↓fs_252, ↓fl_253, ↓fs_253, ↓fl_254, ↓fs_254, ↓fl_255, ↓fs_255, ↓fl_256, ↓fs_256, ↓fl_257, ↓fs_257, ↓fl_258, ↓fs_258, ↓fl_259, ↓fs_259, ↓fl_260, ↓fs_260, ↓fc_v0, ↓fc_v1, ↓fc_v2, ↓fc_v3, ↓fc_v4, ↓fc_v5, ↓fc_v6, ↓fc_s0, ↓fc_s1, ↓fc_s2, ↓fc_s3, ↓fc_s4, ↓fc_s5, ↓fq_len0, ↓fq_len1, ↓fq_len2, ↓fq_len3, ↓fq_len4, ↓fg_2 hρ, ↓fg_10 hρ, ↓fg_11 hρ, ↓fg_12 hρ, ↓fg_13 hρ, ↓fg_14 hρ, ↓fg_15 hρ, ↓fg_16 hρ, ↓fg_17 hρ, ↓fg_18 hρ, ↓fg_19 hρ, ↓fg_20 hρ, ↓fg_21 hρ, ↓fg_22 hρ, ↓fg_23 hρ, ↓fg_24 hρ, ↓fg_28 hρ, ↓fg_29 hρ, ↓fg_30 hρ, ↓fg_31 hρ, ↓fg_32 hρ, ↓fg_33 hρ, ↓fg_34 hρ, ↓fg_35 hρ, ↓fg_36 hρ, ↓fg_37 hρ, ↓fg_38 hρ, ↓fg_39 hρ, ↓fg_42 hρ, ↓fg_43 hρ, ↓fg_44 hρ, ↓fg_45 hρ, ↓fg_46 hρ, ↓fg_47 hρ, ↓fg_48 hρ, ↓fg_49 hρ, ↓fg_50 hρ, ↓fg_51 hρ, ↓fg_52 hρ, ↓fg_53 hρ, ↓fg_55 hρ, ↓fg_56 hρ, ↓fg_57 hρ, ↓fg_58 hρ, ↓fg_59 hρ, ↓fg_60 hρ, ↓fg_61 hρ, ↓fg_62 hρ, ↓fg_63 hρ, ↓fg_66 hρ, ↓fg_67 hρ, ↓fg_68 hρ, ↓fg_70 hρ, ↓fg_71 hρ, ↓fg_72 hρ, bt_loc, bt_locs, bt_kl, List.set_cons_zero, List.set_cons_succ, List.replicate_succ, List.replicate_zero, List.cons_append, List.nil_append, List.append_nil, List.length_cons, List.length_nil, Nat.reduceAdd, Nat.reduceSub, true_and, and_true, Nat.zero_add, Int.toNat_natCast, Int.reduceToNat, ↓reduceIte, bt_w_id, Int.reduceEq, g1]
      have fc : ∀ a k, ¬ rr_c a k → a ≠ 205 → μ1 a k = μ a k := fun a k h1 h2 => by rw [f1 a k h1 (fun q => h2 q.1), bt_up_cell h2]
      have f00 : μ1 205 0 = 0 := by rw [f1 205 0 (by unfold rr_c; omega) (by omega), bt_up_same]
      refine hQ μ1 (fun q => absurd q h0) (fun _ => ?_) (fun a ha => ?_) f00
      · exact hI.row hO (fun a k h1 h2 _ _ => fc a k h1 h2) g2 (by rw [f1 205 54 (by unfold rr_c; omega) (by omega), bt_up_ix (by decide)])
      · funext k
        unfold ri_in at ha
        exact fc a k (by unfold rr_c; omega) (by omega)
    · simp (disch := omega) only [↓fq_ild0, ↓fq_ald0, ↓fq_lld0, ↓fq_inc0, ↓fq_ist0, ↓fq_lst0, ↓fq_nl0, ↓fq_ild1, ↓fq_ald1, ↓fq_lld1, ↓fq_inc1, ↓fq_ist1, ↓fq_lst1, ↓fq_nli1, ↓fq_nlr1, ↓fq_nln1, ↓fq_ild2, ↓fq_ald2, ↓fq_lld2, ↓fq_inc2, ↓fq_ist2, ↓fq_lst2, ↓fq_nli2, ↓fq_nlr2, ↓fq_nln2, ↓fq_ild3, ↓fq_ald3, ↓fq_lld3, ↓fq_inc3, ↓fq_ist3, ↓fq_lst3, ↓fq_nli3, ↓fq_nlr3, ↓fq_nln3, ↓fq_ild4, ↓fq_ald4, ↓fq_lld4, ↓fq_inc4, ↓fq_ist4, ↓fq_lst4, ↓fq_nli4, ↓fq_nlr4, ↓fq_nln4, ↓fq_ild5, ↓fq_ald5, ↓fq_lld5, ↓fq_inc5, ↓fq_ist5, ↓fq_lst5, ↓fq_nli5, ↓fq_nlr5, ↓fq_nln5, ↓fq_ild6, ↓fq_ald6, ↓fq_lld6, ↓fq_inc6, ↓fq_ist6, ↓fq_lst6, ↓fq_nli6, ↓fq_nlr6, ↓fq_nln6, ↓fq_ild7, ↓fq_ald7, ↓fq_lld7, ↓fq_inc7, ↓fq_ist7, ↓fq_lst7, ↓fq_nli7, ↓fq_nlr7, ↓fq_nln7, ↓fq_ild8, ↓fq_ald8, ↓fq_lld8, ↓fq_inc8, ↓fq_ist8, ↓fq_lst8, ↓fq_nli8, ↓fq_nlr8, ↓fq_nln8, ↓fq_ild9, ↓fq_ald9, ↓fq_lld9, ↓fq_inc9, ↓fq_ist9, ↓fq_lst9, ↓fq_nli9, ↓fq_nlr9, ↓fq_nln9, ↓fq_ild10, ↓fq_ald10, ↓fq_lld10, ↓fq_inc10, ↓fq_ist10, ↓fq_lst10, ↓fq_nli10, ↓fq_nlr10, ↓fq_nln10, ↓fq_iadd, ↓fq_isub, ↓fq_imul, ↓fq_iand, ↓fq_ior, ↓fq_ixor, ↓fq_ishl, ↓fq_ishr, ↓fq_iushr, ↓fq_ladd, ↓fq_lsub, ↓fq_lmul, ↓fq_land, ↓fq_lor, ↓fq_lushr, ↓fq_lshl, ↓fq_lcmp, ↓fq_i2l, ↓fq_l2i, ↓fq_idiv, ↓fq_irem, ↓fq_ldiv, ↓fq_lrem, ↓fq_ic, ↓fq_lc, ↓fq_dupi, ↓fq_dupr, ↓fq_dup2, ↓fq_popi, ↓fq_mmin, ↓fq_mmax, ↓fq_can, ↓fq_icmpeq, ↓fq_icmpne, ↓fq_icmplt, ↓fq_icmpge, ↓fq_icmpgt, ↓fq_icmple, ↓fq_ifeq, ↓fq_ifne, ↓fq_iflt, ↓fq_ifge, ↓fq_ifgt, ↓fq_ifle, ↓fq_iret, ↓fq_zret, ↓fq_lret, ↓fq_vret, ↓fq_rets, ↓fq_retn, ↓fq_kill, ↓fq_gfI, ↓fq_gfJ, ↓fq_pfI, ↓fq_pfJ, ↓fl_206, ↓fs_206, ↓fl_207, ↓fs_207, ↓fl_208, ↓fs_208, ↓fl_209, ↓fs_209, ↓fl_210, ↓fs_210, ↓fl_211, ↓fs_211, ↓fl_212, ↓fs_212, ↓fl_213, ↓fs_213, ↓fl_214, ↓fs_214, ↓fl_215, ↓fs_215, ↓fl_216, ↓fs_216, ↓fl_217, ↓fs_217, ↓fl_218, ↓fs_218, ↓fl_219, ↓fs_219, ↓fl_220, ↓fs_220, ↓fl_221, ↓fs_221, ↓fl_222, ↓fs_222, ↓fl_223, ↓fs_223, ↓fl_224, ↓fs_224, ↓fl_225, ↓fs_225, ↓fl_226, ↓fs_226, ↓fl_227, ↓fs_227, ↓fl_228, ↓fs_228, ↓fl_229, ↓fs_229, ↓fl_230, ↓fs_230, ↓fl_231, ↓fs_231, ↓fl_232, ↓fs_232, ↓fl_233, ↓fs_233, ↓fl_234, ↓fs_234, ↓fl_235, ↓fs_235, ↓fl_236, ↓fs_236, ↓fl_237, ↓fs_237, ↓fl_238, ↓fs_238, ↓fl_239, ↓fs_239, ↓fl_240, ↓fs_240, ↓fl_241, ↓fs_241, ↓fl_242, ↓fs_242, ↓fl_243, ↓fs_243, ↓fl_244, ↓fs_244, ↓fl_245, ↓fs_245, ↓fl_246, ↓fs_246, ↓fl_247, ↓fs_247, ↓fl_248, ↓fs_248, ↓fl_249, ↓fs_249, ↓fl_250, ↓fs_250, ↓fl_251, ↓fs_251, ↓fl_252, ↓fs_252, ↓fl_253, ↓fs_253, ↓fl_254, ↓fs_254, ↓fl_255, ↓fs_255, ↓fl_256, ↓fs_256, ↓fl_257, ↓fs_257, ↓fl_258, ↓fs_258, ↓fl_259, ↓fs_259, ↓fl_260, ↓fs_260, ↓fc_v0, ↓fc_v1, ↓fc_v2, ↓fc_v3, ↓fc_v4, ↓fc_v5, ↓fc_v6, ↓fc_s0, ↓fc_s1, ↓fc_s2, ↓fc_s3, ↓fc_s4, ↓fc_s5, ↓fq_len0, ↓fq_len1, ↓fq_len2, ↓fq_len3, ↓fq_len4, ↓fg_2 hρ, ↓fg_10 hρ, ↓fg_11 hρ, ↓fg_12 hρ, ↓fg_13 hρ, ↓fg_14 hρ, ↓fg_15 hρ, ↓fg_16 hρ, ↓fg_17 hρ, ↓fg_18 hρ, ↓fg_19 hρ, ↓fg_20 hρ, ↓fg_21 hρ, ↓fg_22 hρ, ↓fg_23 hρ, ↓fg_24 hρ, ↓fg_28 hρ, ↓fg_29 hρ, ↓fg_30 hρ, ↓fg_31 hρ, ↓fg_32 hρ, ↓fg_33 hρ, ↓fg_34 hρ, ↓fg_35 hρ, ↓fg_36 hρ, ↓fg_37 hρ, ↓fg_38 hρ, ↓fg_39 hρ, ↓fg_42 hρ, ↓fg_43 hρ, ↓fg_44 hρ, ↓fg_45 hρ, ↓fg_46 hρ, ↓fg_47 hρ, ↓fg_48 hρ, ↓fg_49 hρ, ↓fg_50 hρ, ↓fg_51 hρ, ↓fg_52 hρ, ↓fg_53 hρ, ↓fg_55 hρ, ↓fg_56 hρ, ↓fg_57 hρ, ↓fg_58 hρ, ↓fg_59 hρ, ↓fg_60 hρ, ↓fg_61 hρ, ↓fg_62 hρ, ↓fg_63 hρ, ↓fg_66 hρ, ↓fg_67 hρ, ↓fg_68 hρ, ↓fg_70 hρ, ↓fg_71 hρ, ↓fg_72 hρ, bt_loc, bt_locs, bt_kl, List.set_cons_zero, List.set_cons_succ, List.replicate_succ, List.replicate_zero, List.cons_append, List.nil_append, List.append_nil, List.length_cons, List.length_nil, Nat.reduceAdd, Nat.reduceSub, true_and, and_true, Nat.zero_add, Int.toNat_natCast, Int.reduceToNat, ↓reduceIte, bt_w_id, Int.reduceEq]
      have hn := hK.1.1.n
      obtain ⟨x0, y0, u1, u2, u3, u4⟩ := id hE.2.2.2.2.2.choose_spec.2.2.1
      obtain ⟨x1, y1, w1, w2, w3, w4⟩ := id hE.2.2.2.2.2.choose_spec.2.2.2
      have hs1 := hE.2.2.2.2.2.choose_spec.2.1
      have ux : x0 ≤ y0 := by rcases u4 with ⟨-, q, -⟩ | ⟨-, q⟩ <;> omega
      have wx : x1 ≤ y1 := by rcases w4 with ⟨-, q, -⟩ | ⟨-, q⟩ <;> omega
      refine ⟨ρ, μ1, fun i l => if i = 0 then (if l = 0 then 1000 + x0 else 1000 + x1) else (if l = 0 then 1000 + y0 else 1000 + y1), rfl, rfl, hρ, fun l hl => ?_, fun μ2 k1 k2 => ?_⟩
      · have hl' : l = 0 ∨ l = 1 := by omega
        rcases hl' with rfl | rfl
        · exact ⟨u1, u2, by simp; omega, by simp; omega⟩
        · exact ⟨w1, w2, by simp; omega, by simp; omega⟩
      have k20 : μ2 207 1 = (nG R.2 : Int) := by
        rw [k1 207 (by decide) (by decide)]
        exact (rls_at (n := 9) (by decide) (by decide)).trans hE.1.2.1.1
      have k21 : μ2 207 2 = (nA R.2 : Int) := by
        rw [k1 207 (by decide) (by decide)]
        exact (rls_at (n := 9) (by decide) (by decide)).trans hE.1.2.2.1
      simp (disch := omega) only [↓fq_ild0, ↓fq_ald0, ↓fq_lld0, ↓fq_inc0, ↓fq_ist0, ↓fq_lst0, ↓fq_nl0, ↓fq_ild1, ↓fq_ald1, ↓fq_lld1, ↓fq_inc1, ↓fq_ist1, ↓fq_lst1, ↓fq_nli1, ↓fq_nlr1, ↓fq_nln1, ↓fq_ild2, ↓fq_ald2, ↓fq_lld2, ↓fq_inc2, ↓fq_ist2, ↓fq_lst2, ↓fq_nli2, ↓fq_nlr2, ↓fq_nln2, ↓fq_ild3, ↓fq_ald3, ↓fq_lld3, ↓fq_inc3, ↓fq_ist3, ↓fq_lst3, ↓fq_nli3, ↓fq_nlr3, ↓fq_nln3, ↓fq_ild4, ↓fq_ald4, ↓fq_lld4, ↓fq_inc4, ↓fq_ist4, ↓fq_lst4, ↓fq_nli4, ↓fq_nlr4, ↓fq_nln4, ↓fq_ild5, ↓fq_ald5, ↓fq_lld5, ↓fq_inc5, ↓fq_ist5, ↓fq_lst5, ↓fq_nli5, ↓fq_nlr5, ↓fq_nln5, ↓fq_ild6, ↓fq_ald6, ↓fq_lld6, ↓fq_inc6, ↓fq_ist6, ↓fq_lst6, ↓fq_nli6, ↓fq_nlr6, ↓fq_nln6, ↓fq_ild7, ↓fq_ald7, ↓fq_lld7, ↓fq_inc7, ↓fq_ist7, ↓fq_lst7, ↓fq_nli7, ↓fq_nlr7, ↓fq_nln7, ↓fq_ild8, ↓fq_ald8, ↓fq_lld8, ↓fq_inc8, ↓fq_ist8, ↓fq_lst8, ↓fq_nli8, ↓fq_nlr8, ↓fq_nln8, ↓fq_ild9, ↓fq_ald9, ↓fq_lld9, ↓fq_inc9, ↓fq_ist9, ↓fq_lst9, ↓fq_nli9, ↓fq_nlr9, ↓fq_nln9, ↓fq_ild10, ↓fq_ald10, ↓fq_lld10, ↓fq_inc10, ↓fq_ist10, ↓fq_lst10, ↓fq_nli10, ↓fq_nlr10, ↓fq_nln10, ↓fq_iadd, ↓fq_isub, ↓fq_imul, ↓fq_iand, ↓fq_ior, ↓fq_ixor, ↓fq_ishl, ↓fq_ishr, ↓fq_iushr, ↓fq_ladd, ↓fq_lsub, ↓fq_lmul, ↓fq_land, ↓fq_lor, ↓fq_lushr, ↓fq_lshl, ↓fq_lcmp, ↓fq_i2l, ↓fq_l2i, ↓fq_idiv, ↓fq_irem, ↓fq_ldiv, ↓fq_lrem, ↓fq_ic, ↓fq_lc, ↓fq_dupi, ↓fq_dupr, ↓fq_dup2, ↓fq_popi, ↓fq_mmin, ↓fq_mmax, ↓fq_can, ↓fq_icmpeq, ↓fq_icmpne, ↓fq_icmplt, ↓fq_icmpge, ↓fq_icmpgt, ↓fq_icmple, ↓fq_ifeq, ↓fq_ifne, ↓fq_iflt, ↓fq_ifge, ↓fq_ifgt, ↓fq_ifle, ↓fq_iret, ↓fq_zret, ↓fq_lret, ↓fq_vret, ↓fq_rets, ↓fq_retn, ↓fq_kill, ↓fq_gfI, ↓fq_gfJ, ↓fq_pfI, ↓fq_pfJ, ↓fl_206, ↓fs_206, ↓fl_207, ↓fs_207, ↓fl_208, ↓fs_208, ↓fl_209, ↓fs_209, ↓fl_210, ↓fs_210, ↓fl_211, ↓fs_211, ↓fl_212, ↓fs_212, ↓fl_213, ↓fs_213, ↓fl_214, ↓fs_214, ↓fl_215, ↓fs_215, ↓fl_216, ↓fs_216, ↓fl_217, ↓fs_217, ↓fl_218, ↓fs_218, ↓fl_219, ↓fs_219, ↓fl_220, ↓fs_220, ↓fl_221, ↓fs_221, ↓fl_222, ↓fs_222, ↓fl_223, ↓fs_223, ↓fl_224, ↓fs_224, ↓fl_225, ↓fs_225, ↓fl_226, ↓fs_226, ↓fl_227, ↓fs_227, ↓fl_228, ↓fs_228, ↓fl_229, ↓fs_229, ↓fl_230, ↓fs_230, ↓fl_231, ↓fs_231, ↓fl_232, ↓fs_232, ↓fl_233, ↓fs_233, ↓fl_234, ↓fs_234, ↓fl_235, ↓fs_235, ↓fl_236, ↓fs_236, ↓fl_237, ↓fs_237, ↓fl_238, ↓fs_238, ↓fl_239, ↓fs_239, ↓fl_240, ↓fs_240, ↓fl_241, ↓fs_241, ↓fl_242, ↓fs_242, ↓fl_243, ↓fs_243, ↓fl_244, ↓fs_244, ↓fl_245, ↓fs_245, ↓fl_246, ↓fs_246, ↓fl_247, ↓fs_247, ↓fl_248, ↓fs_248, ↓fl_249, ↓fs_249, ↓fl_250, ↓fs_250, ↓fl_251, ↓fs_251, ↓fl_252, ↓fs_252, ↓fl_253, ↓fs_253, ↓fl_254, ↓fs_254, ↓fl_255, ↓fs_255, ↓fl_256, ↓fs_256, ↓fl_257, ↓fs_257, ↓fl_258, ↓fs_258, ↓fl_259, ↓fs_259, ↓fl_260, ↓fs_260, ↓fc_v0, ↓fc_v1, ↓fc_v2, ↓fc_v3, ↓fc_v4, ↓fc_v5, ↓fc_v6, ↓fc_s0, ↓fc_s1, ↓fc_s2, ↓fc_s3, ↓fc_s4, ↓fc_s5, ↓fq_len0, ↓fq_len1, ↓fq_len2, ↓fq_len3, ↓fq_len4, ↓fg_2 hρ, ↓fg_10 hρ, ↓fg_11 hρ, ↓fg_12 hρ, ↓fg_13 hρ, ↓fg_14 hρ, ↓fg_15 hρ, ↓fg_16 hρ, ↓fg_17 hρ, ↓fg_18 hρ, ↓fg_19 hρ, ↓fg_20 hρ, ↓fg_21 hρ, ↓fg_22 hρ, ↓fg_23 hρ, ↓fg_24 hρ, ↓fg_28 hρ, ↓fg_29 hρ, ↓fg_30 hρ, ↓fg_31 hρ, ↓fg_32 hρ, ↓fg_33 hρ, ↓fg_34 hρ, ↓fg_35 hρ, ↓fg_36 hρ, ↓fg_37 hρ, ↓fg_38 hρ, ↓fg_39 hρ, ↓fg_42 hρ, ↓fg_43 hρ, ↓fg_44 hρ, ↓fg_45 hρ, ↓fg_46 hρ, ↓fg_47 hρ, ↓fg_48 hρ, ↓fg_49 hρ, ↓fg_50 hρ, ↓fg_51 hρ, ↓fg_52 hρ, ↓fg_53 hρ, ↓fg_55 hρ, ↓fg_56 hρ, ↓fg_57 hρ, ↓fg_58 hρ, ↓fg_59 hρ, ↓fg_60 hρ, ↓fg_61 hρ, ↓fg_62 hρ, ↓fg_63 hρ, ↓fg_66 hρ, ↓fg_67 hρ, ↓fg_68 hρ, ↓fg_70 hρ, ↓fg_71 hρ, ↓fg_72 hρ, bt_loc, bt_locs, bt_kl, List.set_cons_zero, List.set_cons_succ, List.replicate_succ, List.replicate_zero, List.cons_append, List.nil_append, List.append_nil, List.length_cons, List.length_nil, Nat.reduceAdd, Nat.reduceSub, true_and, and_true, Nat.zero_add, Int.toNat_natCast, Int.reduceToNat, ↓reduceIte]
      refine ⟨ρ, μ2, 262, nG R.2, nA R.2, rfl, rfl, hρ, by omega, k20, hn.2.1.2, k21, hn.2.2.2, fun μ3 k3 f3 => ?_⟩
      show bt_ret _ _ _ none (bt_wd ρ μ3)
      simp (disch := omega) only [↓fq_ild0, ↓fq_ald0, ↓fq_lld0, ↓fq_inc0, ↓fq_ist0, ↓fq_lst0, ↓fq_nl0, ↓fq_ild1, ↓fq_ald1, ↓fq_lld1, ↓fq_inc1, ↓fq_ist1, ↓fq_lst1, ↓fq_nli1, ↓fq_nlr1, ↓fq_nln1, ↓fq_ild2, ↓fq_ald2, ↓fq_lld2, ↓fq_inc2, ↓fq_ist2, ↓fq_lst2, ↓fq_nli2, ↓fq_nlr2, ↓fq_nln2, ↓fq_ild3, ↓fq_ald3, ↓fq_lld3, ↓fq_inc3, ↓fq_ist3, ↓fq_lst3, ↓fq_nli3, ↓fq_nlr3, ↓fq_nln3, ↓fq_ild4, ↓fq_ald4, ↓fq_lld4, ↓fq_inc4, ↓fq_ist4, ↓fq_lst4, ↓fq_nli4, ↓fq_nlr4, ↓fq_nln4, ↓fq_ild5, ↓fq_ald5, ↓fq_lld5, ↓fq_inc5, ↓fq_ist5, ↓fq_lst5, ↓fq_nli5, ↓fq_nlr5, ↓fq_nln5, ↓fq_ild6, ↓fq_ald6, ↓fq_lld6, ↓fq_inc6, ↓fq_ist6, ↓fq_lst6, ↓fq_nli6, ↓fq_nlr6, ↓fq_nln6, ↓fq_ild7, ↓fq_ald7, ↓fq_lld7, ↓fq_inc7, ↓fq_ist7, ↓fq_lst7, ↓fq_nli7, ↓fq_nlr7, ↓fq_nln7, ↓fq_ild8, ↓fq_ald8, ↓fq_lld8, ↓fq_inc8, ↓fq_ist8, ↓fq_lst8, ↓fq_nli8, ↓fq_nlr8, ↓fq_nln8, ↓fq_ild9, ↓fq_ald9, ↓fq_lld9, ↓fq_inc9, ↓fq_ist9, ↓fq_lst9, ↓fq_nli9, ↓fq_nlr9, ↓fq_nln9, ↓fq_ild10, ↓fq_ald10, ↓fq_lld10, ↓fq_inc10, ↓fq_ist10, ↓fq_lst10, ↓fq_nli10, ↓fq_nlr10, ↓fq_nln10, ↓fq_iadd, ↓fq_isub, ↓fq_imul, ↓fq_iand, ↓fq_ior, ↓fq_ixor, ↓fq_ishl, ↓fq_ishr, ↓fq_iushr, ↓fq_ladd, ↓fq_lsub, ↓fq_lmul, ↓fq_land, ↓fq_lor, ↓fq_lushr, ↓fq_lshl, ↓fq_lcmp, ↓fq_i2l, ↓fq_l2i, ↓fq_idiv, ↓fq_irem, ↓fq_ldiv, ↓fq_lrem, ↓fq_ic, ↓fq_lc, ↓fq_dupi, ↓fq_dupr, ↓fq_dup2, ↓fq_popi, ↓fq_mmin, ↓fq_mmax, ↓fq_can, ↓fq_icmpeq, ↓fq_icmpne, ↓fq_icmplt, ↓fq_icmpge, ↓fq_icmpgt, ↓fq_icmple, ↓fq_ifeq, ↓fq_ifne, ↓fq_iflt, ↓fq_ifge, ↓fq_ifgt, ↓fq_ifle, ↓fq_iret, ↓fq_zret, ↓fq_lret, ↓fq_vret, ↓fq_rets, ↓fq_retn, ↓fq_kill, ↓fq_gfI, ↓fq_gfJ, ↓fq_pfI, ↓fq_pfJ, ↓fl_206, ↓fs_206, ↓fl_207, ↓fs_207, ↓fl_208, ↓fs_208, ↓fl_209, ↓fs_209, ↓fl_210, ↓fs_210, ↓fl_211, ↓fs_211, ↓fl_212, ↓fs_212, ↓fl_213, ↓fs_213, ↓fl_214, ↓fs_214, ↓fl_215, ↓fs_215, ↓fl_216, ↓fs_216, ↓fl_217, ↓fs_217, ↓fl_218, ↓fs_218, ↓fl_219, ↓fs_219, ↓fl_220, ↓fs_220, ↓fl_221, ↓fs_221, ↓fl_222, ↓fs_222, ↓fl_223, ↓fs_223, ↓fl_224, ↓fs_224, ↓fl_225, ↓fs_225, ↓fl_226, ↓fs_226, ↓fl_227, ↓fs_227, ↓fl_228, ↓fs_228, ↓fl_229, ↓fs_229, ↓fl_230, ↓fs_230, ↓fl_231, ↓fs_231, ↓fl_232, ↓fs_232, ↓fl_233, ↓fs_233, ↓fl_234, ↓fs_234, ↓fl_235, ↓fs_235, ↓fl_236, ↓fs_236, ↓fl_237, ↓fs_237, ↓fl_238, ↓fs_238, ↓fl_239, ↓fs_239, ↓fl_240, ↓fs_240, ↓fl_241, ↓fs_241, ↓fl_242, ↓fs_242, ↓fl_243, ↓fs_243, ↓fl_244, ↓fs_244, ↓fl_245, ↓fs_245, ↓fl_246, ↓fs_246, ↓fl_247, ↓fs_247, ↓fl_248, ↓fs_248, ↓fl_249, ↓fs_249, ↓fl_250, ↓fs_250, ↓fl_251, ↓fs_251, ↓fl_252, ↓fs_252, ↓fl_253, ↓fs_253, ↓fl_254, ↓fs_254, ↓fl_255, ↓fs_255, ↓fl_256, ↓fs_256, ↓fl_257, ↓fs_257, ↓fl_258, ↓fs_258, ↓fl_259, ↓fs_259, ↓fl_260, ↓fs_260, ↓fc_v0, ↓fc_v1, ↓fc_v2, ↓fc_v3, ↓fc_v4, ↓fc_v5, ↓fc_v6, ↓fc_s0, ↓fc_s1, ↓fc_s2, ↓fc_s3, ↓fc_s4, ↓fc_s5, ↓fq_len0, ↓fq_len1, ↓fq_len2, ↓fq_len3, ↓fq_len4, ↓fg_2 hρ, ↓fg_10 hρ, ↓fg_11 hρ, ↓fg_12 hρ, ↓fg_13 hρ, ↓fg_14 hρ, ↓fg_15 hρ, ↓fg_16 hρ, ↓fg_17 hρ, ↓fg_18 hρ, ↓fg_19 hρ, ↓fg_20 hρ, ↓fg_21 hρ, ↓fg_22 hρ, ↓fg_23 hρ, ↓fg_24 hρ, ↓fg_28 hρ, ↓fg_29 hρ, ↓fg_30 hρ, ↓fg_31 hρ, ↓fg_32 hρ, ↓fg_33 hρ, ↓fg_34 hρ, ↓fg_35 hρ, ↓fg_36 hρ, ↓fg_37 hρ, ↓fg_38 hρ, ↓fg_39 hρ, ↓fg_42 hρ, ↓fg_43 hρ, ↓fg_44 hρ, ↓fg_45 hρ, ↓fg_46 hρ, ↓fg_47 hρ, ↓fg_48 hρ, ↓fg_49 hρ, ↓fg_50 hρ, ↓fg_51 hρ, ↓fg_52 hρ, ↓fg_53 hρ, ↓fg_55 hρ, ↓fg_56 hρ, ↓fg_57 hρ, ↓fg_58 hρ, ↓fg_59 hρ, ↓fg_60 hρ, ↓fg_61 hρ, ↓fg_62 hρ, ↓fg_63 hρ, ↓fg_66 hρ, ↓fg_67 hρ, ↓fg_68 hρ, ↓fg_70 hρ, ↓fg_71 hρ, ↓fg_72 hρ, bt_loc, bt_locs, bt_kl, List.set_cons_zero, List.set_cons_succ, List.replicate_succ, List.replicate_zero, List.cons_append, List.nil_append, List.append_nil, List.length_cons, List.length_nil, Nat.reduceAdd, Nat.reduceSub, true_and, and_true, Nat.zero_add, Int.toNat_natCast, Int.reduceToNat, ↓reduceIte]
      refine rp_forgets (N := 262) hρ (by omega) ?_
      show bt_ret _ _ _ none (bt_wd ρ _)
      simp (disch := omega) only [↓fq_ild0, ↓fq_ald0, ↓fq_lld0, ↓fq_inc0, ↓fq_ist0, ↓fq_lst0, ↓fq_nl0, ↓fq_ild1, ↓fq_ald1, ↓fq_lld1, ↓fq_inc1, ↓fq_ist1, ↓fq_lst1, ↓fq_nli1, ↓fq_nlr1, ↓fq_nln1, ↓fq_ild2, ↓fq_ald2, ↓fq_lld2, ↓fq_inc2, ↓fq_ist2, ↓fq_lst2, ↓fq_nli2, ↓fq_nlr2, ↓fq_nln2, ↓fq_ild3, ↓fq_ald3, ↓fq_lld3, ↓fq_inc3, ↓fq_ist3, ↓fq_lst3, ↓fq_nli3, ↓fq_nlr3, ↓fq_nln3, ↓fq_ild4, ↓fq_ald4, ↓fq_lld4, ↓fq_inc4, ↓fq_ist4, ↓fq_lst4, ↓fq_nli4, ↓fq_nlr4, ↓fq_nln4, ↓fq_ild5, ↓fq_ald5, ↓fq_lld5, ↓fq_inc5, ↓fq_ist5, ↓fq_lst5, ↓fq_nli5, ↓fq_nlr5, ↓fq_nln5, ↓fq_ild6, ↓fq_ald6, ↓fq_lld6, ↓fq_inc6, ↓fq_ist6, ↓fq_lst6, ↓fq_nli6, ↓fq_nlr6, ↓fq_nln6, ↓fq_ild7, ↓fq_ald7, ↓fq_lld7, ↓fq_inc7, ↓fq_ist7, ↓fq_lst7, ↓fq_nli7, ↓fq_nlr7, ↓fq_nln7, ↓fq_ild8, ↓fq_ald8, ↓fq_lld8, ↓fq_inc8, ↓fq_ist8, ↓fq_lst8, ↓fq_nli8, ↓fq_nlr8, ↓fq_nln8, ↓fq_ild9, ↓fq_ald9, ↓fq_lld9, ↓fq_inc9, ↓fq_ist9, ↓fq_lst9, ↓fq_nli9, ↓fq_nlr9, ↓fq_nln9, ↓fq_ild10, ↓fq_ald10, ↓fq_lld10, ↓fq_inc10, ↓fq_ist10, ↓fq_lst10, ↓fq_nli10, ↓fq_nlr10, ↓fq_nln10, ↓fq_iadd, ↓fq_isub, ↓fq_imul, ↓fq_iand, ↓fq_ior, ↓fq_ixor, ↓fq_ishl, ↓fq_ishr, ↓fq_iushr, ↓fq_ladd, ↓fq_lsub, ↓fq_lmul, ↓fq_land, ↓fq_lor, ↓fq_lushr, ↓fq_lshl, ↓fq_lcmp, ↓fq_i2l, ↓fq_l2i, ↓fq_idiv, ↓fq_irem, ↓fq_ldiv, ↓fq_lrem, ↓fq_ic, ↓fq_lc, ↓fq_dupi, ↓fq_dupr, ↓fq_dup2, ↓fq_popi, ↓fq_mmin, ↓fq_mmax, ↓fq_can, ↓fq_icmpeq, ↓fq_icmpne, ↓fq_icmplt, ↓fq_icmpge, ↓fq_icmpgt, ↓fq_icmple, ↓fq_ifeq, ↓fq_ifne, ↓fq_iflt, ↓fq_ifge, ↓fq_ifgt, ↓fq_ifle, ↓fq_iret, ↓fq_zret, ↓fq_lret, ↓fq_vret, ↓fq_rets, ↓fq_retn, ↓fq_kill, ↓fq_gfI, ↓fq_gfJ, ↓fq_pfI, ↓fq_pfJ, ↓fl_206, ↓fs_206, ↓fl_207, ↓fs_207, ↓fl_208, ↓fs_208, ↓fl_209, ↓fs_209, ↓fl_210, ↓fs_210, ↓fl_211, ↓fs_211, ↓fl_212, ↓fs_212, ↓fl_213, ↓fs_213, ↓fl_214, ↓fs_214, ↓fl_215, ↓fs_215, ↓fl_216, ↓fs_216, ↓fl_217, ↓fs_217, ↓fl_218, ↓fs_218, ↓fl_219, ↓fs_219, ↓fl_220, ↓fs_220, ↓fl_221, ↓fs_221, ↓fl_222, ↓fs_222, ↓fl_223, ↓fs_223, ↓fl_224, ↓fs_224, ↓fl_225, ↓fs_225, ↓fl_226, ↓fs_226, ↓fl_227, ↓fs_227, ↓fl_228, ↓fs_228, ↓fl_229, ↓fs_229, ↓fl_230, ↓fs_230, ↓fl_231, ↓fs_231, ↓fl_232, ↓fs_232, ↓fl_233, ↓fs_233, ↓fl_234, ↓fs_234, ↓fl_235, ↓fs_235, ↓fl_236, ↓fs_236, ↓fl_237, ↓fs_237, ↓fl_238, ↓fs_238, ↓fl_239, ↓fs_239, ↓fl_240, ↓fs_240, ↓fl_241, ↓fs_241, ↓fl_242, ↓fs_242, ↓fl_243, ↓fs_243, ↓fl_244, ↓fs_244, ↓fl_245, ↓fs_245, ↓fl_246, ↓fs_246, ↓fl_247, ↓fs_247, ↓fl_248, ↓fs_248, ↓fl_249, ↓fs_249, ↓fl_250, ↓fs_250, ↓fl_251, ↓fs_251, ↓fl_252, ↓fs_252, ↓fl_253, ↓fs_253, ↓fl_254, ↓fs_254, ↓fl_255, ↓fs_255, ↓fl_256, ↓fs_256, ↓fl_257, ↓fs_257, ↓fl_258, ↓fs_258, ↓fl_259, ↓fs_259, ↓fl_260, ↓fs_260, ↓fc_v0, ↓fc_v1, ↓fc_v2, ↓fc_v3, ↓fc_v4, ↓fc_v5, ↓fc_v6, ↓fc_s0, ↓fc_s1, ↓fc_s2, ↓fc_s3, ↓fc_s4, ↓fc_s5, ↓fq_len0, ↓fq_len1, ↓fq_len2, ↓fq_len3, ↓fq_len4, ↓fg_2 hρ, ↓fg_10 hρ, ↓fg_11 hρ, ↓fg_12 hρ, ↓fg_13 hρ, ↓fg_14 hρ, ↓fg_15 hρ, ↓fg_16 hρ, ↓fg_17 hρ, ↓fg_18 hρ, ↓fg_19 hρ, ↓fg_20 hρ, ↓fg_21 hρ, ↓fg_22 hρ, ↓fg_23 hρ, ↓fg_24 hρ, ↓fg_28 hρ, ↓fg_29 hρ, ↓fg_30 hρ, ↓fg_31 hρ, ↓fg_32 hρ, ↓fg_33 hρ, ↓fg_34 hρ, ↓fg_35 hρ, ↓fg_36 hρ, ↓fg_37 hρ, ↓fg_38 hρ, ↓fg_39 hρ, ↓fg_42 hρ, ↓fg_43 hρ, ↓fg_44 hρ, ↓fg_45 hρ, ↓fg_46 hρ, ↓fg_47 hρ, ↓fg_48 hρ, ↓fg_49 hρ, ↓fg_50 hρ, ↓fg_51 hρ, ↓fg_52 hρ, ↓fg_53 hρ, ↓fg_55 hρ, ↓fg_56 hρ, ↓fg_57 hρ, ↓fg_58 hρ, ↓fg_59 hρ, ↓fg_60 hρ, ↓fg_61 hρ, ↓fg_62 hρ, ↓fg_63 hρ, ↓fg_66 hρ, ↓fg_67 hρ, ↓fg_68 hρ, ↓fg_70 hρ, ↓fg_71 hρ, ↓fg_72 hρ, bt_loc, bt_locs, bt_kl, List.set_cons_zero, List.set_cons_succ, List.replicate_succ, List.replicate_zero, List.cons_append, List.nil_append, List.append_nil, List.length_cons, List.length_nil, Nat.reduceAdd, Nat.reduceSub, true_and, and_true, Nat.zero_add, Int.toNat_natCast, Int.reduceToNat, ↓reduceIte, bt_w_id, Int.reduceToNat]
      repeat (refine And.intro (by first | omega | decide | (simp only [and_true, true_and]; omega)) ?_)
      have ke : ∀ c, (222 ≤ c ∧ c ≤ 261) ∨ c ≤ 206 → c ≠ 240 → μ3 c = μ1 c := fun c h1 h2 => by
        rw [f3 c h2, k1 c (by omega) (by omega)]
        funext k
        have : rls_n c = 0 := by unfold rls_n; rw [if_neg (by omega), if_neg (by omega), if_neg (by omega), if_neg (by omega), if_neg (by omega)]
        unfold rls_f
        rw [this, if_neg (by omega)]
      generalize hμ4 : bt_up (bt_up (bt_up (bt_up μ3 238 0 0) 239 0 65535) 234 0 0) 205 54 0 = μ4
      have k4 : ∀ c, c ≠ 238 → c ≠ 239 → c ≠ 234 → c ≠ 205 → μ4 c = μ3 c := fun c h1 h2 h3 h4 => by rw [← hμ4, bt_up_cell h4, bt_up_cell h3, bt_up_cell h2, bt_up_cell h1]
      have k5 : ∀ k, k ≠ 54 → μ4 205 k = μ1 205 k := fun k h => by rw [← hμ4, bt_up_ix h, bt_up_cell (by decide), bt_up_cell (by decide), bt_up_cell (by decide), ke 205 (by omega) (by decide)]
      refine ⟨4, ?_⟩
      rw [if_pos h0]
      refine ⟨rfl, μ4, 0, rfl, rfl, by omega, by omega, fun k hk => by omega, fun a ha => ?_, ?_, fun μ5 m1 m2 ζ' hcl hK' => ?_⟩
      · unfold ri_in at ha
        rw [k4 a (by omega) (by omega) (by omega) (by omega)]
        by_cases ha' : a = 261
        · subst ha'
          rw [ke 261 (by omega) (by omega)]
          funext k
          rw [f1 261 k (by unfold rr_c; omega) (by omega), bt_up_cell (by omega)]
        · by_cases ha2 : a ≤ 204
          · rw [ke a (by omega) (by omega)]
            funext k
            rw [f1 a k (by unfold rr_c; omega) (by omega), bt_up_cell (by omega)]
          · have hh : rls_n a = 0 := by unfold rls_n; rw [if_neg (by omega), if_neg (by omega), if_neg (by omega), if_neg (by omega), if_neg (by omega)]
            rw [f3 a (by omega), k1 a (by omega) (by omega)]
            funext k
            unfold rls_f
            rw [hh, if_neg (by omega), f1 a k (by unfold rr_c; omega) (by omega), bt_up_cell (by omega)]
      · rw [k5 0 (by decide), f1 205 0 (by unfold rr_c; omega) (by omega), bt_up_same]
      · have m3 : ∀ c, c ≠ 245 → c ≠ 238 → c ≠ 239 → c ≠ 234 → c ≠ 205 → μ5 c = μ3 c := fun c h1 h2 h3 h4 h5 => by rw [m1 c h1, k4 c h2 h3 h4 h5]
        obtain ⟨q1, q2, q3⟩ := rr_E.Z (μ' := μ5) hE hK' hcl (fun c h1 h2 h3 h4 => by rw [m3 c (by omega) (by omega) (by omega) (by omega) (by omega), f3 c (by omega)]; exact k1 c h3 h4) (fun l hl a b ea eb => by
          rw [m3 219 (by decide) (by decide) (by decide) (by decide) (by decide), m3 220 (by decide) (by decide) (by decide) (by decide) (by decide), f3 219 (by decide), f3 220 (by decide)]
          have hl' : l = 0 ∨ l = 1 := by omega
          have := k2 l hl
          rcases hl' with rfl | rfl
          · have ea' : ((1000 + x0 : Nat) : Int) = (a : Int) := u1.symm.trans ea
            have eb' : ((1000 + y0 : Nat) : Int) = (b : Int) := u2.symm.trans eb
            rw [← ea', ← eb']
            exact this
          · have ea' : ((1000 + x1 : Nat) : Int) = (a : Int) := w1.symm.trans ea
            have eb' : ((1000 + y1 : Nat) : Int) = (b : Int) := w2.symm.trans eb
            rw [← ea', ← eb']
            exact this)
        have z0 := rz_cl_e hcl
        have eG : nG ζ' = nG R.2 := nG_cg (by rw [z0 0 (by decide) (by decide) (by decide) (by decide)])
        have eA : nA ζ' = nA R.2 := nA_cg (by rw [z0 0 (by decide) (by decide) (by decide) (by decide)])
        have e11 := hK'.2.2.2.2.2.1
        obtain ⟨r1, r2, r3, r4, r5, r6⟩ := k3
        have e240 : μ5 240 = μ3 240 := m3 240 (by decide) (by decide) (by decide) (by decide) (by decide)
        have T := q2
        have f3' : ∀ c, c ≠ 240 → 206 ≤ c → c ≤ 221 → μ5 c = μ2 c := fun c h1 h2 h3 => by rw [m3 c (by omega) (by omega) (by omega) (by omega) (by omega), f3 c h1]
        refine ⟨q1, q2, q3, ⟨?_, ?_, fun g hg => ⟨?_, ?_⟩, fun a ha => ?_, fun g g1 g2 => ?_, fun a a1 a2 => ?_⟩, ⟨?_, fun i hi => absurd hi (Nat.not_lt_zero i), ?_, ?_⟩, fun i hi => ?_, ⟨?_, fun i hi => absurd hi (Nat.not_lt_zero i)⟩, ?_, fun i hi => absurd hi (Nat.not_lt_zero i)⟩
        · rw [e240]; show μ3 240 0 = ζ' 11 0; rw [z0 11 (by decide) (by decide) (by decide) (by decide), e11.1]; exact r1
        · rw [e240]; show μ3 240 1 = ζ' 11 1; rw [z0 11 (by decide) (by decide) (by decide) (by decide), e11.2]; exact r2
        · have hg' : g < nG R.2 := by rw [← eG]; exact hg
          rw [e240, show 0 + 2 + g = 2 + g by omega, (r3 g hg').1, ← f3' 214 (by decide) (by decide) (by decide)]; exact (T.1 g hg).1
        · have hg' : g < nG R.2 := by rw [← eG]; exact hg
          rw [e240, show 0 + 8 + g = 8 + g by omega, (r3 g hg').2, ← f3' 213 (by decide) (by decide) (by decide)]; exact (T.1 g hg).2
        · have ha' : a < nA R.2 := by rw [← eA]; exact ha
          rw [e240, show 0 + 14 + a = 14 + a by omega, r5 a ha', ← f3' 216 (by decide) (by decide) (by decide)]; exact T.2.1 a ha
        · have g1' : nG R.2 ≤ g := by rw [← eG]; exact g1
          rw [e240, show 0 + 8 + g = 8 + g by omega]; exact r4 g g1' g2
        · have a1' : nA R.2 ≤ a := by rw [← eA]; exact a1
          rw [e240, show 0 + 14 + a = 14 + a by omega]; exact r6 a a1' a2
        · rw [m1 234 (by decide), ← hμ4, bt_up_cell (by decide), bt_up_same]; rfl
        · rw [m1 238 (by decide), ← hμ4, bt_up_cell (by decide), bt_up_cell (by decide), bt_up_cell (by decide), bt_up_same]; rfl
        · rw [m1 239 (by decide), ← hμ4, bt_up_cell (by decide), bt_up_cell (by decide), bt_up_same]; rfl
        · exact m2 i hi
        · rw [m1 205 (by decide), ← hμ4, bt_up_same]; rfl
        · rw [m1 205 (by decide), k5 1 (by decide)]; exact g2
  · rintro m st L w hI1
    by_cases h0 : R.1 = 0
    · rw [if_pos h0] at hI1
      obtain ⟨rfl, μ1, i, rfl, rfl, hi, rfl, hd, hfr, h00, hall⟩ := hI1
      simp (disch := omega) only [↓tX11_zoo_43, ↓fq_ild0, ↓fq_ald0, ↓fq_lld0, ↓fq_inc0, ↓fq_ist0, ↓fq_lst0, ↓fq_nl0, ↓fq_ild1, ↓fq_ald1, ↓fq_lld1, ↓fq_inc1, ↓fq_ist1, ↓fq_lst1, ↓fq_nli1, ↓fq_nlr1, ↓fq_nln1, ↓fq_ild2, ↓fq_ald2, ↓fq_lld2, ↓fq_inc2, ↓fq_ist2, ↓fq_lst2, ↓fq_nli2, ↓fq_nlr2, ↓fq_nln2, ↓fq_ild3, ↓fq_ald3, ↓fq_lld3, ↓fq_inc3, ↓fq_ist3, ↓fq_lst3, ↓fq_nli3, ↓fq_nlr3, ↓fq_nln3, ↓fq_ild4, ↓fq_ald4, ↓fq_lld4, ↓fq_inc4, ↓fq_ist4, ↓fq_lst4, ↓fq_nli4, ↓fq_nlr4, ↓fq_nln4, ↓fq_ild5, ↓fq_ald5, ↓fq_lld5, ↓fq_inc5, ↓fq_ist5, ↓fq_lst5, ↓fq_nli5, ↓fq_nlr5, ↓fq_nln5, ↓fq_ild6, ↓fq_ald6, ↓fq_lld6, ↓fq_inc6, ↓fq_ist6, ↓fq_lst6, ↓fq_nli6, ↓fq_nlr6, ↓fq_nln6, ↓fq_ild7, ↓fq_ald7, ↓fq_lld7, ↓fq_inc7, ↓fq_ist7, ↓fq_lst7, ↓fq_nli7, ↓fq_nlr7, ↓fq_nln7, ↓fq_ild8, ↓fq_ald8, ↓fq_lld8, ↓fq_inc8, ↓fq_ist8, ↓fq_lst8, ↓fq_nli8, ↓fq_nlr8, ↓fq_nln8, ↓fq_ild9, ↓fq_ald9, ↓fq_lld9, ↓fq_inc9, ↓fq_ist9, ↓fq_lst9, ↓fq_nli9, ↓fq_nlr9, ↓fq_nln9, ↓fq_ild10, ↓fq_ald10, ↓fq_lld10, ↓fq_inc10, ↓fq_ist10, ↓fq_lst10, ↓fq_nli10, ↓fq_nlr10, ↓fq_nln10, ↓fq_iadd, ↓fq_isub, ↓fq_imul, ↓fq_iand, ↓fq_ior, ↓fq_ixor, ↓fq_ishl, ↓fq_ishr, ↓fq_iushr, ↓fq_ladd, ↓fq_lsub, ↓fq_lmul, ↓fq_land, ↓fq_lor, ↓fq_lushr, ↓fq_lshl, ↓fq_lcmp, ↓fq_i2l, ↓fq_l2i, ↓fq_idiv, ↓fq_irem, ↓fq_ldiv, ↓fq_lrem, ↓fq_ic, ↓fq_lc, ↓fq_dupi, ↓fq_dupr, ↓fq_dup2, ↓fq_popi, ↓fq_mmin, ↓fq_mmax, ↓fq_can, ↓fq_icmpeq, ↓fq_icmpne, ↓fq_icmplt, ↓fq_icmpge, ↓fq_icmpgt, ↓fq_icmple, ↓fq_ifeq, ↓fq_ifne, ↓fq_iflt, ↓fq_ifge, ↓fq_ifgt, ↓fq_ifle, ↓fq_iret, ↓fq_zret, ↓fq_lret, ↓fq_vret, ↓fq_rets, ↓fq_retn, ↓fq_kill, ↓fq_gfI, ↓fq_gfJ, ↓fq_pfI, ↓fq_pfJ, ↓fl_206, ↓fs_206, ↓fl_207, ↓fs_207, ↓fl_208, ↓fs_208, ↓fl_209, ↓fs_209, ↓fl_210, ↓fs_210, ↓fl_211, ↓fs_211, ↓fl_212, ↓fs_212, ↓fl_213, ↓fs_213, ↓fl_214, ↓fs_214, ↓fl_215, ↓fs_215, ↓fl_216, ↓fs_216, ↓fl_217, ↓fs_217, ↓fl_218, ↓fs_218, ↓fl_219, ↓fs_219, ↓fl_220, ↓fs_220, ↓fl_221, ↓fs_221, ↓fl_222, ↓fs_222, ↓fl_223, ↓fs_223, ↓fl_224, ↓fs_224, ↓fl_225, ↓fs_225, ↓fl_226, ↓fs_226, ↓fl_227, ↓fs_227, ↓fl_228, ↓fs_228, ↓fl_229, ↓fs_229, ↓fl_230, ↓fs_230, ↓fl_231, ↓fs_231, ↓fl_232, ↓fs_232, ↓fl_233, ↓fs_233, ↓fl_234, ↓fs_234, ↓fl_235, ↓fs_235, ↓fl_236, ↓fs_236, ↓fl_237, ↓fs_237, ↓fl_238, ↓fs_238, ↓fl_239, ↓fs_239, ↓fl_240, ↓fs_240, ↓fl_241, ↓fs_241, ↓fl_242, ↓fs_242, ↓fl_243, ↓fs_243, ↓fl_244, ↓fs_244, ↓fl_245, ↓fs_245, ↓fl_246, ↓fs_246, ↓fl_247, ↓fs_247, ↓fl_248, ↓fs_248, ↓fl_249, ↓fs_249, ↓fl_250, ↓fs_250, ↓fl_251, ↓fs_251, ↓fl_252, ↓fs_252, ↓fl_253, ↓fs_253, ↓fl_254, ↓fs_254, ↓fl_255, ↓fs_255, ↓fl_256, ↓fs_256, ↓fl_257, ↓fs_257, ↓fl_258, ↓fs_258, ↓fl_259, ↓fs_259, ↓fl_260, ↓fs_260, ↓fc_v0, ↓fc_v1, ↓fc_v2, ↓fc_v3, ↓fc_v4, ↓fc_v5, ↓fc_v6, ↓fc_s0, ↓fc_s1, ↓fc_s2, ↓fc_s3, ↓fc_s4, ↓fc_s5, ↓fq_len0, ↓fq_len1, ↓fq_len2, ↓fq_len3, ↓fq_len4, ↓fg_2 hρ, ↓fg_10 hρ, ↓fg_11 hρ, ↓fg_12 hρ, ↓fg_13 hρ, ↓fg_14 hρ, ↓fg_15 hρ, ↓fg_16 hρ, ↓fg_17 hρ, ↓fg_18 hρ, ↓fg_19 hρ, ↓fg_20 hρ, ↓fg_21 hρ, ↓fg_22 hρ, ↓fg_23 hρ, ↓fg_24 hρ, ↓fg_28 hρ, ↓fg_29 hρ, ↓fg_30 hρ, ↓fg_31 hρ, ↓fg_32 hρ, ↓fg_33 hρ, ↓fg_34 hρ, ↓fg_35 hρ, ↓fg_36 hρ, ↓fg_37 hρ, ↓fg_38 hρ, ↓fg_39 hρ, ↓fg_42 hρ, ↓fg_43 hρ, ↓fg_44 hρ, ↓fg_45 hρ, ↓fg_46 hρ, ↓fg_47 hρ, ↓fg_48 hρ, ↓fg_49 hρ, ↓fg_50 hρ, ↓fg_51 hρ, ↓fg_52 hρ, ↓fg_53 hρ, ↓fg_55 hρ, ↓fg_56 hρ, ↓fg_57 hρ, ↓fg_58 hρ, ↓fg_59 hρ, ↓fg_60 hρ, ↓fg_61 hρ, ↓fg_62 hρ, ↓fg_63 hρ, ↓fg_66 hρ, ↓fg_67 hρ, ↓fg_68 hρ, ↓fg_70 hρ, ↓fg_71 hρ, ↓fg_72 hρ, bt_loc, bt_locs, bt_kl, List.set_cons_zero, List.set_cons_succ, List.replicate_succ, List.replicate_zero, List.cons_append, List.nil_append, List.append_nil, List.length_cons, List.length_nil, Nat.reduceAdd, Nat.reduceSub, true_and, and_true, Nat.zero_add, Int.toNat_natCast, Int.reduceToNat, ↓reduceIte, bt_w_id, Int.toNat_natCast, hb0]
      by_cases hc : 4 ≤ i
      · rw [if_pos (by omega)]
        have := hQ μ1 (fun _ ζ' a b => hall μ1 (fun _ _ => rfl) (fun k hk => hd k (by omega)) ζ' a b) (fun q => absurd h0 q) hfr h00
        rw [h0] at this
        exact this
      · rw [if_neg (by omega)]
        repeat (refine And.intro (by first | omega | decide | (simp only [and_true, true_and]; omega)) ?_)
        refine ⟨4 - (i + 1), by omega, ?_⟩
        rw [if_pos h0]
        refine ⟨rfl, _, i + 1, rfl, rfl, by omega, rfl, fun k hk => ?_, fun a ha => by unfold ri_in at ha; rw [bt_up_cell (by omega)]; exact hfr a ha, by rw [bt_up_cell (by decide)]; exact h00, fun μ2 m1 m2 => hall μ2 (fun a ha => by rw [m1 a ha, bt_up_cell ha]) m2⟩
        by_cases e : k = i
        · subst e; exact bt_up_same _ _ _ _
        · rw [bt_up_ix e]; exact hd k (by omega)
    · rw [if_neg h0] at hI1
      exact hI1.elim
