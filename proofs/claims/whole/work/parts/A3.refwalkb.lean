/-! walks: the class's search and the reference's -/
def gp_W (len : Nat) (s : ab_St) (r : gp_S) : Prop := (r.1 = -1 ∧ s.1 = 1000) ∨ (0 ≤ r.1 ∧ r.1 ≤ 900 ∧ s.1 = r.1 ∧ r.2.1 = (len : Int) ∧ ∀ i, i < len → s.2.1 i = r.2.2.1 i)
theorem gp_cut {far : Nat → Int} {P p G many : Nat} {x : Int} {s : gp_S} (h : 0 ≤ s.1 ∧ s.1 ≤ x) : ∀ k, gp_f far P k p G many x s = s
  | 0 => by unfold gp_f; rw [if_pos h]
  | k + 1 => by unfold gp_f; rw [if_pos h]
theorem gp_eq {mn far : Nat → Int} {len P : Nat} (hP : P ≤ 6) (hl : len ≤ 6) (hm : ∀ k, k < 36 → (far k = mn k ∧ 0 ≤ far k ∧ far k ≤ 150) ∨ (100000 ≤ far k ∧ mn k = 1000)) : ∀ (k p G many : Nat) (x : Int) (s : ab_St) (r : gp_S), k ≤ len → many + k = len → p < 6 → 0 ≤ x → x ≤ 150 * (many : Int) → x < s.1 → gp_W len s r → (∀ i, i < many → s.2.2 i = r.2.2.2 i) → gp_W len (ab_wk mn len P k p G x s) (gp_f far P k p G many x r) ∧ (∀ i, i < many → (ab_wk mn len P k p G x s).2.2 i = s.2.2 i) ∧ ∀ i, i < many → (gp_f far P k p G many x r).2.2.2 i = r.2.2.2 i
  | 0, p, G, many, x, s, r, hk, hmk, hp, hx0, hx1, hxs, hW, hst => by
    have hg : ¬ (0 ≤ r.1 ∧ r.1 ≤ x) := fun q => by
      rcases hW with ⟨a, b⟩ | ⟨a, b, c, -⟩ <;> omega
    unfold ab_wk gp_f
    rw [if_neg hg]
    refine ⟨Or.inr ⟨hx0, by show x ≤ 900; omega, rfl, by show (many : Int) = (len : Int); omega, fun i hi => ?_⟩, fun _ _ => rfl, fun _ _ => rfl⟩
    show (if i < 6 then s.2.2 i else s.2.1 i) = if i < many then r.2.2.2 i else r.2.2.1 i
    rw [if_pos (by omega), if_pos (by omega)]
    exact hst i (by omega)
  | k + 1, p, G, many, x, s, r, hk, hmk, hp, hx0, hx1, hxs, hW, hst => by
    have ih := gp_eq hP hl hm k
    have hg : ¬ (0 ≤ r.1 ∧ r.1 ≤ x) := fun q => by
      rcases hW with ⟨a, b⟩ | ⟨a, b, c, -⟩ <;> omega
    have ha : len - (k + 1) = many := by omega
    unfold ab_wk gp_f
    rw [if_neg hg, ha]
    have loop : ∀ (c q : Nat) (s : ab_St) (r : gp_S), q + c = P → gp_W len s r → (∀ i, i < many → s.2.2 i = r.2.2.2 i) → gp_W len (ab_wkL mn G p many x (fun p G' y t => ab_wk mn len P k p G' y t) c q s) (gp_L far G p many x (fun q G' y t => gp_f far P k q G' (many + 1) y t) c q r) ∧ (∀ i, i < many → (ab_wkL mn G p many x (fun p G' y t => ab_wk mn len P k p G' y t) c q s).2.2 i = s.2.2 i) ∧ ∀ i, i < many → (gp_L far G p many x (fun q G' y t => gp_f far P k q G' (many + 1) y t) c q r).2.2.2 i = r.2.2.2 i := by
      intro c
      induction c with
      | zero => intro q s r _ a _; exact ⟨a, fun _ _ => rfl, fun _ _ => rfl⟩
      | succ c ihc =>
        intro q s r hq a b
        unfold ab_wkL gp_L
        have hs1 : s.1 ≤ 1000 := by rcases a with ⟨-, a2⟩ | ⟨-, a2, a3, -⟩ <;> omega
        have pp : ∀ (f : Nat → Int) v i, i < many → ab_put f many v i = f i := fun f v i hi => by unfold ab_put; rw [if_neg (by omega)]
        by_cases hb : G.testBit q = true
        · rcases hm (p * 6 + q) (by omega) with ⟨m1, m2, m3⟩ | ⟨m1, m2⟩
          · by_cases hlt : x + mn (p * 6 + q) < s.1
            · rw [if_pos ⟨hb, hlt⟩, if_pos ⟨hb, by omega⟩, m1]
              obtain ⟨j1, j2, j3⟩ := ih q (G - 2 ^ q) (many + 1) (x + mn (p * 6 + q)) (s.1, s.2.1, ab_put s.2.2 many q) (r.1, r.2.1, r.2.2.1, ab_put r.2.2.2 many q) (by omega) (by omega) (by omega) (by omega) (by omega) hlt a (fun i hi => by
                show ab_put s.2.2 many q i = ab_put r.2.2.2 many q i
                unfold ab_put
                by_cases e : i = many
                · rw [if_pos e, if_pos e]
                · rw [if_neg e, if_neg e]; exact b i (by omega))
              have k2 : ∀ i, i < many → (ab_wk mn len P k q (G - 2 ^ q) (x + mn (p * 6 + q)) (s.1, s.2.1, ab_put s.2.2 many q)).2.2 i = s.2.2 i := fun i hi => by rw [j2 i (by omega)]; exact pp _ _ i hi
              have k3 : ∀ i, i < many → (gp_f far P k q (G - 2 ^ q) (many + 1) (x + mn (p * 6 + q)) (r.1, r.2.1, r.2.2.1, ab_put r.2.2.2 many q)).2.2.2 i = r.2.2.2 i := fun i hi => by rw [j3 i (by omega)]; exact pp _ _ i hi
              obtain ⟨l1, l2, l3⟩ := ihc (q + 1) _ _ (by omega) j1 (fun i hi => by rw [k2 i hi, k3 i hi]; exact b i hi)
              exact ⟨l1, fun i hi => by rw [l2 i hi]; exact k2 i hi, fun i hi => by rw [l3 i hi]; exact k3 i hi⟩
            · rw [if_neg (fun z => hlt z.2), if_pos ⟨hb, by omega⟩]
              have hcut : 0 ≤ r.1 ∧ r.1 ≤ x + far (p * 6 + q) := by
                rcases a with ⟨a1, a2⟩ | ⟨a1, a2, a3, -⟩ <;> omega
              rw [gp_cut (s := (r.1, r.2.1, r.2.2.1, ab_put r.2.2.2 many q)) hcut k]
              obtain ⟨l1, l2, l3⟩ := ihc (q + 1) s (r.1, r.2.1, r.2.2.1, ab_put r.2.2.2 many q) (by omega) a (fun i hi => by rw [b i hi]; exact (pp _ _ i hi).symm)
              exact ⟨l1, l2, fun i hi => by rw [l3 i hi]; exact pp _ _ i hi⟩
          · rw [if_neg (fun z => by have := z.2; omega), if_neg (fun z => by have := z.2; omega)]
            exact ihc (q + 1) s r (by omega) a b
        · rw [if_neg (fun z => hb z.1), if_neg (fun z => hb z.1)]
          exact ihc (q + 1) s r (by omega) a b
    exact loop P 0 s r (by omega) hW hst
/-- the pens in which there are guests -/
theorem ab_gl_bit {wh : Nat → Nat} : ∀ n p, (ab_gl wh n).testBit p = decide (∃ g, g < n ∧ wh g = p)
  | 0, p => by
    unfold ab_gl
    rw [Nat.zero_testBit]
    exact (decide_eq_false (fun ⟨g, h, _⟩ => absurd h (Nat.not_lt_zero g))).symm
  | n + 1, p => by
    unfold ab_gl
    rw [Nat.testBit_or, ab_gl_bit n p, Nat.testBit_two_pow]
    by_cases h1 : wh n = p
    · rw [decide_eq_true h1, Bool.or_true]
      exact (decide_eq_true ⟨n, by omega, h1⟩).symm
    · rw [decide_eq_false h1, Bool.or_false]
      have : (∃ g, g < n ∧ wh g = p) ↔ ∃ g, g < n + 1 ∧ wh g = p := by
        constructor
        · rintro ⟨g, h2, h3⟩; exact ⟨g, by omega, h3⟩
        · rintro ⟨g, h2, h3⟩
          refine ⟨g, ?_, h3⟩
          by_cases e : g = n
          · subst e; exact absurd h3 h1
          · omega
      exact decide_eq_decide.mpr this
