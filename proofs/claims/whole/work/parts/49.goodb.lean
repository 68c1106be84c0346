/-! what a line keeps -/
theorem rz_or_lt {a b : Nat} (ha : a < 64) (hb : b < 6) : a ||| 2 ^ b < 64 := Nat.or_lt_two_pow (n := 6) ha (Nat.pow_lt_pow_right (by decide) hb)
theorem rz_path_K {t : Nat → Int} {n : Nat} {ζ : Nat → Nat → Int} {c : Nat} (h : rz_K ζ) (hf : (rz_path t n ζ c).1 = 0) : rz_K (rz_path t n ζ c).2.2 := by
  have hf' : rz_nu t n 1 30 (tk_j t n 3 c) = 0 := by
    unfold rz_path at hf
    dsimp only at hf
    split at hf
    · contradiction
    · split at hf
      · omega
      · exact hf
  obtain ⟨-, v1, v2⟩ := rz_nu_0 hf'
  exact rz_K_path h (by omega) (by omega)
theorem rz_foe_0 {t : Nat → Int} {n : Nat} {ζ : Nat → Nat → Int} {c : Nat} (hG : nG ζ ≤ 6) (hf : (rz_foe t n ζ c).1 = 0) : rz_pr t n (ζ 2) (nG ζ) c = 0 ∧ rz_a t n (ζ 2) (nG ζ) (tk_j t n 1 c) < nG ζ ∧ rz_a t n (ζ 2) (nG ζ) (tk_j t n 2 c) < nG ζ ∧ rz_a t n (ζ 2) (nG ζ) (tk_j t n 1 c) ≠ rz_a t n (ζ 2) (nG ζ) (tk_j t n 2 c) ∧ (ζ 7 (rz_a t n (ζ 2) (nG ζ) (tk_j t n 1 c))).toNat.testBit (rz_a t n (ζ 2) (nG ζ) (tk_j t n 2 c)) = false := by
  unfold rz_foe at hf
  dsimp only at hf
  split at hf
  · contradiction
  · next h1 =>
    have h1 : rz_pr t n (ζ 2) (nG ζ) c = 0 := by omega
    obtain ⟨a1, a2, a3⟩ := rz_pr_0 h1
    obtain ⟨-, b1, b2⟩ := rz_to_0 a1
    obtain ⟨-, b3, b4⟩ := rz_to_0 a2
    split at hf
    · omega
    · next h2 =>
      refine ⟨h1, ?_, ?_, ?_, by simpa using h2⟩ <;> unfold rz_a <;> omega
theorem rz_foe_K {t : Nat → Int} {n : Nat} {ζ : Nat → Nat → Int} {c : Nat} (h : rz_K ζ) (hf : (rz_foe t n ζ c).1 = 0) : rz_K (rz_foe t n ζ c).2.2 := by
  have hn := h.1.1.n
  obtain ⟨h1, h2, h3, h4, h5⟩ := rz_foe_0 hn.2.1.2 hf
  have fo := h.1.2.2.1
  have q1 := fo _ (Nat.lt_of_lt_of_le h2 hn.2.1.2)
  have q2 := fo _ (Nat.lt_of_lt_of_le h3 hn.2.1.2)
  refine rz_K_foe h ⟨Int.natCast_nonneg _, ?_⟩ ⟨Int.natCast_nonneg _, ?_⟩
  · have := rz_or_lt (a := (ζ 7 (rz_a t n (ζ 2) (nG ζ) (tk_j t n 1 c))).toNat) (b := rz_a t n (ζ 2) (nG ζ) (tk_j t n 2 c)) (by omega) (by omega)
    omega
  · have := rz_or_lt (a := (ζ 7 (rz_a t n (ζ 2) (nG ζ) (tk_j t n 2 c))).toNat) (b := rz_a t n (ζ 2) (nG ζ) (tk_j t n 1 c)) (by omega) (by omega)
    omega
theorem rz_feeds_K {t : Nat → Int} {n : Nat} {ζ : Nat → Nat → Int} {c : Nat} (h : rz_K ζ) (hf : (rz_feeds t n ζ c).1 = 0) : rz_K (rz_feeds t n ζ c).2.2 := by
  have := rz_nu_0 (t := t) (lo := 0) (hi := 9) hf
  exact rz_K_num h (Or.inl ⟨rfl, by omega, by omega⟩)
theorem rz_rain_K {t : Nat → Int} {n : Nat} {ζ : Nat → Nat → Int} {c : Nat} (h : rz_K ζ) (hf : (rz_rain t n ζ c).1 = 0) : rz_K (rz_rain t n ζ c).2.2 := by
  have := rz_nu_0 (t := t) (lo := 0) (hi := 10) hf
  exact rz_K_num h (Or.inr (Or.inr (Or.inr ⟨rfl, by omega, by omega⟩)))
theorem rz_tyre_0 {t : Nat → Int} {n : Nat} {ζ : Nat → Nat → Int} {c : Nat} (hf : (rz_tyre t n ζ c).1 = 0) : rz_nu t n 1 9 (tk_j t n 1 c) = 0 ∧ rz_pw t n 12 (tk_j t n 2 c) = 0 ∧ rz_nu t n 0 99 (tk_j t n 3 c) = 0 := by
  unfold rz_tyre at hf
  dsimp only at hf
  split at hf
  · contradiction
  · split at hf
    · contradiction
    · exact ⟨by omega, by omega, hf⟩
theorem rz_tyre_K {t : Nat → Int} {n : Nat} {ζ : Nat → Nat → Int} {c : Nat} (h : rz_K ζ) (hf : (rz_tyre t n ζ c).1 = 0) : rz_K (rz_tyre t n ζ c).2.2 := by
  obtain ⟨h1, -, h3⟩ := rz_tyre_0 hf
  have a1 := rz_nu_0 h1
  have a3 := rz_nu_0 h3
  exact rz_K_num (rz_K_num h (Or.inr (Or.inl ⟨rfl, by omega, by omega⟩))) (Or.inr (Or.inr (Or.inl ⟨rfl, by omega, by omega⟩)))
/-- all but the laws' tables -/
def rz_K0 (ζ : Nat → Nat → Int) : Prop := rz_G ζ ∧ (∀ p, p < nP ζ → 0 ≤ ζ 4 p ∧ ζ 4 p ≤ 9) ∧ (∀ g, g < nG ζ → (0 ≤ ζ 5 g ∧ ζ 5 g ≤ 3) ∧ (0 ≤ ζ 12 g ∧ ζ 12 g < nP ζ) ∧ 0 ≤ ζ 13 g ∧ ζ 13 g ≤ 9) ∧ (∀ a, a < nA ζ → (0 ≤ ζ 6 a ∧ ζ 6 a ≤ 3) ∧ 0 ≤ ζ 14 a ∧ ζ 14 a ≤ 999) ∧ ((0 ≤ ζ 0 4 ∧ ζ 0 4 ≤ 9) ∧ (0 ≤ ζ 0 5 ∧ ζ 0 5 ≤ 9) ∧ (0 ≤ ζ 0 6 ∧ ζ 0 6 ≤ 99) ∧ 0 ≤ ζ 0 7 ∧ ζ 0 7 ≤ 10) ∧ (ζ 11 0 = 0 ∧ ζ 11 1 = 0)
theorem rz_K0.congr {ζ ζ' : Nat → Nat → Int} (h : rz_K0 ζ) (e : ∀ k, k < 8 → ζ' 0 k = ζ 0 k) (e8 : 0 ≤ ζ' 0 8 ∧ ζ' 0 8 < 65536) (e' : ∀ j, 1 ≤ j → j < 15 → j ≠ 9 → j ≠ 10 → ζ' j = ζ j) : rz_K0 ζ' := by
  obtain ⟨⟨⟨⟨c1, c2, c3⟩, n1, n2, n3⟩, m3, fo, on1, on2⟩, se, gu, an, nu, st⟩ := h
  have hP : nP ζ' = nP ζ := by unfold nP; rw [e 0 (by omega)]
  have hG : nG ζ' = nG ζ := by unfold nG; rw [e 1 (by omega)]
  have hA : nA ζ' = nA ζ := by unfold nA; rw [e 2 (by omega)]
  unfold rz_K0 rz_G rz_N
  rw [hP, hG, hA, e 0 (by omega), e 1 (by omega), e 2 (by omega), e 4 (by omega), e 5 (by omega), e 6 (by omega), e 7 (by omega), e' 1 (by decide) (by decide) (by decide) (by decide), e' 2 (by decide) (by decide) (by decide) (by decide), e' 3 (by decide) (by decide) (by decide) (by decide), e' 4 (by decide) (by decide) (by decide) (by decide), e' 5 (by decide) (by decide) (by decide) (by decide), e' 6 (by decide) (by decide) (by decide) (by decide), e' 7 (by decide) (by decide) (by decide) (by decide), e' 8 (by decide) (by decide) (by decide) (by decide), e' 11 (by decide) (by decide) (by decide) (by decide), e' 12 (by decide) (by decide) (by decide) (by decide), e' 13 (by decide) (by decide) (by decide) (by decide), e' 14 (by decide) (by decide) (by decide) (by decide)]
  exact ⟨⟨⟨⟨c1, c2, c3⟩, n1, n2, n3⟩, m3, fo, e8.1, e8.2⟩, se, gu, an, nu, st⟩
theorem rz_K.k0 {ζ : Nat → Nat → Int} (h : rz_K ζ) : rz_K0 ζ := ⟨h.1, h.2.1, h.2.2.1, h.2.2.2.1, h.2.2.2.2.1, h.2.2.2.2.2.1⟩
theorem rz_K.of0 {ζ : Nat → Nat → Int} (h : rz_K0 ζ) (h14 : (ζ 0 8).toNat.testBit 14 = true → ∀ k, k < 120 → 0 ≤ ζ 9 k ∧ ζ 9 k ≤ 99) (h15 : (ζ 0 8).toNat.testBit 15 = true → ∀ k, k < 720 → 0 ≤ ζ 10 k ∧ ζ 10 k ≤ 9) : rz_K ζ := ⟨h.1, h.2.1, h.2.2.1, h.2.2.2.1, h.2.2.2.2.1, h.2.2.2.2.2, h14, h15⟩
theorem rz_once_8 (ζ : Nat → Nat → Int) (wd : Nat) : (rz_once ζ wd 0 8).toNat = (ζ 0 8).toNat ||| 2 ^ wd := by
  unfold rz_once; rw [bt_up_same]; omega
theorem rz_once_bit (ζ : Nat → Nat → Int) (wd i : Nat) : (rz_once ζ wd 0 8).toNat.testBit i = ((ζ 0 8).toNat.testBit i || decide (wd = i)) := by
  rw [rz_once_8, Nat.testBit_or, Nat.testBit_two_pow]
theorem rz_once_K0 {ζ : Nat → Nat → Int} {wd : Nat} (h : rz_K ζ) (hw : wd < 16) : rz_K0 (rz_once ζ wd) := by
  have h8 := (h.1.once hw).2.2.2
  exact h.k0.congr (fun k hk => by unfold rz_once; rw [bt_up_ix (by omega)]) h8 (fun j h1 _ _ _ => by unfold rz_once; rw [bt_up_cell (by omega)])
theorem rz_once_K {ζ : Nat → Nat → Int} {wd : Nat} (h : rz_K ζ) (hw : wd < 14) : rz_K (rz_once ζ wd) := by
  have e9 : rz_once ζ wd 9 = ζ 9 := by unfold rz_once; rw [bt_up_cell (by decide)]
  have e10 : rz_once ζ wd 10 = ζ 10 := by unfold rz_once; rw [bt_up_cell (by decide)]
  refine rz_K.of0 (rz_once_K0 h (by omega)) (fun q => ?_) (fun q => ?_)
  · rw [rz_once_bit] at q
    rw [e9]
    exact h.2.2.2.2.2.2.1 (by simpa [show wd ≠ 14 by omega] using q)
  · rw [rz_once_bit] at q
    rw [e10]
    exact h.2.2.2.2.2.2.2 (by simpa [show wd ≠ 15 by omega] using q)
theorem rz_sees_K {t : Nat → Int} {n : Nat} {ζ : Nat → Nat → Int} {c : Nat} (h : rz_K ζ) : rz_K (rz_sees t n (rz_once ζ 14) c).2.2 := by
  have e : ∀ j, j ≠ 9 → (rz_sees t n (rz_once ζ 14) c).2.2 j = rz_once ζ 14 j := fun j hj => by funext k; unfold rz_sees; dsimp only; rw [if_neg (fun q => hj q.1)]
  refine rz_K.of0 ((rz_once_K0 h (wd := 14) (by decide)).congr (fun k _ => by rw [e 0 (by decide)]) (by rw [e 0 (by decide)]; exact (h.1.once (by decide)).2.2.2) (fun j _ _ h9 _ => e j h9)) (fun _ k hk => ?_) (fun q => ?_)
  · unfold rz_sees
    dsimp only
    rw [if_pos ⟨rfl, hk⟩]
    exact ab_cl_rg (by decide)
  · rw [e 0 (by decide), rz_once_bit] at q
    rw [e 10 (by decide)]
    unfold rz_once
    rw [bt_up_cell (by decide)]
    exact h.2.2.2.2.2.2.2 (by simpa using q)
theorem rz_moods_K {t : Nat → Int} {n : Nat} {ζ : Nat → Nat → Int} {c : Nat} (h : rz_K ζ) : rz_K (rz_moods t n (rz_once ζ 15) c).2.2 := by
  have e : ∀ j, j ≠ 10 → (rz_moods t n (rz_once ζ 15) c).2.2 j = rz_once ζ 15 j := fun j hj => by funext k; unfold rz_moods; dsimp only; rw [if_neg (fun q => hj q.1)]
  refine rz_K.of0 ((rz_once_K0 h (wd := 15) (by decide)).congr (fun k _ => by rw [e 0 (by decide)]) (by rw [e 0 (by decide)]; exact (h.1.once (by decide)).2.2.2) (fun j _ _ _ h10 => e j h10)) (fun q => ?_) (fun _ k hk => ?_)
  · rw [e 0 (by decide), rz_once_bit] at q
    rw [e 9 (by decide)]
    unfold rz_once
    rw [bt_up_cell (by decide)]
    exact h.2.2.2.2.2.2.1 (by simpa using q)
  · unfold rz_moods
    dsimp only
    rw [if_pos ⟨rfl, hk⟩]
    exact ab_cl_rg (by decide)
theorem rz_one_0 {t : Nat → Int} {n : Nat} {ζ : Nat → Nat → Int} {c wd : Nat} {P : rz_P} (hf : (rz_one wd P t n ζ c).1 = 0) : rz_one wd P t n ζ c = P t n (rz_once ζ wd) c := by
  unfold rz_one at *
  split at hf
  · dsimp only at hf; omega
  · next h => rw [if_neg h]
theorem rz_line_K {t : Nat → Int} {n : Nat} {ζ : Nat → Nat → Int} {c : Nat} (ht : rz_T t n) (h : rz_K ζ) (hf : (rz_line t n ζ c).1 = 0) : rz_K (rz_line t n ζ c).2.2 := by
  unfold rz_line at *
  split at hf
  · next q => rw [if_pos q]; exact rz_pen_K ht h hf
  next q => rw [if_neg q]; split at hf
            · next q => rw [if_pos q]; exact rz_path_K h hf
            next q => rw [if_neg q]; split at hf
                      · next q => rw [if_pos q]; exact rz_guest_K ht h hf
                      next q => rw [if_neg q]; split at hf
                                · next q => rw [if_pos q]; exact rz_animal_K ht h hf
                                next q => rw [if_neg q]; split at hf
                                          · next q => rw [if_pos q]; exact rz_foe_K h hf
                                          next q => rw [if_neg q]; split at hf
                                                    · next q => rw [if_pos q]; have hq := rz_one_0 hf; rw [hq] at hf ⊢; exact rz_feeds_K (rz_once_K h (by decide)) hf
                                                    next q => rw [if_neg q]; split at hf
                                                              · next q => rw [if_pos q]; have hq := rz_one_0 hf; rw [hq] at hf ⊢; exact rz_tyre_K (rz_once_K h (by decide)) hf
                                                              next q => rw [if_neg q]; split at hf
                                                                        · next q => rw [if_pos q]; have hq := rz_one_0 hf; rw [hq] at hf ⊢; exact rz_rain_K (rz_once_K h (by decide)) hf
                                                                        next q => rw [if_neg q]; split at hf
                                                                                  · next q => rw [if_pos q]; rw [rz_one_0 hf]; exact rz_sees_K h
                                                                                  next q => rw [if_neg q]; split at hf
                                                                                            · next q => rw [if_pos q]; rw [rz_one_0 hf]; exact rz_moods_K h
                                                                                            · dsimp only at hf; omega
