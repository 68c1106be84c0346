/-! faults lie between 0 and what the last token can give -/
def fl_r (n : Nat) (f : Int) : Prop := 0 ≤ f ∧ f ≤ 5 + 16 * (n : Int)
theorem tk_nx_n {t : Nat → Int} {n c : Nat} (h : c ≤ n) : tk_nx t n c ≤ n := (tk_nx_rg h).2.1
theorem tk_j_n {t : Nat → Int} {n c : Nat} (h : c ≤ n) : ∀ k, tk_j t n k c ≤ n
  | 0 => h
  | k + 1 => tk_nx_n (tk_j_n h k)
def fo_fl (n : Nat) (P : fo_P) : Prop := ∀ c, c ≤ n → fl_r n (P c).1 ∧ (P c).2.1 ≤ n
theorem fo_fl_ch {t : Nat → Int} {n : Nat} {op : Nat → Int} {sub : fo_P} (h : fo_fl n sub) : ∀ f c V, c ≤ n → fl_r n (fo_ch op (tk_nx t n) sub f c V).1 ∧ (fo_ch op (tk_nx t n) sub f c V).2.1 ≤ n
  | 0, c, V, hc => ⟨⟨Int.le_refl _, by show (0 : Int) ≤ _; omega⟩, hc⟩
  | f + 1, c, V, hc => by
    have h1 := h (tk_nx t n c) (tk_nx_n hc)
    have h3 := fo_fl_ch (t := t) (op := op) h f (sub (tk_nx t n c)).2.1 (fun F => fo_jn (op c) (V F) ((sub (tk_nx t n c)).2.2 F)) h1.2
    unfold fo_ch
    split
    · exact ⟨⟨Int.le_refl _, by show (0 : Int) ≤ _; omega⟩, hc⟩
    · split
      · exact h3
      · exact h1
theorem fo_fl_cn {t : Nat → Int} {n : Nat} {op : Nat → Int} {sub : fo_P} (h : fo_fl n sub) : fo_fl n (fo_cn op (tk_nx t n) sub) := by
  intro c hc
  have h1 := h c hc
  have h2 := fo_fl_ch (t := t) (op := op) h 1000 (sub c).2.1 (sub c).2.2 h1.2
  unfold fo_cn
  split
  · exact h2
  · exact h1
theorem fo_fl_ts {t : Nat → Int} {n : Nat} {pt : fo_P} (h : fo_fl n pt) : fo_fl n (fo_ts t n pt) := by
  have hs : fo_fl n (fo_su t n pt) := fo_fl_cn (fo_fl_cn h)
  refine fo_fl_cn (fun c hc => ?_)
  have h1 := hs c hc
  have h3 := hs (tk_nx t n (fo_su t n pt c).2.1) (tk_nx_n h1.2)
  unfold fo_te
  split
  · split
    · exact ⟨⟨Int.le_refl _, by show (0 : Int) ≤ _; omega⟩, h3.2⟩
    · exact h3
  · exact h1
theorem fo_fl_pt {t : Nat → Int} {n al : Nat} : ∀ k, fo_fl n (fo_pt t n al k)
  | 0 => fun c hc => by
    unfold fo_pt fl_r
    refine ⟨?_, hc⟩
    dsimp only
    split <;> omega
  | k + 1 => fun c hc => by
    have ih := fo_fl_pt (t := t) (n := n) (al := al) k
    have h1 := tk_nx_n (t := t) hc
    have h2 := fo_fl_ts (t := t) ih (tk_nx t n c) h1
    have h3 := ih (tk_nx t n c) h1
    have h4 := tk_nx_n (t := t) h2.2
    have z : fl_r n 0 := ⟨Int.le_refl _, by omega⟩
    unfold fo_pt
    split
    · exact ⟨⟨by show (0 : Int) ≤ 1 + 16 * (c : Int); omega, by show 1 + 16 * (c : Int) ≤ _; omega⟩, hc⟩
    · split
      · exact ⟨z, h1⟩
      · split
        · exact ⟨z, h1⟩
        · split
          · split
            · split
              · exact ⟨z, h4⟩
              · have := h2.2
                exact ⟨⟨by show (0 : Int) ≤ 1 + 16 * ((fo_ts t n (fo_pt t n al k) (tk_nx t n c)).2.1 : Int); omega, by show 1 + 16 * ((fo_ts t n (fo_pt t n al k) (tk_nx t n c)).2.1 : Int) ≤ _; omega⟩, h2.2⟩
            · exact h2
          · split
            · exact ⟨z, h3.2⟩
            · exact h3
theorem rz_nu_r {t : Nat → Int} {n lo hi c : Nat} (h : c ≤ n) : fl_r n (rz_nu t n lo hi c) := by
  unfold rz_nu fl_r
  split
  · split <;> omega
  · omega
theorem rz_ki_r {t : Nat → Int} {n c : Nat} (h : c ≤ n) : fl_r n (rz_ki t n c) := by
  unfold rz_ki fl_r
  split <;> omega
theorem rz_nn_r {t : Nat → Int} {n : Nat} {ζ : Nat → Nat → Int} {c : Nat} (h : c ≤ n) : fl_r n (rz_nn t n ζ c) := by
  unfold rz_nn fl_r
  split
  · split <;> omega
  · omega
theorem rz_to_r {t : Nat → Int} {n : Nat} {nm : Nat → Int} {k c : Nat} (h : c ≤ n) : fl_r n (rz_to t n nm k c) := by
  unfold rz_to fl_r
  split
  · split <;> omega
  · omega
theorem rz_pw_r {t : Nat → Int} {n k c : Nat} (h : c ≤ n) : fl_r n (rz_pw t n k c) := by
  unfold rz_pw fl_r
  split <;> omega
theorem rz_pr_r {t : Nat → Int} {n : Nat} {nm : Nat → Int} {k c : Nat} (h : c ≤ n) : fl_r n (rz_pr t n nm k c) := by
  have h1 := tk_nx_n (t := t) h
  have h2 := tk_nx_n (t := t) h1
  unfold rz_pr
  split
  · exact rz_to_r h1
  · split
    · exact rz_to_r h2
    · unfold fl_r
      split <;> omega
theorem rz_line_r {t : Nat → Int} {n : Nat} {ζ : Nat → Nat → Int} {c : Nat} (h : c ≤ n) : fl_r n (rz_line t n ζ c).1 ∧ (rz_line t n ζ c).2.1 ≤ n := by
  have j := tk_j_n (t := t) h
  have f5 : fl_r n (5 + 16 * (c : Int)) := by unfold fl_r; omega
  have f3 : fl_r n (3 + 16 * (c : Int)) := by unfold fl_r; omega
  have f32 : fl_r n (3 + 16 * (tk_j t n 2 c : Int)) := by have := j 2; unfold fl_r; omega
  have f1 : fl_r n (1 + 16 * (c : Int)) := by unfold fl_r; omega
  have f0 : fl_r n 0 := by unfold fl_r; omega
  have hs : ∀ ζ, fl_r n (rz_sees t n ζ c).1 ∧ (rz_sees t n ζ c).2.1 ≤ n := fun ζ => fo_fl_ts (fo_fl_pt 5) _ (j 1)
  have hm : ∀ ζ, fl_r n (rz_moods t n ζ c).1 ∧ (rz_moods t n ζ c).2.1 ≤ n := fun ζ => fo_fl_ts (fo_fl_pt 5) _ (j 1)
  have h1 : ∀ wd P, (∀ ζ, fl_r n (P t n ζ c).1 ∧ (P t n ζ c).2.1 ≤ n) → fl_r n (rz_one wd P t n ζ c).1 ∧ (rz_one wd P t n ζ c).2.1 ≤ n := fun wd P hP => by
    unfold rz_one
    split
    · exact ⟨f3, h⟩
    · exact hP _
  unfold rz_line
  split
  · refine ⟨?_, j 4⟩
    unfold rz_pen
    dsimp only
    repeat' split
    · exact f5
    · exact rz_nn_r (j 1)
    · exact rz_pw_r (j 2)
    · exact rz_nu_r (j 3)
  split
  · refine ⟨?_, j 4⟩
    unfold rz_path
    dsimp only
    repeat' split
    · exact rz_pr_r h
    · exact f32
    · exact rz_nu_r (j 3)
  split
  · refine ⟨?_, j 7⟩
    unfold rz_guest
    dsimp only
    repeat' split
    · exact f5
    · exact rz_nn_r (j 1)
    · exact rz_ki_r (j 2)
    · exact rz_pw_r (j 3)
    · exact rz_nu_r (j 4)
    · exact rz_pw_r (j 5)
    · exact rz_to_r (j 6)
  split
  · refine ⟨?_, j 6⟩
    unfold rz_animal
    dsimp only
    repeat' split
    · exact f5
    · exact rz_nn_r (j 1)
    · exact rz_pw_r (j 2)
    · exact rz_ki_r (j 3)
    · exact rz_pw_r (j 4)
    · exact rz_nu_r (j 5)
  split
  · refine ⟨?_, j 3⟩
    unfold rz_foe
    dsimp only
    repeat' split
    · exact rz_pr_r h
    · exact f32
    · exact f0
  split
  · exact h1 10 rz_feeds (fun ζ => ⟨rz_nu_r (j 1), j 2⟩)
  split
  · refine h1 11 rz_tyre (fun ζ => ⟨?_, j 4⟩)
    unfold rz_tyre
    dsimp only
    repeat' split
    · exact rz_nu_r (j 1)
    · exact rz_pw_r (j 2)
    · exact rz_nu_r (j 3)
  split
  · exact h1 13 rz_rain (fun ζ => ⟨rz_nu_r (j 1), j 2⟩)
  split
  · exact h1 14 rz_sees hs
  split
  · exact h1 15 rz_moods hm
  · exact ⟨f1, h⟩
theorem rz_all_r {t : Nat → Int} {n : Nat} : ∀ f ζ c, c ≤ n → fl_r n (rz_all t n f ζ c).1
  | 0, ζ, c, _ => ⟨Int.le_refl _, by show (0 : Int) ≤ _; omega⟩
  | f + 1, ζ, c, hc => by
    have h1 := rz_line_r (ζ := ζ) hc (t := t)
    have h2 := h1.2
    unfold rz_all
    split
    · exact ⟨Int.le_refl _, by show (0 : Int) ≤ _; omega⟩
    · split
      · exact h1.1
      · split
        · exact rz_all_r f _ _ (tk_nx_n h1.2)
        · exact ⟨by show (0 : Int) ≤ 1 + 16 * ((rz_line t n ζ c).2.1 : Int); omega, by show 1 + 16 * ((rz_line t n ζ c).2.1 : Int) ≤ _; omega⟩
theorem rz_dy_r {t : Nat → Int} {n : Nat} {ζ : Nat → Nat → Int} {lc c : Nat} (h : c ≤ n) : fl_r n (rz_dy t n ζ lc c).1 ∧ (rz_dy t n ζ lc c).2.1 ≤ n := by
  have j := tk_j_n (t := t) h
  have f0 : fl_r n 0 := by unfold fl_r; omega
  unfold rz_dy
  split
  · exact ⟨⟨by show (0 : Int) ≤ 1 + 16 * (c : Int); omega, by show 1 + 16 * (c : Int) ≤ _; omega⟩, h⟩
  split
  · exact ⟨⟨by show (0 : Int) ≤ 5 + 16 * (c : Int); omega, by show 5 + 16 * (c : Int) ≤ _; omega⟩, h⟩
  split
  · exact ⟨f0, j 1⟩
  split
  · exact ⟨rz_to_r (j 1), h⟩
  split
  · exact ⟨f0, j 2⟩
  split
  · exact ⟨rz_to_r (j 2), h⟩
  · exact ⟨f0, j 3⟩
theorem rz_dal_r {t : Nat → Int} {n : Nat} {ζ : Nat → Nat → Int} : ∀ f lc ln c, c ≤ n → fl_r n (rz_dal t n ζ f lc ln c).1
  | 0, lc, ln, c, _ => ⟨Int.le_refl _, by show (0 : Int) ≤ _; omega⟩
  | f + 1, lc, ln, c, hc => by
    have h1 := rz_dy_r (ζ := ζ) (lc := lc) hc (t := t)
    have h2 := h1.2
    unfold rz_dal
    split
    · exact ⟨Int.le_refl _, by show (0 : Int) ≤ _; omega⟩
    · split
      · exact h1.1
      · split
        · exact rz_dal_r f _ _ _ (tk_nx_n h1.2)
        · exact ⟨by show (0 : Int) ≤ 1 + 16 * ((rz_dy t n ζ lc c).2.1 : Int); omega, by show 1 + 16 * ((rz_dy t n ζ lc c).2.1 : Int) ≤ _; omega⟩
