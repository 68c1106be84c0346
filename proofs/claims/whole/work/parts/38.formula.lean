/-! laws: reading them, working them out -/
abbrev fo_V : Type := (Nat → Int) → Int
abbrev fo_R : Type := Int × Nat × fo_V
abbrev fo_P : Type := Nat → fo_R
def fo_jn (o l r : Int) : Int := if o = -11 then (if bt_w l ≠ 0 ∧ bt_w r ≠ 0 then 1 else 0) else if o = -12 then (if bt_w l ≠ 0 ∨ bt_w r ≠ 0 then 1 else 0) else if o = -13 then (if bt_w l < bt_w r then 1 else 0) else if o = -14 then (if bt_w l = bt_w r then 1 else 0) else if o = -15 then l + r else if o = -16 then l - r else l * r
def fo_nt (v : Int) : Int := if bt_w v = 0 then 1 else 0
def fo_opT (t : Nat → Int) (n c : Nat) : Int := if tk_k t n c = 42 then -17 else 0
def fo_opS (t : Nat → Int) (n c : Nat) : Int := if tk_k t n c = 43 then -15 else if tk_k t n c = 45 then -16 else 0
def fo_opC (t : Nat → Int) (n c : Nat) : Int := if tk_k t n c = 60 then -13 else if tk_k t n c = 61 then -14 else 0
def fo_opL (t : Nat → Int) (n c : Nat) : Int := if tk_w t n c = 23 then -11 else if tk_w t n c = 24 then -12 else 0
def fo_ch (op : Nat → Int) (nx : Nat → Nat) (sub : fo_P) : Nat → Nat → fo_V → fo_R
  | 0, c, V => (0, c, V)
  | f + 1, c, V => if op c = 0 then (0, c, V) else if (sub (nx c)).1 = 0 then fo_ch op nx sub f (sub (nx c)).2.1 (fun F => fo_jn (op c) (V F) ((sub (nx c)).2.2 F)) else sub (nx c)
def fo_cn (op : Nat → Int) (nx : Nat → Nat) (sub : fo_P) (c : Nat) : fo_R := if (sub c).1 = 0 then fo_ch op nx sub 1000 (sub c).2.1 (sub c).2.2 else sub c
def fo_pr (t : Nat → Int) (n : Nat) (pt : fo_P) : fo_P := fo_cn (fo_opT t n) (tk_nx t n) pt
def fo_su (t : Nat → Int) (n : Nat) (pt : fo_P) : fo_P := fo_cn (fo_opS t n) (tk_nx t n) (fo_pr t n pt)
def fo_te (t : Nat → Int) (n : Nat) (pt : fo_P) : fo_P := fun c =>
  if (fo_su t n pt c).1 = 0 ∧ fo_opC t n (fo_su t n pt c).2.1 ≠ 0 then
    (if (fo_su t n pt (tk_nx t n (fo_su t n pt c).2.1)).1 = 0 then (0, (fo_su t n pt (tk_nx t n (fo_su t n pt c).2.1)).2.1, fun F => fo_jn (fo_opC t n (fo_su t n pt c).2.1) ((fo_su t n pt c).2.2 F) ((fo_su t n pt (tk_nx t n (fo_su t n pt c).2.1)).2.2 F)) else fo_su t n pt (tk_nx t n (fo_su t n pt c).2.1))
  else fo_su t n pt c
def fo_ts (t : Nat → Int) (n : Nat) (pt : fo_P) : fo_P := fo_cn (fo_opL t n) (tk_nx t n) (fo_te t n pt)
/-- a fact that the law may name -/
def fo_fa (t : Nat → Int) (n al c : Nat) : Bool := decide (25 ≤ tk_w t n c) && al.testBit (tk_w t n c - 25).toNat
def fo_st (t : Nat → Int) (n al c : Nat) : Bool := fo_fa t n al c || decide (tk_k t n c = 40) || decide (tk_w t n c = 22) || decide (tk_k t n c = 2)
def fo_pt (t : Nat → Int) (n al : Nat) : Nat → fo_P
  | 0 => fun c => (if fo_st t n al c then 5 + 16 * (c : Int) else 1 + 16 * (c : Int), c, fun _ => 0)
  | k + 1 => fun c =>
    if ¬ fo_st t n al c then (1 + 16 * (c : Int), c, fun _ => 0)
    else if fo_fa t n al c then (0, tk_nx t n c, fun F => F (tk_w t n c - 25).toNat)
    else if tk_k t n c = 2 then (0, tk_nx t n c, fun _ => tk_v t n c)
    else if tk_k t n c = 40 then
      (if (fo_ts t n (fo_pt t n al k) (tk_nx t n c)).1 = 0 then
        (if tk_k t n (fo_ts t n (fo_pt t n al k) (tk_nx t n c)).2.1 = 41 then (0, tk_nx t n (fo_ts t n (fo_pt t n al k) (tk_nx t n c)).2.1, (fo_ts t n (fo_pt t n al k) (tk_nx t n c)).2.2)
        else (1 + 16 * ((fo_ts t n (fo_pt t n al k) (tk_nx t n c)).2.1 : Int), (fo_ts t n (fo_pt t n al k) (tk_nx t n c)).2.1, fun _ => 0))
      else fo_ts t n (fo_pt t n al k) (tk_nx t n c))
    else (if (fo_pt t n al k (tk_nx t n c)).1 = 0 then (0, (fo_pt t n al k (tk_nx t n c)).2.1, fun F => fo_nt ((fo_pt t n al k (tk_nx t n c)).2.2 F)) else fo_pt t n al k (tk_nx t n c))
/-- the steps worked out on a stack -/
def fo_e1 (F : Nat → Int) (q : Nat × (Nat → Int)) (x : Int) : Nat × (Nat → Int) :=
  if -10 < x then (if q.1 < 32 then (q.1 + 1, ab_put q.2 q.1 (if 0 ≤ x then x else if x < -5 then 0 else F (-1 - x).toNat)) else q)
  else if x = -10 then (if 1 ≤ q.1 then (q.1, ab_put q.2 (q.1 - 1) (fo_nt (q.2 (q.1 - 1)))) else q)
  else if 2 ≤ q.1 then (q.1 - 1, ab_put q.2 (q.1 - 2) (fo_jn x (q.2 (q.1 - 2)) (q.2 (q.1 - 1)))) else q
def fo_ev (F : Nat → Int) (st : Nat → Int) : Nat → Nat → Nat × (Nat → Int) → Nat × (Nat → Int)
  | 0, _, q => q
  | c + 1, i, q => fo_ev F st c (i + 1) (fo_e1 F q (st i))
theorem fo_ev_add (F : Nat → Int) (st : Nat → Int) (b : Nat) : ∀ a i q, fo_ev F st (a + b) i q = fo_ev F st b (i + a) (fo_ev F st a i q)
  | 0, i, q => by rw [Nat.zero_add]; rfl
  | a + 1, i, q => by
    rw [show a + 1 + b = (a + b) + 1 by omega]
    show fo_ev F st (a + b) (i + 1) _ = _
    rw [fo_ev_add F st b a (i + 1), show i + 1 + a = i + (a + 1) by omega]
    rfl
theorem fo_ev_s (F : Nat → Int) (st : Nat → Int) (a i : Nat) (q : Nat × (Nat → Int)) : fo_ev F st (a + 1) i q = fo_e1 F (fo_ev F st a i q) (st (i + a)) := by
  rw [fo_ev_add F st 1 a i q]; rfl
theorem fo_ev_congr {F : Nat → Int} {st st' : Nat → Int} : ∀ a i q, (∀ x, i ≤ x → x < i + a → st x = st' x) → fo_ev F st a i q = fo_ev F st' a i q
  | 0, _, _, _ => rfl
  | a + 1, i, q, h => by
    show fo_ev F st a (i + 1) _ = fo_ev F st' a (i + 1) _
    rw [h i (by omega) (by omega), fo_ev_congr a (i + 1) _ (fun x h1 h2 => h x (by omega) (by omega))]
/-- the steps from s to s' put the value V on a stack of at most H -/
def fo_Em (st : Nat → Int) (s s' H : Nat) (V : fo_V) : Prop := s ≤ s' ∧ (∀ x, s ≤ x → x < s' → -17 ≤ st x ∧ st x ≤ 9999) ∧ ∀ F h q, h ≤ H → (fo_ev F st (s' - s) s (h, q)).1 = h + 1 ∧ (fo_ev F st (s' - s) s (h, q)).2 h = V F ∧ ∀ x, x < h → (fo_ev F st (s' - s) s (h, q)).2 x = q x
theorem fo_Em.congr {st st' : Nat → Int} {s s' H : Nat} {V : fo_V} (h : fo_Em st s s' H V) (e : ∀ x, s ≤ x → x < s' → st' x = st x) : fo_Em st' s s' H V := by
  refine ⟨h.1, fun x h1 h2 => by rw [e x h1 h2]; exact h.2.1 x h1 h2, fun F k q hk => ?_⟩
  rw [fo_ev_congr (st := st') (st' := st) _ _ _ (fun x h1 h2 => e x h1 (by have := h.1; omega))]
  exact h.2.2 F k q hk
theorem fo_Em.weak {st : Nat → Int} {s s' H H' : Nat} {V : fo_V} (h : fo_Em st s s' H V) (e : H' ≤ H) : fo_Em st s s' H' V := ⟨h.1, h.2.1, fun F k q hk => h.2.2 F k q (by omega)⟩
theorem fo_Em.at {st : Nat → Int} {s H : Nat} {V : fo_V} (hH : H < 32) (h : (0 ≤ st s ∧ st s ≤ 9999 ∧ ∀ F, V F = st s) ∨ (-5 ≤ st s ∧ st s ≤ -1 ∧ ∀ F, V F = F (-1 - st s).toNat)) : fo_Em st s (s + 1) H V := by
  refine ⟨by omega, fun x h1 h2 => ?_, fun F k q hk => ?_⟩
  · have : x = s := by omega
    subst this
    omega
  · rw [show s + 1 - s = 1 by omega]
    show (fo_e1 F (k, q) (st s)).1 = _ ∧ (fo_e1 F (k, q) (st s)).2 k = _ ∧ ∀ x, x < k → (fo_e1 F (k, q) (st s)).2 x = _
    unfold fo_e1
    rw [if_pos (by omega), if_pos (by show k < 32; omega)]
    refine ⟨rfl, ?_, fun x hx => ?_⟩
    · show ab_put q k _ k = _
      unfold ab_put
      rw [if_pos rfl]
      rcases h with ⟨h1, h2, h3⟩ | ⟨h1, h2, h3⟩
      · rw [if_pos h1, h3]
      · rw [if_neg (by omega), if_neg (by omega), h3]
    · show ab_put q k _ x = _
      unfold ab_put
      rw [if_neg (by omega)]
theorem fo_Em.nt {st : Nat → Int} {s s1 H : Nat} {V : fo_V} (h : fo_Em st s s1 H V) (e : st s1 = -10) : fo_Em st s (s1 + 1) H (fun F => fo_nt (V F)) := by
  have h1 := h.1
  refine ⟨by omega, fun x h2 h3 => ?_, fun F k q hk => ?_⟩
  · by_cases he : x = s1
    · rw [he, e]; omega
    · exact h.2.1 x h2 (by omega)
  · rw [show s1 + 1 - s = (s1 - s) + 1 by omega, fo_ev_s, show s + (s1 - s) = s1 by omega, e]
    obtain ⟨a1, a2, a3⟩ := h.2.2 F k q hk
    generalize fo_ev F st (s1 - s) s (k, q) = w at *
    unfold fo_e1
    rw [if_neg (by decide), if_pos rfl, if_pos (by omega)]
    have e1 : w.1 - 1 = k := by omega
    rw [e1]
    refine ⟨a1, ?_, fun x hx => ?_⟩
    · show ab_put w.2 k _ k = _
      unfold ab_put
      rw [if_pos rfl, a2]
    · show ab_put w.2 k _ x = _
      unfold ab_put
      rw [if_neg (by omega)]
      exact a3 x hx
theorem fo_Em.bin {st : Nat → Int} {s s1 s2 H : Nat} {V W : fo_V} {o : Int} (h : fo_Em st s s1 H V) (h' : fo_Em st s1 s2 (H + 1) W) (e : st s2 = o) (ho : -17 ≤ o ∧ o < -10) : fo_Em st s (s2 + 1) H (fun F => fo_jn o (V F) (W F)) := by
  have h1 := h.1
  have h2 := h'.1
  refine ⟨by omega, fun x h3 h4 => ?_, fun F k q hk => ?_⟩
  · by_cases he : x = s2
    · rw [he, e]; omega
    · by_cases he2 : x < s1
      · exact h.2.1 x h3 he2
      · exact h'.2.1 x (by omega) (by omega)
  · rw [show s2 + 1 - s = ((s1 - s) + (s2 - s1)) + 1 by omega, fo_ev_s, fo_ev_add, show s + ((s1 - s) + (s2 - s1)) = s2 by omega, show s + (s1 - s) = s1 by omega, e]
    obtain ⟨a1, a2, a3⟩ := h.2.2 F k q hk
    generalize fo_ev F st (s1 - s) s (k, q) = w at *
    obtain ⟨w1, w2⟩ := w
    dsimp only at a1 a2 a3
    subst a1
    obtain ⟨b1, b2, b3⟩ := h'.2.2 F (k + 1) w2 (by omega)
    generalize fo_ev F st (s2 - s1) s1 (k + 1, w2) = u at *
    unfold fo_e1
    rw [if_neg (by omega), if_neg (by omega), if_pos (by omega)]
    have e1 : u.1 - 2 = k := by omega
    have e2 : u.1 - 1 = k + 1 := by omega
    rw [e1, e2]
    refine ⟨rfl, ?_, fun x hx => ?_⟩
    · show ab_put u.2 k _ k = _
      unfold ab_put
      rw [if_pos rfl, b2, b3 k (by omega), a2]
    · show ab_put u.2 k _ x = _
      unfold ab_put
      rw [if_neg (by omega), b3 x (by omega)]
      exact a3 x hx
