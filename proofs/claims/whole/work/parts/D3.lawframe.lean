/-! the law's frame: its script, and its ends -/
def bt_nix : bt_K := fun _ _ _ => False
theorem bw_nix {X : bt_X} {nL : Nat} (cs : Nat × Nat) (pc : Nat) : bt_Snd X nL cs pc bt_nix := by
  obtain ⟨p, l, e, R, s, m, args, below, meth, c, A, H0, D, cy, Q, ad⟩ := X
  intro st L w H locs ls hk
  exact hk.elim
theorem bw_widen {X : bt_X} {nL pc : Nat} {cs cs' : Nat × Nat} {k : bt_K} (h1 : cs.1 ≤ cs'.1) (h2 : cs.2 ≤ cs'.2) (h : bt_Snd X nL cs' pc k) : bt_Snd X nL cs pc k := by
  obtain ⟨p, l, e, R, s, m, args, below, meth, c, A, H0, D, cy, Q, ad⟩ := X
  intro st L w H locs ls hk hR hS hl
  exact W.widen h1 h2 (h st L w H locs ls hk hR hS hl)
def bt_Sc (X : bt_X) (n : Nat) (xs : Nat → Int32) : Prop := match X with
  | (_, _, _, _, s, _, _, _, _, _, A, H0, _, _, _, ad) => va_X (ad 999) n xs s H0 ∧ ad 999 < H0.size ∧ ¬ A (ad 999)
def bt_sia (n : Nat) (x : Nat → Int) (k : bt_K) : bt_K := fun st L w => match st with
  | .inl i :: .inr (.inr q) :: r => (q = 999 ∧ 0 ≤ bt_w i ∧ bt_w i < (n : Int)) ∧ k (.inl (x (bt_w i).toNat) :: r) L w
  | _ => False
def bt_slk (n : Nat) (k : bt_K) : bt_K := fun st L w => match st with
  | .inr (.inr q) :: r => q = 999 ∧ k (.inl (n : Int) :: r) L w
  | _ => False
theorem bw_sia {X : bt_X} {cc : ByteArray} {nL : Nat} {own : String} {dd : Room} {cs : Nat × Nat} {pc n : Nat} {xs : Nat → Int32} {k : bt_K} (hX : bt_Ow X cc nL own dd) (hs : bt_Sc X n xs) (hd : decode cc pc = .ok (.iaload, 1)) (h : bt_Snd X nL cs (pc + 1) k) : bt_Snd X nL cs pc (bt_sia n (fun j => (xs j).toInt) k) := by
  obtain ⟨p, l, e, R, s, m, args, below, meth, c, A, H0, D, cy, Q, ad⟩ := X
  obtain ⟨hx, hb, hml, hown, hts, hK, hlocks, hA, hrm, hnw⟩ := hX
  intro st L w H locs ls hk hR hS hl
  match st, hk with
  | .inl i :: .inr (.inr q) :: r, hk =>
    obtain ⟨⟨rfl, h0, h1⟩, hk⟩ := hk
    have h2 := h _ L w H locs ls hk hR hS hl
    have e9 : bt_i (xs (bt_w i).toNat).toInt = xs (bt_i i).toNatClampNeg := Int32.ofInt_toInt _
    simp only [List.map_cons, bt_val, e9] at h2 ⊢
    exact va_sld hx hb hs.1 hs.2.1 hs.2.2 hS (bt_vpin h0 h1) hd h2
theorem bw_slk {X : bt_X} {cc : ByteArray} {nL : Nat} {own : String} {dd : Room} {cs : Nat × Nat} {pc n : Nat} {xs : Nat → Int32} {k : bt_K} (hX : bt_Ow X cc nL own dd) (hs : bt_Sc X n xs) (hd : decode cc pc = .ok (.arraylength, 1)) (h : bt_Snd X nL cs (pc + 1) k) : bt_Snd X nL cs pc (bt_slk n k) := by
  obtain ⟨p, l, e, R, s, m, args, below, meth, c, A, H0, D, cy, Q, ad⟩ := X
  obtain ⟨hx, hb, hml, hown, hts, hK, hlocks, hA, hrm, hnw⟩ := hX
  intro st L w H locs ls hk hR hS hl
  match st, hk with
  | .inr (.inr q) :: r, hk =>
    obtain ⟨rfl, hk⟩ := hk
    have h2 := h _ L w H locs ls hk hR hS hl
    have e9 : bt_i (n : Int) = Int32.ofNat n := by
      apply Int32.toInt_inj.mp
      simp [bt_i]
    simp only [List.map_cons, bt_val, e9] at h2 ⊢
    exact va_slen hx hb hs.1 hs.2.1 hs.2.2 hS hd h2
/-- the end of the law: true -/
def bt_En (X : bt_X) : Prop := match X with
  | (_, _, _, _, s, _, args, below, meth, _, A, _, _, _, Q, _) => (∃ b : Nat, args = #[Value.ref b] ∧ Q = lw_Z below #[Value.ref b] s) ∧ meth.sig.returnType = ret ∧ ∀ q, A q → s.heap.size ≤ q
def bt_fin : bt_K := fun st _ _ => st = []
theorem bw_fin {X : bt_X} {cs : Nat × Nat} (hX : bt_Ow X cL_law 7 RL room_1) (hE : bt_En X) (h1 : cs.1 ≤ 601024) (h2 : cs.2 ≤ 7293033) : bt_Snd X 7 cs 1028 bt_fin := by
  obtain ⟨p, l, e, R, s, m, args, below, meth, c, A, H0, D, cy, Q, ad⟩ := X
  obtain ⟨hx, hb, hml, hown, hts, hK, hlocks, hA, hrm, hnw⟩ := hX
  obtain ⟨⟨b, rfl, rfl⟩, hr, hA2⟩ := hE
  subst hrm
  intro st L w H locs ls hk hR hS hl
  cases hk
  refine lv_iconst hx hb dL_law_1028 (v := 1) (by decide) ?_
  refine va_forget (fun q hq => hA2 _ (hS.2.2 q hq)) ?_
  refine W.widen (k := 601024) (n := 7293033) h1 h2 ?_
  exact lw_ret hx hb hr hlocks dL_law_1029
