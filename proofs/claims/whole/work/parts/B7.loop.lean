/-! loops that allocate: one round after another -/
def bt_no : bt_K := fun _ _ _ => False
theorem bt_fal {X : bt_X} {nL : Nat} {cs : Nat × Nat} {pc : Nat} : bt_Snd X nL cs pc bt_no := by
  obtain ⟨p, l, e, R, s, m, args, below, meth, c, A, H0, D, cy, Q, ad⟩ := X
  intro st L w H locs ls hk
  exact hk.elim
def bt_lo (c : bt_K → bt_K → bt_K) (b : Nat → bt_K → bt_K) (dn : Nat) (E : bt_K) : Nat → Nat → bt_K
  | 0, _ => c bt_no E
  | j + 1, N => c (b N (bt_lo c b dn E j (N + dn))) bt_no
def bt_gL (G : Nat → (Nat → Nat → Option Nat) → Nat → Nat → Option Nat) (a dn : Nat) : Nat → Nat → Nat → (Nat → Nat → Option Nat) → Nat → Nat → Option Nat
  | 0, _, _, ρ => ρ
  | j + 1, i, N, ρ => bt_gL G a dn j (i + 1) (N + dn) (bt_ur (G N ρ) a i N)
def bt_mL (M : Nat → (Nat → Nat → Int) → Nat → Nat → Int) (dn : Nat) : Nat → Nat → (Nat → Nat → Int) → Nat → Nat → Int
  | 0, _, μ => μ
  | j + 1, N, μ => bt_mL M dn j (N + dn) (M N μ)
set_option maxHeartbeats 4000000 in
theorem mk_loop {c f kd ck mc n a s : Nat} {l : List (Nat × Nat)} {G : Nat → (Nat → Nat → Option Nat) → Nat → Nat → Option Nat} {M : Nat → (Nat → Nat → Int) → Nat → Nat → Int} {E : bt_K} (hn : n ≤ 100) (hc : (bt_sh0 s).1 = c) (ha : bt_sh0 a = (kd, n)) (hsa : s ≠ a) (hck : ∀ N, bt_shs N l → (bt_sh0 N).1 = ck) (hG : ∀ N ρ, s < N → G N ρ s f = ρ s f) : ∀ (j i N : Nat) (ρ : Nat → Nat → Option Nat) (μ : Nat → Nat → Int), i + j = n → s < N → a < N → N + (mc + 1) * j ≤ 262 → (∀ t, t < j → bt_shs (N + (mc + 1) * t) l) → ρ s f = some a → bt_nz N ρ μ → (bt_nz (N + (mc + 1) * j) (bt_gL G a (mc + 1) j i N ρ) (bt_mL M (mc + 1) j N μ) → E [] [some (.inr (.inr s)), some (.inl (n : Int))] (bt_wn (N + (mc + 1) * j) (bt_gL G a (mc + 1) j i N ρ) (bt_mL M (mc + 1) j N μ))) →
    bt_lo (fun B E => bt_ild 1 (bt_ic (n : Int) (bt_icmpge E B))) (fun N K => bt_ald 0 (bt_gfR c f (bt_ild 1 (bt_new ck N (bt_dup (bt_cI 0 [2] (N + 1) (bt_SpC mc l G M) (bt_aas kd ck (bt_inc 1 1 K)))))))) (mc + 1) E j N [] [some (.inr (.inr s)), some (.inl (i : Int))] (bt_wn N ρ μ) := by
  intro j
  induction j with
  | zero =>
    intro i N ρ μ hij hs haN hb hsh hr hz hE
    have hi : i = n := by omega
    subst hi
    simp only [bt_lo, bt_ild, bt_ic, bt_icmpge, bt_loc, bt_locs, List.getElem?_cons_zero, List.getElem?_cons_succ, List.set_cons_zero, List.set_cons_succ, List.map_cons, List.map_nil, List.take_succ_cons, List.take_zero, List.drop_succ_cons, List.drop_zero, List.reverse_cons, List.reverse_nil, List.nil_append, List.cons_append, List.append_nil, List.length_cons, List.length_nil, List.replicate_succ, List.replicate_zero, Option.toList_some, Option.toList_none, Nat.reduceAdd, Nat.reduceSub, Nat.reduceLeDiff, Nat.zero_add, Nat.zero_le, true_and, and_true, Int.toNat_natCast, Sum.inl.injEq, Sum.inr.injEq, ↓reduceIte, Nat.reduceEqDiff]
    rw [if_pos (Int.le_refl _)]
    exact hE hz
  | succ j ih =>
    intro i N ρ μ hij hs haN hb hsh hr hz hE
    have e1 : (mc + 1) * (j + 1) = (mc + 1) + (mc + 1) * j := by rw [Nat.mul_succ]; omega
    have hw : bt_w (i : Int) = i := bt_w_id (by omega) (by omega)
    have hw2 : bt_w (n : Int) = n := bt_w_id (by omega) (by omega)
    have hsh0 := hsh 0 (by omega)
    simp only [Nat.mul_zero, Nat.add_zero] at hsh0
    simp only [bt_lo, bt_ild, bt_ic, bt_icmpge, bt_loc, bt_locs, List.getElem?_cons_zero, List.getElem?_cons_succ, List.set_cons_zero, List.set_cons_succ, List.map_cons, List.map_nil, List.take_succ_cons, List.take_zero, List.drop_succ_cons, List.drop_zero, List.reverse_cons, List.reverse_nil, List.nil_append, List.cons_append, List.append_nil, List.length_cons, List.length_nil, List.replicate_succ, List.replicate_zero, Option.toList_some, Option.toList_none, Nat.reduceAdd, Nat.reduceSub, Nat.reduceLeDiff, Nat.zero_add, Nat.zero_le, true_and, and_true, Int.toNat_natCast, Sum.inl.injEq, Sum.inr.injEq, ↓reduceIte, Nat.reduceEqDiff, hw, hw2]
    rw [if_neg (by omega)]
    simp only [bt_ald, bt_gfR, bt_ild, bt_new, bt_dup, bt_cI, bt_gr, bt_loc, bt_locs, List.getElem?_cons_zero, List.getElem?_cons_succ, List.set_cons_zero, List.set_cons_succ, List.map_cons, List.map_nil, List.take_succ_cons, List.take_zero, List.drop_succ_cons, List.drop_zero, List.reverse_cons, List.reverse_nil, List.nil_append, List.cons_append, List.append_nil, List.length_cons, List.length_nil, List.replicate_succ, List.replicate_zero, Option.toList_some, Option.toList_none, Nat.reduceAdd, Nat.reduceSub, Nat.reduceLeDiff, Nat.zero_add, Nat.zero_le, true_and, and_true, Int.toNat_natCast, Sum.inl.injEq, Sum.inr.injEq, ↓reduceIte, Nat.reduceEqDiff, bt_sig, bt_tg, bt_SpC, bt_ret, hr]
    refine ⟨⟨hs, hc⟩, ⟨hck N hsh0, fun k => (hz N (Nat.le_refl _) k).1, fun k => (hz N (Nat.le_refl _) k).2⟩, N, ρ, μ, rfl, rfl, by omega, hsh0, hz.mono (Nat.le_succ N), fun hz1 => ?_⟩
    simp only [bt_aas, bt_ix, bt_sr, bt_inc, bt_loc, bt_locs, List.getElem?_cons_zero, List.getElem?_cons_succ, List.set_cons_zero, List.set_cons_succ, List.map_cons, List.map_nil, List.take_succ_cons, List.take_zero, List.drop_succ_cons, List.drop_zero, List.reverse_cons, List.reverse_nil, List.nil_append, List.cons_append, List.append_nil, List.length_cons, List.length_nil, List.replicate_succ, List.replicate_zero, Option.toList_some, Option.toList_none, Nat.reduceAdd, Nat.reduceSub, Nat.reduceLeDiff, Nat.zero_add, Nat.zero_le, true_and, and_true, Int.toNat_natCast, Sum.inl.injEq, Sum.inr.injEq, ↓reduceIte, Nat.reduceEqDiff, hw, ha]
    refine ⟨⟨⟨by omega, by omega, by omega⟩, by omega, hck N hsh0⟩, ?_⟩
    have h2 := ih (i + 1) (N + (mc + 1)) (bt_ur (G N ρ) a i N) (M N μ) (by omega) (by omega) (by omega) (by omega) (fun t ht => by
      have := hsh (t + 1) (by omega)
      rw [Nat.mul_succ] at this
      rw [show N + (mc + 1) + (mc + 1) * t = N + ((mc + 1) * t + (mc + 1)) by omega]
      exact this) (by
      unfold bt_ur
      rw [if_neg (by omega), hG N ρ hs, hr]) ((show bt_nz (N + (mc + 1)) (G N ρ) (M N μ) from by rw [show N + (mc + 1) = N + 1 + mc by omega]; exact hz1).ur (by omega)) (by
      rw [e1, ← Nat.add_assoc] at hE
      exact hE)
    rw [show N + 1 + mc = N + (mc + 1) by omega]
    exact h2
