/-! a constructor's steps over pictures -/
def bt_nz (n : Nat) (ρ : Nat → Nat → Option Nat) (μ : Nat → Nat → Int) : Prop := ∀ i, n ≤ i → ∀ k, ρ i k = none ∧ μ i k = 0
def bt_shs (s : Nat) (l : List (Nat × Nat)) : Prop := ∀ j, j < l.length → bt_sh0 (s + j) = l.getD j (0, 0)
theorem bt_shs_sub {s : Nat} {l l' : List (Nat × Nat)} (h : bt_shs s l) (o : Nat) (hl : ∀ j, j < l'.length → o + j < l.length ∧ l.getD (o + j) (0, 0) = l'.getD j (0, 0)) : bt_shs (s + o) l' := by
  intro j hj
  obtain ⟨h1, h2⟩ := hl j hj
  rw [← h2, ← h (o + j) h1, Nat.add_assoc]
def bt_SpC (mc : Nat) (l : List (Nat × Nat)) (G : Nat → (Nat → Nat → Option Nat) → Nat → Nat → Option Nat) (M : Nat → (Nat → Nat → Int) → Nat → Nat → Int) : bt_Sp := fun As w Q => ∃ (s : Nat) (ρ : Nat → Nat → Option Nat) (μ : Nat → Nat → Int), As = [.inr (.inr s)] ∧ w = bt_wn (s + 1) ρ μ ∧ s + 1 + mc ≤ 262 ∧ bt_shs s l ∧ bt_nz (s + 1) ρ μ ∧ (bt_nz (s + 1 + mc) (G s ρ) (M s μ) → Q none (bt_wn (s + 1 + mc) (G s ρ) (M s μ)))
def bt_SpD (mc : Nat) (l : List (Nat × Nat)) (G : Nat → Nat → (Nat → Nat → Option Nat) → Nat → Nat → Option Nat) (M : Nat → (Nat → Nat → Int) → Nat → Nat → Int) : bt_Sp := fun As w Q => ∃ (s t : Nat) (ρ : Nat → Nat → Option Nat) (μ : Nat → Nat → Int), As = [.inr (.inr s), .inr (.inr t)] ∧ w = bt_wn (s + 1) ρ μ ∧ s + 1 + mc ≤ 262 ∧ bt_shs s l ∧ bt_nz (s + 1) ρ μ ∧ (bt_nz (s + 1 + mc) (G s t ρ) (M s μ) → Q none (bt_wn (s + 1 + mc) (G s t ρ) (M s μ)))
theorem bt_nz.ur {n s f b : Nat} {ρ : Nat → Nat → Option Nat} {μ : Nat → Nat → Int} (h : bt_nz n ρ μ) (hs : s < n) : bt_nz n (bt_ur ρ s f b) μ := by
  intro i hi k
  refine ⟨?_, (h i hi k).2⟩
  unfold bt_ur
  rw [if_neg (by omega)]
  exact (h i hi k).1
theorem bt_nz.up {n s f : Nat} {x : Int} {ρ : Nat → Nat → Option Nat} {μ : Nat → Nat → Int} (h : bt_nz n ρ μ) (hs : s < n) : bt_nz n ρ (bt_up μ s f x) := by
  intro i hi k
  refine ⟨(h i hi k).1, ?_⟩
  unfold bt_up
  rw [if_neg (by omega)]
  exact (h i hi k).2
theorem bt_nz.mono {n n' : Nat} {ρ : Nat → Nat → Option Nat} {μ : Nat → Nat → Int} (h : bt_nz n ρ μ) (hs : n ≤ n') : bt_nz n' ρ μ := fun i hi => h i (by omega)
section MK
variable {k : bt_K} {L : List (Option bt_V)} {N s t c f : Nat} {ρ : Nat → Nat → Option Nat} {μ : Nat → Nat → Int}
theorem mk_o {w : bt_W} (h0 : L[0]? = some (some (.inr (.inr s)))) (hk : k [] L w) : (bt_ald 0 (bt_obj k)) [] L w := by
  simp only [bt_ald, bt_obj, h0]
  exact hk
theorem mk_arr {kd n : Nat} (h0 : L[0]? = some (some (.inr (.inr s)))) (hs : s < N) (hc : (bt_sh0 s).1 = c) (hsh : bt_sh0 N = (kd, n)) (hn : bt_nz N ρ μ) (hk : bt_nz (N + 1) (bt_ur ρ s f N) μ → k [] L (bt_wn (N + 1) (bt_ur ρ s f N) μ)) : (bt_ald 0 (bt_ic (n : Int) (bt_newa kd n N (bt_pfR c f k)))) [] L (bt_wn N ρ μ) := by
  simp only [bt_ald, bt_ic, bt_newa, bt_pfR, h0, bt_gr, bt_sr]
  exact ⟨⟨trivial, trivial, hsh, fun k => (hn N (Nat.le_refl _) k).1, fun k => (hn N (Nat.le_refl _) k).2⟩, ⟨by omega, hc⟩, hk ((hn.mono (Nat.le_succ N)).ur (by omega))⟩
theorem mk_par (h0 : L[0]? = some (some (.inr (.inr s)))) (h1 : L[1]? = some (some (.inr (.inr t)))) (hs : s < N) (hc : (bt_sh0 s).1 = c) (hn : bt_nz N ρ μ) (hk : bt_nz N (bt_ur ρ s f t) μ → k [] L (bt_wn N (bt_ur ρ s f t) μ)) : (bt_ald 0 (bt_ald 1 (bt_pfR c f k))) [] L (bt_wn N ρ μ) := by
  simp only [bt_ald, bt_pfR, h0, h1, bt_sr]
  exact ⟨⟨by omega, hc⟩, hk (hn.ur (by omega))⟩
theorem mk_int {x : Int} (h0 : L[0]? = some (some (.inr (.inr s)))) (hs : s < N) (hc : (bt_sh0 s).1 = c) (hn : bt_nz N ρ μ) (hk : bt_nz N ρ (bt_up μ s f x) → k [] L (bt_wn N ρ (bt_up μ s f x))) : (bt_ald 0 (bt_ic x (bt_pfI c f k))) [] L (bt_wn N ρ μ) := by
  simp only [bt_ald, bt_ic, bt_pfI, h0, bt_sm]
  exact ⟨⟨by omega, hc⟩, hk (hn.up (by omega))⟩
variable {mc ck : Nat} {l : List (Nat × Nat)} {M : Nat → (Nat → Nat → Int) → Nat → Nat → Int}
theorem mk_obj {G : Nat → (Nat → Nat → Option Nat) → Nat → Nat → Option Nat} (h0 : L[0]? = some (some (.inr (.inr s)))) (hs : s < N) (hc : (bt_sh0 s).1 = c) (hck : (bt_sh0 N).1 = ck) (hb : N + 1 + mc ≤ 262) (hsh : bt_shs N l) (hn : bt_nz N ρ μ) (hk : bt_nz (N + 1 + mc) (bt_ur (G N ρ) s f N) (M N μ) → k [] L (bt_wn (N + 1 + mc) (bt_ur (G N ρ) s f N) (M N μ))) : (bt_ald 0 (bt_new ck N (bt_dup (bt_cI 0 [2] (N + 1) (bt_SpC mc l G M) (bt_pfR c f k))))) [] L (bt_wn N ρ μ) := by
  simp only [bt_ald, bt_new, bt_dup, bt_cI, h0, bt_gr, bt_loc, bt_locs, List.getElem?_cons_zero, List.getElem?_cons_succ, List.set_cons_zero, List.set_cons_succ, List.map_cons, List.map_nil, List.take_succ_cons, List.take_zero, List.drop_succ_cons, List.drop_zero, List.reverse_cons, List.reverse_nil, List.nil_append, List.cons_append, List.append_nil, List.length_cons, List.length_nil, List.replicate_succ, List.replicate_zero, Option.toList_some, Option.toList_none, Nat.reduceAdd, Nat.reduceSub, Nat.reduceLeDiff, Nat.zero_add, Nat.zero_le, true_and, and_true, Int.toNat_natCast, Sum.inl.injEq, Sum.inr.injEq, ↓reduceIte, Nat.reduceEqDiff, bt_sig, bt_tg, bt_SpC, bt_ret]
  refine ⟨⟨hck, fun k => (hn N (Nat.le_refl _) k).1, fun k => (hn N (Nat.le_refl _) k).2⟩, N, ρ, μ, rfl, rfl, hb, hsh, hn.mono (Nat.le_succ N), fun hz => ?_⟩
  simp only [bt_pfR, bt_sr, bt_loc, bt_locs, List.getElem?_cons_zero, List.getElem?_cons_succ, List.set_cons_zero, List.set_cons_succ, List.map_cons, List.map_nil, List.take_succ_cons, List.take_zero, List.drop_succ_cons, List.drop_zero, List.reverse_cons, List.reverse_nil, List.nil_append, List.cons_append, List.append_nil, List.length_cons, List.length_nil, List.replicate_succ, List.replicate_zero, Option.toList_some, Option.toList_none, Nat.reduceAdd, Nat.reduceSub, Nat.reduceLeDiff, Nat.zero_add, Nat.zero_le, true_and, and_true, Int.toNat_natCast, Sum.inl.injEq, Sum.inr.injEq, ↓reduceIte, Nat.reduceEqDiff]
  exact ⟨⟨by omega, hc⟩, hk (hz.ur (by omega))⟩
theorem mk_obd {G : Nat → Nat → (Nat → Nat → Option Nat) → Nat → Nat → Option Nat} (h0 : L[0]? = some (some (.inr (.inr s)))) (h1 : L[1]? = some (some (.inr (.inr t)))) (hs : s < N) (hc : (bt_sh0 s).1 = c) (hck : (bt_sh0 N).1 = ck) (hb : N + 1 + mc ≤ 262) (hsh : bt_shs N l) (hn : bt_nz N ρ μ) (hk : bt_nz (N + 1 + mc) (bt_ur (G N t ρ) s f N) (M N μ) → k [] L (bt_wn (N + 1 + mc) (bt_ur (G N t ρ) s f N) (M N μ))) : (bt_ald 0 (bt_new ck N (bt_dup (bt_ald 1 (bt_cI 1 [2, 2] (N + 1) (bt_SpD mc l G M) (bt_pfR c f k)))))) [] L (bt_wn N ρ μ) := by
  simp only [bt_ald, bt_new, bt_dup, bt_cI, h0, h1, bt_gr, bt_loc, bt_locs, List.getElem?_cons_zero, List.getElem?_cons_succ, List.set_cons_zero, List.set_cons_succ, List.map_cons, List.map_nil, List.take_succ_cons, List.take_zero, List.drop_succ_cons, List.drop_zero, List.reverse_cons, List.reverse_nil, List.nil_append, List.cons_append, List.append_nil, List.length_cons, List.length_nil, List.replicate_succ, List.replicate_zero, Option.toList_some, Option.toList_none, Nat.reduceAdd, Nat.reduceSub, Nat.reduceLeDiff, Nat.zero_add, Nat.zero_le, true_and, and_true, Int.toNat_natCast, Sum.inl.injEq, Sum.inr.injEq, ↓reduceIte, Nat.reduceEqDiff, bt_sig, bt_tg, bt_SpD, bt_ret]
  refine ⟨⟨hck, fun k => (hn N (Nat.le_refl _) k).1, fun k => (hn N (Nat.le_refl _) k).2⟩, N, t, ρ, μ, rfl, rfl, hb, hsh, hn.mono (Nat.le_succ N), fun hz => ?_⟩
  simp only [bt_pfR, bt_sr, bt_loc, bt_locs, List.getElem?_cons_zero, List.getElem?_cons_succ, List.set_cons_zero, List.set_cons_succ, List.map_cons, List.map_nil, List.take_succ_cons, List.take_zero, List.drop_succ_cons, List.drop_zero, List.reverse_cons, List.reverse_nil, List.nil_append, List.cons_append, List.append_nil, List.length_cons, List.length_nil, List.replicate_succ, List.replicate_zero, Option.toList_some, Option.toList_none, Nat.reduceAdd, Nat.reduceSub, Nat.reduceLeDiff, Nat.zero_add, Nat.zero_le, true_and, and_true, Int.toNat_natCast, Sum.inl.injEq, Sum.inr.injEq, ↓reduceIte, Nat.reduceEqDiff]
  exact ⟨⟨by omega, hc⟩, hk (hz.ur (by omega))⟩
end MK
