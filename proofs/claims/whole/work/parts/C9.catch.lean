/-! the law's own rests: the call that may throw, and its catching -/
def bt_cX (K E : bt_K) : bt_K := fun st L w => match st with
  | .inl v :: .inl c :: .inl a :: .inr (.inr 0) :: r => (0 < w.1 ∧ (w.2.1 0).1 = 10) ∧ r.length ≤ 4 ∧ bt_nl L 5 ∧ bt_hd (bt_ret K r L) (fun w' => E [] (L.set 5 none) w') a c v w
  | _ => False
theorem bt_LR.set0 {ad : Nat → Nat} {L : List (Option bt_V)} {ls' : Array Slot} {nL i : Nat} {x : Value} (hn : bt_nl L i) (h : lv_has ls' nL ((i, x) :: (bt_lv ad L).filter (fun q => !(q.1 == i) && !(q.1 + 1 == i && q.2.category == 2)))) : bt_LR ad (L.set i none) ls' nL := by
  refine ⟨h.1, h.2.1, fun j u hj => ?_⟩
  by_cases e : j = i
  · subst e
    have hl : j < L.length := by
      have := (List.getElem?_eq_some_iff.mp hj).1
      simpa using this
    rw [List.getElem?_set_self hl] at hj
    cases hj
  · rw [List.getElem?_set_ne (fun q => e q.symm)] at hj
    refine h.2.2 (j, bt_val ad u) (List.mem_cons_of_mem _ (List.mem_filter.mpr ⟨bt_lv_mem.mpr ⟨u, hj, rfl⟩, ?_⟩))
    simp only [Bool.and_eq_true, Bool.not_eq_true', beq_eq_false_iff_ne, Bool.and_eq_false_iff, ne_eq]
    refine ⟨e, ?_⟩
    by_cases e2 : j + 1 = i
    · right
      intro hc
      obtain ⟨x, rfl⟩ := bt_cat ad u hc
      subst e2
      simp [bt_nl, hj] at hn
    · exact Or.inl e2
/-- what the frame must hold besides, for a call that may throw -/
def bt_Th (X : bt_X) : Prop := match X with
  | (_, l, _, _, s, _, args, _, _, c, A, H0, _, _, _, _) => l.stackTraces = false ∧ s.heap = H0 ∧ bt_Zx A s ∧ c.exceptionTable.toList = tableOf [(0, 12, 15, 13)] ∧ (Cond.castable bt_NS bt_NS).before args s = true
set_option maxHeartbeats 4000000 in
theorem bw_cX {X : bt_X} {dd : Room} {K E : bt_K} (hX : bt_Ow X cL_rests 6 RL dd) (hT : bt_Th X) (hC : bt_CV RL 7 10 yX10_rests cX10_rests 7 (some .int) 3) (hk13 : Cond.classLink RL 13 bt_NS ∈ bt_tb) (hq : (11 ≤ dd.frames ∧ 64 * dd.frames ≤ dd.locals) ∧ 1 ≤ dd.cells ∧ 6 ≤ dd.slots) (h : bt_Snd X 6 (1, 6) 10 K) (hE : bt_Snd X 6 (1, 6) 17 E) : bt_Snd X 6 (0, 0) 7 (bt_cX K E) := by
  obtain ⟨p, l, e, R, s, m, args, below, meth, c, A, H0, D, cy, Q, ad⟩ := X
  obtain ⟨hx, hb, hml, hown, hts, hK, hlocks, hA, hrm, hnw⟩ := hX
  obtain ⟨hl0, hs0, hZ, htab, hcast⟩ := hT
  subst hrm
  intro st L w H locs ls hk hR hS hl
  match st, hk with
  | .inl v :: .inl cc :: .inl a :: .inr (.inr 0) :: r, hk =>
    obtain ⟨hk1, hr4, hnl, hh⟩ := hk
    obtain ⟨hcw, hin, hse, hci, T, N, hcl⟩ := hC
    have hF : ∀ q, va_A (bt_ws cy ad w) H.size q → A q := by
      intro q h
      rcases h with ⟨k, e, h⟩ | h
      · exact hR.2.2 k (q, e) h
      · exact hA q (Nat.le_trans hS.1 h)
    have hkeep : ∀ a : Nat, a < s.heap.size → ¬ A a → H[a]? = s.heap[a]? := by rw [hs0]; exact hS.2.1
    have hrun := vx_runV (b := ad 0) (As := [.int (bt_i a), .int (bt_i cc), .int (bt_i v)]) (rest := r.map (bt_val ad)) (g := F0 m 7 ls ((.inl v :: .inl cc :: .inl a :: .inr (.inr 0) :: r).map (bt_val ad))) (H := H) (locs := locs) (cells := 0) (slots := 0) (C := yX10_rests.cls) (below := below) (meth := meth) (e := e) (R := R) ⟨hx, hb, hml, hown, hts⟩ (ctX10_rests hl0 (D := D) (cy := cy) (ad := ad) (sz := H.size) hh)
      ⟨callB_of 3 hts (bt_goodIn hcw.2.1) rfl rfl rfl (hts _ hcw.2.2.2) (hts _ hcw.2.2.1) hcw.1 ⟨hq.1.1, by show 8 + (7 + 11) + 64 * 10 ≤ R.locals; omega⟩, hts _ hin, hts _ hse⟩
      ⟨bt_Px_blind, va_recv hK hR.1 (q0 := 0) hcl (by rw [bt_ws_at hk1.1, bt_ent_o hk1.2 hci]), fun U hU hW => ⟨rfl, by rw [hU], by rw [hU]; exact hR.1, va_K.moved hW.alike hK, hR.2.weaken (fun _ _ _ _ => trivial), ⟨bt_nw_warm hW hnw.1, by rw [hU]; exact hnw.2.go hW hS.2.1 (bt_inA hR hS hA)⟩, by rw [hU]; exact vx_Zq.moved hW.alike ((hZ.1.kept hkeep).narrow hF), by rw [hU]; exact vx_Zq.moved hW.alike ((hZ.2.1.kept hkeep).narrow hF), bt_xb_warm hW hZ.2.2⟩⟩ rfl rfl hl.1 rfl (lv_room (Nat.le_trans (bt_cats ad _) (by omega))) dL_rests_7 ⟨by omega, by omega⟩
    have hSn : ∀ {st₀ t T' : State} {L9 : List Loc}, st₀.heap = H → T'.heap = t.heap → (∀ q ∈ L9, va_A (bt_ws cy ad w) H.size q.base) → va_F (va_A (bt_ws cy ad w) H.size) st₀ t → va_S A H0 T'.heap (locs ++ L9) := by
      intro st₀ t T' L9 h0 e1 hL hFr
      exact (vx_keep h0 e1 hS (fun q _ h => hF q h) (fun q h => hF q h) hL hFr).2.2
    intro T0 hT0 XS
    rcases hrun T0 hT0 XS with ⟨v9, st₀, t, T', L9, h0, X', hL, e1, e2, ⟨⟨r9, w', hv9, hq9, hP9, hD9⟩, hFr⟩, st9⟩ | ⟨q9, st₀, t, T', L9, EE, ce, h0, X', hL, e1, e2, ⟨hEE, ⟨w', hpx, hP9, hD9⟩, hFr⟩, hce, hcv, hcl9, st9⟩
    · cases hv9
      have hh2 := h (r9.toList ++ r) L w' T'.heap (locs ++ L9) ls hq9 ⟨by rw [e1]; exact hP9, hD9.weaken (fun k q _ h => hF q.1 h)⟩ (hSn h0 e1 hL hFr) hl
      have ee : (r9.toList ++ r).map (bt_val ad) = (r9.map (bt_val ad)).toList ++ r.map (bt_val ad) := by
        cases r9 <;> simp
      rw [ee] at hh2
      obtain ⟨t2, a1, b1⟩ := hh2 T' rfl X'
      exact ⟨t2, st9 t2 a1, b1⟩
    · subst hEE
      have hw : W p l e R s m args below meth c T'.heap (locs ++ L9) 1 6 Q (F0 m 15 ls [.ref q9]) := by
        refine lv_astore hx hb dL_rests_15 hl.has (by decide) rfl (fun ls2 hl2 => ?_)
        exact hE [] _ w' T'.heap (locs ++ L9) ls2 hpx ⟨by rw [e1]; exact hP9, hD9.weaken (fun k q _ h => hF q.1 h)⟩ (hSn h0 e1 hL hFr) (bt_LR.set0 hnl hl2)
      have hce2 : T'.heap[q9]? = some ce := by rw [e1]; exact hce
      have hc9 := vx_catch (H := T'.heap) (pc := 7) (rest := r.map (bt_val ad)) (own := RL) (name := bt_NS) (E := bt_NS) (ce := ce) (q := q9) hown [] _ [] (by rw [htab]; rfl) (fun z hz => nomatch hz) (by decide) (by decide) (hts _ hk13) hcast hce2 hcv hcl9 hw
      obtain ⟨t2, a1, b1⟩ := hc9 T' rfl X'
      exact ⟨t2, st9.trans a1, b1⟩
