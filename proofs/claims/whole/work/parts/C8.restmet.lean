/-! the contract of BearTickets.rests: it returns, or throws -/
def bt_xb : List Cond := (vx_at0 RX10 287 bt_NS bt_Nn).filter (fun w => !goodWord w)
def bt_isX (w : Cond) : Bool := match w with
  | .declares _ => true
  | .castable _ _ => true
  | _ => false
theorem bt_xb_is : ∀ w ∈ bt_xb, bt_isX w = true := by decide +kernel
theorem bt_isX_on {w : Cond} (h : bt_isX w = true) : w.onTables = true := by
  unfold bt_isX at h
  split at h
  · rfl
  · rfl
  · cases h
theorem bt_xb_warm {s U : State} (hW : s.WarmedH U.vm) (h : ∀ w ∈ bt_xb, va_Nw w s) : ∀ w ∈ bt_xb, va_Nw w U := by
  intro w hw
  have h1 := bt_xb_is w hw
  have h2 := h w hw
  unfold bt_isX at h1
  split at h1
  · exact va_Nw.warmD hW h2
  · exact va_Nw.warmC hW h2
  · cases h1
theorem bt_xg : ∀ w ∈ (vx_at0 RX10 287 bt_NS bt_Nn).filter goodWord, w ∈ lw_tbl := by decide +kernel
def bt_Zx (A : Nat → Prop) (U : State) : Prop := vx_Zq Bundle.tN "UNASSIGNED_STACK" Bundle.steD A U U.heap ∧ vx_Zq Bundle.tN "SUPPRESSED_SENTINEL" Bundle.listD A U U.heap ∧ ∀ w ∈ bt_xb, va_Nw w U
def bt_Px (D : va_G) (cy : Nat → ClassId) (ad : Nat → Nat) (As : List bt_V) (w : bt_W) (sz : Nat) : Array Value → State → Prop := va_Pc (As.map (bt_val ad)) (fun U => U.heap.size = sz ∧ va_P D vwCl (bt_ws cy ad w) U.heap ∧ va_K D vwCl (bt_tys cy) U ∧ va_D (fun _ => True) (bt_ws cy ad w) ∧ ((∀ w ∈ bt_nw, va_Nw w U) ∧ bt_Ao (va_A (bt_ws cy ad w) sz) U U.heap) ∧ bt_Zx (va_A (bt_ws cy ad w) sz) U)
def bt_XC (D : va_G) (cy : Nat → ClassId) (ad : Nat → Nat) (w : bt_W) (sz : Nat) (PX : bt_W → Prop) : String → State → State → Prop := fun E st t => E = bt_NS ∧ (∃ w' : bt_W, PX w' ∧ va_P D vwCl (bt_ws cy ad w') t.heap ∧ va_D (va_A (bt_ws cy ad w) sz) (bt_ws cy ad w')) ∧ va_F (va_A (bt_ws cy ad w) sz) st t
theorem bt_Px_blind {D : va_G} {cy : Nat → ClassId} {ad : Nat → Nat} {As : List bt_V} {w : bt_W} {sz : Nat} : FrameBlind (bt_Px D cy ad As w sz) := fun a U g mk q => by
  obtain ⟨q0, q1, qP, qK, qD, ⟨qN, qA⟩, qZ⟩ := q
  exact ⟨q0, q1, qP, va_K.moved (u := U) (U := U.calling g mk a) (Vm.Alike.refl U.vm) qK, qD, ⟨fun w hw => va_Nw.same (u := U) (U := U.calling g mk a) (bt_nw_on hw) rfl (qN w hw), bt_Ao.blind (U := U) (U' := U.calling g mk a) rfl rfl qA⟩, vx_Zq.moved (u := U) (U := U.calling g mk a) (Vm.Alike.refl U.vm) qZ.1, vx_Zq.moved (u := U) (U := U.calling g mk a) (Vm.Alike.refl U.vm) qZ.2.1, fun w hw => va_Nw.same (u := U) (U := U.calling g mk a) (bt_isX_on (bt_xb_is w hw)) rfl (qZ.2.2 w hw)⟩
set_option maxHeartbeats 4000000 in
theorem ctX10_rests {l : Launch} (hl : l.stackTraces = false) {D : va_G} {cy : Nat → ClassId} {ad : Nat → Nat} {a c v : Int} {w : bt_W} {Q : Option bt_V → bt_W → Prop} {PX : bt_W → Prop} {sz : Nat} (hh : bt_hd Q PX a c v w) : vx_Met l yX10_rests (Cond.code yX10_rests cX10_rests 7 (some .int) :: bt_tb) (bt_rw 10 1 6) (bt_Px D cy ad [.inr (.inr 0), .inl a, .inl c, .inl v] w sz) (bt_Qc D cy ad w sz Q) (bt_XC D cy ad w sz PX) 1 6 (va_A (bt_ws cy ad w) sz) := by
  refine vx_ofW (cc := cX10_rests) (maxL := 7) (ret := some .int) (by decide) rfl ?_
  intro p e s m args below meth cd s₁ B hml htab hv
  obtain ⟨rfl, hsz, hP, hK, hD0, hnw, hZ⟩ := hv
  subst hsz
  have hts := atoms_spec (ws := Cond.code yX10_rests cX10_rests 7 (some .int) :: bt_tb) B.pre
  have hown : s.vm.findClass yX10_rests.cls = some m.cls := findClass_of_methodNamed B.named
  have hD := hD0.self (sz := s.heap.size)
  have hlv := lv_entry (([.inr (.inr 0), .inl a, .inl c, .inl v] : List bt_V).map (bt_val ad)) (n := 7) (by rw [bt_sl_len]; exact Nat.le_of_ble_eq_true rfl)
  rw [lg_entry_eq]
  have hLR : bt_LR ad (bt_loc 7 [.inr (.inr 0), .inl a, .inl c, .inl v]) ((lg_sl (([.inr (.inr 0), .inl a, .inl c, .inl v] : List bt_V).map (bt_val ad)) ++ List.replicate (7 - (lg_sl (([.inr (.inr 0), .inl a, .inl c, .inl v] : List bt_V).map (bt_val ad))).length) Slot.unset).toArray) 7 := by
    refine ⟨hlv.1, hlv.2.1, fun i u hi => ?_⟩
    have hi2 : (bt_locs [.inr (.inr 0), .inl a, .inl c, .inl v])[i]? = some (some u) := by
      unfold bt_loc at hi
      by_cases hlt : i < (bt_locs [.inr (.inr 0), .inl a, .inl c, .inl v]).length
      · rwa [List.getElem?_append_left hlt] at hi
      · rw [List.getElem?_append_right (by omega)] at hi
        have := List.eq_of_mem_replicate (List.mem_of_getElem? hi)
        cases this
    have := bt_locs_args ad [.inr (.inr 0), .inl a, .inl c, .inl v] 0 i u hi2
    rw [Nat.zero_add] at this
    exact hlv.2.2 _ this
  obtain ⟨X, hXe⟩ : ∃ X : bt_X, X = (p, l, e, (headSpec (Cond.code yX10_rests cX10_rests 7 (some .int) :: bt_tb) (bt_rw 10 1 6)).room, s, m, (([.inr (.inr 0), .inl a, .inl c, .inl v] : List bt_V).map (bt_val ad)).toArray, below, meth, cd, va_A (bt_ws cy ad w) s.heap.size, s.heap, D, cy, vx_MQ below (bt_Qc D cy ad w s.heap.size Q) (bt_XC D cy ad w s.heap.size PX) (([.inr (.inr 0), .inl a, .inl c, .inl v] : List bt_V).map (bt_val ad)).toArray s 1 6 (va_A (bt_ws cy ad w) s.heap.size), ad) := ⟨_, rfl⟩
  have hX : bt_Ow X cX10_rests 7 RX10 (bt_rw 10 1 6) := by
    subst hXe
    exact ⟨B.exec, B.bytes, hml, hown, fun w h => hts w (List.mem_cons_of_mem _ h), hK, B.notSynchronized, fun q h => Or.inr h, rfl, hnw⟩
  have hR : bt_Rx X Q PX := by
    subst hXe
    refine ⟨_, _, rfl, B.returns, hl, rfl, hZ.1, hZ.2.1, ?_, htab, fun r w' H locs t hpost hRel hS ht hW => ⟨⟨r, w', rfl, hpost, by rw [ht]; exact hRel.1, hRel.2⟩, hS.F ht⟩, fun w' H locs t hpx hRel hS _ h2 h3 => ⟨rfl, ⟨w', hpx, hRel.1.kept (fun k x hx => h3 x.1 ((hRel.1 k x hx).lt)), hRel.2⟩, Nat.le_trans hS.1 h2, fun q hq hnA => (h3 q (Nat.lt_of_lt_of_le hq hS.1)).trans (hS.2.1 q hq hnA)⟩⟩
    exact vx_hat (B := bt_xb) (fun w hw => hts w (List.mem_cons_of_mem _ (List.mem_filter.mpr ⟨bt_xg w hw, (List.mem_filter.mp hw).2⟩))) (fun w hw => hw) (fun w hw => va_tabs (bt_isX_on (bt_xb_is w hw)) rfl (hZ.2.2 w hw))
  obtain ⟨I, h0, g39, g49⟩ := hh
  have hs := bt_heads (X := X) (nL := 7) (cs := (0, 0)) [39, 49] I (fun h κ => if h = 39 then tX10_rests_39 SpX10_isRest κ Q PX else tX10_rests_49 SpX10_isRest κ Q PX) ?_ ?_
  · have hk := sX10_rests_0 (κ := fun h st L w => ∃ n, I h n st L w) hX hR mtX10_isRest (by decide) (hs 39 (by simp)) (hs 49 (by simp))
    subst hXe
    exact hk [] _ w s.heap [] _ h0 ⟨hP, hD⟩ va_S.rf hLR
  · intro h hh κ hκ
    simp only [List.mem_cons, List.not_mem_nil, or_false] at hh
    rcases hh with rfl | rfl
    · exact sX10_rests_39 hX hR mtX10_isRest (by decide) (hκ 39 (by simp)) (hκ 49 (by simp))
    · exact sX10_rests_49 hX hR mtX10_isRest (by decide) (hκ 39 (by simp)) (hκ 49 (by simp))
  · intro h hh n st L w hi
    simp only [List.mem_cons, List.not_mem_nil, or_false] at hh
    rcases hh with rfl | rfl
    · exact g39 n st L w hi
    · exact g49 n st L w hi
