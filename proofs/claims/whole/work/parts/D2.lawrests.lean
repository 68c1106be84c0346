/-! the law's own rests: a method with a table of handlers; it never throws -/
theorem mt_ofWH {l : Launch} {y : MethodName} {ws ws' : List Cond} {rm : Room} {Pc : Array Value → State → Prop} {Qc : Array Value → State → Outcome → State → Prop} {mc ms : Nat} {free : Addr → Prop} {cc : ByteArray} {maxL : Nat} {ret : Option FieldType} {hh : List (Nat × Nat × Nat × Nat)}
    (hy : plainName y.cls = true) (hw : ws = Cond.codeWith y cc maxL ret hh :: ws')
    (body : ∀ p e s m args below meth c s₁, BodyLoose p l y (headSpec ws rm) cc maxL ret e s m args below meth c s₁ → c.maxLocals = maxL → Pc args s →
      W p l e (headSpec ws rm).room s m args below meth c s.heap [] 0 0 (MQ below Qc args s mc ms free) (entryFrame m args maxL)) : Met l y ws rm Pc Qc mc ms free := by
  refine MetFree.of_bodyS (code := cc) (maxLocals := maxL) (ret := ret) hy ?_ ?_
  · intro args s m h hn
    obtain ⟨m9, meth, c, hn9, h1, h2, h3, h4, -, h5, h6, -⟩ := Cond.codeWith_spec (atoms_spec (ws := ws) h _ (by rw [hw]; exact List.mem_cons_self))
    cases hn.symm.trans hn9
    exact ⟨meth, c, h1, h2, h3, h4, h5, h6⟩
  · intro p e s m args below meth c s₁ B hml hP _
    have hh0 : s₁.heap = s.heap := by rw [B.state]; rfl
    obtain ⟨t, a1, o, b1, b2, b3⟩ := body p e s m args below meth c s₁ B hml hP s₁ hh0 (Stand.of_body B)
    exact ⟨t, o, a1, b1, b2, ⟨b3.1, b3.2⟩⟩
theorem lr_cv : bt_CV RL 7 10 yX10_rests cX10_rests 7 (some .int) 3 := ⟨⟨⟨by decide, by decide, by decide⟩, bt_m 1132 (by decide +kernel) rfl, bt_m 1129 (by decide +kernel) rfl, bt_m 1 (by decide +kernel) rfl⟩, bt_m 1130 (by decide +kernel) rfl, bt_m 1131 (by decide +kernel) rfl, by decide, _, _, rfl⟩
theorem lr_13 : Cond.classLink RL 13 bt_NS ∈ bt_tb := bt_m 1128 (by decide +kernel) rfl
theorem lr_ml : Cond.methodLink RL 104 yL_rests ∈ bt_tb := bt_m 1125 (by decide +kernel) rfl
theorem lr_st : Cond.static yL_rests ∈ bt_tb := bt_m 1126 (by decide +kernel) rfl
theorem lr_co : Cond.codeWith yL_rests cL_rests 6 (some .int) [(0, 12, 15, 13)] ∈ bt_tb := bt_m 1127 (by decide +kernel) rfl
theorem lr_in : Cond.initialized RL ∈ bt_tb := bt_m 0 (by decide +kernel) rfl
def tL_rests_0 (Q : Option bt_V → bt_W → Prop) : bt_K := bt_ald 4 (bt_ic 0 (bt_ald 0 (bt_ild 1 (bt_ild 2 (bt_ild 3 (bt_cX (bt_i2l (bt_las (bt_ic 0 (bt_iret Q)))) (bt_ic 1 (bt_iret Q))))))))
theorem sL_rests_0 {X : bt_X} {Q : Option bt_V → bt_W → Prop} (hX : bt_Ow X cL_rests 6 RL (bt_rw 11 1 6)) (hT : bt_Th X) (hR : bt_Rt X (1, 6) (some .int) Q) : bt_Snd X 6 (0, 0) 0 (tL_rests_0 Q) := by
  unfold tL_rests_0
  exact bw_ald hX dL_rests_0 (bw_iconst hX dL_rests_2 (bw_ald_n hX dL_rests_3 rfl (bw_ild_n hX dL_rests_4 rfl (bw_ild_n hX dL_rests_5 rfl (bw_ild_n hX dL_rests_6 rfl (bw_cX hX hT lr_cv lr_13 ⟨⟨Nat.le_of_ble_eq_true rfl, Nat.le_of_ble_eq_true rfl⟩, Nat.le_of_ble_eq_true rfl, Nat.le_of_ble_eq_true rfl⟩ (bw_i2l hX dL_rests_10 (bw_las hX dL_rests_11 (bw_goto hX dL_rests_12 (tgt := 19) rfl (bw_iconst hX dL_rests_19 (bw_iret hX dL_rests_20 hR))))) (bw_iconst hX dL_rests_17 (bw_iret hX dL_rests_18 hR))))))))
def bt_Pz (D : va_G) (cy : Nat → ClassId) (ad : Nat → Nat) (As : List bt_V) (w : bt_W) (sz : Nat) : Array Value → State → Prop := fun a U => bt_Px D cy ad As w sz a U ∧ va_Nw (Cond.castable bt_NS bt_NS) U
theorem bt_Pz_blind {D : va_G} {cy : Nat → ClassId} {ad : Nat → Nat} {As : List bt_V} {w : bt_W} {sz : Nat} : FrameBlind (bt_Pz D cy ad As w sz) := fun a U g mk q => ⟨bt_Px_blind a U g mk q.1, va_Nw.same (u := U) (U := U.calling g mk a) rfl rfl q.2⟩
set_option maxHeartbeats 4000000 in
theorem ctL_rests {l : Launch} (hl : l.stackTraces = false) {D : va_G} {cy : Nat → ClassId} {ad : Nat → Nat} {a c v : Int} {w : bt_W} {Q : Option bt_V → bt_W → Prop} {sz : Nat} (hh : tL_rests_0 Q [] (bt_loc 6 [.inr (.inr 0), .inl a, .inl c, .inl v, .inr (.inr 261)]) w) : Met l yL_rests (Cond.codeWith yL_rests cL_rests 6 (some .int) [(0, 12, 15, 13)] :: bt_tb) (bt_rw 11 1 6) (bt_Pz D cy ad [.inr (.inr 0), .inl a, .inl c, .inl v, .inr (.inr 261)] w sz) (bt_Qc D cy ad w sz Q) 1 6 (va_A (bt_ws cy ad w) sz) := by
  refine mt_ofWH (cc := cL_rests) (maxL := 6) (ret := some .int) (hh := [(0, 12, 15, 13)]) (by decide) rfl ?_
  intro p e s m args below meth cd s₁ B hml hv
  obtain ⟨⟨rfl, hsz, hP, hK, hD0, hnw, hZ⟩, hc0⟩ := hv
  subst hsz
  have hts := atoms_spec (ws := Cond.codeWith yL_rests cL_rests 6 (some .int) [(0, 12, 15, 13)] :: bt_tb) B.pre
  have htab := vx_table (x := yL_rests) B (hts _ List.mem_cons_self)
  have hown : s.vm.findClass yL_rests.cls = some m.cls := findClass_of_methodNamed B.named
  have hD := hD0.self (sz := s.heap.size)
  have hlv := lv_entry (([.inr (.inr 0), .inl a, .inl c, .inl v, .inr (.inr 261)] : List bt_V).map (bt_val ad)) (n := 6) (by rw [bt_sl_len]; exact Nat.le_of_ble_eq_true rfl)
  rw [lg_entry_eq]
  have hLR : bt_LR ad (bt_loc 6 [.inr (.inr 0), .inl a, .inl c, .inl v, .inr (.inr 261)]) ((lg_sl (([.inr (.inr 0), .inl a, .inl c, .inl v, .inr (.inr 261)] : List bt_V).map (bt_val ad)) ++ List.replicate (6 - (lg_sl (([.inr (.inr 0), .inl a, .inl c, .inl v, .inr (.inr 261)] : List bt_V).map (bt_val ad))).length) Slot.unset).toArray) 6 := by
    refine ⟨hlv.1, hlv.2.1, fun i u hi => ?_⟩
    have hi2 : (bt_locs [.inr (.inr 0), .inl a, .inl c, .inl v, .inr (.inr 261)])[i]? = some (some u) := by
      unfold bt_loc at hi
      by_cases hlt : i < (bt_locs [.inr (.inr 0), .inl a, .inl c, .inl v, .inr (.inr 261)]).length
      · rwa [List.getElem?_append_left hlt] at hi
      · rw [List.getElem?_append_right (by omega)] at hi
        have := List.eq_of_mem_replicate (List.mem_of_getElem? hi)
        cases this
    have := bt_locs_args ad [.inr (.inr 0), .inl a, .inl c, .inl v, .inr (.inr 261)] 0 i u hi2
    rw [Nat.zero_add] at this
    exact hlv.2.2 _ this
  obtain ⟨X, hXe⟩ : ∃ X : bt_X, X = (p, l, e, (headSpec (Cond.codeWith yL_rests cL_rests 6 (some .int) [(0, 12, 15, 13)] :: bt_tb) (bt_rw 11 1 6)).room, s, m, (([.inr (.inr 0), .inl a, .inl c, .inl v, .inr (.inr 261)] : List bt_V).map (bt_val ad)).toArray, below, meth, cd, va_A (bt_ws cy ad w) s.heap.size, s.heap, D, cy, MQ below (bt_Qc D cy ad w s.heap.size Q) (([.inr (.inr 0), .inl a, .inl c, .inl v, .inr (.inr 261)] : List bt_V).map (bt_val ad)).toArray s 1 6 (va_A (bt_ws cy ad w) s.heap.size), ad) := ⟨_, rfl⟩
  have hX : bt_Ow X cL_rests 6 RL (bt_rw 11 1 6) := by
    subst hXe
    exact ⟨B.exec, B.bytes, hml, hown, fun w h => hts w (List.mem_cons_of_mem _ h), hK, B.notSynchronized, fun q h => Or.inr h, rfl, hnw⟩
  have hT : bt_Th X := by
    subst hXe
    exact ⟨hl, rfl, hZ, htab, va_tabs rfl rfl hc0⟩
  have hR : bt_Rt X (1, 6) (some .int) Q := by
    subst hXe
    exact ⟨bt_Qc D cy ad w s.heap.size Q, rfl, B.returns, fun r w' H locs t hpost hRel hS ht hW => ⟨⟨r, w', rfl, hpost, by rw [ht]; exact hRel.1, hRel.2⟩, hS.F ht⟩⟩
  have hk := sL_rests_0 hX hT hR
  subst hXe
  exact hk [] _ w s.heap [] _ hh ⟨hP, hD⟩ va_S.rf hLR
/-! its call, in the law's frame -/
def bt_Tw (X : bt_X) : Prop := match X with
  | (_, l, _, _, s, _, _, _, _, _, A, H0, _, _, _, _) => l.stackTraces = false ∧ s.heap = H0 ∧ bt_Zx A s ∧ va_Nw (Cond.castable bt_NS bt_NS) s
def bt_cR (K : bt_K) : bt_K := fun st L w => match st with
  | .inr (.inr o) :: .inl v :: .inl c :: .inl a :: .inr (.inr q) :: r => (q = 0 ∧ o = 261 ∧ r.length ≤ 4) ∧ tL_rests_0 (bt_ret K r L) [] (bt_loc 6 [.inr (.inr 0), .inl a, .inl c, .inl v, .inr (.inr 261)]) w
  | _ => False
set_option maxHeartbeats 4000000 in
theorem bw_cR {X : bt_X} {cc : ByteArray} {nL : Nat} {dd : Room} {cs : Nat × Nat} {pc : Nat} {K : bt_K} (hX : bt_Ow X cc nL RL dd) (hT : bt_Tw X) (hd : decode cc pc = .ok (.invokestatic 104, 3)) (h1 : cs.1 + 1 ≤ dd.cells) (h2 : cs.2 + 6 ≤ dd.slots) (hq : 12 ≤ dd.frames ∧ 1000 ≤ dd.locals) (h : bt_Snd X nL (cs.1 + 1, cs.2 + 6) (pc + 3) K) : bt_Snd X nL cs pc (bt_cR K) := by
  obtain ⟨p, l, e, R, s, m, args, below, meth, cd, A, H0, D, cy, Q, ad⟩ := X
  obtain ⟨hx, hb, hml, hown, hts, hK, hlocks, hA, hrm, hnw⟩ := hX
  obtain ⟨hl0, hs0, hZ, hcast⟩ := hT
  subst hrm
  intro st L w H locs ls hk hR hS hl
  match st, hk with
  | .inr (.inr o) :: .inl v :: .inl c :: .inl a :: .inr (.inr q) :: r, hk =>
    obtain ⟨⟨rfl, rfl, hr4⟩, hh⟩ := hk
    have hF := bt_inA hR hS hA
    have hkeep : ∀ a : Nat, a < s.heap.size → ¬ A a → H[a]? = s.heap[a]? := by rw [hs0]; exact hS.2.1
    have hlen : ∀ sig, parseMethodDescriptor yL_rests.desc = some sig → 5 = sig.parameters.length := by
      have h2 : (parseMethodDescriptor yL_rests.desc).map (fun d => d.parameters.length) = some 5 := by decide +kernel
      intro sig h
      rw [h] at h2
      exact (Option.some.inj h2).symm
    refine bt_afterW (w := w) (Q := bt_ret K r L) (vx_runSW (As := [.ref (ad 0), .int (bt_i a), .int (bt_i c), .int (bt_i v), .ref (ad 261)]) (rest := r.map (bt_val ad)) (hh := [(0, 12, 15, 13)]) ⟨hx, hb, hml, hown, hts⟩ (ctL_rests hl0 (D := D) (cy := cy) (ad := ad) (sz := H.size) hh)
      ⟨⟨rfl, rfl, hq.1, by show 8 + (6 + 11) + 64 * 11 ≤ R.locals; omega, pay_in hts (bt_goodIn lr_co), List.mem_cons_self⟩, hts _ lr_co, hts _ lr_in, ⟨by decide, by decide⟩, hlen, hts _ lr_ml, hts _ lr_st⟩
      ⟨bt_Pz_blind, fun U hU hW => ⟨⟨rfl, by rw [hU], by rw [hU]; exact hR.1, va_K.moved hW.alike hK, hR.2.weaken (fun _ _ _ _ => trivial), ⟨bt_nw_warm hW hnw.1, by rw [hU]; exact hnw.2.go hW hS.2.1 hF⟩, by rw [hU]; exact vx_Zq.moved hW.alike ((hZ.1.kept hkeep).narrow hF), by rw [hU]; exact vx_Zq.moved hW.alike ((hZ.2.1.kept hkeep).narrow hF), bt_xb_warm hW hZ.2.2⟩, va_Nw.warmC hW hcast⟩⟩ rfl rfl hl.1 rfl (lv_room (Nat.le_trans (bt_cats ad _) (by omega))) hd ⟨h1, h2⟩) hS hR hA (fun r9 w' H1 locs1 hq9 hR1 hS1 => ?_)
    have h9 := h (r9.toList ++ r) L w' H1 locs1 ls hq9 hR1 hS1 hl
    have ee : (r9.toList ++ r).map (bt_val ad) = (r9.map (bt_val ad)).toList ++ r.map (bt_val ad) := by
      cases r9 <;> simp
    rw [ee] at h9
    exact h9
