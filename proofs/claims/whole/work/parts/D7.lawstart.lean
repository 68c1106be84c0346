/-! the law's beginning. Printed by prog/mkstart.py -/
theorem nw_L_8 : Cond.classLink RL 8 RX10 ∈ bt_tb ∧ Cond.instantiable RX10 14 ∈ bt_tb ∧ Cond.initialized RX10 ∈ bt_tb := ⟨bt_m 24 (by decide +kernel) rfl, bt_m 25 (by decide +kernel) rfl, bt_m 1 (by decide +kernel) rfl⟩
theorem nw_L_16 : Cond.classLink RL 16 RX11 ∈ bt_tb ∧ Cond.instantiable RX11 76 ∈ bt_tb ∧ Cond.initialized RX11 ∈ bt_tb := ⟨bt_m 1200 (by decide +kernel) rfl, bt_m 1201 (by decide +kernel) rfl, bt_m 17 (by decide +kernel) rfl⟩
theorem cj_L_15 : bt_CI RL 15 yX10_init cX10_init 2 0 := ⟨⟨by decide, by decide, by decide⟩, bt_m 28 (by decide +kernel) rfl, bt_m 1 (by decide +kernel) rfl, bt_m 27 (by decide +kernel) rfl, rfl, Or.inl (bt_m 26 (by decide +kernel) rfl)⟩
theorem cj_L_18 : bt_CI RL 18 yX11_init cX11_init 1 0 := ⟨⟨by decide, by decide, by decide⟩, bt_m 1204 (by decide +kernel) rfl, bt_m 17 (by decide +kernel) rfl, bt_m 1203 (by decide +kernel) rfl, rfl, Or.inl (bt_m 1202 (by decide +kernel) rfl)⟩
theorem tk_L10 : ∀ j, j < 14 → bt_tyk (bt_ty 10 j) = true := by decide
theorem tk_L11 : ∀ j, j < 76 → bt_tyk (bt_ty 11 j) = true := by decide
def tL_s (κ : bt_K) : bt_K := bt_new 10 0 (bt_dup (bt_cI 0 [2] 1 SpX10_init (bt_ast 1 (bt_new 11 205 (bt_dup (bt_cI 0 [2] 206 SpX11_init (bt_ast 2 (bt_ic 1 (bt_newa 14 1 261 (bt_ast 3 (bt_ic 0 (bt_ist 4 κ))))))))))))
set_option maxRecDepth 20000 in
set_option maxHeartbeats 4000000 in
theorem sL_s {X : bt_X} {κ : bt_K} (hX : bt_Ow X cL_law 7 RL room_1) (hT : bt_Tl X 0) (hκ : bt_Snd X 7 (262, 12124) 23 κ) : bt_Snd X 7 (0, 0) 0 (tL_s κ) := by
  unfold tL_s
  exact bw_new hX hT dL_law_0 cl_X10 tk_L10 nw_L_8 rfl (by omega) ⟨Nat.le_of_ble_eq_true rfl, Nat.le_of_ble_eq_true rfl⟩ (bw_dup hX dL_law_3 (bw_cI hX hT dL_law_4 ctX10_new cj_L_15 ⟨Nat.le_of_ble_eq_true rfl, Nat.le_of_ble_eq_true rfl, by decide, rfl⟩ rfl (by omega) ⟨Nat.le_of_ble_eq_true rfl, Nat.le_of_ble_eq_true rfl⟩ (bw_ast_n hX dL_law_7 rfl (by decide) (bw_new hX hT dL_law_8 cl_X11 tk_L11 nw_L_16 rfl (by omega) ⟨Nat.le_of_ble_eq_true rfl, Nat.le_of_ble_eq_true rfl⟩ (bw_dup hX dL_law_11 (bw_cI hX hT dL_law_12 ctX11_init cj_L_18 ⟨Nat.le_of_ble_eq_true rfl, Nat.le_of_ble_eq_true rfl, by decide, rfl⟩ rfl (by omega) ⟨Nat.le_of_ble_eq_true rfl, Nat.le_of_ble_eq_true rfl⟩ (bw_ast_n hX dL_law_15 rfl (by decide) (bw_iconst hX dL_law_16 (bw_newa hX hT dL_law_17 (by unfold bt_ak; decide) ar_long (by decide) rfl (by omega) ⟨Nat.le_of_ble_eq_true rfl, Nat.le_of_ble_eq_true rfl⟩ (bw_ast_n hX dL_law_19 rfl (by decide) (bw_iconst hX dL_law_20 (bw_ist hX dL_law_21 (by decide) hκ))))))))))))
section ST3
variable {K : bt_K} {st rest : List bt_V} {L : List (Option bt_V)} {w : bt_W}
theorem st_new {c N : Nat} (h1 : w.1 = N ∧ (w.2.1 N).1 = c ∧ bt_nul w N) (h : K (.inr (.inr N) :: st) L (bt_gr w)) : bt_new c N K st L w := by
  unfold bt_new
  exact ⟨h1, h⟩
theorem st_dup {q : Nat} (h : K (.inr (.inr q) :: .inr (.inr q) :: st) L w) : bt_dup K (.inr (.inr q) :: st) L w := by
  unfold bt_dup
  exact h
theorem st_cI0 {q N : Nat} {Sp : bt_Sp} (hN : w.1 = N) (hr : rest.length ≤ 4) (h : Sp [.inr (.inr q)] w (bt_ret K rest L)) : bt_cI 0 [2] N Sp K (.inr (.inr q) :: rest) L w := by
  unfold bt_cI
  exact ⟨hN, rfl, hr, h⟩
theorem st_ast {i q : Nat} (hn : bt_nl L i) (h : K st (L.set i (some (.inr (.inr q)))) w) : bt_ast i K (.inr (.inr q) :: st) L w := by
  unfold bt_ast
  exact ⟨hn, h⟩
theorem st_newa {kd n N : Nat} {a : Int} (h1 : a = (n : Int) ∧ w.1 = N ∧ w.2.1 N = (kd, n) ∧ bt_nul w N) (h : K (.inr (.inr N) :: st) L (bt_gr w)) : bt_newa kd n N K (.inl a :: st) L w := by
  unfold bt_newa
  exact ⟨h1, h⟩
theorem st_retn (h : K rest L w) : bt_ret K rest L none w := h
end ST3
set_option maxRecDepth 20000 in
set_option maxHeartbeats 4000000 in
theorem ls_pure (n : Nat) : tL_s (lI n 0) [] [some (.inr (.inr 999)), none, none, none, none, none, none] (bt_wn 0 bt_z0 bt_y0) := by
  have hz : bt_nz 0 bt_z0 bt_y0 := fun i _ k => ⟨rfl, rfl⟩
  unfold tL_s
  refine st_new ⟨rfl, by show (bt_sh0 0).1 = 10; rw [sh_0], fun _ => rfl, fun _ => rfl⟩ (st_dup (st_cI0 rfl (by simp) ?_))
  unfold SpX10_init
  refine ⟨bt_z0, bt_y0, rfl, rfl, hz, bt_rG_75, bt_rG_06, fun μ1 h75 h82 h83 h84 h85 hfr hnz => ?_⟩
  have hn5 : bt_nul (bt_wn 205 (bt_g10 bt_z0) μ1) 205 := ⟨fun k => (hnz 205 (Nat.le_refl _) k).1, fun k => (hnz 205 (Nat.le_refl _) k).2⟩
  have hs5 : (bt_sh0 205).1 = 11 := by rw [sh_205]
  refine st_retn (st_ast trivial (st_new ⟨rfl, hs5, hn5⟩ (st_dup (st_cI0 rfl (by simp) ?_))))
  unfold SpX11_init
  refine ⟨bt_g10 bt_z0, μ1, rfl, rfl, hnz, bt_rF_Rf, fun μ2 hpl hq h239 h239' hlo hhi hnz2 => ?_⟩
  have hn6 : bt_nul (bt_wn 261 (bt_g11 (bt_g10 bt_z0)) μ2) 261 := ⟨fun k => (hnz2 261 (Nat.le_refl _) k).1, fun k => (hnz2 261 (Nat.le_refl _) k).2⟩
  refine st_retn (st_ast trivial (st_ic (st_newa ⟨rfl, rfl, sh_261, hn6⟩ (st_ast trivial (st_ic (st_ist trivial ?_))))))
  have hf : bt_fst μ2 := by
    obtain ⟨M, hM, hM2⟩ := h83
    refine ⟨?_, fun k hk => (hlo 82 k (by omega)).trans (h82 k hk), ⟨M, hM, by rw [← hM2]; funext k; exact hlo 83 k (by omega)⟩, fun k hk => (hlo 84 k (by omega)).trans (h84 k hk), fun k hk => (hlo 85 k (by omega)).trans (h85 k hk), fun a k ha hn => (hlo a k ha).trans (congrFun (hfr a hn) k), hpl, hq, h239, fun a k h1 _ h3 h4 h5 => hhi a k h1 h3 h4 h5⟩
    have e : ∀ k, μ2 75 k = μ1 75 k := fun k => hlo 75 k (by omega)
    simp only [e]
    exact h75
  obtain ⟨hc, hr⟩ := ci_first hf
  exact ⟨rfl, by omega, none, none, om_1 μ2, bt_rF, μ2, rfl, rfl, hc, hr⟩
/-! what the start gives -/
theorem lw_arrP {args : Array Value} {s : State} {ty : FieldType} (h : (Cond.arrayClass ty).before args s = true) : ∃ cA : ClassId, ArrOfT s cA ty ∧ s.vm.findClass ("[" ++ ty.toString) = some cA := by
  obtain ⟨c, k, comp, h1, h2, h3⟩ := Cond.arrayClass_spec h
  exact ⟨c, fun n z => ⟨fun k h => (by cases h), k, h2, comp, h3⟩, h1⟩
theorem lw_arrO {args : Array Value} {s : State} {C : String} (h : (Cond.arrayOver (.object C)).before args s = true) : ∃ cA : ClassId, ArrOfT s cA (.object C) ∧ va_RA s cA (.object C) := by
  obtain ⟨comp, c, k, h1, h2, h3, h4, h5⟩ := Cond.arrayOver_spec h
  exact ⟨c, fun n z => ⟨fun k h => (by cases h), k, h3, comp, h4⟩, k, comp, h3, h4, h1, h5⟩
theorem lw_known {args : Array Value} {s : State} (htb : ∀ w ∈ bt_tb, w.before args s = true) : ∀ (k : Nat) (q : vw_C), vwCl[k]? = some q → ∃ (c : ClassId) (i : Nat → Nat), u_Kn s q.1 q.2.1 q.2.2 c i := by
  intro k q hq
  match k, hq with
  | 0, hq => cases hq; obtain ⟨c, i, h⟩ := u_known (n := 6) htb mc_X0 (htb _ (bt_m 139 (by decide +kernel) rfl)); exact ⟨c, i, h⟩
  | 1, hq => cases hq; obtain ⟨c, i, h⟩ := u_known (n := 9) htb mc_X1 (htb _ (bt_m 193 (by decide +kernel) rfl)); exact ⟨c, i, h⟩
  | 2, hq => cases hq; obtain ⟨c, i, h⟩ := u_known (n := 6) htb mc_X2 (htb _ (bt_m 487 (by decide +kernel) rfl)); exact ⟨c, i, h⟩
  | 3, hq => cases hq; obtain ⟨c, i, h⟩ := u_known (n := 8) htb mc_X3 (htb _ (bt_m 133 (by decide +kernel) rfl)); exact ⟨c, i, h⟩
  | 4, hq => cases hq; obtain ⟨c, i, h⟩ := u_known (n := 5) htb mc_X4 (htb _ (bt_m 344 (by decide +kernel) rfl)); exact ⟨c, i, h⟩
  | 5, hq => cases hq; obtain ⟨c, i, h⟩ := u_known (n := 9) htb mc_X5 (htb _ (bt_m 233 (by decide +kernel) rfl)); exact ⟨c, i, h⟩
  | 6, hq => cases hq; obtain ⟨c, i, h⟩ := u_known (n := 5) htb mc_X6 (htb _ (bt_m 241 (by decide +kernel) rfl)); exact ⟨c, i, h⟩
  | 7, hq => cases hq; obtain ⟨c, i, h⟩ := u_known (n := 10) htb mc_X7 (htb _ (bt_m 33 (by decide +kernel) rfl)); exact ⟨c, i, h⟩
  | 8, hq => cases hq; obtain ⟨c, i, h⟩ := u_known (n := 5) htb mc_X8 (htb _ (bt_m 315 (by decide +kernel) rfl)); exact ⟨c, i, h⟩
  | 9, hq => cases hq; obtain ⟨c, i, h⟩ := u_known (n := 20) htb mc_X9 (htb _ (bt_m 370 (by decide +kernel) rfl)); exact ⟨c, i, h⟩
  | 10, hq => cases hq; obtain ⟨c, i, h⟩ := u_known (n := 14) htb mc_X10 (htb _ (bt_m 25 (by decide +kernel) rfl)); exact ⟨c, i, h⟩
  | 11, hq => cases hq; obtain ⟨c, i, h⟩ := u_known (n := 76) htb mc_X11 (htb _ (bt_m 1201 (by decide +kernel) rfl)); exact ⟨c, i, h⟩
  | k + 12, hq => simp [vwCl] at hq
theorem lw_K {args : Array Value} {s : State} (hts : ∀ w ∈ lw_tbl, w.before args s = true) : ∃ (D : va_G) (cy : Nat → ClassId), va_K D vwCl (bt_tys cy) s := by
  have htb : ∀ w ∈ bt_tb, w.before args s = true := fun w h => hts w (List.mem_filter.mp h).1
  have ht : ∀ (i : Nat) {w : Cond}, tables_1[i]? = some w → w.before args s = true := fun i w h => hts w (List.mem_append_right _ (List.mem_of_getElem? h))
  have h0 : ∀ k : Nat, ∃ d : ClassId × (Nat → Nat), ∀ q, vwCl[k]? = some q → u_Kn s q.1 q.2.1 q.2.2 d.1 d.2 := by
    intro k
    cases hq : vwCl[k]? with
    | none => exact ⟨((0 : Nat), fun _ => 0), fun q h => by cases h⟩
    | some q =>
      obtain ⟨c, i, h⟩ := lw_known htb k q hq
      exact ⟨(c, i), fun q' h' => by cases h'; exact h⟩
  obtain ⟨d, hd⟩ := Classical.axiomOfChoice h0
  obtain ⟨c12, a12, b12⟩ := lw_arrP (ty := .byte) (ht 130 (by decide +kernel))
  obtain ⟨c13, a13, b13⟩ := lw_arrP (ty := .int) (ht 164 (by decide +kernel))
  obtain ⟨c14, a14, b14⟩ := lw_arrP (ty := .long) (ht 131 (by decide +kernel))
  obtain ⟨c15, a15, b15⟩ := lw_arrP (ty := .boolean) (ht 1448 (by decide +kernel))
  obtain ⟨c16, a16, b16⟩ := lw_arrO (C := RX2) (ht 519 (by decide +kernel))
  obtain ⟨c17, a17, b17⟩ := lw_arrO (C := RX6) (ht 323 (by decide +kernel))
  refine ⟨(fun k => (d k).1, fun k => (d k).2), fun k => if k = 12 then c12 else if k = 13 then c13 else if k = 14 then c14 else if k = 15 then c15 else if k = 16 then c16 else c17, fun c q hq => hd c q hq, fun k q hk => ?_⟩
  match k, hk with
  | 0, hk => cases hk; exact ⟨a12, b12⟩
  | 1, hk => cases hk; exact ⟨a13, b13⟩
  | 2, hk => cases hk; exact ⟨a14, b14⟩
  | 3, hk => cases hk; exact ⟨a15, b15⟩
  | 4, hk => cases hk; exact ⟨a16, b16⟩
  | 5, hk => cases hk; exact ⟨a17, b17⟩
  | k + 6, hk => simp [bt_tys] at hk
abbrev lw_tm : Term := Term.string "BearTickets$Tape" 19
theorem lw_e0 : ∀ j, j < 160 → (flatC (Jvm.Cond.and given_1 narrow_1))[55 + j]? = some (Cond.eq (.elem (.field lw_tm "java/lang/String" "value" "[B") (.int (Int32.ofNat j))) (.int (bt_wb.getD j 0))) := by decide +kernel
theorem lw_e1 : (flatC (Jvm.Cond.and given_1 narrow_1))[51]? = some (Cond.exactly lw_tm "java/lang/String") ∧ (flatC (Jvm.Cond.and given_1 narrow_1))[52]? = some (Cond.eq (.field lw_tm "java/lang/String" "coder" "B") (.int 0)) ∧ (flatC (Jvm.Cond.and given_1 narrow_1))[53]? = some (Cond.arrayOf (.field lw_tm "java/lang/String" "value" "[B") .byte) ∧ (flatC (Jvm.Cond.and given_1 narrow_1))[54]? = some (Cond.eq (.length (.field lw_tm "java/lang/String" "value" "[B")) (.int (Int32.ofNat 160))) := by decide +kernel
theorem lw_e2 : (flatC (Jvm.Cond.and given_1 narrow_1))[4]? = some (Cond.eq (.static "java/lang/String" "COMPACT_STRINGS" "Z") (.int 1)) ∧ (flatC (Jvm.Cond.and given_1 narrow_1))[5]? = some (Cond.isRef (.static "jdk/internal/util/Preconditions" "SIOOBE_FORMATTER" "Ljava/util/function/BiFunction;")) ∧ (flatC (Jvm.Cond.and given_1 narrow_1))[9]? = some (Cond.isRef (.static Bundle.tN "UNASSIGNED_STACK" Bundle.steD)) ∧ (flatC (Jvm.Cond.and given_1 narrow_1))[10]? = some (Cond.isRef (.static Bundle.tN "SUPPRESSED_SENTINEL" Bundle.listD)) := by decide +kernel
