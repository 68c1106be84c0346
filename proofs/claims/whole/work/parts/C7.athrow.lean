/-! rests: an exception that leaves -/
abbrev bt_NS : String := "java/util/NoSuchElementException"
abbrev bt_Nn : List String := ["java/lang/RuntimeException", "java/lang/Exception"]
/-- what the end of a method that may throw owes -/
def bt_Rx (X : bt_X) (Post : Option bt_V → bt_W → Prop) (PX : bt_W → Prop) : Prop := match X with
  | (_, l, _, _, s, _, args, below, meth, c, A, H0, D, cy, Q, ad) => ∃ (Qc : Array Value → State → Outcome → State → Prop) (XC : String → State → State → Prop), Q = vx_MQ below Qc XC args s 1 6 A ∧ meth.sig.returnType = some .int ∧ l.stackTraces = false ∧ s.heap = H0 ∧ vx_Zq Bundle.tN "UNASSIGNED_STACK" Bundle.steD A s s.heap ∧ vx_Zq Bundle.tN "SUPPRESSED_SENTINEL" Bundle.listD A s s.heap ∧ (∀ w ∈ vx_at0 RX10 287 bt_NS bt_Nn, w.before args s = true) ∧ (∀ x ∈ c.exceptionTable.toList, False) ∧
    (∀ (r : Option bt_V) (w : bt_W) (H : Heap) (locs : List Loc) (t : State), Post r w → bt_Rel D cy A ad w H → va_S A H0 H locs → t.heap = H → s.WarmedH t.vm → Qc args s (.returned (r.map (bt_val ad))) t) ∧
    ∀ (w : bt_W) (H : Heap) (locs : List Loc) (t : State), PX w → bt_Rel D cy A ad w H → va_S A H0 H locs → s.vm.Alike t.vm → H.size ≤ t.heap.size → (∀ q : Nat, q < H.size → t.heap[q]? = H[q]?) → XC bt_NS s t
theorem bw_thr {X : bt_X} {cc : ByteArray} {nL pc : Nat} {Post : Option bt_V → bt_W → Prop} {PX : bt_W → Prop} (hX : bt_Ow X cc nL RX10 (bt_rw 10 1 6)) (hq : bt_Rx X Post PX) (d0 : decode cc pc = .ok (.new 285, 3)) (d3 : decode cc (pc + 3) = .ok (.dup, 1)) (d4 : decode cc (pc + 4) = .ok (.invokespecial 287, 3)) (d7 : decode cc (pc + 7) = .ok (.athrow, 1)) : bt_Snd X nL (0, 0) pc (bt_thr PX) := by
  obtain ⟨p, l, e, R, s, m, args, below, meth, c, A, H0, D, cy, Q, ad⟩ := X
  obtain ⟨hx, hb, hml, hown, hts, hK, hlocks, hA, hrm, hnw⟩ := hX
  obtain ⟨Qc, XC, rfl, hrt, hl0, hs0, hU, hN, hat, hout, hret, hxc⟩ := hq
  subst hrm
  intro st L w H locs ls hk hR hS hl
  obtain ⟨rfl, hk⟩ := hk
  exact vx_throw0 (names := bt_Nn) (A := A) hx hb hl0 hown (by decide) (by decide) (hts _ (bt_m 1133 (by decide +kernel) rfl)) (hts _ (bt_ms (lw_tbl.idxOf (Cond.initialized bt_NS)) (by decide +kernel) rfl)) hat (by decide +kernel) hU hN (by rw [hs0]; exact hS) (by rw [hml]; exact hl.1) d0 d3 d4 d7 (fun x hx => (hout x hx).elim) (Nat.le_of_ble_eq_true rfl) (Nat.le_of_ble_eq_true rfl) (Nat.le_of_ble_eq_true rfl) (Nat.le_of_ble_eq_true rfl) hlocks (fun t h1 h2 h3 => hxc w H locs t hk hR hS h1 h2 h3) hS.2.2 (by omega) (by omega)
theorem bw_xret {X : bt_X} {cc : ByteArray} {nL pc : Nat} {Post : Option bt_V → bt_W → Prop} {PX : bt_W → Prop} (hX : bt_Ow X cc nL RX10 (bt_rw 10 1 6)) (hd : decode cc pc = .ok (.ireturn, 1)) (hq : bt_Rx X Post PX) : bt_Snd X nL (0, 0) pc (bt_iret Post) := by
  obtain ⟨p, l, e, R, s, m, args, below, meth, c, A, H0, D, cy, Q, ad⟩ := X
  obtain ⟨hx, hb, hml, hown, hts, hK, hlocks, hA, hrm, hnw⟩ := hX
  obtain ⟨Qc, XC, rfl, hrt, hl0, hs0, hU, hN, hat, hout, hret, hxc⟩ := hq
  intro st L w H locs ls hk hR hS hl
  match st, hk with
  | [.inl x], hk =>
    have h1 : W p l e R s m args below meth c H locs 1 6 (MQ below Qc args s 1 6 A) (F0 m pc ls [.int (bt_i x)]) := W.iret hx hb hrt (fun t ht hW => hret _ w H locs t hk hR hS ht hW) hS.2.2 hd
    exact fun T hT XS => vx_ret h1 T hT (stand_widen XS (Nat.zero_le 1) (Nat.zero_le 6))
