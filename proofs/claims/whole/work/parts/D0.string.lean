/-! the String constant: length and charAt, on the ways that are gone here -/
def bt_Sq (q v : Nat) (U : State) : Prop := vk_S 1 [160] [bt_wb] (fun _ => q) (fun _ => v) (fun _ => False) U U.heap ∧ va_Z "java/lang/String" "COMPACT_STRINGS" "Z" (.int 1) (fun _ => False) U U.heap ∧ va_Zq "jdk/internal/util/Preconditions" "SIOOBE_FORMATTER" "Ljava/util/function/BiFunction;" (fun _ => False) U U.heap
theorem bt_Sq.go {q v : Nat} {s U : State} (h : bt_Sq q v s) (hA : s.vm.Alike U.vm) (hU : U.heap = s.heap) : bt_Sq q v U := by
  unfold bt_Sq
  rw [hU]
  exact ⟨h.1.moved hA, h.2.1.moved hA, h.2.2.moved hA⟩
theorem bt_Sq_blind {av : List Value} {q v : Nat} : FrameBlind (va_Pc av (bt_Sq q v)) := fun a U g mk h => ⟨h.1, bt_Sq.go (s := U) (U := U.calling g mk a) h.2 (Vm.Alike.refl U.vm) rfl⟩
def bt_Qr (x : Option Value) : Array Value → State → Outcome → State → Prop := fun _ st oc t => oc = .returned x ∧ t.heap = st.heap
section AFTR
variable {p : Program} {l : Launch} {e : Env} {R : Room} {s : State} {m : MethodId} {args : Array Value} {below : List Frame} {meth : Method} {c : Code} {H : Heap} {locs : List Loc} {cells slots : Nat} {Qf : State → Prop}
variable {pc : Nat} {ls : Array Slot} {rest st0 : List Value} {a : Array Value} {x : Option Value}
theorem bt_afterR (hr : va_Run p l e R s m args below meth c H locs cells slots 0 0 (F0 m pc ls st0) rest (bt_Qr x a) (fun _ => False)) (kk : W p l e R s m args below meth c H locs cells slots Qf (F0 m (pc + 3) ls (x.toList ++ rest))) : W p l e R s m args below meth c H locs cells slots Qf (F0 m pc ls st0) := by
  intro T hT X
  obtain ⟨v, st₀, t, T', L, h0, X', hL, e1, e2, ⟨hv, hh⟩, st⟩ := hr T hT X
  cases hv
  have hL0 : L = [] := List.eq_nil_iff_forall_not_mem.mpr (fun q hq => hL q hq)
  subst hL0
  rw [List.append_nil] at X'
  obtain ⟨t2, a1, b1⟩ := kk T' (by rw [e1, hh, h0]) X'
  exact ⟨t2, st t2 a1, b1⟩
end AFTR
theorem sw_0 : Cond.fieldLink "java/lang/String" 38 "java/lang/String" "COMPACT_STRINGS" "Z" ∈ bt_tb := bt_m 47 (by decide +kernel) rfl
theorem sw_1 : Cond.fieldLink "java/lang/String" 15 "java/lang/String" "coder" "B" ∈ bt_tb := bt_m 1908 (by decide +kernel) rfl
theorem sw_2 : Cond.fieldLink "java/lang/String" 9 "java/lang/String" "value" "[B" ∈ bt_tb := bt_m 1907 (by decide +kernel) rfl
theorem sw_3 : Cond.fieldLink "java/lang/String" 1053 "jdk/internal/util/Preconditions" "SIOOBE_FORMATTER" "Ljava/util/function/BiFunction;" ∈ bt_tb := bt_m 63 (by decide +kernel) rfl
/-- a called method's words -/
def sw_C (own : String) (index : Nat) (y : MethodName) (bytes : ByteArray) (maxL : Nat) (ret : Option FieldType) (n : Nat) : Prop := bt_Cw own index y bytes maxL ret n
theorem sw_len : bt_Cw RX7 21 yJ0_length_8abf5 cJ0_length_8abf5 1 (some .int) 0 ∧ Cond.instanceMethod yJ0_length_8abf5 ∈ bt_tb ∧ Cond.selects "java/lang/String" yJ0_length_8abf5 yJ0_length_8abf5 ∈ bt_tb := ⟨⟨⟨by decide, by decide, by decide +kernel⟩, bt_m 42 (by decide +kernel) rfl, bt_m 39 (by decide +kernel) rfl, bt_m 3 (by decide +kernel) rfl⟩, bt_m 40 (by decide +kernel) rfl, bt_m 41 (by decide +kernel) rfl⟩
theorem sw_cod : bt_Cw "java/lang/String" 335 yJ0_coder_7d493 cJ0_coder_7d493 1 (some .byte) 0 ∧ Cond.instanceMethod yJ0_coder_7d493 ∈ bt_tb ∧ Cond.selects "java/lang/String" yJ0_coder_7d493 yJ0_coder_7d493 ∈ bt_tb := ⟨⟨⟨by decide, by decide, by decide +kernel⟩, bt_m 46 (by decide +kernel) rfl, bt_m 43 (by decide +kernel) rfl, bt_m 3 (by decide +kernel) rfl⟩, bt_m 44 (by decide +kernel) rfl, bt_m 45 (by decide +kernel) rfl⟩
theorem sw_cha : bt_Cw RX7 27 yJ0_charAt_5068e cJ0_charAt_5068e 2 (some .char) 1 ∧ Cond.instanceMethod yJ0_charAt_5068e ∈ bt_tb ∧ Cond.selects "java/lang/String" yJ0_charAt_5068e yJ0_charAt_5068e ∈ bt_tb := ⟨⟨⟨by decide, by decide, by decide +kernel⟩, bt_m 52 (by decide +kernel) rfl, bt_m 49 (by decide +kernel) rfl, bt_m 3 (by decide +kernel) rfl⟩, bt_m 50 (by decide +kernel) rfl, bt_m 51 (by decide +kernel) rfl⟩
theorem sw_lat : bt_Cw "java/lang/String" 492 yJ0_isLatin1_aae02 cJ0_isLatin1_aae02 1 (some .boolean) 0 ∧ Cond.instanceMethod yJ0_isLatin1_aae02 ∈ bt_tb ∧ Cond.selects "java/lang/String" yJ0_isLatin1_aae02 yJ0_isLatin1_aae02 ∈ bt_tb := ⟨⟨⟨by decide, by decide, by decide +kernel⟩, bt_m 56 (by decide +kernel) rfl, bt_m 53 (by decide +kernel) rfl, bt_m 3 (by decide +kernel) rfl⟩, bt_m 54 (by decide +kernel) rfl, bt_m 55 (by decide +kernel) rfl⟩
theorem sw_ch1 : bt_Cw "java/lang/String" 495 yJ1_charAt_3b067 cJ1_charAt_3b067 2 (some .char) 2 ∧ Cond.static yJ1_charAt_3b067 ∈ bt_tb := ⟨⟨⟨by decide, by decide, by decide +kernel⟩, bt_m 59 (by decide +kernel) rfl, bt_m 57 (by decide +kernel) rfl, bt_m 4 (by decide +kernel) rfl⟩, bt_m 58 (by decide +kernel) rfl⟩
theorem sw_ci0 : bt_Cw "java/lang/StringLatin1" 9 yJ0_checkIndex_df160 cJ0_checkIndex_df160 2 none 2 ∧ Cond.static yJ0_checkIndex_df160 ∈ bt_tb := ⟨⟨⟨by decide, by decide, by decide +kernel⟩, bt_m 62 (by decide +kernel) rfl, bt_m 60 (by decide +kernel) rfl, bt_m 3 (by decide +kernel) rfl⟩, bt_m 61 (by decide +kernel) rfl⟩
theorem sw_ci3 : bt_Cw "java/lang/String" 1059 yJ3_checkIndex_8e157 cJ3_checkIndex_8e157 3 (some .int) 3 ∧ Cond.static yJ3_checkIndex_8e157 ∈ bt_tb := ⟨⟨⟨by decide, by decide, by decide +kernel⟩, bt_m 67 (by decide +kernel) rfl, bt_m 65 (by decide +kernel) rfl, bt_m 5 (by decide +kernel) rfl⟩, bt_m 66 (by decide +kernel) rfl⟩
/-- what is known of the places -/
theorem sw_k : ∀ k, k < 160 → (¬ (Int32.ofNat k < 0) ∧ Int32.ofNat k < Int32.ofNat 160) ∧ (Int32.ofNat k).toNatClampNeg = k ∧ ((bt_wb.getD k 0 &&& 255).toUInt32 % 65536).toInt32 = bt_wb.getD k 0 := by decide +kernel
theorem sw_n : ∀ k, k < 160 → narrow .char (.int (bt_wb.getD k 0)) = .int (bt_wb.getD k 0) := by decide +kernel
section SMET
variable {l : Launch} {q v : Nat}
theorem sm_cod : Met l yJ0_coder_7d493 (Cond.code yJ0_coder_7d493 cJ0_coder_7d493 1 (some .byte) :: bt_tb) (bt_room 0) (va_Pc [.ref q] (bt_Sq q v)) (bt_Qr (some (.int 0))) 0 0 (fun _ => False) := by
  refine Met.ofW (cc := cJ0_coder_7d493) (maxL := 1) (ret := some .byte) (by decide) rfl ?_
  intro p e s m args below meth c s₁ B hml hv
  obtain ⟨rfl, hq, hz, -⟩ := hv
  have hts0 := atoms_spec (ws := Cond.code yJ0_coder_7d493 cJ0_coder_7d493 1 (some .byte) :: bt_tb) B.pre
  have hts : ∀ w ∈ bt_tb, w.before ([.ref q] : List Value).toArray s = true := fun w h => hts0 w (List.mem_cons_of_mem _ h)
  have hown : s.vm.findClass "java/lang/String" = some m.cls := findClass_of_methodNamed B.named
  have hl := lv_entry [.ref q] (n := 1) (Nat.le_of_ble_eq_true rfl)
  rw [lg_entry_eq]
  have hx := B.exec
  have hb := B.bytes
  have hS : va_S (fun _ => False) s.heap s.heap [] := va_S.rf
  refine va_gets hx hb hz hS hown (hts _ sw_0) (fun x h => h) dJ0_coder_7d493_0 ?_
  refine lv_if_eq hx hb dJ0_coder_7d493_3 (tgt := 13) rfl (fun h => absurd h (by decide)) (fun _ => ?_)
  refine lv_aload_n hx hb dJ0_coder_7d493_6 rfl (lv_at hl 0 rfl) ?_
  refine vk_getf hx hb (hq.1 0 (by decide)).2.1 hS hown (hts _ sw_1) (fun x h => h) dJ0_coder_7d493_7 ?_
  refine lv_goto hx hb dJ0_coder_7d493_10 (tgt := 14) rfl ?_
  exact W.zret hx hb B.returns (by decide) (fun t ht _ => ⟨rfl, ht⟩) (fun q h => nomatch h) dJ0_coder_7d493_14 B.notSynchronized
theorem sm_lat : Met l yJ0_isLatin1_aae02 (Cond.code yJ0_isLatin1_aae02 cJ0_isLatin1_aae02 1 (some .boolean) :: bt_tb) (bt_room 0) (va_Pc [.ref q] (bt_Sq q v)) (bt_Qr (some (.int 1))) 0 0 (fun _ => False) := by
  refine Met.ofW (cc := cJ0_isLatin1_aae02) (maxL := 1) (ret := some .boolean) (by decide) rfl ?_
  intro p e s m args below meth c s₁ B hml hv
  obtain ⟨rfl, hq, hz, -⟩ := hv
  have hts0 := atoms_spec (ws := Cond.code yJ0_isLatin1_aae02 cJ0_isLatin1_aae02 1 (some .boolean) :: bt_tb) B.pre
  have hts : ∀ w ∈ bt_tb, w.before ([.ref q] : List Value).toArray s = true := fun w h => hts0 w (List.mem_cons_of_mem _ h)
  have hown : s.vm.findClass "java/lang/String" = some m.cls := findClass_of_methodNamed B.named
  have hl := lv_entry [.ref q] (n := 1) (Nat.le_of_ble_eq_true rfl)
  rw [lg_entry_eq]
  have hx := B.exec
  have hb := B.bytes
  have hS : va_S (fun _ => False) s.heap s.heap [] := va_S.rf
  refine va_gets hx hb hz hS hown (hts _ sw_0) (fun x h => h) dJ0_isLatin1_aae02_0 ?_
  refine lv_if_eq hx hb dJ0_isLatin1_aae02_3 (tgt := 17) rfl (fun h => absurd h (by decide)) (fun _ => ?_)
  refine lv_aload_n hx hb dJ0_isLatin1_aae02_6 rfl (lv_at hl 0 rfl) ?_
  refine vk_getf hx hb (hq.1 0 (by decide)).2.1 hS hown (hts _ sw_1) (fun x h => h) dJ0_isLatin1_aae02_7 ?_
  refine lv_if_ne hx hb dJ0_isLatin1_aae02_10 (tgt := 17) rfl (fun h => absurd rfl h) (fun _ => ?_)
  refine lv_iconst hx hb dJ0_isLatin1_aae02_13 (v := 1) (by decide) ?_
  refine lv_goto hx hb dJ0_isLatin1_aae02_14 (tgt := 18) rfl ?_
  exact W.zret hx hb B.returns (by decide) (fun t ht _ => ⟨rfl, ht⟩) (fun q h => nomatch h) dJ0_isLatin1_aae02_18 B.notSynchronized
theorem sm_len : Met l yJ0_length_8abf5 (Cond.code yJ0_length_8abf5 cJ0_length_8abf5 1 (some .int) :: bt_tb) (bt_room 1) (va_Pc [.ref q] (bt_Sq q v)) (bt_Qr (some (.int (bt_i 160)))) 0 0 (fun _ => False) := by
  refine Met.ofW (cc := cJ0_length_8abf5) (maxL := 1) (ret := some .int) (by decide) rfl ?_
  intro p e s m args below meth c s₁ B hml hv
  obtain ⟨rfl, hq⟩ := hv
  have hts0 := atoms_spec (ws := Cond.code yJ0_length_8abf5 cJ0_length_8abf5 1 (some .int) :: bt_tb) B.pre
  have hts : ∀ w ∈ bt_tb, w.before ([.ref q] : List Value).toArray s = true := fun w h => hts0 w (List.mem_cons_of_mem _ h)
  have hown : s.vm.findClass "java/lang/String" = some m.cls := findClass_of_methodNamed B.named
  have hl := lv_entry [.ref q] (n := 1) (Nat.le_of_ble_eq_true rfl)
  rw [lg_entry_eq]
  have hx := B.exec
  have hb := B.bytes
  have hS : va_S (fun _ => False) s.heap s.heap [] := va_S.rf
  obtain ⟨cell, c1, c2, c3, c4, c5, c6, c7⟩ := (hq.1.1 0 (by decide)).2.2.2
  refine lv_aload_n hx hb dJ0_length_8abf5_0 rfl (lv_at hl 0 rfl) ?_
  refine vk_getf hx hb (hq.1.1 0 (by decide)).2.2.1 hS hown (hts _ sw_2) (fun x h => h) dJ0_length_8abf5_1 ?_
  refine W.alen (n := bt_i 160) hx hb c1 c2 (c5.trans (by decide)) rfl rfl dJ0_length_8abf5_4 ?_
  refine lv_aload_n hx hb dJ0_length_8abf5_5 rfl (lv_at hl 0 rfl) ?_
  refine bt_afterR (va_runV (b := q) (As := []) (rest := [.int (bt_i 160)]) (C := "java/lang/String") ⟨hx, hb, hml, hown, hts⟩ (sm_cod (l := l) (q := q) (v := v)) ⟨callB_of 0 hts (bt_goodIn sw_cod.1.2.1) rfl rfl rfl (hts _ sw_cod.1.2.2.2) (hts _ sw_cod.1.2.2.1) sw_cod.1.1 ⟨Nat.le_of_ble_eq_true rfl, Nat.le_of_ble_eq_true rfl⟩, hts _ sw_cod.2.1, hts _ sw_cod.2.2⟩ ⟨bt_Sq_blind, vk_recv (i := 0) hq.1 (by decide) hS, fun U hU hW => ⟨rfl, hq.go hW.alike hU⟩⟩ rfl rfl hl.1 rfl (lv_room (Nat.le_of_ble_eq_true rfl)) dJ0_length_8abf5_6 ⟨Nat.zero_le _, Nat.zero_le _⟩) ?_
  refine lv_ishr hx hb dJ0_length_8abf5_9 ?_
  exact W.iret hx hb B.returns (fun t ht _ => ⟨congrArg (fun z => Outcome.returned (some (Value.int z))) (by decide), ht⟩) (fun q h => nomatch h) dJ0_length_8abf5_10 B.notSynchronized
theorem sm_ci3 {k : Nat} {z : Value} (hz : z = .null ∨ ∃ t : Nat, z = .ref t) (hk : k < 160) : Met l yJ3_checkIndex_8e157 (Cond.code yJ3_checkIndex_8e157 cJ3_checkIndex_8e157 3 (some .int) :: bt_tb) (bt_room 0) (va_Pc [.int (Int32.ofNat k), .int (Int32.ofNat 160), z] (bt_Sq q v)) (bt_Qr (some (.int (Int32.ofNat k)))) 0 0 (fun _ => False) := by
  refine Met.ofW (cc := cJ3_checkIndex_8e157) (maxL := 3) (ret := some .int) (by decide) rfl ?_
  intro p e s m args below meth c s₁ B hml hv
  obtain ⟨rfl, hq⟩ := hv
  have hl := lv_entry [.int (Int32.ofNat k), .int (Int32.ofNat 160), z] (n := 3) (by rcases hz with rfl | ⟨t, rfl⟩ <;> exact Nat.le_of_ble_eq_true rfl)
  rw [lg_entry_eq]
  have hx := B.exec
  have hb := B.bytes
  obtain ⟨⟨h0, h1⟩, -⟩ := sw_k k hk
  refine lv_iload_n hx hb dJ3_checkIndex_8e157_0 rfl (lv_at hl 0 rfl) ?_
  refine lv_if_lt hx hb dJ3_checkIndex_8e157_1 (tgt := 9) rfl (fun h => absurd h h0) (fun _ => ?_)
  refine lv_iload_n hx hb dJ3_checkIndex_8e157_4 rfl (lv_at hl 0 rfl) ?_
  refine lv_iload_n hx hb dJ3_checkIndex_8e157_5 rfl (lv_at hl 1 rfl) ?_
  refine lv_icmp_lt hx hb dJ3_checkIndex_8e157_6 (tgt := 16) rfl (fun _ => ?_) (fun h => absurd h1 h)
  refine lv_iload_n hx hb dJ3_checkIndex_8e157_16 rfl (lv_at hl 0 rfl) ?_
  exact W.iret hx hb B.returns (fun t ht _ => ⟨rfl, ht⟩) (fun q h => nomatch h) dJ3_checkIndex_8e157_17 B.notSynchronized
theorem sm_ci0 {k : Nat} (hk : k < 160) : Met l yJ0_checkIndex_df160 (Cond.code yJ0_checkIndex_df160 cJ0_checkIndex_df160 2 none :: bt_tb) (bt_room 1) (va_Pc [.int (Int32.ofNat k), .int (Int32.ofNat 160)] (bt_Sq q v)) (bt_Qr none) 0 0 (fun _ => False) := by
  refine Met.ofW (cc := cJ0_checkIndex_df160) (maxL := 2) (ret := none) (by decide) rfl ?_
  intro p e s m args below meth c s₁ B hml hv
  obtain ⟨rfl, hq⟩ := hv
  have hts0 := atoms_spec (ws := Cond.code yJ0_checkIndex_df160 cJ0_checkIndex_df160 2 none :: bt_tb) B.pre
  have hts : ∀ w ∈ bt_tb, w.before ([.int (Int32.ofNat k), .int (Int32.ofNat 160)] : List Value).toArray s = true := fun w h => hts0 w (List.mem_cons_of_mem _ h)
  have hown : s.vm.findClass "java/lang/String" = some m.cls := findClass_of_methodNamed B.named
  have hl := lv_entry [.int (Int32.ofNat k), .int (Int32.ofNat 160)] (n := 2) (Nat.le_of_ble_eq_true rfl)
  rw [lg_entry_eq]
  have hx := B.exec
  have hb := B.bytes
  have hS : va_S (fun _ => False) s.heap s.heap [] := va_S.rf
  refine lv_iload_n hx hb dJ0_checkIndex_df160_0 rfl (lv_at hl 0 rfl) ?_
  refine lv_iload_n hx hb dJ0_checkIndex_df160_1 rfl (lv_at hl 1 rfl) ?_
  have go : ∀ z : Value, (z = .null ∨ ∃ t : Nat, z = .ref t) → va_Z "jdk/internal/util/Preconditions" "SIOOBE_FORMATTER" "Ljava/util/function/BiFunction;" z (fun _ => False) s s.heap → W p l e (headSpec (Cond.code yJ0_checkIndex_df160 cJ0_checkIndex_df160 2 none :: bt_tb) (bt_room 1)).room s m ([.int (Int32.ofNat k), .int (Int32.ofNat 160)] : List Value).toArray below meth c s.heap [] 0 0 (MQ below (bt_Qr none) ([.int (Int32.ofNat k), .int (Int32.ofNat 160)] : List Value).toArray s 0 0 (fun _ => False)) (F0 m 2 (lg_sl [.int (Int32.ofNat k), .int (Int32.ofNat 160)] ++ List.replicate (2 - (lg_sl [.int (Int32.ofNat k), .int (Int32.ofNat 160)]).length) Slot.unset).toArray [.int (Int32.ofNat 160), .int (Int32.ofNat k)]) := by
    intro z hz hZ
    refine va_gets hx hb hZ hS hown (hts _ sw_3) (fun x h => h) dJ0_checkIndex_df160_2 ?_
    refine bt_afterR (va_runS (As := [.int (Int32.ofNat k), .int (Int32.ofNat 160), z]) (rest := []) ⟨hx, hb, hml, hown, hts⟩ (sm_ci3 (l := l) (q := q) (v := v) hz hk) ⟨callB_of 3 hts (bt_goodIn sw_ci3.1.2.1) rfl rfl rfl (hts _ sw_ci3.1.2.2.2) (hts _ sw_ci3.1.2.2.1) sw_ci3.1.1 ⟨Nat.le_of_ble_eq_true rfl, Nat.le_of_ble_eq_true rfl⟩, hts _ sw_ci3.2⟩ ⟨bt_Sq_blind, fun U hU hW => ⟨rfl, hq.go hW.alike hU⟩⟩ rfl rfl hl.1 rfl (lv_room (Nat.le_of_ble_eq_true rfl)) dJ0_checkIndex_df160_5 ⟨Nat.zero_le _, Nat.zero_le _⟩) ?_
    refine lv_pop hx hb dJ0_checkIndex_df160_8 rfl ?_
    exact W.vret hx hb B.returns (fun t ht _ => ⟨rfl, ht⟩) (fun q h => nomatch h) dJ0_checkIndex_df160_9 B.notSynchronized
  rcases hq.2.2 with hz | ⟨t, hz⟩
  · exact go .null (Or.inl rfl) hz
  · exact go (.ref t) (Or.inr ⟨t, rfl⟩) hz
theorem sm_ch1 {k : Nat} (hk : k < 160) : Met l yJ1_charAt_3b067 (Cond.code yJ1_charAt_3b067 cJ1_charAt_3b067 2 (some .char) :: bt_tb) (bt_room 2) (va_Pc [.ref v, .int (Int32.ofNat k)] (bt_Sq q v)) (bt_Qr (some (.int (bt_wb.getD k 0)))) 0 0 (fun _ => False) := by
  refine Met.ofW (cc := cJ1_charAt_3b067) (maxL := 2) (ret := some .char) (by decide) rfl ?_
  intro p e s m args below meth c s₁ B hml hv
  obtain ⟨rfl, hq⟩ := hv
  have hts0 := atoms_spec (ws := Cond.code yJ1_charAt_3b067 cJ1_charAt_3b067 2 (some .char) :: bt_tb) B.pre
  have hts : ∀ w ∈ bt_tb, w.before ([.ref v, .int (Int32.ofNat k)] : List Value).toArray s = true := fun w h => hts0 w (List.mem_cons_of_mem _ h)
  have hown : s.vm.findClass "java/lang/StringLatin1" = some m.cls := findClass_of_methodNamed B.named
  have hl := lv_entry [.ref v, .int (Int32.ofNat k)] (n := 2) (Nat.le_of_ble_eq_true rfl)
  rw [lg_entry_eq]
  have hx := B.exec
  have hb := B.bytes
  obtain ⟨⟨h0, h1⟩, h2, h3⟩ := sw_k k hk
  obtain ⟨cell, c1, c2, c3, c4, c5, c6, c7⟩ := (hq.1.1 0 (by decide)).2.2.2
  refine lv_iload_n hx hb dJ1_charAt_3b067_0 rfl (lv_at hl 1 rfl) ?_
  refine lv_aload_n hx hb dJ1_charAt_3b067_1 rfl (lv_at hl 0 rfl) ?_
  refine W.alen (n := Int32.ofNat 160) hx hb c1 c2 c5 rfl rfl dJ1_charAt_3b067_2 ?_
  refine bt_afterR (va_runS (As := [.int (Int32.ofNat k), .int (Int32.ofNat 160)]) (rest := []) ⟨hx, hb, hml, hown, hts⟩ (sm_ci0 (l := l) (q := q) (v := v) hk) ⟨callB_of 2 hts (bt_goodIn sw_ci0.1.2.1) rfl rfl rfl (hts _ sw_ci0.1.2.2.2) (hts _ sw_ci0.1.2.2.1) sw_ci0.1.1 ⟨Nat.le_of_ble_eq_true rfl, Nat.le_of_ble_eq_true rfl⟩, hts _ sw_ci0.2⟩ ⟨bt_Sq_blind, fun U hU hW => ⟨rfl, hq.go hW.alike hU⟩⟩ rfl rfl hl.1 rfl (lv_room (Nat.le_of_ble_eq_true rfl)) dJ1_charAt_3b067_3 ⟨Nat.zero_le _, Nat.zero_le _⟩) ?_
  refine lv_aload_n hx hb dJ1_charAt_3b067_6 rfl (lv_at hl 0 rfl) ?_
  refine lv_iload_n hx hb dJ1_charAt_3b067_7 rfl (lv_at hl 1 rfl) ?_
  have c4' : 160 ≤ cell.slots.size := c4
  refine W.bald (v := .int (bt_wb.getD k 0)) hx hb c1 c2 c3 (by rw [h2]; exact fun h => h.elim h0 (fun h => by omega)) (by rw [h2]; exact c6 k hk) rfl rfl dJ1_charAt_3b067_8 ?_
  refine lv_sipush hx hb dJ1_charAt_3b067_9 (v := 255) (by decide) ?_
  refine lv_iand hx hb dJ1_charAt_3b067_12 ?_
  refine lv_i2c hx hb dJ1_charAt_3b067_13 h3 ?_
  exact W.zret hx hb B.returns (sw_n k hk) (fun t ht _ => ⟨rfl, ht⟩) (fun q h => nomatch h) dJ1_charAt_3b067_14 B.notSynchronized
theorem sm_cha {k : Nat} (hk : k < 160) : Met l yJ0_charAt_5068e (Cond.code yJ0_charAt_5068e cJ0_charAt_5068e 2 (some .char) :: bt_tb) (bt_room 3) (va_Pc [.ref q, .int (Int32.ofNat k)] (bt_Sq q v)) (bt_Qr (some (.int (bt_wb.getD k 0)))) 0 0 (fun _ => False) := by
  refine Met.ofW (cc := cJ0_charAt_5068e) (maxL := 2) (ret := some .char) (by decide) rfl ?_
  intro p e s m args below meth c s₁ B hml hv
  obtain ⟨rfl, hq⟩ := hv
  have hts0 := atoms_spec (ws := Cond.code yJ0_charAt_5068e cJ0_charAt_5068e 2 (some .char) :: bt_tb) B.pre
  have hts : ∀ w ∈ bt_tb, w.before ([.ref q, .int (Int32.ofNat k)] : List Value).toArray s = true := fun w h => hts0 w (List.mem_cons_of_mem _ h)
  have hown : s.vm.findClass "java/lang/String" = some m.cls := findClass_of_methodNamed B.named
  have hl := lv_entry [.ref q, .int (Int32.ofNat k)] (n := 2) (Nat.le_of_ble_eq_true rfl)
  rw [lg_entry_eq]
  have hx := B.exec
  have hb := B.bytes
  have hS : va_S (fun _ => False) s.heap s.heap [] := va_S.rf
  refine lv_aload_n hx hb dJ0_charAt_5068e_0 rfl (lv_at hl 0 rfl) ?_
  refine bt_afterR (va_runV (b := q) (As := []) (rest := []) (C := "java/lang/String") ⟨hx, hb, hml, hown, hts⟩ (sm_lat (l := l) (q := q) (v := v)) ⟨callB_of 0 hts (bt_goodIn sw_lat.1.2.1) rfl rfl rfl (hts _ sw_lat.1.2.2.2) (hts _ sw_lat.1.2.2.1) sw_lat.1.1 ⟨Nat.le_of_ble_eq_true rfl, Nat.le_of_ble_eq_true rfl⟩, hts _ sw_lat.2.1, hts _ sw_lat.2.2⟩ ⟨bt_Sq_blind, vk_recv (i := 0) hq.1 (by decide) hS, fun U hU hW => ⟨rfl, hq.go hW.alike hU⟩⟩ rfl rfl hl.1 rfl (lv_room (Nat.le_of_ble_eq_true rfl)) dJ0_charAt_5068e_1 ⟨Nat.zero_le _, Nat.zero_le _⟩) ?_
  refine lv_if_eq hx hb dJ0_charAt_5068e_4 (tgt := 16) rfl (fun h => absurd h (by decide)) (fun _ => ?_)
  refine lv_aload_n hx hb dJ0_charAt_5068e_7 rfl (lv_at hl 0 rfl) ?_
  refine vk_getf hx hb (hq.1.1 0 (by decide)).2.2.1 hS hown (hts _ sw_2) (fun x h => h) dJ0_charAt_5068e_8 ?_
  refine lv_iload_n hx hb dJ0_charAt_5068e_11 rfl (lv_at hl 1 rfl) ?_
  refine bt_afterR (va_runS (As := [.ref v, .int (Int32.ofNat k)]) (rest := []) ⟨hx, hb, hml, hown, hts⟩ (sm_ch1 (l := l) (q := q) (v := v) hk) ⟨callB_of 2 hts (bt_goodIn sw_ch1.1.2.1) rfl rfl rfl (hts _ sw_ch1.1.2.2.2) (hts _ sw_ch1.1.2.2.1) sw_ch1.1.1 ⟨Nat.le_of_ble_eq_true rfl, Nat.le_of_ble_eq_true rfl⟩, hts _ sw_ch1.2⟩ ⟨bt_Sq_blind, fun U hU hW => ⟨rfl, hq.go hW.alike hU⟩⟩ rfl rfl hl.1 rfl (lv_room (Nat.le_of_ble_eq_true rfl)) dJ0_charAt_5068e_12 ⟨Nat.zero_le _, Nat.zero_le _⟩) ?_
  exact W.zret hx hb B.returns (sw_n k hk) (fun t ht _ => ⟨rfl, ht⟩) (fun q h => nomatch h) dJ0_charAt_5068e_15 B.notSynchronized
end SMET
/-! the two calls, as steps in Tape's own frame -/
def bt_chr (k : Nat) : Int := (bt_wb.getD k 0).toInt
def bt_sln (k : bt_K) : bt_K := fun st L w => st.length ≤ 4 ∧ k (.inl 160 :: st) L w
def bt_sch (k : bt_K) : bt_K := fun st L w => match L[(2 : Nat)]? with
  | some (some (.inl i)) => (0 ≤ bt_w i ∧ bt_w i < 160) ∧ st.length ≤ 4 ∧ k (.inl (bt_chr (bt_w i).toNat) :: st) L w
  | _ => False
theorem bt_SqU {A : Nat → Prop} {s : State} {H0 H : Heap} {q v : Nat} {locs : List Loc} (h4 : vk_S 1 [160] [bt_wb] (fun _ => q) (fun _ => v) A s H0) (h5 : va_Z "java/lang/String" "COMPACT_STRINGS" "Z" (.int 1) A s H0) (h6 : va_Zq "jdk/internal/util/Preconditions" "SIOOBE_FORMATTER" "Ljava/util/function/BiFunction;" A s H0) (hS : va_S A H0 H locs) : ∀ U : State, U.heap = H → s.WarmedH U.vm → bt_Sq q v U := by
  intro U hU hW
  unfold bt_Sq
  rw [hU]
  exact ⟨((h4.kept hS.2.1).narrow (fun _ f => f.elim)).moved hW.alike, ((h5.kept hS.2.1).narrow (fun _ f => f.elim)).moved hW.alike, ((h6.kept hS.2.1).narrow (fun _ f => f.elim)).moved hW.alike⟩
theorem bw_sln {X : bt_X} {cc : ByteArray} {nL : Nat} {dd : Room} {cs : Nat × Nat} {pc : Nat} {k : bt_K} (hX : bt_Ow X cc nL RX7 dd) (hd : decode cc pc = .ok (.ldc 19, 2)) (hd2 : decode cc (pc + 2) = .ok (.invokevirtual 21, 3)) (hq : 2 ≤ dd.frames ∧ 200 ≤ dd.locals ∧ cs.1 ≤ dd.cells ∧ cs.2 ≤ dd.slots) (h : bt_Snd X nL cs (pc + 5) k) : bt_Snd X nL cs pc (bt_sln k) := by
  obtain ⟨p, l, e, R, s, m, args, below, meth, c, A, H0, D, cy, Q, ad⟩ := X
  obtain ⟨hx, hb, hml, hown, hts, hK, hlocks, hA, hrm, hnw⟩ := hX
  subst hrm
  obtain ⟨-, -, -, q, v, h3, h4, h5, h6⟩ := hnw
  intro st L w H locs ls hk hR hS hl
  refine va_ldcS hx hb hown h3 hd ?_
  obtain ⟨cell, a1, a2, a3, -⟩ := (h4.1 0 (by decide)).1.kept hS.2.1
  refine bt_afterR (va_runV (b := q) (As := []) (rest := st.map (bt_val ad)) (C := "java/lang/String") ⟨hx, hb, hml, hown, hts⟩ (sm_len (l := l) (q := q) (v := v)) ⟨callB_of 0 hts (bt_goodIn sw_len.1.2.1) rfl rfl rfl (hts _ sw_len.1.2.2.2) (hts _ sw_len.1.2.2.1) sw_len.1.1 ⟨hq.1, by show 8 + (1 + 11) + 64 * 1 ≤ R.locals; omega⟩, hts _ sw_len.2.1, hts _ sw_len.2.2⟩ ⟨bt_Sq_blind, ⟨cell, a1, a2, a3⟩, fun U hU hW => ⟨rfl, bt_SqU h4 h5 h6 hS U hU hW⟩⟩ rfl rfl hl.1 rfl (lv_room (Nat.le_trans (bt_cats ad _) (by have := hk.1; omega))) hd2 ⟨hq.2.2.1, hq.2.2.2⟩) ?_
  exact h (.inl 160 :: st) L w H locs ls hk.2 hR hS hl
theorem bw_sch {X : bt_X} {cc : ByteArray} {nL : Nat} {dd : Room} {cs : Nat × Nat} {pc : Nat} {k : bt_K} (hX : bt_Ow X cc nL RX7 dd) (hd : decode cc pc = .ok (.ldc 19, 2)) (hd1 : decode cc (pc + 2) = .ok (.iload_n 2, 1)) (hd2 : decode cc (pc + 2 + 1) = .ok (.invokevirtual 27, 3)) (hq : 4 ≤ dd.frames ∧ 400 ≤ dd.locals ∧ cs.1 ≤ dd.cells ∧ cs.2 ≤ dd.slots) (h : bt_Snd X nL cs (pc + 6) k) : bt_Snd X nL cs pc (bt_sch k) := by
  obtain ⟨p, l, e, R, s, m, args, below, meth, c, A, H0, D, cy, Q, ad⟩ := X
  obtain ⟨hx, hb, hml, hown, hts, hK, hlocks, hA, hrm, hnw⟩ := hX
  subst hrm
  obtain ⟨-, -, -, q, v, h3, h4, h5, h6⟩ := hnw
  intro st L w H locs ls hk hR hS hl
  unfold bt_sch at hk
  split at hk
  · next i hi2 =>
    obtain ⟨⟨i0, i1⟩, hst, hk⟩ := hk
    have hki : (bt_w i).toNat < 160 := by omega
    have hie : bt_i i = Int32.ofNat (bt_w i).toNat := by
      apply Int32.toInt_inj.mp
      rw [Int32.toInt_ofNat_of_lt (by omega)]
      show bt_w i = _
      omega
    refine va_ldcS hx hb hown h3 hd ?_
    refine lv_iload_n hx hb hd1 rfl (hl.2.2 _ _ hi2) ?_
    obtain ⟨cell, a1, a2, a3, -⟩ := (h4.1 0 (by decide)).1.kept hS.2.1
    refine bt_afterR (va_runV (b := q) (As := [.int (Int32.ofNat (bt_w i).toNat)]) (rest := st.map (bt_val ad)) (C := "java/lang/String") ⟨hx, hb, hml, hown, hts⟩ (sm_cha (l := l) (q := q) (v := v) hki) ⟨callB_of 1 hts (bt_goodIn sw_cha.1.2.1) rfl rfl rfl (hts _ sw_cha.1.2.2.2) (hts _ sw_cha.1.2.2.1) sw_cha.1.1 ⟨hq.1, by show 8 + (2 + 11) + 64 * 3 ≤ R.locals; omega⟩, hts _ sw_cha.2.1, hts _ sw_cha.2.2⟩ ⟨bt_Sq_blind, ⟨cell, a1, a2, a3⟩, fun U hU hW => ⟨rfl, bt_SqU h4 h5 h6 hS U hU hW⟩⟩ rfl rfl hl.1 (by show (Value.int (bt_i i) :: _ : List Value) = _; rw [hie]; rfl) (lv_room (Nat.le_trans (bt_cats ad _) (by omega))) hd2 ⟨hq.2.2.1, hq.2.2.2⟩) ?_
    have h9 := h (.inl (bt_chr (bt_w i).toNat) :: st) L w H locs ls hk hR hS hl
    have e9 : bt_i (bt_chr (bt_w i).toNat) = bt_wb.getD (bt_w i).toNat 0 := by
      unfold bt_chr bt_i
      exact Int32.ofInt_toInt _
    simp only [List.map_cons, bt_val, e9] at h9
    exact h9
  · exact hk.elim
