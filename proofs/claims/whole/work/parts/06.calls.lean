/-! calls: the contract of a method over the whole picture -/
def bt_tg : bt_V → Nat
  | .inl _ => 0
  | .inr (.inl _) => 1
  | .inr (.inr _) => 2
def bt_sig (as : List bt_V) : List Nat := as.map bt_tg
abbrev bt_Sp : Type := List bt_V → bt_W → (Option bt_V → bt_W → Prop) → Prop
def bt_Pc (D : va_G) (cy : Nat → ClassId) (ad : Nat → Nat) (As : List bt_V) (w : bt_W) (sz : Nat) : Array Value → State → Prop := va_Pc (As.map (bt_val ad)) (fun U => U.heap.size = sz ∧ va_P D vwCl (bt_ws cy ad w) U.heap ∧ va_K D vwCl (bt_tys cy) U ∧ va_D (fun _ => True) (bt_ws cy ad w) ∧ ∀ w ∈ bt_nw, va_Nw w U)
def bt_Qc (D : va_G) (cy : Nat → ClassId) (ad : Nat → Nat) (w : bt_W) (sz : Nat) (Q : Option bt_V → bt_W → Prop) : Array Value → State → Outcome → State → Prop := fun _ st oc t => (∃ (r : Option bt_V) (w' : bt_W), oc = .returned (r.map (bt_val ad)) ∧ Q r w' ∧ va_P D vwCl (bt_ws cy ad w') t.heap ∧ va_D (va_A (bt_ws cy ad w) sz) (bt_ws cy ad w')) ∧ va_F (va_A (bt_ws cy ad w) sz) st t
def bt_Met (y : MethodName) (cc : ByteArray) (nL : Nat) (ret : Option FieldType) (d : Nat) (sg : List Nat) (Sp : bt_Sp) : Prop := ∀ (l : Launch) (D : va_G) (cy : Nat → ClassId) (ad : Nat → Nat) (As : List bt_V) (w : bt_W) (Q : Option bt_V → bt_W → Prop) (sz : Nat), bt_sig As = sg → Sp As w Q →
  Met l y (Cond.code y cc nL ret :: bt_tb) (bt_room d) (bt_Pc D cy ad As w sz) (bt_Qc D cy ad w sz Q) 0 0 (va_A (bt_ws cy ad w) sz)
theorem bt_Pc_blind {D : va_G} {cy : Nat → ClassId} {ad : Nat → Nat} {As : List bt_V} {w : bt_W} {sz : Nat} : FrameBlind (bt_Pc D cy ad As w sz) := fun a U g mk q => by
  obtain ⟨q0, q1, qP, qK, qD, qN⟩ := q
  exact ⟨q0, q1, qP, va_K.moved (u := U) (U := U.calling g mk a) (Vm.Alike.refl U.vm) qK, qD, fun w hw => va_Nw.same (u := U) (U := U.calling g mk a) (bt_nw_on hw) rfl (qN w hw)⟩
theorem bt_good : bt_tb.all goodWord = true := List.all_eq_true.mpr (fun _ h => (List.mem_filter.mp h).2)
theorem bt_goodIn {w : Cond} (h : w ∈ bt_tb) : GoodIn bt_tb (w :: bt_tb) := by
  intro v hv
  have hm : v ∈ bt_tb := by
    rcases List.mem_cons.mp hv with e | e
    · rw [e]; exact h
    · exact e
  exact ⟨hm, good_of_word (List.all_eq_true.mp bt_good v hm)⟩
section AFT
variable {p : Program} {l : Launch} {e : Env} {R : Room} {s : State} {m : MethodId} {args : Array Value} {below : List Frame} {meth : Method} {c : Code} {H : Heap} {locs : List Loc} {cells slots : Nat} {Qf : State → Prop}
variable {pc : Nat} {ls : Array Slot} {rest st0 : List Value} {a : Array Value} {A : Nat → Prop} {H0 : Heap} {D : va_G} {cy : Nat → ClassId} {ad : Nat → Nat} {w : bt_W} {Q : Option bt_V → bt_W → Prop}
theorem bt_after (hr : va_Run p l e R s m args below meth c H locs cells slots 0 0 (F0 m pc ls st0) rest (bt_Qc D cy ad w H.size Q a) (va_A (bt_ws cy ad w) H.size)) (hS : va_S A H0 H locs) (hR : bt_Rel D cy A ad w H) (hA : ∀ q, H0.size ≤ q → A q)
    (kk : ∀ (r : Option bt_V) (w' : bt_W) (H1 : Heap) (locs1 : List Loc), Q r w' → bt_Rel D cy A ad w' H1 → va_S A H0 H1 locs1 → W p l e R s m args below meth c H1 locs1 cells slots Qf (F0 m (pc + 3) ls ((r.map (bt_val ad)).toList ++ rest))) :
    W p l e R s m args below meth c H locs cells slots Qf (F0 m pc ls st0) := by
  have hF : ∀ q, va_A (bt_ws cy ad w) H.size q → A q := by
    intro q h
    rcases h with ⟨k, e, h⟩ | h
    · exact hR.2.2 k (q, e) h
    · exact hA q (Nat.le_trans hS.1 h)
  intro T hT X
  obtain ⟨v, st₀, t, T', L, h0, X', hL, e1, e2, ⟨⟨r, w', hv, hq, hP, hD⟩, hz, hk⟩, st⟩ := hr T hT X
  cases hv
  rw [h0] at hz hk
  obtain ⟨t2, a1, b1⟩ := kk r w' T'.heap (locs ++ L) hq ⟨by rw [e1]; exact hP, hD.weaken (fun k q _ h => hF q.1 h)⟩
    ⟨Nat.le_trans hS.1 (by rw [e1]; exact hz), fun q h1 h2 => by rw [e1, hk q (Nat.lt_of_lt_of_le h1 hS.1) (fun z => h2 (hF q z))]; exact hS.2.1 q h1 h2, fun q hq => by
      rcases List.mem_append.mp hq with h | h
      · exact hS.2.2 q h
      · exact hF _ (hL q h)⟩ T' rfl X'
  exact ⟨t2, st t2 a1, b1⟩
end AFT
theorem bt_cats (ad : Nat → Nat) (l : List bt_V) : ((l.map (bt_val ad)).map (fun v => v.category)).sum ≤ 2 * l.length := by
  induction l with
  | nil => simp
  | cons v vs ih =>
    have h := lv_cat (bt_val ad v)
    simp only [List.map_cons, List.sum_cons, List.length_cons]
    omega
/-- what the tables say of a called method -/
def bt_Cw (own : String) (index : Nat) (y : MethodName) (bytes : ByteArray) (maxL : Nat) (ret : Option FieldType) (n : Nat) : Prop :=
  (y.cls ≠ "java/lang/invoke/MethodHandle" ∧ y.cls ≠ "java/lang/invoke/VarHandle" ∧ (parseMethodDescriptor y.desc).map (fun d => d.parameters.length) = some n) ∧ Cond.code y bytes maxL ret ∈ bt_tb ∧ Cond.methodLink own index y ∈ bt_tb ∧ Cond.initialized y.cls ∈ bt_tb
def bt_CV (own : String) (index ci : Nat) (y : MethodName) (bytes : ByteArray) (maxL : Nat) (ret : Option FieldType) (n : Nat) : Prop :=
  bt_Cw own index y bytes maxL ret n ∧ Cond.instanceMethod y ∈ bt_tb ∧ Cond.selects y.cls y y ∈ bt_tb ∧ ci < 12 ∧ ∃ T N, vwCl[ci]? = some (y.cls, T, N)
def bt_CS (own : String) (index : Nat) (y : MethodName) (bytes : ByteArray) (maxL : Nat) (ret : Option FieldType) (n : Nat) : Prop :=
  bt_Cw own index y bytes maxL ret n ∧ Cond.static y ∈ bt_tb
/-- what goes on behind a call -/
def bt_ret (k : bt_K) (rest : List bt_V) (L : List (Option bt_V)) (r : Option bt_V) (w : bt_W) : Prop := k (r.toList ++ rest) L w
def bt_cV (n : Nat) (sg : List Nat) (ci : Nat) (Sp : bt_Sp) (k : bt_K) : bt_K := fun st L w => match (st.take (n + 1)).reverse with
  | .inr (.inr a) :: as => (a < w.1 ∧ (w.2.1 a).1 = ci) ∧ bt_sig (.inr (.inr a) :: as) = sg ∧ (st.drop (n + 1)).length ≤ 4 ∧ Sp (.inr (.inr a) :: as) w (bt_ret k (st.drop (n + 1)) L)
  | _ => False
def bt_cS (n : Nat) (sg : List Nat) (Sp : bt_Sp) (k : bt_K) : bt_K := fun st L w => bt_sig (st.take n).reverse = sg ∧ (st.drop n).length ≤ 4 ∧ Sp (st.take n).reverse w (bt_ret k (st.drop n) L)
theorem bt_callB {R : Room} {s : State} {args : Array Value} {own : String} {index : Nat} {y : MethodName} {bytes : ByteArray} {maxL n d dd : Nat} {ret : Option FieldType} (hts : ∀ w ∈ bt_tb, w.before args s = true) (h : bt_Cw own index y bytes maxL ret n) (hrm : R = bt_room dd) (hdd : d + 1 ≤ dd) (hmx : maxL ≤ 45) :
    CallB R s args own index y bytes maxL ret (Cond.code y bytes maxL ret :: bt_tb) (bt_room d) 0 0 n := by
  refine callB_of n hts (bt_goodIn h.2.1) rfl rfl rfl (hts _ h.2.2.2) (hts _ h.2.2.1) h.1 ?_
  subst hrm
  exact ⟨hdd, by show 8 + (maxL + 11) + 64 * d ≤ 64 * dd; omega⟩
theorem bs_cV {X : bt_X} {cc : ByteArray} {nL : Nat} {own : String} {dd : Nat} {cs : Nat × Nat} {pc : Nat} {k : bt_K} {y : MethodName} {bytes : ByteArray} {maxL d ci index n : Nat} {ret : Option FieldType} {sg : List Nat} {Sp : bt_Sp} (hX : bt_Ok X cc nL own dd) (hd : decode cc pc = .ok (.invokevirtual index, 3)) (hM : bt_Met y bytes maxL ret d sg Sp) (hC : bt_CV own index ci y bytes maxL ret n) (hq : d + 1 ≤ dd ∧ maxL ≤ 45 ∧ sg.length = n + 1 ∧ cs = (0, 0)) (h : bt_Snd X nL cs (pc + 3) k) : bt_Snd X nL cs pc (bt_cV n sg ci Sp k) := by
  obtain ⟨p, l, e, R, s, m, args, below, meth, c, A, H0, D, cy, Q, ad⟩ := X
  obtain ⟨hx, hb, hml, hown, hts, hK, hlocks, hA, hrm, hnw⟩ := hX
  intro st L w H locs ls hk hR hS hl
  obtain ⟨hdd, hmx, hsl, rfl⟩ := hq
  unfold bt_cV at hk
  split at hk
  · next a as he =>
    obtain ⟨hk1, hsig, hrest, hSp⟩ := hk
    have hst : st.map (bt_val ad) = (as.map (bt_val ad)).reverse ++ .ref (ad a) :: (st.drop (n + 1)).map (bt_val ad) := by
      have h1 : st.take (n + 1) = as.reverse ++ [.inr (.inr a)] := by
        rw [← List.reverse_reverse (st.take (n + 1)), he]; simp
      have h2 : st = st.take (n + 1) ++ st.drop (n + 1) := (List.take_append_drop _ _).symm
      rw [h1] at h2
      have h3 := congrArg (List.map (bt_val ad)) h2
      rw [h3]
      simp [bt_val, List.map_reverse]
    have hlen : (as.map (bt_val ad)).length = n := by
      have := congrArg List.length hsig
      simp [bt_sig] at this
      rw [hsl] at this
      simpa using this
    obtain ⟨hcw, hin, hse, hci, T, N, hcl⟩ := hC
    rw [hst]
    refine bt_after (w := w) (Q := bt_ret k (st.drop (n + 1)) L) (va_runV (b := ad a) (As := as.map (bt_val ad)) (rest := (st.drop (n + 1)).map (bt_val ad)) ⟨hx, hb, hml, hown, hts⟩ (hM l D cy ad (.inr (.inr a) :: as) w _ H.size hsig hSp) ⟨bt_callB hts hcw hrm hdd hmx, hts _ hin, hts _ hse⟩
      ⟨bt_Pc_blind, va_recv hK hR.1 (q0 := a) hcl (by rw [bt_ws_at hk1.1, bt_ent_o hk1.2 hci]), fun U hU hW => ⟨rfl, by rw [hU], by rw [hU]; exact hR.1, va_K.moved hW.alike hK, hR.2.weaken (fun _ _ _ _ => trivial), bt_nw_warm hW hnw⟩⟩ rfl hlen hl.1 rfl (lv_room (Nat.le_trans (bt_cats ad _) (by omega))) hd ⟨Nat.zero_le _, Nat.zero_le _⟩) hS hR hA (fun r w' H1 locs1 hq hR1 hS1 => ?_)
    have h2 := h (r.toList ++ st.drop (n + 1)) L w' H1 locs1 ls hq hR1 hS1 hl
    have e : (r.toList ++ st.drop (n + 1)).map (bt_val ad) = (r.map (bt_val ad)).toList ++ (st.drop (n + 1)).map (bt_val ad) := by
      cases r <;> simp
    rw [e] at h2
    exact h2
  · exact hk.elim
theorem bs_cS {X : bt_X} {cc : ByteArray} {nL : Nat} {own : String} {dd : Nat} {cs : Nat × Nat} {pc : Nat} {k : bt_K} {y : MethodName} {bytes : ByteArray} {maxL d index n : Nat} {ret : Option FieldType} {sg : List Nat} {Sp : bt_Sp} (hX : bt_Ok X cc nL own dd) (hd : decode cc pc = .ok (.invokestatic index, 3)) (hM : bt_Met y bytes maxL ret d sg Sp) (hC : bt_CS own index y bytes maxL ret n) (hq : d + 1 ≤ dd ∧ maxL ≤ 45 ∧ sg.length = n ∧ cs = (0, 0)) (h : bt_Snd X nL cs (pc + 3) k) : bt_Snd X nL cs pc (bt_cS n sg Sp k) := by
  obtain ⟨p, l, e, R, s, m, args, below, meth, c, A, H0, D, cy, Q, ad⟩ := X
  obtain ⟨hx, hb, hml, hown, hts, hK, hlocks, hA, hrm, hnw⟩ := hX
  intro st L w H locs ls hk hR hS hl
  obtain ⟨hdd, hmx, hsl, rfl⟩ := hq
  obtain ⟨hsig, hrest, hSp⟩ := hk
  have hst : st.map (bt_val ad) = ((st.take n).reverse.map (bt_val ad)).reverse ++ (st.drop n).map (bt_val ad) := by
    rw [← List.map_reverse, List.reverse_reverse, ← List.map_append, List.take_append_drop]
  have hlen : ((st.take n).reverse.map (bt_val ad)).length = n := by
    have := congrArg List.length hsig
    rw [hsl] at this
    simpa [bt_sig] using this
  obtain ⟨hcw, hsc⟩ := hC
  rw [hst]
  refine bt_after (w := w) (Q := bt_ret k (st.drop n) L) (va_runS (As := (st.take n).reverse.map (bt_val ad)) (rest := (st.drop n).map (bt_val ad)) ⟨hx, hb, hml, hown, hts⟩ (hM l D cy ad (st.take n).reverse w _ H.size hsig hSp) ⟨bt_callB hts hcw hrm hdd hmx, hts _ hsc⟩
    ⟨bt_Pc_blind, fun U hU hW => ⟨rfl, by rw [hU], by rw [hU]; exact hR.1, va_K.moved hW.alike hK, hR.2.weaken (fun _ _ _ _ => trivial), bt_nw_warm hW hnw⟩⟩ rfl hlen hl.1 rfl (lv_room (Nat.le_trans (bt_cats ad _) (by omega))) hd ⟨Nat.zero_le _, Nat.zero_le _⟩) hS hR hA (fun r w' H1 locs1 hq hR1 hS1 => ?_)
  have h2 := h (r.toList ++ st.drop n) L w' H1 locs1 ls hq hR1 hS1 hl
  have e : (r.toList ++ st.drop n).map (bt_val ad) = (r.map (bt_val ad)).toList ++ (st.drop n).map (bt_val ad) := by
    cases r <;> simp
  rw [e] at h2
  exact h2
/-! the locals with which a method begins -/
def bt_locs : List bt_V → List (Option bt_V)
  | [] => []
  | .inl x :: vs => some (.inl x) :: bt_locs vs
  | .inr (.inl x) :: vs => some (.inr (.inl x)) :: none :: bt_locs vs
  | .inr (.inr a) :: vs => some (.inr (.inr a)) :: bt_locs vs
def bt_loc (nL : Nat) (vs : List bt_V) : List (Option bt_V) := bt_locs vs ++ List.replicate (nL - (bt_locs vs).length) none
def bt_sl (sg : List Nat) : Nat := (sg.map (fun t => if t = 1 then 2 else 1)).sum
theorem bt_locs_args (ad : Nat → Nat) (vs : List bt_V) : ∀ (o i : Nat) (v : bt_V), (bt_locs vs)[i]? = some (some v) → (o + i, bt_val ad v) ∈ lv_args o (vs.map (bt_val ad)) := by
  induction vs with
  | nil => intro o i v h; simp [bt_locs] at h
  | cons u us ih =>
    intro o i v h
    match u, h with
    | .inl x, h =>
      cases i with
      | zero => simp [bt_locs] at h; subst h; simp [lv_args]
      | succ i =>
        have h1 := ih (o + 1) i v (by simpa [bt_locs] using h)
        simp only [List.map_cons, lv_args]
        refine List.mem_cons_of_mem _ ?_
        rw [show o + (i + 1) = o + 1 + i by omega]
        simpa [bt_val, Value.category] using h1
    | .inr (.inl x), h =>
      match i, h with
      | 0, h => simp [bt_locs] at h; subst h; simp [lv_args]
      | 1, h => simp [bt_locs] at h
      | i + 2, h =>
        have h1 := ih (o + 2) i v (by simpa [bt_locs] using h)
        simp only [List.map_cons, lv_args]
        refine List.mem_cons_of_mem _ ?_
        rw [show o + (i + 2) = o + 2 + i by omega]
        simpa [bt_val, Value.category] using h1
    | .inr (.inr a), h =>
      cases i with
      | zero => simp [bt_locs] at h; subst h; simp [lv_args]
      | succ i =>
        have h1 := ih (o + 1) i v (by simpa [bt_locs] using h)
        simp only [List.map_cons, lv_args]
        refine List.mem_cons_of_mem _ ?_
        rw [show o + (i + 1) = o + 1 + i by omega]
        simpa [bt_val, Value.category] using h1
theorem bt_sl_len (ad : Nat → Nat) (vs : List bt_V) : (lg_sl (vs.map (bt_val ad))).length = bt_sl (bt_sig vs) := by
  induction vs with
  | nil => rfl
  | cons u us ih =>
    have e : lg_sl ((u :: us).map (bt_val ad)) = (if (bt_val ad u).category = 2 then [Slot.val (bt_val ad u), .second] else [.val (bt_val ad u)]) ++ lg_sl (us.map (bt_val ad)) := by simp [lg_sl]
    rw [e, List.length_append, ih]
    match u with
    | .inl x => simp [bt_val, Value.category, bt_sl, bt_sig, bt_tg]
    | .inr (.inl x) => simp [bt_val, Value.category, bt_sl, bt_sig, bt_tg]
    | .inr (.inr a) => simp [bt_val, Value.category, bt_sl, bt_sig, bt_tg]
/-- a method's contract out of its walk -/
theorem bt_met {y : MethodName} {cc : ByteArray} {nL : Nat} {ret : Option FieldType} {d : Nat} {sg : List Nat} {Sp : bt_Sp} (hy : plainName y.cls = true) (hsl : bt_sl sg ≤ nL)
    (h : ∀ (X : bt_X) (As : List bt_V) (w : bt_W) (Q : Option bt_V → bt_W → Prop), bt_sig As = sg → Sp As w Q → bt_Ok X cc nL y.cls d → bt_Rt X (0, 0) ret Q → ∃ k, bt_Snd X nL (0, 0) 0 k ∧ k [] (bt_loc nL As) w) : bt_Met y cc nL ret d sg Sp := by
  intro l D cy ad As w Q sz hsig hSp
  refine Met.ofW (cc := cc) (maxL := nL) (ret := ret) hy rfl ?_
  intro p e s m args below meth c s₁ B hml hv
  obtain ⟨rfl, hsz, hP, hK, hD0, hnw⟩ := hv
  subst hsz
  have hts := atoms_spec (ws := Cond.code y cc nL ret :: bt_tb) B.pre
  have hown : s.vm.findClass y.cls = some m.cls := findClass_of_methodNamed B.named
  have hD := hD0.self (sz := s.heap.size)
  have hl := lv_entry (As.map (bt_val ad)) (n := nL) (by rw [bt_sl_len, hsig]; exact hsl)
  rw [lg_entry_eq]
  have hLR : bt_LR ad (bt_loc nL As) ((lg_sl (As.map (bt_val ad)) ++ List.replicate (nL - (lg_sl (As.map (bt_val ad))).length) Slot.unset).toArray) nL := by
    refine ⟨hl.1, hl.2.1, fun i v hi => ?_⟩
    have hi2 : (bt_locs As)[i]? = some (some v) := by
      unfold bt_loc at hi
      by_cases hlt : i < (bt_locs As).length
      · rwa [List.getElem?_append_left hlt] at hi
      · rw [List.getElem?_append_right (by omega)] at hi
        have := List.eq_of_mem_replicate (List.mem_of_getElem? hi)
        cases this
    have := bt_locs_args ad As 0 i v hi2
    rw [Nat.zero_add] at this
    exact hl.2.2 _ this
  obtain ⟨k, hk, hk0⟩ := h (p, l, e, (headSpec (Cond.code y cc nL ret :: bt_tb) (bt_room d)).room, s, m, (As.map (bt_val ad)).toArray, below, meth, c, va_A (bt_ws cy ad w) s.heap.size, s.heap, D, cy, MQ below (bt_Qc D cy ad w s.heap.size Q) (As.map (bt_val ad)).toArray s 0 0 (va_A (bt_ws cy ad w) s.heap.size), ad) As w Q hsig hSp
    ⟨B.exec, B.bytes, hml, hown, fun w h => hts w (List.mem_cons_of_mem _ h), hK, B.notSynchronized, fun q h => Or.inr h, rfl, hnw⟩
    ⟨bt_Qc D cy ad w s.heap.size Q, rfl, B.returns, fun r w' H locs t hpost hRel hS ht hW => ⟨⟨r, w', rfl, hpost, by rw [ht]; exact hRel.1, hRel.2⟩, hS.F ht⟩⟩
  exact hk [] _ w s.heap [] _ hk0 ⟨hP, hD⟩ va_S.rf hLR
