/-! final fields, in the class's own constructor -/
theorem bw_pfF {X : bt_X} {cc : ByteArray} {nL : Nat} {own : String} {dd : Room} {cs : Nat × Nat} {pc : Nat} {k : bt_K} {c f index : Nat} (hX : bt_Ow X cc nL own dd) (hI : bt_In X) (hd : decode cc pc = .ok (.putfield index, 3)) (hF : bt_Fd own index c f) (ht : (∃ C0, bt_ty c f = .object C0) ∨ ∃ t0, bt_ty c f = .array t0) (hfin : ∀ q, vwCl[c]? = some q → (q.2.1 f).2.2.2 = true ∧ q.1 = own) (h : bt_Snd X nL cs (pc + 3) k) : bt_Snd X nL cs pc (bt_pfR c f k) := by
  obtain ⟨p, l, e, R, s, m, args, below, meth, cd, A, H0, D, cy, Q, ad⟩ := X
  obtain ⟨hx, hb, hml, hown, hts, hK, hlocks, hA, hrm, hnw⟩ := hX
  intro st L w H locs ls hk hR hS hl
  obtain ⟨C, T, N, hC, hf, hsm, hlk⟩ := hF
  match st, hk with
  | .inr (.inr b) :: .inr (.inr a) :: r, hk =>
    simp only [List.map_cons, bt_val]
    refine va_putF (ty := bt_ty c f) (v := .ref (ad b)) hx hb hts hC.2.2.1 (bt_ty c) hC.2.2.2.1 hC.2.2.2.2 hown hK hR.1 hR.2 hS a (by rw [bt_ws_at hk.1.1, bt_ent_o hk.1.2 hC.1]) hC.2.1 f hf (hts _ hlk) (fun x hx => by rw [hsm] at hx; exact hx) (hfin _ hC.2.1).1 hI (hsm.trans (hfin _ hC.2.1).2) (by rw [hC.2.2.2.1 f hf]) (by rcases ht with ⟨C0, h0⟩ | ⟨t0, h0⟩ <;> rw [h0] <;> rfl) (by rcases ht with ⟨C0, h0⟩ | ⟨t0, h0⟩ <;> rw [h0] <;> rfl) (by simp [bt_nf_of hC.2.1, hf]) hd (fun H1 locs1 hP1 hD1 hS1 => ?_)
    have htc : bt_tc (bt_ty c f) = 2 := by rcases ht with ⟨C0, h0⟩ | ⟨t0, h0⟩ <;> rw [h0] <;> rfl
    have e : (bt_ws cy ad w).set a (ad a, .inr (c, ((List.range (bt_nf c)).map (fun k => bt_fv ad w a (bt_tc (bt_ty c k)) k)).set f (.ref (ad b)))) = bt_ws cy ad (bt_sr w a f b) := by
      refine bt_ws_set rfl ?_ (fun i hi => bt_ent_sr hi)
      rw [bt_ent_o (w := bt_sr w a f b) hk.1.2 hC.1, bt_map_set (g := fun k => bt_fv ad (bt_sr w a f b) a (bt_tc (bt_ty c k)) k)]
      · simp [bt_fv, htc, bt_sr, bt_ur, va_rf]
      · intro j hj
        simp [bt_fv, bt_sr, bt_ur, hj]
    rw [e] at hP1 hD1
    exact h _ L _ H1 locs1 ls hk.2 ⟨hP1, hD1⟩ hS1 hl
/-! java.lang.Object's constructor -/
def bt_obj (k : bt_K) : bt_K := fun st L w => match st with
  | [.inr (.inr _)] => k [] L w
  | _ => False
theorem bw_obj {X : bt_X} {cc : ByteArray} {nL : Nat} {own : String} {dd : Room} {cs : Nat × Nat} {pc : Nat} {k : bt_K} {index : Nat} (hX : bt_Ow X cc nL own dd) (hd : decode cc pc = .ok (.invokespecial index, 3)) (hw : Cond.methodLink own index Lib.objectInit ∈ bt_tb ∧ Cond.instanceMethod Lib.objectInit ∈ bt_tb ∧ Cond.code Lib.objectInit ⟨#[0xb1]⟩ 1 none ∈ bt_tb) (hr : 1 ≤ dd.frames ∧ 12 ≤ dd.locals) (h : bt_Snd X nL cs (pc + 3) k) : bt_Snd X nL cs pc (bt_obj k) := by
  obtain ⟨p, l, e, R, s, m, args, below, meth, cd, A, H0, D, cy, Q, ad⟩ := X
  obtain ⟨hx, hb, hml, hown, hts, hK, hlocks, hA, hrm, hnw⟩ := hX
  subst hrm
  intro st L w H locs ls hk hR hS hl
  match st, hk with
  | [.inr (.inr a)], hk =>
    exact W.objInit hx hb hown (hts _ hw.1) (hts _ hw.2.1) (hts _ hw.2.2) rfl (by rw [hml]; exact hl.1) rfl hd hr.1 hr.2 (h [] L w H locs ls hk hR hS hl)
/-! contracts of constructors -/
def bt_Pw (D : va_G) (cy : Nat → ClassId) (ad : Nat → Nat) (As : List bt_V) (w : bt_W) (sz : Nat) : Array Value → State → Prop := va_Pc (As.map (bt_val ad)) (fun U => U.heap.size = sz ∧ va_P D vwCl (bt_ws cy ad w) U.heap ∧ va_K D vwCl (bt_tys cy) U ∧ va_D (fun _ => True) (bt_ws cy ad w) ∧ (∀ w ∈ bt_nw, va_Nw w U) ∧ bt_Ao (va_A (bt_ws cy ad w) sz) U U.heap)
theorem bt_Pw_blind {D : va_G} {cy : Nat → ClassId} {ad : Nat → Nat} {As : List bt_V} {w : bt_W} {sz : Nat} : FrameBlind (bt_Pw D cy ad As w sz) := fun a U g mk q => by
  obtain ⟨q0, q1, qP, qK, qD, qN, qA⟩ := q
  exact ⟨q0, q1, qP, va_K.moved (u := U) (U := U.calling g mk a) (Vm.Alike.refl U.vm) qK, qD, fun w hw => va_Nw.same (u := U) (U := U.calling g mk a) (bt_nw_on hw) rfl (qN w hw), bt_Ao.blind (U := U) (U' := U.calling g mk a) rfl rfl qA⟩
/-- a constructor: mc cells, ms slots -/
def bt_Cet (y : MethodName) (cc : ByteArray) (nL d : Nat) (sg : List Nat) (mc ms : Nat) (Sp : bt_Sp) : Prop := ∀ (l : Launch) (D : va_G) (cy : Nat → ClassId) (ad : Nat → Nat) (As : List bt_V) (w : bt_W) (Q : Option bt_V → bt_W → Prop) (sz : Nat), bt_sig As = sg → Sp As w Q → (∀ i, w.1 ≤ i → i < 262 → ad i = sz + (i - w.1)) →
  Met l y (Cond.code y cc nL none :: bt_tb) (bt_rw d mc ms) (bt_Pw D cy ad As w sz) (bt_Qc D cy ad w sz Q) mc ms (va_A (bt_ws cy ad w) sz)
section AFTW
variable {p : Program} {l : Launch} {e : Env} {R : Room} {s : State} {m : MethodId} {args : Array Value} {below : List Frame} {meth : Method} {c : Code} {H : Heap} {locs : List Loc} {cells slots mc ms : Nat} {Qf : State → Prop}
variable {pc : Nat} {ls : Array Slot} {rest st0 : List Value} {a : Array Value} {A : Nat → Prop} {H0 : Heap} {D : va_G} {cy : Nat → ClassId} {ad : Nat → Nat} {w : bt_W} {Q : Option bt_V → bt_W → Prop}
theorem bt_afterW (hr : va_Run p l e R s m args below meth c H locs cells slots mc ms (F0 m pc ls st0) rest (bt_Qc D cy ad w H.size Q a) (va_A (bt_ws cy ad w) H.size)) (hS : va_S A H0 H locs) (hR : bt_Rel D cy A ad w H) (hA : ∀ q, H0.size ≤ q → A q)
    (kk : ∀ (r : Option bt_V) (w' : bt_W) (H1 : Heap) (locs1 : List Loc), Q r w' → bt_Rel D cy A ad w' H1 → va_S A H0 H1 locs1 → W p l e R s m args below meth c H1 locs1 (cells + mc) (slots + ms) Qf (F0 m (pc + 3) ls ((r.map (bt_val ad)).toList ++ rest))) :
    W p l e R s m args below meth c H locs cells slots Qf (F0 m pc ls st0) := by
  have hF : ∀ q, va_A (bt_ws cy ad w) H.size q → A q := by
    intro q h
    rcases h with ⟨k, e, h⟩ | h
    · exact hR.2.2 k (q, e) h
    · exact hA q (Nat.le_trans hS.1 h)
  intro T hT X
  obtain ⟨v, st₀, t, T', L, h0, X', hL, e1, e2, ⟨⟨r, w', hv, hq, hP, hD⟩, hz, hk⟩, st⟩ := hr T hT X
  cases hv
  rw [h0] at hz hk
  obtain ⟨t2, a1, b1⟩ := kk r w' T'.heap (locs ++ L) hq ⟨by rw [e1]; exact hP, hD.weaken (fun k q _ h => hF q.1 h)⟩
    ⟨Nat.le_trans hS.1 (by rw [e1]; exact hz), fun q h1 h2 => by rw [e1, hk q (Nat.lt_of_lt_of_le h1 hS.1) (fun z => h2 (hF q z))]; exact hS.2.1 q h1 h2, fun q hq => by
      rcases List.mem_append.mp hq with h | h
      · exact hS.2.2 q h
      · exact hF _ (hL q h)⟩ T' rfl X'
  exact ⟨t2, st t2 a1, b1⟩
end AFTW
theorem bt_inA {D : va_G} {cy : Nat → ClassId} {A : Nat → Prop} {ad : Nat → Nat} {w : bt_W} {H H0 : Heap} {locs : List Loc} (hR : bt_Rel D cy A ad w H) (hS : va_S A H0 H locs) (hA : ∀ q, H0.size ≤ q → A q) : ∀ q, va_A (bt_ws cy ad w) H.size q → A q := by
  intro q h
  rcases h with ⟨k, e, h⟩ | h
  · exact hR.2.2 k (q, e) h
  · exact hA q (Nat.le_trans hS.1 h)
/-- what the tables say of a called constructor: by a plain link, or by one among nest mates -/
def bt_CI (own : String) (index : Nat) (y : MethodName) (bytes : ByteArray) (maxL n : Nat) : Prop :=
  (y.cls ≠ "java/lang/invoke/MethodHandle" ∧ y.cls ≠ "java/lang/invoke/VarHandle" ∧ (parseMethodDescriptor y.desc).map (fun d => d.parameters.length) = some n) ∧ Cond.code y bytes maxL none ∈ bt_tb ∧ Cond.initialized y.cls ∈ bt_tb ∧ Cond.instanceMethod y ∈ bt_tb ∧ y.name = "<init>" ∧ (Cond.methodLink own index y ∈ bt_tb ∨ ∃ host, Cond.methodLinkNest own index y host ∈ bt_nw)
def bt_cI (n : Nat) (sg : List Nat) (N : Nat) (Sp : bt_Sp) (k : bt_K) : bt_K := fun st L w => match (st.take (n + 1)).reverse with
  | .inr (.inr a) :: as => w.1 = N ∧ bt_sig (.inr (.inr a) :: as) = sg ∧ (st.drop (n + 1)).length ≤ 4 ∧ Sp (.inr (.inr a) :: as) w (bt_ret k (st.drop (n + 1)) L)
  | _ => False
theorem bw_cI {X : bt_X} {cc : ByteArray} {nL : Nat} {own : String} {dd : Room} {cs : Nat × Nat} {pc : Nat} {k : bt_K} {y : MethodName} {bytes : ByteArray} {maxL d index n N n0 mc ms : Nat} {sg : List Nat} {Sp : bt_Sp} (hX : bt_Ow X cc nL own dd) (hT : bt_Tl X n0) (hd : decode cc pc = .ok (.invokespecial index, 3)) (hM : bt_Cet y bytes maxL d sg mc ms Sp) (hC : bt_CI own index y bytes maxL n) (hq : d + 1 ≤ dd.frames ∧ 64 * (d + 1) ≤ dd.locals ∧ maxL ≤ 45 ∧ sg.length = n + 1) (hN : N = n0 + cs.1) (hlt : N < 262) (hcs : cs.1 + mc ≤ dd.cells ∧ cs.2 + ms ≤ dd.slots) (h : bt_Snd X nL (cs.1 + mc, cs.2 + ms) (pc + 3) k) : bt_Snd X nL cs pc (bt_cI n sg N Sp k) := by
  obtain ⟨p, l, e, R, s, m, args, below, meth, c, A, H0, D, cy, Q, ad⟩ := X
  obtain ⟨hx, hb, hml, hown, hts, hK, hlocks, hA, hrm, hnw⟩ := hX
  obtain ⟨hs0, hT⟩ := hT
  subst hrm
  intro st L w H locs ls hk hR hS hl
  obtain ⟨hdd, hll, hmx, hsl⟩ := hq
  unfold bt_cI at hk
  split at hk
  · next a as he =>
    obtain ⟨hw1, hsig, hrest, hSp⟩ := hk
    have hst : st.map (bt_val ad) = (as.map (bt_val ad)).reverse ++ .ref (ad a) :: (st.drop (n + 1)).map (bt_val ad) := by
      have h1 : st.take (n + 1) = as.reverse ++ [.inr (.inr a)] := by
        rw [← List.reverse_reverse (st.take (n + 1)), he]; simp
      have h2 : st = st.take (n + 1) ++ st.drop (n + 1) := (List.take_append_drop _ _).symm
      rw [h1] at h2
      have h3 := congrArg (List.map (bt_val ad)) h2
      rw [h3]
      simp [bt_val, List.map_reverse]
    have hlen : (as.map (bt_val ad)).length = n := by
      have := congrArg List.length hsig
      simp [bt_sig] at this
      rw [hsl] at this
      simpa using this
    intro T0 hT0 XS
    have hup := XS.heapSize
    rw [hT0, hs0] at hup
    obtain ⟨hz, ha⟩ := bt_hsz (n0 := n0) (c := cs.1) (h0 := H0.size) hR (by omega) hT (by omega) hup hS.1
    have hMet := hM l D cy ad (.inr (.inr a) :: as) w (bt_ret k (st.drop (n + 1)) L) H.size hsig hSp (fun i h1 h2 => by rw [hT i (by omega) h2, hz]; omega)
    have hpre : PreS s H (bt_Pw D cy ad (.inr (.inr a) :: as) w H.size) (.ref (ad a) :: as.map (bt_val ad)) := ⟨bt_Pw_blind, fun U hU hW => ⟨rfl, by rw [hU], by rw [hU]; exact hR.1, va_K.moved hW.alike hK, hR.2.weaken (fun _ _ _ _ => trivial), bt_nw_warm hW hnw.1, by rw [hU]; exact hnw.2.go hW hS.2.1 (bt_inA hR hS hA)⟩⟩
    have hroom : (bt_rw d mc ms).frames + 1 ≤ R.frames ∧ 8 + (maxL + 11) + (bt_rw d mc ms).locals ≤ R.locals := ⟨hdd, by show 8 + (maxL + 11) + 64 * d ≤ R.locals; omega⟩
    have hrun : va_Run p l e R s m args below meth c H locs cs.1 cs.2 mc ms (F0 m pc ls (st.map (bt_val ad))) ((st.drop (n + 1)).map (bt_val ad)) (bt_Qc D cy ad w H.size (bt_ret k (st.drop (n + 1)) L) (Value.ref (ad a) :: as.map (bt_val ad)).toArray) (va_A (bt_ws cy ad w) H.size) := by
      rcases hC.2.2.2.2.2 with hlink | ⟨host, hlink⟩
      · exact va_runI ⟨hx, hb, hml, hown, hts⟩ hMet ⟨callB_of n hts (bt_goodIn hC.2.1) rfl rfl rfl (hts _ hC.2.2.1) (hts _ hlink) hC.1 hroom, hC.2.2.2.2.1, hts _ hC.2.2.2.1⟩ hpre rfl hlen hl.1 hst (lv_room (Nat.le_trans (bt_cats ad _) (by omega))) hd hcs
      · exact va_runIN (host := host) ⟨hx, hb, hml, hown, hts⟩ hMet ⟨va_cnB n hts (bt_goodIn hC.2.1) rfl rfl rfl (hnw.1 _ hlink) (hts _ hC.2.2.1) hC.1 hroom, hC.2.2.2.2.1, hts _ hC.2.2.2.1⟩ hpre rfl hlen hl.1 hst (lv_room (Nat.le_trans (bt_cats ad _) (by omega))) hd hcs
    refine bt_afterW (w := w) (Q := bt_ret k (st.drop (n + 1)) L) hrun hS hR hA (fun r w' H1 locs1 hq hR1 hS1 => ?_) T0 hT0 XS
    have h2 := h (r.toList ++ st.drop (n + 1)) L w' H1 locs1 ls hq hR1 hS1 hl
    have e : (r.toList ++ st.drop (n + 1)).map (bt_val ad) = (r.map (bt_val ad)).toList ++ (st.drop (n + 1)).map (bt_val ad) := by
      cases r <;> simp
    rw [e] at h2
    exact h2
  · exact hk.elim
/-! calls of methods that allocate nothing, out of a wide frame -/
theorem bt_callBw {R : Room} {s : State} {args : Array Value} {own : String} {index : Nat} {y : MethodName} {bytes : ByteArray} {maxL n d : Nat} {ret : Option FieldType} (hts : ∀ w ∈ bt_tb, w.before args s = true) (h : bt_Cw own index y bytes maxL ret n) (hdd : d + 1 ≤ R.frames ∧ 64 * (d + 1) ≤ R.locals) (hmx : maxL ≤ 45) :
    CallB R s args own index y bytes maxL ret (Cond.code y bytes maxL ret :: bt_tb) (bt_room d) 0 0 n := by
  refine callB_of n hts (bt_goodIn h.2.1) rfl rfl rfl (hts _ h.2.2.2) (hts _ h.2.2.1) h.1 ?_
  exact ⟨hdd.1, by show 8 + (maxL + 11) + 64 * d ≤ R.locals; omega⟩
theorem bw_cV {X : bt_X} {cc : ByteArray} {nL : Nat} {own : String} {dd : Room} {cs : Nat × Nat} {pc : Nat} {k : bt_K} {y : MethodName} {bytes : ByteArray} {maxL d ci index n : Nat} {ret : Option FieldType} {sg : List Nat} {Sp : bt_Sp} (hX : bt_Ow X cc nL own dd) (hd : decode cc pc = .ok (.invokevirtual index, 3)) (hM : bt_Met y bytes maxL ret d sg Sp) (hC : bt_CV own index ci y bytes maxL ret n) (hq : (d + 1 ≤ dd.frames ∧ 64 * (d + 1) ≤ dd.locals) ∧ maxL ≤ 45 ∧ sg.length = n + 1 ∧ cs.1 ≤ dd.cells ∧ cs.2 ≤ dd.slots) (h : bt_Snd X nL cs (pc + 3) k) : bt_Snd X nL cs pc (bt_cV n sg ci Sp k) := by
  obtain ⟨p, l, e, R, s, m, args, below, meth, c, A, H0, D, cy, Q, ad⟩ := X
  obtain ⟨hx, hb, hml, hown, hts, hK, hlocks, hA, hrm, hnw⟩ := hX
  subst hrm
  intro st L w H locs ls hk hR hS hl
  obtain ⟨hdd, hmx, hsl, hcs⟩ := hq
  unfold bt_cV at hk
  split at hk
  · next a as he =>
    obtain ⟨hk1, hsig, hrest, hSp⟩ := hk
    have hst : st.map (bt_val ad) = (as.map (bt_val ad)).reverse ++ .ref (ad a) :: (st.drop (n + 1)).map (bt_val ad) := by
      have h1 : st.take (n + 1) = as.reverse ++ [.inr (.inr a)] := by
        rw [← List.reverse_reverse (st.take (n + 1)), he]; simp
      have h2 : st = st.take (n + 1) ++ st.drop (n + 1) := (List.take_append_drop _ _).symm
      rw [h1] at h2
      have h3 := congrArg (List.map (bt_val ad)) h2
      rw [h3]
      simp [bt_val, List.map_reverse]
    have hlen : (as.map (bt_val ad)).length = n := by
      have := congrArg List.length hsig
      simp [bt_sig] at this
      rw [hsl] at this
      simpa using this
    obtain ⟨hcw, hin, hse, hci, T, N, hcl⟩ := hC
    rw [hst]
    refine bt_after (w := w) (Q := bt_ret k (st.drop (n + 1)) L) (va_runV (b := ad a) (As := as.map (bt_val ad)) (rest := (st.drop (n + 1)).map (bt_val ad)) ⟨hx, hb, hml, hown, hts⟩ (hM l D cy ad (.inr (.inr a) :: as) w _ H.size hsig hSp) ⟨bt_callBw hts hcw hdd hmx, hts _ hin, hts _ hse⟩
      ⟨bt_Pc_blind, va_recv hK hR.1 (q0 := a) hcl (by rw [bt_ws_at hk1.1, bt_ent_o hk1.2 hci]), fun U hU hW => ⟨rfl, by rw [hU], by rw [hU]; exact hR.1, va_K.moved hW.alike hK, hR.2.weaken (fun _ _ _ _ => trivial), bt_nw_warm hW hnw.1⟩⟩ rfl hlen hl.1 rfl (lv_room (Nat.le_trans (bt_cats ad _) (by omega))) hd hcs) hS hR hA (fun r w' H1 locs1 hq hR1 hS1 => ?_)
    have h2 := h (r.toList ++ st.drop (n + 1)) L w' H1 locs1 ls hq hR1 hS1 hl
    have e : (r.toList ++ st.drop (n + 1)).map (bt_val ad) = (r.map (bt_val ad)).toList ++ (st.drop (n + 1)).map (bt_val ad) := by
      cases r <;> simp
    rw [e] at h2
    exact h2
  · exact hk.elim
theorem bw_cS {X : bt_X} {cc : ByteArray} {nL : Nat} {own : String} {dd : Room} {cs : Nat × Nat} {pc : Nat} {k : bt_K} {y : MethodName} {bytes : ByteArray} {maxL d index n : Nat} {ret : Option FieldType} {sg : List Nat} {Sp : bt_Sp} (hX : bt_Ow X cc nL own dd) (hd : decode cc pc = .ok (.invokestatic index, 3)) (hM : bt_Met y bytes maxL ret d sg Sp) (hC : bt_CS own index y bytes maxL ret n) (hq : (d + 1 ≤ dd.frames ∧ 64 * (d + 1) ≤ dd.locals) ∧ maxL ≤ 45 ∧ sg.length = n ∧ cs.1 ≤ dd.cells ∧ cs.2 ≤ dd.slots) (h : bt_Snd X nL cs (pc + 3) k) : bt_Snd X nL cs pc (bt_cS n sg Sp k) := by
  obtain ⟨p, l, e, R, s, m, args, below, meth, c, A, H0, D, cy, Q, ad⟩ := X
  obtain ⟨hx, hb, hml, hown, hts, hK, hlocks, hA, hrm, hnw⟩ := hX
  subst hrm
  intro st L w H locs ls hk hR hS hl
  obtain ⟨hdd, hmx, hsl, hcs⟩ := hq
  obtain ⟨hsig, hrest, hSp⟩ := hk
  have hst : st.map (bt_val ad) = ((st.take n).reverse.map (bt_val ad)).reverse ++ (st.drop n).map (bt_val ad) := by
    rw [← List.map_reverse, List.reverse_reverse, ← List.map_append, List.take_append_drop]
  have hlen : ((st.take n).reverse.map (bt_val ad)).length = n := by
    have := congrArg List.length hsig
    rw [hsl] at this
    simpa [bt_sig] using this
  obtain ⟨hcw, hsc⟩ := hC
  rw [hst]
  refine bt_after (w := w) (Q := bt_ret k (st.drop n) L) (va_runS (As := (st.take n).reverse.map (bt_val ad)) (rest := (st.drop n).map (bt_val ad)) ⟨hx, hb, hml, hown, hts⟩ (hM l D cy ad (st.take n).reverse w _ H.size hsig hSp) ⟨bt_callBw hts hcw hdd hmx, hts _ hsc⟩
    ⟨bt_Pc_blind, fun U hU hW => ⟨rfl, by rw [hU], by rw [hU]; exact hR.1, va_K.moved hW.alike hK, hR.2.weaken (fun _ _ _ _ => trivial), bt_nw_warm hW hnw.1⟩⟩ rfl hlen hl.1 rfl (lv_room (Nat.le_trans (bt_cats ad _) (by omega))) hd hcs) hS hR hA (fun r w' H1 locs1 hq hR1 hS1 => ?_)
  have h2 := h (r.toList ++ st.drop n) L w' H1 locs1 ls hq hR1 hS1 hl
  have e : (r.toList ++ st.drop n).map (bt_val ad) = (r.map (bt_val ad)).toList ++ (st.drop n).map (bt_val ad) := by
    cases r <;> simp
  rw [e] at h2
  exact h2
/-- a constructor's contract out of its walk -/
theorem bt_cet {y : MethodName} {cc : ByteArray} {nL d : Nat} {sg : List Nat} {mc ms : Nat} {Sp : bt_Sp} (hy : plainName y.cls = true) (hyn : y.name = "<init>") (hsl : bt_sl sg ≤ nL)
    (h : ∀ (X : bt_X) (As : List bt_V) (w : bt_W) (Q : Option bt_V → bt_W → Prop), bt_sig As = sg → Sp As w Q → bt_Ow X cc nL y.cls (bt_rw d mc ms) → bt_Tl X w.1 → bt_In X → bt_Rt X (mc, ms) none Q → ∃ k, bt_Snd X nL (0, 0) 0 k ∧ k [] (bt_loc nL As) w) : bt_Cet y cc nL d sg mc ms Sp := by
  intro l D cy ad As w Q sz hsig hSp hTl
  refine Met.ofW (cc := cc) (maxL := nL) (ret := none) hy rfl ?_
  intro p e s m args below meth c s₁ B hml hv
  obtain ⟨rfl, hsz, hP, hK, hD0, hnw⟩ := hv
  subst hsz
  have hts := atoms_spec (ws := Cond.code y cc nL none :: bt_tb) B.pre
  have hown : s.vm.findClass y.cls = some m.cls := findClass_of_methodNamed B.named
  have hin : meth.name = "<init>" := (name_of_methodNamed B.named B.method).1.trans hyn
  have hD := hD0.self (sz := s.heap.size)
  have hl := lv_entry (As.map (bt_val ad)) (n := nL) (by rw [bt_sl_len, hsig]; exact hsl)
  rw [lg_entry_eq]
  have hLR : bt_LR ad (bt_loc nL As) ((lg_sl (As.map (bt_val ad)) ++ List.replicate (nL - (lg_sl (As.map (bt_val ad))).length) Slot.unset).toArray) nL := by
    refine ⟨hl.1, hl.2.1, fun i v hi => ?_⟩
    have hi2 : (bt_locs As)[i]? = some (some v) := by
      unfold bt_loc at hi
      by_cases hlt : i < (bt_locs As).length
      · rwa [List.getElem?_append_left hlt] at hi
      · rw [List.getElem?_append_right (by omega)] at hi
        have := List.eq_of_mem_replicate (List.mem_of_getElem? hi)
        cases this
    have := bt_locs_args ad As 0 i v hi2
    rw [Nat.zero_add] at this
    exact hl.2.2 _ this
  obtain ⟨k, hk, hk0⟩ := h (p, l, e, (headSpec (Cond.code y cc nL none :: bt_tb) (bt_rw d mc ms)).room, s, m, (As.map (bt_val ad)).toArray, below, meth, c, va_A (bt_ws cy ad w) s.heap.size, s.heap, D, cy, MQ below (bt_Qc D cy ad w s.heap.size Q) (As.map (bt_val ad)).toArray s mc ms (va_A (bt_ws cy ad w) s.heap.size), ad) As w Q hsig hSp
    ⟨B.exec, B.bytes, hml, hown, fun w h => hts w (List.mem_cons_of_mem _ h), hK, B.notSynchronized, fun q h => Or.inr h, rfl, hnw⟩ ⟨rfl, hTl⟩ hin
    ⟨bt_Qc D cy ad w s.heap.size Q, rfl, B.returns, fun r w' H locs t hpost hRel hS ht hW => ⟨⟨r, w', rfl, hpost, by rw [ht]; exact hRel.1, hRel.2⟩, hS.F ht⟩⟩
  exact hk [] _ w s.heap [] _ hk0 ⟨hP, hD⟩ va_S.rf hLR
