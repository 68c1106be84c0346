/-! arrays -/
def bt_newa (kd n N : Nat) (k : bt_K) : bt_K := fun st L w => match st with
  | .inl x :: r => (x = (n : Int) ∧ w.1 = N ∧ w.2.1 N = (kd, n) ∧ bt_nul w N) ∧ k (.inr (.inr N) :: r) L (bt_gr w)
  | _ => False
def bt_ak (kd : Nat) (a : ArrayType) : Prop := (kd = 12 ∧ a = .byte) ∨ (kd = 13 ∧ a = .int) ∨ (kd = 14 ∧ a = .long) ∨ (kd = 15 ∧ a = .boolean)
theorem bt_ent_0 {cy : Nat → ClassId} {ad : Nat → Nat} {w : bt_W} {N n kd : Nat} {a : ArrayType} (hk : bt_ak kd a) (hw : w.2.1 N = (kd, n)) (hn : bt_nul w N) : ∃ a0 : vp_A, bt_ent cy ad w N = .inl (cy kd, a0) ∧ ∀ cA, vp_cell cA a0 = arrV cA n (fun _ => defaultValue (newarray.typeOf a)) := by
  have e1 : (fun j => bt_i (w.2.2.2 N j)) = fun _ => (0 : Int32) := by
    funext j; rw [hn.2 j]; rfl
  have e2 : (fun j => bt_j (w.2.2.2 N j)) = fun _ => (0 : Int64) := by
    funext j; rw [hn.2 j]; rfl
  rcases hk with ⟨rfl, rfl⟩ | ⟨rfl, rfl⟩ | ⟨rfl, rfl⟩ | ⟨rfl, rfl⟩
  · exact ⟨_, by rw [bt_ent_n (c := 12) (by rw [hw]) (by omega), e1, hw], fun cA => rfl⟩
  · exact ⟨_, by rw [bt_ent_n (c := 13) (by rw [hw]) (by omega), e1, hw], fun cA => rfl⟩
  · exact ⟨_, by rw [bt_ent_l (by rw [hw]), e2, hw], fun cA => rfl⟩
  · exact ⟨_, by rw [bt_ent_n (c := 15) (by rw [hw]) (by omega), e1, hw], fun cA => rfl⟩
theorem bt_acls {D : va_G} {cy : Nat → ClassId} {s : State} {kd : Nat} {a : ArrayType} {cA : ClassId} (hK : va_K D vwCl (bt_tys cy) s) (hk : bt_ak kd a) (h : s.vm.findClass ("[" ++ (newarray.typeOf a).toString) = some cA) : cA = cy kd := by
  rcases hk with ⟨rfl, rfl⟩ | ⟨rfl, rfl⟩ | ⟨rfl, rfl⟩ | ⟨rfl, rfl⟩
  · exact Option.some.inj (h.symm.trans (hK.2 0 _ rfl).2)
  · exact Option.some.inj (h.symm.trans (hK.2 1 _ rfl).2)
  · exact Option.some.inj (h.symm.trans (hK.2 2 _ rfl).2)
  · exact Option.some.inj (h.symm.trans (hK.2 3 _ rfl).2)
theorem bt_iN {n : Nat} (h : n ≤ 100000) : ¬ bt_i (n : Int) < 0 ∧ (bt_i (n : Int)).toNatClampNeg = n := by
  have h1 : bt_w (n : Int) = n := bt_w_id (by omega) (by omega)
  refine ⟨fun h2 => ?_, ?_⟩
  · have := bt_lt0.mp h2; omega
  · show (bt_w (n : Int)).toNat = n
    rw [h1]; rfl
theorem bw_newa {X : bt_X} {cc : ByteArray} {nL : Nat} {own : String} {dd : Room} {cs : Nat × Nat} {pc : Nat} {k : bt_K} {kd n N n0 : Nat} {a : ArrayType} (hX : bt_Ow X cc nL own dd) (hT : bt_Tl X n0) (hd : decode cc pc = .ok (.newarray a, 2)) (hka : bt_ak kd a) (hw : Cond.arrayClass (newarray.typeOf a) ∈ bt_tb) (hn : n ≤ 10000) (hN : N = n0 + cs.1) (hlt : N < 262) (hcs : cs.1 + 1 ≤ dd.cells ∧ cs.2 + n ≤ dd.slots) (h : bt_Snd X nL (cs.1 + 1, cs.2 + n) (pc + 2) k) : bt_Snd X nL cs pc (bt_newa kd n N k) := by
  obtain ⟨p, l, e, R, s, m, args, below, meth, cd, A, H0, D, cy, Q, ad⟩ := X
  obtain ⟨hx, hb, hml, hown, hts, hK, hlocks, hA, hrm, hnw⟩ := hX
  obtain ⟨hs0, hT⟩ := hT
  subst hrm
  intro st L w H locs ls hk hR hS hl
  match st, hk with
  | .inl x :: r, hk =>
    obtain ⟨⟨rfl, hk1, hk2, hk3⟩, hk4⟩ := hk
    intro T0 hT0 XS
    have hup := XS.heapSize
    rw [hT0, hs0] at hup
    obtain ⟨hz, ha⟩ := bt_hsz (n0 := n0) (c := cs.1) (h0 := H0.size) hR (by omega) hT (by omega) hup hS.1
    have key : W p l e R s m args below meth cd H locs cs.1 cs.2 Q (F0 m pc ls ((.inl (n : Int) :: r).map (bt_val ad))) := by
      have hbn := bt_iN (n := n) (by omega)
      refine va_newaK (n := bt_i (n : Int)) (N := n) (rest := r.map (bt_val ad)) hx hb (hts _ hw) rfl hd rfl hbn.1 hbn.2 (by rcases hka with ⟨_, rfl⟩ | ⟨_, rfl⟩ | ⟨_, rfl⟩ | ⟨_, rfl⟩ <;> simp [newarray.typeOf, componentBytes] <;> omega) hcs.1 hcs.2 rfl fun H1 cA e1 z1 o1 hAr hNm => ?_
      have hcA := bt_acls hK hka hNm
      subst hcA
      have hk' : ∀ (i : Nat) (x : Nat × va_E), (bt_ws cy ad w)[i]? = some x → H1[x.1]? = H[x.1]? := fun i x hx => o1 x.1 ((hR.1 i x hx).lt)
      obtain ⟨a0, hent, hcell⟩ := bt_ent_0 (cy := cy) (ad := ad) (w := w) (N := N) hka hk2 hk3
      have hP1 : va_P D vwCl (bt_ws cy ad (bt_gr w)) H1 := by
        rw [bt_ws_gr]
        refine (hR.1.kept hk').app (fun i x hx => ?_)
        have hz0 : i < 1 := (List.getElem?_eq_some_iff.mp hx).1
        rw [show i = 0 by omega] at hx
        cases hx
        rw [ha, hk1, hent]
        show H1[H.size]? = some (vp_cell _ _)
        rw [hcell]
        exact e1
      have hD1 : va_D A (bt_ws cy ad (bt_gr w)) := by
        rw [bt_ws_gr]
        exact hR.2.push hR.1 ha (hA _ (by rw [ha]; exact hS.1))
      have h2 := h (.inr (.inr N) :: r) L (bt_gr w) H1 locs ls hk4 ⟨hP1, hD1⟩ ⟨Nat.le_trans hS.1 (by omega), fun x h1 h2 => (o1 x (Nat.lt_of_lt_of_le h1 hS.1)).trans (hS.2.1 x h1 h2), hS.2.2⟩ hl
      simp only [List.map_cons, bt_val] at h2
      rw [← hk1, ha] at h2
      exact h2
    exact key T0 hT0 XS
/-! arrays of objects -/
def bt_qk (kd : Nat) (C : String) : Prop := (kd = 16 ∧ C = RX2) ∨ (kd = 17 ∧ C = RX6)
theorem bw_newq {X : bt_X} {cc : ByteArray} {nL : Nat} {own C : String} {dd : Room} {cs : Nat × Nat} {pc : Nat} {k : bt_K} {kd n N n0 index : Nat} (hX : bt_Ow X cc nL own dd) (hT : bt_Tl X n0) (hd : decode cc pc = .ok (.anewarray index, 3)) (hka : bt_qk kd C) (hw : Cond.classLink own index C ∈ bt_tb) (hn : n ≤ 10000) (hN : N = n0 + cs.1) (hlt : N < 262) (hcs : cs.1 + 1 ≤ dd.cells ∧ cs.2 + n ≤ dd.slots) (h : bt_Snd X nL (cs.1 + 1, cs.2 + n) (pc + 3) k) : bt_Snd X nL cs pc (bt_newa kd n N k) := by
  obtain ⟨p, l, e, R, s, m, args, below, meth, cd, A, H0, D, cy, Q, ad⟩ := X
  obtain ⟨hx, hb, hml, hown, hts, hK, hlocks, hA, hrm, hnw⟩ := hX
  obtain ⟨hs0, hT⟩ := hT
  subst hrm
  intro st L w H locs ls hk hR hS hl
  match st, hk with
  | .inl x :: r, hk =>
    obtain ⟨⟨rfl, hk1, hk2, hk3⟩, hk4⟩ := hk
    intro T0 hT0 XS
    have hup := XS.heapSize
    rw [hT0, hs0] at hup
    obtain ⟨hz, ha⟩ := bt_hsz (n0 := n0) (c := cs.1) (h0 := H0.size) hR (by omega) hT (by omega) hup hS.1
    have hover : va_AO C s := by
      rcases hka with ⟨_, rfl⟩ | ⟨_, rfl⟩
      · exact hnw.2.2.1
      · exact hnw.2.1
    have key : W p l e R s m args below meth cd H locs cs.1 cs.2 Q (F0 m pc ls ((.inl (n : Int) :: r).map (bt_val ad))) := by
      have hbn := bt_iN (n := n) (by omega)
      refine W.anew (n := bt_i (n : Int)) (rest := r.map (bt_val ad)) hx hb hown (hts _ hw) (va_AO.use hover) rfl hd rfl hbn.1 (by rw [hbn.2]; omega) hcs.1 (by rw [hbn.2]; exact hcs.2) fun cA kA comp f1 f2 f3 f4 => ?_
      rw [hbn.2]
      generalize hH1 : H.push ({ cls := cA, slots := Array.replicate n .null, vm := .none } : Cell) = H1
      have z1 : H1.size = H.size + 1 := by rw [← hH1, Array.size_push]
      have e1 : H1[H.size]? = some (arrV cA n (fun _ => .null)) := by rw [← hH1, Array.getElem?_push_size, ← arrV_new]
      have o1 : ∀ q : Nat, q < H.size → H1[q]? = H[q]? := fun q hq => by rw [← hH1, Array.getElem?_push, if_neg (Nat.ne_of_lt hq)]
      have hcA : cA = cy kd := by
        rcases hka with ⟨rfl, rfl⟩ | ⟨rfl, rfl⟩
        · obtain ⟨_, _, _, _, _, h9⟩ := (hK.2 4 _ rfl).2
          exact Option.some.inj (f1.symm.trans h9)
        · obtain ⟨_, _, _, _, _, h9⟩ := (hK.2 5 _ rfl).2
          exact Option.some.inj (f1.symm.trans h9)
      subst hcA
      have hk' : ∀ (i : Nat) (x : Nat × va_E), (bt_ws cy ad w)[i]? = some x → H1[x.1]? = H[x.1]? := fun i x hx => o1 x.1 ((hR.1 i x hx).lt)
      have hent : bt_ent cy ad w N = .inl (cy kd, n, .inr (.inr (.inr (.inr (fun _ => none))))) := by
        rw [bt_ent_r (c := kd) (by rw [hk2]) (by rcases hka with ⟨rfl, _⟩ | ⟨rfl, _⟩ <;> simp), hk2]
        have : (fun j => (w.2.2.1 N j).map ad) = fun _ => (none : Option Nat) := by
          funext j; rw [hk3.1 j]; rfl
        rw [this]
      have hP1 : va_P D vwCl (bt_ws cy ad (bt_gr w)) H1 := by
        rw [bt_ws_gr]
        refine (hR.1.kept hk').app (fun i x hx => ?_)
        have hz0 : i < 1 := (List.getElem?_eq_some_iff.mp hx).1
        rw [show i = 0 by omega] at hx
        cases hx
        rw [ha, hk1, hent]
        show H1[H.size]? = some (vp_cell _ _)
        rw [vp_cell_q]
        exact e1
      have hD1 : va_D A (bt_ws cy ad (bt_gr w)) := by
        rw [bt_ws_gr]
        exact hR.2.push hR.1 ha (hA _ (by rw [ha]; exact hS.1))
      have h2 := h (.inr (.inr N) :: r) L (bt_gr w) H1 locs ls hk4 ⟨hP1, hD1⟩ ⟨Nat.le_trans hS.1 (by omega), fun x h1 h2 => (o1 x (Nat.lt_of_lt_of_le h1 hS.1)).trans (hS.2.1 x h1 h2), hS.2.2⟩ hl
      simp only [List.map_cons, bt_val] at h2
      rw [← hk1, ha] at h2
      exact h2
    exact key T0 hT0 XS
/-! a reference into an array of objects -/
def bt_aas (kd ci : Nat) (k : bt_K) : bt_K := fun st L w => match st with
  | .inr (.inr b) :: .inl i :: .inr (.inr a) :: r => (bt_ix w a kd i ∧ b < w.1 ∧ (w.2.1 b).1 = ci) ∧ k r L (bt_sr w a (bt_w i).toNat b)
  | _ => False
theorem bw_aas {X : bt_X} {cc : ByteArray} {nL : Nat} {own : String} {dd : Room} {cs : Nat × Nat} {pc : Nat} {k : bt_K} {kd ci : Nat} (hX : bt_Ow X cc nL own dd) (hd : decode cc pc = .ok (.aastore, 1)) (hka : (kd = 16 ∧ ci = 2) ∨ (kd = 17 ∧ ci = 6)) (h : bt_Snd X nL cs (pc + 1) k) : bt_Snd X nL cs pc (bt_aas kd ci k) := by
  obtain ⟨p, l, e, R, s, m, args, below, meth, cd, A, H0, D, cy, Q, ad⟩ := X
  obtain ⟨hx, hb, hml, hown, hts, hK, hlocks, hA, hrm, hnw⟩ := hX
  intro st L w H locs ls hk hR hS hl
  match st, hk with
  | .inr (.inr b) :: .inl i :: .inr (.inr a) :: r, hk =>
    obtain ⟨⟨⟨hk1, hk2, hk3⟩, hk4, hk5⟩, hk6⟩ := hk
    simp only [List.map_cons, bt_val]
    have hc : ci < 12 := by omega
    obtain ⟨C, T, NF, hcl⟩ := bt_cl12 ci hc
    have hre : bt_ent cy ad w a = .inl (cy kd, (w.2.1 a).2, .inr (.inr (.inr (.inr (fun j => (w.2.2.1 a j).map ad))))) := bt_ent_r hk1.2 (by omega)
    refine va_astq (r := (C, T, NF)) hx hb hK hR.1 hR.2 hS a (kd - 12) b ci (f := fun j => (w.2.2.1 a j).map ad) (n := (w.2.1 a).2) (cA := cy kd) (by rw [bt_ws_at hk1.1, hre]) (by
        rcases hka with ⟨rfl, rfl⟩ | ⟨rfl, rfl⟩
        · cases hcl; rfl
        · cases hcl; rfl) (by rw [bt_ws_at hk4, bt_ent_o hk5 hc]) hcl (bt_vpin hk2 hk3) hd (fun H1 locs1 hP1 hD1 hS1 => ?_)
    have e : (bt_ws cy ad w).set a (ad a, .inl (cy kd, (w.2.1 a).2, .inr (.inr (.inr (.inr (va_up (fun j => (w.2.2.1 a j).map ad) (bt_i i).toNatClampNeg (some (ad b)))))))) = bt_ws cy ad (bt_sr w a (bt_w i).toNat b) := by
      refine bt_ws_set rfl ?_ (fun i hi => bt_ent_sr hi)
      rw [bt_ent_r (w := bt_sr w a (bt_w i).toNat b) (c := kd) hk1.2 (by omega)]
      have : (fun j => ((bt_sr w a (bt_w i).toNat b).2.2.1 a j).map ad) = va_up (fun j => (w.2.2.1 a j).map ad) (bt_i i).toNatClampNeg (some (ad b)) := by
        funext j
        show (bt_ur w.2.2.1 a (bt_w i).toNat b a j).map ad = va_up _ (bt_w i).toNat _ j
        unfold bt_ur va_up
        by_cases hj : j = (bt_w i).toNat
        · simp [hj]
        · simp [hj]
      rw [this]
      rfl
    rw [e] at hP1 hD1
    exact h _ L _ H1 locs1 ls hk6 ⟨hP1, hD1⟩ hS1 hl
