/-! allocation: the cells that are still to come have their places already (ad); the count of cells used tells the heap's size -/
def bt_Tl (X : bt_X) (n0 : Nat) : Prop := match X with
  | (_, _, _, _, s, _, _, _, _, _, _, H0, _, _, _, ad) => s.heap = H0 ∧ ∀ i, n0 ≤ i → i < 262 → ad i = H0.size + (i - n0)
def bt_In (X : bt_X) : Prop := match X with
  | (_, _, _, _, _, _, _, _, meth, _, _, _, _, _, _, _) => meth.name = "<init>"
def bt_nul (w : bt_W) (N : Nat) : Prop := (∀ k, w.2.2.1 N k = none) ∧ ∀ k, w.2.2.2 N k = 0
def bt_gr (w : bt_W) : bt_W := (w.1 + 1, w.2)
theorem bt_hsz {D : va_G} {cy : Nat → ClassId} {A : Nat → Prop} {ad : Nat → Nat} {w : bt_W} {H : Heap} {n0 c h0 : Nat} (hR : bt_Rel D cy A ad w H) (hN : w.1 = n0 + c) (hT : ∀ i, n0 ≤ i → i < 262 → ad i = h0 + (i - n0)) (hlt : n0 + c < 262) (hup : H.size ≤ h0 + c) (hlo : h0 ≤ H.size) : H.size = h0 + c ∧ ad w.1 = H.size := by
  have h1 : H.size = h0 + c := by
    by_cases hc : c = 0
    · omega
    · have h2 := (hR.1 (n0 + c - 1) _ (bt_ws_at (by omega))).lt
      have h3 := hT (n0 + c - 1) (by omega) (by omega)
      have h4 : ad (n0 + c - 1) < H.size := h2
      omega
  refine ⟨h1, ?_⟩
  rw [hN, hT _ (by omega) hlt, h1]
  omega
theorem bt_ws_gr {cy : Nat → ClassId} {ad : Nat → Nat} {w : bt_W} : bt_ws cy ad (bt_gr w) = bt_ws cy ad w ++ [(ad w.1, bt_ent cy ad w w.1)] := by
  unfold bt_ws bt_gr
  rw [List.range_succ, List.map_append]
  rfl
def bt_tyk (t : FieldType) : Bool := match t with
  | .float => false
  | .double => false
  | _ => true
theorem bt_dflt {t : FieldType} {ad : Nat → Nat} {w : bt_W} {i k : Nat} (h : bt_tyk t = true) (hn : bt_nul w i) : defaultValue t = bt_fv ad w i (bt_tc t) k := by
  cases t <;> simp_all [bt_tyk, bt_tc, bt_fv, defaultValue, bt_nul, bt_i, bt_j, va_rf] <;> rfl
/-! new -/
def bt_new (c N : Nat) (k : bt_K) : bt_K := fun st L w => (w.1 = N ∧ (w.2.1 N).1 = c ∧ bt_nul w N) ∧ k (.inr (.inr N) :: st) L (bt_gr w)
theorem bw_new {X : bt_X} {cc : ByteArray} {nL : Nat} {own : String} {dd : Room} {cs : Nat × Nat} {pc : Nat} {k : bt_K} {c N n0 index NF : Nat} {C : String} {T : u_T} (hX : bt_Ow X cc nL own dd) (hT : bt_Tl X n0) (hd : decode cc pc = .ok (.new index, 3)) (hC : bt_Cl c C T NF) (hg : ∀ j, j < NF → bt_tyk (bt_ty c j) = true) (hw : Cond.classLink own index C ∈ bt_tb ∧ Cond.instantiable C NF ∈ bt_tb ∧ Cond.initialized C ∈ bt_tb) (hN : N = n0 + cs.1) (hlt : N < 262) (hcs : cs.1 + 1 ≤ dd.cells ∧ cs.2 + NF ≤ dd.slots) (h : bt_Snd X nL (cs.1 + 1, cs.2 + NF) (pc + 3) k) : bt_Snd X nL cs pc (bt_new c N k) := by
  obtain ⟨p, l, e, R, s, m, args, below, meth, cd, A, H0, D, cy, Q, ad⟩ := X
  obtain ⟨hx, hb, hml, hown, hts, hK, hlocks, hA, hrm, hnw⟩ := hX
  obtain ⟨hs0, hT⟩ := hT
  subst hrm
  intro st L w H locs ls hk hR hS hl
  obtain ⟨⟨hk1, hk2, hk3⟩, hk4⟩ := hk
  intro T0 hT0 XS
  have hup := XS.heapSize
  rw [hT0, hs0] at hup
  obtain ⟨hz, ha⟩ := bt_hsz (n0 := n0) (c := cs.1) (h0 := H0.size) hR (by omega) hT (by omega) hup hS.1
  have hKn := hK.1 c _ hC.2.1
  have key : W p l e R s m args below meth cd H locs cs.1 cs.2 Q (F0 m pc ls (st.map (bt_val ad))) := by
    refine W.newcK hx hb hown (hts _ hw.1) (hts _ hw.2.1) (hts _ hw.2.2) rfl hd hcs.1 hcs.2 hKn.2.1 rfl fun H1 kC hkC e1 z1 o1 => ?_
    have hk' : ∀ (i : Nat) (x : Nat × va_E), (bt_ws cy ad w)[i]? = some x → H1[x.1]? = H[x.1]? := fun i x hx => o1 x.1 ((hR.1 i x hx).lt)
    have hent : bt_ent cy ad w w.1 = .inr (c, (List.range NF).map (fun k => bt_fv ad w w.1 (bt_tc (bt_ty c k)) k)) := by
      rw [bt_ent_o (by rw [hk1]; exact hk2) hC.1, bt_nf_of hC.2.1]
    have hP1 : va_P D vwCl (bt_ws cy ad (bt_gr w)) H1 := by
      rw [bt_ws_gr]
      refine (hR.1.kept hk').app (fun i x hx => ?_)
      have hz0 : i < 1 := (List.getElem?_eq_some_iff.mp hx).1
      rw [show i = 0 by omega] at hx
      cases hx
      rw [hent, ha]
      exact ⟨_, hC.2.1, (u_born (bt_ty c) hts hC.2.2.1 hKn hkC e1 hC.2.2.2.1).to (fun j hj => by
        rw [bt_dflt (ad := ad) (w := w) (i := w.1) (k := j) (hg j hj) (by rw [hk1]; exact hk3)]
        simp [vp_V, hj])⟩
    have hD1 : va_D A (bt_ws cy ad (bt_gr w)) := by
      rw [bt_ws_gr]
      exact hR.2.push hR.1 ha (hA _ (by rw [ha]; exact hS.1))
    have h2 := h (.inr (.inr N) :: st) L (bt_gr w) H1 locs ls hk4 ⟨hP1, hD1⟩ ⟨Nat.le_trans hS.1 (by omega), fun x h1 h2 => (o1 x (Nat.lt_of_lt_of_le h1 hS.1)).trans (hS.2.1 x h1 h2), hS.2.2⟩ hl
    simp only [List.map_cons, bt_val] at h2
    rw [← hk1, ha] at h2
    exact h2
  exact key T0 hT0 XS
