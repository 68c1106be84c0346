/-! from the law's entry to its end -/
theorem lw_str {args : Array Value} {s : State} {A : Nat → Prop} (hts : ∀ w ∈ lw_tbl, w.before args s = true) (hgv : (Jvm.Cond.and given_1 narrow_1).before args s = true) (hA : ∀ a : Nat, a < s.heap.size → ¬ A a) : bt_Str A s s.heap := by
  have hs := flat_of_before _ hgv
  have hg : ∀ (i : Nat) {w : Cond}, (flatC (Jvm.Cond.and given_1 narrow_1))[i]? = some w → w.before args s = true := fun i w h => hs w (List.mem_of_getElem? h)
  have ht : ∀ (i : Nat) {w : Cond}, tables_1[i]? = some w → w.before args s = true := fun i w h => hts w (List.mem_append_right _ (List.mem_of_getElem? h))
  obtain ⟨adK, adV, hS, hev⟩ := vk_Sof (args := args) (s := s) (N := 1) (tm := fun _ => lw_tm) (len := [160]) (byt := [bt_wb]) (A := A)
    (fun i hi => by
      have e : i = 0 := by omega
      subst e
      decide)
    (fun i hi => hg 51 lw_e1.1) (fun i hi => hg 52 lw_e1.2.1) (fun i hi => hg 53 lw_e1.2.2.1)
    (fun i hi => by
      have e : i = 0 := by omega
      subst e
      exact hg 54 lw_e1.2.2.2)
    (fun i hi j hj => by
      have e : i = 0 := by omega
      subst e
      exact hg (55 + j) (lw_e0 j hj))
    (fun i j hi hj h => absurd (show i = j by omega) h) hA
  refine ⟨adK 0, adV 0, vk_R.of (ht 38 (by decide +kernel)) (hev 0 (by omega)), ⟨fun i hi => ?_, fun i j hi hj _ => by omega⟩, va_Zof (ht 48 (by decide +kernel)) (ht 3 (by decide +kernel)) (va_eqi (hg 4 lw_e2.1)) hA, va_Zqof (ht 64 (by decide +kernel)) (ht 5 (by decide +kernel)) (hg 5 lw_e2.2.1) hA⟩
  have e : i = 0 := by omega
  subst e
  exact hS.1 0 hi
theorem lw_xb : ∀ w ∈ bt_xb, w ∈ lw_tbl := by decide +kernel
theorem lw_zx {args : Array Value} {s : State} {A : Nat → Prop} (hts : ∀ w ∈ lw_tbl, w.before args s = true) (hgv : (Jvm.Cond.and given_1 narrow_1).before args s = true) (hA : ∀ a : Nat, a < s.heap.size → ¬ A a) : bt_Zx A s := by
  have hs := flat_of_before _ hgv
  have hg : ∀ (i : Nat) {w : Cond}, (flatC (Jvm.Cond.and given_1 narrow_1))[i]? = some w → w.before args s = true := fun i w h => hs w (List.mem_of_getElem? h)
  have ht : ∀ (i : Nat) {w : Cond}, tables_1[i]? = some w → w.before args s = true := fun i w h => hts w (List.mem_append_right _ (List.mem_of_getElem? h))
  exact ⟨vx_Zqof (ht 1160 (by decide +kernel)) (ht 20 (by decide +kernel)) (hg 9 lw_e2.2.2.1) hA, vx_Zqof (ht 1162 (by decide +kernel)) (ht 20 (by decide +kernel)) (hg 10 lw_e2.2.2.2) hA, fun w hw => va_Nw.of (bt_isX_on (bt_xb_is w hw)) (hts w (lw_xb w hw))⟩
set_option maxHeartbeats 4000000 in
theorem whole_start {p : Program} {e : Env} {s : State} {m : MethodId} {below : List Frame} {meth : Method} {c : Code} (l : Launch) (hl0 : l.stackTraces = false) {b L : Nat} {xs : Nat → Int32} (hL : L ≤ 3584) (C0 : lw_At p s m meth c b L xs) : W p l e room_1 s m #[Value.ref b] below meth c s.heap [] 0 0 (lw_Z below #[Value.ref b] s) (entryFrame m ([Value.ref b] : List Value).toArray 7) := by
  obtain ⟨hx, hb, hr, hml, hown, hts, hX0, hbl, hlocks, hgv⟩ := C0
  have htb : ∀ w ∈ bt_tb, w.before #[Value.ref b] s = true := fun w h => hts w (List.mem_filter.mp h).1
  have ht : ∀ (i : Nat) {w : Cond}, tables_1[i]? = some w → w.before #[Value.ref b] s = true := fun i w h => hts w (List.mem_append_right _ (List.mem_of_getElem? h))
  obtain ⟨D, cy, hK⟩ := lw_K hts
  have hA0 : ∀ a : Nat, a < s.heap.size → ¬ (fun q : Nat => s.heap.size ≤ q) a := fun a h q => Nat.not_lt.mpr q h
  have hstr := lw_str (A := fun q : Nat => s.heap.size ≤ q) hts hgv hA0
  have hzx := lw_zx (A := fun q : Nat => s.heap.size ≤ q) hts hgv hA0
  obtain ⟨ad, had⟩ : ∃ ad : Nat → Nat, ad = fun i => if i = 999 then b else s.heap.size + i := ⟨_, rfl⟩
  have ad9 : ad 999 = b := by rw [had]; rfl
  have adi : ∀ i, i < 262 → ad i = s.heap.size + i := fun i hi => by
    rw [had]
    exact if_neg (by omega)
  obtain ⟨X, hXe⟩ : ∃ X : bt_X, X = (p, l, e, room_1, s, m, #[Value.ref b], below, meth, c, (fun q : Nat => s.heap.size ≤ q), s.heap, D, cy, lw_Z below #[Value.ref b] s, ad) := ⟨_, rfl⟩
  have hX : bt_Ow X cL_law 7 RL room_1 := by
    subst hXe
    exact ⟨hx, hb, hml, hown, htb, hK, hlocks, fun q h => h, rfl, fun w hw => va_Nw.of (bt_nw_on hw) (hts w (List.mem_append_right _ (List.mem_filter.mp hw).1)), va_AO.of (ht 323 (by decide +kernel)), va_AO.of (ht 519 (by decide +kernel)), hstr⟩
  have hT : bt_Tl X 0 := by
    subst hXe
    exact ⟨rfl, fun i _ hi => by rw [adi i hi, Nat.sub_zero]⟩
  have hs : bt_Sc X L xs := by
    subst hXe
    refine ⟨?_, ?_, ?_⟩
    · rw [ad9]; exact hX0
    · rw [ad9]; exact hbl
    · rw [ad9]; exact hA0 b hbl
  have hth : bt_Tw X := by
    subst hXe
    exact ⟨hl0, rfl, hzx, va_Nw.of rfl (ht 1135 (by decide +kernel))⟩
  have hE : bt_En X := by
    subst hXe
    exact ⟨⟨b, rfl, rfl⟩, hr, fun q h => h⟩
  have hk := sL_s hX hT (lw_loop hL hX hs hth hE 513 0 rfl)
  have hlv := lv_entry [.ref b] (n := 7) (Nat.le_of_ble_eq_true rfl)
  rw [lg_entry_eq]
  have hLR : bt_LR ad [some (.inr (.inr 999)), none, none, none, none, none, none] ((lg_sl [Value.ref b] ++ List.replicate (7 - (lg_sl [Value.ref b]).length) Slot.unset).toArray) 7 := by
    refine ⟨hlv.1, hlv.2.1, fun i u hi => ?_⟩
    match i, hi with
    | 0, hi =>
      cases hi
      rw [show bt_val ad (.inr (.inr 999)) = .ref b from by show Value.ref (ad 999) = _; rw [ad9]]
      exact lv_at hlv 0 rfl
    | 1, hi => cases hi
    | 2, hi => cases hi
    | 3, hi => cases hi
    | 4, hi => cases hi
    | 5, hi => cases hi
    | 6, hi => cases hi
    | i + 7, hi => simp at hi
  subst hXe
  exact hk [] _ (bt_wn 0 bt_z0 bt_y0) s.heap [] _ (ls_pure L) ⟨fun k q h => by simp [bt_ws] at h, fun i j p q h => by simp [bt_ws] at h, fun k q h => by simp [bt_ws] at h⟩ va_S.rf hLR
