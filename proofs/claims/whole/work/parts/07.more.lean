/-! switches -/
def bt_tsw (x : Int) : Int → List bt_K → bt_K → bt_K
  | _, [], kd => kd
  | lo, k :: ks, kd => fun st L w => if bt_w x = lo then k st L w else bt_tsw x (lo + 1) ks kd st L w
def bt_tab (lo : Int) (ks : List bt_K) (kd : bt_K) : bt_K := fun st L w => match st with
  | .inl x :: r => bt_tsw x lo ks kd r L w
  | _ => False
theorem bt_tsw_out {x : Int} {kd : bt_K} {st : List bt_V} {L : List (Option bt_V)} {w : bt_W} (ks : List bt_K) : ∀ (lo : Int), bt_tsw x lo ks kd st L w → ((bt_w x < lo ∨ lo + ks.length ≤ bt_w x) ∧ kd st L w) ∨ ∃ (i : Nat) (k : bt_K), ks[i]? = some k ∧ bt_w x = lo + i ∧ k st L w := by
  induction ks with
  | nil =>
    intro lo h
    refine Or.inl ⟨?_, h⟩
    simp only [List.length_nil]
    omega
  | cons k ks ih =>
    intro lo h
    unfold bt_tsw at h
    by_cases e : bt_w x = lo
    · rw [if_pos e] at h
      exact Or.inr ⟨0, k, rfl, by omega, h⟩
    · rw [if_neg e] at h
      rcases ih (lo + 1) h with ⟨h1, h2⟩ | ⟨i, k', h1, h2, h3⟩
      · refine Or.inl ⟨?_, h2⟩
        simp only [List.length_cons]
        omega
      · exact Or.inr ⟨i + 1, k', by simpa using h1, by omega, h3⟩
def bt_SwOk (X : bt_X) (nL : Nat) (cs : Nat × Nat) (pc : Nat) : List Int → List bt_K → Prop
  | [], [] => True
  | off :: os, k :: ks => (∃ tgt : Nat, (pc : Int) + off = (tgt : Int) ∧ bt_Snd X nL cs tgt k) ∧ bt_SwOk X nL cs pc os ks
  | _, _ => False
theorem bt_SwOk_at {X : bt_X} {nL : Nat} {cs : Nat × Nat} {pc : Nat} : ∀ (os : List Int) (ks : List bt_K) (i : Nat) (k : bt_K), bt_SwOk X nL cs pc os ks → ks[i]? = some k → ∃ (off : Int) (tgt : Nat), os[i]? = some off ∧ (pc : Int) + off = (tgt : Int) ∧ bt_Snd X nL cs tgt k
  | [], [], i, k, _, hk => by simp at hk
  | off :: os, k0 :: ks, 0, k, h, hk => by
    simp at hk
    subst hk
    obtain ⟨⟨tgt, h1, h2⟩, -⟩ := h
    exact ⟨off, tgt, rfl, h1, h2⟩
  | off :: os, k0 :: ks, i + 1, k, h, hk => by
    obtain ⟨o2, tgt, h1, h2⟩ := bt_SwOk_at os ks i k h.2 (by simpa using hk)
    exact ⟨o2, tgt, by simpa using h1, h2⟩
  | [], k0 :: ks, i, k, h, _ => h.elim
  | off :: os, [], i, k, h, _ => h.elim
theorem bs_tab {X : bt_X} {cc : ByteArray} {nL : Nat} {own : String} {dd : Nat} {cs : Nat × Nat} {pc : Nat} {ks : List bt_K} {kd : bt_K} {dflt lo hi : Int} {offs : Array Int} {len td : Nat} (hX : bt_Ok X cc nL own dd) (hd : decode cc pc = .ok (.tableswitch dflt lo hi offs, len)) (hhi : lo + ks.length = hi + 1) (ht : (pc : Int) + dflt = (td : Int)) (h1 : bt_Snd X nL cs td kd) (h2 : bt_SwOk X nL cs pc offs.toList ks) : bt_Snd X nL cs pc (bt_tab lo ks kd) := by
  obtain ⟨p, l, e, R, s, m, args, below, meth, cd, A, H0, D, cy, Q, ad⟩ := X
  obtain ⟨hx, hb, hml, hown, hts, hK, hlocks, hA, hrm, hnw⟩ := hX
  intro st L w H locs ls hk hR hS hl
  match st, hk with
  | .inl x :: r, hk =>
    simp only [List.map_cons, bt_val]
    rcases bt_tsw_out ks lo hk with ⟨h3, h4⟩ | ⟨i, k', h3, h4, h5⟩
    · refine lv_tableOut hx hb hd ?_ ht (h1 _ L w H locs ls h4 hR hS hl)
      rcases h3 with h3 | h3
      · exact Or.inl h3
      · right
        show hi < bt_w x
        omega
    · obtain ⟨off, tgt, g1, g2, g3⟩ := bt_SwOk_at _ _ i k' h2 h3
      have hi2 := (List.getElem?_eq_some_iff.mp h3).1
      refine lv_tableIn hx hb hd (show ¬ bt_w x < lo by omega) (show ¬ hi < bt_w x by omega) (off := off) ?_ g2 (g3 _ L w H locs ls h5 hR hS hl)
      show offs[(bt_w x - lo).toNat]? = some off
      rw [show (bt_w x - lo).toNat = i by omega, ← Array.getElem?_toList]
      exact g1
def bt_lsw (x : Int) : List (Int × bt_K) → bt_K → bt_K
  | [], kd => kd
  | q :: ks, kd => fun st L w => if q.1 = bt_w x then q.2 st L w else bt_lsw x ks kd st L w
def bt_lk (ks : List (Int × bt_K)) (kd : bt_K) : bt_K := fun st L w => match st with
  | .inl x :: r => bt_lsw x ks kd r L w
  | _ => False
def bt_LwOk (X : bt_X) (nL : Nat) (cs : Nat × Nat) (pc : Nat) : List (Int × Int) → List (Int × bt_K) → Prop
  | [], [] => True
  | off :: os, k :: ks => (off.1 = k.1 ∧ ∃ tgt : Nat, (pc : Int) + off.2 = (tgt : Int) ∧ bt_Snd X nL cs tgt k.2) ∧ bt_LwOk X nL cs pc os ks
  | _, _ => False
theorem bt_lsw_out {X : bt_X} {nL : Nat} {cs : Nat × Nat} {pc td : Nat} {dflt x : Int} {kd : bt_K} {st : List bt_V} {L : List (Option bt_V)} {w : bt_W} (ht : (pc : Int) + dflt = (td : Int)) (h1 : bt_Snd X nL cs td kd) : ∀ (os : List (Int × Int)) (ks : List (Int × bt_K)), bt_LwOk X nL cs pc os ks → bt_lsw x ks kd st L w → ∃ (k : bt_K) (tgt : Nat), (pc : Int) + Op.lookupswitch.offset os dflt (bt_w x) = (tgt : Int) ∧ bt_Snd X nL cs tgt k ∧ k st L w
  | [], [], _, h => ⟨kd, td, ht, h1, h⟩
  | off :: os, k0 :: ks, h, hk => by
    obtain ⟨⟨e, tgt, g1, g2⟩, h3⟩ := h
    obtain ⟨oa, ob⟩ := off
    unfold bt_lsw at hk
    by_cases e2 : k0.1 = bt_w x
    · rw [if_pos e2] at hk
      refine ⟨k0.2, tgt, ?_, g2, hk⟩
      rw [Op.lookupswitch.offset_cons, if_pos (by rw [show oa = k0.1 from e]; exact e2)]
      exact g1
    · rw [if_neg e2] at hk
      obtain ⟨k, t2, a1, a2, a3⟩ := bt_lsw_out ht h1 os ks h3 hk
      refine ⟨k, t2, ?_, a2, a3⟩
      rw [Op.lookupswitch.offset_cons, if_neg (by rw [show oa = k0.1 from e]; exact e2)]
      exact a1
  | [], k0 :: ks, h, _ => h.elim
  | off :: os, [], h, _ => h.elim
theorem bs_lk {X : bt_X} {cc : ByteArray} {nL : Nat} {own : String} {dd : Nat} {cs : Nat × Nat} {pc : Nat} {ks : List (Int × bt_K)} {kd : bt_K} {dflt : Int} {ps : Array (Int × Int)} {len td : Nat} (hX : bt_Ok X cc nL own dd) (hd : decode cc pc = .ok (.lookupswitch dflt ps, len)) (hp : (ps.toList.zip (ps.toList.drop 1)).all (fun (a, next) => a.1 < next.1) = true) (ht : (pc : Int) + dflt = (td : Int)) (h1 : bt_Snd X nL cs td kd) (h2 : bt_LwOk X nL cs pc ps.toList ks) : bt_Snd X nL cs pc (bt_lk ks kd) := by
  obtain ⟨p, l, e, R, s, m, args, below, meth, cd, A, H0, D, cy, Q, ad⟩ := X
  obtain ⟨hx, hb, hml, hown, hts, hK, hlocks, hA, hrm, hnw⟩ := hX
  intro st L w H locs ls hk hR hS hl
  match st, hk with
  | .inl x :: r, hk =>
    simp only [List.map_cons, bt_val]
    obtain ⟨k, tgt, g1, g2, g3⟩ := bt_lsw_out ht h1 ps.toList ks h2 hk
    exact lv_lookup hx hb hd hp rfl g1 (g2 _ L w H locs ls g3 hR hS hl)
/-! System.arraycopy of ints -/
def bt_acp (k : bt_K) : bt_K := fun st L w => match st with
  | .inl n :: .inl dp :: .inr (.inr b) :: .inl sp :: .inr (.inr a) :: r => ((a < w.1 ∧ (w.2.1 a).1 = 13) ∧ (b < w.1 ∧ (w.2.1 b).1 = 13)) ∧ (0 ≤ bt_w sp ∧ 0 ≤ bt_w dp ∧ 0 ≤ bt_w n ∧ bt_w sp + bt_w n ≤ ((w.2.1 a).2 : Int) ∧ bt_w dp + bt_w n ≤ ((w.2.1 b).2 : Int)) ∧ r.length ≤ 4 ∧ k r L (w.1, w.2.1, w.2.2.1, bt_cp w.2.2.2 a (bt_w sp).toNat b (bt_w dp).toNat (bt_w n).toNat)
  | _ => False
theorem bs_acp {X : bt_X} {cc : ByteArray} {nL : Nat} {own : String} {dd : Nat} {cs : Nat × Nat} {pc : Nat} {k : bt_K} {index : Nat} (hX : bt_Ok X cc nL own dd) (hd : decode cc pc = .ok (.invokestatic index, 3)) (hC : Cond.methodLink own index arraycopyName ∈ bt_tb ∧ Cond.native arraycopyName ∈ bt_tb ∧ Cond.static arraycopyName ∈ bt_tb ∧ Cond.initialized "java/lang/System" ∈ bt_tb) (hq : 1 ≤ dd ∧ 8 + (nativeFrameWords "java/lang/System" "arraycopy" 5 + 11) ≤ 64 * dd) (h : bt_Snd X nL cs (pc + 3) k) : bt_Snd X nL cs pc (bt_acp k) := by
  obtain ⟨p, l, e, R, s, m, args, below, meth, cd, A, H0, D, cy, Q, ad⟩ := X
  obtain ⟨hx, hb, hml, hown, hts, hK, hlocks, hA, hrm, hnw⟩ := hX
  intro st L w H locs ls hk hR hS hl
  match st, hk with
  | .inl n :: .inl dp :: .inr (.inr b) :: .inl sp :: .inr (.inr a) :: r, hk =>
    obtain ⟨⟨ha, hb2⟩, ⟨h1, h2, h3, h4, h5⟩, h6, hk⟩ := hk
    simp only [List.map_cons, bt_val]
    have hrf : R.frames = dd ∧ R.locals = 64 * dd := by rw [hrm]; exact ⟨rfl, rfl⟩
    have hcat := bt_cats ad r
    refine va_copyi (ty := .int) hx hb (hml.trans hl.1.symm) hown (hts _ hC.1) (hts _ hC.2.1) (hts _ hC.2.2.1) (hts _ hC.2.2.2) hK hR.1 hR.2 hS a b 1 1 (by rw [bt_ws_at ha.1, bt_ent_n ha.2 (by omega)]) (by rw [bt_ws_at hb2.1, bt_ent_n hb2.2 (by omega)]) rfl rfl rfl
      (fun q => by have := bt_lt0.mp q; omega) (fun q => by have := bt_lt0.mp q; omega) (fun q => by have := bt_lt0.mp q; omega) (show (bt_w sp).toNat + (bt_w n).toNat ≤ _ by omega) (show (bt_w dp).toNat + (bt_w n).toNat ≤ _ by omega) (fun i _ => rfl) (by rw [hrf.1]; exact hq.1) (by rw [hrf.2]; omega) hd (fun H1 locs1 hP1 hD1 hS1 => ?_)
    have e : (bt_ws cy ad w).set b (ad b, .inl (cy 13, (w.2.1 b).2, .inl (va_cpy (fun j => bt_i (w.2.2.2 a j)) (fun j => bt_i (w.2.2.2 b j)) (bt_i sp).toNatClampNeg (bt_i dp).toNatClampNeg (bt_i n).toNatClampNeg))) = bt_ws cy ad (w.1, w.2.1, w.2.2.1, bt_cp w.2.2.2 a (bt_w sp).toNat b (bt_w dp).toNat (bt_w n).toNat) := by
      refine bt_ws_set rfl ?_ (fun i hi => ?_)
      · rw [bt_ent_n (w := (w.1, w.2.1, w.2.2.1, bt_cp w.2.2.2 a (bt_w sp).toNat b (bt_w dp).toNat (bt_w n).toNat)) hb2.2 (by omega)]
        have e1 : (bt_i sp).toNatClampNeg = (bt_w sp).toNat := rfl
        have e2 : (bt_i dp).toNatClampNeg = (bt_w dp).toNat := rfl
        have e3 : (bt_i n).toNatClampNeg = (bt_w n).toNat := rfl
        rw [e1, e2, e3]
        congr 4
        funext j
        by_cases hj : (bt_w dp).toNat ≤ j ∧ j < (bt_w dp).toNat + (bt_w n).toNat
        · simp only [va_cpy, bt_cp, true_and]
          rw [if_pos hj, if_pos hj]
        · simp only [va_cpy, bt_cp, true_and]
          rw [if_neg hj, if_neg hj]
      · simp [bt_ent, bt_cp, bt_fv, hi]
    rw [e] at hP1 hD1
    exact h _ L _ H1 locs1 ls hk ⟨hP1, hD1⟩ hS1 hl
/-! a static method of a nest mate -/
def bt_CN (own : String) (index : Nat) (y : MethodName) (host : String) (bytes : ByteArray) (maxL : Nat) (ret : Option FieldType) (n : Nat) : Prop :=
  (y.cls ≠ "java/lang/invoke/MethodHandle" ∧ y.cls ≠ "java/lang/invoke/VarHandle" ∧ (parseMethodDescriptor y.desc).map (fun d => d.parameters.length) = some n) ∧ Cond.code y bytes maxL ret ∈ bt_tb ∧ Cond.methodLinkNest own index y host ∈ bt_nw ∧ Cond.initialized y.cls ∈ bt_tb ∧ Cond.static y ∈ bt_tb
theorem bs_cN {X : bt_X} {cc : ByteArray} {nL : Nat} {own : String} {dd : Nat} {cs : Nat × Nat} {pc : Nat} {k : bt_K} {y : MethodName} {host : String} {bytes : ByteArray} {maxL d index n : Nat} {ret : Option FieldType} {sg : List Nat} {Sp : bt_Sp} (hX : bt_Ok X cc nL own dd) (hd : decode cc pc = .ok (.invokestatic index, 3)) (hM : bt_Met y bytes maxL ret d sg Sp) (hC : bt_CN own index y host bytes maxL ret n) (hq : d + 1 ≤ dd ∧ maxL ≤ 45 ∧ sg.length = n ∧ cs = (0, 0)) (h : bt_Snd X nL cs (pc + 3) k) : bt_Snd X nL cs pc (bt_cS n sg Sp k) := by
  obtain ⟨p, l, e, R, s, m, args, below, meth, c, A, H0, D, cy, Q, ad⟩ := X
  obtain ⟨hx, hb, hml, hown, hts, hK, hlocks, hA, hrm, hnw⟩ := hX
  intro st L w H locs ls hk hR hS hl
  obtain ⟨hdd, hmx, hsl, rfl⟩ := hq
  obtain ⟨hsig, hrest, hSp⟩ := hk
  have hst : st.map (bt_val ad) = ((st.take n).reverse.map (bt_val ad)).reverse ++ (st.drop n).map (bt_val ad) := by
    rw [← List.map_reverse, List.reverse_reverse, ← List.map_append, List.take_append_drop]
  have hlen : ((st.take n).reverse.map (bt_val ad)).length = n := by
    have := congrArg List.length hsig
    rw [hsl] at this
    simpa [bt_sig] using this
  have hrf : R.frames = dd ∧ R.locals = 64 * dd := by rw [hrm]; exact ⟨rfl, rfl⟩
  rw [hst]
  refine bt_after (w := w) (Q := bt_ret k (st.drop n) L) (va_runSN (host := host) (As := (st.take n).reverse.map (bt_val ad)) (rest := (st.drop n).map (bt_val ad)) ⟨hx, hb, hml, hown, hts⟩ (hM l D cy ad (st.take n).reverse w _ H.size hsig hSp) ⟨va_cnB n hts (bt_goodIn hC.2.1) rfl rfl rfl (hnw _ hC.2.2.1) (hts _ hC.2.2.2.1) hC.1 ⟨by rw [hrf.1]; exact hdd, by rw [hrf.2]; show 8 + (maxL + 11) + 64 * d ≤ 64 * dd; omega⟩, hts _ hC.2.2.2.2, trivial⟩
    ⟨bt_Pc_blind, fun U hU hW => ⟨rfl, by rw [hU], by rw [hU]; exact hR.1, va_K.moved hW.alike hK, hR.2.weaken (fun _ _ _ _ => trivial), bt_nw_warm hW hnw⟩⟩ rfl hlen hl.1 rfl (lv_room (Nat.le_trans (bt_cats ad _) (by omega))) hd ⟨Nat.zero_le _, Nat.zero_le _⟩) hS hR hA (fun r w' H1 locs1 hq hR1 hS1 => ?_)
  have h2 := h (r.toList ++ st.drop n) L w' H1 locs1 ls hq hR1 hS1 hl
  have e : (r.toList ++ st.drop n).map (bt_val ad) = (r.map (bt_val ad)).toList ++ (st.drop n).map (bt_val ad) := by
    cases r <;> simp
  rw [e] at h2
  exact h2
/-! Math.max, Math.min -/
def bo_max (x y : Int) : Int := if bt_w x < bt_w y then y else x
def bo_min (x y : Int) : Int := if bt_w y < bt_w x then y else x
def bt_mmax (k : bt_K) : bt_K := fun st L w => match st with
  | .inl y :: .inl x :: r => r.length ≤ 4 ∧ k (.inl (bo_max x y) :: r) L w
  | _ => False
def bt_mmin (k : bt_K) : bt_K := fun st L w => match st with
  | .inl y :: .inl x :: r => r.length ≤ 4 ∧ k (.inl (bo_min x y) :: r) L w
  | _ => False
theorem bs_mmax {X : bt_X} {cc : ByteArray} {nL : Nat} {own : String} {dd : Nat} {cs : Nat × Nat} {pc : Nat} {k : bt_K} {index : Nat} (hX : bt_Ok X cc nL own dd) (hd : decode cc pc = .ok (.invokestatic index, 3)) (hC : Cond.methodLink own index Lib.Math.max.name ∈ bt_tb ∧ Cond.static Lib.Math.max.name ∈ bt_tb ∧ Cond.initialized "java/lang/Math" ∈ bt_tb ∧ Cond.code Lib.Math.max.name Lib.Math.max.code 2 (some .int) ∈ bt_tb) (hq : 1 ≤ dd ∧ cs = (0, 0)) (h : bt_Snd X nL cs (pc + 3) k) : bt_Snd X nL cs pc (bt_mmax k) := by
  obtain ⟨p, l, e, R, s, m, args, below, meth, cd, A, H0, D, cy, Q, ad⟩ := X
  obtain ⟨hx, hb, hml, hown, hts, hK, hlocks, hA, hrm, hnw⟩ := hX
  obtain ⟨hdd, rfl⟩ := hq
  intro st L w H locs ls hk hR hS hl
  match st, hk with
  | .inl y :: .inl x :: r, hk =>
    have h2 := h _ L w H locs ls hk.2 hR hS hl
    simp only [List.map_cons, bt_val] at h2 ⊢
    have hrf : R.frames = dd ∧ R.locals = 64 * dd := by rw [hrm]; exact ⟨rfl, rfl⟩
    have hcat := bt_cats ad r
    refine va_mmax hx hb (hml.trans hl.1.symm) hown (hts _ hC.1) (hts _ hC.2.1) (hts _ hC.2.2.1) (hts _ hC.2.2.2) (by rw [hrf.1]; exact hdd) (by rw [hrf.2]; have := hk.1; omega) (Nat.zero_le _) (Nat.zero_le _) hd ?_
    have e : (if bt_i x < bt_i y then bt_i y else bt_i x) = bt_i (bo_max x y) := by
      unfold bo_max
      by_cases hc : bt_i x < bt_i y
      · rw [if_pos hc, if_pos (bt_lt_iff.mp hc)]
      · rw [if_neg hc, if_neg (fun q => hc (bt_lt_iff.mpr q))]
    rw [e]
    exact h2
theorem bs_mmin {X : bt_X} {cc : ByteArray} {nL : Nat} {own : String} {dd : Nat} {cs : Nat × Nat} {pc : Nat} {k : bt_K} {index : Nat} (hX : bt_Ok X cc nL own dd) (hd : decode cc pc = .ok (.invokestatic index, 3)) (hC : Cond.methodLink own index Lib.Math.min.name ∈ bt_tb ∧ Cond.static Lib.Math.min.name ∈ bt_tb ∧ Cond.initialized "java/lang/Math" ∈ bt_tb ∧ Cond.code Lib.Math.min.name Lib.Math.min.code 2 (some .int) ∈ bt_tb) (hq : 1 ≤ dd ∧ cs = (0, 0)) (h : bt_Snd X nL cs (pc + 3) k) : bt_Snd X nL cs pc (bt_mmin k) := by
  obtain ⟨p, l, e, R, s, m, args, below, meth, cd, A, H0, D, cy, Q, ad⟩ := X
  obtain ⟨hx, hb, hml, hown, hts, hK, hlocks, hA, hrm, hnw⟩ := hX
  obtain ⟨hdd, rfl⟩ := hq
  intro st L w H locs ls hk hR hS hl
  match st, hk with
  | .inl y :: .inl x :: r, hk =>
    have h2 := h _ L w H locs ls hk.2 hR hS hl
    simp only [List.map_cons, bt_val] at h2 ⊢
    have hrf : R.frames = dd ∧ R.locals = 64 * dd := by rw [hrm]; exact ⟨rfl, rfl⟩
    have hcat := bt_cats ad r
    refine va_mmin hx hb (hml.trans hl.1.symm) hown (hts _ hC.1) (hts _ hC.2.1) (hts _ hC.2.2.1) (hts _ hC.2.2.2) (by rw [hrf.1]; exact hdd) (by rw [hrf.2]; have := hk.1; omega) (Nat.zero_le _) (Nat.zero_le _) hd ?_
    have e : (if bt_i y < bt_i x then bt_i y else bt_i x) = bt_i (bo_min x y) := by
      unfold bo_min
      by_cases hc : bt_i y < bt_i x
      · rw [if_pos hc, if_pos (bt_lt_iff.mp hc)]
      · rw [if_neg hc, if_neg (fun q => hc (bt_lt_iff.mpr q))]
    rw [e]
    exact h2
/-! locals that are used no more -/
def bt_kl : List Nat → List (Option bt_V) → List (Option bt_V)
  | [], L => L
  | i :: is, L => bt_kl is (L.set i none)
def bt_kill (is : List Nat) (k : bt_K) : bt_K := fun st L w => k st (bt_kl is L) w
theorem bt_LR.kl {ad : Nat → Nat} {ls : Array Slot} {nL : Nat} : ∀ (is : List Nat) (L : List (Option bt_V)), bt_LR ad L ls nL → bt_LR ad (bt_kl is L) ls nL
  | [], L, h => h
  | i :: is, L, h => by
    refine bt_LR.kl is _ ⟨h.1, h.2.1, fun j v hj => ?_⟩
    by_cases e : j = i
    · subst e
      by_cases hl : j < L.length
      · rw [List.getElem?_set_self hl] at hj
        cases hj
      · rw [List.getElem?_eq_none (by simpa using hl)] at hj
        cases hj
    · rw [List.getElem?_set_ne (fun q => e q.symm)] at hj
      exact h.2.2 j v hj
theorem bs_kill {X : bt_X} {nL : Nat} {cs : Nat × Nat} {pc : Nat} {k : bt_K} {is : List Nat} (h : bt_Snd X nL cs pc k) : bt_Snd X nL cs pc (bt_kill is k) := by
  obtain ⟨p, l, e, R, s, m, args, below, meth, cd, A, H0, D, cy, Q, ad⟩ := X
  intro st L w H locs ls hk hR hS hl
  exact h st _ w H locs ls hk hR hS (hl.kl is)
/-! an int may be written as the number that it is -/
def bt_can (k : bt_K) : bt_K := fun st L w => match st with
  | .inl x :: r => k (.inl (bt_w x) :: r) L w
  | _ => False
theorem bs_can {X : bt_X} {nL : Nat} {cs : Nat × Nat} {pc : Nat} {k : bt_K} (h : bt_Snd X nL cs pc k) : bt_Snd X nL cs pc (bt_can k) := by
  obtain ⟨p, l, e, R, s, m, args, below, meth, cd, A, H0, D, cy, Q, ad⟩ := X
  intro st L w H locs ls hk hR hS hl
  match st, hk with
  | .inl x :: r, hk =>
    have h2 := h _ L w H locs ls hk hR hS hl
    simp only [List.map_cons, bt_val, bt_iw] at h2 ⊢
    exact h2
/-- a walk by its heads: what holds at each head, with a measure that falls -/
theorem bt_heads {X : bt_X} {nL : Nat} {cs : Nat × Nat} (hs : List Nat) (I : Nat → Nat → bt_K) (T : Nat → (Nat → bt_K) → bt_K) (hT : ∀ h ∈ hs, ∀ κ : Nat → bt_K, (∀ h' ∈ hs, bt_Snd X nL cs h' (κ h')) → bt_Snd X nL cs h (T h κ)) (hI : ∀ h ∈ hs, ∀ n st L w, I h n st L w → T h (fun h' st L w => ∃ m, m < n ∧ I h' m st L w) st L w) : ∀ h ∈ hs, bt_Snd X nL cs h (fun st L w => ∃ n, I h n st L w) := by
  have key : ∀ N, ∀ h ∈ hs, bt_Snd X nL cs h (fun st L w => ∃ m, m < N ∧ I h m st L w) := by
    intro N
    induction N with
    | zero =>
      intro h _
      obtain ⟨p, l, e, R, s, m, args, below, meth, c, A, H0, D, cy, Q, ad⟩ := X
      intro st L w H locs ls hk
      obtain ⟨m, hm, -⟩ := hk
      omega
    | succ N ih =>
      intro h hh
      have h1 := hT h hh _ ih
      have h2 : bt_Snd X nL cs h (I h N) := bt_weak h1 (fun st L w q => hI h hh N st L w q)
      have h3 := ih h hh
      obtain ⟨p, l, e, R, s, m, args, below, meth, c, A, H0, D, cy, Q, ad⟩ := X
      intro st L w H locs ls hk
      obtain ⟨m, hm, hq⟩ := hk
      by_cases e : m = N
      · subst e
        exact h2 st L w H locs ls hq
      · exact h3 st L w H locs ls ⟨m, by omega, hq⟩
  intro h hh
  have hk := fun N => key N h hh
  obtain ⟨p, l, e, R, s, m, args, below, meth, c, A, H0, D, cy, Q, ad⟩ := X
  intro st L w H locs ls hq
  obtain ⟨n, hq⟩ := hq
  exact hk (n + 1) st L w H locs ls ⟨n, Nat.lt_succ_self n, hq⟩
