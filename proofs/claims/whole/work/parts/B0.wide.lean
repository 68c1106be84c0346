/-! The rows once more, in a frame whose room is any: for the methods that allocate, and for the law. Printed by prog/mkwide.py out of parts 04, 05, 07. -/
def bt_rw (d c n : Nat) : Room := { frames := d, cells := c, slots := n, locals := 64 * d }
/-- the words, as the String constant of Tape has them -/
def bt_wt : String := "pen seats path guest mood in animal likes coins foe feeds tyre costs rain sees moods move hour plain poet boy single not and or liked humour others watched fed "
def bt_wb : List Int32 := [112, 101, 110, 32, 115, 101, 97, 116, 115, 32, 112, 97, 116, 104, 32, 103, 117, 101, 115, 116, 32, 109, 111, 111, 100, 32, 105, 110, 32, 97, 110, 105, 109, 97, 108, 32, 108, 105, 107, 101, 115, 32, 99, 111, 105, 110, 115, 32, 102, 111, 101, 32, 102, 101, 101, 100, 115, 32, 116, 121, 114, 101, 32, 99, 111, 115, 116, 115, 32, 114, 97, 105, 110, 32, 115, 101, 101, 115, 32, 109, 111, 111, 100, 115, 32, 109, 111, 118, 101, 32, 104, 111, 117, 114, 32, 112, 108, 97, 105, 110, 32, 112, 111, 101, 116, 32, 98, 111, 121, 32, 115, 105, 110, 103, 108, 101, 32, 110, 111, 116, 32, 97, 110, 100, 32, 111, 114, 32, 108, 105, 107, 101, 100, 32, 104, 117, 109, 111, 117, 114, 32, 111, 116, 104, 101, 114, 115, 32, 119, 97, 116, 99, 104, 101, 100, 32, 102, 101, 100, 32]
/-- the String constant, where it lies and what it holds -/
def bt_Str (A : Nat → Prop) (s : State) (H : Heap) : Prop := ∃ q v : Nat, vk_R RX7 19 bt_wt q s ∧ vk_S 1 [160] [bt_wb] (fun _ => q) (fun _ => v) A s H ∧ va_Z "java/lang/String" "COMPACT_STRINGS" "Z" (.int 1) A s H ∧ va_Zq "jdk/internal/util/Preconditions" "SIOOBE_FORMATTER" "Ljava/util/function/BiFunction;" A s H
/-- what else a state must give: the classes of the two arrays of objects, the String constant -/
def bt_Ao (A : Nat → Prop) (s : State) (H : Heap) : Prop := va_AO RX6 s ∧ va_AO RX2 s ∧ bt_Str A s H
theorem bt_Ao.go {A B : Nat → Prop} {s U : State} {H0 H : Heap} (h : bt_Ao A s H0) (hW : s.WarmedH U.vm) (hq : ∀ a : Nat, a < H0.size → ¬ A a → H[a]? = H0[a]?) (hAB : ∀ q, B q → A q) : bt_Ao B U H := by
  obtain ⟨h1, h2, q, v, h3, h4, h5, h6⟩ := h
  exact ⟨h1.moved hW.alike, h2.moved hW.alike, q, v, h3.warm hW, ((h4.kept hq).narrow hAB).moved hW.alike, ((h5.kept hq).narrow hAB).moved hW.alike, ((h6.kept hq).narrow hAB).moved hW.alike⟩
theorem bt_Ao.blind {A : Nat → Prop} {U U' : State} (hv : U'.vm = U.vm) (hh : U'.heap = U.heap) (h : bt_Ao A U U.heap) : bt_Ao A U' U'.heap := by
  obtain ⟨h1, h2, q, v, h3, h4, h5, h6⟩ := h
  have hA : U.vm.Alike U'.vm := by rw [hv]; exact Vm.Alike.refl U.vm
  rw [hh]
  exact ⟨h1.moved hA, h2.moved hA, q, v, h3.same hv, h4.moved hA, h5.moved hA, h6.moved hA⟩
def bt_Ow (X : bt_X) (cc : ByteArray) (nL : Nat) (own : String) (dd : Room) : Prop := match X with
  | (p, _, _, R, s, m, args, _, meth, c, A, H0, D, cy, _, _) => p.tables.exec = Jvm.exec ∧ c.code = cc ∧ c.maxLocals = nL ∧ s.vm.findClass own = some m.cls ∧ (∀ w ∈ bt_tb, w.before args s = true) ∧ va_K D vwCl (bt_tys cy) s ∧ meth.locks = false ∧ (∀ q, H0.size ≤ q → A q) ∧ R = dd ∧ ((∀ w ∈ bt_nw, va_Nw w s) ∧ bt_Ao A s H0)
theorem bw_iadd {X : bt_X} {cc : ByteArray} {nL : Nat} {own : String} {dd : Room} {cs : Nat × Nat} {pc : Nat} {k : bt_K} (hX : bt_Ow X cc nL own dd) (hd : decode cc pc = .ok (.iadd, 1)) (h : bt_Snd X nL cs (pc + 1) k) : bt_Snd X nL cs pc (bt_iadd k) := by
  obtain ⟨p, l, e, R, s, m, args, below, meth, c, A, H0, D, cy, Q, ad⟩ := X
  obtain ⟨hx, hb, hml, hown, hts, hK, hlocks, hA, hrm, hnw⟩ := hX
  intro st L w H locs ls hk hR hS hl
  match st, hk with
  | .inl y :: .inl x :: r, hk =>
    have h2 := h _ L w H locs ls hk hR hS hl
    simp only [List.map_cons, bt_val] at h2 ⊢
    exact lv_iadd hx hb hd (by rw [show bt_i x + bt_i y = bt_i (x + y) from by simp only [bt_i, Int32.ofInt_add]]; exact h2)
theorem bw_isub {X : bt_X} {cc : ByteArray} {nL : Nat} {own : String} {dd : Room} {cs : Nat × Nat} {pc : Nat} {k : bt_K} (hX : bt_Ow X cc nL own dd) (hd : decode cc pc = .ok (.isub, 1)) (h : bt_Snd X nL cs (pc + 1) k) : bt_Snd X nL cs pc (bt_isub k) := by
  obtain ⟨p, l, e, R, s, m, args, below, meth, c, A, H0, D, cy, Q, ad⟩ := X
  obtain ⟨hx, hb, hml, hown, hts, hK, hlocks, hA, hrm, hnw⟩ := hX
  intro st L w H locs ls hk hR hS hl
  match st, hk with
  | .inl y :: .inl x :: r, hk =>
    have h2 := h _ L w H locs ls hk hR hS hl
    simp only [List.map_cons, bt_val] at h2 ⊢
    exact lv_isub hx hb hd (by rw [show bt_i x - bt_i y = bt_i (x - y) from by simp only [bt_i, Int32.ofInt_sub]]; exact h2)
theorem bw_imul {X : bt_X} {cc : ByteArray} {nL : Nat} {own : String} {dd : Room} {cs : Nat × Nat} {pc : Nat} {k : bt_K} (hX : bt_Ow X cc nL own dd) (hd : decode cc pc = .ok (.imul, 1)) (h : bt_Snd X nL cs (pc + 1) k) : bt_Snd X nL cs pc (bt_imul k) := by
  obtain ⟨p, l, e, R, s, m, args, below, meth, c, A, H0, D, cy, Q, ad⟩ := X
  obtain ⟨hx, hb, hml, hown, hts, hK, hlocks, hA, hrm, hnw⟩ := hX
  intro st L w H locs ls hk hR hS hl
  match st, hk with
  | .inl y :: .inl x :: r, hk =>
    have h2 := h _ L w H locs ls hk hR hS hl
    simp only [List.map_cons, bt_val] at h2 ⊢
    exact lv_imul hx hb hd (by rw [show bt_i x * bt_i y = bt_i (x * y) from by simp only [bt_i, Int32.ofInt_mul]]; exact h2)
theorem bw_iand {X : bt_X} {cc : ByteArray} {nL : Nat} {own : String} {dd : Room} {cs : Nat × Nat} {pc : Nat} {k : bt_K} (hX : bt_Ow X cc nL own dd) (hd : decode cc pc = .ok (.iand, 1)) (h : bt_Snd X nL cs (pc + 1) k) : bt_Snd X nL cs pc (bt_iand k) := by
  obtain ⟨p, l, e, R, s, m, args, below, meth, c, A, H0, D, cy, Q, ad⟩ := X
  obtain ⟨hx, hb, hml, hown, hts, hK, hlocks, hA, hrm, hnw⟩ := hX
  intro st L w H locs ls hk hR hS hl
  match st, hk with
  | .inl y :: .inl x :: r, hk =>
    have h2 := h _ L w H locs ls hk hR hS hl
    simp only [List.map_cons, bt_val] at h2 ⊢
    exact lv_iand hx hb hd (by rw [show bt_i x &&& bt_i y = bt_i (bo_iand x y) from (bt_it _).symm]; exact h2)
theorem bw_land {X : bt_X} {cc : ByteArray} {nL : Nat} {own : String} {dd : Room} {cs : Nat × Nat} {pc : Nat} {k : bt_K} (hX : bt_Ow X cc nL own dd) (hd : decode cc pc = .ok (.land, 1)) (h : bt_Snd X nL cs (pc + 1) k) : bt_Snd X nL cs pc (bt_land k) := by
  obtain ⟨p, l, e, R, s, m, args, below, meth, c, A, H0, D, cy, Q, ad⟩ := X
  obtain ⟨hx, hb, hml, hown, hts, hK, hlocks, hA, hrm, hnw⟩ := hX
  intro st L w H locs ls hk hR hS hl
  match st, hk with
  | .inr (.inl y) :: .inr (.inl x) :: r, hk =>
    have h2 := h _ L w H locs ls hk hR hS hl
    simp only [List.map_cons, bt_val] at h2 ⊢
    exact lv_land hx hb hd (by rw [show bt_j x &&& bt_j y = bt_j (bo_land x y) from (bt_jt _).symm]; exact h2)
theorem bw_lor {X : bt_X} {cc : ByteArray} {nL : Nat} {own : String} {dd : Room} {cs : Nat × Nat} {pc : Nat} {k : bt_K} (hX : bt_Ow X cc nL own dd) (hd : decode cc pc = .ok (.lor, 1)) (h : bt_Snd X nL cs (pc + 1) k) : bt_Snd X nL cs pc (bt_lor k) := by
  obtain ⟨p, l, e, R, s, m, args, below, meth, c, A, H0, D, cy, Q, ad⟩ := X
  obtain ⟨hx, hb, hml, hown, hts, hK, hlocks, hA, hrm, hnw⟩ := hX
  intro st L w H locs ls hk hR hS hl
  match st, hk with
  | .inr (.inl y) :: .inr (.inl x) :: r, hk =>
    have h2 := h _ L w H locs ls hk hR hS hl
    simp only [List.map_cons, bt_val] at h2 ⊢
    exact lv_lor hx hb hd (by rw [show bt_j x ||| bt_j y = bt_j (bo_lor x y) from (bt_jt _).symm]; exact h2)
theorem bw_lshl {X : bt_X} {cc : ByteArray} {nL : Nat} {own : String} {dd : Room} {cs : Nat × Nat} {pc : Nat} {k : bt_K} (hX : bt_Ow X cc nL own dd) (hd : decode cc pc = .ok (.lshl, 1)) (h : bt_Snd X nL cs (pc + 1) k) : bt_Snd X nL cs pc (bt_lshl k) := by
  obtain ⟨p, l, e, R, s, m, args, below, meth, c, A, H0, D, cy, Q, ad⟩ := X
  obtain ⟨hx, hb, hml, hown, hts, hK, hlocks, hA, hrm, hnw⟩ := hX
  intro st L w H locs ls hk hR hS hl
  match st, hk with
  | .inl y :: .inr (.inl x) :: r, hk =>
    have h2 := h _ L w H locs ls hk hR hS hl
    simp only [List.map_cons, bt_val] at h2 ⊢
    exact lv_lshl hx hb hd (bt_jt _).symm h2
theorem bw_lcmp {X : bt_X} {cc : ByteArray} {nL : Nat} {own : String} {dd : Room} {cs : Nat × Nat} {pc : Nat} {k : bt_K} (hX : bt_Ow X cc nL own dd) (hd : decode cc pc = .ok (.lcmp, 1)) (h : bt_Snd X nL cs (pc + 1) k) : bt_Snd X nL cs pc (bt_lcmp k) := by
  obtain ⟨p, l, e, R, s, m, args, below, meth, c, A, H0, D, cy, Q, ad⟩ := X
  obtain ⟨hx, hb, hml, hown, hts, hK, hlocks, hA, hrm, hnw⟩ := hX
  intro st L w H locs ls hk hR hS hl
  match st, hk with
  | .inr (.inl y) :: .inr (.inl x) :: r, hk =>
    have h2 := h _ L w H locs ls hk hR hS hl
    simp only [List.map_cons, bt_val] at h2 ⊢
    exact W.lcmp hx hb hd (by rw [show lg_cmp (bt_j x) (bt_j y) = bt_i (bo_lcmp x y) from (bt_it _).symm]; exact h2)
theorem bw_i2l {X : bt_X} {cc : ByteArray} {nL : Nat} {own : String} {dd : Room} {cs : Nat × Nat} {pc : Nat} {k : bt_K} (hX : bt_Ow X cc nL own dd) (hd : decode cc pc = .ok (.i2l, 1)) (h : bt_Snd X nL cs (pc + 1) k) : bt_Snd X nL cs pc (bt_i2l k) := by
  obtain ⟨p, l, e, R, s, m, args, below, meth, c, A, H0, D, cy, Q, ad⟩ := X
  obtain ⟨hx, hb, hml, hown, hts, hK, hlocks, hA, hrm, hnw⟩ := hX
  intro st L w H locs ls hk hR hS hl
  match st, hk with
  | .inl x :: r, hk =>
    have h2 := h _ L w H locs ls hk hR hS hl
    simp only [List.map_cons, bt_val] at h2 ⊢
    exact lv_i2l hx hb hd (bt_jt _).symm h2
theorem bw_iconst {X : bt_X} {cc : ByteArray} {nL : Nat} {own : String} {dd : Room} {cs : Nat × Nat} {pc : Nat} {k : bt_K} {n : Int} (hX : bt_Ow X cc nL own dd) (hd : decode cc pc = .ok (.iconst n, 1)) (h : bt_Snd X nL cs (pc + 1) k) : bt_Snd X nL cs pc (bt_ic n k) := by
  obtain ⟨p, l, e, R, s, m, args, below, meth, c, A, H0, D, cy, Q, ad⟩ := X
  obtain ⟨hx, hb, hml, hown, hts, hK, hlocks, hA, hrm, hnw⟩ := hX
  intro st L w H locs ls hk hR hS hl
  have h2 := h _ L w H locs ls hk hR hS hl
  simp only [List.map_cons, bt_val] at h2
  exact lv_iconst hx hb hd (by rfl) h2
theorem bw_bipush {X : bt_X} {cc : ByteArray} {nL : Nat} {own : String} {dd : Room} {cs : Nat × Nat} {pc : Nat} {k : bt_K} {n : Int} (hX : bt_Ow X cc nL own dd) (hd : decode cc pc = .ok (.bipush n, 2)) (hv : (Int8.ofInt n).toInt32 = bt_i n) (h : bt_Snd X nL cs (pc + 2) k) : bt_Snd X nL cs pc (bt_ic n k) := by
  obtain ⟨p, l, e, R, s, m, args, below, meth, c, A, H0, D, cy, Q, ad⟩ := X
  obtain ⟨hx, hb, hml, hown, hts, hK, hlocks, hA, hrm, hnw⟩ := hX
  intro st L w H locs ls hk hR hS hl
  have h2 := h _ L w H locs ls hk hR hS hl
  simp only [List.map_cons, bt_val] at h2
  exact lv_bipush hx hb hd hv h2
theorem bw_sipush {X : bt_X} {cc : ByteArray} {nL : Nat} {own : String} {dd : Room} {cs : Nat × Nat} {pc : Nat} {k : bt_K} {n : Int} (hX : bt_Ow X cc nL own dd) (hd : decode cc pc = .ok (.sipush n, 3)) (hv : (Int16.ofInt n).toInt32 = bt_i n) (h : bt_Snd X nL cs (pc + 3) k) : bt_Snd X nL cs pc (bt_ic n k) := by
  obtain ⟨p, l, e, R, s, m, args, below, meth, c, A, H0, D, cy, Q, ad⟩ := X
  obtain ⟨hx, hb, hml, hown, hts, hK, hlocks, hA, hrm, hnw⟩ := hX
  intro st L w H locs ls hk hR hS hl
  have h2 := h _ L w H locs ls hk hR hS hl
  simp only [List.map_cons, bt_val] at h2
  exact lv_sipush hx hb hd hv h2
theorem bw_ldc {X : bt_X} {cc : ByteArray} {nL : Nat} {own : String} {dd : Room} {cs : Nat × Nat} {pc : Nat} {k : bt_K} {index : Nat} {v : Int32} {n : Int} (hX : bt_Ow X cc nL own dd) (hd : decode cc pc = .ok (.ldc index, 2)) (hc : Cond.constant own index v ∈ bt_tb) (hv : v = bt_i n) (h : bt_Snd X nL cs (pc + 2) k) : bt_Snd X nL cs pc (bt_ic n k) := by
  obtain ⟨p, l, e, R, s, m, args, below, meth, c, A, H0, D, cy, Q, ad⟩ := X
  obtain ⟨hx, hb, hml, hown, hts, hK, hlocks, hA, hrm, hnw⟩ := hX
  intro st L w H locs ls hk hR hS hl
  have h2 := h _ L w H locs ls hk hR hS hl
  simp only [List.map_cons, bt_val] at h2
  subst hv
  exact lv_ldc hx hb hown (hts _ hc) hd h2
theorem bw_ldc2 {X : bt_X} {cc : ByteArray} {nL : Nat} {own : String} {dd : Room} {cs : Nat × Nat} {pc : Nat} {k : bt_K} {index : Nat} {v : Int64} {n : Int} (hX : bt_Ow X cc nL own dd) (hd : decode cc pc = .ok (.ldc2_w index, 3)) (hc : Cond.constantLong own index v ∈ bt_tb) (hv : v = bt_j n) (h : bt_Snd X nL cs (pc + 3) k) : bt_Snd X nL cs pc (bt_lc n k) := by
  obtain ⟨p, l, e, R, s, m, args, below, meth, c, A, H0, D, cy, Q, ad⟩ := X
  obtain ⟨hx, hb, hml, hown, hts, hK, hlocks, hA, hrm, hnw⟩ := hX
  intro st L w H locs ls hk hR hS hl
  have h2 := h _ L w H locs ls hk hR hS hl
  simp only [List.map_cons, bt_val] at h2
  subst hv
  exact lv_ldc2 hx hb hown (hts _ hc) hd h2
theorem bw_ild_n {X : bt_X} {cc : ByteArray} {nL : Nat} {own : String} {dd : Room} {cs : Nat × Nat} {pc : Nat} {k : bt_K} {i : Nat} {q : Fin 4} (hX : bt_Ow X cc nL own dd) (hd : decode cc pc = .ok (.iload_n q, 1)) (hi : (q : Nat) = i) (h : bt_Snd X nL cs (pc + 1) k) : bt_Snd X nL cs pc (bt_ild i k) := by
  obtain ⟨p, l, e, R, s, m, args, below, meth, c, A, H0, D, cy, Q, ad⟩ := X
  obtain ⟨hx, hb, hml, hown, hts, hK, hlocks, hA, hrm, hnw⟩ := hX
  intro st L w H locs ls hk hR hS hl
  unfold bt_ild at hk
  split at hk
  · next x hi2 =>
    have h2 := h _ L w H locs ls hk hR hS hl
    simp only [List.map_cons, bt_val] at h2
    exact lv_iload_n hx hb hd hi (hl.2.2 _ _ hi2) h2
  · exact hk.elim
theorem bw_ild {X : bt_X} {cc : ByteArray} {nL : Nat} {own : String} {dd : Room} {cs : Nat × Nat} {pc : Nat} {k : bt_K} {i : Nat} (hX : bt_Ow X cc nL own dd) (hd : decode cc pc = .ok (.iload i, 2)) (h : bt_Snd X nL cs (pc + 2) k) : bt_Snd X nL cs pc (bt_ild i k) := by
  obtain ⟨p, l, e, R, s, m, args, below, meth, c, A, H0, D, cy, Q, ad⟩ := X
  obtain ⟨hx, hb, hml, hown, hts, hK, hlocks, hA, hrm, hnw⟩ := hX
  intro st L w H locs ls hk hR hS hl
  unfold bt_ild at hk
  split at hk
  · next x hi2 =>
    have h2 := h _ L w H locs ls hk hR hS hl
    simp only [List.map_cons, bt_val] at h2
    exact lv_iload hx hb hd (hl.2.2 _ _ hi2) h2
  · exact hk.elim
theorem bw_ald_n {X : bt_X} {cc : ByteArray} {nL : Nat} {own : String} {dd : Room} {cs : Nat × Nat} {pc : Nat} {k : bt_K} {i : Nat} {q : Fin 4} (hX : bt_Ow X cc nL own dd) (hd : decode cc pc = .ok (.aload_n q, 1)) (hi : (q : Nat) = i) (h : bt_Snd X nL cs (pc + 1) k) : bt_Snd X nL cs pc (bt_ald i k) := by
  obtain ⟨p, l, e, R, s, m, args, below, meth, c, A, H0, D, cy, Q, ad⟩ := X
  obtain ⟨hx, hb, hml, hown, hts, hK, hlocks, hA, hrm, hnw⟩ := hX
  intro st L w H locs ls hk hR hS hl
  unfold bt_ald at hk
  split at hk
  · next x hi2 =>
    have h2 := h _ L w H locs ls hk hR hS hl
    simp only [List.map_cons, bt_val] at h2
    exact lv_aload_n hx hb hd hi (hl.2.2 _ _ hi2) h2
  · exact hk.elim
theorem bw_ald {X : bt_X} {cc : ByteArray} {nL : Nat} {own : String} {dd : Room} {cs : Nat × Nat} {pc : Nat} {k : bt_K} {i : Nat} (hX : bt_Ow X cc nL own dd) (hd : decode cc pc = .ok (.aload i, 2)) (h : bt_Snd X nL cs (pc + 2) k) : bt_Snd X nL cs pc (bt_ald i k) := by
  obtain ⟨p, l, e, R, s, m, args, below, meth, c, A, H0, D, cy, Q, ad⟩ := X
  obtain ⟨hx, hb, hml, hown, hts, hK, hlocks, hA, hrm, hnw⟩ := hX
  intro st L w H locs ls hk hR hS hl
  unfold bt_ald at hk
  split at hk
  · next x hi2 =>
    have h2 := h _ L w H locs ls hk hR hS hl
    simp only [List.map_cons, bt_val] at h2
    exact lv_aload hx hb hd (hl.2.2 _ _ hi2) h2
  · exact hk.elim
theorem bw_ist_n {X : bt_X} {cc : ByteArray} {nL : Nat} {own : String} {dd : Room} {cs : Nat × Nat} {pc : Nat} {k : bt_K} {i : Nat} {q : Fin 4} (hX : bt_Ow X cc nL own dd) (hd : decode cc pc = .ok (.istore_n q, 1)) (hi : (q : Nat) = i) (hn : i < nL) (h : bt_Snd X nL cs (pc + 1) k) : bt_Snd X nL cs pc (bt_ist i k) := by
  obtain ⟨p, l, e, R, s, m, args, below, meth, c, A, H0, D, cy, Q, ad⟩ := X
  obtain ⟨hx, hb, hml, hown, hts, hK, hlocks, hA, hrm, hnw⟩ := hX
  intro st L w H locs ls hk hR hS hl
  match st, hk with
  | .inl x :: r, hk =>
    refine lv_istore_n hx hb hd hi hl.has hn rfl (fun ls2 hl2 => ?_)
    exact h _ _ w H locs ls2 hk.2 hR hS (bt_LR.set1 (v := .inl x) hk.1 hl2)
theorem bw_ist {X : bt_X} {cc : ByteArray} {nL : Nat} {own : String} {dd : Room} {cs : Nat × Nat} {pc : Nat} {k : bt_K} {i : Nat} (hX : bt_Ow X cc nL own dd) (hd : decode cc pc = .ok (.istore i, 2)) (hn : i < nL) (h : bt_Snd X nL cs (pc + 2) k) : bt_Snd X nL cs pc (bt_ist i k) := by
  obtain ⟨p, l, e, R, s, m, args, below, meth, c, A, H0, D, cy, Q, ad⟩ := X
  obtain ⟨hx, hb, hml, hown, hts, hK, hlocks, hA, hrm, hnw⟩ := hX
  intro st L w H locs ls hk hR hS hl
  match st, hk with
  | .inl x :: r, hk =>
    refine lv_istore hx hb hd hl.has hn rfl (fun ls2 hl2 => ?_)
    exact h _ _ w H locs ls2 hk.2 hR hS (bt_LR.set1 (v := .inl x) hk.1 hl2)
theorem bw_ast_n {X : bt_X} {cc : ByteArray} {nL : Nat} {own : String} {dd : Room} {cs : Nat × Nat} {pc : Nat} {k : bt_K} {i : Nat} {q : Fin 4} (hX : bt_Ow X cc nL own dd) (hd : decode cc pc = .ok (.astore_n q, 1)) (hi : (q : Nat) = i) (hn : i < nL) (h : bt_Snd X nL cs (pc + 1) k) : bt_Snd X nL cs pc (bt_ast i k) := by
  obtain ⟨p, l, e, R, s, m, args, below, meth, c, A, H0, D, cy, Q, ad⟩ := X
  obtain ⟨hx, hb, hml, hown, hts, hK, hlocks, hA, hrm, hnw⟩ := hX
  intro st L w H locs ls hk hR hS hl
  match st, hk with
  | .inr (.inr x) :: r, hk =>
    refine lv_astore_n hx hb hd hi hl.has hn rfl (fun ls2 hl2 => ?_)
    exact h _ _ w H locs ls2 hk.2 hR hS (bt_LR.set1 (v := .inr (.inr x)) hk.1 hl2)
theorem bw_ast {X : bt_X} {cc : ByteArray} {nL : Nat} {own : String} {dd : Room} {cs : Nat × Nat} {pc : Nat} {k : bt_K} {i : Nat} (hX : bt_Ow X cc nL own dd) (hd : decode cc pc = .ok (.astore i, 2)) (hn : i < nL) (h : bt_Snd X nL cs (pc + 2) k) : bt_Snd X nL cs pc (bt_ast i k) := by
  obtain ⟨p, l, e, R, s, m, args, below, meth, c, A, H0, D, cy, Q, ad⟩ := X
  obtain ⟨hx, hb, hml, hown, hts, hK, hlocks, hA, hrm, hnw⟩ := hX
  intro st L w H locs ls hk hR hS hl
  match st, hk with
  | .inr (.inr x) :: r, hk =>
    refine lv_astore hx hb hd hl.has hn rfl (fun ls2 hl2 => ?_)
    exact h _ _ w H locs ls2 hk.2 hR hS (bt_LR.set1 (v := .inr (.inr x)) hk.1 hl2)
theorem bw_iinc {X : bt_X} {cc : ByteArray} {nL : Nat} {own : String} {dd : Room} {cs : Nat × Nat} {pc : Nat} {k : bt_K} {i : Nat} {n : Int} (hX : bt_Ow X cc nL own dd) (hd : decode cc pc = .ok (.iinc i n, 3)) (hn : i < nL) (h : bt_Snd X nL cs (pc + 3) k) : bt_Snd X nL cs pc (bt_inc i n k) := by
  obtain ⟨p, l, e, R, s, m, args, below, meth, c, A, H0, D, cy, Q, ad⟩ := X
  obtain ⟨hx, hb, hml, hown, hts, hK, hlocks, hA, hrm, hnw⟩ := hX
  intro st L w H locs ls hk hR hS hl
  unfold bt_inc at hk
  split at hk
  · next x hi2 =>
    obtain ⟨kk, hkk⟩ := List.getElem?_of_mem (bt_lv_mem (ad := ad) (q := (i, Value.int (bt_i x))).mpr ⟨_, hi2, rfl⟩)
    refine lv_iinc (v := bt_i (x + n)) hx hb hd hl.has hkk (by simp only [bt_i, Int32.ofInt_add]) hn rfl (fun ls2 hl2 => ?_)
    exact h _ _ w H locs ls2 hk hR hS (bt_LR.set1 (v := .inl (x + n)) (hl.nl hi2) hl2)
  · exact hk.elim
theorem bw_dup {X : bt_X} {cc : ByteArray} {nL : Nat} {own : String} {dd : Room} {cs : Nat × Nat} {pc : Nat} {k : bt_K} (hX : bt_Ow X cc nL own dd) (hd : decode cc pc = .ok (.dup, 1)) (h : bt_Snd X nL cs (pc + 1) k) : bt_Snd X nL cs pc (bt_dup k) := by
  obtain ⟨p, l, e, R, s, m, args, below, meth, c, A, H0, D, cy, Q, ad⟩ := X
  obtain ⟨hx, hb, hml, hown, hts, hK, hlocks, hA, hrm, hnw⟩ := hX
  intro st L w H locs ls hk hR hS hl
  match st, hk with
  | .inl x :: r, hk => exact lv_dup hx hb hd (by rfl) (h _ L w H locs ls hk hR hS hl)
  | .inr (.inr x) :: r, hk => exact lv_dup hx hb hd (by rfl) (h _ L w H locs ls hk hR hS hl)
theorem bw_goto {X : bt_X} {cc : ByteArray} {nL : Nat} {own : String} {dd : Room} {cs : Nat × Nat} {pc : Nat} {k : bt_K} {off : Int} {tgt : Nat} (hX : bt_Ow X cc nL own dd) (hd : decode cc pc = .ok (.goto off, 3)) (ht : (pc : Int) + off = (tgt : Int)) (h : bt_Snd X nL cs tgt k) : bt_Snd X nL cs pc k := by
  obtain ⟨p, l, e, R, s, m, args, below, meth, c, A, H0, D, cy, Q, ad⟩ := X
  obtain ⟨hx, hb, hml, hown, hts, hK, hlocks, hA, hrm, hnw⟩ := hX
  intro st L w H locs ls hk hR hS hl
  exact lv_goto hx hb hd ht (h _ L w H locs ls hk hR hS hl)
theorem bw_icmpeq {X : bt_X} {cc : ByteArray} {nL : Nat} {own : String} {dd : Room} {cs : Nat × Nat} {pc : Nat} {kt kf : bt_K} {off : Int} {tgt : Nat} (hX : bt_Ow X cc nL own dd) (hd : decode cc pc = .ok (.if_icmp .eq off, 3)) (ht : (pc : Int) + off = (tgt : Int)) (h1 : bt_Snd X nL cs tgt kt) (h2 : bt_Snd X nL cs (pc + 3) kf) : bt_Snd X nL cs pc (bt_icmpeq kt kf) := by
  obtain ⟨p, l, e, R, s, m, args, below, meth, c, A, H0, D, cy, Q, ad⟩ := X
  obtain ⟨hx, hb, hml, hown, hts, hK, hlocks, hA, hrm, hnw⟩ := hX
  intro st L w H locs ls hk hR hS hl
  match st, hk with
  | .inl y :: .inl x :: r, hk =>
    refine lv_icmp_eq hx hb hd ht (fun hc => ?_) (fun hc => ?_)
    · exact h1 _ L w H locs ls (by simpa only [bt_icmpeq, if_pos (bt_eq_iff.mp hc)] using hk) hR hS hl
    · exact h2 _ L w H locs ls (by simpa only [bt_icmpeq, if_neg (fun q => hc (bt_eq_iff.mpr q))] using hk) hR hS hl
theorem bw_icmpne {X : bt_X} {cc : ByteArray} {nL : Nat} {own : String} {dd : Room} {cs : Nat × Nat} {pc : Nat} {kt kf : bt_K} {off : Int} {tgt : Nat} (hX : bt_Ow X cc nL own dd) (hd : decode cc pc = .ok (.if_icmp .ne off, 3)) (ht : (pc : Int) + off = (tgt : Int)) (h1 : bt_Snd X nL cs tgt kt) (h2 : bt_Snd X nL cs (pc + 3) kf) : bt_Snd X nL cs pc (bt_icmpne kt kf) := by
  obtain ⟨p, l, e, R, s, m, args, below, meth, c, A, H0, D, cy, Q, ad⟩ := X
  obtain ⟨hx, hb, hml, hown, hts, hK, hlocks, hA, hrm, hnw⟩ := hX
  intro st L w H locs ls hk hR hS hl
  match st, hk with
  | .inl y :: .inl x :: r, hk =>
    refine lv_icmp_ne hx hb hd ht (fun hc => ?_) (fun hc => ?_)
    · exact h1 _ L w H locs ls (by simpa only [bt_icmpne, if_neg (fun q => hc (bt_eq_iff.mpr q))] using hk) hR hS hl
    · exact h2 _ L w H locs ls (by simpa only [bt_icmpne, if_pos (bt_eq_iff.mp hc)] using hk) hR hS hl
theorem bw_icmpge {X : bt_X} {cc : ByteArray} {nL : Nat} {own : String} {dd : Room} {cs : Nat × Nat} {pc : Nat} {kt kf : bt_K} {off : Int} {tgt : Nat} (hX : bt_Ow X cc nL own dd) (hd : decode cc pc = .ok (.if_icmp .ge off, 3)) (ht : (pc : Int) + off = (tgt : Int)) (h1 : bt_Snd X nL cs tgt kt) (h2 : bt_Snd X nL cs (pc + 3) kf) : bt_Snd X nL cs pc (bt_icmpge kt kf) := by
  obtain ⟨p, l, e, R, s, m, args, below, meth, c, A, H0, D, cy, Q, ad⟩ := X
  obtain ⟨hx, hb, hml, hown, hts, hK, hlocks, hA, hrm, hnw⟩ := hX
  intro st L w H locs ls hk hR hS hl
  match st, hk with
  | .inl y :: .inl x :: r, hk =>
    refine lv_icmp_ge hx hb hd ht (fun hc => ?_) (fun hc => ?_)
    · exact h1 _ L w H locs ls (by simpa only [bt_icmpge, if_pos (bt_le_iff.mp hc)] using hk) hR hS hl
    · exact h2 _ L w H locs ls (by simpa only [bt_icmpge, if_neg (fun q => hc (bt_le_iff.mpr q))] using hk) hR hS hl
theorem bw_icmpgt {X : bt_X} {cc : ByteArray} {nL : Nat} {own : String} {dd : Room} {cs : Nat × Nat} {pc : Nat} {kt kf : bt_K} {off : Int} {tgt : Nat} (hX : bt_Ow X cc nL own dd) (hd : decode cc pc = .ok (.if_icmp .gt off, 3)) (ht : (pc : Int) + off = (tgt : Int)) (h1 : bt_Snd X nL cs tgt kt) (h2 : bt_Snd X nL cs (pc + 3) kf) : bt_Snd X nL cs pc (bt_icmpgt kt kf) := by
  obtain ⟨p, l, e, R, s, m, args, below, meth, c, A, H0, D, cy, Q, ad⟩ := X
  obtain ⟨hx, hb, hml, hown, hts, hK, hlocks, hA, hrm, hnw⟩ := hX
  intro st L w H locs ls hk hR hS hl
  match st, hk with
  | .inl y :: .inl x :: r, hk =>
    refine lv_icmp_gt hx hb hd ht (fun hc => ?_) (fun hc => ?_)
    · exact h1 _ L w H locs ls (by simpa only [bt_icmpgt, if_pos (bt_lt_iff.mp hc)] using hk) hR hS hl
    · exact h2 _ L w H locs ls (by simpa only [bt_icmpgt, if_neg (fun q => hc (bt_lt_iff.mpr q))] using hk) hR hS hl
theorem bw_ifeq {X : bt_X} {cc : ByteArray} {nL : Nat} {own : String} {dd : Room} {cs : Nat × Nat} {pc : Nat} {kt kf : bt_K} {off : Int} {tgt : Nat} (hX : bt_Ow X cc nL own dd) (hd : decode cc pc = .ok (.ifCond .eq off, 3)) (ht : (pc : Int) + off = (tgt : Int)) (h1 : bt_Snd X nL cs tgt kt) (h2 : bt_Snd X nL cs (pc + 3) kf) : bt_Snd X nL cs pc (bt_ifeq kt kf) := by
  obtain ⟨p, l, e, R, s, m, args, below, meth, c, A, H0, D, cy, Q, ad⟩ := X
  obtain ⟨hx, hb, hml, hown, hts, hK, hlocks, hA, hrm, hnw⟩ := hX
  intro st L w H locs ls hk hR hS hl
  match st, hk with
  | .inl x :: r, hk =>
    refine lv_if_eq hx hb hd ht (fun hc => ?_) (fun hc => ?_)
    · exact h1 _ L w H locs ls (by simpa only [bt_ifeq, if_pos (bt_eq0.mp hc)] using hk) hR hS hl
    · exact h2 _ L w H locs ls (by simpa only [bt_ifeq, if_neg (fun q => hc (bt_eq0.mpr q))] using hk) hR hS hl
theorem bw_ifne {X : bt_X} {cc : ByteArray} {nL : Nat} {own : String} {dd : Room} {cs : Nat × Nat} {pc : Nat} {kt kf : bt_K} {off : Int} {tgt : Nat} (hX : bt_Ow X cc nL own dd) (hd : decode cc pc = .ok (.ifCond .ne off, 3)) (ht : (pc : Int) + off = (tgt : Int)) (h1 : bt_Snd X nL cs tgt kt) (h2 : bt_Snd X nL cs (pc + 3) kf) : bt_Snd X nL cs pc (bt_ifne kt kf) := by
  obtain ⟨p, l, e, R, s, m, args, below, meth, c, A, H0, D, cy, Q, ad⟩ := X
  obtain ⟨hx, hb, hml, hown, hts, hK, hlocks, hA, hrm, hnw⟩ := hX
  intro st L w H locs ls hk hR hS hl
  match st, hk with
  | .inl x :: r, hk =>
    refine lv_if_ne hx hb hd ht (fun hc => ?_) (fun hc => ?_)
    · exact h1 _ L w H locs ls (by simpa only [bt_ifne, if_neg (fun q => hc (bt_eq0.mpr q))] using hk) hR hS hl
    · exact h2 _ L w H locs ls (by simpa only [bt_ifne, if_pos (bt_eq0.mp hc)] using hk) hR hS hl
theorem bw_iflt {X : bt_X} {cc : ByteArray} {nL : Nat} {own : String} {dd : Room} {cs : Nat × Nat} {pc : Nat} {kt kf : bt_K} {off : Int} {tgt : Nat} (hX : bt_Ow X cc nL own dd) (hd : decode cc pc = .ok (.ifCond .lt off, 3)) (ht : (pc : Int) + off = (tgt : Int)) (h1 : bt_Snd X nL cs tgt kt) (h2 : bt_Snd X nL cs (pc + 3) kf) : bt_Snd X nL cs pc (bt_iflt kt kf) := by
  obtain ⟨p, l, e, R, s, m, args, below, meth, c, A, H0, D, cy, Q, ad⟩ := X
  obtain ⟨hx, hb, hml, hown, hts, hK, hlocks, hA, hrm, hnw⟩ := hX
  intro st L w H locs ls hk hR hS hl
  match st, hk with
  | .inl x :: r, hk =>
    refine lv_if_lt hx hb hd ht (fun hc => ?_) (fun hc => ?_)
    · exact h1 _ L w H locs ls (by simpa only [bt_iflt, if_pos (bt_lt0.mp hc)] using hk) hR hS hl
    · exact h2 _ L w H locs ls (by simpa only [bt_iflt, if_neg (fun q => hc (bt_lt0.mpr q))] using hk) hR hS hl
theorem bw_gfI {X : bt_X} {cc : ByteArray} {nL : Nat} {own : String} {dd : Room} {cs : Nat × Nat} {pc : Nat} {k : bt_K} {c f index : Nat} (hX : bt_Ow X cc nL own dd) (hd : decode cc pc = .ok (.getfield index, 3)) (hF : bt_Fd own index c f) (ht : bt_tc (bt_ty c f) = 0) (h : bt_Snd X nL cs (pc + 3) k) : bt_Snd X nL cs pc (bt_gfI c f k) := by
  obtain ⟨p, l, e, R, s, m, args, below, meth, cd, A, H0, D, cy, Q, ad⟩ := X
  obtain ⟨hx, hb, hml, hown, hts, hK, hlocks, hA, hrm, hnw⟩ := hX
  intro st L w H locs ls hk hR hS hl
  obtain ⟨C, T, N, hC, hf, hsm, hlk⟩ := hF
  match st, hk with
  | .inr (.inr a) :: r, hk =>
    have h2 := h _ L w H locs ls hk.2 hR hS hl
    simp only [List.map_cons, bt_val] at h2 ⊢
    refine va_get hx hb hts hC.2.2.1 hown hK hR.1 a (by rw [bt_ws_at hk.1.1, bt_ent_o hk.1.2 hC.1]) hC.2.1 f hf (hts _ hlk) (fun x hx => by rw [hsm] at hx; exact hx) (bt_fs_at (bt_nf_of hC.2.1) hf) hd ?_
    rw [ht]
    exact h2
theorem bw_gfJ {X : bt_X} {cc : ByteArray} {nL : Nat} {own : String} {dd : Room} {cs : Nat × Nat} {pc : Nat} {k : bt_K} {c f index : Nat} (hX : bt_Ow X cc nL own dd) (hd : decode cc pc = .ok (.getfield index, 3)) (hF : bt_Fd own index c f) (ht : bt_tc (bt_ty c f) = 1) (h : bt_Snd X nL cs (pc + 3) k) : bt_Snd X nL cs pc (bt_gfJ c f k) := by
  obtain ⟨p, l, e, R, s, m, args, below, meth, cd, A, H0, D, cy, Q, ad⟩ := X
  obtain ⟨hx, hb, hml, hown, hts, hK, hlocks, hA, hrm, hnw⟩ := hX
  intro st L w H locs ls hk hR hS hl
  obtain ⟨C, T, N, hC, hf, hsm, hlk⟩ := hF
  match st, hk with
  | .inr (.inr a) :: r, hk =>
    have h2 := h _ L w H locs ls hk.2 hR hS hl
    simp only [List.map_cons, bt_val] at h2 ⊢
    refine va_get hx hb hts hC.2.2.1 hown hK hR.1 a (by rw [bt_ws_at hk.1.1, bt_ent_o hk.1.2 hC.1]) hC.2.1 f hf (hts _ hlk) (fun x hx => by rw [hsm] at hx; exact hx) (bt_fs_at (bt_nf_of hC.2.1) hf) hd ?_
    rw [ht]
    exact h2
theorem bw_gfR {X : bt_X} {cc : ByteArray} {nL : Nat} {own : String} {dd : Room} {cs : Nat × Nat} {pc : Nat} {k : bt_K} {c f index : Nat} (hX : bt_Ow X cc nL own dd) (hd : decode cc pc = .ok (.getfield index, 3)) (hF : bt_Fd own index c f) (ht : bt_tc (bt_ty c f) = 2) (h : bt_Snd X nL cs (pc + 3) k) : bt_Snd X nL cs pc (bt_gfR c f k) := by
  obtain ⟨p, l, e, R, s, m, args, below, meth, cd, A, H0, D, cy, Q, ad⟩ := X
  obtain ⟨hx, hb, hml, hown, hts, hK, hlocks, hA, hrm, hnw⟩ := hX
  intro st L w H locs ls hk hR hS hl
  obtain ⟨C, T, N, hC, hf, hsm, hlk⟩ := hF
  match st, hk with
  | .inr (.inr a) :: r, hk =>
    obtain ⟨h1, hk⟩ := hk
    cases hb2 : w.2.2.1 a f with
    | none => rw [hb2] at hk; exact hk.elim
    | some b =>
      rw [hb2] at hk
      have h2 := h _ L w H locs ls hk hR hS hl
      simp only [List.map_cons, bt_val] at h2 ⊢
      refine va_get hx hb hts hC.2.2.1 hown hK hR.1 a (by rw [bt_ws_at h1.1, bt_ent_o h1.2 hC.1]) hC.2.1 f hf (hts _ hlk) (fun x hx => by rw [hsm] at hx; exact hx) (bt_fs_at (bt_nf_of hC.2.1) hf) hd ?_
      rw [ht]
      simp only [bt_fv, hb2, Option.map_some, va_rf]
      exact h2
theorem bw_pfI {X : bt_X} {cc : ByteArray} {nL : Nat} {own : String} {dd : Room} {cs : Nat × Nat} {pc : Nat} {k : bt_K} {c f index : Nat} (hX : bt_Ow X cc nL own dd) (hd : decode cc pc = .ok (.putfield index, 3)) (hF : bt_Fd own index c f) (ht : bt_ty c f = .int) (hfin : ∀ q, vwCl[c]? = some q → (q.2.1 f).2.2.2 = false) (h : bt_Snd X nL cs (pc + 3) k) : bt_Snd X nL cs pc (bt_pfI c f k) := by
  obtain ⟨p, l, e, R, s, m, args, below, meth, cd, A, H0, D, cy, Q, ad⟩ := X
  obtain ⟨hx, hb, hml, hown, hts, hK, hlocks, hA, hrm, hnw⟩ := hX
  intro st L w H locs ls hk hR hS hl
  obtain ⟨C, T, N, hC, hf, hsm, hlk⟩ := hF
  match st, hk with
  | .inl x :: .inr (.inr a) :: r, hk =>
    simp only [List.map_cons, bt_val]
    refine va_put (ty := .int) hx hb hts hC.2.2.1 (bt_ty c) hC.2.2.2.1 hC.2.2.2.2 hown hK hR.1 hR.2 hS a (by rw [bt_ws_at hk.1.1, bt_ent_o hk.1.2 hC.1]) hC.2.1 f hf (hts _ hlk) (fun x hx => by rw [hsm] at hx; exact hx) (hfin _ hC.2.1) (by rw [hC.2.2.2.1 f hf, ht]) rfl rfl (by simp [bt_nf_of hC.2.1, hf]) hd (fun H1 locs1 hP1 hD1 hS1 => ?_)
    have e : (bt_ws cy ad w).set a (ad a, .inr (c, ((List.range (bt_nf c)).map (fun k => bt_fv ad w a (bt_tc (bt_ty c k)) k)).set f (.int (bt_i x)))) = bt_ws cy ad (bt_sm w a f x) := by
      refine bt_ws_set rfl ?_ (fun i hi => bt_ent_sm hi)
      rw [bt_ent_o (w := bt_sm w a f x) hk.1.2 hC.1, bt_map_set (g := fun k => bt_fv ad (bt_sm w a f x) a (bt_tc (bt_ty c k)) k)]
      · simp [bt_fv, ht, bt_tc, bt_sm, bt_up]
      · intro j hj
        simp [bt_fv, bt_sm, bt_up, hj]
    rw [e] at hP1 hD1
    exact h _ L _ H1 locs1 ls hk.2 ⟨hP1, hD1⟩ hS1 hl
theorem bw_pfZ {X : bt_X} {cc : ByteArray} {nL : Nat} {own : String} {dd : Room} {cs : Nat × Nat} {pc : Nat} {k : bt_K} {c f index : Nat} (hX : bt_Ow X cc nL own dd) (hd : decode cc pc = .ok (.putfield index, 3)) (hF : bt_Fd own index c f) (ht : bt_ty c f = .boolean) (hfin : ∀ q, vwCl[c]? = some q → (q.2.1 f).2.2.2 = false) (h : bt_Snd X nL cs (pc + 3) k) : bt_Snd X nL cs pc (bt_pfZ c f k) := by
  obtain ⟨p, l, e, R, s, m, args, below, meth, cd, A, H0, D, cy, Q, ad⟩ := X
  obtain ⟨hx, hb, hml, hown, hts, hK, hlocks, hA, hrm, hnw⟩ := hX
  intro st L w H locs ls hk hR hS hl
  obtain ⟨C, T, N, hC, hf, hsm, hlk⟩ := hF
  match st, hk with
  | .inl x :: .inr (.inr a) :: r, hk =>
    simp only [List.map_cons, bt_val]
    refine va_put (ty := .boolean) hx hb hts hC.2.2.1 (bt_ty c) hC.2.2.2.1 hC.2.2.2.2 hown hK hR.1 hR.2 hS a (by rw [bt_ws_at hk.1.1, bt_ent_o hk.1.2 hC.1]) hC.2.1 f hf (hts _ hlk) (fun x hx => by rw [hsm] at hx; exact hx) (hfin _ hC.2.1) (by rw [hC.2.2.2.1 f hf, ht]) (by rcases hk.2.1 with h0 | h0 <;> subst h0 <;> decide) (by rcases hk.2.1 with h0 | h0 <;> subst h0 <;> decide) (by simp [bt_nf_of hC.2.1, hf]) hd (fun H1 locs1 hP1 hD1 hS1 => ?_)
    have e : (bt_ws cy ad w).set a (ad a, .inr (c, ((List.range (bt_nf c)).map (fun k => bt_fv ad w a (bt_tc (bt_ty c k)) k)).set f (.int (bt_i x)))) = bt_ws cy ad (bt_sm w a f x) := by
      refine bt_ws_set rfl ?_ (fun i hi => bt_ent_sm hi)
      rw [bt_ent_o (w := bt_sm w a f x) hk.1.2 hC.1, bt_map_set (g := fun k => bt_fv ad (bt_sm w a f x) a (bt_tc (bt_ty c k)) k)]
      · simp [bt_fv, ht, bt_tc, bt_sm, bt_up]
      · intro j hj
        simp [bt_fv, bt_sm, bt_up, hj]
    rw [e] at hP1 hD1
    exact h _ L _ H1 locs1 ls hk.2.2 ⟨hP1, hD1⟩ hS1 hl
theorem bw_pfJ {X : bt_X} {cc : ByteArray} {nL : Nat} {own : String} {dd : Room} {cs : Nat × Nat} {pc : Nat} {k : bt_K} {c f index : Nat} (hX : bt_Ow X cc nL own dd) (hd : decode cc pc = .ok (.putfield index, 3)) (hF : bt_Fd own index c f) (ht : bt_ty c f = .long) (hfin : ∀ q, vwCl[c]? = some q → (q.2.1 f).2.2.2 = false) (h : bt_Snd X nL cs (pc + 3) k) : bt_Snd X nL cs pc (bt_pfJ c f k) := by
  obtain ⟨p, l, e, R, s, m, args, below, meth, cd, A, H0, D, cy, Q, ad⟩ := X
  obtain ⟨hx, hb, hml, hown, hts, hK, hlocks, hA, hrm, hnw⟩ := hX
  intro st L w H locs ls hk hR hS hl
  obtain ⟨C, T, N, hC, hf, hsm, hlk⟩ := hF
  match st, hk with
  | .inr (.inl x) :: .inr (.inr a) :: r, hk =>
    simp only [List.map_cons, bt_val]
    refine va_put (ty := .long) hx hb hts hC.2.2.1 (bt_ty c) hC.2.2.2.1 hC.2.2.2.2 hown hK hR.1 hR.2 hS a (by rw [bt_ws_at hk.1.1, bt_ent_o hk.1.2 hC.1]) hC.2.1 f hf (hts _ hlk) (fun x hx => by rw [hsm] at hx; exact hx) (hfin _ hC.2.1) (by rw [hC.2.2.2.1 f hf, ht]) rfl rfl (by simp [bt_nf_of hC.2.1, hf]) hd (fun H1 locs1 hP1 hD1 hS1 => ?_)
    have e : (bt_ws cy ad w).set a (ad a, .inr (c, ((List.range (bt_nf c)).map (fun k => bt_fv ad w a (bt_tc (bt_ty c k)) k)).set f (.long (bt_j x)))) = bt_ws cy ad (bt_sm w a f x) := by
      refine bt_ws_set rfl ?_ (fun i hi => bt_ent_sm hi)
      rw [bt_ent_o (w := bt_sm w a f x) hk.1.2 hC.1, bt_map_set (g := fun k => bt_fv ad (bt_sm w a f x) a (bt_tc (bt_ty c k)) k)]
      · simp [bt_fv, ht, bt_tc, bt_sm, bt_up]
      · intro j hj
        simp [bt_fv, bt_sm, bt_up, hj]
    rw [e] at hP1 hD1
    exact h _ L _ H1 locs1 ls hk.2 ⟨hP1, hD1⟩ hS1 hl
theorem bw_pfR {X : bt_X} {cc : ByteArray} {nL : Nat} {own : String} {dd : Room} {cs : Nat × Nat} {pc : Nat} {k : bt_K} {c f index : Nat} (hX : bt_Ow X cc nL own dd) (hd : decode cc pc = .ok (.putfield index, 3)) (hF : bt_Fd own index c f) {C0 : String} (ht : bt_ty c f = .object C0) (hfin : ∀ q, vwCl[c]? = some q → (q.2.1 f).2.2.2 = false) (h : bt_Snd X nL cs (pc + 3) k) : bt_Snd X nL cs pc (bt_pfR c f k) := by
  obtain ⟨p, l, e, R, s, m, args, below, meth, cd, A, H0, D, cy, Q, ad⟩ := X
  obtain ⟨hx, hb, hml, hown, hts, hK, hlocks, hA, hrm, hnw⟩ := hX
  intro st L w H locs ls hk hR hS hl
  obtain ⟨C, T, N, hC, hf, hsm, hlk⟩ := hF
  match st, hk with
  | .inr (.inr b) :: .inr (.inr a) :: r, hk =>
    simp only [List.map_cons, bt_val]
    refine va_put (ty := .object C0) hx hb hts hC.2.2.1 (bt_ty c) hC.2.2.2.1 hC.2.2.2.2 hown hK hR.1 hR.2 hS a (by rw [bt_ws_at hk.1.1, bt_ent_o hk.1.2 hC.1]) hC.2.1 f hf (hts _ hlk) (fun x hx => by rw [hsm] at hx; exact hx) (hfin _ hC.2.1) (by rw [hC.2.2.2.1 f hf, ht]) rfl rfl (by simp [bt_nf_of hC.2.1, hf]) hd (fun H1 locs1 hP1 hD1 hS1 => ?_)
    have e : (bt_ws cy ad w).set a (ad a, .inr (c, ((List.range (bt_nf c)).map (fun k => bt_fv ad w a (bt_tc (bt_ty c k)) k)).set f (.ref (ad b)))) = bt_ws cy ad (bt_sr w a f b) := by
      refine bt_ws_set rfl ?_ (fun i hi => bt_ent_sr hi)
      rw [bt_ent_o (w := bt_sr w a f b) hk.1.2 hC.1, bt_map_set (g := fun k => bt_fv ad (bt_sr w a f b) a (bt_tc (bt_ty c k)) k)]
      · simp [bt_fv, ht, bt_tc, bt_sr, bt_ur, va_rf]
      · intro j hj
        simp [bt_fv, bt_sr, bt_ur, hj]
    rw [e] at hP1 hD1
    exact h _ L _ H1 locs1 ls hk.2 ⟨hP1, hD1⟩ hS1 hl
theorem bw_ial {X : bt_X} {cc : ByteArray} {nL : Nat} {own : String} {dd : Room} {cs : Nat × Nat} {pc : Nat} {k : bt_K} (hX : bt_Ow X cc nL own dd) (hd : decode cc pc = .ok (.iaload, 1)) (h : bt_Snd X nL cs (pc + 1) k) : bt_Snd X nL cs pc (bt_ial k) := by
  obtain ⟨p, l, e, R, s, m, args, below, meth, cd, A, H0, D, cy, Q, ad⟩ := X
  obtain ⟨hx, hb, hml, hown, hts, hK, hlocks, hA, hrm, hnw⟩ := hX
  intro st L w H locs ls hk hR hS hl
  match st, hk with
  | .inl i :: .inr (.inr a) :: r, hk =>
    have h2 := h _ L w H locs ls hk.2 hR hS hl
    simp only [List.map_cons, bt_val] at h2 ⊢
    exact va_iald hx hb hK hR.1 a 1 (by rw [bt_ws_at hk.1.1.1, bt_ent_n hk.1.1.2 (by omega)]) rfl (bt_vpin hk.1.2.1 hk.1.2.2) hd h2
theorem bw_lal {X : bt_X} {cc : ByteArray} {nL : Nat} {own : String} {dd : Room} {cs : Nat × Nat} {pc : Nat} {k : bt_K} (hX : bt_Ow X cc nL own dd) (hd : decode cc pc = .ok (.laload, 1)) (h : bt_Snd X nL cs (pc + 1) k) : bt_Snd X nL cs pc (bt_lal k) := by
  obtain ⟨p, l, e, R, s, m, args, below, meth, cd, A, H0, D, cy, Q, ad⟩ := X
  obtain ⟨hx, hb, hml, hown, hts, hK, hlocks, hA, hrm, hnw⟩ := hX
  intro st L w H locs ls hk hR hS hl
  match st, hk with
  | .inl i :: .inr (.inr a) :: r, hk =>
    have h2 := h _ L w H locs ls hk.2 hR hS hl
    simp only [List.map_cons, bt_val] at h2 ⊢
    exact va_lald hx hb hK hR.1 a 2 (by rw [bt_ws_at hk.1.1.1, bt_ent_l hk.1.1.2]) rfl (bt_vpin hk.1.2.1 hk.1.2.2) hd h2
theorem bw_las {X : bt_X} {cc : ByteArray} {nL : Nat} {own : String} {dd : Room} {cs : Nat × Nat} {pc : Nat} {k : bt_K} (hX : bt_Ow X cc nL own dd) (hd : decode cc pc = .ok (.lastore, 1)) (h : bt_Snd X nL cs (pc + 1) k) : bt_Snd X nL cs pc (bt_las k) := by
  obtain ⟨p, l, e, R, s, m, args, below, meth, cd, A, H0, D, cy, Q, ad⟩ := X
  obtain ⟨hx, hb, hml, hown, hts, hK, hlocks, hA, hrm, hnw⟩ := hX
  intro st L w H locs ls hk hR hS hl
  match st, hk with
  | .inr (.inl x) :: .inl i :: .inr (.inr a) :: r, hk =>
    simp only [List.map_cons, bt_val]
    refine va_last hx hb hK hR.1 hR.2 hS a 2 (by rw [bt_ws_at hk.1.1.1, bt_ent_l hk.1.1.2]) rfl (bt_vpin hk.1.2.1 hk.1.2.2) hd (fun H1 locs1 hP1 hD1 hS1 => ?_)
    have e : (bt_ws cy ad w).set a (ad a, .inl (cy 14, (w.2.1 a).2, .inr (.inl (vp_updL (fun j => bt_j (w.2.2.2 a j)) (bt_i i).toNatClampNeg (bt_j x))))) = bt_ws cy ad (bt_sm w a (bt_w i).toNat x) := by
      refine bt_ws_set rfl ?_ (fun i hi => bt_ent_sm hi)
      rw [bt_ent_l (w := bt_sm w a (bt_w i).toNat x) hk.1.1.2]
      have e1 : (bt_i i).toNatClampNeg = (bt_w i).toNat := rfl
      rw [e1]
      congr 4
      congr 1
      funext j
      by_cases hj : j = (bt_w i).toNat
      · simp [vp_updL, bt_sm, bt_up, hj, bo_byte, bo_bool, bt_it]
      · simp [vp_updL, bt_sm, bt_up, hj]
    rw [e] at hP1 hD1
    exact h _ L _ H1 locs1 ls hk.2 ⟨hP1, hD1⟩ hS1 hl
theorem bw_aal {X : bt_X} {cc : ByteArray} {nL : Nat} {own : String} {dd : Room} {cs : Nat × Nat} {pc : Nat} {k : bt_K} {kd : Nat} (hX : bt_Ow X cc nL own dd) (hd : decode cc pc = .ok (.aaload, 1)) (hkd : kd = 16 ∨ kd = 17) (h : bt_Snd X nL cs (pc + 1) k) : bt_Snd X nL cs pc (bt_aal kd k) := by
  obtain ⟨p, l, e, R, s, m, args, below, meth, cd, A, H0, D, cy, Q, ad⟩ := X
  obtain ⟨hx, hb, hml, hown, hts, hK, hlocks, hA, hrm, hnw⟩ := hX
  intro st L w H locs ls hk hR hS hl
  match st, hk with
  | .inl i :: .inr (.inr a) :: r, hk =>
    obtain ⟨h1, hk⟩ := hk
    cases hb2 : w.2.2.1 a (bt_w i).toNat with
    | none => rw [hb2] at hk; exact hk.elim
    | some b =>
      rw [hb2] at hk
      have h2 := h _ L w H locs ls hk hR hS hl
      simp only [List.map_cons, bt_val] at h2 ⊢
      rcases hkd with rfl | rfl
      · refine va_aldq hx hb hK hR.1 a 4 (by rw [bt_ws_at h1.1.1, bt_ent_r h1.1.2 (by omega)]) rfl (bt_vpin h1.2.1 h1.2.2) hd ?_
        show W p l e R s m args below meth cd H locs cs.1 cs.2 Q (F0 m (pc + 1) ls (va_rf ((w.2.2.1 a (bt_w i).toNat).map ad) :: _))
        rw [hb2]
        exact h2
      · refine va_aldq hx hb hK hR.1 a 5 (by rw [bt_ws_at h1.1.1, bt_ent_r h1.1.2 (by omega)]) rfl (bt_vpin h1.2.1 h1.2.2) hd ?_
        show W p l e R s m args below meth cd H locs cs.1 cs.2 Q (F0 m (pc + 1) ls (va_rf ((w.2.2.1 a (bt_w i).toNat).map ad) :: _))
        rw [hb2]
        exact h2
theorem bw_len {X : bt_X} {cc : ByteArray} {nL : Nat} {own : String} {dd : Room} {cs : Nat × Nat} {pc : Nat} {k : bt_K} {kd : Nat} (hX : bt_Ow X cc nL own dd) (hd : decode cc pc = .ok (.arraylength, 1)) (hkd : kd = 13 ∨ kd = 14) (h : bt_Snd X nL cs (pc + 1) k) : bt_Snd X nL cs pc (bt_len kd k) := by
  obtain ⟨p, l, e, R, s, m, args, below, meth, cd, A, H0, D, cy, Q, ad⟩ := X
  obtain ⟨hx, hb, hml, hown, hts, hK, hlocks, hA, hrm, hnw⟩ := hX
  intro st L w H locs ls hk hR hS hl
  match st, hk with
  | .inr (.inr a) :: r, hk =>
    have h2 := h _ L w H locs ls hk.2 hR hS hl
    simp only [List.map_cons, bt_val] at h2 ⊢
    have e : Int32.ofNat (w.2.1 a).2 = bt_i ((w.2.1 a).2 : Int) := by
      apply Int32.toInt_inj.mp
      simp [bt_i]
    rcases hkd with rfl | rfl
    · exact va_alen hx hb hK hR.1 a 1 (by rw [bt_ws_at hk.1.1, bt_ent_n hk.1.2 (by omega)]) rfl e hd h2
    · exact va_alen hx hb hK hR.1 a 2 (by rw [bt_ws_at hk.1.1, bt_ent_l hk.1.2]) rfl e hd h2
theorem bw_iret {X : bt_X} {cc : ByteArray} {nL : Nat} {own : String} {dd : Room} {cs : Nat × Nat} {pc : Nat} {Post : Option bt_V → bt_W → Prop} (hX : bt_Ow X cc nL own dd) (hd : decode cc pc = .ok (.ireturn, 1)) (hq : bt_Rt X cs (some .int) Post) : bt_Snd X nL cs pc (bt_iret Post) := by
  obtain ⟨p, l, e, R, s, m, args, below, meth, cd, A, H0, D, cy, Q, ad⟩ := X
  obtain ⟨hx, hb, hml, hown, hts, hK, hlocks, hA, hrm, hnw⟩ := hX
  intro st L w H locs ls hk hR hS hl
  obtain ⟨Qc, rfl, hr, hq⟩ := hq
  match st, hk with
  | [.inl x], hk => exact W.iret hx hb hr (fun t ht hW => hq _ w H locs t hk hR hS ht hW) hS.2.2 hd
theorem bw_zret {X : bt_X} {cc : ByteArray} {nL : Nat} {own : String} {dd : Room} {cs : Nat × Nat} {pc : Nat} {Post : Option bt_V → bt_W → Prop} (hX : bt_Ow X cc nL own dd) (hd : decode cc pc = .ok (.ireturn, 1)) (hq : bt_Rt X cs (some .boolean) Post) : bt_Snd X nL cs pc (bt_zret Post) := by
  obtain ⟨p, l, e, R, s, m, args, below, meth, cd, A, H0, D, cy, Q, ad⟩ := X
  obtain ⟨hx, hb, hml, hown, hts, hK, hlocks, hA, hrm, hnw⟩ := hX
  intro st L w H locs ls hk hR hS hl
  obtain ⟨Qc, rfl, hr, hq⟩ := hq
  match st, hk with
  | [.inl x], hk => exact W.zret hx hb hr (by rcases hk.1 with h0 | h0 <;> subst h0 <;> decide) (fun t ht hW => hq _ w H locs t hk.2 hR hS ht hW) hS.2.2 hd
theorem bw_vret {X : bt_X} {cc : ByteArray} {nL : Nat} {own : String} {dd : Room} {cs : Nat × Nat} {pc : Nat} {Post : Option bt_V → bt_W → Prop} (hX : bt_Ow X cc nL own dd) (hd : decode cc pc = .ok (.return_, 1)) (hq : bt_Rt X cs none Post) : bt_Snd X nL cs pc (bt_vret Post) := by
  obtain ⟨p, l, e, R, s, m, args, below, meth, cd, A, H0, D, cy, Q, ad⟩ := X
  obtain ⟨hx, hb, hml, hown, hts, hK, hlocks, hA, hrm, hnw⟩ := hX
  intro st L w H locs ls hk hR hS hl
  obtain ⟨Qc, rfl, hr, hq⟩ := hq
  match st, hk with
  | [], hk => exact W.vret hx hb hr (fun t ht hW => hq none w H locs t hk hR hS ht hW) hS.2.2 hd
theorem bw_tab {X : bt_X} {cc : ByteArray} {nL : Nat} {own : String} {dd : Room} {cs : Nat × Nat} {pc : Nat} {ks : List bt_K} {kd : bt_K} {dflt lo hi : Int} {offs : Array Int} {len td : Nat} (hX : bt_Ow X cc nL own dd) (hd : decode cc pc = .ok (.tableswitch dflt lo hi offs, len)) (hhi : lo + ks.length = hi + 1) (ht : (pc : Int) + dflt = (td : Int)) (h1 : bt_Snd X nL cs td kd) (h2 : bt_SwOk X nL cs pc offs.toList ks) : bt_Snd X nL cs pc (bt_tab lo ks kd) := by
  obtain ⟨p, l, e, R, s, m, args, below, meth, cd, A, H0, D, cy, Q, ad⟩ := X
  obtain ⟨hx, hb, hml, hown, hts, hK, hlocks, hA, hrm, hnw⟩ := hX
  intro st L w H locs ls hk hR hS hl
  match st, hk with
  | .inl x :: r, hk =>
    simp only [List.map_cons, bt_val]
    rcases bt_tsw_out ks lo hk with ⟨h3, h4⟩ | ⟨i, k', h3, h4, h5⟩
    · refine lv_tableOut hx hb hd ?_ ht (h1 _ L w H locs ls h4 hR hS hl)
      rcases h3 with h3 | h3
      · exact Or.inl h3
      · right
        show hi < bt_w x
        omega
    · obtain ⟨off, tgt, g1, g2, g3⟩ := bt_SwOk_at _ _ i k' h2 h3
      have hi2 := (List.getElem?_eq_some_iff.mp h3).1
      refine lv_tableIn hx hb hd (show ¬ bt_w x < lo by omega) (show ¬ hi < bt_w x by omega) (off := off) ?_ g2 (g3 _ L w H locs ls h5 hR hS hl)
      show offs[(bt_w x - lo).toNat]? = some off
      rw [show (bt_w x - lo).toNat = i by omega, ← Array.getElem?_toList]
      exact g1
