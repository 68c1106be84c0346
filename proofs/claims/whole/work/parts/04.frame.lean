/-! The picture of the machine's world: n cells; of each its kind and length, its references (places of cells), its numbers (as Int).
Kinds 0 to 11: objects of vwCl; 12 byte[], 13 int[], 14 long[], 15 boolean[], 16 Memory[], 17 State[]. -/
abbrev bt_V : Type := Int ⊕ (Int ⊕ Nat)
abbrev bt_W : Type := Nat × (Nat → Nat × Nat) × (Nat → Nat → Option Nat) × (Nat → Nat → Int)
abbrev bt_K : Type := List bt_V → List (Option bt_V) → bt_W → Prop
def bt_i (x : Int) : Int32 := Int32.ofInt x
def bt_j (x : Int) : Int64 := Int64.ofInt x
def bt_w (x : Int) : Int := (Int32.ofInt x).toInt
def bt_wl (x : Int) : Int := (Int64.ofInt x).toInt
theorem bt_iw (x : Int) : bt_i (bt_w x) = bt_i x := Int32.ofInt_toInt _
theorem bt_jw (x : Int) : bt_j (bt_wl x) = bt_j x := Int64.ofInt_toInt _
theorem bt_it (x : Int32) : bt_i x.toInt = x := by simp [bt_i]
theorem bt_jt (x : Int64) : bt_j x.toInt = x := by simp [bt_j]
def bt_val (ad : Nat → Nat) : bt_V → Value
  | .inl x => .int (bt_i x)
  | .inr (.inl x) => .long (bt_j x)
  | .inr (.inr a) => .ref (ad a)
def bt_tc (ty : FieldType) : Nat := match ty with
  | .long => 1
  | .object _ => 2
  | .array _ => 2
  | _ => 0
def bt_ty (c : Nat) : Nat → FieldType := match c with
  | 0 => tyX0
  | 1 => tyX1
  | 2 => tyX2
  | 3 => tyX3
  | 4 => tyX4
  | 5 => tyX5
  | 6 => tyX6
  | 7 => tyX7
  | 8 => tyX8
  | 9 => tyX9
  | 10 => tyX10
  | _ => tyX11
def bt_nf (c : Nat) : Nat := match vwCl[c]? with
  | some q => q.2.2
  | none => 0
def bt_fv (ad : Nat → Nat) (w : bt_W) (i t k : Nat) : Value := match t with
  | 0 => .int (bt_i (w.2.2.2 i k))
  | 1 => .long (bt_j (w.2.2.2 i k))
  | _ => va_rf ((w.2.2.1 i k).map ad)
def bt_ent (cy : Nat → ClassId) (ad : Nat → Nat) (w : bt_W) (i : Nat) : va_E :=
  if (w.2.1 i).1 < 12 then .inr ((w.2.1 i).1, (List.range (bt_nf (w.2.1 i).1)).map (fun k => bt_fv ad w i (bt_tc (bt_ty (w.2.1 i).1 k)) k))
  else if (w.2.1 i).1 = 14 then .inl (cy 14, (w.2.1 i).2, .inr (.inl (fun j => bt_j (w.2.2.2 i j))))
  else if (w.2.1 i).1 < 16 then .inl (cy (w.2.1 i).1, (w.2.1 i).2, .inl (fun j => bt_i (w.2.2.2 i j)))
  else .inl (cy (w.2.1 i).1, (w.2.1 i).2, .inr (.inr (.inr (.inr (fun j => (w.2.2.1 i j).map ad)))))
def bt_ws (cy : Nat → ClassId) (ad : Nat → Nat) (w : bt_W) : va_W := (List.range w.1).map (fun i => (ad i, bt_ent cy ad w i))
def bt_tys (cy : Nat → ClassId) : List (ClassId × FieldType) := [(cy 12, .byte), (cy 13, .int), (cy 14, .long), (cy 15, .boolean), (cy 16, .object RX2), (cy 17, .object RX6)]
theorem bt_ws_at {cy : Nat → ClassId} {ad : Nat → Nat} {w : bt_W} {i : Nat} (h : i < w.1) : (bt_ws cy ad w)[i]? = some (ad i, bt_ent cy ad w i) := by
  simp [bt_ws, h]
theorem bt_ws_set {cy : Nat → ClassId} {ad : Nat → Nat} {w w' : bt_W} {a : Nat} {E : va_E} (hn : w'.1 = w.1) (h1 : bt_ent cy ad w' a = E) (h2 : ∀ i, i ≠ a → bt_ent cy ad w' i = bt_ent cy ad w i) : (bt_ws cy ad w).set a (ad a, E) = bt_ws cy ad w' := by
  apply List.ext_getElem?
  intro i
  by_cases hi : i < w.1
  · by_cases ha : i = a
    · subst ha
      rw [bt_ws_at (by rw [hn]; exact hi), h1, List.getElem?_set_self (by simp [bt_ws, hi])]
    · rw [List.getElem?_set_ne (fun q => ha q.symm), bt_ws_at hi, bt_ws_at (by rw [hn]; exact hi), h2 i ha]
  · have e1 : ((bt_ws cy ad w).set a (ad a, E))[i]? = none := by
      rw [List.getElem?_eq_none_iff]; simp [bt_ws]; omega
    have e2 : (bt_ws cy ad w')[i]? = none := by
      rw [List.getElem?_eq_none_iff]; simp [bt_ws, hn]; omega
    rw [e1, e2]
def bt_Rel (D : va_G) (cy : Nat → ClassId) (A : Nat → Prop) (ad : Nat → Nat) (w : bt_W) (H : Heap) : Prop :=
  va_P D vwCl (bt_ws cy ad w) H ∧ va_D A (bt_ws cy ad w)
/-! locals -/
def bt_LR (ad : Nat → Nat) (L : List (Option bt_V)) (ls : Array Slot) (nL : Nat) : Prop := ls.size = nL ∧ lv_wf ls ∧ ∀ (i : Nat) (v : bt_V), L[i]? = some (some v) → ls[i]? = some (.val (bt_val ad v))
def bt_lv (ad : Nat → Nat) (L : List (Option bt_V)) : List (Nat × Value) := (List.range L.length).filterMap (fun i => match L[i]? with
  | some (some v) => some (i, bt_val ad v)
  | _ => none)
theorem bt_lv_mem {ad : Nat → Nat} {L : List (Option bt_V)} {q : Nat × Value} : q ∈ bt_lv ad L ↔ ∃ v, L[q.1]? = some (some v) ∧ q.2 = bt_val ad v := by
  unfold bt_lv
  rw [List.mem_filterMap]
  constructor
  · rintro ⟨i, -, h⟩
    split at h
    · next v hv => cases h; exact ⟨v, hv, rfl⟩
    · cases h
  · rintro ⟨v, hv, h2⟩
    refine ⟨q.1, ?_, ?_⟩
    · rw [List.mem_range]
      exact (List.getElem?_eq_some_iff.mp hv).1
    · rw [hv]
      show some (q.1, bt_val ad v) = some q
      rw [← h2]
theorem bt_LR.has {ad : Nat → Nat} {L : List (Option bt_V)} {ls : Array Slot} {nL : Nat} (h : bt_LR ad L ls nL) : lv_has ls nL (bt_lv ad L) := by
  refine ⟨h.1, h.2.1, fun q hq => ?_⟩
  obtain ⟨v, hv, h2⟩ := bt_lv_mem.mp hq
  rw [h2]
  exact h.2.2 _ _ hv
/-- no long stands just ahead of i -/
def bt_nl (L : List (Option bt_V)) (i : Nat) : Prop := match i with
  | 0 => True
  | j + 1 => match L[j]? with
    | some (some (.inr (.inl _))) => False
    | _ => True
theorem bt_cat (ad : Nat → Nat) (v : bt_V) (h : (bt_val ad v).category = 2) : ∃ x, v = .inr (.inl x) := by
  match v, h with
  | .inl x, h => simp [bt_val, Value.category] at h
  | .inr (.inl x), _ => exact ⟨x, rfl⟩
  | .inr (.inr a), h => simp [bt_val, Value.category] at h
theorem bt_LR.set1 {ad : Nat → Nat} {L : List (Option bt_V)} {ls' : Array Slot} {nL i : Nat} {v : bt_V} (hn : bt_nl L i) (h : lv_has ls' nL ((i, bt_val ad v) :: (bt_lv ad L).filter (fun q => !(q.1 == i) && !(q.1 + 1 == i && q.2.category == 2)))) : bt_LR ad (L.set i (some v)) ls' nL := by
  refine ⟨h.1, h.2.1, fun j u hj => ?_⟩
  by_cases e : j = i
  · subst e
    have hl : j < L.length := by
      have := (List.getElem?_eq_some_iff.mp hj).1
      simpa using this
    rw [List.getElem?_set_self hl] at hj
    cases hj
    exact h.2.2 (j, bt_val ad v) List.mem_cons_self
  · rw [List.getElem?_set_ne (fun q => e q.symm)] at hj
    refine h.2.2 (j, bt_val ad u) (List.mem_cons_of_mem _ (List.mem_filter.mpr ⟨bt_lv_mem.mpr ⟨u, hj, rfl⟩, ?_⟩))
    simp only [Bool.and_eq_true, Bool.not_eq_true', beq_eq_false_iff_ne, Bool.and_eq_false_iff, ne_eq]
    refine ⟨e, ?_⟩
    by_cases e2 : j + 1 = i
    · right
      intro hc
      obtain ⟨x, rfl⟩ := bt_cat ad u hc
      subst e2
      simp [bt_nl, hj] at hn
    · exact Or.inl e2
theorem bt_LR.set2 {ad : Nat → Nat} {L : List (Option bt_V)} {ls' : Array Slot} {nL i : Nat} {v : bt_V} (hn : bt_nl L i) (h : lv_has ls' nL ((i, bt_val ad v) :: (bt_lv ad L).filter (fun q => !(q.1 == i) && (!(q.1 == i + 1) && !(q.1 + 1 == i && q.2.category == 2))))) : bt_LR ad ((L.set i (some v)).set (i + 1) none) ls' nL := by
  refine ⟨h.1, h.2.1, fun j u hj => ?_⟩
  by_cases e3 : j = i + 1
  · subst e3
    have hl : i + 1 < (L.set i (some v)).length := by
      have := (List.getElem?_eq_some_iff.mp hj).1
      simpa using this
    rw [List.getElem?_set_self hl] at hj
    cases hj
  rw [List.getElem?_set_ne (fun q => e3 q.symm)] at hj
  by_cases e : j = i
  · subst e
    have hl : j < L.length := by
      have := (List.getElem?_eq_some_iff.mp hj).1
      simpa using this
    rw [List.getElem?_set_self hl] at hj
    cases hj
    exact h.2.2 (j, bt_val ad v) List.mem_cons_self
  · rw [List.getElem?_set_ne (fun q => e q.symm)] at hj
    refine h.2.2 (j, bt_val ad u) (List.mem_cons_of_mem _ (List.mem_filter.mpr ⟨bt_lv_mem.mpr ⟨u, hj, rfl⟩, ?_⟩))
    simp only [Bool.and_eq_true, Bool.not_eq_true', beq_eq_false_iff_ne, Bool.and_eq_false_iff, ne_eq]
    refine ⟨e, e3, ?_⟩
    by_cases e2 : j + 1 = i
    · right
      intro hc
      obtain ⟨x, rfl⟩ := bt_cat ad u hc
      subst e2
      simp [bt_nl, hj] at hn
    · exact Or.inl e2
/-- where an int is held, no long stands just ahead -/
theorem bt_LR.nl {ad : Nat → Nat} {L : List (Option bt_V)} {ls : Array Slot} {nL i : Nat} {u : bt_V} (h : bt_LR ad L ls nL) (hi : L[i]? = some (some u)) : bt_nl L i := by
  cases i with
  | zero => exact trivial
  | succ j =>
    unfold bt_nl
    split
    · next e => cases e
    · next j' e =>
      cases e
      split
      · next x hx =>
        have h1 := h.2.1.1 j _ (h.2.2 _ _ hx) rfl
        rw [h.2.2 _ _ hi] at h1
        cases h1
      · exact trivial
/-! the frame of a walk -/
abbrev bt_X := Program × Launch × Env × Room × State × MethodId × Array Value × List Frame × Method × Code × (Nat → Prop) × Heap × va_G × (Nat → ClassId) × (State → Prop) × (Nat → Nat)
def bt_room (d : Nat) : Room := { frames := d, cells := 0, slots := 0, locals := 64 * d }
def bt_Ok (X : bt_X) (cc : ByteArray) (nL : Nat) (own : String) (dd : Nat) : Prop := match X with
  | (p, _, _, R, s, m, args, _, meth, c, A, H0, D, cy, _, _) => p.tables.exec = Jvm.exec ∧ c.code = cc ∧ c.maxLocals = nL ∧ s.vm.findClass own = some m.cls ∧ (∀ w ∈ bt_tb, w.before args s = true) ∧ va_K D vwCl (bt_tys cy) s ∧ meth.locks = false ∧ (∀ q, H0.size ≤ q → A q) ∧ R = bt_room dd ∧ ∀ w ∈ bt_nw, va_Nw w s
def bt_Snd (X : bt_X) (nL : Nat) (cs : Nat × Nat) (pc : Nat) (k : bt_K) : Prop := match X with
  | (p, l, e, R, s, m, args, below, meth, c, A, H0, D, cy, Q, ad) => ∀ (st : List bt_V) (L : List (Option bt_V)) (w : bt_W) (H : Heap) (locs : List Loc) (ls : Array Slot),
    k st L w → bt_Rel D cy A ad w H → va_S A H0 H locs → bt_LR ad L ls nL → W p l e R s m args below meth c H locs cs.1 cs.2 Q (F0 m pc ls (st.map (bt_val ad)))
/-- the end of a walk: what the method's contract says of the answer and the world -/
def bt_Rt (X : bt_X) (cs : Nat × Nat) (rt : Option FieldType) (Post : Option bt_V → bt_W → Prop) : Prop := match X with
  | (_, _, _, _, s, _, args, below, meth, _, A, H0, D, cy, Q, ad) => ∃ Qc : Array Value → State → Outcome → State → Prop, Q = MQ below Qc args s cs.1 cs.2 A ∧ meth.sig.returnType = rt ∧
    ∀ (r : Option bt_V) (w : bt_W) (H : Heap) (locs : List Loc) (t : State), Post r w → bt_Rel D cy A ad w H → va_S A H0 H locs → t.heap = H → s.WarmedH t.vm → Qc args s (.returned (r.map (bt_val ad))) t
theorem bt_weak {X : bt_X} {nL : Nat} {cs : Nat × Nat} {pc : Nat} {k k' : bt_K} (h : bt_Snd X nL cs pc k) (hk : ∀ st L w, k' st L w → k st L w) : bt_Snd X nL cs pc k' := by
  obtain ⟨p, l, e, R, s, m, args, below, meth, c, A, H0, D, cy, Q, ad⟩ := X
  intro st L w H locs ls h1
  exact h st L w H locs ls (hk _ _ _ h1)
theorem bt_pc {X : bt_X} {nL : Nat} {cs : Nat × Nat} {pc pc' : Nat} {k : bt_K} (e : pc = pc') (h : bt_Snd X nL cs pc' k) : bt_Snd X nL cs pc k := e ▸ h

def bt_iadd (k : bt_K) : bt_K := fun st L w => match st with
  | .inl y :: .inl x :: r => k (.inl (x + y) :: r) L w
  | _ => False
theorem bs_iadd {X : bt_X} {cc : ByteArray} {nL : Nat} {own : String} {dd : Nat} {cs : Nat × Nat} {pc : Nat} {k : bt_K} (hX : bt_Ok X cc nL own dd) (hd : decode cc pc = .ok (.iadd, 1)) (h : bt_Snd X nL cs (pc + 1) k) : bt_Snd X nL cs pc (bt_iadd k) := by
  obtain ⟨p, l, e, R, s, m, args, below, meth, c, A, H0, D, cy, Q, ad⟩ := X
  obtain ⟨hx, hb, hml, hown, hts, hK, hlocks, hA, hrm, hnw⟩ := hX
  intro st L w H locs ls hk hR hS hl
  match st, hk with
  | .inl y :: .inl x :: r, hk =>
    have h2 := h _ L w H locs ls hk hR hS hl
    simp only [List.map_cons, bt_val] at h2 ⊢
    exact lv_iadd hx hb hd (by rw [show bt_i x + bt_i y = bt_i (x + y) from by simp only [bt_i, Int32.ofInt_add]]; exact h2)
def bt_isub (k : bt_K) : bt_K := fun st L w => match st with
  | .inl y :: .inl x :: r => k (.inl (x - y) :: r) L w
  | _ => False
theorem bs_isub {X : bt_X} {cc : ByteArray} {nL : Nat} {own : String} {dd : Nat} {cs : Nat × Nat} {pc : Nat} {k : bt_K} (hX : bt_Ok X cc nL own dd) (hd : decode cc pc = .ok (.isub, 1)) (h : bt_Snd X nL cs (pc + 1) k) : bt_Snd X nL cs pc (bt_isub k) := by
  obtain ⟨p, l, e, R, s, m, args, below, meth, c, A, H0, D, cy, Q, ad⟩ := X
  obtain ⟨hx, hb, hml, hown, hts, hK, hlocks, hA, hrm, hnw⟩ := hX
  intro st L w H locs ls hk hR hS hl
  match st, hk with
  | .inl y :: .inl x :: r, hk =>
    have h2 := h _ L w H locs ls hk hR hS hl
    simp only [List.map_cons, bt_val] at h2 ⊢
    exact lv_isub hx hb hd (by rw [show bt_i x - bt_i y = bt_i (x - y) from by simp only [bt_i, Int32.ofInt_sub]]; exact h2)
def bt_imul (k : bt_K) : bt_K := fun st L w => match st with
  | .inl y :: .inl x :: r => k (.inl (x * y) :: r) L w
  | _ => False
theorem bs_imul {X : bt_X} {cc : ByteArray} {nL : Nat} {own : String} {dd : Nat} {cs : Nat × Nat} {pc : Nat} {k : bt_K} (hX : bt_Ok X cc nL own dd) (hd : decode cc pc = .ok (.imul, 1)) (h : bt_Snd X nL cs (pc + 1) k) : bt_Snd X nL cs pc (bt_imul k) := by
  obtain ⟨p, l, e, R, s, m, args, below, meth, c, A, H0, D, cy, Q, ad⟩ := X
  obtain ⟨hx, hb, hml, hown, hts, hK, hlocks, hA, hrm, hnw⟩ := hX
  intro st L w H locs ls hk hR hS hl
  match st, hk with
  | .inl y :: .inl x :: r, hk =>
    have h2 := h _ L w H locs ls hk hR hS hl
    simp only [List.map_cons, bt_val] at h2 ⊢
    exact lv_imul hx hb hd (by rw [show bt_i x * bt_i y = bt_i (x * y) from by simp only [bt_i, Int32.ofInt_mul]]; exact h2)
def bt_ladd (k : bt_K) : bt_K := fun st L w => match st with
  | .inr (.inl y) :: .inr (.inl x) :: r => k (.inr (.inl (x + y)) :: r) L w
  | _ => False
theorem bs_ladd {X : bt_X} {cc : ByteArray} {nL : Nat} {own : String} {dd : Nat} {cs : Nat × Nat} {pc : Nat} {k : bt_K} (hX : bt_Ok X cc nL own dd) (hd : decode cc pc = .ok (.ladd, 1)) (h : bt_Snd X nL cs (pc + 1) k) : bt_Snd X nL cs pc (bt_ladd k) := by
  obtain ⟨p, l, e, R, s, m, args, below, meth, c, A, H0, D, cy, Q, ad⟩ := X
  obtain ⟨hx, hb, hml, hown, hts, hK, hlocks, hA, hrm, hnw⟩ := hX
  intro st L w H locs ls hk hR hS hl
  match st, hk with
  | .inr (.inl y) :: .inr (.inl x) :: r, hk =>
    have h2 := h _ L w H locs ls hk hR hS hl
    simp only [List.map_cons, bt_val] at h2 ⊢
    exact lv_ladd hx hb hd (by rw [show bt_j x + bt_j y = bt_j (x + y) from by simp only [bt_j, Int64.ofInt_add]]; exact h2)
def bt_lsub (k : bt_K) : bt_K := fun st L w => match st with
  | .inr (.inl y) :: .inr (.inl x) :: r => k (.inr (.inl (x - y)) :: r) L w
  | _ => False
theorem bs_lsub {X : bt_X} {cc : ByteArray} {nL : Nat} {own : String} {dd : Nat} {cs : Nat × Nat} {pc : Nat} {k : bt_K} (hX : bt_Ok X cc nL own dd) (hd : decode cc pc = .ok (.lsub, 1)) (h : bt_Snd X nL cs (pc + 1) k) : bt_Snd X nL cs pc (bt_lsub k) := by
  obtain ⟨p, l, e, R, s, m, args, below, meth, c, A, H0, D, cy, Q, ad⟩ := X
  obtain ⟨hx, hb, hml, hown, hts, hK, hlocks, hA, hrm, hnw⟩ := hX
  intro st L w H locs ls hk hR hS hl
  match st, hk with
  | .inr (.inl y) :: .inr (.inl x) :: r, hk =>
    have h2 := h _ L w H locs ls hk hR hS hl
    simp only [List.map_cons, bt_val] at h2 ⊢
    exact lv_lsub hx hb hd (by rw [show bt_j x - bt_j y = bt_j (x - y) from by simp only [bt_j, Int64.ofInt_sub]]; exact h2)
def bt_lmul (k : bt_K) : bt_K := fun st L w => match st with
  | .inr (.inl y) :: .inr (.inl x) :: r => k (.inr (.inl (x * y)) :: r) L w
  | _ => False
theorem bs_lmul {X : bt_X} {cc : ByteArray} {nL : Nat} {own : String} {dd : Nat} {cs : Nat × Nat} {pc : Nat} {k : bt_K} (hX : bt_Ok X cc nL own dd) (hd : decode cc pc = .ok (.lmul, 1)) (h : bt_Snd X nL cs (pc + 1) k) : bt_Snd X nL cs pc (bt_lmul k) := by
  obtain ⟨p, l, e, R, s, m, args, below, meth, c, A, H0, D, cy, Q, ad⟩ := X
  obtain ⟨hx, hb, hml, hown, hts, hK, hlocks, hA, hrm, hnw⟩ := hX
  intro st L w H locs ls hk hR hS hl
  match st, hk with
  | .inr (.inl y) :: .inr (.inl x) :: r, hk =>
    have h2 := h _ L w H locs ls hk hR hS hl
    simp only [List.map_cons, bt_val] at h2 ⊢
    exact lv_lmul hx hb hd (by rw [show bt_j x * bt_j y = bt_j (x * y) from by simp only [bt_j, Int64.ofInt_mul]]; exact h2)
def bo_iand (x y : Int) : Int := (bt_i x &&& bt_i y).toInt
def bt_iand (k : bt_K) : bt_K := fun st L w => match st with
  | .inl y :: .inl x :: r => k (.inl (bo_iand x y) :: r) L w
  | _ => False
theorem bs_iand {X : bt_X} {cc : ByteArray} {nL : Nat} {own : String} {dd : Nat} {cs : Nat × Nat} {pc : Nat} {k : bt_K} (hX : bt_Ok X cc nL own dd) (hd : decode cc pc = .ok (.iand, 1)) (h : bt_Snd X nL cs (pc + 1) k) : bt_Snd X nL cs pc (bt_iand k) := by
  obtain ⟨p, l, e, R, s, m, args, below, meth, c, A, H0, D, cy, Q, ad⟩ := X
  obtain ⟨hx, hb, hml, hown, hts, hK, hlocks, hA, hrm, hnw⟩ := hX
  intro st L w H locs ls hk hR hS hl
  match st, hk with
  | .inl y :: .inl x :: r, hk =>
    have h2 := h _ L w H locs ls hk hR hS hl
    simp only [List.map_cons, bt_val] at h2 ⊢
    exact lv_iand hx hb hd (by rw [show bt_i x &&& bt_i y = bt_i (bo_iand x y) from (bt_it _).symm]; exact h2)
def bo_ior (x y : Int) : Int := (bt_i x ||| bt_i y).toInt
def bt_ior (k : bt_K) : bt_K := fun st L w => match st with
  | .inl y :: .inl x :: r => k (.inl (bo_ior x y) :: r) L w
  | _ => False
theorem bs_ior {X : bt_X} {cc : ByteArray} {nL : Nat} {own : String} {dd : Nat} {cs : Nat × Nat} {pc : Nat} {k : bt_K} (hX : bt_Ok X cc nL own dd) (hd : decode cc pc = .ok (.ior, 1)) (h : bt_Snd X nL cs (pc + 1) k) : bt_Snd X nL cs pc (bt_ior k) := by
  obtain ⟨p, l, e, R, s, m, args, below, meth, c, A, H0, D, cy, Q, ad⟩ := X
  obtain ⟨hx, hb, hml, hown, hts, hK, hlocks, hA, hrm, hnw⟩ := hX
  intro st L w H locs ls hk hR hS hl
  match st, hk with
  | .inl y :: .inl x :: r, hk =>
    have h2 := h _ L w H locs ls hk hR hS hl
    simp only [List.map_cons, bt_val] at h2 ⊢
    exact lv_ior hx hb hd (by rw [show bt_i x ||| bt_i y = bt_i (bo_ior x y) from (bt_it _).symm]; exact h2)
def bo_ixor (x y : Int) : Int := (bt_i x ^^^ bt_i y).toInt
def bt_ixor (k : bt_K) : bt_K := fun st L w => match st with
  | .inl y :: .inl x :: r => k (.inl (bo_ixor x y) :: r) L w
  | _ => False
theorem bs_ixor {X : bt_X} {cc : ByteArray} {nL : Nat} {own : String} {dd : Nat} {cs : Nat × Nat} {pc : Nat} {k : bt_K} (hX : bt_Ok X cc nL own dd) (hd : decode cc pc = .ok (.ixor, 1)) (h : bt_Snd X nL cs (pc + 1) k) : bt_Snd X nL cs pc (bt_ixor k) := by
  obtain ⟨p, l, e, R, s, m, args, below, meth, c, A, H0, D, cy, Q, ad⟩ := X
  obtain ⟨hx, hb, hml, hown, hts, hK, hlocks, hA, hrm, hnw⟩ := hX
  intro st L w H locs ls hk hR hS hl
  match st, hk with
  | .inl y :: .inl x :: r, hk =>
    have h2 := h _ L w H locs ls hk hR hS hl
    simp only [List.map_cons, bt_val] at h2 ⊢
    exact lv_ixor hx hb hd (by rw [show bt_i x ^^^ bt_i y = bt_i (bo_ixor x y) from (bt_it _).symm]; exact h2)
def bo_ishl (x y : Int) : Int := (bt_i x <<< (bt_i y &&& 31)).toInt
def bt_ishl (k : bt_K) : bt_K := fun st L w => match st with
  | .inl y :: .inl x :: r => k (.inl (bo_ishl x y) :: r) L w
  | _ => False
theorem bs_ishl {X : bt_X} {cc : ByteArray} {nL : Nat} {own : String} {dd : Nat} {cs : Nat × Nat} {pc : Nat} {k : bt_K} (hX : bt_Ok X cc nL own dd) (hd : decode cc pc = .ok (.ishl, 1)) (h : bt_Snd X nL cs (pc + 1) k) : bt_Snd X nL cs pc (bt_ishl k) := by
  obtain ⟨p, l, e, R, s, m, args, below, meth, c, A, H0, D, cy, Q, ad⟩ := X
  obtain ⟨hx, hb, hml, hown, hts, hK, hlocks, hA, hrm, hnw⟩ := hX
  intro st L w H locs ls hk hR hS hl
  match st, hk with
  | .inl y :: .inl x :: r, hk =>
    have h2 := h _ L w H locs ls hk hR hS hl
    simp only [List.map_cons, bt_val] at h2 ⊢
    exact lv_ishl hx hb hd (by rw [show bt_i x <<< (bt_i y &&& 31) = bt_i (bo_ishl x y) from (bt_it _).symm]; exact h2)
def bo_ishr (x y : Int) : Int := (bt_i x >>> (bt_i y &&& 31)).toInt
def bt_ishr (k : bt_K) : bt_K := fun st L w => match st with
  | .inl y :: .inl x :: r => k (.inl (bo_ishr x y) :: r) L w
  | _ => False
theorem bs_ishr {X : bt_X} {cc : ByteArray} {nL : Nat} {own : String} {dd : Nat} {cs : Nat × Nat} {pc : Nat} {k : bt_K} (hX : bt_Ok X cc nL own dd) (hd : decode cc pc = .ok (.ishr, 1)) (h : bt_Snd X nL cs (pc + 1) k) : bt_Snd X nL cs pc (bt_ishr k) := by
  obtain ⟨p, l, e, R, s, m, args, below, meth, c, A, H0, D, cy, Q, ad⟩ := X
  obtain ⟨hx, hb, hml, hown, hts, hK, hlocks, hA, hrm, hnw⟩ := hX
  intro st L w H locs ls hk hR hS hl
  match st, hk with
  | .inl y :: .inl x :: r, hk =>
    have h2 := h _ L w H locs ls hk hR hS hl
    simp only [List.map_cons, bt_val] at h2 ⊢
    exact lv_ishr hx hb hd (by rw [show bt_i x >>> (bt_i y &&& 31) = bt_i (bo_ishr x y) from (bt_it _).symm]; exact h2)
def bo_iushr (x y : Int) : Int := ((bt_i x).toUInt32 >>> ((bt_i y).toUInt32 &&& Int32.toUInt32 31)).toInt32.toInt
def bt_iushr (k : bt_K) : bt_K := fun st L w => match st with
  | .inl y :: .inl x :: r => k (.inl (bo_iushr x y) :: r) L w
  | _ => False
theorem bs_iushr {X : bt_X} {cc : ByteArray} {nL : Nat} {own : String} {dd : Nat} {cs : Nat × Nat} {pc : Nat} {k : bt_K} (hX : bt_Ok X cc nL own dd) (hd : decode cc pc = .ok (.iushr, 1)) (h : bt_Snd X nL cs (pc + 1) k) : bt_Snd X nL cs pc (bt_iushr k) := by
  obtain ⟨p, l, e, R, s, m, args, below, meth, c, A, H0, D, cy, Q, ad⟩ := X
  obtain ⟨hx, hb, hml, hown, hts, hK, hlocks, hA, hrm, hnw⟩ := hX
  intro st L w H locs ls hk hR hS hl
  match st, hk with
  | .inl y :: .inl x :: r, hk =>
    have h2 := h _ L w H locs ls hk hR hS hl
    simp only [List.map_cons, bt_val] at h2 ⊢
    exact lv_iushr hx hb hd (bt_it _).symm h2
def bo_land (x y : Int) : Int := (bt_j x &&& bt_j y).toInt
def bt_land (k : bt_K) : bt_K := fun st L w => match st with
  | .inr (.inl y) :: .inr (.inl x) :: r => k (.inr (.inl (bo_land x y)) :: r) L w
  | _ => False
theorem bs_land {X : bt_X} {cc : ByteArray} {nL : Nat} {own : String} {dd : Nat} {cs : Nat × Nat} {pc : Nat} {k : bt_K} (hX : bt_Ok X cc nL own dd) (hd : decode cc pc = .ok (.land, 1)) (h : bt_Snd X nL cs (pc + 1) k) : bt_Snd X nL cs pc (bt_land k) := by
  obtain ⟨p, l, e, R, s, m, args, below, meth, c, A, H0, D, cy, Q, ad⟩ := X
  obtain ⟨hx, hb, hml, hown, hts, hK, hlocks, hA, hrm, hnw⟩ := hX
  intro st L w H locs ls hk hR hS hl
  match st, hk with
  | .inr (.inl y) :: .inr (.inl x) :: r, hk =>
    have h2 := h _ L w H locs ls hk hR hS hl
    simp only [List.map_cons, bt_val] at h2 ⊢
    exact lv_land hx hb hd (by rw [show bt_j x &&& bt_j y = bt_j (bo_land x y) from (bt_jt _).symm]; exact h2)
def bo_lor (x y : Int) : Int := (bt_j x ||| bt_j y).toInt
def bt_lor (k : bt_K) : bt_K := fun st L w => match st with
  | .inr (.inl y) :: .inr (.inl x) :: r => k (.inr (.inl (bo_lor x y)) :: r) L w
  | _ => False
theorem bs_lor {X : bt_X} {cc : ByteArray} {nL : Nat} {own : String} {dd : Nat} {cs : Nat × Nat} {pc : Nat} {k : bt_K} (hX : bt_Ok X cc nL own dd) (hd : decode cc pc = .ok (.lor, 1)) (h : bt_Snd X nL cs (pc + 1) k) : bt_Snd X nL cs pc (bt_lor k) := by
  obtain ⟨p, l, e, R, s, m, args, below, meth, c, A, H0, D, cy, Q, ad⟩ := X
  obtain ⟨hx, hb, hml, hown, hts, hK, hlocks, hA, hrm, hnw⟩ := hX
  intro st L w H locs ls hk hR hS hl
  match st, hk with
  | .inr (.inl y) :: .inr (.inl x) :: r, hk =>
    have h2 := h _ L w H locs ls hk hR hS hl
    simp only [List.map_cons, bt_val] at h2 ⊢
    exact lv_lor hx hb hd (by rw [show bt_j x ||| bt_j y = bt_j (bo_lor x y) from (bt_jt _).symm]; exact h2)
def bo_lushr (x y : Int) : Int := ((bt_j x).toUInt64 >>> ((bt_i y).toInt64.toUInt64 &&& Int64.toUInt64 63)).toInt64.toInt
def bt_lushr (k : bt_K) : bt_K := fun st L w => match st with
  | .inl y :: .inr (.inl x) :: r => k (.inr (.inl (bo_lushr x y)) :: r) L w
  | _ => False
theorem bs_lushr {X : bt_X} {cc : ByteArray} {nL : Nat} {own : String} {dd : Nat} {cs : Nat × Nat} {pc : Nat} {k : bt_K} (hX : bt_Ok X cc nL own dd) (hd : decode cc pc = .ok (.lushr, 1)) (h : bt_Snd X nL cs (pc + 1) k) : bt_Snd X nL cs pc (bt_lushr k) := by
  obtain ⟨p, l, e, R, s, m, args, below, meth, c, A, H0, D, cy, Q, ad⟩ := X
  obtain ⟨hx, hb, hml, hown, hts, hK, hlocks, hA, hrm, hnw⟩ := hX
  intro st L w H locs ls hk hR hS hl
  match st, hk with
  | .inl y :: .inr (.inl x) :: r, hk =>
    have h2 := h _ L w H locs ls hk hR hS hl
    simp only [List.map_cons, bt_val] at h2 ⊢
    exact lv_lushr hx hb hd (bt_jt _).symm h2
def bo_lshl (x y : Int) : Int := (bt_j x <<< ((bt_i y).toInt64 &&& 63)).toInt
def bt_lshl (k : bt_K) : bt_K := fun st L w => match st with
  | .inl y :: .inr (.inl x) :: r => k (.inr (.inl (bo_lshl x y)) :: r) L w
  | _ => False
theorem bs_lshl {X : bt_X} {cc : ByteArray} {nL : Nat} {own : String} {dd : Nat} {cs : Nat × Nat} {pc : Nat} {k : bt_K} (hX : bt_Ok X cc nL own dd) (hd : decode cc pc = .ok (.lshl, 1)) (h : bt_Snd X nL cs (pc + 1) k) : bt_Snd X nL cs pc (bt_lshl k) := by
  obtain ⟨p, l, e, R, s, m, args, below, meth, c, A, H0, D, cy, Q, ad⟩ := X
  obtain ⟨hx, hb, hml, hown, hts, hK, hlocks, hA, hrm, hnw⟩ := hX
  intro st L w H locs ls hk hR hS hl
  match st, hk with
  | .inl y :: .inr (.inl x) :: r, hk =>
    have h2 := h _ L w H locs ls hk hR hS hl
    simp only [List.map_cons, bt_val] at h2 ⊢
    exact lv_lshl hx hb hd (bt_jt _).symm h2
theorem bt_i0 {y : Int} (h : bt_w y ≠ 0) : ¬ bt_i y = 0 := fun e => h (by unfold bt_w; rw [show Int32.ofInt y = 0 from e]; rfl)
theorem bt_j0 {y : Int} (h : bt_wl y ≠ 0) : ¬ bt_j y = 0 := fun e => h (by unfold bt_wl; rw [show Int64.ofInt y = 0 from e]; rfl)
def bo_idiv (x y : Int) : Int := (bt_i x / bt_i y).toInt
def bo_irem (x y : Int) : Int := (bt_i x - bt_i x / bt_i y * bt_i y).toInt
def bo_ldiv (x y : Int) : Int := (bt_j x / bt_j y).toInt
def bo_lrem (x y : Int) : Int := (bt_j x - bt_j x / bt_j y * bt_j y).toInt
def bt_idiv (k : bt_K) : bt_K := fun st L w => match st with
  | .inl y :: .inl x :: r => bt_w y ≠ 0 ∧ k (.inl (bo_idiv x y) :: r) L w
  | _ => False
theorem bs_idiv {X : bt_X} {cc : ByteArray} {nL : Nat} {own : String} {dd : Nat} {cs : Nat × Nat} {pc : Nat} {k : bt_K} (hX : bt_Ok X cc nL own dd) (hd : decode cc pc = .ok (.idiv, 1)) (h : bt_Snd X nL cs (pc + 1) k) : bt_Snd X nL cs pc (bt_idiv k) := by
  obtain ⟨p, l, e, R, s, m, args, below, meth, c, A, H0, D, cy, Q, ad⟩ := X
  obtain ⟨hx, hb, hml, hown, hts, hK, hlocks, hA, hrm, hnw⟩ := hX
  intro st L w H locs ls hk hR hS hl
  match st, hk with
  | .inl y :: .inl x :: r, hk =>
    have h2 := h _ L w H locs ls hk.2 hR hS hl
    simp only [List.map_cons, bt_val] at h2 ⊢
    exact lv_idiv hx hb hd (bt_i0 hk.1) (by rw [show bt_i x / bt_i y = bt_i (bo_idiv x y) from (bt_it _).symm]; exact h2)
def bt_irem (k : bt_K) : bt_K := fun st L w => match st with
  | .inl y :: .inl x :: r => bt_w y ≠ 0 ∧ k (.inl (bo_irem x y) :: r) L w
  | _ => False
theorem bs_irem {X : bt_X} {cc : ByteArray} {nL : Nat} {own : String} {dd : Nat} {cs : Nat × Nat} {pc : Nat} {k : bt_K} (hX : bt_Ok X cc nL own dd) (hd : decode cc pc = .ok (.irem, 1)) (h : bt_Snd X nL cs (pc + 1) k) : bt_Snd X nL cs pc (bt_irem k) := by
  obtain ⟨p, l, e, R, s, m, args, below, meth, c, A, H0, D, cy, Q, ad⟩ := X
  obtain ⟨hx, hb, hml, hown, hts, hK, hlocks, hA, hrm, hnw⟩ := hX
  intro st L w H locs ls hk hR hS hl
  match st, hk with
  | .inl y :: .inl x :: r, hk =>
    have h2 := h _ L w H locs ls hk.2 hR hS hl
    simp only [List.map_cons, bt_val] at h2 ⊢
    exact lv_irem hx hb hd (bt_i0 hk.1) (by rw [show bt_i x - bt_i x / bt_i y * bt_i y = bt_i (bo_irem x y) from (bt_it _).symm]; exact h2)
def bt_ldiv (k : bt_K) : bt_K := fun st L w => match st with
  | .inr (.inl y) :: .inr (.inl x) :: r => bt_wl y ≠ 0 ∧ k (.inr (.inl (bo_ldiv x y)) :: r) L w
  | _ => False
theorem bs_ldiv {X : bt_X} {cc : ByteArray} {nL : Nat} {own : String} {dd : Nat} {cs : Nat × Nat} {pc : Nat} {k : bt_K} (hX : bt_Ok X cc nL own dd) (hd : decode cc pc = .ok (.ldiv, 1)) (h : bt_Snd X nL cs (pc + 1) k) : bt_Snd X nL cs pc (bt_ldiv k) := by
  obtain ⟨p, l, e, R, s, m, args, below, meth, c, A, H0, D, cy, Q, ad⟩ := X
  obtain ⟨hx, hb, hml, hown, hts, hK, hlocks, hA, hrm, hnw⟩ := hX
  intro st L w H locs ls hk hR hS hl
  match st, hk with
  | .inr (.inl y) :: .inr (.inl x) :: r, hk =>
    have h2 := h _ L w H locs ls hk.2 hR hS hl
    simp only [List.map_cons, bt_val] at h2 ⊢
    exact lv_ldiv hx hb hd (bt_j0 hk.1) (by rw [show bt_j x / bt_j y = bt_j (bo_ldiv x y) from (bt_jt _).symm]; exact h2)
def bt_lrem (k : bt_K) : bt_K := fun st L w => match st with
  | .inr (.inl y) :: .inr (.inl x) :: r => bt_wl y ≠ 0 ∧ k (.inr (.inl (bo_lrem x y)) :: r) L w
  | _ => False
theorem bs_lrem {X : bt_X} {cc : ByteArray} {nL : Nat} {own : String} {dd : Nat} {cs : Nat × Nat} {pc : Nat} {k : bt_K} (hX : bt_Ok X cc nL own dd) (hd : decode cc pc = .ok (.lrem, 1)) (h : bt_Snd X nL cs (pc + 1) k) : bt_Snd X nL cs pc (bt_lrem k) := by
  obtain ⟨p, l, e, R, s, m, args, below, meth, c, A, H0, D, cy, Q, ad⟩ := X
  obtain ⟨hx, hb, hml, hown, hts, hK, hlocks, hA, hrm, hnw⟩ := hX
  intro st L w H locs ls hk hR hS hl
  match st, hk with
  | .inr (.inl y) :: .inr (.inl x) :: r, hk =>
    have h2 := h _ L w H locs ls hk.2 hR hS hl
    simp only [List.map_cons, bt_val] at h2 ⊢
    exact lv_lrem hx hb hd (bt_j0 hk.1) (by rw [show bt_j x - bt_j x / bt_j y * bt_j y = bt_j (bo_lrem x y) from (bt_jt _).symm]; exact h2)
def bo_lcmp (x y : Int) : Int := (lg_cmp (bt_j x) (bt_j y)).toInt
def bt_lcmp (k : bt_K) : bt_K := fun st L w => match st with
  | .inr (.inl y) :: .inr (.inl x) :: r => k (.inl (bo_lcmp x y) :: r) L w
  | _ => False
theorem bs_lcmp {X : bt_X} {cc : ByteArray} {nL : Nat} {own : String} {dd : Nat} {cs : Nat × Nat} {pc : Nat} {k : bt_K} (hX : bt_Ok X cc nL own dd) (hd : decode cc pc = .ok (.lcmp, 1)) (h : bt_Snd X nL cs (pc + 1) k) : bt_Snd X nL cs pc (bt_lcmp k) := by
  obtain ⟨p, l, e, R, s, m, args, below, meth, c, A, H0, D, cy, Q, ad⟩ := X
  obtain ⟨hx, hb, hml, hown, hts, hK, hlocks, hA, hrm, hnw⟩ := hX
  intro st L w H locs ls hk hR hS hl
  match st, hk with
  | .inr (.inl y) :: .inr (.inl x) :: r, hk =>
    have h2 := h _ L w H locs ls hk hR hS hl
    simp only [List.map_cons, bt_val] at h2 ⊢
    exact W.lcmp hx hb hd (by rw [show lg_cmp (bt_j x) (bt_j y) = bt_i (bo_lcmp x y) from (bt_it _).symm]; exact h2)
def bo_i2l (x : Int) : Int := (bt_i x).toInt64.toInt
def bo_l2i (x : Int) : Int := (bt_j x).toInt32.toInt
def bo_i2b (x : Int) : Int := (bt_i x).toInt8.toInt32.toInt
def bt_i2l (k : bt_K) : bt_K := fun st L w => match st with
  | .inl x :: r => k (.inr (.inl (bo_i2l x)) :: r) L w
  | _ => False
theorem bs_i2l {X : bt_X} {cc : ByteArray} {nL : Nat} {own : String} {dd : Nat} {cs : Nat × Nat} {pc : Nat} {k : bt_K} (hX : bt_Ok X cc nL own dd) (hd : decode cc pc = .ok (.i2l, 1)) (h : bt_Snd X nL cs (pc + 1) k) : bt_Snd X nL cs pc (bt_i2l k) := by
  obtain ⟨p, l, e, R, s, m, args, below, meth, c, A, H0, D, cy, Q, ad⟩ := X
  obtain ⟨hx, hb, hml, hown, hts, hK, hlocks, hA, hrm, hnw⟩ := hX
  intro st L w H locs ls hk hR hS hl
  match st, hk with
  | .inl x :: r, hk =>
    have h2 := h _ L w H locs ls hk hR hS hl
    simp only [List.map_cons, bt_val] at h2 ⊢
    exact lv_i2l hx hb hd (bt_jt _).symm h2
def bt_l2i (k : bt_K) : bt_K := fun st L w => match st with
  | .inr (.inl x) :: r => k (.inl (bo_l2i x) :: r) L w
  | _ => False
theorem bs_l2i {X : bt_X} {cc : ByteArray} {nL : Nat} {own : String} {dd : Nat} {cs : Nat × Nat} {pc : Nat} {k : bt_K} (hX : bt_Ok X cc nL own dd) (hd : decode cc pc = .ok (.l2i, 1)) (h : bt_Snd X nL cs (pc + 1) k) : bt_Snd X nL cs pc (bt_l2i k) := by
  obtain ⟨p, l, e, R, s, m, args, below, meth, c, A, H0, D, cy, Q, ad⟩ := X
  obtain ⟨hx, hb, hml, hown, hts, hK, hlocks, hA, hrm, hnw⟩ := hX
  intro st L w H locs ls hk hR hS hl
  match st, hk with
  | .inr (.inl x) :: r, hk =>
    have h2 := h _ L w H locs ls hk hR hS hl
    simp only [List.map_cons, bt_val] at h2 ⊢
    exact lv_l2i hx hb hd (bt_it _).symm h2
def bt_i2b (k : bt_K) : bt_K := fun st L w => match st with
  | .inl x :: r => k (.inl (bo_i2b x) :: r) L w
  | _ => False
theorem bs_i2b {X : bt_X} {cc : ByteArray} {nL : Nat} {own : String} {dd : Nat} {cs : Nat × Nat} {pc : Nat} {k : bt_K} (hX : bt_Ok X cc nL own dd) (hd : decode cc pc = .ok (.i2b, 1)) (h : bt_Snd X nL cs (pc + 1) k) : bt_Snd X nL cs pc (bt_i2b k) := by
  obtain ⟨p, l, e, R, s, m, args, below, meth, c, A, H0, D, cy, Q, ad⟩ := X
  obtain ⟨hx, hb, hml, hown, hts, hK, hlocks, hA, hrm, hnw⟩ := hX
  intro st L w H locs ls hk hR hS hl
  match st, hk with
  | .inl x :: r, hk =>
    have h2 := h _ L w H locs ls hk hR hS hl
    simp only [List.map_cons, bt_val] at h2 ⊢
    exact lv_i2b hx hb hd (bt_it _).symm h2
def bt_ic (n : Int) (k : bt_K) : bt_K := fun st L w => k (.inl n :: st) L w
def bt_lc (n : Int) (k : bt_K) : bt_K := fun st L w => k (.inr (.inl n) :: st) L w
theorem bs_iconst {X : bt_X} {cc : ByteArray} {nL : Nat} {own : String} {dd : Nat} {cs : Nat × Nat} {pc : Nat} {k : bt_K} {n : Int} (hX : bt_Ok X cc nL own dd) (hd : decode cc pc = .ok (.iconst n, 1)) (h : bt_Snd X nL cs (pc + 1) k) : bt_Snd X nL cs pc (bt_ic n k) := by
  obtain ⟨p, l, e, R, s, m, args, below, meth, c, A, H0, D, cy, Q, ad⟩ := X
  obtain ⟨hx, hb, hml, hown, hts, hK, hlocks, hA, hrm, hnw⟩ := hX
  intro st L w H locs ls hk hR hS hl
  have h2 := h _ L w H locs ls hk hR hS hl
  simp only [List.map_cons, bt_val] at h2
  exact lv_iconst hx hb hd (by rfl) h2
theorem bs_bipush {X : bt_X} {cc : ByteArray} {nL : Nat} {own : String} {dd : Nat} {cs : Nat × Nat} {pc : Nat} {k : bt_K} {n : Int} (hX : bt_Ok X cc nL own dd) (hd : decode cc pc = .ok (.bipush n, 2)) (hv : (Int8.ofInt n).toInt32 = bt_i n) (h : bt_Snd X nL cs (pc + 2) k) : bt_Snd X nL cs pc (bt_ic n k) := by
  obtain ⟨p, l, e, R, s, m, args, below, meth, c, A, H0, D, cy, Q, ad⟩ := X
  obtain ⟨hx, hb, hml, hown, hts, hK, hlocks, hA, hrm, hnw⟩ := hX
  intro st L w H locs ls hk hR hS hl
  have h2 := h _ L w H locs ls hk hR hS hl
  simp only [List.map_cons, bt_val] at h2
  exact lv_bipush hx hb hd hv h2
theorem bs_sipush {X : bt_X} {cc : ByteArray} {nL : Nat} {own : String} {dd : Nat} {cs : Nat × Nat} {pc : Nat} {k : bt_K} {n : Int} (hX : bt_Ok X cc nL own dd) (hd : decode cc pc = .ok (.sipush n, 3)) (hv : (Int16.ofInt n).toInt32 = bt_i n) (h : bt_Snd X nL cs (pc + 3) k) : bt_Snd X nL cs pc (bt_ic n k) := by
  obtain ⟨p, l, e, R, s, m, args, below, meth, c, A, H0, D, cy, Q, ad⟩ := X
  obtain ⟨hx, hb, hml, hown, hts, hK, hlocks, hA, hrm, hnw⟩ := hX
  intro st L w H locs ls hk hR hS hl
  have h2 := h _ L w H locs ls hk hR hS hl
  simp only [List.map_cons, bt_val] at h2
  exact lv_sipush hx hb hd hv h2
theorem bs_lconst {X : bt_X} {cc : ByteArray} {nL : Nat} {own : String} {dd : Nat} {cs : Nat × Nat} {pc : Nat} {k : bt_K} {q : Fin 2} {n : Int} (hX : bt_Ok X cc nL own dd) (hd : decode cc pc = .ok (.lconst q, 1)) (hv : Int64.ofNat (q : Nat) = bt_j n) (h : bt_Snd X nL cs (pc + 1) k) : bt_Snd X nL cs pc (bt_lc n k) := by
  obtain ⟨p, l, e, R, s, m, args, below, meth, c, A, H0, D, cy, Q, ad⟩ := X
  obtain ⟨hx, hb, hml, hown, hts, hK, hlocks, hA, hrm, hnw⟩ := hX
  intro st L w H locs ls hk hR hS hl
  have h2 := h _ L w H locs ls hk hR hS hl
  simp only [List.map_cons, bt_val] at h2
  exact lv_lconst hx hb hd hv h2
theorem bs_ldc {X : bt_X} {cc : ByteArray} {nL : Nat} {own : String} {dd : Nat} {cs : Nat × Nat} {pc : Nat} {k : bt_K} {index : Nat} {v : Int32} {n : Int} (hX : bt_Ok X cc nL own dd) (hd : decode cc pc = .ok (.ldc index, 2)) (hc : Cond.constant own index v ∈ bt_tb) (hv : v = bt_i n) (h : bt_Snd X nL cs (pc + 2) k) : bt_Snd X nL cs pc (bt_ic n k) := by
  obtain ⟨p, l, e, R, s, m, args, below, meth, c, A, H0, D, cy, Q, ad⟩ := X
  obtain ⟨hx, hb, hml, hown, hts, hK, hlocks, hA, hrm, hnw⟩ := hX
  intro st L w H locs ls hk hR hS hl
  have h2 := h _ L w H locs ls hk hR hS hl
  simp only [List.map_cons, bt_val] at h2
  subst hv
  exact lv_ldc hx hb hown (hts _ hc) hd h2
theorem bs_ldcw {X : bt_X} {cc : ByteArray} {nL : Nat} {own : String} {dd : Nat} {cs : Nat × Nat} {pc : Nat} {k : bt_K} {index : Nat} {v : Int32} {n : Int} (hX : bt_Ok X cc nL own dd) (hd : decode cc pc = .ok (.ldc_w index, 3)) (hc : Cond.constant own index v ∈ bt_tb) (hv : v = bt_i n) (h : bt_Snd X nL cs (pc + 3) k) : bt_Snd X nL cs pc (bt_ic n k) := by
  obtain ⟨p, l, e, R, s, m, args, below, meth, c, A, H0, D, cy, Q, ad⟩ := X
  obtain ⟨hx, hb, hml, hown, hts, hK, hlocks, hA, hrm, hnw⟩ := hX
  intro st L w H locs ls hk hR hS hl
  have h2 := h _ L w H locs ls hk hR hS hl
  simp only [List.map_cons, bt_val] at h2
  subst hv
  exact lv_ldcw hx hb hown (hts _ hc) hd h2
theorem bs_ldc2 {X : bt_X} {cc : ByteArray} {nL : Nat} {own : String} {dd : Nat} {cs : Nat × Nat} {pc : Nat} {k : bt_K} {index : Nat} {v : Int64} {n : Int} (hX : bt_Ok X cc nL own dd) (hd : decode cc pc = .ok (.ldc2_w index, 3)) (hc : Cond.constantLong own index v ∈ bt_tb) (hv : v = bt_j n) (h : bt_Snd X nL cs (pc + 3) k) : bt_Snd X nL cs pc (bt_lc n k) := by
  obtain ⟨p, l, e, R, s, m, args, below, meth, c, A, H0, D, cy, Q, ad⟩ := X
  obtain ⟨hx, hb, hml, hown, hts, hK, hlocks, hA, hrm, hnw⟩ := hX
  intro st L w H locs ls hk hR hS hl
  have h2 := h _ L w H locs ls hk hR hS hl
  simp only [List.map_cons, bt_val] at h2
  subst hv
  exact lv_ldc2 hx hb hown (hts _ hc) hd h2
def bt_ild (i : Nat) (k : bt_K) : bt_K := fun st L w => match L[i]? with
  | some (some (.inl x)) => k (.inl x :: st) L w
  | _ => False
theorem bs_ild_n {X : bt_X} {cc : ByteArray} {nL : Nat} {own : String} {dd : Nat} {cs : Nat × Nat} {pc : Nat} {k : bt_K} {i : Nat} {q : Fin 4} (hX : bt_Ok X cc nL own dd) (hd : decode cc pc = .ok (.iload_n q, 1)) (hi : (q : Nat) = i) (h : bt_Snd X nL cs (pc + 1) k) : bt_Snd X nL cs pc (bt_ild i k) := by
  obtain ⟨p, l, e, R, s, m, args, below, meth, c, A, H0, D, cy, Q, ad⟩ := X
  obtain ⟨hx, hb, hml, hown, hts, hK, hlocks, hA, hrm, hnw⟩ := hX
  intro st L w H locs ls hk hR hS hl
  unfold bt_ild at hk
  split at hk
  · next x hi2 =>
    have h2 := h _ L w H locs ls hk hR hS hl
    simp only [List.map_cons, bt_val] at h2
    exact lv_iload_n hx hb hd hi (hl.2.2 _ _ hi2) h2
  · exact hk.elim
theorem bs_ild {X : bt_X} {cc : ByteArray} {nL : Nat} {own : String} {dd : Nat} {cs : Nat × Nat} {pc : Nat} {k : bt_K} {i : Nat} (hX : bt_Ok X cc nL own dd) (hd : decode cc pc = .ok (.iload i, 2)) (h : bt_Snd X nL cs (pc + 2) k) : bt_Snd X nL cs pc (bt_ild i k) := by
  obtain ⟨p, l, e, R, s, m, args, below, meth, c, A, H0, D, cy, Q, ad⟩ := X
  obtain ⟨hx, hb, hml, hown, hts, hK, hlocks, hA, hrm, hnw⟩ := hX
  intro st L w H locs ls hk hR hS hl
  unfold bt_ild at hk
  split at hk
  · next x hi2 =>
    have h2 := h _ L w H locs ls hk hR hS hl
    simp only [List.map_cons, bt_val] at h2
    exact lv_iload hx hb hd (hl.2.2 _ _ hi2) h2
  · exact hk.elim
def bt_lld (i : Nat) (k : bt_K) : bt_K := fun st L w => match L[i]? with
  | some (some (.inr (.inl x))) => k (.inr (.inl x) :: st) L w
  | _ => False
theorem bs_lld_n {X : bt_X} {cc : ByteArray} {nL : Nat} {own : String} {dd : Nat} {cs : Nat × Nat} {pc : Nat} {k : bt_K} {i : Nat} {q : Fin 4} (hX : bt_Ok X cc nL own dd) (hd : decode cc pc = .ok (.lload_n q, 1)) (hi : (q : Nat) = i) (h : bt_Snd X nL cs (pc + 1) k) : bt_Snd X nL cs pc (bt_lld i k) := by
  obtain ⟨p, l, e, R, s, m, args, below, meth, c, A, H0, D, cy, Q, ad⟩ := X
  obtain ⟨hx, hb, hml, hown, hts, hK, hlocks, hA, hrm, hnw⟩ := hX
  intro st L w H locs ls hk hR hS hl
  unfold bt_lld at hk
  split at hk
  · next x hi2 =>
    have h2 := h _ L w H locs ls hk hR hS hl
    simp only [List.map_cons, bt_val] at h2
    exact lv_lload_n hx hb hd hi (hl.2.2 _ _ hi2) h2
  · exact hk.elim
theorem bs_lld {X : bt_X} {cc : ByteArray} {nL : Nat} {own : String} {dd : Nat} {cs : Nat × Nat} {pc : Nat} {k : bt_K} {i : Nat} (hX : bt_Ok X cc nL own dd) (hd : decode cc pc = .ok (.lload i, 2)) (h : bt_Snd X nL cs (pc + 2) k) : bt_Snd X nL cs pc (bt_lld i k) := by
  obtain ⟨p, l, e, R, s, m, args, below, meth, c, A, H0, D, cy, Q, ad⟩ := X
  obtain ⟨hx, hb, hml, hown, hts, hK, hlocks, hA, hrm, hnw⟩ := hX
  intro st L w H locs ls hk hR hS hl
  unfold bt_lld at hk
  split at hk
  · next x hi2 =>
    have h2 := h _ L w H locs ls hk hR hS hl
    simp only [List.map_cons, bt_val] at h2
    exact lv_lload hx hb hd (hl.2.2 _ _ hi2) h2
  · exact hk.elim
def bt_ald (i : Nat) (k : bt_K) : bt_K := fun st L w => match L[i]? with
  | some (some (.inr (.inr x))) => k (.inr (.inr x) :: st) L w
  | _ => False
theorem bs_ald_n {X : bt_X} {cc : ByteArray} {nL : Nat} {own : String} {dd : Nat} {cs : Nat × Nat} {pc : Nat} {k : bt_K} {i : Nat} {q : Fin 4} (hX : bt_Ok X cc nL own dd) (hd : decode cc pc = .ok (.aload_n q, 1)) (hi : (q : Nat) = i) (h : bt_Snd X nL cs (pc + 1) k) : bt_Snd X nL cs pc (bt_ald i k) := by
  obtain ⟨p, l, e, R, s, m, args, below, meth, c, A, H0, D, cy, Q, ad⟩ := X
  obtain ⟨hx, hb, hml, hown, hts, hK, hlocks, hA, hrm, hnw⟩ := hX
  intro st L w H locs ls hk hR hS hl
  unfold bt_ald at hk
  split at hk
  · next x hi2 =>
    have h2 := h _ L w H locs ls hk hR hS hl
    simp only [List.map_cons, bt_val] at h2
    exact lv_aload_n hx hb hd hi (hl.2.2 _ _ hi2) h2
  · exact hk.elim
theorem bs_ald {X : bt_X} {cc : ByteArray} {nL : Nat} {own : String} {dd : Nat} {cs : Nat × Nat} {pc : Nat} {k : bt_K} {i : Nat} (hX : bt_Ok X cc nL own dd) (hd : decode cc pc = .ok (.aload i, 2)) (h : bt_Snd X nL cs (pc + 2) k) : bt_Snd X nL cs pc (bt_ald i k) := by
  obtain ⟨p, l, e, R, s, m, args, below, meth, c, A, H0, D, cy, Q, ad⟩ := X
  obtain ⟨hx, hb, hml, hown, hts, hK, hlocks, hA, hrm, hnw⟩ := hX
  intro st L w H locs ls hk hR hS hl
  unfold bt_ald at hk
  split at hk
  · next x hi2 =>
    have h2 := h _ L w H locs ls hk hR hS hl
    simp only [List.map_cons, bt_val] at h2
    exact lv_aload hx hb hd (hl.2.2 _ _ hi2) h2
  · exact hk.elim
def bt_ist (i : Nat) (k : bt_K) : bt_K := fun st L w => match st with
  | .inl x :: r => bt_nl L i ∧ k r (L.set i (some (.inl x))) w
  | _ => False
theorem bs_ist_n {X : bt_X} {cc : ByteArray} {nL : Nat} {own : String} {dd : Nat} {cs : Nat × Nat} {pc : Nat} {k : bt_K} {i : Nat} {q : Fin 4} (hX : bt_Ok X cc nL own dd) (hd : decode cc pc = .ok (.istore_n q, 1)) (hi : (q : Nat) = i) (hn : i < nL) (h : bt_Snd X nL cs (pc + 1) k) : bt_Snd X nL cs pc (bt_ist i k) := by
  obtain ⟨p, l, e, R, s, m, args, below, meth, c, A, H0, D, cy, Q, ad⟩ := X
  obtain ⟨hx, hb, hml, hown, hts, hK, hlocks, hA, hrm, hnw⟩ := hX
  intro st L w H locs ls hk hR hS hl
  match st, hk with
  | .inl x :: r, hk =>
    refine lv_istore_n hx hb hd hi hl.has hn rfl (fun ls2 hl2 => ?_)
    exact h _ _ w H locs ls2 hk.2 hR hS (bt_LR.set1 (v := .inl x) hk.1 hl2)
theorem bs_ist {X : bt_X} {cc : ByteArray} {nL : Nat} {own : String} {dd : Nat} {cs : Nat × Nat} {pc : Nat} {k : bt_K} {i : Nat} (hX : bt_Ok X cc nL own dd) (hd : decode cc pc = .ok (.istore i, 2)) (hn : i < nL) (h : bt_Snd X nL cs (pc + 2) k) : bt_Snd X nL cs pc (bt_ist i k) := by
  obtain ⟨p, l, e, R, s, m, args, below, meth, c, A, H0, D, cy, Q, ad⟩ := X
  obtain ⟨hx, hb, hml, hown, hts, hK, hlocks, hA, hrm, hnw⟩ := hX
  intro st L w H locs ls hk hR hS hl
  match st, hk with
  | .inl x :: r, hk =>
    refine lv_istore hx hb hd hl.has hn rfl (fun ls2 hl2 => ?_)
    exact h _ _ w H locs ls2 hk.2 hR hS (bt_LR.set1 (v := .inl x) hk.1 hl2)
def bt_lst (i : Nat) (k : bt_K) : bt_K := fun st L w => match st with
  | .inr (.inl x) :: r => bt_nl L i ∧ k r ((L.set i (some (.inr (.inl x)))).set (i + 1) none) w
  | _ => False
theorem bs_lst_n {X : bt_X} {cc : ByteArray} {nL : Nat} {own : String} {dd : Nat} {cs : Nat × Nat} {pc : Nat} {k : bt_K} {i : Nat} {q : Fin 4} (hX : bt_Ok X cc nL own dd) (hd : decode cc pc = .ok (.lstore_n q, 1)) (hi : (q : Nat) = i) (hn : i + 1 < nL) (h : bt_Snd X nL cs (pc + 1) k) : bt_Snd X nL cs pc (bt_lst i k) := by
  obtain ⟨p, l, e, R, s, m, args, below, meth, c, A, H0, D, cy, Q, ad⟩ := X
  obtain ⟨hx, hb, hml, hown, hts, hK, hlocks, hA, hrm, hnw⟩ := hX
  intro st L w H locs ls hk hR hS hl
  match st, hk with
  | .inr (.inl x) :: r, hk =>
    refine lv_lstore_n hx hb hd hi hl.has hn rfl (fun ls2 hl2 => ?_)
    exact h _ _ w H locs ls2 hk.2 hR hS (bt_LR.set2 (v := .inr (.inl x)) hk.1 hl2)
theorem bs_lst {X : bt_X} {cc : ByteArray} {nL : Nat} {own : String} {dd : Nat} {cs : Nat × Nat} {pc : Nat} {k : bt_K} {i : Nat} (hX : bt_Ok X cc nL own dd) (hd : decode cc pc = .ok (.lstore i, 2)) (hn : i + 1 < nL) (h : bt_Snd X nL cs (pc + 2) k) : bt_Snd X nL cs pc (bt_lst i k) := by
  obtain ⟨p, l, e, R, s, m, args, below, meth, c, A, H0, D, cy, Q, ad⟩ := X
  obtain ⟨hx, hb, hml, hown, hts, hK, hlocks, hA, hrm, hnw⟩ := hX
  intro st L w H locs ls hk hR hS hl
  match st, hk with
  | .inr (.inl x) :: r, hk =>
    refine lv_lstore hx hb hd hl.has hn rfl (fun ls2 hl2 => ?_)
    exact h _ _ w H locs ls2 hk.2 hR hS (bt_LR.set2 (v := .inr (.inl x)) hk.1 hl2)
def bt_ast (i : Nat) (k : bt_K) : bt_K := fun st L w => match st with
  | .inr (.inr x) :: r => bt_nl L i ∧ k r (L.set i (some (.inr (.inr x)))) w
  | _ => False
theorem bs_ast_n {X : bt_X} {cc : ByteArray} {nL : Nat} {own : String} {dd : Nat} {cs : Nat × Nat} {pc : Nat} {k : bt_K} {i : Nat} {q : Fin 4} (hX : bt_Ok X cc nL own dd) (hd : decode cc pc = .ok (.astore_n q, 1)) (hi : (q : Nat) = i) (hn : i < nL) (h : bt_Snd X nL cs (pc + 1) k) : bt_Snd X nL cs pc (bt_ast i k) := by
  obtain ⟨p, l, e, R, s, m, args, below, meth, c, A, H0, D, cy, Q, ad⟩ := X
  obtain ⟨hx, hb, hml, hown, hts, hK, hlocks, hA, hrm, hnw⟩ := hX
  intro st L w H locs ls hk hR hS hl
  match st, hk with
  | .inr (.inr x) :: r, hk =>
    refine lv_astore_n hx hb hd hi hl.has hn rfl (fun ls2 hl2 => ?_)
    exact h _ _ w H locs ls2 hk.2 hR hS (bt_LR.set1 (v := .inr (.inr x)) hk.1 hl2)
theorem bs_ast {X : bt_X} {cc : ByteArray} {nL : Nat} {own : String} {dd : Nat} {cs : Nat × Nat} {pc : Nat} {k : bt_K} {i : Nat} (hX : bt_Ok X cc nL own dd) (hd : decode cc pc = .ok (.astore i, 2)) (hn : i < nL) (h : bt_Snd X nL cs (pc + 2) k) : bt_Snd X nL cs pc (bt_ast i k) := by
  obtain ⟨p, l, e, R, s, m, args, below, meth, c, A, H0, D, cy, Q, ad⟩ := X
  obtain ⟨hx, hb, hml, hown, hts, hK, hlocks, hA, hrm, hnw⟩ := hX
  intro st L w H locs ls hk hR hS hl
  match st, hk with
  | .inr (.inr x) :: r, hk =>
    refine lv_astore hx hb hd hl.has hn rfl (fun ls2 hl2 => ?_)
    exact h _ _ w H locs ls2 hk.2 hR hS (bt_LR.set1 (v := .inr (.inr x)) hk.1 hl2)
def bt_inc (i : Nat) (n : Int) (k : bt_K) : bt_K := fun st L w => match L[i]? with
  | some (some (.inl x)) => k st (L.set i (some (.inl (x + n)))) w
  | _ => False
theorem bs_iinc {X : bt_X} {cc : ByteArray} {nL : Nat} {own : String} {dd : Nat} {cs : Nat × Nat} {pc : Nat} {k : bt_K} {i : Nat} {n : Int} (hX : bt_Ok X cc nL own dd) (hd : decode cc pc = .ok (.iinc i n, 3)) (hn : i < nL) (h : bt_Snd X nL cs (pc + 3) k) : bt_Snd X nL cs pc (bt_inc i n k) := by
  obtain ⟨p, l, e, R, s, m, args, below, meth, c, A, H0, D, cy, Q, ad⟩ := X
  obtain ⟨hx, hb, hml, hown, hts, hK, hlocks, hA, hrm, hnw⟩ := hX
  intro st L w H locs ls hk hR hS hl
  unfold bt_inc at hk
  split at hk
  · next x hi2 =>
    obtain ⟨kk, hkk⟩ := List.getElem?_of_mem (bt_lv_mem (ad := ad) (q := (i, Value.int (bt_i x))).mpr ⟨_, hi2, rfl⟩)
    refine lv_iinc (v := bt_i (x + n)) hx hb hd hl.has hkk (by simp only [bt_i, Int32.ofInt_add]) hn rfl (fun ls2 hl2 => ?_)
    exact h _ _ w H locs ls2 hk hR hS (bt_LR.set1 (v := .inl (x + n)) (hl.nl hi2) hl2)
  · exact hk.elim
def bt_pop (k : bt_K) : bt_K := fun st L w => match st with
  | .inl _ :: r => k r L w
  | .inr (.inr _) :: r => k r L w
  | _ => False
theorem bs_pop {X : bt_X} {cc : ByteArray} {nL : Nat} {own : String} {dd : Nat} {cs : Nat × Nat} {pc : Nat} {k : bt_K} (hX : bt_Ok X cc nL own dd) (hd : decode cc pc = .ok (.pop, 1)) (h : bt_Snd X nL cs (pc + 1) k) : bt_Snd X nL cs pc (bt_pop k) := by
  obtain ⟨p, l, e, R, s, m, args, below, meth, c, A, H0, D, cy, Q, ad⟩ := X
  obtain ⟨hx, hb, hml, hown, hts, hK, hlocks, hA, hrm, hnw⟩ := hX
  intro st L w H locs ls hk hR hS hl
  match st, hk with
  | .inl x :: r, hk => exact lv_pop hx hb hd (by rfl) (h _ L w H locs ls hk hR hS hl)
  | .inr (.inr x) :: r, hk => exact lv_pop hx hb hd (by rfl) (h _ L w H locs ls hk hR hS hl)
def bt_dup (k : bt_K) : bt_K := fun st L w => match st with
  | .inl x :: r => k (.inl x :: .inl x :: r) L w
  | .inr (.inr x) :: r => k (.inr (.inr x) :: .inr (.inr x) :: r) L w
  | _ => False
theorem bs_dup {X : bt_X} {cc : ByteArray} {nL : Nat} {own : String} {dd : Nat} {cs : Nat × Nat} {pc : Nat} {k : bt_K} (hX : bt_Ok X cc nL own dd) (hd : decode cc pc = .ok (.dup, 1)) (h : bt_Snd X nL cs (pc + 1) k) : bt_Snd X nL cs pc (bt_dup k) := by
  obtain ⟨p, l, e, R, s, m, args, below, meth, c, A, H0, D, cy, Q, ad⟩ := X
  obtain ⟨hx, hb, hml, hown, hts, hK, hlocks, hA, hrm, hnw⟩ := hX
  intro st L w H locs ls hk hR hS hl
  match st, hk with
  | .inl x :: r, hk => exact lv_dup hx hb hd (by rfl) (h _ L w H locs ls hk hR hS hl)
  | .inr (.inr x) :: r, hk => exact lv_dup hx hb hd (by rfl) (h _ L w H locs ls hk hR hS hl)
def bt_dup2 (k : bt_K) : bt_K := fun st L w => match st with
  | .inl x :: .inr (.inr y) :: r => k (.inl x :: .inr (.inr y) :: .inl x :: .inr (.inr y) :: r) L w
  | _ => False
theorem bs_dup2 {X : bt_X} {cc : ByteArray} {nL : Nat} {own : String} {dd : Nat} {cs : Nat × Nat} {pc : Nat} {k : bt_K} (hX : bt_Ok X cc nL own dd) (hd : decode cc pc = .ok (.dup2, 1)) (h : bt_Snd X nL cs (pc + 1) k) : bt_Snd X nL cs pc (bt_dup2 k) := by
  obtain ⟨p, l, e, R, s, m, args, below, meth, c, A, H0, D, cy, Q, ad⟩ := X
  obtain ⟨hx, hb, hml, hown, hts, hK, hlocks, hA, hrm, hnw⟩ := hX
  intro st L w H locs ls hk hR hS hl
  match st, hk with
  | .inl x :: .inr (.inr y) :: r, hk => exact lv_dup2_11 hx hb hd (by rfl) (by rfl) (h _ L w H locs ls hk hR hS hl)
theorem bs_goto {X : bt_X} {cc : ByteArray} {nL : Nat} {own : String} {dd : Nat} {cs : Nat × Nat} {pc : Nat} {k : bt_K} {off : Int} {tgt : Nat} (hX : bt_Ok X cc nL own dd) (hd : decode cc pc = .ok (.goto off, 3)) (ht : (pc : Int) + off = (tgt : Int)) (h : bt_Snd X nL cs tgt k) : bt_Snd X nL cs pc k := by
  obtain ⟨p, l, e, R, s, m, args, below, meth, c, A, H0, D, cy, Q, ad⟩ := X
  obtain ⟨hx, hb, hml, hown, hts, hK, hlocks, hA, hrm, hnw⟩ := hX
  intro st L w H locs ls hk hR hS hl
  exact lv_goto hx hb hd ht (h _ L w H locs ls hk hR hS hl)
theorem bt_eq_iff {x y : Int} : bt_i x = bt_i y ↔ bt_w x = bt_w y := ⟨fun h => congrArg Int32.toInt h, fun h => Int32.toInt_inj.mp h⟩
theorem bt_lt_iff {x y : Int} : bt_i x < bt_i y ↔ bt_w x < bt_w y := Int32.lt_iff_toInt_lt
theorem bt_le_iff {x y : Int} : bt_i x ≤ bt_i y ↔ bt_w x ≤ bt_w y := Int32.le_iff_toInt_le
theorem bt_eq0 {x : Int} : bt_i x = 0 ↔ bt_w x = 0 := bt_eq_iff (y := 0)
theorem bt_lt0 {x : Int} : bt_i x < 0 ↔ bt_w x < 0 := bt_lt_iff (y := 0)
theorem bt_gt0 {x : Int} : 0 < bt_i x ↔ 0 < bt_w x := bt_lt_iff (x := 0)
theorem bt_le0 {x : Int} : bt_i x ≤ 0 ↔ bt_w x ≤ 0 := bt_le_iff (y := 0)
theorem bt_ge0 {x : Int} : 0 ≤ bt_i x ↔ 0 ≤ bt_w x := bt_le_iff (x := 0)
def bt_icmpeq (kt kf : bt_K) : bt_K := fun st L w => match st with
  | .inl y :: .inl x :: r => if bt_w x = bt_w y then kt r L w else kf r L w
  | _ => False
theorem bs_icmpeq {X : bt_X} {cc : ByteArray} {nL : Nat} {own : String} {dd : Nat} {cs : Nat × Nat} {pc : Nat} {kt kf : bt_K} {off : Int} {tgt : Nat} (hX : bt_Ok X cc nL own dd) (hd : decode cc pc = .ok (.if_icmp .eq off, 3)) (ht : (pc : Int) + off = (tgt : Int)) (h1 : bt_Snd X nL cs tgt kt) (h2 : bt_Snd X nL cs (pc + 3) kf) : bt_Snd X nL cs pc (bt_icmpeq kt kf) := by
  obtain ⟨p, l, e, R, s, m, args, below, meth, c, A, H0, D, cy, Q, ad⟩ := X
  obtain ⟨hx, hb, hml, hown, hts, hK, hlocks, hA, hrm, hnw⟩ := hX
  intro st L w H locs ls hk hR hS hl
  match st, hk with
  | .inl y :: .inl x :: r, hk =>
    refine lv_icmp_eq hx hb hd ht (fun hc => ?_) (fun hc => ?_)
    · exact h1 _ L w H locs ls (by simpa only [bt_icmpeq, if_pos (bt_eq_iff.mp hc)] using hk) hR hS hl
    · exact h2 _ L w H locs ls (by simpa only [bt_icmpeq, if_neg (fun q => hc (bt_eq_iff.mpr q))] using hk) hR hS hl
def bt_ifeq (kt kf : bt_K) : bt_K := fun st L w => match st with
  | .inl x :: r => if bt_w x = 0 then kt r L w else kf r L w
  | _ => False
theorem bs_ifeq {X : bt_X} {cc : ByteArray} {nL : Nat} {own : String} {dd : Nat} {cs : Nat × Nat} {pc : Nat} {kt kf : bt_K} {off : Int} {tgt : Nat} (hX : bt_Ok X cc nL own dd) (hd : decode cc pc = .ok (.ifCond .eq off, 3)) (ht : (pc : Int) + off = (tgt : Int)) (h1 : bt_Snd X nL cs tgt kt) (h2 : bt_Snd X nL cs (pc + 3) kf) : bt_Snd X nL cs pc (bt_ifeq kt kf) := by
  obtain ⟨p, l, e, R, s, m, args, below, meth, c, A, H0, D, cy, Q, ad⟩ := X
  obtain ⟨hx, hb, hml, hown, hts, hK, hlocks, hA, hrm, hnw⟩ := hX
  intro st L w H locs ls hk hR hS hl
  match st, hk with
  | .inl x :: r, hk =>
    refine lv_if_eq hx hb hd ht (fun hc => ?_) (fun hc => ?_)
    · exact h1 _ L w H locs ls (by simpa only [bt_ifeq, if_pos (bt_eq0.mp hc)] using hk) hR hS hl
    · exact h2 _ L w H locs ls (by simpa only [bt_ifeq, if_neg (fun q => hc (bt_eq0.mpr q))] using hk) hR hS hl
def bt_icmpne (kt kf : bt_K) : bt_K := fun st L w => match st with
  | .inl y :: .inl x :: r => if bt_w x = bt_w y then kf r L w else kt r L w
  | _ => False
theorem bs_icmpne {X : bt_X} {cc : ByteArray} {nL : Nat} {own : String} {dd : Nat} {cs : Nat × Nat} {pc : Nat} {kt kf : bt_K} {off : Int} {tgt : Nat} (hX : bt_Ok X cc nL own dd) (hd : decode cc pc = .ok (.if_icmp .ne off, 3)) (ht : (pc : Int) + off = (tgt : Int)) (h1 : bt_Snd X nL cs tgt kt) (h2 : bt_Snd X nL cs (pc + 3) kf) : bt_Snd X nL cs pc (bt_icmpne kt kf) := by
  obtain ⟨p, l, e, R, s, m, args, below, meth, c, A, H0, D, cy, Q, ad⟩ := X
  obtain ⟨hx, hb, hml, hown, hts, hK, hlocks, hA, hrm, hnw⟩ := hX
  intro st L w H locs ls hk hR hS hl
  match st, hk with
  | .inl y :: .inl x :: r, hk =>
    refine lv_icmp_ne hx hb hd ht (fun hc => ?_) (fun hc => ?_)
    · exact h1 _ L w H locs ls (by simpa only [bt_icmpne, if_neg (fun q => hc (bt_eq_iff.mpr q))] using hk) hR hS hl
    · exact h2 _ L w H locs ls (by simpa only [bt_icmpne, if_pos (bt_eq_iff.mp hc)] using hk) hR hS hl
def bt_ifne (kt kf : bt_K) : bt_K := fun st L w => match st with
  | .inl x :: r => if bt_w x = 0 then kf r L w else kt r L w
  | _ => False
theorem bs_ifne {X : bt_X} {cc : ByteArray} {nL : Nat} {own : String} {dd : Nat} {cs : Nat × Nat} {pc : Nat} {kt kf : bt_K} {off : Int} {tgt : Nat} (hX : bt_Ok X cc nL own dd) (hd : decode cc pc = .ok (.ifCond .ne off, 3)) (ht : (pc : Int) + off = (tgt : Int)) (h1 : bt_Snd X nL cs tgt kt) (h2 : bt_Snd X nL cs (pc + 3) kf) : bt_Snd X nL cs pc (bt_ifne kt kf) := by
  obtain ⟨p, l, e, R, s, m, args, below, meth, c, A, H0, D, cy, Q, ad⟩ := X
  obtain ⟨hx, hb, hml, hown, hts, hK, hlocks, hA, hrm, hnw⟩ := hX
  intro st L w H locs ls hk hR hS hl
  match st, hk with
  | .inl x :: r, hk =>
    refine lv_if_ne hx hb hd ht (fun hc => ?_) (fun hc => ?_)
    · exact h1 _ L w H locs ls (by simpa only [bt_ifne, if_neg (fun q => hc (bt_eq0.mpr q))] using hk) hR hS hl
    · exact h2 _ L w H locs ls (by simpa only [bt_ifne, if_pos (bt_eq0.mp hc)] using hk) hR hS hl
def bt_icmplt (kt kf : bt_K) : bt_K := fun st L w => match st with
  | .inl y :: .inl x :: r => if bt_w x < bt_w y then kt r L w else kf r L w
  | _ => False
theorem bs_icmplt {X : bt_X} {cc : ByteArray} {nL : Nat} {own : String} {dd : Nat} {cs : Nat × Nat} {pc : Nat} {kt kf : bt_K} {off : Int} {tgt : Nat} (hX : bt_Ok X cc nL own dd) (hd : decode cc pc = .ok (.if_icmp .lt off, 3)) (ht : (pc : Int) + off = (tgt : Int)) (h1 : bt_Snd X nL cs tgt kt) (h2 : bt_Snd X nL cs (pc + 3) kf) : bt_Snd X nL cs pc (bt_icmplt kt kf) := by
  obtain ⟨p, l, e, R, s, m, args, below, meth, c, A, H0, D, cy, Q, ad⟩ := X
  obtain ⟨hx, hb, hml, hown, hts, hK, hlocks, hA, hrm, hnw⟩ := hX
  intro st L w H locs ls hk hR hS hl
  match st, hk with
  | .inl y :: .inl x :: r, hk =>
    refine lv_icmp_lt hx hb hd ht (fun hc => ?_) (fun hc => ?_)
    · exact h1 _ L w H locs ls (by simpa only [bt_icmplt, if_pos (bt_lt_iff.mp hc)] using hk) hR hS hl
    · exact h2 _ L w H locs ls (by simpa only [bt_icmplt, if_neg (fun q => hc (bt_lt_iff.mpr q))] using hk) hR hS hl
def bt_iflt (kt kf : bt_K) : bt_K := fun st L w => match st with
  | .inl x :: r => if bt_w x < 0 then kt r L w else kf r L w
  | _ => False
theorem bs_iflt {X : bt_X} {cc : ByteArray} {nL : Nat} {own : String} {dd : Nat} {cs : Nat × Nat} {pc : Nat} {kt kf : bt_K} {off : Int} {tgt : Nat} (hX : bt_Ok X cc nL own dd) (hd : decode cc pc = .ok (.ifCond .lt off, 3)) (ht : (pc : Int) + off = (tgt : Int)) (h1 : bt_Snd X nL cs tgt kt) (h2 : bt_Snd X nL cs (pc + 3) kf) : bt_Snd X nL cs pc (bt_iflt kt kf) := by
  obtain ⟨p, l, e, R, s, m, args, below, meth, c, A, H0, D, cy, Q, ad⟩ := X
  obtain ⟨hx, hb, hml, hown, hts, hK, hlocks, hA, hrm, hnw⟩ := hX
  intro st L w H locs ls hk hR hS hl
  match st, hk with
  | .inl x :: r, hk =>
    refine lv_if_lt hx hb hd ht (fun hc => ?_) (fun hc => ?_)
    · exact h1 _ L w H locs ls (by simpa only [bt_iflt, if_pos (bt_lt0.mp hc)] using hk) hR hS hl
    · exact h2 _ L w H locs ls (by simpa only [bt_iflt, if_neg (fun q => hc (bt_lt0.mpr q))] using hk) hR hS hl
def bt_icmpge (kt kf : bt_K) : bt_K := fun st L w => match st with
  | .inl y :: .inl x :: r => if bt_w y ≤ bt_w x then kt r L w else kf r L w
  | _ => False
theorem bs_icmpge {X : bt_X} {cc : ByteArray} {nL : Nat} {own : String} {dd : Nat} {cs : Nat × Nat} {pc : Nat} {kt kf : bt_K} {off : Int} {tgt : Nat} (hX : bt_Ok X cc nL own dd) (hd : decode cc pc = .ok (.if_icmp .ge off, 3)) (ht : (pc : Int) + off = (tgt : Int)) (h1 : bt_Snd X nL cs tgt kt) (h2 : bt_Snd X nL cs (pc + 3) kf) : bt_Snd X nL cs pc (bt_icmpge kt kf) := by
  obtain ⟨p, l, e, R, s, m, args, below, meth, c, A, H0, D, cy, Q, ad⟩ := X
  obtain ⟨hx, hb, hml, hown, hts, hK, hlocks, hA, hrm, hnw⟩ := hX
  intro st L w H locs ls hk hR hS hl
  match st, hk with
  | .inl y :: .inl x :: r, hk =>
    refine lv_icmp_ge hx hb hd ht (fun hc => ?_) (fun hc => ?_)
    · exact h1 _ L w H locs ls (by simpa only [bt_icmpge, if_pos (bt_le_iff.mp hc)] using hk) hR hS hl
    · exact h2 _ L w H locs ls (by simpa only [bt_icmpge, if_neg (fun q => hc (bt_le_iff.mpr q))] using hk) hR hS hl
def bt_ifge (kt kf : bt_K) : bt_K := fun st L w => match st with
  | .inl x :: r => if 0 ≤ bt_w x then kt r L w else kf r L w
  | _ => False
theorem bs_ifge {X : bt_X} {cc : ByteArray} {nL : Nat} {own : String} {dd : Nat} {cs : Nat × Nat} {pc : Nat} {kt kf : bt_K} {off : Int} {tgt : Nat} (hX : bt_Ok X cc nL own dd) (hd : decode cc pc = .ok (.ifCond .ge off, 3)) (ht : (pc : Int) + off = (tgt : Int)) (h1 : bt_Snd X nL cs tgt kt) (h2 : bt_Snd X nL cs (pc + 3) kf) : bt_Snd X nL cs pc (bt_ifge kt kf) := by
  obtain ⟨p, l, e, R, s, m, args, below, meth, c, A, H0, D, cy, Q, ad⟩ := X
  obtain ⟨hx, hb, hml, hown, hts, hK, hlocks, hA, hrm, hnw⟩ := hX
  intro st L w H locs ls hk hR hS hl
  match st, hk with
  | .inl x :: r, hk =>
    refine lv_if_ge hx hb hd ht (fun hc => ?_) (fun hc => ?_)
    · exact h1 _ L w H locs ls (by simpa only [bt_ifge, if_pos (bt_ge0.mp hc)] using hk) hR hS hl
    · exact h2 _ L w H locs ls (by simpa only [bt_ifge, if_neg (fun q => hc (bt_ge0.mpr q))] using hk) hR hS hl
def bt_icmpgt (kt kf : bt_K) : bt_K := fun st L w => match st with
  | .inl y :: .inl x :: r => if bt_w y < bt_w x then kt r L w else kf r L w
  | _ => False
theorem bs_icmpgt {X : bt_X} {cc : ByteArray} {nL : Nat} {own : String} {dd : Nat} {cs : Nat × Nat} {pc : Nat} {kt kf : bt_K} {off : Int} {tgt : Nat} (hX : bt_Ok X cc nL own dd) (hd : decode cc pc = .ok (.if_icmp .gt off, 3)) (ht : (pc : Int) + off = (tgt : Int)) (h1 : bt_Snd X nL cs tgt kt) (h2 : bt_Snd X nL cs (pc + 3) kf) : bt_Snd X nL cs pc (bt_icmpgt kt kf) := by
  obtain ⟨p, l, e, R, s, m, args, below, meth, c, A, H0, D, cy, Q, ad⟩ := X
  obtain ⟨hx, hb, hml, hown, hts, hK, hlocks, hA, hrm, hnw⟩ := hX
  intro st L w H locs ls hk hR hS hl
  match st, hk with
  | .inl y :: .inl x :: r, hk =>
    refine lv_icmp_gt hx hb hd ht (fun hc => ?_) (fun hc => ?_)
    · exact h1 _ L w H locs ls (by simpa only [bt_icmpgt, if_pos (bt_lt_iff.mp hc)] using hk) hR hS hl
    · exact h2 _ L w H locs ls (by simpa only [bt_icmpgt, if_neg (fun q => hc (bt_lt_iff.mpr q))] using hk) hR hS hl
def bt_ifgt (kt kf : bt_K) : bt_K := fun st L w => match st with
  | .inl x :: r => if 0 < bt_w x then kt r L w else kf r L w
  | _ => False
theorem bs_ifgt {X : bt_X} {cc : ByteArray} {nL : Nat} {own : String} {dd : Nat} {cs : Nat × Nat} {pc : Nat} {kt kf : bt_K} {off : Int} {tgt : Nat} (hX : bt_Ok X cc nL own dd) (hd : decode cc pc = .ok (.ifCond .gt off, 3)) (ht : (pc : Int) + off = (tgt : Int)) (h1 : bt_Snd X nL cs tgt kt) (h2 : bt_Snd X nL cs (pc + 3) kf) : bt_Snd X nL cs pc (bt_ifgt kt kf) := by
  obtain ⟨p, l, e, R, s, m, args, below, meth, c, A, H0, D, cy, Q, ad⟩ := X
  obtain ⟨hx, hb, hml, hown, hts, hK, hlocks, hA, hrm, hnw⟩ := hX
  intro st L w H locs ls hk hR hS hl
  match st, hk with
  | .inl x :: r, hk =>
    refine lv_if_gt hx hb hd ht (fun hc => ?_) (fun hc => ?_)
    · exact h1 _ L w H locs ls (by simpa only [bt_ifgt, if_pos (bt_gt0.mp hc)] using hk) hR hS hl
    · exact h2 _ L w H locs ls (by simpa only [bt_ifgt, if_neg (fun q => hc (bt_gt0.mpr q))] using hk) hR hS hl
def bt_icmple (kt kf : bt_K) : bt_K := fun st L w => match st with
  | .inl y :: .inl x :: r => if bt_w x ≤ bt_w y then kt r L w else kf r L w
  | _ => False
theorem bs_icmple {X : bt_X} {cc : ByteArray} {nL : Nat} {own : String} {dd : Nat} {cs : Nat × Nat} {pc : Nat} {kt kf : bt_K} {off : Int} {tgt : Nat} (hX : bt_Ok X cc nL own dd) (hd : decode cc pc = .ok (.if_icmp .le off, 3)) (ht : (pc : Int) + off = (tgt : Int)) (h1 : bt_Snd X nL cs tgt kt) (h2 : bt_Snd X nL cs (pc + 3) kf) : bt_Snd X nL cs pc (bt_icmple kt kf) := by
  obtain ⟨p, l, e, R, s, m, args, below, meth, c, A, H0, D, cy, Q, ad⟩ := X
  obtain ⟨hx, hb, hml, hown, hts, hK, hlocks, hA, hrm, hnw⟩ := hX
  intro st L w H locs ls hk hR hS hl
  match st, hk with
  | .inl y :: .inl x :: r, hk =>
    refine lv_icmp_le hx hb hd ht (fun hc => ?_) (fun hc => ?_)
    · exact h1 _ L w H locs ls (by simpa only [bt_icmple, if_pos (bt_le_iff.mp hc)] using hk) hR hS hl
    · exact h2 _ L w H locs ls (by simpa only [bt_icmple, if_neg (fun q => hc (bt_le_iff.mpr q))] using hk) hR hS hl
def bt_ifle (kt kf : bt_K) : bt_K := fun st L w => match st with
  | .inl x :: r => if bt_w x ≤ 0 then kt r L w else kf r L w
  | _ => False
theorem bs_ifle {X : bt_X} {cc : ByteArray} {nL : Nat} {own : String} {dd : Nat} {cs : Nat × Nat} {pc : Nat} {kt kf : bt_K} {off : Int} {tgt : Nat} (hX : bt_Ok X cc nL own dd) (hd : decode cc pc = .ok (.ifCond .le off, 3)) (ht : (pc : Int) + off = (tgt : Int)) (h1 : bt_Snd X nL cs tgt kt) (h2 : bt_Snd X nL cs (pc + 3) kf) : bt_Snd X nL cs pc (bt_ifle kt kf) := by
  obtain ⟨p, l, e, R, s, m, args, below, meth, c, A, H0, D, cy, Q, ad⟩ := X
  obtain ⟨hx, hb, hml, hown, hts, hK, hlocks, hA, hrm, hnw⟩ := hX
  intro st L w H locs ls hk hR hS hl
  match st, hk with
  | .inl x :: r, hk =>
    refine lv_if_le hx hb hd ht (fun hc => ?_) (fun hc => ?_)
    · exact h1 _ L w H locs ls (by simpa only [bt_ifle, if_pos (bt_le0.mp hc)] using hk) hR hS hl
    · exact h2 _ L w H locs ls (by simpa only [bt_ifle, if_neg (fun q => hc (bt_le0.mpr q))] using hk) hR hS hl
