/-! memory: what a store leaves -/
def bt_up (μ : Nat → Nat → Int) (a k : Nat) (x : Int) : Nat → Nat → Int := fun a' k' => if a' = a ∧ k' = k then x else μ a' k'
def bt_ur (ρ : Nat → Nat → Option Nat) (a k : Nat) (b : Nat) : Nat → Nat → Option Nat := fun a' k' => if a' = a ∧ k' = k then some b else ρ a' k'
def bt_cp (μ : Nat → Nat → Int) (s sp d dp n : Nat) : Nat → Nat → Int := fun a' k' => if a' = d ∧ dp ≤ k' ∧ k' < dp + n then μ s (sp + (k' - dp)) else μ a' k'
def bt_sm (w : bt_W) (a k : Nat) (x : Int) : bt_W := (w.1, w.2.1, w.2.2.1, bt_up w.2.2.2 a k x)
def bt_sr (w : bt_W) (a k b : Nat) : bt_W := (w.1, w.2.1, bt_ur w.2.2.1 a k b, w.2.2.2)
theorem bt_cl12 (c : Nat) (h : c < 12) : ∃ C T N, vwCl[c]? = some (C, T, N) := by
  match c, h with
  | 0, _ => exact ⟨_, _, _, rfl⟩
  | 1, _ => exact ⟨_, _, _, rfl⟩
  | 2, _ => exact ⟨_, _, _, rfl⟩
  | 3, _ => exact ⟨_, _, _, rfl⟩
  | 4, _ => exact ⟨_, _, _, rfl⟩
  | 5, _ => exact ⟨_, _, _, rfl⟩
  | 6, _ => exact ⟨_, _, _, rfl⟩
  | 7, _ => exact ⟨_, _, _, rfl⟩
  | 8, _ => exact ⟨_, _, _, rfl⟩
  | 9, _ => exact ⟨_, _, _, rfl⟩
  | 10, _ => exact ⟨_, _, _, rfl⟩
  | 11, _ => exact ⟨_, _, _, rfl⟩
  | n + 12, h => omega
/-- what the tables say of a class: its fields' words, types, names -/
def bt_Cl (c : Nat) (C : String) (T : u_T) (N : Nat) : Prop := c < 12 ∧ vwCl[c]? = some (C, T, N) ∧ (∀ w ∈ u_ws C T N, w ∈ bt_tb) ∧ (∀ k, k < N → parseFieldDescriptor (T k).2.2.1 = some (bt_ty c k)) ∧ (∀ a, a < N → ∀ b, b < N → a ≠ b → (T a).2.1 ≠ (T b).2.1)
def bt_Fd (own : String) (index c k : Nat) : Prop := ∃ C T N, bt_Cl c C T N ∧ k < N ∧ (T k).1 = C ∧ Cond.fieldLink own index C (T k).2.1 (T k).2.2.1 ∈ bt_tb
theorem bt_nf_of {c : Nat} {C : String} {T : u_T} {N : Nat} (h : vwCl[c]? = some (C, T, N)) : bt_nf c = N := by unfold bt_nf; rw [h]
theorem bt_ent_o {cy : Nat → ClassId} {ad : Nat → Nat} {w : bt_W} {a c : Nat} (h : (w.2.1 a).1 = c) (hc : c < 12) : bt_ent cy ad w a = .inr (c, (List.range (bt_nf c)).map (fun k => bt_fv ad w a (bt_tc (bt_ty c k)) k)) := by
  unfold bt_ent
  rw [h, if_pos hc]
theorem bt_fs_at {ad : Nat → Nat} {w : bt_W} {a c k N : Nat} (hN : bt_nf c = N) (hk : k < N) : ((List.range (bt_nf c)).map (fun k => bt_fv ad w a (bt_tc (bt_ty c k)) k))[k]? = some (bt_fv ad w a (bt_tc (bt_ty c k)) k) := by
  simp [hN, hk]
theorem bt_ent_sm {cy : Nat → ClassId} {ad : Nat → Nat} {w : bt_W} {a k i : Nat} {x : Int} (h : i ≠ a) : bt_ent cy ad (bt_sm w a k x) i = bt_ent cy ad w i := by
  simp [bt_ent, bt_sm, bt_up, bt_fv, h]
theorem bt_ent_sr {cy : Nat → ClassId} {ad : Nat → Nat} {w : bt_W} {a k i b : Nat} (h : i ≠ a) : bt_ent cy ad (bt_sr w a k b) i = bt_ent cy ad w i := by
  simp [bt_ent, bt_sr, bt_ur, bt_fv, h]
theorem bt_map_set {f g : Nat → Value} {N k : Nat} {v : Value} (h1 : g k = v) (h2 : ∀ j, j ≠ k → g j = f j) : ((List.range N).map f).set k v = (List.range N).map g := by
  apply List.ext_getElem?
  intro i
  by_cases hi : i < N
  · by_cases ha : i = k
    · subst ha
      rw [List.getElem?_set_self (by simpa using hi)]
      simp [hi, h1]
    · rw [List.getElem?_set_ne (fun q => ha q.symm)]
      simp [hi, h2 i ha]
  · have e1 : (((List.range N).map f).set k v)[i]? = none := by
      rw [List.getElem?_eq_none_iff]; simp; omega
    have e2 : ((List.range N).map g)[i]? = none := by
      rw [List.getElem?_eq_none_iff]; simp; omega
    rw [e1, e2]

def bt_gfI (c f : Nat) (k : bt_K) : bt_K := fun st L w => match st with
  | .inr (.inr a) :: r => (a < w.1 ∧ (w.2.1 a).1 = c) ∧ k (.inl (w.2.2.2 a f) :: r) L w
  | _ => False
theorem bs_gfI {X : bt_X} {cc : ByteArray} {nL : Nat} {own : String} {dd : Nat} {cs : Nat × Nat} {pc : Nat} {k : bt_K} {c f index : Nat} (hX : bt_Ok X cc nL own dd) (hd : decode cc pc = .ok (.getfield index, 3)) (hF : bt_Fd own index c f) (ht : bt_tc (bt_ty c f) = 0) (h : bt_Snd X nL cs (pc + 3) k) : bt_Snd X nL cs pc (bt_gfI c f k) := by
  obtain ⟨p, l, e, R, s, m, args, below, meth, cd, A, H0, D, cy, Q, ad⟩ := X
  obtain ⟨hx, hb, hml, hown, hts, hK, hlocks, hA, hrm, hnw⟩ := hX
  intro st L w H locs ls hk hR hS hl
  obtain ⟨C, T, N, hC, hf, hsm, hlk⟩ := hF
  match st, hk with
  | .inr (.inr a) :: r, hk =>
    have h2 := h _ L w H locs ls hk.2 hR hS hl
    simp only [List.map_cons, bt_val] at h2 ⊢
    refine va_get hx hb hts hC.2.2.1 hown hK hR.1 a (by rw [bt_ws_at hk.1.1, bt_ent_o hk.1.2 hC.1]) hC.2.1 f hf (hts _ hlk) (fun x hx => by rw [hsm] at hx; exact hx) (bt_fs_at (bt_nf_of hC.2.1) hf) hd ?_
    rw [ht]
    exact h2
def bt_gfJ (c f : Nat) (k : bt_K) : bt_K := fun st L w => match st with
  | .inr (.inr a) :: r => (a < w.1 ∧ (w.2.1 a).1 = c) ∧ k (.inr (.inl (w.2.2.2 a f)) :: r) L w
  | _ => False
theorem bs_gfJ {X : bt_X} {cc : ByteArray} {nL : Nat} {own : String} {dd : Nat} {cs : Nat × Nat} {pc : Nat} {k : bt_K} {c f index : Nat} (hX : bt_Ok X cc nL own dd) (hd : decode cc pc = .ok (.getfield index, 3)) (hF : bt_Fd own index c f) (ht : bt_tc (bt_ty c f) = 1) (h : bt_Snd X nL cs (pc + 3) k) : bt_Snd X nL cs pc (bt_gfJ c f k) := by
  obtain ⟨p, l, e, R, s, m, args, below, meth, cd, A, H0, D, cy, Q, ad⟩ := X
  obtain ⟨hx, hb, hml, hown, hts, hK, hlocks, hA, hrm, hnw⟩ := hX
  intro st L w H locs ls hk hR hS hl
  obtain ⟨C, T, N, hC, hf, hsm, hlk⟩ := hF
  match st, hk with
  | .inr (.inr a) :: r, hk =>
    have h2 := h _ L w H locs ls hk.2 hR hS hl
    simp only [List.map_cons, bt_val] at h2 ⊢
    refine va_get hx hb hts hC.2.2.1 hown hK hR.1 a (by rw [bt_ws_at hk.1.1, bt_ent_o hk.1.2 hC.1]) hC.2.1 f hf (hts _ hlk) (fun x hx => by rw [hsm] at hx; exact hx) (bt_fs_at (bt_nf_of hC.2.1) hf) hd ?_
    rw [ht]
    exact h2
def bt_gfR (c f : Nat) (k : bt_K) : bt_K := fun st L w => match st with
  | .inr (.inr a) :: r => (a < w.1 ∧ (w.2.1 a).1 = c) ∧ (match w.2.2.1 a f with
    | some b => k (.inr (.inr b) :: r) L w
    | none => False)
  | _ => False
theorem bs_gfR {X : bt_X} {cc : ByteArray} {nL : Nat} {own : String} {dd : Nat} {cs : Nat × Nat} {pc : Nat} {k : bt_K} {c f index : Nat} (hX : bt_Ok X cc nL own dd) (hd : decode cc pc = .ok (.getfield index, 3)) (hF : bt_Fd own index c f) (ht : bt_tc (bt_ty c f) = 2) (h : bt_Snd X nL cs (pc + 3) k) : bt_Snd X nL cs pc (bt_gfR c f k) := by
  obtain ⟨p, l, e, R, s, m, args, below, meth, cd, A, H0, D, cy, Q, ad⟩ := X
  obtain ⟨hx, hb, hml, hown, hts, hK, hlocks, hA, hrm, hnw⟩ := hX
  intro st L w H locs ls hk hR hS hl
  obtain ⟨C, T, N, hC, hf, hsm, hlk⟩ := hF
  match st, hk with
  | .inr (.inr a) :: r, hk =>
    obtain ⟨h1, hk⟩ := hk
    cases hb2 : w.2.2.1 a f with
    | none => rw [hb2] at hk; exact hk.elim
    | some b =>
      rw [hb2] at hk
      have h2 := h _ L w H locs ls hk hR hS hl
      simp only [List.map_cons, bt_val] at h2 ⊢
      refine va_get hx hb hts hC.2.2.1 hown hK hR.1 a (by rw [bt_ws_at h1.1, bt_ent_o h1.2 hC.1]) hC.2.1 f hf (hts _ hlk) (fun x hx => by rw [hsm] at hx; exact hx) (bt_fs_at (bt_nf_of hC.2.1) hf) hd ?_
      rw [ht]
      simp only [bt_fv, hb2, Option.map_some, va_rf]
      exact h2
def bt_pfI (c f : Nat) (k : bt_K) : bt_K := fun st L w => match st with
  | .inl x :: .inr (.inr a) :: r => (a < w.1 ∧ (w.2.1 a).1 = c) ∧ k r L (bt_sm w a f x)
  | _ => False
theorem bs_pfI {X : bt_X} {cc : ByteArray} {nL : Nat} {own : String} {dd : Nat} {cs : Nat × Nat} {pc : Nat} {k : bt_K} {c f index : Nat} (hX : bt_Ok X cc nL own dd) (hd : decode cc pc = .ok (.putfield index, 3)) (hF : bt_Fd own index c f) (ht : bt_ty c f = .int) (hfin : ∀ q, vwCl[c]? = some q → (q.2.1 f).2.2.2 = false) (h : bt_Snd X nL cs (pc + 3) k) : bt_Snd X nL cs pc (bt_pfI c f k) := by
  obtain ⟨p, l, e, R, s, m, args, below, meth, cd, A, H0, D, cy, Q, ad⟩ := X
  obtain ⟨hx, hb, hml, hown, hts, hK, hlocks, hA, hrm, hnw⟩ := hX
  intro st L w H locs ls hk hR hS hl
  obtain ⟨C, T, N, hC, hf, hsm, hlk⟩ := hF
  match st, hk with
  | .inl x :: .inr (.inr a) :: r, hk =>
    simp only [List.map_cons, bt_val]
    refine va_put (ty := .int) hx hb hts hC.2.2.1 (bt_ty c) hC.2.2.2.1 hC.2.2.2.2 hown hK hR.1 hR.2 hS a (by rw [bt_ws_at hk.1.1, bt_ent_o hk.1.2 hC.1]) hC.2.1 f hf (hts _ hlk) (fun x hx => by rw [hsm] at hx; exact hx) (hfin _ hC.2.1) (by rw [hC.2.2.2.1 f hf, ht]) rfl rfl (by simp [bt_nf_of hC.2.1, hf]) hd (fun H1 locs1 hP1 hD1 hS1 => ?_)
    have e : (bt_ws cy ad w).set a (ad a, .inr (c, ((List.range (bt_nf c)).map (fun k => bt_fv ad w a (bt_tc (bt_ty c k)) k)).set f (.int (bt_i x)))) = bt_ws cy ad (bt_sm w a f x) := by
      refine bt_ws_set rfl ?_ (fun i hi => bt_ent_sm hi)
      rw [bt_ent_o (w := bt_sm w a f x) hk.1.2 hC.1, bt_map_set (g := fun k => bt_fv ad (bt_sm w a f x) a (bt_tc (bt_ty c k)) k)]
      · simp [bt_fv, ht, bt_tc, bt_sm, bt_up]
      · intro j hj
        simp [bt_fv, bt_sm, bt_up, hj]
    rw [e] at hP1 hD1
    exact h _ L _ H1 locs1 ls hk.2 ⟨hP1, hD1⟩ hS1 hl
def bt_pfZ (c f : Nat) (k : bt_K) : bt_K := fun st L w => match st with
  | .inl x :: .inr (.inr a) :: r => (a < w.1 ∧ (w.2.1 a).1 = c) ∧ (x = 0 ∨ x = 1) ∧ k r L (bt_sm w a f x)
  | _ => False
theorem bs_pfZ {X : bt_X} {cc : ByteArray} {nL : Nat} {own : String} {dd : Nat} {cs : Nat × Nat} {pc : Nat} {k : bt_K} {c f index : Nat} (hX : bt_Ok X cc nL own dd) (hd : decode cc pc = .ok (.putfield index, 3)) (hF : bt_Fd own index c f) (ht : bt_ty c f = .boolean) (hfin : ∀ q, vwCl[c]? = some q → (q.2.1 f).2.2.2 = false) (h : bt_Snd X nL cs (pc + 3) k) : bt_Snd X nL cs pc (bt_pfZ c f k) := by
  obtain ⟨p, l, e, R, s, m, args, below, meth, cd, A, H0, D, cy, Q, ad⟩ := X
  obtain ⟨hx, hb, hml, hown, hts, hK, hlocks, hA, hrm, hnw⟩ := hX
  intro st L w H locs ls hk hR hS hl
  obtain ⟨C, T, N, hC, hf, hsm, hlk⟩ := hF
  match st, hk with
  | .inl x :: .inr (.inr a) :: r, hk =>
    simp only [List.map_cons, bt_val]
    refine va_put (ty := .boolean) hx hb hts hC.2.2.1 (bt_ty c) hC.2.2.2.1 hC.2.2.2.2 hown hK hR.1 hR.2 hS a (by rw [bt_ws_at hk.1.1, bt_ent_o hk.1.2 hC.1]) hC.2.1 f hf (hts _ hlk) (fun x hx => by rw [hsm] at hx; exact hx) (hfin _ hC.2.1) (by rw [hC.2.2.2.1 f hf, ht]) (by rcases hk.2.1 with h0 | h0 <;> subst h0 <;> decide) (by rcases hk.2.1 with h0 | h0 <;> subst h0 <;> decide) (by simp [bt_nf_of hC.2.1, hf]) hd (fun H1 locs1 hP1 hD1 hS1 => ?_)
    have e : (bt_ws cy ad w).set a (ad a, .inr (c, ((List.range (bt_nf c)).map (fun k => bt_fv ad w a (bt_tc (bt_ty c k)) k)).set f (.int (bt_i x)))) = bt_ws cy ad (bt_sm w a f x) := by
      refine bt_ws_set rfl ?_ (fun i hi => bt_ent_sm hi)
      rw [bt_ent_o (w := bt_sm w a f x) hk.1.2 hC.1, bt_map_set (g := fun k => bt_fv ad (bt_sm w a f x) a (bt_tc (bt_ty c k)) k)]
      · simp [bt_fv, ht, bt_tc, bt_sm, bt_up]
      · intro j hj
        simp [bt_fv, bt_sm, bt_up, hj]
    rw [e] at hP1 hD1
    exact h _ L _ H1 locs1 ls hk.2.2 ⟨hP1, hD1⟩ hS1 hl
def bt_pfJ (c f : Nat) (k : bt_K) : bt_K := fun st L w => match st with
  | .inr (.inl x) :: .inr (.inr a) :: r => (a < w.1 ∧ (w.2.1 a).1 = c) ∧ k r L (bt_sm w a f x)
  | _ => False
theorem bs_pfJ {X : bt_X} {cc : ByteArray} {nL : Nat} {own : String} {dd : Nat} {cs : Nat × Nat} {pc : Nat} {k : bt_K} {c f index : Nat} (hX : bt_Ok X cc nL own dd) (hd : decode cc pc = .ok (.putfield index, 3)) (hF : bt_Fd own index c f) (ht : bt_ty c f = .long) (hfin : ∀ q, vwCl[c]? = some q → (q.2.1 f).2.2.2 = false) (h : bt_Snd X nL cs (pc + 3) k) : bt_Snd X nL cs pc (bt_pfJ c f k) := by
  obtain ⟨p, l, e, R, s, m, args, below, meth, cd, A, H0, D, cy, Q, ad⟩ := X
  obtain ⟨hx, hb, hml, hown, hts, hK, hlocks, hA, hrm, hnw⟩ := hX
  intro st L w H locs ls hk hR hS hl
  obtain ⟨C, T, N, hC, hf, hsm, hlk⟩ := hF
  match st, hk with
  | .inr (.inl x) :: .inr (.inr a) :: r, hk =>
    simp only [List.map_cons, bt_val]
    refine va_put (ty := .long) hx hb hts hC.2.2.1 (bt_ty c) hC.2.2.2.1 hC.2.2.2.2 hown hK hR.1 hR.2 hS a (by rw [bt_ws_at hk.1.1, bt_ent_o hk.1.2 hC.1]) hC.2.1 f hf (hts _ hlk) (fun x hx => by rw [hsm] at hx; exact hx) (hfin _ hC.2.1) (by rw [hC.2.2.2.1 f hf, ht]) rfl rfl (by simp [bt_nf_of hC.2.1, hf]) hd (fun H1 locs1 hP1 hD1 hS1 => ?_)
    have e : (bt_ws cy ad w).set a (ad a, .inr (c, ((List.range (bt_nf c)).map (fun k => bt_fv ad w a (bt_tc (bt_ty c k)) k)).set f (.long (bt_j x)))) = bt_ws cy ad (bt_sm w a f x) := by
      refine bt_ws_set rfl ?_ (fun i hi => bt_ent_sm hi)
      rw [bt_ent_o (w := bt_sm w a f x) hk.1.2 hC.1, bt_map_set (g := fun k => bt_fv ad (bt_sm w a f x) a (bt_tc (bt_ty c k)) k)]
      · simp [bt_fv, ht, bt_tc, bt_sm, bt_up]
      · intro j hj
        simp [bt_fv, bt_sm, bt_up, hj]
    rw [e] at hP1 hD1
    exact h _ L _ H1 locs1 ls hk.2 ⟨hP1, hD1⟩ hS1 hl
def bt_pfR (c f : Nat) (k : bt_K) : bt_K := fun st L w => match st with
  | .inr (.inr b) :: .inr (.inr a) :: r => (a < w.1 ∧ (w.2.1 a).1 = c) ∧ k r L (bt_sr w a f b)
  | _ => False
theorem bs_pfR {X : bt_X} {cc : ByteArray} {nL : Nat} {own : String} {dd : Nat} {cs : Nat × Nat} {pc : Nat} {k : bt_K} {c f index : Nat} (hX : bt_Ok X cc nL own dd) (hd : decode cc pc = .ok (.putfield index, 3)) (hF : bt_Fd own index c f) {C0 : String} (ht : bt_ty c f = .object C0) (hfin : ∀ q, vwCl[c]? = some q → (q.2.1 f).2.2.2 = false) (h : bt_Snd X nL cs (pc + 3) k) : bt_Snd X nL cs pc (bt_pfR c f k) := by
  obtain ⟨p, l, e, R, s, m, args, below, meth, cd, A, H0, D, cy, Q, ad⟩ := X
  obtain ⟨hx, hb, hml, hown, hts, hK, hlocks, hA, hrm, hnw⟩ := hX
  intro st L w H locs ls hk hR hS hl
  obtain ⟨C, T, N, hC, hf, hsm, hlk⟩ := hF
  match st, hk with
  | .inr (.inr b) :: .inr (.inr a) :: r, hk =>
    simp only [List.map_cons, bt_val]
    refine va_put (ty := .object C0) hx hb hts hC.2.2.1 (bt_ty c) hC.2.2.2.1 hC.2.2.2.2 hown hK hR.1 hR.2 hS a (by rw [bt_ws_at hk.1.1, bt_ent_o hk.1.2 hC.1]) hC.2.1 f hf (hts _ hlk) (fun x hx => by rw [hsm] at hx; exact hx) (hfin _ hC.2.1) (by rw [hC.2.2.2.1 f hf, ht]) rfl rfl (by simp [bt_nf_of hC.2.1, hf]) hd (fun H1 locs1 hP1 hD1 hS1 => ?_)
    have e : (bt_ws cy ad w).set a (ad a, .inr (c, ((List.range (bt_nf c)).map (fun k => bt_fv ad w a (bt_tc (bt_ty c k)) k)).set f (.ref (ad b)))) = bt_ws cy ad (bt_sr w a f b) := by
      refine bt_ws_set rfl ?_ (fun i hi => bt_ent_sr hi)
      rw [bt_ent_o (w := bt_sr w a f b) hk.1.2 hC.1, bt_map_set (g := fun k => bt_fv ad (bt_sr w a f b) a (bt_tc (bt_ty c k)) k)]
      · simp [bt_fv, ht, bt_tc, bt_sr, bt_ur, va_rf]
      · intro j hj
        simp [bt_fv, bt_sr, bt_ur, hj]
    rw [e] at hP1 hD1
    exact h _ L _ H1 locs1 ls hk.2 ⟨hP1, hD1⟩ hS1 hl
theorem bt_vpin {i : Int} {n : Nat} (h0 : 0 ≤ bt_w i) (h1 : bt_w i < n) : vp_in (bt_i i) n := by
  intro h
  rcases h with h | h
  · have := bt_lt0.mp h; omega
  · have h2 : n ≤ (bt_w i).toNat := h
    omega
def bt_ix (w : bt_W) (a kd : Nat) (i : Int) : Prop := (a < w.1 ∧ (w.2.1 a).1 = kd) ∧ 0 ≤ bt_w i ∧ bt_w i < ((w.2.1 a).2 : Int)
theorem bt_ent_n {cy : Nat → ClassId} {ad : Nat → Nat} {w : bt_W} {a c : Nat} (h : (w.2.1 a).1 = c) (hc : c = 12 ∨ c = 13 ∨ c = 15) : bt_ent cy ad w a = .inl (cy c, (w.2.1 a).2, .inl (fun j => bt_i (w.2.2.2 a j))) := by
  unfold bt_ent
  rw [h, if_neg (by omega), if_neg (by omega), if_pos (by omega)]
theorem bt_ent_l {cy : Nat → ClassId} {ad : Nat → Nat} {w : bt_W} {a : Nat} (h : (w.2.1 a).1 = 14) : bt_ent cy ad w a = .inl (cy 14, (w.2.1 a).2, .inr (.inl (fun j => bt_j (w.2.2.2 a j)))) := by
  unfold bt_ent
  rw [h, if_neg (by omega), if_pos rfl]
theorem bt_ent_r {cy : Nat → ClassId} {ad : Nat → Nat} {w : bt_W} {a c : Nat} (h : (w.2.1 a).1 = c) (hc : c = 16 ∨ c = 17) : bt_ent cy ad w a = .inl (cy c, (w.2.1 a).2, .inr (.inr (.inr (.inr (fun j => (w.2.2.1 a j).map ad))))) := by
  unfold bt_ent
  rw [h, if_neg (by omega), if_neg (by omega), if_neg (by omega)]

def bt_ial (k : bt_K) : bt_K := fun st L w => match st with
  | .inl i :: .inr (.inr a) :: r => bt_ix w a 13 i ∧ k (.inl (w.2.2.2 a (bt_w i).toNat) :: r) L w
  | _ => False
theorem bs_ial {X : bt_X} {cc : ByteArray} {nL : Nat} {own : String} {dd : Nat} {cs : Nat × Nat} {pc : Nat} {k : bt_K} (hX : bt_Ok X cc nL own dd) (hd : decode cc pc = .ok (.iaload, 1)) (h : bt_Snd X nL cs (pc + 1) k) : bt_Snd X nL cs pc (bt_ial k) := by
  obtain ⟨p, l, e, R, s, m, args, below, meth, cd, A, H0, D, cy, Q, ad⟩ := X
  obtain ⟨hx, hb, hml, hown, hts, hK, hlocks, hA, hrm, hnw⟩ := hX
  intro st L w H locs ls hk hR hS hl
  match st, hk with
  | .inl i :: .inr (.inr a) :: r, hk =>
    have h2 := h _ L w H locs ls hk.2 hR hS hl
    simp only [List.map_cons, bt_val] at h2 ⊢
    exact va_iald hx hb hK hR.1 a 1 (by rw [bt_ws_at hk.1.1.1, bt_ent_n hk.1.1.2 (by omega)]) rfl (bt_vpin hk.1.2.1 hk.1.2.2) hd h2
def bt_bal (k : bt_K) : bt_K := fun st L w => match st with
  | .inl i :: .inr (.inr a) :: r => bt_ix w a 12 i ∧ k (.inl (w.2.2.2 a (bt_w i).toNat) :: r) L w
  | _ => False
theorem bs_bal {X : bt_X} {cc : ByteArray} {nL : Nat} {own : String} {dd : Nat} {cs : Nat × Nat} {pc : Nat} {k : bt_K} (hX : bt_Ok X cc nL own dd) (hd : decode cc pc = .ok (.baload, 1)) (h : bt_Snd X nL cs (pc + 1) k) : bt_Snd X nL cs pc (bt_bal k) := by
  obtain ⟨p, l, e, R, s, m, args, below, meth, cd, A, H0, D, cy, Q, ad⟩ := X
  obtain ⟨hx, hb, hml, hown, hts, hK, hlocks, hA, hrm, hnw⟩ := hX
  intro st L w H locs ls hk hR hS hl
  match st, hk with
  | .inl i :: .inr (.inr a) :: r, hk =>
    have h2 := h _ L w H locs ls hk.2 hR hS hl
    simp only [List.map_cons, bt_val] at h2 ⊢
    exact va_bald hx hb hK hR.1 a 0 (by rw [bt_ws_at hk.1.1.1, bt_ent_n hk.1.1.2 (by omega)]) rfl (bt_vpin hk.1.2.1 hk.1.2.2) hd h2
def bt_zal (k : bt_K) : bt_K := fun st L w => match st with
  | .inl i :: .inr (.inr a) :: r => bt_ix w a 15 i ∧ k (.inl (w.2.2.2 a (bt_w i).toNat) :: r) L w
  | _ => False
theorem bs_zal {X : bt_X} {cc : ByteArray} {nL : Nat} {own : String} {dd : Nat} {cs : Nat × Nat} {pc : Nat} {k : bt_K} (hX : bt_Ok X cc nL own dd) (hd : decode cc pc = .ok (.baload, 1)) (h : bt_Snd X nL cs (pc + 1) k) : bt_Snd X nL cs pc (bt_zal k) := by
  obtain ⟨p, l, e, R, s, m, args, below, meth, cd, A, H0, D, cy, Q, ad⟩ := X
  obtain ⟨hx, hb, hml, hown, hts, hK, hlocks, hA, hrm, hnw⟩ := hX
  intro st L w H locs ls hk hR hS hl
  match st, hk with
  | .inl i :: .inr (.inr a) :: r, hk =>
    have h2 := h _ L w H locs ls hk.2 hR hS hl
    simp only [List.map_cons, bt_val] at h2 ⊢
    exact va_zald hx hb hK hR.1 a 3 (by rw [bt_ws_at hk.1.1.1, bt_ent_n hk.1.1.2 (by omega)]) rfl (bt_vpin hk.1.2.1 hk.1.2.2) hd h2
def bt_lal (k : bt_K) : bt_K := fun st L w => match st with
  | .inl i :: .inr (.inr a) :: r => bt_ix w a 14 i ∧ k (.inr (.inl (w.2.2.2 a (bt_w i).toNat)) :: r) L w
  | _ => False
theorem bs_lal {X : bt_X} {cc : ByteArray} {nL : Nat} {own : String} {dd : Nat} {cs : Nat × Nat} {pc : Nat} {k : bt_K} (hX : bt_Ok X cc nL own dd) (hd : decode cc pc = .ok (.laload, 1)) (h : bt_Snd X nL cs (pc + 1) k) : bt_Snd X nL cs pc (bt_lal k) := by
  obtain ⟨p, l, e, R, s, m, args, below, meth, cd, A, H0, D, cy, Q, ad⟩ := X
  obtain ⟨hx, hb, hml, hown, hts, hK, hlocks, hA, hrm, hnw⟩ := hX
  intro st L w H locs ls hk hR hS hl
  match st, hk with
  | .inl i :: .inr (.inr a) :: r, hk =>
    have h2 := h _ L w H locs ls hk.2 hR hS hl
    simp only [List.map_cons, bt_val] at h2 ⊢
    exact va_lald hx hb hK hR.1 a 2 (by rw [bt_ws_at hk.1.1.1, bt_ent_l hk.1.1.2]) rfl (bt_vpin hk.1.2.1 hk.1.2.2) hd h2
def bt_aal (kd : Nat) (k : bt_K) : bt_K := fun st L w => match st with
  | .inl i :: .inr (.inr a) :: r => bt_ix w a kd i ∧ (match w.2.2.1 a (bt_w i).toNat with
    | some b => k (.inr (.inr b) :: r) L w
    | none => False)
  | _ => False
theorem bs_aal {X : bt_X} {cc : ByteArray} {nL : Nat} {own : String} {dd : Nat} {cs : Nat × Nat} {pc : Nat} {k : bt_K} {kd : Nat} (hX : bt_Ok X cc nL own dd) (hd : decode cc pc = .ok (.aaload, 1)) (hkd : kd = 16 ∨ kd = 17) (h : bt_Snd X nL cs (pc + 1) k) : bt_Snd X nL cs pc (bt_aal kd k) := by
  obtain ⟨p, l, e, R, s, m, args, below, meth, cd, A, H0, D, cy, Q, ad⟩ := X
  obtain ⟨hx, hb, hml, hown, hts, hK, hlocks, hA, hrm, hnw⟩ := hX
  intro st L w H locs ls hk hR hS hl
  match st, hk with
  | .inl i :: .inr (.inr a) :: r, hk =>
    obtain ⟨h1, hk⟩ := hk
    cases hb2 : w.2.2.1 a (bt_w i).toNat with
    | none => rw [hb2] at hk; exact hk.elim
    | some b =>
      rw [hb2] at hk
      have h2 := h _ L w H locs ls hk hR hS hl
      simp only [List.map_cons, bt_val] at h2 ⊢
      rcases hkd with rfl | rfl
      · refine va_aldq hx hb hK hR.1 a 4 (by rw [bt_ws_at h1.1.1, bt_ent_r h1.1.2 (by omega)]) rfl (bt_vpin h1.2.1 h1.2.2) hd ?_
        show W p l e R s m args below meth cd H locs cs.1 cs.2 Q (F0 m (pc + 1) ls (va_rf ((w.2.2.1 a (bt_w i).toNat).map ad) :: _))
        rw [hb2]
        exact h2
      · refine va_aldq hx hb hK hR.1 a 5 (by rw [bt_ws_at h1.1.1, bt_ent_r h1.1.2 (by omega)]) rfl (bt_vpin h1.2.1 h1.2.2) hd ?_
        show W p l e R s m args below meth cd H locs cs.1 cs.2 Q (F0 m (pc + 1) ls (va_rf ((w.2.2.1 a (bt_w i).toNat).map ad) :: _))
        rw [hb2]
        exact h2
def bo_byte (x : Int) : Int := (vp_nar .byte (bt_i x)).toInt
def bo_bool (x : Int) : Int := (vp_nar .boolean (bt_i x)).toInt
def bt_ias (k : bt_K) : bt_K := fun st L w => match st with
  | .inl x :: .inl i :: .inr (.inr a) :: r => bt_ix w a 13 i ∧ k r L (bt_sm w a (bt_w i).toNat x)
  | _ => False
theorem bs_ias {X : bt_X} {cc : ByteArray} {nL : Nat} {own : String} {dd : Nat} {cs : Nat × Nat} {pc : Nat} {k : bt_K} (hX : bt_Ok X cc nL own dd) (hd : decode cc pc = .ok (.iastore, 1)) (h : bt_Snd X nL cs (pc + 1) k) : bt_Snd X nL cs pc (bt_ias k) := by
  obtain ⟨p, l, e, R, s, m, args, below, meth, cd, A, H0, D, cy, Q, ad⟩ := X
  obtain ⟨hx, hb, hml, hown, hts, hK, hlocks, hA, hrm, hnw⟩ := hX
  intro st L w H locs ls hk hR hS hl
  match st, hk with
  | .inl x :: .inl i :: .inr (.inr a) :: r, hk =>
    simp only [List.map_cons, bt_val]
    refine va_iast hx hb hK hR.1 hR.2 hS a 1 (by rw [bt_ws_at hk.1.1.1, bt_ent_n hk.1.1.2 (by omega)]) rfl (bt_vpin hk.1.2.1 hk.1.2.2) hd (fun H1 locs1 hP1 hD1 hS1 => ?_)
    have e : (bt_ws cy ad w).set a (ad a, .inl (cy 13, (w.2.1 a).2, .inl (upd (fun j => bt_i (w.2.2.2 a j)) (bt_i i).toNatClampNeg (bt_i x)))) = bt_ws cy ad (bt_sm w a (bt_w i).toNat x) := by
      refine bt_ws_set rfl ?_ (fun i hi => bt_ent_sm hi)
      rw [bt_ent_n (w := bt_sm w a (bt_w i).toNat x) hk.1.1.2 (by omega)]
      have e1 : (bt_i i).toNatClampNeg = (bt_w i).toNat := rfl
      rw [e1]
      congr 4
      funext j
      by_cases hj : j = (bt_w i).toNat
      · simp [upd, bt_sm, bt_up, hj, bo_byte, bo_bool, bt_it]
      · simp [upd, bt_sm, bt_up, hj]
    rw [e] at hP1 hD1
    exact h _ L _ H1 locs1 ls hk.2 ⟨hP1, hD1⟩ hS1 hl
def bt_bas (k : bt_K) : bt_K := fun st L w => match st with
  | .inl x :: .inl i :: .inr (.inr a) :: r => bt_ix w a 12 i ∧ k r L (bt_sm w a (bt_w i).toNat (bo_byte x))
  | _ => False
theorem bs_bas {X : bt_X} {cc : ByteArray} {nL : Nat} {own : String} {dd : Nat} {cs : Nat × Nat} {pc : Nat} {k : bt_K} (hX : bt_Ok X cc nL own dd) (hd : decode cc pc = .ok (.bastore, 1)) (h : bt_Snd X nL cs (pc + 1) k) : bt_Snd X nL cs pc (bt_bas k) := by
  obtain ⟨p, l, e, R, s, m, args, below, meth, cd, A, H0, D, cy, Q, ad⟩ := X
  obtain ⟨hx, hb, hml, hown, hts, hK, hlocks, hA, hrm, hnw⟩ := hX
  intro st L w H locs ls hk hR hS hl
  match st, hk with
  | .inl x :: .inl i :: .inr (.inr a) :: r, hk =>
    simp only [List.map_cons, bt_val]
    refine va_bast hx hb hK hR.1 hR.2 hS a 0 (by rw [bt_ws_at hk.1.1.1, bt_ent_n hk.1.1.2 (by omega)]) rfl (bt_vpin hk.1.2.1 hk.1.2.2) hd (fun H1 locs1 hP1 hD1 hS1 => ?_)
    have e : (bt_ws cy ad w).set a (ad a, .inl (cy 12, (w.2.1 a).2, .inl (upd (fun j => bt_i (w.2.2.2 a j)) (bt_i i).toNatClampNeg (vp_nar .byte (bt_i x))))) = bt_ws cy ad (bt_sm w a (bt_w i).toNat (bo_byte x)) := by
      refine bt_ws_set rfl ?_ (fun i hi => bt_ent_sm hi)
      rw [bt_ent_n (w := bt_sm w a (bt_w i).toNat (bo_byte x)) hk.1.1.2 (by omega)]
      have e1 : (bt_i i).toNatClampNeg = (bt_w i).toNat := rfl
      rw [e1]
      congr 4
      funext j
      by_cases hj : j = (bt_w i).toNat
      · simp [upd, bt_sm, bt_up, hj, bo_byte, bo_bool, bt_it]
      · simp [upd, bt_sm, bt_up, hj]
    rw [e] at hP1 hD1
    exact h _ L _ H1 locs1 ls hk.2 ⟨hP1, hD1⟩ hS1 hl
def bt_zas (k : bt_K) : bt_K := fun st L w => match st with
  | .inl x :: .inl i :: .inr (.inr a) :: r => bt_ix w a 15 i ∧ k r L (bt_sm w a (bt_w i).toNat (bo_bool x))
  | _ => False
theorem bs_zas {X : bt_X} {cc : ByteArray} {nL : Nat} {own : String} {dd : Nat} {cs : Nat × Nat} {pc : Nat} {k : bt_K} (hX : bt_Ok X cc nL own dd) (hd : decode cc pc = .ok (.bastore, 1)) (h : bt_Snd X nL cs (pc + 1) k) : bt_Snd X nL cs pc (bt_zas k) := by
  obtain ⟨p, l, e, R, s, m, args, below, meth, cd, A, H0, D, cy, Q, ad⟩ := X
  obtain ⟨hx, hb, hml, hown, hts, hK, hlocks, hA, hrm, hnw⟩ := hX
  intro st L w H locs ls hk hR hS hl
  match st, hk with
  | .inl x :: .inl i :: .inr (.inr a) :: r, hk =>
    simp only [List.map_cons, bt_val]
    refine va_zast hx hb hK hR.1 hR.2 hS a 3 (by rw [bt_ws_at hk.1.1.1, bt_ent_n hk.1.1.2 (by omega)]) rfl (bt_vpin hk.1.2.1 hk.1.2.2) hd (fun H1 locs1 hP1 hD1 hS1 => ?_)
    have e : (bt_ws cy ad w).set a (ad a, .inl (cy 15, (w.2.1 a).2, .inl (upd (fun j => bt_i (w.2.2.2 a j)) (bt_i i).toNatClampNeg (vp_nar .boolean (bt_i x))))) = bt_ws cy ad (bt_sm w a (bt_w i).toNat (bo_bool x)) := by
      refine bt_ws_set rfl ?_ (fun i hi => bt_ent_sm hi)
      rw [bt_ent_n (w := bt_sm w a (bt_w i).toNat (bo_bool x)) hk.1.1.2 (by omega)]
      have e1 : (bt_i i).toNatClampNeg = (bt_w i).toNat := rfl
      rw [e1]
      congr 4
      funext j
      by_cases hj : j = (bt_w i).toNat
      · simp [upd, bt_sm, bt_up, hj, bo_byte, bo_bool, bt_it]
      · simp [upd, bt_sm, bt_up, hj]
    rw [e] at hP1 hD1
    exact h _ L _ H1 locs1 ls hk.2 ⟨hP1, hD1⟩ hS1 hl
def bt_las (k : bt_K) : bt_K := fun st L w => match st with
  | .inr (.inl x) :: .inl i :: .inr (.inr a) :: r => bt_ix w a 14 i ∧ k r L (bt_sm w a (bt_w i).toNat x)
  | _ => False
theorem bs_las {X : bt_X} {cc : ByteArray} {nL : Nat} {own : String} {dd : Nat} {cs : Nat × Nat} {pc : Nat} {k : bt_K} (hX : bt_Ok X cc nL own dd) (hd : decode cc pc = .ok (.lastore, 1)) (h : bt_Snd X nL cs (pc + 1) k) : bt_Snd X nL cs pc (bt_las k) := by
  obtain ⟨p, l, e, R, s, m, args, below, meth, cd, A, H0, D, cy, Q, ad⟩ := X
  obtain ⟨hx, hb, hml, hown, hts, hK, hlocks, hA, hrm, hnw⟩ := hX
  intro st L w H locs ls hk hR hS hl
  match st, hk with
  | .inr (.inl x) :: .inl i :: .inr (.inr a) :: r, hk =>
    simp only [List.map_cons, bt_val]
    refine va_last hx hb hK hR.1 hR.2 hS a 2 (by rw [bt_ws_at hk.1.1.1, bt_ent_l hk.1.1.2]) rfl (bt_vpin hk.1.2.1 hk.1.2.2) hd (fun H1 locs1 hP1 hD1 hS1 => ?_)
    have e : (bt_ws cy ad w).set a (ad a, .inl (cy 14, (w.2.1 a).2, .inr (.inl (vp_updL (fun j => bt_j (w.2.2.2 a j)) (bt_i i).toNatClampNeg (bt_j x))))) = bt_ws cy ad (bt_sm w a (bt_w i).toNat x) := by
      refine bt_ws_set rfl ?_ (fun i hi => bt_ent_sm hi)
      rw [bt_ent_l (w := bt_sm w a (bt_w i).toNat x) hk.1.1.2]
      have e1 : (bt_i i).toNatClampNeg = (bt_w i).toNat := rfl
      rw [e1]
      congr 4
      congr 1
      funext j
      by_cases hj : j = (bt_w i).toNat
      · simp [vp_updL, bt_sm, bt_up, hj, bo_byte, bo_bool, bt_it]
      · simp [vp_updL, bt_sm, bt_up, hj]
    rw [e] at hP1 hD1
    exact h _ L _ H1 locs1 ls hk.2 ⟨hP1, hD1⟩ hS1 hl
def bt_len (kd : Nat) (k : bt_K) : bt_K := fun st L w => match st with
  | .inr (.inr a) :: r => (a < w.1 ∧ (w.2.1 a).1 = kd) ∧ k (.inl ((w.2.1 a).2 : Int) :: r) L w
  | _ => False
theorem bs_len {X : bt_X} {cc : ByteArray} {nL : Nat} {own : String} {dd : Nat} {cs : Nat × Nat} {pc : Nat} {k : bt_K} {kd : Nat} (hX : bt_Ok X cc nL own dd) (hd : decode cc pc = .ok (.arraylength, 1)) (hkd : kd = 13 ∨ kd = 14) (h : bt_Snd X nL cs (pc + 1) k) : bt_Snd X nL cs pc (bt_len kd k) := by
  obtain ⟨p, l, e, R, s, m, args, below, meth, cd, A, H0, D, cy, Q, ad⟩ := X
  obtain ⟨hx, hb, hml, hown, hts, hK, hlocks, hA, hrm, hnw⟩ := hX
  intro st L w H locs ls hk hR hS hl
  match st, hk with
  | .inr (.inr a) :: r, hk =>
    have h2 := h _ L w H locs ls hk.2 hR hS hl
    simp only [List.map_cons, bt_val] at h2 ⊢
    have e : Int32.ofNat (w.2.1 a).2 = bt_i ((w.2.1 a).2 : Int) := by
      apply Int32.toInt_inj.mp
      simp [bt_i]
    rcases hkd with rfl | rfl
    · exact va_alen hx hb hK hR.1 a 1 (by rw [bt_ws_at hk.1.1, bt_ent_n hk.1.2 (by omega)]) rfl e hd h2
    · exact va_alen hx hb hK hR.1 a 2 (by rw [bt_ws_at hk.1.1, bt_ent_l hk.1.2]) rfl e hd h2
def bt_iret (Post : Option bt_V → bt_W → Prop) : bt_K := fun st _ w => match st with
  | [.inl x] => Post (some (.inl x)) w
  | _ => False
theorem bs_iret {X : bt_X} {cc : ByteArray} {nL : Nat} {own : String} {dd : Nat} {cs : Nat × Nat} {pc : Nat} {Post : Option bt_V → bt_W → Prop} (hX : bt_Ok X cc nL own dd) (hd : decode cc pc = .ok (.ireturn, 1)) (hq : bt_Rt X cs (some .int) Post) : bt_Snd X nL cs pc (bt_iret Post) := by
  obtain ⟨p, l, e, R, s, m, args, below, meth, cd, A, H0, D, cy, Q, ad⟩ := X
  obtain ⟨hx, hb, hml, hown, hts, hK, hlocks, hA, hrm, hnw⟩ := hX
  intro st L w H locs ls hk hR hS hl
  obtain ⟨Qc, rfl, hr, hq⟩ := hq
  match st, hk with
  | [.inl x], hk => exact W.iret hx hb hr (fun t ht hW => hq _ w H locs t hk hR hS ht hW) hS.2.2 hd
def bt_zret (Post : Option bt_V → bt_W → Prop) : bt_K := fun st _ w => match st with
  | [.inl x] => (x = 0 ∨ x = 1) ∧ Post (some (.inl x)) w
  | _ => False
theorem bs_zret {X : bt_X} {cc : ByteArray} {nL : Nat} {own : String} {dd : Nat} {cs : Nat × Nat} {pc : Nat} {Post : Option bt_V → bt_W → Prop} (hX : bt_Ok X cc nL own dd) (hd : decode cc pc = .ok (.ireturn, 1)) (hq : bt_Rt X cs (some .boolean) Post) : bt_Snd X nL cs pc (bt_zret Post) := by
  obtain ⟨p, l, e, R, s, m, args, below, meth, cd, A, H0, D, cy, Q, ad⟩ := X
  obtain ⟨hx, hb, hml, hown, hts, hK, hlocks, hA, hrm, hnw⟩ := hX
  intro st L w H locs ls hk hR hS hl
  obtain ⟨Qc, rfl, hr, hq⟩ := hq
  match st, hk with
  | [.inl x], hk => exact W.zret hx hb hr (by rcases hk.1 with h0 | h0 <;> subst h0 <;> decide) (fun t ht hW => hq _ w H locs t hk.2 hR hS ht hW) hS.2.2 hd
def bt_lret (Post : Option bt_V → bt_W → Prop) : bt_K := fun st _ w => match st with
  | [.inr (.inl x)] => Post (some (.inr (.inl x))) w
  | _ => False
theorem bs_lret {X : bt_X} {cc : ByteArray} {nL : Nat} {own : String} {dd : Nat} {cs : Nat × Nat} {pc : Nat} {Post : Option bt_V → bt_W → Prop} (hX : bt_Ok X cc nL own dd) (hd : decode cc pc = .ok (.lreturn, 1)) (hq : bt_Rt X cs (some .long) Post) : bt_Snd X nL cs pc (bt_lret Post) := by
  obtain ⟨p, l, e, R, s, m, args, below, meth, cd, A, H0, D, cy, Q, ad⟩ := X
  obtain ⟨hx, hb, hml, hown, hts, hK, hlocks, hA, hrm, hnw⟩ := hX
  intro st L w H locs ls hk hR hS hl
  obtain ⟨Qc, rfl, hr, hq⟩ := hq
  match st, hk with
  | [.inr (.inl x)], hk => exact W.lret hx hb hr (fun t ht hW => hq _ w H locs t hk hR hS ht hW) hS.2.2 hd
def bt_vret (Post : Option bt_V → bt_W → Prop) : bt_K := fun st _ w => match st with
  | [] => Post none w
  | _ => False
theorem bs_vret {X : bt_X} {cc : ByteArray} {nL : Nat} {own : String} {dd : Nat} {cs : Nat × Nat} {pc : Nat} {Post : Option bt_V → bt_W → Prop} (hX : bt_Ok X cc nL own dd) (hd : decode cc pc = .ok (.return_, 1)) (hq : bt_Rt X cs none Post) : bt_Snd X nL cs pc (bt_vret Post) := by
  obtain ⟨p, l, e, R, s, m, args, below, meth, cd, A, H0, D, cy, Q, ad⟩ := X
  obtain ⟨hx, hb, hml, hown, hts, hK, hlocks, hA, hrm, hnw⟩ := hX
  intro st L w H locs ls hk hR hS hl
  obtain ⟨Qc, rfl, hr, hq⟩ := hq
  match st, hk with
  | [], hk => exact W.vret hx hb hr (fun t ht hW => hq none w H locs t hk hR hS ht hW) hS.2.2 hd
