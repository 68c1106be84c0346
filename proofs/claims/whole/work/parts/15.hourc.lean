/-! Hour: foresee -/
theorem bo_shl1 {k : Nat} (hk : k < 31) : bo_ishl 1 (k : Int) = ((2 ^ k : Nat) : Int) := by
  have h1 : 2 ^ k < 2 ^ 31 := Nat.pow_lt_pow_right (by decide) hk
  have := bo_ishl_nat (a := 1) (k := k) (by omega) (by omega)
  rw [Nat.one_mul] at this
  exact this
/-- what pen p is worth to one that likes the kinds K -/
def hn_w (see : Nat → Int) (wh md kd : Nat → Nat) (n K p : Nat) : Int := bt_sn (fun g => if wh g = p then see ((if K.testBit (kd g) then 10 + md g else md g) * 6 + (hn_c wh p n - 1)) else 0) n
theorem hn_w_split (see : Nat → Int) (wh md kd o : Nat → Nat) (K p : Nat) : ∀ n, (∀ g, g < n → kd g < 4) → hn_pl see wh md o p n + bt_sn (fun k => if K.testBit k then hn_lk see wh md kd o k p n else 0) 4 = bt_sn (fun g => if wh g = p then see ((if K.testBit (kd g) then 10 + md g else md g) * 6 + o p) else 0) n
  | 0, _ => by simp [hn_pl, hn_lk, bt_sn]
  | n + 1, h => by
    have ih := hn_w_split see wh md kd o K p n (fun g hg => h g (by omega))
    have hk := h n (by omega)
    unfold hn_pl hn_lk at *
    simp only [bt_sn] at *
    by_cases hw : wh n = p
    · have : kd n = 0 ∨ kd n = 1 ∨ kd n = 2 ∨ kd n = 3 := by omega
      rcases this with e | e | e | e <;> simp only [hw, e, true_and, and_true, if_true, Nat.reduceEqDiff, if_false, Int.add_zero] at * <;> (split <;> split <;> split <;> split <;> simp_all <;> omega)
    · simp only [hw, false_and, if_false, Int.add_zero]
      exact ih
theorem hn_w_wt {μ : Nat → Nat → Int} {see : Nat → Int} {h n : Nat} {wh md kd : Nat → Nat} (hW : bt_Wg μ see h n wh md kd) (hk : ∀ g, g < n → kd g < 4) {K p : Nat} (hp : p < 6) : hn_wt μ h K p = hn_w see wh md kd n K p := by
  unfold hn_wt hn_w
  rw [← hn_w_split see wh md kd (fun p => hn_c wh p n - 1) K p n hk, hW.2.1 p hp]
  congr 1
  exact bt_sn_congr (fun k hk2 => by rw [hW.2.2 k hk2 p hp])
theorem bt_sn_rg {f : Nat → Int} {B : Int} : ∀ n, (∀ g, g < n → 0 ≤ f g ∧ f g ≤ B) → 0 ≤ bt_sn f n ∧ bt_sn f n ≤ n * B
  | 0, _ => by simp [bt_sn]
  | n + 1, h => by
    have h1 := bt_sn_rg n (fun g hg => h g (by omega))
    have h2 := h n (by omega)
    unfold bt_sn
    rw [show ((n + 1 : Nat) : Int) * B = n * B + B by rw [Int.natCast_add, Int.add_mul]; simp]
    omega
theorem hn_w_rg {see : Nat → Int} {wh md kd : Nat → Nat} {n : Nat} (hn : n ≤ 6) (hm : ∀ g, g < n → md g < 10) (hs : ∀ k, k < 120 → 0 ≤ see k ∧ see k ≤ 99) (K p : Nat) : 0 ≤ hn_w see wh md kd n K p ∧ hn_w see wh md kd n K p ≤ 594 := by
  have h1 := bt_sn_rg (f := fun g => if wh g = p then see ((if K.testBit (kd g) then 10 + md g else md g) * 6 + (hn_c wh p n - 1)) else 0) (B := 99) n (fun g hg => by
    have hc := hn_c_le wh p n
    have hm1 := hm g hg
    have hq : (if K.testBit (kd g) then 10 + md g else md g) * 6 + (hn_c wh p n - 1) < 120 := by split <;> omega
    have := hs _ hq
    split
    · exact this
    · omega)
  unfold hn_w
  have : (n : Int) * 99 ≤ 594 := by omega
  omega
/-- the seats that are left behind a animals -/
def hn_sl (P : Nat) (seats : Nat → Int) (wt : Nat → Nat → Int) : Nat → Nat → Int
  | 0 => seats
  | a + 1 => fun p => if (hn_pk (fun p => decide (0 < hn_sl P seats wt a p)) (wt a) P).1 = (p : Int) then hn_sl P seats wt a p - 1 else hn_sl P seats wt a p
def hn_bp (P : Nat) (seats : Nat → Int) (wt : Nat → Nat → Int) (a : Nat) : Int × Int := hn_pk (fun p => decide (0 < hn_sl P seats wt a p)) (wt a) P
theorem hn_sl_rg {P : Nat} {seats : Nat → Int} {wt : Nat → Nat → Int} (h : ∀ p, p < P → 0 ≤ seats p ∧ seats p ≤ 9) : ∀ a p, p < P → 0 ≤ hn_sl P seats wt a p ∧ hn_sl P seats wt a p ≤ 9
  | 0, p, hp => h p hp
  | a + 1, p, hp => by
    have ih := hn_sl_rg (wt := wt) h a p hp
    unfold hn_sl
    split
    next e =>
      rcases hn_pk_of (ok := fun p => decide (0 < hn_sl P seats wt a p)) (wt := wt a) (n := P) with h1 | ⟨q, h1, h2, h3, -⟩
      · omega
      · have : q = p := by omega
        subst this
        have : 0 < hn_sl P seats wt a q := by simpa using h3
        omega
    next => exact ih
/-- by weather (0: rain): where animal a goes, what it pays, the seats behind a animals -/
def hn_B (dr : Int) (P : Nat) (seats : Nat → Int) (wt : Nat → Nat → Int) (a : Nat) : Int := if dr = 0 then -1 else (hn_bp P seats wt a).1
def hn_Y (dr : Int) (P : Nat) (seats : Nat → Int) (wt : Nat → Nat → Int) (co : Nat → Int) (a : Nat) : Int := if dr = 0 then 0 else if (hn_bp P seats wt a).2 < co a then (hn_bp P seats wt a).2 else co a
def hn_S (dr : Int) (P : Nat) (seats : Nat → Int) (wt : Nat → Nat → Int) (a p : Nat) : Int := if dr = 0 then seats p else hn_sl P seats wt a p
def hn_wa (see : Nat → Int) (wh md kd lk : Nat → Nat) (n : Nat) : Nat → Nat → Int := fun a p => hn_w see wh md kd n (2 ^ lk a) p
/-- guests and animals of a zoo and a state -/
def bt_Hq (μ : Nat → Nat → Int) (z s n A P : Nat) (wh md kd lk : Nat → Nat) : Prop := bt_Hp μ z s n wh md kd ∧ (μ z 2 = (A : Int) ∧ A ≤ 5 ∧ μ z 0 = (P : Int) ∧ P ≤ 6) ∧ (∀ a, a < A → μ (z + 6) a = (lk a : Int) ∧ lk a < 4 ∧ 0 ≤ μ (s + 3) a ∧ μ (s + 3) a ≤ 999) ∧ (∀ p, p < P → 0 ≤ μ (z + 4) p ∧ μ (z + 4) p ≤ 9) ∧ ∀ k, k < 120 → 0 ≤ μ (z + 9) k ∧ μ (z + 9) k ≤ 99
def hn_fed (μ : Nat → Nat → Int) (z s : Nat) : Nat := if bt_w (bo_irem (μ s 0) 10) = bt_w (μ z 4) then 1 else 0
/-- the mood of guest g behind the hour -/
def hn_ma (tb : Nat → Int) (fed : Nat) (wh md : Nat → Nat) (n A : Nat) (B : Nat → Int) (g : Nat) : Int := tb (((fed * 10 + md g) * 6 + (hn_c wh (wh g) n - 1)) * 6 + bt_ct (fun a => decide (B a = (wh g : Int))) A)
def bt_Fs (μ' μ : Nat → Nat → Int) (dr : Int) (h z s n A P : Nat) (wh md kd lk : Nat → Nat) : Prop :=
  (∀ a, a < A → μ' (h + 6) a = hn_B dr P (μ (z + 4)) (hn_wa (μ (z + 9)) wh md kd lk n) a ∧ μ' (h + 7) a = hn_Y dr P (μ (z + 4)) (hn_wa (μ (z + 9)) wh md kd lk n) (μ (s + 3)) a) ∧
  (∀ p, p < 6 → μ' (h + 5) p = ((bt_bn (fun a => decide (hn_B dr P (μ (z + 4)) (hn_wa (μ (z + 9)) wh md kd lk n) a = (p : Int))) A : Nat) : Int)) ∧
  (∀ g, g < n → μ' (h + 8) g = hn_ma (μ (z + 10)) (hn_fed μ z s) wh md n A (hn_B dr P (μ (z + 4)) (hn_wa (μ (z + 9)) wh md kd lk n)) g) ∧
  μ' h 8 = bt_sn (hn_Y dr P (μ (z + 4)) (hn_wa (μ (z + 9)) wh md kd lk n) (μ (s + 3))) A
def SpX1_foresee : bt_Sp := fun As w Q => ∃ (ρ : Nat → Nat → Option Nat) (μ : Nat → Nat → Int) (h z s n A P : Nat) (wh md kd lk : Nat → Nat) (dr : Int), As = [.inr (.inr h), .inr (.inr z), .inr (.inr s), .inl dr] ∧ w = bt_wd ρ μ ∧ bt_Rf ρ ∧ h ∈ bt_hos ∧ z ∈ bt_zos ∧ s ∈ bt_sts ∧ (dr = 0 ∨ dr = 1) ∧ bt_Hq μ z s n A P wh md kd lk ∧ ∀ μ', bt_Fs μ' μ dr h z s n A P wh md kd lk → bt_fr (fun a => h ≤ a ∧ a ≤ h + 8) μ' μ → Q none (bt_wd ρ μ')
theorem bo_irem10 {x : Int} : (bt_w 10 : Int) ≠ 0 := by decide
theorem hc_step {μ μ1 μ2 : Nat → Nat → Int} {h z s n P i : Nat} {wh md kd lk : Nat → Nat} {dr b y : Int}
    (hfr : bt_fr (fun a => h ≤ a ∧ a ≤ h + 8) μ1 μ) (hW : bt_Wg μ1 (μ (z + 9)) h n wh md kd)
    (hC : ∀ a, a < i → μ1 (h + 6) a = hn_B dr P (μ (z + 4)) (hn_wa (μ (z + 9)) wh md kd lk n) a ∧ μ1 (h + 7) a = hn_Y dr P (μ (z + 4)) (hn_wa (μ (z + 9)) wh md kd lk n) (μ (s + 3)) a)
    (hV : ∀ p, p < 6 → μ1 (h + 5) p = ((bt_bn (fun a => decide (hn_B dr P (μ (z + 4)) (hn_wa (μ (z + 9)) wh md kd lk n) a = (p : Int))) i : Nat) : Int))
    (hSe : ∀ p, p < P → μ1 (h + 4) p = hn_S dr P (μ (z + 4)) (hn_wa (μ (z + 9)) wh md kd lk n) i p)
    (hT : μ1 h 8 = bt_sn (hn_Y dr P (μ (z + 4)) (hn_wa (μ (z + 9)) wh md kd lk n) (μ (s + 3))) i) (hP6 : P ≤ 6)
    (hb : b = hn_B dr P (μ (z + 4)) (hn_wa (μ (z + 9)) wh md kd lk n) i) (hy : y = hn_Y dr P (μ (z + 4)) (hn_wa (μ (z + 9)) wh md kd lk n) (μ (s + 3)) i)
    (k6 : ∀ a, μ2 (h + 6) a = if a = i then b else μ1 (h + 6) a) (k7 : ∀ a, μ2 (h + 7) a = if a = i then y else μ1 (h + 7) a)
    (k5 : ∀ p, p < 6 → μ2 (h + 5) p = if b = (p : Int) then μ1 (h + 5) p + ((2 ^ i : Nat) : Int) else μ1 (h + 5) p) (k4 : ∀ p, p < P → μ2 (h + 4) p = if b = (p : Int) then μ1 (h + 4) p - 1 else μ1 (h + 4) p)
    (k8 : μ2 h 8 = μ1 h 8 + y) (kf : ∀ a, (a < h ∨ h + 8 < a ∨ (h + 1 ≤ a ∧ a ≤ h + 3)) → μ2 a = μ1 a) :
    bt_fr (fun a => h ≤ a ∧ a ≤ h + 8) μ2 μ ∧ bt_Wg μ2 (μ (z + 9)) h n wh md kd ∧
    (∀ a, a < i + 1 → μ2 (h + 6) a = hn_B dr P (μ (z + 4)) (hn_wa (μ (z + 9)) wh md kd lk n) a ∧ μ2 (h + 7) a = hn_Y dr P (μ (z + 4)) (hn_wa (μ (z + 9)) wh md kd lk n) (μ (s + 3)) a) ∧
    (∀ p, p < 6 → μ2 (h + 5) p = ((bt_bn (fun a => decide (hn_B dr P (μ (z + 4)) (hn_wa (μ (z + 9)) wh md kd lk n) a = (p : Int))) (i + 1) : Nat) : Int)) ∧
    (∀ p, p < P → μ2 (h + 4) p = hn_S dr P (μ (z + 4)) (hn_wa (μ (z + 9)) wh md kd lk n) (i + 1) p) ∧
    μ2 h 8 = bt_sn (hn_Y dr P (μ (z + 4)) (hn_wa (μ (z + 9)) wh md kd lk n) (μ (s + 3))) (i + 1) := by
  refine ⟨fun a ha => ?_, ⟨fun p hp => ?_, fun p hp => ?_, fun k hk p hp => ?_⟩, fun a ha => ?_, fun p hp => ?_, fun p hp => ?_, ?_⟩
  · rw [kf a (by omega), hfr a ha]
  · rw [kf _ (by omega)]; exact hW.1 p hp
  · rw [kf _ (by omega)]; exact hW.2.1 p hp
  · rw [kf _ (by omega)]; exact hW.2.2 k hk p hp
  · rw [k6, k7]
    by_cases e : a = i
    · subst e; simp [hb, hy]
    · rw [if_neg e, if_neg e]; exact hC a (by omega)
  · rw [k5 p hp, hV p hp, hb, bt_bn_s]
    by_cases e : hn_B dr P (μ (z + 4)) (hn_wa (μ (z + 9)) wh md kd lk n) i = (p : Int)
    · simp [e]
    · simp [e]
  · rw [k4 p hp, hSe p hp, hb]
    unfold hn_S hn_B hn_bp
    by_cases e : dr = 0
    · simp [e]
    · simp [e, hn_sl]
  · rw [k8, hT, hy]
    rfl
set_option maxHeartbeats 4000000 in
theorem mtX1_foresee : bt_Met yX1_foresee cX1_foresee 8 none 3 [2, 2, 2, 0] SpX1_foresee := by
  refine lpX1_foresee mtX1_weigh (by decide) mtX1_freeSeats (by decide) mtX1_choice (by decide) mtX1_worthTo (by decide) mtJ6_bitCount_0f7a4 (by decide) mtX9_moodAt (by decide) (by decide) _ (fun As w Q _ hS => ?_)
  obtain ⟨ρ, μ, h, z, s, n, A, P, wh, md, kd, lk, dr, rfl, rfl, hρ, hh, hz, hs, hdr, hHq, hQ⟩ := hS
  obtain ⟨⟨hn, hn6, hg⟩, ⟨hA, hA5, hP, hP6⟩, hl, hse, hsee⟩ := id hHq
  obtain ⟨a1, a2, a3, a4, a5, a6, a7, a8, a9, a10, a11, a12, a13, a14, a15, a16, a17, a18, a19⟩ := bt_ho_f h hh
  obtain ⟨b1, b2, b3, b4, b5, b6, b7, b8, b9⟩ := bt_st_f s hs
  obtain ⟨c1, c2, c3, c4, c5, c6, c7, c8, c9, c10, c11, c12, c13, c14, c15, c16, c17, c18, c19, c20, c21, c22, c23, c24, c25⟩ := bt_zo_f z hz
  have d1 := bt_st_ho s hs h hh
  have d2 := bt_ho_zo h hh z hz
  have d3 := bt_st_zo s hs z hz
  refine ⟨fun h' m st L w => st = [] ∧ ∃ (i : Nat) (μ1 : Nat → Nat → Int), w = bt_wd ρ μ1 ∧ bt_fr (fun a => h ≤ a ∧ a ≤ h + 8) μ1 μ ∧ bt_Wg μ1 (μ (z + 9)) h n wh md kd ∧
    (if h' = 19 then i ≤ A ∧ m = 100 - i ∧ L = [some (.inr (.inr h)), some (.inr (.inr z)), some (.inr (.inr s)), some (.inl dr), some (.inl (i : Int)), none, none, none] ∧
       (∀ a, a < i → μ1 (h + 6) a = hn_B dr P (μ (z + 4)) (hn_wa (μ (z + 9)) wh md kd lk n) a ∧ μ1 (h + 7) a = hn_Y dr P (μ (z + 4)) (hn_wa (μ (z + 9)) wh md kd lk n) (μ (s + 3)) a) ∧
       (∀ p, p < 6 → μ1 (h + 5) p = ((bt_bn (fun a => decide (hn_B dr P (μ (z + 4)) (hn_wa (μ (z + 9)) wh md kd lk n) a = (p : Int))) i : Nat) : Int)) ∧
       (∀ p, p < P → μ1 (h + 4) p = hn_S dr P (μ (z + 4)) (hn_wa (μ (z + 9)) wh md kd lk n) i p) ∧
       μ1 h 8 = bt_sn (hn_Y dr P (μ (z + 4)) (hn_wa (μ (z + 9)) wh md kd lk n) (μ (s + 3))) i
     else i ≤ n ∧ m = 20 - i ∧ L = [some (.inr (.inr h)), some (.inr (.inr z)), some (.inr (.inr s)), some (.inl dr), some (.inl (hn_fed μ z s : Int)), some (.inl (i : Int)), none, none] ∧
       (∀ a, a < A → μ1 (h + 6) a = hn_B dr P (μ (z + 4)) (hn_wa (μ (z + 9)) wh md kd lk n) a ∧ μ1 (h + 7) a = hn_Y dr P (μ (z + 4)) (hn_wa (μ (z + 9)) wh md kd lk n) (μ (s + 3)) a) ∧
       (∀ p, p < 6 → μ1 (h + 5) p = ((bt_bn (fun a => decide (hn_B dr P (μ (z + 4)) (hn_wa (μ (z + 9)) wh md kd lk n) a = (p : Int))) A : Nat) : Int)) ∧
       (∀ g, g < i → μ1 (h + 8) g = hn_ma (μ (z + 10)) (hn_fed μ z s) wh md n A (hn_B dr P (μ (z + 4)) (hn_wa (μ (z + 9)) wh md kd lk n)) g) ∧
       μ1 h 8 = bt_sn (hn_Y dr P (μ (z + 4)) (hn_wa (μ (z + 9)) wh md kd lk n) (μ (s + 3))) A), ?_, ?_, ?_⟩
  · simp (disch := omega) only [tX1_foresee_0, bt_ild, bt_lld, bt_ald, bt_ist, bt_lst, bt_ast, bt_inc, bt_ic, bt_lc, bt_iadd, bt_isub, bt_imul, bt_iand, bt_ior, bt_ixor, bt_ishl, bt_ishr, bt_iushr, bt_ladd, bt_lsub, bt_lmul, bt_land, bt_lor, bt_lushr, bt_lshl, bt_idiv, bt_irem, bt_ldiv, bt_lrem, bt_lcmp, bt_i2l, bt_l2i, bt_i2b, bt_pop, bt_dup, bt_dup2, bt_gfI, bt_gfJ, bt_gfR, bt_pfI, bt_pfZ, bt_pfJ, bt_pfR, bt_ial, bt_bal, bt_zal, bt_lal, bt_aal, bt_ias, bt_bas, bt_zas, bt_las, bt_len, bt_iret, bt_zret, bt_lret, bt_vret, bt_cV, bt_cS, bt_tab, bt_tsw, bt_lk, bt_lsw, bt_acp, bt_mmax, bt_mmin, bt_can, bt_icmpeq, bt_ifeq, bt_icmpne, bt_ifne, bt_icmplt, bt_iflt, bt_icmpge, bt_ifge, bt_icmpgt, bt_ifgt, bt_icmple, bt_ifle, bt_ret, bt_kill, bt_kl, bt_ix, bt_nl, bt_sm, bt_sr, bt_sig, bt_tg, bt_loc, bt_locs, List.getElem?_cons_zero, List.getElem?_cons_succ, List.set_cons_zero, List.set_cons_succ, List.map_cons, List.map_nil, List.take_succ_cons, List.take_zero, List.drop_succ_cons, List.drop_zero, List.reverse_cons, List.reverse_nil, List.nil_append, List.cons_append, List.append_nil, List.length_cons, List.length_nil, List.replicate_succ, List.replicate_zero, Option.toList_some, Option.toList_none, Nat.reduceAdd, Nat.reduceSub, Nat.reduceLeDiff, Nat.zero_add, Nat.zero_le, true_and, and_true, Int.toNat_natCast, Sum.inl.injEq, Sum.inr.injEq, ↓reduceIte, Nat.reduceEqDiff, hρ h _ a2, a3, a4, a5, a6, a7, a8, a9, a10, a11, a12, a13, a14, a15, a16, a17, a18, a19, bt_w_id]
    refine ⟨by omega, ρ, μ, h, z, s, n, wh, md, kd, rfl, rfl, hρ, hh, hz, hs, ⟨hn, hn6, hg⟩, fun μ' hW hf => ?_⟩
    simp (disch := omega) only [bt_ild, bt_lld, bt_ald, bt_ist, bt_lst, bt_ast, bt_inc, bt_ic, bt_lc, bt_iadd, bt_isub, bt_imul, bt_iand, bt_ior, bt_ixor, bt_ishl, bt_ishr, bt_iushr, bt_ladd, bt_lsub, bt_lmul, bt_land, bt_lor, bt_lushr, bt_lshl, bt_idiv, bt_irem, bt_ldiv, bt_lrem, bt_lcmp, bt_i2l, bt_l2i, bt_i2b, bt_pop, bt_dup, bt_dup2, bt_gfI, bt_gfJ, bt_gfR, bt_pfI, bt_pfZ, bt_pfJ, bt_pfR, bt_ial, bt_bal, bt_zal, bt_lal, bt_aal, bt_ias, bt_bas, bt_zas, bt_las, bt_len, bt_iret, bt_zret, bt_lret, bt_vret, bt_cV, bt_cS, bt_tab, bt_tsw, bt_lk, bt_lsw, bt_acp, bt_mmax, bt_mmin, bt_can, bt_icmpeq, bt_ifeq, bt_icmpne, bt_ifne, bt_icmplt, bt_iflt, bt_icmpge, bt_ifge, bt_icmpgt, bt_ifgt, bt_icmple, bt_ifle, bt_ret, bt_kill, bt_kl, bt_ix, bt_nl, bt_sm, bt_sr, bt_sig, bt_tg, bt_loc, bt_locs, List.getElem?_cons_zero, List.getElem?_cons_succ, List.set_cons_zero, List.set_cons_succ, List.map_cons, List.map_nil, List.take_succ_cons, List.take_zero, List.drop_succ_cons, List.drop_zero, List.reverse_cons, List.reverse_nil, List.nil_append, List.cons_append, List.append_nil, List.length_cons, List.length_nil, List.replicate_succ, List.replicate_zero, Option.toList_some, Option.toList_none, Nat.reduceAdd, Nat.reduceSub, Nat.reduceLeDiff, Nat.zero_add, Nat.zero_le, true_and, and_true, Int.toNat_natCast, Sum.inl.injEq, Sum.inr.injEq, ↓reduceIte, Nat.reduceEqDiff, hρ h _ a2, a3, a4, a5, a6, a7, a8, a9, a10, a11, a12, a13, a14, a15, a16, a17, a18, a19, bt_w_id]
    refine ⟨by omega, ρ, μ', h, z, rfl, rfl, hρ, hh, hz, fun μ2 h2 hf2 => ?_⟩
    simp (disch := omega) only [bt_ild, bt_lld, bt_ald, bt_ist, bt_lst, bt_ast, bt_inc, bt_ic, bt_lc, bt_iadd, bt_isub, bt_imul, bt_iand, bt_ior, bt_ixor, bt_ishl, bt_ishr, bt_iushr, bt_ladd, bt_lsub, bt_lmul, bt_land, bt_lor, bt_lushr, bt_lshl, bt_idiv, bt_irem, bt_ldiv, bt_lrem, bt_lcmp, bt_i2l, bt_l2i, bt_i2b, bt_pop, bt_dup, bt_dup2, bt_gfI, bt_gfJ, bt_gfR, bt_pfI, bt_pfZ, bt_pfJ, bt_pfR, bt_ial, bt_bal, bt_zal, bt_lal, bt_aal, bt_ias, bt_bas, bt_zas, bt_las, bt_len, bt_iret, bt_zret, bt_lret, bt_vret, bt_cV, bt_cS, bt_tab, bt_tsw, bt_lk, bt_lsw, bt_acp, bt_mmax, bt_mmin, bt_can, bt_icmpeq, bt_ifeq, bt_icmpne, bt_ifne, bt_icmplt, bt_iflt, bt_icmpge, bt_ifge, bt_icmpgt, bt_ifgt, bt_icmple, bt_ifle, bt_ret, bt_kill, bt_kl, bt_ix, bt_nl, bt_sm, bt_sr, bt_sig, bt_tg, bt_loc, bt_locs, List.getElem?_cons_zero, List.getElem?_cons_succ, List.set_cons_zero, List.set_cons_succ, List.map_cons, List.map_nil, List.take_succ_cons, List.take_zero, List.drop_succ_cons, List.drop_zero, List.reverse_cons, List.reverse_nil, List.nil_append, List.cons_append, List.append_nil, List.length_cons, List.length_nil, List.replicate_succ, List.replicate_zero, Option.toList_some, Option.toList_none, Nat.reduceAdd, Nat.reduceSub, Nat.reduceLeDiff, Nat.zero_add, Nat.zero_le, true_and, and_true, Int.toNat_natCast, Sum.inl.injEq, Sum.inr.injEq, ↓reduceIte, Nat.reduceEqDiff, hρ h _ a2, a3, a4, a5, a6, a7, a8, a9, a10, a11, a12, a13, a14, a15, a16, a17, a18, a19, bt_w_id]
    have ez : μ' (z + 4) = μ (z + 4) := hf _ (by omega)
    refine ⟨by omega, 100, 0, _, rfl, ?_, ?_, by omega, by omega, rfl, fun a ha => by omega, fun p hp => ?_, fun p hp => ?_, ?_⟩
    · intro a ha
      rw [bt_up_cell (by omega), hf2 a (by omega), hf a (by omega)]
    · obtain ⟨w1, w2, w3⟩ := hW
      refine ⟨fun p hp => ?_, fun p hp => ?_, fun k hk p hp => ?_⟩
      · rw [bt_up_cell (by omega), hf2 (h + 1) (by omega)]; exact w1 p hp
      · rw [bt_up_cell (by omega), hf2 (h + 2) (by omega)]; exact w2 p hp
      · rw [bt_up_cell (by omega), hf2 (h + 3) (by omega)]; exact w3 k hk p hp
    · rw [bt_up_cell (by omega), (h2 p hp).2]; rfl
    · rw [bt_up_cell (by omega), (h2 p (by omega)).1, ez]
      simp [hn_S, hn_sl]
    · rw [bt_up_same]; rfl
  · rintro m st L w ⟨rfl, i, μ1, rfl, hfr, hW, hI⟩
    simp only [↓reduceIte] at hI
    obtain ⟨hi, rfl, rfl, hC, hV, hSe, hT⟩ := hI
    have e1 : μ1 z = μ z := hfr z (by omega)
    have e2 : μ1 (z + 6) = μ (z + 6) := hfr _ (by omega)
    have e3 : μ1 (s + 3) = μ (s + 3) := hfr _ (by omega)
    have e4 : μ1 s = μ s := hfr _ (by omega)
    simp (disch := omega) only [tX1_foresee_19, tX1_foresee_54, tX1_foresee_129, tX1_foresee_170, bt_ild, bt_lld, bt_ald, bt_ist, bt_lst, bt_ast, bt_inc, bt_ic, bt_lc, bt_iadd, bt_isub, bt_imul, bt_iand, bt_ior, bt_ixor, bt_ishl, bt_ishr, bt_iushr, bt_ladd, bt_lsub, bt_lmul, bt_land, bt_lor, bt_lushr, bt_lshl, bt_idiv, bt_irem, bt_ldiv, bt_lrem, bt_lcmp, bt_i2l, bt_l2i, bt_i2b, bt_pop, bt_dup, bt_dup2, bt_gfI, bt_gfJ, bt_gfR, bt_pfI, bt_pfZ, bt_pfJ, bt_pfR, bt_ial, bt_bal, bt_zal, bt_lal, bt_aal, bt_ias, bt_bas, bt_zas, bt_las, bt_len, bt_iret, bt_zret, bt_lret, bt_vret, bt_cV, bt_cS, bt_tab, bt_tsw, bt_lk, bt_lsw, bt_acp, bt_mmax, bt_mmin, bt_can, bt_icmpeq, bt_ifeq, bt_icmpne, bt_ifne, bt_icmplt, bt_iflt, bt_icmpge, bt_ifge, bt_icmpgt, bt_ifgt, bt_icmple, bt_ifle, bt_ret, bt_kill, bt_kl, bt_ix, bt_nl, bt_sm, bt_sr, bt_sig, bt_tg, bt_loc, bt_locs, List.getElem?_cons_zero, List.getElem?_cons_succ, List.set_cons_zero, List.set_cons_succ, List.map_cons, List.map_nil, List.take_succ_cons, List.take_zero, List.drop_succ_cons, List.drop_zero, List.reverse_cons, List.reverse_nil, List.nil_append, List.cons_append, List.append_nil, List.length_cons, List.length_nil, List.replicate_succ, List.replicate_zero, Option.toList_some, Option.toList_none, Nat.reduceAdd, Nat.reduceSub, Nat.reduceLeDiff, Nat.zero_add, Nat.zero_le, true_and, and_true, Int.toNat_natCast, Sum.inl.injEq, Sum.inr.injEq, ↓reduceIte, Nat.reduceEqDiff, hρ h _ a2, a3, a4, a5, a6, a7, a8, a9, a10, a11, a12, a13, a14, a15, a16, a17, a18, a19, hρ s _ b2, b3, b4, b5, b6, b7, b8, b9, hρ z _ c2, c3, c4, c5, c6, c7, c8, c9, c10, c11, c12, c13, c14, c15, c16, c17, c18, c19, c20, c21, c22, c23, c24, e1, e2, e4, hA, bt_w_id]
    refine And.intro (by omega) ?_
    by_cases hc : A ≤ i
    · rw [if_pos (by omega)]
      have : i = A := by omega
      subst this
      repeat (refine And.intro (by omega) ?_)
      split
      next hf => exact ⟨20, by omega, 0, μ1, rfl, hfr, hW, by omega, by omega, by simp [hn_fed, hf], hC, hV, fun g hg => by omega, hT⟩
      next hf => exact ⟨20, by omega, 0, μ1, rfl, hfr, hW, by omega, by omega, by simp [hn_fed, hf], hC, hV, fun g hg => by omega, hT⟩
    · rw [if_neg (by omega)]
      obtain ⟨l1, l2, l3, l4⟩ := hl i (by omega)
      rw [l1, bo_shl1 (by omega)]
      have hK : 2 ^ lk i < 16 := by
        have : lk i = 0 ∨ lk i = 1 ∨ lk i = 2 ∨ lk i = 3 := by omega
        rcases this with e | e | e | e <;> rw [e] <;> decide
      repeat (refine And.intro (by omega) ?_)
      rcases hdr with rfl | rfl
      · rw [if_pos rfl]
        repeat (refine And.intro (by omega) ?_)
        obtain ⟨f1, f2, f3, f4, f5, f6⟩ := hc_step (μ2 := bt_up (bt_up (bt_up μ1 (h + 6) i (-1)) (h + 7) i 0) h 8 (bt_up (bt_up μ1 (h + 6) i (-1)) (h + 7) i 0 h 8 + bt_up (bt_up μ1 (h + 6) i (-1)) (h + 7) i 0 (h + 7) i)) (b := -1) (y := 0) hfr hW hC hV hSe hT hP6 (by simp [hn_B]) (by simp [hn_Y]) (fun a => by grind [bt_up]) (fun a => by grind [bt_up]) (fun p hp => by grind [bt_up]) (fun p hp => by grind [bt_up]) (by grind [bt_up]) (fun a ha => by funext j; grind [bt_up])
        exact ⟨100 - (i + 1), by omega, i + 1, _, rfl, f1, f2, by omega, rfl, rfl, f3, f4, f5, f6⟩
      · rw [if_neg (by decide)]
        have hwt : ∀ p, p < P → hn_wt μ1 h (2 ^ lk i) p = hn_wa (μ (z + 9)) wh md kd lk n i p := fun p hp => hn_w_wt hW (fun g hg2 => (hg g hg2).2.2.2.2.2) (by omega)
        have hsl := hn_sl_rg (wt := hn_wa (μ (z + 9)) wh md kd lk n) hse i
        have hS1 : ∀ p, p < P → μ1 (h + 4) p = hn_sl P (μ (z + 4)) (hn_wa (μ (z + 9)) wh md kd lk n) i p := fun p hp => by rw [hSe p hp]; simp [hn_S]
        have hpk : hn_pk (fun p => decide (0 < μ1 (h + 4) p)) (hn_wt μ1 h (2 ^ lk i)) P = hn_bp P (μ (z + 4)) (hn_wa (μ (z + 9)) wh md kd lk n) i := hn_pk_congr (fun p hp => ⟨by rw [hS1 p hp], hwt p hp⟩)
        refine ⟨by omega, ρ, μ1, h, z, 2 ^ lk i, P, rfl, rfl, hρ, hh, hz, hK, by rw [e1]; exact hP, hP6, fun p hp => ?_, ?_⟩
        · have q1 : 0 ≤ hn_wa (μ (z + 9)) wh md kd lk n i p ∧ hn_wa (μ (z + 9)) wh md kd lk n i p ≤ 594 := hn_w_rg (wh := wh) (kd := kd) hn6 (fun g hg2 => (hg g hg2).2.2.2.1) hsee (2 ^ lk i) p
          have q2 := hsl p hp
          rw [hwt p hp, hS1 p hp]
          omega
        · rw [hpk]
          simp (disch := omega) only [bt_ild, bt_lld, bt_ald, bt_ist, bt_lst, bt_ast, bt_inc, bt_ic, bt_lc, bt_iadd, bt_isub, bt_imul, bt_iand, bt_ior, bt_ixor, bt_ishl, bt_ishr, bt_iushr, bt_ladd, bt_lsub, bt_lmul, bt_land, bt_lor, bt_lushr, bt_lshl, bt_idiv, bt_irem, bt_ldiv, bt_lrem, bt_lcmp, bt_i2l, bt_l2i, bt_i2b, bt_pop, bt_dup, bt_dup2, bt_gfI, bt_gfJ, bt_gfR, bt_pfI, bt_pfZ, bt_pfJ, bt_pfR, bt_ial, bt_bal, bt_zal, bt_lal, bt_aal, bt_ias, bt_bas, bt_zas, bt_las, bt_len, bt_iret, bt_zret, bt_lret, bt_vret, bt_cV, bt_cS, bt_tab, bt_tsw, bt_lk, bt_lsw, bt_acp, bt_mmax, bt_mmin, bt_can, bt_icmpeq, bt_ifeq, bt_icmpne, bt_ifne, bt_icmplt, bt_iflt, bt_icmpge, bt_ifge, bt_icmpgt, bt_ifgt, bt_icmple, bt_ifle, bt_ret, bt_kill, bt_kl, bt_ix, bt_nl, bt_sm, bt_sr, bt_sig, bt_tg, bt_loc, bt_locs, List.getElem?_cons_zero, List.getElem?_cons_succ, List.set_cons_zero, List.set_cons_succ, List.map_cons, List.map_nil, List.take_succ_cons, List.take_zero, List.drop_succ_cons, List.drop_zero, List.reverse_cons, List.reverse_nil, List.nil_append, List.cons_append, List.append_nil, List.length_cons, List.length_nil, List.replicate_succ, List.replicate_zero, Option.toList_some, Option.toList_none, Nat.reduceAdd, Nat.reduceSub, Nat.reduceLeDiff, Nat.zero_add, Nat.zero_le, true_and, and_true, Int.toNat_natCast, Sum.inl.injEq, Sum.inr.injEq, ↓reduceIte, Nat.reduceEqDiff, hρ h _ a2, a3, a4, a5, a6, a7, a8, a9, a10, a11, a12, a13, a14, a15, a16, a17, a18, a19, hρ s _ b2, b3, b4, b5, b6, b7, b8, b9, hρ z _ c2, c3, c4, c5, c6, c7, c8, c9, c10, c11, c12, c13, c14, c15, c16, c17, c18, c19, c20, c21, c22, c23, c24, bt_w_id]
          have hof : ((hn_bp P (μ (z + 4)) (hn_wa (μ (z + 9)) wh md kd lk n) i).1 = -1 ∧ (hn_bp P (μ (z + 4)) (hn_wa (μ (z + 9)) wh md kd lk n) i).2 = 0) ∨ ∃ p, p < P ∧ (hn_bp P (μ (z + 4)) (hn_wa (μ (z + 9)) wh md kd lk n) i).1 = (p : Int) ∧ _ ∧ (hn_bp P (μ (z + 4)) (hn_wa (μ (z + 9)) wh md kd lk n) i).2 = hn_wa (μ (z + 9)) wh md kd lk n i p ∧ 0 < hn_wa (μ (z + 9)) wh md kd lk n i p := hn_pk_of
          rcases hof with ⟨hb1, hb2⟩ | ⟨p, hp, hb1, hb3, hb2, hb4⟩
          · simp (disch := omega) only [hb1, bt_w_id]
            repeat (refine And.intro (by omega) ?_)
            obtain ⟨f1, f2, f3, f4, f5, f6⟩ := hc_step (μ2 := bt_up (bt_up (bt_up μ1 (h + 6) i (-1)) (h + 7) i 0) h 8 (bt_up (bt_up μ1 (h + 6) i (-1)) (h + 7) i 0 h 8 + bt_up (bt_up μ1 (h + 6) i (-1)) (h + 7) i 0 (h + 7) i)) (b := -1) (y := 0) hfr hW hC hV hSe hT hP6 (by simp [hn_B, hb1]) (by simp [hn_Y, hb2]; omega) (fun a => by grind [bt_up]) (fun a => by grind [bt_up]) (fun p hp => by grind [bt_up]) (fun p hp => by grind [bt_up]) (by grind [bt_up]) (fun a ha => by funext j; grind [bt_up])
            exact ⟨100 - (i + 1), by omega, i + 1, _, rfl, f1, f2, by omega, rfl, rfl, f3, f4, f5, f6⟩
          · simp (disch := omega) only [hb1, bt_w_id]
            repeat (refine And.intro (by omega) ?_)
            refine ⟨ρ, _, h, p, 2 ^ lk i, rfl, rfl, hρ, hh, by omega, hK, ?_⟩
            simp (disch := omega) only [bt_ild, bt_lld, bt_ald, bt_ist, bt_lst, bt_ast, bt_inc, bt_ic, bt_lc, bt_iadd, bt_isub, bt_imul, bt_iand, bt_ior, bt_ixor, bt_ishl, bt_ishr, bt_iushr, bt_ladd, bt_lsub, bt_lmul, bt_land, bt_lor, bt_lushr, bt_lshl, bt_idiv, bt_irem, bt_ldiv, bt_lrem, bt_lcmp, bt_i2l, bt_l2i, bt_i2b, bt_pop, bt_dup, bt_dup2, bt_gfI, bt_gfJ, bt_gfR, bt_pfI, bt_pfZ, bt_pfJ, bt_pfR, bt_ial, bt_bal, bt_zal, bt_lal, bt_aal, bt_ias, bt_bas, bt_zas, bt_las, bt_len, bt_iret, bt_zret, bt_lret, bt_vret, bt_cV, bt_cS, bt_tab, bt_tsw, bt_lk, bt_lsw, bt_acp, bt_mmax, bt_mmin, bt_can, bt_icmpeq, bt_ifeq, bt_icmpne, bt_ifne, bt_icmplt, bt_iflt, bt_icmpge, bt_ifge, bt_icmpgt, bt_ifgt, bt_icmple, bt_ifle, bt_ret, bt_kill, bt_kl, bt_ix, bt_nl, bt_sm, bt_sr, bt_sig, bt_tg, bt_loc, bt_locs, List.getElem?_cons_zero, List.getElem?_cons_succ, List.set_cons_zero, List.set_cons_succ, List.map_cons, List.map_nil, List.take_succ_cons, List.take_zero, List.drop_succ_cons, List.drop_zero, List.reverse_cons, List.reverse_nil, List.nil_append, List.cons_append, List.append_nil, List.length_cons, List.length_nil, List.replicate_succ, List.replicate_zero, Option.toList_some, Option.toList_none, Nat.reduceAdd, Nat.reduceSub, Nat.reduceLeDiff, Nat.zero_add, Nat.zero_le, true_and, and_true, Int.toNat_natCast, Sum.inl.injEq, Sum.inr.injEq, ↓reduceIte, Nat.reduceEqDiff, hρ h _ a2, a3, a4, a5, a6, a7, a8, a9, a10, a11, a12, a13, a14, a15, a16, a17, a18, a19, bt_w_id, bt_up_cell, e3, bt_up_same]
            repeat (refine And.intro (by omega) ?_)
            have q1 : 0 ≤ hn_wa (μ (z + 9)) wh md kd lk n i p ∧ hn_wa (μ (z + 9)) wh md kd lk n i p ≤ 594 := hn_w_rg (wh := wh) (kd := kd) hn6 (fun g hg2 => (hg g hg2).2.2.2.1) hsee (2 ^ lk i) p
            have hwp := hwt p hp
            unfold hn_wt at hwp
            rw [hwp]
            have hmin : bo_min (μ (s + 3) i) (hn_wa (μ (z + 9)) wh md kd lk n i p) = hn_Y 1 P (μ (z + 4)) (hn_wa (μ (z + 9)) wh md kd lk n) (μ (s + 3)) i := by
              unfold bo_min hn_Y
              rw [hb2, bt_w_id (by omega) (by omega), bt_w_id (by omega) (by omega)]
              simp
            rw [hmin, hV p (by omega), bo_setbit (bt_bn_lt _ _) (by omega)]
            have hVp := hV p (by omega)
            generalize hY : hn_Y 1 P (μ (z + 4)) (hn_wa (μ (z + 9)) wh md kd lk n) (μ (s + 3)) i = y at *
            generalize hBN : bt_bn (fun a => decide (hn_B 1 P (μ (z + 4)) (hn_wa (μ (z + 9)) wh md kd lk n) a = (p : Int))) i = bn at *
            obtain ⟨f1, f2, f3, f4, f5, f6⟩ := hc_step (μ2 := bt_up (bt_up (bt_up (bt_up (bt_up (bt_up μ1 (h + 6) i p) (h + 7) i 0) (h + 7) i y) (h + 4) p (μ1 (h + 4) p - 1)) (h + 5) p ((bn + 2 ^ i : Nat) : Int)) h 8 (μ1 h 8 + y)) (b := (p : Int)) (y := y) hfr hW hC hV hSe hT hP6 (by simp [hn_B, hb1]) hY.symm (fun a => by grind [bt_up]) (fun a => by grind [bt_up]) (fun q hq => by
              by_cases e : p = q
              · subst e; simp [bt_up, hVp]
              · have : ¬ ((p : Int) = (q : Int)) := by omega
                grind [bt_up]) (fun q hq => by
              by_cases e : p = q
              · subst e; simp [bt_up]
              · have : ¬ ((p : Int) = (q : Int)) := by omega
                grind [bt_up]) (by grind [bt_up]) (fun a ha => by funext j; grind [bt_up])
            exact ⟨100 - (i + 1), by omega, i + 1, _, rfl, f1, f2, by omega, rfl, rfl, f3, f4, f5, f6⟩
  · rintro m st L w ⟨rfl, i, μ1, rfl, hfr, hW, hI⟩
    simp only [↓reduceIte, Nat.reduceEqDiff] at hI
    obtain ⟨hi, rfl, rfl, hC, hV, hM, hT⟩ := hI
    have e1 : μ1 z = μ z := hfr z (by omega)
    have e2 : μ1 (s + 1) = μ (s + 1) := hfr _ (by omega)
    have e3 : μ1 (s + 2) = μ (s + 2) := hfr _ (by omega)
    have e4 : μ1 (z + 10) = μ (z + 10) := hfr _ (by omega)
    have hfd : hn_fed μ z s ≤ 1 := by unfold hn_fed; split <;> omega
    simp (disch := omega) only [tX1_foresee_175, tX1_foresee_54, tX1_foresee_129, tX1_foresee_170, bt_ild, bt_lld, bt_ald, bt_ist, bt_lst, bt_ast, bt_inc, bt_ic, bt_lc, bt_iadd, bt_isub, bt_imul, bt_iand, bt_ior, bt_ixor, bt_ishl, bt_ishr, bt_iushr, bt_ladd, bt_lsub, bt_lmul, bt_land, bt_lor, bt_lushr, bt_lshl, bt_idiv, bt_irem, bt_ldiv, bt_lrem, bt_lcmp, bt_i2l, bt_l2i, bt_i2b, bt_pop, bt_dup, bt_dup2, bt_gfI, bt_gfJ, bt_gfR, bt_pfI, bt_pfZ, bt_pfJ, bt_pfR, bt_ial, bt_bal, bt_zal, bt_lal, bt_aal, bt_ias, bt_bas, bt_zas, bt_las, bt_len, bt_iret, bt_zret, bt_lret, bt_vret, bt_cV, bt_cS, bt_tab, bt_tsw, bt_lk, bt_lsw, bt_acp, bt_mmax, bt_mmin, bt_can, bt_icmpeq, bt_ifeq, bt_icmpne, bt_ifne, bt_icmplt, bt_iflt, bt_icmpge, bt_ifge, bt_icmpgt, bt_ifgt, bt_icmple, bt_ifle, bt_ret, bt_kill, bt_kl, bt_ix, bt_nl, bt_sm, bt_sr, bt_sig, bt_tg, bt_loc, bt_locs, List.getElem?_cons_zero, List.getElem?_cons_succ, List.set_cons_zero, List.set_cons_succ, List.map_cons, List.map_nil, List.take_succ_cons, List.take_zero, List.drop_succ_cons, List.drop_zero, List.reverse_cons, List.reverse_nil, List.nil_append, List.cons_append, List.append_nil, List.length_cons, List.length_nil, List.replicate_succ, List.replicate_zero, Option.toList_some, Option.toList_none, Nat.reduceAdd, Nat.reduceSub, Nat.reduceLeDiff, Nat.zero_add, Nat.zero_le, true_and, and_true, Int.toNat_natCast, Sum.inl.injEq, Sum.inr.injEq, ↓reduceIte, Nat.reduceEqDiff, hρ h _ a2, a3, a4, a5, a6, a7, a8, a9, a10, a11, a12, a13, a14, a15, a16, a17, a18, a19, hρ s _ b2, b3, b4, b5, b6, b7, b8, b9, hρ z _ c2, c3, c4, c5, c6, c7, c8, c9, c10, c11, c12, c13, c14, c15, c16, c17, c18, c19, c20, c21, c22, c23, c24, e1, e2, hn, bt_w_id]
    refine And.intro (by omega) ?_
    by_cases hc : n ≤ i
    · rw [if_pos (by omega)]
      have : i = n := by omega
      subst this
      exact hQ μ1 ⟨hC, hV, hM, hT⟩ hfr
    · rw [if_neg (by omega)]
      obtain ⟨g1, g2, g3, g4, g5, g6⟩ := hg i (by omega)
      have hcp : 1 ≤ hn_c wh (wh i) n := hn_c_pos (by omega)
      have hcl : hn_c wh (wh i) n ≤ n := hn_c_le _ _ _
      simp (disch := omega) only [g1, bt_w_id, Int.toNat_natCast, hV (wh i) g2]
      repeat (refine And.intro (by omega) ?_)
      have hbl := bt_bn_lt (fun a => decide (hn_B dr P (μ (z + 4)) (hn_wa (μ (z + 9)) wh md kd lk n) a = (wh i : Int))) A
      have h2 : 2 ^ A ≤ 2 ^ 5 := Nat.pow_le_pow_right (by decide) hA5
      refine ⟨_, rfl, by omega, ?_⟩
      rw [bt_pop_bn _ (by omega)]
      have hct := bt_ct_le (fun a => decide (hn_B dr P (μ (z + 4)) (hn_wa (μ (z + 9)) wh md kd lk n) a = (wh i : Int))) A
      simp (disch := omega) only [SpX9_moodAt, tX9_moodAt_0, bt_ild, bt_lld, bt_ald, bt_ist, bt_lst, bt_ast, bt_inc, bt_ic, bt_lc, bt_iadd, bt_isub, bt_imul, bt_iand, bt_ior, bt_ixor, bt_ishl, bt_ishr, bt_iushr, bt_ladd, bt_lsub, bt_lmul, bt_land, bt_lor, bt_lushr, bt_lshl, bt_idiv, bt_irem, bt_ldiv, bt_lrem, bt_lcmp, bt_i2l, bt_l2i, bt_i2b, bt_pop, bt_dup, bt_dup2, bt_gfI, bt_gfJ, bt_gfR, bt_pfI, bt_pfZ, bt_pfJ, bt_pfR, bt_ial, bt_bal, bt_zal, bt_lal, bt_aal, bt_ias, bt_bas, bt_zas, bt_las, bt_len, bt_iret, bt_zret, bt_lret, bt_vret, bt_cV, bt_cS, bt_tab, bt_tsw, bt_lk, bt_lsw, bt_acp, bt_mmax, bt_mmin, bt_can, bt_icmpeq, bt_ifeq, bt_icmpne, bt_ifne, bt_icmplt, bt_iflt, bt_icmpge, bt_ifge, bt_icmpgt, bt_ifgt, bt_icmple, bt_ifle, bt_ret, bt_kill, bt_kl, bt_ix, bt_nl, bt_sm, bt_sr, bt_sig, bt_tg, bt_loc, bt_locs, List.getElem?_cons_zero, List.getElem?_cons_succ, List.set_cons_zero, List.set_cons_succ, List.map_cons, List.map_nil, List.take_succ_cons, List.take_zero, List.drop_succ_cons, List.drop_zero, List.reverse_cons, List.reverse_nil, List.nil_append, List.cons_append, List.append_nil, List.length_cons, List.length_nil, List.replicate_succ, List.replicate_zero, Option.toList_some, Option.toList_none, Nat.reduceAdd, Nat.reduceSub, Nat.reduceLeDiff, Nat.zero_add, Nat.zero_le, true_and, and_true, Int.toNat_natCast, Sum.inl.injEq, Sum.inr.injEq, ↓reduceIte, Nat.reduceEqDiff, hρ h _ a2, a3, a4, a5, a6, a7, a8, a9, a10, a11, a12, a13, a14, a15, a16, a17, a18, a19, hρ s _ b2, b3, b4, b5, b6, b7, b8, b9, hρ z _ c2, c3, c4, c5, c6, c7, c8, c9, c10, c11, c12, c13, c14, c15, c16, c17, c18, c19, c20, c21, c22, c23, c24, bt_w_id, e3, e4, g1, g3, hW.1 (wh i) g2]
      have x1 : (((hn_fed μ z s : Int) * 10 + (md i : Int)) * 6 + ((hn_c wh (wh i) n : Int) - 1)) * 6 + (bt_ct (fun a => decide (hn_B dr P (μ (z + 4)) (hn_wa (μ (z + 9)) wh md kd lk n) a = (wh i : Int))) A : Int) = (((((hn_fed μ z s * 10 + md i) * 6 + (hn_c wh (wh i) n - 1)) * 6 + bt_ct (fun a => decide (hn_B dr P (μ (z + 4)) (hn_wa (μ (z + 9)) wh md kd lk n) a = (wh i : Int))) A) : Nat) : Int) := by omega
      rw [x1, Int.toNat_natCast]
      repeat (refine And.intro (by omega) ?_)
      refine ⟨20 - (i + 1), by omega, i + 1, _, rfl, ?_, ?_, by omega, rfl, rfl, fun a ha => ?_, fun p hp => ?_, fun g hg2 => ?_, ?_⟩
      · intro a ha
        rw [bt_up_cell (by omega)]
        exact hfr a ha
      · refine ⟨fun p hp => ?_, fun p hp => ?_, fun k hk p hp => ?_⟩
        · rw [bt_up_cell (by omega)]; exact hW.1 p hp
        · rw [bt_up_cell (by omega)]; exact hW.2.1 p hp
        · rw [bt_up_cell (by omega)]; exact hW.2.2 k hk p hp
      · rw [bt_up_cell (by omega), bt_up_cell (by omega)]; exact hC a ha
      · rw [bt_up_cell (by omega)]; exact hV p hp
      · by_cases e : g = i
        · subst e; rw [bt_up_same]; rfl
        · rw [bt_up_ix e]; exact hM g (by omega)
      · rw [bt_up_cell (by omega)]; exact hT
