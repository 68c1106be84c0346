/-! what both objects hold behind their constructors -/
def bt_y0 : Nat → Nat → Int := fun _ _ => 0
theorem bt_m10_e (a k : Nat) : bt_m10 bt_y0 a k = if (a = 105 ∨ a = 112 ∨ a = 118 ∨ a = 124 ∨ a = 130) ∧ k = 4 then 65535 else if a = 3 ∧ k < 30 then tw k else 0 := by
  simp only [bt_m10, bt_mA, bt_mL, bt_m9, bt_m8, bt_m7, bt_m6, bt_m5, bt_m4, bt_m3, bt_m2, bt_m1, bt_m0, bt_up, bt_y0, Nat.reduceAdd]
  grind
def bt_fst (μ : Nat → Nat → Int) : Prop := (μ 75 0 = 0 ∧ μ 75 1 = 0 ∧ μ 75 2 = 0 ∧ μ 75 3 = 0 ∧ μ 75 4 = 3 ∧ μ 75 5 = 3 ∧ μ 75 6 = 5 ∧ μ 75 7 = 0 ∧ μ 75 8 = 0) ∧ (∀ k, k < 6 → μ 82 k = 0) ∧ (∃ M : Nat → Int, (∀ k, k < 36 → M k = 1000) ∧ μ 83 = ab_fwB 6 (ab_dg 6 M)) ∧ (∀ k, k < 120 → μ 84 k = ab_pw k) ∧ (∀ k, k < 720 → μ 85 k = ab_pm k) ∧ (∀ a k, a < 205 → ¬ (a = 75 ∨ a = 82 ∨ a = 83 ∨ a = 84 ∨ a = 85) → μ a k = bt_m10 bt_y0 a k) ∧ rpl_n μ 0 ∧ rq_F (μ 240) (μ 214) (μ 213) (μ 216) 0 0 ∧ μ 239 0 = 65535 ∧ ∀ a k, 205 ≤ a → a ≤ 260 → a ≠ 207 → a ≠ 239 → a ≠ 240 → μ a k = 0
def om_1 (μ : Nat → Nat → Int) : om_O := ((fun j => μ (75 + j)), ((fun j => μ (86 + j)), 0, (fun _ => 0), 0, 65535), (fun _ => none), (0, fun _ _ _ => 0), (0, μ 2))
set_option maxHeartbeats 4000000 in
theorem ci_first {μ : Nat → Nat → Int} (h : bt_fst μ) : ci_I (om_1 μ) bt_rF μ ∧ ri_I (om_1 μ) μ := by
  obtain ⟨h75, h82, ⟨M, hM, h83⟩, h84, h85, hlo, hpl, hq, h239, hhi⟩ := h
  have lo : ∀ a k, a < 205 → ¬ (a = 75 ∨ a = 82 ∨ a = 83 ∨ a = 84 ∨ a = 85) → a ≠ 105 → a ≠ 112 → a ≠ 118 → a ≠ 124 → a ≠ 130 → a ≠ 3 → μ a k = 0 := fun a k h1 h2 e1 e2 e3 e4 e5 e6 => by
    rw [hlo a k h1 h2, bt_m10_e, if_neg (by omega), if_neg (by omega)]
  have lo4 : ∀ a k, a < 205 → ¬ (a = 75 ∨ a = 82 ∨ a = 83 ∨ a = 84 ∨ a = 85) → k ≠ 4 → a ≠ 3 → μ a k = 0 := fun a k h1 h2 e1 e6 => by
    rw [hlo a k h1 h2, bt_m10_e, if_neg (by omega), if_neg (by omega)]
  have hcl : rz_clr (fun j => if j = 8 then M else μ (75 + j)) := ⟨by simpa using h75, by simpa using hM, by simpa using h82, by simpa using lo 86 0 (by omega) (by omega) (by omega) (by omega) (by omega) (by omega) (by omega) (by omega), by simpa using lo 86 1 (by omega) (by omega) (by omega) (by omega) (by omega) (by omega) (by omega) (by omega)⟩
  have hcc : rz_cl μ 75 (fun j => if j = 8 then M else μ (75 + j)) := by
    refine ⟨fun j h1 h2 h3 h4 => by simp [h2], by simpa using h83, fun k hk => ?_, fun k hk => ?_⟩
    · simp [h75.2.2.2.2.2.2.2.2, h84 k hk]
    · simp [h75.2.2.2.2.2.2.2.2, h85 k hk]
  have hz : om_z (fun j => μ (75 + j)) := rz_cl_z (by omega) hcc hcl.K
  have nG0 : nG (fun j => μ (75 + j)) = 0 := by simp [nG, h75.2.1]
  have nP0 : nP (fun j => μ (75 + j)) = 0 := by simp [nP, h75.1]
  have nA0 : nA (fun j => μ (75 + j)) = 0 := by simp [nA, h75.2.2.1]
  have hS : ∀ σ, ab_S (fun j => μ (75 + j)) σ := fun σ => ⟨fun g hg => by omega, fun a ha => by omega⟩
  refine ⟨⟨75, 90, bt_rF_Rb, fun j _ => rfl, hz, ⟨lo 101 0 (by omega) (by omega) (by omega) (by omega) (by omega) (by omega) (by omega) (by omega), lo 101 1 (by omega) (by omega) (by omega) (by omega) (by omega) (by omega) (by omega) (by omega)⟩, ?_, ⟨hS _, Nat.zero_le 40, fun i hi => absurd hi (Nat.not_lt_zero i), Nat.zero_le 8, by show (65535 : Nat) < 65536; omega⟩, fun i hi => ?_, ⟨0, by exact lo 0 12 (by omega) (by omega) (by omega) (by omega) (by omega) (by omega) (by omega) (by omega), Nat.zero_le 16, by exact lo 0 13 (by omega) (by omega) (by omega) (by omega) (by omega) (by omega) (by omega) (by omega), by omega, fun i hi => absurd hi (Nat.not_lt_zero i)⟩, ?_, ?_⟩, ?_⟩
  · refine ⟨ab_sq.of (fun j hj => ?_), by exact lo4 105 2 (by omega) (by omega) (by omega) (by omega), fun i hi => absurd hi (Nat.not_lt_zero i), by exact lo4 105 3 (by omega) (by omega) (by omega) (by omega), ?_⟩
    · funext k
      show μ (86 + j) k = μ (105 + 1 + j) k
      rw [lo (86 + j) k (by omega) (by omega) (by omega) (by omega) (by omega) (by omega) (by omega) (by omega), lo (105 + 1 + j) k (by omega) (by omega) (by omega) (by omega) (by omega) (by omega) (by omega) (by omega)]
    · rw [hlo 105 4 (by omega) (by omega), bt_m10_e, if_pos (by omega)]
      rfl
  · exact lo4 (112 + 6 * i) 5 (by omega) (by omega) (by omega) (by omega)
  · refine ⟨by exact lo 1 2 (by omega) (by omega) (by omega) (by omega) (by omega) (by omega) (by omega) (by omega), Nat.zero_le 1000, rfl, fun i hi => absurd hi (Nat.not_lt_zero i), fun i hi => ?_⟩
    rw [hlo 3 i (by omega) (by omega), bt_m10_e, if_neg (by omega), if_pos (by omega)]
  · have e := fun k => lo 19 k (by omega) (by omega) (by omega) (by omega) (by omega) (by omega) (by omega) (by omega)
    exact ⟨by rw [e 7]; omega, by rw [e 8]; omega, Or.inl (e 5)⟩
  · have p : ∀ k, k < 9 → μ 207 k = if k = 5 ∨ k = 6 then 3 else if k = 7 then 5 else 0 := fun k hk => by simpa using hpl k hk
    have p0 : μ 207 0 = 0 := by simpa using p 0 (by omega)
    have p1 : μ 207 1 = 0 := by simpa using p 1 (by omega)
    have p2 : μ 207 2 = 0 := by simpa using p 2 (by omega)
    have p3 : μ 207 3 = 0 := by simpa using p 3 (by omega)
    have p4 : μ 207 4 = 0 := by simpa using p 4 (by omega)
    have p5 : μ 207 5 = 3 := by simpa using p 5 (by omega)
    have p6 : μ 207 6 = 3 := by simpa using p 6 (by omega)
    have p7 : μ 207 7 = 5 := by simpa using p 7 (by omega)
    have p8 : μ 207 8 = 0 := by simpa using p 8 (by omega)
    have hi : ∀ a k, 205 ≤ a → a ≤ 260 → a ≠ 207 → a ≠ 239 → a ≠ 240 → μ a k = 0 := hhi
    obtain ⟨q1, q2, q3, q4, q5, q6⟩ := hq
    have hfp : an_fp (fun j => μ (75 + j)) = 0 := by simp [an_fp, nG0, bt_sn]
    have hN : rf_N μ (fun j => μ (75 + j)) := by
      refine ⟨⟨⟨by rw [nP0]; exact p0, by omega⟩, ⟨by rw [nG0]; exact p1, by omega⟩, by rw [nA0]; exact p2, by omega⟩, ⟨p3.trans h75.2.2.2.1.symm, by rw [hfp]; exact p4, p5.trans h75.2.2.2.2.1.symm, p6.trans h75.2.2.2.2.2.1.symm, p7.trans h75.2.2.2.2.2.2.1.symm, p8.trans h75.2.2.2.2.2.2.2.1.symm⟩, fun x hx => by omega, fun x hx => by omega, fun x hx => by omega⟩
    have hL : rf_L μ (fun j => μ (75 + j)) := ⟨0, 0, 0, 0, ⟨hi 219 0 (by omega) (by omega) (by omega) (by omega) (by omega), hi 220 0 (by omega) (by omega) (by omega) (by omega) (by omega), hi 219 1 (by omega) (by omega) (by omega) (by omega) (by omega), hi 220 1 (by omega) (by omega) (by omega) (by omega) (by omega)⟩, ⟨by omega, by omega, by omega, by omega⟩, Or.inr ⟨rfl, h84⟩, Or.inr ⟨rfl, h85⟩⟩
    have hT : rf_T μ (fun j => μ (75 + j)) := ⟨fun x hx => by omega, fun x hx => by omega, fun x hx => by omega, fun x hx => by omega⟩
    have hP : rf_P μ (fun j => μ (75 + j)) := ⟨M, h83, fun k hk => Or.inl ⟨hM k hk, hi 217 k (by omega) (by omega) (by omega) (by omega) (by omega)⟩⟩
    have hS0 : rf_S (μ 240) 0 (fun j => μ (75 + j)) (fun j => μ (86 + j)) := by
      refine ⟨?_, ?_, fun g hg => by omega, fun a ha => by omega, fun g h1 h2 => ?_, fun a h1 h2 => ?_⟩
      · exact q1.trans (lo 86 0 (by omega) (by omega) (by omega) (by omega) (by omega) (by omega) (by omega) (by omega)).symm
      · exact q2.trans (lo 86 1 (by omega) (by omega) (by omega) (by omega) (by omega) (by omega) (by omega) (by omega)).symm
      · rw [show 0 + 8 + g = 8 + g by omega]; exact q4 g (by omega) h2
      · rw [show 0 + 14 + a = 14 + a by omega]; exact q6 a (by omega) h2
    exact ⟨⟨hN, hL, hz.1⟩, hT, hP, hS0, ⟨hi 234 0 (by omega) (by omega) (by omega) (by omega) (by omega), fun i hi => absurd hi (Nat.not_lt_zero i), hi 238 0 (by omega) (by omega) (by omega) (by omega) (by omega), h239⟩, fun i _ => hi 245 i (by omega) (by omega) (by omega) (by omega) (by omega), ⟨hi 205 54 (by omega) (by omega) (by omega) (by omega) (by omega), fun i hi => absurd hi (Nat.not_lt_zero i)⟩, hi 205 1 (by omega) (by omega) (by omega) (by omega) (by omega), fun i hi => absurd hi (Nat.not_lt_zero i)⟩
