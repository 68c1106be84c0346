/-! Printed by prog/mkctor.py -/
theorem loX8_init_26 {X : bt_X} {n0 : Nat} {C0 : bt_Sp} {C1 : bt_Sp} {E : bt_K} (hX : bt_Ow X cX8_init 2 RX8 (bt_rw 4 34 211)) (hT : bt_Tl X n0) (hI : bt_In X) (c0 : bt_Cet yX1_init cX1_init 1 2 [2] 8 64 C0) (c1 : bt_Cet yX6_init cX6_init 1 2 [2] 3 17 C1) (hE : bt_Snd X 2 (34, 211) 51 E) : ∀ (j : Nat) (cs : Nat × Nat) (N : Nat), N = n0 + cs.1 → cs.1 + 4 * j = 34 → cs.2 + 22 * j = 211 → N + 4 * j ≤ 262 → bt_Snd X 2 cs 26 (bt_lo (fun B E => tX8_init_26 C0 C1 0 E B) (fun N K => tX8_init_32 C0 C1 N K) 4 E j N)
  | 0, cs, N, h1, h2, h3, h4 => by
    obtain ⟨a, b⟩ := cs
    simp only [Nat.mul_zero, Nat.add_zero] at h2 h3
    subst h2 h3
    exact sX8_init_26 (N := N) (n0 := n0) hX hT hI c0 c1 h1 (by omega) (by dsimp only; omega) (by dsimp only; omega) hE bt_fal
  | j + 1, cs, N, h1, h2, h3, h4 => by
    refine sX8_init_26 (N := N) (n0 := n0) hX hT hI c0 c1 h1 (by omega) (by omega) (by omega) bt_fal (sX8_init_32 (N := N) (n0 := n0) hX hT hI c0 c1 h1 (by omega) (by omega) (by omega) ?_)
    exact loX8_init_26 hX hT hI c0 c1 hE j (cs.1 + 4, cs.2 + 22) (N + 4) (by dsimp only; omega) (by dsimp only; omega) (by dsimp only; omega) (by omega)
theorem loX10_init_117 {X : bt_X} {n0 : Nat} {C0 : bt_Sp} {C1 : bt_Sp} {C2 : bt_Sp} {C3 : bt_Sp} {C4 : bt_Sp} {C5 : bt_Sp} {C6 : bt_Sp} {C7 : bt_Sp} {C8 : bt_Sp} {S0 : bt_Sp} {d0 : Nat} {S1 : bt_Sp} {d1 : Nat} {E : bt_K} (hX : bt_Ow X cX10_init 2 RX10 (bt_rw 100 204 7001)) (hT : bt_Tl X n0) (hI : bt_In X) (c0 : bt_Cet yX7_init cX7_init 4 20 [2] 2 1030 C0) (c1 : bt_Cet yX3_init cX3_init 2 4 [2, 2] 5 1083 C1) (c2 : bt_Cet yX1_init cX1_init 1 2 [2] 8 64 C2) (c3 : bt_Cet yX5_init cX5_init 1 4 [2] 16 1899 C3) (c4 : bt_Cet yX8_init cX8_init 2 4 [2] 34 211 C4) (c5 : bt_Cet yX4_init cX4_init 1 2 [2] 3 18 C5) (c6 : bt_Cet yX9_init cX9_init 1 4 [2] 14 938 C6) (c7 : bt_Cet yX2_init cX2_init 1 4 [2] 5 62 C7) (c8 : bt_Cet yX6_init cX6_init 1 2 [2] 3 17 C8) (m0 : bt_Met yX9_clear cX9_clear 2 none d0 [2] S0) (q0 : d0 + 1 ≤ 100) (m1 : bt_Met yX9_close cX9_close 1 none d1 [2] S1) (q1 : d1 + 1 ≤ 100) (hE : bt_Snd X 2 (135, 6611) 141 E) : ∀ (j : Nat) (cs : Nat × Nat) (N : Nat), N = n0 + cs.1 → cs.1 + 6 * j = 135 → cs.2 + 68 * j = 6611 → N + 6 * j ≤ 262 → bt_Snd X 2 cs 117 (bt_lo (fun B E => tX10_init_117 C0 C1 C2 C3 C4 C5 C6 C7 C8 S0 S1 0 E B) (fun N K => tX10_init_122 C0 C1 C2 C3 C4 C5 C6 C7 C8 S0 S1 N K) 6 E j N)
  | 0, cs, N, h1, h2, h3, h4 => by
    obtain ⟨a, b⟩ := cs
    simp only [Nat.mul_zero, Nat.add_zero] at h2 h3
    subst h2 h3
    exact sX10_init_117 (N := N) (n0 := n0) hX hT hI c0 c1 c2 c3 c4 c5 c6 c7 c8 m0 q0 m1 q1 h1 (by omega) (by dsimp only; omega) (by dsimp only; omega) hE bt_fal
  | j + 1, cs, N, h1, h2, h3, h4 => by
    refine sX10_init_117 (N := N) (n0 := n0) hX hT hI c0 c1 c2 c3 c4 c5 c6 c7 c8 m0 q0 m1 q1 h1 (by omega) (by omega) (by omega) bt_fal (sX10_init_122 (N := N) (n0 := n0) hX hT hI c0 c1 c2 c3 c4 c5 c6 c7 c8 m0 q0 m1 q1 h1 (by omega) (by omega) (by omega) ?_)
    exact loX10_init_117 hX hT hI c0 c1 c2 c3 c4 c5 c6 c7 c8 m0 q0 m1 q1 hE j (cs.1 + 6, cs.2 + 68) (N + 6) (by dsimp only; omega) (by dsimp only; omega) (by dsimp only; omega) (by omega)
theorem loX10_init_163 {X : bt_X} {n0 : Nat} {C0 : bt_Sp} {C1 : bt_Sp} {C2 : bt_Sp} {C3 : bt_Sp} {C4 : bt_Sp} {C5 : bt_Sp} {C6 : bt_Sp} {C7 : bt_Sp} {C8 : bt_Sp} {S0 : bt_Sp} {d0 : Nat} {S1 : bt_Sp} {d1 : Nat} {E : bt_K} (hX : bt_Ow X cX10_init 2 RX10 (bt_rw 100 204 7001)) (hT : bt_Tl X n0) (hI : bt_In X) (c0 : bt_Cet yX7_init cX7_init 4 20 [2] 2 1030 C0) (c1 : bt_Cet yX3_init cX3_init 2 4 [2, 2] 5 1083 C1) (c2 : bt_Cet yX1_init cX1_init 1 2 [2] 8 64 C2) (c3 : bt_Cet yX5_init cX5_init 1 4 [2] 16 1899 C3) (c4 : bt_Cet yX8_init cX8_init 2 4 [2] 34 211 C4) (c5 : bt_Cet yX4_init cX4_init 1 2 [2] 3 18 C5) (c6 : bt_Cet yX9_init cX9_init 1 4 [2] 14 938 C6) (c7 : bt_Cet yX2_init cX2_init 1 4 [2] 5 62 C7) (c8 : bt_Cet yX6_init cX6_init 1 2 [2] 3 17 C8) (m0 : bt_Met yX9_clear cX9_clear 2 none d0 [2] S0) (q0 : d0 + 1 ≤ 100) (m1 : bt_Met yX9_close cX9_close 1 none d1 [2] S1) (q1 : d1 + 1 ≤ 100) (hE : bt_Snd X 2 (204, 7001) 188 E) : ∀ (j : Nat) (cs : Nat × Nat) (N : Nat), N = n0 + cs.1 → cs.1 + 4 * j = 204 → cs.2 + 22 * j = 7001 → N + 4 * j ≤ 262 → bt_Snd X 2 cs 163 (bt_lo (fun B E => tX10_init_163 C0 C1 C2 C3 C4 C5 C6 C7 C8 S0 S1 0 E B) (fun N K => tX10_init_169 C0 C1 C2 C3 C4 C5 C6 C7 C8 S0 S1 N K) 4 E j N)
  | 0, cs, N, h1, h2, h3, h4 => by
    obtain ⟨a, b⟩ := cs
    simp only [Nat.mul_zero, Nat.add_zero] at h2 h3
    subst h2 h3
    exact sX10_init_163 (N := N) (n0 := n0) hX hT hI c0 c1 c2 c3 c4 c5 c6 c7 c8 m0 q0 m1 q1 h1 (by omega) (by dsimp only; omega) (by dsimp only; omega) hE bt_fal
  | j + 1, cs, N, h1, h2, h3, h4 => by
    refine sX10_init_163 (N := N) (n0 := n0) hX hT hI c0 c1 c2 c3 c4 c5 c6 c7 c8 m0 q0 m1 q1 h1 (by omega) (by omega) (by omega) bt_fal (sX10_init_169 (N := N) (n0 := n0) hX hT hI c0 c1 c2 c3 c4 c5 c6 c7 c8 m0 q0 m1 q1 h1 (by omega) (by omega) (by omega) ?_)
    exact loX10_init_163 hX hT hI c0 c1 c2 c3 c4 c5 c6 c7 c8 m0 q0 m1 q1 hE j (cs.1 + 4, cs.2 + 22) (N + 4) (by dsimp only; omega) (by dsimp only; omega) (by dsimp only; omega) (by omega)
