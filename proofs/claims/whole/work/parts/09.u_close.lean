def bt_k0 : Nat → bt_K := fun _ _ _ _ => False

theorem lfX0_begin {dd : Nat} : bt_Met yX0_begin cX0_begin 2 none dd [2, 0] (fun As w Q => tX0_begin_0 bt_k0 Q [] (bt_loc 2 As) w) := bt_met (by decide) (by decide) (fun X As w Q _ hSp hX hR => ⟨_, sX0_begin_0 hX hR, hSp⟩)
theorem lfX0_put {dd : Nat} : bt_Met yX0_put cX0_put 2 none dd [2, 0] (fun As w Q => tX0_put_0 bt_k0 Q [] (bt_loc 2 As) w) := bt_met (by decide) (by decide) (fun X As w Q _ hSp hX hR => ⟨_, sX0_put_0 hX hR, hSp⟩)
theorem lpX0_readTests {dd : Nat} {S0 : bt_Sp} {d0 : Nat} {S1 : bt_Sp} {d1 : Nat} {S2 : bt_Sp} {d2 : Nat} {S3 : bt_Sp} {d3 : Nat} (m0 : bt_Met yX0_readTest cX0_readTest 4 (some .boolean) d0 [2, 0] S0) (q0 : d0 + 1 ≤ dd) (m1 : bt_Met yX7_isWord cX7_isWord 2 (some .boolean) d1 [2, 0] S1) (q1 : d1 + 1 ≤ dd) (m2 : bt_Met yX7_step cX7_step 1 none d2 [2] S2) (q2 : d2 + 1 ≤ dd) (m3 : bt_Met yX0_put cX0_put 2 none d3 [2, 0] S3) (q3 : d3 + 1 ≤ dd) (Sp : bt_Sp) (hI : ∀ As w Q, bt_sig As = [2, 0] → Sp As w Q → ∃ I : Nat → Nat → bt_K, tX0_readTests_0 S0 S1 S2 S3 (fun h st L w => ∃ n, I h n st L w) Q [] (bt_loc 5 As) w ∧ (∀ n st L w, I 8 n st L w → tX0_readTests_8 S0 S1 S2 S3 (fun h st L w => ∃ m, m < n ∧ I h m st L w) Q st L w)) : bt_Met yX0_readTests cX0_readTests 5 (some .boolean) dd [2, 0] Sp := by
  refine bt_met (by decide) (by decide) (fun X As w Q hsig hSp hX hR => ?_)
  obtain ⟨I, h0, g8⟩ := hI As w Q hsig hSp
  have hs := bt_heads (X := X) (nL := 5) (cs := (0, 0)) [8] I (fun h κ => if h = 8 then tX0_readTests_8 S0 S1 S2 S3 κ Q else I h 0) ?_ ?_
  · exact ⟨_, sX0_readTests_0 hX hR m0 q0 m1 q1 m2 q2 m3 q3 (hs 8 (by simp)), h0⟩
  · intro h hh κ hκ
    simp only [List.mem_cons, List.not_mem_nil, or_false] at hh
    rcases hh with rfl
    · exact sX0_readTests_8 hX hR m0 q0 m1 q1 m2 q2 m3 q3 (hκ 8 (by simp))
  · intro h hh n st L w hi
    simp only [List.mem_cons, List.not_mem_nil, or_false] at hh
    rcases hh with rfl
    · exact g8 n st L w hi
theorem lfX0_readTest {dd : Nat} {S0 : bt_Sp} {d0 : Nat} {S1 : bt_Sp} {d1 : Nat} {S2 : bt_Sp} {d2 : Nat} (m0 : bt_Met yX0_readSum cX0_readSum 5 (some .boolean) d0 [2, 0] S0) (q0 : d0 + 1 ≤ dd) (m1 : bt_Met yX7_step cX7_step 1 none d1 [2] S1) (q1 : d1 + 1 ≤ dd) (m2 : bt_Met yX0_put cX0_put 2 none d2 [2, 0] S2) (q2 : d2 + 1 ≤ dd) : bt_Met yX0_readTest cX0_readTest 4 (some .boolean) dd [2, 0] (fun As w Q => tX0_readTest_0 S0 S1 S2 bt_k0 Q [] (bt_loc 4 As) w) := bt_met (by decide) (by decide) (fun X As w Q _ hSp hX hR => ⟨_, sX0_readTest_0 hX hR m0 q0 m1 q1 m2 q2, hSp⟩)
theorem lpX0_readSum {dd : Nat} {S0 : bt_Sp} {d0 : Nat} {S1 : bt_Sp} {d1 : Nat} {S2 : bt_Sp} {d2 : Nat} (m0 : bt_Met yX0_readProduct cX0_readProduct 4 (some .boolean) d0 [2, 0] S0) (q0 : d0 + 1 ≤ dd) (m1 : bt_Met yX7_step cX7_step 1 none d1 [2] S1) (q1 : d1 + 1 ≤ dd) (m2 : bt_Met yX0_put cX0_put 2 none d2 [2, 0] S2) (q2 : d2 + 1 ≤ dd) (Sp : bt_Sp) (hI : ∀ As w Q, bt_sig As = [2, 0] → Sp As w Q → ∃ I : Nat → Nat → bt_K, tX0_readSum_0 S0 S1 S2 (fun h st L w => ∃ n, I h n st L w) Q [] (bt_loc 5 As) w ∧ (∀ n st L w, I 8 n st L w → tX0_readSum_8 S0 S1 S2 (fun h st L w => ∃ m, m < n ∧ I h m st L w) Q st L w)) : bt_Met yX0_readSum cX0_readSum 5 (some .boolean) dd [2, 0] Sp := by
  refine bt_met (by decide) (by decide) (fun X As w Q hsig hSp hX hR => ?_)
  obtain ⟨I, h0, g8⟩ := hI As w Q hsig hSp
  have hs := bt_heads (X := X) (nL := 5) (cs := (0, 0)) [8] I (fun h κ => if h = 8 then tX0_readSum_8 S0 S1 S2 κ Q else I h 0) ?_ ?_
  · exact ⟨_, sX0_readSum_0 hX hR m0 q0 m1 q1 m2 q2 (hs 8 (by simp)), h0⟩
  · intro h hh κ hκ
    simp only [List.mem_cons, List.not_mem_nil, or_false] at hh
    rcases hh with rfl
    · exact sX0_readSum_8 hX hR m0 q0 m1 q1 m2 q2 (hκ 8 (by simp))
  · intro h hh n st L w hi
    simp only [List.mem_cons, List.not_mem_nil, or_false] at hh
    rcases hh with rfl
    · exact g8 n st L w hi
theorem lpX0_readProduct {dd : Nat} {S0 : bt_Sp} {d0 : Nat} {S1 : bt_Sp} {d1 : Nat} {S2 : bt_Sp} {d2 : Nat} (m0 : bt_Met yX0_readPart cX0_readPart 6 (some .boolean) d0 [2, 0] S0) (q0 : d0 + 1 ≤ dd) (m1 : bt_Met yX7_step cX7_step 1 none d1 [2] S1) (q1 : d1 + 1 ≤ dd) (m2 : bt_Met yX0_put cX0_put 2 none d2 [2, 0] S2) (q2 : d2 + 1 ≤ dd) (Sp : bt_Sp) (hI : ∀ As w Q, bt_sig As = [2, 0] → Sp As w Q → ∃ I : Nat → Nat → bt_K, tX0_readProduct_0 S0 S1 S2 (fun h st L w => ∃ n, I h n st L w) Q [] (bt_loc 4 As) w ∧ (∀ n st L w, I 8 n st L w → tX0_readProduct_8 S0 S1 S2 (fun h st L w => ∃ m, m < n ∧ I h m st L w) Q st L w)) : bt_Met yX0_readProduct cX0_readProduct 4 (some .boolean) dd [2, 0] Sp := by
  refine bt_met (by decide) (by decide) (fun X As w Q hsig hSp hX hR => ?_)
  obtain ⟨I, h0, g8⟩ := hI As w Q hsig hSp
  have hs := bt_heads (X := X) (nL := 4) (cs := (0, 0)) [8] I (fun h κ => if h = 8 then tX0_readProduct_8 S0 S1 S2 κ Q else I h 0) ?_ ?_
  · exact ⟨_, sX0_readProduct_0 hX hR m0 q0 m1 q1 m2 q2 (hs 8 (by simp)), h0⟩
  · intro h hh κ hκ
    simp only [List.mem_cons, List.not_mem_nil, or_false] at hh
    rcases hh with rfl
    · exact sX0_readProduct_8 hX hR m0 q0 m1 q1 m2 q2 (hκ 8 (by simp))
  · intro h hh n st L w hi
    simp only [List.mem_cons, List.not_mem_nil, or_false] at hh
    rcases hh with rfl
    · exact g8 n st L w hi
theorem lfX0_readPart {dd : Nat} {S0 : bt_Sp} {d0 : Nat} {S1 : bt_Sp} {d1 : Nat} {S2 : bt_Sp} {d2 : Nat} {S3 : bt_Sp} {d3 : Nat} {S4 : bt_Sp} {d4 : Nat} {S5 : bt_Sp} {d5 : Nat} {S6 : bt_Sp} {d6 : Nat} (m0 : bt_Met yX0_isFact cX0_isFact 1 (some .boolean) d0 [2] S0) (q0 : d0 + 1 ≤ dd) (m1 : bt_Met yX7_isWord cX7_isWord 2 (some .boolean) d1 [2, 0] S1) (q1 : d1 + 1 ≤ dd) (m2 : bt_Met yX7_fail cX7_fail 2 (some .boolean) d2 [2, 0] S2) (q2 : d2 + 1 ≤ dd) (m3 : bt_Met yX0_put cX0_put 2 none d3 [2, 0] S3) (q3 : d3 + 1 ≤ dd) (m4 : bt_Met yX7_step cX7_step 1 none d4 [2] S4) (q4 : d4 + 1 ≤ dd) (m5 : bt_Met yX0_readTests cX0_readTests 5 (some .boolean) d5 [2, 0] S5) (q5 : d5 + 1 ≤ dd) (m6 : bt_Met yX0_readPart cX0_readPart 6 (some .boolean) d6 [2, 0] S6) (q6 : d6 + 1 ≤ dd) : bt_Met yX0_readPart cX0_readPart 6 (some .boolean) dd [2, 0] (fun As w Q => tX0_readPart_0 S0 S1 S2 S3 S4 S5 S6 bt_k0 Q [] (bt_loc 6 As) w) := bt_met (by decide) (by decide) (fun X As w Q _ hSp hX hR => ⟨_, sX0_readPart_0 hX hR m0 q0 m1 q1 m2 q2 m3 q3 m4 q4 m5 q5 m6 q6, hSp⟩)
theorem lfX0_isFact {dd : Nat} : bt_Met yX0_isFact cX0_isFact 1 (some .boolean) dd [2] (fun As w Q => tX0_isFact_0 bt_k0 Q [] (bt_loc 1 As) w) := bt_met (by decide) (by decide) (fun X As w Q _ hSp hX hR => ⟨_, sX0_isFact_0 hX hR, hSp⟩)
theorem lpX0_value {dd : Nat} {S0 : bt_Sp} {d0 : Nat} {S1 : bt_Sp} {d1 : Nat} (m0 : bt_Met yX0_factAt cX0_factAt 2 (some .int) d0 [2, 0] S0) (q0 : d0 + 1 ≤ dd) (m1 : bt_Met yX0_joined cX0_joined 3 (some .int) d1 [0, 0, 0] S1) (q1 : d1 + 1 ≤ dd) (Sp : bt_Sp) (hI : ∀ As w Q, bt_sig As = [2] → Sp As w Q → ∃ I : Nat → Nat → bt_K, tX0_value_0 S0 S1 (fun h st L w => ∃ n, I h n st L w) Q [] (bt_loc 4 As) w ∧ (∀ n st L w, I 4 n st L w → tX0_value_4 S0 S1 (fun h st L w => ∃ m, m < n ∧ I h m st L w) Q st L w)) : bt_Met yX0_value cX0_value 4 (some .int) dd [2] Sp := by
  refine bt_met (by decide) (by decide) (fun X As w Q hsig hSp hX hR => ?_)
  obtain ⟨I, h0, g4⟩ := hI As w Q hsig hSp
  have hs := bt_heads (X := X) (nL := 4) (cs := (0, 0)) [4] I (fun h κ => if h = 4 then tX0_value_4 S0 S1 κ Q else I h 0) ?_ ?_
  · exact ⟨_, sX0_value_0 hX hR m0 q0 m1 q1 (hs 4 (by simp)), h0⟩
  · intro h hh κ hκ
    simp only [List.mem_cons, List.not_mem_nil, or_false] at hh
    rcases hh with rfl
    · exact sX0_value_4 hX hR m0 q0 m1 q1 (hκ 4 (by simp))
  · intro h hh n st L w hi
    simp only [List.mem_cons, List.not_mem_nil, or_false] at hh
    rcases hh with rfl
    · exact g4 n st L w hi
theorem lfX0_factAt {dd : Nat} : bt_Met yX0_factAt cX0_factAt 2 (some .int) dd [2, 0] (fun As w Q => tX0_factAt_0 bt_k0 Q [] (bt_loc 2 As) w) := bt_met (by decide) (by decide) (fun X As w Q _ hSp hX hR => ⟨_, sX0_factAt_0 hX hR, hSp⟩)
theorem lfX0_joined {dd : Nat} : bt_Met yX0_joined cX0_joined 3 (some .int) dd [0, 0, 0] (fun As w Q => tX0_joined_0 bt_k0 Q [] (bt_loc 3 As) w) := bt_met (by decide) (by decide) (fun X As w Q _ hSp hX hR => ⟨_, sX0_joined_0 hX hR, hSp⟩)
theorem lpX1_weigh {dd : Nat} {S0 : bt_Sp} {d0 : Nat} (m0 : bt_Met yX9_worthAt cX9_worthAt 4 (some .int) d0 [2, 0, 0, 0] S0) (q0 : d0 + 1 ≤ dd) (Sp : bt_Sp) (hI : ∀ As w Q, bt_sig As = [2, 2, 2] → Sp As w Q → ∃ I : Nat → Nat → bt_K, tX1_weigh_0 S0 (fun h st L w => ∃ n, I h n st L w) Q [] (bt_loc 7 As) w ∧ (∀ n st L w, I 2 n st L w → tX1_weigh_2 S0 (fun h st L w => ∃ m, m < n ∧ I h m st L w) Q st L w) ∧ (∀ n st L w, I 30 n st L w → tX1_weigh_30 S0 (fun h st L w => ∃ m, m < n ∧ I h m st L w) Q st L w) ∧ (∀ n st L w, I 51 n st L w → tX1_weigh_51 S0 (fun h st L w => ∃ m, m < n ∧ I h m st L w) Q st L w) ∧ (∀ n st L w, I 82 n st L w → tX1_weigh_82 S0 (fun h st L w => ∃ m, m < n ∧ I h m st L w) Q st L w)) : bt_Met yX1_weigh cX1_weigh 7 none dd [2, 2, 2] Sp := by
  refine bt_met (by decide) (by decide) (fun X As w Q hsig hSp hX hR => ?_)
  obtain ⟨I, h0, g2, g30, g51, g82⟩ := hI As w Q hsig hSp
  have hs := bt_heads (X := X) (nL := 7) (cs := (0, 0)) [2, 30, 51, 82] I (fun h κ => if h = 2 then tX1_weigh_2 S0 κ Q else if h = 30 then tX1_weigh_30 S0 κ Q else if h = 51 then tX1_weigh_51 S0 κ Q else if h = 82 then tX1_weigh_82 S0 κ Q else I h 0) ?_ ?_
  · exact ⟨_, sX1_weigh_0 hX hR m0 q0 (hs 2 (by simp)) (hs 30 (by simp)) (hs 51 (by simp)) (hs 82 (by simp)), h0⟩
  · intro h hh κ hκ
    simp only [List.mem_cons, List.not_mem_nil, or_false] at hh
    rcases hh with rfl | rfl | rfl | rfl
    · exact sX1_weigh_2 hX hR m0 q0 (hκ 2 (by simp)) (hκ 30 (by simp)) (hκ 51 (by simp)) (hκ 82 (by simp))
    · exact sX1_weigh_30 hX hR m0 q0 (hκ 2 (by simp)) (hκ 30 (by simp)) (hκ 51 (by simp)) (hκ 82 (by simp))
    · exact sX1_weigh_51 hX hR m0 q0 (hκ 2 (by simp)) (hκ 30 (by simp)) (hκ 51 (by simp)) (hκ 82 (by simp))
    · exact sX1_weigh_82 hX hR m0 q0 (hκ 2 (by simp)) (hκ 30 (by simp)) (hκ 51 (by simp)) (hκ 82 (by simp))
  · intro h hh n st L w hi
    simp only [List.mem_cons, List.not_mem_nil, or_false] at hh
    rcases hh with rfl | rfl | rfl | rfl
    · exact g2 n st L w hi
    · exact g30 n st L w hi
    · exact g51 n st L w hi
    · exact g82 n st L w hi
theorem lpX1_worthTo {dd : Nat} (Sp : bt_Sp) (hI : ∀ As w Q, bt_sig As = [2, 0, 0] → Sp As w Q → ∃ I : Nat → Nat → bt_K, tX1_worthTo_0 (fun h st L w => ∃ n, I h n st L w) Q [] (bt_loc 5 As) w ∧ (∀ n st L w, I 10 n st L w → tX1_worthTo_10 (fun h st L w => ∃ m, m < n ∧ I h m st L w) Q st L w)) : bt_Met yX1_worthTo cX1_worthTo 5 (some .int) dd [2, 0, 0] Sp := by
  refine bt_met (by decide) (by decide) (fun X As w Q hsig hSp hX hR => ?_)
  obtain ⟨I, h0, g10⟩ := hI As w Q hsig hSp
  have hs := bt_heads (X := X) (nL := 5) (cs := (0, 0)) [10] I (fun h κ => if h = 10 then tX1_worthTo_10 κ Q else I h 0) ?_ ?_
  · exact ⟨_, sX1_worthTo_0 hX hR (hs 10 (by simp)), h0⟩
  · intro h hh κ hκ
    simp only [List.mem_cons, List.not_mem_nil, or_false] at hh
    rcases hh with rfl
    · exact sX1_worthTo_10 hX hR (hκ 10 (by simp))
  · intro h hh n st L w hi
    simp only [List.mem_cons, List.not_mem_nil, or_false] at hh
    rcases hh with rfl
    · exact g10 n st L w hi
theorem lpX1_freeSeats {dd : Nat} (Sp : bt_Sp) (hI : ∀ As w Q, bt_sig As = [2, 2] → Sp As w Q → ∃ I : Nat → Nat → bt_K, tX1_freeSeats_0 (fun h st L w => ∃ n, I h n st L w) Q [] (bt_loc 3 As) w ∧ (∀ n st L w, I 2 n st L w → tX1_freeSeats_2 (fun h st L w => ∃ m, m < n ∧ I h m st L w) Q st L w)) : bt_Met yX1_freeSeats cX1_freeSeats 3 none dd [2, 2] Sp := by
  refine bt_met (by decide) (by decide) (fun X As w Q hsig hSp hX hR => ?_)
  obtain ⟨I, h0, g2⟩ := hI As w Q hsig hSp
  have hs := bt_heads (X := X) (nL := 3) (cs := (0, 0)) [2] I (fun h κ => if h = 2 then tX1_freeSeats_2 κ Q else I h 0) ?_ ?_
  · exact ⟨_, sX1_freeSeats_0 hX hR (hs 2 (by simp)), h0⟩
  · intro h hh κ hκ
    simp only [List.mem_cons, List.not_mem_nil, or_false] at hh
    rcases hh with rfl
    · exact sX1_freeSeats_2 hX hR (hκ 2 (by simp))
  · intro h hh n st L w hi
    simp only [List.mem_cons, List.not_mem_nil, or_false] at hh
    rcases hh with rfl
    · exact g2 n st L w hi
theorem lpX1_choice {dd : Nat} {S0 : bt_Sp} {d0 : Nat} (m0 : bt_Met yX1_worthTo cX1_worthTo 5 (some .int) d0 [2, 0, 0] S0) (q0 : d0 + 1 ≤ dd) (Sp : bt_Sp) (hI : ∀ As w Q, bt_sig As = [2, 2, 0] → Sp As w Q → ∃ I : Nat → Nat → bt_K, tX1_choice_0 S0 (fun h st L w => ∃ n, I h n st L w) Q [] (bt_loc 7 As) w ∧ (∀ n st L w, I 8 n st L w → tX1_choice_8 S0 (fun h st L w => ∃ m, m < n ∧ I h m st L w) Q st L w)) : bt_Met yX1_choice cX1_choice 7 (some .int) dd [2, 2, 0] Sp := by
  refine bt_met (by decide) (by decide) (fun X As w Q hsig hSp hX hR => ?_)
  obtain ⟨I, h0, g8⟩ := hI As w Q hsig hSp
  have hs := bt_heads (X := X) (nL := 7) (cs := (0, 0)) [8] I (fun h κ => if h = 8 then tX1_choice_8 S0 κ Q else I h 0) ?_ ?_
  · exact ⟨_, sX1_choice_0 hX hR m0 q0 (hs 8 (by simp)), h0⟩
  · intro h hh κ hκ
    simp only [List.mem_cons, List.not_mem_nil, or_false] at hh
    rcases hh with rfl
    · exact sX1_choice_8 hX hR m0 q0 (hκ 8 (by simp))
  · intro h hh n st L w hi
    simp only [List.mem_cons, List.not_mem_nil, or_false] at hh
    rcases hh with rfl
    · exact g8 n st L w hi
theorem lpX1_foresee {dd : Nat} {S0 : bt_Sp} {d0 : Nat} {S1 : bt_Sp} {d1 : Nat} {S2 : bt_Sp} {d2 : Nat} {S3 : bt_Sp} {d3 : Nat} {S4 : bt_Sp} {d4 : Nat} {S5 : bt_Sp} {d5 : Nat} (m0 : bt_Met yX1_weigh cX1_weigh 7 none d0 [2, 2, 2] S0) (q0 : d0 + 1 ≤ dd) (m1 : bt_Met yX1_freeSeats cX1_freeSeats 3 none d1 [2, 2] S1) (q1 : d1 + 1 ≤ dd) (m2 : bt_Met yX1_choice cX1_choice 7 (some .int) d2 [2, 2, 0] S2) (q2 : d2 + 1 ≤ dd) (m3 : bt_Met yX1_worthTo cX1_worthTo 5 (some .int) d3 [2, 0, 0] S3) (q3 : d3 + 1 ≤ dd) (m4 : bt_Met yJ6_bitCount_0f7a4 cJ6_bitCount_0f7a4 1 (some .int) d4 [0] S4) (q4 : d4 + 1 ≤ dd) (m5 : bt_Met yX9_moodAt cX9_moodAt 5 (some .int) d5 [2, 0, 0, 0, 0] S5) (q5 : d5 + 1 ≤ dd) (hmx : 1 ≤ dd) (Sp : bt_Sp) (hI : ∀ As w Q, bt_sig As = [2, 2, 2, 0] → Sp As w Q → ∃ I : Nat → Nat → bt_K, tX1_foresee_0 S0 S1 S2 S3 S4 S5 (fun h st L w => ∃ n, I h n st L w) Q [] (bt_loc 8 As) w ∧ (∀ n st L w, I 19 n st L w → tX1_foresee_19 S0 S1 S2 S3 S4 S5 (fun h st L w => ∃ m, m < n ∧ I h m st L w) Q st L w) ∧ (∀ n st L w, I 175 n st L w → tX1_foresee_175 S0 S1 S2 S3 S4 S5 (fun h st L w => ∃ m, m < n ∧ I h m st L w) Q st L w)) : bt_Met yX1_foresee cX1_foresee 8 none dd [2, 2, 2, 0] Sp := by
  refine bt_met (by decide) (by decide) (fun X As w Q hsig hSp hX hR => ?_)
  obtain ⟨I, h0, g19, g175⟩ := hI As w Q hsig hSp
  have hs := bt_heads (X := X) (nL := 8) (cs := (0, 0)) [19, 175] I (fun h κ => if h = 19 then tX1_foresee_19 S0 S1 S2 S3 S4 S5 κ Q else if h = 175 then tX1_foresee_175 S0 S1 S2 S3 S4 S5 κ Q else I h 0) ?_ ?_
  · exact ⟨_, sX1_foresee_0 hX hR m0 q0 m1 q1 m2 q2 m3 q3 m4 q4 m5 q5 (hs 19 (by simp)) (hs 175 (by simp)) hmx, h0⟩
  · intro h hh κ hκ
    simp only [List.mem_cons, List.not_mem_nil, or_false] at hh
    rcases hh with rfl | rfl
    · exact sX1_foresee_19 hX hR m0 q0 m1 q1 m2 q2 m3 q3 m4 q4 m5 q5 (hκ 19 (by simp)) (hκ 175 (by simp)) hmx
    · exact sX1_foresee_175 hX hR m0 q0 m1 q1 m2 q2 m3 q3 m4 q4 m5 q5 (hκ 19 (by simp)) (hκ 175 (by simp)) hmx
  · intro h hh n st L w hi
    simp only [List.mem_cons, List.not_mem_nil, or_false] at hh
    rcases hh with rfl | rfl
    · exact g19 n st L w hi
    · exact g175 n st L w hi
theorem lpX1_pass {dd : Nat} {S0 : bt_Sp} {d0 : Nat} (m0 : bt_Met yX1_foresee cX1_foresee 8 none d0 [2, 2, 2, 0] S0) (q0 : d0 + 1 ≤ dd) (Sp : bt_Sp) (hI : ∀ As w Q, bt_sig As = [2, 2, 2, 0] → Sp As w Q → ∃ I : Nat → Nat → bt_K, tX1_pass_0 S0 (fun h st L w => ∃ n, I h n st L w) Q [] (bt_loc 5 As) w ∧ (∀ n st L w, I 10 n st L w → tX1_pass_10 S0 (fun h st L w => ∃ m, m < n ∧ I h m st L w) Q st L w) ∧ (∀ n st L w, I 45 n st L w → tX1_pass_45 S0 (fun h st L w => ∃ m, m < n ∧ I h m st L w) Q st L w)) : bt_Met yX1_pass cX1_pass 5 none dd [2, 2, 2, 0] Sp := by
  refine bt_met (by decide) (by decide) (fun X As w Q hsig hSp hX hR => ?_)
  obtain ⟨I, h0, g10, g45⟩ := hI As w Q hsig hSp
  have hs := bt_heads (X := X) (nL := 5) (cs := (0, 0)) [10, 45] I (fun h κ => if h = 10 then tX1_pass_10 S0 κ Q else if h = 45 then tX1_pass_45 S0 κ Q else I h 0) ?_ ?_
  · exact ⟨_, sX1_pass_0 hX hR m0 q0 (hs 10 (by simp)) (hs 45 (by simp)), h0⟩
  · intro h hh κ hκ
    simp only [List.mem_cons, List.not_mem_nil, or_false] at hh
    rcases hh with rfl | rfl
    · exact sX1_pass_10 hX hR m0 q0 (hκ 10 (by simp)) (hκ 45 (by simp))
    · exact sX1_pass_45 hX hR m0 q0 (hκ 10 (by simp)) (hκ 45 (by simp))
  · intro h hh n st L w hi
    simp only [List.mem_cons, List.not_mem_nil, or_false] at hh
    rcases hh with rfl | rfl
    · exact g10 n st L w hi
    · exact g45 n st L w hi
theorem lpX1_pacingAfter {dd : Nat} (Sp : bt_Sp) (hI : ∀ As w Q, bt_sig As = [2, 0] → Sp As w Q → ∃ I : Nat → Nat → bt_K, tX1_pacingAfter_0 (fun h st L w => ∃ n, I h n st L w) Q [] (bt_loc 4 As) w ∧ (∀ n st L w, I 4 n st L w → tX1_pacingAfter_4 (fun h st L w => ∃ m, m < n ∧ I h m st L w) Q st L w)) : bt_Met yX1_pacingAfter cX1_pacingAfter 4 (some .int) dd [2, 0] Sp := by
  refine bt_met (by decide) (by decide) (fun X As w Q hsig hSp hX hR => ?_)
  obtain ⟨I, h0, g4⟩ := hI As w Q hsig hSp
  have hs := bt_heads (X := X) (nL := 4) (cs := (0, 0)) [4] I (fun h κ => if h = 4 then tX1_pacingAfter_4 κ Q else I h 0) ?_ ?_
  · exact ⟨_, sX1_pacingAfter_0 hX hR (hs 4 (by simp)), h0⟩
  · intro h hh κ hκ
    simp only [List.mem_cons, List.not_mem_nil, or_false] at hh
    rcases hh with rfl
    · exact sX1_pacingAfter_4 hX hR (hκ 4 (by simp))
  · intro h hh n st L w hi
    simp only [List.mem_cons, List.not_mem_nil, or_false] at hh
    rcases hh with rfl
    · exact g4 n st L w hi
theorem lpX1_setsChoosing {dd : Nat} {S0 : bt_Sp} {d0 : Nat} {S1 : bt_Sp} {d1 : Nat} {S2 : bt_Sp} {d2 : Nat} (m0 : bt_Met yX1_weigh cX1_weigh 7 none d0 [2, 2, 2] S0) (q0 : d0 + 1 ≤ dd) (m1 : bt_Met yX1_freeSeats cX1_freeSeats 3 none d1 [2, 2] S1) (q1 : d1 + 1 ≤ dd) (m2 : bt_Met yX1_choice cX1_choice 7 (some .int) d2 [2, 2, 0] S2) (q2 : d2 + 1 ≤ dd) (Sp : bt_Sp) (hI : ∀ As w Q, bt_sig As = [2, 2, 2, 0] → Sp As w Q → ∃ I : Nat → Nat → bt_K, tX1_setsChoosing_0 S0 S1 S2 (fun h st L w => ∃ n, I h n st L w) Q [] (bt_loc 6 As) w ∧ (∀ n st L w, I 17 n st L w → tX1_setsChoosing_17 S0 S1 S2 (fun h st L w => ∃ m, m < n ∧ I h m st L w) Q st L w)) : bt_Met yX1_setsChoosing cX1_setsChoosing 6 (some .int) dd [2, 2, 2, 0] Sp := by
  refine bt_met (by decide) (by decide) (fun X As w Q hsig hSp hX hR => ?_)
  obtain ⟨I, h0, g17⟩ := hI As w Q hsig hSp
  have hs := bt_heads (X := X) (nL := 6) (cs := (0, 0)) [17] I (fun h κ => if h = 17 then tX1_setsChoosing_17 S0 S1 S2 κ Q else I h 0) ?_ ?_
  · exact ⟨_, sX1_setsChoosing_0 hX hR m0 q0 m1 q1 m2 q2 (hs 17 (by simp)), h0⟩
  · intro h hh κ hκ
    simp only [List.mem_cons, List.not_mem_nil, or_false] at hh
    rcases hh with rfl
    · exact sX1_setsChoosing_17 hX hR m0 q0 m1 q1 m2 q2 (hκ 17 (by simp))
  · intro h hh n st L w hi
    simp only [List.mem_cons, List.not_mem_nil, or_false] at hh
    rcases hh with rfl
    · exact g17 n st L w hi
theorem lfX1_obey {dd : Nat} {S0 : bt_Sp} {d0 : Nat} {S1 : bt_Sp} {d1 : Nat} {S2 : bt_Sp} {d2 : Nat} (m0 : bt_Met yX9_cheer cX9_cheer 3 none d0 [2, 2, 0] S0) (q0 : d0 + 1 ≤ dd) (m1 : bt_Met yX9_canGo cX9_canGo 4 (some .boolean) d1 [2, 2, 0, 0] S1) (q1 : d1 + 1 ≤ dd) (m2 : bt_Met yX1_pass cX1_pass 5 none d2 [2, 2, 2, 0] S2) (q2 : d2 + 1 ≤ dd) : bt_Met yX1_obey cX1_obey 6 (some .boolean) dd [2, 2, 2, 0] (fun As w Q => tX1_obey_0 S0 S1 S2 bt_k0 Q [] (bt_loc 6 As) w) := bt_met (by decide) (by decide) (fun X As w Q _ hSp hX hR => ⟨_, sX1_obey_0 hX hR m0 q0 m1 q1 m2 q2, hSp⟩)
theorem lfX2_begin {dd : Nat} {S0 : bt_Sp} {d0 : Nat} (m0 : bt_Met yX6_copy cX6_copy 2 none d0 [2, 2] S0) (q0 : d0 + 1 ≤ dd) : bt_Met yX2_begin cX2_begin 2 none dd [2, 2] (fun As w Q => tX2_begin_0 S0 bt_k0 Q [] (bt_loc 2 As) w) := bt_met (by decide) (by decide) (fun X As w Q _ hSp hX hR => ⟨_, sX2_begin_0 hX hR m0 q0, hSp⟩)
theorem lfX2_takeDays {dd : Nat} (hac : 1 ≤ dd ∧ 8 + (nativeFrameWords "java/lang/System" "arraycopy" 5 + 11) ≤ 64 * dd) : bt_Met yX2_takeDays cX2_takeDays 3 none dd [2, 2, 0] (fun As w Q => tX2_takeDays_0 bt_k0 Q [] (bt_loc 3 As) w) := bt_met (by decide) (by decide) (fun X As w Q _ hSp hX hR => ⟨_, sX2_takeDays_0 hX hR hac, hSp⟩)
theorem lfX2_copy {dd : Nat} {S0 : bt_Sp} {d0 : Nat} {S1 : bt_Sp} {d1 : Nat} (m0 : bt_Met yX6_copy cX6_copy 2 none d0 [2, 2] S0) (q0 : d0 + 1 ≤ dd) (m1 : bt_Met yX2_takeDays cX2_takeDays 3 none d1 [2, 2, 0] S1) (q1 : d1 + 1 ≤ dd) : bt_Met yX2_copy cX2_copy 2 none dd [2, 2] (fun As w Q => tX2_copy_0 S0 S1 bt_k0 Q [] (bt_loc 2 As) w) := bt_met (by decide) (by decide) (fun X As w Q _ hSp hX hR => ⟨_, sX2_copy_0 hX hR m0 q0 m1 q1, hSp⟩)
theorem lpX3_readZoo {dd : Nat} {S0 : bt_Sp} {d0 : Nat} {S1 : bt_Sp} {d1 : Nat} {S2 : bt_Sp} {d2 : Nat} {S3 : bt_Sp} {d3 : Nat} {S4 : bt_Sp} {d4 : Nat} {S5 : bt_Sp} {d5 : Nat} (m0 : bt_Met yX9_clear cX9_clear 2 none d0 [2] S0) (q0 : d0 + 1 ≤ dd) (m1 : bt_Met yX7_begin cX7_begin 1 none d1 [2] S1) (q1 : d1 + 1 ≤ dd) (m2 : bt_Met yX3_readLine cX3_readLine 2 (some .boolean) d2 [2, 2] S2) (q2 : d2 + 1 ≤ dd) (m3 : bt_Met yX7_passSign cX7_passSign 2 (some .boolean) d3 [2, 0] S3) (q3 : d3 + 1 ≤ dd) (m4 : bt_Met yX9_close cX9_close 1 none d4 [2] S4) (q4 : d4 + 1 ≤ dd) (m5 : bt_Met yX7_empty cX7_empty 1 (some .int) d5 [2] S5) (q5 : d5 + 1 ≤ dd) (Sp : bt_Sp) (hI : ∀ As w Q, bt_sig As = [2, 2] → Sp As w Q → ∃ I : Nat → Nat → bt_K, tX3_readZoo_0 S0 S1 S2 S3 S4 S5 (fun h st L w => ∃ n, I h n st L w) Q [] (bt_loc 4 As) w ∧ (∀ n st L w, I 15 n st L w → tX3_readZoo_15 S0 S1 S2 S3 S4 S5 (fun h st L w => ∃ m, m < n ∧ I h m st L w) Q st L w)) : bt_Met yX3_readZoo cX3_readZoo 4 (some .int) dd [2, 2] Sp := by
  refine bt_met (by decide) (by decide) (fun X As w Q hsig hSp hX hR => ?_)
  obtain ⟨I, h0, g15⟩ := hI As w Q hsig hSp
  have hs := bt_heads (X := X) (nL := 4) (cs := (0, 0)) [15] I (fun h κ => if h = 15 then tX3_readZoo_15 S0 S1 S2 S3 S4 S5 κ Q else I h 0) ?_ ?_
  · exact ⟨_, sX3_readZoo_0 hX hR m0 q0 m1 q1 m2 q2 m3 q3 m4 q4 m5 q5 (hs 15 (by simp)), h0⟩
  · intro h hh κ hκ
    simp only [List.mem_cons, List.not_mem_nil, or_false] at hh
    rcases hh with rfl
    · exact sX3_readZoo_15 hX hR m0 q0 m1 q1 m2 q2 m3 q3 m4 q4 m5 q5 (hκ 15 (by simp))
  · intro h hh n st L w hi
    simp only [List.mem_cons, List.not_mem_nil, or_false] at hh
    rcases hh with rfl
    · exact g15 n st L w hi
theorem lfX3_readLine {dd : Nat} {S0 : bt_Sp} {d0 : Nat} {S1 : bt_Sp} {d1 : Nat} {S2 : bt_Sp} {d2 : Nat} {S3 : bt_Sp} {d3 : Nat} {S4 : bt_Sp} {d4 : Nat} {S5 : bt_Sp} {d5 : Nat} {S6 : bt_Sp} {d6 : Nat} {S7 : bt_Sp} {d7 : Nat} {S8 : bt_Sp} {d8 : Nat} {S9 : bt_Sp} {d9 : Nat} {S10 : bt_Sp} {d10 : Nat} {S11 : bt_Sp} {d11 : Nat} (m0 : bt_Met yX7_fail cX7_fail 2 (some .boolean) d0 [2, 0] S0) (q0 : d0 + 1 ≤ dd) (m1 : bt_Met yX3_isFirst cX3_isFirst 2 (some .boolean) d1 [2, 2] S1) (q1 : d1 + 1 ≤ dd) (m2 : bt_Met yX3_readMoods cX3_readMoods 2 (some .boolean) d2 [2, 2] S2) (q2 : d2 + 1 ≤ dd) (m3 : bt_Met yX3_readSees cX3_readSees 2 (some .boolean) d3 [2, 2] S3) (q3 : d3 + 1 ≤ dd) (m4 : bt_Met yX3_readRain cX3_readRain 3 (some .boolean) d4 [2, 2] S4) (q4 : d4 + 1 ≤ dd) (m5 : bt_Met yX3_readTyre cX3_readTyre 3 (some .boolean) d5 [2, 2] S5) (q5 : d5 + 1 ≤ dd) (m6 : bt_Met yX3_readFeeds cX3_readFeeds 3 (some .boolean) d6 [2, 2] S6) (q6 : d6 + 1 ≤ dd) (m7 : bt_Met yX3_readFoe cX3_readFoe 2 (some .boolean) d7 [2, 2] S7) (q7 : d7 + 1 ≤ dd) (m8 : bt_Met yX3_readAnimal cX3_readAnimal 2 (some .boolean) d8 [2, 2] S8) (q8 : d8 + 1 ≤ dd) (m9 : bt_Met yX3_readGuest cX3_readGuest 3 (some .boolean) d9 [2, 2] S9) (q9 : d9 + 1 ≤ dd) (m10 : bt_Met yX3_readPath cX3_readPath 4 (some .boolean) d10 [2, 2] S10) (q10 : d10 + 1 ≤ dd) (m11 : bt_Met yX3_readPen cX3_readPen 2 (some .boolean) d11 [2, 2] S11) (q11 : d11 + 1 ≤ dd) : bt_Met yX3_readLine cX3_readLine 2 (some .boolean) dd [2, 2] (fun As w Q => tX3_readLine_0 S0 S1 S2 S3 S4 S5 S6 S7 S8 S9 S10 S11 bt_k0 Q [] (bt_loc 2 As) w) := bt_met (by decide) (by decide) (fun X As w Q _ hSp hX hR => ⟨_, sX3_readLine_0 hX hR m0 q0 m1 q1 m2 q2 m3 q3 m4 q4 m5 q5 m6 q6 m7 q7 m8 q8 m9 q9 m10 q10 m11 q11, hSp⟩)
theorem lfX3_readPen {dd : Nat} {S0 : bt_Sp} {d0 : Nat} {S1 : bt_Sp} {d1 : Nat} {S2 : bt_Sp} {d2 : Nat} {S3 : bt_Sp} {d3 : Nat} {S4 : bt_Sp} {d4 : Nat} (m0 : bt_Met yX7_fail cX7_fail 2 (some .boolean) d0 [2, 0] S0) (q0 : d0 + 1 ≤ dd) (m1 : bt_Met yX7_step cX7_step 1 none d1 [2] S1) (q1 : d1 + 1 ≤ dd) (m2 : bt_Met yX3_passNewName cX3_passNewName 2 (some .boolean) d2 [2, 2] S2) (q2 : d2 + 1 ≤ dd) (m3 : bt_Met yX7_passWord cX7_passWord 2 (some .boolean) d3 [2, 0] S3) (q3 : d3 + 1 ≤ dd) (m4 : bt_Met yX3_passNumber cX3_passNumber 3 (some .boolean) d4 [2, 0, 0] S4) (q4 : d4 + 1 ≤ dd) : bt_Met yX3_readPen cX3_readPen 2 (some .boolean) dd [2, 2] (fun As w Q => tX3_readPen_0 S0 S1 S2 S3 S4 bt_k0 Q [] (bt_loc 2 As) w) := bt_met (by decide) (by decide) (fun X As w Q _ hSp hX hR => ⟨_, sX3_readPen_0 hX hR m0 q0 m1 q1 m2 q2 m3 q3 m4 q4, hSp⟩)
theorem lfX3_readPath {dd : Nat} {S0 : bt_Sp} {d0 : Nat} {S1 : bt_Sp} {d1 : Nat} {S2 : bt_Sp} {d2 : Nat} {S3 : bt_Sp} {d3 : Nat} (m0 : bt_Met yX3_isPair cX3_isPair 3 (some .boolean) d0 [2, 2, 0] S0) (q0 : d0 + 1 ≤ dd) (m1 : bt_Met yX7_fail cX7_fail 2 (some .boolean) d1 [2, 0] S1) (q1 : d1 + 1 ≤ dd) (m2 : bt_Met yX7_step cX7_step 1 none d2 [2] S2) (q2 : d2 + 1 ≤ dd) (m3 : bt_Met yX3_passNumber cX3_passNumber 3 (some .boolean) d3 [2, 0, 0] S3) (q3 : d3 + 1 ≤ dd) : bt_Met yX3_readPath cX3_readPath 4 (some .boolean) dd [2, 2] (fun As w Q => tX3_readPath_0 S0 S1 S2 S3 bt_k0 Q [] (bt_loc 4 As) w) := bt_met (by decide) (by decide) (fun X As w Q _ hSp hX hR => ⟨_, sX3_readPath_0 hX hR m0 q0 m1 q1 m2 q2 m3 q3, hSp⟩)
theorem lfX3_readGuest {dd : Nat} {S0 : bt_Sp} {d0 : Nat} {S1 : bt_Sp} {d1 : Nat} {S2 : bt_Sp} {d2 : Nat} {S3 : bt_Sp} {d3 : Nat} {S4 : bt_Sp} {d4 : Nat} {S5 : bt_Sp} {d5 : Nat} {S6 : bt_Sp} {d6 : Nat} (m0 : bt_Met yX7_fail cX7_fail 2 (some .boolean) d0 [2, 0] S0) (q0 : d0 + 1 ≤ dd) (m1 : bt_Met yX7_step cX7_step 1 none d1 [2] S1) (q1 : d1 + 1 ≤ dd) (m2 : bt_Met yX3_passNewName cX3_passNewName 2 (some .boolean) d2 [2, 2] S2) (q2 : d2 + 1 ≤ dd) (m3 : bt_Met yX3_passKind cX3_passKind 1 (some .boolean) d3 [2] S3) (q3 : d3 + 1 ≤ dd) (m4 : bt_Met yX7_passWord cX7_passWord 2 (some .boolean) d4 [2, 0] S4) (q4 : d4 + 1 ≤ dd) (m5 : bt_Met yX3_passNumber cX3_passNumber 3 (some .boolean) d5 [2, 0, 0] S5) (q5 : d5 + 1 ≤ dd) (m6 : bt_Met yX3_isTold cX3_isTold 3 (some .boolean) d6 [2, 2, 0] S6) (q6 : d6 + 1 ≤ dd) : bt_Met yX3_readGuest cX3_readGuest 3 (some .boolean) dd [2, 2] (fun As w Q => tX3_readGuest_0 S0 S1 S2 S3 S4 S5 S6 bt_k0 Q [] (bt_loc 3 As) w) := bt_met (by decide) (by decide) (fun X As w Q _ hSp hX hR => ⟨_, sX3_readGuest_0 hX hR m0 q0 m1 q1 m2 q2 m3 q3 m4 q4 m5 q5 m6 q6, hSp⟩)
theorem lfX3_readAnimal {dd : Nat} {S0 : bt_Sp} {d0 : Nat} {S1 : bt_Sp} {d1 : Nat} {S2 : bt_Sp} {d2 : Nat} {S3 : bt_Sp} {d3 : Nat} {S4 : bt_Sp} {d4 : Nat} {S5 : bt_Sp} {d5 : Nat} (m0 : bt_Met yX7_fail cX7_fail 2 (some .boolean) d0 [2, 0] S0) (q0 : d0 + 1 ≤ dd) (m1 : bt_Met yX7_step cX7_step 1 none d1 [2] S1) (q1 : d1 + 1 ≤ dd) (m2 : bt_Met yX3_passNewName cX3_passNewName 2 (some .boolean) d2 [2, 2] S2) (q2 : d2 + 1 ≤ dd) (m3 : bt_Met yX7_passWord cX7_passWord 2 (some .boolean) d3 [2, 0] S3) (q3 : d3 + 1 ≤ dd) (m4 : bt_Met yX3_passKind cX3_passKind 1 (some .boolean) d4 [2] S4) (q4 : d4 + 1 ≤ dd) (m5 : bt_Met yX3_passNumber cX3_passNumber 3 (some .boolean) d5 [2, 0, 0] S5) (q5 : d5 + 1 ≤ dd) : bt_Met yX3_readAnimal cX3_readAnimal 2 (some .boolean) dd [2, 2] (fun As w Q => tX3_readAnimal_0 S0 S1 S2 S3 S4 S5 bt_k0 Q [] (bt_loc 2 As) w) := bt_met (by decide) (by decide) (fun X As w Q _ hSp hX hR => ⟨_, sX3_readAnimal_0 hX hR m0 q0 m1 q1 m2 q2 m3 q3 m4 q4 m5 q5, hSp⟩)
theorem lfX3_readFoe {dd : Nat} {S0 : bt_Sp} {d0 : Nat} {S1 : bt_Sp} {d1 : Nat} {S2 : bt_Sp} {d2 : Nat} (m0 : bt_Met yX3_isPair cX3_isPair 3 (some .boolean) d0 [2, 2, 0] S0) (q0 : d0 + 1 ≤ dd) (m1 : bt_Met yX7_fail cX7_fail 2 (some .boolean) d1 [2, 0] S1) (q1 : d1 + 1 ≤ dd) (m2 : bt_Met yX7_step cX7_step 1 none d2 [2] S2) (q2 : d2 + 1 ≤ dd) : bt_Met yX3_readFoe cX3_readFoe 2 (some .boolean) dd [2, 2] (fun As w Q => tX3_readFoe_0 S0 S1 S2 bt_k0 Q [] (bt_loc 2 As) w) := bt_met (by decide) (by decide) (fun X As w Q _ hSp hX hR => ⟨_, sX3_readFoe_0 hX hR m0 q0 m1 q1 m2 q2, hSp⟩)
theorem lfX3_isFirst {dd : Nat} {S0 : bt_Sp} {d0 : Nat} (m0 : bt_Met yX7_fail cX7_fail 2 (some .boolean) d0 [2, 0] S0) (q0 : d0 + 1 ≤ dd) : bt_Met yX3_isFirst cX3_isFirst 2 (some .boolean) dd [2, 2] (fun As w Q => tX3_isFirst_0 S0 bt_k0 Q [] (bt_loc 2 As) w) := bt_met (by decide) (by decide) (fun X As w Q _ hSp hX hR => ⟨_, sX3_isFirst_0 hX hR m0 q0, hSp⟩)
theorem lfX3_readFeeds {dd : Nat} {S0 : bt_Sp} {d0 : Nat} {S1 : bt_Sp} {d1 : Nat} (m0 : bt_Met yX7_step cX7_step 1 none d0 [2] S0) (q0 : d0 + 1 ≤ dd) (m1 : bt_Met yX3_passNumber cX3_passNumber 3 (some .boolean) d1 [2, 0, 0] S1) (q1 : d1 + 1 ≤ dd) : bt_Met yX3_readFeeds cX3_readFeeds 3 (some .boolean) dd [2, 2] (fun As w Q => tX3_readFeeds_0 S0 S1 bt_k0 Q [] (bt_loc 3 As) w) := bt_met (by decide) (by decide) (fun X As w Q _ hSp hX hR => ⟨_, sX3_readFeeds_0 hX hR m0 q0 m1 q1, hSp⟩)
theorem lfX3_readTyre {dd : Nat} {S0 : bt_Sp} {d0 : Nat} {S1 : bt_Sp} {d1 : Nat} {S2 : bt_Sp} {d2 : Nat} (m0 : bt_Met yX7_step cX7_step 1 none d0 [2] S0) (q0 : d0 + 1 ≤ dd) (m1 : bt_Met yX3_passNumber cX3_passNumber 3 (some .boolean) d1 [2, 0, 0] S1) (q1 : d1 + 1 ≤ dd) (m2 : bt_Met yX7_passWord cX7_passWord 2 (some .boolean) d2 [2, 0] S2) (q2 : d2 + 1 ≤ dd) : bt_Met yX3_readTyre cX3_readTyre 3 (some .boolean) dd [2, 2] (fun As w Q => tX3_readTyre_0 S0 S1 S2 bt_k0 Q [] (bt_loc 3 As) w) := bt_met (by decide) (by decide) (fun X As w Q _ hSp hX hR => ⟨_, sX3_readTyre_0 hX hR m0 q0 m1 q1 m2 q2, hSp⟩)
theorem lfX3_readRain {dd : Nat} {S0 : bt_Sp} {d0 : Nat} {S1 : bt_Sp} {d1 : Nat} (m0 : bt_Met yX7_step cX7_step 1 none d0 [2] S0) (q0 : d0 + 1 ≤ dd) (m1 : bt_Met yX3_passNumber cX3_passNumber 3 (some .boolean) d1 [2, 0, 0] S1) (q1 : d1 + 1 ≤ dd) : bt_Met yX3_readRain cX3_readRain 3 (some .boolean) dd [2, 2] (fun As w Q => tX3_readRain_0 S0 S1 bt_k0 Q [] (bt_loc 3 As) w) := bt_met (by decide) (by decide) (fun X As w Q _ hSp hX hR => ⟨_, sX3_readRain_0 hX hR m0 q0 m1 q1, hSp⟩)
theorem lfX3_readSees {dd : Nat} {S0 : bt_Sp} {d0 : Nat} {S1 : bt_Sp} {d1 : Nat} {S2 : bt_Sp} {d2 : Nat} {S3 : bt_Sp} {d3 : Nat} (m0 : bt_Met yX7_step cX7_step 1 none d0 [2] S0) (q0 : d0 + 1 ≤ dd) (m1 : bt_Met yX0_begin cX0_begin 2 none d1 [2, 0] S1) (q1 : d1 + 1 ≤ dd) (m2 : bt_Met yX0_readTests cX0_readTests 5 (some .boolean) d2 [2, 0] S2) (q2 : d2 + 1 ≤ dd) (m3 : bt_Met yX9_lawOfSees cX9_lawOfSees 3 none d3 [2, 2] S3) (q3 : d3 + 1 ≤ dd) : bt_Met yX3_readSees cX3_readSees 2 (some .boolean) dd [2, 2] (fun As w Q => tX3_readSees_0 S0 S1 S2 S3 bt_k0 Q [] (bt_loc 2 As) w) := bt_met (by decide) (by decide) (fun X As w Q _ hSp hX hR => ⟨_, sX3_readSees_0 hX hR m0 q0 m1 q1 m2 q2 m3 q3, hSp⟩)
theorem lfX3_readMoods {dd : Nat} {S0 : bt_Sp} {d0 : Nat} {S1 : bt_Sp} {d1 : Nat} {S2 : bt_Sp} {d2 : Nat} {S3 : bt_Sp} {d3 : Nat} (m0 : bt_Met yX7_step cX7_step 1 none d0 [2] S0) (q0 : d0 + 1 ≤ dd) (m1 : bt_Met yX0_begin cX0_begin 2 none d1 [2, 0] S1) (q1 : d1 + 1 ≤ dd) (m2 : bt_Met yX0_readTests cX0_readTests 5 (some .boolean) d2 [2, 0] S2) (q2 : d2 + 1 ≤ dd) (m3 : bt_Met yX9_lawOfMoods cX9_lawOfMoods 3 none d3 [2, 2] S3) (q3 : d3 + 1 ≤ dd) : bt_Met yX3_readMoods cX3_readMoods 2 (some .boolean) dd [2, 2] (fun As w Q => tX3_readMoods_0 S0 S1 S2 S3 bt_k0 Q [] (bt_loc 2 As) w) := bt_met (by decide) (by decide) (fun X As w Q _ hSp hX hR => ⟨_, sX3_readMoods_0 hX hR m0 q0 m1 q1 m2 q2 m3 q3, hSp⟩)
theorem lpX3_readDays {dd : Nat} {S0 : bt_Sp} {d0 : Nat} {S1 : bt_Sp} {d1 : Nat} {S2 : bt_Sp} {d2 : Nat} {S3 : bt_Sp} {d3 : Nat} (m0 : bt_Met yX7_begin cX7_begin 1 none d0 [2] S0) (q0 : d0 + 1 ≤ dd) (m1 : bt_Met yX3_readDay cX3_readDay 6 (some .boolean) d1 [2, 2] S1) (q1 : d1 + 1 ≤ dd) (m2 : bt_Met yX7_passSign cX7_passSign 2 (some .boolean) d2 [2, 0] S2) (q2 : d2 + 1 ≤ dd) (m3 : bt_Met yX7_empty cX7_empty 1 (some .int) d3 [2] S3) (q3 : d3 + 1 ≤ dd) (Sp : bt_Sp) (hI : ∀ As w Q, bt_sig As = [2, 2] → Sp As w Q → ∃ I : Nat → Nat → bt_K, tX3_readDays_0 S0 S1 S2 S3 (fun h st L w => ∃ n, I h n st L w) Q [] (bt_loc 4 As) w ∧ (∀ n st L w, I 16 n st L w → tX3_readDays_16 S0 S1 S2 S3 (fun h st L w => ∃ m, m < n ∧ I h m st L w) Q st L w)) : bt_Met yX3_readDays cX3_readDays 4 (some .int) dd [2, 2] Sp := by
  refine bt_met (by decide) (by decide) (fun X As w Q hsig hSp hX hR => ?_)
  obtain ⟨I, h0, g16⟩ := hI As w Q hsig hSp
  have hs := bt_heads (X := X) (nL := 4) (cs := (0, 0)) [16] I (fun h κ => if h = 16 then tX3_readDays_16 S0 S1 S2 S3 κ Q else I h 0) ?_ ?_
  · exact ⟨_, sX3_readDays_0 hX hR m0 q0 m1 q1 m2 q2 m3 q3 (hs 16 (by simp)), h0⟩
  · intro h hh κ hκ
    simp only [List.mem_cons, List.not_mem_nil, or_false] at hh
    rcases hh with rfl
    · exact sX3_readDays_16 hX hR m0 q0 m1 q1 m2 q2 m3 q3 (hκ 16 (by simp))
  · intro h hh n st L w hi
    simp only [List.mem_cons, List.not_mem_nil, or_false] at hh
    rcases hh with rfl
    · exact g16 n st L w hi
theorem lfX3_readDay {dd : Nat} {S0 : bt_Sp} {d0 : Nat} {S1 : bt_Sp} {d1 : Nat} {S2 : bt_Sp} {d2 : Nat} {S3 : bt_Sp} {d3 : Nat} {S4 : bt_Sp} {d4 : Nat} (m0 : bt_Met yX7_isWord cX7_isWord 2 (some .boolean) d0 [2, 0] S0) (q0 : d0 + 1 ≤ dd) (m1 : bt_Met yX7_fail cX7_fail 2 (some .boolean) d1 [2, 0] S1) (q1 : d1 + 1 ≤ dd) (m2 : bt_Met yX7_step cX7_step 1 none d2 [2] S2) (q2 : d2 + 1 ≤ dd) (m3 : bt_Met yX3_isTold cX3_isTold 3 (some .boolean) d3 [2, 2, 0] S3) (q3 : d3 + 1 ≤ dd) (m4 : bt_Met yX10_lineOf cX10_lineOf 3 (some .int) d4 [0, 0, 0] S4) (q4 : d4 + 1 ≤ dd) : bt_Met yX3_readDay cX3_readDay 6 (some .boolean) dd [2, 2] (fun As w Q => tX3_readDay_0 S0 S1 S2 S3 S4 bt_k0 Q [] (bt_loc 6 As) w) := bt_met (by decide) (by decide) (fun X As w Q _ hSp hX hR => ⟨_, sX3_readDay_0 hX hR m0 q0 m1 q1 m2 q2 m3 q3 m4 q4, hSp⟩)
theorem lfX3_passNumber {dd : Nat} {S0 : bt_Sp} {d0 : Nat} {S1 : bt_Sp} {d1 : Nat} (m0 : bt_Met yX7_fail cX7_fail 2 (some .boolean) d0 [2, 0] S0) (q0 : d0 + 1 ≤ dd) (m1 : bt_Met yX7_step cX7_step 1 none d1 [2] S1) (q1 : d1 + 1 ≤ dd) : bt_Met yX3_passNumber cX3_passNumber 3 (some .boolean) dd [2, 0, 0] (fun As w Q => tX3_passNumber_0 S0 S1 bt_k0 Q [] (bt_loc 3 As) w) := bt_met (by decide) (by decide) (fun X As w Q _ hSp hX hR => ⟨_, sX3_passNumber_0 hX hR m0 q0 m1 q1, hSp⟩)
theorem lfX3_passKind {dd : Nat} {S0 : bt_Sp} {d0 : Nat} {S1 : bt_Sp} {d1 : Nat} (m0 : bt_Met yX7_fail cX7_fail 2 (some .boolean) d0 [2, 0] S0) (q0 : d0 + 1 ≤ dd) (m1 : bt_Met yX7_step cX7_step 1 none d1 [2] S1) (q1 : d1 + 1 ≤ dd) : bt_Met yX3_passKind cX3_passKind 1 (some .boolean) dd [2] (fun As w Q => tX3_passKind_0 S0 S1 bt_k0 Q [] (bt_loc 1 As) w) := bt_met (by decide) (by decide) (fun X As w Q _ hSp hX hR => ⟨_, sX3_passKind_0 hX hR m0 q0 m1 q1, hSp⟩)
theorem lfX3_passNewName {dd : Nat} {S0 : bt_Sp} {d0 : Nat} {S1 : bt_Sp} {d1 : Nat} {S2 : bt_Sp} {d2 : Nat} {S3 : bt_Sp} {d3 : Nat} (m0 : bt_Met yX7_isName cX7_isName 1 (some .boolean) d0 [2] S0) (q0 : d0 + 1 ≤ dd) (m1 : bt_Met yX7_fail cX7_fail 2 (some .boolean) d1 [2, 0] S1) (q1 : d1 + 1 ≤ dd) (m2 : bt_Met yX3_placeOf cX3_placeOf 4 (some .int) d2 [2, 2, 0] S2) (q2 : d2 + 1 ≤ dd) (m3 : bt_Met yX7_step cX7_step 1 none d3 [2] S3) (q3 : d3 + 1 ≤ dd) : bt_Met yX3_passNewName cX3_passNewName 2 (some .boolean) dd [2, 2] (fun As w Q => tX3_passNewName_0 S0 S1 S2 S3 bt_k0 Q [] (bt_loc 2 As) w) := bt_met (by decide) (by decide) (fun X As w Q _ hSp hX hR => ⟨_, sX3_passNewName_0 hX hR m0 q0 m1 q1 m2 q2 m3 q3, hSp⟩)
theorem lfX3_isTold {dd : Nat} {S0 : bt_Sp} {d0 : Nat} {S1 : bt_Sp} {d1 : Nat} {S2 : bt_Sp} {d2 : Nat} (m0 : bt_Met yX7_isName cX7_isName 1 (some .boolean) d0 [2] S0) (q0 : d0 + 1 ≤ dd) (m1 : bt_Met yX7_fail cX7_fail 2 (some .boolean) d1 [2, 0] S1) (q1 : d1 + 1 ≤ dd) (m2 : bt_Met yX3_placeOf cX3_placeOf 4 (some .int) d2 [2, 2, 0] S2) (q2 : d2 + 1 ≤ dd) : bt_Met yX3_isTold cX3_isTold 3 (some .boolean) dd [2, 2, 0] (fun As w Q => tX3_isTold_0 S0 S1 S2 bt_k0 Q [] (bt_loc 3 As) w) := bt_met (by decide) (by decide) (fun X As w Q _ hSp hX hR => ⟨_, sX3_isTold_0 hX hR m0 q0 m1 q1 m2 q2, hSp⟩)
theorem lfX3_isPair {dd : Nat} {S0 : bt_Sp} {d0 : Nat} {S1 : bt_Sp} {d1 : Nat} {S2 : bt_Sp} {d2 : Nat} (m0 : bt_Met yX7_step cX7_step 1 none d0 [2] S0) (q0 : d0 + 1 ≤ dd) (m1 : bt_Met yX3_isTold cX3_isTold 3 (some .boolean) d1 [2, 2, 0] S1) (q1 : d1 + 1 ≤ dd) (m2 : bt_Met yX7_fail cX7_fail 2 (some .boolean) d2 [2, 0] S2) (q2 : d2 + 1 ≤ dd) : bt_Met yX3_isPair cX3_isPair 3 (some .boolean) dd [2, 2, 0] (fun As w Q => tX3_isPair_0 S0 S1 S2 bt_k0 Q [] (bt_loc 3 As) w) := bt_met (by decide) (by decide) (fun X As w Q _ hSp hX hR => ⟨_, sX3_isPair_0 hX hR m0 q0 m1 q1 m2 q2, hSp⟩)
theorem lpX3_placeOf {dd : Nat} (Sp : bt_Sp) (hI : ∀ As w Q, bt_sig As = [2, 2, 0] → Sp As w Q → ∃ I : Nat → Nat → bt_K, tX3_placeOf_0 (fun h st L w => ∃ n, I h n st L w) Q [] (bt_loc 4 As) w ∧ (∀ n st L w, I 2 n st L w → tX3_placeOf_2 (fun h st L w => ∃ m, m < n ∧ I h m st L w) Q st L w)) : bt_Met yX3_placeOf cX3_placeOf 4 (some .int) dd [2, 2, 0] Sp := by
  refine bt_met (by decide) (by decide) (fun X As w Q hsig hSp hX hR => ?_)
  obtain ⟨I, h0, g2⟩ := hI As w Q hsig hSp
  have hs := bt_heads (X := X) (nL := 4) (cs := (0, 0)) [2] I (fun h κ => if h = 2 then tX3_placeOf_2 κ Q else I h 0) ?_ ?_
  · exact ⟨_, sX3_placeOf_0 hX hR (hs 2 (by simp)), h0⟩
  · intro h hh κ hκ
    simp only [List.mem_cons, List.not_mem_nil, or_false] at hh
    rcases hh with rfl
    · exact sX3_placeOf_2 hX hR (hκ 2 (by simp))
  · intro h hh n st L w hi
    simp only [List.mem_cons, List.not_mem_nil, or_false] at hh
    rcases hh with rfl
    · exact g2 n st L w hi
theorem lpX4_walkFrom {dd : Nat} {S0 : bt_Sp} {d0 : Nat} {S1 : bt_Sp} {d1 : Nat} (m0 : bt_Met yJ6_bitCount_0f7a4 cJ6_bitCount_0f7a4 1 (some .int) d0 [0] S0) (q0 : d0 + 1 ≤ dd) (m1 : bt_Met yX4_walkOn cX4_walkOn 8 none d1 [2, 2, 0, 0, 0] S1) (q1 : d1 + 1 ≤ dd) (Sp : bt_Sp) (hI : ∀ As w Q, bt_sig As = [2, 2, 2, 0] → Sp As w Q → ∃ I : Nat → Nat → bt_K, tX4_walkFrom_0 S0 S1 (fun h st L w => ∃ n, I h n st L w) Q [] (bt_loc 6 As) w ∧ (∀ n st L w, I 6 n st L w → tX4_walkFrom_6 S0 S1 (fun h st L w => ∃ m, m < n ∧ I h m st L w) Q st L w)) : bt_Met yX4_walkFrom cX4_walkFrom 6 none dd [2, 2, 2, 0] Sp := by
  refine bt_met (by decide) (by decide) (fun X As w Q hsig hSp hX hR => ?_)
  obtain ⟨I, h0, g6⟩ := hI As w Q hsig hSp
  have hs := bt_heads (X := X) (nL := 6) (cs := (0, 0)) [6] I (fun h κ => if h = 6 then tX4_walkFrom_6 S0 S1 κ Q else I h 0) ?_ ?_
  · exact ⟨_, sX4_walkFrom_0 hX hR m0 q0 m1 q1 (hs 6 (by simp)), h0⟩
  · intro h hh κ hκ
    simp only [List.mem_cons, List.not_mem_nil, or_false] at hh
    rcases hh with rfl
    · exact sX4_walkFrom_6 hX hR m0 q0 m1 q1 (hκ 6 (by simp))
  · intro h hh n st L w hi
    simp only [List.mem_cons, List.not_mem_nil, or_false] at hh
    rcases hh with rfl
    · exact g6 n st L w hi
theorem lpX4_walkOn {dd : Nat} {S0 : bt_Sp} {d0 : Nat} {S1 : bt_Sp} {d1 : Nat} (m0 : bt_Met yJ6_bitCount_0f7a4 cJ6_bitCount_0f7a4 1 (some .int) d0 [0] S0) (q0 : d0 + 1 ≤ dd) (m1 : bt_Met yX4_walkOn cX4_walkOn 8 none d1 [2, 2, 0, 0, 0] S1) (q1 : d1 + 1 ≤ dd) (hac : 1 ≤ dd ∧ 8 + (nativeFrameWords "java/lang/System" "arraycopy" 5 + 11) ≤ 64 * dd) (Sp : bt_Sp) (hI : ∀ As w Q, bt_sig As = [2, 2, 0, 0, 0] → Sp As w Q → ∃ I : Nat → Nat → bt_K, tX4_walkOn_0 S0 S1 (fun h st L w => ∃ n, I h n st L w) Q [] (bt_loc 8 As) w ∧ (∀ n st L w, I 40 n st L w → tX4_walkOn_40 S0 S1 (fun h st L w => ∃ m, m < n ∧ I h m st L w) Q st L w)) : bt_Met yX4_walkOn cX4_walkOn 8 none dd [2, 2, 0, 0, 0] Sp := by
  refine bt_met (by decide) (by decide) (fun X As w Q hsig hSp hX hR => ?_)
  obtain ⟨I, h0, g40⟩ := hI As w Q hsig hSp
  have hs := bt_heads (X := X) (nL := 8) (cs := (0, 0)) [40] I (fun h κ => if h = 40 then tX4_walkOn_40 S0 S1 κ Q else I h 0) ?_ ?_
  · exact ⟨_, sX4_walkOn_0 hX hR m0 q0 m1 q1 (hs 40 (by simp)) hac, h0⟩
  · intro h hh κ hκ
    simp only [List.mem_cons, List.not_mem_nil, or_false] at hh
    rcases hh with rfl
    · exact sX4_walkOn_40 hX hR m0 q0 m1 q1 (hκ 40 (by simp)) hac
  · intro h hh n st L w hi
    simp only [List.mem_cons, List.not_mem_nil, or_false] at hh
    rcases hh with rfl
    · exact g40 n st L w hi
theorem lpX4_keepApart {dd : Nat} {S0 : bt_Sp} {d0 : Nat} (m0 : bt_Met yX4_place cX4_place 6 (some .boolean) d0 [2, 2, 0, 0, 0] S0) (q0 : d0 + 1 ≤ dd) (Sp : bt_Sp) (hI : ∀ As w Q, bt_sig As = [2, 2] → Sp As w Q → ∃ I : Nat → Nat → bt_K, tX4_keepApart_0 S0 (fun h st L w => ∃ n, I h n st L w) Q [] (bt_loc 3 As) w ∧ (∀ n st L w, I 2 n st L w → tX4_keepApart_2 S0 (fun h st L w => ∃ m, m < n ∧ I h m st L w) Q st L w)) : bt_Met yX4_keepApart cX4_keepApart 3 (some .int) dd [2, 2] Sp := by
  refine bt_met (by decide) (by decide) (fun X As w Q hsig hSp hX hR => ?_)
  obtain ⟨I, h0, g2⟩ := hI As w Q hsig hSp
  have hs := bt_heads (X := X) (nL := 3) (cs := (0, 0)) [2] I (fun h κ => if h = 2 then tX4_keepApart_2 S0 κ Q else I h 0) ?_ ?_
  · exact ⟨_, sX4_keepApart_0 hX hR m0 q0 (hs 2 (by simp)), h0⟩
  · intro h hh κ hκ
    simp only [List.mem_cons, List.not_mem_nil, or_false] at hh
    rcases hh with rfl
    · exact sX4_keepApart_2 hX hR m0 q0 (hκ 2 (by simp))
  · intro h hh n st L w hi
    simp only [List.mem_cons, List.not_mem_nil, or_false] at hh
    rcases hh with rfl
    · exact g2 n st L w hi
theorem lpX4_place {dd : Nat} {S0 : bt_Sp} {d0 : Nat} {S1 : bt_Sp} {d1 : Nat} (m0 : bt_Met yX4_meetsFoe cX4_meetsFoe 4 (some .boolean) d0 [2, 2, 0] S0) (q0 : d0 + 1 ≤ dd) (m1 : bt_Met yX4_place cX4_place 6 (some .boolean) d1 [2, 2, 0, 0, 0] S1) (q1 : d1 + 1 ≤ dd) (hmx : 1 ≤ dd) (Sp : bt_Sp) (hI : ∀ As w Q, bt_sig As = [2, 2, 0, 0, 0] → Sp As w Q → ∃ I : Nat → Nat → bt_K, tX4_place_0 S0 S1 (fun h st L w => ∃ n, I h n st L w) Q [] (bt_loc 6 As) w ∧ (∀ n st L w, I 13 n st L w → tX4_place_13 S0 S1 (fun h st L w => ∃ m, m < n ∧ I h m st L w) Q st L w)) : bt_Met yX4_place cX4_place 6 (some .boolean) dd [2, 2, 0, 0, 0] Sp := by
  refine bt_met (by decide) (by decide) (fun X As w Q hsig hSp hX hR => ?_)
  obtain ⟨I, h0, g13⟩ := hI As w Q hsig hSp
  have hs := bt_heads (X := X) (nL := 6) (cs := (0, 0)) [13] I (fun h κ => if h = 13 then tX4_place_13 S0 S1 κ Q else I h 0) ?_ ?_
  · exact ⟨_, sX4_place_0 hX hR m0 q0 m1 q1 (hs 13 (by simp)) hmx, h0⟩
  · intro h hh κ hκ
    simp only [List.mem_cons, List.not_mem_nil, or_false] at hh
    rcases hh with rfl
    · exact sX4_place_13 hX hR m0 q0 m1 q1 (hκ 13 (by simp)) hmx
  · intro h hh n st L w hi
    simp only [List.mem_cons, List.not_mem_nil, or_false] at hh
    rcases hh with rfl
    · exact g13 n st L w hi
theorem lpX4_meetsFoe {dd : Nat} (Sp : bt_Sp) (hI : ∀ As w Q, bt_sig As = [2, 2, 0] → Sp As w Q → ∃ I : Nat → Nat → bt_K, tX4_meetsFoe_0 (fun h st L w => ∃ n, I h n st L w) Q [] (bt_loc 4 As) w ∧ (∀ n st L w, I 2 n st L w → tX4_meetsFoe_2 (fun h st L w => ∃ m, m < n ∧ I h m st L w) Q st L w)) : bt_Met yX4_meetsFoe cX4_meetsFoe 4 (some .boolean) dd [2, 2, 0] Sp := by
  refine bt_met (by decide) (by decide) (fun X As w Q hsig hSp hX hR => ?_)
  obtain ⟨I, h0, g2⟩ := hI As w Q hsig hSp
  have hs := bt_heads (X := X) (nL := 4) (cs := (0, 0)) [2] I (fun h κ => if h = 2 then tX4_meetsFoe_2 κ Q else I h 0) ?_ ?_
  · exact ⟨_, sX4_meetsFoe_0 hX hR (hs 2 (by simp)), h0⟩
  · intro h hh κ hκ
    simp only [List.mem_cons, List.not_mem_nil, or_false] at hh
    rcases hh with rfl
    · exact sX4_meetsFoe_2 hX hR (hκ 2 (by simp))
  · intro h hh n st L w hi
    simp only [List.mem_cons, List.not_mem_nil, or_false] at hh
    rcases hh with rfl
    · exact g2 n st L w hi
theorem lpX5_search {dd : Nat} {S0 : bt_Sp} {d0 : Nat} {S1 : bt_Sp} {d1 : Nat} {S2 : bt_Sp} {d2 : Nat} (m0 : bt_Met yX6_copy cX6_copy 2 none d0 [2, 2] S0) (q0 : d0 + 1 ≤ dd) (m1 : bt_Met yX5_weighCrowds cX5_weighCrowds 7 none d1 [2, 2, 0] S1) (q1 : d1 + 1 ≤ dd) (m2 : bt_Met yX5_place cX5_place 4 none d2 [2, 2, 0] S2) (q2 : d2 + 1 ≤ dd) (Sp : bt_Sp) (hI : ∀ As w Q, bt_sig As = [2, 2, 2] → Sp As w Q → ∃ I : Nat → Nat → bt_K, tX5_search_0 S0 S1 S2 (fun h st L w => ∃ n, I h n st L w) Q [] (bt_loc 4 As) w ∧ (∀ n st L w, I 20 n st L w → tX5_search_20 S0 S1 S2 (fun h st L w => ∃ m, m < n ∧ I h m st L w) Q st L w) ∧ (∀ n st L w, I 41 n st L w → tX5_search_41 S0 S1 S2 (fun h st L w => ∃ m, m < n ∧ I h m st L w) Q st L w)) : bt_Met yX5_search cX5_search 4 none dd [2, 2, 2] Sp := by
  refine bt_met (by decide) (by decide) (fun X As w Q hsig hSp hX hR => ?_)
  obtain ⟨I, h0, g20, g41⟩ := hI As w Q hsig hSp
  have hs := bt_heads (X := X) (nL := 4) (cs := (0, 0)) [20, 41] I (fun h κ => if h = 20 then tX5_search_20 S0 S1 S2 κ Q else if h = 41 then tX5_search_41 S0 S1 S2 κ Q else I h 0) ?_ ?_
  · exact ⟨_, sX5_search_0 hX hR m0 q0 m1 q1 m2 q2 (hs 20 (by simp)) (hs 41 (by simp)), h0⟩
  · intro h hh κ hκ
    simp only [List.mem_cons, List.not_mem_nil, or_false] at hh
    rcases hh with rfl | rfl
    · exact sX5_search_20 hX hR m0 q0 m1 q1 m2 q2 (hκ 20 (by simp)) (hκ 41 (by simp))
    · exact sX5_search_41 hX hR m0 q0 m1 q1 m2 q2 (hκ 20 (by simp)) (hκ 41 (by simp))
  · intro h hh n st L w hi
    simp only [List.mem_cons, List.not_mem_nil, or_false] at hh
    rcases hh with rfl | rfl
    · exact g20 n st L w hi
    · exact g41 n st L w hi
theorem lfX5_spot {dd : Nat} : bt_Met yX5_spot cX5_spot 3 (some .int) dd [0, 0, 0] (fun As w Q => tX5_spot_0 bt_k0 Q [] (bt_loc 3 As) w) := bt_met (by decide) (by decide) (fun X As w Q _ hSp hX hR => ⟨_, sX5_spot_0 hX hR, hSp⟩)
theorem lpX5_weighCrowds {dd : Nat} {S0 : bt_Sp} {d0 : Nat} {S1 : bt_Sp} {d1 : Nat} (m0 : bt_Met yX5_spot cX5_spot 3 (some .int) d0 [0, 0, 0] S0) (q0 : d0 + 1 ≤ dd) (m1 : bt_Met yX5_worthOf cX5_worthOf 7 (some .int) d1 [2, 2, 0, 0] S1) (q1 : d1 + 1 ≤ dd) (hmx : 1 ≤ dd) (Sp : bt_Sp) (hI : ∀ As w Q, bt_sig As = [2, 2, 0] → Sp As w Q → ∃ I : Nat → Nat → bt_K, tX5_weighCrowds_0 S0 S1 (fun h st L w => ∃ n, I h n st L w) Q [] (bt_loc 7 As) w ∧ (∀ n st L w, I 2 n st L w → tX5_weighCrowds_2 S0 S1 (fun h st L w => ∃ m, m < n ∧ I h m st L w) Q st L w) ∧ (∀ n st L w, I 46 n st L w → tX5_weighCrowds_46 S0 S1 (fun h st L w => ∃ m, m < n ∧ I h m st L w) Q st L w) ∧ (∀ n st L w, I 53 n st L w → tX5_weighCrowds_53 S0 S1 (fun h st L w => ∃ m, m < n ∧ I h m st L w) Q st L w)) : bt_Met yX5_weighCrowds cX5_weighCrowds 7 none dd [2, 2, 0] Sp := by
  refine bt_met (by decide) (by decide) (fun X As w Q hsig hSp hX hR => ?_)
  obtain ⟨I, h0, g2, g46, g53⟩ := hI As w Q hsig hSp
  have hs := bt_heads (X := X) (nL := 7) (cs := (0, 0)) [2, 46, 53] I (fun h κ => if h = 2 then tX5_weighCrowds_2 S0 S1 κ Q else if h = 46 then tX5_weighCrowds_46 S0 S1 κ Q else if h = 53 then tX5_weighCrowds_53 S0 S1 κ Q else I h 0) ?_ ?_
  · exact ⟨_, sX5_weighCrowds_0 hX hR m0 q0 m1 q1 (hs 2 (by simp)) (hs 46 (by simp)) (hs 53 (by simp)) hmx, h0⟩
  · intro h hh κ hκ
    simp only [List.mem_cons, List.not_mem_nil, or_false] at hh
    rcases hh with rfl | rfl | rfl
    · exact sX5_weighCrowds_2 hX hR m0 q0 m1 q1 (hκ 2 (by simp)) (hκ 46 (by simp)) (hκ 53 (by simp)) hmx
    · exact sX5_weighCrowds_46 hX hR m0 q0 m1 q1 (hκ 2 (by simp)) (hκ 46 (by simp)) (hκ 53 (by simp)) hmx
    · exact sX5_weighCrowds_53 hX hR m0 q0 m1 q1 (hκ 2 (by simp)) (hκ 46 (by simp)) (hκ 53 (by simp)) hmx
  · intro h hh n st L w hi
    simp only [List.mem_cons, List.not_mem_nil, or_false] at hh
    rcases hh with rfl | rfl | rfl
    · exact g2 n st L w hi
    · exact g46 n st L w hi
    · exact g53 n st L w hi
theorem lpX5_worthOf {dd : Nat} {S0 : bt_Sp} {d0 : Nat} {S1 : bt_Sp} {d1 : Nat} (m0 : bt_Met yJ6_bitCount_0f7a4 cJ6_bitCount_0f7a4 1 (some .int) d0 [0] S0) (q0 : d0 + 1 ≤ dd) (m1 : bt_Met yX9_worthAt cX9_worthAt 4 (some .int) d1 [2, 0, 0, 0] S1) (q1 : d1 + 1 ≤ dd) (Sp : bt_Sp) (hI : ∀ As w Q, bt_sig As = [2, 2, 0, 0] → Sp As w Q → ∃ I : Nat → Nat → bt_K, tX5_worthOf_0 S0 S1 (fun h st L w => ∃ n, I h n st L w) Q [] (bt_loc 7 As) w ∧ (∀ n st L w, I 14 n st L w → tX5_worthOf_14 S0 S1 (fun h st L w => ∃ m, m < n ∧ I h m st L w) Q st L w)) : bt_Met yX5_worthOf cX5_worthOf 7 (some .int) dd [2, 2, 0, 0] Sp := by
  refine bt_met (by decide) (by decide) (fun X As w Q hsig hSp hX hR => ?_)
  obtain ⟨I, h0, g14⟩ := hI As w Q hsig hSp
  have hs := bt_heads (X := X) (nL := 7) (cs := (0, 0)) [14] I (fun h κ => if h = 14 then tX5_worthOf_14 S0 S1 κ Q else I h 0) ?_ ?_
  · exact ⟨_, sX5_worthOf_0 hX hR m0 q0 m1 q1 (hs 14 (by simp)), h0⟩
  · intro h hh κ hκ
    simp only [List.mem_cons, List.not_mem_nil, or_false] at hh
    rcases hh with rfl
    · exact sX5_worthOf_14 hX hR m0 q0 m1 q1 (hκ 14 (by simp))
  · intro h hh n st L w hi
    simp only [List.mem_cons, List.not_mem_nil, or_false] at hh
    rcases hh with rfl
    · exact g14 n st L w hi
theorem lpX5_place {dd : Nat} {S0 : bt_Sp} {d0 : Nat} {S1 : bt_Sp} {d1 : Nat} {S2 : bt_Sp} {d2 : Nat} {S3 : bt_Sp} {d3 : Nat} (m0 : bt_Met yX5_hope cX5_hope 7 (some .int) d0 [2, 2, 0] S0) (q0 : d0 + 1 ≤ dd) (m1 : bt_Met yX5_canBeat cX5_canBeat 2 (some .boolean) d1 [2, 0] S1) (q1 : d1 + 1 ≤ dd) (m2 : bt_Met yX5_judge cX5_judge 3 none d2 [2, 2] S2) (q2 : d2 + 1 ≤ dd) (m3 : bt_Met yX5_place cX5_place 4 none d3 [2, 2, 0] S3) (q3 : d3 + 1 ≤ dd) (Sp : bt_Sp) (hI : ∀ As w Q, bt_sig As = [2, 2, 0] → Sp As w Q → ∃ I : Nat → Nat → bt_K, tX5_place_0 S0 S1 S2 S3 (fun h st L w => ∃ n, I h n st L w) Q [] (bt_loc 4 As) w ∧ (∀ n st L w, I 37 n st L w → tX5_place_37 S0 S1 S2 S3 (fun h st L w => ∃ m, m < n ∧ I h m st L w) Q st L w)) : bt_Met yX5_place cX5_place 4 none dd [2, 2, 0] Sp := by
  refine bt_met (by decide) (by decide) (fun X As w Q hsig hSp hX hR => ?_)
  obtain ⟨I, h0, g37⟩ := hI As w Q hsig hSp
  have hs := bt_heads (X := X) (nL := 4) (cs := (0, 0)) [37] I (fun h κ => if h = 37 then tX5_place_37 S0 S1 S2 S3 κ Q else I h 0) ?_ ?_
  · exact ⟨_, sX5_place_0 hX hR m0 q0 m1 q1 m2 q2 m3 q3 (hs 37 (by simp)), h0⟩
  · intro h hh κ hκ
    simp only [List.mem_cons, List.not_mem_nil, or_false] at hh
    rcases hh with rfl
    · exact sX5_place_37 hX hR m0 q0 m1 q1 m2 q2 m3 q3 (hκ 37 (by simp))
  · intro h hh n st L w hi
    simp only [List.mem_cons, List.not_mem_nil, or_false] at hh
    rcases hh with rfl
    · exact g37 n st L w hi
theorem lpX5_hope {dd : Nat} {S0 : bt_Sp} {d0 : Nat} (m0 : bt_Met yX5_spot cX5_spot 3 (some .int) d0 [0, 0, 0] S0) (q0 : d0 + 1 ≤ dd) (hmx : 1 ≤ dd) (Sp : bt_Sp) (hI : ∀ As w Q, bt_sig As = [2, 2, 0] → Sp As w Q → ∃ I : Nat → Nat → bt_K, tX5_hope_0 S0 (fun h st L w => ∃ n, I h n st L w) Q [] (bt_loc 7 As) w ∧ (∀ n st L w, I 5 n st L w → tX5_hope_5 S0 (fun h st L w => ∃ m, m < n ∧ I h m st L w) Q st L w) ∧ (∀ n st L w, I 20 n st L w → tX5_hope_20 S0 (fun h st L w => ∃ m, m < n ∧ I h m st L w) Q st L w)) : bt_Met yX5_hope cX5_hope 7 (some .int) dd [2, 2, 0] Sp := by
  refine bt_met (by decide) (by decide) (fun X As w Q hsig hSp hX hR => ?_)
  obtain ⟨I, h0, g5, g20⟩ := hI As w Q hsig hSp
  have hs := bt_heads (X := X) (nL := 7) (cs := (0, 0)) [5, 20] I (fun h κ => if h = 5 then tX5_hope_5 S0 κ Q else if h = 20 then tX5_hope_20 S0 κ Q else I h 0) ?_ ?_
  · exact ⟨_, sX5_hope_0 hX hR m0 q0 (hs 5 (by simp)) (hs 20 (by simp)) hmx, h0⟩
  · intro h hh κ hκ
    simp only [List.mem_cons, List.not_mem_nil, or_false] at hh
    rcases hh with rfl | rfl
    · exact sX5_hope_5 hX hR m0 q0 (hκ 5 (by simp)) (hκ 20 (by simp)) hmx
    · exact sX5_hope_20 hX hR m0 q0 (hκ 5 (by simp)) (hκ 20 (by simp)) hmx
  · intro h hh n st L w hi
    simp only [List.mem_cons, List.not_mem_nil, or_false] at hh
    rcases hh with rfl | rfl
    · exact g5 n st L w hi
    · exact g20 n st L w hi
theorem lfX5_canBeat {dd : Nat} : bt_Met yX5_canBeat cX5_canBeat 2 (some .boolean) dd [2, 0] (fun As w Q => tX5_canBeat_0 bt_k0 Q [] (bt_loc 2 As) w) := bt_met (by decide) (by decide) (fun X As w Q _ hSp hX hR => ⟨_, sX5_canBeat_0 hX hR, hSp⟩)
theorem lfX5_judge {dd : Nat} {S0 : bt_Sp} {d0 : Nat} {S1 : bt_Sp} {d1 : Nat} (m0 : bt_Met yX1_foresee cX1_foresee 8 none d0 [2, 2, 2, 0] S0) (q0 : d0 + 1 ≤ dd) (m1 : bt_Met yX1_pacingAfter cX1_pacingAfter 4 (some .int) d1 [2, 0] S1) (q1 : d1 + 1 ≤ dd) (hac : 1 ≤ dd ∧ 8 + (nativeFrameWords "java/lang/System" "arraycopy" 5 + 11) ≤ 64 * dd) : bt_Met yX5_judge cX5_judge 3 none dd [2, 2] (fun As w Q => tX5_judge_0 S0 S1 bt_k0 Q [] (bt_loc 3 As) w) := bt_met (by decide) (by decide) (fun X As w Q _ hSp hX hR => ⟨_, sX5_judge_0 hX hR m0 q0 m1 q1 hac, hSp⟩)
theorem lfX6_copy {dd : Nat} (hac : 1 ≤ dd ∧ 8 + (nativeFrameWords "java/lang/System" "arraycopy" 5 + 11) ≤ 64 * dd) : bt_Met yX6_copy cX6_copy 2 none dd [2, 2] (fun As w Q => tX6_copy_0 bt_k0 Q [] (bt_loc 2 As) w) := bt_met (by decide) (by decide) (fun X As w Q _ hSp hX hR => ⟨_, sX6_copy_0 hX hR hac, hSp⟩)
theorem lpX6_pacing {dd : Nat} (Sp : bt_Sp) (hI : ∀ As w Q, bt_sig As = [2, 0] → Sp As w Q → ∃ I : Nat → Nat → bt_K, tX6_pacing_0 (fun h st L w => ∃ n, I h n st L w) Q [] (bt_loc 4 As) w ∧ (∀ n st L w, I 4 n st L w → tX6_pacing_4 (fun h st L w => ∃ m, m < n ∧ I h m st L w) Q st L w)) : bt_Met yX6_pacing cX6_pacing 4 (some .int) dd [2, 0] Sp := by
  refine bt_met (by decide) (by decide) (fun X As w Q hsig hSp hX hR => ?_)
  obtain ⟨I, h0, g4⟩ := hI As w Q hsig hSp
  have hs := bt_heads (X := X) (nL := 4) (cs := (0, 0)) [4] I (fun h κ => if h = 4 then tX6_pacing_4 κ Q else I h 0) ?_ ?_
  · exact ⟨_, sX6_pacing_0 hX hR (hs 4 (by simp)), h0⟩
  · intro h hh κ hκ
    simp only [List.mem_cons, List.not_mem_nil, or_false] at hh
    rcases hh with rfl
    · exact sX6_pacing_4 hX hR (hκ 4 (by simp))
  · intro h hh n st L w hi
    simp only [List.mem_cons, List.not_mem_nil, or_false] at hh
    rcases hh with rfl
    · exact g4 n st L w hi
theorem lpX6_guestsIn {dd : Nat} (Sp : bt_Sp) (hI : ∀ As w Q, bt_sig As = [2, 0, 0] → Sp As w Q → ∃ I : Nat → Nat → bt_K, tX6_guestsIn_0 (fun h st L w => ∃ n, I h n st L w) Q [] (bt_loc 5 As) w ∧ (∀ n st L w, I 5 n st L w → tX6_guestsIn_5 (fun h st L w => ∃ m, m < n ∧ I h m st L w) Q st L w)) : bt_Met yX6_guestsIn cX6_guestsIn 5 (some .int) dd [2, 0, 0] Sp := by
  refine bt_met (by decide) (by decide) (fun X As w Q hsig hSp hX hR => ?_)
  obtain ⟨I, h0, g5⟩ := hI As w Q hsig hSp
  have hs := bt_heads (X := X) (nL := 5) (cs := (0, 0)) [5] I (fun h κ => if h = 5 then tX6_guestsIn_5 κ Q else I h 0) ?_ ?_
  · exact ⟨_, sX6_guestsIn_0 hX hR (hs 5 (by simp)), h0⟩
  · intro h hh κ hκ
    simp only [List.mem_cons, List.not_mem_nil, or_false] at hh
    rcases hh with rfl
    · exact sX6_guestsIn_5 hX hR (hκ 5 (by simp))
  · intro h hh n st L w hi
    simp only [List.mem_cons, List.not_mem_nil, or_false] at hh
    rcases hh with rfl
    · exact g5 n st L w hi
theorem lpX6_moodsTogether {dd : Nat} (Sp : bt_Sp) (hI : ∀ As w Q, bt_sig As = [2, 0] → Sp As w Q → ∃ I : Nat → Nat → bt_K, tX6_moodsTogether_0 (fun h st L w => ∃ n, I h n st L w) Q [] (bt_loc 4 As) w ∧ (∀ n st L w, I 4 n st L w → tX6_moodsTogether_4 (fun h st L w => ∃ m, m < n ∧ I h m st L w) Q st L w)) : bt_Met yX6_moodsTogether cX6_moodsTogether 4 (some .int) dd [2, 0] Sp := by
  refine bt_met (by decide) (by decide) (fun X As w Q hsig hSp hX hR => ?_)
  obtain ⟨I, h0, g4⟩ := hI As w Q hsig hSp
  have hs := bt_heads (X := X) (nL := 4) (cs := (0, 0)) [4] I (fun h κ => if h = 4 then tX6_moodsTogether_4 κ Q else I h 0) ?_ ?_
  · exact ⟨_, sX6_moodsTogether_0 hX hR (hs 4 (by simp)), h0⟩
  · intro h hh κ hκ
    simp only [List.mem_cons, List.not_mem_nil, or_false] at hh
    rcases hh with rfl
    · exact sX6_moodsTogether_4 hX hR (hκ 4 (by simp))
  · intro h hh n st L w hi
    simp only [List.mem_cons, List.not_mem_nil, or_false] at hh
    rcases hh with rfl
    · exact g4 n st L w hi
theorem lpX6_coinsTogether {dd : Nat} (Sp : bt_Sp) (hI : ∀ As w Q, bt_sig As = [2, 0] → Sp As w Q → ∃ I : Nat → Nat → bt_K, tX6_coinsTogether_0 (fun h st L w => ∃ n, I h n st L w) Q [] (bt_loc 4 As) w ∧ (∀ n st L w, I 4 n st L w → tX6_coinsTogether_4 (fun h st L w => ∃ m, m < n ∧ I h m st L w) Q st L w)) : bt_Met yX6_coinsTogether cX6_coinsTogether 4 (some .int) dd [2, 0] Sp := by
  refine bt_met (by decide) (by decide) (fun X As w Q hsig hSp hX hR => ?_)
  obtain ⟨I, h0, g4⟩ := hI As w Q hsig hSp
  have hs := bt_heads (X := X) (nL := 4) (cs := (0, 0)) [4] I (fun h κ => if h = 4 then tX6_coinsTogether_4 κ Q else I h 0) ?_ ?_
  · exact ⟨_, sX6_coinsTogether_0 hX hR (hs 4 (by simp)), h0⟩
  · intro h hh κ hκ
    simp only [List.mem_cons, List.not_mem_nil, or_false] at hh
    rcases hh with rfl
    · exact sX6_coinsTogether_4 hX hR (hκ 4 (by simp))
  · intro h hh n st L w hi
    simp only [List.mem_cons, List.not_mem_nil, or_false] at hh
    rcases hh with rfl
    · exact g4 n st L w hi
theorem lfX7_longer {dd : Nat} : bt_Met yX7_longer cX7_longer 3 (some .long) dd [1, 0] (fun As w Q => tX7_longer_0 bt_k0 Q [] (bt_loc 3 As) w) := bt_met (by decide) (by decide) (fun X As w Q _ hSp hX hR => ⟨_, sX7_longer_0 hX hR, hSp⟩)
theorem lpX7_addAll {dd : Nat} (Sp : bt_Sp) (hI : ∀ As w Q, bt_sig As = [2, 1] → Sp As w Q → ∃ I : Nat → Nat → bt_K, tX7_addAll_0 (fun h st L w => ∃ n, I h n st L w) Q [] (bt_loc 6 As) w ∧ (∀ n st L w, I 3 n st L w → tX7_addAll_3 (fun h st L w => ∃ m, m < n ∧ I h m st L w) Q st L w)) : bt_Met yX7_addAll cX7_addAll 6 none dd [2, 1] Sp := by
  refine bt_met (by decide) (by decide) (fun X As w Q hsig hSp hX hR => ?_)
  obtain ⟨I, h0, g3⟩ := hI As w Q hsig hSp
  have hs := bt_heads (X := X) (nL := 6) (cs := (0, 0)) [3] I (fun h κ => if h = 3 then tX7_addAll_3 κ Q else I h 0) ?_ ?_
  · exact ⟨_, sX7_addAll_0 hX hR (hs 3 (by simp)), h0⟩
  · intro h hh κ hκ
    simp only [List.mem_cons, List.not_mem_nil, or_false] at hh
    rcases hh with rfl
    · exact sX7_addAll_3 hX hR (hκ 3 (by simp))
  · intro h hh n st L w hi
    simp only [List.mem_cons, List.not_mem_nil, or_false] at hh
    rcases hh with rfl
    · exact g3 n st L w hi
theorem lfX7_begin {dd : Nat} {S0 : bt_Sp} {d0 : Nat} (m0 : bt_Met yX7_step cX7_step 1 none d0 [2] S0) (q0 : d0 + 1 ≤ dd) : bt_Met yX7_begin cX7_begin 1 none dd [2] (fun As w Q => tX7_begin_0 S0 bt_k0 Q [] (bt_loc 1 As) w) := bt_met (by decide) (by decide) (fun X As w Q _ hSp hX hR => ⟨_, sX7_begin_0 hX hR m0 q0, hSp⟩)
theorem lfX7_empty {dd : Nat} : bt_Met yX7_empty cX7_empty 1 (some .int) dd [2] (fun As w Q => tX7_empty_0 bt_k0 Q [] (bt_loc 1 As) w) := bt_met (by decide) (by decide) (fun X As w Q _ hSp hX hR => ⟨_, sX7_empty_0 hX hR, hSp⟩)
theorem lfX7_fail {dd : Nat} : bt_Met yX7_fail cX7_fail 2 (some .boolean) dd [2, 0] (fun As w Q => tX7_fail_0 bt_k0 Q [] (bt_loc 2 As) w) := bt_met (by decide) (by decide) (fun X As w Q _ hSp hX hR => ⟨_, sX7_fail_0 hX hR, hSp⟩)
theorem lpX7_step {dd : Nat} {S0 : bt_Sp} {d0 : Nat} {S1 : bt_Sp} {d1 : Nat} {S2 : bt_Sp} {d2 : Nat} {S3 : bt_Sp} {d3 : Nat} {S4 : bt_Sp} {d4 : Nat} (m0 : bt_Met yX7_isLetter cX7_isLetter 1 (some .boolean) d0 [0] S0) (q0 : d0 + 1 ≤ dd) (m1 : bt_Met yX7_readWord cX7_readWord 2 none d1 [2] S1) (q1 : d1 + 1 ≤ dd) (m2 : bt_Met yX7_isDigit cX7_isDigit 1 (some .boolean) d2 [0] S2) (q2 : d2 + 1 ≤ dd) (m3 : bt_Met yX7_readNumber cX7_readNumber 1 none d3 [2] S3) (q3 : d3 + 1 ≤ dd) (m4 : bt_Met yX7_isSign cX7_isSign 1 (some .boolean) d4 [0] S4) (q4 : d4 + 1 ≤ dd) (Sp : bt_Sp) (hI : ∀ As w Q, bt_sig As = [2] → Sp As w Q → ∃ I : Nat → Nat → bt_K, (∃ n, I 0 n [] (bt_loc 1 As) w) ∧ (∀ n st L w, I 0 n st L w → tX7_step_0 S0 S1 S2 S3 S4 (fun h st L w => ∃ m, m < n ∧ I h m st L w) Q st L w)) : bt_Met yX7_step cX7_step 1 none dd [2] Sp := by
  refine bt_met (by decide) (by decide) (fun X As w Q hsig hSp hX hR => ?_)
  obtain ⟨I, h0, g0⟩ := hI As w Q hsig hSp
  have hs := bt_heads (X := X) (nL := 1) (cs := (0, 0)) [0] I (fun h κ => if h = 0 then tX7_step_0 S0 S1 S2 S3 S4 κ Q else I h 0) ?_ ?_
  · exact ⟨_, hs 0 (by simp), h0⟩
  · intro h hh κ hκ
    simp only [List.mem_cons, List.not_mem_nil, or_false] at hh
    rcases hh with rfl
    · exact sX7_step_0 hX hR m0 q0 m1 q1 m2 q2 m3 q3 m4 q4 (hκ 0 (by simp))
  · intro h hh n st L w hi
    simp only [List.mem_cons, List.not_mem_nil, or_false] at hh
    rcases hh with rfl
    · exact g0 n st L w hi
theorem lpX7_readWord {dd : Nat} {S0 : bt_Sp} {d0 : Nat} {S1 : bt_Sp} {d1 : Nat} (m0 : bt_Met yX7_isLetter cX7_isLetter 1 (some .boolean) d0 [0] S0) (q0 : d0 + 1 ≤ dd) (m1 : bt_Met yX7_longer cX7_longer 3 (some .long) d1 [1, 0] S1) (q1 : d1 + 1 ≤ dd) (Sp : bt_Sp) (hI : ∀ As w Q, bt_sig As = [2] → Sp As w Q → ∃ I : Nat → Nat → bt_K, tX7_readWord_0 S0 S1 (fun h st L w => ∃ n, I h n st L w) Q [] (bt_loc 2 As) w ∧ (∀ n st L w, I 5 n st L w → tX7_readWord_5 S0 S1 (fun h st L w => ∃ m, m < n ∧ I h m st L w) Q st L w) ∧ (∀ n st L w, I 94 n st L w → tX7_readWord_94 S0 S1 (fun h st L w => ∃ m, m < n ∧ I h m st L w) Q st L w)) : bt_Met yX7_readWord cX7_readWord 2 none dd [2] Sp := by
  refine bt_met (by decide) (by decide) (fun X As w Q hsig hSp hX hR => ?_)
  obtain ⟨I, h0, g5, g94⟩ := hI As w Q hsig hSp
  have hs := bt_heads (X := X) (nL := 2) (cs := (0, 0)) [5, 94] I (fun h κ => if h = 5 then tX7_readWord_5 S0 S1 κ Q else if h = 94 then tX7_readWord_94 S0 S1 κ Q else I h 0) ?_ ?_
  · exact ⟨_, sX7_readWord_0 hX hR m0 q0 m1 q1 (hs 5 (by simp)) (hs 94 (by simp)), h0⟩
  · intro h hh κ hκ
    simp only [List.mem_cons, List.not_mem_nil, or_false] at hh
    rcases hh with rfl | rfl
    · exact sX7_readWord_5 hX hR m0 q0 m1 q1 (hκ 5 (by simp)) (hκ 94 (by simp))
    · exact sX7_readWord_94 hX hR m0 q0 m1 q1 (hκ 5 (by simp)) (hκ 94 (by simp))
  · intro h hh n st L w hi
    simp only [List.mem_cons, List.not_mem_nil, or_false] at hh
    rcases hh with rfl | rfl
    · exact g5 n st L w hi
    · exact g94 n st L w hi
theorem lpX7_readNumber {dd : Nat} {S0 : bt_Sp} {d0 : Nat} (m0 : bt_Met yX7_isDigit cX7_isDigit 1 (some .boolean) d0 [0] S0) (q0 : d0 + 1 ≤ dd) (Sp : bt_Sp) (hI : ∀ As w Q, bt_sig As = [2] → Sp As w Q → ∃ I : Nat → Nat → bt_K, tX7_readNumber_0 S0 (fun h st L w => ∃ n, I h n st L w) Q [] (bt_loc 1 As) w ∧ (∀ n st L w, I 5 n st L w → tX7_readNumber_5 S0 (fun h st L w => ∃ m, m < n ∧ I h m st L w) Q st L w)) : bt_Met yX7_readNumber cX7_readNumber 1 none dd [2] Sp := by
  refine bt_met (by decide) (by decide) (fun X As w Q hsig hSp hX hR => ?_)
  obtain ⟨I, h0, g5⟩ := hI As w Q hsig hSp
  have hs := bt_heads (X := X) (nL := 1) (cs := (0, 0)) [5] I (fun h κ => if h = 5 then tX7_readNumber_5 S0 κ Q else I h 0) ?_ ?_
  · exact ⟨_, sX7_readNumber_0 hX hR m0 q0 (hs 5 (by simp)), h0⟩
  · intro h hh κ hκ
    simp only [List.mem_cons, List.not_mem_nil, or_false] at hh
    rcases hh with rfl
    · exact sX7_readNumber_5 hX hR m0 q0 (hκ 5 (by simp))
  · intro h hh n st L w hi
    simp only [List.mem_cons, List.not_mem_nil, or_false] at hh
    rcases hh with rfl
    · exact g5 n st L w hi
theorem lfX7_isLetter {dd : Nat} : bt_Met yX7_isLetter cX7_isLetter 1 (some .boolean) dd [0] (fun As w Q => tX7_isLetter_0 bt_k0 Q [] (bt_loc 1 As) w) := bt_met (by decide) (by decide) (fun X As w Q _ hSp hX hR => ⟨_, sX7_isLetter_0 hX hR, hSp⟩)
theorem lfX7_isDigit {dd : Nat} : bt_Met yX7_isDigit cX7_isDigit 1 (some .boolean) dd [0] (fun As w Q => tX7_isDigit_0 bt_k0 Q [] (bt_loc 1 As) w) := bt_met (by decide) (by decide) (fun X As w Q _ hSp hX hR => ⟨_, sX7_isDigit_0 hX hR, hSp⟩)
theorem lfX7_isSign {dd : Nat} : bt_Met yX7_isSign cX7_isSign 1 (some .boolean) dd [0] (fun As w Q => tX7_isSign_0 bt_k0 Q [] (bt_loc 1 As) w) := bt_met (by decide) (by decide) (fun X As w Q _ hSp hX hR => ⟨_, sX7_isSign_0 hX hR, hSp⟩)
theorem lfX7_isWord {dd : Nat} : bt_Met yX7_isWord cX7_isWord 2 (some .boolean) dd [2, 0] (fun As w Q => tX7_isWord_0 bt_k0 Q [] (bt_loc 2 As) w) := bt_met (by decide) (by decide) (fun X As w Q _ hSp hX hR => ⟨_, sX7_isWord_0 hX hR, hSp⟩)
theorem lfX7_isName {dd : Nat} : bt_Met yX7_isName cX7_isName 1 (some .boolean) dd [2] (fun As w Q => tX7_isName_0 bt_k0 Q [] (bt_loc 1 As) w) := bt_met (by decide) (by decide) (fun X As w Q _ hSp hX hR => ⟨_, sX7_isName_0 hX hR, hSp⟩)
theorem lfX7_passWord {dd : Nat} {S0 : bt_Sp} {d0 : Nat} {S1 : bt_Sp} {d1 : Nat} {S2 : bt_Sp} {d2 : Nat} (m0 : bt_Met yX7_isWord cX7_isWord 2 (some .boolean) d0 [2, 0] S0) (q0 : d0 + 1 ≤ dd) (m1 : bt_Met yX7_fail cX7_fail 2 (some .boolean) d1 [2, 0] S1) (q1 : d1 + 1 ≤ dd) (m2 : bt_Met yX7_step cX7_step 1 none d2 [2] S2) (q2 : d2 + 1 ≤ dd) : bt_Met yX7_passWord cX7_passWord 2 (some .boolean) dd [2, 0] (fun As w Q => tX7_passWord_0 S0 S1 S2 bt_k0 Q [] (bt_loc 2 As) w) := bt_met (by decide) (by decide) (fun X As w Q _ hSp hX hR => ⟨_, sX7_passWord_0 hX hR m0 q0 m1 q1 m2 q2, hSp⟩)
theorem lfX7_passSign {dd : Nat} {S0 : bt_Sp} {d0 : Nat} {S1 : bt_Sp} {d1 : Nat} (m0 : bt_Met yX7_fail cX7_fail 2 (some .boolean) d0 [2, 0] S0) (q0 : d0 + 1 ≤ dd) (m1 : bt_Met yX7_step cX7_step 1 none d1 [2] S1) (q1 : d1 + 1 ≤ dd) : bt_Met yX7_passSign cX7_passSign 2 (some .boolean) dd [2, 0] (fun As w Q => tX7_passSign_0 S0 S1 bt_k0 Q [] (bt_loc 2 As) w) := bt_met (by decide) (by decide) (fun X As w Q _ hSp hX hR => ⟨_, sX7_passSign_0 hX hR m0 q0 m1 q1, hSp⟩)
theorem lfX8_chance {dd : Nat} {S0 : bt_Sp} {d0 : Nat} (m0 : bt_Met yX8_chanceBehind cX8_chanceBehind 10 (some .int) d0 [2, 2, 2, 0, 0, 0] S0) (q0 : d0 + 1 ≤ dd) : bt_Met yX8_chance cX8_chance 6 (some .int) dd [2, 2, 2, 0, 0] (fun As w Q => tX8_chance_0 S0 bt_k0 Q [] (bt_loc 6 As) w) := bt_met (by decide) (by decide) (fun X As w Q _ hSp hX hR => ⟨_, sX8_chance_0 hX hR m0 q0, hSp⟩)
theorem lpX8_chanceBehind {dd : Nat} {S0 : bt_Sp} {d0 : Nat} {S1 : bt_Sp} {d1 : Nat} {S2 : bt_Sp} {d2 : Nat} {S3 : bt_Sp} {d3 : Nat} (m0 : bt_Met yX6_copy cX6_copy 2 none d0 [2, 2] S0) (q0 : d0 + 1 ≤ dd) (m1 : bt_Met yX1_pass cX1_pass 5 none d1 [2, 2, 2, 0] S1) (q1 : d1 + 1 ≤ dd) (m2 : bt_Met yX6_pacing cX6_pacing 4 (some .int) d2 [2, 0] S2) (q2 : d2 + 1 ≤ dd) (m3 : bt_Met yX8_chanceBehind cX8_chanceBehind 10 (some .int) d3 [2, 2, 2, 0, 0, 0] S3) (q3 : d3 + 1 ≤ dd) (Sp : bt_Sp) (hI : ∀ As w Q, bt_sig As = [2, 2, 2, 0, 0, 0] → Sp As w Q → ∃ I : Nat → Nat → bt_K, tX8_chanceBehind_0 S0 S1 S2 S3 (fun h st L w => ∃ n, I h n st L w) Q [] (bt_loc 10 As) w ∧ (∀ n st L w, I 32 n st L w → tX8_chanceBehind_32 S0 S1 S2 S3 (fun h st L w => ∃ m, m < n ∧ I h m st L w) Q st L w)) : bt_Met yX8_chanceBehind cX8_chanceBehind 10 (some .int) dd [2, 2, 2, 0, 0, 0] Sp := by
  refine bt_met (by decide) (by decide) (fun X As w Q hsig hSp hX hR => ?_)
  obtain ⟨I, h0, g32⟩ := hI As w Q hsig hSp
  have hs := bt_heads (X := X) (nL := 10) (cs := (0, 0)) [32] I (fun h κ => if h = 32 then tX8_chanceBehind_32 S0 S1 S2 S3 κ Q else I h 0) ?_ ?_
  · exact ⟨_, sX8_chanceBehind_0 hX hR m0 q0 m1 q1 m2 q2 m3 q3 (hs 32 (by simp)), h0⟩
  · intro h hh κ hκ
    simp only [List.mem_cons, List.not_mem_nil, or_false] at hh
    rcases hh with rfl
    · exact sX8_chanceBehind_32 hX hR m0 q0 m1 q1 m2 q2 m3 q3 (hκ 32 (by simp))
  · intro h hh n st L w hi
    simp only [List.mem_cons, List.not_mem_nil, or_false] at hh
    rcases hh with rfl
    · exact g32 n st L w hi
theorem lpX8_liveOn {dd : Nat} {S0 : bt_Sp} {d0 : Nat} {S1 : bt_Sp} {d1 : Nat} {S2 : bt_Sp} {d2 : Nat} {S3 : bt_Sp} {d3 : Nat} {S4 : bt_Sp} {d4 : Nat} {S5 : bt_Sp} {d5 : Nat} (m0 : bt_Met yX8_draw cX8_draw 2 (some .int) d0 [2, 0] S0) (q0 : d0 + 1 ≤ dd) (m1 : bt_Met yX10_lineOf cX10_lineOf 3 (some .int) d1 [0, 0, 0] S1) (q1 : d1 + 1 ≤ dd) (m2 : bt_Met yX1_obey cX1_obey 6 (some .boolean) d2 [2, 2, 2, 0] S2) (q2 : d2 + 1 ≤ dd) (m3 : bt_Met yX1_pass cX1_pass 5 none d3 [2, 2, 2, 0] S3) (q3 : d3 + 1 ≤ dd) (m4 : bt_Met yX6_pacing cX6_pacing 4 (some .int) d4 [2, 0] S4) (q4 : d4 + 1 ≤ dd) (m5 : bt_Met yJ6_bitCount_0f7a4 cJ6_bitCount_0f7a4 1 (some .int) d5 [0] S5) (q5 : d5 + 1 ≤ dd) (Sp : bt_Sp) (hI : ∀ As w Q, bt_sig As = [2, 2, 2, 0, 0] → Sp As w Q → ∃ I : Nat → Nat → bt_K, tX8_liveOn_0 S0 S1 S2 S3 S4 S5 (fun h st L w => ∃ n, I h n st L w) Q [] (bt_loc 8 As) w ∧ (∀ n st L w, I 19 n st L w → tX8_liveOn_19 S0 S1 S2 S3 S4 S5 (fun h st L w => ∃ m, m < n ∧ I h m st L w) Q st L w)) : bt_Met yX8_liveOn cX8_liveOn 8 none dd [2, 2, 2, 0, 0] Sp := by
  refine bt_met (by decide) (by decide) (fun X As w Q hsig hSp hX hR => ?_)
  obtain ⟨I, h0, g19⟩ := hI As w Q hsig hSp
  have hs := bt_heads (X := X) (nL := 8) (cs := (0, 0)) [19] I (fun h κ => if h = 19 then tX8_liveOn_19 S0 S1 S2 S3 S4 S5 κ Q else I h 0) ?_ ?_
  · exact ⟨_, sX8_liveOn_0 hX hR m0 q0 m1 q1 m2 q2 m3 q3 m4 q4 m5 q5 (hs 19 (by simp)), h0⟩
  · intro h hh κ hκ
    simp only [List.mem_cons, List.not_mem_nil, or_false] at hh
    rcases hh with rfl
    · exact sX8_liveOn_19 hX hR m0 q0 m1 q1 m2 q2 m3 q3 m4 q4 m5 q5 (hκ 19 (by simp))
  · intro h hh n st L w hi
    simp only [List.mem_cons, List.not_mem_nil, or_false] at hh
    rcases hh with rfl
    · exact g19 n st L w hi
theorem lfX8_draw {dd : Nat} : bt_Met yX8_draw cX8_draw 2 (some .int) dd [2, 0] (fun As w Q => tX8_draw_0 bt_k0 Q [] (bt_loc 2 As) w) := bt_met (by decide) (by decide) (fun X As w Q _ hSp hX hR => ⟨_, sX8_draw_0 hX hR, hSp⟩)
theorem lpX9_clear {dd : Nat} (Sp : bt_Sp) (hI : ∀ As w Q, bt_sig As = [2] → Sp As w Q → ∃ I : Nat → Nat → bt_K, tX9_clear_0 (fun h st L w => ∃ n, I h n st L w) Q [] (bt_loc 2 As) w ∧ (∀ n st L w, I 47 n st L w → tX9_clear_47 (fun h st L w => ∃ m, m < n ∧ I h m st L w) Q st L w) ∧ (∀ n st L w, I 70 n st L w → tX9_clear_70 (fun h st L w => ∃ m, m < n ∧ I h m st L w) Q st L w)) : bt_Met yX9_clear cX9_clear 2 none dd [2] Sp := by
  refine bt_met (by decide) (by decide) (fun X As w Q hsig hSp hX hR => ?_)
  obtain ⟨I, h0, g47, g70⟩ := hI As w Q hsig hSp
  have hs := bt_heads (X := X) (nL := 2) (cs := (0, 0)) [47, 70] I (fun h κ => if h = 47 then tX9_clear_47 κ Q else if h = 70 then tX9_clear_70 κ Q else I h 0) ?_ ?_
  · exact ⟨_, sX9_clear_0 hX hR (hs 47 (by simp)) (hs 70 (by simp)), h0⟩
  · intro h hh κ hκ
    simp only [List.mem_cons, List.not_mem_nil, or_false] at hh
    rcases hh with rfl | rfl
    · exact sX9_clear_47 hX hR (hκ 47 (by simp)) (hκ 70 (by simp))
    · exact sX9_clear_70 hX hR (hκ 47 (by simp)) (hκ 70 (by simp))
  · intro h hh n st L w hi
    simp only [List.mem_cons, List.not_mem_nil, or_false] at hh
    rcases hh with rfl | rfl
    · exact g47 n st L w hi
    · exact g70 n st L w hi
theorem lfX9_close {dd : Nat} {S0 : bt_Sp} {d0 : Nat} {S1 : bt_Sp} {d1 : Nat} {S2 : bt_Sp} {d2 : Nat} (m0 : bt_Met yX9_plainWorths cX9_plainWorths 4 none d0 [2] S0) (q0 : d0 + 1 ≤ dd) (m1 : bt_Met yX9_plainMoods cX9_plainMoods 6 none d1 [2] S1) (q1 : d1 + 1 ≤ dd) (m2 : bt_Met yX9_shortenWays cX9_shortenWays 4 none d2 [2] S2) (q2 : d2 + 1 ≤ dd) : bt_Met yX9_close cX9_close 1 none dd [2] (fun As w Q => tX9_close_0 S0 S1 S2 bt_k0 Q [] (bt_loc 1 As) w) := bt_met (by decide) (by decide) (fun X As w Q _ hSp hX hR => ⟨_, sX9_close_0 hX hR m0 q0 m1 q1 m2 q2, hSp⟩)
theorem lpX9_plainWorths {dd : Nat} {S0 : bt_Sp} {d0 : Nat} (m0 : bt_Met yX9_within cX9_within 2 (some .int) d0 [0, 0] S0) (q0 : d0 + 1 ≤ dd) (Sp : bt_Sp) (hI : ∀ As w Q, bt_sig As = [2] → Sp As w Q → ∃ I : Nat → Nat → bt_K, tX9_plainWorths_0 S0 (fun h st L w => ∃ n, I h n st L w) Q [] (bt_loc 4 As) w ∧ (∀ n st L w, I 2 n st L w → tX9_plainWorths_2 S0 (fun h st L w => ∃ m, m < n ∧ I h m st L w) Q st L w)) : bt_Met yX9_plainWorths cX9_plainWorths 4 none dd [2] Sp := by
  refine bt_met (by decide) (by decide) (fun X As w Q hsig hSp hX hR => ?_)
  obtain ⟨I, h0, g2⟩ := hI As w Q hsig hSp
  have hs := bt_heads (X := X) (nL := 4) (cs := (0, 0)) [2] I (fun h κ => if h = 2 then tX9_plainWorths_2 S0 κ Q else I h 0) ?_ ?_
  · exact ⟨_, sX9_plainWorths_0 hX hR m0 q0 (hs 2 (by simp)), h0⟩
  · intro h hh κ hκ
    simp only [List.mem_cons, List.not_mem_nil, or_false] at hh
    rcases hh with rfl
    · exact sX9_plainWorths_2 hX hR m0 q0 (hκ 2 (by simp))
  · intro h hh n st L w hi
    simp only [List.mem_cons, List.not_mem_nil, or_false] at hh
    rcases hh with rfl
    · exact g2 n st L w hi
theorem lpX9_plainMoods {dd : Nat} {S0 : bt_Sp} {d0 : Nat} (m0 : bt_Met yX9_within cX9_within 2 (some .int) d0 [0, 0] S0) (q0 : d0 + 1 ≤ dd) (Sp : bt_Sp) (hI : ∀ As w Q, bt_sig As = [2] → Sp As w Q → ∃ I : Nat → Nat → bt_K, tX9_plainMoods_0 S0 (fun h st L w => ∃ n, I h n st L w) Q [] (bt_loc 6 As) w ∧ (∀ n st L w, I 2 n st L w → tX9_plainMoods_2 S0 (fun h st L w => ∃ m, m < n ∧ I h m st L w) Q st L w)) : bt_Met yX9_plainMoods cX9_plainMoods 6 none dd [2] Sp := by
  refine bt_met (by decide) (by decide) (fun X As w Q hsig hSp hX hR => ?_)
  obtain ⟨I, h0, g2⟩ := hI As w Q hsig hSp
  have hs := bt_heads (X := X) (nL := 6) (cs := (0, 0)) [2] I (fun h κ => if h = 2 then tX9_plainMoods_2 S0 κ Q else I h 0) ?_ ?_
  · exact ⟨_, sX9_plainMoods_0 hX hR m0 q0 (hs 2 (by simp)), h0⟩
  · intro h hh κ hκ
    simp only [List.mem_cons, List.not_mem_nil, or_false] at hh
    rcases hh with rfl
    · exact sX9_plainMoods_2 hX hR m0 q0 (hκ 2 (by simp))
  · intro h hh n st L w hi
    simp only [List.mem_cons, List.not_mem_nil, or_false] at hh
    rcases hh with rfl
    · exact g2 n st L w hi
theorem lpX9_lawOfSees {dd : Nat} {S0 : bt_Sp} {d0 : Nat} {S1 : bt_Sp} {d1 : Nat} (m0 : bt_Met yX0_value cX0_value 4 (some .int) d0 [2] S0) (q0 : d0 + 1 ≤ dd) (m1 : bt_Met yX9_within cX9_within 2 (some .int) d1 [0, 0] S1) (q1 : d1 + 1 ≤ dd) (Sp : bt_Sp) (hI : ∀ As w Q, bt_sig As = [2, 2] → Sp As w Q → ∃ I : Nat → Nat → bt_K, tX9_lawOfSees_0 S0 S1 (fun h st L w => ∃ n, I h n st L w) Q [] (bt_loc 3 As) w ∧ (∀ n st L w, I 2 n st L w → tX9_lawOfSees_2 S0 S1 (fun h st L w => ∃ m, m < n ∧ I h m st L w) Q st L w)) : bt_Met yX9_lawOfSees cX9_lawOfSees 3 none dd [2, 2] Sp := by
  refine bt_met (by decide) (by decide) (fun X As w Q hsig hSp hX hR => ?_)
  obtain ⟨I, h0, g2⟩ := hI As w Q hsig hSp
  have hs := bt_heads (X := X) (nL := 3) (cs := (0, 0)) [2] I (fun h κ => if h = 2 then tX9_lawOfSees_2 S0 S1 κ Q else I h 0) ?_ ?_
  · exact ⟨_, sX9_lawOfSees_0 hX hR m0 q0 m1 q1 (hs 2 (by simp)), h0⟩
  · intro h hh κ hκ
    simp only [List.mem_cons, List.not_mem_nil, or_false] at hh
    rcases hh with rfl
    · exact sX9_lawOfSees_2 hX hR m0 q0 m1 q1 (hκ 2 (by simp))
  · intro h hh n st L w hi
    simp only [List.mem_cons, List.not_mem_nil, or_false] at hh
    rcases hh with rfl
    · exact g2 n st L w hi
theorem lpX9_lawOfMoods {dd : Nat} {S0 : bt_Sp} {d0 : Nat} {S1 : bt_Sp} {d1 : Nat} (m0 : bt_Met yX0_value cX0_value 4 (some .int) d0 [2] S0) (q0 : d0 + 1 ≤ dd) (m1 : bt_Met yX9_within cX9_within 2 (some .int) d1 [0, 0] S1) (q1 : d1 + 1 ≤ dd) (Sp : bt_Sp) (hI : ∀ As w Q, bt_sig As = [2, 2] → Sp As w Q → ∃ I : Nat → Nat → bt_K, tX9_lawOfMoods_0 S0 S1 (fun h st L w => ∃ n, I h n st L w) Q [] (bt_loc 3 As) w ∧ (∀ n st L w, I 2 n st L w → tX9_lawOfMoods_2 S0 S1 (fun h st L w => ∃ m, m < n ∧ I h m st L w) Q st L w)) : bt_Met yX9_lawOfMoods cX9_lawOfMoods 3 none dd [2, 2] Sp := by
  refine bt_met (by decide) (by decide) (fun X As w Q hsig hSp hX hR => ?_)
  obtain ⟨I, h0, g2⟩ := hI As w Q hsig hSp
  have hs := bt_heads (X := X) (nL := 3) (cs := (0, 0)) [2] I (fun h κ => if h = 2 then tX9_lawOfMoods_2 S0 S1 κ Q else I h 0) ?_ ?_
  · exact ⟨_, sX9_lawOfMoods_0 hX hR m0 q0 m1 q1 (hs 2 (by simp)), h0⟩
  · intro h hh κ hκ
    simp only [List.mem_cons, List.not_mem_nil, or_false] at hh
    rcases hh with rfl
    · exact sX9_lawOfMoods_2 hX hR m0 q0 m1 q1 (hκ 2 (by simp))
  · intro h hh n st L w hi
    simp only [List.mem_cons, List.not_mem_nil, or_false] at hh
    rcases hh with rfl
    · exact g2 n st L w hi
theorem lfX9_within {dd : Nat} (hmx : 1 ≤ dd) : bt_Met yX9_within cX9_within 2 (some .int) dd [0, 0] (fun As w Q => tX9_within_0 bt_k0 Q [] (bt_loc 2 As) w) := bt_met (by decide) (by decide) (fun X As w Q _ hSp hX hR => ⟨_, sX9_within_0 hX hR hmx, hSp⟩)
theorem lpX9_shortenWays {dd : Nat} (hmx : 1 ≤ dd) (Sp : bt_Sp) (hI : ∀ As w Q, bt_sig As = [2] → Sp As w Q → ∃ I : Nat → Nat → bt_K, tX9_shortenWays_0 (fun h st L w => ∃ n, I h n st L w) Q [] (bt_loc 4 As) w ∧ (∀ n st L w, I 2 n st L w → tX9_shortenWays_2 (fun h st L w => ∃ m, m < n ∧ I h m st L w) Q st L w) ∧ (∀ n st L w, I 28 n st L w → tX9_shortenWays_28 (fun h st L w => ∃ m, m < n ∧ I h m st L w) Q st L w) ∧ (∀ n st L w, I 36 n st L w → tX9_shortenWays_36 (fun h st L w => ∃ m, m < n ∧ I h m st L w) Q st L w)) : bt_Met yX9_shortenWays cX9_shortenWays 4 none dd [2] Sp := by
  refine bt_met (by decide) (by decide) (fun X As w Q hsig hSp hX hR => ?_)
  obtain ⟨I, h0, g2, g28, g36⟩ := hI As w Q hsig hSp
  have hs := bt_heads (X := X) (nL := 4) (cs := (0, 0)) [2, 28, 36] I (fun h κ => if h = 2 then tX9_shortenWays_2 κ Q else if h = 28 then tX9_shortenWays_28 κ Q else if h = 36 then tX9_shortenWays_36 κ Q else I h 0) ?_ ?_
  · exact ⟨_, sX9_shortenWays_0 hX hR (hs 2 (by simp)) (hs 28 (by simp)) (hs 36 (by simp)) hmx, h0⟩
  · intro h hh κ hκ
    simp only [List.mem_cons, List.not_mem_nil, or_false] at hh
    rcases hh with rfl | rfl | rfl
    · exact sX9_shortenWays_2 hX hR (hκ 2 (by simp)) (hκ 28 (by simp)) (hκ 36 (by simp)) hmx
    · exact sX9_shortenWays_28 hX hR (hκ 2 (by simp)) (hκ 28 (by simp)) (hκ 36 (by simp)) hmx
    · exact sX9_shortenWays_36 hX hR (hκ 2 (by simp)) (hκ 28 (by simp)) (hκ 36 (by simp)) hmx
  · intro h hh n st L w hi
    simp only [List.mem_cons, List.not_mem_nil, or_false] at hh
    rcases hh with rfl | rfl | rfl
    · exact g2 n st L w hi
    · exact g28 n st L w hi
    · exact g36 n st L w hi
theorem lfX9_worthAt {dd : Nat} : bt_Met yX9_worthAt cX9_worthAt 4 (some .int) dd [2, 0, 0, 0] (fun As w Q => tX9_worthAt_0 bt_k0 Q [] (bt_loc 4 As) w) := bt_met (by decide) (by decide) (fun X As w Q _ hSp hX hR => ⟨_, sX9_worthAt_0 hX hR, hSp⟩)
theorem lfX9_moodAt {dd : Nat} : bt_Met yX9_moodAt cX9_moodAt 5 (some .int) dd [2, 0, 0, 0, 0] (fun As w Q => tX9_moodAt_0 bt_k0 Q [] (bt_loc 5 As) w) := bt_met (by decide) (by decide) (fun X As w Q _ hSp hX hR => ⟨_, sX9_moodAt_0 hX hR, hSp⟩)
theorem lpX9_setsDrawnBy {dd : Nat} {S0 : bt_Sp} {d0 : Nat} (m0 : bt_Met yX9_worthAt cX9_worthAt 4 (some .int) d0 [2, 0, 0, 0] S0) (q0 : d0 + 1 ≤ dd) (Sp : bt_Sp) (hI : ∀ As w Q, bt_sig As = [2, 0, 0] → Sp As w Q → ∃ I : Nat → Nat → bt_K, tX9_setsDrawnBy_0 S0 (fun h st L w => ∃ n, I h n st L w) Q [] (bt_loc 5 As) w ∧ (∀ n st L w, I 5 n st L w → tX9_setsDrawnBy_5 S0 (fun h st L w => ∃ m, m < n ∧ I h m st L w) Q st L w)) : bt_Met yX9_setsDrawnBy cX9_setsDrawnBy 5 (some .int) dd [2, 0, 0] Sp := by
  refine bt_met (by decide) (by decide) (fun X As w Q hsig hSp hX hR => ?_)
  obtain ⟨I, h0, g5⟩ := hI As w Q hsig hSp
  have hs := bt_heads (X := X) (nL := 5) (cs := (0, 0)) [5] I (fun h κ => if h = 5 then tX9_setsDrawnBy_5 S0 κ Q else I h 0) ?_ ?_
  · exact ⟨_, sX9_setsDrawnBy_0 hX hR m0 q0 (hs 5 (by simp)), h0⟩
  · intro h hh κ hκ
    simp only [List.mem_cons, List.not_mem_nil, or_false] at hh
    rcases hh with rfl
    · exact sX9_setsDrawnBy_5 hX hR m0 q0 (hκ 5 (by simp))
  · intro h hh n st L w hi
    simp only [List.mem_cons, List.not_mem_nil, or_false] at hh
    rcases hh with rfl
    · exact g5 n st L w hi
theorem lpX9_foePairs {dd : Nat} {S0 : bt_Sp} {d0 : Nat} (m0 : bt_Met yJ6_bitCount_0f7a4 cJ6_bitCount_0f7a4 1 (some .int) d0 [0] S0) (q0 : d0 + 1 ≤ dd) (Sp : bt_Sp) (hI : ∀ As w Q, bt_sig As = [2] → Sp As w Q → ∃ I : Nat → Nat → bt_K, tX9_foePairs_0 S0 (fun h st L w => ∃ n, I h n st L w) Q [] (bt_loc 3 As) w ∧ (∀ n st L w, I 4 n st L w → tX9_foePairs_4 S0 (fun h st L w => ∃ m, m < n ∧ I h m st L w) Q st L w)) : bt_Met yX9_foePairs cX9_foePairs 3 (some .int) dd [2] Sp := by
  refine bt_met (by decide) (by decide) (fun X As w Q hsig hSp hX hR => ?_)
  obtain ⟨I, h0, g4⟩ := hI As w Q hsig hSp
  have hs := bt_heads (X := X) (nL := 3) (cs := (0, 0)) [4] I (fun h κ => if h = 4 then tX9_foePairs_4 S0 κ Q else I h 0) ?_ ?_
  · exact ⟨_, sX9_foePairs_0 hX hR m0 q0 (hs 4 (by simp)), h0⟩
  · intro h hh κ hκ
    simp only [List.mem_cons, List.not_mem_nil, or_false] at hh
    rcases hh with rfl
    · exact sX9_foePairs_4 hX hR m0 q0 (hκ 4 (by simp))
  · intro h hh n st L w hi
    simp only [List.mem_cons, List.not_mem_nil, or_false] at hh
    rcases hh with rfl
    · exact g4 n st L w hi
theorem lfX9_canGo {dd : Nat} {S0 : bt_Sp} {d0 : Nat} (m0 : bt_Met yX6_guestsIn cX6_guestsIn 5 (some .int) d0 [2, 0, 0] S0) (q0 : d0 + 1 ≤ dd) : bt_Met yX9_canGo cX9_canGo 4 (some .boolean) dd [2, 2, 0, 0] (fun As w Q => tX9_canGo_0 S0 bt_k0 Q [] (bt_loc 4 As) w) := bt_met (by decide) (by decide) (fun X As w Q _ hSp hX hR => ⟨_, sX9_canGo_0 hX hR m0 q0, hSp⟩)
theorem lfX9_cheer {dd : Nat} (hmx : 1 ≤ dd) : bt_Met yX9_cheer cX9_cheer 3 none dd [2, 2, 0] (fun As w Q => tX9_cheer_0 bt_k0 Q [] (bt_loc 3 As) w) := bt_met (by decide) (by decide) (fun X As w Q _ hSp hX hR => ⟨_, sX9_cheer_0 hX hR hmx, hSp⟩)
theorem lfX10_feed {dd : Nat} {S0 : bt_Sp} {d0 : Nat} (m0 : bt_Met yX7_addAll cX7_addAll 6 none d0 [2, 1] S0) (q0 : d0 + 1 ≤ dd) : bt_Met yX10_feed cX10_feed 7 (some .int) dd [2, 1, 1, 1] (fun As w Q => tX10_feed_0 S0 bt_k0 Q [] (bt_loc 7 As) w) := bt_met (by decide) (by decide) (fun X As w Q _ hSp hX hR => ⟨_, sX10_feed_0 hX hR m0 q0, hSp⟩)
theorem lpX10_zoo {dd : Nat} {S0 : bt_Sp} {d0 : Nat} {S1 : bt_Sp} {d1 : Nat} (m0 : bt_Met yX3_readZoo cX3_readZoo 4 (some .int) d0 [2, 2] S0) (q0 : d0 + 1 ≤ dd) (m1 : bt_Met yX2_begin cX2_begin 2 none d1 [2, 2] S1) (q1 : d1 + 1 ≤ dd) (Sp : bt_Sp) (hI : ∀ As w Q, bt_sig As = [2] → Sp As w Q → ∃ I : Nat → Nat → bt_K, tX10_zoo_0 S0 S1 (fun h st L w => ∃ n, I h n st L w) Q [] (bt_loc 4 As) w ∧ (∀ n st L w, I 63 n st L w → tX10_zoo_63 S0 S1 (fun h st L w => ∃ m, m < n ∧ I h m st L w) Q st L w)) : bt_Met yX10_zoo cX10_zoo 4 (some .int) dd [2] Sp := by
  refine bt_met (by decide) (by decide) (fun X As w Q hsig hSp hX hR => ?_)
  obtain ⟨I, h0, g63⟩ := hI As w Q hsig hSp
  have hs := bt_heads (X := X) (nL := 4) (cs := (0, 0)) [63] I (fun h κ => if h = 63 then tX10_zoo_63 S0 S1 κ Q else I h 0) ?_ ?_
  · exact ⟨_, sX10_zoo_0 hX hR m0 q0 m1 q1 (hs 63 (by simp)), h0⟩
  · intro h hh κ hκ
    simp only [List.mem_cons, List.not_mem_nil, or_false] at hh
    rcases hh with rfl
    · exact sX10_zoo_63 hX hR m0 q0 m1 q1 (hκ 63 (by simp))
  · intro h hh n st L w hi
    simp only [List.mem_cons, List.not_mem_nil, or_false] at hh
    rcases hh with rfl
    · exact g63 n st L w hi
theorem lfX10_days {dd : Nat} {S0 : bt_Sp} {d0 : Nat} {S1 : bt_Sp} {d1 : Nat} (m0 : bt_Met yX3_readDays cX3_readDays 4 (some .int) d0 [2, 2] S0) (q0 : d0 + 1 ≤ dd) (m1 : bt_Met yX2_takeDays cX2_takeDays 3 none d1 [2, 2, 0] S1) (q1 : d1 + 1 ≤ dd) : bt_Met yX10_days cX10_days 2 (some .int) dd [2] (fun As w Q => tX10_days_0 S0 S1 bt_k0 Q [] (bt_loc 2 As) w) := bt_met (by decide) (by decide) (fun X As w Q _ hSp hX hR => ⟨_, sX10_days_0 hX hR m0 q0 m1 q1, hSp⟩)
theorem lfX10_pen {dd : Nat} {S0 : bt_Sp} {d0 : Nat} {S1 : bt_Sp} {d1 : Nat} {S2 : bt_Sp} {d2 : Nat} (m0 : bt_Met yX10_isPen cX10_isPen 2 (some .boolean) d0 [2, 0] S0) (q0 : d0 + 1 ≤ dd) (m1 : bt_Met yX1_foresee cX1_foresee 8 none d1 [2, 2, 2, 0] S1) (q1 : d1 + 1 ≤ dd) (m2 : bt_Met yX6_guestsIn cX6_guestsIn 5 (some .int) d2 [2, 0, 0] S2) (q2 : d2 + 1 ≤ dd) : bt_Met yX10_pen cX10_pen 3 (some .int) dd [2, 0, 0] (fun As w Q => tX10_pen_0 S0 S1 S2 bt_k0 Q [] (bt_loc 3 As) w) := bt_met (by decide) (by decide) (fun X As w Q _ hSp hX hR => ⟨_, sX10_pen_0 hX hR m0 q0 m1 q1 m2 q2, hSp⟩)
theorem lfX10_guest {dd : Nat} {S0 : bt_Sp} {d0 : Nat} {S1 : bt_Sp} {d1 : Nat} (m0 : bt_Met yX10_isGuest cX10_isGuest 2 (some .boolean) d0 [2, 0] S0) (q0 : d0 + 1 ≤ dd) (m1 : bt_Met yX1_foresee cX1_foresee 8 none d1 [2, 2, 2, 0] S1) (q1 : d1 + 1 ≤ dd) : bt_Met yX10_guest cX10_guest 3 (some .int) dd [2, 0, 0] (fun As w Q => tX10_guest_0 S0 S1 bt_k0 Q [] (bt_loc 3 As) w) := bt_met (by decide) (by decide) (fun X As w Q _ hSp hX hR => ⟨_, sX10_guest_0 hX hR m0 q0 m1 q1, hSp⟩)
theorem lfX10_animal {dd : Nat} {S0 : bt_Sp} {d0 : Nat} {S1 : bt_Sp} {d1 : Nat} (m0 : bt_Met yX10_isAnimal cX10_isAnimal 2 (some .boolean) d0 [2, 0] S0) (q0 : d0 + 1 ≤ dd) (m1 : bt_Met yX1_foresee cX1_foresee 8 none d1 [2, 2, 2, 0] S1) (q1 : d1 + 1 ≤ dd) : bt_Met yX10_animal cX10_animal 3 (some .int) dd [2, 0, 0] (fun As w Q => tX10_animal_0 S0 S1 bt_k0 Q [] (bt_loc 3 As) w) := bt_met (by decide) (by decide) (fun X As w Q _ hSp hX hR => ⟨_, sX10_animal_0 hX hR m0 q0 m1 q1, hSp⟩)
theorem lfX10_worth {dd : Nat} {S0 : bt_Sp} {d0 : Nat} {S1 : bt_Sp} {d1 : Nat} {S2 : bt_Sp} {d2 : Nat} {S3 : bt_Sp} {d3 : Nat} (m0 : bt_Met yX10_isAnimal cX10_isAnimal 2 (some .boolean) d0 [2, 0] S0) (q0 : d0 + 1 ≤ dd) (m1 : bt_Met yX10_isPen cX10_isPen 2 (some .boolean) d1 [2, 0] S1) (q1 : d1 + 1 ≤ dd) (m2 : bt_Met yX1_weigh cX1_weigh 7 none d2 [2, 2, 2] S2) (q2 : d2 + 1 ≤ dd) (m3 : bt_Met yX1_worthTo cX1_worthTo 5 (some .int) d3 [2, 0, 0] S3) (q3 : d3 + 1 ≤ dd) : bt_Met yX10_worth cX10_worth 3 (some .int) dd [2, 0, 0] (fun As w Q => tX10_worth_0 S0 S1 S2 S3 bt_k0 Q [] (bt_loc 3 As) w) := bt_met (by decide) (by decide) (fun X As w Q _ hSp hX hR => ⟨_, sX10_worth_0 hX hR m0 q0 m1 q1 m2 q2 m3 q3, hSp⟩)
theorem lfX10_move {dd : Nat} {S0 : bt_Sp} {d0 : Nat} {S1 : bt_Sp} {d1 : Nat} {S2 : bt_Sp} {d2 : Nat} {S3 : bt_Sp} {d3 : Nat} (m0 : bt_Met yX10_isGuest cX10_isGuest 2 (some .boolean) d0 [2, 0] S0) (q0 : d0 + 1 ≤ dd) (m1 : bt_Met yX10_isPen cX10_isPen 2 (some .boolean) d1 [2, 0] S1) (q1 : d1 + 1 ≤ dd) (m2 : bt_Met yX10_lineOf cX10_lineOf 3 (some .int) d2 [0, 0, 0] S2) (q2 : d2 + 1 ≤ dd) (m3 : bt_Met yX10_act cX10_act 2 (some .boolean) d3 [2, 0] S3) (q3 : d3 + 1 ≤ dd) : bt_Met yX10_move cX10_move 3 (some .boolean) dd [2, 0, 0] (fun As w Q => tX10_move_0 S0 S1 S2 S3 bt_k0 Q [] (bt_loc 3 As) w) := bt_met (by decide) (by decide) (fun X As w Q _ hSp hX hR => ⟨_, sX10_move_0 hX hR m0 q0 m1 q1 m2 q2 m3 q3, hSp⟩)
theorem lfX10_tyre {dd : Nat} {S0 : bt_Sp} {d0 : Nat} {S1 : bt_Sp} {d1 : Nat} {S2 : bt_Sp} {d2 : Nat} (m0 : bt_Met yX10_isGuest cX10_isGuest 2 (some .boolean) d0 [2, 0] S0) (q0 : d0 + 1 ≤ dd) (m1 : bt_Met yX10_lineOf cX10_lineOf 3 (some .int) d1 [0, 0, 0] S1) (q1 : d1 + 1 ≤ dd) (m2 : bt_Met yX10_act cX10_act 2 (some .boolean) d2 [2, 0] S2) (q2 : d2 + 1 ≤ dd) : bt_Met yX10_tyre cX10_tyre 2 (some .int) dd [2, 0] (fun As w Q => tX10_tyre_0 S0 S1 S2 bt_k0 Q [] (bt_loc 2 As) w) := bt_met (by decide) (by decide) (fun X As w Q _ hSp hX hR => ⟨_, sX10_tyre_0 hX hR m0 q0 m1 q1 m2 q2, hSp⟩)
theorem lfX10_hour {dd : Nat} {S0 : bt_Sp} {d0 : Nat} (m0 : bt_Met yX10_act cX10_act 2 (some .boolean) d0 [2, 0] S0) (q0 : d0 + 1 ≤ dd) : bt_Met yX10_hour cX10_hour 2 (some .int) dd [2] (fun As w Q => tX10_hour_0 S0 bt_k0 Q [] (bt_loc 2 As) w) := bt_met (by decide) (by decide) (fun X As w Q _ hSp hX hR => ⟨_, sX10_hour_0 hX hR m0 q0, hSp⟩)
theorem lfX10_undo {dd : Nat} {S0 : bt_Sp} {d0 : Nat} (m0 : bt_Met yX6_copy cX6_copy 2 none d0 [2, 2] S0) (q0 : d0 + 1 ≤ dd) : bt_Met yX10_undo cX10_undo 1 (some .boolean) dd [2] (fun As w Q => tX10_undo_0 S0 bt_k0 Q [] (bt_loc 1 As) w) := bt_met (by decide) (by decide) (fun X As w Q _ hSp hX hR => ⟨_, sX10_undo_0 hX hR m0 q0, hSp⟩)
theorem lpX10_judged {dd : Nat} {S0 : bt_Sp} {d0 : Nat} {S1 : bt_Sp} {d1 : Nat} {S2 : bt_Sp} {d2 : Nat} (m0 : bt_Met yX6_copy cX6_copy 2 none d0 [2, 2] S0) (q0 : d0 + 1 ≤ dd) (m1 : bt_Met yX1_obey cX1_obey 6 (some .boolean) d1 [2, 2, 2, 0] S1) (q1 : d1 + 1 ≤ dd) (m2 : bt_Met yX6_pacing cX6_pacing 4 (some .int) d2 [2, 0] S2) (q2 : d2 + 1 ≤ dd) (Sp : bt_Sp) (hI : ∀ As w Q, bt_sig As = [2, 0] → Sp As w Q → ∃ I : Nat → Nat → bt_K, tX10_judged_0 S0 S1 S2 (fun h st L w => ∃ n, I h n st L w) Q [] (bt_loc 5 As) w ∧ (∀ n st L w, I 33 n st L w → tX10_judged_33 S0 S1 S2 (fun h st L w => ∃ m, m < n ∧ I h m st L w) Q st L w)) : bt_Met yX10_judged cX10_judged 5 (some .int) dd [2, 0] Sp := by
  refine bt_met (by decide) (by decide) (fun X As w Q hsig hSp hX hR => ?_)
  obtain ⟨I, h0, g33⟩ := hI As w Q hsig hSp
  have hs := bt_heads (X := X) (nL := 5) (cs := (0, 0)) [33] I (fun h κ => if h = 33 then tX10_judged_33 S0 S1 S2 κ Q else I h 0) ?_ ?_
  · exact ⟨_, sX10_judged_0 hX hR m0 q0 m1 q1 m2 q2 (hs 33 (by simp)), h0⟩
  · intro h hh κ hκ
    simp only [List.mem_cons, List.not_mem_nil, or_false] at hh
    rcases hh with rfl
    · exact sX10_judged_33 hX hR m0 q0 m1 q1 m2 q2 (hκ 33 (by simp))
  · intro h hh n st L w hi
    simp only [List.mem_cons, List.not_mem_nil, or_false] at hh
    rcases hh with rfl
    · exact g33 n st L w hi
theorem lfX10_show {dd : Nat} {S0 : bt_Sp} {d0 : Nat} (m0 : bt_Met yX5_search cX5_search 4 none d0 [2, 2, 2] S0) (q0 : d0 + 1 ≤ dd) : bt_Met yX10_show cX10_show 2 (some .int) dd [2, 0] (fun As w Q => tX10_show_0 S0 bt_k0 Q [] (bt_loc 2 As) w) := bt_met (by decide) (by decide) (fun X As w Q _ hSp hX hR => ⟨_, sX10_show_0 hX hR m0 q0, hSp⟩)
theorem lfX10_tell {dd : Nat} {S0 : bt_Sp} {d0 : Nat} {S1 : bt_Sp} {d1 : Nat} (m0 : bt_Met yX10_isPen cX10_isPen 2 (some .boolean) d0 [2, 0] S0) (q0 : d0 + 1 ≤ dd) (m1 : bt_Met yX1_setsChoosing cX1_setsChoosing 6 (some .int) d1 [2, 2, 2, 0] S1) (q1 : d1 + 1 ≤ dd) : bt_Met yX10_tell cX10_tell 2 (some .boolean) dd [2, 0] (fun As w Q => tX10_tell_0 S0 S1 bt_k0 Q [] (bt_loc 2 As) w) := bt_met (by decide) (by decide) (fun X As w Q _ hSp hX hR => ⟨_, sX10_tell_0 hX hR m0 q0 m1 q1, hSp⟩)
theorem lfX10_sets {dd : Nat} {S0 : bt_Sp} {d0 : Nat} {S1 : bt_Sp} {d1 : Nat} {S2 : bt_Sp} {d2 : Nat} {S3 : bt_Sp} {d3 : Nat} (m0 : bt_Met yJ6_bitCount_0f7a4 cJ6_bitCount_0f7a4 1 (some .int) d0 [0] S0) (q0 : d0 + 1 ≤ dd) (m1 : bt_Met yX10_smallestSet cX10_smallestSet 4 (some .int) d1 [0] S1) (q1 : d1 + 1 ≤ dd) (m2 : bt_Met yX10_kindsInSome cX10_kindsInSome 3 (some .int) d2 [0] S2) (q2 : d2 + 1 ≤ dd) (m3 : bt_Met yX10_kindsInAll cX10_kindsInAll 3 (some .int) d3 [0] S3) (q3 : d3 + 1 ≤ dd) : bt_Met yX10_sets cX10_sets 3 (some .int) dd [2, 0] (fun As w Q => tX10_sets_0 S0 S1 S2 S3 bt_k0 Q [] (bt_loc 3 As) w) := bt_met (by decide) (by decide) (fun X As w Q _ hSp hX hR => ⟨_, sX10_sets_0 hX hR m0 q0 m1 q1 m2 q2 m3 q3, hSp⟩)
theorem lpX10_next {dd : Nat} {S0 : bt_Sp} {d0 : Nat} {S1 : bt_Sp} {d1 : Nat} (m0 : bt_Met yJ6_bitCount_0f7a4 cJ6_bitCount_0f7a4 1 (some .int) d0 [0] S0) (q0 : d0 + 1 ≤ dd) (m1 : bt_Met yX9_setsDrawnBy cX9_setsDrawnBy 5 (some .int) d1 [2, 0, 0] S1) (q1 : d1 + 1 ≤ dd) (hmx : 1 ≤ dd) (Sp : bt_Sp) (hI : ∀ As w Q, bt_sig As = [2] → Sp As w Q → ∃ I : Nat → Nat → bt_K, tX10_next_0 S0 S1 (fun h st L w => ∃ n, I h n st L w) Q [] (bt_loc 7 As) w ∧ (∀ n st L w, I 18 n st L w → tX10_next_18 S0 S1 (fun h st L w => ∃ m, m < n ∧ I h m st L w) Q st L w)) : bt_Met yX10_next cX10_next 7 (some .int) dd [2] Sp := by
  refine bt_met (by decide) (by decide) (fun X As w Q hsig hSp hX hR => ?_)
  obtain ⟨I, h0, g18⟩ := hI As w Q hsig hSp
  have hs := bt_heads (X := X) (nL := 7) (cs := (0, 0)) [18] I (fun h κ => if h = 18 then tX10_next_18 S0 S1 κ Q else I h 0) ?_ ?_
  · exact ⟨_, sX10_next_0 hX hR m0 q0 m1 q1 (hs 18 (by simp)) hmx, h0⟩
  · intro h hh κ hκ
    simp only [List.mem_cons, List.not_mem_nil, or_false] at hh
    rcases hh with rfl
    · exact sX10_next_18 hX hR m0 q0 m1 q1 (hκ 18 (by simp)) hmx
  · intro h hh n st L w hi
    simp only [List.mem_cons, List.not_mem_nil, or_false] at hh
    rcases hh with rfl
    · exact g18 n st L w hi
theorem lfX10_apart {dd : Nat} {S0 : bt_Sp} {d0 : Nat} {S1 : bt_Sp} {d1 : Nat} (m0 : bt_Met yX10_isGuest cX10_isGuest 2 (some .boolean) d0 [2, 0] S0) (q0 : d0 + 1 ≤ dd) (m1 : bt_Met yX4_keepApart cX4_keepApart 3 (some .int) d1 [2, 2] S1) (q1 : d1 + 1 ≤ dd) : bt_Met yX10_apart cX10_apart 3 (some .int) dd [2, 0] (fun As w Q => tX10_apart_0 S0 S1 bt_k0 Q [] (bt_loc 3 As) w) := bt_met (by decide) (by decide) (fun X As w Q _ hSp hX hR => ⟨_, sX10_apart_0 hX hR m0 q0 m1 q1, hSp⟩)
theorem lpX10_tyres {dd : Nat} {S0 : bt_Sp} {d0 : Nat} {S1 : bt_Sp} {d1 : Nat} (m0 : bt_Met yJ6_bitCount_0f7a4 cJ6_bitCount_0f7a4 1 (some .int) d0 [0] S0) (q0 : d0 + 1 ≤ dd) (m1 : bt_Met yX10_tyresHelp cX10_tyresHelp 3 (some .boolean) d1 [2, 0] S1) (q1 : d1 + 1 ≤ dd) (Sp : bt_Sp) (hI : ∀ As w Q, bt_sig As = [2] → Sp As w Q → ∃ I : Nat → Nat → bt_K, tX10_tyres_0 S0 S1 (fun h st L w => ∃ n, I h n st L w) Q [] (bt_loc 4 As) w ∧ (∀ n st L w, I 7 n st L w → tX10_tyres_7 S0 S1 (fun h st L w => ∃ m, m < n ∧ I h m st L w) Q st L w)) : bt_Met yX10_tyres cX10_tyres 4 (some .int) dd [2] Sp := by
  refine bt_met (by decide) (by decide) (fun X As w Q hsig hSp hX hR => ?_)
  obtain ⟨I, h0, g7⟩ := hI As w Q hsig hSp
  have hs := bt_heads (X := X) (nL := 4) (cs := (0, 0)) [7] I (fun h κ => if h = 7 then tX10_tyres_7 S0 S1 κ Q else I h 0) ?_ ?_
  · exact ⟨_, sX10_tyres_0 hX hR m0 q0 m1 q1 (hs 7 (by simp)), h0⟩
  · intro h hh κ hκ
    simp only [List.mem_cons, List.not_mem_nil, or_false] at hh
    rcases hh with rfl
    · exact sX10_tyres_7 hX hR m0 q0 m1 q1 (hκ 7 (by simp))
  · intro h hh n st L w hi
    simp only [List.mem_cons, List.not_mem_nil, or_false] at hh
    rcases hh with rfl
    · exact g7 n st L w hi
theorem lfX10_walk {dd : Nat} {S0 : bt_Sp} {d0 : Nat} {S1 : bt_Sp} {d1 : Nat} (m0 : bt_Met yX10_isPen cX10_isPen 2 (some .boolean) d0 [2, 0] S0) (q0 : d0 + 1 ≤ dd) (m1 : bt_Met yX4_walkFrom cX4_walkFrom 6 none d1 [2, 2, 2, 0] S1) (q1 : d1 + 1 ≤ dd) : bt_Met yX10_walk cX10_walk 3 (some .int) dd [2, 0, 0] (fun As w Q => tX10_walk_0 S0 S1 bt_k0 Q [] (bt_loc 3 As) w) := bt_met (by decide) (by decide) (fun X As w Q _ hSp hX hR => ⟨_, sX10_walk_0 hX hR m0 q0 m1 q1, hSp⟩)
theorem lfX10_rain {dd : Nat} {S0 : bt_Sp} {d0 : Nat} {S1 : bt_Sp} {d1 : Nat} {S2 : bt_Sp} {d2 : Nat} (m0 : bt_Met yX10_isGuest cX10_isGuest 2 (some .boolean) d0 [2, 0] S0) (q0 : d0 + 1 ≤ dd) (m1 : bt_Met yX6_copy cX6_copy 2 none d1 [2, 2] S1) (q1 : d1 + 1 ≤ dd) (m2 : bt_Met yX8_chance cX8_chance 6 (some .int) d2 [2, 2, 2, 0, 0] S2) (q2 : d2 + 1 ≤ dd) : bt_Met yX10_rain cX10_rain 3 (some .int) dd [2, 0, 0] (fun As w Q => tX10_rain_0 S0 S1 S2 bt_k0 Q [] (bt_loc 3 As) w) := bt_met (by decide) (by decide) (fun X As w Q _ hSp hX hR => ⟨_, sX10_rain_0 hX hR m0 q0 m1 q1 m2 q2, hSp⟩)
theorem lpX10_first {dd : Nat} {S0 : bt_Sp} {d0 : Nat} {S1 : bt_Sp} {d1 : Nat} {S2 : bt_Sp} {d2 : Nat} (m0 : bt_Met yX6_copy cX6_copy 2 none d0 [2, 2] S0) (q0 : d0 + 1 ≤ dd) (m1 : bt_Met yX9_cheer cX9_cheer 3 none d1 [2, 2, 0] S1) (q1 : d1 + 1 ≤ dd) (m2 : bt_Met yX8_chance cX8_chance 6 (some .int) d2 [2, 2, 2, 0, 0] S2) (q2 : d2 + 1 ≤ dd) (Sp : bt_Sp) (hI : ∀ As w Q, bt_sig As = [2, 0] → Sp As w Q → ∃ I : Nat → Nat → bt_K, tX10_first_0 S0 S1 S2 (fun h st L w => ∃ n, I h n st L w) Q [] (bt_loc 6 As) w ∧ (∀ n st L w, I 22 n st L w → tX10_first_22 S0 S1 S2 (fun h st L w => ∃ m, m < n ∧ I h m st L w) Q st L w)) : bt_Met yX10_first cX10_first 6 (some .int) dd [2, 0] Sp := by
  refine bt_met (by decide) (by decide) (fun X As w Q hsig hSp hX hR => ?_)
  obtain ⟨I, h0, g22⟩ := hI As w Q hsig hSp
  have hs := bt_heads (X := X) (nL := 6) (cs := (0, 0)) [22] I (fun h κ => if h = 22 then tX10_first_22 S0 S1 S2 κ Q else I h 0) ?_ ?_
  · exact ⟨_, sX10_first_0 hX hR m0 q0 m1 q1 m2 q2 (hs 22 (by simp)), h0⟩
  · intro h hh κ hκ
    simp only [List.mem_cons, List.not_mem_nil, or_false] at hh
    rcases hh with rfl
    · exact sX10_first_22 hX hR m0 q0 m1 q1 m2 q2 (hκ 22 (by simp))
  · intro h hh n st L w hi
    simp only [List.mem_cons, List.not_mem_nil, or_false] at hh
    rcases hh with rfl
    · exact g22 n st L w hi
theorem lfX10_years {dd : Nat} {S0 : bt_Sp} {d0 : Nat} {S1 : bt_Sp} {d1 : Nat} {S2 : bt_Sp} {d2 : Nat} (m0 : bt_Met yX6_copy cX6_copy 2 none d0 [2, 2] S0) (q0 : d0 + 1 ≤ dd) (m1 : bt_Met yX8_liveOn cX8_liveOn 8 none d1 [2, 2, 2, 0, 0] S1) (q1 : d1 + 1 ≤ dd) (m2 : bt_Met yX6_moodsTogether cX6_moodsTogether 4 (some .int) d2 [2, 0] S2) (q2 : d2 + 1 ≤ dd) : bt_Met yX10_years cX10_years 4 (some .int) dd [2, 0, 0, 0] (fun As w Q => tX10_years_0 S0 S1 S2 bt_k0 Q [] (bt_loc 4 As) w) := bt_met (by decide) (by decide) (fun X As w Q _ hSp hX hR => ⟨_, sX10_years_0 hX hR m0 q0 m1 q1 m2 q2, hSp⟩)
theorem lfX10_mark {dd : Nat} {S0 : bt_Sp} {d0 : Nat} (m0 : bt_Met yX2_copy cX2_copy 2 none d0 [2, 2] S0) (q0 : d0 + 1 ≤ dd) : bt_Met yX10_mark cX10_mark 3 (some .boolean) dd [2, 0, 0] (fun As w Q => tX10_mark_0 S0 bt_k0 Q [] (bt_loc 3 As) w) := bt_met (by decide) (by decide) (fun X As w Q _ hSp hX hR => ⟨_, sX10_mark_0 hX hR m0 q0, hSp⟩)
theorem lfX10_count {dd : Nat} {S0 : bt_Sp} {d0 : Nat} {S1 : bt_Sp} {d1 : Nat} {S2 : bt_Sp} {d2 : Nat} (m0 : bt_Met yX6_coinsTogether cX6_coinsTogether 4 (some .int) d0 [2, 0] S0) (q0 : d0 + 1 ≤ dd) (m1 : bt_Met yX6_pacing cX6_pacing 4 (some .int) d1 [2, 0] S1) (q1 : d1 + 1 ≤ dd) (m2 : bt_Met yX9_foePairs cX9_foePairs 3 (some .int) d2 [2] S2) (q2 : d2 + 1 ≤ dd) : bt_Met yX10_count cX10_count 2 (some .int) dd [2, 0] (fun As w Q => tX10_count_0 S0 S1 S2 bt_k0 Q [] (bt_loc 2 As) w) := bt_met (by decide) (by decide) (fun X As w Q _ hSp hX hR => ⟨_, sX10_count_0 hX hR m0 q0 m1 q1 m2 q2, hSp⟩)
theorem lfX10_isPen {dd : Nat} : bt_Met yX10_isPen cX10_isPen 2 (some .boolean) dd [2, 0] (fun As w Q => tX10_isPen_0 bt_k0 Q [] (bt_loc 2 As) w) := bt_met (by decide) (by decide) (fun X As w Q _ hSp hX hR => ⟨_, sX10_isPen_0 hX hR, hSp⟩)
theorem lfX10_isGuest {dd : Nat} : bt_Met yX10_isGuest cX10_isGuest 2 (some .boolean) dd [2, 0] (fun As w Q => tX10_isGuest_0 bt_k0 Q [] (bt_loc 2 As) w) := bt_met (by decide) (by decide) (fun X As w Q _ hSp hX hR => ⟨_, sX10_isGuest_0 hX hR, hSp⟩)
theorem lfX10_isAnimal {dd : Nat} : bt_Met yX10_isAnimal cX10_isAnimal 2 (some .boolean) dd [2, 0] (fun As w Q => tX10_isAnimal_0 bt_k0 Q [] (bt_loc 2 As) w) := bt_met (by decide) (by decide) (fun X As w Q _ hSp hX hR => ⟨_, sX10_isAnimal_0 hX hR, hSp⟩)
theorem lfX10_lineOf {dd : Nat} : bt_Met yX10_lineOf cX10_lineOf 3 (some .int) dd [0, 0, 0] (fun As w Q => tX10_lineOf_0 bt_k0 Q [] (bt_loc 3 As) w) := bt_met (by decide) (by decide) (fun X As w Q _ hSp hX hR => ⟨_, sX10_lineOf_0 hX hR, hSp⟩)
theorem lfX10_act {dd : Nat} {S0 : bt_Sp} {d0 : Nat} {S1 : bt_Sp} {d1 : Nat} (m0 : bt_Met yX6_copy cX6_copy 2 none d0 [2, 2] S0) (q0 : d0 + 1 ≤ dd) (m1 : bt_Met yX1_obey cX1_obey 6 (some .boolean) d1 [2, 2, 2, 0] S1) (q1 : d1 + 1 ≤ dd) (hmx : 1 ≤ dd) : bt_Met yX10_act cX10_act 2 (some .boolean) dd [2, 0] (fun As w Q => tX10_act_0 S0 S1 bt_k0 Q [] (bt_loc 2 As) w) := bt_met (by decide) (by decide) (fun X As w Q _ hSp hX hR => ⟨_, sX10_act_0 hX hR m0 q0 m1 q1 hmx, hSp⟩)
theorem lpX10_tyresHelp {dd : Nat} {S0 : bt_Sp} {d0 : Nat} {S1 : bt_Sp} {d1 : Nat} {S2 : bt_Sp} {d2 : Nat} {S3 : bt_Sp} {d3 : Nat} (m0 : bt_Met yX6_copy cX6_copy 2 none d0 [2, 2] S0) (q0 : d0 + 1 ≤ dd) (m1 : bt_Met yX9_cheer cX9_cheer 3 none d1 [2, 2, 0] S1) (q1 : d1 + 1 ≤ dd) (m2 : bt_Met yX1_pass cX1_pass 5 none d2 [2, 2, 2, 0] S2) (q2 : d2 + 1 ≤ dd) (m3 : bt_Met yX6_pacing cX6_pacing 4 (some .int) d3 [2, 0] S3) (q3 : d3 + 1 ≤ dd) (Sp : bt_Sp) (hI : ∀ As w Q, bt_sig As = [2, 0] → Sp As w Q → ∃ I : Nat → Nat → bt_K, tX10_tyresHelp_0 S0 S1 S2 S3 (fun h st L w => ∃ n, I h n st L w) Q [] (bt_loc 3 As) w ∧ (∀ n st L w, I 16 n st L w → tX10_tyresHelp_16 S0 S1 S2 S3 (fun h st L w => ∃ m, m < n ∧ I h m st L w) Q st L w)) : bt_Met yX10_tyresHelp cX10_tyresHelp 3 (some .boolean) dd [2, 0] Sp := by
  refine bt_met (by decide) (by decide) (fun X As w Q hsig hSp hX hR => ?_)
  obtain ⟨I, h0, g16⟩ := hI As w Q hsig hSp
  have hs := bt_heads (X := X) (nL := 3) (cs := (0, 0)) [16] I (fun h κ => if h = 16 then tX10_tyresHelp_16 S0 S1 S2 S3 κ Q else I h 0) ?_ ?_
  · exact ⟨_, sX10_tyresHelp_0 hX hR m0 q0 m1 q1 m2 q2 m3 q3 (hs 16 (by simp)), h0⟩
  · intro h hh κ hκ
    simp only [List.mem_cons, List.not_mem_nil, or_false] at hh
    rcases hh with rfl
    · exact sX10_tyresHelp_16 hX hR m0 q0 m1 q1 m2 q2 m3 q3 (hκ 16 (by simp))
  · intro h hh n st L w hi
    simp only [List.mem_cons, List.not_mem_nil, or_false] at hh
    rcases hh with rfl
    · exact g16 n st L w hi
theorem lpX10_kindsInAll {dd : Nat} (Sp : bt_Sp) (hI : ∀ As w Q, bt_sig As = [0] → Sp As w Q → ∃ I : Nat → Nat → bt_K, tX10_kindsInAll_0 (fun h st L w => ∃ n, I h n st L w) Q [] (bt_loc 3 As) w ∧ (∀ n st L w, I 5 n st L w → tX10_kindsInAll_5 (fun h st L w => ∃ m, m < n ∧ I h m st L w) Q st L w)) : bt_Met yX10_kindsInAll cX10_kindsInAll 3 (some .int) dd [0] Sp := by
  refine bt_met (by decide) (by decide) (fun X As w Q hsig hSp hX hR => ?_)
  obtain ⟨I, h0, g5⟩ := hI As w Q hsig hSp
  have hs := bt_heads (X := X) (nL := 3) (cs := (0, 0)) [5] I (fun h κ => if h = 5 then tX10_kindsInAll_5 κ Q else I h 0) ?_ ?_
  · exact ⟨_, sX10_kindsInAll_0 hX hR (hs 5 (by simp)), h0⟩
  · intro h hh κ hκ
    simp only [List.mem_cons, List.not_mem_nil, or_false] at hh
    rcases hh with rfl
    · exact sX10_kindsInAll_5 hX hR (hκ 5 (by simp))
  · intro h hh n st L w hi
    simp only [List.mem_cons, List.not_mem_nil, or_false] at hh
    rcases hh with rfl
    · exact g5 n st L w hi
theorem lpX10_kindsInSome {dd : Nat} (Sp : bt_Sp) (hI : ∀ As w Q, bt_sig As = [0] → Sp As w Q → ∃ I : Nat → Nat → bt_K, tX10_kindsInSome_0 (fun h st L w => ∃ n, I h n st L w) Q [] (bt_loc 3 As) w ∧ (∀ n st L w, I 4 n st L w → tX10_kindsInSome_4 (fun h st L w => ∃ m, m < n ∧ I h m st L w) Q st L w)) : bt_Met yX10_kindsInSome cX10_kindsInSome 3 (some .int) dd [0] Sp := by
  refine bt_met (by decide) (by decide) (fun X As w Q hsig hSp hX hR => ?_)
  obtain ⟨I, h0, g4⟩ := hI As w Q hsig hSp
  have hs := bt_heads (X := X) (nL := 3) (cs := (0, 0)) [4] I (fun h κ => if h = 4 then tX10_kindsInSome_4 κ Q else I h 0) ?_ ?_
  · exact ⟨_, sX10_kindsInSome_0 hX hR (hs 4 (by simp)), h0⟩
  · intro h hh κ hκ
    simp only [List.mem_cons, List.not_mem_nil, or_false] at hh
    rcases hh with rfl
    · exact sX10_kindsInSome_4 hX hR (hκ 4 (by simp))
  · intro h hh n st L w hi
    simp only [List.mem_cons, List.not_mem_nil, or_false] at hh
    rcases hh with rfl
    · exact g4 n st L w hi
theorem lpX10_smallestSet {dd : Nat} {S0 : bt_Sp} {d0 : Nat} (m0 : bt_Met yJ6_bitCount_0f7a4 cJ6_bitCount_0f7a4 1 (some .int) d0 [0] S0) (q0 : d0 + 1 ≤ dd) (Sp : bt_Sp) (hI : ∀ As w Q, bt_sig As = [0] → Sp As w Q → ∃ I : Nat → Nat → bt_K, tX10_smallestSet_0 S0 (fun h st L w => ∃ n, I h n st L w) Q [] (bt_loc 4 As) w ∧ (∀ n st L w, I 6 n st L w → tX10_smallestSet_6 S0 (fun h st L w => ∃ m, m < n ∧ I h m st L w) Q st L w)) : bt_Met yX10_smallestSet cX10_smallestSet 4 (some .int) dd [0] Sp := by
  refine bt_met (by decide) (by decide) (fun X As w Q hsig hSp hX hR => ?_)
  obtain ⟨I, h0, g6⟩ := hI As w Q hsig hSp
  have hs := bt_heads (X := X) (nL := 4) (cs := (0, 0)) [6] I (fun h κ => if h = 6 then tX10_smallestSet_6 S0 κ Q else I h 0) ?_ ?_
  · exact ⟨_, sX10_smallestSet_0 hX hR m0 q0 (hs 6 (by simp)), h0⟩
  · intro h hh κ hκ
    simp only [List.mem_cons, List.not_mem_nil, or_false] at hh
    rcases hh with rfl
    · exact sX10_smallestSet_6 hX hR m0 q0 (hκ 6 (by simp))
  · intro h hh n st L w hi
    simp only [List.mem_cons, List.not_mem_nil, or_false] at hh
    rcases hh with rfl
    · exact g6 n st L w hi
theorem lfX10_gain {dd : Nat} : bt_Met yX10_gain cX10_gain 5 (some .int) dd [0, 0, 0, 0] (fun As w Q => tX10_gain_0 bt_k0 Q [] (bt_loc 5 As) w) := bt_met (by decide) (by decide) (fun X As w Q _ hSp hX hR => ⟨_, sX10_gain_0 hX hR, hSp⟩)
theorem lpX10_isRest {dd : Nat} {S0 : bt_Sp} {d0 : Nat} (m0 : bt_Met yX10_gain cX10_gain 5 (some .int) d0 [0, 0, 0, 0] S0) (q0 : d0 + 1 ≤ dd) (Sp : bt_Sp) (hI : ∀ As w Q, bt_sig As = [0, 0, 0, 0] → Sp As w Q → ∃ I : Nat → Nat → bt_K, tX10_isRest_0 S0 (fun h st L w => ∃ n, I h n st L w) Q [] (bt_loc 5 As) w ∧ (∀ n st L w, I 3 n st L w → tX10_isRest_3 S0 (fun h st L w => ∃ m, m < n ∧ I h m st L w) Q st L w)) : bt_Met yX10_isRest cX10_isRest 5 (some .boolean) dd [0, 0, 0, 0] Sp := by
  refine bt_met (by decide) (by decide) (fun X As w Q hsig hSp hX hR => ?_)
  obtain ⟨I, h0, g3⟩ := hI As w Q hsig hSp
  have hs := bt_heads (X := X) (nL := 5) (cs := (0, 0)) [3] I (fun h κ => if h = 3 then tX10_isRest_3 S0 κ Q else I h 0) ?_ ?_
  · exact ⟨_, sX10_isRest_0 hX hR m0 q0 (hs 3 (by simp)), h0⟩
  · intro h hh κ hκ
    simp only [List.mem_cons, List.not_mem_nil, or_false] at hh
    rcases hh with rfl
    · exact sX10_isRest_3 hX hR m0 q0 (hκ 3 (by simp))
  · intro h hh n st L w hi
    simp only [List.mem_cons, List.not_mem_nil, or_false] at hh
    rcases hh with rfl
    · exact g3 n st L w hi
theorem lfX11_thrown {dd : Nat} : bt_Met yX11_thrown cX11_thrown 1 (some .int) dd [2] (fun As w Q => tX11_thrown_0 bt_k0 Q [] (bt_loc 1 As) w) := bt_met (by decide) (by decide) (fun X As w Q _ hSp hX hR => ⟨_, sX11_thrown_0 hX hR, hSp⟩)
theorem lfX11_within {dd : Nat} : bt_Met yX11_within cX11_within 3 (some .boolean) dd [0, 0, 0] (fun As w Q => tX11_within_0 bt_k0 Q [] (bt_loc 3 As) w) := bt_met (by decide) (by decide) (fun X As w Q _ hSp hX hR => ⟨_, sX11_within_0 hX hR, hSp⟩)
theorem lfX11_between {dd : Nat} : bt_Met yX11_between cX11_between 3 (some .int) dd [0, 0, 0] (fun As w Q => tX11_between_0 bt_k0 Q [] (bt_loc 3 As) w) := bt_met (by decide) (by decide) (fun X As w Q _ hSp hX hR => ⟨_, sX11_between_0 hX hR, hSp⟩)
theorem lpX11_bits {dd : Nat} (Sp : bt_Sp) (hI : ∀ As w Q, bt_sig As = [0] → Sp As w Q → ∃ I : Nat → Nat → bt_K, tX11_bits_0 (fun h st L w => ∃ n, I h n st L w) Q [] (bt_loc 3 As) w ∧ (∀ n st L w, I 4 n st L w → tX11_bits_4 (fun h st L w => ∃ m, m < n ∧ I h m st L w) Q st L w)) : bt_Met yX11_bits cX11_bits 3 (some .int) dd [0] Sp := by
  refine bt_met (by decide) (by decide) (fun X As w Q hsig hSp hX hR => ?_)
  obtain ⟨I, h0, g4⟩ := hI As w Q hsig hSp
  have hs := bt_heads (X := X) (nL := 3) (cs := (0, 0)) [4] I (fun h κ => if h = 4 then tX11_bits_4 κ Q else I h 0) ?_ ?_
  · exact ⟨_, sX11_bits_0 hX hR (hs 4 (by simp)), h0⟩
  · intro h hh κ hκ
    simp only [List.mem_cons, List.not_mem_nil, or_false] at hh
    rcases hh with rfl
    · exact sX11_bits_4 hX hR (hκ 4 (by simp))
  · intro h hh n st L w hi
    simp only [List.mem_cons, List.not_mem_nil, or_false] at hh
    rcases hh with rfl
    · exact g4 n st L w hi
theorem lpX11_feed {dd : Nat} (Sp : bt_Sp) (hI : ∀ As w Q, bt_sig As = [2, 1, 1, 1] → Sp As w Q → ∃ I : Nat → Nat → bt_K, tX11_feed_0 (fun h st L w => ∃ n, I h n st L w) Q [] (bt_loc 11 As) w ∧ (∀ n st L w, I 8 n st L w → tX11_feed_8 (fun h st L w => ∃ m, m < n ∧ I h m st L w) Q st L w)) : bt_Met yX11_feed cX11_feed 11 (some .int) dd [2, 1, 1, 1] Sp := by
  refine bt_met (by decide) (by decide) (fun X As w Q hsig hSp hX hR => ?_)
  obtain ⟨I, h0, g8⟩ := hI As w Q hsig hSp
  have hs := bt_heads (X := X) (nL := 11) (cs := (0, 0)) [8] I (fun h κ => if h = 8 then tX11_feed_8 κ Q else I h 0) ?_ ?_
  · exact ⟨_, sX11_feed_0 hX hR (hs 8 (by simp)), h0⟩
  · intro h hh κ hκ
    simp only [List.mem_cons, List.not_mem_nil, or_false] at hh
    rcases hh with rfl
    · exact sX11_feed_8 hX hR (hκ 8 (by simp))
  · intro h hh n st L w hi
    simp only [List.mem_cons, List.not_mem_nil, or_false] at hh
    rcases hh with rfl
    · exact g8 n st L w hi
theorem lfX11_signAt {dd : Nat} : bt_Met yX11_signAt cX11_signAt 2 (some .int) dd [2, 0] (fun As w Q => tX11_signAt_0 bt_k0 Q [] (bt_loc 2 As) w) := bt_met (by decide) (by decide) (fun X As w Q _ hSp hX hR => ⟨_, sX11_signAt_0 hX hR, hSp⟩)
theorem lpX11_nextToken {dd : Nat} {S0 : bt_Sp} {d0 : Nat} (m0 : bt_Met yX11_signAt cX11_signAt 2 (some .int) d0 [2, 0] S0) (q0 : d0 + 1 ≤ dd) (Sp : bt_Sp) (hI : ∀ As w Q, bt_sig As = [2] → Sp As w Q → ∃ I : Nat → Nat → bt_K, (∃ n, I 0 n [] (bt_loc 2 As) w) ∧ (∀ n st L w, I 0 n st L w → tX11_nextToken_0 S0 (fun h st L w => ∃ m, m < n ∧ I h m st L w) Q st L w) ∧ (∀ n st L w, I 109 n st L w → tX11_nextToken_109 S0 (fun h st L w => ∃ m, m < n ∧ I h m st L w) Q st L w) ∧ (∀ n st L w, I 224 n st L w → tX11_nextToken_224 S0 (fun h st L w => ∃ m, m < n ∧ I h m st L w) Q st L w)) : bt_Met yX11_nextToken cX11_nextToken 2 none dd [2] Sp := by
  refine bt_met (by decide) (by decide) (fun X As w Q hsig hSp hX hR => ?_)
  obtain ⟨I, h0, g0, g109, g224⟩ := hI As w Q hsig hSp
  have hs := bt_heads (X := X) (nL := 2) (cs := (0, 0)) [0, 109, 224] I (fun h κ => if h = 0 then tX11_nextToken_0 S0 κ Q else if h = 109 then tX11_nextToken_109 S0 κ Q else if h = 224 then tX11_nextToken_224 S0 κ Q else I h 0) ?_ ?_
  · exact ⟨_, hs 0 (by simp), h0⟩
  · intro h hh κ hκ
    simp only [List.mem_cons, List.not_mem_nil, or_false] at hh
    rcases hh with rfl | rfl | rfl
    · exact sX11_nextToken_0 hX hR m0 q0 (hκ 0 (by simp)) (hκ 109 (by simp)) (hκ 224 (by simp))
    · exact sX11_nextToken_109 hX hR m0 q0 (hκ 0 (by simp)) (hκ 109 (by simp)) (hκ 224 (by simp))
    · exact sX11_nextToken_224 hX hR m0 q0 (hκ 0 (by simp)) (hκ 109 (by simp)) (hκ 224 (by simp))
  · intro h hh n st L w hi
    simp only [List.mem_cons, List.not_mem_nil, or_false] at hh
    rcases hh with rfl | rfl | rfl
    · exact g0 n st L w hi
    · exact g109 n st L w hi
    · exact g224 n st L w hi
theorem lfX11_isWord {dd : Nat} : bt_Met yX11_isWord cX11_isWord 3 (some .boolean) dd [2, 1] (fun As w Q => tX11_isWord_0 bt_k0 Q [] (bt_loc 3 As) w) := bt_met (by decide) (by decide) (fun X As w Q _ hSp hX hR => ⟨_, sX11_isWord_0 hX hR, hSp⟩)
theorem lfX11_isSign {dd : Nat} : bt_Met yX11_isSign cX11_isSign 2 (some .boolean) dd [2, 0] (fun As w Q => tX11_isSign_0 bt_k0 Q [] (bt_loc 2 As) w) := bt_met (by decide) (by decide) (fun X As w Q _ hSp hX hR => ⟨_, sX11_isSign_0 hX hR, hSp⟩)
theorem lfX11_fails {dd : Nat} : bt_Met yX11_fails cX11_fails 2 (some .boolean) dd [2, 0] (fun As w Q => tX11_fails_0 bt_k0 Q [] (bt_loc 2 As) w) := bt_met (by decide) (by decide) (fun X As w Q _ hSp hX hR => ⟨_, sX11_fails_0 hX hR, hSp⟩)
theorem lpX11_plain {dd : Nat} (Sp : bt_Sp) (hI : ∀ As w Q, bt_sig As = [2, 0] → Sp As w Q → ∃ I : Nat → Nat → bt_K, tX11_plain_0 (fun h st L w => ∃ n, I h n st L w) Q [] (bt_loc 3 As) w ∧ (∀ n st L w, I 2 n st L w → tX11_plain_2 (fun h st L w => ∃ m, m < n ∧ I h m st L w) Q st L w) ∧ (∀ n st L w, I 66 n st L w → tX11_plain_66 (fun h st L w => ∃ m, m < n ∧ I h m st L w) Q st L w) ∧ (∀ n st L w, I 92 n st L w → tX11_plain_92 (fun h st L w => ∃ m, m < n ∧ I h m st L w) Q st L w)) : bt_Met yX11_plain cX11_plain 3 none dd [2, 0] Sp := by
  refine bt_met (by decide) (by decide) (fun X As w Q hsig hSp hX hR => ?_)
  obtain ⟨I, h0, g2, g66, g92⟩ := hI As w Q hsig hSp
  have hs := bt_heads (X := X) (nL := 3) (cs := (0, 0)) [2, 66, 92] I (fun h κ => if h = 2 then tX11_plain_2 κ Q else if h = 66 then tX11_plain_66 κ Q else if h = 92 then tX11_plain_92 κ Q else I h 0) ?_ ?_
  · exact ⟨_, sX11_plain_0 hX hR (hs 2 (by simp)) (hs 66 (by simp)) (hs 92 (by simp)), h0⟩
  · intro h hh κ hκ
    simp only [List.mem_cons, List.not_mem_nil, or_false] at hh
    rcases hh with rfl | rfl | rfl
    · exact sX11_plain_2 hX hR (hκ 2 (by simp)) (hκ 66 (by simp)) (hκ 92 (by simp))
    · exact sX11_plain_66 hX hR (hκ 2 (by simp)) (hκ 66 (by simp)) (hκ 92 (by simp))
    · exact sX11_plain_92 hX hR (hκ 2 (by simp)) (hκ 66 (by simp)) (hκ 92 (by simp))
  · intro h hh n st L w hi
    simp only [List.mem_cons, List.not_mem_nil, or_false] at hh
    rcases hh with rfl | rfl | rfl
    · exact g2 n st L w hi
    · exact g66 n st L w hi
    · exact g92 n st L w hi
theorem lfX11_puts {dd : Nat} : bt_Met yX11_puts cX11_puts 2 none dd [2, 0] (fun As w Q => tX11_puts_0 bt_k0 Q [] (bt_loc 2 As) w) := bt_met (by decide) (by decide) (fun X As w Q _ hSp hX hR => ⟨_, sX11_puts_0 hX hR, hSp⟩)
theorem lfX11_fact {dd : Nat} : bt_Met yX11_fact cX11_fact 1 (some .int) dd [2] (fun As w Q => tX11_fact_0 bt_k0 Q [] (bt_loc 1 As) w) := bt_met (by decide) (by decide) (fun X As w Q _ hSp hX hR => ⟨_, sX11_fact_0 hX hR, hSp⟩)
theorem lpX11_reads {dd : Nat} {S0 : bt_Sp} {d0 : Nat} {S1 : bt_Sp} {d1 : Nat} {S2 : bt_Sp} {d2 : Nat} {S3 : bt_Sp} {d3 : Nat} {S4 : bt_Sp} {d4 : Nat} {S5 : bt_Sp} {d5 : Nat} (m0 : bt_Met yX11_fact cX11_fact 1 (some .int) d0 [2] S0) (q0 : d0 + 1 ≤ dd) (m1 : bt_Met yX11_isWord cX11_isWord 3 (some .boolean) d1 [2, 1] S1) (q1 : d1 + 1 ≤ dd) (m2 : bt_Met yX11_isSign cX11_isSign 2 (some .boolean) d2 [2, 0] S2) (q2 : d2 + 1 ≤ dd) (m3 : bt_Met yX11_fails cX11_fails 2 (some .boolean) d3 [2, 0] S3) (q3 : d3 + 1 ≤ dd) (m4 : bt_Met yX11_puts cX11_puts 2 none d4 [2, 0] S4) (q4 : d4 + 1 ≤ dd) (m5 : bt_Met yX11_nextToken cX11_nextToken 2 none d5 [2] S5) (q5 : d5 + 1 ≤ dd) (Sp : bt_Sp) (hI : ∀ As w Q, bt_sig As = [2] → Sp As w Q → ∃ I : Nat → Nat → bt_K, tX11_reads_0 S0 S1 S2 S3 S4 S5 (fun h st L w => ∃ n, I h n st L w) Q [] (bt_loc 6 As) w ∧ (∀ n st L w, I 11 n st L w → tX11_reads_11 S0 S1 S2 S3 S4 S5 (fun h st L w => ∃ m, m < n ∧ I h m st L w) Q st L w) ∧ (∀ n st L w, I 152 n st L w → tX11_reads_152 S0 S1 S2 S3 S4 S5 (fun h st L w => ∃ m, m < n ∧ I h m st L w) Q st L w) ∧ (∀ n st L w, I 379 n st L w → tX11_reads_379 S0 S1 S2 S3 S4 S5 (fun h st L w => ∃ m, m < n ∧ I h m st L w) Q st L w)) : bt_Met yX11_reads cX11_reads 6 (some .boolean) dd [2] Sp := by
  refine bt_met (by decide) (by decide) (fun X As w Q hsig hSp hX hR => ?_)
  obtain ⟨I, h0, g11, g152, g379⟩ := hI As w Q hsig hSp
  have hs := bt_heads (X := X) (nL := 6) (cs := (0, 0)) [11, 152, 379] I (fun h κ => if h = 11 then tX11_reads_11 S0 S1 S2 S3 S4 S5 κ Q else if h = 152 then tX11_reads_152 S0 S1 S2 S3 S4 S5 κ Q else if h = 379 then tX11_reads_379 S0 S1 S2 S3 S4 S5 κ Q else I h 0) ?_ ?_
  · exact ⟨_, sX11_reads_0 hX hR m0 q0 m1 q1 m2 q2 m3 q3 m4 q4 m5 q5 (hs 11 (by simp)) (hs 152 (by simp)) (hs 379 (by simp)), h0⟩
  · intro h hh κ hκ
    simp only [List.mem_cons, List.not_mem_nil, or_false] at hh
    rcases hh with rfl | rfl | rfl
    · exact sX11_reads_11 hX hR m0 q0 m1 q1 m2 q2 m3 q3 m4 q4 m5 q5 (hκ 11 (by simp)) (hκ 152 (by simp)) (hκ 379 (by simp))
    · exact sX11_reads_152 hX hR m0 q0 m1 q1 m2 q2 m3 q3 m4 q4 m5 q5 (hκ 11 (by simp)) (hκ 152 (by simp)) (hκ 379 (by simp))
    · exact sX11_reads_379 hX hR m0 q0 m1 q1 m2 q2 m3 q3 m4 q4 m5 q5 (hκ 11 (by simp)) (hκ 152 (by simp)) (hκ 379 (by simp))
  · intro h hh n st L w hi
    simp only [List.mem_cons, List.not_mem_nil, or_false] at hh
    rcases hh with rfl | rfl | rfl
    · exact g11 n st L w hi
    · exact g152 n st L w hi
    · exact g379 n st L w hi
theorem lfX11_opens {dd : Nat} : bt_Met yX11_opens cX11_opens 2 none dd [2, 0] (fun As w Q => tX11_opens_0 bt_k0 Q [] (bt_loc 2 As) w) := bt_met (by decide) (by decide) (fun X As w Q _ hSp hX hR => ⟨_, sX11_opens_0 hX hR, hSp⟩)
theorem lfX11_sums {dd : Nat} : bt_Met yX11_sums cX11_sums 2 none dd [2, 0] (fun As w Q => tX11_sums_0 bt_k0 Q [] (bt_loc 2 As) w) := bt_met (by decide) (by decide) (fun X As w Q _ hSp hX hR => ⟨_, sX11_sums_0 hX hR, hSp⟩)
theorem lfX11_tests {dd : Nat} {S0 : bt_Sp} {d0 : Nat} (m0 : bt_Met yX11_sums cX11_sums 2 none d0 [2, 0] S0) (q0 : d0 + 1 ≤ dd) : bt_Met yX11_tests cX11_tests 3 none dd [2, 0] (fun As w Q => tX11_tests_0 S0 bt_k0 Q [] (bt_loc 3 As) w) := bt_met (by decide) (by decide) (fun X As w Q _ hSp hX hR => ⟨_, sX11_tests_0 hX hR m0 q0, hSp⟩)
theorem lpX11_worked {dd : Nat} {S0 : bt_Sp} {d0 : Nat} {S1 : bt_Sp} {d1 : Nat} {S2 : bt_Sp} {d2 : Nat} (m0 : bt_Met yX11_opens cX11_opens 2 none d0 [2, 0] S0) (q0 : d0 + 1 ≤ dd) (m1 : bt_Met yX11_sums cX11_sums 2 none d1 [2, 0] S1) (q1 : d1 + 1 ≤ dd) (m2 : bt_Met yX11_tests cX11_tests 3 none d2 [2, 0] S2) (q2 : d2 + 1 ≤ dd) (Sp : bt_Sp) (hI : ∀ As w Q, bt_sig As = [2, 0] → Sp As w Q → ∃ I : Nat → Nat → bt_K, tX11_worked_0 S0 S1 S2 (fun h st L w => ∃ n, I h n st L w) Q [] (bt_loc 6 As) w ∧ (∀ n st L w, I 14 n st L w → tX11_worked_14 S0 S1 S2 (fun h st L w => ∃ m, m < n ∧ I h m st L w) Q st L w) ∧ (∀ n st L w, I 268 n st L w → tX11_worked_268 S0 S1 S2 (fun h st L w => ∃ m, m < n ∧ I h m st L w) Q st L w)) : bt_Met yX11_worked cX11_worked 6 (some .int) dd [2, 0] Sp := by
  refine bt_met (by decide) (by decide) (fun X As w Q hsig hSp hX hR => ?_)
  obtain ⟨I, h0, g14, g268⟩ := hI As w Q hsig hSp
  have hs := bt_heads (X := X) (nL := 6) (cs := (0, 0)) [14, 268] I (fun h κ => if h = 14 then tX11_worked_14 S0 S1 S2 κ Q else if h = 268 then tX11_worked_268 S0 S1 S2 κ Q else I h 0) ?_ ?_
  · exact ⟨_, sX11_worked_0 hX hR m0 q0 m1 q1 m2 q2 (hs 14 (by simp)) (hs 268 (by simp)), h0⟩
  · intro h hh κ hκ
    simp only [List.mem_cons, List.not_mem_nil, or_false] at hh
    rcases hh with rfl | rfl
    · exact sX11_worked_14 hX hR m0 q0 m1 q1 m2 q2 (hκ 14 (by simp)) (hκ 268 (by simp))
    · exact sX11_worked_268 hX hR m0 q0 m1 q1 m2 q2 (hκ 14 (by simp)) (hκ 268 (by simp))
  · intro h hh n st L w hi
    simp only [List.mem_cons, List.not_mem_nil, or_false] at hh
    rcases hh with rfl | rfl
    · exact g14 n st L w hi
    · exact g268 n st L w hi
theorem lfX11_isKept {dd : Nat} : bt_Met yX11_isKept cX11_isKept 1 (some .boolean) dd [2] (fun As w Q => tX11_isKept_0 bt_k0 Q [] (bt_loc 1 As) w) := bt_met (by decide) (by decide) (fun X As w Q _ hSp hX hR => ⟨_, sX11_isKept_0 hX hR, hSp⟩)
theorem lpX11_named {dd : Nat} (Sp : bt_Sp) (hI : ∀ As w Q, bt_sig As = [2, 0, 0, 1] → Sp As w Q → ∃ I : Nat → Nat → bt_K, tX11_named_0 (fun h st L w => ∃ n, I h n st L w) Q [] (bt_loc 6 As) w ∧ (∀ n st L w, I 3 n st L w → tX11_named_3 (fun h st L w => ∃ m, m < n ∧ I h m st L w) Q st L w)) : bt_Met yX11_named cX11_named 6 (some .int) dd [2, 0, 0, 1] Sp := by
  refine bt_met (by decide) (by decide) (fun X As w Q hsig hSp hX hR => ?_)
  obtain ⟨I, h0, g3⟩ := hI As w Q hsig hSp
  have hs := bt_heads (X := X) (nL := 6) (cs := (0, 0)) [3] I (fun h κ => if h = 3 then tX11_named_3 κ Q else I h 0) ?_ ?_
  · exact ⟨_, sX11_named_0 hX hR (hs 3 (by simp)), h0⟩
  · intro h hh κ hκ
    simp only [List.mem_cons, List.not_mem_nil, or_false] at hh
    rcases hh with rfl
    · exact sX11_named_3 hX hR (hκ 3 (by simp))
  · intro h hh n st L w hi
    simp only [List.mem_cons, List.not_mem_nil, or_false] at hh
    rcases hh with rfl
    · exact g3 n st L w hi
theorem lfX11_penNamed {dd : Nat} {S0 : bt_Sp} {d0 : Nat} (m0 : bt_Met yX11_named cX11_named 6 (some .int) d0 [2, 0, 0, 1] S0) (q0 : d0 + 1 ≤ dd) : bt_Met yX11_penNamed cX11_penNamed 2 (some .int) dd [2, 0] (fun As w Q => tX11_penNamed_0 S0 bt_k0 Q [] (bt_loc 2 As) w) := bt_met (by decide) (by decide) (fun X As w Q _ hSp hX hR => ⟨_, sX11_penNamed_0 hX hR m0 q0, hSp⟩)
theorem lfX11_guestNamed {dd : Nat} {S0 : bt_Sp} {d0 : Nat} (m0 : bt_Met yX11_named cX11_named 6 (some .int) d0 [2, 0, 0, 1] S0) (q0 : d0 + 1 ≤ dd) : bt_Met yX11_guestNamed cX11_guestNamed 2 (some .int) dd [2, 0] (fun As w Q => tX11_guestNamed_0 S0 bt_k0 Q [] (bt_loc 2 As) w) := bt_met (by decide) (by decide) (fun X As w Q _ hSp hX hR => ⟨_, sX11_guestNamed_0 hX hR m0 q0, hSp⟩)
theorem lfX11_needsNumber {dd : Nat} {S0 : bt_Sp} {d0 : Nat} {S1 : bt_Sp} {d1 : Nat} {S2 : bt_Sp} {d2 : Nat} (m0 : bt_Met yX11_fails cX11_fails 2 (some .boolean) d0 [2, 0] S0) (q0 : d0 + 1 ≤ dd) (m1 : bt_Met yX11_within cX11_within 3 (some .boolean) d1 [0, 0, 0] S1) (q1 : d1 + 1 ≤ dd) (m2 : bt_Met yX11_nextToken cX11_nextToken 2 none d2 [2] S2) (q2 : d2 + 1 ≤ dd) : bt_Met yX11_needsNumber cX11_needsNumber 3 (some .boolean) dd [2, 0, 0] (fun As w Q => tX11_needsNumber_0 S0 S1 S2 bt_k0 Q [] (bt_loc 3 As) w) := bt_met (by decide) (by decide) (fun X As w Q _ hSp hX hR => ⟨_, sX11_needsNumber_0 hX hR m0 q0 m1 q1 m2 q2, hSp⟩)
theorem lfX11_needsWord {dd : Nat} {S0 : bt_Sp} {d0 : Nat} {S1 : bt_Sp} {d1 : Nat} {S2 : bt_Sp} {d2 : Nat} (m0 : bt_Met yX11_isWord cX11_isWord 3 (some .boolean) d0 [2, 1] S0) (q0 : d0 + 1 ≤ dd) (m1 : bt_Met yX11_fails cX11_fails 2 (some .boolean) d1 [2, 0] S1) (q1 : d1 + 1 ≤ dd) (m2 : bt_Met yX11_nextToken cX11_nextToken 2 none d2 [2] S2) (q2 : d2 + 1 ≤ dd) : bt_Met yX11_needsWord cX11_needsWord 3 (some .boolean) dd [2, 1] (fun As w Q => tX11_needsWord_0 S0 S1 S2 bt_k0 Q [] (bt_loc 3 As) w) := bt_met (by decide) (by decide) (fun X As w Q _ hSp hX hR => ⟨_, sX11_needsWord_0 hX hR m0 q0 m1 q1 m2 q2, hSp⟩)
theorem lfX11_needsBoth {dd : Nat} {S0 : bt_Sp} {d0 : Nat} {S1 : bt_Sp} {d1 : Nat} (m0 : bt_Met yX11_needsWord cX11_needsWord 3 (some .boolean) d0 [2, 1] S0) (q0 : d0 + 1 ≤ dd) (m1 : bt_Met yX11_needsNumber cX11_needsNumber 3 (some .boolean) d1 [2, 0, 0] S1) (q1 : d1 + 1 ≤ dd) : bt_Met yX11_needsBoth cX11_needsBoth 5 (some .boolean) dd [2, 1, 0, 0] (fun As w Q => tX11_needsBoth_0 S0 S1 bt_k0 Q [] (bt_loc 5 As) w) := bt_met (by decide) (by decide) (fun X As w Q _ hSp hX hR => ⟨_, sX11_needsBoth_0 hX hR m0 q0 m1 q1, hSp⟩)
theorem lfX11_closes {dd : Nat} {S0 : bt_Sp} {d0 : Nat} {S1 : bt_Sp} {d1 : Nat} {S2 : bt_Sp} {d2 : Nat} (m0 : bt_Met yX11_isSign cX11_isSign 2 (some .boolean) d0 [2, 0] S0) (q0 : d0 + 1 ≤ dd) (m1 : bt_Met yX11_fails cX11_fails 2 (some .boolean) d1 [2, 0] S1) (q1 : d1 + 1 ≤ dd) (m2 : bt_Met yX11_nextToken cX11_nextToken 2 none d2 [2] S2) (q2 : d2 + 1 ≤ dd) : bt_Met yX11_closes cX11_closes 1 (some .boolean) dd [2] (fun As w Q => tX11_closes_0 S0 S1 S2 bt_k0 Q [] (bt_loc 1 As) w) := bt_met (by decide) (by decide) (fun X As w Q _ hSp hX hR => ⟨_, sX11_closes_0 hX hR m0 q0 m1 q1 m2 q2, hSp⟩)
theorem lfX11_needsNew {dd : Nat} {S0 : bt_Sp} {d0 : Nat} {S1 : bt_Sp} {d1 : Nat} {S2 : bt_Sp} {d2 : Nat} {S3 : bt_Sp} {d3 : Nat} {S4 : bt_Sp} {d4 : Nat} {S5 : bt_Sp} {d5 : Nat} (m0 : bt_Met yX11_isKept cX11_isKept 1 (some .boolean) d0 [2] S0) (q0 : d0 + 1 ≤ dd) (m1 : bt_Met yX11_fails cX11_fails 2 (some .boolean) d1 [2, 0] S1) (q1 : d1 + 1 ≤ dd) (m2 : bt_Met yX11_penNamed cX11_penNamed 2 (some .int) d2 [2, 0] S2) (q2 : d2 + 1 ≤ dd) (m3 : bt_Met yX11_guestNamed cX11_guestNamed 2 (some .int) d3 [2, 0] S3) (q3 : d3 + 1 ≤ dd) (m4 : bt_Met yX11_named cX11_named 6 (some .int) d4 [2, 0, 0, 1] S4) (q4 : d4 + 1 ≤ dd) (m5 : bt_Met yX11_nextToken cX11_nextToken 2 none d5 [2] S5) (q5 : d5 + 1 ≤ dd) : bt_Met yX11_needsNew cX11_needsNew 1 (some .boolean) dd [2] (fun As w Q => tX11_needsNew_0 S0 S1 S2 S3 S4 S5 bt_k0 Q [] (bt_loc 1 As) w) := bt_met (by decide) (by decide) (fun X As w Q _ hSp hX hR => ⟨_, sX11_needsNew_0 hX hR m0 q0 m1 q1 m2 q2 m3 q3 m4 q4 m5 q5, hSp⟩)
theorem lfX11_needsPen {dd : Nat} {S0 : bt_Sp} {d0 : Nat} {S1 : bt_Sp} {d1 : Nat} {S2 : bt_Sp} {d2 : Nat} (m0 : bt_Met yX11_isKept cX11_isKept 1 (some .boolean) d0 [2] S0) (q0 : d0 + 1 ≤ dd) (m1 : bt_Met yX11_fails cX11_fails 2 (some .boolean) d1 [2, 0] S1) (q1 : d1 + 1 ≤ dd) (m2 : bt_Met yX11_penNamed cX11_penNamed 2 (some .int) d2 [2, 0] S2) (q2 : d2 + 1 ≤ dd) : bt_Met yX11_needsPen cX11_needsPen 2 (some .boolean) dd [2, 0] (fun As w Q => tX11_needsPen_0 S0 S1 S2 bt_k0 Q [] (bt_loc 2 As) w) := bt_met (by decide) (by decide) (fun X As w Q _ hSp hX hR => ⟨_, sX11_needsPen_0 hX hR m0 q0 m1 q1 m2 q2, hSp⟩)
theorem lfX11_needsGuest {dd : Nat} {S0 : bt_Sp} {d0 : Nat} {S1 : bt_Sp} {d1 : Nat} {S2 : bt_Sp} {d2 : Nat} (m0 : bt_Met yX11_isKept cX11_isKept 1 (some .boolean) d0 [2] S0) (q0 : d0 + 1 ≤ dd) (m1 : bt_Met yX11_fails cX11_fails 2 (some .boolean) d1 [2, 0] S1) (q1 : d1 + 1 ≤ dd) (m2 : bt_Met yX11_guestNamed cX11_guestNamed 2 (some .int) d2 [2, 0] S2) (q2 : d2 + 1 ≤ dd) : bt_Met yX11_needsGuest cX11_needsGuest 2 (some .boolean) dd [2, 0] (fun As w Q => tX11_needsGuest_0 S0 S1 S2 bt_k0 Q [] (bt_loc 2 As) w) := bt_met (by decide) (by decide) (fun X As w Q _ hSp hX hR => ⟨_, sX11_needsGuest_0 hX hR m0 q0 m1 q1 m2 q2, hSp⟩)
theorem lfX11_needsKind {dd : Nat} {S0 : bt_Sp} {d0 : Nat} {S1 : bt_Sp} {d1 : Nat} {S2 : bt_Sp} {d2 : Nat} (m0 : bt_Met yX11_isWord cX11_isWord 3 (some .boolean) d0 [2, 1] S0) (q0 : d0 + 1 ≤ dd) (m1 : bt_Met yX11_fails cX11_fails 2 (some .boolean) d1 [2, 0] S1) (q1 : d1 + 1 ≤ dd) (m2 : bt_Met yX11_nextToken cX11_nextToken 2 none d2 [2] S2) (q2 : d2 + 1 ≤ dd) : bt_Met yX11_needsKind cX11_needsKind 1 (some .boolean) dd [2] (fun As w Q => tX11_needsKind_0 S0 S1 S2 bt_k0 Q [] (bt_loc 1 As) w) := bt_met (by decide) (by decide) (fun X As w Q _ hSp hX hR => ⟨_, sX11_needsKind_0 hX hR m0 q0 m1 q1 m2 q2, hSp⟩)
theorem lfX11_isTwice {dd : Nat} : bt_Met yX11_isTwice cX11_isTwice 2 (some .boolean) dd [2, 0] (fun As w Q => tX11_isTwice_0 bt_k0 Q [] (bt_loc 2 As) w) := bt_met (by decide) (by decide) (fun X As w Q _ hSp hX hR => ⟨_, sX11_isTwice_0 hX hR, hSp⟩)
theorem lfX11_readsPen {dd : Nat} {S0 : bt_Sp} {d0 : Nat} {S1 : bt_Sp} {d1 : Nat} {S2 : bt_Sp} {d2 : Nat} {S3 : bt_Sp} {d3 : Nat} {S4 : bt_Sp} {d4 : Nat} (m0 : bt_Met yX11_fails cX11_fails 2 (some .boolean) d0 [2, 0] S0) (q0 : d0 + 1 ≤ dd) (m1 : bt_Met yX11_nextToken cX11_nextToken 2 none d1 [2] S1) (q1 : d1 + 1 ≤ dd) (m2 : bt_Met yX11_needsNew cX11_needsNew 1 (some .boolean) d2 [2] S2) (q2 : d2 + 1 ≤ dd) (m3 : bt_Met yX11_needsBoth cX11_needsBoth 5 (some .boolean) d3 [2, 1, 0, 0] S3) (q3 : d3 + 1 ≤ dd) (m4 : bt_Met yX11_closes cX11_closes 1 (some .boolean) d4 [2] S4) (q4 : d4 + 1 ≤ dd) : bt_Met yX11_readsPen cX11_readsPen 2 (some .boolean) dd [2] (fun As w Q => tX11_readsPen_0 S0 S1 S2 S3 S4 bt_k0 Q [] (bt_loc 2 As) w) := bt_met (by decide) (by decide) (fun X As w Q _ hSp hX hR => ⟨_, sX11_readsPen_0 hX hR m0 q0 m1 q1 m2 q2 m3 q3 m4 q4, hSp⟩)
theorem lfX11_readsPath {dd : Nat} {S0 : bt_Sp} {d0 : Nat} {S1 : bt_Sp} {d1 : Nat} {S2 : bt_Sp} {d2 : Nat} {S3 : bt_Sp} {d3 : Nat} {S4 : bt_Sp} {d4 : Nat} (m0 : bt_Met yX11_nextToken cX11_nextToken 2 none d0 [2] S0) (q0 : d0 + 1 ≤ dd) (m1 : bt_Met yX11_needsPen cX11_needsPen 2 (some .boolean) d1 [2, 0] S1) (q1 : d1 + 1 ≤ dd) (m2 : bt_Met yX11_fails cX11_fails 2 (some .boolean) d2 [2, 0] S2) (q2 : d2 + 1 ≤ dd) (m3 : bt_Met yX11_needsNumber cX11_needsNumber 3 (some .boolean) d3 [2, 0, 0] S3) (q3 : d3 + 1 ≤ dd) (m4 : bt_Met yX11_closes cX11_closes 1 (some .boolean) d4 [2] S4) (q4 : d4 + 1 ≤ dd) : bt_Met yX11_readsPath cX11_readsPath 3 (some .boolean) dd [2] (fun As w Q => tX11_readsPath_0 S0 S1 S2 S3 S4 bt_k0 Q [] (bt_loc 3 As) w) := bt_met (by decide) (by decide) (fun X As w Q _ hSp hX hR => ⟨_, sX11_readsPath_0 hX hR m0 q0 m1 q1 m2 q2 m3 q3 m4 q4, hSp⟩)
theorem lfX11_readsGuest {dd : Nat} {S0 : bt_Sp} {d0 : Nat} {S1 : bt_Sp} {d1 : Nat} {S2 : bt_Sp} {d2 : Nat} {S3 : bt_Sp} {d3 : Nat} {S4 : bt_Sp} {d4 : Nat} {S5 : bt_Sp} {d5 : Nat} {S6 : bt_Sp} {d6 : Nat} {S7 : bt_Sp} {d7 : Nat} (m0 : bt_Met yX11_fails cX11_fails 2 (some .boolean) d0 [2, 0] S0) (q0 : d0 + 1 ≤ dd) (m1 : bt_Met yX11_nextToken cX11_nextToken 2 none d1 [2] S1) (q1 : d1 + 1 ≤ dd) (m2 : bt_Met yX11_needsNew cX11_needsNew 1 (some .boolean) d2 [2] S2) (q2 : d2 + 1 ≤ dd) (m3 : bt_Met yX11_needsKind cX11_needsKind 1 (some .boolean) d3 [2] S3) (q3 : d3 + 1 ≤ dd) (m4 : bt_Met yX11_needsBoth cX11_needsBoth 5 (some .boolean) d4 [2, 1, 0, 0] S4) (q4 : d4 + 1 ≤ dd) (m5 : bt_Met yX11_needsWord cX11_needsWord 3 (some .boolean) d5 [2, 1] S5) (q5 : d5 + 1 ≤ dd) (m6 : bt_Met yX11_needsPen cX11_needsPen 2 (some .boolean) d6 [2, 0] S6) (q6 : d6 + 1 ≤ dd) (m7 : bt_Met yX11_closes cX11_closes 1 (some .boolean) d7 [2] S7) (q7 : d7 + 1 ≤ dd) : bt_Met yX11_readsGuest cX11_readsGuest 2 (some .boolean) dd [2] (fun As w Q => tX11_readsGuest_0 S0 S1 S2 S3 S4 S5 S6 S7 bt_k0 Q [] (bt_loc 2 As) w) := bt_met (by decide) (by decide) (fun X As w Q _ hSp hX hR => ⟨_, sX11_readsGuest_0 hX hR m0 q0 m1 q1 m2 q2 m3 q3 m4 q4 m5 q5 m6 q6 m7 q7, hSp⟩)
theorem lfX11_readsAnimal {dd : Nat} {S0 : bt_Sp} {d0 : Nat} {S1 : bt_Sp} {d1 : Nat} {S2 : bt_Sp} {d2 : Nat} {S3 : bt_Sp} {d3 : Nat} {S4 : bt_Sp} {d4 : Nat} {S5 : bt_Sp} {d5 : Nat} {S6 : bt_Sp} {d6 : Nat} (m0 : bt_Met yX11_fails cX11_fails 2 (some .boolean) d0 [2, 0] S0) (q0 : d0 + 1 ≤ dd) (m1 : bt_Met yX11_nextToken cX11_nextToken 2 none d1 [2] S1) (q1 : d1 + 1 ≤ dd) (m2 : bt_Met yX11_needsNew cX11_needsNew 1 (some .boolean) d2 [2] S2) (q2 : d2 + 1 ≤ dd) (m3 : bt_Met yX11_needsWord cX11_needsWord 3 (some .boolean) d3 [2, 1] S3) (q3 : d3 + 1 ≤ dd) (m4 : bt_Met yX11_needsKind cX11_needsKind 1 (some .boolean) d4 [2] S4) (q4 : d4 + 1 ≤ dd) (m5 : bt_Met yX11_needsBoth cX11_needsBoth 5 (some .boolean) d5 [2, 1, 0, 0] S5) (q5 : d5 + 1 ≤ dd) (m6 : bt_Met yX11_closes cX11_closes 1 (some .boolean) d6 [2] S6) (q6 : d6 + 1 ≤ dd) : bt_Met yX11_readsAnimal cX11_readsAnimal 2 (some .boolean) dd [2] (fun As w Q => tX11_readsAnimal_0 S0 S1 S2 S3 S4 S5 S6 bt_k0 Q [] (bt_loc 2 As) w) := bt_met (by decide) (by decide) (fun X As w Q _ hSp hX hR => ⟨_, sX11_readsAnimal_0 hX hR m0 q0 m1 q1 m2 q2 m3 q3 m4 q4 m5 q5 m6 q6, hSp⟩)
theorem lfX11_readsFoe {dd : Nat} {S0 : bt_Sp} {d0 : Nat} {S1 : bt_Sp} {d1 : Nat} {S2 : bt_Sp} {d2 : Nat} {S3 : bt_Sp} {d3 : Nat} (m0 : bt_Met yX11_nextToken cX11_nextToken 2 none d0 [2] S0) (q0 : d0 + 1 ≤ dd) (m1 : bt_Met yX11_needsGuest cX11_needsGuest 2 (some .boolean) d1 [2, 0] S1) (q1 : d1 + 1 ≤ dd) (m2 : bt_Met yX11_fails cX11_fails 2 (some .boolean) d2 [2, 0] S2) (q2 : d2 + 1 ≤ dd) (m3 : bt_Met yX11_closes cX11_closes 1 (some .boolean) d3 [2] S3) (q3 : d3 + 1 ≤ dd) : bt_Met yX11_readsFoe cX11_readsFoe 3 (some .boolean) dd [2] (fun As w Q => tX11_readsFoe_0 S0 S1 S2 S3 bt_k0 Q [] (bt_loc 3 As) w) := bt_met (by decide) (by decide) (fun X As w Q _ hSp hX hR => ⟨_, sX11_readsFoe_0 hX hR m0 q0 m1 q1 m2 q2 m3 q3, hSp⟩)
theorem lfX11_readsOne {dd : Nat} {S0 : bt_Sp} {d0 : Nat} {S1 : bt_Sp} {d1 : Nat} {S2 : bt_Sp} {d2 : Nat} {S3 : bt_Sp} {d3 : Nat} {S4 : bt_Sp} {d4 : Nat} (m0 : bt_Met yX11_isTwice cX11_isTwice 2 (some .boolean) d0 [2, 0] S0) (q0 : d0 + 1 ≤ dd) (m1 : bt_Met yX11_fails cX11_fails 2 (some .boolean) d1 [2, 0] S1) (q1 : d1 + 1 ≤ dd) (m2 : bt_Met yX11_nextToken cX11_nextToken 2 none d2 [2] S2) (q2 : d2 + 1 ≤ dd) (m3 : bt_Met yX11_needsNumber cX11_needsNumber 3 (some .boolean) d3 [2, 0, 0] S3) (q3 : d3 + 1 ≤ dd) (m4 : bt_Met yX11_closes cX11_closes 1 (some .boolean) d4 [2] S4) (q4 : d4 + 1 ≤ dd) : bt_Met yX11_readsOne cX11_readsOne 3 (some .boolean) dd [2, 0, 0] (fun As w Q => tX11_readsOne_0 S0 S1 S2 S3 S4 bt_k0 Q [] (bt_loc 3 As) w) := bt_met (by decide) (by decide) (fun X As w Q _ hSp hX hR => ⟨_, sX11_readsOne_0 hX hR m0 q0 m1 q1 m2 q2 m3 q3 m4 q4, hSp⟩)
theorem lfX11_readsTyre {dd : Nat} {S0 : bt_Sp} {d0 : Nat} {S1 : bt_Sp} {d1 : Nat} {S2 : bt_Sp} {d2 : Nat} {S3 : bt_Sp} {d3 : Nat} {S4 : bt_Sp} {d4 : Nat} {S5 : bt_Sp} {d5 : Nat} (m0 : bt_Met yX11_isTwice cX11_isTwice 2 (some .boolean) d0 [2, 0] S0) (q0 : d0 + 1 ≤ dd) (m1 : bt_Met yX11_fails cX11_fails 2 (some .boolean) d1 [2, 0] S1) (q1 : d1 + 1 ≤ dd) (m2 : bt_Met yX11_nextToken cX11_nextToken 2 none d2 [2] S2) (q2 : d2 + 1 ≤ dd) (m3 : bt_Met yX11_needsNumber cX11_needsNumber 3 (some .boolean) d3 [2, 0, 0] S3) (q3 : d3 + 1 ≤ dd) (m4 : bt_Met yX11_needsBoth cX11_needsBoth 5 (some .boolean) d4 [2, 1, 0, 0] S4) (q4 : d4 + 1 ≤ dd) (m5 : bt_Met yX11_closes cX11_closes 1 (some .boolean) d5 [2] S5) (q5 : d5 + 1 ≤ dd) : bt_Met yX11_readsTyre cX11_readsTyre 1 (some .boolean) dd [2] (fun As w Q => tX11_readsTyre_0 S0 S1 S2 S3 S4 S5 bt_k0 Q [] (bt_loc 1 As) w) := bt_met (by decide) (by decide) (fun X As w Q _ hSp hX hR => ⟨_, sX11_readsTyre_0 hX hR m0 q0 m1 q1 m2 q2 m3 q3 m4 q4 m5 q5, hSp⟩)
theorem lfX11_readsLaw {dd : Nat} {S0 : bt_Sp} {d0 : Nat} {S1 : bt_Sp} {d1 : Nat} {S2 : bt_Sp} {d2 : Nat} (m0 : bt_Met yX11_fails cX11_fails 2 (some .boolean) d0 [2, 0] S0) (q0 : d0 + 1 ≤ dd) (m1 : bt_Met yX11_nextToken cX11_nextToken 2 none d1 [2] S1) (q1 : d1 + 1 ≤ dd) (m2 : bt_Met yX11_reads cX11_reads 6 (some .boolean) d2 [2] S2) (q2 : d2 + 1 ≤ dd) : bt_Met yX11_readsLaw cX11_readsLaw 2 (some .boolean) dd [2, 0] (fun As w Q => tX11_readsLaw_0 S0 S1 S2 bt_k0 Q [] (bt_loc 2 As) w) := bt_met (by decide) (by decide) (fun X As w Q _ hSp hX hR => ⟨_, sX11_readsLaw_0 hX hR m0 q0 m1 q1 m2 q2, hSp⟩)
theorem lfX11_starts {dd : Nat} {S0 : bt_Sp} {d0 : Nat} (m0 : bt_Met yX11_nextToken cX11_nextToken 2 none d0 [2] S0) (q0 : d0 + 1 ≤ dd) : bt_Met yX11_starts cX11_starts 1 none dd [2] (fun As w Q => tX11_starts_0 S0 bt_k0 Q [] (bt_loc 1 As) w) := bt_met (by decide) (by decide) (fun X As w Q _ hSp hX hR => ⟨_, sX11_starts_0 hX hR m0 q0, hSp⟩)
theorem lpX11_readsAll {dd : Nat} {S0 : bt_Sp} {d0 : Nat} {S1 : bt_Sp} {d1 : Nat} {S2 : bt_Sp} {d2 : Nat} {S3 : bt_Sp} {d3 : Nat} {S4 : bt_Sp} {d4 : Nat} {S5 : bt_Sp} {d5 : Nat} {S6 : bt_Sp} {d6 : Nat} {S7 : bt_Sp} {d7 : Nat} {S8 : bt_Sp} {d8 : Nat} {S9 : bt_Sp} {d9 : Nat} {S10 : bt_Sp} {d10 : Nat} {S11 : bt_Sp} {d11 : Nat} (m0 : bt_Met yX11_plain cX11_plain 3 none d0 [2, 0] S0) (q0 : d0 + 1 ≤ dd) (m1 : bt_Met yX11_starts cX11_starts 1 none d1 [2] S1) (q1 : d1 + 1 ≤ dd) (m2 : bt_Met yX11_isWord cX11_isWord 3 (some .boolean) d2 [2, 1] S2) (q2 : d2 + 1 ≤ dd) (m3 : bt_Met yX11_readsPen cX11_readsPen 2 (some .boolean) d3 [2] S3) (q3 : d3 + 1 ≤ dd) (m4 : bt_Met yX11_readsPath cX11_readsPath 3 (some .boolean) d4 [2] S4) (q4 : d4 + 1 ≤ dd) (m5 : bt_Met yX11_readsGuest cX11_readsGuest 2 (some .boolean) d5 [2] S5) (q5 : d5 + 1 ≤ dd) (m6 : bt_Met yX11_readsAnimal cX11_readsAnimal 2 (some .boolean) d6 [2] S6) (q6 : d6 + 1 ≤ dd) (m7 : bt_Met yX11_readsFoe cX11_readsFoe 3 (some .boolean) d7 [2] S7) (q7 : d7 + 1 ≤ dd) (m8 : bt_Met yX11_readsOne cX11_readsOne 3 (some .boolean) d8 [2, 0, 0] S8) (q8 : d8 + 1 ≤ dd) (m9 : bt_Met yX11_readsTyre cX11_readsTyre 1 (some .boolean) d9 [2] S9) (q9 : d9 + 1 ≤ dd) (m10 : bt_Met yX11_readsLaw cX11_readsLaw 2 (some .boolean) d10 [2, 0] S10) (q10 : d10 + 1 ≤ dd) (m11 : bt_Met yX11_fails cX11_fails 2 (some .boolean) d11 [2, 0] S11) (q11 : d11 + 1 ≤ dd) (Sp : bt_Sp) (hI : ∀ As w Q, bt_sig As = [2] → Sp As w Q → ∃ I : Nat → Nat → bt_K, tX11_readsAll_0 S0 S1 S2 S3 S4 S5 S6 S7 S8 S9 S10 S11 (fun h st L w => ∃ n, I h n st L w) Q [] (bt_loc 2 As) w ∧ (∀ n st L w, I 21 n st L w → tX11_readsAll_21 S0 S1 S2 S3 S4 S5 S6 S7 S8 S9 S10 S11 (fun h st L w => ∃ m, m < n ∧ I h m st L w) Q st L w)) : bt_Met yX11_readsAll cX11_readsAll 2 (some .boolean) dd [2] Sp := by
  refine bt_met (by decide) (by decide) (fun X As w Q hsig hSp hX hR => ?_)
  obtain ⟨I, h0, g21⟩ := hI As w Q hsig hSp
  have hs := bt_heads (X := X) (nL := 2) (cs := (0, 0)) [21] I (fun h κ => if h = 21 then tX11_readsAll_21 S0 S1 S2 S3 S4 S5 S6 S7 S8 S9 S10 S11 κ Q else I h 0) ?_ ?_
  · exact ⟨_, sX11_readsAll_0 hX hR m0 q0 m1 q1 m2 q2 m3 q3 m4 q4 m5 q5 m6 q6 m7 q7 m8 q8 m9 q9 m10 q10 m11 q11 (hs 21 (by simp)), h0⟩
  · intro h hh κ hκ
    simp only [List.mem_cons, List.not_mem_nil, or_false] at hh
    rcases hh with rfl
    · exact sX11_readsAll_21 hX hR m0 q0 m1 q1 m2 q2 m3 q3 m4 q4 m5 q5 m6 q6 m7 q7 m8 q8 m9 q9 m10 q10 m11 q11 (hκ 21 (by simp))
  · intro h hh n st L w hi
    simp only [List.mem_cons, List.not_mem_nil, or_false] at hh
    rcases hh with rfl
    · exact g21 n st L w hi
theorem lpX11_shifts {dd : Nat} (Sp : bt_Sp) (hI : ∀ As w Q, bt_sig As = [2, 0] → Sp As w Q → ∃ I : Nat → Nat → bt_K, tX11_shifts_0 (fun h st L w => ∃ n, I h n st L w) Q [] (bt_loc 3 As) w ∧ (∀ n st L w, I 2 n st L w → tX11_shifts_2 (fun h st L w => ∃ m, m < n ∧ I h m st L w) Q st L w)) : bt_Met yX11_shifts cX11_shifts 3 none dd [2, 0] Sp := by
  refine bt_met (by decide) (by decide) (fun X As w Q hsig hSp hX hR => ?_)
  obtain ⟨I, h0, g2⟩ := hI As w Q hsig hSp
  have hs := bt_heads (X := X) (nL := 3) (cs := (0, 0)) [2] I (fun h κ => if h = 2 then tX11_shifts_2 κ Q else I h 0) ?_ ?_
  · exact ⟨_, sX11_shifts_0 hX hR (hs 2 (by simp)), h0⟩
  · intro h hh κ hκ
    simp only [List.mem_cons, List.not_mem_nil, or_false] at hh
    rcases hh with rfl
    · exact sX11_shifts_2 hX hR (hκ 2 (by simp))
  · intro h hh n st L w hi
    simp only [List.mem_cons, List.not_mem_nil, or_false] at hh
    rcases hh with rfl
    · exact g2 n st L w hi
theorem lpX11_shiftsNames {dd : Nat} (Sp : bt_Sp) (hI : ∀ As w Q, bt_sig As = [2, 0] → Sp As w Q → ∃ I : Nat → Nat → bt_K, tX11_shiftsNames_0 (fun h st L w => ∃ n, I h n st L w) Q [] (bt_loc 3 As) w ∧ (∀ n st L w, I 2 n st L w → tX11_shiftsNames_2 (fun h st L w => ∃ m, m < n ∧ I h m st L w) Q st L w)) : bt_Met yX11_shiftsNames cX11_shiftsNames 3 none dd [2, 0] Sp := by
  refine bt_met (by decide) (by decide) (fun X As w Q hsig hSp hX hR => ?_)
  obtain ⟨I, h0, g2⟩ := hI As w Q hsig hSp
  have hs := bt_heads (X := X) (nL := 3) (cs := (0, 0)) [2] I (fun h κ => if h = 2 then tX11_shiftsNames_2 κ Q else I h 0) ?_ ?_
  · exact ⟨_, sX11_shiftsNames_0 hX hR (hs 2 (by simp)), h0⟩
  · intro h hh κ hκ
    simp only [List.mem_cons, List.not_mem_nil, or_false] at hh
    rcases hh with rfl
    · exact sX11_shiftsNames_2 hX hR (hκ 2 (by simp))
  · intro h hh n st L w hi
    simp only [List.mem_cons, List.not_mem_nil, or_false] at hh
    rcases hh with rfl
    · exact g2 n st L w hi
theorem lpX11_lays {dd : Nat} {S0 : bt_Sp} {d0 : Nat} {S1 : bt_Sp} {d1 : Nat} (m0 : bt_Met yX11_shifts cX11_shifts 3 none d0 [2, 0] S0) (q0 : d0 + 1 ≤ dd) (m1 : bt_Met yX11_shiftsNames cX11_shiftsNames 3 none d1 [2, 0] S1) (q1 : d1 + 1 ≤ dd) (Sp : bt_Sp) (hI : ∀ As w Q, bt_sig As = [2] → Sp As w Q → ∃ I : Nat → Nat → bt_K, tX11_lays_0 S0 S1 (fun h st L w => ∃ n, I h n st L w) Q [] (bt_loc 2 As) w ∧ (∀ n st L w, I 117 n st L w → tX11_lays_117 S0 S1 (fun h st L w => ∃ m, m < n ∧ I h m st L w) Q st L w)) : bt_Met yX11_lays cX11_lays 2 none dd [2] Sp := by
  refine bt_met (by decide) (by decide) (fun X As w Q hsig hSp hX hR => ?_)
  obtain ⟨I, h0, g117⟩ := hI As w Q hsig hSp
  have hs := bt_heads (X := X) (nL := 2) (cs := (0, 0)) [117] I (fun h κ => if h = 117 then tX11_lays_117 S0 S1 κ Q else I h 0) ?_ ?_
  · exact ⟨_, sX11_lays_0 hX hR m0 q0 m1 q1 (hs 117 (by simp)), h0⟩
  · intro h hh κ hκ
    simp only [List.mem_cons, List.not_mem_nil, or_false] at hh
    rcases hh with rfl
    · exact sX11_lays_117 hX hR m0 q0 m1 q1 (hκ 117 (by simp))
  · intro h hh n st L w hi
    simp only [List.mem_cons, List.not_mem_nil, or_false] at hh
    rcases hh with rfl
    · exact g117 n st L w hi
theorem lpX11_copies {dd : Nat} (Sp : bt_Sp) (hI : ∀ As w Q, bt_sig As = [2, 0, 2, 0] → Sp As w Q → ∃ I : Nat → Nat → bt_K, tX11_copies_0 (fun h st L w => ∃ n, I h n st L w) Q [] (bt_loc 5 As) w ∧ (∀ n st L w, I 3 n st L w → tX11_copies_3 (fun h st L w => ∃ m, m < n ∧ I h m st L w) Q st L w)) : bt_Met yX11_copies cX11_copies 5 none dd [2, 0, 2, 0] Sp := by
  refine bt_met (by decide) (by decide) (fun X As w Q hsig hSp hX hR => ?_)
  obtain ⟨I, h0, g3⟩ := hI As w Q hsig hSp
  have hs := bt_heads (X := X) (nL := 5) (cs := (0, 0)) [3] I (fun h κ => if h = 3 then tX11_copies_3 κ Q else I h 0) ?_ ?_
  · exact ⟨_, sX11_copies_0 hX hR (hs 3 (by simp)), h0⟩
  · intro h hh κ hκ
    simp only [List.mem_cons, List.not_mem_nil, or_false] at hh
    rcases hh with rfl
    · exact sX11_copies_3 hX hR (hκ 3 (by simp))
  · intro h hh n st L w hi
    simp only [List.mem_cons, List.not_mem_nil, or_false] at hh
    rcases hh with rfl
    · exact g3 n st L w hi
theorem lfX11_readsLine {dd : Nat} {S0 : bt_Sp} {d0 : Nat} {S1 : bt_Sp} {d1 : Nat} {S2 : bt_Sp} {d2 : Nat} {S3 : bt_Sp} {d3 : Nat} {S4 : bt_Sp} {d4 : Nat} {S5 : bt_Sp} {d5 : Nat} (m0 : bt_Met yX11_isWord cX11_isWord 3 (some .boolean) d0 [2, 1] S0) (q0 : d0 + 1 ≤ dd) (m1 : bt_Met yX11_fails cX11_fails 2 (some .boolean) d1 [2, 0] S1) (q1 : d1 + 1 ≤ dd) (m2 : bt_Met yX11_nextToken cX11_nextToken 2 none d2 [2] S2) (q2 : d2 + 1 ≤ dd) (m3 : bt_Met yX11_needsGuest cX11_needsGuest 2 (some .boolean) d3 [2, 0] S3) (q3 : d3 + 1 ≤ dd) (m4 : bt_Met yX11_needsPen cX11_needsPen 2 (some .boolean) d4 [2, 0] S4) (q4 : d4 + 1 ≤ dd) (m5 : bt_Met yX11_closes cX11_closes 1 (some .boolean) d5 [2] S5) (q5 : d5 + 1 ≤ dd) : bt_Met yX11_readsLine cX11_readsLine 3 (some .boolean) dd [2] (fun As w Q => tX11_readsLine_0 S0 S1 S2 S3 S4 S5 bt_k0 Q [] (bt_loc 3 As) w) := bt_met (by decide) (by decide) (fun X As w Q _ hSp hX hR => ⟨_, sX11_readsLine_0 hX hR m0 q0 m1 q1 m2 q2 m3 q3 m4 q4 m5 q5, hSp⟩)
theorem lpX11_laysLines {dd : Nat} (Sp : bt_Sp) (hI : ∀ As w Q, bt_sig As = [2, 0, 0] → Sp As w Q → ∃ I : Nat → Nat → bt_K, tX11_laysLines_0 (fun h st L w => ∃ n, I h n st L w) Q [] (bt_loc 4 As) w ∧ (∀ n st L w, I 14 n st L w → tX11_laysLines_14 (fun h st L w => ∃ m, m < n ∧ I h m st L w) Q st L w)) : bt_Met yX11_laysLines cX11_laysLines 4 none dd [2, 0, 0] Sp := by
  refine bt_met (by decide) (by decide) (fun X As w Q hsig hSp hX hR => ?_)
  obtain ⟨I, h0, g14⟩ := hI As w Q hsig hSp
  have hs := bt_heads (X := X) (nL := 4) (cs := (0, 0)) [14] I (fun h κ => if h = 14 then tX11_laysLines_14 κ Q else I h 0) ?_ ?_
  · exact ⟨_, sX11_laysLines_0 hX hR (hs 14 (by simp)), h0⟩
  · intro h hh κ hκ
    simp only [List.mem_cons, List.not_mem_nil, or_false] at hh
    rcases hh with rfl
    · exact sX11_laysLines_14 hX hR (hκ 14 (by simp))
  · intro h hh n st L w hi
    simp only [List.mem_cons, List.not_mem_nil, or_false] at hh
    rcases hh with rfl
    · exact g14 n st L w hi
theorem lfX11_forgets {dd : Nat} : bt_Met yX11_forgets cX11_forgets 1 none dd [2] (fun As w Q => tX11_forgets_0 bt_k0 Q [] (bt_loc 1 As) w) := bt_met (by decide) (by decide) (fun X As w Q _ hSp hX hR => ⟨_, sX11_forgets_0 hX hR, hSp⟩)
theorem lpX11_fresh {dd : Nat} (Sp : bt_Sp) (hI : ∀ As w Q, bt_sig As = [2] → Sp As w Q → ∃ I : Nat → Nat → bt_K, tX11_fresh_0 (fun h st L w => ∃ n, I h n st L w) Q [] (bt_loc 2 As) w ∧ (∀ n st L w, I 2 n st L w → tX11_fresh_2 (fun h st L w => ∃ m, m < n ∧ I h m st L w) Q st L w) ∧ (∀ n st L w, I 23 n st L w → tX11_fresh_23 (fun h st L w => ∃ m, m < n ∧ I h m st L w) Q st L w) ∧ (∀ n st L w, I 70 n st L w → tX11_fresh_70 (fun h st L w => ∃ m, m < n ∧ I h m st L w) Q st L w)) : bt_Met yX11_fresh cX11_fresh 2 none dd [2] Sp := by
  refine bt_met (by decide) (by decide) (fun X As w Q hsig hSp hX hR => ?_)
  obtain ⟨I, h0, g2, g23, g70⟩ := hI As w Q hsig hSp
  have hs := bt_heads (X := X) (nL := 2) (cs := (0, 0)) [2, 23, 70] I (fun h κ => if h = 2 then tX11_fresh_2 κ Q else if h = 23 then tX11_fresh_23 κ Q else if h = 70 then tX11_fresh_70 κ Q else I h 0) ?_ ?_
  · exact ⟨_, sX11_fresh_0 hX hR (hs 2 (by simp)) (hs 23 (by simp)) (hs 70 (by simp)), h0⟩
  · intro h hh κ hκ
    simp only [List.mem_cons, List.not_mem_nil, or_false] at hh
    rcases hh with rfl | rfl | rfl
    · exact sX11_fresh_2 hX hR (hκ 2 (by simp)) (hκ 23 (by simp)) (hκ 70 (by simp))
    · exact sX11_fresh_23 hX hR (hκ 2 (by simp)) (hκ 23 (by simp)) (hκ 70 (by simp))
    · exact sX11_fresh_70 hX hR (hκ 2 (by simp)) (hκ 23 (by simp)) (hκ 70 (by simp))
  · intro h hh n st L w hi
    simp only [List.mem_cons, List.not_mem_nil, or_false] at hh
    rcases hh with rfl | rfl | rfl
    · exact g2 n st L w hi
    · exact g23 n st L w hi
    · exact g70 n st L w hi
theorem lpX11_zoo {dd : Nat} {S0 : bt_Sp} {d0 : Nat} {S1 : bt_Sp} {d1 : Nat} {S2 : bt_Sp} {d2 : Nat} {S3 : bt_Sp} {d3 : Nat} (m0 : bt_Met yX11_readsAll cX11_readsAll 2 (some .boolean) d0 [2] S0) (q0 : d0 + 1 ≤ dd) (m1 : bt_Met yX11_lays cX11_lays 2 none d1 [2] S1) (q1 : d1 + 1 ≤ dd) (m2 : bt_Met yX11_fresh cX11_fresh 2 none d2 [2] S2) (q2 : d2 + 1 ≤ dd) (m3 : bt_Met yX11_forgets cX11_forgets 1 none d3 [2] S3) (q3 : d3 + 1 ≤ dd) (Sp : bt_Sp) (hI : ∀ As w Q, bt_sig As = [2] → Sp As w Q → ∃ I : Nat → Nat → bt_K, tX11_zoo_0 S0 S1 S2 S3 (fun h st L w => ∃ n, I h n st L w) Q [] (bt_loc 2 As) w ∧ (∀ n st L w, I 43 n st L w → tX11_zoo_43 S0 S1 S2 S3 (fun h st L w => ∃ m, m < n ∧ I h m st L w) Q st L w)) : bt_Met yX11_zoo cX11_zoo 2 (some .int) dd [2] Sp := by
  refine bt_met (by decide) (by decide) (fun X As w Q hsig hSp hX hR => ?_)
  obtain ⟨I, h0, g43⟩ := hI As w Q hsig hSp
  have hs := bt_heads (X := X) (nL := 2) (cs := (0, 0)) [43] I (fun h κ => if h = 43 then tX11_zoo_43 S0 S1 S2 S3 κ Q else I h 0) ?_ ?_
  · exact ⟨_, sX11_zoo_0 hX hR m0 q0 m1 q1 m2 q2 m3 q3 (hs 43 (by simp)), h0⟩
  · intro h hh κ hκ
    simp only [List.mem_cons, List.not_mem_nil, or_false] at hh
    rcases hh with rfl
    · exact sX11_zoo_43 hX hR m0 q0 m1 q1 m2 q2 m3 q3 (hκ 43 (by simp))
  · intro h hh n st L w hi
    simp only [List.mem_cons, List.not_mem_nil, or_false] at hh
    rcases hh with rfl
    · exact g43 n st L w hi
theorem lpX11_days {dd : Nat} {S0 : bt_Sp} {d0 : Nat} {S1 : bt_Sp} {d1 : Nat} {S2 : bt_Sp} {d2 : Nat} (m0 : bt_Met yX11_starts cX11_starts 1 none d0 [2] S0) (q0 : d0 + 1 ≤ dd) (m1 : bt_Met yX11_readsLine cX11_readsLine 3 (some .boolean) d1 [2] S1) (q1 : d1 + 1 ≤ dd) (m2 : bt_Met yX11_laysLines cX11_laysLines 4 none d2 [2, 0, 0] S2) (q2 : d2 + 1 ≤ dd) (Sp : bt_Sp) (hI : ∀ As w Q, bt_sig As = [2] → Sp As w Q → ∃ I : Nat → Nat → bt_K, tX11_days_0 S0 S1 S2 (fun h st L w => ∃ n, I h n st L w) Q [] (bt_loc 1 As) w ∧ (∀ n st L w, I 16 n st L w → tX11_days_16 S0 S1 S2 (fun h st L w => ∃ m, m < n ∧ I h m st L w) Q st L w)) : bt_Met yX11_days cX11_days 1 (some .int) dd [2] Sp := by
  refine bt_met (by decide) (by decide) (fun X As w Q hsig hSp hX hR => ?_)
  obtain ⟨I, h0, g16⟩ := hI As w Q hsig hSp
  have hs := bt_heads (X := X) (nL := 1) (cs := (0, 0)) [16] I (fun h κ => if h = 16 then tX11_days_16 S0 S1 S2 κ Q else I h 0) ?_ ?_
  · exact ⟨_, sX11_days_0 hX hR m0 q0 m1 q1 m2 q2 (hs 16 (by simp)), h0⟩
  · intro h hh κ hκ
    simp only [List.mem_cons, List.not_mem_nil, or_false] at hh
    rcases hh with rfl
    · exact sX11_days_16 hX hR m0 q0 m1 q1 m2 q2 (hκ 16 (by simp))
  · intro h hh n st L w hi
    simp only [List.mem_cons, List.not_mem_nil, or_false] at hh
    rcases hh with rfl
    · exact g16 n st L w hi
theorem lfX11_isPen {dd : Nat} : bt_Met yX11_isPen cX11_isPen 2 (some .boolean) dd [2, 0] (fun As w Q => tX11_isPen_0 bt_k0 Q [] (bt_loc 2 As) w) := bt_met (by decide) (by decide) (fun X As w Q _ hSp hX hR => ⟨_, sX11_isPen_0 hX hR, hSp⟩)
theorem lfX11_isGuest {dd : Nat} : bt_Met yX11_isGuest cX11_isGuest 2 (some .boolean) dd [2, 0] (fun As w Q => tX11_isGuest_0 bt_k0 Q [] (bt_loc 2 As) w) := bt_met (by decide) (by decide) (fun X As w Q _ hSp hX hR => ⟨_, sX11_isGuest_0 hX hR, hSp⟩)
theorem lfX11_isAnimal {dd : Nat} : bt_Met yX11_isAnimal cX11_isAnimal 2 (some .boolean) dd [2, 0] (fun As w Q => tX11_isAnimal_0 bt_k0 Q [] (bt_loc 2 As) w) := bt_met (by decide) (by decide) (fun X As w Q _ hSp hX hR => ⟨_, sX11_isAnimal_0 hX hR, hSp⟩)
theorem lfX11_allGuests {dd : Nat} : bt_Met yX11_allGuests cX11_allGuests 1 (some .int) dd [2] (fun As w Q => tX11_allGuests_0 bt_k0 Q [] (bt_loc 1 As) w) := bt_met (by decide) (by decide) (fun X As w Q _ hSp hX hR => ⟨_, sX11_allGuests_0 hX hR, hSp⟩)
theorem lpX11_guestsIn {dd : Nat} (Sp : bt_Sp) (hI : ∀ As w Q, bt_sig As = [2, 0] → Sp As w Q → ∃ I : Nat → Nat → bt_K, tX11_guestsIn_0 (fun h st L w => ∃ n, I h n st L w) Q [] (bt_loc 4 As) w ∧ (∀ n st L w, I 4 n st L w → tX11_guestsIn_4 (fun h st L w => ∃ m, m < n ∧ I h m st L w) Q st L w)) : bt_Met yX11_guestsIn cX11_guestsIn 4 (some .int) dd [2, 0] Sp := by
  refine bt_met (by decide) (by decide) (fun X As w Q hsig hSp hX hR => ?_)
  obtain ⟨I, h0, g4⟩ := hI As w Q hsig hSp
  have hs := bt_heads (X := X) (nL := 4) (cs := (0, 0)) [4] I (fun h κ => if h = 4 then tX11_guestsIn_4 κ Q else I h 0) ?_ ?_
  · exact ⟨_, sX11_guestsIn_0 hX hR (hs 4 (by simp)), h0⟩
  · intro h hh κ hκ
    simp only [List.mem_cons, List.not_mem_nil, or_false] at hh
    rcases hh with rfl
    · exact sX11_guestsIn_4 hX hR (hκ 4 (by simp))
  · intro h hh n st L w hi
    simp only [List.mem_cons, List.not_mem_nil, or_false] at hh
    rcases hh with rfl
    · exact g4 n st L w hi
theorem lfX11_seeBy {dd : Nat} {S0 : bt_Sp} {d0 : Nat} {S1 : bt_Sp} {d1 : Nat} (m0 : bt_Met yX11_worked cX11_worked 6 (some .int) d0 [2, 0] S0) (q0 : d0 + 1 ≤ dd) (m1 : bt_Met yX11_between cX11_between 3 (some .int) d1 [0, 0, 0] S1) (q1 : d1 + 1 ≤ dd) : bt_Met yX11_seeBy cX11_seeBy 5 (some .int) dd [2, 0, 0, 0] (fun As w Q => tX11_seeBy_0 S0 S1 bt_k0 Q [] (bt_loc 5 As) w) := bt_met (by decide) (by decide) (fun X As w Q _ hSp hX hR => ⟨_, sX11_seeBy_0 hX hR m0 q0 m1 q1, hSp⟩)
theorem lpX11_worthBy {dd : Nat} {S0 : bt_Sp} {d0 : Nat} {S1 : bt_Sp} {d1 : Nat} (m0 : bt_Met yX11_bits cX11_bits 3 (some .int) d0 [0] S0) (q0 : d0 + 1 ≤ dd) (m1 : bt_Met yX11_seeBy cX11_seeBy 5 (some .int) d1 [2, 0, 0, 0] S1) (q1 : d1 + 1 ≤ dd) (Sp : bt_Sp) (hI : ∀ As w Q, bt_sig As = [2, 0, 0] → Sp As w Q → ∃ I : Nat → Nat → bt_K, tX11_worthBy_0 S0 S1 (fun h st L w => ∃ n, I h n st L w) Q [] (bt_loc 6 As) w ∧ (∀ n st L w, I 13 n st L w → tX11_worthBy_13 S0 S1 (fun h st L w => ∃ m, m < n ∧ I h m st L w) Q st L w)) : bt_Met yX11_worthBy cX11_worthBy 6 (some .int) dd [2, 0, 0] Sp := by
  refine bt_met (by decide) (by decide) (fun X As w Q hsig hSp hX hR => ?_)
  obtain ⟨I, h0, g13⟩ := hI As w Q hsig hSp
  have hs := bt_heads (X := X) (nL := 6) (cs := (0, 0)) [13] I (fun h κ => if h = 13 then tX11_worthBy_13 S0 S1 κ Q else I h 0) ?_ ?_
  · exact ⟨_, sX11_worthBy_0 hX hR m0 q0 m1 q1 (hs 13 (by simp)), h0⟩
  · intro h hh κ hκ
    simp only [List.mem_cons, List.not_mem_nil, or_false] at hh
    rcases hh with rfl
    · exact sX11_worthBy_13 hX hR m0 q0 m1 q1 (hκ 13 (by simp))
  · intro h hh n st L w hi
    simp only [List.mem_cons, List.not_mem_nil, or_false] at hh
    rcases hh with rfl
    · exact g13 n st L w hi
theorem lpX11_laysWorths {dd : Nat} {S0 : bt_Sp} {d0 : Nat} {S1 : bt_Sp} {d1 : Nat} (m0 : bt_Met yX11_allGuests cX11_allGuests 1 (some .int) d0 [2] S0) (q0 : d0 + 1 ≤ dd) (m1 : bt_Met yX11_worthBy cX11_worthBy 6 (some .int) d1 [2, 0, 0] S1) (q1 : d1 + 1 ≤ dd) (Sp : bt_Sp) (hI : ∀ As w Q, bt_sig As = [2] → Sp As w Q → ∃ I : Nat → Nat → bt_K, tX11_laysWorths_0 S0 S1 (fun h st L w => ∃ n, I h n st L w) Q [] (bt_loc 3 As) w ∧ (∀ n st L w, I 2 n st L w → tX11_laysWorths_2 S0 S1 (fun h st L w => ∃ m, m < n ∧ I h m st L w) Q st L w) ∧ (∀ n st L w, I 14 n st L w → tX11_laysWorths_14 S0 S1 (fun h st L w => ∃ m, m < n ∧ I h m st L w) Q st L w)) : bt_Met yX11_laysWorths cX11_laysWorths 3 none dd [2] Sp := by
  refine bt_met (by decide) (by decide) (fun X As w Q hsig hSp hX hR => ?_)
  obtain ⟨I, h0, g2, g14⟩ := hI As w Q hsig hSp
  have hs := bt_heads (X := X) (nL := 3) (cs := (0, 0)) [2, 14] I (fun h κ => if h = 2 then tX11_laysWorths_2 S0 S1 κ Q else if h = 14 then tX11_laysWorths_14 S0 S1 κ Q else I h 0) ?_ ?_
  · exact ⟨_, sX11_laysWorths_0 hX hR m0 q0 m1 q1 (hs 2 (by simp)) (hs 14 (by simp)), h0⟩
  · intro h hh κ hκ
    simp only [List.mem_cons, List.not_mem_nil, or_false] at hh
    rcases hh with rfl | rfl
    · exact sX11_laysWorths_2 hX hR m0 q0 m1 q1 (hκ 2 (by simp)) (hκ 14 (by simp))
    · exact sX11_laysWorths_14 hX hR m0 q0 m1 q1 (hκ 2 (by simp)) (hκ 14 (by simp))
  · intro h hh n st L w hi
    simp only [List.mem_cons, List.not_mem_nil, or_false] at hh
    rcases hh with rfl | rfl
    · exact g2 n st L w hi
    · exact g14 n st L w hi
theorem lpX11_chooses {dd : Nat} (hmx : 1 ≤ dd) (Sp : bt_Sp) (hI : ∀ As w Q, bt_sig As = [2] → Sp As w Q → ∃ I : Nat → Nat → bt_K, tX11_chooses_0 (fun h st L w => ∃ n, I h n st L w) Q [] (bt_loc 7 As) w ∧ (∀ n st L w, I 4 n st L w → tX11_chooses_4 (fun h st L w => ∃ m, m < n ∧ I h m st L w) Q st L w) ∧ (∀ n st L w, I 41 n st L w → tX11_chooses_41 (fun h st L w => ∃ m, m < n ∧ I h m st L w) Q st L w) ∧ (∀ n st L w, I 59 n st L w → tX11_chooses_59 (fun h st L w => ∃ m, m < n ∧ I h m st L w) Q st L w)) : bt_Met yX11_chooses cX11_chooses 7 (some .int) dd [2] Sp := by
  refine bt_met (by decide) (by decide) (fun X As w Q hsig hSp hX hR => ?_)
  obtain ⟨I, h0, g4, g41, g59⟩ := hI As w Q hsig hSp
  have hs := bt_heads (X := X) (nL := 7) (cs := (0, 0)) [4, 41, 59] I (fun h κ => if h = 4 then tX11_chooses_4 κ Q else if h = 41 then tX11_chooses_41 κ Q else if h = 59 then tX11_chooses_59 κ Q else I h 0) ?_ ?_
  · exact ⟨_, sX11_chooses_0 hX hR (hs 4 (by simp)) (hs 41 (by simp)) (hs 59 (by simp)) hmx, h0⟩
  · intro h hh κ hκ
    simp only [List.mem_cons, List.not_mem_nil, or_false] at hh
    rcases hh with rfl | rfl | rfl
    · exact sX11_chooses_4 hX hR (hκ 4 (by simp)) (hκ 41 (by simp)) (hκ 59 (by simp)) hmx
    · exact sX11_chooses_41 hX hR (hκ 4 (by simp)) (hκ 41 (by simp)) (hκ 59 (by simp)) hmx
    · exact sX11_chooses_59 hX hR (hκ 4 (by simp)) (hκ 41 (by simp)) (hκ 59 (by simp)) hmx
  · intro h hh n st L w hi
    simp only [List.mem_cons, List.not_mem_nil, or_false] at hh
    rcases hh with rfl | rfl | rfl
    · exact g4 n st L w hi
    · exact g41 n st L w hi
    · exact g59 n st L w hi
theorem lpX11_laysPens {dd : Nat} {S0 : bt_Sp} {d0 : Nat} (m0 : bt_Met yX11_guestsIn cX11_guestsIn 4 (some .int) d0 [2, 0] S0) (q0 : d0 + 1 ≤ dd) (Sp : bt_Sp) (hI : ∀ As w Q, bt_sig As = [2] → Sp As w Q → ∃ I : Nat → Nat → bt_K, tX11_laysPens_0 S0 (fun h st L w => ∃ n, I h n st L w) Q [] (bt_loc 2 As) w ∧ (∀ n st L w, I 2 n st L w → tX11_laysPens_2 S0 (fun h st L w => ∃ m, m < n ∧ I h m st L w) Q st L w)) : bt_Met yX11_laysPens cX11_laysPens 2 none dd [2] Sp := by
  refine bt_met (by decide) (by decide) (fun X As w Q hsig hSp hX hR => ?_)
  obtain ⟨I, h0, g2⟩ := hI As w Q hsig hSp
  have hs := bt_heads (X := X) (nL := 2) (cs := (0, 0)) [2] I (fun h κ => if h = 2 then tX11_laysPens_2 S0 κ Q else I h 0) ?_ ?_
  · exact ⟨_, sX11_laysPens_0 hX hR m0 q0 (hs 2 (by simp)), h0⟩
  · intro h hh κ hκ
    simp only [List.mem_cons, List.not_mem_nil, or_false] at hh
    rcases hh with rfl
    · exact sX11_laysPens_2 hX hR m0 q0 (hκ 2 (by simp))
  · intro h hh n st L w hi
    simp only [List.mem_cons, List.not_mem_nil, or_false] at hh
    rcases hh with rfl
    · exact g2 n st L w hi
theorem lfX11_looks {dd : Nat} {S0 : bt_Sp} {d0 : Nat} {S1 : bt_Sp} {d1 : Nat} {S2 : bt_Sp} {d2 : Nat} (m0 : bt_Met yX11_laysWorths cX11_laysWorths 3 none d0 [2] S0) (q0 : d0 + 1 ≤ dd) (m1 : bt_Met yX11_laysPens cX11_laysPens 2 none d1 [2] S1) (q1 : d1 + 1 ≤ dd) (m2 : bt_Met yX11_chooses cX11_chooses 7 (some .int) d2 [2] S2) (q2 : d2 + 1 ≤ dd) : bt_Met yX11_looks cX11_looks 1 (some .int) dd [2] (fun As w Q => tX11_looks_0 S0 S1 S2 bt_k0 Q [] (bt_loc 1 As) w) := bt_met (by decide) (by decide) (fun X As w Q _ hSp hX hR => ⟨_, sX11_looks_0 hX hR m0 q0 m1 q1 m2 q2, hSp⟩)
theorem lfX11_moodBy {dd : Nat} {S0 : bt_Sp} {d0 : Nat} {S1 : bt_Sp} {d1 : Nat} {S2 : bt_Sp} {d2 : Nat} (m0 : bt_Met yX11_bits cX11_bits 3 (some .int) d0 [0] S0) (q0 : d0 + 1 ≤ dd) (m1 : bt_Met yX11_worked cX11_worked 6 (some .int) d1 [2, 0] S1) (q1 : d1 + 1 ≤ dd) (m2 : bt_Met yX11_between cX11_between 3 (some .int) d2 [0, 0, 0] S2) (q2 : d2 + 1 ≤ dd) : bt_Met yX11_moodBy cX11_moodBy 7 (some .int) dd [2, 0, 0] (fun As w Q => tX11_moodBy_0 S0 S1 S2 bt_k0 Q [] (bt_loc 7 As) w) := bt_met (by decide) (by decide) (fun X As w Q _ hSp hX hR => ⟨_, sX11_moodBy_0 hX hR m0 q0 m1 q1 m2 q2, hSp⟩)
theorem lpX11_passes {dd : Nat} {S0 : bt_Sp} {d0 : Nat} {S1 : bt_Sp} {d1 : Nat} (m0 : bt_Met yX11_looks cX11_looks 1 (some .int) d0 [2] S0) (q0 : d0 + 1 ≤ dd) (m1 : bt_Met yX11_moodBy cX11_moodBy 7 (some .int) d1 [2, 0, 0] S1) (q1 : d1 + 1 ≤ dd) (Sp : bt_Sp) (hI : ∀ As w Q, bt_sig As = [2, 0] → Sp As w Q → ∃ I : Nat → Nat → bt_K, tX11_passes_0 S0 S1 (fun h st L w => ∃ n, I h n st L w) Q [] (bt_loc 4 As) w ∧ (∀ n st L w, I 7 n st L w → tX11_passes_7 S0 S1 (fun h st L w => ∃ m, m < n ∧ I h m st L w) Q st L w) ∧ (∀ n st L w, I 47 n st L w → tX11_passes_47 S0 S1 (fun h st L w => ∃ m, m < n ∧ I h m st L w) Q st L w) ∧ (∀ n st L w, I 76 n st L w → tX11_passes_76 S0 S1 (fun h st L w => ∃ m, m < n ∧ I h m st L w) Q st L w) ∧ (∀ n st L w, I 113 n st L w → tX11_passes_113 S0 S1 (fun h st L w => ∃ m, m < n ∧ I h m st L w) Q st L w)) : bt_Met yX11_passes cX11_passes 4 (some .int) dd [2, 0] Sp := by
  refine bt_met (by decide) (by decide) (fun X As w Q hsig hSp hX hR => ?_)
  obtain ⟨I, h0, g7, g47, g76, g113⟩ := hI As w Q hsig hSp
  have hs := bt_heads (X := X) (nL := 4) (cs := (0, 0)) [7, 47, 76, 113] I (fun h κ => if h = 7 then tX11_passes_7 S0 S1 κ Q else if h = 47 then tX11_passes_47 S0 S1 κ Q else if h = 76 then tX11_passes_76 S0 S1 κ Q else if h = 113 then tX11_passes_113 S0 S1 κ Q else I h 0) ?_ ?_
  · exact ⟨_, sX11_passes_0 hX hR m0 q0 m1 q1 (hs 7 (by simp)) (hs 47 (by simp)) (hs 76 (by simp)) (hs 113 (by simp)), h0⟩
  · intro h hh κ hκ
    simp only [List.mem_cons, List.not_mem_nil, or_false] at hh
    rcases hh with rfl | rfl | rfl | rfl
    · exact sX11_passes_7 hX hR m0 q0 m1 q1 (hκ 7 (by simp)) (hκ 47 (by simp)) (hκ 76 (by simp)) (hκ 113 (by simp))
    · exact sX11_passes_47 hX hR m0 q0 m1 q1 (hκ 7 (by simp)) (hκ 47 (by simp)) (hκ 76 (by simp)) (hκ 113 (by simp))
    · exact sX11_passes_76 hX hR m0 q0 m1 q1 (hκ 7 (by simp)) (hκ 47 (by simp)) (hκ 76 (by simp)) (hκ 113 (by simp))
    · exact sX11_passes_113 hX hR m0 q0 m1 q1 (hκ 7 (by simp)) (hκ 47 (by simp)) (hκ 76 (by simp)) (hκ 113 (by simp))
  · intro h hh n st L w hi
    simp only [List.mem_cons, List.not_mem_nil, or_false] at hh
    rcases hh with rfl | rfl | rfl | rfl
    · exact g7 n st L w hi
    · exact g47 n st L w hi
    · exact g76 n st L w hi
    · exact g113 n st L w hi
theorem lpX11_pacing {dd : Nat} (Sp : bt_Sp) (hI : ∀ As w Q, bt_sig As = [2] → Sp As w Q → ∃ I : Nat → Nat → bt_K, tX11_pacing_0 (fun h st L w => ∃ n, I h n st L w) Q [] (bt_loc 3 As) w ∧ (∀ n st L w, I 4 n st L w → tX11_pacing_4 (fun h st L w => ∃ m, m < n ∧ I h m st L w) Q st L w)) : bt_Met yX11_pacing cX11_pacing 3 (some .int) dd [2] Sp := by
  refine bt_met (by decide) (by decide) (fun X As w Q hsig hSp hX hR => ?_)
  obtain ⟨I, h0, g4⟩ := hI As w Q hsig hSp
  have hs := bt_heads (X := X) (nL := 3) (cs := (0, 0)) [4] I (fun h κ => if h = 4 then tX11_pacing_4 κ Q else I h 0) ?_ ?_
  · exact ⟨_, sX11_pacing_0 hX hR (hs 4 (by simp)), h0⟩
  · intro h hh κ hκ
    simp only [List.mem_cons, List.not_mem_nil, or_false] at hh
    rcases hh with rfl
    · exact sX11_pacing_4 hX hR (hκ 4 (by simp))
  · intro h hh n st L w hi
    simp only [List.mem_cons, List.not_mem_nil, or_false] at hh
    rcases hh with rfl
    · exact g4 n st L w hi
theorem lfX11_pen {dd : Nat} {S0 : bt_Sp} {d0 : Nat} {S1 : bt_Sp} {d1 : Nat} {S2 : bt_Sp} {d2 : Nat} {S3 : bt_Sp} {d3 : Nat} (m0 : bt_Met yX11_isPen cX11_isPen 2 (some .boolean) d0 [2, 0] S0) (q0 : d0 + 1 ≤ dd) (m1 : bt_Met yX11_within cX11_within 3 (some .boolean) d1 [0, 0, 0] S1) (q1 : d1 + 1 ≤ dd) (m2 : bt_Met yX11_guestsIn cX11_guestsIn 4 (some .int) d2 [2, 0] S2) (q2 : d2 + 1 ≤ dd) (m3 : bt_Met yX11_looks cX11_looks 1 (some .int) d3 [2] S3) (q3 : d3 + 1 ≤ dd) : bt_Met yX11_pen cX11_pen 3 (some .int) dd [2, 0, 0] (fun As w Q => tX11_pen_0 S0 S1 S2 S3 bt_k0 Q [] (bt_loc 3 As) w) := bt_met (by decide) (by decide) (fun X As w Q _ hSp hX hR => ⟨_, sX11_pen_0 hX hR m0 q0 m1 q1 m2 q2 m3 q3, hSp⟩)
theorem lfX11_guest {dd : Nat} {S0 : bt_Sp} {d0 : Nat} {S1 : bt_Sp} {d1 : Nat} {S2 : bt_Sp} {d2 : Nat} {S3 : bt_Sp} {d3 : Nat} (m0 : bt_Met yX11_isGuest cX11_isGuest 2 (some .boolean) d0 [2, 0] S0) (q0 : d0 + 1 ≤ dd) (m1 : bt_Met yX11_within cX11_within 3 (some .boolean) d1 [0, 0, 0] S1) (q1 : d1 + 1 ≤ dd) (m2 : bt_Met yX11_looks cX11_looks 1 (some .int) d2 [2] S2) (q2 : d2 + 1 ≤ dd) (m3 : bt_Met yX11_moodBy cX11_moodBy 7 (some .int) d3 [2, 0, 0] S3) (q3 : d3 + 1 ≤ dd) : bt_Met yX11_guest cX11_guest 3 (some .int) dd [2, 0, 0] (fun As w Q => tX11_guest_0 S0 S1 S2 S3 bt_k0 Q [] (bt_loc 3 As) w) := bt_met (by decide) (by decide) (fun X As w Q _ hSp hX hR => ⟨_, sX11_guest_0 hX hR m0 q0 m1 q1 m2 q2 m3 q3, hSp⟩)
theorem lfX11_animal {dd : Nat} {S0 : bt_Sp} {d0 : Nat} {S1 : bt_Sp} {d1 : Nat} {S2 : bt_Sp} {d2 : Nat} (m0 : bt_Met yX11_isAnimal cX11_isAnimal 2 (some .boolean) d0 [2, 0] S0) (q0 : d0 + 1 ≤ dd) (m1 : bt_Met yX11_within cX11_within 3 (some .boolean) d1 [0, 0, 0] S1) (q1 : d1 + 1 ≤ dd) (m2 : bt_Met yX11_looks cX11_looks 1 (some .int) d2 [2] S2) (q2 : d2 + 1 ≤ dd) : bt_Met yX11_animal cX11_animal 3 (some .int) dd [2, 0, 0] (fun As w Q => tX11_animal_0 S0 S1 S2 bt_k0 Q [] (bt_loc 3 As) w) := bt_met (by decide) (by decide) (fun X As w Q _ hSp hX hR => ⟨_, sX11_animal_0 hX hR m0 q0 m1 q1 m2 q2, hSp⟩)
theorem lfX11_worth {dd : Nat} {S0 : bt_Sp} {d0 : Nat} {S1 : bt_Sp} {d1 : Nat} {S2 : bt_Sp} {d2 : Nat} {S3 : bt_Sp} {d3 : Nat} (m0 : bt_Met yX11_isAnimal cX11_isAnimal 2 (some .boolean) d0 [2, 0] S0) (q0 : d0 + 1 ≤ dd) (m1 : bt_Met yX11_isPen cX11_isPen 2 (some .boolean) d1 [2, 0] S1) (q1 : d1 + 1 ≤ dd) (m2 : bt_Met yX11_guestsIn cX11_guestsIn 4 (some .int) d2 [2, 0] S2) (q2 : d2 + 1 ≤ dd) (m3 : bt_Met yX11_worthBy cX11_worthBy 6 (some .int) d3 [2, 0, 0] S3) (q3 : d3 + 1 ≤ dd) : bt_Met yX11_worth cX11_worth 3 (some .int) dd [2, 0, 0] (fun As w Q => tX11_worth_0 S0 S1 S2 S3 bt_k0 Q [] (bt_loc 3 As) w) := bt_met (by decide) (by decide) (fun X As w Q _ hSp hX hR => ⟨_, sX11_worth_0 hX hR m0 q0 m1 q1 m2 q2 m3 q3, hSp⟩)
theorem lpX11_keeps {dd : Nat} {S0 : bt_Sp} {d0 : Nat} (m0 : bt_Met yX11_copies cX11_copies 5 none d0 [2, 0, 2, 0] S0) (q0 : d0 + 1 ≤ dd) (Sp : bt_Sp) (hI : ∀ As w Q, bt_sig As = [2] → Sp As w Q → ∃ I : Nat → Nat → bt_K, tX11_keeps_0 S0 (fun h st L w => ∃ n, I h n st L w) Q [] (bt_loc 2 As) w ∧ (∀ n st L w, I 11 n st L w → tX11_keeps_11 S0 (fun h st L w => ∃ m, m < n ∧ I h m st L w) Q st L w)) : bt_Met yX11_keeps cX11_keeps 2 none dd [2] Sp := by
  refine bt_met (by decide) (by decide) (fun X As w Q hsig hSp hX hR => ?_)
  obtain ⟨I, h0, g11⟩ := hI As w Q hsig hSp
  have hs := bt_heads (X := X) (nL := 2) (cs := (0, 0)) [11] I (fun h κ => if h = 11 then tX11_keeps_11 S0 κ Q else I h 0) ?_ ?_
  · exact ⟨_, sX11_keeps_0 hX hR m0 q0 (hs 11 (by simp)), h0⟩
  · intro h hh κ hκ
    simp only [List.mem_cons, List.not_mem_nil, or_false] at hh
    rcases hh with rfl
    · exact sX11_keeps_11 hX hR m0 q0 (hκ 11 (by simp))
  · intro h hh n st L w hi
    simp only [List.mem_cons, List.not_mem_nil, or_false] at hh
    rcases hh with rfl
    · exact g11 n st L w hi
theorem lfX11_canMove {dd : Nat} {S0 : bt_Sp} {d0 : Nat} (m0 : bt_Met yX11_guestsIn cX11_guestsIn 4 (some .int) d0 [2, 0] S0) (q0 : d0 + 1 ≤ dd) : bt_Met yX11_canMove cX11_canMove 3 (some .boolean) dd [2, 0, 0] (fun As w Q => tX11_canMove_0 S0 bt_k0 Q [] (bt_loc 3 As) w) := bt_met (by decide) (by decide) (fun X As w Q _ hSp hX hR => ⟨_, sX11_canMove_0 hX hR m0 q0, hSp⟩)
theorem lfX11_move {dd : Nat} {S0 : bt_Sp} {d0 : Nat} {S1 : bt_Sp} {d1 : Nat} {S2 : bt_Sp} {d2 : Nat} {S3 : bt_Sp} {d3 : Nat} (m0 : bt_Met yX11_isGuest cX11_isGuest 2 (some .boolean) d0 [2, 0] S0) (q0 : d0 + 1 ≤ dd) (m1 : bt_Met yX11_isPen cX11_isPen 2 (some .boolean) d1 [2, 0] S1) (q1 : d1 + 1 ≤ dd) (m2 : bt_Met yX11_canMove cX11_canMove 3 (some .boolean) d2 [2, 0, 0] S2) (q2 : d2 + 1 ≤ dd) (m3 : bt_Met yX11_keeps cX11_keeps 2 none d3 [2] S3) (q3 : d3 + 1 ≤ dd) : bt_Met yX11_move cX11_move 3 (some .boolean) dd [2, 0, 0] (fun As w Q => tX11_move_0 S0 S1 S2 S3 bt_k0 Q [] (bt_loc 3 As) w) := bt_met (by decide) (by decide) (fun X As w Q _ hSp hX hR => ⟨_, sX11_move_0 hX hR m0 q0 m1 q1 m2 q2 m3 q3, hSp⟩)
theorem lfX11_moodWithTyre {dd : Nat} (hmx : 1 ≤ dd) : bt_Met yX11_moodWithTyre cX11_moodWithTyre 2 (some .int) dd [2, 0] (fun As w Q => tX11_moodWithTyre_0 bt_k0 Q [] (bt_loc 2 As) w) := bt_met (by decide) (by decide) (fun X As w Q _ hSp hX hR => ⟨_, sX11_moodWithTyre_0 hX hR hmx, hSp⟩)
theorem lfX11_givesTyre {dd : Nat} {S0 : bt_Sp} {d0 : Nat} (m0 : bt_Met yX11_moodWithTyre cX11_moodWithTyre 2 (some .int) d0 [2, 0] S0) (q0 : d0 + 1 ≤ dd) : bt_Met yX11_givesTyre cX11_givesTyre 2 none dd [2, 0] (fun As w Q => tX11_givesTyre_0 S0 bt_k0 Q [] (bt_loc 2 As) w) := bt_met (by decide) (by decide) (fun X As w Q _ hSp hX hR => ⟨_, sX11_givesTyre_0 hX hR m0 q0, hSp⟩)
theorem lfX11_tyre {dd : Nat} {S0 : bt_Sp} {d0 : Nat} {S1 : bt_Sp} {d1 : Nat} {S2 : bt_Sp} {d2 : Nat} (m0 : bt_Met yX11_isGuest cX11_isGuest 2 (some .boolean) d0 [2, 0] S0) (q0 : d0 + 1 ≤ dd) (m1 : bt_Met yX11_keeps cX11_keeps 2 none d1 [2] S1) (q1 : d1 + 1 ≤ dd) (m2 : bt_Met yX11_givesTyre cX11_givesTyre 2 none d2 [2, 0] S2) (q2 : d2 + 1 ≤ dd) : bt_Met yX11_tyre cX11_tyre 2 (some .int) dd [2, 0] (fun As w Q => tX11_tyre_0 S0 S1 S2 bt_k0 Q [] (bt_loc 2 As) w) := bt_met (by decide) (by decide) (fun X As w Q _ hSp hX hR => ⟨_, sX11_tyre_0 hX hR m0 q0 m1 q1 m2 q2, hSp⟩)
theorem lfX11_hour {dd : Nat} {S0 : bt_Sp} {d0 : Nat} {S1 : bt_Sp} {d1 : Nat} (m0 : bt_Met yX11_keeps cX11_keeps 2 none d0 [2] S0) (q0 : d0 + 1 ≤ dd) (m1 : bt_Met yX11_passes cX11_passes 4 (some .int) d1 [2, 0] S1) (q1 : d1 + 1 ≤ dd) : bt_Met yX11_hour cX11_hour 1 (some .int) dd [2] (fun As w Q => tX11_hour_0 S0 S1 bt_k0 Q [] (bt_loc 1 As) w) := bt_met (by decide) (by decide) (fun X As w Q _ hSp hX hR => ⟨_, sX11_hour_0 hX hR m0 q0 m1 q1, hSp⟩)
theorem lfX11_undo {dd : Nat} {S0 : bt_Sp} {d0 : Nat} (m0 : bt_Met yX11_copies cX11_copies 5 none d0 [2, 0, 2, 0] S0) (q0 : d0 + 1 ≤ dd) : bt_Met yX11_undo cX11_undo 1 (some .boolean) dd [2] (fun As w Q => tX11_undo_0 S0 bt_k0 Q [] (bt_loc 1 As) w) := bt_met (by decide) (by decide) (fun X As w Q _ hSp hX hR => ⟨_, sX11_undo_0 hX hR m0 q0, hSp⟩)
theorem lfX11_goes {dd : Nat} {S0 : bt_Sp} {d0 : Nat} {S1 : bt_Sp} {d1 : Nat} {S2 : bt_Sp} {d2 : Nat} (m0 : bt_Met yX11_passes cX11_passes 4 (some .int) d0 [2, 0] S0) (q0 : d0 + 1 ≤ dd) (m1 : bt_Met yX11_canMove cX11_canMove 3 (some .boolean) d1 [2, 0, 0] S1) (q1 : d1 + 1 ≤ dd) (m2 : bt_Met yX11_givesTyre cX11_givesTyre 2 none d2 [2, 0] S2) (q2 : d2 + 1 ≤ dd) : bt_Met yX11_goes cX11_goes 4 (some .boolean) dd [2, 0] (fun As w Q => tX11_goes_0 S0 S1 S2 bt_k0 Q [] (bt_loc 4 As) w) := bt_met (by decide) (by decide) (fun X As w Q _ hSp hX hR => ⟨_, sX11_goes_0 hX hR m0 q0 m1 q1 m2 q2, hSp⟩)
theorem lpX11_judged {dd : Nat} {S0 : bt_Sp} {d0 : Nat} {S1 : bt_Sp} {d1 : Nat} {S2 : bt_Sp} {d2 : Nat} {S3 : bt_Sp} {d3 : Nat} {S4 : bt_Sp} {d4 : Nat} (m0 : bt_Met yX11_within cX11_within 3 (some .boolean) d0 [0, 0, 0] S0) (q0 : d0 + 1 ≤ dd) (m1 : bt_Met yX11_copies cX11_copies 5 none d1 [2, 0, 2, 0] S1) (q1 : d1 + 1 ≤ dd) (m2 : bt_Met yX11_fresh cX11_fresh 2 none d2 [2] S2) (q2 : d2 + 1 ≤ dd) (m3 : bt_Met yX11_goes cX11_goes 4 (some .boolean) d3 [2, 0] S3) (q3 : d3 + 1 ≤ dd) (m4 : bt_Met yX11_pacing cX11_pacing 3 (some .int) d4 [2] S4) (q4 : d4 + 1 ≤ dd) (Sp : bt_Sp) (hI : ∀ As w Q, bt_sig As = [2, 0] → Sp As w Q → ∃ I : Nat → Nat → bt_K, tX11_judged_0 S0 S1 S2 S3 S4 (fun h st L w => ∃ n, I h n st L w) Q [] (bt_loc 6 As) w ∧ (∀ n st L w, I 41 n st L w → tX11_judged_41 S0 S1 S2 S3 S4 (fun h st L w => ∃ m, m < n ∧ I h m st L w) Q st L w)) : bt_Met yX11_judged cX11_judged 6 (some .int) dd [2, 0] Sp := by
  refine bt_met (by decide) (by decide) (fun X As w Q hsig hSp hX hR => ?_)
  obtain ⟨I, h0, g41⟩ := hI As w Q hsig hSp
  have hs := bt_heads (X := X) (nL := 6) (cs := (0, 0)) [41] I (fun h κ => if h = 41 then tX11_judged_41 S0 S1 S2 S3 S4 κ Q else I h 0) ?_ ?_
  · exact ⟨_, sX11_judged_0 hX hR m0 q0 m1 q1 m2 q2 m3 q3 m4 q4 (hs 41 (by simp)), h0⟩
  · intro h hh κ hκ
    simp only [List.mem_cons, List.not_mem_nil, or_false] at hh
    rcases hh with rfl
    · exact sX11_judged_41 hX hR m0 q0 m1 q1 m2 q2 m3 q3 m4 q4 (hκ 41 (by simp))
  · intro h hh n st L w hi
    simp only [List.mem_cons, List.not_mem_nil, or_false] at hh
    rcases hh with rfl
    · exact g41 n st L w hi
theorem lpX11_seatsGuest {dd : Nat} {S0 : bt_Sp} {d0 : Nat} {S1 : bt_Sp} {d1 : Nat} {S2 : bt_Sp} {d2 : Nat} (m0 : bt_Met yX11_chooses cX11_chooses 7 (some .int) d0 [2] S0) (q0 : d0 + 1 ≤ dd) (m1 : bt_Met yX11_moodBy cX11_moodBy 7 (some .int) d1 [2, 0, 0] S1) (q1 : d1 + 1 ≤ dd) (m2 : bt_Met yX11_seatsGuest cX11_seatsGuest 5 none d2 [2, 0] S2) (q2 : d2 + 1 ≤ dd) (Sp : bt_Sp) (hI : ∀ As w Q, bt_sig As = [2, 0] → Sp As w Q → ∃ I : Nat → Nat → bt_K, tX11_seatsGuest_0 S0 S1 S2 (fun h st L w => ∃ n, I h n st L w) Q [] (bt_loc 5 As) w ∧ (∀ n st L w, I 29 n st L w → tX11_seatsGuest_29 S0 S1 S2 (fun h st L w => ∃ m, m < n ∧ I h m st L w) Q st L w) ∧ (∀ n st L w, I 95 n st L w → tX11_seatsGuest_95 S0 S1 S2 (fun h st L w => ∃ m, m < n ∧ I h m st L w) Q st L w) ∧ (∀ n st L w, I 124 n st L w → tX11_seatsGuest_124 S0 S1 S2 (fun h st L w => ∃ m, m < n ∧ I h m st L w) Q st L w)) : bt_Met yX11_seatsGuest cX11_seatsGuest 5 none dd [2, 0] Sp := by
  refine bt_met (by decide) (by decide) (fun X As w Q hsig hSp hX hR => ?_)
  obtain ⟨I, h0, g29, g95, g124⟩ := hI As w Q hsig hSp
  have hs := bt_heads (X := X) (nL := 5) (cs := (0, 0)) [29, 95, 124] I (fun h κ => if h = 29 then tX11_seatsGuest_29 S0 S1 S2 κ Q else if h = 95 then tX11_seatsGuest_95 S0 S1 S2 κ Q else if h = 124 then tX11_seatsGuest_124 S0 S1 S2 κ Q else I h 0) ?_ ?_
  · exact ⟨_, sX11_seatsGuest_0 hX hR m0 q0 m1 q1 m2 q2 (hs 29 (by simp)) (hs 95 (by simp)) (hs 124 (by simp)), h0⟩
  · intro h hh κ hκ
    simp only [List.mem_cons, List.not_mem_nil, or_false] at hh
    rcases hh with rfl | rfl | rfl
    · exact sX11_seatsGuest_29 hX hR m0 q0 m1 q1 m2 q2 (hκ 29 (by simp)) (hκ 95 (by simp)) (hκ 124 (by simp))
    · exact sX11_seatsGuest_95 hX hR m0 q0 m1 q1 m2 q2 (hκ 29 (by simp)) (hκ 95 (by simp)) (hκ 124 (by simp))
    · exact sX11_seatsGuest_124 hX hR m0 q0 m1 q1 m2 q2 (hκ 29 (by simp)) (hκ 95 (by simp)) (hκ 124 (by simp))
  · intro h hh n st L w hi
    simp only [List.mem_cons, List.not_mem_nil, or_false] at hh
    rcases hh with rfl | rfl | rfl
    · exact g29 n st L w hi
    · exact g95 n st L w hi
    · exact g124 n st L w hi
theorem lpX11_show {dd : Nat} {S0 : bt_Sp} {d0 : Nat} {S1 : bt_Sp} {d1 : Nat} {S2 : bt_Sp} {d2 : Nat} (m0 : bt_Met yX11_within cX11_within 3 (some .boolean) d0 [0, 0, 0] S0) (q0 : d0 + 1 ≤ dd) (m1 : bt_Met yX11_laysWorths cX11_laysWorths 3 none d1 [2] S1) (q1 : d1 + 1 ≤ dd) (m2 : bt_Met yX11_seatsGuest cX11_seatsGuest 5 none d2 [2, 0] S2) (q2 : d2 + 1 ≤ dd) (Sp : bt_Sp) (hI : ∀ As w Q, bt_sig As = [2, 0] → Sp As w Q → ∃ I : Nat → Nat → bt_K, tX11_show_0 S0 S1 S2 (fun h st L w => ∃ n, I h n st L w) Q [] (bt_loc 3 As) w ∧ (∀ n st L w, I 29 n st L w → tX11_show_29 S0 S1 S2 (fun h st L w => ∃ m, m < n ∧ I h m st L w) Q st L w)) : bt_Met yX11_show cX11_show 3 (some .int) dd [2, 0] Sp := by
  refine bt_met (by decide) (by decide) (fun X As w Q hsig hSp hX hR => ?_)
  obtain ⟨I, h0, g29⟩ := hI As w Q hsig hSp
  have hs := bt_heads (X := X) (nL := 3) (cs := (0, 0)) [29] I (fun h κ => if h = 29 then tX11_show_29 S0 S1 S2 κ Q else I h 0) ?_ ?_
  · exact ⟨_, sX11_show_0 hX hR m0 q0 m1 q1 m2 q2 (hs 29 (by simp)), h0⟩
  · intro h hh κ hκ
    simp only [List.mem_cons, List.not_mem_nil, or_false] at hh
    rcases hh with rfl
    · exact sX11_show_29 hX hR m0 q0 m1 q1 m2 q2 (hκ 29 (by simp))
  · intro h hh n st L w hi
    simp only [List.mem_cons, List.not_mem_nil, or_false] at hh
    rcases hh with rfl
    · exact g29 n st L w hi
theorem lpX11_choiceOf {dd : Nat} {S0 : bt_Sp} {d0 : Nat} {S1 : bt_Sp} {d1 : Nat} (m0 : bt_Met yX11_guestsIn cX11_guestsIn 4 (some .int) d0 [2, 0] S0) (q0 : d0 + 1 ≤ dd) (m1 : bt_Met yX11_worthBy cX11_worthBy 6 (some .int) d1 [2, 0, 0] S1) (q1 : d1 + 1 ≤ dd) (Sp : bt_Sp) (hI : ∀ As w Q, bt_sig As = [2, 0] → Sp As w Q → ∃ I : Nat → Nat → bt_K, tX11_choiceOf_0 S0 S1 (fun h st L w => ∃ n, I h n st L w) Q [] (bt_loc 6 As) w ∧ (∀ n st L w, I 7 n st L w → tX11_choiceOf_7 S0 S1 (fun h st L w => ∃ m, m < n ∧ I h m st L w) Q st L w)) : bt_Met yX11_choiceOf cX11_choiceOf 6 (some .int) dd [2, 0] Sp := by
  refine bt_met (by decide) (by decide) (fun X As w Q hsig hSp hX hR => ?_)
  obtain ⟨I, h0, g7⟩ := hI As w Q hsig hSp
  have hs := bt_heads (X := X) (nL := 6) (cs := (0, 0)) [7] I (fun h κ => if h = 7 then tX11_choiceOf_7 S0 S1 κ Q else I h 0) ?_ ?_
  · exact ⟨_, sX11_choiceOf_0 hX hR m0 q0 m1 q1 (hs 7 (by simp)), h0⟩
  · intro h hh κ hκ
    simp only [List.mem_cons, List.not_mem_nil, or_false] at hh
    rcases hh with rfl
    · exact sX11_choiceOf_7 hX hR m0 q0 m1 q1 (hκ 7 (by simp))
  · intro h hh n st L w hi
    simp only [List.mem_cons, List.not_mem_nil, or_false] at hh
    rcases hh with rfl
    · exact g7 n st L w hi
theorem lpX11_tell {dd : Nat} {S0 : bt_Sp} {d0 : Nat} {S1 : bt_Sp} {d1 : Nat} (m0 : bt_Met yX11_isPen cX11_isPen 2 (some .boolean) d0 [2, 0] S0) (q0 : d0 + 1 ≤ dd) (m1 : bt_Met yX11_choiceOf cX11_choiceOf 6 (some .int) d1 [2, 0] S1) (q1 : d1 + 1 ≤ dd) (Sp : bt_Sp) (hI : ∀ As w Q, bt_sig As = [2, 0] → Sp As w Q → ∃ I : Nat → Nat → bt_K, tX11_tell_0 S0 S1 (fun h st L w => ∃ n, I h n st L w) Q [] (bt_loc 3 As) w ∧ (∀ n st L w, I 42 n st L w → tX11_tell_42 S0 S1 (fun h st L w => ∃ m, m < n ∧ I h m st L w) Q st L w)) : bt_Met yX11_tell cX11_tell 3 (some .boolean) dd [2, 0] Sp := by
  refine bt_met (by decide) (by decide) (fun X As w Q hsig hSp hX hR => ?_)
  obtain ⟨I, h0, g42⟩ := hI As w Q hsig hSp
  have hs := bt_heads (X := X) (nL := 3) (cs := (0, 0)) [42] I (fun h κ => if h = 42 then tX11_tell_42 S0 S1 κ Q else I h 0) ?_ ?_
  · exact ⟨_, sX11_tell_0 hX hR m0 q0 m1 q1 (hs 42 (by simp)), h0⟩
  · intro h hh κ hκ
    simp only [List.mem_cons, List.not_mem_nil, or_false] at hh
    rcases hh with rfl
    · exact sX11_tell_42 hX hR m0 q0 m1 q1 (hκ 42 (by simp))
  · intro h hh n st L w hi
    simp only [List.mem_cons, List.not_mem_nil, or_false] at hh
    rcases hh with rfl
    · exact g42 n st L w hi
theorem lfX11_isFit {dd : Nat} : bt_Met yX11_isFit cX11_isFit 2 (some .boolean) dd [2, 0] (fun As w Q => tX11_isFit_0 bt_k0 Q [] (bt_loc 2 As) w) := bt_met (by decide) (by decide) (fun X As w Q _ hSp hX hR => ⟨_, sX11_isFit_0 hX hR, hSp⟩)
theorem lpX11_sets {dd : Nat} {S0 : bt_Sp} {d0 : Nat} {S1 : bt_Sp} {d1 : Nat} {S2 : bt_Sp} {d2 : Nat} (m0 : bt_Met yX11_within cX11_within 3 (some .boolean) d0 [0, 0, 0] S0) (q0 : d0 + 1 ≤ dd) (m1 : bt_Met yX11_isFit cX11_isFit 2 (some .boolean) d1 [2, 0] S1) (q1 : d1 + 1 ≤ dd) (m2 : bt_Met yX11_bits cX11_bits 3 (some .int) d2 [0] S2) (q2 : d2 + 1 ≤ dd) (Sp : bt_Sp) (hI : ∀ As w Q, bt_sig As = [2, 0] → Sp As w Q → ∃ I : Nat → Nat → bt_K, tX11_sets_0 S0 S1 S2 (fun h st L w => ∃ n, I h n st L w) Q [] (bt_loc 7 As) w ∧ (∀ n st L w, I 30 n st L w → tX11_sets_30 S0 S1 S2 (fun h st L w => ∃ m, m < n ∧ I h m st L w) Q st L w)) : bt_Met yX11_sets cX11_sets 7 (some .int) dd [2, 0] Sp := by
  refine bt_met (by decide) (by decide) (fun X As w Q hsig hSp hX hR => ?_)
  obtain ⟨I, h0, g30⟩ := hI As w Q hsig hSp
  have hs := bt_heads (X := X) (nL := 7) (cs := (0, 0)) [30] I (fun h κ => if h = 30 then tX11_sets_30 S0 S1 S2 κ Q else I h 0) ?_ ?_
  · exact ⟨_, sX11_sets_0 hX hR m0 q0 m1 q1 m2 q2 (hs 30 (by simp)), h0⟩
  · intro h hh κ hκ
    simp only [List.mem_cons, List.not_mem_nil, or_false] at hh
    rcases hh with rfl
    · exact sX11_sets_30 hX hR m0 q0 m1 q1 m2 q2 (hκ 30 (by simp))
  · intro h hh n st L w hi
    simp only [List.mem_cons, List.not_mem_nil, or_false] at hh
    rcases hh with rfl
    · exact g30 n st L w hi
theorem lpX11_next {dd : Nat} {S0 : bt_Sp} {d0 : Nat} {S1 : bt_Sp} {d1 : Nat} {S2 : bt_Sp} {d2 : Nat} (m0 : bt_Met yX11_bits cX11_bits 3 (some .int) d0 [0] S0) (q0 : d0 + 1 ≤ dd) (m1 : bt_Met yX11_isFit cX11_isFit 2 (some .boolean) d1 [2, 0] S1) (q1 : d1 + 1 ≤ dd) (m2 : bt_Met yX11_seeBy cX11_seeBy 5 (some .int) d2 [2, 0, 0, 0] S2) (q2 : d2 + 1 ≤ dd) (hmx : 1 ≤ dd) (Sp : bt_Sp) (hI : ∀ As w Q, bt_sig As = [2] → Sp As w Q → ∃ I : Nat → Nat → bt_K, tX11_next_0 S0 S1 S2 (fun h st L w => ∃ n, I h n st L w) Q [] (bt_loc 7 As) w ∧ (∀ n st L w, I 22 n st L w → tX11_next_22 S0 S1 S2 (fun h st L w => ∃ m, m < n ∧ I h m st L w) Q st L w) ∧ (∀ n st L w, I 39 n st L w → tX11_next_39 S0 S1 S2 (fun h st L w => ∃ m, m < n ∧ I h m st L w) Q st L w)) : bt_Met yX11_next cX11_next 7 (some .int) dd [2] Sp := by
  refine bt_met (by decide) (by decide) (fun X As w Q hsig hSp hX hR => ?_)
  obtain ⟨I, h0, g22, g39⟩ := hI As w Q hsig hSp
  have hs := bt_heads (X := X) (nL := 7) (cs := (0, 0)) [22, 39] I (fun h κ => if h = 22 then tX11_next_22 S0 S1 S2 κ Q else if h = 39 then tX11_next_39 S0 S1 S2 κ Q else I h 0) ?_ ?_
  · exact ⟨_, sX11_next_0 hX hR m0 q0 m1 q1 m2 q2 (hs 22 (by simp)) (hs 39 (by simp)) hmx, h0⟩
  · intro h hh κ hκ
    simp only [List.mem_cons, List.not_mem_nil, or_false] at hh
    rcases hh with rfl | rfl
    · exact sX11_next_22 hX hR m0 q0 m1 q1 m2 q2 (hκ 22 (by simp)) (hκ 39 (by simp)) hmx
    · exact sX11_next_39 hX hR m0 q0 m1 q1 m2 q2 (hκ 22 (by simp)) (hκ 39 (by simp)) hmx
  · intro h hh n st L w hi
    simp only [List.mem_cons, List.not_mem_nil, or_false] at hh
    rcases hh with rfl | rfl
    · exact g22 n st L w hi
    · exact g39 n st L w hi
theorem lpX11_parts {dd : Nat} {S0 : bt_Sp} {d0 : Nat} (m0 : bt_Met yX11_parts cX11_parts 5 none d0 [2, 0, 0] S0) (q0 : d0 + 1 ≤ dd) (Sp : bt_Sp) (hI : ∀ As w Q, bt_sig As = [2, 0, 0] → Sp As w Q → ∃ I : Nat → Nat → bt_K, tX11_parts_0 S0 (fun h st L w => ∃ n, I h n st L w) Q [] (bt_loc 5 As) w ∧ (∀ n st L w, I 33 n st L w → tX11_parts_33 S0 (fun h st L w => ∃ m, m < n ∧ I h m st L w) Q st L w) ∧ (∀ n st L w, I 59 n st L w → tX11_parts_59 S0 (fun h st L w => ∃ m, m < n ∧ I h m st L w) Q st L w)) : bt_Met yX11_parts cX11_parts 5 none dd [2, 0, 0] Sp := by
  refine bt_met (by decide) (by decide) (fun X As w Q hsig hSp hX hR => ?_)
  obtain ⟨I, h0, g33, g59⟩ := hI As w Q hsig hSp
  have hs := bt_heads (X := X) (nL := 5) (cs := (0, 0)) [33, 59] I (fun h κ => if h = 33 then tX11_parts_33 S0 κ Q else if h = 59 then tX11_parts_59 S0 κ Q else I h 0) ?_ ?_
  · exact ⟨_, sX11_parts_0 hX hR m0 q0 (hs 33 (by simp)) (hs 59 (by simp)), h0⟩
  · intro h hh κ hκ
    simp only [List.mem_cons, List.not_mem_nil, or_false] at hh
    rcases hh with rfl | rfl
    · exact sX11_parts_33 hX hR m0 q0 (hκ 33 (by simp)) (hκ 59 (by simp))
    · exact sX11_parts_59 hX hR m0 q0 (hκ 33 (by simp)) (hκ 59 (by simp))
  · intro h hh n st L w hi
    simp only [List.mem_cons, List.not_mem_nil, or_false] at hh
    rcases hh with rfl | rfl
    · exact g33 n st L w hi
    · exact g59 n st L w hi
theorem lfX11_apart {dd : Nat} {S0 : bt_Sp} {d0 : Nat} {S1 : bt_Sp} {d1 : Nat} (m0 : bt_Met yX11_isGuest cX11_isGuest 2 (some .boolean) d0 [2, 0] S0) (q0 : d0 + 1 ≤ dd) (m1 : bt_Met yX11_parts cX11_parts 5 none d1 [2, 0, 0] S1) (q1 : d1 + 1 ≤ dd) : bt_Met yX11_apart cX11_apart 2 (some .int) dd [2, 0] (fun As w Q => tX11_apart_0 S0 S1 bt_k0 Q [] (bt_loc 2 As) w) := bt_met (by decide) (by decide) (fun X As w Q _ hSp hX hR => ⟨_, sX11_apart_0 hX hR m0 q0 m1 q1, hSp⟩)
theorem lpX11_tyres {dd : Nat} {S0 : bt_Sp} {d0 : Nat} {S1 : bt_Sp} {d1 : Nat} {S2 : bt_Sp} {d2 : Nat} {S3 : bt_Sp} {d3 : Nat} {S4 : bt_Sp} {d4 : Nat} {S5 : bt_Sp} {d5 : Nat} (m0 : bt_Met yX11_copies cX11_copies 5 none d0 [2, 0, 2, 0] S0) (q0 : d0 + 1 ≤ dd) (m1 : bt_Met yX11_allGuests cX11_allGuests 1 (some .int) d1 [2] S1) (q1 : d1 + 1 ≤ dd) (m2 : bt_Met yX11_bits cX11_bits 3 (some .int) d2 [0] S2) (q2 : d2 + 1 ≤ dd) (m3 : bt_Met yX11_moodWithTyre cX11_moodWithTyre 2 (some .int) d3 [2, 0] S3) (q3 : d3 + 1 ≤ dd) (m4 : bt_Met yX11_passes cX11_passes 4 (some .int) d4 [2, 0] S4) (q4 : d4 + 1 ≤ dd) (m5 : bt_Met yX11_pacing cX11_pacing 3 (some .int) d5 [2] S5) (q5 : d5 + 1 ≤ dd) (Sp : bt_Sp) (hI : ∀ As w Q, bt_sig As = [2] → Sp As w Q → ∃ I : Nat → Nat → bt_K, tX11_tyres_0 S0 S1 S2 S3 S4 S5 (fun h st L w => ∃ n, I h n st L w) Q [] (bt_loc 4 As) w ∧ (∀ n st L w, I 22 n st L w → tX11_tyres_22 S0 S1 S2 S3 S4 S5 (fun h st L w => ∃ m, m < n ∧ I h m st L w) Q st L w) ∧ (∀ n st L w, I 50 n st L w → tX11_tyres_50 S0 S1 S2 S3 S4 S5 (fun h st L w => ∃ m, m < n ∧ I h m st L w) Q st L w)) : bt_Met yX11_tyres cX11_tyres 4 (some .int) dd [2] Sp := by
  refine bt_met (by decide) (by decide) (fun X As w Q hsig hSp hX hR => ?_)
  obtain ⟨I, h0, g22, g50⟩ := hI As w Q hsig hSp
  have hs := bt_heads (X := X) (nL := 4) (cs := (0, 0)) [22, 50] I (fun h κ => if h = 22 then tX11_tyres_22 S0 S1 S2 S3 S4 S5 κ Q else if h = 50 then tX11_tyres_50 S0 S1 S2 S3 S4 S5 κ Q else I h 0) ?_ ?_
  · exact ⟨_, sX11_tyres_0 hX hR m0 q0 m1 q1 m2 q2 m3 q3 m4 q4 m5 q5 (hs 22 (by simp)) (hs 50 (by simp)), h0⟩
  · intro h hh κ hκ
    simp only [List.mem_cons, List.not_mem_nil, or_false] at hh
    rcases hh with rfl | rfl
    · exact sX11_tyres_22 hX hR m0 q0 m1 q1 m2 q2 m3 q3 m4 q4 m5 q5 (hκ 22 (by simp)) (hκ 50 (by simp))
    · exact sX11_tyres_50 hX hR m0 q0 m1 q1 m2 q2 m3 q3 m4 q4 m5 q5 (hκ 22 (by simp)) (hκ 50 (by simp))
  · intro h hh n st L w hi
    simp only [List.mem_cons, List.not_mem_nil, or_false] at hh
    rcases hh with rfl | rfl
    · exact g22 n st L w hi
    · exact g50 n st L w hi
theorem lpX11_laysWays {dd : Nat} (hmx : 1 ≤ dd) (Sp : bt_Sp) (hI : ∀ As w Q, bt_sig As = [2] → Sp As w Q → ∃ I : Nat → Nat → bt_K, tX11_laysWays_0 (fun h st L w => ∃ n, I h n st L w) Q [] (bt_loc 3 As) w ∧ (∀ n st L w, I 2 n st L w → tX11_laysWays_2 (fun h st L w => ∃ m, m < n ∧ I h m st L w) Q st L w) ∧ (∀ n st L w, I 58 n st L w → tX11_laysWays_58 (fun h st L w => ∃ m, m < n ∧ I h m st L w) Q st L w) ∧ (∀ n st L w, I 66 n st L w → tX11_laysWays_66 (fun h st L w => ∃ m, m < n ∧ I h m st L w) Q st L w)) : bt_Met yX11_laysWays cX11_laysWays 3 none dd [2] Sp := by
  refine bt_met (by decide) (by decide) (fun X As w Q hsig hSp hX hR => ?_)
  obtain ⟨I, h0, g2, g58, g66⟩ := hI As w Q hsig hSp
  have hs := bt_heads (X := X) (nL := 3) (cs := (0, 0)) [2, 58, 66] I (fun h κ => if h = 2 then tX11_laysWays_2 κ Q else if h = 58 then tX11_laysWays_58 κ Q else if h = 66 then tX11_laysWays_66 κ Q else I h 0) ?_ ?_
  · exact ⟨_, sX11_laysWays_0 hX hR (hs 2 (by simp)) (hs 58 (by simp)) (hs 66 (by simp)) hmx, h0⟩
  · intro h hh κ hκ
    simp only [List.mem_cons, List.not_mem_nil, or_false] at hh
    rcases hh with rfl | rfl | rfl
    · exact sX11_laysWays_2 hX hR (hκ 2 (by simp)) (hκ 58 (by simp)) (hκ 66 (by simp)) hmx
    · exact sX11_laysWays_58 hX hR (hκ 2 (by simp)) (hκ 58 (by simp)) (hκ 66 (by simp)) hmx
    · exact sX11_laysWays_66 hX hR (hκ 2 (by simp)) (hκ 58 (by simp)) (hκ 66 (by simp)) hmx
  · intro h hh n st L w hi
    simp only [List.mem_cons, List.not_mem_nil, or_false] at hh
    rcases hh with rfl | rfl | rfl
    · exact g2 n st L w hi
    · exact g58 n st L w hi
    · exact g66 n st L w hi
theorem lpX11_goesPast {dd : Nat} {S0 : bt_Sp} {d0 : Nat} (m0 : bt_Met yX11_goesPast cX11_goesPast 6 none d0 [2, 0, 0, 0, 0] S0) (q0 : d0 + 1 ≤ dd) (Sp : bt_Sp) (hI : ∀ As w Q, bt_sig As = [2, 0, 0, 0, 0] → Sp As w Q → ∃ I : Nat → Nat → bt_K, tX11_goesPast_0 S0 (fun h st L w => ∃ n, I h n st L w) Q [] (bt_loc 6 As) w ∧ (∀ n st L w, I 35 n st L w → tX11_goesPast_35 S0 (fun h st L w => ∃ m, m < n ∧ I h m st L w) Q st L w) ∧ (∀ n st L w, I 65 n st L w → tX11_goesPast_65 S0 (fun h st L w => ∃ m, m < n ∧ I h m st L w) Q st L w)) : bt_Met yX11_goesPast cX11_goesPast 6 none dd [2, 0, 0, 0, 0] Sp := by
  refine bt_met (by decide) (by decide) (fun X As w Q hsig hSp hX hR => ?_)
  obtain ⟨I, h0, g35, g65⟩ := hI As w Q hsig hSp
  have hs := bt_heads (X := X) (nL := 6) (cs := (0, 0)) [35, 65] I (fun h κ => if h = 35 then tX11_goesPast_35 S0 κ Q else if h = 65 then tX11_goesPast_65 S0 κ Q else I h 0) ?_ ?_
  · exact ⟨_, sX11_goesPast_0 hX hR m0 q0 (hs 35 (by simp)) (hs 65 (by simp)), h0⟩
  · intro h hh κ hκ
    simp only [List.mem_cons, List.not_mem_nil, or_false] at hh
    rcases hh with rfl | rfl
    · exact sX11_goesPast_35 hX hR m0 q0 (hκ 35 (by simp)) (hκ 65 (by simp))
    · exact sX11_goesPast_65 hX hR m0 q0 (hκ 35 (by simp)) (hκ 65 (by simp))
  · intro h hh n st L w hi
    simp only [List.mem_cons, List.not_mem_nil, or_false] at hh
    rcases hh with rfl | rfl
    · exact g35 n st L w hi
    · exact g65 n st L w hi
theorem lpX11_walk {dd : Nat} {S0 : bt_Sp} {d0 : Nat} {S1 : bt_Sp} {d1 : Nat} {S2 : bt_Sp} {d2 : Nat} {S3 : bt_Sp} {d3 : Nat} (m0 : bt_Met yX11_isPen cX11_isPen 2 (some .boolean) d0 [2, 0] S0) (q0 : d0 + 1 ≤ dd) (m1 : bt_Met yX11_laysWays cX11_laysWays 3 none d1 [2] S1) (q1 : d1 + 1 ≤ dd) (m2 : bt_Met yX11_guestsIn cX11_guestsIn 4 (some .int) d2 [2, 0] S2) (q2 : d2 + 1 ≤ dd) (m3 : bt_Met yX11_goesPast cX11_goesPast 6 none d3 [2, 0, 0, 0, 0] S3) (q3 : d3 + 1 ≤ dd) (Sp : bt_Sp) (hI : ∀ As w Q, bt_sig As = [2, 0, 0] → Sp As w Q → ∃ I : Nat → Nat → bt_K, tX11_walk_0 S0 S1 S2 S3 (fun h st L w => ∃ n, I h n st L w) Q [] (bt_loc 5 As) w ∧ (∀ n st L w, I 28 n st L w → tX11_walk_28 S0 S1 S2 S3 (fun h st L w => ∃ m, m < n ∧ I h m st L w) Q st L w)) : bt_Met yX11_walk cX11_walk 5 (some .int) dd [2, 0, 0] Sp := by
  refine bt_met (by decide) (by decide) (fun X As w Q hsig hSp hX hR => ?_)
  obtain ⟨I, h0, g28⟩ := hI As w Q hsig hSp
  have hs := bt_heads (X := X) (nL := 5) (cs := (0, 0)) [28] I (fun h κ => if h = 28 then tX11_walk_28 S0 S1 S2 S3 κ Q else I h 0) ?_ ?_
  · exact ⟨_, sX11_walk_0 hX hR m0 q0 m1 q1 m2 q2 m3 q3 (hs 28 (by simp)), h0⟩
  · intro h hh κ hκ
    simp only [List.mem_cons, List.not_mem_nil, or_false] at hh
    rcases hh with rfl
    · exact sX11_walk_28 hX hR m0 q0 m1 q1 m2 q2 m3 q3 (hκ 28 (by simp))
  · intro h hh n st L w hi
    simp only [List.mem_cons, List.not_mem_nil, or_false] at hh
    rcases hh with rfl
    · exact g28 n st L w hi
theorem lfX11_gets {dd : Nat} : bt_Met yX11_gets cX11_gets 4 (some .int) dd [0, 0, 0, 0] (fun As w Q => tX11_gets_0 bt_k0 Q [] (bt_loc 4 As) w) := bt_met (by decide) (by decide) (fun X As w Q _ hSp hX hR => ⟨_, sX11_gets_0 hX hR, hSp⟩)
theorem lpX11_isRest {dd : Nat} {S0 : bt_Sp} {d0 : Nat} (m0 : bt_Met yX11_gets cX11_gets 4 (some .int) d0 [0, 0, 0, 0] S0) (q0 : d0 + 1 ≤ dd) (Sp : bt_Sp) (hI : ∀ As w Q, bt_sig As = [0, 0, 0, 0] → Sp As w Q → ∃ I : Nat → Nat → bt_K, tX11_isRest_0 S0 (fun h st L w => ∃ n, I h n st L w) Q [] (bt_loc 5 As) w ∧ (∀ n st L w, I 3 n st L w → tX11_isRest_3 S0 (fun h st L w => ∃ m, m < n ∧ I h m st L w) Q st L w)) : bt_Met yX11_isRest cX11_isRest 5 (some .boolean) dd [0, 0, 0, 0] Sp := by
  refine bt_met (by decide) (by decide) (fun X As w Q hsig hSp hX hR => ?_)
  obtain ⟨I, h0, g3⟩ := hI As w Q hsig hSp
  have hs := bt_heads (X := X) (nL := 5) (cs := (0, 0)) [3] I (fun h κ => if h = 3 then tX11_isRest_3 S0 κ Q else I h 0) ?_ ?_
  · exact ⟨_, sX11_isRest_0 hX hR m0 q0 (hs 3 (by simp)), h0⟩
  · intro h hh κ hκ
    simp only [List.mem_cons, List.not_mem_nil, or_false] at hh
    rcases hh with rfl
    · exact sX11_isRest_3 hX hR m0 q0 (hκ 3 (by simp))
  · intro h hh n st L w hi
    simp only [List.mem_cons, List.not_mem_nil, or_false] at hh
    rcases hh with rfl
    · exact g3 n st L w hi
theorem lpX11_rests {dd : Nat} {S0 : bt_Sp} {d0 : Nat} {S1 : bt_Sp} {d1 : Nat} (m0 : bt_Met yX11_within cX11_within 3 (some .boolean) d0 [0, 0, 0] S0) (q0 : d0 + 1 ≤ dd) (m1 : bt_Met yX11_isRest cX11_isRest 5 (some .boolean) d1 [0, 0, 0, 0] S1) (q1 : d1 + 1 ≤ dd) (Sp : bt_Sp) (hI : ∀ As w Q, bt_sig As = [2, 0, 0, 0] → Sp As w Q → ∃ I : Nat → Nat → bt_K, tX11_rests_0 S0 S1 (fun h st L w => ∃ n, I h n st L w) Q [] (bt_loc 7 As) w ∧ (∀ n st L w, I 50 n st L w → tX11_rests_50 S0 S1 (fun h st L w => ∃ m, m < n ∧ I h m st L w) Q st L w) ∧ (∀ n st L w, I 60 n st L w → tX11_rests_60 S0 S1 (fun h st L w => ∃ m, m < n ∧ I h m st L w) Q st L w)) : bt_Met yX11_rests cX11_rests 7 (some .int) dd [2, 0, 0, 0] Sp := by
  refine bt_met (by decide) (by decide) (fun X As w Q hsig hSp hX hR => ?_)
  obtain ⟨I, h0, g50, g60⟩ := hI As w Q hsig hSp
  have hs := bt_heads (X := X) (nL := 7) (cs := (0, 0)) [50, 60] I (fun h κ => if h = 50 then tX11_rests_50 S0 S1 κ Q else if h = 60 then tX11_rests_60 S0 S1 κ Q else I h 0) ?_ ?_
  · exact ⟨_, sX11_rests_0 hX hR m0 q0 m1 q1 (hs 50 (by simp)) (hs 60 (by simp)), h0⟩
  · intro h hh κ hκ
    simp only [List.mem_cons, List.not_mem_nil, or_false] at hh
    rcases hh with rfl | rfl
    · exact sX11_rests_50 hX hR m0 q0 m1 q1 (hκ 50 (by simp)) (hκ 60 (by simp))
    · exact sX11_rests_60 hX hR m0 q0 m1 q1 (hκ 50 (by simp)) (hκ 60 (by simp))
  · intro h hh n st L w hi
    simp only [List.mem_cons, List.not_mem_nil, or_false] at hh
    rcases hh with rfl | rfl
    · exact g50 n st L w hi
    · exact g60 n st L w hi
theorem lpX11_pacesIn {dd : Nat} {S0 : bt_Sp} {d0 : Nat} {S1 : bt_Sp} {d1 : Nat} {S2 : bt_Sp} {d2 : Nat} {S3 : bt_Sp} {d3 : Nat} (m0 : bt_Met yX11_copies cX11_copies 5 none d0 [2, 0, 2, 0] S0) (q0 : d0 + 1 ≤ dd) (m1 : bt_Met yX11_passes cX11_passes 4 (some .int) d1 [2, 0] S1) (q1 : d1 + 1 ≤ dd) (m2 : bt_Met yX11_pacing cX11_pacing 3 (some .int) d2 [2] S2) (q2 : d2 + 1 ≤ dd) (m3 : bt_Met yX11_pacesIn cX11_pacesIn 10 (some .long) d3 [2, 0, 0, 0] S3) (q3 : d3 + 1 ≤ dd) (Sp : bt_Sp) (hI : ∀ As w Q, bt_sig As = [2, 0, 0, 0] → Sp As w Q → ∃ I : Nat → Nat → bt_K, tX11_pacesIn_0 S0 S1 S2 S3 (fun h st L w => ∃ n, I h n st L w) Q [] (bt_loc 10 As) w ∧ (∀ n st L w, I 15 n st L w → tX11_pacesIn_15 S0 S1 S2 S3 (fun h st L w => ∃ m, m < n ∧ I h m st L w) Q st L w) ∧ (∀ n st L w, I 54 n st L w → tX11_pacesIn_54 S0 S1 S2 S3 (fun h st L w => ∃ m, m < n ∧ I h m st L w) Q st L w)) : bt_Met yX11_pacesIn cX11_pacesIn 10 (some .long) dd [2, 0, 0, 0] Sp := by
  refine bt_met (by decide) (by decide) (fun X As w Q hsig hSp hX hR => ?_)
  obtain ⟨I, h0, g15, g54⟩ := hI As w Q hsig hSp
  have hs := bt_heads (X := X) (nL := 10) (cs := (0, 0)) [15, 54] I (fun h κ => if h = 15 then tX11_pacesIn_15 S0 S1 S2 S3 κ Q else if h = 54 then tX11_pacesIn_54 S0 S1 S2 S3 κ Q else I h 0) ?_ ?_
  · exact ⟨_, sX11_pacesIn_0 hX hR m0 q0 m1 q1 m2 q2 m3 q3 (hs 15 (by simp)) (hs 54 (by simp)), h0⟩
  · intro h hh κ hκ
    simp only [List.mem_cons, List.not_mem_nil, or_false] at hh
    rcases hh with rfl | rfl
    · exact sX11_pacesIn_15 hX hR m0 q0 m1 q1 m2 q2 m3 q3 (hκ 15 (by simp)) (hκ 54 (by simp))
    · exact sX11_pacesIn_54 hX hR m0 q0 m1 q1 m2 q2 m3 q3 (hκ 15 (by simp)) (hκ 54 (by simp))
  · intro h hh n st L w hi
    simp only [List.mem_cons, List.not_mem_nil, or_false] at hh
    rcases hh with rfl | rfl
    · exact g15 n st L w hi
    · exact g54 n st L w hi
theorem lpX11_allOf {dd : Nat} (Sp : bt_Sp) (hI : ∀ As w Q, bt_sig As = [2, 0] → Sp As w Q → ∃ I : Nat → Nat → bt_K, tX11_allOf_0 (fun h st L w => ∃ n, I h n st L w) Q [] (bt_loc 5 As) w ∧ (∀ n st L w, I 5 n st L w → tX11_allOf_5 (fun h st L w => ∃ m, m < n ∧ I h m st L w) Q st L w)) : bt_Met yX11_allOf cX11_allOf 5 (some .long) dd [2, 0] Sp := by
  refine bt_met (by decide) (by decide) (fun X As w Q hsig hSp hX hR => ?_)
  obtain ⟨I, h0, g5⟩ := hI As w Q hsig hSp
  have hs := bt_heads (X := X) (nL := 5) (cs := (0, 0)) [5] I (fun h κ => if h = 5 then tX11_allOf_5 κ Q else I h 0) ?_ ?_
  · exact ⟨_, sX11_allOf_0 hX hR (hs 5 (by simp)), h0⟩
  · intro h hh κ hκ
    simp only [List.mem_cons, List.not_mem_nil, or_false] at hh
    rcases hh with rfl
    · exact sX11_allOf_5 hX hR (hκ 5 (by simp))
  · intro h hh n st L w hi
    simp only [List.mem_cons, List.not_mem_nil, or_false] at hh
    rcases hh with rfl
    · exact g5 n st L w hi
theorem lfX11_rain {dd : Nat} {S0 : bt_Sp} {d0 : Nat} {S1 : bt_Sp} {d1 : Nat} {S2 : bt_Sp} {d2 : Nat} {S3 : bt_Sp} {d3 : Nat} {S4 : bt_Sp} {d4 : Nat} (m0 : bt_Met yX11_isGuest cX11_isGuest 2 (some .boolean) d0 [2, 0] S0) (q0 : d0 + 1 ≤ dd) (m1 : bt_Met yX11_within cX11_within 3 (some .boolean) d1 [0, 0, 0] S1) (q1 : d1 + 1 ≤ dd) (m2 : bt_Met yX11_allGuests cX11_allGuests 1 (some .int) d2 [2] S2) (q2 : d2 + 1 ≤ dd) (m3 : bt_Met yX11_pacesIn cX11_pacesIn 10 (some .long) d3 [2, 0, 0, 0] S3) (q3 : d3 + 1 ≤ dd) (m4 : bt_Met yX11_allOf cX11_allOf 5 (some .long) d4 [2, 0] S4) (q4 : d4 + 1 ≤ dd) : bt_Met yX11_rain cX11_rain 3 (some .int) dd [2, 0, 0] (fun As w Q => tX11_rain_0 S0 S1 S2 S3 S4 bt_k0 Q [] (bt_loc 3 As) w) := bt_met (by decide) (by decide) (fun X As w Q _ hSp hX hR => ⟨_, sX11_rain_0 hX hR m0 q0 m1 q1 m2 q2 m3 q3 m4 q4, hSp⟩)
theorem lpX11_first {dd : Nat} {S0 : bt_Sp} {d0 : Nat} {S1 : bt_Sp} {d1 : Nat} {S2 : bt_Sp} {d2 : Nat} {S3 : bt_Sp} {d3 : Nat} {S4 : bt_Sp} {d4 : Nat} (m0 : bt_Met yX11_within cX11_within 3 (some .boolean) d0 [0, 0, 0] S0) (q0 : d0 + 1 ≤ dd) (m1 : bt_Met yX11_copies cX11_copies 5 none d1 [2, 0, 2, 0] S1) (q1 : d1 + 1 ≤ dd) (m2 : bt_Met yX11_moodWithTyre cX11_moodWithTyre 2 (some .int) d2 [2, 0] S2) (q2 : d2 + 1 ≤ dd) (m3 : bt_Met yX11_allGuests cX11_allGuests 1 (some .int) d3 [2] S3) (q3 : d3 + 1 ≤ dd) (m4 : bt_Met yX11_pacesIn cX11_pacesIn 10 (some .long) d4 [2, 0, 0, 0] S4) (q4 : d4 + 1 ≤ dd) (Sp : bt_Sp) (hI : ∀ As w Q, bt_sig As = [2, 0] → Sp As w Q → ∃ I : Nat → Nat → bt_K, tX11_first_0 S0 S1 S2 S3 S4 (fun h st L w => ∃ n, I h n st L w) Q [] (bt_loc 8 As) w ∧ (∀ n st L w, I 37 n st L w → tX11_first_37 S0 S1 S2 S3 S4 (fun h st L w => ∃ m, m < n ∧ I h m st L w) Q st L w)) : bt_Met yX11_first cX11_first 8 (some .int) dd [2, 0] Sp := by
  refine bt_met (by decide) (by decide) (fun X As w Q hsig hSp hX hR => ?_)
  obtain ⟨I, h0, g37⟩ := hI As w Q hsig hSp
  have hs := bt_heads (X := X) (nL := 8) (cs := (0, 0)) [37] I (fun h κ => if h = 37 then tX11_first_37 S0 S1 S2 S3 S4 κ Q else I h 0) ?_ ?_
  · exact ⟨_, sX11_first_0 hX hR m0 q0 m1 q1 m2 q2 m3 q3 m4 q4 (hs 37 (by simp)), h0⟩
  · intro h hh κ hκ
    simp only [List.mem_cons, List.not_mem_nil, or_false] at hh
    rcases hh with rfl
    · exact sX11_first_37 hX hR m0 q0 m1 q1 m2 q2 m3 q3 m4 q4 (hκ 37 (by simp))
  · intro h hh n st L w hi
    simp only [List.mem_cons, List.not_mem_nil, or_false] at hh
    rcases hh with rfl
    · exact g37 n st L w hi
theorem lfX11_draws {dd : Nat} : bt_Met yX11_draws cX11_draws 2 (some .int) dd [2, 0] (fun As w Q => tX11_draws_0 bt_k0 Q [] (bt_loc 2 As) w) := bt_met (by decide) (by decide) (fun X As w Q _ hSp hX hR => ⟨_, sX11_draws_0 hX hR, hSp⟩)
theorem lfX11_livesHour {dd : Nat} {S0 : bt_Sp} {d0 : Nat} {S1 : bt_Sp} {d1 : Nat} {S2 : bt_Sp} {d2 : Nat} (m0 : bt_Met yX11_draws cX11_draws 2 (some .int) d0 [2, 0] S0) (q0 : d0 + 1 ≤ dd) (m1 : bt_Met yX11_canMove cX11_canMove 3 (some .boolean) d1 [2, 0, 0] S1) (q1 : d1 + 1 ≤ dd) (m2 : bt_Met yX11_passes cX11_passes 4 (some .int) d2 [2, 0] S2) (q2 : d2 + 1 ≤ dd) : bt_Met yX11_livesHour cX11_livesHour 3 (some .int) dd [2] (fun As w Q => tX11_livesHour_0 S0 S1 S2 bt_k0 Q [] (bt_loc 3 As) w) := bt_met (by decide) (by decide) (fun X As w Q _ hSp hX hR => ⟨_, sX11_livesHour_0 hX hR m0 q0 m1 q1 m2 q2, hSp⟩)
theorem lpX11_sumOf {dd : Nat} (Sp : bt_Sp) (hI : ∀ As w Q, bt_sig As = [2, 0, 0] → Sp As w Q → ∃ I : Nat → Nat → bt_K, tX11_sumOf_0 (fun h st L w => ∃ n, I h n st L w) Q [] (bt_loc 5 As) w ∧ (∀ n st L w, I 5 n st L w → tX11_sumOf_5 (fun h st L w => ∃ m, m < n ∧ I h m st L w) Q st L w)) : bt_Met yX11_sumOf cX11_sumOf 5 (some .int) dd [2, 0, 0] Sp := by
  refine bt_met (by decide) (by decide) (fun X As w Q hsig hSp hX hR => ?_)
  obtain ⟨I, h0, g5⟩ := hI As w Q hsig hSp
  have hs := bt_heads (X := X) (nL := 5) (cs := (0, 0)) [5] I (fun h κ => if h = 5 then tX11_sumOf_5 κ Q else I h 0) ?_ ?_
  · exact ⟨_, sX11_sumOf_0 hX hR (hs 5 (by simp)), h0⟩
  · intro h hh κ hκ
    simp only [List.mem_cons, List.not_mem_nil, or_false] at hh
    rcases hh with rfl
    · exact sX11_sumOf_5 hX hR (hκ 5 (by simp))
  · intro h hh n st L w hi
    simp only [List.mem_cons, List.not_mem_nil, or_false] at hh
    rcases hh with rfl
    · exact g5 n st L w hi
theorem lpX11_years {dd : Nat} {S0 : bt_Sp} {d0 : Nat} {S1 : bt_Sp} {d1 : Nat} {S2 : bt_Sp} {d2 : Nat} {S3 : bt_Sp} {d3 : Nat} {S4 : bt_Sp} {d4 : Nat} {S5 : bt_Sp} {d5 : Nat} (m0 : bt_Met yX11_within cX11_within 3 (some .boolean) d0 [0, 0, 0] S0) (q0 : d0 + 1 ≤ dd) (m1 : bt_Met yX11_copies cX11_copies 5 none d1 [2, 0, 2, 0] S1) (q1 : d1 + 1 ≤ dd) (m2 : bt_Met yX11_livesHour cX11_livesHour 3 (some .int) d2 [2] S2) (q2 : d2 + 1 ≤ dd) (m3 : bt_Met yX11_pacing cX11_pacing 3 (some .int) d3 [2] S3) (q3 : d3 + 1 ≤ dd) (m4 : bt_Met yX11_bits cX11_bits 3 (some .int) d4 [0] S4) (q4 : d4 + 1 ≤ dd) (m5 : bt_Met yX11_sumOf cX11_sumOf 5 (some .int) d5 [2, 0, 0] S5) (q5 : d5 + 1 ≤ dd) (Sp : bt_Sp) (hI : ∀ As w Q, bt_sig As = [2, 0, 0, 0] → Sp As w Q → ∃ I : Nat → Nat → bt_K, tX11_years_0 S0 S1 S2 S3 S4 S5 (fun h st L w => ∃ n, I h n st L w) Q [] (bt_loc 7 As) w ∧ (∀ n st L w, I 65 n st L w → tX11_years_65 S0 S1 S2 S3 S4 S5 (fun h st L w => ∃ m, m < n ∧ I h m st L w) Q st L w)) : bt_Met yX11_years cX11_years 7 (some .int) dd [2, 0, 0, 0] Sp := by
  refine bt_met (by decide) (by decide) (fun X As w Q hsig hSp hX hR => ?_)
  obtain ⟨I, h0, g65⟩ := hI As w Q hsig hSp
  have hs := bt_heads (X := X) (nL := 7) (cs := (0, 0)) [65] I (fun h κ => if h = 65 then tX11_years_65 S0 S1 S2 S3 S4 S5 κ Q else I h 0) ?_ ?_
  · exact ⟨_, sX11_years_0 hX hR m0 q0 m1 q1 m2 q2 m3 q3 m4 q4 m5 q5 (hs 65 (by simp)), h0⟩
  · intro h hh κ hκ
    simp only [List.mem_cons, List.not_mem_nil, or_false] at hh
    rcases hh with rfl
    · exact sX11_years_65 hX hR m0 q0 m1 q1 m2 q2 m3 q3 m4 q4 m5 q5 (hκ 65 (by simp))
  · intro h hh n st L w hi
    simp only [List.mem_cons, List.not_mem_nil, or_false] at hh
    rcases hh with rfl
    · exact g65 n st L w hi
theorem lfX11_mark {dd : Nat} {S0 : bt_Sp} {d0 : Nat} {S1 : bt_Sp} {d1 : Nat} {S2 : bt_Sp} {d2 : Nat} (m0 : bt_Met yX11_within cX11_within 3 (some .boolean) d0 [0, 0, 0] S0) (q0 : d0 + 1 ≤ dd) (m1 : bt_Met yX11_laysLines cX11_laysLines 4 none d1 [2, 0, 0] S1) (q1 : d1 + 1 ≤ dd) (m2 : bt_Met yX11_copies cX11_copies 5 none d2 [2, 0, 2, 0] S2) (q2 : d2 + 1 ≤ dd) : bt_Met yX11_mark cX11_mark 5 (some .boolean) dd [2, 0, 0] (fun As w Q => tX11_mark_0 S0 S1 S2 bt_k0 Q [] (bt_loc 5 As) w) := bt_met (by decide) (by decide) (fun X As w Q _ hSp hX hR => ⟨_, sX11_mark_0 hX hR m0 q0 m1 q1 m2 q2, hSp⟩)
theorem lfX11_count {dd : Nat} {S0 : bt_Sp} {d0 : Nat} {S1 : bt_Sp} {d1 : Nat} {S2 : bt_Sp} {d2 : Nat} (m0 : bt_Met yX11_within cX11_within 3 (some .boolean) d0 [0, 0, 0] S0) (q0 : d0 + 1 ≤ dd) (m1 : bt_Met yX11_pacing cX11_pacing 3 (some .int) d1 [2] S1) (q1 : d1 + 1 ≤ dd) (m2 : bt_Met yX11_sumOf cX11_sumOf 5 (some .int) d2 [2, 0, 0] S2) (q2 : d2 + 1 ≤ dd) : bt_Met yX11_count cX11_count 2 (some .int) dd [2, 0] (fun As w Q => tX11_count_0 S0 S1 S2 bt_k0 Q [] (bt_loc 2 As) w) := bt_met (by decide) (by decide) (fun X As w Q _ hSp hX hR => ⟨_, sX11_count_0 hX hR m0 q0 m1 q1 m2 q2, hSp⟩)
theorem lfJ6_bitCount_0f7a4 {dd : Nat} : bt_Met yJ6_bitCount_0f7a4 cJ6_bitCount_0f7a4 1 (some .int) dd [0] (fun As w Q => tJ6_bitCount_0f7a4_0 bt_k0 Q [] (bt_loc 1 As) w) := bt_met (by decide) (by decide) (fun X As w Q _ hSp hX hR => ⟨_, sJ6_bitCount_0f7a4_0 hX hR, hSp⟩)
