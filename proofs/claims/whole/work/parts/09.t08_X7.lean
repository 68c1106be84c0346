def tX7_longer_0 (κ : Nat → bt_K) (Q : Option bt_V → bt_W → Prop) : bt_K := (bt_lld 0 (bt_lc (27) (bt_lmul (bt_ild 2 (bt_ic 97 (bt_isub (bt_ic 1 (bt_iadd (bt_i2l (bt_ladd (bt_lret Q)))))))))))
set_option maxRecDepth 20000 in
set_option maxHeartbeats 4000000 in
theorem sX7_longer_0 {X : bt_X} {dd : Nat} {κ : Nat → bt_K} {Q : Option bt_V → bt_W → Prop} (hX : bt_Ok X cX7_longer 3 RX7 dd) (hR : bt_Rt X (0, 0) (some .long) Q) : bt_Snd X 3 (0, 0) 0 (tX7_longer_0 κ Q) := by
  unfold tX7_longer_0
  exact (bs_lld_n hX dX7_longer_0 rfl (bs_ldc2 hX dX7_longer_1 kc_X7_35 (by decide) (bs_lmul hX dX7_longer_4 (bs_ild_n hX dX7_longer_5 rfl (bs_bipush hX dX7_longer_6 (by decide) (bs_isub hX dX7_longer_8 (bs_iconst hX dX7_longer_9 (bs_iadd hX dX7_longer_10 (bs_i2l hX dX7_longer_11 (bs_ladd hX dX7_longer_12 (bs_lret hX dX7_longer_13 hR)))))))))))
def tX7_addAll_82 (κ : Nat → bt_K) (Q : Option bt_V → bt_W → Prop) : bt_K := (bt_inc 3 (-8) (bt_kill [4, 5] (κ 3)))
set_option maxRecDepth 20000 in
set_option maxHeartbeats 4000000 in
theorem sX7_addAll_82 {X : bt_X} {dd : Nat} {κ : Nat → bt_K} {Q : Option bt_V → bt_W → Prop} (hX : bt_Ok X cX7_addAll 6 RX7 dd) (hR : bt_Rt X (0, 0) none Q) (h3 : bt_Snd X 6 (0, 0) 3 (κ 3)) : bt_Snd X 6 (0, 0) 82 (tX7_addAll_82 κ Q) := by
  unfold tX7_addAll_82
  exact (bs_iinc hX dX7_addAll_82 (by decide) (bs_goto hX dX7_addAll_85 (tgt := 3) (by decide) (bs_kill h3)))
def tX7_addAll_43 (κ : Nat → bt_K) (Q : Option bt_V → bt_W → Prop) : bt_K := (bt_ist 5 (bt_ild 5 (bt_ifeq (tX7_addAll_82 κ Q) (bt_ald 0 (bt_gfI 7 2 (bt_ic 1000 (bt_icmpge (tX7_addAll_82 κ Q) (bt_ald 0 (bt_gfR 7 0 (bt_ald 0 (bt_gfI 7 2 (bt_ild 4 (bt_i2b (bt_bas (bt_ald 0 (bt_dup (bt_gfI 7 2 (bt_ic 1 (bt_iadd (bt_pfI 7 2 (tX7_addAll_82 κ Q)))))))))))))))))))))
set_option maxRecDepth 20000 in
set_option maxHeartbeats 4000000 in
theorem sX7_addAll_43 {X : bt_X} {dd : Nat} {κ : Nat → bt_K} {Q : Option bt_V → bt_W → Prop} (hX : bt_Ok X cX7_addAll 6 RX7 dd) (hR : bt_Rt X (0, 0) none Q) (h3 : bt_Snd X 6 (0, 0) 3 (κ 3)) : bt_Snd X 6 (0, 0) 43 (tX7_addAll_43 κ Q) := by
  unfold tX7_addAll_43
  exact (bs_ist hX dX7_addAll_43 (by decide) (bs_ild hX dX7_addAll_45 (bs_ifeq hX dX7_addAll_47 (tgt := 82) (by decide) (sX7_addAll_82 hX hR h3) (bs_ald_n hX dX7_addAll_50 rfl (bs_gfI hX dX7_addAll_51 fl_X7_37 rfl (bs_sipush hX dX7_addAll_54 (by decide) (bs_icmpge hX dX7_addAll_57 (tgt := 82) (by decide) (sX7_addAll_82 hX hR h3) (bs_ald_n hX dX7_addAll_60 rfl (bs_gfR hX dX7_addAll_61 fl_X7_9 rfl (bs_ald_n hX dX7_addAll_64 rfl (bs_gfI hX dX7_addAll_65 fl_X7_37 rfl (bs_ild hX dX7_addAll_68 (bs_i2b hX dX7_addAll_70 (bs_bas hX dX7_addAll_71 (bs_ald_n hX dX7_addAll_72 rfl (bs_dup hX dX7_addAll_73 (bs_gfI hX dX7_addAll_74 fl_X7_37 rfl (bs_iconst hX dX7_addAll_77 (bs_iadd hX dX7_addAll_78 (bs_pfI hX dX7_addAll_79 fl_X7_37 rfl (fun q hq => by cases hq; rfl) (sX7_addAll_82 hX hR h3)))))))))))))))))))))
def tX7_addAll_42 (κ : Nat → bt_K) (Q : Option bt_V → bt_W → Prop) : bt_K := (bt_ic 0 (tX7_addAll_43 κ Q))
set_option maxRecDepth 20000 in
set_option maxHeartbeats 4000000 in
theorem sX7_addAll_42 {X : bt_X} {dd : Nat} {κ : Nat → bt_K} {Q : Option bt_V → bt_W → Prop} (hX : bt_Ok X cX7_addAll 6 RX7 dd) (hR : bt_Rt X (0, 0) none Q) (h3 : bt_Snd X 6 (0, 0) 3 (κ 3)) : bt_Snd X 6 (0, 0) 42 (tX7_addAll_42 κ Q) := by
  unfold tX7_addAll_42
  exact (bs_iconst hX dX7_addAll_42 (sX7_addAll_43 hX hR h3))
def tX7_addAll_38 (κ : Nat → bt_K) (Q : Option bt_V → bt_W → Prop) : bt_K := (bt_ic 1 (tX7_addAll_43 κ Q))
set_option maxRecDepth 20000 in
set_option maxHeartbeats 4000000 in
theorem sX7_addAll_38 {X : bt_X} {dd : Nat} {κ : Nat → bt_K} {Q : Option bt_V → bt_W → Prop} (hX : bt_Ok X cX7_addAll 6 RX7 dd) (hR : bt_Rt X (0, 0) none Q) (h3 : bt_Snd X 6 (0, 0) 3 (κ 3)) : bt_Snd X 6 (0, 0) 38 (tX7_addAll_38 κ Q) := by
  unfold tX7_addAll_38
  exact (bs_iconst hX dX7_addAll_38 (bs_goto hX dX7_addAll_39 (tgt := 43) (by decide) (sX7_addAll_43 hX hR h3)))
def tX7_addAll_3 (κ : Nat → bt_K) (Q : Option bt_V → bt_W → Prop) : bt_K := (bt_ild 3 (bt_iflt (bt_vret Q) (bt_lld 1 (bt_ild 3 (bt_lushr (bt_l2i (bt_ic 255 (bt_iand (bt_ist 4 (bt_ild 4 (bt_ic 10 (bt_icmpeq (tX7_addAll_38 κ Q) (bt_ild 4 (bt_ic 32 (bt_icmplt (tX7_addAll_42 κ Q) (bt_ild 4 (bt_ic 126 (bt_icmpgt (tX7_addAll_42 κ Q) (tX7_addAll_38 κ Q)))))))))))))))))))
set_option maxRecDepth 20000 in
set_option maxHeartbeats 4000000 in
theorem sX7_addAll_3 {X : bt_X} {dd : Nat} {κ : Nat → bt_K} {Q : Option bt_V → bt_W → Prop} (hX : bt_Ok X cX7_addAll 6 RX7 dd) (hR : bt_Rt X (0, 0) none Q) (h3 : bt_Snd X 6 (0, 0) 3 (κ 3)) : bt_Snd X 6 (0, 0) 3 (tX7_addAll_3 κ Q) := by
  unfold tX7_addAll_3
  exact (bs_ild_n hX dX7_addAll_3 rfl (bs_iflt hX dX7_addAll_4 (tgt := 88) (by decide) (bs_vret hX dX7_addAll_88 hR) (bs_lld_n hX dX7_addAll_7 rfl (bs_ild_n hX dX7_addAll_8 rfl (bs_lushr hX dX7_addAll_9 (bs_l2i hX dX7_addAll_10 (bs_sipush hX dX7_addAll_11 (by decide) (bs_iand hX dX7_addAll_14 (bs_ist hX dX7_addAll_15 (by decide) (bs_ild hX dX7_addAll_17 (bs_bipush hX dX7_addAll_19 (by decide) (bs_icmpeq hX dX7_addAll_21 (tgt := 38) (by decide) (sX7_addAll_38 hX hR h3) (bs_ild hX dX7_addAll_24 (bs_bipush hX dX7_addAll_26 (by decide) (bs_icmplt hX dX7_addAll_28 (tgt := 42) (by decide) (sX7_addAll_42 hX hR h3) (bs_ild hX dX7_addAll_31 (bs_bipush hX dX7_addAll_33 (by decide) (bs_icmpgt hX dX7_addAll_35 (tgt := 42) (by decide) (sX7_addAll_42 hX hR h3) (sX7_addAll_38 hX hR h3)))))))))))))))))))
def tX7_addAll_0 (κ : Nat → bt_K) (Q : Option bt_V → bt_W → Prop) : bt_K := (bt_ic 56 (bt_ist 3 (bt_kill [4, 5] (κ 3))))
set_option maxRecDepth 20000 in
set_option maxHeartbeats 4000000 in
theorem sX7_addAll_0 {X : bt_X} {dd : Nat} {κ : Nat → bt_K} {Q : Option bt_V → bt_W → Prop} (hX : bt_Ok X cX7_addAll 6 RX7 dd) (hR : bt_Rt X (0, 0) none Q) (h3 : bt_Snd X 6 (0, 0) 3 (κ 3)) : bt_Snd X 6 (0, 0) 0 (tX7_addAll_0 κ Q) := by
  unfold tX7_addAll_0
  exact (bs_bipush hX dX7_addAll_0 (by decide) (bs_ist_n hX dX7_addAll_2 rfl (by decide) (bs_kill h3)))
def tX7_begin_0 (S0 : bt_Sp) (κ : Nat → bt_K) (Q : Option bt_V → bt_W → Prop) : bt_K := (bt_ald 0 (bt_ic 0 (bt_pfI 7 3 (bt_ald 0 (bt_ic 0 (bt_pfI 7 5 (bt_ald 0 (bt_cV 0 [2] 7 S0 (bt_vret Q)))))))))
set_option maxRecDepth 20000 in
set_option maxHeartbeats 4000000 in
theorem sX7_begin_0 {X : bt_X} {dd : Nat} {κ : Nat → bt_K} {Q : Option bt_V → bt_W → Prop} {S0 : bt_Sp} {d0 : Nat} (hX : bt_Ok X cX7_begin 1 RX7 dd) (hR : bt_Rt X (0, 0) none Q) (m0 : bt_Met yX7_step cX7_step 1 none d0 [2] S0) (q0 : d0 + 1 ≤ dd) : bt_Snd X 1 (0, 0) 0 (tX7_begin_0 S0 κ Q) := by
  unfold tX7_begin_0
  exact (bs_ald_n hX dX7_begin_0 rfl (bs_iconst hX dX7_begin_1 (bs_pfI hX dX7_begin_2 fl_X7_41 rfl (fun q hq => by cases hq; rfl) (bs_ald_n hX dX7_begin_5 rfl (bs_iconst hX dX7_begin_6 (bs_pfI hX dX7_begin_7 fl_X7_44 rfl (fun q hq => by cases hq; rfl) (bs_ald_n hX dX7_begin_10 rfl (bs_cV hX dX7_begin_11 m0 cv_X7_47 ⟨q0, by decide, rfl, rfl⟩ (bs_vret hX dX7_begin_14 hR)))))))))
def tX7_empty_0 (κ : Nat → bt_K) (Q : Option bt_V → bt_W → Prop) : bt_K := (bt_ald 0 (bt_ic 0 (bt_pfI 7 2 (bt_ald 0 (bt_gfI 7 3 (bt_iret Q))))))
set_option maxRecDepth 20000 in
set_option maxHeartbeats 4000000 in
theorem sX7_empty_0 {X : bt_X} {dd : Nat} {κ : Nat → bt_K} {Q : Option bt_V → bt_W → Prop} (hX : bt_Ok X cX7_empty 1 RX7 dd) (hR : bt_Rt X (0, 0) (some .int) Q) : bt_Snd X 1 (0, 0) 0 (tX7_empty_0 κ Q) := by
  unfold tX7_empty_0
  exact (bs_ald_n hX dX7_empty_0 rfl (bs_iconst hX dX7_empty_1 (bs_pfI hX dX7_empty_2 fl_X7_37 rfl (fun q hq => by cases hq; rfl) (bs_ald_n hX dX7_empty_5 rfl (bs_gfI hX dX7_empty_6 fl_X7_41 rfl (bs_iret hX dX7_empty_9 hR))))))
def tX7_fail_0 (κ : Nat → bt_K) (Q : Option bt_V → bt_W → Prop) : bt_K := (bt_ald 0 (bt_ild 1 (bt_ic 16 (bt_ald 0 (bt_gfI 7 4 (bt_imul (bt_iadd (bt_pfI 7 3 (bt_ic 0 (bt_zret Q))))))))))
set_option maxRecDepth 20000 in
set_option maxHeartbeats 4000000 in
theorem sX7_fail_0 {X : bt_X} {dd : Nat} {κ : Nat → bt_K} {Q : Option bt_V → bt_W → Prop} (hX : bt_Ok X cX7_fail 2 RX7 dd) (hR : bt_Rt X (0, 0) (some .boolean) Q) : bt_Snd X 2 (0, 0) 0 (tX7_fail_0 κ Q) := by
  unfold tX7_fail_0
  exact (bs_ald_n hX dX7_fail_0 rfl (bs_ild_n hX dX7_fail_1 rfl (bs_bipush hX dX7_fail_2 (by decide) (bs_ald_n hX dX7_fail_4 rfl (bs_gfI hX dX7_fail_5 fl_X7_50 rfl (bs_imul hX dX7_fail_8 (bs_iadd hX dX7_fail_9 (bs_pfI hX dX7_fail_10 fl_X7_41 rfl (fun q hq => by cases hq; rfl) (bs_iconst hX dX7_fail_13 (bs_zret hX dX7_fail_14 hR))))))))))
def tX7_step_165 (S0 : bt_Sp) (S1 : bt_Sp) (S2 : bt_Sp) (S3 : bt_Sp) (S4 : bt_Sp) (κ : Nat → bt_K) (Q : Option bt_V → bt_W → Prop) : bt_K := (bt_vret Q)
set_option maxRecDepth 20000 in
set_option maxHeartbeats 4000000 in
theorem sX7_step_165 {X : bt_X} {dd : Nat} {κ : Nat → bt_K} {Q : Option bt_V → bt_W → Prop} {S0 : bt_Sp} {d0 : Nat} {S1 : bt_Sp} {d1 : Nat} {S2 : bt_Sp} {d2 : Nat} {S3 : bt_Sp} {d3 : Nat} {S4 : bt_Sp} {d4 : Nat} (hX : bt_Ok X cX7_step 1 RX7 dd) (hR : bt_Rt X (0, 0) none Q) (m0 : bt_Met yX7_isLetter cX7_isLetter 1 (some .boolean) d0 [0] S0) (q0 : d0 + 1 ≤ dd) (m1 : bt_Met yX7_readWord cX7_readWord 2 none d1 [2] S1) (q1 : d1 + 1 ≤ dd) (m2 : bt_Met yX7_isDigit cX7_isDigit 1 (some .boolean) d2 [0] S2) (q2 : d2 + 1 ≤ dd) (m3 : bt_Met yX7_readNumber cX7_readNumber 1 none d3 [2] S3) (q3 : d3 + 1 ≤ dd) (m4 : bt_Met yX7_isSign cX7_isSign 1 (some .boolean) d4 [0] S4) (q4 : d4 + 1 ≤ dd) (h0 : bt_Snd X 1 (0, 0) 0 (κ 0)) : bt_Snd X 1 (0, 0) 165 (tX7_step_165 S0 S1 S2 S3 S4 κ Q) := by
  unfold tX7_step_165
  exact (bs_vret hX dX7_step_165 hR)
def tX7_step_152 (S0 : bt_Sp) (S1 : bt_Sp) (S2 : bt_Sp) (S3 : bt_Sp) (S4 : bt_Sp) (κ : Nat → bt_K) (Q : Option bt_V → bt_W → Prop) : bt_K := (bt_pfI 7 6 (bt_ald 0 (bt_dup (bt_gfI 7 5 (bt_ic 1 (bt_iadd (bt_pfI 7 5 (tX7_step_165 S0 S1 S2 S3 S4 κ Q))))))))
set_option maxRecDepth 20000 in
set_option maxHeartbeats 4000000 in
theorem sX7_step_152 {X : bt_X} {dd : Nat} {κ : Nat → bt_K} {Q : Option bt_V → bt_W → Prop} {S0 : bt_Sp} {d0 : Nat} {S1 : bt_Sp} {d1 : Nat} {S2 : bt_Sp} {d2 : Nat} {S3 : bt_Sp} {d3 : Nat} {S4 : bt_Sp} {d4 : Nat} (hX : bt_Ok X cX7_step 1 RX7 dd) (hR : bt_Rt X (0, 0) none Q) (m0 : bt_Met yX7_isLetter cX7_isLetter 1 (some .boolean) d0 [0] S0) (q0 : d0 + 1 ≤ dd) (m1 : bt_Met yX7_readWord cX7_readWord 2 none d1 [2] S1) (q1 : d1 + 1 ≤ dd) (m2 : bt_Met yX7_isDigit cX7_isDigit 1 (some .boolean) d2 [0] S2) (q2 : d2 + 1 ≤ dd) (m3 : bt_Met yX7_readNumber cX7_readNumber 1 none d3 [2] S3) (q3 : d3 + 1 ≤ dd) (m4 : bt_Met yX7_isSign cX7_isSign 1 (some .boolean) d4 [0] S4) (q4 : d4 + 1 ≤ dd) (h0 : bt_Snd X 1 (0, 0) 0 (κ 0)) : bt_Snd X 1 (0, 0) 152 (tX7_step_152 S0 S1 S2 S3 S4 κ Q) := by
  unfold tX7_step_152
  exact (bs_pfI hX dX7_step_152 fl_X7_53 rfl (fun q hq => by cases hq; rfl) (bs_ald_n hX dX7_step_155 rfl (bs_dup hX dX7_step_156 (bs_gfI hX dX7_step_157 fl_X7_44 rfl (bs_iconst hX dX7_step_160 (bs_iadd hX dX7_step_161 (bs_pfI hX dX7_step_162 fl_X7_44 rfl (fun q hq => by cases hq; rfl) (sX7_step_165 hX hR m0 q0 m1 q1 m2 q2 m3 q3 m4 q4 h0))))))))
def tX7_step_52 (S0 : bt_Sp) (S1 : bt_Sp) (S2 : bt_Sp) (S3 : bt_Sp) (S4 : bt_Sp) (κ : Nat → bt_K) (Q : Option bt_V → bt_W → Prop) : bt_K := (bt_ald 0 (bt_ald 0 (bt_gfI 7 5 (bt_pfI 7 4 (bt_ald 0 (bt_gfI 7 5 (bt_ald 0 (bt_gfI 7 2 (bt_icmplt (bt_ald 0 (bt_gfR 7 0 (bt_ald 0 (bt_gfI 7 5 (bt_bal (bt_cS 1 [0] S0 (bt_ifeq (bt_ald 0 (bt_gfR 7 0 (bt_ald 0 (bt_gfI 7 5 (bt_bal (bt_cS 1 [0] S2 (bt_ifeq (bt_ald 0 (bt_ald 0 (bt_gfR 7 0 (bt_ald 0 (bt_gfI 7 5 (bt_bal (bt_cS 1 [0] S4 (bt_ifeq (bt_ic 3 (tX7_step_152 S0 S1 S2 S3 S4 κ Q)) (bt_ald 0 (bt_gfR 7 0 (bt_ald 0 (bt_gfI 7 5 (bt_bal (tX7_step_152 S0 S1 S2 S3 S4 κ Q)))))))))))))) (bt_ald 0 (bt_cV 0 [2] 7 S3 (tX7_step_165 S0 S1 S2 S3 S4 κ Q)))))))))) (bt_ald 0 (bt_cV 0 [2] 7 S1 (tX7_step_165 S0 S1 S2 S3 S4 κ Q)))))))))) (bt_ald 0 (bt_ic 0 (bt_pfI 7 6 (tX7_step_165 S0 S1 S2 S3 S4 κ Q)))))))))))))
set_option maxRecDepth 20000 in
set_option maxHeartbeats 4000000 in
theorem sX7_step_52 {X : bt_X} {dd : Nat} {κ : Nat → bt_K} {Q : Option bt_V → bt_W → Prop} {S0 : bt_Sp} {d0 : Nat} {S1 : bt_Sp} {d1 : Nat} {S2 : bt_Sp} {d2 : Nat} {S3 : bt_Sp} {d3 : Nat} {S4 : bt_Sp} {d4 : Nat} (hX : bt_Ok X cX7_step 1 RX7 dd) (hR : bt_Rt X (0, 0) none Q) (m0 : bt_Met yX7_isLetter cX7_isLetter 1 (some .boolean) d0 [0] S0) (q0 : d0 + 1 ≤ dd) (m1 : bt_Met yX7_readWord cX7_readWord 2 none d1 [2] S1) (q1 : d1 + 1 ≤ dd) (m2 : bt_Met yX7_isDigit cX7_isDigit 1 (some .boolean) d2 [0] S2) (q2 : d2 + 1 ≤ dd) (m3 : bt_Met yX7_readNumber cX7_readNumber 1 none d3 [2] S3) (q3 : d3 + 1 ≤ dd) (m4 : bt_Met yX7_isSign cX7_isSign 1 (some .boolean) d4 [0] S4) (q4 : d4 + 1 ≤ dd) (h0 : bt_Snd X 1 (0, 0) 0 (κ 0)) : bt_Snd X 1 (0, 0) 52 (tX7_step_52 S0 S1 S2 S3 S4 κ Q) := by
  unfold tX7_step_52
  exact (bs_ald_n hX dX7_step_52 rfl (bs_ald_n hX dX7_step_53 rfl (bs_gfI hX dX7_step_54 fl_X7_44 rfl (bs_pfI hX dX7_step_57 fl_X7_50 rfl (fun q hq => by cases hq; rfl) (bs_ald_n hX dX7_step_60 rfl (bs_gfI hX dX7_step_61 fl_X7_44 rfl (bs_ald_n hX dX7_step_64 rfl (bs_gfI hX dX7_step_65 fl_X7_37 rfl (bs_icmplt hX dX7_step_68 (tgt := 79) (by decide) (bs_ald_n hX dX7_step_79 rfl (bs_gfR hX dX7_step_80 fl_X7_9 rfl (bs_ald_n hX dX7_step_83 rfl (bs_gfI hX dX7_step_84 fl_X7_44 rfl (bs_bal hX dX7_step_87 (bs_cS hX dX7_step_88 m0 cs_X7_56 ⟨q0, by decide, rfl, rfl⟩ (bs_ifeq hX dX7_step_91 (tgt := 101) (by decide) (bs_ald_n hX dX7_step_101 rfl (bs_gfR hX dX7_step_102 fl_X7_9 rfl (bs_ald_n hX dX7_step_105 rfl (bs_gfI hX dX7_step_106 fl_X7_44 rfl (bs_bal hX dX7_step_109 (bs_cS hX dX7_step_110 m2 cs_X7_63 ⟨q2, by decide, rfl, rfl⟩ (bs_ifeq hX dX7_step_113 (tgt := 123) (by decide) (bs_ald_n hX dX7_step_123 rfl (bs_ald_n hX dX7_step_124 rfl (bs_gfR hX dX7_step_125 fl_X7_9 rfl (bs_ald_n hX dX7_step_128 rfl (bs_gfI hX dX7_step_129 fl_X7_44 rfl (bs_bal hX dX7_step_132 (bs_cS hX dX7_step_133 m4 cs_X7_69 ⟨q4, by decide, rfl, rfl⟩ (bs_ifeq hX dX7_step_136 (tgt := 151) (by decide) (bs_iconst hX dX7_step_151 (sX7_step_152 hX hR m0 q0 m1 q1 m2 q2 m3 q3 m4 q4 h0)) (bs_ald_n hX dX7_step_139 rfl (bs_gfR hX dX7_step_140 fl_X7_9 rfl (bs_ald_n hX dX7_step_143 rfl (bs_gfI hX dX7_step_144 fl_X7_44 rfl (bs_bal hX dX7_step_147 (bs_goto hX dX7_step_148 (tgt := 152) (by decide) (sX7_step_152 hX hR m0 q0 m1 q1 m2 q2 m3 q3 m4 q4 h0))))))))))))))) (bs_ald_n hX dX7_step_116 rfl (bs_cV hX dX7_step_117 m3 cv_X7_66 ⟨q3, by decide, rfl, rfl⟩ (bs_goto hX dX7_step_120 (tgt := 165) (by decide) (sX7_step_165 hX hR m0 q0 m1 q1 m2 q2 m3 q3 m4 q4 h0))))))))))) (bs_ald_n hX dX7_step_94 rfl (bs_cV hX dX7_step_95 m1 cv_X7_60 ⟨q1, by decide, rfl, rfl⟩ (bs_goto hX dX7_step_98 (tgt := 165) (by decide) (sX7_step_165 hX hR m0 q0 m1 q1 m2 q2 m3 q3 m4 q4 h0))))))))))) (bs_ald_n hX dX7_step_71 rfl (bs_iconst hX dX7_step_72 (bs_pfI hX dX7_step_73 fl_X7_53 rfl (fun q hq => by cases hq; rfl) (bs_goto hX dX7_step_76 (tgt := 165) (by decide) (sX7_step_165 hX hR m0 q0 m1 q1 m2 q2 m3 q3 m4 q4 h0))))))))))))))
def tX7_step_39 (S0 : bt_Sp) (S1 : bt_Sp) (S2 : bt_Sp) (S3 : bt_Sp) (S4 : bt_Sp) (κ : Nat → bt_K) (Q : Option bt_V → bt_W → Prop) : bt_K := (bt_ald 0 (bt_dup (bt_gfI 7 5 (bt_ic 1 (bt_iadd (bt_pfI 7 5 (κ 0)))))))
set_option maxRecDepth 20000 in
set_option maxHeartbeats 4000000 in
theorem sX7_step_39 {X : bt_X} {dd : Nat} {κ : Nat → bt_K} {Q : Option bt_V → bt_W → Prop} {S0 : bt_Sp} {d0 : Nat} {S1 : bt_Sp} {d1 : Nat} {S2 : bt_Sp} {d2 : Nat} {S3 : bt_Sp} {d3 : Nat} {S4 : bt_Sp} {d4 : Nat} (hX : bt_Ok X cX7_step 1 RX7 dd) (hR : bt_Rt X (0, 0) none Q) (m0 : bt_Met yX7_isLetter cX7_isLetter 1 (some .boolean) d0 [0] S0) (q0 : d0 + 1 ≤ dd) (m1 : bt_Met yX7_readWord cX7_readWord 2 none d1 [2] S1) (q1 : d1 + 1 ≤ dd) (m2 : bt_Met yX7_isDigit cX7_isDigit 1 (some .boolean) d2 [0] S2) (q2 : d2 + 1 ≤ dd) (m3 : bt_Met yX7_readNumber cX7_readNumber 1 none d3 [2] S3) (q3 : d3 + 1 ≤ dd) (m4 : bt_Met yX7_isSign cX7_isSign 1 (some .boolean) d4 [0] S4) (q4 : d4 + 1 ≤ dd) (h0 : bt_Snd X 1 (0, 0) 0 (κ 0)) : bt_Snd X 1 (0, 0) 39 (tX7_step_39 S0 S1 S2 S3 S4 κ Q) := by
  unfold tX7_step_39
  exact (bs_ald_n hX dX7_step_39 rfl (bs_dup hX dX7_step_40 (bs_gfI hX dX7_step_41 fl_X7_44 rfl (bs_iconst hX dX7_step_44 (bs_iadd hX dX7_step_45 (bs_pfI hX dX7_step_46 fl_X7_44 rfl (fun q hq => by cases hq; rfl) (bs_goto hX dX7_step_49 (tgt := 0) (by decide) h0)))))))
def tX7_step_0 (S0 : bt_Sp) (S1 : bt_Sp) (S2 : bt_Sp) (S3 : bt_Sp) (S4 : bt_Sp) (κ : Nat → bt_K) (Q : Option bt_V → bt_W → Prop) : bt_K := (bt_ald 0 (bt_gfI 7 5 (bt_ald 0 (bt_gfI 7 2 (bt_icmpge (tX7_step_52 S0 S1 S2 S3 S4 κ Q) (bt_ald 0 (bt_gfR 7 0 (bt_ald 0 (bt_gfI 7 5 (bt_bal (bt_ic 32 (bt_icmpeq (tX7_step_39 S0 S1 S2 S3 S4 κ Q) (bt_ald 0 (bt_gfR 7 0 (bt_ald 0 (bt_gfI 7 5 (bt_bal (bt_ic 10 (bt_icmpne (tX7_step_52 S0 S1 S2 S3 S4 κ Q) (tX7_step_39 S0 S1 S2 S3 S4 κ Q))))))))))))))))))))
set_option maxRecDepth 20000 in
set_option maxHeartbeats 4000000 in
theorem sX7_step_0 {X : bt_X} {dd : Nat} {κ : Nat → bt_K} {Q : Option bt_V → bt_W → Prop} {S0 : bt_Sp} {d0 : Nat} {S1 : bt_Sp} {d1 : Nat} {S2 : bt_Sp} {d2 : Nat} {S3 : bt_Sp} {d3 : Nat} {S4 : bt_Sp} {d4 : Nat} (hX : bt_Ok X cX7_step 1 RX7 dd) (hR : bt_Rt X (0, 0) none Q) (m0 : bt_Met yX7_isLetter cX7_isLetter 1 (some .boolean) d0 [0] S0) (q0 : d0 + 1 ≤ dd) (m1 : bt_Met yX7_readWord cX7_readWord 2 none d1 [2] S1) (q1 : d1 + 1 ≤ dd) (m2 : bt_Met yX7_isDigit cX7_isDigit 1 (some .boolean) d2 [0] S2) (q2 : d2 + 1 ≤ dd) (m3 : bt_Met yX7_readNumber cX7_readNumber 1 none d3 [2] S3) (q3 : d3 + 1 ≤ dd) (m4 : bt_Met yX7_isSign cX7_isSign 1 (some .boolean) d4 [0] S4) (q4 : d4 + 1 ≤ dd) (h0 : bt_Snd X 1 (0, 0) 0 (κ 0)) : bt_Snd X 1 (0, 0) 0 (tX7_step_0 S0 S1 S2 S3 S4 κ Q) := by
  unfold tX7_step_0
  exact (bs_ald_n hX dX7_step_0 rfl (bs_gfI hX dX7_step_1 fl_X7_44 rfl (bs_ald_n hX dX7_step_4 rfl (bs_gfI hX dX7_step_5 fl_X7_37 rfl (bs_icmpge hX dX7_step_8 (tgt := 52) (by decide) (sX7_step_52 hX hR m0 q0 m1 q1 m2 q2 m3 q3 m4 q4 h0) (bs_ald_n hX dX7_step_11 rfl (bs_gfR hX dX7_step_12 fl_X7_9 rfl (bs_ald_n hX dX7_step_15 rfl (bs_gfI hX dX7_step_16 fl_X7_44 rfl (bs_bal hX dX7_step_19 (bs_bipush hX dX7_step_20 (by decide) (bs_icmpeq hX dX7_step_22 (tgt := 39) (by decide) (sX7_step_39 hX hR m0 q0 m1 q1 m2 q2 m3 q3 m4 q4 h0) (bs_ald_n hX dX7_step_25 rfl (bs_gfR hX dX7_step_26 fl_X7_9 rfl (bs_ald_n hX dX7_step_29 rfl (bs_gfI hX dX7_step_30 fl_X7_44 rfl (bs_bal hX dX7_step_33 (bs_bipush hX dX7_step_34 (by decide) (bs_icmpne hX dX7_step_36 (tgt := 52) (by decide) (sX7_step_52 hX hR m0 q0 m1 q1 m2 q2 m3 q3 m4 q4 h0) (sX7_step_39 hX hR m0 q0 m1 q1 m2 q2 m3 q3 m4 q4 h0))))))))))))))))))))
def tX7_readWord_119 (S0 : bt_Sp) (S1 : bt_Sp) (κ : Nat → bt_K) (Q : Option bt_V → bt_W → Prop) : bt_K := (bt_inc 1 1 (κ 94))
set_option maxRecDepth 20000 in
set_option maxHeartbeats 4000000 in
theorem sX7_readWord_119 {X : bt_X} {dd : Nat} {κ : Nat → bt_K} {Q : Option bt_V → bt_W → Prop} {S0 : bt_Sp} {d0 : Nat} {S1 : bt_Sp} {d1 : Nat} (hX : bt_Ok X cX7_readWord 2 RX7 dd) (hR : bt_Rt X (0, 0) none Q) (m0 : bt_Met yX7_isLetter cX7_isLetter 1 (some .boolean) d0 [0] S0) (q0 : d0 + 1 ≤ dd) (m1 : bt_Met yX7_longer cX7_longer 3 (some .long) d1 [1, 0] S1) (q1 : d1 + 1 ≤ dd) (h5 : bt_Snd X 2 (0, 0) 5 (κ 5)) (h94 : bt_Snd X 2 (0, 0) 94 (κ 94)) : bt_Snd X 2 (0, 0) 119 (tX7_readWord_119 S0 S1 κ Q) := by
  unfold tX7_readWord_119
  exact (bs_iinc hX dX7_readWord_119 (by decide) (bs_goto hX dX7_readWord_122 (tgt := 94) (by decide) h94))
def tX7_readWord_94 (S0 : bt_Sp) (S1 : bt_Sp) (κ : Nat → bt_K) (Q : Option bt_V → bt_W → Prop) : bt_K := (bt_ild 1 (bt_ic 30 (bt_icmpge (bt_vret Q) (bt_ald 0 (bt_gfR 7 1 (bt_ild 1 (bt_lal (bt_ald 0 (bt_gfJ 7 7 (bt_lcmp (bt_ifne (tX7_readWord_119 S0 S1 κ Q) (bt_ald 0 (bt_ild 1 (bt_pfI 7 8 (tX7_readWord_119 S0 S1 κ Q)))))))))))))))
set_option maxRecDepth 20000 in
set_option maxHeartbeats 4000000 in
theorem sX7_readWord_94 {X : bt_X} {dd : Nat} {κ : Nat → bt_K} {Q : Option bt_V → bt_W → Prop} {S0 : bt_Sp} {d0 : Nat} {S1 : bt_Sp} {d1 : Nat} (hX : bt_Ok X cX7_readWord 2 RX7 dd) (hR : bt_Rt X (0, 0) none Q) (m0 : bt_Met yX7_isLetter cX7_isLetter 1 (some .boolean) d0 [0] S0) (q0 : d0 + 1 ≤ dd) (m1 : bt_Met yX7_longer cX7_longer 3 (some .long) d1 [1, 0] S1) (q1 : d1 + 1 ≤ dd) (h5 : bt_Snd X 2 (0, 0) 5 (κ 5)) (h94 : bt_Snd X 2 (0, 0) 94 (κ 94)) : bt_Snd X 2 (0, 0) 94 (tX7_readWord_94 S0 S1 κ Q) := by
  unfold tX7_readWord_94
  exact (bs_ild_n hX dX7_readWord_94 rfl (bs_bipush hX dX7_readWord_95 (by decide) (bs_icmpge hX dX7_readWord_97 (tgt := 125) (by decide) (bs_vret hX dX7_readWord_125 hR) (bs_ald_n hX dX7_readWord_100 rfl (bs_gfR hX dX7_readWord_101 fl_X7_15 rfl (bs_ild_n hX dX7_readWord_104 rfl (bs_lal hX dX7_readWord_105 (bs_ald_n hX dX7_readWord_106 rfl (bs_gfJ hX dX7_readWord_107 fl_X7_72 rfl (bs_lcmp hX dX7_readWord_110 (bs_ifne hX dX7_readWord_111 (tgt := 119) (by decide) (sX7_readWord_119 hX hR m0 q0 m1 q1 h5 h94) (bs_ald_n hX dX7_readWord_114 rfl (bs_ild_n hX dX7_readWord_115 rfl (bs_pfI hX dX7_readWord_116 fl_X7_76 rfl (fun q hq => by cases hq; rfl) (sX7_readWord_119 hX hR m0 q0 m1 q1 h5 h94)))))))))))))))
def tX7_readWord_84 (S0 : bt_Sp) (S1 : bt_Sp) (κ : Nat → bt_K) (Q : Option bt_V → bt_W → Prop) : bt_K := (bt_pfI 7 6 (bt_ald 0 (bt_ic (-1) (bt_pfI 7 8 (bt_ic 0 (bt_ist 1 (κ 94)))))))
set_option maxRecDepth 20000 in
set_option maxHeartbeats 4000000 in
theorem sX7_readWord_84 {X : bt_X} {dd : Nat} {κ : Nat → bt_K} {Q : Option bt_V → bt_W → Prop} {S0 : bt_Sp} {d0 : Nat} {S1 : bt_Sp} {d1 : Nat} (hX : bt_Ok X cX7_readWord 2 RX7 dd) (hR : bt_Rt X (0, 0) none Q) (m0 : bt_Met yX7_isLetter cX7_isLetter 1 (some .boolean) d0 [0] S0) (q0 : d0 + 1 ≤ dd) (m1 : bt_Met yX7_longer cX7_longer 3 (some .long) d1 [1, 0] S1) (q1 : d1 + 1 ≤ dd) (h5 : bt_Snd X 2 (0, 0) 5 (κ 5)) (h94 : bt_Snd X 2 (0, 0) 94 (κ 94)) : bt_Snd X 2 (0, 0) 84 (tX7_readWord_84 S0 S1 κ Q) := by
  unfold tX7_readWord_84
  exact (bs_pfI hX dX7_readWord_84 fl_X7_53 rfl (fun q hq => by cases hq; rfl) (bs_ald_n hX dX7_readWord_87 rfl (bs_iconst hX dX7_readWord_88 (bs_pfI hX dX7_readWord_89 fl_X7_76 rfl (fun q hq => by cases hq; rfl) (bs_iconst hX dX7_readWord_92 (bs_ist_n hX dX7_readWord_93 rfl (by decide) h94))))))
def tX7_readWord_64 (S0 : bt_Sp) (S1 : bt_Sp) (κ : Nat → bt_K) (Q : Option bt_V → bt_W → Prop) : bt_K := (bt_ald 0 (bt_ald 0 (bt_gfI 7 5 (bt_ald 0 (bt_gfI 7 4 (bt_isub (bt_ic 8 (bt_icmpgt (bt_ic 3 (tX7_readWord_84 S0 S1 κ Q)) (bt_ic 1 (tX7_readWord_84 S0 S1 κ Q))))))))))
set_option maxRecDepth 20000 in
set_option maxHeartbeats 4000000 in
theorem sX7_readWord_64 {X : bt_X} {dd : Nat} {κ : Nat → bt_K} {Q : Option bt_V → bt_W → Prop} {S0 : bt_Sp} {d0 : Nat} {S1 : bt_Sp} {d1 : Nat} (hX : bt_Ok X cX7_readWord 2 RX7 dd) (hR : bt_Rt X (0, 0) none Q) (m0 : bt_Met yX7_isLetter cX7_isLetter 1 (some .boolean) d0 [0] S0) (q0 : d0 + 1 ≤ dd) (m1 : bt_Met yX7_longer cX7_longer 3 (some .long) d1 [1, 0] S1) (q1 : d1 + 1 ≤ dd) (h5 : bt_Snd X 2 (0, 0) 5 (κ 5)) (h94 : bt_Snd X 2 (0, 0) 94 (κ 94)) : bt_Snd X 2 (0, 0) 64 (tX7_readWord_64 S0 S1 κ Q) := by
  unfold tX7_readWord_64
  exact (bs_ald_n hX dX7_readWord_64 rfl (bs_ald_n hX dX7_readWord_65 rfl (bs_gfI hX dX7_readWord_66 fl_X7_44 rfl (bs_ald_n hX dX7_readWord_69 rfl (bs_gfI hX dX7_readWord_70 fl_X7_50 rfl (bs_isub hX dX7_readWord_73 (bs_bipush hX dX7_readWord_74 (by decide) (bs_icmpgt hX dX7_readWord_76 (tgt := 83) (by decide) (bs_iconst hX dX7_readWord_83 (sX7_readWord_84 hX hR m0 q0 m1 q1 h5 h94)) (bs_iconst hX dX7_readWord_79 (bs_goto hX dX7_readWord_80 (tgt := 84) (by decide) (sX7_readWord_84 hX hR m0 q0 m1 q1 h5 h94)))))))))))
def tX7_readWord_5 (S0 : bt_Sp) (S1 : bt_Sp) (κ : Nat → bt_K) (Q : Option bt_V → bt_W → Prop) : bt_K := (bt_ald 0 (bt_gfI 7 5 (bt_ald 0 (bt_gfI 7 2 (bt_icmpge (tX7_readWord_64 S0 S1 κ Q) (bt_ald 0 (bt_gfR 7 0 (bt_ald 0 (bt_gfI 7 5 (bt_bal (bt_cS 1 [0] S0 (bt_ifeq (tX7_readWord_64 S0 S1 κ Q) (bt_ald 0 (bt_ald 0 (bt_gfJ 7 7 (bt_ald 0 (bt_gfR 7 0 (bt_ald 0 (bt_gfI 7 5 (bt_bal (bt_cS 2 [1, 0] S1 (bt_pfJ 7 7 (bt_ald 0 (bt_dup (bt_gfI 7 5 (bt_ic 1 (bt_iadd (bt_pfI 7 5 (bt_kill [1] (κ 5))))))))))))))))))))))))))))))
set_option maxRecDepth 20000 in
set_option maxHeartbeats 4000000 in
theorem sX7_readWord_5 {X : bt_X} {dd : Nat} {κ : Nat → bt_K} {Q : Option bt_V → bt_W → Prop} {S0 : bt_Sp} {d0 : Nat} {S1 : bt_Sp} {d1 : Nat} (hX : bt_Ok X cX7_readWord 2 RX7 dd) (hR : bt_Rt X (0, 0) none Q) (m0 : bt_Met yX7_isLetter cX7_isLetter 1 (some .boolean) d0 [0] S0) (q0 : d0 + 1 ≤ dd) (m1 : bt_Met yX7_longer cX7_longer 3 (some .long) d1 [1, 0] S1) (q1 : d1 + 1 ≤ dd) (h5 : bt_Snd X 2 (0, 0) 5 (κ 5)) (h94 : bt_Snd X 2 (0, 0) 94 (κ 94)) : bt_Snd X 2 (0, 0) 5 (tX7_readWord_5 S0 S1 κ Q) := by
  unfold tX7_readWord_5
  exact (bs_ald_n hX dX7_readWord_5 rfl (bs_gfI hX dX7_readWord_6 fl_X7_44 rfl (bs_ald_n hX dX7_readWord_9 rfl (bs_gfI hX dX7_readWord_10 fl_X7_37 rfl (bs_icmpge hX dX7_readWord_13 (tgt := 64) (by decide) (sX7_readWord_64 hX hR m0 q0 m1 q1 h5 h94) (bs_ald_n hX dX7_readWord_16 rfl (bs_gfR hX dX7_readWord_17 fl_X7_9 rfl (bs_ald_n hX dX7_readWord_20 rfl (bs_gfI hX dX7_readWord_21 fl_X7_44 rfl (bs_bal hX dX7_readWord_24 (bs_cS hX dX7_readWord_25 m0 cs_X7_56 ⟨q0, by decide, rfl, rfl⟩ (bs_ifeq hX dX7_readWord_28 (tgt := 64) (by decide) (sX7_readWord_64 hX hR m0 q0 m1 q1 h5 h94) (bs_ald_n hX dX7_readWord_31 rfl (bs_ald_n hX dX7_readWord_32 rfl (bs_gfJ hX dX7_readWord_33 fl_X7_72 rfl (bs_ald_n hX dX7_readWord_36 rfl (bs_gfR hX dX7_readWord_37 fl_X7_9 rfl (bs_ald_n hX dX7_readWord_40 rfl (bs_gfI hX dX7_readWord_41 fl_X7_44 rfl (bs_bal hX dX7_readWord_44 (bs_cS hX dX7_readWord_45 m1 cs_X7_31 ⟨q1, by decide, rfl, rfl⟩ (bs_pfJ hX dX7_readWord_48 fl_X7_72 rfl (fun q hq => by cases hq; rfl) (bs_ald_n hX dX7_readWord_51 rfl (bs_dup hX dX7_readWord_52 (bs_gfI hX dX7_readWord_53 fl_X7_44 rfl (bs_iconst hX dX7_readWord_56 (bs_iadd hX dX7_readWord_57 (bs_pfI hX dX7_readWord_58 fl_X7_44 rfl (fun q hq => by cases hq; rfl) (bs_goto hX dX7_readWord_61 (tgt := 5) (by decide) (bs_kill h5))))))))))))))))))))))))))))))
def tX7_readWord_0 (S0 : bt_Sp) (S1 : bt_Sp) (κ : Nat → bt_K) (Q : Option bt_V → bt_W → Prop) : bt_K := (bt_ald 0 (bt_lc 0 (bt_pfJ 7 7 (bt_kill [1] (κ 5)))))
set_option maxRecDepth 20000 in
set_option maxHeartbeats 4000000 in
theorem sX7_readWord_0 {X : bt_X} {dd : Nat} {κ : Nat → bt_K} {Q : Option bt_V → bt_W → Prop} {S0 : bt_Sp} {d0 : Nat} {S1 : bt_Sp} {d1 : Nat} (hX : bt_Ok X cX7_readWord 2 RX7 dd) (hR : bt_Rt X (0, 0) none Q) (m0 : bt_Met yX7_isLetter cX7_isLetter 1 (some .boolean) d0 [0] S0) (q0 : d0 + 1 ≤ dd) (m1 : bt_Met yX7_longer cX7_longer 3 (some .long) d1 [1, 0] S1) (q1 : d1 + 1 ≤ dd) (h5 : bt_Snd X 2 (0, 0) 5 (κ 5)) (h94 : bt_Snd X 2 (0, 0) 94 (κ 94)) : bt_Snd X 2 (0, 0) 0 (tX7_readWord_0 S0 S1 κ Q) := by
  unfold tX7_readWord_0
  exact (bs_ald_n hX dX7_readWord_0 rfl (bs_lconst hX dX7_readWord_1 (by decide) (bs_pfJ hX dX7_readWord_2 fl_X7_72 rfl (fun q hq => by cases hq; rfl) (bs_kill h5))))
def tX7_readNumber_87 (S0 : bt_Sp) (κ : Nat → bt_K) (Q : Option bt_V → bt_W → Prop) : bt_K := (bt_pfI 7 6 (bt_vret Q))
set_option maxRecDepth 20000 in
set_option maxHeartbeats 4000000 in
theorem sX7_readNumber_87 {X : bt_X} {dd : Nat} {κ : Nat → bt_K} {Q : Option bt_V → bt_W → Prop} {S0 : bt_Sp} {d0 : Nat} (hX : bt_Ok X cX7_readNumber 1 RX7 dd) (hR : bt_Rt X (0, 0) none Q) (m0 : bt_Met yX7_isDigit cX7_isDigit 1 (some .boolean) d0 [0] S0) (q0 : d0 + 1 ≤ dd) (h5 : bt_Snd X 1 (0, 0) 5 (κ 5)) : bt_Snd X 1 (0, 0) 87 (tX7_readNumber_87 S0 κ Q) := by
  unfold tX7_readNumber_87
  exact (bs_pfI hX dX7_readNumber_87 fl_X7_53 rfl (fun q hq => by cases hq; rfl) (bs_vret hX dX7_readNumber_90 hR))
def tX7_readNumber_68 (S0 : bt_Sp) (κ : Nat → bt_K) (Q : Option bt_V → bt_W → Prop) : bt_K := (bt_ald 0 (bt_ald 0 (bt_gfI 7 5 (bt_ald 0 (bt_gfI 7 4 (bt_isub (bt_ic 4 (bt_icmpgt (bt_ic 3 (tX7_readNumber_87 S0 κ Q)) (bt_ic 2 (tX7_readNumber_87 S0 κ Q))))))))))
set_option maxRecDepth 20000 in
set_option maxHeartbeats 4000000 in
theorem sX7_readNumber_68 {X : bt_X} {dd : Nat} {κ : Nat → bt_K} {Q : Option bt_V → bt_W → Prop} {S0 : bt_Sp} {d0 : Nat} (hX : bt_Ok X cX7_readNumber 1 RX7 dd) (hR : bt_Rt X (0, 0) none Q) (m0 : bt_Met yX7_isDigit cX7_isDigit 1 (some .boolean) d0 [0] S0) (q0 : d0 + 1 ≤ dd) (h5 : bt_Snd X 1 (0, 0) 5 (κ 5)) : bt_Snd X 1 (0, 0) 68 (tX7_readNumber_68 S0 κ Q) := by
  unfold tX7_readNumber_68
  exact (bs_ald_n hX dX7_readNumber_68 rfl (bs_ald_n hX dX7_readNumber_69 rfl (bs_gfI hX dX7_readNumber_70 fl_X7_44 rfl (bs_ald_n hX dX7_readNumber_73 rfl (bs_gfI hX dX7_readNumber_74 fl_X7_50 rfl (bs_isub hX dX7_readNumber_77 (bs_iconst hX dX7_readNumber_78 (bs_icmpgt hX dX7_readNumber_79 (tgt := 86) (by decide) (bs_iconst hX dX7_readNumber_86 (sX7_readNumber_87 hX hR m0 q0 h5)) (bs_iconst hX dX7_readNumber_82 (bs_goto hX dX7_readNumber_83 (tgt := 87) (by decide) (sX7_readNumber_87 hX hR m0 q0 h5)))))))))))
def tX7_readNumber_5 (S0 : bt_Sp) (κ : Nat → bt_K) (Q : Option bt_V → bt_W → Prop) : bt_K := (bt_ald 0 (bt_gfI 7 5 (bt_ald 0 (bt_gfI 7 2 (bt_icmpge (tX7_readNumber_68 S0 κ Q) (bt_ald 0 (bt_gfR 7 0 (bt_ald 0 (bt_gfI 7 5 (bt_bal (bt_cS 1 [0] S0 (bt_ifeq (tX7_readNumber_68 S0 κ Q) (bt_ald 0 (bt_ald 0 (bt_gfI 7 9 (bt_ic 10 (bt_imul (bt_ald 0 (bt_gfR 7 0 (bt_ald 0 (bt_gfI 7 5 (bt_bal (bt_ic 48 (bt_isub (bt_iadd (bt_pfI 7 9 (bt_ald 0 (bt_dup (bt_gfI 7 5 (bt_ic 1 (bt_iadd (bt_pfI 7 5 (κ 5)))))))))))))))))))))))))))))))))
set_option maxRecDepth 20000 in
set_option maxHeartbeats 4000000 in
theorem sX7_readNumber_5 {X : bt_X} {dd : Nat} {κ : Nat → bt_K} {Q : Option bt_V → bt_W → Prop} {S0 : bt_Sp} {d0 : Nat} (hX : bt_Ok X cX7_readNumber 1 RX7 dd) (hR : bt_Rt X (0, 0) none Q) (m0 : bt_Met yX7_isDigit cX7_isDigit 1 (some .boolean) d0 [0] S0) (q0 : d0 + 1 ≤ dd) (h5 : bt_Snd X 1 (0, 0) 5 (κ 5)) : bt_Snd X 1 (0, 0) 5 (tX7_readNumber_5 S0 κ Q) := by
  unfold tX7_readNumber_5
  exact (bs_ald_n hX dX7_readNumber_5 rfl (bs_gfI hX dX7_readNumber_6 fl_X7_44 rfl (bs_ald_n hX dX7_readNumber_9 rfl (bs_gfI hX dX7_readNumber_10 fl_X7_37 rfl (bs_icmpge hX dX7_readNumber_13 (tgt := 68) (by decide) (sX7_readNumber_68 hX hR m0 q0 h5) (bs_ald_n hX dX7_readNumber_16 rfl (bs_gfR hX dX7_readNumber_17 fl_X7_9 rfl (bs_ald_n hX dX7_readNumber_20 rfl (bs_gfI hX dX7_readNumber_21 fl_X7_44 rfl (bs_bal hX dX7_readNumber_24 (bs_cS hX dX7_readNumber_25 m0 cs_X7_63 ⟨q0, by decide, rfl, rfl⟩ (bs_ifeq hX dX7_readNumber_28 (tgt := 68) (by decide) (sX7_readNumber_68 hX hR m0 q0 h5) (bs_ald_n hX dX7_readNumber_31 rfl (bs_ald_n hX dX7_readNumber_32 rfl (bs_gfI hX dX7_readNumber_33 fl_X7_79 rfl (bs_bipush hX dX7_readNumber_36 (by decide) (bs_imul hX dX7_readNumber_38 (bs_ald_n hX dX7_readNumber_39 rfl (bs_gfR hX dX7_readNumber_40 fl_X7_9 rfl (bs_ald_n hX dX7_readNumber_43 rfl (bs_gfI hX dX7_readNumber_44 fl_X7_44 rfl (bs_bal hX dX7_readNumber_47 (bs_bipush hX dX7_readNumber_48 (by decide) (bs_isub hX dX7_readNumber_50 (bs_iadd hX dX7_readNumber_51 (bs_pfI hX dX7_readNumber_52 fl_X7_79 rfl (fun q hq => by cases hq; rfl) (bs_ald_n hX dX7_readNumber_55 rfl (bs_dup hX dX7_readNumber_56 (bs_gfI hX dX7_readNumber_57 fl_X7_44 rfl (bs_iconst hX dX7_readNumber_60 (bs_iadd hX dX7_readNumber_61 (bs_pfI hX dX7_readNumber_62 fl_X7_44 rfl (fun q hq => by cases hq; rfl) (bs_goto hX dX7_readNumber_65 (tgt := 5) (by decide) h5)))))))))))))))))))))))))))))))))
def tX7_readNumber_0 (S0 : bt_Sp) (κ : Nat → bt_K) (Q : Option bt_V → bt_W → Prop) : bt_K := (bt_ald 0 (bt_ic 0 (bt_pfI 7 9 (κ 5))))
set_option maxRecDepth 20000 in
set_option maxHeartbeats 4000000 in
theorem sX7_readNumber_0 {X : bt_X} {dd : Nat} {κ : Nat → bt_K} {Q : Option bt_V → bt_W → Prop} {S0 : bt_Sp} {d0 : Nat} (hX : bt_Ok X cX7_readNumber 1 RX7 dd) (hR : bt_Rt X (0, 0) none Q) (m0 : bt_Met yX7_isDigit cX7_isDigit 1 (some .boolean) d0 [0] S0) (q0 : d0 + 1 ≤ dd) (h5 : bt_Snd X 1 (0, 0) 5 (κ 5)) : bt_Snd X 1 (0, 0) 0 (tX7_readNumber_0 S0 κ Q) := by
  unfold tX7_readNumber_0
  exact (bs_ald_n hX dX7_readNumber_0 rfl (bs_iconst hX dX7_readNumber_1 (bs_pfI hX dX7_readNumber_2 fl_X7_79 rfl (fun q hq => by cases hq; rfl) h5)))
def tX7_isLetter_17 (κ : Nat → bt_K) (Q : Option bt_V → bt_W → Prop) : bt_K := (bt_zret Q)
set_option maxRecDepth 20000 in
set_option maxHeartbeats 4000000 in
theorem sX7_isLetter_17 {X : bt_X} {dd : Nat} {κ : Nat → bt_K} {Q : Option bt_V → bt_W → Prop} (hX : bt_Ok X cX7_isLetter 1 RX7 dd) (hR : bt_Rt X (0, 0) (some .boolean) Q) : bt_Snd X 1 (0, 0) 17 (tX7_isLetter_17 κ Q) := by
  unfold tX7_isLetter_17
  exact (bs_zret hX dX7_isLetter_17 hR)
def tX7_isLetter_16 (κ : Nat → bt_K) (Q : Option bt_V → bt_W → Prop) : bt_K := (bt_ic 0 (tX7_isLetter_17 κ Q))
set_option maxRecDepth 20000 in
set_option maxHeartbeats 4000000 in
theorem sX7_isLetter_16 {X : bt_X} {dd : Nat} {κ : Nat → bt_K} {Q : Option bt_V → bt_W → Prop} (hX : bt_Ok X cX7_isLetter 1 RX7 dd) (hR : bt_Rt X (0, 0) (some .boolean) Q) : bt_Snd X 1 (0, 0) 16 (tX7_isLetter_16 κ Q) := by
  unfold tX7_isLetter_16
  exact (bs_iconst hX dX7_isLetter_16 (sX7_isLetter_17 hX hR))
def tX7_isLetter_0 (κ : Nat → bt_K) (Q : Option bt_V → bt_W → Prop) : bt_K := (bt_ild 0 (bt_ic 97 (bt_icmplt (tX7_isLetter_16 κ Q) (bt_ild 0 (bt_ic 122 (bt_icmpgt (tX7_isLetter_16 κ Q) (bt_ic 1 (tX7_isLetter_17 κ Q))))))))
set_option maxRecDepth 20000 in
set_option maxHeartbeats 4000000 in
theorem sX7_isLetter_0 {X : bt_X} {dd : Nat} {κ : Nat → bt_K} {Q : Option bt_V → bt_W → Prop} (hX : bt_Ok X cX7_isLetter 1 RX7 dd) (hR : bt_Rt X (0, 0) (some .boolean) Q) : bt_Snd X 1 (0, 0) 0 (tX7_isLetter_0 κ Q) := by
  unfold tX7_isLetter_0
  exact (bs_ild_n hX dX7_isLetter_0 rfl (bs_bipush hX dX7_isLetter_1 (by decide) (bs_icmplt hX dX7_isLetter_3 (tgt := 16) (by decide) (sX7_isLetter_16 hX hR) (bs_ild_n hX dX7_isLetter_6 rfl (bs_bipush hX dX7_isLetter_7 (by decide) (bs_icmpgt hX dX7_isLetter_9 (tgt := 16) (by decide) (sX7_isLetter_16 hX hR) (bs_iconst hX dX7_isLetter_12 (bs_goto hX dX7_isLetter_13 (tgt := 17) (by decide) (sX7_isLetter_17 hX hR)))))))))
def tX7_isDigit_17 (κ : Nat → bt_K) (Q : Option bt_V → bt_W → Prop) : bt_K := (bt_zret Q)
set_option maxRecDepth 20000 in
set_option maxHeartbeats 4000000 in
theorem sX7_isDigit_17 {X : bt_X} {dd : Nat} {κ : Nat → bt_K} {Q : Option bt_V → bt_W → Prop} (hX : bt_Ok X cX7_isDigit 1 RX7 dd) (hR : bt_Rt X (0, 0) (some .boolean) Q) : bt_Snd X 1 (0, 0) 17 (tX7_isDigit_17 κ Q) := by
  unfold tX7_isDigit_17
  exact (bs_zret hX dX7_isDigit_17 hR)
def tX7_isDigit_16 (κ : Nat → bt_K) (Q : Option bt_V → bt_W → Prop) : bt_K := (bt_ic 0 (tX7_isDigit_17 κ Q))
set_option maxRecDepth 20000 in
set_option maxHeartbeats 4000000 in
theorem sX7_isDigit_16 {X : bt_X} {dd : Nat} {κ : Nat → bt_K} {Q : Option bt_V → bt_W → Prop} (hX : bt_Ok X cX7_isDigit 1 RX7 dd) (hR : bt_Rt X (0, 0) (some .boolean) Q) : bt_Snd X 1 (0, 0) 16 (tX7_isDigit_16 κ Q) := by
  unfold tX7_isDigit_16
  exact (bs_iconst hX dX7_isDigit_16 (sX7_isDigit_17 hX hR))
def tX7_isDigit_0 (κ : Nat → bt_K) (Q : Option bt_V → bt_W → Prop) : bt_K := (bt_ild 0 (bt_ic 48 (bt_icmplt (tX7_isDigit_16 κ Q) (bt_ild 0 (bt_ic 57 (bt_icmpgt (tX7_isDigit_16 κ Q) (bt_ic 1 (tX7_isDigit_17 κ Q))))))))
set_option maxRecDepth 20000 in
set_option maxHeartbeats 4000000 in
theorem sX7_isDigit_0 {X : bt_X} {dd : Nat} {κ : Nat → bt_K} {Q : Option bt_V → bt_W → Prop} (hX : bt_Ok X cX7_isDigit 1 RX7 dd) (hR : bt_Rt X (0, 0) (some .boolean) Q) : bt_Snd X 1 (0, 0) 0 (tX7_isDigit_0 κ Q) := by
  unfold tX7_isDigit_0
  exact (bs_ild_n hX dX7_isDigit_0 rfl (bs_bipush hX dX7_isDigit_1 (by decide) (bs_icmplt hX dX7_isDigit_3 (tgt := 16) (by decide) (sX7_isDigit_16 hX hR) (bs_ild_n hX dX7_isDigit_6 rfl (bs_bipush hX dX7_isDigit_7 (by decide) (bs_icmpgt hX dX7_isDigit_9 (tgt := 16) (by decide) (sX7_isDigit_16 hX hR) (bs_iconst hX dX7_isDigit_12 (bs_goto hX dX7_isDigit_13 (tgt := 17) (by decide) (sX7_isDigit_17 hX hR)))))))))
def tX7_isSign_53 (κ : Nat → bt_K) (Q : Option bt_V → bt_W → Prop) : bt_K := (bt_zret Q)
set_option maxRecDepth 20000 in
set_option maxHeartbeats 4000000 in
theorem sX7_isSign_53 {X : bt_X} {dd : Nat} {κ : Nat → bt_K} {Q : Option bt_V → bt_W → Prop} (hX : bt_Ok X cX7_isSign 1 RX7 dd) (hR : bt_Rt X (0, 0) (some .boolean) Q) : bt_Snd X 1 (0, 0) 53 (tX7_isSign_53 κ Q) := by
  unfold tX7_isSign_53
  exact (bs_zret hX dX7_isSign_53 hR)
def tX7_isSign_48 (κ : Nat → bt_K) (Q : Option bt_V → bt_W → Prop) : bt_K := (bt_ic 1 (tX7_isSign_53 κ Q))
set_option maxRecDepth 20000 in
set_option maxHeartbeats 4000000 in
theorem sX7_isSign_48 {X : bt_X} {dd : Nat} {κ : Nat → bt_K} {Q : Option bt_V → bt_W → Prop} (hX : bt_Ok X cX7_isSign 1 RX7 dd) (hR : bt_Rt X (0, 0) (some .boolean) Q) : bt_Snd X 1 (0, 0) 48 (tX7_isSign_48 κ Q) := by
  unfold tX7_isSign_48
  exact (bs_iconst hX dX7_isSign_48 (bs_goto hX dX7_isSign_49 (tgt := 53) (by decide) (sX7_isSign_53 hX hR)))
def tX7_isSign_0 (κ : Nat → bt_K) (Q : Option bt_V → bt_W → Prop) : bt_K := (bt_ild 0 (bt_ic 40 (bt_icmpeq (tX7_isSign_48 κ Q) (bt_ild 0 (bt_ic 41 (bt_icmpeq (tX7_isSign_48 κ Q) (bt_ild 0 (bt_ic 60 (bt_icmpeq (tX7_isSign_48 κ Q) (bt_ild 0 (bt_ic 61 (bt_icmpeq (tX7_isSign_48 κ Q) (bt_ild 0 (bt_ic 43 (bt_icmpeq (tX7_isSign_48 κ Q) (bt_ild 0 (bt_ic 45 (bt_icmpeq (tX7_isSign_48 κ Q) (bt_ild 0 (bt_ic 42 (bt_icmpeq (tX7_isSign_48 κ Q) (bt_ild 0 (bt_ic 59 (bt_icmpne (bt_ic 0 (tX7_isSign_53 κ Q)) (tX7_isSign_48 κ Q)))))))))))))))))))))))))
set_option maxRecDepth 20000 in
set_option maxHeartbeats 4000000 in
theorem sX7_isSign_0 {X : bt_X} {dd : Nat} {κ : Nat → bt_K} {Q : Option bt_V → bt_W → Prop} (hX : bt_Ok X cX7_isSign 1 RX7 dd) (hR : bt_Rt X (0, 0) (some .boolean) Q) : bt_Snd X 1 (0, 0) 0 (tX7_isSign_0 κ Q) := by
  unfold tX7_isSign_0
  exact (bs_ild_n hX dX7_isSign_0 rfl (bs_bipush hX dX7_isSign_1 (by decide) (bs_icmpeq hX dX7_isSign_3 (tgt := 48) (by decide) (sX7_isSign_48 hX hR) (bs_ild_n hX dX7_isSign_6 rfl (bs_bipush hX dX7_isSign_7 (by decide) (bs_icmpeq hX dX7_isSign_9 (tgt := 48) (by decide) (sX7_isSign_48 hX hR) (bs_ild_n hX dX7_isSign_12 rfl (bs_bipush hX dX7_isSign_13 (by decide) (bs_icmpeq hX dX7_isSign_15 (tgt := 48) (by decide) (sX7_isSign_48 hX hR) (bs_ild_n hX dX7_isSign_18 rfl (bs_bipush hX dX7_isSign_19 (by decide) (bs_icmpeq hX dX7_isSign_21 (tgt := 48) (by decide) (sX7_isSign_48 hX hR) (bs_ild_n hX dX7_isSign_24 rfl (bs_bipush hX dX7_isSign_25 (by decide) (bs_icmpeq hX dX7_isSign_27 (tgt := 48) (by decide) (sX7_isSign_48 hX hR) (bs_ild_n hX dX7_isSign_30 rfl (bs_bipush hX dX7_isSign_31 (by decide) (bs_icmpeq hX dX7_isSign_33 (tgt := 48) (by decide) (sX7_isSign_48 hX hR) (bs_ild_n hX dX7_isSign_36 rfl (bs_bipush hX dX7_isSign_37 (by decide) (bs_icmpeq hX dX7_isSign_39 (tgt := 48) (by decide) (sX7_isSign_48 hX hR) (bs_ild_n hX dX7_isSign_42 rfl (bs_bipush hX dX7_isSign_43 (by decide) (bs_icmpne hX dX7_isSign_45 (tgt := 52) (by decide) (bs_iconst hX dX7_isSign_52 (sX7_isSign_53 hX hR)) (sX7_isSign_48 hX hR)))))))))))))))))))))))))
def tX7_isWord_21 (κ : Nat → bt_K) (Q : Option bt_V → bt_W → Prop) : bt_K := (bt_zret Q)
set_option maxRecDepth 20000 in
set_option maxHeartbeats 4000000 in
theorem sX7_isWord_21 {X : bt_X} {dd : Nat} {κ : Nat → bt_K} {Q : Option bt_V → bt_W → Prop} (hX : bt_Ok X cX7_isWord 2 RX7 dd) (hR : bt_Rt X (0, 0) (some .boolean) Q) : bt_Snd X 2 (0, 0) 21 (tX7_isWord_21 κ Q) := by
  unfold tX7_isWord_21
  exact (bs_zret hX dX7_isWord_21 hR)
def tX7_isWord_20 (κ : Nat → bt_K) (Q : Option bt_V → bt_W → Prop) : bt_K := (bt_ic 0 (tX7_isWord_21 κ Q))
set_option maxRecDepth 20000 in
set_option maxHeartbeats 4000000 in
theorem sX7_isWord_20 {X : bt_X} {dd : Nat} {κ : Nat → bt_K} {Q : Option bt_V → bt_W → Prop} (hX : bt_Ok X cX7_isWord 2 RX7 dd) (hR : bt_Rt X (0, 0) (some .boolean) Q) : bt_Snd X 2 (0, 0) 20 (tX7_isWord_20 κ Q) := by
  unfold tX7_isWord_20
  exact (bs_iconst hX dX7_isWord_20 (sX7_isWord_21 hX hR))
def tX7_isWord_0 (κ : Nat → bt_K) (Q : Option bt_V → bt_W → Prop) : bt_K := (bt_ald 0 (bt_gfI 7 6 (bt_ic 1 (bt_icmpne (tX7_isWord_20 κ Q) (bt_ald 0 (bt_gfI 7 8 (bt_ild 1 (bt_icmpne (tX7_isWord_20 κ Q) (bt_ic 1 (tX7_isWord_21 κ Q))))))))))
set_option maxRecDepth 20000 in
set_option maxHeartbeats 4000000 in
theorem sX7_isWord_0 {X : bt_X} {dd : Nat} {κ : Nat → bt_K} {Q : Option bt_V → bt_W → Prop} (hX : bt_Ok X cX7_isWord 2 RX7 dd) (hR : bt_Rt X (0, 0) (some .boolean) Q) : bt_Snd X 2 (0, 0) 0 (tX7_isWord_0 κ Q) := by
  unfold tX7_isWord_0
  exact (bs_ald_n hX dX7_isWord_0 rfl (bs_gfI hX dX7_isWord_1 fl_X7_53 rfl (bs_iconst hX dX7_isWord_4 (bs_icmpne hX dX7_isWord_5 (tgt := 20) (by decide) (sX7_isWord_20 hX hR) (bs_ald_n hX dX7_isWord_8 rfl (bs_gfI hX dX7_isWord_9 fl_X7_76 rfl (bs_ild_n hX dX7_isWord_12 rfl (bs_icmpne hX dX7_isWord_13 (tgt := 20) (by decide) (sX7_isWord_20 hX hR) (bs_iconst hX dX7_isWord_16 (bs_goto hX dX7_isWord_17 (tgt := 21) (by decide) (sX7_isWord_21 hX hR)))))))))))
def tX7_isName_30 (κ : Nat → bt_K) (Q : Option bt_V → bt_W → Prop) : bt_K := (bt_zret Q)
set_option maxRecDepth 20000 in
set_option maxHeartbeats 4000000 in
theorem sX7_isName_30 {X : bt_X} {dd : Nat} {κ : Nat → bt_K} {Q : Option bt_V → bt_W → Prop} (hX : bt_Ok X cX7_isName 1 RX7 dd) (hR : bt_Rt X (0, 0) (some .boolean) Q) : bt_Snd X 1 (0, 0) 30 (tX7_isName_30 κ Q) := by
  unfold tX7_isName_30
  exact (bs_zret hX dX7_isName_30 hR)
def tX7_isName_29 (κ : Nat → bt_K) (Q : Option bt_V → bt_W → Prop) : bt_K := (bt_ic 0 (tX7_isName_30 κ Q))
set_option maxRecDepth 20000 in
set_option maxHeartbeats 4000000 in
theorem sX7_isName_29 {X : bt_X} {dd : Nat} {κ : Nat → bt_K} {Q : Option bt_V → bt_W → Prop} (hX : bt_Ok X cX7_isName 1 RX7 dd) (hR : bt_Rt X (0, 0) (some .boolean) Q) : bt_Snd X 1 (0, 0) 29 (tX7_isName_29 κ Q) := by
  unfold tX7_isName_29
  exact (bs_iconst hX dX7_isName_29 (sX7_isName_30 hX hR))
def tX7_isName_25 (κ : Nat → bt_K) (Q : Option bt_V → bt_W → Prop) : bt_K := (bt_ic 1 (tX7_isName_30 κ Q))
set_option maxRecDepth 20000 in
set_option maxHeartbeats 4000000 in
theorem sX7_isName_25 {X : bt_X} {dd : Nat} {κ : Nat → bt_K} {Q : Option bt_V → bt_W → Prop} (hX : bt_Ok X cX7_isName 1 RX7 dd) (hR : bt_Rt X (0, 0) (some .boolean) Q) : bt_Snd X 1 (0, 0) 25 (tX7_isName_25 κ Q) := by
  unfold tX7_isName_25
  exact (bs_iconst hX dX7_isName_25 (bs_goto hX dX7_isName_26 (tgt := 30) (by decide) (sX7_isName_30 hX hR)))
def tX7_isName_0 (κ : Nat → bt_K) (Q : Option bt_V → bt_W → Prop) : bt_K := (bt_ald 0 (bt_gfI 7 6 (bt_ic 1 (bt_icmpne (tX7_isName_29 κ Q) (bt_ald 0 (bt_gfI 7 8 (bt_ic (-1) (bt_icmpeq (tX7_isName_25 κ Q) (bt_ald 0 (bt_gfI 7 8 (bt_ic 25 (bt_icmplt (tX7_isName_29 κ Q) (tX7_isName_25 κ Q)))))))))))))
set_option maxRecDepth 20000 in
set_option maxHeartbeats 4000000 in
theorem sX7_isName_0 {X : bt_X} {dd : Nat} {κ : Nat → bt_K} {Q : Option bt_V → bt_W → Prop} (hX : bt_Ok X cX7_isName 1 RX7 dd) (hR : bt_Rt X (0, 0) (some .boolean) Q) : bt_Snd X 1 (0, 0) 0 (tX7_isName_0 κ Q) := by
  unfold tX7_isName_0
  exact (bs_ald_n hX dX7_isName_0 rfl (bs_gfI hX dX7_isName_1 fl_X7_53 rfl (bs_iconst hX dX7_isName_4 (bs_icmpne hX dX7_isName_5 (tgt := 29) (by decide) (sX7_isName_29 hX hR) (bs_ald_n hX dX7_isName_8 rfl (bs_gfI hX dX7_isName_9 fl_X7_76 rfl (bs_iconst hX dX7_isName_12 (bs_icmpeq hX dX7_isName_13 (tgt := 25) (by decide) (sX7_isName_25 hX hR) (bs_ald_n hX dX7_isName_16 rfl (bs_gfI hX dX7_isName_17 fl_X7_76 rfl (bs_bipush hX dX7_isName_20 (by decide) (bs_icmplt hX dX7_isName_22 (tgt := 29) (by decide) (sX7_isName_29 hX hR) (sX7_isName_25 hX hR)))))))))))))
def tX7_passWord_0 (S0 : bt_Sp) (S1 : bt_Sp) (S2 : bt_Sp) (κ : Nat → bt_K) (Q : Option bt_V → bt_W → Prop) : bt_K := (bt_ald 0 (bt_ild 1 (bt_cV 1 [2, 0] 7 S0 (bt_ifne (bt_ald 0 (bt_cV 0 [2] 7 S2 (bt_ic 1 (bt_zret Q)))) (bt_ald 0 (bt_ic 1 (bt_cV 1 [2, 0] 7 S1 (bt_zret Q))))))))
set_option maxRecDepth 20000 in
set_option maxHeartbeats 4000000 in
theorem sX7_passWord_0 {X : bt_X} {dd : Nat} {κ : Nat → bt_K} {Q : Option bt_V → bt_W → Prop} {S0 : bt_Sp} {d0 : Nat} {S1 : bt_Sp} {d1 : Nat} {S2 : bt_Sp} {d2 : Nat} (hX : bt_Ok X cX7_passWord 2 RX7 dd) (hR : bt_Rt X (0, 0) (some .boolean) Q) (m0 : bt_Met yX7_isWord cX7_isWord 2 (some .boolean) d0 [2, 0] S0) (q0 : d0 + 1 ≤ dd) (m1 : bt_Met yX7_fail cX7_fail 2 (some .boolean) d1 [2, 0] S1) (q1 : d1 + 1 ≤ dd) (m2 : bt_Met yX7_step cX7_step 1 none d2 [2] S2) (q2 : d2 + 1 ≤ dd) : bt_Snd X 2 (0, 0) 0 (tX7_passWord_0 S0 S1 S2 κ Q) := by
  unfold tX7_passWord_0
  exact (bs_ald_n hX dX7_passWord_0 rfl (bs_ild_n hX dX7_passWord_1 rfl (bs_cV hX dX7_passWord_2 m0 cv_X7_82 ⟨q0, by decide, rfl, rfl⟩ (bs_ifne hX dX7_passWord_5 (tgt := 14) (by decide) (bs_ald_n hX dX7_passWord_14 rfl (bs_cV hX dX7_passWord_15 m2 cv_X7_47 ⟨q2, by decide, rfl, rfl⟩ (bs_iconst hX dX7_passWord_18 (bs_zret hX dX7_passWord_19 hR)))) (bs_ald_n hX dX7_passWord_8 rfl (bs_iconst hX dX7_passWord_9 (bs_cV hX dX7_passWord_10 m1 cv_X7_85 ⟨q1, by decide, rfl, rfl⟩ (bs_zret hX dX7_passWord_13 hR))))))))
def tX7_passSign_0 (S0 : bt_Sp) (S1 : bt_Sp) (κ : Nat → bt_K) (Q : Option bt_V → bt_W → Prop) : bt_K := (bt_ald 0 (bt_gfI 7 6 (bt_ild 1 (bt_icmpeq (bt_ald 0 (bt_cV 0 [2] 7 S1 (bt_ic 1 (bt_zret Q)))) (bt_ald 0 (bt_ic 1 (bt_cV 1 [2, 0] 7 S0 (bt_zret Q))))))))
set_option maxRecDepth 20000 in
set_option maxHeartbeats 4000000 in
theorem sX7_passSign_0 {X : bt_X} {dd : Nat} {κ : Nat → bt_K} {Q : Option bt_V → bt_W → Prop} {S0 : bt_Sp} {d0 : Nat} {S1 : bt_Sp} {d1 : Nat} (hX : bt_Ok X cX7_passSign 2 RX7 dd) (hR : bt_Rt X (0, 0) (some .boolean) Q) (m0 : bt_Met yX7_fail cX7_fail 2 (some .boolean) d0 [2, 0] S0) (q0 : d0 + 1 ≤ dd) (m1 : bt_Met yX7_step cX7_step 1 none d1 [2] S1) (q1 : d1 + 1 ≤ dd) : bt_Snd X 2 (0, 0) 0 (tX7_passSign_0 S0 S1 κ Q) := by
  unfold tX7_passSign_0
  exact (bs_ald_n hX dX7_passSign_0 rfl (bs_gfI hX dX7_passSign_1 fl_X7_53 rfl (bs_ild_n hX dX7_passSign_4 rfl (bs_icmpeq hX dX7_passSign_5 (tgt := 14) (by decide) (bs_ald_n hX dX7_passSign_14 rfl (bs_cV hX dX7_passSign_15 m1 cv_X7_47 ⟨q1, by decide, rfl, rfl⟩ (bs_iconst hX dX7_passSign_18 (bs_zret hX dX7_passSign_19 hR)))) (bs_ald_n hX dX7_passSign_8 rfl (bs_iconst hX dX7_passSign_9 (bs_cV hX dX7_passSign_10 m0 cv_X7_85 ⟨q0, by decide, rfl, rfl⟩ (bs_zret hX dX7_passSign_13 hR))))))))
