def tX6_copy_0 (κ : Nat → bt_K) (Q : Option bt_V → bt_W → Prop) : bt_K := (bt_ald 0 (bt_ald 1 (bt_gfI 6 0 (bt_pfI 6 0 (bt_ald 0 (bt_ald 1 (bt_gfI 6 1 (bt_pfI 6 1 (bt_ald 1 (bt_gfR 6 2 (bt_ic 0 (bt_ald 0 (bt_gfR 6 2 (bt_ic 0 (bt_ic 6 (bt_acp (bt_ald 1 (bt_gfR 6 3 (bt_ic 0 (bt_ald 0 (bt_gfR 6 3 (bt_ic 0 (bt_ic 6 (bt_acp (bt_ald 1 (bt_gfR 6 4 (bt_ic 0 (bt_ald 0 (bt_gfR 6 4 (bt_ic 0 (bt_ic 5 (bt_acp (bt_vret Q)))))))))))))))))))))))))))))))))
set_option maxRecDepth 20000 in
set_option maxHeartbeats 4000000 in
theorem sX6_copy_0 {X : bt_X} {dd : Nat} {κ : Nat → bt_K} {Q : Option bt_V → bt_W → Prop} (hX : bt_Ok X cX6_copy 2 RX6 dd) (hR : bt_Rt X (0, 0) none Q) (hac : 1 ≤ dd ∧ 8 + (nativeFrameWords "java/lang/System" "arraycopy" 5 + 11) ≤ 64 * dd) : bt_Snd X 2 (0, 0) 0 (tX6_copy_0 κ Q) := by
  unfold tX6_copy_0
  exact (bs_ald_n hX dX6_copy_0 rfl (bs_ald_n hX dX6_copy_1 rfl (bs_gfI hX dX6_copy_2 fl_X6_21 rfl (bs_pfI hX dX6_copy_5 fl_X6_21 rfl (fun q hq => by cases hq; rfl) (bs_ald_n hX dX6_copy_8 rfl (bs_ald_n hX dX6_copy_9 rfl (bs_gfI hX dX6_copy_10 fl_X6_25 rfl (bs_pfI hX dX6_copy_13 fl_X6_25 rfl (fun q hq => by cases hq; rfl) (bs_ald_n hX dX6_copy_16 rfl (bs_gfR hX dX6_copy_17 fl_X6_9 rfl (bs_iconst hX dX6_copy_20 (bs_ald_n hX dX6_copy_21 rfl (bs_gfR hX dX6_copy_22 fl_X6_9 rfl (bs_iconst hX dX6_copy_25 (bs_bipush hX dX6_copy_26 (by decide) (bs_acp hX dX6_copy_28 ac_X6_28 hac (bs_ald_n hX dX6_copy_31 rfl (bs_gfR hX dX6_copy_32 fl_X6_15 rfl (bs_iconst hX dX6_copy_35 (bs_ald_n hX dX6_copy_36 rfl (bs_gfR hX dX6_copy_37 fl_X6_15 rfl (bs_iconst hX dX6_copy_40 (bs_bipush hX dX6_copy_41 (by decide) (bs_acp hX dX6_copy_43 ac_X6_28 hac (bs_ald_n hX dX6_copy_46 rfl (bs_gfR hX dX6_copy_47 fl_X6_18 rfl (bs_iconst hX dX6_copy_50 (bs_ald_n hX dX6_copy_51 rfl (bs_gfR hX dX6_copy_52 fl_X6_18 rfl (bs_iconst hX dX6_copy_55 (bs_iconst hX dX6_copy_56 (bs_acp hX dX6_copy_57 ac_X6_28 hac (bs_vret hX dX6_copy_60 hR)))))))))))))))))))))))))))))))))
def tX6_pacing_24 (κ : Nat → bt_K) (Q : Option bt_V → bt_W → Prop) : bt_K := (bt_inc 3 1 (κ 4))
set_option maxRecDepth 20000 in
set_option maxHeartbeats 4000000 in
theorem sX6_pacing_24 {X : bt_X} {dd : Nat} {κ : Nat → bt_K} {Q : Option bt_V → bt_W → Prop} (hX : bt_Ok X cX6_pacing 4 RX6 dd) (hR : bt_Rt X (0, 0) (some .int) Q) (h4 : bt_Snd X 4 (0, 0) 4 (κ 4)) : bt_Snd X 4 (0, 0) 24 (tX6_pacing_24 κ Q) := by
  unfold tX6_pacing_24
  exact (bs_iinc hX dX6_pacing_24 (by decide) (bs_goto hX dX6_pacing_27 (tgt := 4) (by decide) h4))
def tX6_pacing_4 (κ : Nat → bt_K) (Q : Option bt_V → bt_W → Prop) : bt_K := (bt_ild 3 (bt_ild 1 (bt_icmpge (bt_ild 2 (bt_iret Q)) (bt_ald 0 (bt_gfR 6 3 (bt_ild 3 (bt_ial (bt_ifne (tX6_pacing_24 κ Q) (bt_ild 2 (bt_ic 1 (bt_ild 3 (bt_ishl (bt_ior (bt_ist 2 (tX6_pacing_24 κ Q)))))))))))))))
set_option maxRecDepth 20000 in
set_option maxHeartbeats 4000000 in
theorem sX6_pacing_4 {X : bt_X} {dd : Nat} {κ : Nat → bt_K} {Q : Option bt_V → bt_W → Prop} (hX : bt_Ok X cX6_pacing 4 RX6 dd) (hR : bt_Rt X (0, 0) (some .int) Q) (h4 : bt_Snd X 4 (0, 0) 4 (κ 4)) : bt_Snd X 4 (0, 0) 4 (tX6_pacing_4 κ Q) := by
  unfold tX6_pacing_4
  exact (bs_ild_n hX dX6_pacing_4 rfl (bs_ild_n hX dX6_pacing_5 rfl (bs_icmpge hX dX6_pacing_6 (tgt := 30) (by decide) (bs_ild_n hX dX6_pacing_30 rfl (bs_iret hX dX6_pacing_31 hR)) (bs_ald_n hX dX6_pacing_9 rfl (bs_gfR hX dX6_pacing_10 fl_X6_15 rfl (bs_ild_n hX dX6_pacing_13 rfl (bs_ial hX dX6_pacing_14 (bs_ifne hX dX6_pacing_15 (tgt := 24) (by decide) (sX6_pacing_24 hX hR h4) (bs_ild_n hX dX6_pacing_18 rfl (bs_iconst hX dX6_pacing_19 (bs_ild_n hX dX6_pacing_20 rfl (bs_ishl hX dX6_pacing_21 (bs_ior hX dX6_pacing_22 (bs_ist_n hX dX6_pacing_23 rfl (by decide) (sX6_pacing_24 hX hR h4)))))))))))))))
def tX6_pacing_0 (κ : Nat → bt_K) (Q : Option bt_V → bt_W → Prop) : bt_K := (bt_ic 0 (bt_ist 2 (bt_ic 0 (bt_ist 3 (κ 4)))))
set_option maxRecDepth 20000 in
set_option maxHeartbeats 4000000 in
theorem sX6_pacing_0 {X : bt_X} {dd : Nat} {κ : Nat → bt_K} {Q : Option bt_V → bt_W → Prop} (hX : bt_Ok X cX6_pacing 4 RX6 dd) (hR : bt_Rt X (0, 0) (some .int) Q) (h4 : bt_Snd X 4 (0, 0) 4 (κ 4)) : bt_Snd X 4 (0, 0) 0 (tX6_pacing_0 κ Q) := by
  unfold tX6_pacing_0
  exact (bs_iconst hX dX6_pacing_0 (bs_ist_n hX dX6_pacing_1 rfl (by decide) (bs_iconst hX dX6_pacing_2 (bs_ist_n hX dX6_pacing_3 rfl (by decide) h4))))
def tX6_guestsIn_29 (κ : Nat → bt_K) (Q : Option bt_V → bt_W → Prop) : bt_K := (bt_inc 4 1 (κ 5))
set_option maxRecDepth 20000 in
set_option maxHeartbeats 4000000 in
theorem sX6_guestsIn_29 {X : bt_X} {dd : Nat} {κ : Nat → bt_K} {Q : Option bt_V → bt_W → Prop} (hX : bt_Ok X cX6_guestsIn 5 RX6 dd) (hR : bt_Rt X (0, 0) (some .int) Q) (h5 : bt_Snd X 5 (0, 0) 5 (κ 5)) : bt_Snd X 5 (0, 0) 29 (tX6_guestsIn_29 κ Q) := by
  unfold tX6_guestsIn_29
  exact (bs_iinc hX dX6_guestsIn_29 (by decide) (bs_goto hX dX6_guestsIn_32 (tgt := 5) (by decide) h5))
def tX6_guestsIn_5 (κ : Nat → bt_K) (Q : Option bt_V → bt_W → Prop) : bt_K := (bt_ild 4 (bt_ild 2 (bt_icmpge (bt_ild 3 (bt_iret Q)) (bt_ald 0 (bt_gfR 6 2 (bt_ild 4 (bt_ial (bt_ild 1 (bt_icmpne (tX6_guestsIn_29 κ Q) (bt_ild 3 (bt_ic 1 (bt_ild 4 (bt_ishl (bt_ior (bt_ist 3 (tX6_guestsIn_29 κ Q))))))))))))))))
set_option maxRecDepth 20000 in
set_option maxHeartbeats 4000000 in
theorem sX6_guestsIn_5 {X : bt_X} {dd : Nat} {κ : Nat → bt_K} {Q : Option bt_V → bt_W → Prop} (hX : bt_Ok X cX6_guestsIn 5 RX6 dd) (hR : bt_Rt X (0, 0) (some .int) Q) (h5 : bt_Snd X 5 (0, 0) 5 (κ 5)) : bt_Snd X 5 (0, 0) 5 (tX6_guestsIn_5 κ Q) := by
  unfold tX6_guestsIn_5
  exact (bs_ild hX dX6_guestsIn_5 (bs_ild_n hX dX6_guestsIn_7 rfl (bs_icmpge hX dX6_guestsIn_8 (tgt := 35) (by decide) (bs_ild_n hX dX6_guestsIn_35 rfl (bs_iret hX dX6_guestsIn_36 hR)) (bs_ald_n hX dX6_guestsIn_11 rfl (bs_gfR hX dX6_guestsIn_12 fl_X6_9 rfl (bs_ild hX dX6_guestsIn_15 (bs_ial hX dX6_guestsIn_17 (bs_ild_n hX dX6_guestsIn_18 rfl (bs_icmpne hX dX6_guestsIn_19 (tgt := 29) (by decide) (sX6_guestsIn_29 hX hR h5) (bs_ild_n hX dX6_guestsIn_22 rfl (bs_iconst hX dX6_guestsIn_23 (bs_ild hX dX6_guestsIn_24 (bs_ishl hX dX6_guestsIn_26 (bs_ior hX dX6_guestsIn_27 (bs_ist_n hX dX6_guestsIn_28 rfl (by decide) (sX6_guestsIn_29 hX hR h5))))))))))))))))
def tX6_guestsIn_0 (κ : Nat → bt_K) (Q : Option bt_V → bt_W → Prop) : bt_K := (bt_ic 0 (bt_ist 3 (bt_ic 0 (bt_ist 4 (κ 5)))))
set_option maxRecDepth 20000 in
set_option maxHeartbeats 4000000 in
theorem sX6_guestsIn_0 {X : bt_X} {dd : Nat} {κ : Nat → bt_K} {Q : Option bt_V → bt_W → Prop} (hX : bt_Ok X cX6_guestsIn 5 RX6 dd) (hR : bt_Rt X (0, 0) (some .int) Q) (h5 : bt_Snd X 5 (0, 0) 5 (κ 5)) : bt_Snd X 5 (0, 0) 0 (tX6_guestsIn_0 κ Q) := by
  unfold tX6_guestsIn_0
  exact (bs_iconst hX dX6_guestsIn_0 (bs_ist_n hX dX6_guestsIn_1 rfl (by decide) (bs_iconst hX dX6_guestsIn_2 (bs_ist hX dX6_guestsIn_3 (by decide) h5))))
def tX6_moodsTogether_4 (κ : Nat → bt_K) (Q : Option bt_V → bt_W → Prop) : bt_K := (bt_ild 3 (bt_ild 1 (bt_icmpge (bt_ild 2 (bt_iret Q)) (bt_ild 2 (bt_ald 0 (bt_gfR 6 3 (bt_ild 3 (bt_ial (bt_iadd (bt_ist 2 (bt_inc 3 1 (κ 4))))))))))))
set_option maxRecDepth 20000 in
set_option maxHeartbeats 4000000 in
theorem sX6_moodsTogether_4 {X : bt_X} {dd : Nat} {κ : Nat → bt_K} {Q : Option bt_V → bt_W → Prop} (hX : bt_Ok X cX6_moodsTogether 4 RX6 dd) (hR : bt_Rt X (0, 0) (some .int) Q) (h4 : bt_Snd X 4 (0, 0) 4 (κ 4)) : bt_Snd X 4 (0, 0) 4 (tX6_moodsTogether_4 κ Q) := by
  unfold tX6_moodsTogether_4
  exact (bs_ild_n hX dX6_moodsTogether_4 rfl (bs_ild_n hX dX6_moodsTogether_5 rfl (bs_icmpge hX dX6_moodsTogether_6 (tgt := 24) (by decide) (bs_ild_n hX dX6_moodsTogether_24 rfl (bs_iret hX dX6_moodsTogether_25 hR)) (bs_ild_n hX dX6_moodsTogether_9 rfl (bs_ald_n hX dX6_moodsTogether_10 rfl (bs_gfR hX dX6_moodsTogether_11 fl_X6_15 rfl (bs_ild_n hX dX6_moodsTogether_14 rfl (bs_ial hX dX6_moodsTogether_15 (bs_iadd hX dX6_moodsTogether_16 (bs_ist_n hX dX6_moodsTogether_17 rfl (by decide) (bs_iinc hX dX6_moodsTogether_18 (by decide) (bs_goto hX dX6_moodsTogether_21 (tgt := 4) (by decide) h4))))))))))))
def tX6_moodsTogether_0 (κ : Nat → bt_K) (Q : Option bt_V → bt_W → Prop) : bt_K := (bt_ic 0 (bt_ist 2 (bt_ic 0 (bt_ist 3 (κ 4)))))
set_option maxRecDepth 20000 in
set_option maxHeartbeats 4000000 in
theorem sX6_moodsTogether_0 {X : bt_X} {dd : Nat} {κ : Nat → bt_K} {Q : Option bt_V → bt_W → Prop} (hX : bt_Ok X cX6_moodsTogether 4 RX6 dd) (hR : bt_Rt X (0, 0) (some .int) Q) (h4 : bt_Snd X 4 (0, 0) 4 (κ 4)) : bt_Snd X 4 (0, 0) 0 (tX6_moodsTogether_0 κ Q) := by
  unfold tX6_moodsTogether_0
  exact (bs_iconst hX dX6_moodsTogether_0 (bs_ist_n hX dX6_moodsTogether_1 rfl (by decide) (bs_iconst hX dX6_moodsTogether_2 (bs_ist_n hX dX6_moodsTogether_3 rfl (by decide) h4))))
def tX6_coinsTogether_4 (κ : Nat → bt_K) (Q : Option bt_V → bt_W → Prop) : bt_K := (bt_ild 3 (bt_ild 1 (bt_icmpge (bt_ild 2 (bt_iret Q)) (bt_ild 2 (bt_ald 0 (bt_gfR 6 4 (bt_ild 3 (bt_ial (bt_iadd (bt_ist 2 (bt_inc 3 1 (κ 4))))))))))))
set_option maxRecDepth 20000 in
set_option maxHeartbeats 4000000 in
theorem sX6_coinsTogether_4 {X : bt_X} {dd : Nat} {κ : Nat → bt_K} {Q : Option bt_V → bt_W → Prop} (hX : bt_Ok X cX6_coinsTogether 4 RX6 dd) (hR : bt_Rt X (0, 0) (some .int) Q) (h4 : bt_Snd X 4 (0, 0) 4 (κ 4)) : bt_Snd X 4 (0, 0) 4 (tX6_coinsTogether_4 κ Q) := by
  unfold tX6_coinsTogether_4
  exact (bs_ild_n hX dX6_coinsTogether_4 rfl (bs_ild_n hX dX6_coinsTogether_5 rfl (bs_icmpge hX dX6_coinsTogether_6 (tgt := 24) (by decide) (bs_ild_n hX dX6_coinsTogether_24 rfl (bs_iret hX dX6_coinsTogether_25 hR)) (bs_ild_n hX dX6_coinsTogether_9 rfl (bs_ald_n hX dX6_coinsTogether_10 rfl (bs_gfR hX dX6_coinsTogether_11 fl_X6_18 rfl (bs_ild_n hX dX6_coinsTogether_14 rfl (bs_ial hX dX6_coinsTogether_15 (bs_iadd hX dX6_coinsTogether_16 (bs_ist_n hX dX6_coinsTogether_17 rfl (by decide) (bs_iinc hX dX6_coinsTogether_18 (by decide) (bs_goto hX dX6_coinsTogether_21 (tgt := 4) (by decide) h4))))))))))))
def tX6_coinsTogether_0 (κ : Nat → bt_K) (Q : Option bt_V → bt_W → Prop) : bt_K := (bt_ic 0 (bt_ist 2 (bt_ic 0 (bt_ist 3 (κ 4)))))
set_option maxRecDepth 20000 in
set_option maxHeartbeats 4000000 in
theorem sX6_coinsTogether_0 {X : bt_X} {dd : Nat} {κ : Nat → bt_K} {Q : Option bt_V → bt_W → Prop} (hX : bt_Ok X cX6_coinsTogether 4 RX6 dd) (hR : bt_Rt X (0, 0) (some .int) Q) (h4 : bt_Snd X 4 (0, 0) 4 (κ 4)) : bt_Snd X 4 (0, 0) 0 (tX6_coinsTogether_0 κ Q) := by
  unfold tX6_coinsTogether_0
  exact (bs_iconst hX dX6_coinsTogether_0 (bs_ist_n hX dX6_coinsTogether_1 rfl (by decide) (bs_iconst hX dX6_coinsTogether_2 (bs_ist_n hX dX6_coinsTogether_3 rfl (by decide) h4))))
