def tJ6_bitCount_0f7a4_0 (κ : Nat → bt_K) (Q : Option bt_V → bt_W → Prop) : bt_K := (bt_ild 0 (bt_ild 0 (bt_ic 1 (bt_iushr (bt_ic (1431655765) (bt_iand (bt_isub (bt_ist 0 (bt_ild 0 (bt_ic (858993459) (bt_iand (bt_ild 0 (bt_ic 2 (bt_iushr (bt_ic (858993459) (bt_iand (bt_iadd (bt_ist 0 (bt_ild 0 (bt_ild 0 (bt_ic 4 (bt_iushr (bt_iadd (bt_ic (252645135) (bt_iand (bt_ist 0 (bt_ild 0 (bt_ild 0 (bt_ic 8 (bt_iushr (bt_iadd (bt_ist 0 (bt_ild 0 (bt_ild 0 (bt_ic 16 (bt_iushr (bt_iadd (bt_ist 0 (bt_ild 0 (bt_ic 63 (bt_iand (bt_iret Q))))))))))))))))))))))))))))))))))))))))))
set_option maxRecDepth 20000 in
set_option maxHeartbeats 4000000 in
theorem sJ6_bitCount_0f7a4_0 {X : bt_X} {dd : Nat} {κ : Nat → bt_K} {Q : Option bt_V → bt_W → Prop} (hX : bt_Ok X cJ6_bitCount_0f7a4 1 RJ6 dd) (hR : bt_Rt X (0, 0) (some .int) Q) : bt_Snd X 1 (0, 0) 0 (tJ6_bitCount_0f7a4_0 κ Q) := by
  unfold tJ6_bitCount_0f7a4_0
  exact (bs_ild_n hX dJ6_bitCount_0f7a4_0 rfl (bs_ild_n hX dJ6_bitCount_0f7a4_1 rfl (bs_iconst hX dJ6_bitCount_0f7a4_2 (bs_iushr hX dJ6_bitCount_0f7a4_3 (bs_ldcw hX dJ6_bitCount_0f7a4_4 kc_J6_265 (by decide) (bs_iand hX dJ6_bitCount_0f7a4_7 (bs_isub hX dJ6_bitCount_0f7a4_8 (bs_ist_n hX dJ6_bitCount_0f7a4_9 rfl (by decide) (bs_ild_n hX dJ6_bitCount_0f7a4_10 rfl (bs_ldcw hX dJ6_bitCount_0f7a4_11 kc_J6_266 (by decide) (bs_iand hX dJ6_bitCount_0f7a4_14 (bs_ild_n hX dJ6_bitCount_0f7a4_15 rfl (bs_iconst hX dJ6_bitCount_0f7a4_16 (bs_iushr hX dJ6_bitCount_0f7a4_17 (bs_ldcw hX dJ6_bitCount_0f7a4_18 kc_J6_266 (by decide) (bs_iand hX dJ6_bitCount_0f7a4_21 (bs_iadd hX dJ6_bitCount_0f7a4_22 (bs_ist_n hX dJ6_bitCount_0f7a4_23 rfl (by decide) (bs_ild_n hX dJ6_bitCount_0f7a4_24 rfl (bs_ild_n hX dJ6_bitCount_0f7a4_25 rfl (bs_iconst hX dJ6_bitCount_0f7a4_26 (bs_iushr hX dJ6_bitCount_0f7a4_27 (bs_iadd hX dJ6_bitCount_0f7a4_28 (bs_ldcw hX dJ6_bitCount_0f7a4_29 kc_J6_267 (by decide) (bs_iand hX dJ6_bitCount_0f7a4_32 (bs_ist_n hX dJ6_bitCount_0f7a4_33 rfl (by decide) (bs_ild_n hX dJ6_bitCount_0f7a4_34 rfl (bs_ild_n hX dJ6_bitCount_0f7a4_35 rfl (bs_bipush hX dJ6_bitCount_0f7a4_36 (by decide) (bs_iushr hX dJ6_bitCount_0f7a4_38 (bs_iadd hX dJ6_bitCount_0f7a4_39 (bs_ist_n hX dJ6_bitCount_0f7a4_40 rfl (by decide) (bs_ild_n hX dJ6_bitCount_0f7a4_41 rfl (bs_ild_n hX dJ6_bitCount_0f7a4_42 rfl (bs_bipush hX dJ6_bitCount_0f7a4_43 (by decide) (bs_iushr hX dJ6_bitCount_0f7a4_45 (bs_iadd hX dJ6_bitCount_0f7a4_46 (bs_ist_n hX dJ6_bitCount_0f7a4_47 rfl (by decide) (bs_ild_n hX dJ6_bitCount_0f7a4_48 rfl (bs_bipush hX dJ6_bitCount_0f7a4_49 (by decide) (bs_iand hX dJ6_bitCount_0f7a4_51 (bs_iret hX dJ6_bitCount_0f7a4_52 hR))))))))))))))))))))))))))))))))))))))))))
def tJ9_max_7cf53_10 (κ : Nat → bt_K) (Q : Option bt_V → bt_W → Prop) : bt_K := (bt_iret Q)
set_option maxRecDepth 20000 in
set_option maxHeartbeats 4000000 in
theorem sJ9_max_7cf53_10 {X : bt_X} {dd : Nat} {κ : Nat → bt_K} {Q : Option bt_V → bt_W → Prop} (hX : bt_Ok X cJ9_max_7cf53 2 RJ9 dd) (hR : bt_Rt X (0, 0) (some .int) Q) : bt_Snd X 2 (0, 0) 10 (tJ9_max_7cf53_10 κ Q) := by
  unfold tJ9_max_7cf53_10
  exact (bs_iret hX dJ9_max_7cf53_10 hR)
def tJ9_max_7cf53_0 (κ : Nat → bt_K) (Q : Option bt_V → bt_W → Prop) : bt_K := (bt_ild 0 (bt_ild 1 (bt_icmplt (bt_ild 1 (tJ9_max_7cf53_10 κ Q)) (bt_ild 0 (tJ9_max_7cf53_10 κ Q)))))
set_option maxRecDepth 20000 in
set_option maxHeartbeats 4000000 in
theorem sJ9_max_7cf53_0 {X : bt_X} {dd : Nat} {κ : Nat → bt_K} {Q : Option bt_V → bt_W → Prop} (hX : bt_Ok X cJ9_max_7cf53 2 RJ9 dd) (hR : bt_Rt X (0, 0) (some .int) Q) : bt_Snd X 2 (0, 0) 0 (tJ9_max_7cf53_0 κ Q) := by
  unfold tJ9_max_7cf53_0
  exact (bs_ild_n hX dJ9_max_7cf53_0 rfl (bs_ild_n hX dJ9_max_7cf53_1 rfl (bs_icmplt hX dJ9_max_7cf53_2 (tgt := 9) (by decide) (bs_ild_n hX dJ9_max_7cf53_9 rfl (sJ9_max_7cf53_10 hX hR)) (bs_ild_n hX dJ9_max_7cf53_5 rfl (bs_goto hX dJ9_max_7cf53_6 (tgt := 10) (by decide) (sJ9_max_7cf53_10 hX hR))))))
def tJ9_min_7cf53_10 (κ : Nat → bt_K) (Q : Option bt_V → bt_W → Prop) : bt_K := (bt_iret Q)
set_option maxRecDepth 20000 in
set_option maxHeartbeats 4000000 in
theorem sJ9_min_7cf53_10 {X : bt_X} {dd : Nat} {κ : Nat → bt_K} {Q : Option bt_V → bt_W → Prop} (hX : bt_Ok X cJ9_min_7cf53 2 RJ9 dd) (hR : bt_Rt X (0, 0) (some .int) Q) : bt_Snd X 2 (0, 0) 10 (tJ9_min_7cf53_10 κ Q) := by
  unfold tJ9_min_7cf53_10
  exact (bs_iret hX dJ9_min_7cf53_10 hR)
def tJ9_min_7cf53_0 (κ : Nat → bt_K) (Q : Option bt_V → bt_W → Prop) : bt_K := (bt_ild 0 (bt_ild 1 (bt_icmpgt (bt_ild 1 (tJ9_min_7cf53_10 κ Q)) (bt_ild 0 (tJ9_min_7cf53_10 κ Q)))))
set_option maxRecDepth 20000 in
set_option maxHeartbeats 4000000 in
theorem sJ9_min_7cf53_0 {X : bt_X} {dd : Nat} {κ : Nat → bt_K} {Q : Option bt_V → bt_W → Prop} (hX : bt_Ok X cJ9_min_7cf53 2 RJ9 dd) (hR : bt_Rt X (0, 0) (some .int) Q) : bt_Snd X 2 (0, 0) 0 (tJ9_min_7cf53_0 κ Q) := by
  unfold tJ9_min_7cf53_0
  exact (bs_ild_n hX dJ9_min_7cf53_0 rfl (bs_ild_n hX dJ9_min_7cf53_1 rfl (bs_icmpgt hX dJ9_min_7cf53_2 (tgt := 9) (by decide) (bs_ild_n hX dJ9_min_7cf53_9 rfl (sJ9_min_7cf53_10 hX hR)) (bs_ild_n hX dJ9_min_7cf53_5 rfl (bs_goto hX dJ9_min_7cf53_6 (tgt := 10) (by decide) (sJ9_min_7cf53_10 hX hR))))))
