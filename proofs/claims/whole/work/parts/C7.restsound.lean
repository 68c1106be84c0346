theorem cs_X10_288 : bt_CS RX10 288 yX10_isRest cX10_isRest 5 (some .boolean) 4 := ⟨⟨⟨by decide, by decide, by decide⟩, bt_m 1196 (by decide +kernel) rfl, bt_m 1194 (by decide +kernel) rfl, bt_m 1 (by decide +kernel) rfl⟩, bt_m 1195 (by decide +kernel) rfl⟩
set_option maxRecDepth 20000 in
set_option maxHeartbeats 4000000 in
theorem sX10_rests_86 {X : bt_X} {PX : bt_W → Prop} {κ : Nat → bt_K} {Q : Option bt_V → bt_W → Prop} {S0 : bt_Sp} {d0 : Nat} (hX : bt_Ow X cX10_rests 7 RX10 (bt_rw 10 1 6)) (hR : bt_Rx X Q PX) (m0 : bt_Met yX10_isRest cX10_isRest 5 (some .boolean) d0 [0, 0, 0, 0] S0) (q0 : d0 + 1 ≤ 10) (h39 : bt_Snd X 7 (0, 0) 39 (κ 39)) (h49 : bt_Snd X 7 (0, 0) 49 (κ 49)) : bt_Snd X 7 (0, 0) 86 (tX10_rests_86 S0 κ Q PX) := by
  unfold tX10_rests_86
  exact (bw_iinc hX dX10_rests_86 (by decide) (bw_goto hX dX10_rests_89 (tgt := 49) (by decide) h49))
set_option maxRecDepth 20000 in
set_option maxHeartbeats 4000000 in
theorem sX10_rests_49 {X : bt_X} {PX : bt_W → Prop} {κ : Nat → bt_K} {Q : Option bt_V → bt_W → Prop} {S0 : bt_Sp} {d0 : Nat} (hX : bt_Ow X cX10_rests 7 RX10 (bt_rw 10 1 6)) (hR : bt_Rx X Q PX) (m0 : bt_Met yX10_isRest cX10_isRest 5 (some .boolean) d0 [0, 0, 0, 0] S0) (q0 : d0 + 1 ≤ 10) (h39 : bt_Snd X 7 (0, 0) 39 (κ 39)) (h49 : bt_Snd X 7 (0, 0) 49 (κ 49)) : bt_Snd X 7 (0, 0) 49 (tX10_rests_49 S0 κ Q PX) := by
  unfold tX10_rests_49
  exact (bw_ild hX dX10_rests_49 (bw_bipush hX dX10_rests_51 (by decide) (bw_icmpgt hX dX10_rests_53 (tgt := 92) (by decide) (bw_iinc hX dX10_rests_92 (by decide) (bw_goto hX dX10_rests_95 (tgt := 39) (by decide) (bs_kill h39))) (bw_ild_n hX dX10_rests_56 rfl (bw_ild_n hX dX10_rests_57 rfl (bw_ild hX dX10_rests_58 (bw_ild hX dX10_rests_60 (bw_cS hX dX10_rests_62 m0 cs_X10_288 ⟨⟨q0, Nat.mul_le_mul_left 64 q0⟩, by decide, rfl, Nat.zero_le _, Nat.zero_le _⟩ (bw_ifeq hX dX10_rests_65 (tgt := 86) (by decide) (sX10_rests_86 hX hR m0 q0 h39 h49) (bw_ild hX dX10_rests_68 (bw_ild_n hX dX10_rests_70 rfl (bw_icmpne hX dX10_rests_71 (tgt := 83) (by decide) (bw_iinc hX dX10_rests_83 (by decide) (sX10_rests_86 hX hR m0 q0 h39 h49)) (bw_bipush hX dX10_rests_74 (by decide) (bw_ild hX dX10_rests_76 (bw_imul hX dX10_rests_78 (bw_ild hX dX10_rests_79 (bw_iadd hX dX10_rests_81 (bw_xret hX dX10_rests_82 hR))))))))))))))))))
set_option maxRecDepth 20000 in
set_option maxHeartbeats 4000000 in
theorem sX10_rests_39 {X : bt_X} {PX : bt_W → Prop} {κ : Nat → bt_K} {Q : Option bt_V → bt_W → Prop} {S0 : bt_Sp} {d0 : Nat} (hX : bt_Ow X cX10_rests 7 RX10 (bt_rw 10 1 6)) (hR : bt_Rx X Q PX) (m0 : bt_Met yX10_isRest cX10_isRest 5 (some .boolean) d0 [0, 0, 0, 0] S0) (q0 : d0 + 1 ≤ 10) (h39 : bt_Snd X 7 (0, 0) 39 (κ 39)) (h49 : bt_Snd X 7 (0, 0) 49 (κ 49)) : bt_Snd X 7 (0, 0) 39 (tX10_rests_39 S0 κ Q PX) := by
  unfold tX10_rests_39
  exact (bw_ild hX dX10_rests_39 (bw_bipush hX dX10_rests_41 (by decide) (bw_icmpgt hX dX10_rests_43 (tgt := 98) (by decide) (bw_ild_n hX dX10_rests_98 rfl (bw_iconst hX dX10_rests_99 (bw_icmpeq hX dX10_rests_100 (tgt := 111) (by decide) (bw_ild hX dX10_rests_111 (bw_xret hX dX10_rests_113 hR)) (bw_thr hX hR dX10_rests_103 dX10_rests_106 dX10_rests_107 dX10_rests_110)))) (bw_iconst hX dX10_rests_46 (bw_ist hX dX10_rests_47 (by decide) h49)))))
set_option maxRecDepth 20000 in
set_option maxHeartbeats 4000000 in
theorem sX10_rests_25 {X : bt_X} {PX : bt_W → Prop} {κ : Nat → bt_K} {Q : Option bt_V → bt_W → Prop} {S0 : bt_Sp} {d0 : Nat} (hX : bt_Ow X cX10_rests 7 RX10 (bt_rw 10 1 6)) (hR : bt_Rx X Q PX) (m0 : bt_Met yX10_isRest cX10_isRest 5 (some .boolean) d0 [0, 0, 0, 0] S0) (q0 : d0 + 1 ≤ 10) (h39 : bt_Snd X 7 (0, 0) 39 (κ 39)) (h49 : bt_Snd X 7 (0, 0) 49 (κ 49)) : bt_Snd X 7 (0, 0) 25 (tX10_rests_25 S0 κ Q PX) := by
  unfold tX10_rests_25
  exact (bw_thr hX hR dX10_rests_25 dX10_rests_28 dX10_rests_29 dX10_rests_32)
set_option maxRecDepth 20000 in
set_option maxHeartbeats 4000000 in
theorem sX10_rests_0 {X : bt_X} {PX : bt_W → Prop} {κ : Nat → bt_K} {Q : Option bt_V → bt_W → Prop} {S0 : bt_Sp} {d0 : Nat} (hX : bt_Ow X cX10_rests 7 RX10 (bt_rw 10 1 6)) (hR : bt_Rx X Q PX) (m0 : bt_Met yX10_isRest cX10_isRest 5 (some .boolean) d0 [0, 0, 0, 0] S0) (q0 : d0 + 1 ≤ 10) (h39 : bt_Snd X 7 (0, 0) 39 (κ 39)) (h49 : bt_Snd X 7 (0, 0) 49 (κ 49)) : bt_Snd X 7 (0, 0) 0 (tX10_rests_0 S0 κ Q PX) := by
  unfold tX10_rests_0
  exact (bw_ild_n hX dX10_rests_0 rfl (bw_iflt hX dX10_rests_1 (tgt := 25) (by decide) (sX10_rests_25 hX hR m0 q0 h39 h49) (bw_ild_n hX dX10_rests_4 rfl (bw_bipush hX dX10_rests_5 (by decide) (bw_icmpgt hX dX10_rests_7 (tgt := 25) (by decide) (sX10_rests_25 hX hR m0 q0 h39 h49) (bw_ild_n hX dX10_rests_10 rfl (bw_iflt hX dX10_rests_11 (tgt := 25) (by decide) (sX10_rests_25 hX hR m0 q0 h39 h49) (bw_ild_n hX dX10_rests_14 rfl (bw_bipush hX dX10_rests_15 (by decide) (bw_icmpgt hX dX10_rests_17 (tgt := 25) (by decide) (sX10_rests_25 hX hR m0 q0 h39 h49) (bw_ild_n hX dX10_rests_20 rfl (bw_iconst hX dX10_rests_21 (bw_icmpge hX dX10_rests_22 (tgt := 33) (by decide) (bw_iconst hX dX10_rests_33 (bw_ist hX dX10_rests_34 (by decide) (bw_iconst hX dX10_rests_36 (bw_ist hX dX10_rests_37 (by decide) (bs_kill h39))))) (sX10_rests_25 hX hR m0 q0 h39 h49))))))))))))))
