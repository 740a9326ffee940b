theorem kw_X12_305 : q_wS RX12 305 yX12_isBit cX12_isBit 2 (some .boolean) 2 := ⟨⟨wl_823, wl_824, wl_5, wl_825⟩, by decide, by decide, by decide +kernel⟩
theorem kw_X12_310 : q_wS RX12 310 yX12_bits cX12_bits 3 (some .int) 1 := ⟨⟨wl_816, wl_817, wl_5, wl_818⟩, by decide, by decide, by decide +kernel⟩
theorem kw_X12_273 : q_wV RX12 RX12 273 yX12_remember cX12_remember 2 none 0 := ⟨q_goodV wl_608 wl_609 wl_610 wl_5 wl_611, rfl, by decide, by decide, by decide +kernel⟩
theorem kw_X12_276 : q_wV RX12 RX12 276 yX12_allDeep cX12_allDeep 4 (some .int) 1 := ⟨q_goodV wl_612 wl_613 wl_614 wl_5 wl_615, rfl, by decide, by decide, by decide +kernel⟩
theorem kw_X12_283 : q_wV RX12 RX12 283 yX12_pass cX12_pass 3 none 0 := ⟨q_goodV wl_697 wl_698 wl_699 wl_5 wl_700, rfl, by decide, by decide, by decide +kernel⟩
theorem kw_X12_286 : q_wV RX12 RX12 286 yX12_areOff cX12_areOff 3 (some .boolean) 0 := ⟨q_goodV wl_764 wl_765 wl_766 wl_5 wl_767, rfl, by decide, by decide, by decide +kernel⟩
theorem kw_X12_289 : q_wV RX12 RX12 289 yX12_takesOne cX12_takesOne 4 (some .boolean) 0 := ⟨q_goodV wl_768 wl_769 wl_770 wl_5 wl_771, rfl, by decide, by decide, by decide +kernel⟩
theorem kw_X12_294 : q_wV RX12 RX12 294 yX12_takesBy cX12_takesBy 9 (some .int) 3 := ⟨q_goodV wl_760 wl_761 wl_762 wl_5 wl_763, rfl, by decide, by decide, by decide +kernel⟩
theorem kw_X12_298 : q_wV RX12 RX12 298 yX12_copyRow cX12_copyRow 4 none 2 := ⟨q_goodV wl_784 wl_785 wl_786 wl_5 wl_787, rfl, by decide, by decide, by decide +kernel⟩
theorem kw_X12_302 : q_wV RX12 RX12 302 yX12_readAt cX12_readAt 4 (some .int) 1 := ⟨q_goodV wl_788 wl_789 wl_790 wl_5 wl_791, rfl, by decide, by decide, by decide +kernel⟩
theorem kw_X12_313 : q_wV RX12 RX12 313 yX12_readBy cX12_readBy 4 (some .int) 1 := ⟨q_goodV wl_819 wl_820 wl_821 wl_5 wl_822, rfl, by decide, by decide, by decide +kernel⟩
theorem kw_X12_316 : q_wV RX12 RX12 316 yX12_base cX12_base 1 (some .int) 0 := ⟨q_goodV wl_875 wl_876 wl_877 wl_5 wl_878, rfl, by decide, by decide, by decide +kernel⟩
theorem kw_X12_320 : q_wV RX12 RX12 320 yX12_whoOf cX12_whoOf 5 (some .int) 2 := ⟨q_goodV wl_883 wl_884 wl_885 wl_5 wl_886, rfl, by decide, by decide, by decide +kernel⟩
theorem kw_X12_323 : q_wV RX12 RX12 323 yX12_isInTime cX12_isInTime 9 (some .boolean) 2 := ⟨q_goodV wl_887 wl_888 wl_889 wl_5 wl_890, rfl, by decide, by decide, by decide +kernel⟩
theorem kw_X12_326 : q_wV RX12 RX12 326 yX12_washedBy cX12_washedBy 5 (some .int) 1 := ⟨q_goodV wl_879 wl_880 wl_881 wl_5 wl_882, rfl, by decide, by decide, by decide +kernel⟩
theorem kw_X12_329 : q_wV RX12 RX12 329 yX12_bestWay cX12_bestWay 6 (some .int) 0 := ⟨q_goodV wl_871 wl_872 wl_873 wl_5 wl_874, rfl, by decide, by decide, by decide +kernel⟩
set_option maxHeartbeats 4000000 in
set_option maxRecDepth 100000 in
theorem c_X12_wash (l : Launch) (G : q_G) (σ : q_S) (a0 : Nat) (h0 : q_T G a0 = 40) (i1 : Int32) (i2 : Int32)  : Met l yX12_wash (Cond.code yX12_wash cX12_wash 3 (some .int) :: wsL_law) (q_Rm 3) (q_Pre G σ [.ref a0, .int i1, .int i2]) (q_Qi G [40, 46, 53] σ (fun r σ1 => q_V (-2147483648) 2147483647 r)) 0 0 (q_N G) := by
  refine q_ofW (ts := [40, 46, 53]) (by decide) (Nat.le_of_ble_eq_true rfl) ?_
  intro p e s m args below meth c hE hr hlocks hW ls hl
  have hE : q_E G p s m args c cX12_wash 3 RX12 := hE
  have hx := hE.1.1
  have hb := hE.1.2.1
  have hl : lv_has ls 3 [(0, .ref a0), (1, .int i1), (2, .int i2)] := hl
  refine lv_aload_n hx hb dX12_wash_0 rfl (lv_at hl 0 rfl) ?_
  refine lv_iload_n hx hb dX12_wash_1 rfl (lv_at hl 1 rfl) ?_
  refine q_goi hW (q_runV (As := [.int i1]) (rest := []) hE hW (c_X12_isWasher l G σ a0 h0 i1) kw_X12_247 (q_recv hE hW h0 rfl q_k12) rfl hl.1 rfl (Nat.le_of_ble_eq_true rfl) dX12_wash_2 ⟨by decide, by decide⟩ ⟨by decide, by decide⟩) (by decide) (fun kx4 ks2 H locs kp1 kf3 hW => ?_)
  refine lv_if_eq (tgt := 16) hx hb dX12_wash_5 (by decide) (fun kc5 => ?_) (fun kc5 => ?_)
  · have kv6 : q_V 0 0 kx4 := q_eq1 kp1.1 (q_c (k := 0) (x := 0) (by decide)) kc5 (by decide) (by decide)
    refine lv_bipush (v := (-2)) hx hb dX12_wash_16 (by decide) ?_
    exact q_reti hE hr hlocks hW (((q_c (k := (-2)) (x := (-2)) (by decide)).w (by decide) (by decide))) dX12_wash_18
  · have kv7 : q_V 0 2 i1 := kp1.2 kc5
    have kv8 : q_V 1 1 kx4 := q_ne1 kp1.1 (q_c (k := 0) (x := 0) (by decide)) kc5 (by decide)
    refine lv_aload_n hx hb dX12_wash_8 rfl (lv_at hl 0 rfl) ?_
    refine lv_iload_n hx hb dX12_wash_9 rfl (lv_at hl 2 rfl) ?_
    refine q_goi hW (q_runV (As := [.int i2]) (rest := []) hE hW (c_X12_isCloud l G ks2 a0 h0 i2) kw_X12_233 (q_recv hE hW h0 rfl q_k12) rfl hl.1 rfl (Nat.le_of_ble_eq_true rfl) dX12_wash_10 ⟨by decide, by decide⟩ ⟨by decide, by decide⟩) (by decide) (fun kx12 ks10 H locs kp9 kf11 hW => ?_)
    refine lv_if_ne (tgt := 19) hx hb dX12_wash_13 (by decide) (fun kc13 => ?_) (fun kc13 => ?_)
    · have kv14 : q_V 0 5 i2 := kp9.2 kc13
      have kv15 : q_V 1 1 kx12 := q_ne1 kp9.1 (q_c (k := 0) (x := 0) (by decide)) kc13 (by decide)
      refine lv_aload_n hx hb dX12_wash_19 rfl (lv_at hl 0 rfl) ?_
      refine q_getr hE hW h0 rfl q_k12 9 (by decide) rfl (hE.l wl_135) dX12_wash_20 (fun kb16 ekb16 hkb16a hkb16b => ?_)
      have hkb16 : q_T G kb16 = 46 := q_tag hkb16a hkb16b
      refine lv_bipush (v := 6) hx hb dX12_wash_23 (by decide) ?_
      refine lv_iload_n hx hb dX12_wash_25 rfl (lv_at hl 2 rfl) ?_
      refine lv_iadd hx hb dX12_wash_26 ?_
      refine lv_topi (fun kx17 ekx17 => ?_)
      have vkx17 : q_V 6 11 kx17 := by rw [ekx17]; exact (q_add (q_c (k := 6) (x := 6) (by decide)) kv14 (by decide) (by decide)).w (by decide) (by decide)
      refine q_iald hE hW hkb16 rfl (q_in vkx17 (by decide) (by decide)) dX12_wash_27 (fun kx18 ekx18 gkx18 => ?_)
      refine lv_if_ne (tgt := 43) hx hb dX12_wash_28 (by decide) (fun kc19 => ?_) (fun kc19 => ?_)
      · refine lv_bipush (v := (-4)) hx hb dX12_wash_43 (by decide) ?_
        exact q_reti hE hr hlocks hW (((q_c (k := (-4)) (x := (-4)) (by decide)).w (by decide) (by decide))) dX12_wash_45
      · have kv20 : q_V 0 0 kx18 := q_eq1 (q_all kx18) (q_c (k := 0) (x := 0) (by decide)) kc19 (by decide) (by decide)
        refine lv_aload_n hx hb dX12_wash_31 rfl (lv_at hl 0 rfl) ?_
        refine q_getr hE hW h0 rfl q_k12 9 (by decide) rfl (hE.l wl_135) dX12_wash_32 (fun kb21 ekb21 hkb21a hkb21b => ?_)
        obtain rfl : kb16 = kb21 := ekb16.symm.trans ekb21
        refine lv_bipush (v := 54) hx hb dX12_wash_35 (by decide) ?_
        refine lv_iload_n hx hb dX12_wash_37 rfl (lv_at hl 1 rfl) ?_
        refine lv_iadd hx hb dX12_wash_38 ?_
        refine lv_topi (fun kx22 ekx22 => ?_)
        have vkx22 : q_V 54 56 kx22 := by rw [ekx22]; exact (q_add (q_c (k := 54) (x := 54) (by decide)) kv7 (by decide) (by decide)).w (by decide) (by decide)
        refine q_iald hE hW hkb16 rfl (q_in vkx22 (by decide) (by decide)) dX12_wash_39 (fun kx23 ekx23 gkx23 => ?_)
        have vkx23 : q_V (-1) 5 kx23 := (gkx23 (q_nat (A := 54) (B := 56) vkx22 (by decide) (by decide)).1 (q_nat (A := 54) (B := 56) vkx22 (by decide) (by decide)).2)
        refine lv_if_lt (tgt := 46) hx hb dX12_wash_40 (by decide) (fun kc24 => ?_) (fun kc24 => ?_)
        · have kv25 : q_V (-1) (-1) kx23 := (q_lt1 vkx23 (q_c (k := 0) (x := 0) (by decide)) kc24).w (by decide) (by decide)
          refine lv_aload_n hx hb dX12_wash_46 rfl (lv_at hl 0 rfl) ?_
          refine q_gov hW (q_runV (As := []) (rest := []) hE hW (c_X12_remember l G ks10 a0 h0) kw_X12_273 (q_recv hE hW h0 rfl q_k12) rfl hl.1 rfl (Nat.le_of_ble_eq_true rfl) dX12_wash_47 ⟨by decide, by decide⟩ ⟨by decide, by decide⟩) (by decide) (fun ks27 H locs kp26 kf28 hW => ?_)
          refine lv_aload_n hx hb dX12_wash_50 rfl (lv_at hl 0 rfl) ?_
          refine q_getr hE hW h0 rfl q_k12 9 (by decide) rfl (hE.l wl_135) dX12_wash_51 (fun kb29 ekb29 hkb29a hkb29b => ?_)
          have hkb29 : q_T G kb29 = 46 := q_tag hkb29a hkb29b
          refine lv_bipush (v := 6) hx hb dX12_wash_54 (by decide) ?_
          refine lv_iload_n hx hb dX12_wash_56 rfl (lv_at hl 2 rfl) ?_
          refine lv_iadd hx hb dX12_wash_57 ?_
          refine lv_topi (fun kx30 ekx30 => ?_)
          obtain rfl : kx17 = kx30 := ekx17.trans ekx30.symm
          refine lv_iconst (v := 1) hx hb dX12_wash_58 (by decide) ?_
          refine q_iast hE hW hkb29 rfl (q_in vkx17 (by decide) (by decide)) (fun q_a q_b => q_out vkx17 q_a q_b (by decide)) (by decide) dX12_wash_59 (fun H locs ks31 kp32 hW => ?_)
          refine lv_aload_n hx hb dX12_wash_60 rfl (lv_at hl 0 rfl) ?_
          refine q_getr hE hW h0 rfl q_k12 9 (by decide) rfl (hE.l wl_135) dX12_wash_61 (fun kb33 ekb33 hkb33a hkb33b => ?_)
          obtain rfl : kb29 = kb33 := ((kp32.2.2.1 _ _).trans ekb29).symm.trans ekb33
          refine lv_bipush (v := 54) hx hb dX12_wash_64 (by decide) ?_
          refine lv_iload_n hx hb dX12_wash_66 rfl (lv_at hl 1 rfl) ?_
          refine lv_iadd hx hb dX12_wash_67 ?_
          refine lv_topi (fun kx34 ekx34 => ?_)
          obtain rfl : kx22 = kx34 := ekx22.trans ekx34.symm
          refine lv_iload_n hx hb dX12_wash_68 rfl (lv_at hl 2 rfl) ?_
          refine q_iast hE hW hkb29 rfl (q_in vkx22 (by decide) (by decide)) (fun _ _ => (kv14.w (by decide) (by decide))) (by decide) dX12_wash_69 (fun H locs ks35 kp36 hW => ?_)
          refine lv_aload_n hx hb dX12_wash_70 rfl (lv_at hl 0 rfl) ?_
          refine lv_iload_n hx hb dX12_wash_71 rfl (lv_at hl 2 rfl) ?_
          refine q_goi hW (q_runV (As := [.int i2]) (rest := []) hE hW (c_X12_allDeep l G ks35 a0 h0 i2 kv14) kw_X12_276 (q_recv hE hW h0 rfl q_k12) rfl hl.1 rfl (Nat.le_of_ble_eq_true rfl) dX12_wash_72 ⟨by decide, by decide⟩ ⟨by decide, by decide⟩) (by decide) (fun kx40 ks38 H locs kp37 kf39 hW => ?_)
          exact q_reti hE hr hlocks hW ((q_all kx40)) dX12_wash_75
        · have kv41 : q_V 0 5 kx23 := (q_le2 (q_c (k := 0) (x := 0) (by decide)) vkx23 (Int32.not_lt.mp kc24)).w (by decide) (by decide)
          refine lv_bipush (v := (-4)) hx hb dX12_wash_43 (by decide) ?_
          exact q_reti hE hr hlocks hW (((q_c (k := (-4)) (x := (-4)) (by decide)).w (by decide) (by decide))) dX12_wash_45
    · have kv42 : q_V 0 0 kx12 := q_eq1 kp9.1 (q_c (k := 0) (x := 0) (by decide)) kc13 (by decide) (by decide)
      refine lv_bipush (v := (-2)) hx hb dX12_wash_16 (by decide) ?_
      exact q_reti hE hr hlocks hW (((q_c (k := (-2)) (x := (-2)) (by decide)).w (by decide) (by decide))) dX12_wash_18
set_option maxHeartbeats 4000000 in
set_option maxRecDepth 100000 in
theorem c_X12_hang (l : Launch) (G : q_G) (σ : q_S) (a0 : Nat) (h0 : q_T G a0 = 40) (i1 : Int32)  : Met l yX12_hang (Cond.code yX12_hang cX12_hang 3 (some .int) :: wsL_law) (q_Rm 3) (q_Pre G σ [.ref a0, .int i1]) (q_Qi G [40, 46, 53] σ (fun r σ1 => q_V (-2147483648) 2147483647 r)) 0 0 (q_N G) := by
  refine q_ofW (ts := [40, 46, 53]) (by decide) (Nat.le_of_ble_eq_true rfl) ?_
  intro p e s m args below meth c hE hr hlocks hW ls hl
  have hE : q_E G p s m args c cX12_hang 3 RX12 := hE
  have hx := hE.1.1
  have hb := hE.1.2.1
  have hl : lv_has ls 3 [(0, .ref a0), (1, .int i1)] := hl
  refine lv_aload_n hx hb dX12_hang_0 rfl (lv_at hl 0 rfl) ?_
  refine lv_iload_n hx hb dX12_hang_1 rfl (lv_at hl 1 rfl) ?_
  refine q_goi hW (q_runV (As := [.int i1]) (rest := []) hE hW (c_X12_isWasher l G σ a0 h0 i1) kw_X12_247 (q_recv hE hW h0 rfl q_k12) rfl hl.1 rfl (Nat.le_of_ble_eq_true rfl) dX12_hang_2 ⟨by decide, by decide⟩ ⟨by decide, by decide⟩) (by decide) (fun kx4 ks2 H locs kp1 kf3 hW => ?_)
  refine lv_if_ne (tgt := 11) hx hb dX12_hang_5 (by decide) (fun kc5 => ?_) (fun kc5 => ?_)
  · have kv6 : q_V 0 2 i1 := kp1.2 kc5
    have kv7 : q_V 1 1 kx4 := q_ne1 kp1.1 (q_c (k := 0) (x := 0) (by decide)) kc5 (by decide)
    refine lv_aload_n hx hb dX12_hang_11 rfl (lv_at hl 0 rfl) ?_
    refine q_getr hE hW h0 rfl q_k12 9 (by decide) rfl (hE.l wl_135) dX12_hang_12 (fun kb8 ekb8 hkb8a hkb8b => ?_)
    have hkb8 : q_T G kb8 = 46 := q_tag hkb8a hkb8b
    refine lv_bipush (v := 54) hx hb dX12_hang_15 (by decide) ?_
    refine lv_iload_n hx hb dX12_hang_17 rfl (lv_at hl 1 rfl) ?_
    refine lv_iadd hx hb dX12_hang_18 ?_
    refine lv_topi (fun kx9 ekx9 => ?_)
    have vkx9 : q_V 54 56 kx9 := by rw [ekx9]; exact (q_add (q_c (k := 54) (x := 54) (by decide)) kv6 (by decide) (by decide)).w (by decide) (by decide)
    refine q_iald hE hW hkb8 rfl (q_in vkx9 (by decide) (by decide)) dX12_hang_19 (fun kx10 ekx10 gkx10 => ?_)
    have vkx10 : q_V (-1) 5 kx10 := (gkx10 (q_nat (A := 54) (B := 56) vkx9 (by decide) (by decide)).1 (q_nat (A := 54) (B := 56) vkx9 (by decide) (by decide)).2)
    refine lv_istore_n (lv' := [(2, .int kx10), (0, .ref a0), (1, .int i1)]) hx hb dX12_hang_20 rfl hl (by decide) rfl (fun ls hl => ?_)
    refine lv_iload_n hx hb dX12_hang_21 rfl (lv_at hl 0 rfl) ?_
    refine lv_if_ge (tgt := 28) hx hb dX12_hang_22 (by decide) (fun kc11 => ?_) (fun kc11 => ?_)
    · have kv12 : q_V 0 5 kx10 := (q_le2 (q_c (k := 0) (x := 0) (by decide)) vkx10 kc11).w (by decide) (by decide)
      refine lv_aload_n hx hb dX12_hang_28 rfl (lv_at hl 1 rfl) ?_
      refine q_gov hW (q_runV (As := []) (rest := []) hE hW (c_X12_remember l G ks2 a0 h0) kw_X12_273 (q_recv hE hW h0 rfl q_k12) rfl hl.1 rfl (Nat.le_of_ble_eq_true rfl) dX12_hang_29 ⟨by decide, by decide⟩ ⟨by decide, by decide⟩) (by decide) (fun ks14 H locs kp13 kf15 hW => ?_)
      refine lv_aload_n hx hb dX12_hang_32 rfl (lv_at hl 1 rfl) ?_
      refine q_getr hE hW h0 rfl q_k12 9 (by decide) rfl (hE.l wl_135) dX12_hang_33 (fun kb16 ekb16 hkb16a hkb16b => ?_)
      have hkb16 : q_T G kb16 = 46 := q_tag hkb16a hkb16b
      refine lv_bipush (v := 54) hx hb dX12_hang_36 (by decide) ?_
      refine lv_iload_n hx hb dX12_hang_38 rfl (lv_at hl 2 rfl) ?_
      refine lv_iadd hx hb dX12_hang_39 ?_
      refine lv_topi (fun kx17 ekx17 => ?_)
      obtain rfl : kx9 = kx17 := ekx9.trans ekx17.symm
      refine lv_iconst (v := (-1)) hx hb dX12_hang_40 (by decide) ?_
      refine q_iast hE hW hkb16 rfl (q_in vkx9 (by decide) (by decide)) (fun _ _ => ((q_c (k := (-1)) (x := (-1)) (by decide)).w (by decide) (by decide))) (by decide) dX12_hang_41 (fun H locs ks18 kp19 hW => ?_)
      refine lv_aload_n hx hb dX12_hang_42 rfl (lv_at hl 1 rfl) ?_
      refine q_getr hE hW h0 rfl q_k12 9 (by decide) rfl (hE.l wl_135) dX12_hang_43 (fun kb20 ekb20 hkb20a hkb20b => ?_)
      obtain rfl : kb16 = kb20 := ((kp19.2.2.1 _ _).trans ekb16).symm.trans ekb20
      refine lv_bipush (v := 6) hx hb dX12_hang_46 (by decide) ?_
      refine lv_iload_n hx hb dX12_hang_48 rfl (lv_at hl 0 rfl) ?_
      refine lv_iadd hx hb dX12_hang_49 ?_
      refine lv_topi (fun kx21 ekx21 => ?_)
      have vkx21 : q_V 6 11 kx21 := by rw [ekx21]; exact (q_add (q_c (k := 6) (x := 6) (by decide)) kv12 (by decide) (by decide)).w (by decide) (by decide)
      refine lv_iconst (v := 2) hx hb dX12_hang_50 (by decide) ?_
      refine q_iast hE hW hkb16 rfl (q_in vkx21 (by decide) (by decide)) (fun q_a q_b => q_out vkx21 q_a q_b (by decide)) (by decide) dX12_hang_51 (fun H locs ks22 kp23 hW => ?_)
      refine lv_aload_n hx hb dX12_hang_52 rfl (lv_at hl 1 rfl) ?_
      refine q_getr hE hW h0 rfl q_k12 9 (by decide) rfl (hE.l wl_135) dX12_hang_53 (fun kb24 ekb24 hkb24a hkb24b => ?_)
      obtain rfl : kb16 = kb24 := (((kp23.2.2.1 _ _).trans (kp19.2.2.1 _ _)).trans ekb16).symm.trans ekb24
      refine lv_bipush (v := 12) hx hb dX12_hang_56 (by decide) ?_
      refine lv_iload_n hx hb dX12_hang_58 rfl (lv_at hl 0 rfl) ?_
      refine lv_iadd hx hb dX12_hang_59 ?_
      refine lv_topi (fun kx25 ekx25 => ?_)
      have vkx25 : q_V 12 17 kx25 := by rw [ekx25]; exact (q_add (q_c (k := 12) (x := 12) (by decide)) kv12 (by decide) (by decide)).w (by decide) (by decide)
      refine lv_iconst (v := 0) hx hb dX12_hang_60 (by decide) ?_
      refine q_iast hE hW hkb16 rfl (q_in vkx25 (by decide) (by decide)) (fun q_a q_b => q_out vkx25 q_a q_b (by decide)) (by decide) dX12_hang_61 (fun H locs ks26 kp27 hW => ?_)
      refine lv_iload_n hx hb dX12_hang_62 rfl (lv_at hl 0 rfl) ?_
      exact q_reti hE hr hlocks hW ((kv12.w (by decide) (by decide))) dX12_hang_63
    · have kv28 : q_V (-1) (-1) kx10 := (q_lt1 vkx10 (q_c (k := 0) (x := 0) (by decide)) (Int32.not_le.mp kc11)).w (by decide) (by decide)
      refine lv_bipush (v := (-4)) hx hb dX12_hang_25 (by decide) ?_
      exact q_reti hE hr hlocks hW (((q_c (k := (-4)) (x := (-4)) (by decide)).w (by decide) (by decide))) dX12_hang_27
  · have kv29 : q_V 0 0 kx4 := q_eq1 kp1.1 (q_c (k := 0) (x := 0) (by decide)) kc5 (by decide) (by decide)
    refine lv_bipush (v := (-2)) hx hb dX12_hang_8 (by decide) ?_
    exact q_reti hE hr hlocks hW (((q_c (k := (-2)) (x := (-2)) (by decide)).w (by decide) (by decide))) dX12_hang_10
set_option maxHeartbeats 4000000 in
set_option maxRecDepth 100000 in
theorem c_X12_again (l : Launch) (G : q_G) (σ : q_S) (a0 : Nat) (h0 : q_T G a0 = 40) (i1 : Int32)  : Met l yX12_again (Cond.code yX12_again cX12_again 3 (some .int) :: wsL_law) (q_Rm 3) (q_Pre G σ [.ref a0, .int i1]) (q_Qi G [40, 46, 53] σ (fun r σ1 => q_V (-2147483648) 2147483647 r)) 0 0 (q_N G) := by
  refine q_ofW (ts := [40, 46, 53]) (by decide) (Nat.le_of_ble_eq_true rfl) ?_
  intro p e s m args below meth c hE hr hlocks hW ls hl
  have hE : q_E G p s m args c cX12_again 3 RX12 := hE
  have hx := hE.1.1
  have hb := hE.1.2.1
  have hl : lv_has ls 3 [(0, .ref a0), (1, .int i1)] := hl
  refine lv_aload_n hx hb dX12_again_0 rfl (lv_at hl 0 rfl) ?_
  refine lv_iload_n hx hb dX12_again_1 rfl (lv_at hl 1 rfl) ?_
  refine q_goi hW (q_runV (As := [.int i1]) (rest := []) hE hW (c_X12_isCloud l G σ a0 h0 i1) kw_X12_233 (q_recv hE hW h0 rfl q_k12) rfl hl.1 rfl (Nat.le_of_ble_eq_true rfl) dX12_again_2 ⟨by decide, by decide⟩ ⟨by decide, by decide⟩) (by decide) (fun kx4 ks2 H locs kp1 kf3 hW => ?_)
  refine lv_if_ne (tgt := 11) hx hb dX12_again_5 (by decide) (fun kc5 => ?_) (fun kc5 => ?_)
  · have kv6 : q_V 0 5 i1 := kp1.2 kc5
    have kv7 : q_V 1 1 kx4 := q_ne1 kp1.1 (q_c (k := 0) (x := 0) (by decide)) kc5 (by decide)
    refine lv_aload_n hx hb dX12_again_11 rfl (lv_at hl 0 rfl) ?_
    refine q_getr hE hW h0 rfl q_k12 9 (by decide) rfl (hE.l wl_135) dX12_again_12 (fun kb8 ekb8 hkb8a hkb8b => ?_)
    have hkb8 : q_T G kb8 = 46 := q_tag hkb8a hkb8b
    refine lv_bipush (v := 6) hx hb dX12_again_15 (by decide) ?_
    refine lv_iload_n hx hb dX12_again_17 rfl (lv_at hl 1 rfl) ?_
    refine lv_iadd hx hb dX12_again_18 ?_
    refine lv_topi (fun kx9 ekx9 => ?_)
    have vkx9 : q_V 6 11 kx9 := by rw [ekx9]; exact (q_add (q_c (k := 6) (x := 6) (by decide)) kv6 (by decide) (by decide)).w (by decide) (by decide)
    refine q_iald hE hW hkb8 rfl (q_in vkx9 (by decide) (by decide)) dX12_again_19 (fun kx10 ekx10 gkx10 => ?_)
    refine lv_iconst (v := 2) hx hb dX12_again_20 (by decide) ?_
    refine lv_icmp_eq (tgt := 27) hx hb dX12_again_21 (by decide) (fun kc11 => ?_) (fun kc11 => ?_)
    · have kv12 : q_V 2 2 kx10 := q_eq1 (q_all kx10) (q_c (k := 2) (x := 2) (by decide)) kc11 (by decide) (by decide)
      refine lv_aload_n hx hb dX12_again_27 rfl (lv_at hl 0 rfl) ?_
      refine q_gov hW (q_runV (As := []) (rest := []) hE hW (c_X12_remember l G ks2 a0 h0) kw_X12_273 (q_recv hE hW h0 rfl q_k12) rfl hl.1 rfl (Nat.le_of_ble_eq_true rfl) dX12_again_28 ⟨by decide, by decide⟩ ⟨by decide, by decide⟩) (by decide) (fun ks14 H locs kp13 kf15 hW => ?_)
      refine lv_aload_n hx hb dX12_again_31 rfl (lv_at hl 0 rfl) ?_
      refine q_getr hE hW h0 rfl q_k12 9 (by decide) rfl (hE.l wl_135) dX12_again_32 (fun kb16 ekb16 hkb16a hkb16b => ?_)
      have hkb16 : q_T G kb16 = 46 := q_tag hkb16a hkb16b
      refine lv_bipush (v := 6) hx hb dX12_again_35 (by decide) ?_
      refine lv_iload_n hx hb dX12_again_37 rfl (lv_at hl 1 rfl) ?_
      refine lv_iadd hx hb dX12_again_38 ?_
      refine lv_topi (fun kx17 ekx17 => ?_)
      obtain rfl : kx9 = kx17 := ekx9.trans ekx17.symm
      refine lv_iconst (v := 0) hx hb dX12_again_39 (by decide) ?_
      refine q_iast hE hW hkb16 rfl (q_in vkx9 (by decide) (by decide)) (fun q_a q_b => q_out vkx9 q_a q_b (by decide)) (by decide) dX12_again_40 (fun H locs ks18 kp19 hW => ?_)
      refine lv_aload_n hx hb dX12_again_41 rfl (lv_at hl 0 rfl) ?_
      refine q_getr hE hW h0 rfl q_k12 9 (by decide) rfl (hE.l wl_135) dX12_again_42 (fun kb20 ekb20 hkb20a hkb20b => ?_)
      obtain rfl : kb16 = kb20 := ((kp19.2.2.1 _ _).trans ekb16).symm.trans ekb20
      refine lv_bipush (v := 12) hx hb dX12_again_45 (by decide) ?_
      refine lv_iload_n hx hb dX12_again_47 rfl (lv_at hl 1 rfl) ?_
      refine lv_iadd hx hb dX12_again_48 ?_
      refine lv_topi (fun kx21 ekx21 => ?_)
      have vkx21 : q_V 12 17 kx21 := by rw [ekx21]; exact (q_add (q_c (k := 12) (x := 12) (by decide)) kv6 (by decide) (by decide)).w (by decide) (by decide)
      refine q_iald hE hW hkb16 rfl (q_in vkx21 (by decide) (by decide)) dX12_again_49 (fun kx22 ekx22 gkx22 => ?_)
      refine lv_istore_n (lv' := [(2, .int kx22), (0, .ref a0), (1, .int i1)]) hx hb dX12_again_50 rfl hl (by decide) rfl (fun ls hl => ?_)
      refine lv_aload_n hx hb dX12_again_51 rfl (lv_at hl 1 rfl) ?_
      refine q_getr hE hW h0 rfl q_k12 9 (by decide) rfl (hE.l wl_135) dX12_again_52 (fun kb23 ekb23 hkb23a hkb23b => ?_)
      obtain rfl : kb16 = kb23 := ((kp19.2.2.1 _ _).trans ekb16).symm.trans ekb23
      refine lv_bipush (v := 12) hx hb dX12_again_55 (by decide) ?_
      refine lv_iload_n hx hb dX12_again_57 rfl (lv_at hl 2 rfl) ?_
      refine lv_iadd hx hb dX12_again_58 ?_
      refine lv_topi (fun kx24 ekx24 => ?_)
      obtain rfl : kx21 = kx24 := ekx21.trans ekx24.symm
      refine lv_iconst (v := 0) hx hb dX12_again_59 (by decide) ?_
      refine q_iast hE hW hkb16 rfl (q_in vkx21 (by decide) (by decide)) (fun q_a q_b => q_out vkx21 q_a q_b (by decide)) (by decide) dX12_again_60 (fun H locs ks25 kp26 hW => ?_)
      refine lv_iload_n hx hb dX12_again_61 rfl (lv_at hl 0 rfl) ?_
      exact q_reti hE hr hlocks hW ((q_all kx22)) dX12_again_62
    · refine lv_bipush (v := (-4)) hx hb dX12_again_24 (by decide) ?_
      exact q_reti hE hr hlocks hW (((q_c (k := (-4)) (x := (-4)) (by decide)).w (by decide) (by decide))) dX12_again_26
  · have kv27 : q_V 0 0 kx4 := q_eq1 kp1.1 (q_c (k := 0) (x := 0) (by decide)) kc5 (by decide) (by decide)
    refine lv_bipush (v := (-2)) hx hb dX12_again_8 (by decide) ?_
    exact q_reti hE hr hlocks hW (((q_c (k := (-2)) (x := (-2)) (by decide)).w (by decide) (by decide))) dX12_again_10
set_option maxHeartbeats 4000000 in
set_option maxRecDepth 100000 in
theorem c_X12_send (l : Launch) (G : q_G) (σ : q_S) (a0 : Nat) (h0 : q_T G a0 = 40) (i1 : Int32)  : Met l yX12_send (Cond.code yX12_send cX12_send 2 (some .int) :: wsL_law) (q_Rm 3) (q_Pre G σ [.ref a0, .int i1]) (q_Qi G [40, 46, 53] σ (fun r σ1 => q_V (-2147483648) 2147483647 r)) 0 0 (q_N G) := by
  refine q_ofW (ts := [40, 46, 53]) (by decide) (Nat.le_of_ble_eq_true rfl) ?_
  intro p e s m args below meth c hE hr hlocks hW ls hl
  have hE : q_E G p s m args c cX12_send 2 RX12 := hE
  have hx := hE.1.1
  have hb := hE.1.2.1
  have hl : lv_has ls 2 [(0, .ref a0), (1, .int i1)] := hl
  refine lv_aload_n hx hb dX12_send_0 rfl (lv_at hl 0 rfl) ?_
  refine lv_iload_n hx hb dX12_send_1 rfl (lv_at hl 1 rfl) ?_
  refine q_goi hW (q_runV (As := [.int i1]) (rest := []) hE hW (c_X12_isCloud l G σ a0 h0 i1) kw_X12_233 (q_recv hE hW h0 rfl q_k12) rfl hl.1 rfl (Nat.le_of_ble_eq_true rfl) dX12_send_2 ⟨by decide, by decide⟩ ⟨by decide, by decide⟩) (by decide) (fun kx4 ks2 H locs kp1 kf3 hW => ?_)
  refine lv_if_ne (tgt := 11) hx hb dX12_send_5 (by decide) (fun kc5 => ?_) (fun kc5 => ?_)
  · have kv6 : q_V 0 5 i1 := kp1.2 kc5
    have kv7 : q_V 1 1 kx4 := q_ne1 kp1.1 (q_c (k := 0) (x := 0) (by decide)) kc5 (by decide)
    refine lv_aload_n hx hb dX12_send_11 rfl (lv_at hl 0 rfl) ?_
    refine lv_iload_n hx hb dX12_send_12 rfl (lv_at hl 1 rfl) ?_
    refine q_goi hW (q_runV (As := [.int i1]) (rest := []) hE hW (c_X12_isClean l G ks2 a0 h0 i1 kv6) kw_X12_239 (q_recv hE hW h0 rfl q_k12) rfl hl.1 rfl (Nat.le_of_ble_eq_true rfl) dX12_send_13 ⟨by decide, by decide⟩ ⟨by decide, by decide⟩) (by decide) (fun kx11 ks9 H locs kp8 kf10 hW => ?_)
    refine lv_if_eq (tgt := 27) hx hb dX12_send_16 (by decide) (fun kc12 => ?_) (fun kc12 => ?_)
    · have kv13 : q_V 0 0 kx11 := q_eq1 kp8 (q_c (k := 0) (x := 0) (by decide)) kc12 (by decide) (by decide)
      refine lv_bipush (v := (-4)) hx hb dX12_send_27 (by decide) ?_
      exact q_reti hE hr hlocks hW (((q_c (k := (-4)) (x := (-4)) (by decide)).w (by decide) (by decide))) dX12_send_29
    · have kv14 : q_V 1 1 kx11 := q_ne1 kp8 (q_c (k := 0) (x := 0) (by decide)) kc12 (by decide)
      refine lv_aload_n hx hb dX12_send_19 rfl (lv_at hl 0 rfl) ?_
      refine lv_iload_n hx hb dX12_send_20 rfl (lv_at hl 1 rfl) ?_
      refine q_goi hW (q_runV (As := [.int i1]) (rest := []) hE hW (c_X12_isDry l G ks9 a0 h0 i1 kv6) kw_X12_242 (q_recv hE hW h0 rfl q_k12) rfl hl.1 rfl (Nat.le_of_ble_eq_true rfl) dX12_send_21 ⟨by decide, by decide⟩ ⟨by decide, by decide⟩) (by decide) (fun kx18 ks16 H locs kp15 kf17 hW => ?_)
      refine lv_if_ne (tgt := 30) hx hb dX12_send_24 (by decide) (fun kc19 => ?_) (fun kc19 => ?_)
      · have kv20 : q_V 1 1 kx18 := q_ne1 kp15 (q_c (k := 0) (x := 0) (by decide)) kc19 (by decide)
        refine lv_aload_n hx hb dX12_send_30 rfl (lv_at hl 0 rfl) ?_
        refine q_gov hW (q_runV (As := []) (rest := []) hE hW (c_X12_remember l G ks16 a0 h0) kw_X12_273 (q_recv hE hW h0 rfl q_k12) rfl hl.1 rfl (Nat.le_of_ble_eq_true rfl) dX12_send_31 ⟨by decide, by decide⟩ ⟨by decide, by decide⟩) (by decide) (fun ks22 H locs kp21 kf23 hW => ?_)
        refine lv_aload_n hx hb dX12_send_34 rfl (lv_at hl 0 rfl) ?_
        refine q_getr hE hW h0 rfl q_k12 9 (by decide) rfl (hE.l wl_135) dX12_send_35 (fun kb24 ekb24 hkb24a hkb24b => ?_)
        have hkb24 : q_T G kb24 = 46 := q_tag hkb24a hkb24b
        refine lv_bipush (v := 6) hx hb dX12_send_38 (by decide) ?_
        refine lv_iload_n hx hb dX12_send_40 rfl (lv_at hl 1 rfl) ?_
        refine lv_iadd hx hb dX12_send_41 ?_
        refine lv_topi (fun kx25 ekx25 => ?_)
        have vkx25 : q_V 6 11 kx25 := by rw [ekx25]; exact (q_add (q_c (k := 6) (x := 6) (by decide)) kv6 (by decide) (by decide)).w (by decide) (by decide)
        refine lv_iconst (v := 3) hx hb dX12_send_42 (by decide) ?_
        refine q_iast hE hW hkb24 rfl (q_in vkx25 (by decide) (by decide)) (fun q_a q_b => q_out vkx25 q_a q_b (by decide)) (by decide) dX12_send_43 (fun H locs ks26 kp27 hW => ?_)
        refine lv_aload_n hx hb dX12_send_44 rfl (lv_at hl 0 rfl) ?_
        refine q_getr hE hW h0 rfl q_k12 9 (by decide) rfl (hE.l wl_135) dX12_send_45 (fun kb28 ekb28 hkb28a hkb28b => ?_)
        obtain rfl : kb24 = kb28 := ((kp27.2.2.1 _ _).trans ekb24).symm.trans ekb28
        refine lv_bipush (v := 58) hx hb dX12_send_48 (by decide) ?_
        refine q_iald hE hW hkb24 rfl (q_in (q_c (k := 58) (x := 58) (by decide)) (by decide) (by decide)) dX12_send_50 (fun kx29 ekx29 gkx29 => ?_)
        refine lv_aload_n hx hb dX12_send_51 rfl (lv_at hl 0 rfl) ?_
        refine q_getr hE hW h0 rfl q_k12 3 (by decide) rfl (hE.l wl_131) dX12_send_52 (fun kb30 ekb30 hkb30a hkb30b => ?_)
        have hkb30 : q_T G kb30 = 43 := q_tag hkb30a hkb30b
        refine lv_iload_n hx hb dX12_send_55 rfl (lv_at hl 1 rfl) ?_
        refine q_iald hE hW hkb30 rfl (q_in kv6 (by decide) (by decide)) dX12_send_56 (fun kx31 ekx31 gkx31 => ?_)
        refine lv_icmp_le (tgt := 77) hx hb dX12_send_57 (by decide) (fun kc32 => ?_) (fun kc32 => ?_)
        · refine lv_iconst (v := 0) hx hb dX12_send_77 (by decide) ?_
          exact q_reti hE hr hlocks hW (((q_c (k := 0) (x := 0) (by decide)).w (by decide) (by decide))) dX12_send_78
        · have kv33 : q_V (-2147483648) 2147483646 kx31 := (q_lt1 (q_all kx31) (q_all kx29) (Int32.not_le.mp kc32)).w (by decide) (by decide)
          have kv34 : q_V (-2147483647) 2147483647 kx29 := (q_lt2 (q_all kx31) (q_all kx29) (Int32.not_le.mp kc32)).w (by decide) (by decide)
          refine lv_aload_n hx hb dX12_send_60 rfl (lv_at hl 0 rfl) ?_
          refine q_getr hE hW h0 rfl q_k12 9 (by decide) rfl (hE.l wl_135) dX12_send_61 (fun kb35 ekb35 hkb35a hkb35b => ?_)
          obtain rfl : kb24 = kb35 := ((kp27.2.2.1 _ _).trans ekb24).symm.trans ekb35
          refine lv_bipush (v := 58) hx hb dX12_send_64 (by decide) ?_
          refine q_iald hE hW hkb24 rfl (q_in (q_c (k := 58) (x := 58) (by decide)) (by decide) (by decide)) dX12_send_66 (fun kx36 ekx36 gkx36 => ?_)
          obtain rfl : kx29 = kx36 := ekx29.symm.trans ekx36
          refine lv_aload_n hx hb dX12_send_67 rfl (lv_at hl 0 rfl) ?_
          refine q_getr hE hW h0 rfl q_k12 3 (by decide) rfl (hE.l wl_131) dX12_send_68 (fun kb37 ekb37 hkb37a hkb37b => ?_)
          obtain rfl : kb30 = kb37 := ekb30.symm.trans ekb37
          refine lv_iload_n hx hb dX12_send_71 rfl (lv_at hl 1 rfl) ?_
          refine q_iald hE hW hkb30 rfl (q_in kv6 (by decide) (by decide)) dX12_send_72 (fun kx38 ekx38 gkx38 => ?_)
          obtain rfl : kx31 = kx38 := ekx31.symm.trans ekx38
          refine lv_isub hx hb dX12_send_73 ?_
          refine lv_topi (fun kx39 ekx39 => ?_)
          refine lv_goto (tgt := 78) hx hb dX12_send_74 (by decide) ?_
          exact q_reti hE hr hlocks hW ((q_all kx39)) dX12_send_78
      · have kv40 : q_V 0 0 kx18 := q_eq1 kp15 (q_c (k := 0) (x := 0) (by decide)) kc19 (by decide) (by decide)
        refine lv_bipush (v := (-4)) hx hb dX12_send_27 (by decide) ?_
        exact q_reti hE hr hlocks hW (((q_c (k := (-4)) (x := (-4)) (by decide)).w (by decide) (by decide))) dX12_send_29
  · have kv41 : q_V 0 0 kx4 := q_eq1 kp1.1 (q_c (k := 0) (x := 0) (by decide)) kc5 (by decide) (by decide)
    refine lv_bipush (v := (-2)) hx hb dX12_send_8 (by decide) ?_
    exact q_reti hE hr hlocks hW (((q_c (k := (-2)) (x := (-2)) (by decide)).w (by decide) (by decide))) dX12_send_10
set_option maxHeartbeats 4000000 in
set_option maxRecDepth 100000 in
theorem c_X12_soap (l : Launch) (G : q_G) (σ : q_S) (a0 : Nat) (h0 : q_T G a0 = 40) (i1 : Int32)  : Met l yX12_soap (Cond.code yX12_soap cX12_soap 2 (some .int) :: wsL_law) (q_Rm 3) (q_Pre G σ [.ref a0, .int i1]) (q_Qi G [40, 46, 53] σ (fun r σ1 => q_V (-2147483648) 2147483647 r)) 0 0 (q_N G) := by
  refine q_ofW (ts := [40, 46, 53]) (by decide) (Nat.le_of_ble_eq_true rfl) ?_
  intro p e s m args below meth c hE hr hlocks hW ls hl
  have hE : q_E G p s m args c cX12_soap 2 RX12 := hE
  have hx := hE.1.1
  have hb := hE.1.2.1
  have hl : lv_has ls 2 [(0, .ref a0), (1, .int i1)] := hl
  refine lv_iload_n hx hb dX12_soap_0 rfl (lv_at hl 1 rfl) ?_
  refine lv_i2l (v := i1.toInt64) hx hb dX12_soap_1 rfl ?_
  refine lv_lconst (v := 1) hx hb dX12_soap_2 (by decide) ?_
  refine lv_ldc2 (v := 20) hx hb hE.1.2.2.2.1 (hE.w wl_649) dX12_soap_3 ?_
  refine q_goi hW (q_runS (As := [.long (i1).toInt64, .long 1, .long 20]) (rest := []) hE hW (c_X12_in l G σ ((i1).toInt64) 1 20) kw_X12_99 rfl hl.1 rfl (Nat.le_of_ble_eq_true rfl) dX12_soap_6 ⟨by decide, by decide⟩ ⟨by decide, by decide⟩) (by decide) (fun kx4 ks2 H locs kp1 kf3 hW => ?_)
  refine lv_if_ne (tgt := 15) hx hb dX12_soap_9 (by decide) (fun kc5 => ?_) (fun kc5 => ?_)
  · have kv6 : q_V 1 20 i1 := q_inV (kp1.2.1 kc5).1 (kp1.2.1 kc5).2 (q_lc (k := 1) (x := 1) (by decide)) (q_lc (k := 20) (x := 20) (by decide))
    have kv7 : q_V 1 1 kx4 := q_ne1 kp1.1 (q_c (k := 0) (x := 0) (by decide)) kc5 (by decide)
    refine lv_aload_n hx hb dX12_soap_15 rfl (lv_at hl 0 rfl) ?_
    refine q_getr hE hW h0 rfl q_k12 9 (by decide) rfl (hE.l wl_135) dX12_soap_16 (fun kb8 ekb8 hkb8a hkb8b => ?_)
    have hkb8 : q_T G kb8 = 46 := q_tag hkb8a hkb8b
    refine lv_bipush (v := 57) hx hb dX12_soap_19 (by decide) ?_
    refine q_iald hE hW hkb8 rfl (q_in (q_c (k := 57) (x := 57) (by decide)) (by decide) (by decide)) dX12_soap_21 (fun kx9 ekx9 gkx9 => ?_)
    refine lv_iload_n hx hb dX12_soap_22 rfl (lv_at hl 1 rfl) ?_
    refine lv_iadd hx hb dX12_soap_23 ?_
    refine lv_topi (fun kx10 ekx10 => ?_)
    refine lv_bipush (v := 99) hx hb dX12_soap_24 (by decide) ?_
    refine lv_icmp_le (tgt := 32) hx hb dX12_soap_26 (by decide) (fun kc11 => ?_) (fun kc11 => ?_)
    · have kv12 : q_V (-2147483648) 99 kx10 := (q_le1 (q_all kx10) (q_c (k := 99) (x := 99) (by decide)) kc11).w (by decide) (by decide)
      refine lv_aload_n hx hb dX12_soap_32 rfl (lv_at hl 0 rfl) ?_
      refine q_gov hW (q_runV (As := []) (rest := []) hE hW (c_X12_remember l G ks2 a0 h0) kw_X12_273 (q_recv hE hW h0 rfl q_k12) rfl hl.1 rfl (Nat.le_of_ble_eq_true rfl) dX12_soap_33 ⟨by decide, by decide⟩ ⟨by decide, by decide⟩) (by decide) (fun ks14 H locs kp13 kf15 hW => ?_)
      refine lv_aload_n hx hb dX12_soap_36 rfl (lv_at hl 0 rfl) ?_
      refine q_getr hE hW h0 rfl q_k12 9 (by decide) rfl (hE.l wl_135) dX12_soap_37 (fun kb16 ekb16 hkb16a hkb16b => ?_)
      have hkb16 : q_T G kb16 = 46 := q_tag hkb16a hkb16b
      refine lv_bipush (v := 57) hx hb dX12_soap_40 (by decide) ?_
      refine lv_dup2_11 hx hb dX12_soap_42 rfl rfl ?_
      refine q_iald hE hW hkb16 rfl (q_in (q_c (k := 57) (x := 57) (by decide)) (by decide) (by decide)) dX12_soap_43 (fun kx17 ekx17 gkx17 => ?_)
      refine lv_iload_n hx hb dX12_soap_44 rfl (lv_at hl 1 rfl) ?_
      refine lv_iadd hx hb dX12_soap_45 ?_
      refine lv_topi (fun kx18 ekx18 => ?_)
      refine q_iast hE hW hkb16 rfl (q_in (q_c (k := 57) (x := 57) (by decide)) (by decide) (by decide)) (fun q_a q_b => q_out (q_c (k := 57) (x := 57) (by decide)) q_a q_b (by decide)) (by decide) dX12_soap_46 (fun H locs ks19 kp20 hW => ?_)
      refine lv_aload_n hx hb dX12_soap_47 rfl (lv_at hl 0 rfl) ?_
      refine q_getr hE hW h0 rfl q_k12 9 (by decide) rfl (hE.l wl_135) dX12_soap_48 (fun kb21 ekb21 hkb21a hkb21b => ?_)
      obtain rfl : kb16 = kb21 := ((kp20.2.2.1 _ _).trans ekb16).symm.trans ekb21
      refine lv_bipush (v := 57) hx hb dX12_soap_51 (by decide) ?_
      refine q_iald hE hW hkb16 rfl (q_in (q_c (k := 57) (x := 57) (by decide)) (by decide) (by decide)) dX12_soap_53 (fun kx22 ekx22 gkx22 => ?_)
      obtain rfl : kx18 = kx22 := kp20.1.symm.trans ekx22
      exact q_reti hE hr hlocks hW ((q_all kx18)) dX12_soap_54
    · have kv23 : q_V 100 2147483647 kx10 := (q_lt2 (q_c (k := 99) (x := 99) (by decide)) (q_all kx10) (Int32.not_le.mp kc11)).w (by decide) (by decide)
      refine lv_bipush (v := (-5)) hx hb dX12_soap_29 (by decide) ?_
      exact q_reti hE hr hlocks hW (((q_c (k := (-5)) (x := (-5)) (by decide)).w (by decide) (by decide))) dX12_soap_31
  · have kv24 : q_V 0 0 kx4 := q_eq1 kp1.1 (q_c (k := 0) (x := 0) (by decide)) kc5 (by decide) (by decide)
    refine lv_bipush (v := (-3)) hx hb dX12_soap_12 (by decide) ?_
    exact q_reti hE hr hlocks hW (((q_c (k := (-3)) (x := (-3)) (by decide)).w (by decide) (by decide))) dX12_soap_14
set_option maxHeartbeats 4000000 in
set_option maxRecDepth 100000 in
theorem c_X12_hour (l : Launch) (G : q_G) (σ : q_S) (a0 : Nat) (h0 : q_T G a0 = 40) (i1 : Int32)  : Met l yX12_hour (Cond.code yX12_hour cX12_hour 3 (some .int) :: wsL_law) (q_Rm 5) (q_Pre G σ [.ref a0, .int i1]) (q_Qi G [40, 46, 53] σ (fun r σ1 => q_V (-2147483648) 2147483647 r)) 0 0 (q_N G) := by
  refine q_ofW (ts := [40, 46, 53]) (by decide) (Nat.le_of_ble_eq_true rfl) ?_
  intro p e s m args below meth c hE hr hlocks hW ls hl
  have hE : q_E G p s m args c cX12_hour 3 RX12 := hE
  have hx := hE.1.1
  have hb := hE.1.2.1
  have hl : lv_has ls 3 [(0, .ref a0), (1, .int i1)] := hl
  have lp39a : ∀ (n39a : Nat) (ks3 : q_S) (H : Heap) (locs : List Loc) (kv1 : q_V 1 12 i1) (kx2 : Int32) (vkx2 : q_V 0 15 kx2) (hW : q_Wd G [40, 46, 53] σ s.heap ks3 H locs) (ls : Array Slot) (hl : lv_has ls 3 [(0, .ref a0), (1, .int i1), (2, .int kx2)]), (15 - kx2.toInt).toNat < n39a → W p l e (q_Rm 5) s m args below meth c H locs 0 0 (MQ below (q_Qi G [40, 46, 53] σ (fun r σ1 => q_V (-2147483648) 2147483647 r)) args s 0 0 (q_N G)) (F0 m 39 ls []) := by
    intro n39a
    induction n39a with
    | zero => intro _ _ _ _ _ _ _ _ _; exact fun h => absurd h (Nat.not_lt_zero _)
    | succ n39a ih39a =>
      intro ks3 H locs kv1 kx2 vkx2 hW ls hl hm39a
      refine lv_iload_n hx hb dX12_hour_39 rfl (lv_at hl 2 rfl) ?_
      refine lv_iload_n hx hb dX12_hour_40 rfl (lv_at hl 1 rfl) ?_
      refine lv_icmp_ge (tgt := 54) hx hb dX12_hour_41 (by decide) (fun kc4 => ?_) (fun kc4 => ?_)
      · have kv5 : q_V 1 15 kx2 := (q_le2 kv1 vkx2 kc4).w (by decide) (by decide)
        refine lv_aload_n hx hb dX12_hour_54 rfl (lv_at hl 0 rfl) ?_
        refine q_getr hE hW h0 rfl q_k12 9 (by decide) rfl (hE.l wl_135) dX12_hour_55 (fun kb6 ekb6 hkb6a hkb6b => ?_)
        have hkb6 : q_T G kb6 = 46 := q_tag hkb6a hkb6b
        refine lv_bipush (v := 58) hx hb dX12_hour_58 (by decide) ?_
        refine q_iald hE hW hkb6 rfl (q_in (q_c (k := 58) (x := 58) (by decide)) (by decide) (by decide)) dX12_hour_60 (fun kx7 ekx7 gkx7 => ?_)
        exact q_reti hE hr hlocks hW ((q_all kx7)) dX12_hour_61
      · have kv8 : q_V 0 11 kx2 := (q_lt1 vkx2 kv1 (Int32.not_le.mp kc4)).w (by decide) (by decide)
        refine lv_aload_n hx hb dX12_hour_44 rfl (lv_at hl 0 rfl) ?_
        refine q_gov hW (q_runV (As := []) (rest := []) hE hW (c_X12_pass l G ks3 a0 h0) kw_X12_283 (q_recv hE hW h0 rfl q_k12) rfl hl.1 rfl (Nat.le_of_ble_eq_true rfl) dX12_hour_45 ⟨by decide, by decide⟩ ⟨by decide, by decide⟩) (by decide) (fun ks10 H locs kp9 kf11 hW => ?_)
        obtain ⟨kx12, ekx12⟩ : ∃ y : Int32, y = kx2 + 1 := ⟨_, rfl⟩
        have vkx12 : q_V 1 12 kx12 := by rw [ekx12]; exact (q_add kv8 (q_c (k := 1) (x := 1) (by decide)) (by decide) (by decide)).w (by decide) (by decide)
        have ikx12 : kx12.toInt = kx2.toInt + 1 := q_incT ekx12 kv8 (by decide) (by decide) (by decide)
        refine lv_iinc (v := kx12) (lv' := [(2, .int kx12), (0, .ref a0), (1, .int i1)]) hx hb dX12_hour_48 hl (k := 2) rfl (by rw [ekx12]; rfl) (by decide) rfl (fun ls hl => ?_)
        refine lv_goto (tgt := 39) hx hb dX12_hour_51 (by decide) ?_
        exact ih39a _ _ _ kv1 kx12 (vkx12.w (by decide) (by decide)) hW ls (lv_sub hl [1, 2, 0] rfl) (Nat.lt_of_lt_of_le (q_up (ikx12) (show q_V 1 15 kx12 from (vkx12.w (by decide) (by decide))).2) (Nat.le_of_lt_succ hm39a))
  refine lv_iload_n hx hb dX12_hour_0 rfl (lv_at hl 1 rfl) ?_
  refine lv_i2l (v := i1.toInt64) hx hb dX12_hour_1 rfl ?_
  refine lv_lconst (v := 1) hx hb dX12_hour_2 (by decide) ?_
  refine lv_ldc2 (v := 12) hx hb hE.1.2.2.2.1 (hE.w wl_696) dX12_hour_3 ?_
  refine q_goi hW (q_runS (As := [.long (i1).toInt64, .long 1, .long 12]) (rest := []) hE hW (c_X12_in l G σ ((i1).toInt64) 1 12) kw_X12_99 rfl hl.1 rfl (Nat.le_of_ble_eq_true rfl) dX12_hour_6 ⟨by decide, by decide⟩ ⟨by decide, by decide⟩) (by decide) (fun kx16 ks14 H locs kp13 kf15 hW => ?_)
  refine lv_if_ne (tgt := 15) hx hb dX12_hour_9 (by decide) (fun kc17 => ?_) (fun kc17 => ?_)
  · have kv18 : q_V 1 12 i1 := q_inV (kp13.2.1 kc17).1 (kp13.2.1 kc17).2 (q_lc (k := 1) (x := 1) (by decide)) (q_lc (k := 12) (x := 12) (by decide))
    have kv19 : q_V 1 1 kx16 := q_ne1 kp13.1 (q_c (k := 0) (x := 0) (by decide)) kc17 (by decide)
    refine lv_aload_n hx hb dX12_hour_15 rfl (lv_at hl 0 rfl) ?_
    refine q_getr hE hW h0 rfl q_k12 9 (by decide) rfl (hE.l wl_135) dX12_hour_16 (fun kb20 ekb20 hkb20a hkb20b => ?_)
    have hkb20 : q_T G kb20 = 46 := q_tag hkb20a hkb20b
    refine lv_bipush (v := 58) hx hb dX12_hour_19 (by decide) ?_
    refine q_iald hE hW hkb20 rfl (q_in (q_c (k := 58) (x := 58) (by decide)) (by decide) (by decide)) dX12_hour_21 (fun kx21 ekx21 gkx21 => ?_)
    refine lv_iload_n hx hb dX12_hour_22 rfl (lv_at hl 1 rfl) ?_
    refine lv_iadd hx hb dX12_hour_23 ?_
    refine lv_topi (fun kx22 ekx22 => ?_)
    refine lv_sipush (v := 999) hx hb dX12_hour_24 (by decide) ?_
    refine lv_icmp_le (tgt := 33) hx hb dX12_hour_27 (by decide) (fun kc23 => ?_) (fun kc23 => ?_)
    · have kv24 : q_V (-2147483648) 999 kx22 := (q_le1 (q_all kx22) (q_c (k := 999) (x := 999) (by decide)) kc23).w (by decide) (by decide)
      refine lv_aload_n hx hb dX12_hour_33 rfl (lv_at hl 0 rfl) ?_
      refine q_gov hW (q_runV (As := []) (rest := []) hE hW (c_X12_remember l G ks14 a0 h0) kw_X12_273 (q_recv hE hW h0 rfl q_k12) rfl hl.1 rfl (Nat.le_of_ble_eq_true rfl) dX12_hour_34 ⟨by decide, by decide⟩ ⟨by decide, by decide⟩) (by decide) (fun ks26 H locs kp25 kf27 hW => ?_)
      refine lv_iconst (v := 0) hx hb dX12_hour_37 (by decide) ?_
      refine lv_istore_n (lv' := [(2, .int 0), (0, .ref a0), (1, .int i1)]) hx hb dX12_hour_38 rfl hl (by decide) rfl (fun ls hl => ?_)
      exact lp39a _ _ _ _ kv18 0 ((q_c (k := 0) (x := 0) (by decide)).w (by decide) (by decide)) hW ls (lv_sub hl [1, 2, 0] rfl) (Nat.lt_succ_self _)
    · have kv28 : q_V 1000 2147483647 kx22 := (q_lt2 (q_c (k := 999) (x := 999) (by decide)) (q_all kx22) (Int32.not_le.mp kc23)).w (by decide) (by decide)
      refine lv_bipush (v := (-5)) hx hb dX12_hour_30 (by decide) ?_
      exact q_reti hE hr hlocks hW (((q_c (k := (-5)) (x := (-5)) (by decide)).w (by decide) (by decide))) dX12_hour_32
  · have kv29 : q_V 0 0 kx16 := q_eq1 kp13.1 (q_c (k := 0) (x := 0) (by decide)) kc17 (by decide) (by decide)
    refine lv_bipush (v := (-3)) hx hb dX12_hour_12 (by decide) ?_
    exact q_reti hE hr hlocks hW (((q_c (k := (-3)) (x := (-3)) (by decide)).w (by decide) (by decide))) dX12_hour_14
set_option maxHeartbeats 4000000 in
set_option maxRecDepth 100000 in
theorem c_X12_undo (l : Launch) (G : q_G) (σ : q_S) (a0 : Nat) (h0 : q_T G a0 = 40)  : Met l yX12_undo (Cond.code yX12_undo cX12_undo 2 (some .int) :: wsL_law) (q_Rm 1) (q_Pre G σ [.ref a0]) (q_Qi G [40, 46] σ (fun r σ1 => q_V (-2147483648) 2147483647 r)) 0 0 (q_N G) := by
  refine q_ofW (ts := [40, 46]) (by decide) (Nat.le_of_ble_eq_true rfl) ?_
  intro p e s m args below meth c hE hr hlocks hW ls hl
  have hE : q_E G p s m args c cX12_undo 2 RX12 := hE
  have hx := hE.1.1
  have hb := hE.1.2.1
  have hl : lv_has ls 2 [(0, .ref a0)] := hl
  have lp22a : ∀ (n22a : Nat) (ks2 : q_S) (H : Heap) (locs : List Loc) (kx1 : Int32) (vkx1 : q_V 0 101 kx1) (kx3 : Int32) (vkx3 : q_V 0 7 kx3) (ke4 : q_I ks2 a0 27 = kx3) (hW : q_Wd G [40, 46] σ s.heap ks2 H locs) (ls : Array Slot) (hl : lv_has ls 2 [(0, .ref a0), (1, .int kx1)]), (101 - kx1.toInt).toNat < n22a → W p l e (q_Rm 1) s m args below meth c H locs 0 0 (MQ below (q_Qi G [40, 46] σ (fun r σ1 => q_V (-2147483648) 2147483647 r)) args s 0 0 (q_N G)) (F0 m 22 ls []) := by
    intro n22a
    induction n22a with
    | zero => intro _ _ _ _ _ _ _ _ _ _ _; exact fun h => absurd h (Nat.not_lt_zero _)
    | succ n22a ih22a =>
      intro ks2 H locs kx1 vkx1 kx3 vkx3 ke4 hW ls hl hm22a
      refine lv_iload_n hx hb dX12_undo_22 rfl (lv_at hl 1 rfl) ?_
      refine lv_bipush (v := 101) hx hb dX12_undo_23 (by decide) ?_
      refine lv_icmp_ge (tgt := 54) hx hb dX12_undo_25 (by decide) (fun kc5 => ?_) (fun kc5 => ?_)
      · have kv6 : q_V 101 101 kx1 := (q_le2 (q_c (k := 101) (x := 101) (by decide)) vkx1 kc5).w (by decide) (by decide)
        refine lv_aload_n hx hb dX12_undo_54 rfl (lv_at hl 0 rfl) ?_
        refine q_geti hE hW h0 rfl q_k12 27 (by decide) rfl (hE.l wl_446) dX12_undo_55 (fun kx7 ekx7 vkx7 => ?_)
        obtain rfl : kx3 = kx7 := ke4.symm.trans ekx7
        exact q_reti hE hr hlocks hW ((vkx3.w (by decide) (by decide))) dX12_undo_58
      · have kv8 : q_V 0 100 kx1 := (q_lt1 vkx1 (q_c (k := 101) (x := 101) (by decide)) (Int32.not_le.mp kc5)).w (by decide) (by decide)
        refine lv_aload_n hx hb dX12_undo_28 rfl (lv_at hl 0 rfl) ?_
        refine q_getr hE hW h0 rfl q_k12 9 (by decide) rfl (hE.l wl_135) dX12_undo_29 (fun kb9 ekb9 hkb9a hkb9b => ?_)
        have hkb9 : q_T G kb9 = 46 := q_tag hkb9a hkb9b
        refine lv_iload_n hx hb dX12_undo_32 rfl (lv_at hl 1 rfl) ?_
        refine lv_aload_n hx hb dX12_undo_33 rfl (lv_at hl 0 rfl) ?_
        refine q_getr hE hW h0 rfl q_k12 28 (by decide) rfl (hE.l wl_142) dX12_undo_34 (fun kb10 ekb10 hkb10a hkb10b => ?_)
        have hkb10 : q_T G kb10 = 53 := q_tag hkb10a hkb10b
        refine lv_bipush (v := 101) hx hb dX12_undo_37 (by decide) ?_
        refine lv_aload_n hx hb dX12_undo_39 rfl (lv_at hl 0 rfl) ?_
        refine q_geti hE hW h0 rfl q_k12 27 (by decide) rfl (hE.l wl_446) dX12_undo_40 (fun kx11 ekx11 vkx11 => ?_)
        obtain rfl : kx3 = kx11 := ke4.symm.trans ekx11
        refine lv_imul hx hb dX12_undo_43 ?_
        refine lv_topi (fun kx12 ekx12 => ?_)
        have vkx12 : q_V 0 707 kx12 := by rw [ekx12]; exact (q_mul (k := 101) (by decide) vkx3 (by decide) (by decide) (by decide)).w (by decide) (by decide)
        refine lv_iload_n hx hb dX12_undo_44 rfl (lv_at hl 1 rfl) ?_
        refine lv_iadd hx hb dX12_undo_45 ?_
        refine lv_topi (fun kx13 ekx13 => ?_)
        have vkx13 : q_V 0 807 kx13 := by rw [ekx13]; exact (q_add vkx12 kv8 (by decide) (by decide)).w (by decide) (by decide)
        refine q_iald hE hW hkb10 rfl (q_in vkx13 (by decide) (by decide)) dX12_undo_46 (fun kx14 ekx14 gkx14 => ?_)
        refine q_iast hE hW hkb9 rfl (q_in kv8 (by decide) (by decide)) (q_cpyB ekx13 ekx12 vkx3 kv8 (by decide) (by decide) (by decide) (by decide) gkx14) (by decide) dX12_undo_47 (fun H locs ks15 kp16 hW => ?_)
        obtain ⟨kx17, ekx17⟩ : ∃ y : Int32, y = kx1 + 1 := ⟨_, rfl⟩
        have vkx17 : q_V 1 101 kx17 := by rw [ekx17]; exact (q_add kv8 (q_c (k := 1) (x := 1) (by decide)) (by decide) (by decide)).w (by decide) (by decide)
        have ikx17 : kx17.toInt = kx1.toInt + 1 := q_incT ekx17 kv8 (by decide) (by decide) (by decide)
        refine lv_iinc (v := kx17) (lv' := [(1, .int kx17), (0, .ref a0)]) hx hb dX12_undo_48 hl (k := 1) rfl (by rw [ekx17]; rfl) (by decide) rfl (fun ls hl => ?_)
        refine lv_goto (tgt := 22) hx hb dX12_undo_51 (by decide) ?_
        exact ih22a _ _ _ kx17 (vkx17.w (by decide) (by decide)) kx3 vkx3 ((kp16.2.2.2.1 _ _).trans ke4) hW ls (lv_sub hl [1, 0] rfl) (Nat.lt_of_lt_of_le (q_up (ikx17) (show q_V 1 101 kx17 from vkx17).2) (Nat.le_of_lt_succ hm22a))
  refine lv_aload_n hx hb dX12_undo_0 rfl (lv_at hl 0 rfl) ?_
  refine q_geti hE hW h0 rfl q_k12 27 (by decide) rfl (hE.l wl_446) dX12_undo_1 (fun kx18 ekx18 vkx18 => ?_)
  refine lv_if_ne (tgt := 10) hx hb dX12_undo_4 (by decide) (fun kc19 => ?_) (fun kc19 => ?_)
  · have kv20 : q_V 1 8 kx18 := q_ne1 vkx18 (q_c (k := 0) (x := 0) (by decide)) kc19 (by decide)
    refine lv_aload_n hx hb dX12_undo_10 rfl (lv_at hl 0 rfl) ?_
    refine lv_dup hx hb dX12_undo_11 rfl ?_
    refine q_geti hE hW h0 rfl q_k12 27 (by decide) rfl (hE.l wl_446) dX12_undo_12 (fun kx21 ekx21 vkx21 => ?_)
    obtain rfl : kx18 = kx21 := ekx18.symm.trans ekx21
    refine lv_iconst (v := 1) hx hb dX12_undo_15 (by decide) ?_
    refine lv_isub hx hb dX12_undo_16 ?_
    refine lv_topi (fun kx22 ekx22 => ?_)
    have vkx22 : q_V 0 7 kx22 := by rw [ekx22]; exact (q_sub kv20 (q_c (k := 1) (x := 1) (by decide)) (by decide) (by decide)).w (by decide) (by decide)
    refine q_puti hE hW h0 rfl q_k12 tyX12 tyX12_ok 27 (by decide) rfl (hE.l wl_446) rfl rfl rfl (vkx22.w (by decide) (by decide)) (by decide) dX12_undo_17 (fun H locs ks23 kp24 hW => ?_)
    refine lv_iconst (v := 0) hx hb dX12_undo_20 (by decide) ?_
    refine lv_istore_n (lv' := [(1, .int 0), (0, .ref a0)]) hx hb dX12_undo_21 rfl hl (by decide) rfl (fun ls hl => ?_)
    exact lp22a _ _ _ _ 0 ((q_c (k := 0) (x := 0) (by decide)).w (by decide) (by decide)) kx22 vkx22 kp24.1 hW ls (lv_sub hl [1, 0] rfl) (Nat.lt_succ_self _)
  · have kv25 : q_V 0 0 kx18 := q_eq1 vkx18 (q_c (k := 0) (x := 0) (by decide)) kc19 (by decide) (by decide)
    refine lv_bipush (v := (-4)) hx hb dX12_undo_7 (by decide) ?_
    exact q_reti hE hr hlocks hW (((q_c (k := (-4)) (x := (-4)) (by decide)).w (by decide) (by decide))) dX12_undo_9
set_option maxHeartbeats 4000000 in
set_option maxRecDepth 100000 in
theorem c_X12_keep (l : Launch) (G : q_G) (σ : q_S) (a0 : Nat) (h0 : q_T G a0 = 40) (i1 : Int32)  : Met l yX12_keep (Cond.code yX12_keep cX12_keep 3 (some .int) :: wsL_law) (q_Rm 2) (q_Pre G σ [.ref a0, .int i1]) (q_Qi G [54, 55] σ (fun r σ1 => q_V (-2147483648) 2147483647 r)) 0 0 (q_N G) := by
  refine q_ofW (ts := [54, 55]) (by decide) (Nat.le_of_ble_eq_true rfl) ?_
  intro p e s m args below meth c hE hr hlocks hW ls hl
  have hE : q_E G p s m args c cX12_keep 3 RX12 := hE
  have hx := hE.1.1
  have hb := hE.1.2.1
  have hl : lv_has ls 3 [(0, .ref a0), (1, .int i1)] := hl
  have lp15a : ∀ (n15a : Nat) (ks3 : q_S) (H : Heap) (locs : List Loc) (kv1 : q_V 0 1 i1) (kx2 : Int32) (vkx2 : q_V 0 101 kx2) (hW : q_Wd G [54, 55] σ s.heap ks3 H locs) (ls : Array Slot) (hl : lv_has ls 3 [(0, .ref a0), (1, .int i1), (2, .int kx2)]), (101 - kx2.toInt).toNat < n15a → W p l e (q_Rm 2) s m args below meth c H locs 0 0 (MQ below (q_Qi G [54, 55] σ (fun r σ1 => q_V (-2147483648) 2147483647 r)) args s 0 0 (q_N G)) (F0 m 15 ls []) := by
    intro n15a
    induction n15a with
    | zero => intro _ _ _ _ _ _ _ _ _; exact fun h => absurd h (Nat.not_lt_zero _)
    | succ n15a ih15a =>
      intro ks3 H locs kv1 kx2 vkx2 hW ls hl hm15a
      refine lv_iload_n hx hb dX12_keep_15 rfl (lv_at hl 2 rfl) ?_
      refine lv_bipush (v := 101) hx hb dX12_keep_16 (by decide) ?_
      refine lv_icmp_ge (tgt := 44) hx hb dX12_keep_18 (by decide) (fun kc4 => ?_) (fun kc4 => ?_)
      · have kv5 : q_V 101 101 kx2 := (q_le2 (q_c (k := 101) (x := 101) (by decide)) vkx2 kc4).w (by decide) (by decide)
        refine lv_aload_n hx hb dX12_keep_44 rfl (lv_at hl 0 rfl) ?_
        refine q_getr hE hW h0 rfl q_k12 30 (by decide) rfl (hE.l wl_144) dX12_keep_45 (fun kb6 ekb6 hkb6a hkb6b => ?_)
        have hkb6 : q_T G kb6 = 55 := q_tag hkb6a hkb6b
        refine lv_iload_n hx hb dX12_keep_48 rfl (lv_at hl 1 rfl) ?_
        refine lv_iconst (v := 1) hx hb dX12_keep_49 (by decide) ?_
        refine q_zast hE hW hkb6 rfl (q_in kv1 (by decide) (by decide)) (q_narz ((q_c (k := 1) (x := 1) (by decide)).w (by decide) (by decide))) ((q_c (k := 1) (x := 1) (by decide)).w (by decide) (by decide)) (by decide) dX12_keep_50 (fun H locs ks7 kp8 hW => ?_)
        refine lv_aload_n hx hb dX12_keep_51 rfl (lv_at hl 0 rfl) ?_
        refine q_getr hE hW h0 rfl q_k12 9 (by decide) rfl (hE.l wl_135) dX12_keep_52 (fun kb9 ekb9 hkb9a hkb9b => ?_)
        have hkb9 : q_T G kb9 = 46 := q_tag hkb9a hkb9b
        refine lv_bipush (v := 58) hx hb dX12_keep_55 (by decide) ?_
        refine q_iald hE hW hkb9 rfl (q_in (q_c (k := 58) (x := 58) (by decide)) (by decide) (by decide)) dX12_keep_57 (fun kx10 ekx10 gkx10 => ?_)
        exact q_reti hE hr hlocks hW ((q_all kx10)) dX12_keep_58
      · have kv11 : q_V 0 100 kx2 := (q_lt1 vkx2 (q_c (k := 101) (x := 101) (by decide)) (Int32.not_le.mp kc4)).w (by decide) (by decide)
        refine lv_aload_n hx hb dX12_keep_21 rfl (lv_at hl 0 rfl) ?_
        refine q_getr hE hW h0 rfl q_k12 29 (by decide) rfl (hE.l wl_143) dX12_keep_22 (fun kb12 ekb12 hkb12a hkb12b => ?_)
        have hkb12 : q_T G kb12 = 54 := q_tag hkb12a hkb12b
        refine lv_bipush (v := 101) hx hb dX12_keep_25 (by decide) ?_
        refine lv_iload_n hx hb dX12_keep_27 rfl (lv_at hl 1 rfl) ?_
        refine lv_imul hx hb dX12_keep_28 ?_
        refine lv_topi (fun kx13 ekx13 => ?_)
        have vkx13 : q_V 0 101 kx13 := by rw [ekx13]; exact (q_mul (k := 101) (by decide) kv1 (by decide) (by decide) (by decide)).w (by decide) (by decide)
        refine lv_iload_n hx hb dX12_keep_29 rfl (lv_at hl 2 rfl) ?_
        refine lv_iadd hx hb dX12_keep_30 ?_
        refine lv_topi (fun kx14 ekx14 => ?_)
        have vkx14 : q_V 0 201 kx14 := by rw [ekx14]; exact (q_add vkx13 kv11 (by decide) (by decide)).w (by decide) (by decide)
        refine lv_aload_n hx hb dX12_keep_31 rfl (lv_at hl 0 rfl) ?_
        refine q_getr hE hW h0 rfl q_k12 9 (by decide) rfl (hE.l wl_135) dX12_keep_32 (fun kb15 ekb15 hkb15a hkb15b => ?_)
        have hkb15 : q_T G kb15 = 46 := q_tag hkb15a hkb15b
        refine lv_iload_n hx hb dX12_keep_35 rfl (lv_at hl 2 rfl) ?_
        refine q_iald hE hW hkb15 rfl (q_in kv11 (by decide) (by decide)) dX12_keep_36 (fun kx16 ekx16 gkx16 => ?_)
        refine q_iast hE hW hkb12 rfl (q_in vkx14 (by decide) (by decide)) (q_cpy ekx14 ekx13 kv1 kv11 (by decide) (by decide) (by decide) (by decide) gkx16) (by decide) dX12_keep_37 (fun H locs ks17 kp18 hW => ?_)
        obtain ⟨kx19, ekx19⟩ : ∃ y : Int32, y = kx2 + 1 := ⟨_, rfl⟩
        have vkx19 : q_V 1 101 kx19 := by rw [ekx19]; exact (q_add kv11 (q_c (k := 1) (x := 1) (by decide)) (by decide) (by decide)).w (by decide) (by decide)
        have ikx19 : kx19.toInt = kx2.toInt + 1 := q_incT ekx19 kv11 (by decide) (by decide) (by decide)
        refine lv_iinc (v := kx19) (lv' := [(2, .int kx19), (0, .ref a0), (1, .int i1)]) hx hb dX12_keep_38 hl (k := 2) rfl (by rw [ekx19]; rfl) (by decide) rfl (fun ls hl => ?_)
        refine lv_goto (tgt := 15) hx hb dX12_keep_41 (by decide) ?_
        exact ih15a _ _ _ kv1 kx19 (vkx19.w (by decide) (by decide)) hW ls (lv_sub hl [1, 2, 0] rfl) (Nat.lt_of_lt_of_le (q_up (ikx19) (show q_V 1 101 kx19 from vkx19).2) (Nat.le_of_lt_succ hm15a))
  refine lv_iload_n hx hb dX12_keep_0 rfl (lv_at hl 1 rfl) ?_
  refine lv_i2l (v := i1.toInt64) hx hb dX12_keep_1 rfl ?_
  refine lv_lconst (v := 0) hx hb dX12_keep_2 (by decide) ?_
  refine lv_lconst (v := 1) hx hb dX12_keep_3 (by decide) ?_
  refine q_goi hW (q_runS (As := [.long (i1).toInt64, .long 0, .long 1]) (rest := []) hE hW (c_X12_in l G σ ((i1).toInt64) 0 1) kw_X12_99 rfl hl.1 rfl (Nat.le_of_ble_eq_true rfl) dX12_keep_4 ⟨by decide, by decide⟩ ⟨by decide, by decide⟩) (by decide) (fun kx23 ks21 H locs kp20 kf22 hW => ?_)
  refine lv_if_ne (tgt := 13) hx hb dX12_keep_7 (by decide) (fun kc24 => ?_) (fun kc24 => ?_)
  · have kv25 : q_V 0 1 i1 := q_inV (kp20.2.1 kc24).1 (kp20.2.1 kc24).2 (q_lc (k := 0) (x := 0) (by decide)) (q_lc (k := 1) (x := 1) (by decide))
    have kv26 : q_V 1 1 kx23 := q_ne1 kp20.1 (q_c (k := 0) (x := 0) (by decide)) kc24 (by decide)
    refine lv_iconst (v := 0) hx hb dX12_keep_13 (by decide) ?_
    refine lv_istore_n (lv' := [(2, .int 0), (0, .ref a0), (1, .int i1)]) hx hb dX12_keep_14 rfl hl (by decide) rfl (fun ls hl => ?_)
    exact lp15a _ _ _ _ kv25 0 ((q_c (k := 0) (x := 0) (by decide)).w (by decide) (by decide)) hW ls (lv_sub hl [1, 2, 0] rfl) (Nat.lt_succ_self _)
  · have kv27 : q_V 0 0 kx23 := q_eq1 kp20.1 (q_c (k := 0) (x := 0) (by decide)) kc24 (by decide) (by decide)
    refine lv_bipush (v := (-2)) hx hb dX12_keep_10 (by decide) ?_
    exact q_reti hE hr hlocks hW (((q_c (k := (-2)) (x := (-2)) (by decide)).w (by decide) (by decide))) dX12_keep_12
set_option maxHeartbeats 4000000 in
set_option maxRecDepth 100000 in
theorem c_X12_back (l : Launch) (G : q_G) (σ : q_S) (a0 : Nat) (h0 : q_T G a0 = 40) (i1 : Int32)  : Met l yX12_back (Cond.code yX12_back cX12_back 3 (some .int) :: wsL_law) (q_Rm 2) (q_Pre G σ [.ref a0, .int i1]) (q_Qi G [40, 46] σ (fun r σ1 => q_V (-2147483648) 2147483647 r)) 0 0 (q_N G) := by
  refine q_ofW (ts := [40, 46]) (by decide) (Nat.le_of_ble_eq_true rfl) ?_
  intro p e s m args below meth c hE hr hlocks hW ls hl
  have hE : q_E G p s m args c cX12_back 3 RX12 := hE
  have hx := hE.1.1
  have hb := hE.1.2.1
  have hl : lv_has ls 3 [(0, .ref a0), (1, .int i1)] := hl
  have lp27a : ∀ (n27a : Nat) (ks3 : q_S) (H : Heap) (locs : List Loc) (kv1 : q_V 0 1 i1) (kx2 : Int32) (vkx2 : q_V 0 101 kx2) (hW : q_Wd G [40, 46] σ s.heap ks3 H locs) (ls : Array Slot) (hl : lv_has ls 3 [(0, .ref a0), (1, .int i1), (2, .int kx2)]), (101 - kx2.toInt).toNat < n27a → W p l e (q_Rm 2) s m args below meth c H locs 0 0 (MQ below (q_Qi G [40, 46] σ (fun r σ1 => q_V (-2147483648) 2147483647 r)) args s 0 0 (q_N G)) (F0 m 27 ls []) := by
    intro n27a
    induction n27a with
    | zero => intro _ _ _ _ _ _ _ _ _; exact fun h => absurd h (Nat.not_lt_zero _)
    | succ n27a ih27a =>
      intro ks3 H locs kv1 kx2 vkx2 hW ls hl hm27a
      refine lv_iload_n hx hb dX12_back_27 rfl (lv_at hl 2 rfl) ?_
      refine lv_bipush (v := 101) hx hb dX12_back_28 (by decide) ?_
      refine lv_icmp_ge (tgt := 56) hx hb dX12_back_30 (by decide) (fun kc4 => ?_) (fun kc4 => ?_)
      · have kv5 : q_V 101 101 kx2 := (q_le2 (q_c (k := 101) (x := 101) (by decide)) vkx2 kc4).w (by decide) (by decide)
        refine lv_aload_n hx hb dX12_back_56 rfl (lv_at hl 0 rfl) ?_
        refine lv_iconst (v := 0) hx hb dX12_back_57 (by decide) ?_
        refine q_puti hE hW h0 rfl q_k12 tyX12 tyX12_ok 27 (by decide) rfl (hE.l wl_446) rfl rfl rfl ((q_c (k := 0) (x := 0) (by decide)).w (by decide) (by decide)) (by decide) dX12_back_58 (fun H locs ks6 kp7 hW => ?_)
        refine lv_aload_n hx hb dX12_back_61 rfl (lv_at hl 0 rfl) ?_
        refine q_getr hE hW h0 rfl q_k12 9 (by decide) rfl (hE.l wl_135) dX12_back_62 (fun kb8 ekb8 hkb8a hkb8b => ?_)
        have hkb8 : q_T G kb8 = 46 := q_tag hkb8a hkb8b
        refine lv_bipush (v := 58) hx hb dX12_back_65 (by decide) ?_
        refine q_iald hE hW hkb8 rfl (q_in (q_c (k := 58) (x := 58) (by decide)) (by decide) (by decide)) dX12_back_67 (fun kx9 ekx9 gkx9 => ?_)
        exact q_reti hE hr hlocks hW ((q_all kx9)) dX12_back_68
      · have kv10 : q_V 0 100 kx2 := (q_lt1 vkx2 (q_c (k := 101) (x := 101) (by decide)) (Int32.not_le.mp kc4)).w (by decide) (by decide)
        refine lv_aload_n hx hb dX12_back_33 rfl (lv_at hl 0 rfl) ?_
        refine q_getr hE hW h0 rfl q_k12 9 (by decide) rfl (hE.l wl_135) dX12_back_34 (fun kb11 ekb11 hkb11a hkb11b => ?_)
        have hkb11 : q_T G kb11 = 46 := q_tag hkb11a hkb11b
        refine lv_iload_n hx hb dX12_back_37 rfl (lv_at hl 2 rfl) ?_
        refine lv_aload_n hx hb dX12_back_38 rfl (lv_at hl 0 rfl) ?_
        refine q_getr hE hW h0 rfl q_k12 29 (by decide) rfl (hE.l wl_143) dX12_back_39 (fun kb12 ekb12 hkb12a hkb12b => ?_)
        have hkb12 : q_T G kb12 = 54 := q_tag hkb12a hkb12b
        refine lv_bipush (v := 101) hx hb dX12_back_42 (by decide) ?_
        refine lv_iload_n hx hb dX12_back_44 rfl (lv_at hl 1 rfl) ?_
        refine lv_imul hx hb dX12_back_45 ?_
        refine lv_topi (fun kx13 ekx13 => ?_)
        have vkx13 : q_V 0 101 kx13 := by rw [ekx13]; exact (q_mul (k := 101) (by decide) kv1 (by decide) (by decide) (by decide)).w (by decide) (by decide)
        refine lv_iload_n hx hb dX12_back_46 rfl (lv_at hl 2 rfl) ?_
        refine lv_iadd hx hb dX12_back_47 ?_
        refine lv_topi (fun kx14 ekx14 => ?_)
        have vkx14 : q_V 0 201 kx14 := by rw [ekx14]; exact (q_add vkx13 kv10 (by decide) (by decide)).w (by decide) (by decide)
        refine q_iald hE hW hkb12 rfl (q_in vkx14 (by decide) (by decide)) dX12_back_48 (fun kx15 ekx15 gkx15 => ?_)
        refine q_iast hE hW hkb11 rfl (q_in kv10 (by decide) (by decide)) (q_cpyB ekx14 ekx13 kv1 kv10 (by decide) (by decide) (by decide) (by decide) gkx15) (by decide) dX12_back_49 (fun H locs ks16 kp17 hW => ?_)
        obtain ⟨kx18, ekx18⟩ : ∃ y : Int32, y = kx2 + 1 := ⟨_, rfl⟩
        have vkx18 : q_V 1 101 kx18 := by rw [ekx18]; exact (q_add kv10 (q_c (k := 1) (x := 1) (by decide)) (by decide) (by decide)).w (by decide) (by decide)
        have ikx18 : kx18.toInt = kx2.toInt + 1 := q_incT ekx18 kv10 (by decide) (by decide) (by decide)
        refine lv_iinc (v := kx18) (lv' := [(2, .int kx18), (0, .ref a0), (1, .int i1)]) hx hb dX12_back_50 hl (k := 2) rfl (by rw [ekx18]; rfl) (by decide) rfl (fun ls hl => ?_)
        refine lv_goto (tgt := 27) hx hb dX12_back_53 (by decide) ?_
        exact ih27a _ _ _ kv1 kx18 (vkx18.w (by decide) (by decide)) hW ls (lv_sub hl [1, 2, 0] rfl) (Nat.lt_of_lt_of_le (q_up (ikx18) (show q_V 1 101 kx18 from vkx18).2) (Nat.le_of_lt_succ hm27a))
  refine lv_iload_n hx hb dX12_back_0 rfl (lv_at hl 1 rfl) ?_
  refine lv_i2l (v := i1.toInt64) hx hb dX12_back_1 rfl ?_
  refine lv_lconst (v := 0) hx hb dX12_back_2 (by decide) ?_
  refine lv_lconst (v := 1) hx hb dX12_back_3 (by decide) ?_
  refine q_goi hW (q_runS (As := [.long (i1).toInt64, .long 0, .long 1]) (rest := []) hE hW (c_X12_in l G σ ((i1).toInt64) 0 1) kw_X12_99 rfl hl.1 rfl (Nat.le_of_ble_eq_true rfl) dX12_back_4 ⟨by decide, by decide⟩ ⟨by decide, by decide⟩) (by decide) (fun kx22 ks20 H locs kp19 kf21 hW => ?_)
  refine lv_if_ne (tgt := 13) hx hb dX12_back_7 (by decide) (fun kc23 => ?_) (fun kc23 => ?_)
  · have kv24 : q_V 0 1 i1 := q_inV (kp19.2.1 kc23).1 (kp19.2.1 kc23).2 (q_lc (k := 0) (x := 0) (by decide)) (q_lc (k := 1) (x := 1) (by decide))
    have kv25 : q_V 1 1 kx22 := q_ne1 kp19.1 (q_c (k := 0) (x := 0) (by decide)) kc23 (by decide)
    refine lv_aload_n hx hb dX12_back_13 rfl (lv_at hl 0 rfl) ?_
    refine q_getr hE hW h0 rfl q_k12 30 (by decide) rfl (hE.l wl_144) dX12_back_14 (fun kb26 ekb26 hkb26a hkb26b => ?_)
    have hkb26 : q_T G kb26 = 55 := q_tag hkb26a hkb26b
    refine lv_iload_n hx hb dX12_back_17 rfl (lv_at hl 1 rfl) ?_
    refine q_zald hE hW hkb26 rfl (q_in kv24 (by decide) (by decide)) dX12_back_18 (fun kx27 ekx27 gkx27 => ?_)
    have vkx27 : q_V 0 1 kx27 := gkx27
    refine lv_if_ne (tgt := 25) hx hb dX12_back_19 (by decide) (fun kc28 => ?_) (fun kc28 => ?_)
    · have kv29 : q_V 1 1 kx27 := q_ne1 vkx27 (q_c (k := 0) (x := 0) (by decide)) kc28 (by decide)
      refine lv_iconst (v := 0) hx hb dX12_back_25 (by decide) ?_
      refine lv_istore_n (lv' := [(2, .int 0), (0, .ref a0), (1, .int i1)]) hx hb dX12_back_26 rfl hl (by decide) rfl (fun ls hl => ?_)
      exact lp27a _ _ _ _ kv24 0 ((q_c (k := 0) (x := 0) (by decide)).w (by decide) (by decide)) hW ls (lv_sub hl [1, 2, 0] rfl) (Nat.lt_succ_self _)
    · have kv30 : q_V 0 0 kx27 := q_eq1 vkx27 (q_c (k := 0) (x := 0) (by decide)) kc28 (by decide) (by decide)
      refine lv_bipush (v := (-4)) hx hb dX12_back_22 (by decide) ?_
      exact q_reti hE hr hlocks hW (((q_c (k := (-4)) (x := (-4)) (by decide)).w (by decide) (by decide))) dX12_back_24
  · have kv31 : q_V 0 0 kx22 := q_eq1 kp19.1 (q_c (k := 0) (x := 0) (by decide)) kc23 (by decide) (by decide)
    refine lv_bipush (v := (-2)) hx hb dX12_back_10 (by decide) ?_
    exact q_reti hE hr hlocks hW (((q_c (k := (-2)) (x := (-2)) (by decide)).w (by decide) (by decide))) dX12_back_12
set_option maxHeartbeats 4000000 in
set_option maxRecDepth 100000 in
theorem c_X12_takesOne (l : Launch) (G : q_G) (σ : q_S) (a0 : Nat) (h0 : q_T G a0 = 40)  : Met l yX12_takesOne (Cond.code yX12_takesOne cX12_takesOne 4 (some .boolean) :: wsL_law) (q_Rm 1) (q_Pre G σ [.ref a0]) (q_Qi G [56] σ (fun r σ1 => q_V 0 1 r)) 0 0 (q_N G) := by
  refine q_ofW (ts := [56]) (by decide) (Nat.le_of_ble_eq_true rfl) ?_
  intro p e s m args below meth c hE hr hlocks hW ls hl
  have hE : q_E G p s m args c cX12_takesOne 4 RX12 := hE
  have hx := hE.1.1
  have hb := hE.1.2.1
  have hl : lv_has ls 4 [(0, .ref a0)] := hl
  have jn69a : ∀ (ks2 : q_S) (H : Heap) (locs : List Loc) (kx1 : Int32) (vkx1 : q_V (-1) 5 kx1) (hW : q_Wd G [56] σ s.heap ks2 H locs) (ls : Array Slot) (hl : lv_has ls 4 [(1, .int kx1)]), W p l e (q_Rm 1) s m args below meth c H locs 0 0 (MQ below (q_Qi G [56] σ (fun r σ1 => q_V 0 1 r)) args s 0 0 (q_N G)) (F0 m 69 ls []) := by
    intro ks2 H locs kx1 vkx1 hW ls hl
    refine lv_iload_n hx hb dX12_takesOne_69 rfl (lv_at hl 0 rfl) ?_
    refine lv_if_lt (tgt := 77) hx hb dX12_takesOne_70 (by decide) (fun kc3 => ?_) (fun kc3 => ?_)
    · have kv4 : q_V (-1) (-1) kx1 := (q_lt1 vkx1 (q_c (k := 0) (x := 0) (by decide)) kc3).w (by decide) (by decide)
      refine lv_iconst (v := 0) hx hb dX12_takesOne_77 (by decide) ?_
      exact q_retz hE hr hlocks hW (Or.inl rfl) (((q_c (k := 0) (x := 0) (by decide)).w (by decide) (by decide))) dX12_takesOne_78
    · have kv5 : q_V 0 5 kx1 := (q_le2 (q_c (k := 0) (x := 0) (by decide)) vkx1 (Int32.not_lt.mp kc3)).w (by decide) (by decide)
      refine lv_iconst (v := 1) hx hb dX12_takesOne_73 (by decide) ?_
      refine lv_goto (tgt := 78) hx hb dX12_takesOne_74 (by decide) ?_
      exact q_retz hE hr hlocks hW (Or.inr rfl) (((q_c (k := 1) (x := 1) (by decide)).w (by decide) (by decide))) dX12_takesOne_78
  have lp6a : ∀ (n6a : Nat) (ks9 : q_S) (H : Heap) (locs : List Loc) (kx6 : Int32) (vkx6 : q_V (-1) 5 kx6) (kx7 : Int32) (vkx7 : q_V 0 2147483647 kx7) (kx8 : Int32) (vkx8 : q_V 0 6 kx8) (hW : q_Wd G [56] σ s.heap ks9 H locs) (ls : Array Slot) (hl : lv_has ls 4 [(0, .ref a0), (1, .int kx6), (2, .int kx7), (3, .int kx8)]), (6 - kx8.toInt).toNat < n6a → W p l e (q_Rm 1) s m args below meth c H locs 0 0 (MQ below (q_Qi G [56] σ (fun r σ1 => q_V 0 1 r)) args s 0 0 (q_N G)) (F0 m 6 ls []) := by
    intro n6a
    induction n6a with
    | zero => intro _ _ _ _ _ _ _ _ _ _ _ _; exact fun h => absurd h (Nat.not_lt_zero _)
    | succ n6a ih6a =>
      intro ks9 H locs kx6 vkx6 kx7 vkx7 kx8 vkx8 hW ls hl hm6a
      have jn48a : ∀ (ks13 : q_S) (H : Heap) (locs : List Loc) (kx10 : Int32) (vkx10 : q_V (-1) 5 kx10) (kv11 : q_V 0 5 kx8) (kx12 : Int32) (vkx12 : q_V 0 2147483647 kx12) (hW : q_Wd G [56] σ s.heap ks13 H locs) (ls : Array Slot) (hl : lv_has ls 4 [(0, .ref a0), (1, .int kx10), (3, .int kx8)]), W p l e (q_Rm 1) s m args below meth c H locs 0 0 (MQ below (q_Qi G [56] σ (fun r σ1 => q_V 0 1 r)) args s 0 0 (q_N G)) (F0 m 48 ls [.int kx12]) := by
        intro ks13 H locs kx10 vkx10 kv11 kx12 vkx12 hW ls hl
        refine lv_istore_n (lv' := [(2, .int kx12), (0, .ref a0), (1, .int kx10), (3, .int kx8)]) hx hb dX12_takesOne_48 rfl hl (by decide) rfl (fun ls hl => ?_)
        obtain ⟨kx14, ekx14⟩ : ∃ y : Int32, y = kx8 + 1 := ⟨_, rfl⟩
        have vkx14 : q_V 1 6 kx14 := by rw [ekx14]; exact (q_add kv11 (q_c (k := 1) (x := 1) (by decide)) (by decide) (by decide)).w (by decide) (by decide)
        have ikx14 : kx14.toInt = kx8.toInt + 1 := q_incT ekx14 kv11 (by decide) (by decide) (by decide)
        refine lv_iinc (v := kx14) (lv' := [(3, .int kx14), (2, .int kx12), (0, .ref a0), (1, .int kx10)]) hx hb dX12_takesOne_49 hl (k := 3) rfl (by rw [ekx14]; rfl) (by decide) rfl (fun ls hl => ?_)
        refine lv_goto (tgt := 6) hx hb dX12_takesOne_52 (by decide) ?_
        exact ih6a _ _ _ kx10 vkx10 kx12 vkx12 kx14 (vkx14.w (by decide) (by decide)) hW ls (lv_sub hl [2, 3, 1, 0] rfl) (Nat.lt_of_lt_of_le (q_up (ikx14) (show q_V 1 6 kx14 from vkx14).2) (Nat.le_of_lt_succ hm6a))
      have jn27a : ∀ (ks17 : q_S) (H : Heap) (locs : List Loc) (kv15 : q_V 0 5 kx8) (kx16 : Int32) (vkx16 : q_V (-1) 5 kx16) (hW : q_Wd G [56] σ s.heap ks17 H locs) (ls : Array Slot) (hl : lv_has ls 4 [(0, .ref a0), (2, .int kx7), (3, .int kx8)]), W p l e (q_Rm 1) s m args below meth c H locs 0 0 (MQ below (q_Qi G [56] σ (fun r σ1 => q_V 0 1 r)) args s 0 0 (q_N G)) (F0 m 27 ls [.int kx16]) := by
        intro ks17 H locs kv15 kx16 vkx16 hW ls hl
        refine lv_istore_n (lv' := [(1, .int kx16), (0, .ref a0), (2, .int kx7), (3, .int kx8)]) hx hb dX12_takesOne_27 rfl hl (by decide) rfl (fun ls hl => ?_)
        refine lv_aload_n hx hb dX12_takesOne_28 rfl (lv_at hl 1 rfl) ?_
        refine q_getr hE hW h0 rfl q_k12 31 (by decide) rfl (hE.l wl_145) dX12_takesOne_29 (fun kb18 ekb18 hkb18a hkb18b => ?_)
        have hkb18 : q_T G kb18 = 56 := q_tag hkb18a hkb18b
        refine lv_iload_n hx hb dX12_takesOne_32 rfl (lv_at hl 3 rfl) ?_
        refine q_iald hE hW hkb18 rfl (q_in kv15 (by decide) (by decide)) dX12_takesOne_33 (fun kx19 ekx19 gkx19 => ?_)
        refine lv_iload_n hx hb dX12_takesOne_34 rfl (lv_at hl 2 rfl) ?_
        refine lv_icmp_le (tgt := 47) hx hb dX12_takesOne_35 (by decide) (fun kc20 => ?_) (fun kc20 => ?_)
        · refine lv_iload_n hx hb dX12_takesOne_47 rfl (lv_at hl 2 rfl) ?_
          exact jn48a _ _ _ kx16 vkx16 kv15 kx7 vkx7 hW ls (lv_sub hl [1, 0, 3] rfl)
        · have kv21 : q_V 0 2147483646 kx7 := (q_lt1 vkx7 (q_all kx19) (Int32.not_le.mp kc20)).w (by decide) (by decide)
          have kv22 : q_V 1 2147483647 kx19 := (q_lt2 vkx7 (q_all kx19) (Int32.not_le.mp kc20)).w (by decide) (by decide)
          refine lv_aload_n hx hb dX12_takesOne_38 rfl (lv_at hl 1 rfl) ?_
          refine q_getr hE hW h0 rfl q_k12 31 (by decide) rfl (hE.l wl_145) dX12_takesOne_39 (fun kb23 ekb23 hkb23a hkb23b => ?_)
          obtain rfl : kb18 = kb23 := ekb18.symm.trans ekb23
          refine lv_iload_n hx hb dX12_takesOne_42 rfl (lv_at hl 3 rfl) ?_
          refine q_iald hE hW hkb18 rfl (q_in kv15 (by decide) (by decide)) dX12_takesOne_43 (fun kx24 ekx24 gkx24 => ?_)
          obtain rfl : kx19 = kx24 := ekx19.symm.trans ekx24
          refine lv_goto (tgt := 48) hx hb dX12_takesOne_44 (by decide) ?_
          exact jn48a _ _ _ kx16 vkx16 kv15 kx19 (kv22.w (by decide) (by decide)) hW ls (lv_sub hl [1, 0, 3] rfl)
      refine lv_iload_n hx hb dX12_takesOne_6 rfl (lv_at hl 3 rfl) ?_
      refine lv_bipush (v := 6) hx hb dX12_takesOne_7 (by decide) ?_
      refine lv_icmp_ge (tgt := 55) hx hb dX12_takesOne_9 (by decide) (fun kc25 => ?_) (fun kc25 => ?_)
      · have kv26 : q_V 6 6 kx8 := (q_le2 (q_c (k := 6) (x := 6) (by decide)) vkx8 kc25).w (by decide) (by decide)
        refine lv_iload_n hx hb dX12_takesOne_55 rfl (lv_at hl 1 rfl) ?_
        refine lv_if_lt (tgt := 69) hx hb dX12_takesOne_56 (by decide) (fun kc27 => ?_) (fun kc27 => ?_)
        · have kv28 : q_V (-1) (-1) kx6 := (q_lt1 vkx6 (q_c (k := 0) (x := 0) (by decide)) kc27).w (by decide) (by decide)
          exact jn69a _ _ _ kx6 (kv28.w (by decide) (by decide)) hW ls (lv_sub hl [1] rfl)
        · have kv29 : q_V 0 5 kx6 := (q_le2 (q_c (k := 0) (x := 0) (by decide)) vkx6 (Int32.not_lt.mp kc27)).w (by decide) (by decide)
          refine lv_aload_n hx hb dX12_takesOne_59 rfl (lv_at hl 0 rfl) ?_
          refine q_getr hE hW h0 rfl q_k12 31 (by decide) rfl (hE.l wl_145) dX12_takesOne_60 (fun kb30 ekb30 hkb30a hkb30b => ?_)
          have hkb30 : q_T G kb30 = 56 := q_tag hkb30a hkb30b
          refine lv_iload_n hx hb dX12_takesOne_63 rfl (lv_at hl 1 rfl) ?_
          refine lv_dup2_11 hx hb dX12_takesOne_64 rfl rfl ?_
          refine q_iald hE hW hkb30 rfl (q_in kv29 (by decide) (by decide)) dX12_takesOne_65 (fun kx31 ekx31 gkx31 => ?_)
          refine lv_iconst (v := 1) hx hb dX12_takesOne_66 (by decide) ?_
          refine lv_isub hx hb dX12_takesOne_67 ?_
          refine lv_topi (fun kx32 ekx32 => ?_)
          refine q_iast hE hW hkb30 rfl (q_in kv29 (by decide) (by decide)) trivial (by decide) dX12_takesOne_68 (fun H locs ks33 kp34 hW => ?_)
          exact jn69a _ _ _ kx6 (kv29.w (by decide) (by decide)) hW ls (lv_sub hl [1] rfl)
      · have kv35 : q_V 0 5 kx8 := (q_lt1 vkx8 (q_c (k := 6) (x := 6) (by decide)) (Int32.not_le.mp kc25)).w (by decide) (by decide)
        refine lv_aload_n hx hb dX12_takesOne_12 rfl (lv_at hl 0 rfl) ?_
        refine q_getr hE hW h0 rfl q_k12 31 (by decide) rfl (hE.l wl_145) dX12_takesOne_13 (fun kb36 ekb36 hkb36a hkb36b => ?_)
        have hkb36 : q_T G kb36 = 56 := q_tag hkb36a hkb36b
        refine lv_iload_n hx hb dX12_takesOne_16 rfl (lv_at hl 3 rfl) ?_
        refine q_iald hE hW hkb36 rfl (q_in kv35 (by decide) (by decide)) dX12_takesOne_17 (fun kx37 ekx37 gkx37 => ?_)
        refine lv_iload_n hx hb dX12_takesOne_18 rfl (lv_at hl 2 rfl) ?_
        refine lv_icmp_le (tgt := 26) hx hb dX12_takesOne_19 (by decide) (fun kc38 => ?_) (fun kc38 => ?_)
        · refine lv_iload_n hx hb dX12_takesOne_26 rfl (lv_at hl 1 rfl) ?_
          exact jn27a _ _ _ kv35 kx6 vkx6 hW ls (lv_sub hl [0, 2, 3] rfl)
        · have kv39 : q_V 0 2147483646 kx7 := (q_lt1 vkx7 (q_all kx37) (Int32.not_le.mp kc38)).w (by decide) (by decide)
          have kv40 : q_V 1 2147483647 kx37 := (q_lt2 vkx7 (q_all kx37) (Int32.not_le.mp kc38)).w (by decide) (by decide)
          refine lv_iload_n hx hb dX12_takesOne_22 rfl (lv_at hl 3 rfl) ?_
          refine lv_goto (tgt := 27) hx hb dX12_takesOne_23 (by decide) ?_
          exact jn27a _ _ _ kv35 kx8 (kv35.w (by decide) (by decide)) hW ls (lv_sub hl [0, 2, 3] rfl)
  refine lv_iconst (v := (-1)) hx hb dX12_takesOne_0 (by decide) ?_
  refine lv_istore_n (lv' := [(1, .int (-1)), (0, .ref a0)]) hx hb dX12_takesOne_1 rfl hl (by decide) rfl (fun ls hl => ?_)
  refine lv_iconst (v := 0) hx hb dX12_takesOne_2 (by decide) ?_
  refine lv_istore_n (lv' := [(2, .int 0), (1, .int (-1)), (0, .ref a0)]) hx hb dX12_takesOne_3 rfl hl (by decide) rfl (fun ls hl => ?_)
  refine lv_iconst (v := 0) hx hb dX12_takesOne_4 (by decide) ?_
  refine lv_istore_n (lv' := [(3, .int 0), (2, .int 0), (1, .int (-1)), (0, .ref a0)]) hx hb dX12_takesOne_5 rfl hl (by decide) rfl (fun ls hl => ?_)
  exact lp6a _ _ _ _ (-1) ((q_c (k := (-1)) (x := (-1)) (by decide)).w (by decide) (by decide)) 0 ((q_c (k := 0) (x := 0) (by decide)).w (by decide) (by decide)) 0 ((q_c (k := 0) (x := 0) (by decide)).w (by decide) (by decide)) hW ls (lv_sub hl [3, 2, 1, 0] rfl) (Nat.lt_succ_self _)
set_option maxHeartbeats 4000000 in
set_option maxRecDepth 100000 in
theorem c_X12_areOff (l : Launch) (G : q_G) (σ : q_S) (a0 : Nat) (h0 : q_T G a0 = 40)  : Met l yX12_areOff (Cond.code yX12_areOff cX12_areOff 3 (some .boolean) :: wsL_law) (q_Rm 1) (q_Pre G σ [.ref a0]) (q_Qi G [] σ (fun r σ1 => q_V 0 1 r)) 0 0 (q_N G) := by
  refine q_ofW (ts := []) (by decide) (Nat.le_of_ble_eq_true rfl) ?_
  intro p e s m args below meth c hE hr hlocks hW ls hl
  have hE : q_E G p s m args c cX12_areOff 3 RX12 := hE
  have hx := hE.1.1
  have hb := hE.1.2.1
  have hl : lv_has ls 3 [(0, .ref a0)] := hl
  have lp4a : ∀ (n4a : Nat) (kx1 : Int32) (kx2 : Int32) (vkx2 : q_V 0 6 kx2) (ls : Array Slot) (hl : lv_has ls 3 [(0, .ref a0), (1, .int kx1), (2, .int kx2)]), (6 - kx2.toInt).toNat < n4a → W p l e (q_Rm 1) s m args below meth c s.heap [] 0 0 (MQ below (q_Qi G [] σ (fun r σ1 => q_V 0 1 r)) args s 0 0 (q_N G)) (F0 m 4 ls []) := by
    intro n4a
    induction n4a with
    | zero => intro _ _ _ _ _; exact fun h => absurd h (Nat.not_lt_zero _)
    | succ n4a ih4a =>
      intro kx1 kx2 vkx2 ls hl hm4a
      refine lv_iload_n hx hb dX12_areOff_4 rfl (lv_at hl 2 rfl) ?_
      refine lv_bipush (v := 6) hx hb dX12_areOff_5 (by decide) ?_
      refine lv_icmp_ge (tgt := 25) hx hb dX12_areOff_7 (by decide) (fun kc3 => ?_) (fun kc3 => ?_)
      · have kv4 : q_V 6 6 kx2 := (q_le2 (q_c (k := 6) (x := 6) (by decide)) vkx2 kc3).w (by decide) (by decide)
        refine lv_iload_n hx hb dX12_areOff_25 rfl (lv_at hl 1 rfl) ?_
        refine lv_if_ne (tgt := 33) hx hb dX12_areOff_26 (by decide) (fun kc5 => ?_) (fun kc5 => ?_)
        · refine lv_iconst (v := 0) hx hb dX12_areOff_33 (by decide) ?_
          exact q_retz hE hr hlocks hW (Or.inl rfl) (((q_c (k := 0) (x := 0) (by decide)).w (by decide) (by decide))) dX12_areOff_34
        · have kv6 : q_V 0 0 kx1 := q_eq1 (q_all kx1) (q_c (k := 0) (x := 0) (by decide)) kc5 (by decide) (by decide)
          refine lv_iconst (v := 1) hx hb dX12_areOff_29 (by decide) ?_
          refine lv_goto (tgt := 34) hx hb dX12_areOff_30 (by decide) ?_
          exact q_retz hE hr hlocks hW (Or.inr rfl) (((q_c (k := 1) (x := 1) (by decide)).w (by decide) (by decide))) dX12_areOff_34
      · have kv7 : q_V 0 5 kx2 := (q_lt1 vkx2 (q_c (k := 6) (x := 6) (by decide)) (Int32.not_le.mp kc3)).w (by decide) (by decide)
        refine lv_iload_n hx hb dX12_areOff_10 rfl (lv_at hl 1 rfl) ?_
        refine lv_aload_n hx hb dX12_areOff_11 rfl (lv_at hl 0 rfl) ?_
        refine q_getr hE hW h0 rfl q_k12 31 (by decide) rfl (hE.l wl_145) dX12_areOff_12 (fun kb8 ekb8 hkb8a hkb8b => ?_)
        have hkb8 : q_T G kb8 = 56 := q_tag hkb8a hkb8b
        refine lv_iload_n hx hb dX12_areOff_15 rfl (lv_at hl 2 rfl) ?_
        refine q_iald hE hW hkb8 rfl (q_in kv7 (by decide) (by decide)) dX12_areOff_16 (fun kx9 ekx9 gkx9 => ?_)
        refine lv_iadd hx hb dX12_areOff_17 ?_
        refine lv_topi (fun kx10 ekx10 => ?_)
        refine lv_istore_n (lv' := [(1, .int kx10), (0, .ref a0), (2, .int kx2)]) hx hb dX12_areOff_18 rfl hl (by decide) rfl (fun ls hl => ?_)
        obtain ⟨kx11, ekx11⟩ : ∃ y : Int32, y = kx2 + 1 := ⟨_, rfl⟩
        have vkx11 : q_V 1 6 kx11 := by rw [ekx11]; exact (q_add kv7 (q_c (k := 1) (x := 1) (by decide)) (by decide) (by decide)).w (by decide) (by decide)
        have ikx11 : kx11.toInt = kx2.toInt + 1 := q_incT ekx11 kv7 (by decide) (by decide) (by decide)
        refine lv_iinc (v := kx11) (lv' := [(2, .int kx11), (1, .int kx10), (0, .ref a0)]) hx hb dX12_areOff_19 hl (k := 2) rfl (by rw [ekx11]; rfl) (by decide) rfl (fun ls hl => ?_)
        refine lv_goto (tgt := 4) hx hb dX12_areOff_22 (by decide) ?_
        exact ih4a kx10 kx11 (vkx11.w (by decide) (by decide)) ls (lv_sub hl [2, 1, 0] rfl) (Nat.lt_of_lt_of_le (q_up (ikx11) (show q_V 1 6 kx11 from vkx11).2) (Nat.le_of_lt_succ hm4a))
  refine lv_iconst (v := 0) hx hb dX12_areOff_0 (by decide) ?_
  refine lv_istore_n (lv' := [(1, .int 0), (0, .ref a0)]) hx hb dX12_areOff_1 rfl hl (by decide) rfl (fun ls hl => ?_)
  refine lv_iconst (v := 0) hx hb dX12_areOff_2 (by decide) ?_
  refine lv_istore_n (lv' := [(2, .int 0), (1, .int 0), (0, .ref a0)]) hx hb dX12_areOff_3 rfl hl (by decide) rfl (fun ls hl => ?_)
  exact lp4a _ 0 0 ((q_c (k := 0) (x := 0) (by decide)).w (by decide) (by decide)) ls (lv_sub hl [2, 1, 0] rfl) (Nat.lt_succ_self _)
set_option maxHeartbeats 4000000 in
set_option maxRecDepth 100000 in
theorem c_X12_takesBy (l : Launch) (G : q_G) (σ : q_S) (a0 : Nat) (h0 : q_T G a0 = 40) (i1 : Int32) (w1 : q_V 0 5 i1) (i2 : Int32) (i3 : Int32)  : Met l yX12_takesBy (Cond.code yX12_takesBy cX12_takesBy 9 (some .int) :: wsL_law) (q_Rm 2) (q_Pre G σ [.ref a0, .int i1, .int i2, .int i3]) (q_Qi G [56] σ (fun r σ1 => q_V (-2147483648) 2147483647 r)) 0 0 (q_N G) := by
  refine q_ofW (ts := [56]) (by decide) (Nat.le_of_ble_eq_true rfl) ?_
  intro p e s m args below meth c hE hr hlocks hW ls hl
  have hE : q_E G p s m args c cX12_takesBy 9 RX12 := hE
  have hx := hE.1.1
  have hb := hE.1.2.1
  have hl : lv_has ls 9 [(0, .ref a0), (1, .int i1), (2, .int i2), (3, .int i3)] := hl
  have lp66a : ∀ (n66a : Nat) (ks3 : q_S) (H : Heap) (locs : List Loc) (kx1 : Int32) (kx2 : Int32) (vkx2 : q_V 0 61 kx2) (hW : q_Wd G [56] σ s.heap ks3 H locs) (ls : Array Slot) (hl : lv_has ls 9 [(0, .ref a0), (2, .int i2), (3, .int i3), (4, .int kx1), (5, .int kx2)]), (61 - kx2.toInt).toNat < n66a → W p l e (q_Rm 2) s m args below meth c H locs 0 0 (MQ below (q_Qi G [56] σ (fun r σ1 => q_V (-2147483648) 2147483647 r)) args s 0 0 (q_N G)) (F0 m 66 ls []) := by
    intro n66a
    induction n66a with
    | zero => intro _ _ _ _ _ _ _ _ _; exact fun h => absurd h (Nat.not_lt_zero _)
    | succ n66a ih66a =>
      intro ks3 H locs kx1 kx2 vkx2 hW ls hl hm66a
      have lp93a : ∀ (n93a : Nat) (ks7 : q_S) (H : Heap) (locs : List Loc) (kv4 : q_V 0 60 kx2) (kx5 : Int32) (kx6 : Int32) (vkx6 : q_V 0 2147483647 kx6) (hW : q_Wd G [56] σ s.heap ks7 H locs) (ls : Array Slot) (hl : lv_has ls 9 [(0, .ref a0), (2, .int i2), (3, .int i3), (4, .int kx1), (5, .int kx2), (6, .int kx5), (7, .int kx6)]), (2147483647 - kx6.toInt).toNat < n93a → W p l e (q_Rm 2) s m args below meth c H locs 0 0 (MQ below (q_Qi G [56] σ (fun r σ1 => q_V (-2147483648) 2147483647 r)) args s 0 0 (q_N G)) (F0 m 93 ls []) := by
        intro n93a
        induction n93a with
        | zero => intro _ _ _ _ _ _ _ _ _ _; exact fun h => absurd h (Nat.not_lt_zero _)
        | succ n93a ih93a =>
          intro ks7 H locs kv4 kx5 kx6 vkx6 hW ls hl hm93a
          refine lv_iload hx hb dX12_takesBy_93 (lv_at hl 6 rfl) ?_
          refine lv_iload hx hb dX12_takesBy_95 (lv_at hl 5 rfl) ?_
          refine lv_icmp_ge (tgt := 112) hx hb dX12_takesBy_97 (by decide) (fun kc8 => ?_) (fun kc8 => ?_)
          · refine lv_iload hx hb dX12_takesBy_112 (lv_at hl 3 rfl) ?_
            refine lv_iload_n hx hb dX12_takesBy_114 rfl (lv_at hl 1 rfl) ?_
            refine q_goi hW (q_runS (As := [.int i2]) (rest := [.int kx1]) hE hW (c_X12_shrinksBy l G ks7 i2) kw_X12_266 rfl hl.1 rfl (Nat.le_of_ble_eq_true rfl) dX12_takesBy_115 ⟨by decide, by decide⟩ ⟨by decide, by decide⟩) (by decide) (fun kx12 ks10 H locs kp9 kf11 hW => ?_)
            refine lv_isub hx hb dX12_takesBy_118 ?_
            refine lv_topi (fun kx13 ekx13 => ?_)
            refine lv_istore (lv' := [(4, .int kx13), (0, .ref a0), (2, .int i2), (3, .int i3), (5, .int kx2), (6, .int kx5), (7, .int kx6)]) hx hb dX12_takesBy_119 hl (by decide) rfl (fun ls hl => ?_)
            refine lv_iload hx hb dX12_takesBy_121 (lv_at hl 0 rfl) ?_
            refine lv_if_gt (tgt := 128) hx hb dX12_takesBy_123 (by decide) (fun kc14 => ?_) (fun kc14 => ?_)
            · have kv15 : q_V 1 2147483647 kx13 := (q_lt2 (q_c (k := 0) (x := 0) (by decide)) (q_all kx13) kc14).w (by decide) (by decide)
              obtain ⟨kx16, ekx16⟩ : ∃ y : Int32, y = kx2 + 1 := ⟨_, rfl⟩
              have vkx16 : q_V 1 61 kx16 := by rw [ekx16]; exact (q_add kv4 (q_c (k := 1) (x := 1) (by decide)) (by decide) (by decide)).w (by decide) (by decide)
              have ikx16 : kx16.toInt = kx2.toInt + 1 := q_incT ekx16 kv4 (by decide) (by decide) (by decide)
              refine lv_iinc (v := kx16) (lv' := [(5, .int kx16), (4, .int kx13), (0, .ref a0), (2, .int i2), (3, .int i3), (6, .int kx5), (7, .int kx6)]) hx hb dX12_takesBy_128 hl (k := 4) rfl (by rw [ekx16]; rfl) (by decide) rfl (fun ls hl => ?_)
              refine lv_goto (tgt := 66) hx hb dX12_takesBy_131 (by decide) ?_
              exact ih66a _ _ _ kx13 kx16 (vkx16.w (by decide) (by decide)) hW ls (lv_sub hl [2, 3, 4, 1, 0] rfl) (Nat.lt_of_lt_of_le (q_up (ikx16) (show q_V 1 61 kx16 from vkx16).2) (Nat.le_of_lt_succ hm66a))
            · have kv17 : q_V (-2147483648) 0 kx13 := (q_le1 (q_all kx13) (q_c (k := 0) (x := 0) (by decide)) (Int32.not_lt.mp kc14)).w (by decide) (by decide)
              refine lv_iconst (v := (-1)) hx hb dX12_takesBy_126 (by decide) ?_
              exact q_reti hE hr hlocks hW (((q_c (k := (-1)) (x := (-1)) (by decide)).w (by decide) (by decide))) dX12_takesBy_127
          · have kv18 : q_V 0 2147483646 kx6 := (q_lt1 vkx6 (q_all kx5) (Int32.not_le.mp kc8)).w (by decide) (by decide)
            have kv19 : q_V 1 2147483647 kx5 := (q_lt2 vkx6 (q_all kx5) (Int32.not_le.mp kc8)).w (by decide) (by decide)
            refine lv_aload_n hx hb dX12_takesBy_100 rfl (lv_at hl 0 rfl) ?_
            refine q_goi hW (q_runV (As := []) (rest := []) hE hW (c_X12_takesOne l G ks7 a0 h0) kw_X12_289 (q_recv hE hW h0 rfl q_k12) rfl hl.1 rfl (Nat.le_of_ble_eq_true rfl) dX12_takesBy_101 ⟨by decide, by decide⟩ ⟨by decide, by decide⟩) (by decide) (fun kx23 ks21 H locs kp20 kf22 hW => ?_)
            refine lv_istore (lv' := [(8, .int kx23), (0, .ref a0), (2, .int i2), (3, .int i3), (4, .int kx1), (5, .int kx2), (6, .int kx5), (7, .int kx6)]) hx hb dX12_takesBy_104 hl (by decide) rfl (fun ls hl => ?_)
            obtain ⟨kx24, ekx24⟩ : ∃ y : Int32, y = kx6 + 1 := ⟨_, rfl⟩
            have vkx24 : q_V 1 2147483647 kx24 := by rw [ekx24]; exact (q_add kv18 (q_c (k := 1) (x := 1) (by decide)) (by decide) (by decide)).w (by decide) (by decide)
            have ikx24 : kx24.toInt = kx6.toInt + 1 := q_incT ekx24 kv18 (by decide) (by decide) (by decide)
            refine lv_iinc (v := kx24) (lv' := [(7, .int kx24), (8, .int kx23), (0, .ref a0), (2, .int i2), (3, .int i3), (4, .int kx1), (5, .int kx2), (6, .int kx5)]) hx hb dX12_takesBy_106 hl (k := 7) rfl (by rw [ekx24]; rfl) (by decide) rfl (fun ls hl => ?_)
            refine lv_goto (tgt := 93) hx hb dX12_takesBy_109 (by decide) ?_
            exact ih93a _ _ _ kv4 kx5 kx24 (vkx24.w (by decide) (by decide)) hW ls (lv_sub hl [2, 3, 4, 5, 6, 7, 0] rfl) (Nat.lt_of_lt_of_le (q_up (ikx24) (show q_V 1 2147483647 kx24 from vkx24).2) (Nat.le_of_lt_succ hm93a))
      refine lv_iload hx hb dX12_takesBy_66 (lv_at hl 4 rfl) ?_
      refine lv_bipush (v := 61) hx hb dX12_takesBy_68 (by decide) ?_
      refine lv_icmp_ge (tgt := 134) hx hb dX12_takesBy_70 (by decide) (fun kc25 => ?_) (fun kc25 => ?_)
      · have kv26 : q_V 61 61 kx2 := (q_le2 (q_c (k := 61) (x := 61) (by decide)) vkx2 kc25).w (by decide) (by decide)
        refine lv_iconst (v := (-1)) hx hb dX12_takesBy_134 (by decide) ?_
        exact q_reti hE hr hlocks hW (((q_c (k := (-1)) (x := (-1)) (by decide)).w (by decide) (by decide))) dX12_takesBy_135
      · have kv27 : q_V 0 60 kx2 := (q_lt1 vkx2 (q_c (k := 61) (x := 61) (by decide)) (Int32.not_le.mp kc25)).w (by decide) (by decide)
        refine lv_aload_n hx hb dX12_takesBy_73 rfl (lv_at hl 0 rfl) ?_
        refine q_goi hW (q_runV (As := []) (rest := []) hE hW (c_X12_areOff l G ks3 a0 h0) kw_X12_286 (q_recv hE hW h0 rfl q_k12) rfl hl.1 rfl (Nat.le_of_ble_eq_true rfl) dX12_takesBy_74 ⟨by decide, by decide⟩ ⟨by decide, by decide⟩) (by decide) (fun kx31 ks29 H locs kp28 kf30 hW => ?_)
        refine lv_if_eq (tgt := 83) hx hb dX12_takesBy_77 (by decide) (fun kc32 => ?_) (fun kc32 => ?_)
        · have kv33 : q_V 0 0 kx31 := q_eq1 kp28 (q_c (k := 0) (x := 0) (by decide)) kc32 (by decide) (by decide)
          refine lv_iload_n hx hb dX12_takesBy_83 rfl (lv_at hl 1 rfl) ?_
          refine lv_iload_n hx hb dX12_takesBy_84 rfl (lv_at hl 2 rfl) ?_
          refine q_goi hW (q_runS (As := [.int i2, .int i3]) (rest := []) hE hW (c_X12_rubsBy l G ks29 i2 i3) kw_X12_254 rfl hl.1 rfl (Nat.le_of_ble_eq_true rfl) dX12_takesBy_85 ⟨by decide, by decide⟩ ⟨by decide, by decide⟩) (by decide) (fun kx37 ks35 H locs kp34 kf36 hW => ?_)
          refine lv_istore (lv' := [(6, .int kx37), (0, .ref a0), (2, .int i2), (3, .int i3), (4, .int kx1), (5, .int kx2)]) hx hb dX12_takesBy_88 hl (by decide) rfl (fun ls hl => ?_)
          refine lv_iconst (v := 0) hx hb dX12_takesBy_90 (by decide) ?_
          refine lv_istore (lv' := [(7, .int 0), (6, .int kx37), (0, .ref a0), (2, .int i2), (3, .int i3), (4, .int kx1), (5, .int kx2)]) hx hb dX12_takesBy_91 hl (by decide) rfl (fun ls hl => ?_)
          exact lp93a _ _ _ _ kv27 kx37 0 ((q_c (k := 0) (x := 0) (by decide)).w (by decide) (by decide)) hW ls (lv_sub hl [2, 3, 4, 5, 6, 1, 0] rfl) (Nat.lt_succ_self _)
        · have kv38 : q_V 1 1 kx31 := q_ne1 kp28 (q_c (k := 0) (x := 0) (by decide)) kc32 (by decide)
          refine lv_iload hx hb dX12_takesBy_80 (lv_at hl 4 rfl) ?_
          exact q_reti hE hr hlocks hW ((kv27.w (by decide) (by decide))) dX12_takesBy_82
  have lp18a : ∀ (n18a : Nat) (ks40 : q_S) (H : Heap) (locs : List Loc) (kx39 : Int32) (vkx39 : q_V 0 6 kx39) (hW : q_Wd G [56] σ s.heap ks40 H locs) (ls : Array Slot) (hl : lv_has ls 9 [(0, .ref a0), (1, .int i1), (2, .int i2), (3, .int i3), (4, .int kx39)]), (6 - kx39.toInt).toNat < n18a → W p l e (q_Rm 2) s m args below meth c H locs 0 0 (MQ below (q_Qi G [56] σ (fun r σ1 => q_V (-2147483648) 2147483647 r)) args s 0 0 (q_N G)) (F0 m 18 ls []) := by
    intro n18a
    induction n18a with
    | zero => intro _ _ _ _ _ _ _ _; exact fun h => absurd h (Nat.not_lt_zero _)
    | succ n18a ih18a =>
      intro ks40 H locs kx39 vkx39 hW ls hl hm18a
      refine lv_iload hx hb dX12_takesBy_18 (lv_at hl 4 rfl) ?_
      refine lv_bipush (v := 6) hx hb dX12_takesBy_20 (by decide) ?_
      refine lv_icmp_ge (tgt := 53) hx hb dX12_takesBy_22 (by decide) (fun kc41 => ?_) (fun kc41 => ?_)
      · have kv42 : q_V 6 6 kx39 := (q_le2 (q_c (k := 6) (x := 6) (by decide)) vkx39 kc41).w (by decide) (by decide)
        refine lv_aload_n hx hb dX12_takesBy_53 rfl (lv_at hl 0 rfl) ?_
        refine q_getr hE hW h0 rfl q_k12 9 (by decide) rfl (hE.l wl_135) dX12_takesBy_54 (fun kb43 ekb43 hkb43a hkb43b => ?_)
        have hkb43 : q_T G kb43 = 46 := q_tag hkb43a hkb43b
        refine lv_iconst (v := 0) hx hb dX12_takesBy_57 (by decide) ?_
        refine lv_iload_n hx hb dX12_takesBy_58 rfl (lv_at hl 1 rfl) ?_
        refine lv_iadd hx hb dX12_takesBy_59 ?_
        refine lv_topi (fun kx44 ekx44 => ?_)
        have vkx44 : q_V 0 5 kx44 := by rw [ekx44]; exact (q_add (q_c (k := 0) (x := 0) (by decide)) w1 (by decide) (by decide)).w (by decide) (by decide)
        refine q_iald hE hW hkb43 rfl (q_in vkx44 (by decide) (by decide)) dX12_takesBy_60 (fun kx45 ekx45 gkx45 => ?_)
        refine lv_istore (lv' := [(4, .int kx45), (0, .ref a0), (1, .int i1), (2, .int i2), (3, .int i3)]) hx hb dX12_takesBy_61 hl (by decide) rfl (fun ls hl => ?_)
        refine lv_iconst (v := 0) hx hb dX12_takesBy_63 (by decide) ?_
        refine lv_istore (lv' := [(5, .int 0), (4, .int kx45), (0, .ref a0), (1, .int i1), (2, .int i2), (3, .int i3)]) hx hb dX12_takesBy_64 hl (by decide) rfl (fun ls hl => ?_)
        exact lp66a _ _ _ _ kx45 0 ((q_c (k := 0) (x := 0) (by decide)).w (by decide) (by decide)) hW ls (lv_sub hl [2, 4, 5, 1, 0] rfl) (Nat.lt_succ_self _)
      · have kv46 : q_V 0 5 kx39 := (q_lt1 vkx39 (q_c (k := 6) (x := 6) (by decide)) (Int32.not_le.mp kc41)).w (by decide) (by decide)
        refine lv_aload_n hx hb dX12_takesBy_25 rfl (lv_at hl 0 rfl) ?_
        refine q_getr hE hW h0 rfl q_k12 31 (by decide) rfl (hE.l wl_145) dX12_takesBy_26 (fun kb47 ekb47 hkb47a hkb47b => ?_)
        have hkb47 : q_T G kb47 = 56 := q_tag hkb47a hkb47b
        refine lv_iload hx hb dX12_takesBy_29 (lv_at hl 4 rfl) ?_
        refine lv_aload_n hx hb dX12_takesBy_31 rfl (lv_at hl 0 rfl) ?_
        refine q_getr hE hW h0 rfl q_k12 9 (by decide) rfl (hE.l wl_135) dX12_takesBy_32 (fun kb48 ekb48 hkb48a hkb48b => ?_)
        have hkb48 : q_T G kb48 = 46 := q_tag hkb48a hkb48b
        refine lv_bipush (v := 18) hx hb dX12_takesBy_35 (by decide) ?_
        refine lv_bipush (v := 6) hx hb dX12_takesBy_37 (by decide) ?_
        refine lv_iload_n hx hb dX12_takesBy_39 rfl (lv_at hl 1 rfl) ?_
        refine lv_imul hx hb dX12_takesBy_40 ?_
        refine lv_topi (fun kx49 ekx49 => ?_)
        have vkx49 : q_V 0 30 kx49 := by rw [ekx49]; exact (q_mul (k := 6) (by decide) w1 (by decide) (by decide) (by decide)).w (by decide) (by decide)
        refine lv_iadd hx hb dX12_takesBy_41 ?_
        refine lv_topi (fun kx50 ekx50 => ?_)
        have vkx50 : q_V 18 48 kx50 := by rw [ekx50]; exact (q_add (q_c (k := 18) (x := 18) (by decide)) vkx49 (by decide) (by decide)).w (by decide) (by decide)
        refine lv_iload hx hb dX12_takesBy_42 (lv_at hl 4 rfl) ?_
        refine lv_iadd hx hb dX12_takesBy_44 ?_
        refine lv_topi (fun kx51 ekx51 => ?_)
        have vkx51 : q_V 18 53 kx51 := by rw [ekx51]; exact (q_add vkx50 kv46 (by decide) (by decide)).w (by decide) (by decide)
        refine q_iald hE hW hkb48 rfl (q_in vkx51 (by decide) (by decide)) dX12_takesBy_45 (fun kx52 ekx52 gkx52 => ?_)
        refine q_iast hE hW hkb47 rfl (q_in kv46 (by decide) (by decide)) trivial (by decide) dX12_takesBy_46 (fun H locs ks53 kp54 hW => ?_)
        obtain ⟨kx55, ekx55⟩ : ∃ y : Int32, y = kx39 + 1 := ⟨_, rfl⟩
        have vkx55 : q_V 1 6 kx55 := by rw [ekx55]; exact (q_add kv46 (q_c (k := 1) (x := 1) (by decide)) (by decide) (by decide)).w (by decide) (by decide)
        have ikx55 : kx55.toInt = kx39.toInt + 1 := q_incT ekx55 kv46 (by decide) (by decide) (by decide)
        refine lv_iinc (v := kx55) (lv' := [(4, .int kx55), (0, .ref a0), (1, .int i1), (2, .int i2), (3, .int i3)]) hx hb dX12_takesBy_47 hl (k := 4) rfl (by rw [ekx55]; rfl) (by decide) rfl (fun ls hl => ?_)
        refine lv_goto (tgt := 18) hx hb dX12_takesBy_50 (by decide) ?_
        exact ih18a _ _ _ kx55 (vkx55.w (by decide) (by decide)) hW ls (lv_sub hl [1, 2, 3, 4, 0] rfl) (Nat.lt_of_lt_of_le (q_up (ikx55) (show q_V 1 6 kx55 from vkx55).2) (Nat.le_of_lt_succ hm18a))
  refine lv_aload_n hx hb dX12_takesBy_0 rfl (lv_at hl 0 rfl) ?_
  refine q_getr hE hW h0 rfl q_k12 9 (by decide) rfl (hE.l wl_135) dX12_takesBy_1 (fun kb56 ekb56 hkb56a hkb56b => ?_)
  have hkb56 : q_T G kb56 = 46 := q_tag hkb56a hkb56b
  refine lv_bipush (v := 6) hx hb dX12_takesBy_4 (by decide) ?_
  refine lv_iload_n hx hb dX12_takesBy_6 rfl (lv_at hl 1 rfl) ?_
  refine lv_iadd hx hb dX12_takesBy_7 ?_
  refine lv_topi (fun kx57 ekx57 => ?_)
  have vkx57 : q_V 6 11 kx57 := by rw [ekx57]; exact (q_add (q_c (k := 6) (x := 6) (by decide)) w1 (by decide) (by decide)).w (by decide) (by decide)
  refine q_iald hE hW hkb56 rfl (q_in vkx57 (by decide) (by decide)) dX12_takesBy_8 (fun kx58 ekx58 gkx58 => ?_)
  refine lv_iconst (v := 3) hx hb dX12_takesBy_9 (by decide) ?_
  refine lv_icmp_lt (tgt := 15) hx hb dX12_takesBy_10 (by decide) (fun kc59 => ?_) (fun kc59 => ?_)
  · have kv60 : q_V (-2147483648) 2 kx58 := (q_lt1 (q_all kx58) (q_c (k := 3) (x := 3) (by decide)) kc59).w (by decide) (by decide)
    refine lv_iconst (v := 0) hx hb dX12_takesBy_15 (by decide) ?_
    refine lv_istore (lv' := [(4, .int 0), (0, .ref a0), (1, .int i1), (2, .int i2), (3, .int i3)]) hx hb dX12_takesBy_16 hl (by decide) rfl (fun ls hl => ?_)
    exact lp18a _ _ _ _ 0 ((q_c (k := 0) (x := 0) (by decide)).w (by decide) (by decide)) hW ls (lv_sub hl [1, 2, 3, 4, 0] rfl) (Nat.lt_succ_self _)
  · have kv61 : q_V 3 2147483647 kx58 := (q_le2 (q_c (k := 3) (x := 3) (by decide)) (q_all kx58) (Int32.not_lt.mp kc59)).w (by decide) (by decide)
    refine lv_iconst (v := (-1)) hx hb dX12_takesBy_13 (by decide) ?_
    exact q_reti hE hr hlocks hW (((q_c (k := (-1)) (x := (-1)) (by decide)).w (by decide) (by decide))) dX12_takesBy_14
set_option maxHeartbeats 4000000 in
set_option maxRecDepth 100000 in
theorem c_X12_takes (l : Launch) (G : q_G) (σ : q_S) (a0 : Nat) (h0 : q_T G a0 = 40) (i1 : Int32) (i2 : Int32)  : Met l yX12_takes (Cond.code yX12_takes cX12_takes 3 (some .int) :: wsL_law) (q_Rm 3) (q_Pre G σ [.ref a0, .int i1, .int i2]) (q_Qi G [56] σ (fun r σ1 => q_V (-2147483648) 2147483647 r)) 0 0 (q_N G) := by
  refine q_ofW (ts := [56]) (by decide) (Nat.le_of_ble_eq_true rfl) ?_
  intro p e s m args below meth c hE hr hlocks hW ls hl
  have hE : q_E G p s m args c cX12_takes 3 RX12 := hE
  have hx := hE.1.1
  have hb := hE.1.2.1
  have hl : lv_has ls 3 [(0, .ref a0), (1, .int i1), (2, .int i2)] := hl
  refine lv_aload_n hx hb dX12_takes_0 rfl (lv_at hl 0 rfl) ?_
  refine lv_iload_n hx hb dX12_takes_1 rfl (lv_at hl 1 rfl) ?_
  refine q_goi hW (q_runV (As := [.int i1]) (rest := []) hE hW (c_X12_isCloud l G σ a0 h0 i1) kw_X12_233 (q_recv hE hW h0 rfl q_k12) rfl hl.1 rfl (Nat.le_of_ble_eq_true rfl) dX12_takes_2 ⟨by decide, by decide⟩ ⟨by decide, by decide⟩) (by decide) (fun kx4 ks2 H locs kp1 kf3 hW => ?_)
  refine lv_if_ne (tgt := 11) hx hb dX12_takes_5 (by decide) (fun kc5 => ?_) (fun kc5 => ?_)
  · have kv6 : q_V 0 5 i1 := kp1.2 kc5
    have kv7 : q_V 1 1 kx4 := q_ne1 kp1.1 (q_c (k := 0) (x := 0) (by decide)) kc5 (by decide)
    refine lv_iload_n hx hb dX12_takes_11 rfl (lv_at hl 2 rfl) ?_
    refine lv_i2l (v := i2.toInt64) hx hb dX12_takes_12 rfl ?_
    refine lv_lconst (v := 1) hx hb dX12_takes_13 (by decide) ?_
    refine lv_ldc2 (v := 3) hx hb hE.1.2.2.2.1 (hE.w wl_759) dX12_takes_14 ?_
    refine q_goi hW (q_runS (As := [.long (i2).toInt64, .long 1, .long 3]) (rest := []) hE hW (c_X12_in l G ks2 ((i2).toInt64) 1 3) kw_X12_99 rfl hl.1 rfl (Nat.le_of_ble_eq_true rfl) dX12_takes_17 ⟨by decide, by decide⟩ ⟨by decide, by decide⟩) (by decide) (fun kx11 ks9 H locs kp8 kf10 hW => ?_)
    refine lv_if_eq (tgt := 38) hx hb dX12_takes_20 (by decide) (fun kc12 => ?_) (fun kc12 => ?_)
    · have kv13 : q_V 0 0 kx11 := q_eq1 kp8.1 (q_c (k := 0) (x := 0) (by decide)) kc12 (by decide) (by decide)
      refine lv_bipush (v := (-3)) hx hb dX12_takes_38 (by decide) ?_
      exact q_reti hE hr hlocks hW (((q_c (k := (-3)) (x := (-3)) (by decide)).w (by decide) (by decide))) dX12_takes_40
    · have kv14 : q_V 1 3 i2 := q_inV (kp8.2.1 kc12).1 (kp8.2.1 kc12).2 (q_lc (k := 1) (x := 1) (by decide)) (q_lc (k := 3) (x := 3) (by decide))
      have kv15 : q_V 1 1 kx11 := q_ne1 kp8.1 (q_c (k := 0) (x := 0) (by decide)) kc12 (by decide)
      refine lv_aload_n hx hb dX12_takes_23 rfl (lv_at hl 0 rfl) ?_
      refine lv_iload_n hx hb dX12_takes_24 rfl (lv_at hl 1 rfl) ?_
      refine lv_aload_n hx hb dX12_takes_25 rfl (lv_at hl 0 rfl) ?_
      refine q_getr hE hW h0 rfl q_k12 1 (by decide) rfl (hE.l wl_129) dX12_takes_26 (fun kb16 ekb16 hkb16a hkb16b => ?_)
      have hkb16 : q_T G kb16 = 41 := q_tag hkb16a hkb16b
      refine lv_iload_n hx hb dX12_takes_29 rfl (lv_at hl 1 rfl) ?_
      refine q_iald hE hW hkb16 rfl (q_in kv6 (by decide) (by decide)) dX12_takes_30 (fun kx17 ekx17 gkx17 => ?_)
      refine lv_iload_n hx hb dX12_takes_31 rfl (lv_at hl 2 rfl) ?_
      refine q_goi hW (q_runV (As := [.int i1, .int kx17, .int i2]) (rest := []) hE hW (c_X12_takesBy l G ks9 a0 h0 i1 kv6 kx17 i2) kw_X12_294 (q_recv hE hW h0 rfl q_k12) rfl hl.1 rfl (Nat.le_of_ble_eq_true rfl) dX12_takes_32 ⟨by decide, by decide⟩ ⟨by decide, by decide⟩) (by decide) (fun kx21 ks19 H locs kp18 kf20 hW => ?_)
      refine lv_goto (tgt := 40) hx hb dX12_takes_35 (by decide) ?_
      exact q_reti hE hr hlocks hW ((q_all kx21)) dX12_takes_40
  · have kv22 : q_V 0 0 kx4 := q_eq1 kp1.1 (q_c (k := 0) (x := 0) (by decide)) kc5 (by decide) (by decide)
    refine lv_bipush (v := (-2)) hx hb dX12_takes_8 (by decide) ?_
    exact q_reti hE hr hlocks hW (((q_c (k := (-2)) (x := (-2)) (by decide)).w (by decide) (by decide))) dX12_takes_10
set_option maxHeartbeats 4000000 in
set_option maxRecDepth 100000 in
theorem c_X12_copyRow (l : Launch) (G : q_G) (σ : q_S) (a0 : Nat) (h0 : q_T G a0 = 40) (a1 : Nat) (h1 : q_T G a1 = 46) (a2 : Nat) (h2 : q_T G a2 = 46)  : Met l yX12_copyRow (Cond.code yX12_copyRow cX12_copyRow 4 none :: wsL_law) (q_Rm 1) (q_Pre G σ [.ref a0, .ref a1, .ref a2]) (q_Qv G [46] σ (fun σ1 => True)) 0 0 (q_N G) := by
  refine q_ofW (ts := [46]) (by decide) (Nat.le_of_ble_eq_true rfl) ?_
  intro p e s m args below meth c hE hr hlocks hW ls hl
  have hE : q_E G p s m args c cX12_copyRow 4 RX12 := hE
  have hx := hE.1.1
  have hb := hE.1.2.1
  have hl : lv_has ls 4 [(0, .ref a0), (1, .ref a1), (2, .ref a2)] := hl
  have lp2a : ∀ (n2a : Nat) (ks2 : q_S) (H : Heap) (locs : List Loc) (kx1 : Int32) (vkx1 : q_V 0 101 kx1) (hW : q_Wd G [46] σ s.heap ks2 H locs) (ls : Array Slot) (hl : lv_has ls 4 [(1, .ref a1), (2, .ref a2), (3, .int kx1)]), (101 - kx1.toInt).toNat < n2a → W p l e (q_Rm 1) s m args below meth c H locs 0 0 (MQ below (q_Qv G [46] σ (fun σ1 => True)) args s 0 0 (q_N G)) (F0 m 2 ls []) := by
    intro n2a
    induction n2a with
    | zero => intro _ _ _ _ _ _ _ _; exact fun h => absurd h (Nat.not_lt_zero _)
    | succ n2a ih2a =>
      intro ks2 H locs kx1 vkx1 hW ls hl hm2a
      refine lv_iload_n hx hb dX12_copyRow_2 rfl (lv_at hl 2 rfl) ?_
      refine lv_bipush (v := 101) hx hb dX12_copyRow_3 (by decide) ?_
      refine lv_icmp_ge (tgt := 20) hx hb dX12_copyRow_5 (by decide) (fun kc3 => ?_) (fun kc3 => ?_)
      · have kv4 : q_V 101 101 kx1 := (q_le2 (q_c (k := 101) (x := 101) (by decide)) vkx1 kc3).w (by decide) (by decide)
        exact q_retv hE hr hlocks hW (trivial) dX12_copyRow_20
      · have kv5 : q_V 0 100 kx1 := (q_lt1 vkx1 (q_c (k := 101) (x := 101) (by decide)) (Int32.not_le.mp kc3)).w (by decide) (by decide)
        refine lv_aload_n hx hb dX12_copyRow_8 rfl (lv_at hl 1 rfl) ?_
        refine lv_iload_n hx hb dX12_copyRow_9 rfl (lv_at hl 2 rfl) ?_
        refine lv_aload_n hx hb dX12_copyRow_10 rfl (lv_at hl 0 rfl) ?_
        refine lv_iload_n hx hb dX12_copyRow_11 rfl (lv_at hl 2 rfl) ?_
        refine q_iald hE hW h1 rfl (q_in kv5 (by decide) (by decide)) dX12_copyRow_12 (fun kx6 ekx6 gkx6 => ?_)
        refine q_iast hE hW h2 rfl (q_in kv5 (by decide) (by decide)) gkx6 (by decide) dX12_copyRow_13 (fun H locs ks7 kp8 hW => ?_)
        obtain ⟨kx9, ekx9⟩ : ∃ y : Int32, y = kx1 + 1 := ⟨_, rfl⟩
        have vkx9 : q_V 1 101 kx9 := by rw [ekx9]; exact (q_add kv5 (q_c (k := 1) (x := 1) (by decide)) (by decide) (by decide)).w (by decide) (by decide)
        have ikx9 : kx9.toInt = kx1.toInt + 1 := q_incT ekx9 kv5 (by decide) (by decide) (by decide)
        refine lv_iinc (v := kx9) (lv' := [(3, .int kx9), (1, .ref a1), (2, .ref a2)]) hx hb dX12_copyRow_14 hl (k := 2) rfl (by rw [ekx9]; rfl) (by decide) rfl (fun ls hl => ?_)
        refine lv_goto (tgt := 2) hx hb dX12_copyRow_17 (by decide) ?_
        exact ih2a _ _ _ kx9 (vkx9.w (by decide) (by decide)) hW ls (lv_sub hl [1, 2, 0] rfl) (Nat.lt_of_lt_of_le (q_up (ikx9) (show q_V 1 101 kx9 from vkx9).2) (Nat.le_of_lt_succ hm2a))
  refine lv_iconst (v := 0) hx hb dX12_copyRow_0 (by decide) ?_
  refine lv_istore_n (lv' := [(3, .int 0), (0, .ref a0), (1, .ref a1), (2, .ref a2)]) hx hb dX12_copyRow_1 rfl hl (by decide) rfl (fun ls hl => ?_)
  exact lp2a _ _ _ _ 0 ((q_c (k := 0) (x := 0) (by decide)).w (by decide) (by decide)) hW ls (lv_sub hl [2, 3, 0] rfl) (Nat.lt_succ_self _)
set_option maxHeartbeats 4000000 in
set_option maxRecDepth 100000 in
theorem c_X12_readAt (l : Launch) (G : q_G) (σ : q_S) (a0 : Nat) (h0 : q_T G a0 = 40) (i1 : Int32) (w1 : q_V 0 6 i1)  : Met l yX12_readAt (Cond.code yX12_readAt cX12_readAt 4 (some .int) :: wsL_law) (q_Rm 1) (q_Pre G σ [.ref a0, .int i1]) (q_Qi G [] σ (fun r σ1 => q_V (-2147483648) 2147483647 r)) 0 0 (q_N G) := by
  refine q_ofW (ts := []) (by decide) (Nat.le_of_ble_eq_true rfl) ?_
  intro p e s m args below meth c hE hr hlocks hW ls hl
  have hE : q_E G p s m args c cX12_readAt 4 RX12 := hE
  have hx := hE.1.1
  have hb := hE.1.2.1
  have hl : lv_has ls 4 [(0, .ref a0), (1, .int i1)] := hl
  have lp4a : ∀ (n4a : Nat) (kx1 : Int32) (kx2 : Int32) (vkx2 : q_V 0 6 kx2) (ls : Array Slot) (hl : lv_has ls 4 [(0, .ref a0), (1, .int i1), (2, .int kx1), (3, .int kx2)]), (6 - kx2.toInt).toNat < n4a → W p l e (q_Rm 1) s m args below meth c s.heap [] 0 0 (MQ below (q_Qi G [] σ (fun r σ1 => q_V (-2147483648) 2147483647 r)) args s 0 0 (q_N G)) (F0 m 4 ls []) := by
    intro n4a
    induction n4a with
    | zero => intro _ _ _ _ _; exact fun h => absurd h (Nat.not_lt_zero _)
    | succ n4a ih4a =>
      intro kx1 kx2 vkx2 ls hl hm4a
      have jn39a : ∀ (kv3 : q_V 0 5 kx2) (kx4 : Int32) (kx5 : Int32) (ls : Array Slot) (hl : lv_has ls 4 [(0, .ref a0), (1, .int i1), (3, .int kx2)]), W p l e (q_Rm 1) s m args below meth c s.heap [] 0 0 (MQ below (q_Qi G [] σ (fun r σ1 => q_V (-2147483648) 2147483647 r)) args s 0 0 (q_N G)) (F0 m 39 ls [.int kx5, .int kx4]) := by
        intro kv3 kx4 kx5 ls hl
        refine lv_ior hx hb dX12_readAt_39 ?_
        refine lv_topi (fun kx6 ekx6 => ?_)
        refine lv_istore_n (lv' := [(2, .int kx6), (0, .ref a0), (1, .int i1), (3, .int kx2)]) hx hb dX12_readAt_40 rfl hl (by decide) rfl (fun ls hl => ?_)
        obtain ⟨kx7, ekx7⟩ : ∃ y : Int32, y = kx2 + 1 := ⟨_, rfl⟩
        have vkx7 : q_V 1 6 kx7 := by rw [ekx7]; exact (q_add kv3 (q_c (k := 1) (x := 1) (by decide)) (by decide) (by decide)).w (by decide) (by decide)
        have ikx7 : kx7.toInt = kx2.toInt + 1 := q_incT ekx7 kv3 (by decide) (by decide) (by decide)
        refine lv_iinc (v := kx7) (lv' := [(3, .int kx7), (2, .int kx6), (0, .ref a0), (1, .int i1)]) hx hb dX12_readAt_41 hl (k := 3) rfl (by rw [ekx7]; rfl) (by decide) rfl (fun ls hl => ?_)
        refine lv_goto (tgt := 4) hx hb dX12_readAt_44 (by decide) ?_
        exact ih4a kx6 kx7 (vkx7.w (by decide) (by decide)) ls (lv_sub hl [2, 3, 1, 0] rfl) (Nat.lt_of_lt_of_le (q_up (ikx7) (show q_V 1 6 kx7 from vkx7).2) (Nat.le_of_lt_succ hm4a))
      refine lv_iload_n hx hb dX12_readAt_4 rfl (lv_at hl 3 rfl) ?_
      refine lv_bipush (v := 6) hx hb dX12_readAt_5 (by decide) ?_
      refine lv_icmp_ge (tgt := 47) hx hb dX12_readAt_7 (by decide) (fun kc8 => ?_) (fun kc8 => ?_)
      · have kv9 : q_V 6 6 kx2 := (q_le2 (q_c (k := 6) (x := 6) (by decide)) vkx2 kc8).w (by decide) (by decide)
        refine lv_iload_n hx hb dX12_readAt_47 rfl (lv_at hl 2 rfl) ?_
        exact q_reti hE hr hlocks hW ((q_all kx1)) dX12_readAt_48
      · have kv10 : q_V 0 5 kx2 := (q_lt1 vkx2 (q_c (k := 6) (x := 6) (by decide)) (Int32.not_le.mp kc8)).w (by decide) (by decide)
        refine lv_iload_n hx hb dX12_readAt_10 rfl (lv_at hl 2 rfl) ?_
        refine lv_aload_n hx hb dX12_readAt_11 rfl (lv_at hl 0 rfl) ?_
        refine q_getr hE hW h0 rfl q_k12 9 (by decide) rfl (hE.l wl_135) dX12_readAt_12 (fun kb11 ekb11 hkb11a hkb11b => ?_)
        have hkb11 : q_T G kb11 = 46 := q_tag hkb11a hkb11b
        refine lv_bipush (v := 59) hx hb dX12_readAt_15 (by decide) ?_
        refine lv_bipush (v := 6) hx hb dX12_readAt_17 (by decide) ?_
        refine lv_iload_n hx hb dX12_readAt_19 rfl (lv_at hl 1 rfl) ?_
        refine lv_imul hx hb dX12_readAt_20 ?_
        refine lv_topi (fun kx12 ekx12 => ?_)
        have vkx12 : q_V 0 36 kx12 := by rw [ekx12]; exact (q_mul (k := 6) (by decide) w1 (by decide) (by decide) (by decide)).w (by decide) (by decide)
        refine lv_iadd hx hb dX12_readAt_21 ?_
        refine lv_topi (fun kx13 ekx13 => ?_)
        have vkx13 : q_V 59 95 kx13 := by rw [ekx13]; exact (q_add (q_c (k := 59) (x := 59) (by decide)) vkx12 (by decide) (by decide)).w (by decide) (by decide)
        refine lv_iload_n hx hb dX12_readAt_22 rfl (lv_at hl 3 rfl) ?_
        refine lv_iadd hx hb dX12_readAt_23 ?_
        refine lv_topi (fun kx14 ekx14 => ?_)
        have vkx14 : q_V 59 100 kx14 := by rw [ekx14]; exact (q_add vkx13 kv10 (by decide) (by decide)).w (by decide) (by decide)
        refine q_iald hE hW hkb11 rfl (q_in vkx14 (by decide) (by decide)) dX12_readAt_24 (fun kx15 ekx15 gkx15 => ?_)
        refine lv_aload_n hx hb dX12_readAt_25 rfl (lv_at hl 0 rfl) ?_
        refine q_geti hE hW h0 rfl q_k12 8 (by decide) rfl (hE.l wl_134) dX12_readAt_26 (fun kx16 ekx16 vkx16 => ?_)
        refine lv_icmp_lt (tgt := 38) hx hb dX12_readAt_29 (by decide) (fun kc17 => ?_) (fun kc17 => ?_)
        · have kv18 : q_V (-2147483648) 2147483646 kx15 := (q_lt1 (q_all kx15) (q_all kx16) kc17).w (by decide) (by decide)
          have kv19 : q_V (-2147483647) 2147483647 kx16 := (q_lt2 (q_all kx15) (q_all kx16) kc17).w (by decide) (by decide)
          refine lv_iconst (v := 0) hx hb dX12_readAt_38 (by decide) ?_
          exact jn39a kv10 kx1 0 ls (lv_sub hl [0, 1, 3] rfl)
        · refine lv_iconst (v := 1) hx hb dX12_readAt_32 (by decide) ?_
          refine lv_iload_n hx hb dX12_readAt_33 rfl (lv_at hl 3 rfl) ?_
          refine lv_ishl hx hb dX12_readAt_34 ?_
          refine lv_topi (fun kx20 ekx20 => ?_)
          refine lv_goto (tgt := 39) hx hb dX12_readAt_35 (by decide) ?_
          exact jn39a kv10 kx1 kx20 ls (lv_sub hl [0, 1, 3] rfl)
  refine lv_iconst (v := 0) hx hb dX12_readAt_0 (by decide) ?_
  refine lv_istore_n (lv' := [(2, .int 0), (0, .ref a0), (1, .int i1)]) hx hb dX12_readAt_1 rfl hl (by decide) rfl (fun ls hl => ?_)
  refine lv_iconst (v := 0) hx hb dX12_readAt_2 (by decide) ?_
  refine lv_istore_n (lv' := [(3, .int 0), (2, .int 0), (0, .ref a0), (1, .int i1)]) hx hb dX12_readAt_3 rfl hl (by decide) rfl (fun ls hl => ?_)
  exact lp4a _ 0 0 ((q_c (k := 0) (x := 0) (by decide)).w (by decide) (by decide)) ls (lv_sub hl [2, 3, 1, 0] rfl) (Nat.lt_succ_self _)
set_option maxHeartbeats 4000000 in
set_option maxRecDepth 100000 in
theorem c_X12_later (l : Launch) (G : q_G) (σ : q_S) (a0 : Nat) (h0 : q_T G a0 = 40) (i1 : Int32) (i2 : Int32)  : Met l yX12_later (Cond.code yX12_later cX12_later 4 (some .int) :: wsL_law) (q_Rm 5) (q_Pre G σ [.ref a0, .int i1, .int i2]) (q_Qi G [46] σ (fun r σ1 => q_V (-2147483648) 2147483647 r)) 0 0 (q_N G) := by
  refine q_ofW (ts := [46]) (by decide) (Nat.le_of_ble_eq_true rfl) ?_
  intro p e s m args below meth c hE hr hlocks hW ls hl
  have hE : q_E G p s m args c cX12_later 4 RX12 := hE
  have hx := hE.1.1
  have hb := hE.1.2.1
  have hl : lv_has ls 4 [(0, .ref a0), (1, .int i1), (2, .int i2)] := hl
  have lp44a : ∀ (n44a : Nat) (ks4 : q_S) (H : Heap) (locs : List Loc) (kv1 : q_V 0 6 i1) (kv2 : q_V 0 20 i2) (kx3 : Int32) (vkx3 : q_V 0 199 kx3) (hW : q_Wd G [46] σ s.heap ks4 H locs) (ls : Array Slot) (hl : lv_has ls 4 [(0, .ref a0), (1, .int i1), (2, .int i2), (3, .int kx3)]), (199 - kx3.toInt).toNat < n44a → W p l e (q_Rm 5) s m args below meth c H locs 0 0 (MQ below (q_Qi G [46] σ (fun r σ1 => q_V (-2147483648) 2147483647 r)) args s 0 0 (q_N G)) (F0 m 44 ls []) := by
    intro n44a
    induction n44a with
    | zero => intro _ _ _ _ _ _ _ _ _ _; exact fun h => absurd h (Nat.not_lt_zero _)
    | succ n44a ih44a =>
      intro ks4 H locs kv1 kv2 kx3 vkx3 hW ls hl hm44a
      refine lv_iload_n hx hb dX12_later_44 rfl (lv_at hl 3 rfl) ?_
      refine lv_iload_n hx hb dX12_later_45 rfl (lv_at hl 2 rfl) ?_
      refine lv_icmp_ge (tgt := 59) hx hb dX12_later_46 (by decide) (fun kc5 => ?_) (fun kc5 => ?_)
      · refine lv_aload_n hx hb dX12_later_59 rfl (lv_at hl 0 rfl) ?_
        refine lv_iload_n hx hb dX12_later_60 rfl (lv_at hl 1 rfl) ?_
        refine q_goi hW (q_runV (As := [.int i1]) (rest := []) hE hW (c_X12_readAt l G ks4 a0 h0 i1 kv1) kw_X12_302 (q_recv hE hW h0 rfl q_k12) rfl hl.1 rfl (Nat.le_of_ble_eq_true rfl) dX12_later_61 ⟨by decide, by decide⟩ ⟨by decide, by decide⟩) (by decide) (fun kx9 ks7 H locs kp6 kf8 hW => ?_)
        refine lv_istore_n (lv' := [(3, .int kx9), (0, .ref a0), (1, .int i1), (2, .int i2)]) hx hb dX12_later_64 rfl hl (by decide) rfl (fun ls hl => ?_)
        refine lv_aload_n hx hb dX12_later_65 rfl (lv_at hl 1 rfl) ?_
        refine lv_aload_n hx hb dX12_later_66 rfl (lv_at hl 1 rfl) ?_
        refine q_getr hE hW h0 rfl q_k12 32 (by decide) rfl (hE.l wl_146) dX12_later_67 (fun kb10 ekb10 hkb10a hkb10b => ?_)
        have hkb10 : q_T G kb10 = 46 := q_tag hkb10a hkb10b
        refine lv_aload_n hx hb dX12_later_70 rfl (lv_at hl 1 rfl) ?_
        refine q_getr hE hW h0 rfl q_k12 9 (by decide) rfl (hE.l wl_135) dX12_later_71 (fun kb11 ekb11 hkb11a hkb11b => ?_)
        have hkb11 : q_T G kb11 = 46 := q_tag hkb11a hkb11b
        refine q_gov hW (q_runV (As := [.ref kb10, .ref kb11]) (rest := []) hE hW (c_X12_copyRow l G ks7 a0 h0 kb10 hkb10 kb11 hkb11) kw_X12_298 (q_recv hE hW h0 rfl q_k12) rfl hl.1 rfl (Nat.le_of_ble_eq_true rfl) dX12_later_74 ⟨by decide, by decide⟩ ⟨by decide, by decide⟩) (by decide) (fun ks13 H locs kp12 kf14 hW => ?_)
        refine lv_iload_n hx hb dX12_later_77 rfl (lv_at hl 0 rfl) ?_
        exact q_reti hE hr hlocks hW ((q_all kx9)) dX12_later_78
      · have kv15 : q_V 0 19 kx3 := (q_lt1 vkx3 kv2 (Int32.not_le.mp kc5)).w (by decide) (by decide)
        have kv16 : q_V 1 20 i2 := (q_lt2 vkx3 kv2 (Int32.not_le.mp kc5)).w (by decide) (by decide)
        refine lv_aload_n hx hb dX12_later_49 rfl (lv_at hl 0 rfl) ?_
        refine q_gov hW (q_runV (As := []) (rest := []) hE hW (c_X12_pass l G ks4 a0 h0) kw_X12_283 (q_recv hE hW h0 rfl q_k12) rfl hl.1 rfl (Nat.le_of_ble_eq_true rfl) dX12_later_50 ⟨by decide, by decide⟩ ⟨by decide, by decide⟩) (by decide) (fun ks18 H locs kp17 kf19 hW => ?_)
        obtain ⟨kx20, ekx20⟩ : ∃ y : Int32, y = kx3 + 1 := ⟨_, rfl⟩
        have vkx20 : q_V 1 20 kx20 := by rw [ekx20]; exact (q_add kv15 (q_c (k := 1) (x := 1) (by decide)) (by decide) (by decide)).w (by decide) (by decide)
        have ikx20 : kx20.toInt = kx3.toInt + 1 := q_incT ekx20 kv15 (by decide) (by decide) (by decide)
        refine lv_iinc (v := kx20) (lv' := [(3, .int kx20), (0, .ref a0), (1, .int i1), (2, .int i2)]) hx hb dX12_later_53 hl (k := 3) rfl (by rw [ekx20]; rfl) (by decide) rfl (fun ls hl => ?_)
        refine lv_goto (tgt := 44) hx hb dX12_later_56 (by decide) ?_
        exact ih44a _ _ _ kv1 (kv16.w (by decide) (by decide)) kx20 (vkx20.w (by decide) (by decide)) hW ls (lv_sub hl [1, 2, 3, 0] rfl) (Nat.lt_of_lt_of_le (q_up (ikx20) (show q_V 1 199 kx20 from (vkx20.w (by decide) (by decide))).2) (Nat.le_of_lt_succ hm44a))
  refine lv_iload_n hx hb dX12_later_0 rfl (lv_at hl 1 rfl) ?_
  refine lv_i2l (v := i1.toInt64) hx hb dX12_later_1 rfl ?_
  refine lv_lconst (v := 0) hx hb dX12_later_2 (by decide) ?_
  refine lv_ldc2 (v := 6) hx hb hE.1.2.2.2.1 (hE.w wl_557) dX12_later_3 ?_
  refine q_goi hW (q_runS (As := [.long (i1).toInt64, .long 0, .long 6]) (rest := []) hE hW (c_X12_in l G σ ((i1).toInt64) 0 6) kw_X12_99 rfl hl.1 rfl (Nat.le_of_ble_eq_true rfl) dX12_later_6 ⟨by decide, by decide⟩ ⟨by decide, by decide⟩) (by decide) (fun kx24 ks22 H locs kp21 kf23 hW => ?_)
  refine lv_if_ne (tgt := 15) hx hb dX12_later_9 (by decide) (fun kc25 => ?_) (fun kc25 => ?_)
  · have kv26 : q_V 0 6 i1 := q_inV (kp21.2.1 kc25).1 (kp21.2.1 kc25).2 (q_lc (k := 0) (x := 0) (by decide)) (q_lc (k := 6) (x := 6) (by decide))
    have kv27 : q_V 1 1 kx24 := q_ne1 kp21.1 (q_c (k := 0) (x := 0) (by decide)) kc25 (by decide)
    refine lv_iload_n hx hb dX12_later_15 rfl (lv_at hl 2 rfl) ?_
    refine lv_i2l (v := i2.toInt64) hx hb dX12_later_16 rfl ?_
    refine lv_lconst (v := 0) hx hb dX12_later_17 (by decide) ?_
    refine lv_ldc2 (v := 20) hx hb hE.1.2.2.2.1 (hE.w wl_649) dX12_later_18 ?_
    refine q_goi hW (q_runS (As := [.long (i2).toInt64, .long 0, .long 20]) (rest := []) hE hW (c_X12_in l G ks22 ((i2).toInt64) 0 20) kw_X12_99 rfl hl.1 rfl (Nat.le_of_ble_eq_true rfl) dX12_later_21 ⟨by decide, by decide⟩ ⟨by decide, by decide⟩) (by decide) (fun kx31 ks29 H locs kp28 kf30 hW => ?_)
    refine lv_if_ne (tgt := 30) hx hb dX12_later_24 (by decide) (fun kc32 => ?_) (fun kc32 => ?_)
    · have kv33 : q_V 0 20 i2 := q_inV (kp28.2.1 kc32).1 (kp28.2.1 kc32).2 (q_lc (k := 0) (x := 0) (by decide)) (q_lc (k := 20) (x := 20) (by decide))
      have kv34 : q_V 1 1 kx31 := q_ne1 kp28.1 (q_c (k := 0) (x := 0) (by decide)) kc32 (by decide)
      refine lv_aload_n hx hb dX12_later_30 rfl (lv_at hl 0 rfl) ?_
      refine lv_aload_n hx hb dX12_later_31 rfl (lv_at hl 0 rfl) ?_
      refine q_getr hE hW h0 rfl q_k12 9 (by decide) rfl (hE.l wl_135) dX12_later_32 (fun kb35 ekb35 hkb35a hkb35b => ?_)
      have hkb35 : q_T G kb35 = 46 := q_tag hkb35a hkb35b
      refine lv_aload_n hx hb dX12_later_35 rfl (lv_at hl 0 rfl) ?_
      refine q_getr hE hW h0 rfl q_k12 32 (by decide) rfl (hE.l wl_146) dX12_later_36 (fun kb36 ekb36 hkb36a hkb36b => ?_)
      have hkb36 : q_T G kb36 = 46 := q_tag hkb36a hkb36b
      refine q_gov hW (q_runV (As := [.ref kb35, .ref kb36]) (rest := []) hE hW (c_X12_copyRow l G ks29 a0 h0 kb35 hkb35 kb36 hkb36) kw_X12_298 (q_recv hE hW h0 rfl q_k12) rfl hl.1 rfl (Nat.le_of_ble_eq_true rfl) dX12_later_39 ⟨by decide, by decide⟩ ⟨by decide, by decide⟩) (by decide) (fun ks38 H locs kp37 kf39 hW => ?_)
      refine lv_iconst (v := 0) hx hb dX12_later_42 (by decide) ?_
      refine lv_istore_n (lv' := [(3, .int 0), (0, .ref a0), (1, .int i1), (2, .int i2)]) hx hb dX12_later_43 rfl hl (by decide) rfl (fun ls hl => ?_)
      exact lp44a _ _ _ _ kv26 kv33 0 ((q_c (k := 0) (x := 0) (by decide)).w (by decide) (by decide)) hW ls (lv_sub hl [1, 2, 3, 0] rfl) (Nat.lt_succ_self _)
    · have kv40 : q_V 0 0 kx31 := q_eq1 kp28.1 (q_c (k := 0) (x := 0) (by decide)) kc32 (by decide) (by decide)
      refine lv_bipush (v := (-3)) hx hb dX12_later_27 (by decide) ?_
      exact q_reti hE hr hlocks hW (((q_c (k := (-3)) (x := (-3)) (by decide)).w (by decide) (by decide))) dX12_later_29
  · have kv41 : q_V 0 0 kx24 := q_eq1 kp21.1 (q_c (k := 0) (x := 0) (by decide)) kc25 (by decide) (by decide)
    refine lv_bipush (v := (-2)) hx hb dX12_later_12 (by decide) ?_
    exact q_reti hE hr hlocks hW (((q_c (k := (-2)) (x := (-2)) (by decide)).w (by decide) (by decide))) dX12_later_14
set_option maxHeartbeats 4000000 in
set_option maxRecDepth 100000 in
theorem c_X12_readBy (l : Launch) (G : q_G) (σ : q_S) (a0 : Nat) (h0 : q_T G a0 = 40) (i1 : Int32)  : Met l yX12_readBy (Cond.code yX12_readBy cX12_readBy 4 (some .int) :: wsL_law) (q_Rm 2) (q_Pre G σ [.ref a0, .int i1]) (q_Qi G [] σ (fun r σ1 => q_V (-2147483648) 2147483647 r)) 0 0 (q_N G) := by
  refine q_ofW (ts := []) (by decide) (Nat.le_of_ble_eq_true rfl) ?_
  intro p e s m args below meth c hE hr hlocks hW ls hl
  have hE : q_E G p s m args c cX12_readBy 4 RX12 := hE
  have hx := hE.1.1
  have hb := hE.1.2.1
  have hl : lv_has ls 4 [(0, .ref a0), (1, .int i1)] := hl
  have lp4a : ∀ (n4a : Nat) (ks3 : q_S) (H : Heap) (locs : List Loc) (kx1 : Int32) (kx2 : Int32) (vkx2 : q_V 0 7 kx2) (hW : q_Wd G [] σ s.heap ks3 H locs) (ls : Array Slot) (hl : lv_has ls 4 [(0, .ref a0), (1, .int i1), (2, .int kx1), (3, .int kx2)]), (7 - kx2.toInt).toNat < n4a → W p l e (q_Rm 2) s m args below meth c H locs 0 0 (MQ below (q_Qi G [] σ (fun r σ1 => q_V (-2147483648) 2147483647 r)) args s 0 0 (q_N G)) (F0 m 4 ls []) := by
    intro n4a
    induction n4a with
    | zero => intro _ _ _ _ _ _ _ _ _; exact fun h => absurd h (Nat.not_lt_zero _)
    | succ n4a ih4a =>
      intro ks3 H locs kx1 kx2 vkx2 hW ls hl hm4a
      have jn29a : ∀ (ks7 : q_S) (H : Heap) (locs : List Loc) (kv4 : q_V 0 6 kx2) (kx5 : Int32) (kx6 : Int32) (hW : q_Wd G [] σ s.heap ks7 H locs) (ls : Array Slot) (hl : lv_has ls 4 [(0, .ref a0), (1, .int i1), (3, .int kx2)]), W p l e (q_Rm 2) s m args below meth c H locs 0 0 (MQ below (q_Qi G [] σ (fun r σ1 => q_V (-2147483648) 2147483647 r)) args s 0 0 (q_N G)) (F0 m 29 ls [.int kx6, .int kx5]) := by
        intro ks7 H locs kv4 kx5 kx6 hW ls hl
        refine lv_ior hx hb dX12_readBy_29 ?_
        refine lv_topi (fun kx8 ekx8 => ?_)
        refine lv_istore_n (lv' := [(2, .int kx8), (0, .ref a0), (1, .int i1), (3, .int kx2)]) hx hb dX12_readBy_30 rfl hl (by decide) rfl (fun ls hl => ?_)
        obtain ⟨kx9, ekx9⟩ : ∃ y : Int32, y = kx2 + 1 := ⟨_, rfl⟩
        have vkx9 : q_V 1 7 kx9 := by rw [ekx9]; exact (q_add kv4 (q_c (k := 1) (x := 1) (by decide)) (by decide) (by decide)).w (by decide) (by decide)
        have ikx9 : kx9.toInt = kx2.toInt + 1 := q_incT ekx9 kv4 (by decide) (by decide) (by decide)
        refine lv_iinc (v := kx9) (lv' := [(3, .int kx9), (2, .int kx8), (0, .ref a0), (1, .int i1)]) hx hb dX12_readBy_31 hl (k := 3) rfl (by rw [ekx9]; rfl) (by decide) rfl (fun ls hl => ?_)
        refine lv_goto (tgt := 4) hx hb dX12_readBy_34 (by decide) ?_
        exact ih4a _ _ _ kx8 kx9 (vkx9.w (by decide) (by decide)) hW ls (lv_sub hl [2, 3, 1, 0] rfl) (Nat.lt_of_lt_of_le (q_up (ikx9) (show q_V 1 7 kx9 from vkx9).2) (Nat.le_of_lt_succ hm4a))
      refine lv_iload_n hx hb dX12_readBy_4 rfl (lv_at hl 3 rfl) ?_
      refine lv_bipush (v := 7) hx hb dX12_readBy_5 (by decide) ?_
      refine lv_icmp_ge (tgt := 37) hx hb dX12_readBy_7 (by decide) (fun kc10 => ?_) (fun kc10 => ?_)
      · have kv11 : q_V 7 7 kx2 := (q_le2 (q_c (k := 7) (x := 7) (by decide)) vkx2 kc10).w (by decide) (by decide)
        refine lv_iload_n hx hb dX12_readBy_37 rfl (lv_at hl 2 rfl) ?_
        exact q_reti hE hr hlocks hW ((q_all kx1)) dX12_readBy_38
      · have kv12 : q_V 0 6 kx2 := (q_lt1 vkx2 (q_c (k := 7) (x := 7) (by decide)) (Int32.not_le.mp kc10)).w (by decide) (by decide)
        refine lv_iload_n hx hb dX12_readBy_10 rfl (lv_at hl 2 rfl) ?_
        refine lv_iload_n hx hb dX12_readBy_11 rfl (lv_at hl 1 rfl) ?_
        refine lv_iload_n hx hb dX12_readBy_12 rfl (lv_at hl 3 rfl) ?_
        refine q_goi hW (q_runS (As := [.int i1, .int kx2]) (rest := [.int kx1]) hE hW (c_X12_isBit l G ks3 i1 kx2) kw_X12_305 rfl hl.1 rfl (Nat.le_of_ble_eq_true rfl) dX12_readBy_13 ⟨by decide, by decide⟩ ⟨by decide, by decide⟩) (by decide) (fun kx16 ks14 H locs kp13 kf15 hW => ?_)
        refine lv_if_eq (tgt := 28) hx hb dX12_readBy_16 (by decide) (fun kc17 => ?_) (fun kc17 => ?_)
        · have kv18 : q_V 0 0 kx16 := q_eq1 kp13 (q_c (k := 0) (x := 0) (by decide)) kc17 (by decide) (by decide)
          refine lv_iconst (v := 0) hx hb dX12_readBy_28 (by decide) ?_
          exact jn29a _ _ _ kv12 kx1 0 hW ls (lv_sub hl [0, 1, 3] rfl)
        · have kv19 : q_V 1 1 kx16 := q_ne1 kp13 (q_c (k := 0) (x := 0) (by decide)) kc17 (by decide)
          refine lv_aload_n hx hb dX12_readBy_19 rfl (lv_at hl 0 rfl) ?_
          refine q_getr hE hW h0 rfl q_k12 33 (by decide) rfl (hE.l wl_147) dX12_readBy_20 (fun kb20 ekb20 hkb20a hkb20b => ?_)
          have hkb20 : q_T G kb20 = 58 := q_tag hkb20a hkb20b
          refine lv_iload_n hx hb dX12_readBy_23 rfl (lv_at hl 3 rfl) ?_
          refine q_iald hE hW hkb20 rfl (q_in kv12 (by decide) (by decide)) dX12_readBy_24 (fun kx21 ekx21 gkx21 => ?_)
          refine lv_goto (tgt := 29) hx hb dX12_readBy_25 (by decide) ?_
          exact jn29a _ _ _ kv12 kx1 kx21 hW ls (lv_sub hl [0, 1, 3] rfl)
  refine lv_iconst (v := 0) hx hb dX12_readBy_0 (by decide) ?_
  refine lv_istore_n (lv' := [(2, .int 0), (0, .ref a0), (1, .int i1)]) hx hb dX12_readBy_1 rfl hl (by decide) rfl (fun ls hl => ?_)
  refine lv_iconst (v := 0) hx hb dX12_readBy_2 (by decide) ?_
  refine lv_istore_n (lv' := [(3, .int 0), (2, .int 0), (0, .ref a0), (1, .int i1)]) hx hb dX12_readBy_3 rfl hl (by decide) rfl (fun ls hl => ?_)
  exact lp4a _ _ _ _ 0 0 ((q_c (k := 0) (x := 0) (by decide)).w (by decide) (by decide)) hW ls (lv_sub hl [2, 3, 1, 0] rfl) (Nat.lt_succ_self _)
set_option maxHeartbeats 4000000 in
set_option maxRecDepth 100000 in
theorem c_X12_stands (l : Launch) (G : q_G) (σ : q_S) (a0 : Nat) (h0 : q_T G a0 = 40) (i1 : Int32) (i2 : Int32)  : Met l yX12_stands (Cond.code yX12_stands cX12_stands 6 (some .int) :: wsL_law) (q_Rm 5) (q_Pre G σ [.ref a0, .int i1, .int i2]) (q_Qi G [46, 58] σ (fun r σ1 => q_V (-2147483648) 2147483647 r)) 0 0 (q_N G) := by
  refine q_ofW (ts := [46, 58]) (by decide) (Nat.le_of_ble_eq_true rfl) ?_
  intro p e s m args below meth c hE hr hlocks hW ls hl
  have hE : q_E G p s m args c cX12_stands 6 RX12 := hE
  have hx := hE.1.1
  have hb := hE.1.2.1
  have hl : lv_has ls 6 [(0, .ref a0), (1, .int i1), (2, .int i2)] := hl
  have lp133a : ∀ (n133a : Nat) (ks4 : q_S) (H : Heap) (locs : List Loc) (kv1 : q_V 0 63 i1) (kx2 : Int32) (vkx2 : q_V (-1) 127 kx2) (kx3 : Int32) (vkx3 : q_V 0 128 kx3) (hW : q_Wd G [46, 58] σ s.heap ks4 H locs) (ls : Array Slot) (hl : lv_has ls 6 [(0, .ref a0), (1, .int i1), (3, .int kx2), (4, .int kx3)]), (128 - kx3.toInt).toNat < n133a → W p l e (q_Rm 5) s m args below meth c H locs 0 0 (MQ below (q_Qi G [46, 58] σ (fun r σ1 => q_V (-2147483648) 2147483647 r)) args s 0 0 (q_N G)) (F0 m 133 ls []) := by
    intro n133a
    induction n133a with
    | zero => intro _ _ _ _ _ _ _ _ _ _ _; exact fun h => absurd h (Nat.not_lt_zero _)
    | succ n133a ih133a =>
      intro ks4 H locs kv1 kx2 vkx2 kx3 vkx3 hW ls hl hm133a
      have jn187a : ∀ (ks7 : q_S) (H : Heap) (locs : List Loc) (kv5 : q_V 0 127 kx3) (kx6 : Int32) (vkx6 : q_V (-1) 127 kx6) (hW : q_Wd G [46, 58] σ s.heap ks7 H locs) (ls : Array Slot) (hl : lv_has ls 6 [(0, .ref a0), (1, .int i1), (4, .int kx3)]), W p l e (q_Rm 5) s m args below meth c H locs 0 0 (MQ below (q_Qi G [46, 58] σ (fun r σ1 => q_V (-2147483648) 2147483647 r)) args s 0 0 (q_N G)) (F0 m 187 ls [.int kx6]) := by
        intro ks7 H locs kv5 kx6 vkx6 hW ls hl
        refine lv_istore_n (lv' := [(3, .int kx6), (0, .ref a0), (1, .int i1), (4, .int kx3)]) hx hb dX12_stands_187 rfl hl (by decide) rfl (fun ls hl => ?_)
        obtain ⟨kx8, ekx8⟩ : ∃ y : Int32, y = kx3 + 1 := ⟨_, rfl⟩
        have vkx8 : q_V 1 128 kx8 := by rw [ekx8]; exact (q_add kv5 (q_c (k := 1) (x := 1) (by decide)) (by decide) (by decide)).w (by decide) (by decide)
        have ikx8 : kx8.toInt = kx3.toInt + 1 := q_incT ekx8 kv5 (by decide) (by decide) (by decide)
        refine lv_iinc (v := kx8) (lv' := [(4, .int kx8), (3, .int kx6), (0, .ref a0), (1, .int i1)]) hx hb dX12_stands_188 hl (k := 3) rfl (by rw [ekx8]; rfl) (by decide) rfl (fun ls hl => ?_)
        refine lv_goto (tgt := 133) hx hb dX12_stands_191 (by decide) ?_
        exact ih133a _ _ _ kv1 kx6 vkx6 kx8 (vkx8.w (by decide) (by decide)) hW ls (lv_sub hl [2, 3, 1, 0] rfl) (Nat.lt_of_lt_of_le (q_up (ikx8) (show q_V 1 128 kx8 from vkx8).2) (Nat.le_of_lt_succ hm133a))
      have jn186a : ∀ (ks10 : q_S) (H : Heap) (locs : List Loc) (kv9 : q_V 0 127 kx3) (hW : q_Wd G [46, 58] σ s.heap ks10 H locs) (ls : Array Slot) (hl : lv_has ls 6 [(0, .ref a0), (1, .int i1), (3, .int kx2), (4, .int kx3)]), W p l e (q_Rm 5) s m args below meth c H locs 0 0 (MQ below (q_Qi G [46, 58] σ (fun r σ1 => q_V (-2147483648) 2147483647 r)) args s 0 0 (q_N G)) (F0 m 186 ls []) := by
        intro ks10 H locs kv9 hW ls hl
        refine lv_iload_n hx hb dX12_stands_186 rfl (lv_at hl 2 rfl) ?_
        exact jn187a _ _ _ kv9 kx2 vkx2 hW ls (lv_sub hl [0, 1, 3] rfl)
      have jn162a : ∀ (ks13 : q_S) (H : Heap) (locs : List Loc) (kv11 : q_V 0 127 kx3) (kx12 : Int32) (vkx12 : q_V 0 1 kx12) (hW : q_Wd G [46, 58] σ s.heap ks13 H locs) (ls : Array Slot) (hl : lv_has ls 6 [(0, .ref a0), (1, .int i1), (3, .int kx2), (4, .int kx3)]), W p l e (q_Rm 5) s m args below meth c H locs 0 0 (MQ below (q_Qi G [46, 58] σ (fun r σ1 => q_V (-2147483648) 2147483647 r)) args s 0 0 (q_N G)) (F0 m 162 ls [.int kx12]) := by
        intro ks13 H locs kv11 kx12 vkx12 hW ls hl
        refine lv_istore (lv' := [(5, .int kx12), (0, .ref a0), (1, .int i1), (3, .int kx2), (4, .int kx3)]) hx hb dX12_stands_162 hl (by decide) rfl (fun ls hl => ?_)
        refine lv_iload hx hb dX12_stands_164 (lv_at hl 0 rfl) ?_
        refine lv_if_eq (tgt := 186) hx hb dX12_stands_166 (by decide) (fun kc14 => ?_) (fun kc14 => ?_)
        · have kv15 : q_V 0 0 kx12 := q_eq1 vkx12 (q_c (k := 0) (x := 0) (by decide)) kc14 (by decide) (by decide)
          exact jn186a _ _ _ kv11 hW ls (lv_sub hl [1, 2, 3, 4] rfl)
        · have kv16 : q_V 1 1 kx12 := q_ne1 vkx12 (q_c (k := 0) (x := 0) (by decide)) kc14 (by decide)
          refine lv_aload_n hx hb dX12_stands_169 rfl (lv_at hl 1 rfl) ?_
          refine lv_iload hx hb dX12_stands_170 (lv_at hl 4 rfl) ?_
          refine q_goi hW (q_runV (As := [.int kx3]) (rest := []) hE hW (c_X12_readBy l G ks13 a0 h0 kx3) kw_X12_313 (q_recv hE hW h0 rfl q_k12) rfl hl.1 rfl (Nat.le_of_ble_eq_true rfl) dX12_stands_172 ⟨by decide, by decide⟩ ⟨by decide, by decide⟩) (by decide) (fun kx20 ks18 H locs kp17 kf19 hW => ?_)
          refine lv_iload_n hx hb dX12_stands_175 rfl (lv_at hl 2 rfl) ?_
          refine lv_iand hx hb dX12_stands_176 ?_
          refine lv_topi (fun kx21 ekx21 => ?_)
          refine lv_iload_n hx hb dX12_stands_177 rfl (lv_at hl 2 rfl) ?_
          refine lv_icmp_ne (tgt := 186) hx hb dX12_stands_178 (by decide) (fun kc22 => ?_) (fun kc22 => ?_)
          · exact jn186a _ _ _ kv11 hW ls (lv_sub hl [1, 2, 3, 4] rfl)
          · have kv23 : q_V 0 63 kx21 := q_eq1 (q_all kx21) kv1 kc22 (by decide) (by decide)
            refine lv_iload hx hb dX12_stands_181 (lv_at hl 4 rfl) ?_
            refine lv_goto (tgt := 187) hx hb dX12_stands_183 (by decide) ?_
            exact jn187a _ _ _ kv11 kx3 (kv11.w (by decide) (by decide)) hW ls (lv_sub hl [1, 2, 4] rfl)
      have jn157a : ∀ (ks25 : q_S) (H : Heap) (locs : List Loc) (kv24 : q_V 0 127 kx3) (hW : q_Wd G [46, 58] σ s.heap ks25 H locs) (ls : Array Slot) (hl : lv_has ls 6 [(0, .ref a0), (1, .int i1), (3, .int kx2), (4, .int kx3)]), W p l e (q_Rm 5) s m args below meth c H locs 0 0 (MQ below (q_Qi G [46, 58] σ (fun r σ1 => q_V (-2147483648) 2147483647 r)) args s 0 0 (q_N G)) (F0 m 157 ls []) := by
        intro ks25 H locs kv24 hW ls hl
        refine lv_iconst (v := 1) hx hb dX12_stands_157 (by decide) ?_
        refine lv_goto (tgt := 162) hx hb dX12_stands_158 (by decide) ?_
        exact jn162a _ _ _ kv24 1 ((q_c (k := 1) (x := 1) (by decide)).w (by decide) (by decide)) hW ls (lv_sub hl [0, 1, 2, 3] rfl)
      refine lv_iload hx hb dX12_stands_133 (lv_at hl 3 rfl) ?_
      refine lv_sipush (v := 128) hx hb dX12_stands_135 (by decide) ?_
      refine lv_icmp_ge (tgt := 194) hx hb dX12_stands_138 (by decide) (fun kc26 => ?_) (fun kc26 => ?_)
      · have kv27 : q_V 128 128 kx3 := (q_le2 (q_c (k := 128) (x := 128) (by decide)) vkx3 kc26).w (by decide) (by decide)
        refine lv_iload_n hx hb dX12_stands_194 rfl (lv_at hl 2 rfl) ?_
        exact q_reti hE hr hlocks hW ((vkx2.w (by decide) (by decide))) dX12_stands_195
      · have kv28 : q_V 0 127 kx3 := (q_lt1 vkx3 (q_c (k := 128) (x := 128) (by decide)) (Int32.not_le.mp kc26)).w (by decide) (by decide)
        refine lv_iload_n hx hb dX12_stands_141 rfl (lv_at hl 2 rfl) ?_
        refine lv_if_lt (tgt := 157) hx hb dX12_stands_142 (by decide) (fun kc29 => ?_) (fun kc29 => ?_)
        · have kv30 : q_V (-1) (-1) kx2 := (q_lt1 vkx2 (q_c (k := 0) (x := 0) (by decide)) kc29).w (by decide) (by decide)
          exact jn157a _ _ _ kv28 hW ls (lv_sub hl [0, 1, 2, 3] rfl)
        · have kv31 : q_V 0 127 kx2 := (q_le2 (q_c (k := 0) (x := 0) (by decide)) vkx2 (Int32.not_lt.mp kc29)).w (by decide) (by decide)
          refine lv_iload hx hb dX12_stands_145 (lv_at hl 3 rfl) ?_
          refine q_goi hW (q_runS (As := [.int kx3]) (rest := []) hE hW (c_X12_bits l G ks4 kx3) kw_X12_310 rfl hl.1 rfl (Nat.le_of_ble_eq_true rfl) dX12_stands_147 ⟨by decide, by decide⟩ ⟨by decide, by decide⟩) (by decide) (fun kx35 ks33 H locs kp32 kf34 hW => ?_)
          refine lv_iload_n hx hb dX12_stands_150 rfl (lv_at hl 2 rfl) ?_
          refine q_goi hW (q_runS (As := [.int kx2]) (rest := [.int kx35]) hE hW (c_X12_bits l G ks33 kx2) kw_X12_310 rfl hl.1 rfl (Nat.le_of_ble_eq_true rfl) dX12_stands_151 ⟨by decide, by decide⟩ ⟨by decide, by decide⟩) (by decide) (fun kx39 ks37 H locs kp36 kf38 hW => ?_)
          refine lv_icmp_ge (tgt := 161) hx hb dX12_stands_154 (by decide) (fun kc40 => ?_) (fun kc40 => ?_)
          · refine lv_iconst (v := 0) hx hb dX12_stands_161 (by decide) ?_
            exact jn162a _ _ _ kv28 0 ((q_c (k := 0) (x := 0) (by decide)).w (by decide) (by decide)) hW ls (lv_sub hl [0, 1, 2, 3] rfl)
          · have kv41 : q_V (-2147483648) 2147483646 kx35 := (q_lt1 (q_all kx35) (q_all kx39) (Int32.not_le.mp kc40)).w (by decide) (by decide)
            have kv42 : q_V (-2147483647) 2147483647 kx39 := (q_lt2 (q_all kx35) (q_all kx39) (Int32.not_le.mp kc40)).w (by decide) (by decide)
            exact jn157a _ _ _ kv28 hW ls (lv_sub hl [0, 1, 2, 3] rfl)
  have lp69a : ∀ (n69a : Nat) (ks46 : q_S) (H : Heap) (locs : List Loc) (kv43 : q_V 0 63 i1) (kv44 : q_V 0 20 i2) (kx45 : Int32) (vkx45 : q_V 0 128 kx45) (hW : q_Wd G [46, 58] σ s.heap ks46 H locs) (ls : Array Slot) (hl : lv_has ls 6 [(0, .ref a0), (1, .int i1), (2, .int i2), (3, .int kx45)]), (128 - kx45.toInt).toNat < n69a → W p l e (q_Rm 5) s m args below meth c H locs 0 0 (MQ below (q_Qi G [46, 58] σ (fun r σ1 => q_V (-2147483648) 2147483647 r)) args s 0 0 (q_N G)) (F0 m 69 ls []) := by
    intro n69a
    induction n69a with
    | zero => intro _ _ _ _ _ _ _ _ _ _; exact fun h => absurd h (Nat.not_lt_zero _)
    | succ n69a ih69a =>
      intro ks46 H locs kv43 kv44 kx45 vkx45 hW ls hl hm69a
      have lp81a : ∀ (n81a : Nat) (ks50 : q_S) (H : Heap) (locs : List Loc) (kv47 : q_V 1 20 i2) (kv48 : q_V 0 127 kx45) (kx49 : Int32) (vkx49 : q_V 0 7 kx49) (hW : q_Wd G [46, 58] σ s.heap ks50 H locs) (ls : Array Slot) (hl : lv_has ls 6 [(0, .ref a0), (1, .int i1), (2, .int i2), (3, .int kx45), (4, .int kx49)]), (7 - kx49.toInt).toNat < n81a → W p l e (q_Rm 5) s m args below meth c H locs 0 0 (MQ below (q_Qi G [46, 58] σ (fun r σ1 => q_V (-2147483648) 2147483647 r)) args s 0 0 (q_N G)) (F0 m 81 ls []) := by
        intro n81a
        induction n81a with
        | zero => intro _ _ _ _ _ _ _ _ _ _; exact fun h => absurd h (Nat.not_lt_zero _)
        | succ n81a ih81a =>
          intro ks50 H locs kv47 kv48 kx49 vkx49 hW ls hl hm81a
          refine lv_iload hx hb dX12_stands_81 (lv_at hl 4 rfl) ?_
          refine lv_bipush (v := 7) hx hb dX12_stands_83 (by decide) ?_
          refine lv_icmp_ge (tgt := 110) hx hb dX12_stands_85 (by decide) (fun kc51 => ?_) (fun kc51 => ?_)
          · have kv52 : q_V 7 7 kx49 := (q_le2 (q_c (k := 7) (x := 7) (by decide)) vkx49 kc51).w (by decide) (by decide)
            obtain ⟨kx53, ekx53⟩ : ∃ y : Int32, y = kx45 + 1 := ⟨_, rfl⟩
            have vkx53 : q_V 1 128 kx53 := by rw [ekx53]; exact (q_add kv48 (q_c (k := 1) (x := 1) (by decide)) (by decide) (by decide)).w (by decide) (by decide)
            have ikx53 : kx53.toInt = kx45.toInt + 1 := q_incT ekx53 kv48 (by decide) (by decide) (by decide)
            refine lv_iinc (v := kx53) (lv' := [(3, .int kx53), (0, .ref a0), (1, .int i1), (2, .int i2), (4, .int kx49)]) hx hb dX12_stands_110 hl (k := 3) rfl (by rw [ekx53]; rfl) (by decide) rfl (fun ls hl => ?_)
            refine lv_goto (tgt := 69) hx hb dX12_stands_113 (by decide) ?_
            exact ih69a _ _ _ kv43 (kv47.w (by decide) (by decide)) kx53 (vkx53.w (by decide) (by decide)) hW ls (lv_sub hl [1, 2, 3, 0] rfl) (Nat.lt_of_lt_of_le (q_up (ikx53) (show q_V 1 128 kx53 from vkx53).2) (Nat.le_of_lt_succ hm69a))
          · have kv54 : q_V 0 6 kx49 := (q_lt1 vkx49 (q_c (k := 7) (x := 7) (by decide)) (Int32.not_le.mp kc51)).w (by decide) (by decide)
            refine lv_aload_n hx hb dX12_stands_88 rfl (lv_at hl 0 rfl) ?_
            refine q_getr hE hW h0 rfl q_k12 33 (by decide) rfl (hE.l wl_147) dX12_stands_89 (fun kb55 ekb55 hkb55a hkb55b => ?_)
            have hkb55 : q_T G kb55 = 58 := q_tag hkb55a hkb55b
            refine lv_iload hx hb dX12_stands_92 (lv_at hl 4 rfl) ?_
            refine lv_dup2_11 hx hb dX12_stands_94 rfl rfl ?_
            refine q_iald hE hW hkb55 rfl (q_in kv54 (by decide) (by decide)) dX12_stands_95 (fun kx56 ekx56 gkx56 => ?_)
            refine lv_aload_n hx hb dX12_stands_96 rfl (lv_at hl 0 rfl) ?_
            refine lv_iload hx hb dX12_stands_97 (lv_at hl 4 rfl) ?_
            refine q_goi hW (q_runV (As := [.int kx49]) (rest := [.int kx56, .int kx49, .ref kb55]) hE hW (c_X12_readAt l G ks50 a0 h0 kx49 kv54) kw_X12_302 (q_recv hE hW h0 rfl q_k12) rfl hl.1 rfl (Nat.le_of_ble_eq_true rfl) dX12_stands_99 ⟨by decide, by decide⟩ ⟨by decide, by decide⟩) (by decide) (fun kx60 ks58 H locs kp57 kf59 hW => ?_)
            refine lv_ior hx hb dX12_stands_102 ?_
            refine lv_topi (fun kx61 ekx61 => ?_)
            refine q_iast hE hW hkb55 rfl (q_in kv54 (by decide) (by decide)) trivial (by decide) dX12_stands_103 (fun H locs ks62 kp63 hW => ?_)
            obtain ⟨kx64, ekx64⟩ : ∃ y : Int32, y = kx49 + 1 := ⟨_, rfl⟩
            have vkx64 : q_V 1 7 kx64 := by rw [ekx64]; exact (q_add kv54 (q_c (k := 1) (x := 1) (by decide)) (by decide) (by decide)).w (by decide) (by decide)
            have ikx64 : kx64.toInt = kx49.toInt + 1 := q_incT ekx64 kv54 (by decide) (by decide) (by decide)
            refine lv_iinc (v := kx64) (lv' := [(4, .int kx64), (0, .ref a0), (1, .int i1), (2, .int i2), (3, .int kx45)]) hx hb dX12_stands_104 hl (k := 4) rfl (by rw [ekx64]; rfl) (by decide) rfl (fun ls hl => ?_)
            refine lv_goto (tgt := 81) hx hb dX12_stands_107 (by decide) ?_
            exact ih81a _ _ _ kv47 kv48 kx64 (vkx64.w (by decide) (by decide)) hW ls (lv_sub hl [1, 2, 3, 4, 0] rfl) (Nat.lt_of_lt_of_le (q_up (ikx64) (show q_V 1 7 kx64 from vkx64).2) (Nat.le_of_lt_succ hm81a))
      refine lv_iload_n hx hb dX12_stands_69 rfl (lv_at hl 3 rfl) ?_
      refine lv_iload_n hx hb dX12_stands_70 rfl (lv_at hl 2 rfl) ?_
      refine lv_icmp_ge (tgt := 116) hx hb dX12_stands_71 (by decide) (fun kc65 => ?_) (fun kc65 => ?_)
      · refine lv_aload_n hx hb dX12_stands_116 rfl (lv_at hl 0 rfl) ?_
        refine lv_aload_n hx hb dX12_stands_117 rfl (lv_at hl 0 rfl) ?_
        refine q_getr hE hW h0 rfl q_k12 32 (by decide) rfl (hE.l wl_146) dX12_stands_118 (fun kb66 ekb66 hkb66a hkb66b => ?_)
        have hkb66 : q_T G kb66 = 46 := q_tag hkb66a hkb66b
        refine lv_aload_n hx hb dX12_stands_121 rfl (lv_at hl 0 rfl) ?_
        refine q_getr hE hW h0 rfl q_k12 9 (by decide) rfl (hE.l wl_135) dX12_stands_122 (fun kb67 ekb67 hkb67a hkb67b => ?_)
        have hkb67 : q_T G kb67 = 46 := q_tag hkb67a hkb67b
        refine q_gov hW (q_runV (As := [.ref kb66, .ref kb67]) (rest := []) hE hW (c_X12_copyRow l G ks46 a0 h0 kb66 hkb66 kb67 hkb67) kw_X12_298 (q_recv hE hW h0 rfl q_k12) rfl hl.1 rfl (Nat.le_of_ble_eq_true rfl) dX12_stands_125 ⟨by decide, by decide⟩ ⟨by decide, by decide⟩) (by decide) (fun ks69 H locs kp68 kf70 hW => ?_)
        refine lv_iconst (v := (-1)) hx hb dX12_stands_128 (by decide) ?_
        refine lv_istore_n (lv' := [(3, .int (-1)), (0, .ref a0), (1, .int i1), (2, .int i2)]) hx hb dX12_stands_129 rfl hl (by decide) rfl (fun ls hl => ?_)
        refine lv_iconst (v := 0) hx hb dX12_stands_130 (by decide) ?_
        refine lv_istore (lv' := [(4, .int 0), (3, .int (-1)), (0, .ref a0), (1, .int i1), (2, .int i2)]) hx hb dX12_stands_131 hl (by decide) rfl (fun ls hl => ?_)
        exact lp133a _ _ _ _ kv43 (-1) ((q_c (k := (-1)) (x := (-1)) (by decide)).w (by decide) (by decide)) 0 ((q_c (k := 0) (x := 0) (by decide)).w (by decide) (by decide)) hW ls (lv_sub hl [2, 3, 1, 0] rfl) (Nat.lt_succ_self _)
      · have kv71 : q_V 0 19 kx45 := (q_lt1 vkx45 kv44 (Int32.not_le.mp kc65)).w (by decide) (by decide)
        have kv72 : q_V 1 20 i2 := (q_lt2 vkx45 kv44 (Int32.not_le.mp kc65)).w (by decide) (by decide)
        refine lv_aload_n hx hb dX12_stands_74 rfl (lv_at hl 0 rfl) ?_
        refine q_gov hW (q_runV (As := []) (rest := []) hE hW (c_X12_pass l G ks46 a0 h0) kw_X12_283 (q_recv hE hW h0 rfl q_k12) rfl hl.1 rfl (Nat.le_of_ble_eq_true rfl) dX12_stands_75 ⟨by decide, by decide⟩ ⟨by decide, by decide⟩) (by decide) (fun ks74 H locs kp73 kf75 hW => ?_)
        refine lv_iconst (v := 0) hx hb dX12_stands_78 (by decide) ?_
        refine lv_istore (lv' := [(4, .int 0), (0, .ref a0), (1, .int i1), (2, .int i2), (3, .int kx45)]) hx hb dX12_stands_79 hl (by decide) rfl (fun ls hl => ?_)
        exact lp81a _ _ _ _ kv72 (kv71.w (by decide) (by decide)) 0 ((q_c (k := 0) (x := 0) (by decide)).w (by decide) (by decide)) hW ls (lv_sub hl [1, 2, 3, 4, 0] rfl) (Nat.lt_succ_self _)
  have lp44a : ∀ (n44a : Nat) (ks79 : q_S) (H : Heap) (locs : List Loc) (kv76 : q_V 0 63 i1) (kv77 : q_V 0 20 i2) (kx78 : Int32) (vkx78 : q_V 0 7 kx78) (hW : q_Wd G [46, 58] σ s.heap ks79 H locs) (ls : Array Slot) (hl : lv_has ls 6 [(0, .ref a0), (1, .int i1), (2, .int i2), (3, .int kx78)]), (7 - kx78.toInt).toNat < n44a → W p l e (q_Rm 5) s m args below meth c H locs 0 0 (MQ below (q_Qi G [46, 58] σ (fun r σ1 => q_V (-2147483648) 2147483647 r)) args s 0 0 (q_N G)) (F0 m 44 ls []) := by
    intro n44a
    induction n44a with
    | zero => intro _ _ _ _ _ _ _ _ _ _; exact fun h => absurd h (Nat.not_lt_zero _)
    | succ n44a ih44a =>
      intro ks79 H locs kv76 kv77 kx78 vkx78 hW ls hl hm44a
      refine lv_iload_n hx hb dX12_stands_44 rfl (lv_at hl 3 rfl) ?_
      refine lv_bipush (v := 7) hx hb dX12_stands_45 (by decide) ?_
      refine lv_icmp_ge (tgt := 67) hx hb dX12_stands_47 (by decide) (fun kc80 => ?_) (fun kc80 => ?_)
      · have kv81 : q_V 7 7 kx78 := (q_le2 (q_c (k := 7) (x := 7) (by decide)) vkx78 kc80).w (by decide) (by decide)
        refine lv_iconst (v := 0) hx hb dX12_stands_67 (by decide) ?_
        refine lv_istore_n (lv' := [(3, .int 0), (0, .ref a0), (1, .int i1), (2, .int i2)]) hx hb dX12_stands_68 rfl hl (by decide) rfl (fun ls hl => ?_)
        exact lp69a _ _ _ _ kv76 kv77 0 ((q_c (k := 0) (x := 0) (by decide)).w (by decide) (by decide)) hW ls (lv_sub hl [1, 2, 3, 0] rfl) (Nat.lt_succ_self _)
      · have kv82 : q_V 0 6 kx78 := (q_lt1 vkx78 (q_c (k := 7) (x := 7) (by decide)) (Int32.not_le.mp kc80)).w (by decide) (by decide)
        refine lv_aload_n hx hb dX12_stands_50 rfl (lv_at hl 0 rfl) ?_
        refine q_getr hE hW h0 rfl q_k12 33 (by decide) rfl (hE.l wl_147) dX12_stands_51 (fun kb83 ekb83 hkb83a hkb83b => ?_)
        have hkb83 : q_T G kb83 = 58 := q_tag hkb83a hkb83b
        refine lv_iload_n hx hb dX12_stands_54 rfl (lv_at hl 3 rfl) ?_
        refine lv_aload_n hx hb dX12_stands_55 rfl (lv_at hl 0 rfl) ?_
        refine lv_iload_n hx hb dX12_stands_56 rfl (lv_at hl 3 rfl) ?_
        refine q_goi hW (q_runV (As := [.int kx78]) (rest := [.int kx78, .ref kb83]) hE hW (c_X12_readAt l G ks79 a0 h0 kx78 kv82) kw_X12_302 (q_recv hE hW h0 rfl q_k12) rfl hl.1 rfl (Nat.le_of_ble_eq_true rfl) dX12_stands_57 ⟨by decide, by decide⟩ ⟨by decide, by decide⟩) (by decide) (fun kx87 ks85 H locs kp84 kf86 hW => ?_)
        refine q_iast hE hW hkb83 rfl (q_in kv82 (by decide) (by decide)) trivial (by decide) dX12_stands_60 (fun H locs ks88 kp89 hW => ?_)
        obtain ⟨kx90, ekx90⟩ : ∃ y : Int32, y = kx78 + 1 := ⟨_, rfl⟩
        have vkx90 : q_V 1 7 kx90 := by rw [ekx90]; exact (q_add kv82 (q_c (k := 1) (x := 1) (by decide)) (by decide) (by decide)).w (by decide) (by decide)
        have ikx90 : kx90.toInt = kx78.toInt + 1 := q_incT ekx90 kv82 (by decide) (by decide) (by decide)
        refine lv_iinc (v := kx90) (lv' := [(3, .int kx90), (0, .ref a0), (1, .int i1), (2, .int i2)]) hx hb dX12_stands_61 hl (k := 3) rfl (by rw [ekx90]; rfl) (by decide) rfl (fun ls hl => ?_)
        refine lv_goto (tgt := 44) hx hb dX12_stands_64 (by decide) ?_
        exact ih44a _ _ _ kv76 kv77 kx90 (vkx90.w (by decide) (by decide)) hW ls (lv_sub hl [1, 2, 3, 0] rfl) (Nat.lt_of_lt_of_le (q_up (ikx90) (show q_V 1 7 kx90 from vkx90).2) (Nat.le_of_lt_succ hm44a))
  refine lv_iload_n hx hb dX12_stands_0 rfl (lv_at hl 1 rfl) ?_
  refine lv_i2l (v := i1.toInt64) hx hb dX12_stands_1 rfl ?_
  refine lv_lconst (v := 0) hx hb dX12_stands_2 (by decide) ?_
  refine lv_ldc2 (v := 63) hx hb hE.1.2.2.2.1 (hE.w wl_815) dX12_stands_3 ?_
  refine q_goi hW (q_runS (As := [.long (i1).toInt64, .long 0, .long 63]) (rest := []) hE hW (c_X12_in l G σ ((i1).toInt64) 0 63) kw_X12_99 rfl hl.1 rfl (Nat.le_of_ble_eq_true rfl) dX12_stands_6 ⟨by decide, by decide⟩ ⟨by decide, by decide⟩) (by decide) (fun kx94 ks92 H locs kp91 kf93 hW => ?_)
  refine lv_if_ne (tgt := 15) hx hb dX12_stands_9 (by decide) (fun kc95 => ?_) (fun kc95 => ?_)
  · have kv96 : q_V 0 63 i1 := q_inV (kp91.2.1 kc95).1 (kp91.2.1 kc95).2 (q_lc (k := 0) (x := 0) (by decide)) (q_lc (k := 63) (x := 63) (by decide))
    have kv97 : q_V 1 1 kx94 := q_ne1 kp91.1 (q_c (k := 0) (x := 0) (by decide)) kc95 (by decide)
    refine lv_iload_n hx hb dX12_stands_15 rfl (lv_at hl 2 rfl) ?_
    refine lv_i2l (v := i2.toInt64) hx hb dX12_stands_16 rfl ?_
    refine lv_lconst (v := 0) hx hb dX12_stands_17 (by decide) ?_
    refine lv_ldc2 (v := 20) hx hb hE.1.2.2.2.1 (hE.w wl_649) dX12_stands_18 ?_
    refine q_goi hW (q_runS (As := [.long (i2).toInt64, .long 0, .long 20]) (rest := []) hE hW (c_X12_in l G ks92 ((i2).toInt64) 0 20) kw_X12_99 rfl hl.1 rfl (Nat.le_of_ble_eq_true rfl) dX12_stands_21 ⟨by decide, by decide⟩ ⟨by decide, by decide⟩) (by decide) (fun kx101 ks99 H locs kp98 kf100 hW => ?_)
    refine lv_if_ne (tgt := 30) hx hb dX12_stands_24 (by decide) (fun kc102 => ?_) (fun kc102 => ?_)
    · have kv103 : q_V 0 20 i2 := q_inV (kp98.2.1 kc102).1 (kp98.2.1 kc102).2 (q_lc (k := 0) (x := 0) (by decide)) (q_lc (k := 20) (x := 20) (by decide))
      have kv104 : q_V 1 1 kx101 := q_ne1 kp98.1 (q_c (k := 0) (x := 0) (by decide)) kc102 (by decide)
      refine lv_aload_n hx hb dX12_stands_30 rfl (lv_at hl 0 rfl) ?_
      refine lv_aload_n hx hb dX12_stands_31 rfl (lv_at hl 0 rfl) ?_
      refine q_getr hE hW h0 rfl q_k12 9 (by decide) rfl (hE.l wl_135) dX12_stands_32 (fun kb105 ekb105 hkb105a hkb105b => ?_)
      have hkb105 : q_T G kb105 = 46 := q_tag hkb105a hkb105b
      refine lv_aload_n hx hb dX12_stands_35 rfl (lv_at hl 0 rfl) ?_
      refine q_getr hE hW h0 rfl q_k12 32 (by decide) rfl (hE.l wl_146) dX12_stands_36 (fun kb106 ekb106 hkb106a hkb106b => ?_)
      have hkb106 : q_T G kb106 = 46 := q_tag hkb106a hkb106b
      refine q_gov hW (q_runV (As := [.ref kb105, .ref kb106]) (rest := []) hE hW (c_X12_copyRow l G ks99 a0 h0 kb105 hkb105 kb106 hkb106) kw_X12_298 (q_recv hE hW h0 rfl q_k12) rfl hl.1 rfl (Nat.le_of_ble_eq_true rfl) dX12_stands_39 ⟨by decide, by decide⟩ ⟨by decide, by decide⟩) (by decide) (fun ks108 H locs kp107 kf109 hW => ?_)
      refine lv_iconst (v := 0) hx hb dX12_stands_42 (by decide) ?_
      refine lv_istore_n (lv' := [(3, .int 0), (0, .ref a0), (1, .int i1), (2, .int i2)]) hx hb dX12_stands_43 rfl hl (by decide) rfl (fun ls hl => ?_)
      exact lp44a _ _ _ _ kv96 kv103 0 ((q_c (k := 0) (x := 0) (by decide)).w (by decide) (by decide)) hW ls (lv_sub hl [1, 2, 3, 0] rfl) (Nat.lt_succ_self _)
    · have kv110 : q_V 0 0 kx101 := q_eq1 kp98.1 (q_c (k := 0) (x := 0) (by decide)) kc102 (by decide) (by decide)
      refine lv_bipush (v := (-3)) hx hb dX12_stands_27 (by decide) ?_
      exact q_reti hE hr hlocks hW (((q_c (k := (-3)) (x := (-3)) (by decide)).w (by decide) (by decide))) dX12_stands_29
  · have kv111 : q_V 0 0 kx94 := q_eq1 kp91.1 (q_c (k := 0) (x := 0) (by decide)) kc95 (by decide) (by decide)
    refine lv_bipush (v := (-2)) hx hb dX12_stands_12 (by decide) ?_
    exact q_reti hE hr hlocks hW (((q_c (k := (-2)) (x := (-2)) (by decide)).w (by decide) (by decide))) dX12_stands_14
set_option maxHeartbeats 4000000 in
set_option maxRecDepth 100000 in
theorem c_X12_base (l : Launch) (G : q_G) (σ : q_S) (a0 : Nat) (h0 : q_T G a0 = 40)  : Met l yX12_base (Cond.code yX12_base cX12_base 1 (some .int) :: wsL_law) (q_Rm 1) (q_Pre G σ [.ref a0]) (q_Qi G [] σ (fun r σ1 => q_V 1 4 r)) 0 0 (q_N G) := by
  refine q_ofW (ts := []) (by decide) (Nat.le_of_ble_eq_true rfl) ?_
  intro p e s m args below meth c hE hr hlocks hW ls hl
  have hE : q_E G p s m args c cX12_base 1 RX12 := hE
  have hx := hE.1.1
  have hb := hE.1.2.1
  have hl : lv_has ls 1 [(0, .ref a0)] := hl
  refine lv_aload_n hx hb dX12_base_0 rfl (lv_at hl 0 rfl) ?_
  refine q_geti hE hW h0 rfl q_k12 5 (by decide) rfl (hE.l wl_360) dX12_base_1 (fun kx1 ekx1 vkx1 => ?_)
  refine lv_iconst (v := 1) hx hb dX12_base_4 (by decide) ?_
  refine lv_iadd hx hb dX12_base_5 ?_
  refine lv_topi (fun kx2 ekx2 => ?_)
  have vkx2 : q_V 1 4 kx2 := by rw [ekx2]; exact (q_add vkx1 (q_c (k := 1) (x := 1) (by decide)) (by decide) (by decide)).w (by decide) (by decide)
  have ikx2 : kx2.toInt = kx1.toInt + 1 := q_incT ekx2 vkx1 (by decide) (by decide) (by decide)
  exact q_reti hE hr hlocks hW (vkx2) dX12_base_6
set_option maxHeartbeats 4000000 in
set_option maxRecDepth 100000 in
theorem c_X12_whoOf (l : Launch) (G : q_G) (σ : q_S) (a0 : Nat) (h0 : q_T G a0 = 40) (i1 : Int32) (i2 : Int32)  : Met l yX12_whoOf (Cond.code yX12_whoOf cX12_whoOf 5 (some .int) :: wsL_law) (q_Rm 2) (q_Pre G σ [.ref a0, .int i1, .int i2]) (q_Qi G [] σ (fun r σ1 => q_V (-2147483648) 2147483647 r)) 0 0 (q_N G) := by
  refine q_ofW (ts := []) (by decide) (Nat.le_of_ble_eq_true rfl) ?_
  intro p e s m args below meth c hE hr hlocks hW ls hl
  have hE : q_E G p s m args c cX12_whoOf 5 RX12 := hE
  have hx := hE.1.1
  have hb := hE.1.2.1
  have hl : lv_has ls 5 [(0, .ref a0), (1, .int i1), (2, .int i2)] := hl
  have lp10a : ∀ (n10a : Nat) (ks3 : q_S) (H : Heap) (locs : List Loc) (kx1 : Int32) (kx2 : Int32) (vkx2 : q_V (-2147483648) 5 kx2) (hW : q_Wd G [] σ s.heap ks3 H locs) (ls : Array Slot) (hl : lv_has ls 5 [(0, .ref a0), (2, .int i2), (3, .int kx1), (4, .int kx2)]), (kx2.toInt - (-2147483648)).toNat < n10a → W p l e (q_Rm 2) s m args below meth c H locs 0 0 (MQ below (q_Qi G [] σ (fun r σ1 => q_V (-2147483648) 2147483647 r)) args s 0 0 (q_N G)) (F0 m 10 ls []) := by
    intro n10a
    induction n10a with
    | zero => intro _ _ _ _ _ _ _ _ _; exact fun h => absurd h (Nat.not_lt_zero _)
    | succ n10a ih10a =>
      intro ks3 H locs kx1 kx2 vkx2 hW ls hl hm10a
      refine lv_iload hx hb dX12_whoOf_10 (lv_at hl 3 rfl) ?_
      refine lv_iload_n hx hb dX12_whoOf_12 rfl (lv_at hl 1 rfl) ?_
      refine lv_icmp_le (tgt := 29) hx hb dX12_whoOf_13 (by decide) (fun kc4 => ?_) (fun kc4 => ?_)
      · refine lv_iload_n hx hb dX12_whoOf_29 rfl (lv_at hl 2 rfl) ?_
        refine lv_aload_n hx hb dX12_whoOf_30 rfl (lv_at hl 0 rfl) ?_
        refine q_goi hW (q_runV (As := []) (rest := [.int kx1]) hE hW (c_X12_base l G ks3 a0 h0) kw_X12_316 (q_recv hE hW h0 rfl q_k12) rfl hl.1 rfl (Nat.le_of_ble_eq_true rfl) dX12_whoOf_31 ⟨by decide, by decide⟩ ⟨by decide, by decide⟩) (by decide) (fun kx8 ks6 H locs kp5 kf7 hW => ?_)
        refine lv_irem hx hb dX12_whoOf_34 (q_ne0 kp5 (by decide)) ?_
        refine lv_topi (fun kx9 ekx9 => ?_)
        exact q_reti hE hr hlocks hW ((q_all kx9)) dX12_whoOf_35
      · have kv10 : q_V (-2147483648) 4 i2 := (q_lt1 (q_all i2) vkx2 (Int32.not_le.mp kc4)).w (by decide) (by decide)
        have kv11 : q_V (-2147483647) 5 kx2 := (q_lt2 (q_all i2) vkx2 (Int32.not_le.mp kc4)).w (by decide) (by decide)
        refine lv_iload_n hx hb dX12_whoOf_16 rfl (lv_at hl 2 rfl) ?_
        refine lv_aload_n hx hb dX12_whoOf_17 rfl (lv_at hl 0 rfl) ?_
        refine q_goi hW (q_runV (As := []) (rest := [.int kx1]) hE hW (c_X12_base l G ks3 a0 h0) kw_X12_316 (q_recv hE hW h0 rfl q_k12) rfl hl.1 rfl (Nat.le_of_ble_eq_true rfl) dX12_whoOf_18 ⟨by decide, by decide⟩ ⟨by decide, by decide⟩) (by decide) (fun kx15 ks13 H locs kp12 kf14 hW => ?_)
        refine lv_idiv hx hb dX12_whoOf_21 (q_ne0 kp12 (by decide)) ?_
        refine lv_topi (fun kx16 ekx16 => ?_)
        refine lv_istore_n (lv' := [(3, .int kx16), (0, .ref a0), (2, .int i2), (4, .int kx2)]) hx hb dX12_whoOf_22 rfl hl (by decide) rfl (fun ls hl => ?_)
        obtain ⟨kx17, ekx17⟩ : ∃ y : Int32, y = kx2 + (-1) := ⟨_, rfl⟩
        have vkx17 : q_V (-2147483648) 4 kx17 := by rw [ekx17]; exact (q_add kv11 (q_c (k := (-1)) (x := (-1)) (by decide)) (by decide) (by decide)).w (by decide) (by decide)
        have ikx17 : kx17.toInt = kx2.toInt + (-1) := q_incT ekx17 kv11 (by decide) (by decide) (by decide)
        refine lv_iinc (v := kx17) (lv' := [(4, .int kx17), (3, .int kx16), (0, .ref a0), (2, .int i2)]) hx hb dX12_whoOf_23 hl (k := 3) rfl (by rw [ekx17]; rfl) (by decide) rfl (fun ls hl => ?_)
        refine lv_goto (tgt := 10) hx hb dX12_whoOf_26 (by decide) ?_
        exact ih10a _ _ _ kx16 kx17 (vkx17.w (by decide) (by decide)) hW ls (lv_sub hl [2, 3, 1, 0] rfl) (Nat.lt_of_lt_of_le (q_dn (ikx17) (show q_V (-2147483648) 4 kx17 from vkx17).1) (Nat.le_of_lt_succ hm10a))
  refine lv_iload_n hx hb dX12_whoOf_0 rfl (lv_at hl 1 rfl) ?_
  refine lv_istore_n (lv' := [(3, .int i1), (0, .ref a0), (1, .int i1), (2, .int i2)]) hx hb dX12_whoOf_1 rfl hl (by decide) rfl (fun ls hl => ?_)
  refine lv_aload_n hx hb dX12_whoOf_2 rfl (lv_at hl 1 rfl) ?_
  refine q_geti hE hW h0 rfl q_k12 0 (by decide) rfl (hE.l wl_358) dX12_whoOf_3 (fun kx18 ekx18 vkx18 => ?_)
  refine lv_iconst (v := 1) hx hb dX12_whoOf_6 (by decide) ?_
  refine lv_isub hx hb dX12_whoOf_7 ?_
  refine lv_topi (fun kx19 ekx19 => ?_)
  have vkx19 : q_V (-1) 5 kx19 := by rw [ekx19]; exact (q_sub vkx18 (q_c (k := 1) (x := 1) (by decide)) (by decide) (by decide)).w (by decide) (by decide)
  refine lv_istore (lv' := [(4, .int kx19), (3, .int i1), (0, .ref a0), (1, .int i1), (2, .int i2)]) hx hb dX12_whoOf_8 hl (by decide) rfl (fun ls hl => ?_)
  exact lp10a _ _ _ _ i1 kx19 (vkx19.w (by decide) (by decide)) hW ls (lv_sub hl [2, 4, 1, 0] rfl) (Nat.lt_succ_self _)
set_option maxHeartbeats 4000000 in
set_option maxRecDepth 100000 in
theorem c_X12_isInTime (l : Launch) (G : q_G) (σ : q_S) (a0 : Nat) (h0 : q_T G a0 = 40) (i1 : Int32) (i2 : Int32) (w2 : q_V 0 2 i2)  : Met l yX12_isInTime (Cond.code yX12_isInTime cX12_isInTime 9 (some .boolean) :: wsL_law) (q_Rm 3) (q_Pre G σ [.ref a0, .int i1, .int i2]) (q_Qi G [] σ (fun r σ1 => q_V 0 1 r)) 0 0 (q_N G) := by
  refine q_ofW (ts := []) (by decide) (Nat.le_of_ble_eq_true rfl) ?_
  intro p e s m args below meth c hE hr hlocks hW ls hl
  have hE : q_E G p s m args c cX12_isInTime 9 RX12 := hE
  have hx := hE.1.1
  have hb := hE.1.2.1
  have hl : lv_has ls 9 [(0, .ref a0), (1, .int i1), (2, .int i2)] := hl
  have lp14a : ∀ (n14a : Nat) (ks4 : q_S) (H : Heap) (locs : List Loc) (kx1 : Int32) (kx2 : Int32) (kx3 : Int32) (vkx3 : q_V 0 6 kx3) (hW : q_Wd G [] σ s.heap ks4 H locs) (ls : Array Slot) (hl : lv_has ls 9 [(0, .ref a0), (1, .int i1), (2, .int i2), (3, .int kx1), (4, .int kx2), (5, .int kx3)]), (6 - kx3.toInt).toNat < n14a → W p l e (q_Rm 3) s m args below meth c H locs 0 0 (MQ below (q_Qi G [] σ (fun r σ1 => q_V 0 1 r)) args s 0 0 (q_N G)) (F0 m 14 ls []) := by
    intro n14a
    induction n14a with
    | zero => intro _ _ _ _ _ _ _ _ _ _; exact fun h => absurd h (Nat.not_lt_zero _)
    | succ n14a ih14a =>
      intro ks4 H locs kx1 kx2 kx3 vkx3 hW ls hl hm14a
      have jn159a : ∀ (ks8 : q_S) (H : Heap) (locs : List Loc) (kx5 : Int32) (kx6 : Int32) (kv7 : q_V 0 5 kx3) (hW : q_Wd G [] σ s.heap ks8 H locs) (ls : Array Slot) (hl : lv_has ls 9 [(0, .ref a0), (1, .int i1), (2, .int i2), (3, .int kx5), (4, .int kx6), (5, .int kx3)]), W p l e (q_Rm 3) s m args below meth c H locs 0 0 (MQ below (q_Qi G [] σ (fun r σ1 => q_V 0 1 r)) args s 0 0 (q_N G)) (F0 m 159 ls []) := by
        intro ks8 H locs kx5 kx6 kv7 hW ls hl
        obtain ⟨kx9, ekx9⟩ : ∃ y : Int32, y = kx3 + 1 := ⟨_, rfl⟩
        have vkx9 : q_V 1 6 kx9 := by rw [ekx9]; exact (q_add kv7 (q_c (k := 1) (x := 1) (by decide)) (by decide) (by decide)).w (by decide) (by decide)
        have ikx9 : kx9.toInt = kx3.toInt + 1 := q_incT ekx9 kv7 (by decide) (by decide) (by decide)
        refine lv_iinc (v := kx9) (lv' := [(5, .int kx9), (0, .ref a0), (1, .int i1), (2, .int i2), (3, .int kx5), (4, .int kx6)]) hx hb dX12_isInTime_159 hl (k := 5) rfl (by rw [ekx9]; rfl) (by decide) rfl (fun ls hl => ?_)
        refine lv_goto (tgt := 14) hx hb dX12_isInTime_162 (by decide) ?_
        exact ih14a _ _ _ kx5 kx6 kx9 (vkx9.w (by decide) (by decide)) hW ls (lv_sub hl [1, 2, 3, 4, 5, 0] rfl) (Nat.lt_of_lt_of_le (q_up (ikx9) (show q_V 1 6 kx9 from vkx9).2) (Nat.le_of_lt_succ hm14a))
      have lp29a : ∀ (n29a : Nat) (ks13 : q_S) (H : Heap) (locs : List Loc) (kv10 : q_V 0 5 kx3) (kx11 : Int32) (vkx11 : q_V (-1) 5 kx11) (kx12 : Int32) (vkx12 : q_V 0 6 kx12) (hW : q_Wd G [] σ s.heap ks13 H locs) (ls : Array Slot) (hl : lv_has ls 9 [(0, .ref a0), (1, .int i1), (2, .int i2), (3, .int kx1), (4, .int kx2), (5, .int kx3), (6, .int kx11), (7, .int kx12)]), (6 - kx12.toInt).toNat < n29a → W p l e (q_Rm 3) s m args below meth c H locs 0 0 (MQ below (q_Qi G [] σ (fun r σ1 => q_V 0 1 r)) args s 0 0 (q_N G)) (F0 m 29 ls []) := by
        intro n29a
        induction n29a with
        | zero => intro _ _ _ _ _ _ _ _ _ _ _; exact fun h => absurd h (Nat.not_lt_zero _)
        | succ n29a ih29a =>
          intro ks13 H locs kv10 kx11 vkx11 kx12 vkx12 hW ls hl hm29a
          have jn99a : ∀ (ks16 : q_S) (H : Heap) (locs : List Loc) (kv14 : q_V 0 5 kx12) (kx15 : Int32) (vkx15 : q_V (-1) 5 kx15) (hW : q_Wd G [] σ s.heap ks16 H locs) (ls : Array Slot) (hl : lv_has ls 9 [(0, .ref a0), (1, .int i1), (2, .int i2), (3, .int kx1), (4, .int kx2), (5, .int kx3), (7, .int kx12)]), W p l e (q_Rm 3) s m args below meth c H locs 0 0 (MQ below (q_Qi G [] σ (fun r σ1 => q_V 0 1 r)) args s 0 0 (q_N G)) (F0 m 99 ls [.int kx15]) := by
            intro ks16 H locs kv14 kx15 vkx15 hW ls hl
            refine lv_istore (lv' := [(6, .int kx15), (0, .ref a0), (1, .int i1), (2, .int i2), (3, .int kx1), (4, .int kx2), (5, .int kx3), (7, .int kx12)]) hx hb dX12_isInTime_99 hl (by decide) rfl (fun ls hl => ?_)
            obtain ⟨kx17, ekx17⟩ : ∃ y : Int32, y = kx12 + 1 := ⟨_, rfl⟩
            have vkx17 : q_V 1 6 kx17 := by rw [ekx17]; exact (q_add kv14 (q_c (k := 1) (x := 1) (by decide)) (by decide) (by decide)).w (by decide) (by decide)
            have ikx17 : kx17.toInt = kx12.toInt + 1 := q_incT ekx17 kv14 (by decide) (by decide) (by decide)
            refine lv_iinc (v := kx17) (lv' := [(7, .int kx17), (6, .int kx15), (0, .ref a0), (1, .int i1), (2, .int i2), (3, .int kx1), (4, .int kx2), (5, .int kx3)]) hx hb dX12_isInTime_101 hl (k := 7) rfl (by rw [ekx17]; rfl) (by decide) rfl (fun ls hl => ?_)
            refine lv_goto (tgt := 29) hx hb dX12_isInTime_104 (by decide) ?_
            exact ih29a _ _ _ kv10 kx15 vkx15 kx17 (vkx17.w (by decide) (by decide)) hW ls (lv_sub hl [2, 3, 4, 5, 6, 7, 1, 0] rfl) (Nat.lt_of_lt_of_le (q_up (ikx17) (show q_V 1 6 kx17 from vkx17).2) (Nat.le_of_lt_succ hm29a))
          have jn97a : ∀ (ks19 : q_S) (H : Heap) (locs : List Loc) (kv18 : q_V 0 5 kx12) (hW : q_Wd G [] σ s.heap ks19 H locs) (ls : Array Slot) (hl : lv_has ls 9 [(0, .ref a0), (1, .int i1), (2, .int i2), (3, .int kx1), (4, .int kx2), (5, .int kx3), (6, .int kx11), (7, .int kx12)]), W p l e (q_Rm 3) s m args below meth c H locs 0 0 (MQ below (q_Qi G [] σ (fun r σ1 => q_V 0 1 r)) args s 0 0 (q_N G)) (F0 m 97 ls []) := by
            intro ks19 H locs kv18 hW ls hl
            refine lv_iload hx hb dX12_isInTime_97 (lv_at hl 6 rfl) ?_
            exact jn99a _ _ _ kv18 kx11 vkx11 hW ls (lv_sub hl [0, 1, 2, 3, 4, 5, 7] rfl)
          have jn92a : ∀ (ks21 : q_S) (H : Heap) (locs : List Loc) (kv20 : q_V 0 5 kx12) (hW : q_Wd G [] σ s.heap ks21 H locs) (ls : Array Slot) (hl : lv_has ls 9 [(0, .ref a0), (1, .int i1), (2, .int i2), (3, .int kx1), (4, .int kx2), (5, .int kx3), (7, .int kx12)]), W p l e (q_Rm 3) s m args below meth c H locs 0 0 (MQ below (q_Qi G [] σ (fun r σ1 => q_V 0 1 r)) args s 0 0 (q_N G)) (F0 m 92 ls []) := by
            intro ks21 H locs kv20 hW ls hl
            refine lv_iload hx hb dX12_isInTime_92 (lv_at hl 6 rfl) ?_
            refine lv_goto (tgt := 99) hx hb dX12_isInTime_94 (by decide) ?_
            exact jn99a _ _ _ kv20 kx12 (kv20.w (by decide) (by decide)) hW ls (lv_sub hl [0, 1, 2, 3, 4, 5, 6] rfl)
          have jn63a : ∀ (ks24 : q_S) (H : Heap) (locs : List Loc) (kv22 : q_V 0 5 kx12) (kx23 : Int32) (vkx23 : q_V 0 1 kx23) (hW : q_Wd G [] σ s.heap ks24 H locs) (ls : Array Slot) (hl : lv_has ls 9 [(0, .ref a0), (1, .int i1), (2, .int i2), (3, .int kx1), (4, .int kx2), (5, .int kx3), (6, .int kx11), (7, .int kx12)]), W p l e (q_Rm 3) s m args below meth c H locs 0 0 (MQ below (q_Qi G [] σ (fun r σ1 => q_V 0 1 r)) args s 0 0 (q_N G)) (F0 m 63 ls [.int kx23]) := by
            intro ks24 H locs kv22 kx23 vkx23 hW ls hl
            refine lv_istore (lv' := [(8, .int kx23), (0, .ref a0), (1, .int i1), (2, .int i2), (3, .int kx1), (4, .int kx2), (5, .int kx3), (6, .int kx11), (7, .int kx12)]) hx hb dX12_isInTime_63 hl (by decide) rfl (fun ls hl => ?_)
            refine lv_iload hx hb dX12_isInTime_65 (lv_at hl 0 rfl) ?_
            refine lv_if_eq (tgt := 97) hx hb dX12_isInTime_67 (by decide) (fun kc25 => ?_) (fun kc25 => ?_)
            · have kv26 : q_V 0 0 kx23 := q_eq1 vkx23 (q_c (k := 0) (x := 0) (by decide)) kc25 (by decide) (by decide)
              exact jn97a _ _ _ kv22 hW ls (lv_sub hl [1, 2, 3, 4, 5, 6, 7, 8] rfl)
            · have kv27 : q_V 1 1 kx23 := q_ne1 vkx23 (q_c (k := 0) (x := 0) (by decide)) kc25 (by decide)
              refine lv_iload hx hb dX12_isInTime_70 (lv_at hl 7 rfl) ?_
              refine lv_if_lt (tgt := 92) hx hb dX12_isInTime_72 (by decide) (fun kc28 => ?_) (fun kc28 => ?_)
              · have kv29 : q_V (-1) (-1) kx11 := (q_lt1 vkx11 (q_c (k := 0) (x := 0) (by decide)) kc28).w (by decide) (by decide)
                exact jn92a _ _ _ kv22 hW ls (lv_sub hl [1, 2, 3, 4, 5, 6, 8] rfl)
              · have kv30 : q_V 0 5 kx11 := (q_le2 (q_c (k := 0) (x := 0) (by decide)) vkx11 (Int32.not_lt.mp kc28)).w (by decide) (by decide)
                refine lv_aload_n hx hb dX12_isInTime_75 rfl (lv_at hl 1 rfl) ?_
                refine q_getr hE hW h0 rfl q_k12 3 (by decide) rfl (hE.l wl_131) dX12_isInTime_76 (fun kb31 ekb31 hkb31a hkb31b => ?_)
                have hkb31 : q_T G kb31 = 43 := q_tag hkb31a hkb31b
                refine lv_iload hx hb dX12_isInTime_79 (lv_at hl 8 rfl) ?_
                refine q_iald hE hW hkb31 rfl (q_in kv22 (by decide) (by decide)) dX12_isInTime_81 (fun kx32 ekx32 gkx32 => ?_)
                refine lv_aload_n hx hb dX12_isInTime_82 rfl (lv_at hl 1 rfl) ?_
                refine q_getr hE hW h0 rfl q_k12 3 (by decide) rfl (hE.l wl_131) dX12_isInTime_83 (fun kb33 ekb33 hkb33a hkb33b => ?_)
                obtain rfl : kb31 = kb33 := ekb31.symm.trans ekb33
                refine lv_iload hx hb dX12_isInTime_86 (lv_at hl 7 rfl) ?_
                refine q_iald hE hW hkb31 rfl (q_in kv30 (by decide) (by decide)) dX12_isInTime_88 (fun kx34 ekx34 gkx34 => ?_)
                refine lv_icmp_ge (tgt := 97) hx hb dX12_isInTime_89 (by decide) (fun kc35 => ?_) (fun kc35 => ?_)
                · exact jn97a _ _ _ kv22 hW ls (lv_sub hl [1, 2, 3, 4, 5, 6, 7, 8] rfl)
                · have kv36 : q_V (-2147483648) 2147483646 kx32 := (q_lt1 (q_all kx32) (q_all kx34) (Int32.not_le.mp kc35)).w (by decide) (by decide)
                  have kv37 : q_V (-2147483647) 2147483647 kx34 := (q_lt2 (q_all kx32) (q_all kx34) (Int32.not_le.mp kc35)).w (by decide) (by decide)
                  exact jn92a _ _ _ kv22 hW ls (lv_sub hl [1, 2, 3, 4, 5, 6, 8] rfl)
          have jn62a : ∀ (ks39 : q_S) (H : Heap) (locs : List Loc) (kv38 : q_V 0 5 kx12) (hW : q_Wd G [] σ s.heap ks39 H locs) (ls : Array Slot) (hl : lv_has ls 9 [(0, .ref a0), (1, .int i1), (2, .int i2), (3, .int kx1), (4, .int kx2), (5, .int kx3), (6, .int kx11), (7, .int kx12)]), W p l e (q_Rm 3) s m args below meth c H locs 0 0 (MQ below (q_Qi G [] σ (fun r σ1 => q_V 0 1 r)) args s 0 0 (q_N G)) (F0 m 62 ls []) := by
            intro ks39 H locs kv38 hW ls hl
            refine lv_iconst (v := 0) hx hb dX12_isInTime_62 (by decide) ?_
            exact jn63a _ _ _ kv38 0 ((q_c (k := 0) (x := 0) (by decide)).w (by decide) (by decide)) hW ls (lv_sub hl [0, 1, 2, 3, 4, 5, 6, 7] rfl)
          refine lv_iload hx hb dX12_isInTime_29 (lv_at hl 7 rfl) ?_
          refine lv_aload_n hx hb dX12_isInTime_31 rfl (lv_at hl 0 rfl) ?_
          refine q_geti hE hW h0 rfl q_k12 0 (by decide) rfl (hE.l wl_358) dX12_isInTime_32 (fun kx40 ekx40 vkx40 => ?_)
          refine lv_icmp_ge (tgt := 107) hx hb dX12_isInTime_35 (by decide) (fun kc41 => ?_) (fun kc41 => ?_)
          · refine lv_iload hx hb dX12_isInTime_107 (lv_at hl 6 rfl) ?_
            refine lv_if_lt (tgt := 159) hx hb dX12_isInTime_109 (by decide) (fun kc42 => ?_) (fun kc42 => ?_)
            · have kv43 : q_V (-1) (-1) kx11 := (q_lt1 vkx11 (q_c (k := 0) (x := 0) (by decide)) kc42).w (by decide) (by decide)
              exact jn159a _ _ _ kx1 kx2 kv10 hW ls (lv_sub hl [0, 1, 2, 3, 4, 5] rfl)
            · have kv44 : q_V 0 5 kx11 := (q_le2 (q_c (k := 0) (x := 0) (by decide)) vkx11 (Int32.not_lt.mp kc42)).w (by decide) (by decide)
              refine lv_aload_n hx hb dX12_isInTime_112 rfl (lv_at hl 0 rfl) ?_
              refine q_getr hE hW h0 rfl q_k12 34 (by decide) rfl (hE.l wl_148) dX12_isInTime_113 (fun kb45 ekb45 hkb45a hkb45b => ?_)
              have hkb45 : q_T G kb45 = 59 := q_tag hkb45a hkb45b
              refine lv_bipush (v := 6) hx hb dX12_isInTime_116 (by decide) ?_
              refine lv_iload_n hx hb dX12_isInTime_118 rfl (lv_at hl 2 rfl) ?_
              refine lv_imul hx hb dX12_isInTime_119 ?_
              refine lv_topi (fun kx46 ekx46 => ?_)
              have vkx46 : q_V 0 12 kx46 := by rw [ekx46]; exact (q_mul (k := 6) (by decide) w2 (by decide) (by decide) (by decide)).w (by decide) (by decide)
              refine lv_iload hx hb dX12_isInTime_120 (lv_at hl 6 rfl) ?_
              refine lv_iadd hx hb dX12_isInTime_122 ?_
              refine lv_topi (fun kx47 ekx47 => ?_)
              have vkx47 : q_V 0 17 kx47 := by rw [ekx47]; exact (q_add vkx46 kv44 (by decide) (by decide)).w (by decide) (by decide)
              refine q_iald hE hW hkb45 rfl (q_in vkx47 (by decide) (by decide)) dX12_isInTime_123 (fun kx48 ekx48 gkx48 => ?_)
              refine lv_istore (lv' := [(7, .int kx48), (0, .ref a0), (1, .int i1), (2, .int i2), (3, .int kx1), (4, .int kx2), (5, .int kx3), (6, .int kx11)]) hx hb dX12_isInTime_124 hl (by decide) rfl (fun ls hl => ?_)
              refine lv_iload hx hb dX12_isInTime_126 (lv_at hl 5 rfl) ?_
              refine lv_iload hx hb dX12_isInTime_128 (lv_at hl 0 rfl) ?_
              refine lv_iadd hx hb dX12_isInTime_130 ?_
              refine lv_topi (fun kx49 ekx49 => ?_)
              refine lv_istore (lv' := [(4, .int kx49), (7, .int kx48), (0, .ref a0), (1, .int i1), (2, .int i2), (3, .int kx1), (5, .int kx3), (6, .int kx11)]) hx hb dX12_isInTime_131 hl (by decide) rfl (fun ls hl => ?_)
              refine lv_iload hx hb dX12_isInTime_133 (lv_at hl 1 rfl) ?_
              refine lv_if_lt (tgt := 150) hx hb dX12_isInTime_135 (by decide) (fun kc50 => ?_) (fun kc50 => ?_)
              · have kv51 : q_V (-2147483648) (-1) kx48 := (q_lt1 (q_all kx48) (q_c (k := 0) (x := 0) (by decide)) kc50).w (by decide) (by decide)
                refine lv_iconst (v := 0) hx hb dX12_isInTime_150 (by decide) ?_
                exact q_retz hE hr hlocks hW (Or.inl rfl) (((q_c (k := 0) (x := 0) (by decide)).w (by decide) (by decide))) dX12_isInTime_151
              · have kv52 : q_V 0 2147483647 kx48 := (q_le2 (q_c (k := 0) (x := 0) (by decide)) (q_all kx48) (Int32.not_lt.mp kc50)).w (by decide) (by decide)
                refine lv_iload hx hb dX12_isInTime_138 (lv_at hl 0 rfl) ?_
                refine lv_aload_n hx hb dX12_isInTime_140 rfl (lv_at hl 2 rfl) ?_
                refine q_getr hE hW h0 rfl q_k12 3 (by decide) rfl (hE.l wl_131) dX12_isInTime_141 (fun kb53 ekb53 hkb53a hkb53b => ?_)
                have hkb53 : q_T G kb53 = 43 := q_tag hkb53a hkb53b
                refine lv_iload hx hb dX12_isInTime_144 (lv_at hl 7 rfl) ?_
                refine q_iald hE hW hkb53 rfl (q_in kv44 (by decide) (by decide)) dX12_isInTime_146 (fun kx54 ekx54 gkx54 => ?_)
                refine lv_icmp_le (tgt := 152) hx hb dX12_isInTime_147 (by decide) (fun kc55 => ?_) (fun kc55 => ?_)
                · refine lv_iload_n hx hb dX12_isInTime_152 rfl (lv_at hl 5 rfl) ?_
                  refine lv_iconst (v := 1) hx hb dX12_isInTime_153 (by decide) ?_
                  refine lv_iload hx hb dX12_isInTime_154 (lv_at hl 7 rfl) ?_
                  refine lv_ishl hx hb dX12_isInTime_156 ?_
                  refine lv_topi (fun kx56 ekx56 => ?_)
                  refine lv_ior hx hb dX12_isInTime_157 ?_
                  refine lv_topi (fun kx57 ekx57 => ?_)
                  refine lv_istore_n (lv' := [(3, .int kx57), (4, .int kx49), (7, .int kx48), (0, .ref a0), (1, .int i1), (2, .int i2), (5, .int kx3), (6, .int kx11)]) hx hb dX12_isInTime_158 rfl hl (by decide) rfl (fun ls hl => ?_)
                  exact jn159a _ _ _ kx57 kx49 kv10 hW ls (lv_sub hl [3, 4, 5, 0, 1, 6] rfl)
                · have kv58 : q_V (-2147483648) 2147483646 kx54 := (q_lt1 (q_all kx54) (q_all kx49) (Int32.not_le.mp kc55)).w (by decide) (by decide)
                  have kv59 : q_V (-2147483647) 2147483647 kx49 := (q_lt2 (q_all kx54) (q_all kx49) (Int32.not_le.mp kc55)).w (by decide) (by decide)
                  refine lv_iconst (v := 0) hx hb dX12_isInTime_150 (by decide) ?_
                  exact q_retz hE hr hlocks hW (Or.inl rfl) (((q_c (k := 0) (x := 0) (by decide)).w (by decide) (by decide))) dX12_isInTime_151
          · have kv60 : q_V 0 5 kx12 := (q_lt1 vkx12 vkx40 (Int32.not_le.mp kc41)).w (by decide) (by decide)
            have kv61 : q_V 1 6 kx40 := (q_lt2 vkx12 vkx40 (Int32.not_le.mp kc41)).w (by decide) (by decide)
            refine lv_aload_n hx hb dX12_isInTime_38 rfl (lv_at hl 0 rfl) ?_
            refine lv_iload_n hx hb dX12_isInTime_39 rfl (lv_at hl 1 rfl) ?_
            refine lv_iload hx hb dX12_isInTime_40 (lv_at hl 7 rfl) ?_
            refine q_goi hW (q_runV (As := [.int i1, .int kx12]) (rest := []) hE hW (c_X12_whoOf l G ks13 a0 h0 i1 kx12) kw_X12_320 (q_recv hE hW h0 rfl q_k12) rfl hl.1 rfl (Nat.le_of_ble_eq_true rfl) dX12_isInTime_42 ⟨by decide, by decide⟩ ⟨by decide, by decide⟩) (by decide) (fun kx65 ks63 H locs kp62 kf64 hW => ?_)
            refine lv_iload_n hx hb dX12_isInTime_45 rfl (lv_at hl 2 rfl) ?_
            refine lv_icmp_ne (tgt := 62) hx hb dX12_isInTime_46 (by decide) (fun kc66 => ?_) (fun kc66 => ?_)
            · exact jn62a _ _ _ kv60 hW ls (lv_sub hl [0, 1, 2, 3, 4, 5, 6, 7] rfl)
            · have kv67 : q_V 0 2 kx65 := q_eq1 (q_all kx65) w2 kc66 (by decide) (by decide)
              refine lv_iload_n hx hb dX12_isInTime_49 rfl (lv_at hl 3 rfl) ?_
              refine lv_iload hx hb dX12_isInTime_50 (lv_at hl 7 rfl) ?_
              refine q_goi hW (q_runS (As := [.int kx1, .int kx12]) (rest := []) hE hW (c_X12_isBit l G ks63 kx1 kx12) kw_X12_305 rfl hl.1 rfl (Nat.le_of_ble_eq_true rfl) dX12_isInTime_52 ⟨by decide, by decide⟩ ⟨by decide, by decide⟩) (by decide) (fun kx71 ks69 H locs kp68 kf70 hW => ?_)
              refine lv_if_ne (tgt := 62) hx hb dX12_isInTime_55 (by decide) (fun kc72 => ?_) (fun kc72 => ?_)
              · have kv73 : q_V 1 1 kx71 := q_ne1 kp68 (q_c (k := 0) (x := 0) (by decide)) kc72 (by decide)
                exact jn62a _ _ _ kv60 hW ls (lv_sub hl [0, 1, 2, 3, 4, 5, 6, 7] rfl)
              · have kv74 : q_V 0 0 kx71 := q_eq1 kp68 (q_c (k := 0) (x := 0) (by decide)) kc72 (by decide) (by decide)
                refine lv_iconst (v := 1) hx hb dX12_isInTime_58 (by decide) ?_
                refine lv_goto (tgt := 63) hx hb dX12_isInTime_59 (by decide) ?_
                exact jn63a _ _ _ kv60 1 ((q_c (k := 1) (x := 1) (by decide)).w (by decide) (by decide)) hW ls (lv_sub hl [0, 1, 2, 3, 4, 5, 6, 7] rfl)
      refine lv_iload hx hb dX12_isInTime_14 (lv_at hl 5 rfl) ?_
      refine lv_aload_n hx hb dX12_isInTime_16 rfl (lv_at hl 0 rfl) ?_
      refine q_geti hE hW h0 rfl q_k12 0 (by decide) rfl (hE.l wl_358) dX12_isInTime_17 (fun kx75 ekx75 vkx75 => ?_)
      refine lv_icmp_ge (tgt := 165) hx hb dX12_isInTime_20 (by decide) (fun kc76 => ?_) (fun kc76 => ?_)
      · refine lv_iconst (v := 1) hx hb dX12_isInTime_165 (by decide) ?_
        exact q_retz hE hr hlocks hW (Or.inr rfl) (((q_c (k := 1) (x := 1) (by decide)).w (by decide) (by decide))) dX12_isInTime_166
      · have kv77 : q_V 0 5 kx3 := (q_lt1 vkx3 vkx75 (Int32.not_le.mp kc76)).w (by decide) (by decide)
        have kv78 : q_V 1 6 kx75 := (q_lt2 vkx3 vkx75 (Int32.not_le.mp kc76)).w (by decide) (by decide)
        refine lv_iconst (v := (-1)) hx hb dX12_isInTime_23 (by decide) ?_
        refine lv_istore (lv' := [(6, .int (-1)), (0, .ref a0), (1, .int i1), (2, .int i2), (3, .int kx1), (4, .int kx2), (5, .int kx3)]) hx hb dX12_isInTime_24 hl (by decide) rfl (fun ls hl => ?_)
        refine lv_iconst (v := 0) hx hb dX12_isInTime_26 (by decide) ?_
        refine lv_istore (lv' := [(7, .int 0), (6, .int (-1)), (0, .ref a0), (1, .int i1), (2, .int i2), (3, .int kx1), (4, .int kx2), (5, .int kx3)]) hx hb dX12_isInTime_27 hl (by decide) rfl (fun ls hl => ?_)
        exact lp29a _ _ _ _ kv77 (-1) ((q_c (k := (-1)) (x := (-1)) (by decide)).w (by decide) (by decide)) 0 ((q_c (k := 0) (x := 0) (by decide)).w (by decide) (by decide)) hW ls (lv_sub hl [2, 3, 4, 5, 6, 7, 1, 0] rfl) (Nat.lt_succ_self _)
  refine lv_iconst (v := 0) hx hb dX12_isInTime_0 (by decide) ?_
  refine lv_istore_n (lv' := [(3, .int 0), (0, .ref a0), (1, .int i1), (2, .int i2)]) hx hb dX12_isInTime_1 rfl hl (by decide) rfl (fun ls hl => ?_)
  refine lv_aload_n hx hb dX12_isInTime_2 rfl (lv_at hl 1 rfl) ?_
  refine q_getr hE hW h0 rfl q_k12 9 (by decide) rfl (hE.l wl_135) dX12_isInTime_3 (fun kb79 ekb79 hkb79a hkb79b => ?_)
  have hkb79 : q_T G kb79 = 46 := q_tag hkb79a hkb79b
  refine lv_bipush (v := 58) hx hb dX12_isInTime_6 (by decide) ?_
  refine q_iald hE hW hkb79 rfl (q_in (q_c (k := 58) (x := 58) (by decide)) (by decide) (by decide)) dX12_isInTime_8 (fun kx80 ekx80 gkx80 => ?_)
  refine lv_istore (lv' := [(4, .int kx80), (3, .int 0), (0, .ref a0), (1, .int i1), (2, .int i2)]) hx hb dX12_isInTime_9 hl (by decide) rfl (fun ls hl => ?_)
  refine lv_iconst (v := 0) hx hb dX12_isInTime_11 (by decide) ?_
  refine lv_istore (lv' := [(5, .int 0), (4, .int kx80), (3, .int 0), (0, .ref a0), (1, .int i1), (2, .int i2)]) hx hb dX12_isInTime_12 hl (by decide) rfl (fun ls hl => ?_)
  exact lp14a _ _ _ _ 0 kx80 0 ((q_c (k := 0) (x := 0) (by decide)).w (by decide) (by decide)) hW ls (lv_sub hl [3, 4, 5, 2, 1, 0] rfl) (Nat.lt_succ_self _)
set_option maxHeartbeats 4000000 in
set_option maxRecDepth 100000 in
theorem c_X12_washedBy (l : Launch) (G : q_G) (σ : q_S) (a0 : Nat) (h0 : q_T G a0 = 40) (i1 : Int32)  : Met l yX12_washedBy (Cond.code yX12_washedBy cX12_washedBy 5 (some .int) :: wsL_law) (q_Rm 4) (q_Pre G σ [.ref a0, .int i1]) (q_Qi G [] σ (fun r σ1 => q_V (-2147483648) 2147483647 r)) 0 0 (q_N G) := by
  refine q_ofW (ts := []) (by decide) (Nat.le_of_ble_eq_true rfl) ?_
  intro p e s m args below meth c hE hr hlocks hW ls hl
  have hE : q_E G p s m args c cX12_washedBy 5 RX12 := hE
  have hx := hE.1.1
  have hb := hE.1.2.1
  have hl : lv_has ls 5 [(0, .ref a0), (1, .int i1)] := hl
  have lp72a : ∀ (n72a : Nat) (ks3 : q_S) (H : Heap) (locs : List Loc) (kx1 : Int32) (kx2 : Int32) (vkx2 : q_V 0 3 kx2) (hW : q_Wd G [] σ s.heap ks3 H locs) (ls : Array Slot) (hl : lv_has ls 5 [(0, .ref a0), (1, .int i1), (2, .int kx1), (3, .int kx2)]), (3 - kx2.toInt).toNat < n72a → W p l e (q_Rm 4) s m args below meth c H locs 0 0 (MQ below (q_Qi G [] σ (fun r σ1 => q_V (-2147483648) 2147483647 r)) args s 0 0 (q_N G)) (F0 m 72 ls []) := by
    intro n72a
    induction n72a with
    | zero => intro _ _ _ _ _ _ _ _ _; exact fun h => absurd h (Nat.not_lt_zero _)
    | succ n72a ih72a =>
      intro ks3 H locs kx1 kx2 vkx2 hW ls hl hm72a
      refine lv_iload_n hx hb dX12_washedBy_72 rfl (lv_at hl 3 rfl) ?_
      refine lv_aload_n hx hb dX12_washedBy_73 rfl (lv_at hl 0 rfl) ?_
      refine q_geti hE hW h0 rfl q_k12 5 (by decide) rfl (hE.l wl_360) dX12_washedBy_74 (fun kx4 ekx4 vkx4 => ?_)
      refine lv_icmp_ge (tgt := 97) hx hb dX12_washedBy_77 (by decide) (fun kc5 => ?_) (fun kc5 => ?_)
      · refine lv_iload_n hx hb dX12_washedBy_97 rfl (lv_at hl 2 rfl) ?_
        exact q_reti hE hr hlocks hW ((q_all kx1)) dX12_washedBy_98
      · have kv6 : q_V 0 2 kx2 := (q_lt1 vkx2 vkx4 (Int32.not_le.mp kc5)).w (by decide) (by decide)
        have kv7 : q_V 1 3 kx4 := (q_lt2 vkx2 vkx4 (Int32.not_le.mp kc5)).w (by decide) (by decide)
        refine lv_aload_n hx hb dX12_washedBy_80 rfl (lv_at hl 0 rfl) ?_
        refine lv_iload_n hx hb dX12_washedBy_81 rfl (lv_at hl 1 rfl) ?_
        refine lv_iload_n hx hb dX12_washedBy_82 rfl (lv_at hl 3 rfl) ?_
        refine q_goi hW (q_runV (As := [.int i1, .int kx2]) (rest := []) hE hW (c_X12_isInTime l G ks3 a0 h0 i1 kx2 kv6) kw_X12_323 (q_recv hE hW h0 rfl q_k12) rfl hl.1 rfl (Nat.le_of_ble_eq_true rfl) dX12_washedBy_83 ⟨by decide, by decide⟩ ⟨by decide, by decide⟩) (by decide) (fun kx11 ks9 H locs kp8 kf10 hW => ?_)
        refine lv_if_ne (tgt := 91) hx hb dX12_washedBy_86 (by decide) (fun kc12 => ?_) (fun kc12 => ?_)
        · have kv13 : q_V 1 1 kx11 := q_ne1 kp8 (q_c (k := 0) (x := 0) (by decide)) kc12 (by decide)
          obtain ⟨kx14, ekx14⟩ : ∃ y : Int32, y = kx2 + 1 := ⟨_, rfl⟩
          have vkx14 : q_V 1 3 kx14 := by rw [ekx14]; exact (q_add kv6 (q_c (k := 1) (x := 1) (by decide)) (by decide) (by decide)).w (by decide) (by decide)
          have ikx14 : kx14.toInt = kx2.toInt + 1 := q_incT ekx14 kv6 (by decide) (by decide) (by decide)
          refine lv_iinc (v := kx14) (lv' := [(3, .int kx14), (0, .ref a0), (1, .int i1), (2, .int kx1)]) hx hb dX12_washedBy_91 hl (k := 3) rfl (by rw [ekx14]; rfl) (by decide) rfl (fun ls hl => ?_)
          refine lv_goto (tgt := 72) hx hb dX12_washedBy_94 (by decide) ?_
          exact ih72a _ _ _ kx1 kx14 (vkx14.w (by decide) (by decide)) hW ls (lv_sub hl [1, 2, 3, 0] rfl) (Nat.lt_of_lt_of_le (q_up (ikx14) (show q_V 1 3 kx14 from vkx14).2) (Nat.le_of_lt_succ hm72a))
        · have kv15 : q_V 0 0 kx11 := q_eq1 kp8 (q_c (k := 0) (x := 0) (by decide)) kc12 (by decide) (by decide)
          refine lv_iconst (v := (-1)) hx hb dX12_washedBy_89 (by decide) ?_
          exact q_reti hE hr hlocks hW (((q_c (k := (-1)) (x := (-1)) (by decide)).w (by decide) (by decide))) dX12_washedBy_90
  have lp4a : ∀ (n4a : Nat) (ks18 : q_S) (H : Heap) (locs : List Loc) (kx16 : Int32) (kx17 : Int32) (vkx17 : q_V 0 6 kx17) (hW : q_Wd G [] σ s.heap ks18 H locs) (ls : Array Slot) (hl : lv_has ls 5 [(0, .ref a0), (1, .int i1), (2, .int kx16), (3, .int kx17)]), (6 - kx17.toInt).toNat < n4a → W p l e (q_Rm 4) s m args below meth c H locs 0 0 (MQ below (q_Qi G [] σ (fun r σ1 => q_V (-2147483648) 2147483647 r)) args s 0 0 (q_N G)) (F0 m 4 ls []) := by
    intro n4a
    induction n4a with
    | zero => intro _ _ _ _ _ _ _ _ _; exact fun h => absurd h (Nat.not_lt_zero _)
    | succ n4a ih4a =>
      intro ks18 H locs kx16 kx17 vkx17 hW ls hl hm4a
      have jn62a : ∀ (ks22 : q_S) (H : Heap) (locs : List Loc) (kv19 : q_V 0 5 kx17) (kx20 : Int32) (kx21 : Int32) (vkx21 : q_V 0 1 kx21) (hW : q_Wd G [] σ s.heap ks22 H locs) (ls : Array Slot) (hl : lv_has ls 5 [(0, .ref a0), (1, .int i1), (3, .int kx17)]), W p l e (q_Rm 4) s m args below meth c H locs 0 0 (MQ below (q_Qi G [] σ (fun r σ1 => q_V (-2147483648) 2147483647 r)) args s 0 0 (q_N G)) (F0 m 62 ls [.int kx21, .int kx20]) := by
        intro ks22 H locs kv19 kx20 kx21 vkx21 hW ls hl
        refine lv_iadd hx hb dX12_washedBy_62 ?_
        refine lv_topi (fun kx23 ekx23 => ?_)
        refine lv_istore_n (lv' := [(2, .int kx23), (0, .ref a0), (1, .int i1), (3, .int kx17)]) hx hb dX12_washedBy_63 rfl hl (by decide) rfl (fun ls hl => ?_)
        obtain ⟨kx24, ekx24⟩ : ∃ y : Int32, y = kx17 + 1 := ⟨_, rfl⟩
        have vkx24 : q_V 1 6 kx24 := by rw [ekx24]; exact (q_add kv19 (q_c (k := 1) (x := 1) (by decide)) (by decide) (by decide)).w (by decide) (by decide)
        have ikx24 : kx24.toInt = kx17.toInt + 1 := q_incT ekx24 kv19 (by decide) (by decide) (by decide)
        refine lv_iinc (v := kx24) (lv' := [(3, .int kx24), (2, .int kx23), (0, .ref a0), (1, .int i1)]) hx hb dX12_washedBy_64 hl (k := 3) rfl (by rw [ekx24]; rfl) (by decide) rfl (fun ls hl => ?_)
        refine lv_goto (tgt := 4) hx hb dX12_washedBy_67 (by decide) ?_
        exact ih4a _ _ _ kx23 kx24 (vkx24.w (by decide) (by decide)) hW ls (lv_sub hl [2, 3, 1, 0] rfl) (Nat.lt_of_lt_of_le (q_up (ikx24) (show q_V 1 6 kx24 from vkx24).2) (Nat.le_of_lt_succ hm4a))
      have jn51a : ∀ (ks27 : q_S) (H : Heap) (locs : List Loc) (kv25 : q_V 0 5 kx17) (kx26 : Int32) (vkx26 : q_V 0 1 kx26) (hW : q_Wd G [] σ s.heap ks27 H locs) (ls : Array Slot) (hl : lv_has ls 5 [(0, .ref a0), (1, .int i1), (2, .int kx16), (3, .int kx17), (4, .int kx26)]), W p l e (q_Rm 4) s m args below meth c H locs 0 0 (MQ below (q_Qi G [] σ (fun r σ1 => q_V (-2147483648) 2147483647 r)) args s 0 0 (q_N G)) (F0 m 51 ls []) := by
        intro ks27 H locs kv25 kx26 vkx26 hW ls hl
        refine lv_iload_n hx hb dX12_washedBy_51 rfl (lv_at hl 2 rfl) ?_
        refine lv_iload hx hb dX12_washedBy_52 (lv_at hl 4 rfl) ?_
        refine lv_if_eq (tgt := 61) hx hb dX12_washedBy_54 (by decide) (fun kc28 => ?_) (fun kc28 => ?_)
        · have kv29 : q_V 0 0 kx26 := q_eq1 vkx26 (q_c (k := 0) (x := 0) (by decide)) kc28 (by decide) (by decide)
          refine lv_iconst (v := 1) hx hb dX12_washedBy_61 (by decide) ?_
          exact jn62a _ _ _ kv25 kx16 1 ((q_c (k := 1) (x := 1) (by decide)).w (by decide) (by decide)) hW ls (lv_sub hl [0, 1, 3] rfl)
        · have kv30 : q_V 1 1 kx26 := q_ne1 vkx26 (q_c (k := 0) (x := 0) (by decide)) kc28 (by decide)
          refine lv_iconst (v := 0) hx hb dX12_washedBy_57 (by decide) ?_
          refine lv_goto (tgt := 62) hx hb dX12_washedBy_58 (by decide) ?_
          exact jn62a _ _ _ kv25 kx16 0 ((q_c (k := 0) (x := 0) (by decide)).w (by decide) (by decide)) hW ls (lv_sub hl [0, 1, 3] rfl)
      have jn30a : ∀ (ks33 : q_S) (H : Heap) (locs : List Loc) (kv31 : q_V 0 5 kx17) (kx32 : Int32) (vkx32 : q_V 0 1 kx32) (hW : q_Wd G [] σ s.heap ks33 H locs) (ls : Array Slot) (hl : lv_has ls 5 [(0, .ref a0), (1, .int i1), (2, .int kx16), (3, .int kx17)]), W p l e (q_Rm 4) s m args below meth c H locs 0 0 (MQ below (q_Qi G [] σ (fun r σ1 => q_V (-2147483648) 2147483647 r)) args s 0 0 (q_N G)) (F0 m 30 ls [.int kx32]) := by
        intro ks33 H locs kv31 kx32 vkx32 hW ls hl
        refine lv_istore (lv' := [(4, .int kx32), (0, .ref a0), (1, .int i1), (2, .int kx16), (3, .int kx17)]) hx hb dX12_washedBy_30 hl (by decide) rfl (fun ls hl => ?_)
        refine lv_iload hx hb dX12_washedBy_32 (lv_at hl 0 rfl) ?_
        refine lv_if_ne (tgt := 51) hx hb dX12_washedBy_34 (by decide) (fun kc34 => ?_) (fun kc34 => ?_)
        · have kv35 : q_V 1 1 kx32 := q_ne1 vkx32 (q_c (k := 0) (x := 0) (by decide)) kc34 (by decide)
          exact jn51a _ _ _ kv31 kx32 (kv35.w (by decide) (by decide)) hW ls (lv_sub hl [1, 2, 3, 4, 0] rfl)
        · have kv36 : q_V 0 0 kx32 := q_eq1 vkx32 (q_c (k := 0) (x := 0) (by decide)) kc34 (by decide) (by decide)
          refine lv_aload_n hx hb dX12_washedBy_37 rfl (lv_at hl 1 rfl) ?_
          refine q_getr hE hW h0 rfl q_k12 9 (by decide) rfl (hE.l wl_135) dX12_washedBy_38 (fun kb37 ekb37 hkb37a hkb37b => ?_)
          have hkb37 : q_T G kb37 = 46 := q_tag hkb37a hkb37b
          refine lv_bipush (v := 6) hx hb dX12_washedBy_41 (by decide) ?_
          refine lv_iload_n hx hb dX12_washedBy_43 rfl (lv_at hl 4 rfl) ?_
          refine lv_iadd hx hb dX12_washedBy_44 ?_
          refine lv_topi (fun kx38 ekx38 => ?_)
          have vkx38 : q_V 6 11 kx38 := by rw [ekx38]; exact (q_add (q_c (k := 6) (x := 6) (by decide)) kv31 (by decide) (by decide)).w (by decide) (by decide)
          refine q_iald hE hW hkb37 rfl (q_in vkx38 (by decide) (by decide)) dX12_washedBy_45 (fun kx39 ekx39 gkx39 => ?_)
          refine lv_if_eq (tgt := 51) hx hb dX12_washedBy_46 (by decide) (fun kc40 => ?_) (fun kc40 => ?_)
          · have kv41 : q_V 0 0 kx39 := q_eq1 (q_all kx39) (q_c (k := 0) (x := 0) (by decide)) kc40 (by decide) (by decide)
            exact jn51a _ _ _ kv31 kx32 (kv36.w (by decide) (by decide)) hW ls (lv_sub hl [1, 2, 3, 4, 0] rfl)
          · refine lv_iconst (v := (-1)) hx hb dX12_washedBy_49 (by decide) ?_
            exact q_reti hE hr hlocks hW (((q_c (k := (-1)) (x := (-1)) (by decide)).w (by decide) (by decide))) dX12_washedBy_50
      refine lv_iload_n hx hb dX12_washedBy_4 rfl (lv_at hl 3 rfl) ?_
      refine lv_aload_n hx hb dX12_washedBy_5 rfl (lv_at hl 0 rfl) ?_
      refine q_geti hE hW h0 rfl q_k12 0 (by decide) rfl (hE.l wl_358) dX12_washedBy_6 (fun kx42 ekx42 vkx42 => ?_)
      refine lv_icmp_ge (tgt := 70) hx hb dX12_washedBy_9 (by decide) (fun kc43 => ?_) (fun kc43 => ?_)
      · refine lv_iconst (v := 0) hx hb dX12_washedBy_70 (by decide) ?_
        refine lv_istore_n (lv' := [(3, .int 0), (0, .ref a0), (1, .int i1), (2, .int kx16)]) hx hb dX12_washedBy_71 rfl hl (by decide) rfl (fun ls hl => ?_)
        exact lp72a _ _ _ _ kx16 0 ((q_c (k := 0) (x := 0) (by decide)).w (by decide) (by decide)) hW ls (lv_sub hl [1, 2, 3, 0] rfl) (Nat.lt_succ_self _)
      · have kv44 : q_V 0 5 kx17 := (q_lt1 vkx17 vkx42 (Int32.not_le.mp kc43)).w (by decide) (by decide)
        have kv45 : q_V 1 6 kx42 := (q_lt2 vkx17 vkx42 (Int32.not_le.mp kc43)).w (by decide) (by decide)
        refine lv_aload_n hx hb dX12_washedBy_12 rfl (lv_at hl 0 rfl) ?_
        refine lv_iload_n hx hb dX12_washedBy_13 rfl (lv_at hl 1 rfl) ?_
        refine lv_iload_n hx hb dX12_washedBy_14 rfl (lv_at hl 3 rfl) ?_
        refine q_goi hW (q_runV (As := [.int i1, .int kx17]) (rest := []) hE hW (c_X12_whoOf l G ks18 a0 h0 i1 kx17) kw_X12_320 (q_recv hE hW h0 rfl q_k12) rfl hl.1 rfl (Nat.le_of_ble_eq_true rfl) dX12_washedBy_15 ⟨by decide, by decide⟩ ⟨by decide, by decide⟩) (by decide) (fun kx49 ks47 H locs kp46 kf48 hW => ?_)
        refine lv_aload_n hx hb dX12_washedBy_18 rfl (lv_at hl 0 rfl) ?_
        refine q_geti hE hW h0 rfl q_k12 5 (by decide) rfl (hE.l wl_360) dX12_washedBy_19 (fun kx50 ekx50 vkx50 => ?_)
        refine lv_icmp_ne (tgt := 29) hx hb dX12_washedBy_22 (by decide) (fun kc51 => ?_) (fun kc51 => ?_)
        · refine lv_iconst (v := 0) hx hb dX12_washedBy_29 (by decide) ?_
          exact jn30a _ _ _ kv44 0 ((q_c (k := 0) (x := 0) (by decide)).w (by decide) (by decide)) hW ls (lv_sub hl [0, 1, 2, 3] rfl)
        · have kv52 : q_V 0 3 kx49 := q_eq1 (q_all kx49) vkx50 kc51 (by decide) (by decide)
          refine lv_iconst (v := 1) hx hb dX12_washedBy_25 (by decide) ?_
          refine lv_goto (tgt := 30) hx hb dX12_washedBy_26 (by decide) ?_
          exact jn30a _ _ _ kv44 1 ((q_c (k := 1) (x := 1) (by decide)).w (by decide) (by decide)) hW ls (lv_sub hl [0, 1, 2, 3] rfl)
  refine lv_iconst (v := 0) hx hb dX12_washedBy_0 (by decide) ?_
  refine lv_istore_n (lv' := [(2, .int 0), (0, .ref a0), (1, .int i1)]) hx hb dX12_washedBy_1 rfl hl (by decide) rfl (fun ls hl => ?_)
  refine lv_iconst (v := 0) hx hb dX12_washedBy_2 (by decide) ?_
  refine lv_istore_n (lv' := [(3, .int 0), (2, .int 0), (0, .ref a0), (1, .int i1)]) hx hb dX12_washedBy_3 rfl hl (by decide) rfl (fun ls hl => ?_)
  exact lp4a _ _ _ _ 0 0 ((q_c (k := 0) (x := 0) (by decide)).w (by decide) (by decide)) hW ls (lv_sub hl [2, 3, 1, 0] rfl) (Nat.lt_succ_self _)
set_option maxHeartbeats 4000000 in
set_option maxRecDepth 100000 in
theorem c_X12_bestWay (l : Launch) (G : q_G) (σ : q_S) (a0 : Nat) (h0 : q_T G a0 = 40)  : Met l yX12_bestWay (Cond.code yX12_bestWay cX12_bestWay 6 (some .int) :: wsL_law) (q_Rm 5) (q_Pre G σ [.ref a0]) (q_Qi G [56, 59] σ (fun r σ1 => q_V (-2147483648) 2147483647 r)) 0 0 (q_N G) := by
  refine q_ofW (ts := [56, 59]) (by decide) (Nat.le_of_ble_eq_true rfl) ?_
  intro p e s m args below meth c hE hr hlocks hW ls hl
  have hE : q_E G p s m args c cX12_bestWay 6 RX12 := hE
  have hx := hE.1.1
  have hb := hE.1.2.1
  have hl : lv_has ls 6 [(0, .ref a0)] := hl
  have lp92a : ∀ (n92a : Nat) (ks5 : q_S) (H : Heap) (locs : List Loc) (kx1 : Int32) (kx2 : Int32) (vkx2 : q_V (-1) 2147483646 kx2) (kx3 : Int32) (vkx3 : q_V (-1) 2147483647 kx3) (kx4 : Int32) (vkx4 : q_V 0 2147483647 kx4) (hW : q_Wd G [56, 59] σ s.heap ks5 H locs) (ls : Array Slot) (hl : lv_has ls 6 [(0, .ref a0), (1, .int kx1), (2, .int kx2), (3, .int kx3), (4, .int kx4)]), (2147483647 - kx4.toInt).toNat < n92a → W p l e (q_Rm 5) s m args below meth c H locs 0 0 (MQ below (q_Qi G [56, 59] σ (fun r σ1 => q_V (-2147483648) 2147483647 r)) args s 0 0 (q_N G)) (F0 m 92 ls []) := by
    intro n92a
    induction n92a with
    | zero => intro _ _ _ _ _ _ _ _ _ _ _ _ _; exact fun h => absurd h (Nat.not_lt_zero _)
    | succ n92a ih92a =>
      intro ks5 H locs kx1 kx2 vkx2 kx3 vkx3 kx4 vkx4 hW ls hl hm92a
      have jn131a : ∀ (ks10 : q_S) (H : Heap) (locs : List Loc) (kv6 : q_V 1 2147483647 kx1) (kx7 : Int32) (vkx7 : q_V (-1) 2147483646 kx7) (kv8 : q_V 0 2147483646 kx4) (kx9 : Int32) (vkx9 : q_V (-1) 2147483647 kx9) (hW : q_Wd G [56, 59] σ s.heap ks10 H locs) (ls : Array Slot) (hl : lv_has ls 6 [(0, .ref a0), (1, .int kx1), (2, .int kx7), (4, .int kx4)]), W p l e (q_Rm 5) s m args below meth c H locs 0 0 (MQ below (q_Qi G [56, 59] σ (fun r σ1 => q_V (-2147483648) 2147483647 r)) args s 0 0 (q_N G)) (F0 m 131 ls [.int kx9]) := by
        intro ks10 H locs kv6 kx7 vkx7 kv8 kx9 vkx9 hW ls hl
        refine lv_istore_n (lv' := [(3, .int kx9), (0, .ref a0), (1, .int kx1), (2, .int kx7), (4, .int kx4)]) hx hb dX12_bestWay_131 rfl hl (by decide) rfl (fun ls hl => ?_)
        obtain ⟨kx11, ekx11⟩ : ∃ y : Int32, y = kx4 + 1 := ⟨_, rfl⟩
        have vkx11 : q_V 1 2147483647 kx11 := by rw [ekx11]; exact (q_add kv8 (q_c (k := 1) (x := 1) (by decide)) (by decide) (by decide)).w (by decide) (by decide)
        have ikx11 : kx11.toInt = kx4.toInt + 1 := q_incT ekx11 kv8 (by decide) (by decide) (by decide)
        refine lv_iinc (v := kx11) (lv' := [(4, .int kx11), (3, .int kx9), (0, .ref a0), (1, .int kx1), (2, .int kx7)]) hx hb dX12_bestWay_132 hl (k := 4) rfl (by rw [ekx11]; rfl) (by decide) rfl (fun ls hl => ?_)
        refine lv_goto (tgt := 92) hx hb dX12_bestWay_135 (by decide) ?_
        exact ih92a _ _ _ kx1 kx7 vkx7 kx9 vkx9 kx11 (vkx11.w (by decide) (by decide)) hW ls (lv_sub hl [2, 3, 4, 1, 0] rfl) (Nat.lt_of_lt_of_le (q_up (ikx11) (show q_V 1 2147483647 kx11 from vkx11).2) (Nat.le_of_lt_succ hm92a))
      have jn118a : ∀ (ks16 : q_S) (H : Heap) (locs : List Loc) (kv12 : q_V 1 2147483647 kx1) (kv13 : q_V 0 2147483646 kx4) (kx14 : Int32) (kx15 : Int32) (vkx15 : q_V (-1) 2147483646 kx15) (hW : q_Wd G [56, 59] σ s.heap ks16 H locs) (ls : Array Slot) (hl : lv_has ls 6 [(0, .ref a0), (1, .int kx1), (3, .int kx3), (4, .int kx4), (5, .int kx14)]), W p l e (q_Rm 5) s m args below meth c H locs 0 0 (MQ below (q_Qi G [56, 59] σ (fun r σ1 => q_V (-2147483648) 2147483647 r)) args s 0 0 (q_N G)) (F0 m 118 ls [.int kx15]) := by
        intro ks16 H locs kv12 kv13 kx14 kx15 vkx15 hW ls hl
        refine lv_istore_n (lv' := [(2, .int kx15), (0, .ref a0), (1, .int kx1), (3, .int kx3), (4, .int kx4), (5, .int kx14)]) hx hb dX12_bestWay_118 rfl hl (by decide) rfl (fun ls hl => ?_)
        refine lv_iload hx hb dX12_bestWay_119 (lv_at hl 5 rfl) ?_
        refine lv_iload_n hx hb dX12_bestWay_121 rfl (lv_at hl 3 rfl) ?_
        refine lv_icmp_le (tgt := 130) hx hb dX12_bestWay_122 (by decide) (fun kc17 => ?_) (fun kc17 => ?_)
        · refine lv_iload_n hx hb dX12_bestWay_130 rfl (lv_at hl 3 rfl) ?_
          exact jn131a _ _ _ kv12 kx15 vkx15 kv13 kx3 vkx3 hW ls (lv_sub hl [1, 2, 0, 4] rfl)
        · have kv18 : q_V (-1) 2147483646 kx3 := (q_lt1 vkx3 (q_all kx14) (Int32.not_le.mp kc17)).w (by decide) (by decide)
          have kv19 : q_V 0 2147483647 kx14 := (q_lt2 vkx3 (q_all kx14) (Int32.not_le.mp kc17)).w (by decide) (by decide)
          refine lv_iload hx hb dX12_bestWay_125 (lv_at hl 5 rfl) ?_
          refine lv_goto (tgt := 131) hx hb dX12_bestWay_127 (by decide) ?_
          exact jn131a _ _ _ kv12 kx15 vkx15 kv13 kx14 (kv19.w (by decide) (by decide)) hW ls (lv_sub hl [1, 2, 0, 4] rfl)
      refine lv_iload hx hb dX12_bestWay_92 (lv_at hl 4 rfl) ?_
      refine lv_iload_n hx hb dX12_bestWay_94 rfl (lv_at hl 1 rfl) ?_
      refine lv_icmp_ge (tgt := 138) hx hb dX12_bestWay_95 (by decide) (fun kc20 => ?_) (fun kc20 => ?_)
      · refine lv_iload_n hx hb dX12_bestWay_138 rfl (lv_at hl 2 rfl) ?_
        exact q_reti hE hr hlocks hW ((vkx2.w (by decide) (by decide))) dX12_bestWay_139
      · have kv21 : q_V 0 2147483646 kx4 := (q_lt1 vkx4 (q_all kx1) (Int32.not_le.mp kc20)).w (by decide) (by decide)
        have kv22 : q_V 1 2147483647 kx1 := (q_lt2 vkx4 (q_all kx1) (Int32.not_le.mp kc20)).w (by decide) (by decide)
        refine lv_aload_n hx hb dX12_bestWay_98 rfl (lv_at hl 0 rfl) ?_
        refine lv_iload hx hb dX12_bestWay_99 (lv_at hl 4 rfl) ?_
        refine q_goi hW (q_runV (As := [.int kx4]) (rest := []) hE hW (c_X12_washedBy l G ks5 a0 h0 kx4) kw_X12_326 (q_recv hE hW h0 rfl q_k12) rfl hl.1 rfl (Nat.le_of_ble_eq_true rfl) dX12_bestWay_101 ⟨by decide, by decide⟩ ⟨by decide, by decide⟩) (by decide) (fun kx26 ks24 H locs kp23 kf25 hW => ?_)
        refine lv_istore (lv' := [(5, .int kx26), (0, .ref a0), (1, .int kx1), (2, .int kx2), (3, .int kx3), (4, .int kx4)]) hx hb dX12_bestWay_104 hl (by decide) rfl (fun ls hl => ?_)
        refine lv_iload hx hb dX12_bestWay_106 (lv_at hl 0 rfl) ?_
        refine lv_iload_n hx hb dX12_bestWay_108 rfl (lv_at hl 4 rfl) ?_
        refine lv_icmp_le (tgt := 117) hx hb dX12_bestWay_109 (by decide) (fun kc27 => ?_) (fun kc27 => ?_)
        · refine lv_iload_n hx hb dX12_bestWay_117 rfl (lv_at hl 3 rfl) ?_
          exact jn118a _ _ _ kv22 kv21 kx26 kx2 vkx2 hW ls (lv_sub hl [1, 2, 4, 5, 0] rfl)
        · have kv28 : q_V (-1) 2147483646 kx3 := (q_lt1 vkx3 (q_all kx26) (Int32.not_le.mp kc27)).w (by decide) (by decide)
          have kv29 : q_V 0 2147483647 kx26 := (q_lt2 vkx3 (q_all kx26) (Int32.not_le.mp kc27)).w (by decide) (by decide)
          refine lv_iload hx hb dX12_bestWay_112 (lv_at hl 5 rfl) ?_
          refine lv_goto (tgt := 118) hx hb dX12_bestWay_114 (by decide) ?_
          exact jn118a _ _ _ kv22 kv21 kx26 kx4 (kv21.w (by decide) (by decide)) hW ls (lv_sub hl [1, 2, 4, 5, 0] rfl)
  have lp64a : ∀ (n64a : Nat) (ks32 : q_S) (H : Heap) (locs : List Loc) (kx30 : Int32) (kx31 : Int32) (vkx31 : q_V 0 6 kx31) (hW : q_Wd G [56, 59] σ s.heap ks32 H locs) (ls : Array Slot) (hl : lv_has ls 6 [(0, .ref a0), (1, .int kx30), (2, .int kx31)]), (6 - kx31.toInt).toNat < n64a → W p l e (q_Rm 5) s m args below meth c H locs 0 0 (MQ below (q_Qi G [56, 59] σ (fun r σ1 => q_V (-2147483648) 2147483647 r)) args s 0 0 (q_N G)) (F0 m 64 ls []) := by
    intro n64a
    induction n64a with
    | zero => intro _ _ _ _ _ _ _ _ _; exact fun h => absurd h (Nat.not_lt_zero _)
    | succ n64a ih64a =>
      intro ks32 H locs kx30 kx31 vkx31 hW ls hl hm64a
      refine lv_iload_n hx hb dX12_bestWay_64 rfl (lv_at hl 2 rfl) ?_
      refine lv_aload_n hx hb dX12_bestWay_65 rfl (lv_at hl 0 rfl) ?_
      refine q_geti hE hW h0 rfl q_k12 0 (by decide) rfl (hE.l wl_358) dX12_bestWay_66 (fun kx33 ekx33 vkx33 => ?_)
      refine lv_icmp_ge (tgt := 85) hx hb dX12_bestWay_69 (by decide) (fun kc34 => ?_) (fun kc34 => ?_)
      · refine lv_iconst (v := (-1)) hx hb dX12_bestWay_85 (by decide) ?_
        refine lv_istore_n (lv' := [(2, .int (-1)), (0, .ref a0), (1, .int kx30)]) hx hb dX12_bestWay_86 rfl hl (by decide) rfl (fun ls hl => ?_)
        refine lv_iconst (v := (-1)) hx hb dX12_bestWay_87 (by decide) ?_
        refine lv_istore_n (lv' := [(3, .int (-1)), (2, .int (-1)), (0, .ref a0), (1, .int kx30)]) hx hb dX12_bestWay_88 rfl hl (by decide) rfl (fun ls hl => ?_)
        refine lv_iconst (v := 0) hx hb dX12_bestWay_89 (by decide) ?_
        refine lv_istore (lv' := [(4, .int 0), (3, .int (-1)), (2, .int (-1)), (0, .ref a0), (1, .int kx30)]) hx hb dX12_bestWay_90 hl (by decide) rfl (fun ls hl => ?_)
        exact lp92a _ _ _ _ kx30 (-1) ((q_c (k := (-1)) (x := (-1)) (by decide)).w (by decide) (by decide)) (-1) ((q_c (k := (-1)) (x := (-1)) (by decide)).w (by decide) (by decide)) 0 ((q_c (k := 0) (x := 0) (by decide)).w (by decide) (by decide)) hW ls (lv_sub hl [3, 4, 2, 1, 0] rfl) (Nat.lt_succ_self _)
      · have kv35 : q_V 0 5 kx31 := (q_lt1 vkx31 vkx33 (Int32.not_le.mp kc34)).w (by decide) (by decide)
        have kv36 : q_V 1 6 kx33 := (q_lt2 vkx31 vkx33 (Int32.not_le.mp kc34)).w (by decide) (by decide)
        refine lv_iload_n hx hb dX12_bestWay_72 rfl (lv_at hl 1 rfl) ?_
        refine lv_aload_n hx hb dX12_bestWay_73 rfl (lv_at hl 0 rfl) ?_
        refine q_goi hW (q_runV (As := []) (rest := [.int kx30]) hE hW (c_X12_base l G ks32 a0 h0) kw_X12_316 (q_recv hE hW h0 rfl q_k12) rfl hl.1 rfl (Nat.le_of_ble_eq_true rfl) dX12_bestWay_74 ⟨by decide, by decide⟩ ⟨by decide, by decide⟩) (by decide) (fun kx40 ks38 H locs kp37 kf39 hW => ?_)
        refine lv_imul hx hb dX12_bestWay_77 ?_
        refine lv_topi (fun kx41 ekx41 => ?_)
        refine lv_istore_n (lv' := [(1, .int kx41), (0, .ref a0), (2, .int kx31)]) hx hb dX12_bestWay_78 rfl hl (by decide) rfl (fun ls hl => ?_)
        obtain ⟨kx42, ekx42⟩ : ∃ y : Int32, y = kx31 + 1 := ⟨_, rfl⟩
        have vkx42 : q_V 1 6 kx42 := by rw [ekx42]; exact (q_add kv35 (q_c (k := 1) (x := 1) (by decide)) (by decide) (by decide)).w (by decide) (by decide)
        have ikx42 : kx42.toInt = kx31.toInt + 1 := q_incT ekx42 kv35 (by decide) (by decide) (by decide)
        refine lv_iinc (v := kx42) (lv' := [(2, .int kx42), (1, .int kx41), (0, .ref a0)]) hx hb dX12_bestWay_79 hl (k := 2) rfl (by rw [ekx42]; rfl) (by decide) rfl (fun ls hl => ?_)
        refine lv_goto (tgt := 64) hx hb dX12_bestWay_82 (by decide) ?_
        exact ih64a _ _ _ kx41 kx42 (vkx42.w (by decide) (by decide)) hW ls (lv_sub hl [2, 1, 0] rfl) (Nat.lt_of_lt_of_le (q_up (ikx42) (show q_V 1 6 kx42 from vkx42).2) (Nat.le_of_lt_succ hm64a))
  have lp2a : ∀ (n2a : Nat) (ks44 : q_S) (H : Heap) (locs : List Loc) (kx43 : Int32) (vkx43 : q_V 0 3 kx43) (hW : q_Wd G [56, 59] σ s.heap ks44 H locs) (ls : Array Slot) (hl : lv_has ls 6 [(0, .ref a0), (1, .int kx43)]), (3 - kx43.toInt).toNat < n2a → W p l e (q_Rm 5) s m args below meth c H locs 0 0 (MQ below (q_Qi G [56, 59] σ (fun r σ1 => q_V (-2147483648) 2147483647 r)) args s 0 0 (q_N G)) (F0 m 2 ls []) := by
    intro n2a
    induction n2a with
    | zero => intro _ _ _ _ _ _ _ _; exact fun h => absurd h (Nat.not_lt_zero _)
    | succ n2a ih2a =>
      intro ks44 H locs kx43 vkx43 hW ls hl hm2a
      have lp12a : ∀ (n12a : Nat) (ks47 : q_S) (H : Heap) (locs : List Loc) (kv45 : q_V 0 2 kx43) (kx46 : Int32) (vkx46 : q_V 0 6 kx46) (hW : q_Wd G [56, 59] σ s.heap ks47 H locs) (ls : Array Slot) (hl : lv_has ls 6 [(0, .ref a0), (1, .int kx43), (2, .int kx46)]), (6 - kx46.toInt).toNat < n12a → W p l e (q_Rm 5) s m args below meth c H locs 0 0 (MQ below (q_Qi G [56, 59] σ (fun r σ1 => q_V (-2147483648) 2147483647 r)) args s 0 0 (q_N G)) (F0 m 12 ls []) := by
        intro n12a
        induction n12a with
        | zero => intro _ _ _ _ _ _ _ _ _; exact fun h => absurd h (Nat.not_lt_zero _)
        | succ n12a ih12a =>
          intro ks47 H locs kv45 kx46 vkx46 hW ls hl hm12a
          refine lv_iload_n hx hb dX12_bestWay_12 rfl (lv_at hl 2 rfl) ?_
          refine lv_aload_n hx hb dX12_bestWay_13 rfl (lv_at hl 0 rfl) ?_
          refine q_geti hE hW h0 rfl q_k12 0 (by decide) rfl (hE.l wl_358) dX12_bestWay_14 (fun kx48 ekx48 vkx48 => ?_)
          refine lv_icmp_ge (tgt := 54) hx hb dX12_bestWay_17 (by decide) (fun kc49 => ?_) (fun kc49 => ?_)
          · obtain ⟨kx50, ekx50⟩ : ∃ y : Int32, y = kx43 + 1 := ⟨_, rfl⟩
            have vkx50 : q_V 1 3 kx50 := by rw [ekx50]; exact (q_add kv45 (q_c (k := 1) (x := 1) (by decide)) (by decide) (by decide)).w (by decide) (by decide)
            have ikx50 : kx50.toInt = kx43.toInt + 1 := q_incT ekx50 kv45 (by decide) (by decide) (by decide)
            refine lv_iinc (v := kx50) (lv' := [(1, .int kx50), (0, .ref a0), (2, .int kx46)]) hx hb dX12_bestWay_54 hl (k := 1) rfl (by rw [ekx50]; rfl) (by decide) rfl (fun ls hl => ?_)
            refine lv_goto (tgt := 2) hx hb dX12_bestWay_57 (by decide) ?_
            exact ih2a _ _ _ kx50 (vkx50.w (by decide) (by decide)) hW ls (lv_sub hl [1, 0] rfl) (Nat.lt_of_lt_of_le (q_up (ikx50) (show q_V 1 3 kx50 from vkx50).2) (Nat.le_of_lt_succ hm2a))
          · have kv51 : q_V 0 5 kx46 := (q_lt1 vkx46 vkx48 (Int32.not_le.mp kc49)).w (by decide) (by decide)
            have kv52 : q_V 1 6 kx48 := (q_lt2 vkx46 vkx48 (Int32.not_le.mp kc49)).w (by decide) (by decide)
            refine lv_aload_n hx hb dX12_bestWay_20 rfl (lv_at hl 0 rfl) ?_
            refine q_getr hE hW h0 rfl q_k12 34 (by decide) rfl (hE.l wl_148) dX12_bestWay_21 (fun kb53 ekb53 hkb53a hkb53b => ?_)
            have hkb53 : q_T G kb53 = 59 := q_tag hkb53a hkb53b
            refine lv_bipush (v := 6) hx hb dX12_bestWay_24 (by decide) ?_
            refine lv_iload_n hx hb dX12_bestWay_26 rfl (lv_at hl 1 rfl) ?_
            refine lv_imul hx hb dX12_bestWay_27 ?_
            refine lv_topi (fun kx54 ekx54 => ?_)
            have vkx54 : q_V 0 12 kx54 := by rw [ekx54]; exact (q_mul (k := 6) (by decide) kv45 (by decide) (by decide) (by decide)).w (by decide) (by decide)
            refine lv_iload_n hx hb dX12_bestWay_28 rfl (lv_at hl 2 rfl) ?_
            refine lv_iadd hx hb dX12_bestWay_29 ?_
            refine lv_topi (fun kx55 ekx55 => ?_)
            have vkx55 : q_V 0 17 kx55 := by rw [ekx55]; exact (q_add vkx54 kv51 (by decide) (by decide)).w (by decide) (by decide)
            refine lv_aload_n hx hb dX12_bestWay_30 rfl (lv_at hl 0 rfl) ?_
            refine lv_iload_n hx hb dX12_bestWay_31 rfl (lv_at hl 2 rfl) ?_
            refine lv_aload_n hx hb dX12_bestWay_32 rfl (lv_at hl 0 rfl) ?_
            refine q_getr hE hW h0 rfl q_k12 1 (by decide) rfl (hE.l wl_129) dX12_bestWay_33 (fun kb56 ekb56 hkb56a hkb56b => ?_)
            have hkb56 : q_T G kb56 = 41 := q_tag hkb56a hkb56b
            refine lv_iload_n hx hb dX12_bestWay_36 rfl (lv_at hl 2 rfl) ?_
            refine q_iald hE hW hkb56 rfl (q_in kv51 (by decide) (by decide)) dX12_bestWay_37 (fun kx57 ekx57 gkx57 => ?_)
            refine lv_aload_n hx hb dX12_bestWay_38 rfl (lv_at hl 0 rfl) ?_
            refine q_getr hE hW h0 rfl q_k12 6 (by decide) rfl (hE.l wl_133) dX12_bestWay_39 (fun kb58 ekb58 hkb58a hkb58b => ?_)
            have hkb58 : q_T G kb58 = 45 := q_tag hkb58a hkb58b
            refine lv_iload_n hx hb dX12_bestWay_42 rfl (lv_at hl 1 rfl) ?_
            refine q_iald hE hW hkb58 rfl (q_in kv45 (by decide) (by decide)) dX12_bestWay_43 (fun kx59 ekx59 gkx59 => ?_)
            refine q_goi hW (q_runV (As := [.int kx46, .int kx57, .int kx59]) (rest := [.int kx55, .ref kb53]) hE hW (c_X12_takesBy l G ks47 a0 h0 kx46 kv51 kx57 kx59) kw_X12_294 (q_recv hE hW h0 rfl q_k12) rfl hl.1 rfl (Nat.le_of_ble_eq_true rfl) dX12_bestWay_44 ⟨by decide, by decide⟩ ⟨by decide, by decide⟩) (by decide) (fun kx63 ks61 H locs kp60 kf62 hW => ?_)
            refine q_iast hE hW hkb53 rfl (q_in vkx55 (by decide) (by decide)) trivial (by decide) dX12_bestWay_47 (fun H locs ks64 kp65 hW => ?_)
            obtain ⟨kx66, ekx66⟩ : ∃ y : Int32, y = kx46 + 1 := ⟨_, rfl⟩
            have vkx66 : q_V 1 6 kx66 := by rw [ekx66]; exact (q_add kv51 (q_c (k := 1) (x := 1) (by decide)) (by decide) (by decide)).w (by decide) (by decide)
            have ikx66 : kx66.toInt = kx46.toInt + 1 := q_incT ekx66 kv51 (by decide) (by decide) (by decide)
            refine lv_iinc (v := kx66) (lv' := [(2, .int kx66), (0, .ref a0), (1, .int kx43)]) hx hb dX12_bestWay_48 hl (k := 2) rfl (by rw [ekx66]; rfl) (by decide) rfl (fun ls hl => ?_)
            refine lv_goto (tgt := 12) hx hb dX12_bestWay_51 (by decide) ?_
            exact ih12a _ _ _ kv45 kx66 (vkx66.w (by decide) (by decide)) hW ls (lv_sub hl [1, 2, 0] rfl) (Nat.lt_of_lt_of_le (q_up (ikx66) (show q_V 1 6 kx66 from vkx66).2) (Nat.le_of_lt_succ hm12a))
      refine lv_iload_n hx hb dX12_bestWay_2 rfl (lv_at hl 1 rfl) ?_
      refine lv_aload_n hx hb dX12_bestWay_3 rfl (lv_at hl 0 rfl) ?_
      refine q_geti hE hW h0 rfl q_k12 5 (by decide) rfl (hE.l wl_360) dX12_bestWay_4 (fun kx67 ekx67 vkx67 => ?_)
      refine lv_icmp_ge (tgt := 60) hx hb dX12_bestWay_7 (by decide) (fun kc68 => ?_) (fun kc68 => ?_)
      · refine lv_iconst (v := 1) hx hb dX12_bestWay_60 (by decide) ?_
        refine lv_istore_n (lv' := [(1, .int 1), (0, .ref a0)]) hx hb dX12_bestWay_61 rfl hl (by decide) rfl (fun ls hl => ?_)
        refine lv_iconst (v := 0) hx hb dX12_bestWay_62 (by decide) ?_
        refine lv_istore_n (lv' := [(2, .int 0), (1, .int 1), (0, .ref a0)]) hx hb dX12_bestWay_63 rfl hl (by decide) rfl (fun ls hl => ?_)
        exact lp64a _ _ _ _ 1 0 ((q_c (k := 0) (x := 0) (by decide)).w (by decide) (by decide)) hW ls (lv_sub hl [2, 1, 0] rfl) (Nat.lt_succ_self _)
      · have kv69 : q_V 0 2 kx43 := (q_lt1 vkx43 vkx67 (Int32.not_le.mp kc68)).w (by decide) (by decide)
        have kv70 : q_V 1 3 kx67 := (q_lt2 vkx43 vkx67 (Int32.not_le.mp kc68)).w (by decide) (by decide)
        refine lv_iconst (v := 0) hx hb dX12_bestWay_10 (by decide) ?_
        refine lv_istore_n (lv' := [(2, .int 0), (0, .ref a0), (1, .int kx43)]) hx hb dX12_bestWay_11 rfl hl (by decide) rfl (fun ls hl => ?_)
        exact lp12a _ _ _ _ kv69 0 ((q_c (k := 0) (x := 0) (by decide)).w (by decide) (by decide)) hW ls (lv_sub hl [1, 2, 0] rfl) (Nat.lt_succ_self _)
  refine lv_iconst (v := 0) hx hb dX12_bestWay_0 (by decide) ?_
  refine lv_istore_n (lv' := [(1, .int 0), (0, .ref a0)]) hx hb dX12_bestWay_1 rfl hl (by decide) rfl (fun ls hl => ?_)
  exact lp2a _ _ _ _ 0 ((q_c (k := 0) (x := 0) (by decide)).w (by decide) (by decide)) hW ls (lv_sub hl [1, 0] rfl) (Nat.lt_succ_self _)
set_option maxHeartbeats 4000000 in
set_option maxRecDepth 100000 in
theorem c_X12_plan (l : Launch) (G : q_G) (σ : q_S) (a0 : Nat) (h0 : q_T G a0 = 40) (i1 : Int32)  : Met l yX12_plan (Cond.code yX12_plan cX12_plan 4 (some .int) :: wsL_law) (q_Rm 6) (q_Pre G σ [.ref a0, .int i1]) (q_Qi G [56, 59] σ (fun r σ1 => q_V (-2147483648) 2147483647 r)) 0 0 (q_N G) := by
  refine q_ofW (ts := [56, 59]) (by decide) (Nat.le_of_ble_eq_true rfl) ?_
  intro p e s m args below meth c hE hr hlocks hW ls hl
  have hE : q_E G p s m args c cX12_plan 4 RX12 := hE
  have hx := hE.1.1
  have hb := hE.1.2.1
  have hl : lv_has ls 4 [(0, .ref a0), (1, .int i1)] := hl
  have jn16a : ∀ (ks2 : q_S) (H : Heap) (locs : List Loc) (kv1 : q_V (-1) 5 i1) (hW : q_Wd G [56, 59] σ s.heap ks2 H locs) (ls : Array Slot) (hl : lv_has ls 4 [(0, .ref a0), (1, .int i1)]), W p l e (q_Rm 6) s m args below meth c H locs 0 0 (MQ below (q_Qi G [56, 59] σ (fun r σ1 => q_V (-2147483648) 2147483647 r)) args s 0 0 (q_N G)) (F0 m 16 ls []) := by
    intro ks2 H locs kv1 hW ls hl
    refine lv_aload_n hx hb dX12_plan_16 rfl (lv_at hl 0 rfl) ?_
    refine q_goi hW (q_runV (As := []) (rest := []) hE hW (c_X12_bestWay l G ks2 a0 h0) kw_X12_329 (q_recv hE hW h0 rfl q_k12) rfl hl.1 rfl (Nat.le_of_ble_eq_true rfl) dX12_plan_17 ⟨by decide, by decide⟩ ⟨by decide, by decide⟩) (by decide) (fun kx6 ks4 H locs kp3 kf5 hW => ?_)
    refine lv_istore_n (lv' := [(2, .int kx6), (0, .ref a0), (1, .int i1)]) hx hb dX12_plan_20 rfl hl (by decide) rfl (fun ls hl => ?_)
    refine lv_iload_n hx hb dX12_plan_21 rfl (lv_at hl 2 rfl) ?_
    refine lv_iconst (v := (-1)) hx hb dX12_plan_22 (by decide) ?_
    refine lv_icmp_ne (tgt := 32) hx hb dX12_plan_23 (by decide) (fun kc7 => ?_) (fun kc7 => ?_)
    · have kv8 : q_V 0 5 i1 := q_ne1 kv1 (q_c (k := (-1)) (x := (-1)) (by decide)) kc7 (by decide)
      refine lv_aload_n hx hb dX12_plan_32 rfl (lv_at hl 1 rfl) ?_
      refine lv_iload_n hx hb dX12_plan_33 rfl (lv_at hl 0 rfl) ?_
      refine lv_iload_n hx hb dX12_plan_34 rfl (lv_at hl 2 rfl) ?_
      refine q_goi hW (q_runV (As := [.int kx6, .int i1]) (rest := []) hE hW (c_X12_whoOf l G ks4 a0 h0 kx6 i1) kw_X12_320 (q_recv hE hW h0 rfl q_k12) rfl hl.1 rfl (Nat.le_of_ble_eq_true rfl) dX12_plan_35 ⟨by decide, by decide⟩ ⟨by decide, by decide⟩) (by decide) (fun kx12 ks10 H locs kp9 kf11 hW => ?_)
      refine lv_istore_n (lv' := [(3, .int kx12), (2, .int kx6), (0, .ref a0), (1, .int i1)]) hx hb dX12_plan_38 rfl hl (by decide) rfl (fun ls hl => ?_)
      refine lv_iload_n hx hb dX12_plan_39 rfl (lv_at hl 0 rfl) ?_
      refine lv_aload_n hx hb dX12_plan_40 rfl (lv_at hl 2 rfl) ?_
      refine q_geti hE hW h0 rfl q_k12 5 (by decide) rfl (hE.l wl_360) dX12_plan_41 (fun kx13 ekx13 vkx13 => ?_)
      refine lv_icmp_ne (tgt := 51) hx hb dX12_plan_44 (by decide) (fun kc14 => ?_) (fun kc14 => ?_)
      · refine lv_iload_n hx hb dX12_plan_51 rfl (lv_at hl 0 rfl) ?_
        exact q_reti hE hr hlocks hW ((q_all kx12)) dX12_plan_52
      · have kv15 : q_V 0 3 kx12 := q_eq1 (q_all kx12) vkx13 kc14 (by decide) (by decide)
        refine lv_iconst (v := (-1)) hx hb dX12_plan_47 (by decide) ?_
        refine lv_goto (tgt := 52) hx hb dX12_plan_48 (by decide) ?_
        exact q_reti hE hr hlocks hW (((q_c (k := (-1)) (x := (-1)) (by decide)).w (by decide) (by decide))) dX12_plan_52
    · have kv16 : q_V (-1) (-1) i1 := q_eq1 kv1 (q_c (k := (-1)) (x := (-1)) (by decide)) kc7 (by decide) (by decide)
      refine lv_aload_n hx hb dX12_plan_26 rfl (lv_at hl 1 rfl) ?_
      refine lv_iload_n hx hb dX12_plan_27 rfl (lv_at hl 0 rfl) ?_
      refine q_goi hW (q_runV (As := [.int kx6]) (rest := []) hE hW (c_X12_washedBy l G ks4 a0 h0 kx6) kw_X12_326 (q_recv hE hW h0 rfl q_k12) rfl hl.1 rfl (Nat.le_of_ble_eq_true rfl) dX12_plan_28 ⟨by decide, by decide⟩ ⟨by decide, by decide⟩) (by decide) (fun kx20 ks18 H locs kp17 kf19 hW => ?_)
      exact q_reti hE hr hlocks hW ((q_all kx20)) dX12_plan_31
  refine lv_iload_n hx hb dX12_plan_0 rfl (lv_at hl 1 rfl) ?_
  refine lv_iconst (v := (-1)) hx hb dX12_plan_1 (by decide) ?_
  refine lv_icmp_eq (tgt := 16) hx hb dX12_plan_2 (by decide) (fun kc21 => ?_) (fun kc21 => ?_)
  · have kv22 : q_V (-1) (-1) i1 := q_eq1 (q_all i1) (q_c (k := (-1)) (x := (-1)) (by decide)) kc21 (by decide) (by decide)
    exact jn16a _ _ _ (kv22.w (by decide) (by decide)) hW ls (lv_sub hl [0, 1] rfl)
  · refine lv_aload_n hx hb dX12_plan_5 rfl (lv_at hl 0 rfl) ?_
    refine lv_iload_n hx hb dX12_plan_6 rfl (lv_at hl 1 rfl) ?_
    refine q_goi hW (q_runV (As := [.int i1]) (rest := []) hE hW (c_X12_isCloud l G σ a0 h0 i1) kw_X12_233 (q_recv hE hW h0 rfl q_k12) rfl hl.1 rfl (Nat.le_of_ble_eq_true rfl) dX12_plan_7 ⟨by decide, by decide⟩ ⟨by decide, by decide⟩) (by decide) (fun kx26 ks24 H locs kp23 kf25 hW => ?_)
    refine lv_if_ne (tgt := 16) hx hb dX12_plan_10 (by decide) (fun kc27 => ?_) (fun kc27 => ?_)
    · have kv28 : q_V 0 5 i1 := kp23.2 kc27
      have kv29 : q_V 1 1 kx26 := q_ne1 kp23.1 (q_c (k := 0) (x := 0) (by decide)) kc27 (by decide)
      exact jn16a _ _ _ (kv28.w (by decide) (by decide)) hW ls (lv_sub hl [0, 1] rfl)
    · have kv30 : q_V 0 0 kx26 := q_eq1 kp23.1 (q_c (k := 0) (x := 0) (by decide)) kc27 (by decide) (by decide)
      refine lv_bipush (v := (-2)) hx hb dX12_plan_13 (by decide) ?_
      exact q_reti hE hr hlocks hW (((q_c (k := (-2)) (x := (-2)) (by decide)).w (by decide) (by decide))) dX12_plan_15
