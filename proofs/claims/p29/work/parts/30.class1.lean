theorem kw_X1_38 : q_wS RX1 38 yJ7_fill_53178 cJ7_fill_53178 4 none 2 := ⟨⟨wl_341, wl_98, wl_99, wl_100⟩, by decide, by decide, by decide +kernel⟩
theorem kw_X5_29 : q_wS RX5 29 yJ7_fill_53178 cJ7_fill_53178 4 none 2 := ⟨⟨wl_972, wl_98, wl_99, wl_100⟩, by decide, by decide, by decide +kernel⟩
theorem kw_X1_44 : q_wV RX1 RX1 44 yX1_allDeep cX1_allDeep 3 (some .int) 0 := ⟨q_goodV wl_474 wl_475 wl_476 wl_85 wl_477, rfl, by decide, by decide, by decide +kernel⟩
theorem kw_X2_45 : q_wV RX2 RX1 45 yX1_copyFrom cX1_copyFrom 2 none 1 := ⟨q_goodV wl_206 wl_207 wl_208 wl_85 wl_209, rfl, by decide, by decide, by decide +kernel⟩
theorem kw_X2_64 : q_wV RX2 RX1 64 yX1_begin cX1_begin 4 none 3 := ⟨q_goodV wl_337 wl_338 wl_339 wl_85 wl_340, rfl, by decide, by decide, by decide +kernel⟩
theorem kw_X2_71 : q_wV RX2 RX2 71 yX2_flow cX2_flow 3 none 0 := ⟨q_goodV wl_658 wl_659 wl_660 wl_32 wl_661, rfl, by decide, by decide, by decide +kernel⟩
theorem kw_X2_74 : q_wV RX2 RX2 74 yX2_rubStone cX2_rubStone 5 none 1 := ⟨q_goodV wl_662 wl_663 wl_664 wl_32 wl_665, rfl, by decide, by decide, by decide +kernel⟩
theorem kw_X2_81 : q_wV RX2 RX2 81 yX2_isWasher cX2_isWasher 2 (some .boolean) 1 := ⟨q_goodV wl_667 wl_538 wl_539 wl_32 wl_540, rfl, by decide, by decide, by decide +kernel⟩
theorem kw_X2_85 : q_wV RX2 RX2 85 yX2_cloudAt cX2_cloudAt 2 (some (.object "CloudLaundry$Cloud")) 1 := ⟨q_goodV wl_668 wl_296 wl_297 wl_32 wl_298, rfl, by decide, by decide, by decide +kernel⟩
theorem kw_X2_99 : q_wV RX2 RX2 99 yX2_rubOnce cX2_rubOnce 3 none 1 := ⟨q_goodV wl_670 wl_671 wl_672 wl_32 wl_673, rfl, by decide, by decide, by decide +kernel⟩
theorem kw_X2_115 : q_wV RX2 RX1 115 yX1_deepest cX1_deepest 5 (some .int) 1 := ⟨q_goodV wl_674 wl_675 wl_676 wl_85 wl_677, rfl, by decide, by decide, by decide +kernel⟩
theorem kw_X5_41 : q_wV RX5 RX5 41 yX5_hasPegs cX5_hasPegs 3 (some .boolean) 2 := ⟨q_goodV wl_1000 wl_986 wl_987 wl_58 wl_988, rfl, by decide, by decide, by decide +kernel⟩
theorem kw_X6_75 : q_wV RX6 RX6 75 yX6_dueOf cX6_dueOf 3 (some .int) 1 := ⟨q_goodV wl_840 wl_841 wl_842 wl_43 wl_843, rfl, by decide, by decide, by decide +kernel⟩
theorem kw_X6_79 : q_wV RX6 RX2 79 yX2_cloudAt cX2_cloudAt 2 (some (.object "CloudLaundry$Cloud")) 1 := ⟨q_goodV wl_844 wl_296 wl_297 wl_32 wl_298, rfl, by decide, by decide, by decide +kernel⟩
theorem kw_X6_102 : q_wV RX6 RX6 102 yX6_isHers cX6_isHers 3 (some .boolean) 2 := ⟨q_goodV wl_855 wl_856 wl_857 wl_43 wl_858, rfl, by decide, by decide, by decide +kernel⟩
theorem kw_X6_106 : q_wV RX6 RX6 106 yX6_hoursOf cX6_hoursOf 3 (some .int) 2 := ⟨q_goodV wl_859 wl_860 wl_861 wl_43 wl_862, rfl, by decide, by decide, by decide +kernel⟩
set_option maxHeartbeats 4000000 in
set_option maxRecDepth 100000 in
theorem c_X8_add (l : Launch) (G : q_G) (σ : q_S) (a0 : Nat) (h0 : q_T G a0 = 13) (i1 : Int32) (w1 : q_V 0 65535 i1)  : Met l yX8_add (Cond.code yX8_add cX8_add 2 (some .boolean) :: wsL_law) (q_Rm 1) (q_Pre G σ [.ref a0, .int i1]) (q_Qi G [13, 14] σ (fun r σ1 => q_V 0 1 r)) 0 0 (q_N G) := by
  refine q_ofW (ts := [13, 14]) (by decide) (Nat.le_of_ble_eq_true rfl) ?_
  intro p e s m args below meth c hE hr hlocks hW ls hl
  have hE : q_E G p s m args c cX8_add 2 RX8 := hE
  have hx := hE.1.1
  have hb := hE.1.2.1
  have hl : lv_has ls 2 [(0, .ref a0), (1, .int i1)] := hl
  refine lv_aload_n hx hb dX8_add_0 rfl (lv_at hl 0 rfl) ?_
  refine q_geti hE hW h0 rfl q_k8 1 (by decide) rfl (hE.l wl_165) dX8_add_1 (fun kx1 ekx1 vkx1 => ?_)
  refine lv_if_lt (tgt := 17) hx hb dX8_add_4 (by decide) (fun kc2 => ?_) (fun kc2 => ?_)
  · have kv3 : q_V (-2147483648) (-1) kx1 := (q_lt1 (q_all kx1) (q_c (k := 0) (x := 0) (by decide)) kc2).w (by decide) (by decide)
    refine lv_iconst (v := 0) hx hb dX8_add_17 (by decide) ?_
    exact q_retz hE hr hlocks hW (Or.inl rfl) (((q_c (k := 0) (x := 0) (by decide)).w (by decide) (by decide))) dX8_add_18
  · have kv4 : q_V 0 2147483647 kx1 := (q_le2 (q_c (k := 0) (x := 0) (by decide)) (q_all kx1) (Int32.not_lt.mp kc2)).w (by decide) (by decide)
    refine lv_aload_n hx hb dX8_add_7 rfl (lv_at hl 0 rfl) ?_
    refine q_geti hE hW h0 rfl q_k8 1 (by decide) rfl (hE.l wl_165) dX8_add_8 (fun kx5 ekx5 vkx5 => ?_)
    obtain rfl : kx1 = kx5 := ekx1.symm.trans ekx5
    refine lv_sipush (v := 200) hx hb dX8_add_11 (by decide) ?_
    refine lv_icmp_lt (tgt := 19) hx hb dX8_add_14 (by decide) (fun kc6 => ?_) (fun kc6 => ?_)
    · have kv7 : q_V 0 199 kx1 := (q_lt1 kv4 (q_c (k := 200) (x := 200) (by decide)) kc6).w (by decide) (by decide)
      refine lv_aload_n hx hb dX8_add_19 rfl (lv_at hl 0 rfl) ?_
      refine q_getr hE hW h0 rfl q_k8 0 (by decide) rfl (hE.l wl_77) dX8_add_20 (fun kb8 ekb8 hkb8a hkb8b => ?_)
      have hkb8 : q_T G kb8 = 14 := q_tag hkb8a hkb8b
      refine lv_aload_n hx hb dX8_add_23 rfl (lv_at hl 0 rfl) ?_
      refine q_geti hE hW h0 rfl q_k8 1 (by decide) rfl (hE.l wl_165) dX8_add_24 (fun kx9 ekx9 vkx9 => ?_)
      obtain rfl : kx1 = kx9 := ekx1.symm.trans ekx9
      refine lv_iload_n hx hb dX8_add_27 rfl (lv_at hl 1 rfl) ?_
      refine q_cast hE hW hkb8 rfl (q_in kv7 (by decide) (by decide)) (q_narc w1) w1 (by decide) dX8_add_28 (fun H locs ks10 kp11 hW => ?_)
      refine lv_aload_n hx hb dX8_add_29 rfl (lv_at hl 0 rfl) ?_
      refine lv_dup hx hb dX8_add_30 rfl ?_
      refine q_geti hE hW h0 rfl q_k8 1 (by decide) rfl (hE.l wl_165) dX8_add_31 (fun kx12 ekx12 vkx12 => ?_)
      obtain rfl : kx1 = kx12 := ((kp11.2.2.2.1 _ _).trans ekx1).symm.trans ekx12
      refine lv_iconst (v := 1) hx hb dX8_add_34 (by decide) ?_
      refine lv_iadd hx hb dX8_add_35 ?_
      refine lv_topi (fun kx13 ekx13 => ?_)
      have vkx13 : q_V 1 200 kx13 := by rw [ekx13]; exact (q_add kv7 (q_c (k := 1) (x := 1) (by decide)) (by decide) (by decide)).w (by decide) (by decide)
      have ikx13 : kx13.toInt = kx1.toInt + 1 := q_incT ekx13 kv7 (by decide) (by decide) (by decide)
      refine q_puti hE hW h0 rfl q_k8 tyX8 tyX8_ok 1 (by decide) rfl (hE.l wl_165) rfl rfl rfl (vkx13.w (by decide) (by decide)) (by decide) dX8_add_36 (fun H locs ks14 kp15 hW => ?_)
      refine lv_iconst (v := 1) hx hb dX8_add_39 (by decide) ?_
      exact q_retz hE hr hlocks hW (Or.inr rfl) (((q_c (k := 1) (x := 1) (by decide)).w (by decide) (by decide))) dX8_add_40
    · have kv16 : q_V 200 2147483647 kx1 := (q_le2 (q_c (k := 200) (x := 200) (by decide)) kv4 (Int32.not_lt.mp kc6)).w (by decide) (by decide)
      refine lv_iconst (v := 0) hx hb dX8_add_17 (by decide) ?_
      exact q_retz hE hr hlocks hW (Or.inl rfl) (((q_c (k := 0) (x := 0) (by decide)).w (by decide) (by decide))) dX8_add_18
set_option maxHeartbeats 4000000 in
set_option maxRecDepth 100000 in
theorem c_X8_at (l : Launch) (G : q_G) (σ : q_S) (a0 : Nat) (h0 : q_T G a0 = 13) (i1 : Int32)  : Met l yX8_at (Cond.code yX8_at cX8_at 2 (some .char) :: wsL_law) (q_Rm 1) (q_Pre G σ [.ref a0, .int i1]) (q_Qi G [] σ (fun r σ1 => q_V 0 65535 r)) 0 0 (q_N G) := by
  refine q_ofW (ts := []) (by decide) (Nat.le_of_ble_eq_true rfl) ?_
  intro p e s m args below meth c hE hr hlocks hW ls hl
  have hE : q_E G p s m args c cX8_at 2 RX8 := hE
  have hx := hE.1.1
  have hb := hE.1.2.1
  have hl : lv_has ls 2 [(0, .ref a0), (1, .int i1)] := hl
  refine lv_iload_n hx hb dX8_at_0 rfl (lv_at hl 1 rfl) ?_
  refine lv_if_lt (tgt := 19) hx hb dX8_at_1 (by decide) (fun kc1 => ?_) (fun kc1 => ?_)
  · have kv2 : q_V (-2147483648) (-1) i1 := (q_lt1 (q_all i1) (q_c (k := 0) (x := 0) (by decide)) kc1).w (by decide) (by decide)
    refine lv_iconst (v := 0) hx hb dX8_at_19 (by decide) ?_
    refine lv_goto (tgt := 29) hx hb dX8_at_20 (by decide) ?_
    exact q_retc hE hr hlocks hW (q_nc ((q_c (k := 0) (x := 0) (by decide)).w (by decide) (by decide))) (((q_c (k := 0) (x := 0) (by decide)).w (by decide) (by decide))) dX8_at_29
  · have kv3 : q_V 0 2147483647 i1 := (q_le2 (q_c (k := 0) (x := 0) (by decide)) (q_all i1) (Int32.not_lt.mp kc1)).w (by decide) (by decide)
    refine lv_iload_n hx hb dX8_at_4 rfl (lv_at hl 1 rfl) ?_
    refine lv_aload_n hx hb dX8_at_5 rfl (lv_at hl 0 rfl) ?_
    refine q_geti hE hW h0 rfl q_k8 1 (by decide) rfl (hE.l wl_165) dX8_at_6 (fun kx4 ekx4 vkx4 => ?_)
    refine lv_icmp_ge (tgt := 19) hx hb dX8_at_9 (by decide) (fun kc5 => ?_) (fun kc5 => ?_)
    · refine lv_iconst (v := 0) hx hb dX8_at_19 (by decide) ?_
      refine lv_goto (tgt := 29) hx hb dX8_at_20 (by decide) ?_
      exact q_retc hE hr hlocks hW (q_nc ((q_c (k := 0) (x := 0) (by decide)).w (by decide) (by decide))) (((q_c (k := 0) (x := 0) (by decide)).w (by decide) (by decide))) dX8_at_29
    · have kv6 : q_V 0 2147483646 i1 := (q_lt1 kv3 (q_all kx4) (Int32.not_le.mp kc5)).w (by decide) (by decide)
      have kv7 : q_V 1 2147483647 kx4 := (q_lt2 kv3 (q_all kx4) (Int32.not_le.mp kc5)).w (by decide) (by decide)
      refine lv_iload_n hx hb dX8_at_12 rfl (lv_at hl 1 rfl) ?_
      refine lv_sipush (v := 200) hx hb dX8_at_13 (by decide) ?_
      refine lv_icmp_lt (tgt := 23) hx hb dX8_at_16 (by decide) (fun kc8 => ?_) (fun kc8 => ?_)
      · have kv9 : q_V 0 199 i1 := (q_lt1 kv6 (q_c (k := 200) (x := 200) (by decide)) kc8).w (by decide) (by decide)
        refine lv_aload_n hx hb dX8_at_23 rfl (lv_at hl 0 rfl) ?_
        refine q_getr hE hW h0 rfl q_k8 0 (by decide) rfl (hE.l wl_77) dX8_at_24 (fun kb10 ekb10 hkb10a hkb10b => ?_)
        have hkb10 : q_T G kb10 = 14 := q_tag hkb10a hkb10b
        refine lv_iload_n hx hb dX8_at_27 rfl (lv_at hl 1 rfl) ?_
        refine q_cald hE hW hkb10 rfl (q_in kv9 (by decide) (by decide)) dX8_at_28 (fun kx11 ekx11 gkx11 => ?_)
        have vkx11 : q_V 0 65535 kx11 := gkx11
        exact q_retc hE hr hlocks hW (q_nc vkx11) (vkx11) dX8_at_29
      · have kv12 : q_V 200 2147483646 i1 := (q_le2 (q_c (k := 200) (x := 200) (by decide)) kv6 (Int32.not_lt.mp kc8)).w (by decide) (by decide)
        refine lv_iconst (v := 0) hx hb dX8_at_19 (by decide) ?_
        refine lv_goto (tgt := 29) hx hb dX8_at_20 (by decide) ?_
        exact q_retc hE hr hlocks hW (q_nc ((q_c (k := 0) (x := 0) (by decide)).w (by decide) (by decide))) (((q_c (k := 0) (x := 0) (by decide)).w (by decide) (by decide))) dX8_at_29
set_option maxHeartbeats 4000000 in
set_option maxRecDepth 100000 in
theorem c_X8_copyFrom (l : Launch) (G : q_G) (σ : q_S) (a0 : Nat) (h0 : q_T G a0 = 13) (a1 : Nat) (h1 : q_T G a1 = 13)  : Met l yX8_copyFrom (Cond.code yX8_copyFrom cX8_copyFrom 2 none :: wsL_law) (q_Rm 1) (q_Pre G σ [.ref a0, .ref a1]) (q_Qv G [13, 14] σ (fun σ1 => True)) 0 0 (q_N G) := by
  refine q_ofW (ts := [13, 14]) (by decide) (Nat.le_of_ble_eq_true rfl) ?_
  intro p e s m args below meth c hE hr hlocks hW ls hl
  have hE : q_E G p s m args c cX8_copyFrom 2 RX8 := hE
  have hx := hE.1.1
  have hb := hE.1.2.1
  have hl : lv_has ls 2 [(0, .ref a0), (1, .ref a1)] := hl
  refine lv_aload_n hx hb dX8_copyFrom_0 rfl (lv_at hl 0 rfl) ?_
  refine lv_aload_n hx hb dX8_copyFrom_1 rfl (lv_at hl 1 rfl) ?_
  refine q_geti hE hW h1 rfl q_k8 1 (by decide) rfl (hE.l wl_165) dX8_copyFrom_2 (fun kx1 ekx1 vkx1 => ?_)
  refine q_puti hE hW h0 rfl q_k8 tyX8 tyX8_ok 1 (by decide) rfl (hE.l wl_165) rfl rfl rfl (q_all kx1) (by decide) dX8_copyFrom_5 (fun H locs ks2 kp3 hW => ?_)
  refine lv_aload_n hx hb dX8_copyFrom_8 rfl (lv_at hl 1 rfl) ?_
  refine q_getr hE hW h1 rfl q_k8 0 (by decide) rfl (hE.l wl_77) dX8_copyFrom_9 (fun kb4 ekb4 hkb4a hkb4b => ?_)
  have hkb4 : q_T G kb4 = 14 := q_tag hkb4a hkb4b
  refine lv_iconst (v := 0) hx hb dX8_copyFrom_12 (by decide) ?_
  refine lv_aload_n hx hb dX8_copyFrom_13 rfl (lv_at hl 0 rfl) ?_
  refine q_getr hE hW h0 rfl q_k8 0 (by decide) rfl (hE.l wl_77) dX8_copyFrom_14 (fun kb5 ekb5 hkb5a hkb5b => ?_)
  have hkb5 : q_T G kb5 = 14 := q_tag hkb5a hkb5b
  refine lv_iconst (v := 0) hx hb dX8_copyFrom_17 (by decide) ?_
  refine lv_sipush (v := 200) hx hb dX8_copyFrom_18 (by decide) ?_
  refine q_acopy hE hW hkb4 hkb5 rfl rfl (Or.inr ⟨rfl, rfl⟩) (by decide) (by decide) (by decide) (by decide) (by decide) (fun _ _ _ h => h) (by decide) wl_732 wl_201 wl_202 wl_203 hl.1 (by decide) (Nat.le_of_ble_eq_true rfl) dX8_copyFrom_21 (fun H locs ks6 kp7 hW => ?_)
  exact q_retv hE hr hlocks hW (trivial) dX8_copyFrom_24
set_option maxHeartbeats 4000000 in
set_option maxRecDepth 100000 in
theorem c_X2_cloudAt (l : Launch) (G : q_G) (σ : q_S) (a0 : Nat) (h0 : q_T G a0 = 7) (i1 : Int32)  : Met l yX2_cloudAt (Cond.code yX2_cloudAt cX2_cloudAt 2 (some (.object "CloudLaundry$Cloud")) :: wsL_law) (q_Rm 1) (q_Pre G σ [.ref a0, .int i1]) (q_Qq G [] σ (fun r σ1 => (∀ b, r = some b → q_T G b = 5))) 0 0 (q_N G) := by
  refine q_ofW (ts := []) (by decide) (Nat.le_of_ble_eq_true rfl) ?_
  intro p e s m args below meth c hE hr hlocks hW ls hl
  have hE : q_E G p s m args c cX2_cloudAt 2 RX2 := hE
  have hx := hE.1.1
  have hb := hE.1.2.1
  have hl : lv_has ls 2 [(0, .ref a0), (1, .int i1)] := hl
  refine lv_iload_n hx hb dX2_cloudAt_0 rfl (lv_at hl 1 rfl) ?_
  refine lv_if_lt (tgt := 18) hx hb dX2_cloudAt_1 (by decide) (fun kc1 => ?_) (fun kc1 => ?_)
  · have kv2 : q_V (-2147483648) (-1) i1 := (q_lt1 (q_all i1) (q_c (k := 0) (x := 0) (by decide)) kc1).w (by decide) (by decide)
    refine lv_null hx hb dX2_cloudAt_18 ?_
    refine lv_goto (tgt := 28) hx hb dX2_cloudAt_19 (by decide) ?_
    exact q_retq none hE hr hlocks hW ((fun _ h => by cases h)) dX2_cloudAt_28
  · have kv3 : q_V 0 2147483647 i1 := (q_le2 (q_c (k := 0) (x := 0) (by decide)) (q_all i1) (Int32.not_lt.mp kc1)).w (by decide) (by decide)
    refine lv_iload_n hx hb dX2_cloudAt_4 rfl (lv_at hl 1 rfl) ?_
    refine lv_aload_n hx hb dX2_cloudAt_5 rfl (lv_at hl 0 rfl) ?_
    refine q_geti hE hW h0 rfl q_k2 1 (by decide) rfl (hE.l wl_198) dX2_cloudAt_6 (fun kx4 ekx4 vkx4 => ?_)
    refine lv_icmp_ge (tgt := 18) hx hb dX2_cloudAt_9 (by decide) (fun kc5 => ?_) (fun kc5 => ?_)
    · refine lv_null hx hb dX2_cloudAt_18 ?_
      refine lv_goto (tgt := 28) hx hb dX2_cloudAt_19 (by decide) ?_
      exact q_retq none hE hr hlocks hW ((fun _ h => by cases h)) dX2_cloudAt_28
    · have kv6 : q_V 0 5 i1 := (q_lt1 kv3 vkx4 (Int32.not_le.mp kc5)).w (by decide) (by decide)
      have kv7 : q_V 1 6 kx4 := (q_lt2 kv3 vkx4 (Int32.not_le.mp kc5)).w (by decide) (by decide)
      refine lv_iload_n hx hb dX2_cloudAt_12 rfl (lv_at hl 1 rfl) ?_
      refine lv_bipush (v := 6) hx hb dX2_cloudAt_13 (by decide) ?_
      refine lv_icmp_lt (tgt := 22) hx hb dX2_cloudAt_15 (by decide) (fun kc8 => ?_) (fun kc8 => ?_)
      · refine lv_aload_n hx hb dX2_cloudAt_22 rfl (lv_at hl 0 rfl) ?_
        refine q_getr hE hW h0 rfl q_k2 0 (by decide) rfl (hE.l wl_83) dX2_cloudAt_23 (fun kb9 ekb9 hkb9a hkb9b => ?_)
        have hkb9 : q_T G kb9 = 8 := q_tag hkb9a hkb9b
        refine lv_iload_n hx hb dX2_cloudAt_26 rfl (lv_at hl 1 rfl) ?_
        refine q_aald hE hW hkb9 rfl (q_in kv6 (by decide) (by decide)) dX2_cloudAt_27 (fun kb10 ekb10 hkb10a hkb10b => ?_)
        have hkb10 : q_T G kb10 = 5 := q_tag hkb10a hkb10b
        exact q_retq (some kb10) hE hr hlocks hW ((fun _ h => by cases h; exact hkb10)) dX2_cloudAt_28
      · have kv11 : q_V 6 5 6 := (q_le1 (q_c (k := 6) (x := 6) (by decide)) kv6 (Int32.not_lt.mp kc8)).w (by decide) (by decide)
        exact (kv11.no (by decide))
set_option maxHeartbeats 4000000 in
set_option maxRecDepth 100000 in
theorem c_X2_isWasher (l : Launch) (G : q_G) (σ : q_S) (a0 : Nat) (h0 : q_T G a0 = 7) (i1 : Int32)  : Met l yX2_isWasher (Cond.code yX2_isWasher cX2_isWasher 2 (some .boolean) :: wsL_law) (q_Rm 1) (q_Pre G σ [.ref a0, .int i1]) (q_Qi G [] σ (fun r σ1 => q_V 0 1 r ∧ (r ≠ 0 → q_V 0 2 i1))) 0 0 (q_N G) := by
  refine q_ofW (ts := []) (by decide) (Nat.le_of_ble_eq_true rfl) ?_
  intro p e s m args below meth c hE hr hlocks hW ls hl
  have hE : q_E G p s m args c cX2_isWasher 2 RX2 := hE
  have hx := hE.1.1
  have hb := hE.1.2.1
  have hl : lv_has ls 2 [(0, .ref a0), (1, .int i1)] := hl
  refine lv_iload_n hx hb dX2_isWasher_0 rfl (lv_at hl 1 rfl) ?_
  refine lv_if_lt (tgt := 21) hx hb dX2_isWasher_1 (by decide) (fun kc1 => ?_) (fun kc1 => ?_)
  · have kv2 : q_V (-2147483648) (-1) i1 := (q_lt1 (q_all i1) (q_c (k := 0) (x := 0) (by decide)) kc1).w (by decide) (by decide)
    refine lv_iconst (v := 0) hx hb dX2_isWasher_21 (by decide) ?_
    exact q_retz hE hr hlocks hW (Or.inl rfl) (⟨((q_c (k := 0) (x := 0) (by decide)).w (by decide) (by decide)), (fun q_h => absurd rfl q_h)⟩) dX2_isWasher_22
  · have kv3 : q_V 0 2147483647 i1 := (q_le2 (q_c (k := 0) (x := 0) (by decide)) (q_all i1) (Int32.not_lt.mp kc1)).w (by decide) (by decide)
    refine lv_iload_n hx hb dX2_isWasher_4 rfl (lv_at hl 1 rfl) ?_
    refine lv_aload_n hx hb dX2_isWasher_5 rfl (lv_at hl 0 rfl) ?_
    refine q_geti hE hW h0 rfl q_k2 4 (by decide) rfl (hE.l wl_199) dX2_isWasher_6 (fun kx4 ekx4 vkx4 => ?_)
    refine lv_icmp_ge (tgt := 21) hx hb dX2_isWasher_9 (by decide) (fun kc5 => ?_) (fun kc5 => ?_)
    · refine lv_iconst (v := 0) hx hb dX2_isWasher_21 (by decide) ?_
      exact q_retz hE hr hlocks hW (Or.inl rfl) (⟨((q_c (k := 0) (x := 0) (by decide)).w (by decide) (by decide)), (fun q_h => absurd rfl q_h)⟩) dX2_isWasher_22
    · have kv6 : q_V 0 2 i1 := (q_lt1 kv3 vkx4 (Int32.not_le.mp kc5)).w (by decide) (by decide)
      have kv7 : q_V 1 3 kx4 := (q_lt2 kv3 vkx4 (Int32.not_le.mp kc5)).w (by decide) (by decide)
      refine lv_iload_n hx hb dX2_isWasher_12 rfl (lv_at hl 1 rfl) ?_
      refine lv_iconst (v := 3) hx hb dX2_isWasher_13 (by decide) ?_
      refine lv_icmp_ge (tgt := 21) hx hb dX2_isWasher_14 (by decide) (fun kc8 => ?_) (fun kc8 => ?_)
      · have kv9 : q_V 3 2 3 := (q_le1 (q_c (k := 3) (x := 3) (by decide)) kv6 kc8).w (by decide) (by decide)
        exact (kv9.no (by decide))
      · refine lv_iconst (v := 1) hx hb dX2_isWasher_17 (by decide) ?_
        refine lv_goto (tgt := 22) hx hb dX2_isWasher_18 (by decide) ?_
        exact q_retz hE hr hlocks hW (Or.inr rfl) (⟨((q_c (k := 1) (x := 1) (by decide)).w (by decide) (by decide)), (fun _ => kv6)⟩) dX2_isWasher_22
set_option maxHeartbeats 4000000 in
set_option maxRecDepth 100000 in
theorem c_X2_washerOf (l : Launch) (G : q_G) (σ : q_S) (a0 : Nat) (h0 : q_T G a0 = 7) (i1 : Int32)  : Met l yX2_washerOf (Cond.code yX2_washerOf cX2_washerOf 3 (some .int) :: wsL_law) (q_Rm 1) (q_Pre G σ [.ref a0, .int i1]) (q_Qi G [] σ (fun r σ1 => q_V (-1) 2 r)) 0 0 (q_N G) := by
  refine q_ofW (ts := []) (by decide) (Nat.le_of_ble_eq_true rfl) ?_
  intro p e s m args below meth c hE hr hlocks hW ls hl
  have hE : q_E G p s m args c cX2_washerOf 3 RX2 := hE
  have hx := hE.1.1
  have hb := hE.1.2.1
  have hl : lv_has ls 3 [(0, .ref a0), (1, .int i1)] := hl
  have lp2a : ∀ (n2a : Nat) (kx1 : Int32) (vkx1 : q_V 0 3 kx1) (ls : Array Slot) (hl : lv_has ls 3 [(0, .ref a0), (1, .int i1), (2, .int kx1)]), (3 - kx1.toInt).toNat < n2a → W p l e (q_Rm 1) s m args below meth c s.heap [] 0 0 (MQ below (q_Qi G [] σ (fun r σ1 => q_V (-1) 2 r)) args s 0 0 (q_N G)) (F0 m 2 ls []) := by
    intro n2a
    induction n2a with
    | zero => intro _ _ _ _; exact fun h => absurd h (Nat.not_lt_zero _)
    | succ n2a ih2a =>
      intro kx1 vkx1 ls hl hm2a
      refine lv_iload_n hx hb dX2_washerOf_2 rfl (lv_at hl 2 rfl) ?_
      refine lv_aload_n hx hb dX2_washerOf_3 rfl (lv_at hl 0 rfl) ?_
      refine q_geti hE hW h0 rfl q_k2 4 (by decide) rfl (hE.l wl_199) dX2_washerOf_4 (fun kx2 ekx2 vkx2 => ?_)
      refine lv_icmp_ge (tgt := 33) hx hb dX2_washerOf_7 (by decide) (fun kc3 => ?_) (fun kc3 => ?_)
      · refine lv_iconst (v := (-1)) hx hb dX2_washerOf_33 (by decide) ?_
        exact q_reti hE hr hlocks hW (((q_c (k := (-1)) (x := (-1)) (by decide)).w (by decide) (by decide))) dX2_washerOf_34
      · have kv4 : q_V 0 2 kx1 := (q_lt1 vkx1 vkx2 (Int32.not_le.mp kc3)).w (by decide) (by decide)
        have kv5 : q_V 1 3 kx2 := (q_lt2 vkx1 vkx2 (Int32.not_le.mp kc3)).w (by decide) (by decide)
        refine lv_iload_n hx hb dX2_washerOf_10 rfl (lv_at hl 2 rfl) ?_
        refine lv_iconst (v := 3) hx hb dX2_washerOf_11 (by decide) ?_
        refine lv_icmp_ge (tgt := 33) hx hb dX2_washerOf_12 (by decide) (fun kc6 => ?_) (fun kc6 => ?_)
        · have kv7 : q_V 3 2 3 := (q_le1 (q_c (k := 3) (x := 3) (by decide)) kv4 kc6).w (by decide) (by decide)
          exact (kv7.no (by decide))
        · refine lv_aload_n hx hb dX2_washerOf_15 rfl (lv_at hl 0 rfl) ?_
          refine q_getr hE hW h0 rfl q_k2 3 (by decide) rfl (hE.l wl_87) dX2_washerOf_16 (fun kb8 ekb8 hkb8a hkb8b => ?_)
          have hkb8 : q_T G kb8 = 10 := q_tag hkb8a hkb8b
          refine lv_iload_n hx hb dX2_washerOf_19 rfl (lv_at hl 2 rfl) ?_
          refine q_iald hE hW hkb8 rfl (q_in kv4 (by decide) (by decide)) dX2_washerOf_20 (fun kx9 ekx9 gkx9 => ?_)
          refine lv_iload_n hx hb dX2_washerOf_21 rfl (lv_at hl 1 rfl) ?_
          refine lv_icmp_ne (tgt := 27) hx hb dX2_washerOf_22 (by decide) (fun kc10 => ?_) (fun kc10 => ?_)
          · obtain ⟨kx11, ekx11⟩ : ∃ y : Int32, y = kx1 + 1 := ⟨_, rfl⟩
            have vkx11 : q_V 1 3 kx11 := by rw [ekx11]; exact (q_add kv4 (q_c (k := 1) (x := 1) (by decide)) (by decide) (by decide)).w (by decide) (by decide)
            have ikx11 : kx11.toInt = kx1.toInt + 1 := q_incT ekx11 kv4 (by decide) (by decide) (by decide)
            refine lv_iinc (v := kx11) (lv' := [(2, .int kx11), (0, .ref a0), (1, .int i1)]) hx hb dX2_washerOf_27 hl (k := 2) rfl (by rw [ekx11]; rfl) (by decide) rfl (fun ls hl => ?_)
            refine lv_goto (tgt := 2) hx hb dX2_washerOf_30 (by decide) ?_
            exact ih2a kx11 (vkx11.w (by decide) (by decide)) ls (lv_sub hl [1, 2, 0] rfl) (Nat.lt_of_lt_of_le (q_up (ikx11) (show q_V 1 3 kx11 from vkx11).2) (Nat.le_of_lt_succ hm2a))
          · refine lv_iload_n hx hb dX2_washerOf_25 rfl (lv_at hl 2 rfl) ?_
            exact q_reti hE hr hlocks hW ((kv4.w (by decide) (by decide))) dX2_washerOf_26
  refine lv_iconst (v := 0) hx hb dX2_washerOf_0 (by decide) ?_
  refine lv_istore_n (lv' := [(2, .int 0), (0, .ref a0), (1, .int i1)]) hx hb dX2_washerOf_1 rfl hl (by decide) rfl (fun ls hl => ?_)
  exact lp2a _ 0 ((q_c (k := 0) (x := 0) (by decide)).w (by decide) (by decide)) ls (lv_sub hl [1, 2, 0] rfl) (Nat.lt_succ_self _)
set_option maxHeartbeats 4000000 in
set_option maxRecDepth 100000 in
theorem c_X2_cloudsThatAre (l : Launch) (G : q_G) (σ : q_S) (a0 : Nat) (h0 : q_T G a0 = 7) (i1 : Int32)  : Met l yX2_cloudsThatAre (Cond.code yX2_cloudsThatAre cX2_cloudsThatAre 4 (some .int) :: wsL_law) (q_Rm 1) (q_Pre G σ [.ref a0, .int i1]) (q_Qi G [] σ (fun r σ1 => q_V (-2147483648) 2147483647 r)) 0 0 (q_N G) := by
  refine q_ofW (ts := []) (by decide) (Nat.le_of_ble_eq_true rfl) ?_
  intro p e s m args below meth c hE hr hlocks hW ls hl
  have hE : q_E G p s m args c cX2_cloudsThatAre 4 RX2 := hE
  have hx := hE.1.1
  have hb := hE.1.2.1
  have hl : lv_has ls 4 [(0, .ref a0), (1, .int i1)] := hl
  have lp4a : ∀ (n4a : Nat) (kx1 : Int32) (kx2 : Int32) (vkx2 : q_V 0 6 kx2) (ls : Array Slot) (hl : lv_has ls 4 [(0, .ref a0), (1, .int i1), (2, .int kx1), (3, .int kx2)]), (6 - kx2.toInt).toNat < n4a → W p l e (q_Rm 1) s m args below meth c s.heap [] 0 0 (MQ below (q_Qi G [] σ (fun r σ1 => q_V (-2147483648) 2147483647 r)) args s 0 0 (q_N G)) (F0 m 4 ls []) := by
    intro n4a
    induction n4a with
    | zero => intro _ _ _ _ _; exact fun h => absurd h (Nat.not_lt_zero _)
    | succ n4a ih4a =>
      intro kx1 kx2 vkx2 ls hl hm4a
      have jn37a : ∀ (kx3 : Int32) (kv4 : q_V 0 5 kx2) (ls : Array Slot) (hl : lv_has ls 4 [(0, .ref a0), (1, .int i1), (2, .int kx3), (3, .int kx2)]), W p l e (q_Rm 1) s m args below meth c s.heap [] 0 0 (MQ below (q_Qi G [] σ (fun r σ1 => q_V (-2147483648) 2147483647 r)) args s 0 0 (q_N G)) (F0 m 37 ls []) := by
        intro kx3 kv4 ls hl
        obtain ⟨kx5, ekx5⟩ : ∃ y : Int32, y = kx2 + 1 := ⟨_, rfl⟩
        have vkx5 : q_V 1 6 kx5 := by rw [ekx5]; exact (q_add kv4 (q_c (k := 1) (x := 1) (by decide)) (by decide) (by decide)).w (by decide) (by decide)
        have ikx5 : kx5.toInt = kx2.toInt + 1 := q_incT ekx5 kv4 (by decide) (by decide) (by decide)
        refine lv_iinc (v := kx5) (lv' := [(3, .int kx5), (0, .ref a0), (1, .int i1), (2, .int kx3)]) hx hb dX2_cloudsThatAre_37 hl (k := 3) rfl (by rw [ekx5]; rfl) (by decide) rfl (fun ls hl => ?_)
        refine lv_goto (tgt := 4) hx hb dX2_cloudsThatAre_40 (by decide) ?_
        exact ih4a kx3 kx5 (vkx5.w (by decide) (by decide)) ls (lv_sub hl [1, 2, 3, 0] rfl) (Nat.lt_of_lt_of_le (q_up (ikx5) (show q_V 1 6 kx5 from vkx5).2) (Nat.le_of_lt_succ hm4a))
      refine lv_iload_n hx hb dX2_cloudsThatAre_4 rfl (lv_at hl 3 rfl) ?_
      refine lv_aload_n hx hb dX2_cloudsThatAre_5 rfl (lv_at hl 0 rfl) ?_
      refine q_geti hE hW h0 rfl q_k2 1 (by decide) rfl (hE.l wl_198) dX2_cloudsThatAre_6 (fun kx6 ekx6 vkx6 => ?_)
      refine lv_icmp_ge (tgt := 43) hx hb dX2_cloudsThatAre_9 (by decide) (fun kc7 => ?_) (fun kc7 => ?_)
      · refine lv_iload_n hx hb dX2_cloudsThatAre_43 rfl (lv_at hl 2 rfl) ?_
        exact q_reti hE hr hlocks hW ((q_all kx1)) dX2_cloudsThatAre_44
      · have kv8 : q_V 0 5 kx2 := (q_lt1 vkx2 vkx6 (Int32.not_le.mp kc7)).w (by decide) (by decide)
        have kv9 : q_V 1 6 kx6 := (q_lt2 vkx2 vkx6 (Int32.not_le.mp kc7)).w (by decide) (by decide)
        refine lv_iload_n hx hb dX2_cloudsThatAre_12 rfl (lv_at hl 3 rfl) ?_
        refine lv_bipush (v := 6) hx hb dX2_cloudsThatAre_13 (by decide) ?_
        refine lv_icmp_ge (tgt := 43) hx hb dX2_cloudsThatAre_15 (by decide) (fun kc10 => ?_) (fun kc10 => ?_)
        · have kv11 : q_V 6 5 6 := (q_le1 (q_c (k := 6) (x := 6) (by decide)) kv8 kc10).w (by decide) (by decide)
          exact (kv11.no (by decide))
        · refine lv_aload_n hx hb dX2_cloudsThatAre_18 rfl (lv_at hl 0 rfl) ?_
          refine q_getr hE hW h0 rfl q_k2 0 (by decide) rfl (hE.l wl_83) dX2_cloudsThatAre_19 (fun kb12 ekb12 hkb12a hkb12b => ?_)
          have hkb12 : q_T G kb12 = 8 := q_tag hkb12a hkb12b
          refine lv_iload_n hx hb dX2_cloudsThatAre_22 rfl (lv_at hl 3 rfl) ?_
          refine q_aald hE hW hkb12 rfl (q_in kv8 (by decide) (by decide)) dX2_cloudsThatAre_23 (fun kb13 ekb13 hkb13a hkb13b => ?_)
          have hkb13 : q_T G kb13 = 5 := q_tag hkb13a hkb13b
          refine q_geti hE hW hkb13 rfl q_k1 3 (by decide) rfl (hE.n 11 rfl) dX2_cloudsThatAre_24 (fun kx14 ekx14 vkx14 => ?_)
          refine lv_iload_n hx hb dX2_cloudsThatAre_27 rfl (lv_at hl 1 rfl) ?_
          refine lv_icmp_ne (tgt := 37) hx hb dX2_cloudsThatAre_28 (by decide) (fun kc15 => ?_) (fun kc15 => ?_)
          · exact jn37a kx1 kv8 ls (lv_sub hl [0, 1, 2, 3] rfl)
          · refine lv_iload_n hx hb dX2_cloudsThatAre_31 rfl (lv_at hl 2 rfl) ?_
            refine lv_iconst (v := 1) hx hb dX2_cloudsThatAre_32 (by decide) ?_
            refine lv_iload_n hx hb dX2_cloudsThatAre_33 rfl (lv_at hl 3 rfl) ?_
            refine lv_ishl hx hb dX2_cloudsThatAre_34 ?_
            refine lv_topi (fun kx16 ekx16 => ?_)
            refine lv_ior hx hb dX2_cloudsThatAre_35 ?_
            refine lv_topi (fun kx17 ekx17 => ?_)
            refine lv_istore_n (lv' := [(2, .int kx17), (0, .ref a0), (1, .int i1), (3, .int kx2)]) hx hb dX2_cloudsThatAre_36 rfl hl (by decide) rfl (fun ls hl => ?_)
            exact jn37a kx17 kv8 ls (lv_sub hl [1, 2, 0, 3] rfl)
  refine lv_iconst (v := 0) hx hb dX2_cloudsThatAre_0 (by decide) ?_
  refine lv_istore_n (lv' := [(2, .int 0), (0, .ref a0), (1, .int i1)]) hx hb dX2_cloudsThatAre_1 rfl hl (by decide) rfl (fun ls hl => ?_)
  refine lv_iconst (v := 0) hx hb dX2_cloudsThatAre_2 (by decide) ?_
  refine lv_istore_n (lv' := [(3, .int 0), (2, .int 0), (0, .ref a0), (1, .int i1)]) hx hb dX2_cloudsThatAre_3 rfl hl (by decide) rfl (fun ls hl => ?_)
  exact lp4a _ 0 0 ((q_c (k := 0) (x := 0) (by decide)).w (by decide) (by decide)) ls (lv_sub hl [2, 3, 1, 0] rfl) (Nat.lt_succ_self _)
set_option maxHeartbeats 4000000 in
set_option maxRecDepth 100000 in
theorem c_X2_allWater (l : Launch) (G : q_G) (σ : q_S) (a0 : Nat) (h0 : q_T G a0 = 7)  : Met l yX2_allWater (Cond.code yX2_allWater cX2_allWater 4 (some .int) :: wsL_law) (q_Rm 1) (q_Pre G σ [.ref a0]) (q_Qi G [] σ (fun r σ1 => q_V (-2147483648) 2147483647 r)) 0 0 (q_N G) := by
  refine q_ofW (ts := []) (by decide) (Nat.le_of_ble_eq_true rfl) ?_
  intro p e s m args below meth c hE hr hlocks hW ls hl
  have hE : q_E G p s m args c cX2_allWater 4 RX2 := hE
  have hx := hE.1.1
  have hb := hE.1.2.1
  have hl : lv_has ls 4 [(0, .ref a0)] := hl
  have lp4a : ∀ (n4a : Nat) (kx1 : Int32) (kx2 : Int32) (vkx2 : q_V 0 7 kx2) (ls : Array Slot) (hl : lv_has ls 4 [(0, .ref a0), (1, .int kx1), (2, .int kx2)]), (7 - kx2.toInt).toNat < n4a → W p l e (q_Rm 1) s m args below meth c s.heap [] 0 0 (MQ below (q_Qi G [] σ (fun r σ1 => q_V (-2147483648) 2147483647 r)) args s 0 0 (q_N G)) (F0 m 4 ls []) := by
    intro n4a
    induction n4a with
    | zero => intro _ _ _ _ _; exact fun h => absurd h (Nat.not_lt_zero _)
    | succ n4a ih4a =>
      intro kx1 kx2 vkx2 ls hl hm4a
      have lp12a : ∀ (n12a : Nat) (kx3 : Int32) (kv4 : q_V 0 6 kx2) (kx5 : Int32) (vkx5 : q_V 0 6 kx5) (ls : Array Slot) (hl : lv_has ls 4 [(0, .ref a0), (1, .int kx3), (2, .int kx2), (3, .int kx5)]), (6 - kx5.toInt).toNat < n12a → W p l e (q_Rm 1) s m args below meth c s.heap [] 0 0 (MQ below (q_Qi G [] σ (fun r σ1 => q_V (-2147483648) 2147483647 r)) args s 0 0 (q_N G)) (F0 m 12 ls []) := by
        intro n12a
        induction n12a with
        | zero => intro _ _ _ _ _ _; exact fun h => absurd h (Nat.not_lt_zero _)
        | succ n12a ih12a =>
          intro kx3 kv4 kx5 vkx5 ls hl hm12a
          refine lv_iload_n hx hb dX2_allWater_12 rfl (lv_at hl 3 rfl) ?_
          refine lv_bipush (v := 6) hx hb dX2_allWater_13 (by decide) ?_
          refine lv_icmp_ge (tgt := 35) hx hb dX2_allWater_15 (by decide) (fun kc6 => ?_) (fun kc6 => ?_)
          · have kv7 : q_V 6 6 kx5 := (q_le2 (q_c (k := 6) (x := 6) (by decide)) vkx5 kc6).w (by decide) (by decide)
            obtain ⟨kx8, ekx8⟩ : ∃ y : Int32, y = kx2 + 1 := ⟨_, rfl⟩
            have vkx8 : q_V 1 7 kx8 := by rw [ekx8]; exact (q_add kv4 (q_c (k := 1) (x := 1) (by decide)) (by decide) (by decide)).w (by decide) (by decide)
            have ikx8 : kx8.toInt = kx2.toInt + 1 := q_incT ekx8 kv4 (by decide) (by decide) (by decide)
            refine lv_iinc (v := kx8) (lv' := [(2, .int kx8), (0, .ref a0), (1, .int kx3), (3, .int kx5)]) hx hb dX2_allWater_35 hl (k := 2) rfl (by rw [ekx8]; rfl) (by decide) rfl (fun ls hl => ?_)
            refine lv_goto (tgt := 4) hx hb dX2_allWater_38 (by decide) ?_
            exact ih4a kx3 kx8 (vkx8.w (by decide) (by decide)) ls (lv_sub hl [1, 2, 0] rfl) (Nat.lt_of_lt_of_le (q_up (ikx8) (show q_V 1 7 kx8 from vkx8).2) (Nat.le_of_lt_succ hm4a))
          · have kv9 : q_V 0 5 kx5 := (q_lt1 vkx5 (q_c (k := 6) (x := 6) (by decide)) (Int32.not_le.mp kc6)).w (by decide) (by decide)
            refine lv_iload_n hx hb dX2_allWater_18 rfl (lv_at hl 1 rfl) ?_
            refine lv_aload_n hx hb dX2_allWater_19 rfl (lv_at hl 0 rfl) ?_
            refine q_getr hE hW h0 rfl q_k2 5 (by decide) rfl (hE.l wl_89) dX2_allWater_20 (fun kb10 ekb10 hkb10a hkb10b => ?_)
            have hkb10 : q_T G kb10 = 11 := q_tag hkb10a hkb10b
            refine lv_iload_n hx hb dX2_allWater_23 rfl (lv_at hl 2 rfl) ?_
            refine q_aald hE hW hkb10 rfl (q_in kv4 (by decide) (by decide)) dX2_allWater_24 (fun kb11 ekb11 hkb11a hkb11b => ?_)
            have hkb11 : q_T G kb11 = 12 := q_tag hkb11a hkb11b
            refine lv_iload_n hx hb dX2_allWater_25 rfl (lv_at hl 3 rfl) ?_
            refine q_iald hE hW hkb11 rfl (q_in kv9 (by decide) (by decide)) dX2_allWater_26 (fun kx12 ekx12 gkx12 => ?_)
            refine lv_iadd hx hb dX2_allWater_27 ?_
            refine lv_topi (fun kx13 ekx13 => ?_)
            refine lv_istore_n (lv' := [(1, .int kx13), (0, .ref a0), (2, .int kx2), (3, .int kx5)]) hx hb dX2_allWater_28 rfl hl (by decide) rfl (fun ls hl => ?_)
            obtain ⟨kx14, ekx14⟩ : ∃ y : Int32, y = kx5 + 1 := ⟨_, rfl⟩
            have vkx14 : q_V 1 6 kx14 := by rw [ekx14]; exact (q_add kv9 (q_c (k := 1) (x := 1) (by decide)) (by decide) (by decide)).w (by decide) (by decide)
            have ikx14 : kx14.toInt = kx5.toInt + 1 := q_incT ekx14 kv9 (by decide) (by decide) (by decide)
            refine lv_iinc (v := kx14) (lv' := [(3, .int kx14), (1, .int kx13), (0, .ref a0), (2, .int kx2)]) hx hb dX2_allWater_29 hl (k := 3) rfl (by rw [ekx14]; rfl) (by decide) rfl (fun ls hl => ?_)
            refine lv_goto (tgt := 12) hx hb dX2_allWater_32 (by decide) ?_
            exact ih12a kx13 kv4 kx14 (vkx14.w (by decide) (by decide)) ls (lv_sub hl [2, 1, 3, 0] rfl) (Nat.lt_of_lt_of_le (q_up (ikx14) (show q_V 1 6 kx14 from vkx14).2) (Nat.le_of_lt_succ hm12a))
      refine lv_iload_n hx hb dX2_allWater_4 rfl (lv_at hl 2 rfl) ?_
      refine lv_bipush (v := 7) hx hb dX2_allWater_5 (by decide) ?_
      refine lv_icmp_ge (tgt := 41) hx hb dX2_allWater_7 (by decide) (fun kc15 => ?_) (fun kc15 => ?_)
      · have kv16 : q_V 7 7 kx2 := (q_le2 (q_c (k := 7) (x := 7) (by decide)) vkx2 kc15).w (by decide) (by decide)
        refine lv_iload_n hx hb dX2_allWater_41 rfl (lv_at hl 1 rfl) ?_
        exact q_reti hE hr hlocks hW ((q_all kx1)) dX2_allWater_42
      · have kv17 : q_V 0 6 kx2 := (q_lt1 vkx2 (q_c (k := 7) (x := 7) (by decide)) (Int32.not_le.mp kc15)).w (by decide) (by decide)
        refine lv_iconst (v := 0) hx hb dX2_allWater_10 (by decide) ?_
        refine lv_istore_n (lv' := [(3, .int 0), (0, .ref a0), (1, .int kx1), (2, .int kx2)]) hx hb dX2_allWater_11 rfl hl (by decide) rfl (fun ls hl => ?_)
        exact lp12a _ kx1 kv17 0 ((q_c (k := 0) (x := 0) (by decide)).w (by decide) (by decide)) ls (lv_sub hl [1, 2, 3, 0] rfl) (Nat.lt_succ_self _)
  refine lv_iconst (v := 0) hx hb dX2_allWater_0 (by decide) ?_
  refine lv_istore_n (lv' := [(1, .int 0), (0, .ref a0)]) hx hb dX2_allWater_1 rfl hl (by decide) rfl (fun ls hl => ?_)
  refine lv_iconst (v := 0) hx hb dX2_allWater_2 (by decide) ?_
  refine lv_istore_n (lv' := [(2, .int 0), (1, .int 0), (0, .ref a0)]) hx hb dX2_allWater_3 rfl hl (by decide) rfl (fun ls hl => ?_)
  exact lp4a _ 0 0 ((q_c (k := 0) (x := 0) (by decide)).w (by decide) (by decide)) ls (lv_sub hl [2, 1, 0] rfl) (Nat.lt_succ_self _)
set_option maxHeartbeats 4000000 in
set_option maxRecDepth 100000 in
theorem c_X2_readAt (l : Launch) (G : q_G) (σ : q_S) (a0 : Nat) (h0 : q_T G a0 = 7) (i1 : Int32)  : Met l yX2_readAt (Cond.code yX2_readAt cX2_readAt 4 (some .int) :: wsL_law) (q_Rm 1) (q_Pre G σ [.ref a0, .int i1]) (q_Qi G [] σ (fun r σ1 => q_V (-2147483648) 2147483647 r)) 0 0 (q_N G) := by
  refine q_ofW (ts := []) (by decide) (Nat.le_of_ble_eq_true rfl) ?_
  intro p e s m args below meth c hE hr hlocks hW ls hl
  have hE : q_E G p s m args c cX2_readAt 4 RX2 := hE
  have hx := hE.1.1
  have hb := hE.1.2.1
  have hl : lv_has ls 4 [(0, .ref a0), (1, .int i1)] := hl
  have lp14a : ∀ (n14a : Nat) (kv1 : q_V 0 6 i1) (kx2 : Int32) (kx3 : Int32) (vkx3 : q_V 0 6 kx3) (ls : Array Slot) (hl : lv_has ls 4 [(0, .ref a0), (1, .int i1), (2, .int kx2), (3, .int kx3)]), (6 - kx3.toInt).toNat < n14a → W p l e (q_Rm 1) s m args below meth c s.heap [] 0 0 (MQ below (q_Qi G [] σ (fun r σ1 => q_V (-2147483648) 2147483647 r)) args s 0 0 (q_N G)) (F0 m 14 ls []) := by
    intro n14a
    induction n14a with
    | zero => intro _ _ _ _ _ _; exact fun h => absurd h (Nat.not_lt_zero _)
    | succ n14a ih14a =>
      intro kv1 kx2 kx3 vkx3 ls hl hm14a
      have jn41a : ∀ (kx4 : Int32) (kv5 : q_V 0 5 kx3) (ls : Array Slot) (hl : lv_has ls 4 [(0, .ref a0), (1, .int i1), (2, .int kx4), (3, .int kx3)]), W p l e (q_Rm 1) s m args below meth c s.heap [] 0 0 (MQ below (q_Qi G [] σ (fun r σ1 => q_V (-2147483648) 2147483647 r)) args s 0 0 (q_N G)) (F0 m 41 ls []) := by
        intro kx4 kv5 ls hl
        obtain ⟨kx6, ekx6⟩ : ∃ y : Int32, y = kx3 + 1 := ⟨_, rfl⟩
        have vkx6 : q_V 1 6 kx6 := by rw [ekx6]; exact (q_add kv5 (q_c (k := 1) (x := 1) (by decide)) (by decide) (by decide)).w (by decide) (by decide)
        have ikx6 : kx6.toInt = kx3.toInt + 1 := q_incT ekx6 kv5 (by decide) (by decide) (by decide)
        refine lv_iinc (v := kx6) (lv' := [(3, .int kx6), (0, .ref a0), (1, .int i1), (2, .int kx4)]) hx hb dX2_readAt_41 hl (k := 3) rfl (by rw [ekx6]; rfl) (by decide) rfl (fun ls hl => ?_)
        refine lv_goto (tgt := 14) hx hb dX2_readAt_44 (by decide) ?_
        exact ih14a kv1 kx4 kx6 (vkx6.w (by decide) (by decide)) ls (lv_sub hl [1, 2, 3, 0] rfl) (Nat.lt_of_lt_of_le (q_up (ikx6) (show q_V 1 6 kx6 from vkx6).2) (Nat.le_of_lt_succ hm14a))
      refine lv_iload_n hx hb dX2_readAt_14 rfl (lv_at hl 3 rfl) ?_
      refine lv_bipush (v := 6) hx hb dX2_readAt_15 (by decide) ?_
      refine lv_icmp_ge (tgt := 47) hx hb dX2_readAt_17 (by decide) (fun kc7 => ?_) (fun kc7 => ?_)
      · have kv8 : q_V 6 6 kx3 := (q_le2 (q_c (k := 6) (x := 6) (by decide)) vkx3 kc7).w (by decide) (by decide)
        refine lv_iload_n hx hb dX2_readAt_47 rfl (lv_at hl 2 rfl) ?_
        exact q_reti hE hr hlocks hW ((q_all kx2)) dX2_readAt_48
      · have kv9 : q_V 0 5 kx3 := (q_lt1 vkx3 (q_c (k := 6) (x := 6) (by decide)) (Int32.not_le.mp kc7)).w (by decide) (by decide)
        refine lv_aload_n hx hb dX2_readAt_20 rfl (lv_at hl 0 rfl) ?_
        refine q_getr hE hW h0 rfl q_k2 5 (by decide) rfl (hE.l wl_89) dX2_readAt_21 (fun kb10 ekb10 hkb10a hkb10b => ?_)
        have hkb10 : q_T G kb10 = 11 := q_tag hkb10a hkb10b
        refine lv_iload_n hx hb dX2_readAt_24 rfl (lv_at hl 1 rfl) ?_
        refine q_aald hE hW hkb10 rfl (q_in kv1 (by decide) (by decide)) dX2_readAt_25 (fun kb11 ekb11 hkb11a hkb11b => ?_)
        have hkb11 : q_T G kb11 = 12 := q_tag hkb11a hkb11b
        refine lv_iload_n hx hb dX2_readAt_26 rfl (lv_at hl 3 rfl) ?_
        refine q_iald hE hW hkb11 rfl (q_in kv9 (by decide) (by decide)) dX2_readAt_27 (fun kx12 ekx12 gkx12 => ?_)
        refine lv_aload_n hx hb dX2_readAt_28 rfl (lv_at hl 0 rfl) ?_
        refine q_geti hE hW h0 rfl q_k2 7 (by decide) rfl (hE.l wl_90) dX2_readAt_29 (fun kx13 ekx13 vkx13 => ?_)
        refine lv_icmp_lt (tgt := 41) hx hb dX2_readAt_32 (by decide) (fun kc14 => ?_) (fun kc14 => ?_)
        · have kv15 : q_V (-2147483648) 2147483646 kx12 := (q_lt1 (q_all kx12) (q_all kx13) kc14).w (by decide) (by decide)
          have kv16 : q_V (-2147483647) 2147483647 kx13 := (q_lt2 (q_all kx12) (q_all kx13) kc14).w (by decide) (by decide)
          exact jn41a kx2 kv9 ls (lv_sub hl [0, 1, 2, 3] rfl)
        · refine lv_iload_n hx hb dX2_readAt_35 rfl (lv_at hl 2 rfl) ?_
          refine lv_iconst (v := 1) hx hb dX2_readAt_36 (by decide) ?_
          refine lv_iload_n hx hb dX2_readAt_37 rfl (lv_at hl 3 rfl) ?_
          refine lv_ishl hx hb dX2_readAt_38 ?_
          refine lv_topi (fun kx17 ekx17 => ?_)
          refine lv_ior hx hb dX2_readAt_39 ?_
          refine lv_topi (fun kx18 ekx18 => ?_)
          refine lv_istore_n (lv' := [(2, .int kx18), (0, .ref a0), (1, .int i1), (3, .int kx3)]) hx hb dX2_readAt_40 rfl hl (by decide) rfl (fun ls hl => ?_)
          exact jn41a kx18 kv9 ls (lv_sub hl [1, 2, 0, 3] rfl)
  refine lv_iconst (v := 0) hx hb dX2_readAt_0 (by decide) ?_
  refine lv_istore_n (lv' := [(2, .int 0), (0, .ref a0), (1, .int i1)]) hx hb dX2_readAt_1 rfl hl (by decide) rfl (fun ls hl => ?_)
  refine lv_iload_n hx hb dX2_readAt_2 rfl (lv_at hl 2 rfl) ?_
  refine lv_if_lt (tgt := 47) hx hb dX2_readAt_3 (by decide) (fun kc19 => ?_) (fun kc19 => ?_)
  · have kv20 : q_V (-2147483648) (-1) i1 := (q_lt1 (q_all i1) (q_c (k := 0) (x := 0) (by decide)) kc19).w (by decide) (by decide)
    refine lv_iload_n hx hb dX2_readAt_47 rfl (lv_at hl 0 rfl) ?_
    exact q_reti hE hr hlocks hW (((q_c (k := 0) (x := 0) (by decide)).w (by decide) (by decide))) dX2_readAt_48
  · have kv21 : q_V 0 2147483647 i1 := (q_le2 (q_c (k := 0) (x := 0) (by decide)) (q_all i1) (Int32.not_lt.mp kc19)).w (by decide) (by decide)
    refine lv_iload_n hx hb dX2_readAt_6 rfl (lv_at hl 2 rfl) ?_
    refine lv_bipush (v := 7) hx hb dX2_readAt_7 (by decide) ?_
    refine lv_icmp_ge (tgt := 47) hx hb dX2_readAt_9 (by decide) (fun kc22 => ?_) (fun kc22 => ?_)
    · have kv23 : q_V 7 2147483647 i1 := (q_le2 (q_c (k := 7) (x := 7) (by decide)) kv21 kc22).w (by decide) (by decide)
      refine lv_iload_n hx hb dX2_readAt_47 rfl (lv_at hl 0 rfl) ?_
      exact q_reti hE hr hlocks hW (((q_c (k := 0) (x := 0) (by decide)).w (by decide) (by decide))) dX2_readAt_48
    · have kv24 : q_V 0 6 i1 := (q_lt1 kv21 (q_c (k := 7) (x := 7) (by decide)) (Int32.not_le.mp kc22)).w (by decide) (by decide)
      refine lv_iconst (v := 0) hx hb dX2_readAt_12 (by decide) ?_
      refine lv_istore_n (lv' := [(3, .int 0), (2, .int 0), (0, .ref a0), (1, .int i1)]) hx hb dX2_readAt_13 rfl hl (by decide) rfl (fun ls hl => ?_)
      exact lp14a _ kv24 0 0 ((q_c (k := 0) (x := 0) (by decide)).w (by decide) (by decide)) ls (lv_sub hl [2, 3, 1, 0] rfl) (Nat.lt_succ_self _)
set_option maxHeartbeats 4000000 in
set_option maxRecDepth 100000 in
theorem c_X2_untell (l : Launch) (G : q_G) (σ : q_S) (a0 : Nat) (h0 : q_T G a0 = 7)  : Met l yX2_untell (Cond.code yX2_untell cX2_untell 1 none :: wsL_law) (q_Rm 1) (q_Pre G σ [.ref a0]) (q_Qv G [7] σ (fun σ1 => True)) 0 0 (q_N G) := by
  refine q_ofW (ts := [7]) (by decide) (Nat.le_of_ble_eq_true rfl) ?_
  intro p e s m args below meth c hE hr hlocks hW ls hl
  have hE : q_E G p s m args c cX2_untell 1 RX2 := hE
  have hx := hE.1.1
  have hb := hE.1.2.1
  have hl : lv_has ls 1 [(0, .ref a0)] := hl
  refine lv_aload_n hx hb dX2_untell_0 rfl (lv_at hl 0 rfl) ?_
  refine lv_iconst (v := 0) hx hb dX2_untell_1 (by decide) ?_
  refine q_puti hE hW h0 rfl q_k2 tyX2 tyX2_ok 1 (by decide) rfl (hE.l wl_198) rfl rfl rfl ((q_c (k := 0) (x := 0) (by decide)).w (by decide) (by decide)) (by decide) dX2_untell_2 (fun H locs ks1 kp2 hW => ?_)
  refine lv_aload_n hx hb dX2_untell_5 rfl (lv_at hl 0 rfl) ?_
  refine lv_iconst (v := 0) hx hb dX2_untell_6 (by decide) ?_
  refine q_puti hE hW h0 rfl q_k2 tyX2 tyX2_ok 4 (by decide) rfl (hE.l wl_199) rfl rfl rfl ((q_c (k := 0) (x := 0) (by decide)).w (by decide) (by decide)) (by decide) dX2_untell_7 (fun H locs ks3 kp4 hW => ?_)
  refine lv_aload_n hx hb dX2_untell_10 rfl (lv_at hl 0 rfl) ?_
  refine lv_iconst (v := 0) hx hb dX2_untell_11 (by decide) ?_
  refine q_puti hE hW h0 rfl q_k2 tyX2 tyX2_ok 6 (by decide) rfl (hE.l wl_204) rfl rfl rfl ((q_c (k := 0) (x := 0) (by decide)).w (by decide) (by decide)) (by decide) dX2_untell_12 (fun H locs ks5 kp6 hW => ?_)
  refine lv_aload_n hx hb dX2_untell_15 rfl (lv_at hl 0 rfl) ?_
  refine lv_bipush (v := 8) hx hb dX2_untell_16 (by decide) ?_
  refine q_puti hE hW h0 rfl q_k2 tyX2 tyX2_ok 7 (by decide) rfl (hE.l wl_90) rfl rfl rfl ((q_c (k := 8) (x := 8) (by decide)).w (by decide) (by decide)) (by decide) dX2_untell_18 (fun H locs ks7 kp8 hW => ?_)
  exact q_retv hE hr hlocks hW (trivial) dX2_untell_21
set_option maxHeartbeats 4000000 in
set_option maxRecDepth 100000 in
theorem c_X2_addWasher (l : Launch) (G : q_G) (σ : q_S) (a0 : Nat) (h0 : q_T G a0 = 7) (i1 : Int32)  : Met l yX2_addWasher (Cond.code yX2_addWasher cX2_addWasher 2 none :: wsL_law) (q_Rm 1) (q_Pre G σ [.ref a0, .int i1]) (q_Qv G [7, 9] σ (fun σ1 => True)) 0 0 (q_N G) := by
  refine q_ofW (ts := [7, 9]) (by decide) (Nat.le_of_ble_eq_true rfl) ?_
  intro p e s m args below meth c hE hr hlocks hW ls hl
  have hE : q_E G p s m args c cX2_addWasher 2 RX2 := hE
  have hx := hE.1.1
  have hb := hE.1.2.1
  have hl : lv_has ls 2 [(0, .ref a0), (1, .int i1)] := hl
  refine lv_aload_n hx hb dX2_addWasher_0 rfl (lv_at hl 0 rfl) ?_
  refine q_geti hE hW h0 rfl q_k2 4 (by decide) rfl (hE.l wl_199) dX2_addWasher_1 (fun kx1 ekx1 vkx1 => ?_)
  refine lv_iconst (v := 3) hx hb dX2_addWasher_4 (by decide) ?_
  refine lv_icmp_ge (tgt := 28) hx hb dX2_addWasher_5 (by decide) (fun kc2 => ?_) (fun kc2 => ?_)
  · have kv3 : q_V 3 3 kx1 := (q_le2 (q_c (k := 3) (x := 3) (by decide)) vkx1 kc2).w (by decide) (by decide)
    exact q_retv hE hr hlocks hW (trivial) dX2_addWasher_28
  · have kv4 : q_V 0 2 kx1 := (q_lt1 vkx1 (q_c (k := 3) (x := 3) (by decide)) (Int32.not_le.mp kc2)).w (by decide) (by decide)
    refine lv_aload_n hx hb dX2_addWasher_8 rfl (lv_at hl 0 rfl) ?_
    refine q_getr hE hW h0 rfl q_k2 2 (by decide) rfl (hE.l wl_86) dX2_addWasher_9 (fun kb5 ekb5 hkb5a hkb5b => ?_)
    have hkb5 : q_T G kb5 = 9 := q_tag hkb5a hkb5b
    refine lv_aload_n hx hb dX2_addWasher_12 rfl (lv_at hl 0 rfl) ?_
    refine q_geti hE hW h0 rfl q_k2 4 (by decide) rfl (hE.l wl_199) dX2_addWasher_13 (fun kx6 ekx6 vkx6 => ?_)
    obtain rfl : kx1 = kx6 := ekx1.symm.trans ekx6
    refine lv_iload_n hx hb dX2_addWasher_16 rfl (lv_at hl 1 rfl) ?_
    refine q_iast hE hW hkb5 rfl (q_in kv4 (by decide) (by decide)) trivial (by decide) dX2_addWasher_17 (fun H locs ks7 kp8 hW => ?_)
    refine lv_aload_n hx hb dX2_addWasher_18 rfl (lv_at hl 0 rfl) ?_
    refine lv_dup hx hb dX2_addWasher_19 rfl ?_
    refine q_geti hE hW h0 rfl q_k2 4 (by decide) rfl (hE.l wl_199) dX2_addWasher_20 (fun kx9 ekx9 vkx9 => ?_)
    obtain rfl : kx1 = kx9 := ((kp8.2.2.2.1 _ _).trans ekx1).symm.trans ekx9
    refine lv_iconst (v := 1) hx hb dX2_addWasher_23 (by decide) ?_
    refine lv_iadd hx hb dX2_addWasher_24 ?_
    refine lv_topi (fun kx10 ekx10 => ?_)
    have vkx10 : q_V 1 3 kx10 := by rw [ekx10]; exact (q_add kv4 (q_c (k := 1) (x := 1) (by decide)) (by decide) (by decide)).w (by decide) (by decide)
    have ikx10 : kx10.toInt = kx1.toInt + 1 := q_incT ekx10 kv4 (by decide) (by decide) (by decide)
    refine q_puti hE hW h0 rfl q_k2 tyX2 tyX2_ok 4 (by decide) rfl (hE.l wl_199) rfl rfl rfl (vkx10.w (by decide) (by decide)) (by decide) dX2_addWasher_25 (fun H locs ks11 kp12 hW => ?_)
    exact q_retv hE hr hlocks hW (trivial) dX2_addWasher_28
set_option maxHeartbeats 4000000 in
set_option maxRecDepth 100000 in
theorem c_X2_flow (l : Launch) (G : q_G) (σ : q_S) (a0 : Nat) (h0 : q_T G a0 = 7)  : Met l yX2_flow (Cond.code yX2_flow cX2_flow 3 none :: wsL_law) (q_Rm 1) (q_Pre G σ [.ref a0]) (q_Qv G [12] σ (fun σ1 => True)) 0 0 (q_N G) := by
  refine q_ofW (ts := [12]) (by decide) (Nat.le_of_ble_eq_true rfl) ?_
  intro p e s m args below meth c hE hr hlocks hW ls hl
  have hE : q_E G p s m args c cX2_flow 3 RX2 := hE
  have hx := hE.1.1
  have hb := hE.1.2.1
  have hl : lv_has ls 3 [(0, .ref a0)] := hl
  have lp2a : ∀ (n2a : Nat) (ks2 : q_S) (H : Heap) (locs : List Loc) (kx1 : Int32) (vkx1 : q_V 0 6 kx1) (hW : q_Wd G [12] σ s.heap ks2 H locs) (ls : Array Slot) (hl : lv_has ls 3 [(0, .ref a0), (1, .int kx1)]), (6 - kx1.toInt).toNat < n2a → W p l e (q_Rm 1) s m args below meth c H locs 0 0 (MQ below (q_Qv G [12] σ (fun σ1 => True)) args s 0 0 (q_N G)) (F0 m 2 ls []) := by
    intro n2a
    induction n2a with
    | zero => intro _ _ _ _ _ _ _ _; exact fun h => absurd h (Nat.not_lt_zero _)
    | succ n2a ih2a =>
      intro ks2 H locs kx1 vkx1 hW ls hl hm2a
      have lp11a : ∀ (n11a : Nat) (ks5 : q_S) (H : Heap) (locs : List Loc) (kv3 : q_V 0 5 kx1) (kx4 : Int32) (vkx4 : q_V 0 6 kx4) (hW : q_Wd G [12] σ s.heap ks5 H locs) (ls : Array Slot) (hl : lv_has ls 3 [(0, .ref a0), (1, .int kx1), (2, .int kx4)]), (kx4.toInt - 0).toNat < n11a → W p l e (q_Rm 1) s m args below meth c H locs 0 0 (MQ below (q_Qv G [12] σ (fun σ1 => True)) args s 0 0 (q_N G)) (F0 m 11 ls []) := by
        intro n11a
        induction n11a with
        | zero => intro _ _ _ _ _ _ _ _ _; exact fun h => absurd h (Nat.not_lt_zero _)
        | succ n11a ih11a =>
          intro ks5 H locs kv3 kx4 vkx4 hW ls hl hm11a
          refine lv_iload_n hx hb dX2_flow_11 rfl (lv_at hl 2 rfl) ?_
          refine lv_if_le (tgt := 41) hx hb dX2_flow_12 (by decide) (fun kc6 => ?_) (fun kc6 => ?_)
          · have kv7 : q_V 0 0 kx4 := (q_le1 vkx4 (q_c (k := 0) (x := 0) (by decide)) kc6).w (by decide) (by decide)
            refine lv_aload_n hx hb dX2_flow_41 rfl (lv_at hl 0 rfl) ?_
            refine q_getr hE hW h0 rfl q_k2 5 (by decide) rfl (hE.l wl_89) dX2_flow_42 (fun kb8 ekb8 hkb8a hkb8b => ?_)
            have hkb8 : q_T G kb8 = 11 := q_tag hkb8a hkb8b
            refine lv_iconst (v := 0) hx hb dX2_flow_45 (by decide) ?_
            refine q_aald hE hW hkb8 rfl (q_in (q_c (k := 0) (x := 0) (by decide)) (by decide) (by decide)) dX2_flow_46 (fun kb9 ekb9 hkb9a hkb9b => ?_)
            have hkb9 : q_T G kb9 = 12 := q_tag hkb9a hkb9b
            refine lv_iload_n hx hb dX2_flow_47 rfl (lv_at hl 1 rfl) ?_
            refine lv_iconst (v := 0) hx hb dX2_flow_48 (by decide) ?_
            refine q_iast hE hW hkb9 rfl (q_in kv3 (by decide) (by decide)) trivial (by decide) dX2_flow_49 (fun H locs ks10 kp11 hW => ?_)
            obtain ⟨kx12, ekx12⟩ : ∃ y : Int32, y = kx1 + 1 := ⟨_, rfl⟩
            have vkx12 : q_V 1 6 kx12 := by rw [ekx12]; exact (q_add kv3 (q_c (k := 1) (x := 1) (by decide)) (by decide) (by decide)).w (by decide) (by decide)
            have ikx12 : kx12.toInt = kx1.toInt + 1 := q_incT ekx12 kv3 (by decide) (by decide) (by decide)
            refine lv_iinc (v := kx12) (lv' := [(1, .int kx12), (0, .ref a0), (2, .int kx4)]) hx hb dX2_flow_50 hl (k := 1) rfl (by rw [ekx12]; rfl) (by decide) rfl (fun ls hl => ?_)
            refine lv_goto (tgt := 2) hx hb dX2_flow_53 (by decide) ?_
            exact ih2a _ _ _ kx12 (vkx12.w (by decide) (by decide)) hW ls (lv_sub hl [1, 0] rfl) (Nat.lt_of_lt_of_le (q_up (ikx12) (show q_V 1 6 kx12 from vkx12).2) (Nat.le_of_lt_succ hm2a))
          · have kv13 : q_V 1 6 kx4 := (q_lt2 (q_c (k := 0) (x := 0) (by decide)) vkx4 (Int32.not_le.mp kc6)).w (by decide) (by decide)
            refine lv_aload_n hx hb dX2_flow_15 rfl (lv_at hl 0 rfl) ?_
            refine q_getr hE hW h0 rfl q_k2 5 (by decide) rfl (hE.l wl_89) dX2_flow_16 (fun kb14 ekb14 hkb14a hkb14b => ?_)
            have hkb14 : q_T G kb14 = 11 := q_tag hkb14a hkb14b
            refine lv_iload_n hx hb dX2_flow_19 rfl (lv_at hl 2 rfl) ?_
            refine q_aald hE hW hkb14 rfl (q_in kv13 (by decide) (by decide)) dX2_flow_20 (fun kb15 ekb15 hkb15a hkb15b => ?_)
            have hkb15 : q_T G kb15 = 12 := q_tag hkb15a hkb15b
            refine lv_iload_n hx hb dX2_flow_21 rfl (lv_at hl 1 rfl) ?_
            refine lv_aload_n hx hb dX2_flow_22 rfl (lv_at hl 0 rfl) ?_
            refine q_getr hE hW h0 rfl q_k2 5 (by decide) rfl (hE.l wl_89) dX2_flow_23 (fun kb16 ekb16 hkb16a hkb16b => ?_)
            obtain rfl : kb14 = kb16 := ekb14.symm.trans ekb16
            refine lv_iload_n hx hb dX2_flow_26 rfl (lv_at hl 2 rfl) ?_
            refine lv_iconst (v := 1) hx hb dX2_flow_27 (by decide) ?_
            refine lv_isub hx hb dX2_flow_28 ?_
            refine lv_topi (fun kx17 ekx17 => ?_)
            have vkx17 : q_V 0 5 kx17 := by rw [ekx17]; exact (q_sub kv13 (q_c (k := 1) (x := 1) (by decide)) (by decide) (by decide)).w (by decide) (by decide)
            refine q_aald hE hW hkb14 rfl (q_in vkx17 (by decide) (by decide)) dX2_flow_29 (fun kb18 ekb18 hkb18a hkb18b => ?_)
            have hkb18 : q_T G kb18 = 12 := q_tag hkb18a hkb18b
            refine lv_iload_n hx hb dX2_flow_30 rfl (lv_at hl 1 rfl) ?_
            refine q_iald hE hW hkb18 rfl (q_in kv3 (by decide) (by decide)) dX2_flow_31 (fun kx19 ekx19 gkx19 => ?_)
            refine lv_iconst (v := 2) hx hb dX2_flow_32 (by decide) ?_
            refine lv_idiv hx hb dX2_flow_33 (q_ne0 (q_c (k := 2) (x := 2) (by decide)) (by decide)) ?_
            refine lv_topi (fun kx20 ekx20 => ?_)
            refine q_iast hE hW hkb15 rfl (q_in kv3 (by decide) (by decide)) trivial (by decide) dX2_flow_34 (fun H locs ks21 kp22 hW => ?_)
            obtain ⟨kx23, ekx23⟩ : ∃ y : Int32, y = kx4 + (-1) := ⟨_, rfl⟩
            have vkx23 : q_V 0 5 kx23 := by rw [ekx23]; exact (q_add kv13 (q_c (k := (-1)) (x := (-1)) (by decide)) (by decide) (by decide)).w (by decide) (by decide)
            have ikx23 : kx23.toInt = kx4.toInt + (-1) := q_incT ekx23 kv13 (by decide) (by decide) (by decide)
            refine lv_iinc (v := kx23) (lv' := [(2, .int kx23), (0, .ref a0), (1, .int kx1)]) hx hb dX2_flow_35 hl (k := 2) rfl (by rw [ekx23]; rfl) (by decide) rfl (fun ls hl => ?_)
            refine lv_goto (tgt := 11) hx hb dX2_flow_38 (by decide) ?_
            exact ih11a _ _ _ kv3 kx23 (vkx23.w (by decide) (by decide)) hW ls (lv_sub hl [1, 2, 0] rfl) (Nat.lt_of_lt_of_le (q_dn (ikx23) (show q_V 0 5 kx23 from vkx23).1) (Nat.le_of_lt_succ hm11a))
      refine lv_iload_n hx hb dX2_flow_2 rfl (lv_at hl 1 rfl) ?_
      refine lv_bipush (v := 6) hx hb dX2_flow_3 (by decide) ?_
      refine lv_icmp_ge (tgt := 56) hx hb dX2_flow_5 (by decide) (fun kc24 => ?_) (fun kc24 => ?_)
      · have kv25 : q_V 6 6 kx1 := (q_le2 (q_c (k := 6) (x := 6) (by decide)) vkx1 kc24).w (by decide) (by decide)
        exact q_retv hE hr hlocks hW (trivial) dX2_flow_56
      · have kv26 : q_V 0 5 kx1 := (q_lt1 vkx1 (q_c (k := 6) (x := 6) (by decide)) (Int32.not_le.mp kc24)).w (by decide) (by decide)
        refine lv_bipush (v := 6) hx hb dX2_flow_8 (by decide) ?_
        refine lv_istore_n (lv' := [(2, .int 6), (0, .ref a0), (1, .int kx1)]) hx hb dX2_flow_10 rfl hl (by decide) rfl (fun ls hl => ?_)
        exact lp11a _ _ _ _ kv26 6 ((q_c (k := 6) (x := 6) (by decide)).w (by decide) (by decide)) hW ls (lv_sub hl [1, 2, 0] rfl) (Nat.lt_succ_self _)
  refine lv_iconst (v := 0) hx hb dX2_flow_0 (by decide) ?_
  refine lv_istore_n (lv' := [(1, .int 0), (0, .ref a0)]) hx hb dX2_flow_1 rfl hl (by decide) rfl (fun ls hl => ?_)
  exact lp2a _ _ _ _ 0 ((q_c (k := 0) (x := 0) (by decide)).w (by decide) (by decide)) hW ls (lv_sub hl [1, 0] rfl) (Nat.lt_succ_self _)
set_option maxHeartbeats 4000000 in
set_option maxRecDepth 100000 in
theorem c_X1_allDeep (l : Launch) (G : q_G) (σ : q_S) (a0 : Nat) (h0 : q_T G a0 = 5)  : Met l yX1_allDeep (Cond.code yX1_allDeep cX1_allDeep 3 (some .int) :: wsL_law) (q_Rm 1) (q_Pre G σ [.ref a0]) (q_Qi G [] σ (fun r σ1 => q_V (-2147483648) 2147483647 r)) 0 0 (q_N G) := by
  refine q_ofW (ts := []) (by decide) (Nat.le_of_ble_eq_true rfl) ?_
  intro p e s m args below meth c hE hr hlocks hW ls hl
  have hE : q_E G p s m args c cX1_allDeep 3 RX1 := hE
  have hx := hE.1.1
  have hb := hE.1.2.1
  have hl : lv_has ls 3 [(0, .ref a0)] := hl
  have lp4a : ∀ (n4a : Nat) (kx1 : Int32) (kx2 : Int32) (vkx2 : q_V 0 6 kx2) (ls : Array Slot) (hl : lv_has ls 3 [(0, .ref a0), (1, .int kx1), (2, .int kx2)]), (6 - kx2.toInt).toNat < n4a → W p l e (q_Rm 1) s m args below meth c s.heap [] 0 0 (MQ below (q_Qi G [] σ (fun r σ1 => q_V (-2147483648) 2147483647 r)) args s 0 0 (q_N G)) (F0 m 4 ls []) := by
    intro n4a
    induction n4a with
    | zero => intro _ _ _ _ _; exact fun h => absurd h (Nat.not_lt_zero _)
    | succ n4a ih4a =>
      intro kx1 kx2 vkx2 ls hl hm4a
      refine lv_iload_n hx hb dX1_allDeep_4 rfl (lv_at hl 2 rfl) ?_
      refine lv_bipush (v := 6) hx hb dX1_allDeep_5 (by decide) ?_
      refine lv_icmp_ge (tgt := 25) hx hb dX1_allDeep_7 (by decide) (fun kc3 => ?_) (fun kc3 => ?_)
      · have kv4 : q_V 6 6 kx2 := (q_le2 (q_c (k := 6) (x := 6) (by decide)) vkx2 kc3).w (by decide) (by decide)
        refine lv_iload_n hx hb dX1_allDeep_25 rfl (lv_at hl 1 rfl) ?_
        exact q_reti hE hr hlocks hW ((q_all kx1)) dX1_allDeep_26
      · have kv5 : q_V 0 5 kx2 := (q_lt1 vkx2 (q_c (k := 6) (x := 6) (by decide)) (Int32.not_le.mp kc3)).w (by decide) (by decide)
        refine lv_iload_n hx hb dX1_allDeep_10 rfl (lv_at hl 1 rfl) ?_
        refine lv_aload_n hx hb dX1_allDeep_11 rfl (lv_at hl 0 rfl) ?_
        refine q_getr hE hW h0 rfl q_k1 5 (by decide) rfl (hE.l wl_96) dX1_allDeep_12 (fun kb6 ekb6 hkb6a hkb6b => ?_)
        have hkb6 : q_T G kb6 = 6 := q_tag hkb6a hkb6b
        refine lv_iload_n hx hb dX1_allDeep_15 rfl (lv_at hl 2 rfl) ?_
        refine q_iald hE hW hkb6 rfl (q_in kv5 (by decide) (by decide)) dX1_allDeep_16 (fun kx7 ekx7 gkx7 => ?_)
        refine lv_iadd hx hb dX1_allDeep_17 ?_
        refine lv_topi (fun kx8 ekx8 => ?_)
        refine lv_istore_n (lv' := [(1, .int kx8), (0, .ref a0), (2, .int kx2)]) hx hb dX1_allDeep_18 rfl hl (by decide) rfl (fun ls hl => ?_)
        obtain ⟨kx9, ekx9⟩ : ∃ y : Int32, y = kx2 + 1 := ⟨_, rfl⟩
        have vkx9 : q_V 1 6 kx9 := by rw [ekx9]; exact (q_add kv5 (q_c (k := 1) (x := 1) (by decide)) (by decide) (by decide)).w (by decide) (by decide)
        have ikx9 : kx9.toInt = kx2.toInt + 1 := q_incT ekx9 kv5 (by decide) (by decide) (by decide)
        refine lv_iinc (v := kx9) (lv' := [(2, .int kx9), (1, .int kx8), (0, .ref a0)]) hx hb dX1_allDeep_19 hl (k := 2) rfl (by rw [ekx9]; rfl) (by decide) rfl (fun ls hl => ?_)
        refine lv_goto (tgt := 4) hx hb dX1_allDeep_22 (by decide) ?_
        exact ih4a kx8 kx9 (vkx9.w (by decide) (by decide)) ls (lv_sub hl [2, 1, 0] rfl) (Nat.lt_of_lt_of_le (q_up (ikx9) (show q_V 1 6 kx9 from vkx9).2) (Nat.le_of_lt_succ hm4a))
  refine lv_iconst (v := 0) hx hb dX1_allDeep_0 (by decide) ?_
  refine lv_istore_n (lv' := [(1, .int 0), (0, .ref a0)]) hx hb dX1_allDeep_1 rfl hl (by decide) rfl (fun ls hl => ?_)
  refine lv_iconst (v := 0) hx hb dX1_allDeep_2 (by decide) ?_
  refine lv_istore_n (lv' := [(2, .int 0), (1, .int 0), (0, .ref a0)]) hx hb dX1_allDeep_3 rfl hl (by decide) rfl (fun ls hl => ?_)
  exact lp4a _ 0 0 ((q_c (k := 0) (x := 0) (by decide)).w (by decide) (by decide)) ls (lv_sub hl [2, 1, 0] rfl) (Nat.lt_succ_self _)
set_option maxHeartbeats 4000000 in
set_option maxRecDepth 100000 in
theorem c_X1_isClean (l : Launch) (G : q_G) (σ : q_S) (a0 : Nat) (h0 : q_T G a0 = 5)  : Met l yX1_isClean (Cond.code yX1_isClean cX1_isClean 1 (some .boolean) :: wsL_law) (q_Rm 2) (q_Pre G σ [.ref a0]) (q_Qi G [] σ (fun r σ1 => q_V 0 1 r)) 0 0 (q_N G) := by
  refine q_ofW (ts := []) (by decide) (Nat.le_of_ble_eq_true rfl) ?_
  intro p e s m args below meth c hE hr hlocks hW ls hl
  have hE : q_E G p s m args c cX1_isClean 1 RX1 := hE
  have hx := hE.1.1
  have hb := hE.1.2.1
  have hl : lv_has ls 1 [(0, .ref a0)] := hl
  refine lv_aload_n hx hb dX1_isClean_0 rfl (lv_at hl 0 rfl) ?_
  refine q_goi hW (q_runV (As := []) (rest := []) hE hW (c_X1_allDeep l G σ a0 h0) kw_X1_44 (q_recv hE hW h0 rfl q_k1) rfl hl.1 rfl (Nat.le_of_ble_eq_true rfl) dX1_isClean_1 ⟨by decide, by decide⟩ ⟨by decide, by decide⟩) (by decide) (fun kx4 ks2 H locs kp1 kf3 hW => ?_)
  refine lv_if_ne (tgt := 11) hx hb dX1_isClean_4 (by decide) (fun kc5 => ?_) (fun kc5 => ?_)
  · refine lv_iconst (v := 0) hx hb dX1_isClean_11 (by decide) ?_
    exact q_retz hE hr hlocks hW (Or.inl rfl) (((q_c (k := 0) (x := 0) (by decide)).w (by decide) (by decide))) dX1_isClean_12
  · have kv6 : q_V 0 0 kx4 := q_eq1 (q_all kx4) (q_c (k := 0) (x := 0) (by decide)) kc5 (by decide) (by decide)
    refine lv_iconst (v := 1) hx hb dX1_isClean_7 (by decide) ?_
    refine lv_goto (tgt := 12) hx hb dX1_isClean_8 (by decide) ?_
    exact q_retz hE hr hlocks hW (Or.inr rfl) (((q_c (k := 1) (x := 1) (by decide)).w (by decide) (by decide))) dX1_isClean_12
set_option maxHeartbeats 4000000 in
set_option maxRecDepth 100000 in
theorem c_X1_deepest (l : Launch) (G : q_G) (σ : q_S) (a0 : Nat) (h0 : q_T G a0 = 5) (i1 : Int32) (w1 : q_V 0 1 i1)  : Met l yX1_deepest (Cond.code yX1_deepest cX1_deepest 5 (some .int) :: wsL_law) (q_Rm 1) (q_Pre G σ [.ref a0, .int i1]) (q_Qi G [] σ (fun r σ1 => q_V (-1) 5 r)) 0 0 (q_N G) := by
  refine q_ofW (ts := []) (by decide) (Nat.le_of_ble_eq_true rfl) ?_
  intro p e s m args below meth c hE hr hlocks hW ls hl
  have hE : q_E G p s m args c cX1_deepest 5 RX1 := hE
  have hx := hE.1.1
  have hb := hE.1.2.1
  have hl : lv_has ls 5 [(0, .ref a0), (1, .int i1)] := hl
  have lp7a : ∀ (n7a : Nat) (kx1 : Int32) (vkx1 : q_V (-1) 5 kx1) (kx2 : Int32) (kx3 : Int32) (vkx3 : q_V 0 6 kx3) (ls : Array Slot) (hl : lv_has ls 5 [(0, .ref a0), (1, .int i1), (2, .int kx1), (3, .int kx2), (4, .int kx3)]), (6 - kx3.toInt).toNat < n7a → W p l e (q_Rm 1) s m args below meth c s.heap [] 0 0 (MQ below (q_Qi G [] σ (fun r σ1 => q_V (-1) 5 r)) args s 0 0 (q_N G)) (F0 m 7 ls []) := by
    intro n7a
    induction n7a with
    | zero => intro _ _ _ _ _ _ _; exact fun h => absurd h (Nat.not_lt_zero _)
    | succ n7a ih7a =>
      intro kx1 vkx1 kx2 kx3 vkx3 ls hl hm7a
      have jn46a : ∀ (kx4 : Int32) (vkx4 : q_V (-1) 5 kx4) (kx5 : Int32) (kv6 : q_V 0 5 kx3) (ls : Array Slot) (hl : lv_has ls 5 [(0, .ref a0), (1, .int i1), (2, .int kx4), (3, .int kx5), (4, .int kx3)]), W p l e (q_Rm 1) s m args below meth c s.heap [] 0 0 (MQ below (q_Qi G [] σ (fun r σ1 => q_V (-1) 5 r)) args s 0 0 (q_N G)) (F0 m 46 ls []) := by
        intro kx4 vkx4 kx5 kv6 ls hl
        obtain ⟨kx7, ekx7⟩ : ∃ y : Int32, y = kx3 + 1 := ⟨_, rfl⟩
        have vkx7 : q_V 1 6 kx7 := by rw [ekx7]; exact (q_add kv6 (q_c (k := 1) (x := 1) (by decide)) (by decide) (by decide)).w (by decide) (by decide)
        have ikx7 : kx7.toInt = kx3.toInt + 1 := q_incT ekx7 kv6 (by decide) (by decide) (by decide)
        refine lv_iinc (v := kx7) (lv' := [(4, .int kx7), (0, .ref a0), (1, .int i1), (2, .int kx4), (3, .int kx5)]) hx hb dX1_deepest_46 hl (k := 4) rfl (by rw [ekx7]; rfl) (by decide) rfl (fun ls hl => ?_)
        refine lv_goto (tgt := 7) hx hb dX1_deepest_49 (by decide) ?_
        exact ih7a kx4 vkx4 kx5 kx7 (vkx7.w (by decide) (by decide)) ls (lv_sub hl [1, 2, 3, 4, 0] rfl) (Nat.lt_of_lt_of_le (q_up (ikx7) (show q_V 1 6 kx7 from vkx7).2) (Nat.le_of_lt_succ hm7a))
      have jn35a : ∀ (kv8 : q_V 0 5 kx3) (ls : Array Slot) (hl : lv_has ls 5 [(0, .ref a0), (1, .int i1), (4, .int kx3)]), W p l e (q_Rm 1) s m args below meth c s.heap [] 0 0 (MQ below (q_Qi G [] σ (fun r σ1 => q_V (-1) 5 r)) args s 0 0 (q_N G)) (F0 m 35 ls []) := by
        intro kv8 ls hl
        refine lv_iload hx hb dX1_deepest_35 (lv_at hl 2 rfl) ?_
        refine lv_istore_n (lv' := [(2, .int kx3), (0, .ref a0), (1, .int i1), (4, .int kx3)]) hx hb dX1_deepest_37 rfl hl (by decide) rfl (fun ls hl => ?_)
        refine lv_aload_n hx hb dX1_deepest_38 rfl (lv_at hl 1 rfl) ?_
        refine q_getr hE hW h0 rfl q_k1 5 (by decide) rfl (hE.l wl_96) dX1_deepest_39 (fun kb9 ekb9 hkb9a hkb9b => ?_)
        have hkb9 : q_T G kb9 = 6 := q_tag hkb9a hkb9b
        refine lv_iload hx hb dX1_deepest_42 (lv_at hl 3 rfl) ?_
        refine q_iald hE hW hkb9 rfl (q_in kv8 (by decide) (by decide)) dX1_deepest_44 (fun kx10 ekx10 gkx10 => ?_)
        refine lv_istore_n (lv' := [(3, .int kx10), (2, .int kx3), (0, .ref a0), (1, .int i1), (4, .int kx3)]) hx hb dX1_deepest_45 rfl hl (by decide) rfl (fun ls hl => ?_)
        exact jn46a kx3 (kv8.w (by decide) (by decide)) kx10 kv8 ls (lv_sub hl [2, 3, 1, 0, 4] rfl)
      refine lv_iload hx hb dX1_deepest_7 (lv_at hl 4 rfl) ?_
      refine lv_bipush (v := 6) hx hb dX1_deepest_9 (by decide) ?_
      refine lv_icmp_ge (tgt := 52) hx hb dX1_deepest_11 (by decide) (fun kc11 => ?_) (fun kc11 => ?_)
      · have kv12 : q_V 6 6 kx3 := (q_le2 (q_c (k := 6) (x := 6) (by decide)) vkx3 kc11).w (by decide) (by decide)
        refine lv_iload_n hx hb dX1_deepest_52 rfl (lv_at hl 2 rfl) ?_
        exact q_reti hE hr hlocks hW (vkx1) dX1_deepest_53
      · have kv13 : q_V 0 5 kx3 := (q_lt1 vkx3 (q_c (k := 6) (x := 6) (by decide)) (Int32.not_le.mp kc11)).w (by decide) (by decide)
        refine lv_aload_n hx hb dX1_deepest_14 rfl (lv_at hl 0 rfl) ?_
        refine q_getr hE hW h0 rfl q_k1 5 (by decide) rfl (hE.l wl_96) dX1_deepest_15 (fun kb14 ekb14 hkb14a hkb14b => ?_)
        have hkb14 : q_T G kb14 = 6 := q_tag hkb14a hkb14b
        refine lv_iload hx hb dX1_deepest_18 (lv_at hl 4 rfl) ?_
        refine q_iald hE hW hkb14 rfl (q_in kv13 (by decide) (by decide)) dX1_deepest_20 (fun kx15 ekx15 gkx15 => ?_)
        refine lv_iload_n hx hb dX1_deepest_21 rfl (lv_at hl 3 rfl) ?_
        refine lv_icmp_le (tgt := 46) hx hb dX1_deepest_22 (by decide) (fun kc16 => ?_) (fun kc16 => ?_)
        · exact jn46a kx1 vkx1 kx2 kv13 ls (lv_sub hl [0, 1, 2, 3, 4] rfl)
        · have kv17 : q_V (-2147483648) 2147483646 kx2 := (q_lt1 (q_all kx2) (q_all kx15) (Int32.not_le.mp kc16)).w (by decide) (by decide)
          have kv18 : q_V (-2147483647) 2147483647 kx15 := (q_lt2 (q_all kx2) (q_all kx15) (Int32.not_le.mp kc16)).w (by decide) (by decide)
          refine lv_iload hx hb dX1_deepest_25 (lv_at hl 4 rfl) ?_
          refine lv_iconst (v := 5) hx hb dX1_deepest_27 (by decide) ?_
          refine lv_icmp_ne (tgt := 35) hx hb dX1_deepest_28 (by decide) (fun kc19 => ?_) (fun kc19 => ?_)
          · have kv20 : q_V 0 4 kx3 := q_ne2 kv13 (q_c (k := 5) (x := 5) (by decide)) kc19 (by decide)
            exact jn35a (kv20.w (by decide) (by decide)) ls (lv_sub hl [0, 1, 4] rfl)
          · have kv21 : q_V 5 5 kx3 := q_eq1 kv13 (q_c (k := 5) (x := 5) (by decide)) kc19 (by decide) (by decide)
            refine lv_iload_n hx hb dX1_deepest_31 rfl (lv_at hl 1 rfl) ?_
            refine lv_if_eq (tgt := 46) hx hb dX1_deepest_32 (by decide) (fun kc22 => ?_) (fun kc22 => ?_)
            · have kv23 : q_V 0 0 i1 := q_eq1 w1 (q_c (k := 0) (x := 0) (by decide)) kc22 (by decide) (by decide)
              exact jn46a kx1 vkx1 kx2 (kv21.w (by decide) (by decide)) ls (lv_sub hl [0, 1, 2, 3, 4] rfl)
            · have kv24 : q_V 1 1 i1 := q_ne1 w1 (q_c (k := 0) (x := 0) (by decide)) kc22 (by decide)
              exact jn35a (kv21.w (by decide) (by decide)) ls (lv_sub hl [0, 1, 4] rfl)
  refine lv_iconst (v := (-1)) hx hb dX1_deepest_0 (by decide) ?_
  refine lv_istore_n (lv' := [(2, .int (-1)), (0, .ref a0), (1, .int i1)]) hx hb dX1_deepest_1 rfl hl (by decide) rfl (fun ls hl => ?_)
  refine lv_iconst (v := 0) hx hb dX1_deepest_2 (by decide) ?_
  refine lv_istore_n (lv' := [(3, .int 0), (2, .int (-1)), (0, .ref a0), (1, .int i1)]) hx hb dX1_deepest_3 rfl hl (by decide) rfl (fun ls hl => ?_)
  refine lv_iconst (v := 0) hx hb dX1_deepest_4 (by decide) ?_
  refine lv_istore (lv' := [(4, .int 0), (3, .int 0), (2, .int (-1)), (0, .ref a0), (1, .int i1)]) hx hb dX1_deepest_5 hl (by decide) rfl (fun ls hl => ?_)
  exact lp7a _ (-1) ((q_c (k := (-1)) (x := (-1)) (by decide)).w (by decide) (by decide)) 0 0 ((q_c (k := 0) (x := 0) (by decide)).w (by decide) (by decide)) ls (lv_sub hl [3, 4, 2, 1, 0] rfl) (Nat.lt_succ_self _)
set_option maxHeartbeats 4000000 in
set_option maxRecDepth 100000 in
theorem c_X1_isDry (l : Launch) (G : q_G) (σ : q_S) (a0 : Nat) (h0 : q_T G a0 = 5)  : Met l yX1_isDry (Cond.code yX1_isDry cX1_isDry 1 (some .boolean) :: wsL_law) (q_Rm 3) (q_Pre G σ [.ref a0]) (q_Qi G [] σ (fun r σ1 => q_V 0 1 r)) 0 0 (q_N G) := by
  refine q_ofW (ts := []) (by decide) (Nat.le_of_ble_eq_true rfl) ?_
  intro p e s m args below meth c hE hr hlocks hW ls hl
  have hE : q_E G p s m args c cX1_isDry 1 RX1 := hE
  have hx := hE.1.1
  have hb := hE.1.2.1
  have hl : lv_has ls 1 [(0, .ref a0)] := hl
  refine lv_aload_n hx hb dX1_isDry_0 rfl (lv_at hl 0 rfl) ?_
  refine q_geti hE hW h0 rfl q_k1 3 (by decide) rfl (hE.l wl_212) dX1_isDry_1 (fun kx1 ekx1 vkx1 => ?_)
  refine lv_iconst (v := 2) hx hb dX1_isDry_4 (by decide) ?_
  refine lv_icmp_ne (tgt := 26) hx hb dX1_isDry_5 (by decide) (fun kc2 => ?_) (fun kc2 => ?_)
  · refine lv_iconst (v := 0) hx hb dX1_isDry_26 (by decide) ?_
    exact q_retz hE hr hlocks hW (Or.inl rfl) (((q_c (k := 0) (x := 0) (by decide)).w (by decide) (by decide))) dX1_isDry_27
  · have kv3 : q_V 2 2 kx1 := q_eq1 (q_all kx1) (q_c (k := 2) (x := 2) (by decide)) kc2 (by decide) (by decide)
    refine lv_aload_n hx hb dX1_isDry_8 rfl (lv_at hl 0 rfl) ?_
    refine q_geti hE hW h0 rfl q_k1 4 (by decide) rfl (hE.l wl_213) dX1_isDry_9 (fun kx4 ekx4 vkx4 => ?_)
    refine lv_aload_n hx hb dX1_isDry_12 rfl (lv_at hl 0 rfl) ?_
    refine q_getr hE hW h0 rfl q_k1 0 (by decide) rfl (hE.l wl_95) dX1_isDry_13 (fun kb5 ekb5 hkb5a hkb5b => ?_)
    refine q_goi hW (kd_X1_48 l (rest := [.int kx4]) hE hW hkb5a hkb5b hl.1 rfl (Nat.le_of_ble_eq_true rfl) dX1_isDry_16 ⟨by decide, by decide⟩ ⟨by decide, by decide⟩) (by decide) (fun kx9 ks7 H locs kp6 kf8 hW => ?_)
    refine lv_icmp_lt (tgt := 26) hx hb dX1_isDry_19 (by decide) (fun kc10 => ?_) (fun kc10 => ?_)
    · have kv11 : q_V (-2147483648) 2147483646 kx4 := (q_lt1 (q_all kx4) (q_all kx9) kc10).w (by decide) (by decide)
      have kv12 : q_V (-2147483647) 2147483647 kx9 := (q_lt2 (q_all kx4) (q_all kx9) kc10).w (by decide) (by decide)
      refine lv_iconst (v := 0) hx hb dX1_isDry_26 (by decide) ?_
      exact q_retz hE hr hlocks hW (Or.inl rfl) (((q_c (k := 0) (x := 0) (by decide)).w (by decide) (by decide))) dX1_isDry_27
    · refine lv_iconst (v := 1) hx hb dX1_isDry_22 (by decide) ?_
      refine lv_goto (tgt := 27) hx hb dX1_isDry_23 (by decide) ?_
      exact q_retz hE hr hlocks hW (Or.inr rfl) (((q_c (k := 1) (x := 1) (by decide)).w (by decide) (by decide))) dX1_isDry_27
set_option maxHeartbeats 4000000 in
set_option maxRecDepth 100000 in
theorem c_X1_copyFrom (l : Launch) (G : q_G) (σ : q_S) (a0 : Nat) (h0 : q_T G a0 = 5) (a1 : Nat) (h1 : q_T G a1 = 5)  : Met l yX1_copyFrom (Cond.code yX1_copyFrom cX1_copyFrom 2 none :: wsL_law) (q_Rm 1) (q_Pre G σ [.ref a0, .ref a1]) (q_Qv G [5, 6] σ (fun σ1 => True)) 0 0 (q_N G) := by
  refine q_ofW (ts := [5, 6]) (by decide) (Nat.le_of_ble_eq_true rfl) ?_
  intro p e s m args below meth c hE hr hlocks hW ls hl
  have hE : q_E G p s m args c cX1_copyFrom 2 RX1 := hE
  have hx := hE.1.1
  have hb := hE.1.2.1
  have hl : lv_has ls 2 [(0, .ref a0), (1, .ref a1)] := hl
  refine lv_aload_n hx hb dX1_copyFrom_0 rfl (lv_at hl 0 rfl) ?_
  refine lv_aload_n hx hb dX1_copyFrom_1 rfl (lv_at hl 1 rfl) ?_
  refine q_getr hE hW h1 rfl q_k1 0 (by decide) rfl (hE.l wl_95) dX1_copyFrom_2 (fun kb1 ekb1 hkb1a hkb1b => ?_)
  refine q_putr hE hW h0 rfl q_k1 tyX1 tyX1_ok 0 (by decide) rfl (hE.l wl_95) rfl rfl rfl hkb1a hkb1b (by decide) dX1_copyFrom_5 (fun H locs ks2 kp3 hW => ?_)
  refine lv_aload_n hx hb dX1_copyFrom_8 rfl (lv_at hl 0 rfl) ?_
  refine lv_aload_n hx hb dX1_copyFrom_9 rfl (lv_at hl 1 rfl) ?_
  refine q_geti hE hW h1 rfl q_k1 1 (by decide) rfl (hE.l wl_210) dX1_copyFrom_10 (fun kx4 ekx4 vkx4 => ?_)
  refine q_puti hE hW h0 rfl q_k1 tyX1 tyX1_ok 1 (by decide) rfl (hE.l wl_210) rfl rfl rfl (q_all kx4) (by decide) dX1_copyFrom_13 (fun H locs ks5 kp6 hW => ?_)
  refine lv_aload_n hx hb dX1_copyFrom_16 rfl (lv_at hl 0 rfl) ?_
  refine lv_aload_n hx hb dX1_copyFrom_17 rfl (lv_at hl 1 rfl) ?_
  refine q_geti hE hW h1 rfl q_k1 2 (by decide) rfl (hE.l wl_211) dX1_copyFrom_18 (fun kx7 ekx7 vkx7 => ?_)
  refine q_puti hE hW h0 rfl q_k1 tyX1 tyX1_ok 2 (by decide) rfl (hE.l wl_211) rfl rfl rfl (q_all kx7) (by decide) dX1_copyFrom_21 (fun H locs ks8 kp9 hW => ?_)
  refine lv_aload_n hx hb dX1_copyFrom_24 rfl (lv_at hl 0 rfl) ?_
  refine lv_aload_n hx hb dX1_copyFrom_25 rfl (lv_at hl 1 rfl) ?_
  refine q_geti hE hW h1 rfl q_k1 3 (by decide) rfl (hE.l wl_212) dX1_copyFrom_26 (fun kx10 ekx10 vkx10 => ?_)
  refine q_puti hE hW h0 rfl q_k1 tyX1 tyX1_ok 3 (by decide) rfl (hE.l wl_212) rfl rfl rfl (q_all kx10) (by decide) dX1_copyFrom_29 (fun H locs ks11 kp12 hW => ?_)
  refine lv_aload_n hx hb dX1_copyFrom_32 rfl (lv_at hl 0 rfl) ?_
  refine lv_aload_n hx hb dX1_copyFrom_33 rfl (lv_at hl 1 rfl) ?_
  refine q_geti hE hW h1 rfl q_k1 4 (by decide) rfl (hE.l wl_213) dX1_copyFrom_34 (fun kx13 ekx13 vkx13 => ?_)
  refine q_puti hE hW h0 rfl q_k1 tyX1 tyX1_ok 4 (by decide) rfl (hE.l wl_213) rfl rfl rfl (q_all kx13) (by decide) dX1_copyFrom_37 (fun H locs ks14 kp15 hW => ?_)
  refine lv_aload_n hx hb dX1_copyFrom_40 rfl (lv_at hl 1 rfl) ?_
  refine q_getr hE hW h1 rfl q_k1 5 (by decide) rfl (hE.l wl_96) dX1_copyFrom_41 (fun kb16 ekb16 hkb16a hkb16b => ?_)
  have hkb16 : q_T G kb16 = 6 := q_tag hkb16a hkb16b
  refine lv_iconst (v := 0) hx hb dX1_copyFrom_44 (by decide) ?_
  refine lv_aload_n hx hb dX1_copyFrom_45 rfl (lv_at hl 0 rfl) ?_
  refine q_getr hE hW h0 rfl q_k1 5 (by decide) rfl (hE.l wl_96) dX1_copyFrom_46 (fun kb17 ekb17 hkb17a hkb17b => ?_)
  have hkb17 : q_T G kb17 = 6 := q_tag hkb17a hkb17b
  refine lv_iconst (v := 0) hx hb dX1_copyFrom_49 (by decide) ?_
  refine lv_bipush (v := 6) hx hb dX1_copyFrom_50 (by decide) ?_
  refine q_acopy hE hW hkb16 hkb17 rfl rfl (Or.inl rfl) (by decide) (by decide) (by decide) (by decide) (by decide) (fun _ _ _ _ => trivial) (by decide) wl_214 wl_201 wl_202 wl_203 hl.1 (by decide) (Nat.le_of_ble_eq_true rfl) dX1_copyFrom_52 (fun H locs ks18 kp19 hW => ?_)
  exact q_retv hE hr hlocks hW (trivial) dX1_copyFrom_55
set_option maxHeartbeats 4000000 in
set_option maxRecDepth 100000 in
theorem c_J7_fill_53178_t6 (l : Launch) (G : q_G) (σ : q_S) (a1 : Nat) (h1 : q_T G a1 = 6) (i2 : Int32)  : Met l yJ7_fill_53178 (Cond.code yJ7_fill_53178 cJ7_fill_53178 4 none :: wsL_law) (q_Rm 1) (q_Pre G σ [.ref a1, .int i2]) (q_Qv G [6] σ (fun σ1 => True)) 0 0 (q_N G) := by
  refine q_ofW (ts := [6]) (by decide) (Nat.le_of_ble_eq_true rfl) ?_
  intro p e s m args below meth c hE hr hlocks hW ls hl
  have hE : q_E G p s m args c cJ7_fill_53178 4 RJ7 := hE
  have hx := hE.1.1
  have hb := hE.1.2.1
  have hl : lv_has ls 4 [(0, .ref a1), (1, .int i2)] := hl
  have lp5a : ∀ (n5a : Nat) (ks3 : q_S) (H : Heap) (locs : List Loc) (kx1 : Int32) (vkx1 : q_V 0 6 kx1) (kx2 : Int32) (vkx2 : q_V 6 6 kx2) (hW : q_Wd G [6] σ s.heap ks3 H locs) (ls : Array Slot) (hl : lv_has ls 4 [(0, .ref a1), (1, .int i2), (2, .int kx1), (3, .int kx2)]), (6 - kx1.toInt).toNat < n5a → W p l e (q_Rm 1) s m args below meth c H locs 0 0 (MQ below (q_Qv G [6] σ (fun σ1 => True)) args s 0 0 (q_N G)) (F0 m 5 ls []) := by
    intro n5a
    induction n5a with
    | zero => intro _ _ _ _ _ _ _ _ _ _; exact fun h => absurd h (Nat.not_lt_zero _)
    | succ n5a ih5a =>
      intro ks3 H locs kx1 vkx1 kx2 vkx2 hW ls hl hm5a
      refine lv_iload_n hx hb dJ7_fill_53178_5 rfl (lv_at hl 2 rfl) ?_
      refine lv_iload_n hx hb dJ7_fill_53178_6 rfl (lv_at hl 3 rfl) ?_
      refine lv_icmp_ge (tgt := 20) hx hb dJ7_fill_53178_7 (by decide) (fun kc4 => ?_) (fun kc4 => ?_)
      · have kv5 : q_V 6 6 kx1 := (q_le2 vkx2 vkx1 kc4).w (by decide) (by decide)
        exact q_retv hE hr hlocks hW (trivial) dJ7_fill_53178_20
      · have kv6 : q_V 0 5 kx1 := (q_lt1 vkx1 vkx2 (Int32.not_le.mp kc4)).w (by decide) (by decide)
        refine lv_aload_n hx hb dJ7_fill_53178_10 rfl (lv_at hl 0 rfl) ?_
        refine lv_iload_n hx hb dJ7_fill_53178_11 rfl (lv_at hl 2 rfl) ?_
        refine lv_iload_n hx hb dJ7_fill_53178_12 rfl (lv_at hl 1 rfl) ?_
        refine q_iast hE hW h1 rfl (q_in kv6 (by decide) (by decide)) trivial (by decide) dJ7_fill_53178_13 (fun H locs ks7 kp8 hW => ?_)
        obtain ⟨kx9, ekx9⟩ : ∃ y : Int32, y = kx1 + 1 := ⟨_, rfl⟩
        have vkx9 : q_V 1 6 kx9 := by rw [ekx9]; exact (q_add kv6 (q_c (k := 1) (x := 1) (by decide)) (by decide) (by decide)).w (by decide) (by decide)
        have ikx9 : kx9.toInt = kx1.toInt + 1 := q_incT ekx9 kv6 (by decide) (by decide) (by decide)
        refine lv_iinc (v := kx9) (lv' := [(2, .int kx9), (0, .ref a1), (1, .int i2), (3, .int kx2)]) hx hb dJ7_fill_53178_14 hl (k := 2) rfl (by rw [ekx9]; rfl) (by decide) rfl (fun ls hl => ?_)
        refine lv_goto (tgt := 5) hx hb dJ7_fill_53178_17 (by decide) ?_
        exact ih5a _ _ _ kx9 (vkx9.w (by decide) (by decide)) kx2 vkx2 hW ls (lv_sub hl [1, 2, 0, 3] rfl) (Nat.lt_of_lt_of_le (q_up (ikx9) (show q_V 1 6 kx9 from vkx9).2) (Nat.le_of_lt_succ hm5a))
  refine lv_iconst (v := 0) hx hb dJ7_fill_53178_0 (by decide) ?_
  refine lv_istore_n (lv' := [(2, .int 0), (0, .ref a1), (1, .int i2)]) hx hb dJ7_fill_53178_1 rfl hl (by decide) rfl (fun ls hl => ?_)
  refine lv_aload_n hx hb dJ7_fill_53178_2 rfl (lv_at hl 1 rfl) ?_
  refine q_aleni (v := 6) hE hW h1 rfl (by decide) dJ7_fill_53178_3 ?_
  refine lv_istore_n (lv' := [(3, .int 6), (2, .int 0), (0, .ref a1), (1, .int i2)]) hx hb dJ7_fill_53178_4 rfl hl (by decide) rfl (fun ls hl => ?_)
  exact lp5a _ _ _ _ 0 ((q_c (k := 0) (x := 0) (by decide)).w (by decide) (by decide)) 6 (q_c (k := 6) (x := 6) (by decide)) hW ls (lv_sub hl [2, 3, 1, 0] rfl) (Nat.lt_succ_self _)
set_option maxHeartbeats 4000000 in
set_option maxRecDepth 100000 in
theorem c_J7_fill_53178_t18 (l : Launch) (G : q_G) (σ : q_S) (a1 : Nat) (h1 : q_T G a1 = 18) (i2 : Int32)  : Met l yJ7_fill_53178 (Cond.code yJ7_fill_53178 cJ7_fill_53178 4 none :: wsL_law) (q_Rm 1) (q_Pre G σ [.ref a1, .int i2]) (q_Qv G [18] σ (fun σ1 => True)) 0 0 (q_N G) := by
  refine q_ofW (ts := [18]) (by decide) (Nat.le_of_ble_eq_true rfl) ?_
  intro p e s m args below meth c hE hr hlocks hW ls hl
  have hE : q_E G p s m args c cJ7_fill_53178 4 RJ7 := hE
  have hx := hE.1.1
  have hb := hE.1.2.1
  have hl : lv_has ls 4 [(0, .ref a1), (1, .int i2)] := hl
  have lp5a : ∀ (n5a : Nat) (ks3 : q_S) (H : Heap) (locs : List Loc) (kx1 : Int32) (vkx1 : q_V 0 3 kx1) (kx2 : Int32) (vkx2 : q_V 3 3 kx2) (hW : q_Wd G [18] σ s.heap ks3 H locs) (ls : Array Slot) (hl : lv_has ls 4 [(0, .ref a1), (1, .int i2), (2, .int kx1), (3, .int kx2)]), (3 - kx1.toInt).toNat < n5a → W p l e (q_Rm 1) s m args below meth c H locs 0 0 (MQ below (q_Qv G [18] σ (fun σ1 => True)) args s 0 0 (q_N G)) (F0 m 5 ls []) := by
    intro n5a
    induction n5a with
    | zero => intro _ _ _ _ _ _ _ _ _ _; exact fun h => absurd h (Nat.not_lt_zero _)
    | succ n5a ih5a =>
      intro ks3 H locs kx1 vkx1 kx2 vkx2 hW ls hl hm5a
      refine lv_iload_n hx hb dJ7_fill_53178_5 rfl (lv_at hl 2 rfl) ?_
      refine lv_iload_n hx hb dJ7_fill_53178_6 rfl (lv_at hl 3 rfl) ?_
      refine lv_icmp_ge (tgt := 20) hx hb dJ7_fill_53178_7 (by decide) (fun kc4 => ?_) (fun kc4 => ?_)
      · have kv5 : q_V 3 3 kx1 := (q_le2 vkx2 vkx1 kc4).w (by decide) (by decide)
        exact q_retv hE hr hlocks hW (trivial) dJ7_fill_53178_20
      · have kv6 : q_V 0 2 kx1 := (q_lt1 vkx1 vkx2 (Int32.not_le.mp kc4)).w (by decide) (by decide)
        refine lv_aload_n hx hb dJ7_fill_53178_10 rfl (lv_at hl 0 rfl) ?_
        refine lv_iload_n hx hb dJ7_fill_53178_11 rfl (lv_at hl 2 rfl) ?_
        refine lv_iload_n hx hb dJ7_fill_53178_12 rfl (lv_at hl 1 rfl) ?_
        refine q_iast hE hW h1 rfl (q_in kv6 (by decide) (by decide)) trivial (by decide) dJ7_fill_53178_13 (fun H locs ks7 kp8 hW => ?_)
        obtain ⟨kx9, ekx9⟩ : ∃ y : Int32, y = kx1 + 1 := ⟨_, rfl⟩
        have vkx9 : q_V 1 3 kx9 := by rw [ekx9]; exact (q_add kv6 (q_c (k := 1) (x := 1) (by decide)) (by decide) (by decide)).w (by decide) (by decide)
        have ikx9 : kx9.toInt = kx1.toInt + 1 := q_incT ekx9 kv6 (by decide) (by decide) (by decide)
        refine lv_iinc (v := kx9) (lv' := [(2, .int kx9), (0, .ref a1), (1, .int i2), (3, .int kx2)]) hx hb dJ7_fill_53178_14 hl (k := 2) rfl (by rw [ekx9]; rfl) (by decide) rfl (fun ls hl => ?_)
        refine lv_goto (tgt := 5) hx hb dJ7_fill_53178_17 (by decide) ?_
        exact ih5a _ _ _ kx9 (vkx9.w (by decide) (by decide)) kx2 vkx2 hW ls (lv_sub hl [1, 2, 0, 3] rfl) (Nat.lt_of_lt_of_le (q_up (ikx9) (show q_V 1 3 kx9 from vkx9).2) (Nat.le_of_lt_succ hm5a))
  refine lv_iconst (v := 0) hx hb dJ7_fill_53178_0 (by decide) ?_
  refine lv_istore_n (lv' := [(2, .int 0), (0, .ref a1), (1, .int i2)]) hx hb dJ7_fill_53178_1 rfl hl (by decide) rfl (fun ls hl => ?_)
  refine lv_aload_n hx hb dJ7_fill_53178_2 rfl (lv_at hl 1 rfl) ?_
  refine q_aleni (v := 3) hE hW h1 rfl (by decide) dJ7_fill_53178_3 ?_
  refine lv_istore_n (lv' := [(3, .int 3), (2, .int 0), (0, .ref a1), (1, .int i2)]) hx hb dJ7_fill_53178_4 rfl hl (by decide) rfl (fun ls hl => ?_)
  exact lp5a _ _ _ _ 0 ((q_c (k := 0) (x := 0) (by decide)).w (by decide) (by decide)) 3 (q_c (k := 3) (x := 3) (by decide)) hW ls (lv_sub hl [2, 3, 1, 0] rfl) (Nat.lt_succ_self _)
set_option maxHeartbeats 4000000 in
set_option maxRecDepth 100000 in
theorem c_J7_fill_53178_t19 (l : Launch) (G : q_G) (σ : q_S) (a1 : Nat) (h1 : q_T G a1 = 19) (i2 : Int32)  : Met l yJ7_fill_53178 (Cond.code yJ7_fill_53178 cJ7_fill_53178 4 none :: wsL_law) (q_Rm 1) (q_Pre G σ [.ref a1, .int i2]) (q_Qv G [19] σ (fun σ1 => True)) 0 0 (q_N G) := by
  refine q_ofW (ts := [19]) (by decide) (Nat.le_of_ble_eq_true rfl) ?_
  intro p e s m args below meth c hE hr hlocks hW ls hl
  have hE : q_E G p s m args c cJ7_fill_53178 4 RJ7 := hE
  have hx := hE.1.1
  have hb := hE.1.2.1
  have hl : lv_has ls 4 [(0, .ref a1), (1, .int i2)] := hl
  have lp5a : ∀ (n5a : Nat) (ks3 : q_S) (H : Heap) (locs : List Loc) (kx1 : Int32) (vkx1 : q_V 0 6 kx1) (kx2 : Int32) (vkx2 : q_V 6 6 kx2) (hW : q_Wd G [19] σ s.heap ks3 H locs) (ls : Array Slot) (hl : lv_has ls 4 [(0, .ref a1), (1, .int i2), (2, .int kx1), (3, .int kx2)]), (6 - kx1.toInt).toNat < n5a → W p l e (q_Rm 1) s m args below meth c H locs 0 0 (MQ below (q_Qv G [19] σ (fun σ1 => True)) args s 0 0 (q_N G)) (F0 m 5 ls []) := by
    intro n5a
    induction n5a with
    | zero => intro _ _ _ _ _ _ _ _ _ _; exact fun h => absurd h (Nat.not_lt_zero _)
    | succ n5a ih5a =>
      intro ks3 H locs kx1 vkx1 kx2 vkx2 hW ls hl hm5a
      refine lv_iload_n hx hb dJ7_fill_53178_5 rfl (lv_at hl 2 rfl) ?_
      refine lv_iload_n hx hb dJ7_fill_53178_6 rfl (lv_at hl 3 rfl) ?_
      refine lv_icmp_ge (tgt := 20) hx hb dJ7_fill_53178_7 (by decide) (fun kc4 => ?_) (fun kc4 => ?_)
      · have kv5 : q_V 6 6 kx1 := (q_le2 vkx2 vkx1 kc4).w (by decide) (by decide)
        exact q_retv hE hr hlocks hW (trivial) dJ7_fill_53178_20
      · have kv6 : q_V 0 5 kx1 := (q_lt1 vkx1 vkx2 (Int32.not_le.mp kc4)).w (by decide) (by decide)
        refine lv_aload_n hx hb dJ7_fill_53178_10 rfl (lv_at hl 0 rfl) ?_
        refine lv_iload_n hx hb dJ7_fill_53178_11 rfl (lv_at hl 2 rfl) ?_
        refine lv_iload_n hx hb dJ7_fill_53178_12 rfl (lv_at hl 1 rfl) ?_
        refine q_iast hE hW h1 rfl (q_in kv6 (by decide) (by decide)) trivial (by decide) dJ7_fill_53178_13 (fun H locs ks7 kp8 hW => ?_)
        obtain ⟨kx9, ekx9⟩ : ∃ y : Int32, y = kx1 + 1 := ⟨_, rfl⟩
        have vkx9 : q_V 1 6 kx9 := by rw [ekx9]; exact (q_add kv6 (q_c (k := 1) (x := 1) (by decide)) (by decide) (by decide)).w (by decide) (by decide)
        have ikx9 : kx9.toInt = kx1.toInt + 1 := q_incT ekx9 kv6 (by decide) (by decide) (by decide)
        refine lv_iinc (v := kx9) (lv' := [(2, .int kx9), (0, .ref a1), (1, .int i2), (3, .int kx2)]) hx hb dJ7_fill_53178_14 hl (k := 2) rfl (by rw [ekx9]; rfl) (by decide) rfl (fun ls hl => ?_)
        refine lv_goto (tgt := 5) hx hb dJ7_fill_53178_17 (by decide) ?_
        exact ih5a _ _ _ kx9 (vkx9.w (by decide) (by decide)) kx2 vkx2 hW ls (lv_sub hl [1, 2, 0, 3] rfl) (Nat.lt_of_lt_of_le (q_up (ikx9) (show q_V 1 6 kx9 from vkx9).2) (Nat.le_of_lt_succ hm5a))
  refine lv_iconst (v := 0) hx hb dJ7_fill_53178_0 (by decide) ?_
  refine lv_istore_n (lv' := [(2, .int 0), (0, .ref a1), (1, .int i2)]) hx hb dJ7_fill_53178_1 rfl hl (by decide) rfl (fun ls hl => ?_)
  refine lv_aload_n hx hb dJ7_fill_53178_2 rfl (lv_at hl 1 rfl) ?_
  refine q_aleni (v := 6) hE hW h1 rfl (by decide) dJ7_fill_53178_3 ?_
  refine lv_istore_n (lv' := [(3, .int 6), (2, .int 0), (0, .ref a1), (1, .int i2)]) hx hb dJ7_fill_53178_4 rfl hl (by decide) rfl (fun ls hl => ?_)
  exact lp5a _ _ _ _ 0 ((q_c (k := 0) (x := 0) (by decide)).w (by decide) (by decide)) 6 (q_c (k := 6) (x := 6) (by decide)) hW ls (lv_sub hl [2, 3, 1, 0] rfl) (Nat.lt_succ_self _)
set_option maxHeartbeats 4000000 in
set_option maxRecDepth 100000 in
theorem c_J7_fill_53178_t20 (l : Launch) (G : q_G) (σ : q_S) (a1 : Nat) (h1 : q_T G a1 = 20) (i2 : Int32)  : Met l yJ7_fill_53178 (Cond.code yJ7_fill_53178 cJ7_fill_53178 4 none :: wsL_law) (q_Rm 1) (q_Pre G σ [.ref a1, .int i2]) (q_Qv G [20] σ (fun σ1 => True)) 0 0 (q_N G) := by
  refine q_ofW (ts := [20]) (by decide) (Nat.le_of_ble_eq_true rfl) ?_
  intro p e s m args below meth c hE hr hlocks hW ls hl
  have hE : q_E G p s m args c cJ7_fill_53178 4 RJ7 := hE
  have hx := hE.1.1
  have hb := hE.1.2.1
  have hl : lv_has ls 4 [(0, .ref a1), (1, .int i2)] := hl
  have lp5a : ∀ (n5a : Nat) (ks3 : q_S) (H : Heap) (locs : List Loc) (kx1 : Int32) (vkx1 : q_V 0 6 kx1) (kx2 : Int32) (vkx2 : q_V 6 6 kx2) (hW : q_Wd G [20] σ s.heap ks3 H locs) (ls : Array Slot) (hl : lv_has ls 4 [(0, .ref a1), (1, .int i2), (2, .int kx1), (3, .int kx2)]), (6 - kx1.toInt).toNat < n5a → W p l e (q_Rm 1) s m args below meth c H locs 0 0 (MQ below (q_Qv G [20] σ (fun σ1 => True)) args s 0 0 (q_N G)) (F0 m 5 ls []) := by
    intro n5a
    induction n5a with
    | zero => intro _ _ _ _ _ _ _ _ _ _; exact fun h => absurd h (Nat.not_lt_zero _)
    | succ n5a ih5a =>
      intro ks3 H locs kx1 vkx1 kx2 vkx2 hW ls hl hm5a
      refine lv_iload_n hx hb dJ7_fill_53178_5 rfl (lv_at hl 2 rfl) ?_
      refine lv_iload_n hx hb dJ7_fill_53178_6 rfl (lv_at hl 3 rfl) ?_
      refine lv_icmp_ge (tgt := 20) hx hb dJ7_fill_53178_7 (by decide) (fun kc4 => ?_) (fun kc4 => ?_)
      · have kv5 : q_V 6 6 kx1 := (q_le2 vkx2 vkx1 kc4).w (by decide) (by decide)
        exact q_retv hE hr hlocks hW (trivial) dJ7_fill_53178_20
      · have kv6 : q_V 0 5 kx1 := (q_lt1 vkx1 vkx2 (Int32.not_le.mp kc4)).w (by decide) (by decide)
        refine lv_aload_n hx hb dJ7_fill_53178_10 rfl (lv_at hl 0 rfl) ?_
        refine lv_iload_n hx hb dJ7_fill_53178_11 rfl (lv_at hl 2 rfl) ?_
        refine lv_iload_n hx hb dJ7_fill_53178_12 rfl (lv_at hl 1 rfl) ?_
        refine q_iast hE hW h1 rfl (q_in kv6 (by decide) (by decide)) trivial (by decide) dJ7_fill_53178_13 (fun H locs ks7 kp8 hW => ?_)
        obtain ⟨kx9, ekx9⟩ : ∃ y : Int32, y = kx1 + 1 := ⟨_, rfl⟩
        have vkx9 : q_V 1 6 kx9 := by rw [ekx9]; exact (q_add kv6 (q_c (k := 1) (x := 1) (by decide)) (by decide) (by decide)).w (by decide) (by decide)
        have ikx9 : kx9.toInt = kx1.toInt + 1 := q_incT ekx9 kv6 (by decide) (by decide) (by decide)
        refine lv_iinc (v := kx9) (lv' := [(2, .int kx9), (0, .ref a1), (1, .int i2), (3, .int kx2)]) hx hb dJ7_fill_53178_14 hl (k := 2) rfl (by rw [ekx9]; rfl) (by decide) rfl (fun ls hl => ?_)
        refine lv_goto (tgt := 5) hx hb dJ7_fill_53178_17 (by decide) ?_
        exact ih5a _ _ _ kx9 (vkx9.w (by decide) (by decide)) kx2 vkx2 hW ls (lv_sub hl [1, 2, 0, 3] rfl) (Nat.lt_of_lt_of_le (q_up (ikx9) (show q_V 1 6 kx9 from vkx9).2) (Nat.le_of_lt_succ hm5a))
  refine lv_iconst (v := 0) hx hb dJ7_fill_53178_0 (by decide) ?_
  refine lv_istore_n (lv' := [(2, .int 0), (0, .ref a1), (1, .int i2)]) hx hb dJ7_fill_53178_1 rfl hl (by decide) rfl (fun ls hl => ?_)
  refine lv_aload_n hx hb dJ7_fill_53178_2 rfl (lv_at hl 1 rfl) ?_
  refine q_aleni (v := 6) hE hW h1 rfl (by decide) dJ7_fill_53178_3 ?_
  refine lv_istore_n (lv' := [(3, .int 6), (2, .int 0), (0, .ref a1), (1, .int i2)]) hx hb dJ7_fill_53178_4 rfl hl (by decide) rfl (fun ls hl => ?_)
  exact lp5a _ _ _ _ 0 ((q_c (k := 0) (x := 0) (by decide)).w (by decide) (by decide)) 6 (q_c (k := 6) (x := 6) (by decide)) hW ls (lv_sub hl [2, 3, 1, 0] rfl) (Nat.lt_succ_self _)
set_option maxHeartbeats 4000000 in
set_option maxRecDepth 100000 in
theorem c_J7_fill_53178_t24 (l : Launch) (G : q_G) (σ : q_S) (a1 : Nat) (h1 : q_T G a1 = 24) (i2 : Int32)  : Met l yJ7_fill_53178 (Cond.code yJ7_fill_53178 cJ7_fill_53178 4 none :: wsL_law) (q_Rm 1) (q_Pre G σ [.ref a1, .int i2]) (q_Qv G [24] σ (fun σ1 => True)) 0 0 (q_N G) := by
  refine q_ofW (ts := [24]) (by decide) (Nat.le_of_ble_eq_true rfl) ?_
  intro p e s m args below meth c hE hr hlocks hW ls hl
  have hE : q_E G p s m args c cJ7_fill_53178 4 RJ7 := hE
  have hx := hE.1.1
  have hb := hE.1.2.1
  have hl : lv_has ls 4 [(0, .ref a1), (1, .int i2)] := hl
  have lp5a : ∀ (n5a : Nat) (ks3 : q_S) (H : Heap) (locs : List Loc) (kx1 : Int32) (vkx1 : q_V 0 16 kx1) (kx2 : Int32) (vkx2 : q_V 16 16 kx2) (hW : q_Wd G [24] σ s.heap ks3 H locs) (ls : Array Slot) (hl : lv_has ls 4 [(0, .ref a1), (1, .int i2), (2, .int kx1), (3, .int kx2)]), (16 - kx1.toInt).toNat < n5a → W p l e (q_Rm 1) s m args below meth c H locs 0 0 (MQ below (q_Qv G [24] σ (fun σ1 => True)) args s 0 0 (q_N G)) (F0 m 5 ls []) := by
    intro n5a
    induction n5a with
    | zero => intro _ _ _ _ _ _ _ _ _ _; exact fun h => absurd h (Nat.not_lt_zero _)
    | succ n5a ih5a =>
      intro ks3 H locs kx1 vkx1 kx2 vkx2 hW ls hl hm5a
      refine lv_iload_n hx hb dJ7_fill_53178_5 rfl (lv_at hl 2 rfl) ?_
      refine lv_iload_n hx hb dJ7_fill_53178_6 rfl (lv_at hl 3 rfl) ?_
      refine lv_icmp_ge (tgt := 20) hx hb dJ7_fill_53178_7 (by decide) (fun kc4 => ?_) (fun kc4 => ?_)
      · have kv5 : q_V 16 16 kx1 := (q_le2 vkx2 vkx1 kc4).w (by decide) (by decide)
        exact q_retv hE hr hlocks hW (trivial) dJ7_fill_53178_20
      · have kv6 : q_V 0 15 kx1 := (q_lt1 vkx1 vkx2 (Int32.not_le.mp kc4)).w (by decide) (by decide)
        refine lv_aload_n hx hb dJ7_fill_53178_10 rfl (lv_at hl 0 rfl) ?_
        refine lv_iload_n hx hb dJ7_fill_53178_11 rfl (lv_at hl 2 rfl) ?_
        refine lv_iload_n hx hb dJ7_fill_53178_12 rfl (lv_at hl 1 rfl) ?_
        refine q_iast hE hW h1 rfl (q_in kv6 (by decide) (by decide)) trivial (by decide) dJ7_fill_53178_13 (fun H locs ks7 kp8 hW => ?_)
        obtain ⟨kx9, ekx9⟩ : ∃ y : Int32, y = kx1 + 1 := ⟨_, rfl⟩
        have vkx9 : q_V 1 16 kx9 := by rw [ekx9]; exact (q_add kv6 (q_c (k := 1) (x := 1) (by decide)) (by decide) (by decide)).w (by decide) (by decide)
        have ikx9 : kx9.toInt = kx1.toInt + 1 := q_incT ekx9 kv6 (by decide) (by decide) (by decide)
        refine lv_iinc (v := kx9) (lv' := [(2, .int kx9), (0, .ref a1), (1, .int i2), (3, .int kx2)]) hx hb dJ7_fill_53178_14 hl (k := 2) rfl (by rw [ekx9]; rfl) (by decide) rfl (fun ls hl => ?_)
        refine lv_goto (tgt := 5) hx hb dJ7_fill_53178_17 (by decide) ?_
        exact ih5a _ _ _ kx9 (vkx9.w (by decide) (by decide)) kx2 vkx2 hW ls (lv_sub hl [1, 2, 0, 3] rfl) (Nat.lt_of_lt_of_le (q_up (ikx9) (show q_V 1 16 kx9 from vkx9).2) (Nat.le_of_lt_succ hm5a))
  refine lv_iconst (v := 0) hx hb dJ7_fill_53178_0 (by decide) ?_
  refine lv_istore_n (lv' := [(2, .int 0), (0, .ref a1), (1, .int i2)]) hx hb dJ7_fill_53178_1 rfl hl (by decide) rfl (fun ls hl => ?_)
  refine lv_aload_n hx hb dJ7_fill_53178_2 rfl (lv_at hl 1 rfl) ?_
  refine q_aleni (v := 16) hE hW h1 rfl (by decide) dJ7_fill_53178_3 ?_
  refine lv_istore_n (lv' := [(3, .int 16), (2, .int 0), (0, .ref a1), (1, .int i2)]) hx hb dJ7_fill_53178_4 rfl hl (by decide) rfl (fun ls hl => ?_)
  exact lp5a _ _ _ _ 0 ((q_c (k := 0) (x := 0) (by decide)).w (by decide) (by decide)) 16 (q_c (k := 16) (x := 16) (by decide)) hW ls (lv_sub hl [2, 3, 1, 0] rfl) (Nat.lt_succ_self _)
set_option maxHeartbeats 4000000 in
set_option maxRecDepth 100000 in
theorem c_J6_bitCount_0f7a4 (l : Launch) (G : q_G) (σ : q_S) (i1 : Int32)  : Met l yJ6_bitCount_0f7a4 (Cond.code yJ6_bitCount_0f7a4 cJ6_bitCount_0f7a4 1 (some .int) :: wsL_law) (q_Rm 1) (q_Pre G σ [.int i1]) (q_Qi G [] σ (fun r σ1 => q_V 0 63 r)) 0 0 (q_N G) := by
  refine q_ofW (ts := []) (by decide) (Nat.le_of_ble_eq_true rfl) ?_
  intro p e s m args below meth c hE hr hlocks hW ls hl
  have hE : q_E G p s m args c cJ6_bitCount_0f7a4 1 RJ6 := hE
  have hx := hE.1.1
  have hb := hE.1.2.1
  have hl : lv_has ls 1 [(0, .int i1)] := hl
  refine lv_iload_n hx hb dJ6_bitCount_0f7a4_0 rfl (lv_at hl 0 rfl) ?_
  refine lv_iload_n hx hb dJ6_bitCount_0f7a4_1 rfl (lv_at hl 0 rfl) ?_
  refine lv_iconst (v := 1) hx hb dJ6_bitCount_0f7a4_2 (by decide) ?_
  refine t_iushr hx hb dJ6_bitCount_0f7a4_3 rfl ?_
  refine lv_topi (fun kx1 ekx1 => ?_)
  refine lv_ldcw (v := 1431655765) hx hb hE.1.2.2.2.1 (hE.w wl_804) dJ6_bitCount_0f7a4_4 ?_
  refine lv_iand hx hb dJ6_bitCount_0f7a4_7 ?_
  refine lv_topi (fun kx2 ekx2 => ?_)
  refine lv_isub hx hb dJ6_bitCount_0f7a4_8 ?_
  refine lv_topi (fun kx3 ekx3 => ?_)
  refine lv_istore_n (lv' := [(0, .int kx3)]) hx hb dJ6_bitCount_0f7a4_9 rfl hl (by decide) rfl (fun ls hl => ?_)
  refine lv_iload_n hx hb dJ6_bitCount_0f7a4_10 rfl (lv_at hl 0 rfl) ?_
  refine lv_ldcw (v := 858993459) hx hb hE.1.2.2.2.1 (hE.w wl_805) dJ6_bitCount_0f7a4_11 ?_
  refine lv_iand hx hb dJ6_bitCount_0f7a4_14 ?_
  refine lv_topi (fun kx4 ekx4 => ?_)
  refine lv_iload_n hx hb dJ6_bitCount_0f7a4_15 rfl (lv_at hl 0 rfl) ?_
  refine lv_iconst (v := 2) hx hb dJ6_bitCount_0f7a4_16 (by decide) ?_
  refine t_iushr hx hb dJ6_bitCount_0f7a4_17 rfl ?_
  refine lv_topi (fun kx5 ekx5 => ?_)
  refine lv_ldcw (v := 858993459) hx hb hE.1.2.2.2.1 (hE.w wl_805) dJ6_bitCount_0f7a4_18 ?_
  refine lv_iand hx hb dJ6_bitCount_0f7a4_21 ?_
  refine lv_topi (fun kx6 ekx6 => ?_)
  refine lv_iadd hx hb dJ6_bitCount_0f7a4_22 ?_
  refine lv_topi (fun kx7 ekx7 => ?_)
  refine lv_istore_n (lv' := [(0, .int kx7)]) hx hb dJ6_bitCount_0f7a4_23 rfl hl (by decide) rfl (fun ls hl => ?_)
  refine lv_iload_n hx hb dJ6_bitCount_0f7a4_24 rfl (lv_at hl 0 rfl) ?_
  refine lv_iload_n hx hb dJ6_bitCount_0f7a4_25 rfl (lv_at hl 0 rfl) ?_
  refine lv_iconst (v := 4) hx hb dJ6_bitCount_0f7a4_26 (by decide) ?_
  refine t_iushr hx hb dJ6_bitCount_0f7a4_27 rfl ?_
  refine lv_topi (fun kx8 ekx8 => ?_)
  refine lv_iadd hx hb dJ6_bitCount_0f7a4_28 ?_
  refine lv_topi (fun kx9 ekx9 => ?_)
  refine lv_ldcw (v := 252645135) hx hb hE.1.2.2.2.1 (hE.w wl_806) dJ6_bitCount_0f7a4_29 ?_
  refine lv_iand hx hb dJ6_bitCount_0f7a4_32 ?_
  refine lv_topi (fun kx10 ekx10 => ?_)
  refine lv_istore_n (lv' := [(0, .int kx10)]) hx hb dJ6_bitCount_0f7a4_33 rfl hl (by decide) rfl (fun ls hl => ?_)
  refine lv_iload_n hx hb dJ6_bitCount_0f7a4_34 rfl (lv_at hl 0 rfl) ?_
  refine lv_iload_n hx hb dJ6_bitCount_0f7a4_35 rfl (lv_at hl 0 rfl) ?_
  refine lv_bipush (v := 8) hx hb dJ6_bitCount_0f7a4_36 (by decide) ?_
  refine t_iushr hx hb dJ6_bitCount_0f7a4_38 rfl ?_
  refine lv_topi (fun kx11 ekx11 => ?_)
  refine lv_iadd hx hb dJ6_bitCount_0f7a4_39 ?_
  refine lv_topi (fun kx12 ekx12 => ?_)
  refine lv_istore_n (lv' := [(0, .int kx12)]) hx hb dJ6_bitCount_0f7a4_40 rfl hl (by decide) rfl (fun ls hl => ?_)
  refine lv_iload_n hx hb dJ6_bitCount_0f7a4_41 rfl (lv_at hl 0 rfl) ?_
  refine lv_iload_n hx hb dJ6_bitCount_0f7a4_42 rfl (lv_at hl 0 rfl) ?_
  refine lv_bipush (v := 16) hx hb dJ6_bitCount_0f7a4_43 (by decide) ?_
  refine t_iushr hx hb dJ6_bitCount_0f7a4_45 rfl ?_
  refine lv_topi (fun kx13 ekx13 => ?_)
  refine lv_iadd hx hb dJ6_bitCount_0f7a4_46 ?_
  refine lv_topi (fun kx14 ekx14 => ?_)
  refine lv_istore_n (lv' := [(0, .int kx14)]) hx hb dJ6_bitCount_0f7a4_47 rfl hl (by decide) rfl (fun ls hl => ?_)
  refine lv_iload_n hx hb dJ6_bitCount_0f7a4_48 rfl (lv_at hl 0 rfl) ?_
  refine lv_bipush (v := 63) hx hb dJ6_bitCount_0f7a4_49 (by decide) ?_
  refine lv_iand hx hb dJ6_bitCount_0f7a4_51 ?_
  refine lv_topi (fun kx15 ekx15 => ?_)
  have vkx15 : q_V 0 63 kx15 := by rw [ekx15]; exact (q_andm 6 (by decide) (by decide)).w (by decide) (by decide)
  exact q_reti hE hr hlocks hW (vkx15) dJ6_bitCount_0f7a4_52
set_option maxHeartbeats 4000000 in
set_option maxRecDepth 100000 in
theorem c_X1_begin (l : Launch) (G : q_G) (σ : q_S) (a0 : Nat) (h0 : q_T G a0 = 5) (a1 : Nat) (h1a : (1 : Int) ≤ (q_T G a1 : Int))  (h1b : (q_T G a1 : Int) ≤ 4) (i2 : Int32) (i3 : Int32)  : Met l yX1_begin (Cond.code yX1_begin cX1_begin 4 none :: wsL_law) (q_Rm 2) (q_Pre G σ [.ref a0, .ref a1, .int i2, .int i3]) (q_Qv G [5, 6] σ (fun σ1 => True)) 0 0 (q_N G) := by
  refine q_ofW (ts := [5, 6]) (by decide) (Nat.le_of_ble_eq_true rfl) ?_
  intro p e s m args below meth c hE hr hlocks hW ls hl
  have hE : q_E G p s m args c cX1_begin 4 RX1 := hE
  have hx := hE.1.1
  have hb := hE.1.2.1
  have hl : lv_has ls 4 [(0, .ref a0), (1, .ref a1), (2, .int i2), (3, .int i3)] := hl
  refine lv_aload_n hx hb dX1_begin_0 rfl (lv_at hl 0 rfl) ?_
  refine lv_aload_n hx hb dX1_begin_1 rfl (lv_at hl 1 rfl) ?_
  refine q_putr hE hW h0 rfl q_k1 tyX1 tyX1_ok 0 (by decide) rfl (hE.l wl_95) rfl rfl rfl h1a h1b (by decide) dX1_begin_2 (fun H locs ks1 kp2 hW => ?_)
  refine lv_aload_n hx hb dX1_begin_5 rfl (lv_at hl 0 rfl) ?_
  refine lv_iload_n hx hb dX1_begin_6 rfl (lv_at hl 2 rfl) ?_
  refine q_puti hE hW h0 rfl q_k1 tyX1 tyX1_ok 1 (by decide) rfl (hE.l wl_210) rfl rfl rfl (q_all i2) (by decide) dX1_begin_7 (fun H locs ks3 kp4 hW => ?_)
  refine lv_aload_n hx hb dX1_begin_10 rfl (lv_at hl 0 rfl) ?_
  refine lv_iload_n hx hb dX1_begin_11 rfl (lv_at hl 3 rfl) ?_
  refine q_puti hE hW h0 rfl q_k1 tyX1 tyX1_ok 2 (by decide) rfl (hE.l wl_211) rfl rfl rfl (q_all i3) (by decide) dX1_begin_12 (fun H locs ks5 kp6 hW => ?_)
  refine lv_aload_n hx hb dX1_begin_15 rfl (lv_at hl 0 rfl) ?_
  refine lv_iconst (v := 0) hx hb dX1_begin_16 (by decide) ?_
  refine q_puti hE hW h0 rfl q_k1 tyX1 tyX1_ok 3 (by decide) rfl (hE.l wl_212) rfl rfl rfl ((q_c (k := 0) (x := 0) (by decide)).w (by decide) (by decide)) (by decide) dX1_begin_17 (fun H locs ks7 kp8 hW => ?_)
  refine lv_aload_n hx hb dX1_begin_20 rfl (lv_at hl 0 rfl) ?_
  refine lv_iconst (v := 0) hx hb dX1_begin_21 (by decide) ?_
  refine q_puti hE hW h0 rfl q_k1 tyX1 tyX1_ok 4 (by decide) rfl (hE.l wl_213) rfl rfl rfl ((q_c (k := 0) (x := 0) (by decide)).w (by decide) (by decide)) (by decide) dX1_begin_22 (fun H locs ks9 kp10 hW => ?_)
  refine lv_aload_n hx hb dX1_begin_25 rfl (lv_at hl 0 rfl) ?_
  refine q_getr hE hW h0 rfl q_k1 5 (by decide) rfl (hE.l wl_96) dX1_begin_26 (fun kb11 ekb11 hkb11a hkb11b => ?_)
  have hkb11 : q_T G kb11 = 6 := q_tag hkb11a hkb11b
  refine lv_iconst (v := 0) hx hb dX1_begin_29 (by decide) ?_
  refine q_gov hW (q_runS (As := [.ref kb11, .int 0]) (rest := []) hE hW (c_J7_fill_53178_t6 l G ks9 kb11 hkb11 0) kw_X1_38 rfl hl.1 rfl (Nat.le_of_ble_eq_true rfl) dX1_begin_30 ⟨by decide, by decide⟩ ⟨by decide, by decide⟩) (by decide) (fun ks13 H locs kp12 kf14 hW => ?_)
  exact q_retv hE hr hlocks hW (trivial) dX1_begin_33
set_option maxHeartbeats 4000000 in
set_option maxRecDepth 100000 in
theorem c_X1_hoursAs (l : Launch) (G : q_G) (σ : q_S) (a0 : Nat) (h0 : q_T G a0 = 5) (a1 : Nat) (h1a : (1 : Int) ≤ (q_T G a1 : Int))  (h1b : (q_T G a1 : Int) ≤ 4) (i2 : Int32)  : Met l yX1_hoursAs (Cond.code yX1_hoursAs cX1_hoursAs 6 (some .int) :: wsL_law) (q_Rm 4) (q_Pre G σ [.ref a0, .ref a1, .int i2]) (q_Qi G [] σ (fun r σ1 => q_V (-2147483648) 2147483647 r)) 0 0 (q_N G) := by
  refine q_ofW (ts := []) (by decide) (Nat.le_of_ble_eq_true rfl) ?_
  intro p e s m args below meth c hE hr hlocks hW ls hl
  have hE : q_E G p s m args c cX1_hoursAs 6 RX1 := hE
  have hx := hE.1.1
  have hb := hE.1.2.1
  have hl : lv_has ls 6 [(0, .ref a0), (1, .ref a1), (2, .int i2)] := hl
  have jn61a : ∀ (ks3 : q_S) (H : Heap) (locs : List Loc) (kx1 : Int32) (kx2 : Int32) (vkx2 : q_V 0 1 kx2) (hW : q_Wd G [] σ s.heap ks3 H locs) (ls : Array Slot) (hl : lv_has ls 6 [(4, .int kx1)]), W p l e (q_Rm 4) s m args below meth c H locs 0 0 (MQ below (q_Qi G [] σ (fun r σ1 => q_V (-2147483648) 2147483647 r)) args s 0 0 (q_N G)) (F0 m 61 ls [.int kx2]) := by
    intro ks3 H locs kx1 kx2 vkx2 hW ls hl
    refine lv_istore (lv' := [(5, .int kx2), (4, .int kx1)]) hx hb dX1_hoursAs_61 hl (by decide) rfl (fun ls hl => ?_)
    refine lv_iload hx hb dX1_hoursAs_63 (lv_at hl 1 rfl) ?_
    refine lv_bipush (v := 60) hx hb dX1_hoursAs_65 (by decide) ?_
    refine lv_icmp_gt (tgt := 80) hx hb dX1_hoursAs_67 (by decide) (fun kc4 => ?_) (fun kc4 => ?_)
    · have kv5 : q_V 61 2147483647 kx1 := (q_lt2 (q_c (k := 60) (x := 60) (by decide)) (q_all kx1) kc4).w (by decide) (by decide)
      refine lv_iconst (v := (-1)) hx hb dX1_hoursAs_80 (by decide) ?_
      exact q_reti hE hr hlocks hW (((q_c (k := (-1)) (x := (-1)) (by decide)).w (by decide) (by decide))) dX1_hoursAs_81
    · have kv6 : q_V (-2147483648) 60 kx1 := (q_le1 (q_all kx1) (q_c (k := 60) (x := 60) (by decide)) (Int32.not_lt.mp kc4)).w (by decide) (by decide)
      refine lv_iload hx hb dX1_hoursAs_70 (lv_at hl 0 rfl) ?_
      refine lv_if_eq (tgt := 80) hx hb dX1_hoursAs_72 (by decide) (fun kc7 => ?_) (fun kc7 => ?_)
      · have kv8 : q_V 0 0 kx2 := q_eq1 vkx2 (q_c (k := 0) (x := 0) (by decide)) kc7 (by decide) (by decide)
        refine lv_iconst (v := (-1)) hx hb dX1_hoursAs_80 (by decide) ?_
        exact q_reti hE hr hlocks hW (((q_c (k := (-1)) (x := (-1)) (by decide)).w (by decide) (by decide))) dX1_hoursAs_81
      · have kv9 : q_V 1 1 kx2 := q_ne1 vkx2 (q_c (k := 0) (x := 0) (by decide)) kc7 (by decide)
        refine lv_iload hx hb dX1_hoursAs_75 (lv_at hl 1 rfl) ?_
        refine lv_goto (tgt := 81) hx hb dX1_hoursAs_77 (by decide) ?_
        exact q_reti hE hr hlocks hW ((kv6.w (by decide) (by decide))) dX1_hoursAs_81
  refine lv_aload_n hx hb dX1_hoursAs_0 rfl (lv_at hl 1 rfl) ?_
  refine lv_iload_n hx hb dX1_hoursAs_1 rfl (lv_at hl 2 rfl) ?_
  refine q_goi hW (kd_X1_53 l (rest := []) (i2) hE hW h1a h1b hl.1 rfl (Nat.le_of_ble_eq_true rfl) dX1_hoursAs_2 ⟨by decide, by decide⟩ ⟨by decide, by decide⟩) (by decide) (fun kx13 ks11 H locs kp10 kf12 hW => ?_)
  refine lv_istore_n (lv' := [(3, .int kx13), (0, .ref a0), (1, .ref a1), (2, .int i2)]) hx hb dX1_hoursAs_5 rfl hl (by decide) rfl (fun ls hl => ?_)
  refine lv_aload_n hx hb dX1_hoursAs_6 rfl (lv_at hl 1 rfl) ?_
  refine q_geti hE hW h0 rfl q_k1 3 (by decide) rfl (hE.l wl_212) dX1_hoursAs_7 (fun kx14 ekx14 vkx14 => ?_)
  refine lv_iconst (v := 3) hx hb dX1_hoursAs_10 (by decide) ?_
  refine lv_icmp_eq (tgt := 27) hx hb dX1_hoursAs_11 (by decide) (fun kc15 => ?_) (fun kc15 => ?_)
  · have kv16 : q_V 3 3 kx14 := q_eq1 (q_all kx14) (q_c (k := 3) (x := 3) (by decide)) kc15 (by decide) (by decide)
    refine lv_iconst (v := (-1)) hx hb dX1_hoursAs_27 (by decide) ?_
    exact q_reti hE hr hlocks hW (((q_c (k := (-1)) (x := (-1)) (by decide)).w (by decide) (by decide))) dX1_hoursAs_28
  · refine lv_aload_n hx hb dX1_hoursAs_14 rfl (lv_at hl 1 rfl) ?_
    refine q_geti hE hW h0 rfl q_k1 3 (by decide) rfl (hE.l wl_212) dX1_hoursAs_15 (fun kx17 ekx17 vkx17 => ?_)
    obtain rfl : kx14 = kx17 := ekx14.symm.trans ekx17
    refine lv_iconst (v := 4) hx hb dX1_hoursAs_18 (by decide) ?_
    refine lv_icmp_eq (tgt := 27) hx hb dX1_hoursAs_19 (by decide) (fun kc18 => ?_) (fun kc18 => ?_)
    · have kv19 : q_V 4 4 kx14 := q_eq1 (q_all kx14) (q_c (k := 4) (x := 4) (by decide)) kc18 (by decide) (by decide)
      refine lv_iconst (v := (-1)) hx hb dX1_hoursAs_27 (by decide) ?_
      exact q_reti hE hr hlocks hW (((q_c (k := (-1)) (x := (-1)) (by decide)).w (by decide) (by decide))) dX1_hoursAs_28
    · refine lv_iload_n hx hb dX1_hoursAs_22 rfl (lv_at hl 0 rfl) ?_
      refine lv_iconst (v := 1) hx hb dX1_hoursAs_23 (by decide) ?_
      refine lv_icmp_ge (tgt := 29) hx hb dX1_hoursAs_24 (by decide) (fun kc20 => ?_) (fun kc20 => ?_)
      · have kv21 : q_V 1 2147483647 kx13 := (q_le2 (q_c (k := 1) (x := 1) (by decide)) (q_all kx13) kc20).w (by decide) (by decide)
        refine lv_aload_n hx hb dX1_hoursAs_29 rfl (lv_at hl 1 rfl) ?_
        refine q_goi hW (q_runV (As := []) (rest := []) hE hW (c_X1_allDeep l G ks11 a0 h0) kw_X1_44 (q_recv hE hW h0 rfl q_k1) rfl hl.1 rfl (Nat.le_of_ble_eq_true rfl) dX1_hoursAs_30 ⟨by decide, by decide⟩ ⟨by decide, by decide⟩) (by decide) (fun kx25 ks23 H locs kp22 kf24 hW => ?_)
        refine lv_iload_n hx hb dX1_hoursAs_33 rfl (lv_at hl 0 rfl) ?_
        refine lv_iadd hx hb dX1_hoursAs_34 ?_
        refine lv_topi (fun kx26 ekx26 => ?_)
        refine lv_iconst (v := 1) hx hb dX1_hoursAs_35 (by decide) ?_
        refine lv_isub hx hb dX1_hoursAs_36 ?_
        refine lv_topi (fun kx27 ekx27 => ?_)
        refine lv_iload_n hx hb dX1_hoursAs_37 rfl (lv_at hl 0 rfl) ?_
        refine lv_idiv hx hb dX1_hoursAs_38 (q_ne0 kv21 (by decide)) ?_
        refine lv_topi (fun kx28 ekx28 => ?_)
        refine lv_istore (lv' := [(4, .int kx28), (3, .int kx13), (0, .ref a0), (1, .ref a1), (2, .int i2)]) hx hb dX1_hoursAs_39 hl (by decide) rfl (fun ls hl => ?_)
        refine lv_aload_n hx hb dX1_hoursAs_41 rfl (lv_at hl 2 rfl) ?_
        refine q_geti hE hW h0 rfl q_k1 1 (by decide) rfl (hE.l wl_210) dX1_hoursAs_42 (fun kx29 ekx29 vkx29 => ?_)
        refine lv_iload hx hb dX1_hoursAs_45 (lv_at hl 0 rfl) ?_
        refine lv_aload_n hx hb dX1_hoursAs_47 rfl (lv_at hl 3 rfl) ?_
        refine q_goi hW (kd_X1_57 l (rest := [.int kx28, .int kx29]) hE hW h1a h1b hl.1 rfl (Nat.le_of_ble_eq_true rfl) dX1_hoursAs_48 ⟨by decide, by decide⟩ ⟨by decide, by decide⟩) (by decide) (fun kx33 ks31 H locs kp30 kf32 hW => ?_)
        refine lv_imul hx hb dX1_hoursAs_51 ?_
        refine lv_topi (fun kx34 ekx34 => ?_)
        refine lv_isub hx hb dX1_hoursAs_52 ?_
        refine lv_topi (fun kx35 ekx35 => ?_)
        refine lv_if_le (tgt := 60) hx hb dX1_hoursAs_53 (by decide) (fun kc36 => ?_) (fun kc36 => ?_)
        · have kv37 : q_V (-2147483648) 0 kx35 := (q_le1 (q_all kx35) (q_c (k := 0) (x := 0) (by decide)) kc36).w (by decide) (by decide)
          refine lv_iconst (v := 0) hx hb dX1_hoursAs_60 (by decide) ?_
          exact jn61a _ _ _ kx28 0 ((q_c (k := 0) (x := 0) (by decide)).w (by decide) (by decide)) hW ls (lv_sub hl [0] rfl)
        · have kv38 : q_V 1 2147483647 kx35 := (q_lt2 (q_c (k := 0) (x := 0) (by decide)) (q_all kx35) (Int32.not_le.mp kc36)).w (by decide) (by decide)
          refine lv_iconst (v := 1) hx hb dX1_hoursAs_56 (by decide) ?_
          refine lv_goto (tgt := 61) hx hb dX1_hoursAs_57 (by decide) ?_
          exact jn61a _ _ _ kx28 1 ((q_c (k := 1) (x := 1) (by decide)).w (by decide) (by decide)) hW ls (lv_sub hl [0] rfl)
      · have kv39 : q_V (-2147483648) 0 kx13 := (q_lt1 (q_all kx13) (q_c (k := 1) (x := 1) (by decide)) (Int32.not_le.mp kc20)).w (by decide) (by decide)
        refine lv_iconst (v := (-1)) hx hb dX1_hoursAs_27 (by decide) ?_
        exact q_reti hE hr hlocks hW (((q_c (k := (-1)) (x := (-1)) (by decide)).w (by decide) (by decide))) dX1_hoursAs_28
set_option maxHeartbeats 4000000 in
set_option maxRecDepth 100000 in
theorem c_X2_rubOnce (l : Launch) (G : q_G) (σ : q_S) (a0 : Nat) (h0 : q_T G a0 = 7) (a1 : Nat) (h1 : q_T G a1 = 5)  : Met l yX2_rubOnce (Cond.code yX2_rubOnce cX2_rubOnce 3 none :: wsL_law) (q_Rm 2) (q_Pre G σ [.ref a0, .ref a1]) (q_Qv G [6, 7, 12] σ (fun σ1 => True)) 0 0 (q_N G) := by
  refine q_ofW (ts := [6, 7, 12]) (by decide) (Nat.le_of_ble_eq_true rfl) ?_
  intro p e s m args below meth c hE hr hlocks hW ls hl
  have hE : q_E G p s m args c cX2_rubOnce 3 RX2 := hE
  have hx := hE.1.1
  have hb := hE.1.2.1
  have hl : lv_has ls 3 [(0, .ref a0), (1, .ref a1)] := hl
  have jn13a : ∀ (ks3 : q_S) (H : Heap) (locs : List Loc) (kb1 : Nat) (hkb1 : q_T G kb1 = 5) (kx2 : Int32) (vkx2 : q_V 0 1 kx2) (hW : q_Wd G [6, 7, 12] σ s.heap ks3 H locs) (ls : Array Slot) (hl : lv_has ls 3 [(0, .ref a0), (1, .ref a1)]), W p l e (q_Rm 2) s m args below meth c H locs 0 0 (MQ below (q_Qv G [6, 7, 12] σ (fun σ1 => True)) args s 0 0 (q_N G)) (F0 m 13 ls [.int kx2, .ref kb1]) := by
    intro ks3 H locs kb1 hkb1 kx2 vkx2 hW ls hl
    refine q_goi hW (q_runV (As := [.int kx2]) (rest := []) hE hW (c_X1_deepest l G ks3 kb1 hkb1 kx2 vkx2) kw_X2_115 (q_recv hE hW hkb1 rfl q_k1) rfl hl.1 rfl (Nat.le_of_ble_eq_true rfl) dX2_rubOnce_13 ⟨by decide, by decide⟩ ⟨by decide, by decide⟩) (by decide) (fun kx7 ks5 H locs kp4 kf6 hW => ?_)
    refine lv_istore_n (lv' := [(2, .int kx7), (0, .ref a0), (1, .ref a1)]) hx hb dX2_rubOnce_16 rfl hl (by decide) rfl (fun ls hl => ?_)
    refine lv_iload_n hx hb dX2_rubOnce_17 rfl (lv_at hl 0 rfl) ?_
    refine lv_if_lt (tgt := 27) hx hb dX2_rubOnce_18 (by decide) (fun kc8 => ?_) (fun kc8 => ?_)
    · have kv9 : q_V (-1) (-1) kx7 := (q_lt1 kp4 (q_c (k := 0) (x := 0) (by decide)) kc8).w (by decide) (by decide)
      exact q_retv hE hr hlocks hW (trivial) dX2_rubOnce_27
    · have kv10 : q_V 0 5 kx7 := (q_le2 (q_c (k := 0) (x := 0) (by decide)) kp4 (Int32.not_lt.mp kc8)).w (by decide) (by decide)
      refine lv_iload_n hx hb dX2_rubOnce_21 rfl (lv_at hl 0 rfl) ?_
      refine lv_bipush (v := 6) hx hb dX2_rubOnce_22 (by decide) ?_
      refine lv_icmp_lt (tgt := 28) hx hb dX2_rubOnce_24 (by decide) (fun kc11 => ?_) (fun kc11 => ?_)
      · refine lv_aload_n hx hb dX2_rubOnce_28 rfl (lv_at hl 2 rfl) ?_
        refine q_getr hE hW h1 rfl q_k1 5 (by decide) rfl (hE.n 16 rfl) dX2_rubOnce_29 (fun kb12 ekb12 hkb12a hkb12b => ?_)
        have hkb12 : q_T G kb12 = 6 := q_tag hkb12a hkb12b
        refine lv_iload_n hx hb dX2_rubOnce_32 rfl (lv_at hl 0 rfl) ?_
        refine lv_dup2_11 hx hb dX2_rubOnce_33 rfl rfl ?_
        refine q_iald hE hW hkb12 rfl (q_in kv10 (by decide) (by decide)) dX2_rubOnce_34 (fun kx13 ekx13 gkx13 => ?_)
        refine lv_iconst (v := 1) hx hb dX2_rubOnce_35 (by decide) ?_
        refine lv_isub hx hb dX2_rubOnce_36 ?_
        refine lv_topi (fun kx14 ekx14 => ?_)
        refine q_iast hE hW hkb12 rfl (q_in kv10 (by decide) (by decide)) trivial (by decide) dX2_rubOnce_37 (fun H locs ks15 kp16 hW => ?_)
        refine lv_aload_n hx hb dX2_rubOnce_38 rfl (lv_at hl 1 rfl) ?_
        refine q_getr hE hW h0 rfl q_k2 5 (by decide) rfl (hE.l wl_89) dX2_rubOnce_39 (fun kb17 ekb17 hkb17a hkb17b => ?_)
        have hkb17 : q_T G kb17 = 11 := q_tag hkb17a hkb17b
        refine lv_iconst (v := 0) hx hb dX2_rubOnce_42 (by decide) ?_
        refine q_aald hE hW hkb17 rfl (q_in (q_c (k := 0) (x := 0) (by decide)) (by decide) (by decide)) dX2_rubOnce_43 (fun kb18 ekb18 hkb18a hkb18b => ?_)
        have hkb18 : q_T G kb18 = 12 := q_tag hkb18a hkb18b
        refine lv_iload_n hx hb dX2_rubOnce_44 rfl (lv_at hl 0 rfl) ?_
        refine lv_dup2_11 hx hb dX2_rubOnce_45 rfl rfl ?_
        refine q_iald hE hW hkb18 rfl (q_in kv10 (by decide) (by decide)) dX2_rubOnce_46 (fun kx19 ekx19 gkx19 => ?_)
        refine lv_bipush (v := 64) hx hb dX2_rubOnce_47 (by decide) ?_
        refine lv_iadd hx hb dX2_rubOnce_49 ?_
        refine lv_topi (fun kx20 ekx20 => ?_)
        refine q_iast hE hW hkb18 rfl (q_in kv10 (by decide) (by decide)) trivial (by decide) dX2_rubOnce_50 (fun H locs ks21 kp22 hW => ?_)
        refine lv_iload_n hx hb dX2_rubOnce_51 rfl (lv_at hl 0 rfl) ?_
        refine lv_iconst (v := 5) hx hb dX2_rubOnce_52 (by decide) ?_
        refine lv_icmp_ne (tgt := 66) hx hb dX2_rubOnce_53 (by decide) (fun kc23 => ?_) (fun kc23 => ?_)
        · have kv24 : q_V 0 4 kx7 := q_ne2 kv10 (q_c (k := 5) (x := 5) (by decide)) kc23 (by decide)
          exact q_retv hE hr hlocks hW (trivial) dX2_rubOnce_66
        · have kv25 : q_V 5 5 kx7 := q_eq1 kv10 (q_c (k := 5) (x := 5) (by decide)) kc23 (by decide) (by decide)
          refine lv_aload_n hx hb dX2_rubOnce_56 rfl (lv_at hl 1 rfl) ?_
          refine lv_dup hx hb dX2_rubOnce_57 rfl ?_
          refine q_geti hE hW h0 rfl q_k2 6 (by decide) rfl (hE.l wl_204) dX2_rubOnce_58 (fun kx26 ekx26 vkx26 => ?_)
          refine lv_iconst (v := 1) hx hb dX2_rubOnce_61 (by decide) ?_
          refine lv_isub hx hb dX2_rubOnce_62 ?_
          refine lv_topi (fun kx27 ekx27 => ?_)
          refine q_puti hE hW h0 rfl q_k2 tyX2 tyX2_ok 6 (by decide) rfl (hE.l wl_204) rfl rfl rfl (q_all kx27) (by decide) dX2_rubOnce_63 (fun H locs ks28 kp29 hW => ?_)
          exact q_retv hE hr hlocks hW (trivial) dX2_rubOnce_66
      · have kv30 : q_V 6 5 6 := (q_le1 (q_c (k := 6) (x := 6) (by decide)) kv10 (Int32.not_lt.mp kc11)).w (by decide) (by decide)
        exact (kv30.no (by decide))
  refine lv_aload_n hx hb dX2_rubOnce_0 rfl (lv_at hl 1 rfl) ?_
  refine lv_aload_n hx hb dX2_rubOnce_1 rfl (lv_at hl 0 rfl) ?_
  refine q_geti hE hW h0 rfl q_k2 6 (by decide) rfl (hE.l wl_204) dX2_rubOnce_2 (fun kx31 ekx31 vkx31 => ?_)
  refine lv_if_le (tgt := 12) hx hb dX2_rubOnce_5 (by decide) (fun kc32 => ?_) (fun kc32 => ?_)
  · have kv33 : q_V (-2147483648) 0 kx31 := (q_le1 (q_all kx31) (q_c (k := 0) (x := 0) (by decide)) kc32).w (by decide) (by decide)
    refine lv_iconst (v := 0) hx hb dX2_rubOnce_12 (by decide) ?_
    exact jn13a _ _ _ a1 h1 0 ((q_c (k := 0) (x := 0) (by decide)).w (by decide) (by decide)) hW ls (lv_sub hl [0, 1] rfl)
  · have kv34 : q_V 1 2147483647 kx31 := (q_lt2 (q_c (k := 0) (x := 0) (by decide)) (q_all kx31) (Int32.not_le.mp kc32)).w (by decide) (by decide)
    refine lv_iconst (v := 1) hx hb dX2_rubOnce_8 (by decide) ?_
    refine lv_goto (tgt := 13) hx hb dX2_rubOnce_9 (by decide) ?_
    exact jn13a _ _ _ a1 h1 1 ((q_c (k := 1) (x := 1) (by decide)).w (by decide) (by decide)) hW ls (lv_sub hl [0, 1] rfl)
set_option maxHeartbeats 4000000 in
set_option maxRecDepth 100000 in
theorem c_X2_copyFrom (l : Launch) (G : q_G) (σ : q_S) (a0 : Nat) (h0 : q_T G a0 = 7) (a1 : Nat) (h1 : q_T G a1 = 7)  : Met l yX2_copyFrom (Cond.code yX2_copyFrom cX2_copyFrom 3 none :: wsL_law) (q_Rm 2) (q_Pre G σ [.ref a0, .ref a1]) (q_Qv G [5, 6, 7, 9, 10, 12] σ (fun σ1 => True)) 0 0 (q_N G) := by
  refine q_ofW (ts := [5, 6, 7, 9, 10, 12]) (by decide) (Nat.le_of_ble_eq_true rfl) ?_
  intro p e s m args below meth c hE hr hlocks hW ls hl
  have hE : q_E G p s m args c cX2_copyFrom 3 RX2 := hE
  have hx := hE.1.1
  have hb := hE.1.2.1
  have hl : lv_has ls 3 [(0, .ref a0), (1, .ref a1)] := hl
  have lp83a : ∀ (n83a : Nat) (ks2 : q_S) (H : Heap) (locs : List Loc) (kx1 : Int32) (vkx1 : q_V 0 7 kx1) (hW : q_Wd G [5, 6, 7, 9, 10, 12] σ s.heap ks2 H locs) (ls : Array Slot) (hl : lv_has ls 3 [(0, .ref a0), (1, .ref a1), (2, .int kx1)]), (7 - kx1.toInt).toNat < n83a → W p l e (q_Rm 2) s m args below meth c H locs 0 0 (MQ below (q_Qv G [5, 6, 7, 9, 10, 12] σ (fun σ1 => True)) args s 0 0 (q_N G)) (F0 m 83 ls []) := by
    intro n83a
    induction n83a with
    | zero => intro _ _ _ _ _ _ _ _; exact fun h => absurd h (Nat.not_lt_zero _)
    | succ n83a ih83a =>
      intro ks2 H locs kx1 vkx1 hW ls hl hm83a
      refine lv_iload_n hx hb dX2_copyFrom_83 rfl (lv_at hl 2 rfl) ?_
      refine lv_bipush (v := 7) hx hb dX2_copyFrom_84 (by decide) ?_
      refine lv_icmp_ge (tgt := 114) hx hb dX2_copyFrom_86 (by decide) (fun kc3 => ?_) (fun kc3 => ?_)
      · have kv4 : q_V 7 7 kx1 := (q_le2 (q_c (k := 7) (x := 7) (by decide)) vkx1 kc3).w (by decide) (by decide)
        refine lv_aload_n hx hb dX2_copyFrom_114 rfl (lv_at hl 0 rfl) ?_
        refine lv_aload_n hx hb dX2_copyFrom_115 rfl (lv_at hl 1 rfl) ?_
        refine q_geti hE hW h1 rfl q_k2 6 (by decide) rfl (hE.l wl_204) dX2_copyFrom_116 (fun kx5 ekx5 vkx5 => ?_)
        refine q_puti hE hW h0 rfl q_k2 tyX2 tyX2_ok 6 (by decide) rfl (hE.l wl_204) rfl rfl rfl (q_all kx5) (by decide) dX2_copyFrom_119 (fun H locs ks6 kp7 hW => ?_)
        refine lv_aload_n hx hb dX2_copyFrom_122 rfl (lv_at hl 0 rfl) ?_
        refine lv_aload_n hx hb dX2_copyFrom_123 rfl (lv_at hl 1 rfl) ?_
        refine q_geti hE hW h1 rfl q_k2 7 (by decide) rfl (hE.l wl_90) dX2_copyFrom_124 (fun kx8 ekx8 vkx8 => ?_)
        refine q_puti hE hW h0 rfl q_k2 tyX2 tyX2_ok 7 (by decide) rfl (hE.l wl_90) rfl rfl rfl (q_all kx8) (by decide) dX2_copyFrom_127 (fun H locs ks9 kp10 hW => ?_)
        refine lv_aload_n hx hb dX2_copyFrom_130 rfl (lv_at hl 0 rfl) ?_
        refine lv_aload_n hx hb dX2_copyFrom_131 rfl (lv_at hl 1 rfl) ?_
        refine q_geti hE hW h1 rfl q_k2 8 (by decide) rfl (hE.l wl_205) dX2_copyFrom_132 (fun kx11 ekx11 vkx11 => ?_)
        refine q_puti hE hW h0 rfl q_k2 tyX2 tyX2_ok 8 (by decide) rfl (hE.l wl_205) rfl rfl rfl (q_all kx11) (by decide) dX2_copyFrom_135 (fun H locs ks12 kp13 hW => ?_)
        exact q_retv hE hr hlocks hW (trivial) dX2_copyFrom_138
      · have kv14 : q_V 0 6 kx1 := (q_lt1 vkx1 (q_c (k := 7) (x := 7) (by decide)) (Int32.not_le.mp kc3)).w (by decide) (by decide)
        refine lv_aload_n hx hb dX2_copyFrom_89 rfl (lv_at hl 1 rfl) ?_
        refine q_getr hE hW h1 rfl q_k2 5 (by decide) rfl (hE.l wl_89) dX2_copyFrom_90 (fun kb15 ekb15 hkb15a hkb15b => ?_)
        have hkb15 : q_T G kb15 = 11 := q_tag hkb15a hkb15b
        refine lv_iload_n hx hb dX2_copyFrom_93 rfl (lv_at hl 2 rfl) ?_
        refine q_aald hE hW hkb15 rfl (q_in kv14 (by decide) (by decide)) dX2_copyFrom_94 (fun kb16 ekb16 hkb16a hkb16b => ?_)
        have hkb16 : q_T G kb16 = 12 := q_tag hkb16a hkb16b
        refine lv_iconst (v := 0) hx hb dX2_copyFrom_95 (by decide) ?_
        refine lv_aload_n hx hb dX2_copyFrom_96 rfl (lv_at hl 0 rfl) ?_
        refine q_getr hE hW h0 rfl q_k2 5 (by decide) rfl (hE.l wl_89) dX2_copyFrom_97 (fun kb17 ekb17 hkb17a hkb17b => ?_)
        have hkb17 : q_T G kb17 = 11 := q_tag hkb17a hkb17b
        refine lv_iload_n hx hb dX2_copyFrom_100 rfl (lv_at hl 2 rfl) ?_
        refine q_aald hE hW hkb17 rfl (q_in kv14 (by decide) (by decide)) dX2_copyFrom_101 (fun kb18 ekb18 hkb18a hkb18b => ?_)
        have hkb18 : q_T G kb18 = 12 := q_tag hkb18a hkb18b
        refine lv_iconst (v := 0) hx hb dX2_copyFrom_102 (by decide) ?_
        refine lv_bipush (v := 6) hx hb dX2_copyFrom_103 (by decide) ?_
        refine q_acopy hE hW hkb16 hkb18 rfl rfl (Or.inl rfl) (by decide) (by decide) (by decide) (by decide) (by decide) (fun _ _ _ _ => trivial) (by decide) wl_200 wl_201 wl_202 wl_203 hl.1 (by decide) (Nat.le_of_ble_eq_true rfl) dX2_copyFrom_105 (fun H locs ks19 kp20 hW => ?_)
        obtain ⟨kx21, ekx21⟩ : ∃ y : Int32, y = kx1 + 1 := ⟨_, rfl⟩
        have vkx21 : q_V 1 7 kx21 := by rw [ekx21]; exact (q_add kv14 (q_c (k := 1) (x := 1) (by decide)) (by decide) (by decide)).w (by decide) (by decide)
        have ikx21 : kx21.toInt = kx1.toInt + 1 := q_incT ekx21 kv14 (by decide) (by decide) (by decide)
        refine lv_iinc (v := kx21) (lv' := [(2, .int kx21), (0, .ref a0), (1, .ref a1)]) hx hb dX2_copyFrom_108 hl (k := 2) rfl (by rw [ekx21]; rfl) (by decide) rfl (fun ls hl => ?_)
        refine lv_goto (tgt := 83) hx hb dX2_copyFrom_111 (by decide) ?_
        exact ih83a _ _ _ kx21 (vkx21.w (by decide) (by decide)) hW ls (lv_sub hl [1, 2, 0] rfl) (Nat.lt_of_lt_of_le (q_up (ikx21) (show q_V 1 7 kx21 from vkx21).2) (Nat.le_of_lt_succ hm83a))
  have jn45a : ∀ (ks22 : q_S) (H : Heap) (locs : List Loc) (hW : q_Wd G [5, 6, 7, 9, 10, 12] σ s.heap ks22 H locs) (ls : Array Slot) (hl : lv_has ls 3 [(0, .ref a0), (1, .ref a1)]), W p l e (q_Rm 2) s m args below meth c H locs 0 0 (MQ below (q_Qv G [5, 6, 7, 9, 10, 12] σ (fun σ1 => True)) args s 0 0 (q_N G)) (F0 m 45 ls []) := by
    intro ks22 H locs hW ls hl
    refine lv_aload_n hx hb dX2_copyFrom_45 rfl (lv_at hl 0 rfl) ?_
    refine lv_aload_n hx hb dX2_copyFrom_46 rfl (lv_at hl 1 rfl) ?_
    refine q_geti hE hW h1 rfl q_k2 4 (by decide) rfl (hE.l wl_199) dX2_copyFrom_47 (fun kx23 ekx23 vkx23 => ?_)
    refine q_puti hE hW h0 rfl q_k2 tyX2 tyX2_ok 4 (by decide) rfl (hE.l wl_199) rfl rfl rfl vkx23 (by decide) dX2_copyFrom_50 (fun H locs ks24 kp25 hW => ?_)
    refine lv_aload_n hx hb dX2_copyFrom_53 rfl (lv_at hl 1 rfl) ?_
    refine q_getr hE hW h1 rfl q_k2 2 (by decide) rfl (hE.l wl_86) dX2_copyFrom_54 (fun kb26 ekb26 hkb26a hkb26b => ?_)
    have hkb26 : q_T G kb26 = 9 := q_tag hkb26a hkb26b
    refine lv_iconst (v := 0) hx hb dX2_copyFrom_57 (by decide) ?_
    refine lv_aload_n hx hb dX2_copyFrom_58 rfl (lv_at hl 0 rfl) ?_
    refine q_getr hE hW h0 rfl q_k2 2 (by decide) rfl (hE.l wl_86) dX2_copyFrom_59 (fun kb27 ekb27 hkb27a hkb27b => ?_)
    have hkb27 : q_T G kb27 = 9 := q_tag hkb27a hkb27b
    refine lv_iconst (v := 0) hx hb dX2_copyFrom_62 (by decide) ?_
    refine lv_iconst (v := 3) hx hb dX2_copyFrom_63 (by decide) ?_
    refine q_acopy hE hW hkb26 hkb27 rfl rfl (Or.inl rfl) (by decide) (by decide) (by decide) (by decide) (by decide) (fun _ _ _ _ => trivial) (by decide) wl_200 wl_201 wl_202 wl_203 hl.1 (by decide) (Nat.le_of_ble_eq_true rfl) dX2_copyFrom_64 (fun H locs ks28 kp29 hW => ?_)
    refine lv_aload_n hx hb dX2_copyFrom_67 rfl (lv_at hl 1 rfl) ?_
    refine q_getr hE hW h1 rfl q_k2 3 (by decide) rfl (hE.l wl_87) dX2_copyFrom_68 (fun kb30 ekb30 hkb30a hkb30b => ?_)
    have hkb30 : q_T G kb30 = 10 := q_tag hkb30a hkb30b
    refine lv_iconst (v := 0) hx hb dX2_copyFrom_71 (by decide) ?_
    refine lv_aload_n hx hb dX2_copyFrom_72 rfl (lv_at hl 0 rfl) ?_
    refine q_getr hE hW h0 rfl q_k2 3 (by decide) rfl (hE.l wl_87) dX2_copyFrom_73 (fun kb31 ekb31 hkb31a hkb31b => ?_)
    have hkb31 : q_T G kb31 = 10 := q_tag hkb31a hkb31b
    refine lv_iconst (v := 0) hx hb dX2_copyFrom_76 (by decide) ?_
    refine lv_iconst (v := 3) hx hb dX2_copyFrom_77 (by decide) ?_
    refine q_acopy hE hW hkb30 hkb31 rfl rfl (Or.inl rfl) (by decide) (by decide) (by decide) (by decide) (by decide) (fun _ _ _ _ => trivial) (by decide) wl_200 wl_201 wl_202 wl_203 hl.1 (by decide) (Nat.le_of_ble_eq_true rfl) dX2_copyFrom_78 (fun H locs ks32 kp33 hW => ?_)
    refine lv_iconst (v := 0) hx hb dX2_copyFrom_81 (by decide) ?_
    refine lv_istore_n (lv' := [(2, .int 0), (0, .ref a0), (1, .ref a1)]) hx hb dX2_copyFrom_82 rfl hl (by decide) rfl (fun ls hl => ?_)
    exact lp83a _ _ _ _ 0 ((q_c (k := 0) (x := 0) (by decide)).w (by decide) (by decide)) hW ls (lv_sub hl [1, 2, 0] rfl) (Nat.lt_succ_self _)
  have lp10a : ∀ (n10a : Nat) (ks35 : q_S) (H : Heap) (locs : List Loc) (kx34 : Int32) (vkx34 : q_V 0 6 kx34) (hW : q_Wd G [5, 6, 7, 9, 10, 12] σ s.heap ks35 H locs) (ls : Array Slot) (hl : lv_has ls 3 [(0, .ref a0), (1, .ref a1), (2, .int kx34)]), (6 - kx34.toInt).toNat < n10a → W p l e (q_Rm 2) s m args below meth c H locs 0 0 (MQ below (q_Qv G [5, 6, 7, 9, 10, 12] σ (fun σ1 => True)) args s 0 0 (q_N G)) (F0 m 10 ls []) := by
    intro n10a
    induction n10a with
    | zero => intro _ _ _ _ _ _ _ _; exact fun h => absurd h (Nat.not_lt_zero _)
    | succ n10a ih10a =>
      intro ks35 H locs kx34 vkx34 hW ls hl hm10a
      refine lv_iload_n hx hb dX2_copyFrom_10 rfl (lv_at hl 2 rfl) ?_
      refine lv_aload_n hx hb dX2_copyFrom_11 rfl (lv_at hl 0 rfl) ?_
      refine q_geti hE hW h0 rfl q_k2 1 (by decide) rfl (hE.l wl_198) dX2_copyFrom_12 (fun kx36 ekx36 vkx36 => ?_)
      refine lv_icmp_ge (tgt := 45) hx hb dX2_copyFrom_15 (by decide) (fun kc37 => ?_) (fun kc37 => ?_)
      · exact jn45a _ _ _ hW ls (lv_sub hl [0, 1] rfl)
      · have kv38 : q_V 0 5 kx34 := (q_lt1 vkx34 vkx36 (Int32.not_le.mp kc37)).w (by decide) (by decide)
        have kv39 : q_V 1 6 kx36 := (q_lt2 vkx34 vkx36 (Int32.not_le.mp kc37)).w (by decide) (by decide)
        refine lv_iload_n hx hb dX2_copyFrom_18 rfl (lv_at hl 2 rfl) ?_
        refine lv_bipush (v := 6) hx hb dX2_copyFrom_19 (by decide) ?_
        refine lv_icmp_ge (tgt := 45) hx hb dX2_copyFrom_21 (by decide) (fun kc40 => ?_) (fun kc40 => ?_)
        · have kv41 : q_V 6 5 6 := (q_le1 (q_c (k := 6) (x := 6) (by decide)) kv38 kc40).w (by decide) (by decide)
          exact (kv41.no (by decide))
        · refine lv_aload_n hx hb dX2_copyFrom_24 rfl (lv_at hl 0 rfl) ?_
          refine q_getr hE hW h0 rfl q_k2 0 (by decide) rfl (hE.l wl_83) dX2_copyFrom_25 (fun kb42 ekb42 hkb42a hkb42b => ?_)
          have hkb42 : q_T G kb42 = 8 := q_tag hkb42a hkb42b
          refine lv_iload_n hx hb dX2_copyFrom_28 rfl (lv_at hl 2 rfl) ?_
          refine q_aald hE hW hkb42 rfl (q_in kv38 (by decide) (by decide)) dX2_copyFrom_29 (fun kb43 ekb43 hkb43a hkb43b => ?_)
          have hkb43 : q_T G kb43 = 5 := q_tag hkb43a hkb43b
          refine lv_aload_n hx hb dX2_copyFrom_30 rfl (lv_at hl 1 rfl) ?_
          refine q_getr hE hW h1 rfl q_k2 0 (by decide) rfl (hE.l wl_83) dX2_copyFrom_31 (fun kb44 ekb44 hkb44a hkb44b => ?_)
          have hkb44 : q_T G kb44 = 8 := q_tag hkb44a hkb44b
          refine lv_iload_n hx hb dX2_copyFrom_34 rfl (lv_at hl 2 rfl) ?_
          refine q_aald hE hW hkb44 rfl (q_in kv38 (by decide) (by decide)) dX2_copyFrom_35 (fun kb45 ekb45 hkb45a hkb45b => ?_)
          have hkb45 : q_T G kb45 = 5 := q_tag hkb45a hkb45b
          refine q_gov hW (q_runV (As := [.ref kb45]) (rest := []) hE hW (c_X1_copyFrom l G ks35 kb43 hkb43 kb45 hkb45) kw_X2_45 (q_recv hE hW hkb43 rfl q_k1) rfl hl.1 rfl (Nat.le_of_ble_eq_true rfl) dX2_copyFrom_36 ⟨by decide, by decide⟩ ⟨by decide, by decide⟩) (by decide) (fun ks47 H locs kp46 kf48 hW => ?_)
          obtain ⟨kx49, ekx49⟩ : ∃ y : Int32, y = kx34 + 1 := ⟨_, rfl⟩
          have vkx49 : q_V 1 6 kx49 := by rw [ekx49]; exact (q_add kv38 (q_c (k := 1) (x := 1) (by decide)) (by decide) (by decide)).w (by decide) (by decide)
          have ikx49 : kx49.toInt = kx34.toInt + 1 := q_incT ekx49 kv38 (by decide) (by decide) (by decide)
          refine lv_iinc (v := kx49) (lv' := [(2, .int kx49), (0, .ref a0), (1, .ref a1)]) hx hb dX2_copyFrom_39 hl (k := 2) rfl (by rw [ekx49]; rfl) (by decide) rfl (fun ls hl => ?_)
          refine lv_goto (tgt := 10) hx hb dX2_copyFrom_42 (by decide) ?_
          exact ih10a _ _ _ kx49 (vkx49.w (by decide) (by decide)) hW ls (lv_sub hl [1, 2, 0] rfl) (Nat.lt_of_lt_of_le (q_up (ikx49) (show q_V 1 6 kx49 from vkx49).2) (Nat.le_of_lt_succ hm10a))
  refine lv_aload_n hx hb dX2_copyFrom_0 rfl (lv_at hl 0 rfl) ?_
  refine lv_aload_n hx hb dX2_copyFrom_1 rfl (lv_at hl 1 rfl) ?_
  refine q_geti hE hW h1 rfl q_k2 1 (by decide) rfl (hE.l wl_198) dX2_copyFrom_2 (fun kx50 ekx50 vkx50 => ?_)
  refine q_puti hE hW h0 rfl q_k2 tyX2 tyX2_ok 1 (by decide) rfl (hE.l wl_198) rfl rfl rfl vkx50 (by decide) dX2_copyFrom_5 (fun H locs ks51 kp52 hW => ?_)
  refine lv_iconst (v := 0) hx hb dX2_copyFrom_8 (by decide) ?_
  refine lv_istore_n (lv' := [(2, .int 0), (0, .ref a0), (1, .ref a1)]) hx hb dX2_copyFrom_9 rfl hl (by decide) rfl (fun ls hl => ?_)
  exact lp10a _ _ _ _ 0 ((q_c (k := 0) (x := 0) (by decide)).w (by decide) (by decide)) hW ls (lv_sub hl [1, 2, 0] rfl) (Nat.lt_succ_self _)
set_option maxHeartbeats 4000000 in
set_option maxRecDepth 100000 in
theorem c_X2_addCloud (l : Launch) (G : q_G) (σ : q_S) (a0 : Nat) (h0 : q_T G a0 = 7) (a1 : Nat) (h1a : (1 : Int) ≤ (q_T G a1 : Int))  (h1b : (q_T G a1 : Int) ≤ 4) (i2 : Int32) (i3 : Int32)  : Met l yX2_addCloud (Cond.code yX2_addCloud cX2_addCloud 4 none :: wsL_law) (q_Rm 3) (q_Pre G σ [.ref a0, .ref a1, .int i2, .int i3]) (q_Qv G [5, 6, 7] σ (fun σ1 => True)) 0 0 (q_N G) := by
  refine q_ofW (ts := [5, 6, 7]) (by decide) (Nat.le_of_ble_eq_true rfl) ?_
  intro p e s m args below meth c hE hr hlocks hW ls hl
  have hE : q_E G p s m args c cX2_addCloud 4 RX2 := hE
  have hx := hE.1.1
  have hb := hE.1.2.1
  have hl : lv_has ls 4 [(0, .ref a0), (1, .ref a1), (2, .int i2), (3, .int i3)] := hl
  refine lv_aload_n hx hb dX2_addCloud_0 rfl (lv_at hl 0 rfl) ?_
  refine q_geti hE hW h0 rfl q_k2 1 (by decide) rfl (hE.l wl_198) dX2_addCloud_1 (fun kx1 ekx1 vkx1 => ?_)
  refine lv_bipush (v := 6) hx hb dX2_addCloud_4 (by decide) ?_
  refine lv_icmp_ge (tgt := 34) hx hb dX2_addCloud_6 (by decide) (fun kc2 => ?_) (fun kc2 => ?_)
  · have kv3 : q_V 6 6 kx1 := (q_le2 (q_c (k := 6) (x := 6) (by decide)) vkx1 kc2).w (by decide) (by decide)
    exact q_retv hE hr hlocks hW (trivial) dX2_addCloud_34
  · have kv4 : q_V 0 5 kx1 := (q_lt1 vkx1 (q_c (k := 6) (x := 6) (by decide)) (Int32.not_le.mp kc2)).w (by decide) (by decide)
    refine lv_aload_n hx hb dX2_addCloud_9 rfl (lv_at hl 0 rfl) ?_
    refine q_getr hE hW h0 rfl q_k2 0 (by decide) rfl (hE.l wl_83) dX2_addCloud_10 (fun kb5 ekb5 hkb5a hkb5b => ?_)
    have hkb5 : q_T G kb5 = 8 := q_tag hkb5a hkb5b
    refine lv_aload_n hx hb dX2_addCloud_13 rfl (lv_at hl 0 rfl) ?_
    refine q_geti hE hW h0 rfl q_k2 1 (by decide) rfl (hE.l wl_198) dX2_addCloud_14 (fun kx6 ekx6 vkx6 => ?_)
    obtain rfl : kx1 = kx6 := ekx1.symm.trans ekx6
    refine q_aald hE hW hkb5 rfl (q_in kv4 (by decide) (by decide)) dX2_addCloud_17 (fun kb7 ekb7 hkb7a hkb7b => ?_)
    have hkb7 : q_T G kb7 = 5 := q_tag hkb7a hkb7b
    refine lv_aload_n hx hb dX2_addCloud_18 rfl (lv_at hl 1 rfl) ?_
    refine lv_iload_n hx hb dX2_addCloud_19 rfl (lv_at hl 2 rfl) ?_
    refine lv_iload_n hx hb dX2_addCloud_20 rfl (lv_at hl 3 rfl) ?_
    refine q_gov hW (q_runV (As := [.ref a1, .int i2, .int i3]) (rest := []) hE hW (c_X1_begin l G σ kb7 hkb7 a1 (Int.le_trans (by decide) h1a) (Int.le_trans h1b (by decide)) i2 i3) kw_X2_64 (q_recv hE hW hkb7 rfl q_k1) rfl hl.1 rfl (Nat.le_of_ble_eq_true rfl) dX2_addCloud_21 ⟨by decide, by decide⟩ ⟨by decide, by decide⟩) (by decide) (fun ks9 H locs kp8 kf10 hW => ?_)
    refine lv_aload_n hx hb dX2_addCloud_24 rfl (lv_at hl 0 rfl) ?_
    refine lv_dup hx hb dX2_addCloud_25 rfl ?_
    refine q_geti hE hW h0 rfl q_k2 1 (by decide) rfl (hE.l wl_198) dX2_addCloud_26 (fun kx11 ekx11 vkx11 => ?_)
    obtain rfl : kx1 = kx11 := ((kf10.I _ h0 (by decide)).trans ekx1).symm.trans ekx11
    refine lv_iconst (v := 1) hx hb dX2_addCloud_29 (by decide) ?_
    refine lv_iadd hx hb dX2_addCloud_30 ?_
    refine lv_topi (fun kx12 ekx12 => ?_)
    have vkx12 : q_V 1 6 kx12 := by rw [ekx12]; exact (q_add kv4 (q_c (k := 1) (x := 1) (by decide)) (by decide) (by decide)).w (by decide) (by decide)
    have ikx12 : kx12.toInt = kx1.toInt + 1 := q_incT ekx12 kv4 (by decide) (by decide) (by decide)
    refine q_puti hE hW h0 rfl q_k2 tyX2 tyX2_ok 1 (by decide) rfl (hE.l wl_198) rfl rfl rfl (vkx12.w (by decide) (by decide)) (by decide) dX2_addCloud_31 (fun H locs ks13 kp14 hW => ?_)
    exact q_retv hE hr hlocks hW (trivial) dX2_addCloud_34
set_option maxHeartbeats 4000000 in
set_option maxRecDepth 100000 in
theorem c_X2_rubStone (l : Launch) (G : q_G) (σ : q_S) (a0 : Nat) (h0 : q_T G a0 = 7) (i1 : Int32)  : Met l yX2_rubStone (Cond.code yX2_rubStone cX2_rubStone 5 none :: wsL_law) (q_Rm 4) (q_Pre G σ [.ref a0, .int i1]) (q_Qv G [5, 6, 7, 10, 12] σ (fun σ1 => True)) 0 0 (q_N G) := by
  refine q_ofW (ts := [5, 6, 7, 10, 12]) (by decide) (Nat.le_of_ble_eq_true rfl) ?_
  intro p e s m args below meth c hE hr hlocks hW ls hl
  have hE : q_E G p s m args c cX2_rubStone 5 RX2 := hE
  have hx := hE.1.1
  have hb := hE.1.2.1
  have hl : lv_has ls 5 [(0, .ref a0), (1, .int i1)] := hl
  have lp45a : ∀ (n45a : Nat) (ks5 : q_S) (H : Heap) (locs : List Loc) (kv1 : q_V 0 2 i1) (kb2 : Nat) (hkb2 : q_T G kb2 = 5) (kx3 : Int32) (kx4 : Int32) (vkx4 : q_V 0 2147483647 kx4) (hW : q_Wd G [5, 6, 7, 10, 12] σ s.heap ks5 H locs) (ls : Array Slot) (hl : lv_has ls 5 [(0, .ref a0), (1, .int i1), (2, .ref kb2), (3, .int kx3), (4, .int kx4)]), (2147483647 - kx4.toInt).toNat < n45a → W p l e (q_Rm 4) s m args below meth c H locs 0 0 (MQ below (q_Qv G [5, 6, 7, 10, 12] σ (fun σ1 => True)) args s 0 0 (q_N G)) (F0 m 45 ls []) := by
    intro n45a
    induction n45a with
    | zero => intro _ _ _ _ _ _ _ _ _ _ _ _; exact fun h => absurd h (Nat.not_lt_zero _)
    | succ n45a ih45a =>
      intro ks5 H locs kv1 kb2 hkb2 kx3 kx4 vkx4 hW ls hl hm45a
      refine lv_iload hx hb dX2_rubStone_45 (lv_at hl 4 rfl) ?_
      refine lv_iload_n hx hb dX2_rubStone_47 rfl (lv_at hl 3 rfl) ?_
      refine lv_icmp_ge (tgt := 62) hx hb dX2_rubStone_48 (by decide) (fun kc6 => ?_) (fun kc6 => ?_)
      · refine lv_aload_n hx hb dX2_rubStone_62 rfl (lv_at hl 2 rfl) ?_
        refine lv_iconst (v := 0) hx hb dX2_rubStone_63 (by decide) ?_
        refine lv_aload_n hx hb dX2_rubStone_64 rfl (lv_at hl 2 rfl) ?_
        refine q_geti hE hW hkb2 rfl q_k1 1 (by decide) rfl (hE.n 6 rfl) dX2_rubStone_65 (fun kx7 ekx7 vkx7 => ?_)
        refine lv_aload_n hx hb dX2_rubStone_68 rfl (lv_at hl 2 rfl) ?_
        refine q_getr hE hW hkb2 rfl q_k1 0 (by decide) rfl (hE.n 4 rfl) dX2_rubStone_69 (fun kb8 ekb8 hkb8a hkb8b => ?_)
        refine q_goi hW (kd_X2_105 l (rest := [.int kx7, .int 0, .ref kb2]) hE hW hkb8a hkb8b hl.1 rfl (Nat.le_of_ble_eq_true rfl) dX2_rubStone_72 ⟨by decide, by decide⟩ ⟨by decide, by decide⟩) (by decide) (fun kx12 ks10 H locs kp9 kf11 hW => ?_)
        refine lv_isub hx hb dX2_rubStone_75 ?_
        refine lv_topi (fun kx13 ekx13 => ?_)
        refine va_mmax hx hb (hE.1.2.2.1.trans hl.1.symm) hE.1.2.2.2.1 (hE.w wl_666) (hE.w wl_581) (hE.w wl_582) (hE.w wl_583) (by decide) (Nat.le_of_ble_eq_true rfl) (by decide) (by decide) dX2_rubStone_76 ?_
        refine lv_topi (fun kx14 ekx14 => ?_)
        have vkx14 : q_V 0 2147483647 kx14 := q_maxV (q_c (k := 0) (x := 0) (by decide)) (q_all kx13) ekx14 (by decide) (by decide)
        refine q_puti hE hW hkb2 rfl q_k1 tyX1 tyX1_ok 1 (by decide) rfl (hE.n 6 rfl) rfl rfl rfl (vkx14.w (by decide) (by decide)) (by decide) dX2_rubStone_79 (fun H locs ks15 kp16 hW => ?_)
        refine lv_aload_n hx hb dX2_rubStone_82 rfl (lv_at hl 2 rfl) ?_
        refine q_geti hE hW hkb2 rfl q_k1 1 (by decide) rfl (hE.n 6 rfl) dX2_rubStone_83 (fun kx17 ekx17 vkx17 => ?_)
        obtain rfl : kx14 = kx17 := kp16.1.symm.trans ekx17
        refine lv_if_ne (tgt := 101) hx hb dX2_rubStone_86 (by decide) (fun kc18 => ?_) (fun kc18 => ?_)
        · have kv19 : q_V 1 2147483647 kx14 := q_ne1 vkx14 (q_c (k := 0) (x := 0) (by decide)) kc18 (by decide)
          exact q_retv hE hr hlocks hW (trivial) dX2_rubStone_101
        · have kv20 : q_V 0 0 kx14 := q_eq1 vkx14 (q_c (k := 0) (x := 0) (by decide)) kc18 (by decide) (by decide)
          refine lv_aload_n hx hb dX2_rubStone_89 rfl (lv_at hl 2 rfl) ?_
          refine lv_iconst (v := 4) hx hb dX2_rubStone_90 (by decide) ?_
          refine q_puti hE hW hkb2 rfl q_k1 tyX1 tyX1_ok 3 (by decide) rfl (hE.n 11 rfl) rfl rfl rfl ((q_c (k := 4) (x := 4) (by decide)).w (by decide) (by decide)) (by decide) dX2_rubStone_91 (fun H locs ks21 kp22 hW => ?_)
          refine lv_aload_n hx hb dX2_rubStone_94 rfl (lv_at hl 0 rfl) ?_
          refine q_getr hE hW h0 rfl q_k2 3 (by decide) rfl (hE.l wl_87) dX2_rubStone_95 (fun kb23 ekb23 hkb23a hkb23b => ?_)
          have hkb23 : q_T G kb23 = 10 := q_tag hkb23a hkb23b
          refine lv_iload_n hx hb dX2_rubStone_98 rfl (lv_at hl 1 rfl) ?_
          refine lv_iconst (v := (-1)) hx hb dX2_rubStone_99 (by decide) ?_
          refine q_iast hE hW hkb23 rfl (q_in kv1 (by decide) (by decide)) trivial (by decide) dX2_rubStone_100 (fun H locs ks24 kp25 hW => ?_)
          exact q_retv hE hr hlocks hW (trivial) dX2_rubStone_101
      · have kv26 : q_V 0 2147483646 kx4 := (q_lt1 vkx4 (q_all kx3) (Int32.not_le.mp kc6)).w (by decide) (by decide)
        have kv27 : q_V 1 2147483647 kx3 := (q_lt2 vkx4 (q_all kx3) (Int32.not_le.mp kc6)).w (by decide) (by decide)
        refine lv_aload_n hx hb dX2_rubStone_51 rfl (lv_at hl 0 rfl) ?_
        refine lv_aload_n hx hb dX2_rubStone_52 rfl (lv_at hl 2 rfl) ?_
        refine q_gov hW (q_runV (As := [.ref kb2]) (rest := []) hE hW (c_X2_rubOnce l G ks5 a0 h0 kb2 hkb2) kw_X2_99 (q_recv hE hW h0 rfl q_k2) rfl hl.1 rfl (Nat.le_of_ble_eq_true rfl) dX2_rubStone_53 ⟨by decide, by decide⟩ ⟨by decide, by decide⟩) (by decide) (fun ks29 H locs kp28 kf30 hW => ?_)
        obtain ⟨kx31, ekx31⟩ : ∃ y : Int32, y = kx4 + 1 := ⟨_, rfl⟩
        have vkx31 : q_V 1 2147483647 kx31 := by rw [ekx31]; exact (q_add kv26 (q_c (k := 1) (x := 1) (by decide)) (by decide) (by decide)).w (by decide) (by decide)
        have ikx31 : kx31.toInt = kx4.toInt + 1 := q_incT ekx31 kv26 (by decide) (by decide) (by decide)
        refine lv_iinc (v := kx31) (lv' := [(4, .int kx31), (0, .ref a0), (1, .int i1), (2, .ref kb2), (3, .int kx3)]) hx hb dX2_rubStone_56 hl (k := 4) rfl (by rw [ekx31]; rfl) (by decide) rfl (fun ls hl => ?_)
        refine lv_goto (tgt := 45) hx hb dX2_rubStone_59 (by decide) ?_
        exact ih45a _ _ _ kv1 kb2 hkb2 kx3 kx31 (vkx31.w (by decide) (by decide)) hW ls (lv_sub hl [1, 2, 3, 4, 0] rfl) (Nat.lt_of_lt_of_le (q_up (ikx31) (show q_V 1 2147483647 kx31 from vkx31).2) (Nat.le_of_lt_succ hm45a))
  have jn22b : ∀ (ks34 : q_S) (H : Heap) (locs : List Loc) (kv32 : q_V 0 2 i1) (kb33 : Nat) (hkb33 : q_T G kb33 = 5) (hW : q_Wd G [5, 6, 7, 10, 12] σ s.heap ks34 H locs) (ls : Array Slot) (hl : lv_has ls 5 [(0, .ref a0), (1, .int i1)]), W p l e (q_Rm 4) s m args below meth c H locs 0 0 (MQ below (q_Qv G [5, 6, 7, 10, 12] σ (fun σ1 => True)) args s 0 0 (q_N G)) (F0 m 22 ls [.ref kb33]) := by
    intro ks34 H locs kv32 kb33 hkb33 hW ls hl
    refine lv_astore_n (lv' := [(2, .ref kb33), (0, .ref a0), (1, .int i1)]) hx hb dX2_rubStone_22 rfl hl (by decide) rfl (fun ls hl => ?_)
    refine lv_aload_n hx hb dX2_rubStone_23 rfl (lv_at hl 0 rfl) ?_
    refine lv_ifnonnull hx hb dX2_rubStone_24 (tgt := 28) (by decide) ?_
    refine lv_aload_n hx hb dX2_rubStone_28 rfl (lv_at hl 0 rfl) ?_
    refine q_getr hE hW hkb33 rfl q_k1 0 (by decide) rfl (hE.n 4 rfl) dX2_rubStone_29 (fun kb35 ekb35 hkb35a hkb35b => ?_)
    refine lv_aload_n hx hb dX2_rubStone_32 rfl (lv_at hl 1 rfl) ?_
    refine q_getr hE hW h0 rfl q_k2 2 (by decide) rfl (hE.l wl_86) dX2_rubStone_33 (fun kb36 ekb36 hkb36a hkb36b => ?_)
    have hkb36 : q_T G kb36 = 9 := q_tag hkb36a hkb36b
    refine lv_iload_n hx hb dX2_rubStone_36 rfl (lv_at hl 2 rfl) ?_
    refine q_iald hE hW hkb36 rfl (q_in kv32 (by decide) (by decide)) dX2_rubStone_37 (fun kx37 ekx37 gkx37 => ?_)
    refine q_goi hW (kd_X2_93 l (rest := []) (kx37) hE hW hkb35a hkb35b hl.1 rfl (Nat.le_of_ble_eq_true rfl) dX2_rubStone_38 ⟨by decide, by decide⟩ ⟨by decide, by decide⟩) (by decide) (fun kx41 ks39 H locs kp38 kf40 hW => ?_)
    refine lv_istore_n (lv' := [(3, .int kx41), (2, .ref kb33), (0, .ref a0), (1, .int i1)]) hx hb dX2_rubStone_41 rfl hl (by decide) rfl (fun ls hl => ?_)
    refine lv_iconst (v := 0) hx hb dX2_rubStone_42 (by decide) ?_
    refine lv_istore (lv' := [(4, .int 0), (3, .int kx41), (2, .ref kb33), (0, .ref a0), (1, .int i1)]) hx hb dX2_rubStone_43 hl (by decide) rfl (fun ls hl => ?_)
    exact lp45a _ _ _ _ kv32 kb33 hkb33 kx41 0 ((q_c (k := 0) (x := 0) (by decide)).w (by decide) (by decide)) hW ls (lv_sub hl [3, 4, 2, 1, 0] rfl) (Nat.lt_succ_self _)
  have jn22a : ∀ (ks42 : q_S) (H : Heap) (locs : List Loc) (hW : q_Wd G [5, 6, 7, 10, 12] σ s.heap ks42 H locs) (ls : Array Slot) (hl : lv_has ls 5 [(0, .ref a0), (1, .int i1)]), W p l e (q_Rm 4) s m args below meth c H locs 0 0 (MQ below (q_Qv G [5, 6, 7, 10, 12] σ (fun σ1 => True)) args s 0 0 (q_N G)) (F0 m 22 ls [.null]) := by
    intro ks42 H locs hW ls hl
    refine lv_astore_nN (lv' := [(2, .null), (0, .ref a0), (1, .int i1)]) hx hb dX2_rubStone_22 rfl hl (by decide) rfl (fun ls hl => ?_)
    refine lv_aload_nN hx hb dX2_rubStone_23 rfl (lv_at hl 0 rfl) ?_
    refine lv_ifnonnullN hx hb dX2_rubStone_24 ?_
    exact q_retv hE hr hlocks hW (trivial) dX2_rubStone_27
  refine lv_aload_n hx hb dX2_rubStone_0 rfl (lv_at hl 0 rfl) ?_
  refine lv_iload_n hx hb dX2_rubStone_1 rfl (lv_at hl 1 rfl) ?_
  refine q_goi hW (q_runV (As := [.int i1]) (rest := []) hE hW (c_X2_isWasher l G σ a0 h0 i1) kw_X2_81 (q_recv hE hW h0 rfl q_k2) rfl hl.1 rfl (Nat.le_of_ble_eq_true rfl) dX2_rubStone_2 ⟨by decide, by decide⟩ ⟨by decide, by decide⟩) (by decide) (fun kx46 ks44 H locs kp43 kf45 hW => ?_)
  refine lv_if_eq (tgt := 21) hx hb dX2_rubStone_5 (by decide) (fun kc47 => ?_) (fun kc47 => ?_)
  · have kv48 : q_V 0 0 kx46 := q_eq1 kp43.1 (q_c (k := 0) (x := 0) (by decide)) kc47 (by decide) (by decide)
    refine lv_null hx hb dX2_rubStone_21 ?_
    exact jn22a _ _ _ hW ls (lv_sub hl [0, 1] rfl)
  · have kv49 : q_V 0 2 i1 := kp43.2 kc47
    have kv50 : q_V 1 1 kx46 := q_ne1 kp43.1 (q_c (k := 0) (x := 0) (by decide)) kc47 (by decide)
    refine lv_aload_n hx hb dX2_rubStone_8 rfl (lv_at hl 0 rfl) ?_
    refine lv_aload_n hx hb dX2_rubStone_9 rfl (lv_at hl 0 rfl) ?_
    refine q_getr hE hW h0 rfl q_k2 3 (by decide) rfl (hE.l wl_87) dX2_rubStone_10 (fun kb51 ekb51 hkb51a hkb51b => ?_)
    have hkb51 : q_T G kb51 = 10 := q_tag hkb51a hkb51b
    refine lv_iload_n hx hb dX2_rubStone_13 rfl (lv_at hl 1 rfl) ?_
    refine q_iald hE hW hkb51 rfl (q_in kv49 (by decide) (by decide)) dX2_rubStone_14 (fun kx52 ekx52 gkx52 => ?_)
    refine q_goq hW (q_runV (As := [.int kx52]) (rest := []) hE hW (c_X2_cloudAt l G ks44 a0 h0 kx52) kw_X2_85 (q_recv hE hW h0 rfl q_k2) rfl hl.1 rfl (Nat.le_of_ble_eq_true rfl) dX2_rubStone_15 ⟨by decide, by decide⟩ ⟨by decide, by decide⟩) (by decide) (fun ks54 H locs kp53 kf55 hW => ?_) (fun kb56 ks54 H locs kp53 kf55 hW => ?_)
    · refine lv_goto (tgt := 22) hx hb dX2_rubStone_18 (by decide) ?_
      exact jn22a _ _ _ hW ls (lv_sub hl [0, 1] rfl)
    · have hkb56 : q_T G kb56 = 5 := kp53 kb56 rfl
      refine lv_goto (tgt := 22) hx hb dX2_rubStone_18 (by decide) ?_
      exact jn22b _ _ _ kv49 kb56 hkb56 hW ls (lv_sub hl [0, 1] rfl)
set_option maxHeartbeats 4000000 in
set_option maxRecDepth 100000 in
theorem c_X2_passHour (l : Launch) (G : q_G) (σ : q_S) (a0 : Nat) (h0 : q_T G a0 = 7)  : Met l yX2_passHour (Cond.code yX2_passHour cX2_passHour 2 none :: wsL_law) (q_Rm 5) (q_Pre G σ [.ref a0]) (q_Qv G [5, 6, 7, 10, 12] σ (fun σ1 => True)) 0 0 (q_N G) := by
  refine q_ofW (ts := [5, 6, 7, 10, 12]) (by decide) (Nat.le_of_ble_eq_true rfl) ?_
  intro p e s m args below meth c hE hr hlocks hW ls hl
  have hE : q_E G p s m args c cX2_passHour 2 RX2 := hE
  have hx := hE.1.1
  have hb := hE.1.2.1
  have hl : lv_has ls 2 [(0, .ref a0)] := hl
  have jn80a : ∀ (ks1 : q_S) (H : Heap) (locs : List Loc) (hW : q_Wd G [5, 6, 7, 10, 12] σ s.heap ks1 H locs) (ls : Array Slot) (hl : lv_has ls 2 [(0, .ref a0)]), W p l e (q_Rm 5) s m args below meth c H locs 0 0 (MQ below (q_Qv G [5, 6, 7, 10, 12] σ (fun σ1 => True)) args s 0 0 (q_N G)) (F0 m 80 ls []) := by
    intro ks1 H locs hW ls hl
    refine lv_aload_n hx hb dX2_passHour_80 rfl (lv_at hl 0 rfl) ?_
    refine lv_dup hx hb dX2_passHour_81 rfl ?_
    refine q_geti hE hW h0 rfl q_k2 8 (by decide) rfl (hE.l wl_205) dX2_passHour_82 (fun kx2 ekx2 vkx2 => ?_)
    refine lv_iconst (v := 1) hx hb dX2_passHour_85 (by decide) ?_
    refine lv_iadd hx hb dX2_passHour_86 ?_
    refine lv_topi (fun kx3 ekx3 => ?_)
    refine q_puti hE hW h0 rfl q_k2 tyX2 tyX2_ok 8 (by decide) rfl (hE.l wl_205) rfl rfl rfl (q_all kx3) (by decide) dX2_passHour_87 (fun H locs ks4 kp5 hW => ?_)
    exact q_retv hE hr hlocks hW (trivial) dX2_passHour_90
  have lp32a : ∀ (n32a : Nat) (ks7 : q_S) (H : Heap) (locs : List Loc) (kx6 : Int32) (vkx6 : q_V 0 6 kx6) (hW : q_Wd G [5, 6, 7, 10, 12] σ s.heap ks7 H locs) (ls : Array Slot) (hl : lv_has ls 2 [(0, .ref a0), (1, .int kx6)]), (6 - kx6.toInt).toNat < n32a → W p l e (q_Rm 5) s m args below meth c H locs 0 0 (MQ below (q_Qv G [5, 6, 7, 10, 12] σ (fun σ1 => True)) args s 0 0 (q_N G)) (F0 m 32 ls []) := by
    intro n32a
    induction n32a with
    | zero => intro _ _ _ _ _ _ _ _; exact fun h => absurd h (Nat.not_lt_zero _)
    | succ n32a ih32a =>
      intro ks7 H locs kx6 vkx6 hW ls hl hm32a
      have jn74a : ∀ (ks9 : q_S) (H : Heap) (locs : List Loc) (kv8 : q_V 0 5 kx6) (hW : q_Wd G [5, 6, 7, 10, 12] σ s.heap ks9 H locs) (ls : Array Slot) (hl : lv_has ls 2 [(0, .ref a0), (1, .int kx6)]), W p l e (q_Rm 5) s m args below meth c H locs 0 0 (MQ below (q_Qv G [5, 6, 7, 10, 12] σ (fun σ1 => True)) args s 0 0 (q_N G)) (F0 m 74 ls []) := by
        intro ks9 H locs kv8 hW ls hl
        obtain ⟨kx10, ekx10⟩ : ∃ y : Int32, y = kx6 + 1 := ⟨_, rfl⟩
        have vkx10 : q_V 1 6 kx10 := by rw [ekx10]; exact (q_add kv8 (q_c (k := 1) (x := 1) (by decide)) (by decide) (by decide)).w (by decide) (by decide)
        have ikx10 : kx10.toInt = kx6.toInt + 1 := q_incT ekx10 kv8 (by decide) (by decide) (by decide)
        refine lv_iinc (v := kx10) (lv' := [(1, .int kx10), (0, .ref a0)]) hx hb dX2_passHour_74 hl (k := 1) rfl (by rw [ekx10]; rfl) (by decide) rfl (fun ls hl => ?_)
        refine lv_goto (tgt := 32) hx hb dX2_passHour_77 (by decide) ?_
        exact ih32a _ _ _ kx10 (vkx10.w (by decide) (by decide)) hW ls (lv_sub hl [1, 0] rfl) (Nat.lt_of_lt_of_le (q_up (ikx10) (show q_V 1 6 kx10 from vkx10).2) (Nat.le_of_lt_succ hm32a))
      refine lv_iload_n hx hb dX2_passHour_32 rfl (lv_at hl 1 rfl) ?_
      refine lv_aload_n hx hb dX2_passHour_33 rfl (lv_at hl 0 rfl) ?_
      refine q_geti hE hW h0 rfl q_k2 1 (by decide) rfl (hE.l wl_198) dX2_passHour_34 (fun kx11 ekx11 vkx11 => ?_)
      refine lv_icmp_ge (tgt := 80) hx hb dX2_passHour_37 (by decide) (fun kc12 => ?_) (fun kc12 => ?_)
      · exact jn80a _ _ _ hW ls (lv_sub hl [0] rfl)
      · have kv13 : q_V 0 5 kx6 := (q_lt1 vkx6 vkx11 (Int32.not_le.mp kc12)).w (by decide) (by decide)
        have kv14 : q_V 1 6 kx11 := (q_lt2 vkx6 vkx11 (Int32.not_le.mp kc12)).w (by decide) (by decide)
        refine lv_iload_n hx hb dX2_passHour_40 rfl (lv_at hl 1 rfl) ?_
        refine lv_bipush (v := 6) hx hb dX2_passHour_41 (by decide) ?_
        refine lv_icmp_ge (tgt := 80) hx hb dX2_passHour_43 (by decide) (fun kc15 => ?_) (fun kc15 => ?_)
        · have kv16 : q_V 6 5 6 := (q_le1 (q_c (k := 6) (x := 6) (by decide)) kv13 kc15).w (by decide) (by decide)
          exact (kv16.no (by decide))
        · refine lv_aload_n hx hb dX2_passHour_46 rfl (lv_at hl 0 rfl) ?_
          refine q_getr hE hW h0 rfl q_k2 0 (by decide) rfl (hE.l wl_83) dX2_passHour_47 (fun kb17 ekb17 hkb17a hkb17b => ?_)
          have hkb17 : q_T G kb17 = 8 := q_tag hkb17a hkb17b
          refine lv_iload_n hx hb dX2_passHour_50 rfl (lv_at hl 1 rfl) ?_
          refine q_aald hE hW hkb17 rfl (q_in kv13 (by decide) (by decide)) dX2_passHour_51 (fun kb18 ekb18 hkb18a hkb18b => ?_)
          have hkb18 : q_T G kb18 = 5 := q_tag hkb18a hkb18b
          refine q_geti hE hW hkb18 rfl q_k1 3 (by decide) rfl (hE.n 11 rfl) dX2_passHour_52 (fun kx19 ekx19 vkx19 => ?_)
          refine lv_iconst (v := 2) hx hb dX2_passHour_55 (by decide) ?_
          refine lv_icmp_ne (tgt := 74) hx hb dX2_passHour_56 (by decide) (fun kc20 => ?_) (fun kc20 => ?_)
          · exact jn74a _ _ _ kv13 hW ls (lv_sub hl [0, 1] rfl)
          · have kv21 : q_V 2 2 kx19 := q_eq1 (q_all kx19) (q_c (k := 2) (x := 2) (by decide)) kc20 (by decide) (by decide)
            refine lv_aload_n hx hb dX2_passHour_59 rfl (lv_at hl 0 rfl) ?_
            refine q_getr hE hW h0 rfl q_k2 0 (by decide) rfl (hE.l wl_83) dX2_passHour_60 (fun kb22 ekb22 hkb22a hkb22b => ?_)
            obtain rfl : kb17 = kb22 := ekb17.symm.trans ekb22
            refine lv_iload_n hx hb dX2_passHour_63 rfl (lv_at hl 1 rfl) ?_
            refine q_aald hE hW hkb17 rfl (q_in kv13 (by decide) (by decide)) dX2_passHour_64 (fun kb23 ekb23 hkb23a hkb23b => ?_)
            obtain rfl : kb18 = kb23 := ekb18.symm.trans ekb23
            refine lv_dup hx hb dX2_passHour_65 rfl ?_
            refine q_geti hE hW hkb18 rfl q_k1 4 (by decide) rfl (hE.n 13 rfl) dX2_passHour_66 (fun kx24 ekx24 vkx24 => ?_)
            refine lv_iconst (v := 1) hx hb dX2_passHour_69 (by decide) ?_
            refine lv_iadd hx hb dX2_passHour_70 ?_
            refine lv_topi (fun kx25 ekx25 => ?_)
            refine q_puti hE hW hkb18 rfl q_k1 tyX1 tyX1_ok 4 (by decide) rfl (hE.n 13 rfl) rfl rfl rfl (q_all kx25) (by decide) dX2_passHour_71 (fun H locs ks26 kp27 hW => ?_)
            exact jn74a _ _ _ kv13 hW ls (lv_sub hl [0, 1] rfl)
  have jn30a : ∀ (ks28 : q_S) (H : Heap) (locs : List Loc) (hW : q_Wd G [5, 6, 7, 10, 12] σ s.heap ks28 H locs) (ls : Array Slot) (hl : lv_has ls 2 [(0, .ref a0)]), W p l e (q_Rm 5) s m args below meth c H locs 0 0 (MQ below (q_Qv G [5, 6, 7, 10, 12] σ (fun σ1 => True)) args s 0 0 (q_N G)) (F0 m 30 ls []) := by
    intro ks28 H locs hW ls hl
    refine lv_iconst (v := 0) hx hb dX2_passHour_30 (by decide) ?_
    refine lv_istore_n (lv' := [(1, .int 0), (0, .ref a0)]) hx hb dX2_passHour_31 rfl hl (by decide) rfl (fun ls hl => ?_)
    exact lp32a _ _ _ _ 0 ((q_c (k := 0) (x := 0) (by decide)).w (by decide) (by decide)) hW ls (lv_sub hl [1, 0] rfl) (Nat.lt_succ_self _)
  have lp6a : ∀ (n6a : Nat) (ks30 : q_S) (H : Heap) (locs : List Loc) (kx29 : Int32) (vkx29 : q_V 0 3 kx29) (hW : q_Wd G [5, 6, 7, 10, 12] σ s.heap ks30 H locs) (ls : Array Slot) (hl : lv_has ls 2 [(0, .ref a0), (1, .int kx29)]), (3 - kx29.toInt).toNat < n6a → W p l e (q_Rm 5) s m args below meth c H locs 0 0 (MQ below (q_Qv G [5, 6, 7, 10, 12] σ (fun σ1 => True)) args s 0 0 (q_N G)) (F0 m 6 ls []) := by
    intro n6a
    induction n6a with
    | zero => intro _ _ _ _ _ _ _ _; exact fun h => absurd h (Nat.not_lt_zero _)
    | succ n6a ih6a =>
      intro ks30 H locs kx29 vkx29 hW ls hl hm6a
      refine lv_iload_n hx hb dX2_passHour_6 rfl (lv_at hl 1 rfl) ?_
      refine lv_aload_n hx hb dX2_passHour_7 rfl (lv_at hl 0 rfl) ?_
      refine q_geti hE hW h0 rfl q_k2 4 (by decide) rfl (hE.l wl_199) dX2_passHour_8 (fun kx31 ekx31 vkx31 => ?_)
      refine lv_icmp_ge (tgt := 30) hx hb dX2_passHour_11 (by decide) (fun kc32 => ?_) (fun kc32 => ?_)
      · exact jn30a _ _ _ hW ls (lv_sub hl [0] rfl)
      · have kv33 : q_V 0 2 kx29 := (q_lt1 vkx29 vkx31 (Int32.not_le.mp kc32)).w (by decide) (by decide)
        have kv34 : q_V 1 3 kx31 := (q_lt2 vkx29 vkx31 (Int32.not_le.mp kc32)).w (by decide) (by decide)
        refine lv_iload_n hx hb dX2_passHour_14 rfl (lv_at hl 1 rfl) ?_
        refine lv_iconst (v := 3) hx hb dX2_passHour_15 (by decide) ?_
        refine lv_icmp_ge (tgt := 30) hx hb dX2_passHour_16 (by decide) (fun kc35 => ?_) (fun kc35 => ?_)
        · have kv36 : q_V 3 2 3 := (q_le1 (q_c (k := 3) (x := 3) (by decide)) kv33 kc35).w (by decide) (by decide)
          exact (kv36.no (by decide))
        · refine lv_aload_n hx hb dX2_passHour_19 rfl (lv_at hl 0 rfl) ?_
          refine lv_iload_n hx hb dX2_passHour_20 rfl (lv_at hl 1 rfl) ?_
          refine q_gov hW (q_runV (As := [.int kx29]) (rest := []) hE hW (c_X2_rubStone l G ks30 a0 h0 kx29) kw_X2_74 (q_recv hE hW h0 rfl q_k2) rfl hl.1 rfl (Nat.le_of_ble_eq_true rfl) dX2_passHour_21 ⟨by decide, by decide⟩ ⟨by decide, by decide⟩) (by decide) (fun ks38 H locs kp37 kf39 hW => ?_)
          obtain ⟨kx40, ekx40⟩ : ∃ y : Int32, y = kx29 + 1 := ⟨_, rfl⟩
          have vkx40 : q_V 1 3 kx40 := by rw [ekx40]; exact (q_add kv33 (q_c (k := 1) (x := 1) (by decide)) (by decide) (by decide)).w (by decide) (by decide)
          have ikx40 : kx40.toInt = kx29.toInt + 1 := q_incT ekx40 kv33 (by decide) (by decide) (by decide)
          refine lv_iinc (v := kx40) (lv' := [(1, .int kx40), (0, .ref a0)]) hx hb dX2_passHour_24 hl (k := 1) rfl (by rw [ekx40]; rfl) (by decide) rfl (fun ls hl => ?_)
          refine lv_goto (tgt := 6) hx hb dX2_passHour_27 (by decide) ?_
          exact ih6a _ _ _ kx40 (vkx40.w (by decide) (by decide)) hW ls (lv_sub hl [1, 0] rfl) (Nat.lt_of_lt_of_le (q_up (ikx40) (show q_V 1 3 kx40 from vkx40).2) (Nat.le_of_lt_succ hm6a))
  refine lv_aload_n hx hb dX2_passHour_0 rfl (lv_at hl 0 rfl) ?_
  refine q_gov hW (q_runV (As := []) (rest := []) hE hW (c_X2_flow l G σ a0 h0) kw_X2_71 (q_recv hE hW h0 rfl q_k2) rfl hl.1 rfl (Nat.le_of_ble_eq_true rfl) dX2_passHour_1 ⟨by decide, by decide⟩ ⟨by decide, by decide⟩) (by decide) (fun ks42 H locs kp41 kf43 hW => ?_)
  refine lv_iconst (v := 0) hx hb dX2_passHour_4 (by decide) ?_
  refine lv_istore_n (lv' := [(1, .int 0), (0, .ref a0)]) hx hb dX2_passHour_5 rfl hl (by decide) rfl (fun ls hl => ?_)
  exact lp6a _ _ _ _ 0 ((q_c (k := 0) (x := 0) (by decide)).w (by decide) (by decide)) hW ls (lv_sub hl [1, 0] rfl) (Nat.lt_succ_self _)
set_option maxHeartbeats 4000000 in
set_option maxRecDepth 100000 in
theorem c_X5_hasPegs (l : Launch) (G : q_G) (σ : q_S) (a0 : Nat) (h0 : q_T G a0 = 23) (i1 : Int32) (i2 : Int32)  : Met l yX5_hasPegs (Cond.code yX5_hasPegs cX5_hasPegs 3 (some .boolean) :: wsL_law) (q_Rm 1) (q_Pre G σ [.ref a0, .int i1, .int i2]) (q_Qi G [] σ (fun r σ1 => q_V 0 1 r ∧ (r ≠ 0 → 0 ≤ i1.toInt ∧ 0 ≤ i2.toInt ∧ i1.toInt + i2.toInt ≤ 16))) 0 0 (q_N G) := by
  refine q_ofW (ts := []) (by decide) (Nat.le_of_ble_eq_true rfl) ?_
  intro p e s m args below meth c hE hr hlocks hW ls hl
  have hE : q_E G p s m args c cX5_hasPegs 3 RX5 := hE
  have hx := hE.1.1
  have hb := hE.1.2.1
  have hl : lv_has ls 3 [(0, .ref a0), (1, .int i1), (2, .int i2)] := hl
  refine lv_iload_n hx hb dX5_hasPegs_0 rfl (lv_at hl 1 rfl) ?_
  refine lv_if_lt (tgt := 27) hx hb dX5_hasPegs_1 (by decide) (fun kc1 => ?_) (fun kc1 => ?_)
  · have kv2 : q_V (-2147483648) (-1) i1 := (q_lt1 (q_all i1) (q_c (k := 0) (x := 0) (by decide)) kc1).w (by decide) (by decide)
    refine lv_iconst (v := 0) hx hb dX5_hasPegs_27 (by decide) ?_
    exact q_retz hE hr hlocks hW (Or.inl rfl) (⟨((q_c (k := 0) (x := 0) (by decide)).w (by decide) (by decide)), (fun q_h => absurd rfl q_h)⟩) dX5_hasPegs_28
  · have kv3 : q_V 0 2147483647 i1 := (q_le2 (q_c (k := 0) (x := 0) (by decide)) (q_all i1) (Int32.not_lt.mp kc1)).w (by decide) (by decide)
    refine lv_iload_n hx hb dX5_hasPegs_4 rfl (lv_at hl 2 rfl) ?_
    refine lv_if_lt (tgt := 27) hx hb dX5_hasPegs_5 (by decide) (fun kc4 => ?_) (fun kc4 => ?_)
    · have kv5 : q_V (-2147483648) (-1) i2 := (q_lt1 (q_all i2) (q_c (k := 0) (x := 0) (by decide)) kc4).w (by decide) (by decide)
      refine lv_iconst (v := 0) hx hb dX5_hasPegs_27 (by decide) ?_
      exact q_retz hE hr hlocks hW (Or.inl rfl) (⟨((q_c (k := 0) (x := 0) (by decide)).w (by decide) (by decide)), (fun q_h => absurd rfl q_h)⟩) dX5_hasPegs_28
    · have kv6 : q_V 0 2147483647 i2 := (q_le2 (q_c (k := 0) (x := 0) (by decide)) (q_all i2) (Int32.not_lt.mp kc4)).w (by decide) (by decide)
      refine lv_iload_n hx hb dX5_hasPegs_8 rfl (lv_at hl 1 rfl) ?_
      refine lv_aload_n hx hb dX5_hasPegs_9 rfl (lv_at hl 0 rfl) ?_
      refine q_geti hE hW h0 rfl q_k5 2 (by decide) rfl (hE.l wl_971) dX5_hasPegs_10 (fun kx7 ekx7 vkx7 => ?_)
      refine lv_bipush (v := 16) hx hb dX5_hasPegs_13 (by decide) ?_
      refine va_mmin hx hb (hE.1.2.2.1.trans hl.1.symm) hE.1.2.2.2.1 (hE.w wl_989) (hE.w wl_990) (hE.w wl_582) (hE.w wl_991) (by decide) (Nat.le_of_ble_eq_true rfl) (by decide) (by decide) dX5_hasPegs_15 ?_
      refine lv_topi (fun kx8 ekx8 => ?_)
      have vkx8 : q_V 0 16 kx8 := q_minV vkx7 (q_c (k := 16) (x := 16) (by decide)) ekx8 (by decide) (by decide)
      refine lv_iload_n hx hb dX5_hasPegs_18 rfl (lv_at hl 2 rfl) ?_
      refine lv_isub hx hb dX5_hasPegs_19 ?_
      refine lv_topi (fun kx9 ekx9 => ?_)
      have vkx9 : q_V (-2147483647) 16 kx9 := by rw [ekx9]; exact (q_sub vkx8 kv6 (by decide) (by decide)).w (by decide) (by decide)
      refine lv_icmp_gt (tgt := 27) hx hb dX5_hasPegs_20 (by decide) (fun kc10 => ?_) (fun kc10 => ?_)
      · refine lv_iconst (v := 0) hx hb dX5_hasPegs_27 (by decide) ?_
        exact q_retz hE hr hlocks hW (Or.inl rfl) (⟨((q_c (k := 0) (x := 0) (by decide)).w (by decide) (by decide)), (fun q_h => absurd rfl q_h)⟩) dX5_hasPegs_28
      · have kv11 : q_V 0 16 i1 := (q_le1 kv3 vkx9 (Int32.not_lt.mp kc10)).w (by decide) (by decide)
        have kv12 : q_V 0 16 kx9 := (q_le2 kv3 vkx9 (Int32.not_lt.mp kc10)).w (by decide) (by decide)
        refine lv_iconst (v := 1) hx hb dX5_hasPegs_23 (by decide) ?_
        refine lv_goto (tgt := 28) hx hb dX5_hasPegs_24 (by decide) ?_
        exact q_retz hE hr hlocks hW (Or.inr rfl) (⟨((q_c (k := 1) (x := 1) (by decide)).w (by decide) (by decide)), (fun _ => q_hp kv11 kv6 vkx8 ekx9 (Int32.not_lt.mp kc10) (by decide) (by decide) (by decide) (by decide))⟩) dX5_hasPegs_28
set_option maxHeartbeats 4000000 in
set_option maxRecDepth 100000 in
theorem c_X5_stretch (l : Launch) (G : q_G) (σ : q_S) (a0 : Nat) (h0 : q_T G a0 = 23) (i1 : Int32) (i2 : Int32) (w2 : q_V 0 16 i2)  : Met l yX5_stretch (Cond.code yX5_stretch cX5_stretch 3 none :: wsL_law) (q_Rm 2) (q_Pre G σ [.ref a0, .int i1, .int i2]) (q_Qv G [23, 24] σ (fun σ1 => True)) 0 0 (q_N G) := by
  refine q_ofW (ts := [23, 24]) (by decide) (Nat.le_of_ble_eq_true rfl) ?_
  intro p e s m args below meth c hE hr hlocks hW ls hl
  have hE : q_E G p s m args c cX5_stretch 3 RX5 := hE
  have hx := hE.1.1
  have hb := hE.1.2.1
  have hl : lv_has ls 3 [(0, .ref a0), (1, .int i1), (2, .int i2)] := hl
  refine lv_aload_n hx hb dX5_stretch_0 rfl (lv_at hl 0 rfl) ?_
  refine lv_iconst (v := 1) hx hb dX5_stretch_1 (by decide) ?_
  refine q_puti hE hW h0 rfl q_k5 tyX5 tyX5_ok 0 (by decide) rfl (hE.l wl_969) rfl rfl rfl ((q_c (k := 1) (x := 1) (by decide)).w (by decide) (by decide)) (by decide) dX5_stretch_2 (fun H locs ks1 kp2 hW => ?_)
  refine lv_aload_n hx hb dX5_stretch_5 rfl (lv_at hl 0 rfl) ?_
  refine lv_iload_n hx hb dX5_stretch_6 rfl (lv_at hl 1 rfl) ?_
  refine q_puti hE hW h0 rfl q_k5 tyX5 tyX5_ok 1 (by decide) rfl (hE.l wl_970) rfl rfl rfl (q_all i1) (by decide) dX5_stretch_7 (fun H locs ks3 kp4 hW => ?_)
  refine lv_aload_n hx hb dX5_stretch_10 rfl (lv_at hl 0 rfl) ?_
  refine lv_iload_n hx hb dX5_stretch_11 rfl (lv_at hl 2 rfl) ?_
  refine q_puti hE hW h0 rfl q_k5 tyX5 tyX5_ok 2 (by decide) rfl (hE.l wl_971) rfl rfl rfl w2 (by decide) dX5_stretch_12 (fun H locs ks5 kp6 hW => ?_)
  refine lv_aload_n hx hb dX5_stretch_15 rfl (lv_at hl 0 rfl) ?_
  refine q_getr hE hW h0 rfl q_k5 3 (by decide) rfl (hE.l wl_123) dX5_stretch_16 (fun kb7 ekb7 hkb7a hkb7b => ?_)
  have hkb7 : q_T G kb7 = 24 := q_tag hkb7a hkb7b
  refine lv_iconst (v := 0) hx hb dX5_stretch_19 (by decide) ?_
  refine q_gov hW (q_runS (As := [.ref kb7, .int 0]) (rest := []) hE hW (c_J7_fill_53178_t24 l G ks5 kb7 hkb7 0) kw_X5_29 rfl hl.1 rfl (Nat.le_of_ble_eq_true rfl) dX5_stretch_20 ⟨by decide, by decide⟩ ⟨by decide, by decide⟩) (by decide) (fun ks9 H locs kp8 kf10 hW => ?_)
  exact q_retv hE hr hlocks hW (trivial) dX5_stretch_23
set_option maxHeartbeats 4000000 in
set_option maxRecDepth 100000 in
theorem c_X5_mayHold (l : Launch) (G : q_G) (σ : q_S) (a0 : Nat) (h0 : q_T G a0 = 23) (i1 : Int32)  : Met l yX5_mayHold (Cond.code yX5_mayHold cX5_mayHold 2 (some .boolean) :: wsL_law) (q_Rm 1) (q_Pre G σ [.ref a0, .int i1]) (q_Qi G [] σ (fun r σ1 => q_V 0 1 r)) 0 0 (q_N G) := by
  refine q_ofW (ts := []) (by decide) (Nat.le_of_ble_eq_true rfl) ?_
  intro p e s m args below meth c hE hr hlocks hW ls hl
  have hE : q_E G p s m args c cX5_mayHold 2 RX5 := hE
  have hx := hE.1.1
  have hb := hE.1.2.1
  have hl : lv_has ls 2 [(0, .ref a0), (1, .int i1)] := hl
  refine lv_iload_n hx hb dX5_mayHold_0 rfl (lv_at hl 1 rfl) ?_
  refine lv_iconst (v := 1) hx hb dX5_mayHold_1 (by decide) ?_
  refine lv_icmp_ne (tgt := 19) hx hb dX5_mayHold_2 (by decide) (fun kc1 => ?_) (fun kc1 => ?_)
  · refine lv_iload_n hx hb dX5_mayHold_19 rfl (lv_at hl 1 rfl) ?_
    refine lv_iconst (v := 2) hx hb dX5_mayHold_20 (by decide) ?_
    refine lv_icmp_ne (tgt := 32) hx hb dX5_mayHold_21 (by decide) (fun kc2 => ?_) (fun kc2 => ?_)
    · refine lv_iconst (v := 1) hx hb dX5_mayHold_32 (by decide) ?_
      refine lv_goto (tgt := 37) hx hb dX5_mayHold_33 (by decide) ?_
      exact q_retz hE hr hlocks hW (Or.inr rfl) (((q_c (k := 1) (x := 1) (by decide)).w (by decide) (by decide))) dX5_mayHold_37
    · have kv3 : q_V 2 2 i1 := q_eq1 (q_all i1) (q_c (k := 2) (x := 2) (by decide)) kc2 (by decide) (by decide)
      refine lv_aload_n hx hb dX5_mayHold_24 rfl (lv_at hl 0 rfl) ?_
      refine q_geti hE hW h0 rfl q_k5 1 (by decide) rfl (hE.l wl_970) dX5_mayHold_25 (fun kx4 ekx4 vkx4 => ?_)
      refine lv_iconst (v := 1) hx hb dX5_mayHold_28 (by decide) ?_
      refine lv_icmp_eq (tgt := 36) hx hb dX5_mayHold_29 (by decide) (fun kc5 => ?_) (fun kc5 => ?_)
      · have kv6 : q_V 1 1 kx4 := q_eq1 (q_all kx4) (q_c (k := 1) (x := 1) (by decide)) kc5 (by decide) (by decide)
        refine lv_iconst (v := 0) hx hb dX5_mayHold_36 (by decide) ?_
        exact q_retz hE hr hlocks hW (Or.inl rfl) (((q_c (k := 0) (x := 0) (by decide)).w (by decide) (by decide))) dX5_mayHold_37
      · refine lv_iconst (v := 1) hx hb dX5_mayHold_32 (by decide) ?_
        refine lv_goto (tgt := 37) hx hb dX5_mayHold_33 (by decide) ?_
        exact q_retz hE hr hlocks hW (Or.inr rfl) (((q_c (k := 1) (x := 1) (by decide)).w (by decide) (by decide))) dX5_mayHold_37
  · have kv7 : q_V 1 1 i1 := q_eq1 (q_all i1) (q_c (k := 1) (x := 1) (by decide)) kc1 (by decide) (by decide)
    refine lv_aload_n hx hb dX5_mayHold_5 rfl (lv_at hl 0 rfl) ?_
    refine q_geti hE hW h0 rfl q_k5 1 (by decide) rfl (hE.l wl_970) dX5_mayHold_6 (fun kx8 ekx8 vkx8 => ?_)
    refine lv_iconst (v := 2) hx hb dX5_mayHold_9 (by decide) ?_
    refine lv_icmp_eq (tgt := 17) hx hb dX5_mayHold_10 (by decide) (fun kc9 => ?_) (fun kc9 => ?_)
    · have kv10 : q_V 2 2 kx8 := q_eq1 (q_all kx8) (q_c (k := 2) (x := 2) (by decide)) kc9 (by decide) (by decide)
      refine lv_iconst (v := 0) hx hb dX5_mayHold_17 (by decide) ?_
      exact q_retz hE hr hlocks hW (Or.inl rfl) (((q_c (k := 0) (x := 0) (by decide)).w (by decide) (by decide))) dX5_mayHold_18
    · refine lv_iconst (v := 1) hx hb dX5_mayHold_13 (by decide) ?_
      refine lv_goto (tgt := 18) hx hb dX5_mayHold_14 (by decide) ?_
      exact q_retz hE hr hlocks hW (Or.inr rfl) (((q_c (k := 1) (x := 1) (by decide)).w (by decide) (by decide))) dX5_mayHold_18
set_option maxHeartbeats 4000000 in
set_option maxRecDepth 100000 in
theorem c_X5_put (l : Launch) (G : q_G) (σ : q_S) (a0 : Nat) (h0 : q_T G a0 = 23) (i1 : Int32) (i2 : Int32) (i3 : Int32)  : Met l yX5_put (Cond.code yX5_put cX5_put 4 none :: wsL_law) (q_Rm 2) (q_Pre G σ [.ref a0, .int i1, .int i2, .int i3]) (q_Qv G [24, 25] σ (fun σ1 => True)) 0 0 (q_N G) := by
  refine q_ofW (ts := [24, 25]) (by decide) (Nat.le_of_ble_eq_true rfl) ?_
  intro p e s m args below meth c hE hr hlocks hW ls hl
  have hE : q_E G p s m args c cX5_put 4 RX5 := hE
  have hx := hE.1.1
  have hb := hE.1.2.1
  have hl : lv_has ls 4 [(0, .ref a0), (1, .int i1), (2, .int i2), (3, .int i3)] := hl
  refine lv_aload_n hx hb dX5_put_0 rfl (lv_at hl 0 rfl) ?_
  refine lv_iload_n hx hb dX5_put_1 rfl (lv_at hl 1 rfl) ?_
  refine lv_iconst (v := 1) hx hb dX5_put_2 (by decide) ?_
  refine q_goi hW (q_runV (As := [.int i1, .int 1]) (rest := []) hE hW (c_X5_hasPegs l G σ a0 h0 i1 1) kw_X5_41 (q_recv hE hW h0 rfl q_k5) rfl hl.1 rfl (Nat.le_of_ble_eq_true rfl) dX5_put_3 ⟨by decide, by decide⟩ ⟨by decide, by decide⟩) (by decide) (fun kx4 ks2 H locs kp1 kf3 hW => ?_)
  refine lv_if_eq (tgt := 23) hx hb dX5_put_6 (by decide) (fun kc5 => ?_) (fun kc5 => ?_)
  · have kv6 : q_V 0 0 kx4 := q_eq1 kp1.1 (q_c (k := 0) (x := 0) (by decide)) kc5 (by decide) (by decide)
    exact q_retv hE hr hlocks hW (trivial) dX5_put_23
  · have kh7 := kp1.2 kc5
    have kv8 : q_V 0 16 i1 := q_both (q_all i1) (q_hp1 kh7) (by decide) (by decide)
    have kv9 : q_V 0 15 i1 := ⟨kv8.1, q_hp3 kh7 (by decide)⟩
    have kv10 : q_V 1 1 kx4 := q_ne1 kp1.1 (q_c (k := 0) (x := 0) (by decide)) kc5 (by decide)
    refine lv_aload_n hx hb dX5_put_9 rfl (lv_at hl 0 rfl) ?_
    refine q_getr hE hW h0 rfl q_k5 3 (by decide) rfl (hE.l wl_123) dX5_put_10 (fun kb11 ekb11 hkb11a hkb11b => ?_)
    have hkb11 : q_T G kb11 = 24 := q_tag hkb11a hkb11b
    refine lv_iload_n hx hb dX5_put_13 rfl (lv_at hl 1 rfl) ?_
    refine lv_iload_n hx hb dX5_put_14 rfl (lv_at hl 2 rfl) ?_
    refine q_iast hE hW hkb11 rfl (q_in kv9 (by decide) (by decide)) trivial (by decide) dX5_put_15 (fun H locs ks12 kp13 hW => ?_)
    refine lv_aload_n hx hb dX5_put_16 rfl (lv_at hl 0 rfl) ?_
    refine q_getr hE hW h0 rfl q_k5 4 (by decide) rfl (hE.l wl_124) dX5_put_17 (fun kb14 ekb14 hkb14a hkb14b => ?_)
    have hkb14 : q_T G kb14 = 25 := q_tag hkb14a hkb14b
    refine lv_iload_n hx hb dX5_put_20 rfl (lv_at hl 1 rfl) ?_
    refine lv_iload_n hx hb dX5_put_21 rfl (lv_at hl 3 rfl) ?_
    refine q_iast hE hW hkb14 rfl (q_in kv9 (by decide) (by decide)) trivial (by decide) dX5_put_22 (fun H locs ks15 kp16 hW => ?_)
    exact q_retv hE hr hlocks hW (trivial) dX5_put_23
set_option maxHeartbeats 4000000 in
set_option maxRecDepth 100000 in
theorem c_X5_take (l : Launch) (G : q_G) (σ : q_S) (a0 : Nat) (h0 : q_T G a0 = 23) (a1 : Nat) (h1 : q_T G a1 = 23) (i2 : Int32) (i3 : Int32)  : Met l yX5_take (Cond.code yX5_take cX5_take 4 none :: wsL_law) (q_Rm 2) (q_Pre G σ [.ref a0, .ref a1, .int i2, .int i3]) (q_Qv G [24, 25] σ (fun σ1 => True)) 0 0 (q_N G) := by
  refine q_ofW (ts := [24, 25]) (by decide) (Nat.le_of_ble_eq_true rfl) ?_
  intro p e s m args below meth c hE hr hlocks hW ls hl
  have hE : q_E G p s m args c cX5_take 4 RX5 := hE
  have hx := hE.1.1
  have hb := hE.1.2.1
  have hl : lv_has ls 4 [(0, .ref a0), (1, .ref a1), (2, .int i2), (3, .int i3)] := hl
  refine lv_aload_n hx hb dX5_take_0 rfl (lv_at hl 1 rfl) ?_
  refine lv_iload_n hx hb dX5_take_1 rfl (lv_at hl 2 rfl) ?_
  refine lv_iload_n hx hb dX5_take_2 rfl (lv_at hl 3 rfl) ?_
  refine q_goi hW (q_runV (As := [.int i2, .int i3]) (rest := []) hE hW (c_X5_hasPegs l G σ a1 h1 i2 i3) kw_X5_41 (q_recv hE hW h1 rfl q_k5) rfl hl.1 rfl (Nat.le_of_ble_eq_true rfl) dX5_take_3 ⟨by decide, by decide⟩ ⟨by decide, by decide⟩) (by decide) (fun kx4 ks2 H locs kp1 kf3 hW => ?_)
  refine lv_if_eq (tgt := 37) hx hb dX5_take_6 (by decide) (fun kc5 => ?_) (fun kc5 => ?_)
  · have kv6 : q_V 0 0 kx4 := q_eq1 kp1.1 (q_c (k := 0) (x := 0) (by decide)) kc5 (by decide) (by decide)
    exact q_retv hE hr hlocks hW (trivial) dX5_take_37
  · have kh7 := kp1.2 kc5
    have kv8 : q_V 0 16 i2 := q_both (q_all i2) (q_hp1 kh7) (by decide) (by decide)
    have kv9 : q_V 0 16 i3 := q_both (q_all i3) (q_hp2 kh7) (by decide) (by decide)
    have kv10 : q_V 1 1 kx4 := q_ne1 kp1.1 (q_c (k := 0) (x := 0) (by decide)) kc5 (by decide)
    refine lv_aload_n hx hb dX5_take_9 rfl (lv_at hl 1 rfl) ?_
    refine q_getr hE hW h1 rfl q_k5 3 (by decide) rfl (hE.l wl_123) dX5_take_10 (fun kb11 ekb11 hkb11a hkb11b => ?_)
    have hkb11 : q_T G kb11 = 24 := q_tag hkb11a hkb11b
    refine lv_iload_n hx hb dX5_take_13 rfl (lv_at hl 2 rfl) ?_
    refine lv_aload_n hx hb dX5_take_14 rfl (lv_at hl 0 rfl) ?_
    refine q_getr hE hW h0 rfl q_k5 3 (by decide) rfl (hE.l wl_123) dX5_take_15 (fun kb12 ekb12 hkb12a hkb12b => ?_)
    have hkb12 : q_T G kb12 = 24 := q_tag hkb12a hkb12b
    refine lv_iconst (v := 0) hx hb dX5_take_18 (by decide) ?_
    refine lv_iload_n hx hb dX5_take_19 rfl (lv_at hl 3 rfl) ?_
    refine q_acopy hE hW hkb11 hkb12 rfl rfl (Or.inl rfl) (q_ge0 kv8 (by decide)) (by decide) (q_ge0 kv9 (by decide)) (q_hp4 kh7) (q_hp5 kh7 (by decide)) (fun _ _ _ _ => trivial) (by decide) wl_1027 wl_201 wl_202 wl_203 hl.1 (by decide) (Nat.le_of_ble_eq_true rfl) dX5_take_20 (fun H locs ks13 kp14 hW => ?_)
    refine lv_aload_n hx hb dX5_take_23 rfl (lv_at hl 1 rfl) ?_
    refine q_getr hE hW h1 rfl q_k5 4 (by decide) rfl (hE.l wl_124) dX5_take_24 (fun kb15 ekb15 hkb15a hkb15b => ?_)
    have hkb15 : q_T G kb15 = 25 := q_tag hkb15a hkb15b
    refine lv_iload_n hx hb dX5_take_27 rfl (lv_at hl 2 rfl) ?_
    refine lv_aload_n hx hb dX5_take_28 rfl (lv_at hl 0 rfl) ?_
    refine q_getr hE hW h0 rfl q_k5 4 (by decide) rfl (hE.l wl_124) dX5_take_29 (fun kb16 ekb16 hkb16a hkb16b => ?_)
    have hkb16 : q_T G kb16 = 25 := q_tag hkb16a hkb16b
    refine lv_iconst (v := 0) hx hb dX5_take_32 (by decide) ?_
    refine lv_iload_n hx hb dX5_take_33 rfl (lv_at hl 3 rfl) ?_
    refine q_acopy hE hW hkb15 hkb16 rfl rfl (Or.inl rfl) (q_ge0 kv8 (by decide)) (by decide) (q_ge0 kv9 (by decide)) (q_hp4 kh7) (q_hp5 kh7 (by decide)) (fun _ _ _ _ => trivial) (by decide) wl_1027 wl_201 wl_202 wl_203 hl.1 (by decide) (Nat.le_of_ble_eq_true rfl) dX5_take_34 (fun H locs ks17 kp18 hW => ?_)
    exact q_retv hE hr hlocks hW (trivial) dX5_take_37
set_option maxHeartbeats 4000000 in
set_option maxRecDepth 100000 in
theorem c_X5_heldPegs (l : Launch) (G : q_G) (σ : q_S) (a0 : Nat) (h0 : q_T G a0 = 23)  : Met l yX5_heldPegs (Cond.code yX5_heldPegs cX5_heldPegs 3 (some .int) :: wsL_law) (q_Rm 1) (q_Pre G σ [.ref a0]) (q_Qi G [] σ (fun r σ1 => q_V (-2147483648) 2147483647 r)) 0 0 (q_N G) := by
  refine q_ofW (ts := []) (by decide) (Nat.le_of_ble_eq_true rfl) ?_
  intro p e s m args below meth c hE hr hlocks hW ls hl
  have hE : q_E G p s m args c cX5_heldPegs 3 RX5 := hE
  have hx := hE.1.1
  have hb := hE.1.2.1
  have hl : lv_has ls 3 [(0, .ref a0)] := hl
  have lp4a : ∀ (n4a : Nat) (kx1 : Int32) (kx2 : Int32) (vkx2 : q_V 0 16 kx2) (ls : Array Slot) (hl : lv_has ls 3 [(0, .ref a0), (1, .int kx1), (2, .int kx2)]), (16 - kx2.toInt).toNat < n4a → W p l e (q_Rm 1) s m args below meth c s.heap [] 0 0 (MQ below (q_Qi G [] σ (fun r σ1 => q_V (-2147483648) 2147483647 r)) args s 0 0 (q_N G)) (F0 m 4 ls []) := by
    intro n4a
    induction n4a with
    | zero => intro _ _ _ _ _; exact fun h => absurd h (Nat.not_lt_zero _)
    | succ n4a ih4a =>
      intro kx1 kx2 vkx2 ls hl hm4a
      have jn33a : ∀ (kv3 : q_V 0 15 kx2) (kx4 : Int32) (kx5 : Int32) (vkx5 : q_V 0 1 kx5) (ls : Array Slot) (hl : lv_has ls 3 [(0, .ref a0), (2, .int kx2)]), W p l e (q_Rm 1) s m args below meth c s.heap [] 0 0 (MQ below (q_Qi G [] σ (fun r σ1 => q_V (-2147483648) 2147483647 r)) args s 0 0 (q_N G)) (F0 m 33 ls [.int kx5, .int kx4]) := by
        intro kv3 kx4 kx5 vkx5 ls hl
        refine lv_iadd hx hb dX5_heldPegs_33 ?_
        refine lv_topi (fun kx6 ekx6 => ?_)
        refine lv_istore_n (lv' := [(1, .int kx6), (0, .ref a0), (2, .int kx2)]) hx hb dX5_heldPegs_34 rfl hl (by decide) rfl (fun ls hl => ?_)
        obtain ⟨kx7, ekx7⟩ : ∃ y : Int32, y = kx2 + 1 := ⟨_, rfl⟩
        have vkx7 : q_V 1 16 kx7 := by rw [ekx7]; exact (q_add kv3 (q_c (k := 1) (x := 1) (by decide)) (by decide) (by decide)).w (by decide) (by decide)
        have ikx7 : kx7.toInt = kx2.toInt + 1 := q_incT ekx7 kv3 (by decide) (by decide) (by decide)
        refine lv_iinc (v := kx7) (lv' := [(2, .int kx7), (1, .int kx6), (0, .ref a0)]) hx hb dX5_heldPegs_35 hl (k := 2) rfl (by rw [ekx7]; rfl) (by decide) rfl (fun ls hl => ?_)
        refine lv_goto (tgt := 4) hx hb dX5_heldPegs_38 (by decide) ?_
        exact ih4a kx6 kx7 (vkx7.w (by decide) (by decide)) ls (lv_sub hl [2, 1, 0] rfl) (Nat.lt_of_lt_of_le (q_up (ikx7) (show q_V 1 16 kx7 from vkx7).2) (Nat.le_of_lt_succ hm4a))
      refine lv_iload_n hx hb dX5_heldPegs_4 rfl (lv_at hl 2 rfl) ?_
      refine lv_aload_n hx hb dX5_heldPegs_5 rfl (lv_at hl 0 rfl) ?_
      refine q_geti hE hW h0 rfl q_k5 2 (by decide) rfl (hE.l wl_971) dX5_heldPegs_6 (fun kx8 ekx8 vkx8 => ?_)
      refine lv_icmp_ge (tgt := 41) hx hb dX5_heldPegs_9 (by decide) (fun kc9 => ?_) (fun kc9 => ?_)
      · refine lv_iload_n hx hb dX5_heldPegs_41 rfl (lv_at hl 1 rfl) ?_
        exact q_reti hE hr hlocks hW ((q_all kx1)) dX5_heldPegs_42
      · have kv10 : q_V 0 15 kx2 := (q_lt1 vkx2 vkx8 (Int32.not_le.mp kc9)).w (by decide) (by decide)
        have kv11 : q_V 1 16 kx8 := (q_lt2 vkx2 vkx8 (Int32.not_le.mp kc9)).w (by decide) (by decide)
        refine lv_iload_n hx hb dX5_heldPegs_12 rfl (lv_at hl 2 rfl) ?_
        refine lv_bipush (v := 16) hx hb dX5_heldPegs_13 (by decide) ?_
        refine lv_icmp_ge (tgt := 41) hx hb dX5_heldPegs_15 (by decide) (fun kc12 => ?_) (fun kc12 => ?_)
        · have kv13 : q_V 16 15 16 := (q_le1 (q_c (k := 16) (x := 16) (by decide)) kv10 kc12).w (by decide) (by decide)
          exact (kv13.no (by decide))
        · refine lv_iload_n hx hb dX5_heldPegs_18 rfl (lv_at hl 1 rfl) ?_
          refine lv_aload_n hx hb dX5_heldPegs_19 rfl (lv_at hl 0 rfl) ?_
          refine q_getr hE hW h0 rfl q_k5 3 (by decide) rfl (hE.l wl_123) dX5_heldPegs_20 (fun kb14 ekb14 hkb14a hkb14b => ?_)
          have hkb14 : q_T G kb14 = 24 := q_tag hkb14a hkb14b
          refine lv_iload_n hx hb dX5_heldPegs_23 rfl (lv_at hl 2 rfl) ?_
          refine q_iald hE hW hkb14 rfl (q_in kv10 (by decide) (by decide)) dX5_heldPegs_24 (fun kx15 ekx15 gkx15 => ?_)
          refine lv_if_ne (tgt := 32) hx hb dX5_heldPegs_25 (by decide) (fun kc16 => ?_) (fun kc16 => ?_)
          · refine lv_iconst (v := 1) hx hb dX5_heldPegs_32 (by decide) ?_
            exact jn33a kv10 kx1 1 ((q_c (k := 1) (x := 1) (by decide)).w (by decide) (by decide)) ls (lv_sub hl [0, 2] rfl)
          · have kv17 : q_V 0 0 kx15 := q_eq1 (q_all kx15) (q_c (k := 0) (x := 0) (by decide)) kc16 (by decide) (by decide)
            refine lv_iconst (v := 0) hx hb dX5_heldPegs_28 (by decide) ?_
            refine lv_goto (tgt := 33) hx hb dX5_heldPegs_29 (by decide) ?_
            exact jn33a kv10 kx1 0 ((q_c (k := 0) (x := 0) (by decide)).w (by decide) (by decide)) ls (lv_sub hl [0, 2] rfl)
  refine lv_iconst (v := 0) hx hb dX5_heldPegs_0 (by decide) ?_
  refine lv_istore_n (lv' := [(1, .int 0), (0, .ref a0)]) hx hb dX5_heldPegs_1 rfl hl (by decide) rfl (fun ls hl => ?_)
  refine lv_iconst (v := 0) hx hb dX5_heldPegs_2 (by decide) ?_
  refine lv_istore_n (lv' := [(2, .int 0), (1, .int 0), (0, .ref a0)]) hx hb dX5_heldPegs_3 rfl hl (by decide) rfl (fun ls hl => ?_)
  exact lp4a _ 0 0 ((q_c (k := 0) (x := 0) (by decide)).w (by decide) (by decide)) ls (lv_sub hl [2, 1, 0] rfl) (Nat.lt_succ_self _)
set_option maxHeartbeats 4000000 in
set_option maxRecDepth 100000 in
theorem c_X6_washerFor (l : Launch) (G : q_G) (σ : q_S) (a0 : Nat) (h0 : q_T G a0 = 16) (i1 : Int32)  : Met l yX6_washerFor (Cond.code yX6_washerFor cX6_washerFor 2 (some .int) :: wsL_law) (q_Rm 1) (q_Pre G σ [.ref a0, .int i1]) (q_Qi G [] σ (fun r σ1 => q_V (-2147483648) 2147483647 r)) 0 0 (q_N G) := by
  refine q_ofW (ts := []) (by decide) (Nat.le_of_ble_eq_true rfl) ?_
  intro p e s m args below meth c hE hr hlocks hW ls hl
  have hE : q_E G p s m args c cX6_washerFor 2 RX6 := hE
  have hx := hE.1.1
  have hb := hE.1.2.1
  have hl : lv_has ls 2 [(0, .ref a0), (1, .int i1)] := hl
  refine lv_iload_n hx hb dX6_washerFor_0 rfl (lv_at hl 1 rfl) ?_
  refine lv_if_lt (tgt := 10) hx hb dX6_washerFor_1 (by decide) (fun kc1 => ?_) (fun kc1 => ?_)
  · have kv2 : q_V (-2147483648) (-1) i1 := (q_lt1 (q_all i1) (q_c (k := 0) (x := 0) (by decide)) kc1).w (by decide) (by decide)
    refine lv_iconst (v := (-1)) hx hb dX6_washerFor_10 (by decide) ?_
    refine lv_goto (tgt := 20) hx hb dX6_washerFor_11 (by decide) ?_
    exact q_reti hE hr hlocks hW (((q_c (k := (-1)) (x := (-1)) (by decide)).w (by decide) (by decide))) dX6_washerFor_20
  · have kv3 : q_V 0 2147483647 i1 := (q_le2 (q_c (k := 0) (x := 0) (by decide)) (q_all i1) (Int32.not_lt.mp kc1)).w (by decide) (by decide)
    refine lv_iload_n hx hb dX6_washerFor_4 rfl (lv_at hl 1 rfl) ?_
    refine lv_bipush (v := 6) hx hb dX6_washerFor_5 (by decide) ?_
    refine lv_icmp_lt (tgt := 14) hx hb dX6_washerFor_7 (by decide) (fun kc4 => ?_) (fun kc4 => ?_)
    · have kv5 : q_V 0 5 i1 := (q_lt1 kv3 (q_c (k := 6) (x := 6) (by decide)) kc4).w (by decide) (by decide)
      refine lv_aload_n hx hb dX6_washerFor_14 rfl (lv_at hl 0 rfl) ?_
      refine q_getr hE hW h0 rfl q_k6 4 (by decide) rfl (hE.l wl_116) dX6_washerFor_15 (fun kb6 ekb6 hkb6a hkb6b => ?_)
      have hkb6 : q_T G kb6 = 20 := q_tag hkb6a hkb6b
      refine lv_iload_n hx hb dX6_washerFor_18 rfl (lv_at hl 1 rfl) ?_
      refine q_iald hE hW hkb6 rfl (q_in kv5 (by decide) (by decide)) dX6_washerFor_19 (fun kx7 ekx7 gkx7 => ?_)
      exact q_reti hE hr hlocks hW ((q_all kx7)) dX6_washerFor_20
    · have kv8 : q_V 6 2147483647 i1 := (q_le2 (q_c (k := 6) (x := 6) (by decide)) kv3 (Int32.not_lt.mp kc4)).w (by decide) (by decide)
      refine lv_iconst (v := (-1)) hx hb dX6_washerFor_10 (by decide) ?_
      refine lv_goto (tgt := 20) hx hb dX6_washerFor_11 (by decide) ?_
      exact q_reti hE hr hlocks hW (((q_c (k := (-1)) (x := (-1)) (by decide)).w (by decide) (by decide))) dX6_washerFor_20
set_option maxHeartbeats 4000000 in
set_option maxRecDepth 100000 in
theorem c_X6_dueOf (l : Launch) (G : q_G) (σ : q_S) (a0 : Nat) (h0 : q_T G a0 = 16) (i1 : Int32)  : Met l yX6_dueOf (Cond.code yX6_dueOf cX6_dueOf 3 (some .int) :: wsL_law) (q_Rm 2) (q_Pre G σ [.ref a0, .int i1]) (q_Qi G [] σ (fun r σ1 => q_V (-2147483648) 2147483647 r)) 0 0 (q_N G) := by
  refine q_ofW (ts := []) (by decide) (Nat.le_of_ble_eq_true rfl) ?_
  intro p e s m args below meth c hE hr hlocks hW ls hl
  have hE : q_E G p s m args c cX6_dueOf 3 RX6 := hE
  have hx := hE.1.1
  have hb := hE.1.2.1
  have hl : lv_has ls 3 [(0, .ref a0), (1, .int i1)] := hl
  refine lv_aload_n hx hb dX6_dueOf_0 rfl (lv_at hl 0 rfl) ?_
  refine q_getr hE hW h0 rfl q_k6 0 (by decide) rfl (hE.l wl_112) dX6_dueOf_1 (fun kb1 ekb1 hkb1a hkb1b => ?_)
  have hkb1 : q_T G kb1 = 7 := q_tag hkb1a hkb1b
  refine lv_iload_n hx hb dX6_dueOf_4 rfl (lv_at hl 1 rfl) ?_
  refine q_goq hW (q_runV (As := [.int i1]) (rest := []) hE hW (c_X2_cloudAt l G σ kb1 hkb1 i1) kw_X6_79 (q_recv hE hW hkb1 rfl q_k2) rfl hl.1 rfl (Nat.le_of_ble_eq_true rfl) dX6_dueOf_5 ⟨by decide, by decide⟩ ⟨by decide, by decide⟩) (by decide) (fun ks3 H locs kp2 kf4 hW => ?_) (fun kb5 ks3 H locs kp2 kf4 hW => ?_)
  · refine lv_astore_nN (lv' := [(2, .null), (0, .ref a0), (1, .int i1)]) hx hb dX6_dueOf_8 rfl hl (by decide) rfl (fun ls hl => ?_)
    refine lv_aload_nN hx hb dX6_dueOf_9 rfl (lv_at hl 0 rfl) ?_
    refine lv_ifnonnullN hx hb dX6_dueOf_10 ?_
    refine lv_iconst (v := (-1)) hx hb dX6_dueOf_13 (by decide) ?_
    refine lv_goto (tgt := 21) hx hb dX6_dueOf_14 (by decide) ?_
    exact q_reti hE hr hlocks hW (((q_c (k := (-1)) (x := (-1)) (by decide)).w (by decide) (by decide))) dX6_dueOf_21
  · have hkb5 : q_T G kb5 = 5 := kp2 kb5 rfl
    refine lv_astore_n (lv' := [(2, .ref kb5), (0, .ref a0), (1, .int i1)]) hx hb dX6_dueOf_8 rfl hl (by decide) rfl (fun ls hl => ?_)
    refine lv_aload_n hx hb dX6_dueOf_9 rfl (lv_at hl 0 rfl) ?_
    refine lv_ifnonnull hx hb dX6_dueOf_10 (tgt := 17) (by decide) ?_
    refine lv_aload_n hx hb dX6_dueOf_17 rfl (lv_at hl 0 rfl) ?_
    refine q_geti hE hW hkb5 rfl q_k1 2 (by decide) rfl (hE.n 7 rfl) dX6_dueOf_18 (fun kx6 ekx6 vkx6 => ?_)
    exact q_reti hE hr hlocks hW ((q_all kx6)) dX6_dueOf_21
set_option maxHeartbeats 4000000 in
set_option maxRecDepth 100000 in
theorem c_X6_hoursOf (l : Launch) (G : q_G) (σ : q_S) (a0 : Nat) (h0 : q_T G a0 = 16) (i1 : Int32) (i2 : Int32)  : Met l yX6_hoursOf (Cond.code yX6_hoursOf cX6_hoursOf 3 (some .int) :: wsL_law) (q_Rm 1) (q_Pre G σ [.ref a0, .int i1, .int i2]) (q_Qi G [] σ (fun r σ1 => q_V (-2147483648) 2147483647 r)) 0 0 (q_N G) := by
  refine q_ofW (ts := []) (by decide) (Nat.le_of_ble_eq_true rfl) ?_
  intro p e s m args below meth c hE hr hlocks hW ls hl
  have hE : q_E G p s m args c cX6_hoursOf 3 RX6 := hE
  have hx := hE.1.1
  have hb := hE.1.2.1
  have hl : lv_has ls 3 [(0, .ref a0), (1, .int i1), (2, .int i2)] := hl
  refine lv_iload_n hx hb dX6_hoursOf_0 rfl (lv_at hl 1 rfl) ?_
  refine lv_if_lt (tgt := 19) hx hb dX6_hoursOf_1 (by decide) (fun kc1 => ?_) (fun kc1 => ?_)
  · have kv2 : q_V (-2147483648) (-1) i1 := (q_lt1 (q_all i1) (q_c (k := 0) (x := 0) (by decide)) kc1).w (by decide) (by decide)
    refine lv_iconst (v := (-1)) hx hb dX6_hoursOf_19 (by decide) ?_
    refine lv_goto (tgt := 31) hx hb dX6_hoursOf_20 (by decide) ?_
    exact q_reti hE hr hlocks hW (((q_c (k := (-1)) (x := (-1)) (by decide)).w (by decide) (by decide))) dX6_hoursOf_31
  · have kv3 : q_V 0 2147483647 i1 := (q_le2 (q_c (k := 0) (x := 0) (by decide)) (q_all i1) (Int32.not_lt.mp kc1)).w (by decide) (by decide)
    refine lv_iload_n hx hb dX6_hoursOf_4 rfl (lv_at hl 1 rfl) ?_
    refine lv_iconst (v := 3) hx hb dX6_hoursOf_5 (by decide) ?_
    refine lv_icmp_ge (tgt := 19) hx hb dX6_hoursOf_6 (by decide) (fun kc4 => ?_) (fun kc4 => ?_)
    · have kv5 : q_V 3 2147483647 i1 := (q_le2 (q_c (k := 3) (x := 3) (by decide)) kv3 kc4).w (by decide) (by decide)
      refine lv_iconst (v := (-1)) hx hb dX6_hoursOf_19 (by decide) ?_
      refine lv_goto (tgt := 31) hx hb dX6_hoursOf_20 (by decide) ?_
      exact q_reti hE hr hlocks hW (((q_c (k := (-1)) (x := (-1)) (by decide)).w (by decide) (by decide))) dX6_hoursOf_31
    · have kv6 : q_V 0 2 i1 := (q_lt1 kv3 (q_c (k := 3) (x := 3) (by decide)) (Int32.not_le.mp kc4)).w (by decide) (by decide)
      refine lv_iload_n hx hb dX6_hoursOf_9 rfl (lv_at hl 2 rfl) ?_
      refine lv_if_lt (tgt := 19) hx hb dX6_hoursOf_10 (by decide) (fun kc7 => ?_) (fun kc7 => ?_)
      · have kv8 : q_V (-2147483648) (-1) i2 := (q_lt1 (q_all i2) (q_c (k := 0) (x := 0) (by decide)) kc7).w (by decide) (by decide)
        refine lv_iconst (v := (-1)) hx hb dX6_hoursOf_19 (by decide) ?_
        refine lv_goto (tgt := 31) hx hb dX6_hoursOf_20 (by decide) ?_
        exact q_reti hE hr hlocks hW (((q_c (k := (-1)) (x := (-1)) (by decide)).w (by decide) (by decide))) dX6_hoursOf_31
      · have kv9 : q_V 0 2147483647 i2 := (q_le2 (q_c (k := 0) (x := 0) (by decide)) (q_all i2) (Int32.not_lt.mp kc7)).w (by decide) (by decide)
        refine lv_iload_n hx hb dX6_hoursOf_13 rfl (lv_at hl 2 rfl) ?_
        refine lv_bipush (v := 6) hx hb dX6_hoursOf_14 (by decide) ?_
        refine lv_icmp_lt (tgt := 23) hx hb dX6_hoursOf_16 (by decide) (fun kc10 => ?_) (fun kc10 => ?_)
        · have kv11 : q_V 0 5 i2 := (q_lt1 kv9 (q_c (k := 6) (x := 6) (by decide)) kc10).w (by decide) (by decide)
          refine lv_aload_n hx hb dX6_hoursOf_23 rfl (lv_at hl 0 rfl) ?_
          refine q_getr hE hW h0 rfl q_k6 5 (by decide) rfl (hE.l wl_118) dX6_hoursOf_24 (fun kb12 ekb12 hkb12a hkb12b => ?_)
          have hkb12 : q_T G kb12 = 21 := q_tag hkb12a hkb12b
          refine lv_iload_n hx hb dX6_hoursOf_27 rfl (lv_at hl 1 rfl) ?_
          refine q_aald hE hW hkb12 rfl (q_in kv6 (by decide) (by decide)) dX6_hoursOf_28 (fun kb13 ekb13 hkb13a hkb13b => ?_)
          have hkb13 : q_T G kb13 = 22 := q_tag hkb13a hkb13b
          refine lv_iload_n hx hb dX6_hoursOf_29 rfl (lv_at hl 2 rfl) ?_
          refine q_iald hE hW hkb13 rfl (q_in kv11 (by decide) (by decide)) dX6_hoursOf_30 (fun kx14 ekx14 gkx14 => ?_)
          exact q_reti hE hr hlocks hW ((q_all kx14)) dX6_hoursOf_31
        · have kv15 : q_V 6 2147483647 i2 := (q_le2 (q_c (k := 6) (x := 6) (by decide)) kv9 (Int32.not_lt.mp kc10)).w (by decide) (by decide)
          refine lv_iconst (v := (-1)) hx hb dX6_hoursOf_19 (by decide) ?_
          refine lv_goto (tgt := 31) hx hb dX6_hoursOf_20 (by decide) ?_
          exact q_reti hE hr hlocks hW (((q_c (k := (-1)) (x := (-1)) (by decide)).w (by decide) (by decide))) dX6_hoursOf_31
set_option maxHeartbeats 4000000 in
set_option maxRecDepth 100000 in
theorem c_X6_isHers (l : Launch) (G : q_G) (σ : q_S) (a0 : Nat) (h0 : q_T G a0 = 16) (i1 : Int32) (i2 : Int32)  : Met l yX6_isHers (Cond.code yX6_isHers cX6_isHers 3 (some .boolean) :: wsL_law) (q_Rm 1) (q_Pre G σ [.ref a0, .int i1, .int i2]) (q_Qi G [] σ (fun r σ1 => q_V 0 1 r)) 0 0 (q_N G) := by
  refine q_ofW (ts := []) (by decide) (Nat.le_of_ble_eq_true rfl) ?_
  intro p e s m args below meth c hE hr hlocks hW ls hl
  have hE : q_E G p s m args c cX6_isHers 3 RX6 := hE
  have hx := hE.1.1
  have hb := hE.1.2.1
  have hl : lv_has ls 3 [(0, .ref a0), (1, .int i1), (2, .int i2)] := hl
  refine lv_iload_n hx hb dX6_isHers_0 rfl (lv_at hl 1 rfl) ?_
  refine lv_if_lt (tgt := 27) hx hb dX6_isHers_1 (by decide) (fun kc1 => ?_) (fun kc1 => ?_)
  · have kv2 : q_V (-2147483648) (-1) i1 := (q_lt1 (q_all i1) (q_c (k := 0) (x := 0) (by decide)) kc1).w (by decide) (by decide)
    refine lv_iconst (v := 0) hx hb dX6_isHers_27 (by decide) ?_
    exact q_retz hE hr hlocks hW (Or.inl rfl) (((q_c (k := 0) (x := 0) (by decide)).w (by decide) (by decide))) dX6_isHers_28
  · have kv3 : q_V 0 2147483647 i1 := (q_le2 (q_c (k := 0) (x := 0) (by decide)) (q_all i1) (Int32.not_lt.mp kc1)).w (by decide) (by decide)
    refine lv_iload_n hx hb dX6_isHers_4 rfl (lv_at hl 1 rfl) ?_
    refine lv_iconst (v := 3) hx hb dX6_isHers_5 (by decide) ?_
    refine lv_icmp_ge (tgt := 27) hx hb dX6_isHers_6 (by decide) (fun kc4 => ?_) (fun kc4 => ?_)
    · have kv5 : q_V 3 2147483647 i1 := (q_le2 (q_c (k := 3) (x := 3) (by decide)) kv3 kc4).w (by decide) (by decide)
      refine lv_iconst (v := 0) hx hb dX6_isHers_27 (by decide) ?_
      exact q_retz hE hr hlocks hW (Or.inl rfl) (((q_c (k := 0) (x := 0) (by decide)).w (by decide) (by decide))) dX6_isHers_28
    · have kv6 : q_V 0 2 i1 := (q_lt1 kv3 (q_c (k := 3) (x := 3) (by decide)) (Int32.not_le.mp kc4)).w (by decide) (by decide)
      refine lv_aload_n hx hb dX6_isHers_9 rfl (lv_at hl 0 rfl) ?_
      refine q_getr hE hW h0 rfl q_k6 2 (by decide) rfl (hE.l wl_114) dX6_isHers_10 (fun kb7 ekb7 hkb7a hkb7b => ?_)
      have hkb7 : q_T G kb7 = 18 := q_tag hkb7a hkb7b
      refine lv_iload_n hx hb dX6_isHers_13 rfl (lv_at hl 1 rfl) ?_
      refine q_iald hE hW hkb7 rfl (q_in kv6 (by decide) (by decide)) dX6_isHers_14 (fun kx8 ekx8 gkx8 => ?_)
      refine lv_iload_n hx hb dX6_isHers_15 rfl (lv_at hl 2 rfl) ?_
      refine lv_ishr hx hb dX6_isHers_16 ?_
      refine lv_topi (fun kx9 ekx9 => ?_)
      refine lv_iconst (v := 1) hx hb dX6_isHers_17 (by decide) ?_
      refine lv_iand hx hb dX6_isHers_18 ?_
      refine lv_topi (fun kx10 ekx10 => ?_)
      have vkx10 : q_V 0 1 kx10 := by rw [ekx10]; exact (q_and1 kx9).w (by decide) (by decide)
      refine lv_iconst (v := 1) hx hb dX6_isHers_19 (by decide) ?_
      refine lv_icmp_ne (tgt := 27) hx hb dX6_isHers_20 (by decide) (fun kc11 => ?_) (fun kc11 => ?_)
      · have kv12 : q_V 0 0 kx10 := q_ne2 vkx10 (q_c (k := 1) (x := 1) (by decide)) kc11 (by decide)
        refine lv_iconst (v := 0) hx hb dX6_isHers_27 (by decide) ?_
        exact q_retz hE hr hlocks hW (Or.inl rfl) (((q_c (k := 0) (x := 0) (by decide)).w (by decide) (by decide))) dX6_isHers_28
      · have kv13 : q_V 1 1 kx10 := q_eq1 vkx10 (q_c (k := 1) (x := 1) (by decide)) kc11 (by decide) (by decide)
        refine lv_iconst (v := 1) hx hb dX6_isHers_23 (by decide) ?_
        refine lv_goto (tgt := 28) hx hb dX6_isHers_24 (by decide) ?_
        exact q_retz hE hr hlocks hW (Or.inr rfl) (((q_c (k := 1) (x := 1) (by decide)).w (by decide) (by decide))) dX6_isHers_28
set_option maxHeartbeats 4000000 in
set_option maxRecDepth 100000 in
theorem c_X6_isInTime (l : Launch) (G : q_G) (σ : q_S) (a0 : Nat) (h0 : q_T G a0 = 16) (i1 : Int32)  : Met l yX6_isInTime (Cond.code yX6_isInTime cX6_isInTime 6 (some .boolean) :: wsL_law) (q_Rm 3) (q_Pre G σ [.ref a0, .int i1]) (q_Qi G [] σ (fun r σ1 => q_V 0 1 r)) 0 0 (q_N G) := by
  refine q_ofW (ts := []) (by decide) (Nat.le_of_ble_eq_true rfl) ?_
  intro p e s m args below meth c hE hr hlocks hW ls hl
  have hE : q_E G p s m args c cX6_isInTime 6 RX6 := hE
  have hx := hE.1.1
  have hb := hE.1.2.1
  have hl : lv_has ls 6 [(0, .ref a0), (1, .int i1)] := hl
  have lp10a : ∀ (n10a : Nat) (ks3 : q_S) (H : Heap) (locs : List Loc) (kx1 : Int32) (kx2 : Int32) (vkx2 : q_V 0 6 kx2) (hW : q_Wd G [] σ s.heap ks3 H locs) (ls : Array Slot) (hl : lv_has ls 6 [(0, .ref a0), (1, .int i1), (2, .int kx1), (3, .int kx2)]), (6 - kx2.toInt).toNat < n10a → W p l e (q_Rm 3) s m args below meth c H locs 0 0 (MQ below (q_Qi G [] σ (fun r σ1 => q_V 0 1 r)) args s 0 0 (q_N G)) (F0 m 10 ls []) := by
    intro n10a
    induction n10a with
    | zero => intro _ _ _ _ _ _ _ _ _; exact fun h => absurd h (Nat.not_lt_zero _)
    | succ n10a ih10a =>
      intro ks3 H locs kx1 kx2 vkx2 hW ls hl hm10a
      have jn77a : ∀ (ks6 : q_S) (H : Heap) (locs : List Loc) (kx4 : Int32) (kv5 : q_V 0 5 kx2) (hW : q_Wd G [] σ s.heap ks6 H locs) (ls : Array Slot) (hl : lv_has ls 6 [(0, .ref a0), (1, .int i1), (2, .int kx4), (3, .int kx2)]), W p l e (q_Rm 3) s m args below meth c H locs 0 0 (MQ below (q_Qi G [] σ (fun r σ1 => q_V 0 1 r)) args s 0 0 (q_N G)) (F0 m 77 ls []) := by
        intro ks6 H locs kx4 kv5 hW ls hl
        obtain ⟨kx7, ekx7⟩ : ∃ y : Int32, y = kx2 + 1 := ⟨_, rfl⟩
        have vkx7 : q_V 1 6 kx7 := by rw [ekx7]; exact (q_add kv5 (q_c (k := 1) (x := 1) (by decide)) (by decide) (by decide)).w (by decide) (by decide)
        have ikx7 : kx7.toInt = kx2.toInt + 1 := q_incT ekx7 kv5 (by decide) (by decide) (by decide)
        refine lv_iinc (v := kx7) (lv' := [(3, .int kx7), (0, .ref a0), (1, .int i1), (2, .int kx4)]) hx hb dX6_isInTime_77 hl (k := 3) rfl (by rw [ekx7]; rfl) (by decide) rfl (fun ls hl => ?_)
        refine lv_goto (tgt := 10) hx hb dX6_isInTime_80 (by decide) ?_
        exact ih10a _ _ _ kx4 kx7 (vkx7.w (by decide) (by decide)) hW ls (lv_sub hl [1, 2, 3, 0] rfl) (Nat.lt_of_lt_of_le (q_up (ikx7) (show q_V 1 6 kx7 from vkx7).2) (Nat.le_of_lt_succ hm10a))
      refine lv_iload_n hx hb dX6_isInTime_10 rfl (lv_at hl 3 rfl) ?_
      refine lv_aload_n hx hb dX6_isInTime_11 rfl (lv_at hl 0 rfl) ?_
      refine q_getr hE hW h0 rfl q_k6 0 (by decide) rfl (hE.l wl_112) dX6_isInTime_12 (fun kb8 ekb8 hkb8a hkb8b => ?_)
      have hkb8 : q_T G kb8 = 7 := q_tag hkb8a hkb8b
      refine q_geti hE hW hkb8 rfl q_k2 1 (by decide) rfl (hE.n 19 rfl) dX6_isInTime_15 (fun kx9 ekx9 vkx9 => ?_)
      refine lv_icmp_ge (tgt := 83) hx hb dX6_isInTime_18 (by decide) (fun kc10 => ?_) (fun kc10 => ?_)
      · refine lv_iconst (v := 1) hx hb dX6_isInTime_83 (by decide) ?_
        exact q_retz hE hr hlocks hW (Or.inr rfl) (((q_c (k := 1) (x := 1) (by decide)).w (by decide) (by decide))) dX6_isInTime_84
      · have kv11 : q_V 0 5 kx2 := (q_lt1 vkx2 vkx9 (Int32.not_le.mp kc10)).w (by decide) (by decide)
        have kv12 : q_V 1 6 kx9 := (q_lt2 vkx2 vkx9 (Int32.not_le.mp kc10)).w (by decide) (by decide)
        refine lv_iload_n hx hb dX6_isInTime_21 rfl (lv_at hl 3 rfl) ?_
        refine lv_bipush (v := 6) hx hb dX6_isInTime_22 (by decide) ?_
        refine lv_icmp_ge (tgt := 83) hx hb dX6_isInTime_24 (by decide) (fun kc13 => ?_) (fun kc13 => ?_)
        · have kv14 : q_V 6 5 6 := (q_le1 (q_c (k := 6) (x := 6) (by decide)) kv11 kc13).w (by decide) (by decide)
          exact (kv14.no (by decide))
        · refine lv_aload_n hx hb dX6_isInTime_27 rfl (lv_at hl 0 rfl) ?_
          refine q_getr hE hW h0 rfl q_k6 1 (by decide) rfl (hE.l wl_113) dX6_isInTime_28 (fun kb15 ekb15 hkb15a hkb15b => ?_)
          have hkb15 : q_T G kb15 = 17 := q_tag hkb15a hkb15b
          refine lv_iload_n hx hb dX6_isInTime_31 rfl (lv_at hl 3 rfl) ?_
          refine q_iald hE hW hkb15 rfl (q_in kv11 (by decide) (by decide)) dX6_isInTime_32 (fun kx16 ekx16 gkx16 => ?_)
          refine lv_istore (lv' := [(4, .int kx16), (0, .ref a0), (1, .int i1), (2, .int kx1), (3, .int kx2)]) hx hb dX6_isInTime_33 hl (by decide) rfl (fun ls hl => ?_)
          refine lv_aload_n hx hb dX6_isInTime_35 rfl (lv_at hl 1 rfl) ?_
          refine lv_iload_n hx hb dX6_isInTime_36 rfl (lv_at hl 2 rfl) ?_
          refine lv_iload hx hb dX6_isInTime_37 (lv_at hl 0 rfl) ?_
          refine q_goi hW (q_runV (As := [.int i1, .int kx16]) (rest := []) hE hW (c_X6_isHers l G ks3 a0 h0 i1 kx16) kw_X6_102 (q_recv hE hW h0 rfl q_k6) rfl hl.1 rfl (Nat.le_of_ble_eq_true rfl) dX6_isInTime_39 ⟨by decide, by decide⟩ ⟨by decide, by decide⟩) (by decide) (fun kx20 ks18 H locs kp17 kf19 hW => ?_)
          refine lv_if_eq (tgt := 77) hx hb dX6_isInTime_42 (by decide) (fun kc21 => ?_) (fun kc21 => ?_)
          · have kv22 : q_V 0 0 kx20 := q_eq1 kp17 (q_c (k := 0) (x := 0) (by decide)) kc21 (by decide) (by decide)
            exact jn77a _ _ _ kx1 kv11 hW ls (lv_sub hl [1, 2, 3, 4] rfl)
          · have kv23 : q_V 1 1 kx20 := q_ne1 kp17 (q_c (k := 0) (x := 0) (by decide)) kc21 (by decide)
            refine lv_aload_n hx hb dX6_isInTime_45 rfl (lv_at hl 1 rfl) ?_
            refine lv_iload_n hx hb dX6_isInTime_46 rfl (lv_at hl 2 rfl) ?_
            refine lv_iload hx hb dX6_isInTime_47 (lv_at hl 0 rfl) ?_
            refine q_goi hW (q_runV (As := [.int i1, .int kx16]) (rest := []) hE hW (c_X6_hoursOf l G ks18 a0 h0 i1 kx16) kw_X6_106 (q_recv hE hW h0 rfl q_k6) rfl hl.1 rfl (Nat.le_of_ble_eq_true rfl) dX6_isInTime_49 ⟨by decide, by decide⟩ ⟨by decide, by decide⟩) (by decide) (fun kx27 ks25 H locs kp24 kf26 hW => ?_)
            refine lv_istore (lv' := [(5, .int kx27), (4, .int kx16), (0, .ref a0), (1, .int i1), (2, .int kx1), (3, .int kx2)]) hx hb dX6_isInTime_52 hl (by decide) rfl (fun ls hl => ?_)
            refine lv_iload_n hx hb dX6_isInTime_54 rfl (lv_at hl 4 rfl) ?_
            refine lv_iload hx hb dX6_isInTime_55 (lv_at hl 0 rfl) ?_
            refine lv_iadd hx hb dX6_isInTime_57 ?_
            refine lv_topi (fun kx28 ekx28 => ?_)
            refine lv_istore_n (lv' := [(2, .int kx28), (5, .int kx27), (4, .int kx16), (0, .ref a0), (1, .int i1), (3, .int kx2)]) hx hb dX6_isInTime_58 rfl hl (by decide) rfl (fun ls hl => ?_)
            refine lv_iload hx hb dX6_isInTime_59 (lv_at hl 1 rfl) ?_
            refine lv_iconst (v := (-1)) hx hb dX6_isInTime_61 (by decide) ?_
            refine lv_icmp_eq (tgt := 75) hx hb dX6_isInTime_62 (by decide) (fun kc29 => ?_) (fun kc29 => ?_)
            · have kv30 : q_V (-1) (-1) kx27 := q_eq1 (q_all kx27) (q_c (k := (-1)) (x := (-1)) (by decide)) kc29 (by decide) (by decide)
              refine lv_iconst (v := 0) hx hb dX6_isInTime_75 (by decide) ?_
              exact q_retz hE hr hlocks hW (Or.inl rfl) (((q_c (k := 0) (x := 0) (by decide)).w (by decide) (by decide))) dX6_isInTime_76
            · refine lv_iload_n hx hb dX6_isInTime_65 rfl (lv_at hl 0 rfl) ?_
              refine lv_aload_n hx hb dX6_isInTime_66 rfl (lv_at hl 3 rfl) ?_
              refine lv_iload hx hb dX6_isInTime_67 (lv_at hl 2 rfl) ?_
              refine q_goi hW (q_runV (As := [.int kx16]) (rest := [.int kx28]) hE hW (c_X6_dueOf l G ks25 a0 h0 kx16) kw_X6_75 (q_recv hE hW h0 rfl q_k6) rfl hl.1 rfl (Nat.le_of_ble_eq_true rfl) dX6_isInTime_69 ⟨by decide, by decide⟩ ⟨by decide, by decide⟩) (by decide) (fun kx34 ks32 H locs kp31 kf33 hW => ?_)
              refine lv_icmp_le (tgt := 77) hx hb dX6_isInTime_72 (by decide) (fun kc35 => ?_) (fun kc35 => ?_)
              · exact jn77a _ _ _ kx28 kv11 hW ls (lv_sub hl [3, 4, 0, 5] rfl)
              · have kv36 : q_V (-2147483648) 2147483646 kx34 := (q_lt1 (q_all kx34) (q_all kx28) (Int32.not_le.mp kc35)).w (by decide) (by decide)
                have kv37 : q_V (-2147483647) 2147483647 kx28 := (q_lt2 (q_all kx34) (q_all kx28) (Int32.not_le.mp kc35)).w (by decide) (by decide)
                refine lv_iconst (v := 0) hx hb dX6_isInTime_75 (by decide) ?_
                exact q_retz hE hr hlocks hW (Or.inl rfl) (((q_c (k := 0) (x := 0) (by decide)).w (by decide) (by decide))) dX6_isInTime_76
  refine lv_aload_n hx hb dX6_isInTime_0 rfl (lv_at hl 0 rfl) ?_
  refine q_getr hE hW h0 rfl q_k6 0 (by decide) rfl (hE.l wl_112) dX6_isInTime_1 (fun kb38 ekb38 hkb38a hkb38b => ?_)
  have hkb38 : q_T G kb38 = 7 := q_tag hkb38a hkb38b
  refine q_geti hE hW hkb38 rfl q_k2 8 (by decide) rfl (hE.n 33 rfl) dX6_isInTime_4 (fun kx39 ekx39 vkx39 => ?_)
  refine lv_istore_n (lv' := [(2, .int kx39), (0, .ref a0), (1, .int i1)]) hx hb dX6_isInTime_7 rfl hl (by decide) rfl (fun ls hl => ?_)
  refine lv_iconst (v := 0) hx hb dX6_isInTime_8 (by decide) ?_
  refine lv_istore_n (lv' := [(3, .int 0), (2, .int kx39), (0, .ref a0), (1, .int i1)]) hx hb dX6_isInTime_9 rfl hl (by decide) rfl (fun ls hl => ?_)
  exact lp10a _ _ _ _ kx39 0 ((q_c (k := 0) (x := 0) (by decide)).w (by decide) (by decide)) hW ls (lv_sub hl [2, 3, 1, 0] rfl) (Nat.lt_succ_self _)
set_option maxHeartbeats 4000000 in
set_option maxRecDepth 100000 in
theorem c_X6_sortByDue (l : Launch) (G : q_G) (σ : q_S) (a0 : Nat) (h0 : q_T G a0 = 16)  : Met l yX6_sortByDue (Cond.code yX6_sortByDue cX6_sortByDue 3 none :: wsL_law) (q_Rm 3) (q_Pre G σ [.ref a0]) (q_Qv G [17] σ (fun σ1 => True)) 0 0 (q_N G) := by
  refine q_ofW (ts := [17]) (by decide) (Nat.le_of_ble_eq_true rfl) ?_
  intro p e s m args below meth c hE hr hlocks hW ls hl
  have hE : q_E G p s m args c cX6_sortByDue 3 RX6 := hE
  have hx := hE.1.1
  have hb := hE.1.2.1
  have hl : lv_has ls 3 [(0, .ref a0)] := hl
  have lp2a : ∀ (n2a : Nat) (ks2 : q_S) (H : Heap) (locs : List Loc) (kx1 : Int32) (vkx1 : q_V 0 6 kx1) (hW : q_Wd G [17] σ s.heap ks2 H locs) (ls : Array Slot) (hl : lv_has ls 3 [(0, .ref a0), (1, .int kx1)]), (6 - kx1.toInt).toNat < n2a → W p l e (q_Rm 3) s m args below meth c H locs 0 0 (MQ below (q_Qv G [17] σ (fun σ1 => True)) args s 0 0 (q_N G)) (F0 m 2 ls []) := by
    intro n2a
    induction n2a with
    | zero => intro _ _ _ _ _ _ _ _; exact fun h => absurd h (Nat.not_lt_zero _)
    | succ n2a ih2a =>
      intro ks2 H locs kx1 vkx1 hW ls hl hm2a
      have jn65a : ∀ (ks5 : q_S) (H : Heap) (locs : List Loc) (kv3 : q_V 0 5 kx1) (kx4 : Int32) (vkx4 : q_V 0 5 kx4) (hW : q_Wd G [17] σ s.heap ks5 H locs) (ls : Array Slot) (hl : lv_has ls 3 [(0, .ref a0), (1, .int kx1), (2, .int kx4)]), W p l e (q_Rm 3) s m args below meth c H locs 0 0 (MQ below (q_Qv G [17] σ (fun σ1 => True)) args s 0 0 (q_N G)) (F0 m 65 ls []) := by
        intro ks5 H locs kv3 kx4 vkx4 hW ls hl
        refine lv_aload_n hx hb dX6_sortByDue_65 rfl (lv_at hl 0 rfl) ?_
        refine q_getr hE hW h0 rfl q_k6 1 (by decide) rfl (hE.l wl_113) dX6_sortByDue_66 (fun kb6 ekb6 hkb6a hkb6b => ?_)
        have hkb6 : q_T G kb6 = 17 := q_tag hkb6a hkb6b
        refine lv_iload_n hx hb dX6_sortByDue_69 rfl (lv_at hl 2 rfl) ?_
        refine lv_iload_n hx hb dX6_sortByDue_70 rfl (lv_at hl 1 rfl) ?_
        refine q_iast hE hW hkb6 rfl (q_in vkx4 (by decide) (by decide)) trivial (by decide) dX6_sortByDue_71 (fun H locs ks7 kp8 hW => ?_)
        obtain ⟨kx9, ekx9⟩ : ∃ y : Int32, y = kx1 + 1 := ⟨_, rfl⟩
        have vkx9 : q_V 1 6 kx9 := by rw [ekx9]; exact (q_add kv3 (q_c (k := 1) (x := 1) (by decide)) (by decide) (by decide)).w (by decide) (by decide)
        have ikx9 : kx9.toInt = kx1.toInt + 1 := q_incT ekx9 kv3 (by decide) (by decide) (by decide)
        refine lv_iinc (v := kx9) (lv' := [(1, .int kx9), (0, .ref a0), (2, .int kx4)]) hx hb dX6_sortByDue_72 hl (k := 1) rfl (by rw [ekx9]; rfl) (by decide) rfl (fun ls hl => ?_)
        refine lv_goto (tgt := 2) hx hb dX6_sortByDue_75 (by decide) ?_
        exact ih2a _ _ _ kx9 (vkx9.w (by decide) (by decide)) hW ls (lv_sub hl [1, 0] rfl) (Nat.lt_of_lt_of_le (q_up (ikx9) (show q_V 1 6 kx9 from vkx9).2) (Nat.le_of_lt_succ hm2a))
      have lp21a : ∀ (n21a : Nat) (ks12 : q_S) (H : Heap) (locs : List Loc) (kv10 : q_V 0 5 kx1) (kx11 : Int32) (vkx11 : q_V 0 5 kx11) (hW : q_Wd G [17] σ s.heap ks12 H locs) (ls : Array Slot) (hl : lv_has ls 3 [(0, .ref a0), (1, .int kx1), (2, .int kx11)]), (kx11.toInt - 0).toNat < n21a → W p l e (q_Rm 3) s m args below meth c H locs 0 0 (MQ below (q_Qv G [17] σ (fun σ1 => True)) args s 0 0 (q_N G)) (F0 m 21 ls []) := by
        intro n21a
        induction n21a with
        | zero => intro _ _ _ _ _ _ _ _ _; exact fun h => absurd h (Nat.not_lt_zero _)
        | succ n21a ih21a =>
          intro ks12 H locs kv10 kx11 vkx11 hW ls hl hm21a
          refine lv_iload_n hx hb dX6_sortByDue_21 rfl (lv_at hl 2 rfl) ?_
          refine lv_if_le (tgt := 65) hx hb dX6_sortByDue_22 (by decide) (fun kc13 => ?_) (fun kc13 => ?_)
          · have kv14 : q_V 0 0 kx11 := (q_le1 vkx11 (q_c (k := 0) (x := 0) (by decide)) kc13).w (by decide) (by decide)
            exact jn65a _ _ _ kv10 kx11 (kv14.w (by decide) (by decide)) hW ls (lv_sub hl [0, 1, 2] rfl)
          · have kv15 : q_V 1 5 kx11 := (q_lt2 (q_c (k := 0) (x := 0) (by decide)) vkx11 (Int32.not_le.mp kc13)).w (by decide) (by decide)
            refine lv_aload_n hx hb dX6_sortByDue_25 rfl (lv_at hl 0 rfl) ?_
            refine lv_aload_n hx hb dX6_sortByDue_26 rfl (lv_at hl 0 rfl) ?_
            refine q_getr hE hW h0 rfl q_k6 1 (by decide) rfl (hE.l wl_113) dX6_sortByDue_27 (fun kb16 ekb16 hkb16a hkb16b => ?_)
            have hkb16 : q_T G kb16 = 17 := q_tag hkb16a hkb16b
            refine lv_iload_n hx hb dX6_sortByDue_30 rfl (lv_at hl 2 rfl) ?_
            refine lv_iconst (v := 1) hx hb dX6_sortByDue_31 (by decide) ?_
            refine lv_isub hx hb dX6_sortByDue_32 ?_
            refine lv_topi (fun kx17 ekx17 => ?_)
            have vkx17 : q_V 0 4 kx17 := by rw [ekx17]; exact (q_sub kv15 (q_c (k := 1) (x := 1) (by decide)) (by decide) (by decide)).w (by decide) (by decide)
            refine q_iald hE hW hkb16 rfl (q_in vkx17 (by decide) (by decide)) dX6_sortByDue_33 (fun kx18 ekx18 gkx18 => ?_)
            refine q_goi hW (q_runV (As := [.int kx18]) (rest := []) hE hW (c_X6_dueOf l G ks12 a0 h0 kx18) kw_X6_75 (q_recv hE hW h0 rfl q_k6) rfl hl.1 rfl (Nat.le_of_ble_eq_true rfl) dX6_sortByDue_34 ⟨by decide, by decide⟩ ⟨by decide, by decide⟩) (by decide) (fun kx22 ks20 H locs kp19 kf21 hW => ?_)
            refine lv_aload_n hx hb dX6_sortByDue_37 rfl (lv_at hl 0 rfl) ?_
            refine lv_iload_n hx hb dX6_sortByDue_38 rfl (lv_at hl 1 rfl) ?_
            refine q_goi hW (q_runV (As := [.int kx1]) (rest := [.int kx22]) hE hW (c_X6_dueOf l G ks20 a0 h0 kx1) kw_X6_75 (q_recv hE hW h0 rfl q_k6) rfl hl.1 rfl (Nat.le_of_ble_eq_true rfl) dX6_sortByDue_39 ⟨by decide, by decide⟩ ⟨by decide, by decide⟩) (by decide) (fun kx26 ks24 H locs kp23 kf25 hW => ?_)
            refine lv_icmp_le (tgt := 65) hx hb dX6_sortByDue_42 (by decide) (fun kc27 => ?_) (fun kc27 => ?_)
            · exact jn65a _ _ _ kv10 kx11 (kv15.w (by decide) (by decide)) hW ls (lv_sub hl [0, 1, 2] rfl)
            · have kv28 : q_V (-2147483648) 2147483646 kx26 := (q_lt1 (q_all kx26) (q_all kx22) (Int32.not_le.mp kc27)).w (by decide) (by decide)
              have kv29 : q_V (-2147483647) 2147483647 kx22 := (q_lt2 (q_all kx26) (q_all kx22) (Int32.not_le.mp kc27)).w (by decide) (by decide)
              refine lv_aload_n hx hb dX6_sortByDue_45 rfl (lv_at hl 0 rfl) ?_
              refine q_getr hE hW h0 rfl q_k6 1 (by decide) rfl (hE.l wl_113) dX6_sortByDue_46 (fun kb30 ekb30 hkb30a hkb30b => ?_)
              obtain rfl : kb16 = kb30 := (((kf25.R _ h0 (by decide)).trans (kf21.R _ h0 (by decide))).trans ekb16).symm.trans ekb30
              refine lv_iload_n hx hb dX6_sortByDue_49 rfl (lv_at hl 2 rfl) ?_
              refine lv_aload_n hx hb dX6_sortByDue_50 rfl (lv_at hl 0 rfl) ?_
              refine q_getr hE hW h0 rfl q_k6 1 (by decide) rfl (hE.l wl_113) dX6_sortByDue_51 (fun kb31 ekb31 hkb31a hkb31b => ?_)
              obtain rfl : kb16 = kb31 := (((kf25.R _ h0 (by decide)).trans (kf21.R _ h0 (by decide))).trans ekb16).symm.trans ekb31
              refine lv_iload_n hx hb dX6_sortByDue_54 rfl (lv_at hl 2 rfl) ?_
              refine lv_iconst (v := 1) hx hb dX6_sortByDue_55 (by decide) ?_
              refine lv_isub hx hb dX6_sortByDue_56 ?_
              refine lv_topi (fun kx32 ekx32 => ?_)
              obtain rfl : kx17 = kx32 := ekx17.trans ekx32.symm
              refine q_iald hE hW hkb16 rfl (q_in vkx17 (by decide) (by decide)) dX6_sortByDue_57 (fun kx33 ekx33 gkx33 => ?_)
              obtain rfl : kx18 = kx33 := (((kf25.A _ hkb16 (by decide)).trans (kf21.A _ hkb16 (by decide))).trans ekx18).symm.trans ekx33
              refine q_iast hE hW hkb16 rfl (q_in kv15 (by decide) (by decide)) trivial (by decide) dX6_sortByDue_58 (fun H locs ks34 kp35 hW => ?_)
              obtain ⟨kx36, ekx36⟩ : ∃ y : Int32, y = kx11 + (-1) := ⟨_, rfl⟩
              have vkx36 : q_V 0 4 kx36 := by rw [ekx36]; exact (q_add kv15 (q_c (k := (-1)) (x := (-1)) (by decide)) (by decide) (by decide)).w (by decide) (by decide)
              have ikx36 : kx36.toInt = kx11.toInt + (-1) := q_incT ekx36 kv15 (by decide) (by decide) (by decide)
              refine lv_iinc (v := kx36) (lv' := [(2, .int kx36), (0, .ref a0), (1, .int kx1)]) hx hb dX6_sortByDue_59 hl (k := 2) rfl (by rw [ekx36]; rfl) (by decide) rfl (fun ls hl => ?_)
              refine lv_goto (tgt := 21) hx hb dX6_sortByDue_62 (by decide) ?_
              exact ih21a _ _ _ kv10 kx36 (vkx36.w (by decide) (by decide)) hW ls (lv_sub hl [1, 2, 0] rfl) (Nat.lt_of_lt_of_le (q_dn (ikx36) (show q_V 0 4 kx36 from vkx36).1) (Nat.le_of_lt_succ hm21a))
      refine lv_iload_n hx hb dX6_sortByDue_2 rfl (lv_at hl 1 rfl) ?_
      refine lv_aload_n hx hb dX6_sortByDue_3 rfl (lv_at hl 0 rfl) ?_
      refine q_getr hE hW h0 rfl q_k6 0 (by decide) rfl (hE.l wl_112) dX6_sortByDue_4 (fun kb37 ekb37 hkb37a hkb37b => ?_)
      have hkb37 : q_T G kb37 = 7 := q_tag hkb37a hkb37b
      refine q_geti hE hW hkb37 rfl q_k2 1 (by decide) rfl (hE.n 19 rfl) dX6_sortByDue_7 (fun kx38 ekx38 vkx38 => ?_)
      refine lv_icmp_ge (tgt := 78) hx hb dX6_sortByDue_10 (by decide) (fun kc39 => ?_) (fun kc39 => ?_)
      · exact q_retv hE hr hlocks hW (trivial) dX6_sortByDue_78
      · have kv40 : q_V 0 5 kx1 := (q_lt1 vkx1 vkx38 (Int32.not_le.mp kc39)).w (by decide) (by decide)
        have kv41 : q_V 1 6 kx38 := (q_lt2 vkx1 vkx38 (Int32.not_le.mp kc39)).w (by decide) (by decide)
        refine lv_iload_n hx hb dX6_sortByDue_13 rfl (lv_at hl 1 rfl) ?_
        refine lv_bipush (v := 6) hx hb dX6_sortByDue_14 (by decide) ?_
        refine lv_icmp_ge (tgt := 78) hx hb dX6_sortByDue_16 (by decide) (fun kc42 => ?_) (fun kc42 => ?_)
        · have kv43 : q_V 6 5 6 := (q_le1 (q_c (k := 6) (x := 6) (by decide)) kv40 kc42).w (by decide) (by decide)
          exact (kv43.no (by decide))
        · refine lv_iload_n hx hb dX6_sortByDue_19 rfl (lv_at hl 1 rfl) ?_
          refine lv_istore_n (lv' := [(2, .int kx1), (0, .ref a0), (1, .int kx1)]) hx hb dX6_sortByDue_20 rfl hl (by decide) rfl (fun ls hl => ?_)
          exact lp21a _ _ _ _ kv40 kx1 kv40 hW ls (lv_sub hl [1, 2, 0] rfl) (Nat.lt_succ_self _)
  refine lv_iconst (v := 0) hx hb dX6_sortByDue_0 (by decide) ?_
  refine lv_istore_n (lv' := [(1, .int 0), (0, .ref a0)]) hx hb dX6_sortByDue_1 rfl hl (by decide) rfl (fun ls hl => ?_)
  exact lp2a _ _ _ _ 0 ((q_c (k := 0) (x := 0) (by decide)).w (by decide) (by decide)) hW ls (lv_sub hl [1, 0] rfl) (Nat.lt_succ_self _)
