set_option maxHeartbeats 4000000 in
set_option maxRecDepth 100000 in
theorem c_X2_cloudAt_tz (l : Launch) (G : q_G) (σ : q_S) (a0 : Nat) (h0 : q_T G a0 = 7) (i1 : Int32) (hz : q_fr G [(7, 1)] [] σ) : Met l yX2_cloudAt (Cond.code yX2_cloudAt cX2_cloudAt 2 (some (.object "CloudLaundry$Cloud")) :: wsL_law) (q_Rm 1) (q_Pre G σ [.ref a0, .int i1]) (q_Qq G [] σ (fun r σ1 => (∀ b, r = some b → q_T G b = 5) ∧ r = none)) 0 0 (q_N G) := by
  refine q_ofW (ts := []) (by decide) (Nat.le_of_ble_eq_true rfl) ?_
  intro p e s m args below meth c hE hr hlocks hW ls hl
  have hE : q_E G p s m args c cX2_cloudAt 2 RX2 := hE
  have hx := hE.1.1
  have hb := hE.1.2.1
  have hl : lv_has ls 2 [(0, .ref a0), (1, .int i1)] := hl
  refine lv_iload_n hx hb dX2_cloudAt_0 rfl (lv_at hl 1 rfl) ?_
  refine lv_if_lt (tgt := 18) hx hb dX2_cloudAt_1 (by decide) (fun kc1 => ?_) (fun kc1 => ?_)
  · have kv2 : q_V (-2147483648) (-1) i1 := (q_lt1 (q_all i1) (q_c (k := 0) (x := 0) (by decide)) kc1).w (by decide) (by decide)
    refine lv_null hx hb dX2_cloudAt_18 ?_
    refine lv_goto (tgt := 28) hx hb dX2_cloudAt_19 (by decide) ?_
    exact q_retq none hE hr hlocks hW (⟨(fun _ h => by cases h), rfl⟩) dX2_cloudAt_28
  · have kv3 : q_V 0 2147483647 i1 := (q_le2 (q_c (k := 0) (x := 0) (by decide)) (q_all i1) (Int32.not_lt.mp kc1)).w (by decide) (by decide)
    refine lv_iload_n hx hb dX2_cloudAt_4 rfl (lv_at hl 1 rfl) ?_
    refine lv_aload_n hx hb dX2_cloudAt_5 rfl (lv_at hl 0 rfl) ?_
    refine q_geti hE hW h0 rfl q_k2 1 (by decide) rfl (hE.l wl_198) dX2_cloudAt_6 (fun kx4 ekx4 vkx4 => ?_)
    obtain rfl : (0 : Int32) = kx4 := (q_fr.f hz (t := 7) (k := 1) (by decide) h0).symm.trans ekx4
    refine lv_icmp_ge (tgt := 18) hx hb dX2_cloudAt_9 (by decide) (fun kc5 => ?_) (fun kc5 => ?_)
    · refine lv_null hx hb dX2_cloudAt_18 ?_
      refine lv_goto (tgt := 28) hx hb dX2_cloudAt_19 (by decide) ?_
      exact q_retq none hE hr hlocks hW (⟨(fun _ h => by cases h), rfl⟩) dX2_cloudAt_28
    · have kv6 : q_V 0 (-1) i1 := (q_lt1 kv3 (q_c (k := 0) (x := 0) (by decide)) (Int32.not_le.mp kc5)).w (by decide) (by decide)
      exact (kv6.no (by decide))
set_option maxHeartbeats 4000000 in
set_option maxRecDepth 100000 in
theorem c_X2_isWasher_tz (l : Launch) (G : q_G) (σ : q_S) (a0 : Nat) (h0 : q_T G a0 = 7) (i1 : Int32) (hz : q_fr G [(7, 4)] [] σ) : Met l yX2_isWasher (Cond.code yX2_isWasher cX2_isWasher 2 (some .boolean) :: wsL_law) (q_Rm 1) (q_Pre G σ [.ref a0, .int i1]) (q_Qi G [] σ (fun r σ1 => q_V 0 0 r)) 0 0 (q_N G) := by
  refine q_ofW (ts := []) (by decide) (Nat.le_of_ble_eq_true rfl) ?_
  intro p e s m args below meth c hE hr hlocks hW ls hl
  have hE : q_E G p s m args c cX2_isWasher 2 RX2 := hE
  have hx := hE.1.1
  have hb := hE.1.2.1
  have hl : lv_has ls 2 [(0, .ref a0), (1, .int i1)] := hl
  refine lv_iload_n hx hb dX2_isWasher_0 rfl (lv_at hl 1 rfl) ?_
  refine lv_if_lt (tgt := 21) hx hb dX2_isWasher_1 (by decide) (fun kc1 => ?_) (fun kc1 => ?_)
  · have kv2 : q_V (-2147483648) (-1) i1 := (q_lt1 (q_all i1) (q_c (k := 0) (x := 0) (by decide)) kc1).w (by decide) (by decide)
    refine lv_iconst (v := 0) hx hb dX2_isWasher_21 (by decide) ?_
    exact q_retz hE hr hlocks hW (Or.inl rfl) ((q_c (k := 0) (x := 0) (by decide))) dX2_isWasher_22
  · have kv3 : q_V 0 2147483647 i1 := (q_le2 (q_c (k := 0) (x := 0) (by decide)) (q_all i1) (Int32.not_lt.mp kc1)).w (by decide) (by decide)
    refine lv_iload_n hx hb dX2_isWasher_4 rfl (lv_at hl 1 rfl) ?_
    refine lv_aload_n hx hb dX2_isWasher_5 rfl (lv_at hl 0 rfl) ?_
    refine q_geti hE hW h0 rfl q_k2 4 (by decide) rfl (hE.l wl_199) dX2_isWasher_6 (fun kx4 ekx4 vkx4 => ?_)
    obtain rfl : (0 : Int32) = kx4 := (q_fr.f hz (t := 7) (k := 4) (by decide) h0).symm.trans ekx4
    refine lv_icmp_ge (tgt := 21) hx hb dX2_isWasher_9 (by decide) (fun kc5 => ?_) (fun kc5 => ?_)
    · refine lv_iconst (v := 0) hx hb dX2_isWasher_21 (by decide) ?_
      exact q_retz hE hr hlocks hW (Or.inl rfl) ((q_c (k := 0) (x := 0) (by decide))) dX2_isWasher_22
    · have kv6 : q_V 0 (-1) i1 := (q_lt1 kv3 (q_c (k := 0) (x := 0) (by decide)) (Int32.not_le.mp kc5)).w (by decide) (by decide)
      exact (kv6.no (by decide))
set_option maxHeartbeats 4000000 in
set_option maxRecDepth 100000 in
theorem c_X11_water_tz (l : Launch) (G : q_G) (σ : q_S) (a0 : Nat) (h0 : q_T G a0 = 26) (i1 : Int32) (i2 : Int32) (hz : q_fr G [] [(12, 0, 6)] σ) : Met l yX11_water (Cond.code yX11_water cX11_water 3 (some .int) :: wsL_law) (q_Rm 2) (q_Pre G σ [.ref a0, .int i1, .int i2]) (q_Qi G [] σ (fun r σ1 => q_V (-2147483648) 2147483647 r ∧ r = kz_water i1 i2)) 0 0 (q_N G) := by
  refine q_ofW (ts := []) (by decide) (Nat.le_of_ble_eq_true rfl) ?_
  intro p e s m args below meth c hE hr hlocks hW ls hl
  have hE : q_E G p s m args c cX11_water 3 RX11 := hE
  have hx := hE.1.1
  have hb := hE.1.2.1
  have hl : lv_has ls 3 [(0, .ref a0), (1, .int i1), (2, .int i2)] := hl
  refine lv_iload_n hx hb dX11_water_0 rfl (lv_at hl 1 rfl) ?_
  refine lv_if_lt (tgt := 20) hx hb dX11_water_1 (by decide) (fun kc1 => ?_) (fun kc1 => ?_)
  · have kv2 : q_V (-2147483648) (-1) i1 := (q_lt1 (q_all i1) (q_c (k := 0) (x := 0) (by decide)) kc1).w (by decide) (by decide)
    refine lv_bipush (v := (-2)) hx hb dX11_water_20 (by decide) ?_
    exact q_reti hE hr hlocks hW (⟨((q_c (k := (-2)) (x := (-2)) (by decide)).w (by decide) (by decide)), (by have := kv2.1; have := kv2.2; unfold kz_water; (repeat' split) <;> first | rfl | omega)⟩) dX11_water_22
  · have kv3 : q_V 0 2147483647 i1 := (q_le2 (q_c (k := 0) (x := 0) (by decide)) (q_all i1) (Int32.not_lt.mp kc1)).w (by decide) (by decide)
    refine lv_iload_n hx hb dX11_water_4 rfl (lv_at hl 1 rfl) ?_
    refine lv_bipush (v := 7) hx hb dX11_water_5 (by decide) ?_
    refine lv_icmp_ge (tgt := 20) hx hb dX11_water_7 (by decide) (fun kc4 => ?_) (fun kc4 => ?_)
    · have kv5 : q_V 7 2147483647 i1 := (q_le2 (q_c (k := 7) (x := 7) (by decide)) kv3 kc4).w (by decide) (by decide)
      refine lv_bipush (v := (-2)) hx hb dX11_water_20 (by decide) ?_
      exact q_reti hE hr hlocks hW (⟨((q_c (k := (-2)) (x := (-2)) (by decide)).w (by decide) (by decide)), (by have := kv5.1; have := kv5.2; unfold kz_water; (repeat' split) <;> first | rfl | omega)⟩) dX11_water_22
    · have kv6 : q_V 0 6 i1 := (q_lt1 kv3 (q_c (k := 7) (x := 7) (by decide)) (Int32.not_le.mp kc4)).w (by decide) (by decide)
      refine lv_iload_n hx hb dX11_water_10 rfl (lv_at hl 2 rfl) ?_
      refine lv_if_lt (tgt := 20) hx hb dX11_water_11 (by decide) (fun kc7 => ?_) (fun kc7 => ?_)
      · have kv8 : q_V (-2147483648) (-1) i2 := (q_lt1 (q_all i2) (q_c (k := 0) (x := 0) (by decide)) kc7).w (by decide) (by decide)
        refine lv_bipush (v := (-2)) hx hb dX11_water_20 (by decide) ?_
        exact q_reti hE hr hlocks hW (⟨((q_c (k := (-2)) (x := (-2)) (by decide)).w (by decide) (by decide)), (by have := kv6.1; have := kv6.2; have := kv8.1; have := kv8.2; unfold kz_water; (repeat' split) <;> first | rfl | omega)⟩) dX11_water_22
      · have kv9 : q_V 0 2147483647 i2 := (q_le2 (q_c (k := 0) (x := 0) (by decide)) (q_all i2) (Int32.not_lt.mp kc7)).w (by decide) (by decide)
        refine lv_iload_n hx hb dX11_water_14 rfl (lv_at hl 2 rfl) ?_
        refine lv_bipush (v := 6) hx hb dX11_water_15 (by decide) ?_
        refine lv_icmp_lt (tgt := 23) hx hb dX11_water_17 (by decide) (fun kc10 => ?_) (fun kc10 => ?_)
        · have kv11 : q_V 0 5 i2 := (q_lt1 kv9 (q_c (k := 6) (x := 6) (by decide)) kc10).w (by decide) (by decide)
          refine lv_aload_n hx hb dX11_water_23 rfl (lv_at hl 0 rfl) ?_
          refine q_getr hE hW h0 rfl q_k11 5 (by decide) rfl (hE.l wl_35) dX11_water_24 (fun kb12 ekb12 hkb12a hkb12b => ?_)
          have hkb12 : q_T G kb12 = 7 := q_tag hkb12a hkb12b
          refine q_getr hE hW hkb12 rfl q_k2 5 (by decide) rfl (hE.n 28 rfl) dX11_water_27 (fun kb13 ekb13 hkb13a hkb13b => ?_)
          have hkb13 : q_T G kb13 = 11 := q_tag hkb13a hkb13b
          refine lv_iload_n hx hb dX11_water_30 rfl (lv_at hl 1 rfl) ?_
          refine q_aald hE hW hkb13 rfl (q_in kv6 (by decide) (by decide)) dX11_water_31 (fun kb14 ekb14 hkb14a hkb14b => ?_)
          have hkb14 : q_T G kb14 = 12 := q_tag hkb14a hkb14b
          refine lv_iload_n hx hb dX11_water_32 rfl (lv_at hl 2 rfl) ?_
          refine q_iald hE hW hkb14 rfl (q_in kv11 (by decide) (by decide)) dX11_water_33 (fun kx15 ekx15 gkx15 => ?_)
          obtain rfl : (0 : Int32) = kx15 := (q_fr.z hz (t := 12) (l := 0) (u := 6) (by decide) hkb14 kv11 (by decide) (by decide) (by decide)).symm.trans ekx15
          exact q_reti hE hr hlocks hW (⟨((q_c (k := 0) (x := 0) (by decide)).w (by decide) (by decide)), (by have := kv6.1; have := kv6.2; have := kv11.1; have := kv11.2; unfold kz_water; (repeat' split) <;> first | rfl | omega)⟩) dX11_water_34
        · have kv16 : q_V 6 2147483647 i2 := (q_le2 (q_c (k := 6) (x := 6) (by decide)) kv9 (Int32.not_lt.mp kc10)).w (by decide) (by decide)
          refine lv_bipush (v := (-2)) hx hb dX11_water_20 (by decide) ?_
          exact q_reti hE hr hlocks hW (⟨((q_c (k := (-2)) (x := (-2)) (by decide)).w (by decide) (by decide)), (by have := kv6.1; have := kv6.2; have := kv16.1; have := kv16.2; unfold kz_water; (repeat' split) <;> first | rfl | omega)⟩) dX11_water_22
set_option maxHeartbeats 4000000 in
set_option maxRecDepth 100000 in
theorem c_X8_add_tz (l : Launch) (G : q_G) (σ : q_S) (a0 : Nat) (h0 : q_T G a0 = 13) (i1 : Int32) (w1 : q_V 0 65535 i1) (hz : q_fr G [(13, 1)] [] σ) : Met l yX8_add (Cond.code yX8_add cX8_add 2 (some .boolean) :: wsL_law) (q_Rm 1) (q_Pre G σ [.ref a0, .int i1]) (q_Qi G [13, 14] σ (fun r σ1 => q_V 1 1 r ∧ q_I σ1 a0 1 = 1)) 0 0 (q_N G) := by
  refine q_ofW (ts := [13, 14]) (by decide) (Nat.le_of_ble_eq_true rfl) ?_
  intro p e s m args below meth c hE hr hlocks hW ls hl
  have hE : q_E G p s m args c cX8_add 2 RX8 := hE
  have hx := hE.1.1
  have hb := hE.1.2.1
  have hl : lv_has ls 2 [(0, .ref a0), (1, .int i1)] := hl
  refine lv_aload_n hx hb dX8_add_0 rfl (lv_at hl 0 rfl) ?_
  refine q_geti hE hW h0 rfl q_k8 1 (by decide) rfl (hE.l wl_165) dX8_add_1 (fun kx1 ekx1 vkx1 => ?_)
  obtain rfl : (0 : Int32) = kx1 := (q_fr.f hz (t := 13) (k := 1) (by decide) h0).symm.trans ekx1
  refine lv_if_lt (tgt := 17) hx hb dX8_add_4 (by decide) (fun kc2 => ?_) (fun kc2 => ?_)
  · have kv3 : q_V 0 (-1) 0 := (q_lt1 (q_c (k := 0) (x := 0) (by decide)) (q_c (k := 0) (x := 0) (by decide)) kc2).w (by decide) (by decide)
    exact (kv3.no (by decide))
  · refine lv_aload_n hx hb dX8_add_7 rfl (lv_at hl 0 rfl) ?_
    refine q_geti hE hW h0 rfl q_k8 1 (by decide) rfl (hE.l wl_165) dX8_add_8 (fun kx4 ekx4 vkx4 => ?_)
    obtain rfl : 0 = kx4 := ekx1.symm.trans ekx4
    refine lv_sipush (v := 200) hx hb dX8_add_11 (by decide) ?_
    refine lv_icmp_lt (tgt := 19) hx hb dX8_add_14 (by decide) (fun kc5 => ?_) (fun kc5 => ?_)
    · refine lv_aload_n hx hb dX8_add_19 rfl (lv_at hl 0 rfl) ?_
      refine q_getr hE hW h0 rfl q_k8 0 (by decide) rfl (hE.l wl_77) dX8_add_20 (fun kb6 ekb6 hkb6a hkb6b => ?_)
      have hkb6 : q_T G kb6 = 14 := q_tag hkb6a hkb6b
      refine lv_aload_n hx hb dX8_add_23 rfl (lv_at hl 0 rfl) ?_
      refine q_geti hE hW h0 rfl q_k8 1 (by decide) rfl (hE.l wl_165) dX8_add_24 (fun kx7 ekx7 vkx7 => ?_)
      obtain rfl : 0 = kx7 := ekx1.symm.trans ekx7
      refine lv_iload_n hx hb dX8_add_27 rfl (lv_at hl 1 rfl) ?_
      refine q_cast hE hW hkb6 rfl (q_in (q_c (k := 0) (x := 0) (by decide)) (by decide) (by decide)) (q_narc w1) w1 (by decide) dX8_add_28 (fun H locs ks8 kp9 hW => ?_)
      have kz10 := (q_fr.wAi (q_fr.sub (F2 := [(13, 1)]) (A2 := []) hz (by decide) (by decide)) kp9 hkb6 (q_c (k := 0) (x := 0) (by decide)) (by decide) (by decide))
      refine lv_aload_n hx hb dX8_add_29 rfl (lv_at hl 0 rfl) ?_
      refine lv_dup hx hb dX8_add_30 rfl ?_
      refine q_geti hE hW h0 rfl q_k8 1 (by decide) rfl (hE.l wl_165) dX8_add_31 (fun kx11 ekx11 vkx11 => ?_)
      obtain rfl : 0 = kx11 := ((kp9.2.2.2.1 _ _).trans ekx1).symm.trans ekx11
      refine lv_iconst (v := 1) hx hb dX8_add_34 (by decide) ?_
      refine lv_iadd hx hb dX8_add_35 ?_
      refine lv_eqi (y := 1) (by decide) ?_
      refine q_puti hE hW h0 rfl q_k8 tyX8 tyX8_ok 1 (by decide) rfl (hE.l wl_165) rfl rfl rfl ((q_c (k := 1) (x := 1) (by decide)).w (by decide) (by decide)) (by decide) dX8_add_36 (fun H locs ks12 kp13 hW => ?_)
      have kz14 := (q_fr.wI (q_fr.sub (F2 := []) (A2 := []) kz10 (by decide) (by decide)) kp13 h0 (Or.inl (by decide)))
      refine lv_iconst (v := 1) hx hb dX8_add_39 (by decide) ?_
      exact q_retz hE hr hlocks hW (Or.inr rfl) (⟨(q_c (k := 1) (x := 1) (by decide)), kp13.1⟩) dX8_add_40
    · have kv15 : q_V 200 0 200 := (q_le1 (q_c (k := 200) (x := 200) (by decide)) (q_c (k := 0) (x := 0) (by decide)) (Int32.not_lt.mp kc5)).w (by decide) (by decide)
      exact (kv15.no (by decide))
set_option maxHeartbeats 4000000 in
set_option maxRecDepth 100000 in
theorem c_X11_erase_tz (l : Launch) (G : q_G) (σ : q_S) (a0 : Nat) (h0 : q_T G a0 = 26) (hz : q_fr G [(13, 1)] [] σ) : Met l yX11_erase (Cond.code yX11_erase cX11_erase 2 (some .int) :: wsL_law) (q_Rm 1) (q_Pre G σ [.ref a0]) (q_Qi G [13] σ (fun r σ1 => q_V 0 0 r)) 0 0 (q_N G) := by
  refine q_ofW (ts := [13]) (by decide) (Nat.le_of_ble_eq_true rfl) ?_
  intro p e s m args below meth c hE hr hlocks hW ls hl
  have hE : q_E G p s m args c cX11_erase 2 RX11 := hE
  have hx := hE.1.1
  have hb := hE.1.2.1
  have hl : lv_has ls 2 [(0, .ref a0)] := hl
  refine lv_aload_n hx hb dX11_erase_0 rfl (lv_at hl 0 rfl) ?_
  refine q_getr hE hW h0 rfl q_k11 1 (by decide) rfl (hE.l wl_29) dX11_erase_1 (fun kb1 ekb1 hkb1a hkb1b => ?_)
  have hkb1 : q_T G kb1 = 13 := q_tag hkb1a hkb1b
  refine q_geti hE hW hkb1 rfl q_k8 1 (by decide) rfl (hE.n 0 rfl) dX11_erase_4 (fun kx2 ekx2 vkx2 => ?_)
  obtain rfl : (0 : Int32) = kx2 := (q_fr.f hz (t := 13) (k := 1) (by decide) hkb1).symm.trans ekx2
  refine lv_istore_n (lv' := [(1, .int 0), (0, .ref a0)]) hx hb dX11_erase_7 rfl hl (by decide) rfl (fun ls hl => ?_)
  refine lv_aload_n hx hb dX11_erase_8 rfl (lv_at hl 1 rfl) ?_
  refine q_getr hE hW h0 rfl q_k11 1 (by decide) rfl (hE.l wl_29) dX11_erase_9 (fun kb3 ekb3 hkb3a hkb3b => ?_)
  obtain rfl : kb1 = kb3 := ekb1.symm.trans ekb3
  refine lv_iconst (v := 0) hx hb dX11_erase_12 (by decide) ?_
  refine q_puti hE hW hkb1 rfl q_k8 tyX8 tyX8_ok 1 (by decide) rfl (hE.n 0 rfl) rfl rfl rfl ((q_c (k := 0) (x := 0) (by decide)).w (by decide) (by decide)) (by decide) dX11_erase_13 (fun H locs ks4 kp5 hW => ?_)
  have kz6 := (hz.wI kp5 hkb1 (Or.inr (by decide)))
  refine lv_iload_n hx hb dX11_erase_16 rfl (lv_at hl 0 rfl) ?_
  exact q_reti hE hr hlocks hW ((q_c (k := 0) (x := 0) (by decide))) dX11_erase_17
set_option maxHeartbeats 4000000 in
set_option maxRecDepth 100000 in
theorem c_X11_forget_tz (l : Launch) (G : q_G) (σ : q_S) (a0 : Nat) (h0 : q_T G a0 = 26) (hz : q_fr G [(26, 17)] [] σ) : Met l yX11_forget (Cond.code yX11_forget cX11_forget 2 (some .int) :: wsL_law) (q_Rm 1) (q_Pre G σ [.ref a0]) (q_Qi G [26] σ (fun r σ1 => q_V 0 0 r)) 0 0 (q_N G) := by
  refine q_ofW (ts := [26]) (by decide) (Nat.le_of_ble_eq_true rfl) ?_
  intro p e s m args below meth c hE hr hlocks hW ls hl
  have hE : q_E G p s m args c cX11_forget 2 RX11 := hE
  have hx := hE.1.1
  have hb := hE.1.2.1
  have hl : lv_has ls 2 [(0, .ref a0)] := hl
  refine lv_aload_n hx hb dX11_forget_0 rfl (lv_at hl 0 rfl) ?_
  refine q_geti hE hW h0 rfl q_k11 17 (by decide) rfl (hE.l wl_434) dX11_forget_1 (fun kx1 ekx1 vkx1 => ?_)
  obtain rfl : (0 : Int32) = kx1 := (q_fr.f hz (t := 26) (k := 17) (by decide) h0).symm.trans ekx1
  refine lv_istore_n (lv' := [(1, .int 0), (0, .ref a0)]) hx hb dX11_forget_4 rfl hl (by decide) rfl (fun ls hl => ?_)
  refine lv_aload_n hx hb dX11_forget_5 rfl (lv_at hl 1 rfl) ?_
  refine lv_iconst (v := 0) hx hb dX11_forget_6 (by decide) ?_
  refine q_puti hE hW h0 rfl q_k11 tyX11 tyX11_ok 17 (by decide) rfl (hE.l wl_434) rfl rfl rfl ((q_c (k := 0) (x := 0) (by decide)).w (by decide) (by decide)) (by decide) dX11_forget_7 (fun H locs ks2 kp3 hW => ?_)
  have kz4 := (hz.wI kp3 h0 (Or.inr (by decide)))
  refine lv_iload_n hx hb dX11_forget_10 rfl (lv_at hl 0 rfl) ?_
  exact q_reti hE hr hlocks hW ((q_c (k := 0) (x := 0) (by decide))) dX11_forget_11
set_option maxHeartbeats 4000000 in
set_option maxRecDepth 100000 in
theorem c_X11_undo_tz (l : Launch) (G : q_G) (σ : q_S) (a0 : Nat) (h0 : q_T G a0 = 26) (hz : q_fr G [(26, 10)] [] σ) : Met l yX11_undo (Cond.code yX11_undo cX11_undo 1 (some .int) :: wsL_law) (q_Rm 3) (q_Pre G σ [.ref a0]) (q_Qi G [5, 6, 7, 9, 10, 12, 26] σ (fun r σ1 => q_V (-4) (-4) r)) 0 0 (q_N G) := by
  refine q_ofW (ts := [5, 6, 7, 9, 10, 12, 26]) (by decide) (Nat.le_of_ble_eq_true rfl) ?_
  intro p e s m args below meth c hE hr hlocks hW ls hl
  have hE : q_E G p s m args c cX11_undo 1 RX11 := hE
  have hx := hE.1.1
  have hb := hE.1.2.1
  have hl : lv_has ls 1 [(0, .ref a0)] := hl
  refine lv_aload_n hx hb dX11_undo_0 rfl (lv_at hl 0 rfl) ?_
  refine q_geti hE hW h0 rfl q_k11 10 (by decide) rfl (hE.l wl_435) dX11_undo_1 (fun kx1 ekx1 vkx1 => ?_)
  obtain rfl : (0 : Int32) = kx1 := (q_fr.f hz (t := 26) (k := 10) (by decide) h0).symm.trans ekx1
  refine lv_iconst (v := 1) hx hb dX11_undo_4 (by decide) ?_
  refine lv_icmp_lt (tgt := 17) hx hb dX11_undo_5 (by decide) (fun kc2 => ?_) (fun kc2 => ?_)
  · refine lv_bipush (v := (-4)) hx hb dX11_undo_17 (by decide) ?_
    exact q_reti hE hr hlocks hW ((q_c (k := (-4)) (x := (-4)) (by decide))) dX11_undo_19
  · have kv3 : q_V 1 0 1 := (q_le1 (q_c (k := 1) (x := 1) (by decide)) (q_c (k := 0) (x := 0) (by decide)) (Int32.not_lt.mp kc2)).w (by decide) (by decide)
    exact (kv3.no (by decide))
set_option maxHeartbeats 4000000 in
set_option maxRecDepth 100000 in
theorem c_X2_copyFrom_tz (l : Launch) (G : q_G) (σ : q_S) (a0 : Nat) (h0 : q_T G a0 = 7) (a1 : Nat) (h1 : q_T G a1 = 7) (hz : q_fr G [(7, 1), (7, 4), (7, 6), (7, 7), (7, 8)] [(12, 0, 6)] σ) : Met l yX2_copyFrom (Cond.code yX2_copyFrom cX2_copyFrom 3 none :: wsL_law) (q_Rm 2) (q_Pre G σ [.ref a0, .ref a1]) (q_Qv G [5, 6, 7, 9, 10, 12] σ (fun σ1 => q_fr G [(7, 1), (7, 4), (7, 6), (7, 7), (7, 8)] [(12, 0, 6)] σ1)) 0 0 (q_N G) := by
  refine q_ofW (ts := [5, 6, 7, 9, 10, 12]) (by decide) (Nat.le_of_ble_eq_true rfl) ?_
  intro p e s m args below meth c hE hr hlocks hW ls hl
  have hE : q_E G p s m args c cX2_copyFrom 3 RX2 := hE
  have hx := hE.1.1
  have hb := hE.1.2.1
  have hl : lv_has ls 3 [(0, .ref a0), (1, .ref a1)] := hl
  have lp83a : ∀ (n83a : Nat) (ks2 : q_S) (H : Heap) (locs : List Loc) (kx1 : Int32) (vkx1 : q_V 0 7 kx1) (hW : q_Wd G [5, 6, 7, 9, 10, 12] σ s.heap ks2 H locs) (hz83a : q_fr G [(7, 1), (7, 4), (7, 6), (7, 7), (7, 8)] [(12, 0, 6)] ks2) (ls : Array Slot) (hl : lv_has ls 3 [(0, .ref a0), (1, .ref a1), (2, .int kx1)]), (7 - kx1.toInt).toNat < n83a → W p l e (q_Rm 2) s m args below meth c H locs 0 0 (MQ below (q_Qv G [5, 6, 7, 9, 10, 12] σ (fun σ1 => q_fr G [(7, 1), (7, 4), (7, 6), (7, 7), (7, 8)] [(12, 0, 6)] σ1)) args s 0 0 (q_N G)) (F0 m 83 ls []) := by
    intro n83a
    induction n83a with
    | zero => intro _ _ _ _ _ _ _ _ _; exact fun h => absurd h (Nat.not_lt_zero _)
    | succ n83a ih83a =>
      intro ks2 H locs kx1 vkx1 hW hz83a ls hl hm83a
      refine lv_iload_n hx hb dX2_copyFrom_83 rfl (lv_at hl 2 rfl) ?_
      refine lv_bipush (v := 7) hx hb dX2_copyFrom_84 (by decide) ?_
      refine lv_icmp_ge (tgt := 114) hx hb dX2_copyFrom_86 (by decide) (fun kc3 => ?_) (fun kc3 => ?_)
      · have kv4 : q_V 7 7 kx1 := (q_le2 (q_c (k := 7) (x := 7) (by decide)) vkx1 kc3).w (by decide) (by decide)
        refine lv_aload_n hx hb dX2_copyFrom_114 rfl (lv_at hl 0 rfl) ?_
        refine lv_aload_n hx hb dX2_copyFrom_115 rfl (lv_at hl 1 rfl) ?_
        refine q_geti hE hW h1 rfl q_k2 6 (by decide) rfl (hE.l wl_204) dX2_copyFrom_116 (fun kx5 ekx5 vkx5 => ?_)
        obtain rfl : (0 : Int32) = kx5 := (q_fr.f hz83a (t := 7) (k := 6) (by decide) h1).symm.trans ekx5
        refine q_puti hE hW h0 rfl q_k2 tyX2 tyX2_ok 6 (by decide) rfl (hE.l wl_204) rfl rfl rfl ((q_c (k := 0) (x := 0) (by decide)).w (by decide) (by decide)) (by decide) dX2_copyFrom_119 (fun H locs ks6 kp7 hW => ?_)
        have kz8 := (hz83a.wI kp7 h0 (Or.inr (by decide)))
        refine lv_aload_n hx hb dX2_copyFrom_122 rfl (lv_at hl 0 rfl) ?_
        refine lv_aload_n hx hb dX2_copyFrom_123 rfl (lv_at hl 1 rfl) ?_
        refine q_geti hE hW h1 rfl q_k2 7 (by decide) rfl (hE.l wl_90) dX2_copyFrom_124 (fun kx9 ekx9 vkx9 => ?_)
        obtain rfl : (8 : Int32) = kx9 := (q_fr.f kz8 (t := 7) (k := 7) (by decide) h1).symm.trans ekx9
        refine q_puti hE hW h0 rfl q_k2 tyX2 tyX2_ok 7 (by decide) rfl (hE.l wl_90) rfl rfl rfl ((q_c (k := 8) (x := 8) (by decide)).w (by decide) (by decide)) (by decide) dX2_copyFrom_127 (fun H locs ks10 kp11 hW => ?_)
        have kz12 := (kz8.wI kp11 h0 (Or.inr (by decide)))
        refine lv_aload_n hx hb dX2_copyFrom_130 rfl (lv_at hl 0 rfl) ?_
        refine lv_aload_n hx hb dX2_copyFrom_131 rfl (lv_at hl 1 rfl) ?_
        refine q_geti hE hW h1 rfl q_k2 8 (by decide) rfl (hE.l wl_205) dX2_copyFrom_132 (fun kx13 ekx13 vkx13 => ?_)
        obtain rfl : (0 : Int32) = kx13 := (q_fr.f kz12 (t := 7) (k := 8) (by decide) h1).symm.trans ekx13
        refine q_puti hE hW h0 rfl q_k2 tyX2 tyX2_ok 8 (by decide) rfl (hE.l wl_205) rfl rfl rfl ((q_c (k := 0) (x := 0) (by decide)).w (by decide) (by decide)) (by decide) dX2_copyFrom_135 (fun H locs ks14 kp15 hW => ?_)
        have kz16 := (kz12.wI kp15 h0 (Or.inr (by decide)))
        exact q_retv hE hr hlocks hW ((q_fr.sub kz16 (by decide) (by decide))) dX2_copyFrom_138
      · have kv17 : q_V 0 6 kx1 := (q_lt1 vkx1 (q_c (k := 7) (x := 7) (by decide)) (Int32.not_le.mp kc3)).w (by decide) (by decide)
        refine lv_aload_n hx hb dX2_copyFrom_89 rfl (lv_at hl 1 rfl) ?_
        refine q_getr hE hW h1 rfl q_k2 5 (by decide) rfl (hE.l wl_89) dX2_copyFrom_90 (fun kb18 ekb18 hkb18a hkb18b => ?_)
        have hkb18 : q_T G kb18 = 11 := q_tag hkb18a hkb18b
        refine lv_iload_n hx hb dX2_copyFrom_93 rfl (lv_at hl 2 rfl) ?_
        refine q_aald hE hW hkb18 rfl (q_in kv17 (by decide) (by decide)) dX2_copyFrom_94 (fun kb19 ekb19 hkb19a hkb19b => ?_)
        have hkb19 : q_T G kb19 = 12 := q_tag hkb19a hkb19b
        refine lv_iconst (v := 0) hx hb dX2_copyFrom_95 (by decide) ?_
        refine lv_aload_n hx hb dX2_copyFrom_96 rfl (lv_at hl 0 rfl) ?_
        refine q_getr hE hW h0 rfl q_k2 5 (by decide) rfl (hE.l wl_89) dX2_copyFrom_97 (fun kb20 ekb20 hkb20a hkb20b => ?_)
        have hkb20 : q_T G kb20 = 11 := q_tag hkb20a hkb20b
        refine lv_iload_n hx hb dX2_copyFrom_100 rfl (lv_at hl 2 rfl) ?_
        refine q_aald hE hW hkb20 rfl (q_in kv17 (by decide) (by decide)) dX2_copyFrom_101 (fun kb21 ekb21 hkb21a hkb21b => ?_)
        have hkb21 : q_T G kb21 = 12 := q_tag hkb21a hkb21b
        refine lv_iconst (v := 0) hx hb dX2_copyFrom_102 (by decide) ?_
        refine lv_bipush (v := 6) hx hb dX2_copyFrom_103 (by decide) ?_
        refine q_acopy hE hW hkb19 hkb21 rfl rfl (Or.inl rfl) (by decide) (by decide) (by decide) (by decide) (by decide) (fun _ _ _ _ => trivial) (by decide) wl_200 wl_201 wl_202 wl_203 hl.1 (by decide) (Nat.le_of_ble_eq_true rfl) dX2_copyFrom_105 (fun H locs ks22 kp23 hW => ?_)
        have kz24 := (q_fr.wC hz83a kp23 hkb21 (Or.inr ⟨hkb19, rfl, rfl⟩))
        obtain ⟨kx25, ekx25⟩ : ∃ y : Int32, y = kx1 + 1 := ⟨_, rfl⟩
        have vkx25 : q_V 1 7 kx25 := by rw [ekx25]; exact (q_add kv17 (q_c (k := 1) (x := 1) (by decide)) (by decide) (by decide)).w (by decide) (by decide)
        have ikx25 : kx25.toInt = kx1.toInt + 1 := q_incT ekx25 kv17 (by decide) (by decide) (by decide)
        refine lv_iinc (v := kx25) (lv' := [(2, .int kx25), (0, .ref a0), (1, .ref a1)]) hx hb dX2_copyFrom_108 hl (k := 2) rfl (by rw [ekx25]; rfl) (by decide) rfl (fun ls hl => ?_)
        refine lv_goto (tgt := 83) hx hb dX2_copyFrom_111 (by decide) ?_
        exact ih83a _ _ _ kx25 (vkx25.w (by decide) (by decide)) hW (q_fr.sub kz24 (by decide) (by decide)) ls (lv_sub hl [1, 2, 0] rfl) (Nat.lt_of_lt_of_le (q_up (ikx25) (show q_V 1 7 kx25 from vkx25).2) (Nat.le_of_lt_succ hm83a))
  have jn45a : ∀ (ks26 : q_S) (H : Heap) (locs : List Loc) (hW : q_Wd G [5, 6, 7, 9, 10, 12] σ s.heap ks26 H locs) (hz45a : q_fr G [(7, 1), (7, 4), (7, 6), (7, 7), (7, 8)] [(12, 0, 6)] ks26) (ls : Array Slot) (hl : lv_has ls 3 [(0, .ref a0), (1, .ref a1)]), W p l e (q_Rm 2) s m args below meth c H locs 0 0 (MQ below (q_Qv G [5, 6, 7, 9, 10, 12] σ (fun σ1 => q_fr G [(7, 1), (7, 4), (7, 6), (7, 7), (7, 8)] [(12, 0, 6)] σ1)) args s 0 0 (q_N G)) (F0 m 45 ls []) := by
    intro ks26 H locs hW hz45a ls hl
    refine lv_aload_n hx hb dX2_copyFrom_45 rfl (lv_at hl 0 rfl) ?_
    refine lv_aload_n hx hb dX2_copyFrom_46 rfl (lv_at hl 1 rfl) ?_
    refine q_geti hE hW h1 rfl q_k2 4 (by decide) rfl (hE.l wl_199) dX2_copyFrom_47 (fun kx27 ekx27 vkx27 => ?_)
    obtain rfl : (0 : Int32) = kx27 := (q_fr.f hz45a (t := 7) (k := 4) (by decide) h1).symm.trans ekx27
    refine q_puti hE hW h0 rfl q_k2 tyX2 tyX2_ok 4 (by decide) rfl (hE.l wl_199) rfl rfl rfl ((q_c (k := 0) (x := 0) (by decide)).w (by decide) (by decide)) (by decide) dX2_copyFrom_50 (fun H locs ks28 kp29 hW => ?_)
    have kz30 := (hz45a.wI kp29 h0 (Or.inr (by decide)))
    refine lv_aload_n hx hb dX2_copyFrom_53 rfl (lv_at hl 1 rfl) ?_
    refine q_getr hE hW h1 rfl q_k2 2 (by decide) rfl (hE.l wl_86) dX2_copyFrom_54 (fun kb31 ekb31 hkb31a hkb31b => ?_)
    have hkb31 : q_T G kb31 = 9 := q_tag hkb31a hkb31b
    refine lv_iconst (v := 0) hx hb dX2_copyFrom_57 (by decide) ?_
    refine lv_aload_n hx hb dX2_copyFrom_58 rfl (lv_at hl 0 rfl) ?_
    refine q_getr hE hW h0 rfl q_k2 2 (by decide) rfl (hE.l wl_86) dX2_copyFrom_59 (fun kb32 ekb32 hkb32a hkb32b => ?_)
    have hkb32 : q_T G kb32 = 9 := q_tag hkb32a hkb32b
    refine lv_iconst (v := 0) hx hb dX2_copyFrom_62 (by decide) ?_
    refine lv_iconst (v := 3) hx hb dX2_copyFrom_63 (by decide) ?_
    refine q_acopy hE hW hkb31 hkb32 rfl rfl (Or.inl rfl) (by decide) (by decide) (by decide) (by decide) (by decide) (fun _ _ _ _ => trivial) (by decide) wl_200 wl_201 wl_202 wl_203 hl.1 (by decide) (Nat.le_of_ble_eq_true rfl) dX2_copyFrom_64 (fun H locs ks33 kp34 hW => ?_)
    have kz35 := (q_fr.wC (q_fr.sub (F2 := [(7, 1), (7, 4), (7, 6), (7, 7), (7, 8)]) (A2 := [(12, 0, 6)]) kz30 (by decide) (by decide)) kp34 hkb32 (Or.inl (by decide)))
    refine lv_aload_n hx hb dX2_copyFrom_67 rfl (lv_at hl 1 rfl) ?_
    refine q_getr hE hW h1 rfl q_k2 3 (by decide) rfl (hE.l wl_87) dX2_copyFrom_68 (fun kb36 ekb36 hkb36a hkb36b => ?_)
    have hkb36 : q_T G kb36 = 10 := q_tag hkb36a hkb36b
    refine lv_iconst (v := 0) hx hb dX2_copyFrom_71 (by decide) ?_
    refine lv_aload_n hx hb dX2_copyFrom_72 rfl (lv_at hl 0 rfl) ?_
    refine q_getr hE hW h0 rfl q_k2 3 (by decide) rfl (hE.l wl_87) dX2_copyFrom_73 (fun kb37 ekb37 hkb37a hkb37b => ?_)
    have hkb37 : q_T G kb37 = 10 := q_tag hkb37a hkb37b
    refine lv_iconst (v := 0) hx hb dX2_copyFrom_76 (by decide) ?_
    refine lv_iconst (v := 3) hx hb dX2_copyFrom_77 (by decide) ?_
    refine q_acopy hE hW hkb36 hkb37 rfl rfl (Or.inl rfl) (by decide) (by decide) (by decide) (by decide) (by decide) (fun _ _ _ _ => trivial) (by decide) wl_200 wl_201 wl_202 wl_203 hl.1 (by decide) (Nat.le_of_ble_eq_true rfl) dX2_copyFrom_78 (fun H locs ks38 kp39 hW => ?_)
    have kz40 := (q_fr.wC (q_fr.sub (F2 := [(7, 1), (7, 4), (7, 6), (7, 7), (7, 8)]) (A2 := [(12, 0, 6)]) kz35 (by decide) (by decide)) kp39 hkb37 (Or.inl (by decide)))
    refine lv_iconst (v := 0) hx hb dX2_copyFrom_81 (by decide) ?_
    refine lv_istore_n (lv' := [(2, .int 0), (0, .ref a0), (1, .ref a1)]) hx hb dX2_copyFrom_82 rfl hl (by decide) rfl (fun ls hl => ?_)
    exact lp83a _ _ _ _ 0 ((q_c (k := 0) (x := 0) (by decide)).w (by decide) (by decide)) hW (q_fr.sub kz40 (by decide) (by decide)) ls (lv_sub hl [1, 2, 0] rfl) (Nat.lt_succ_self _)
  refine lv_aload_n hx hb dX2_copyFrom_0 rfl (lv_at hl 0 rfl) ?_
  refine lv_aload_n hx hb dX2_copyFrom_1 rfl (lv_at hl 1 rfl) ?_
  refine q_geti hE hW h1 rfl q_k2 1 (by decide) rfl (hE.l wl_198) dX2_copyFrom_2 (fun kx41 ekx41 vkx41 => ?_)
  obtain rfl : (0 : Int32) = kx41 := (q_fr.f hz (t := 7) (k := 1) (by decide) h1).symm.trans ekx41
  refine q_puti hE hW h0 rfl q_k2 tyX2 tyX2_ok 1 (by decide) rfl (hE.l wl_198) rfl rfl rfl ((q_c (k := 0) (x := 0) (by decide)).w (by decide) (by decide)) (by decide) dX2_copyFrom_5 (fun H locs ks42 kp43 hW => ?_)
  have kz44 := (hz.wI kp43 h0 (Or.inr (by decide)))
  refine lv_iconst (v := 0) hx hb dX2_copyFrom_8 (by decide) ?_
  refine lv_istore_n (lv' := [(2, .int 0), (0, .ref a0), (1, .ref a1)]) hx hb dX2_copyFrom_9 rfl hl (by decide) rfl (fun ls hl => ?_)
  refine lv_iload_n hx hb dX2_copyFrom_10 rfl (lv_at hl 0 rfl) ?_
  refine lv_aload_n hx hb dX2_copyFrom_11 rfl (lv_at hl 1 rfl) ?_
  refine q_geti hE hW h0 rfl q_k2 1 (by decide) rfl (hE.l wl_198) dX2_copyFrom_12 (fun kx45 ekx45 vkx45 => ?_)
  obtain rfl : 0 = kx45 := kp43.1.symm.trans ekx45
  refine lv_icmp_ge (tgt := 45) hx hb dX2_copyFrom_15 (by decide) (fun kc46 => ?_) (fun kc46 => ?_)
  · exact jn45a _ _ _ hW (q_fr.sub kz44 (by decide) (by decide)) ls (lv_sub hl [1, 2] rfl)
  · have kv47 : q_V 0 (-1) 0 := (q_lt1 (q_c (k := 0) (x := 0) (by decide)) (q_c (k := 0) (x := 0) (by decide)) (Int32.not_le.mp kc46)).w (by decide) (by decide)
    exact (kv47.no (by decide))
set_option maxHeartbeats 4000000 in
set_option maxRecDepth 100000 in
theorem c_X11_back_tz (l : Launch) (G : q_G) (σ : q_S) (a0 : Nat) (h0 : q_T G a0 = 26) (i1 : Int32) (hz : q_fr G [] [(32, 0, 2)] σ) : Met l yX11_back (Cond.code yX11_back cX11_back 2 (some .int) :: wsL_law) (q_Rm 3) (q_Pre G σ [.ref a0, .int i1]) (q_Qi G [5, 6, 7, 9, 10, 12, 13, 14, 26] σ (fun r σ1 => q_V (-2147483648) 2147483647 r ∧ r = kz_back i1)) 0 0 (q_N G) := by
  refine q_ofW (ts := [5, 6, 7, 9, 10, 12, 13, 14, 26]) (by decide) (Nat.le_of_ble_eq_true rfl) ?_
  intro p e s m args below meth c hE hr hlocks hW ls hl
  have hE : q_E G p s m args c cX11_back 2 RX11 := hE
  have hx := hE.1.1
  have hb := hE.1.2.1
  have hl : lv_has ls 2 [(0, .ref a0), (1, .int i1)] := hl
  refine lv_iload_n hx hb dX11_back_0 rfl (lv_at hl 1 rfl) ?_
  refine lv_if_lt (tgt := 9) hx hb dX11_back_1 (by decide) (fun kc1 => ?_) (fun kc1 => ?_)
  · have kv2 : q_V (-2147483648) (-1) i1 := (q_lt1 (q_all i1) (q_c (k := 0) (x := 0) (by decide)) kc1).w (by decide) (by decide)
    refine lv_bipush (v := (-2)) hx hb dX11_back_9 (by decide) ?_
    exact q_reti hE hr hlocks hW (⟨((q_c (k := (-2)) (x := (-2)) (by decide)).w (by decide) (by decide)), (by have := kv2.1; have := kv2.2; unfold kz_back; (repeat' split) <;> first | rfl | omega)⟩) dX11_back_11
  · have kv3 : q_V 0 2147483647 i1 := (q_le2 (q_c (k := 0) (x := 0) (by decide)) (q_all i1) (Int32.not_lt.mp kc1)).w (by decide) (by decide)
    refine lv_iload_n hx hb dX11_back_4 rfl (lv_at hl 1 rfl) ?_
    refine lv_iconst (v := 2) hx hb dX11_back_5 (by decide) ?_
    refine lv_icmp_lt (tgt := 12) hx hb dX11_back_6 (by decide) (fun kc4 => ?_) (fun kc4 => ?_)
    · have kv5 : q_V 0 1 i1 := (q_lt1 kv3 (q_c (k := 2) (x := 2) (by decide)) kc4).w (by decide) (by decide)
      refine lv_aload_n hx hb dX11_back_12 rfl (lv_at hl 0 rfl) ?_
      refine q_getr hE hW h0 rfl q_k11 13 (by decide) rfl (hE.l wl_51) dX11_back_13 (fun kb6 ekb6 hkb6a hkb6b => ?_)
      have hkb6 : q_T G kb6 = 32 := q_tag hkb6a hkb6b
      refine lv_iload_n hx hb dX11_back_16 rfl (lv_at hl 1 rfl) ?_
      refine q_zald hE hW hkb6 rfl (q_in kv5 (by decide) (by decide)) dX11_back_17 (fun kx7 ekx7 gkx7 => ?_)
      obtain rfl : (0 : Int32) = kx7 := (q_fr.z hz (t := 32) (l := 0) (u := 2) (by decide) hkb6 kv5 (by decide) (by decide) (by decide)).symm.trans ekx7
      refine lv_if_ne (tgt := 24) hx hb dX11_back_18 (by decide) (fun kc8 => ?_) (fun kc8 => ?_)
      · exact q_neq (q_c (k := 0) (x := 0) (by decide)) (q_c (k := 0) (x := 0) (by decide)) kc8
      · refine lv_bipush (v := (-4)) hx hb dX11_back_21 (by decide) ?_
        exact q_reti hE hr hlocks hW (⟨((q_c (k := (-4)) (x := (-4)) (by decide)).w (by decide) (by decide)), (by have := kv5.1; have := kv5.2; unfold kz_back; (repeat' split) <;> first | rfl | omega)⟩) dX11_back_23
    · have kv9 : q_V 2 2147483647 i1 := (q_le2 (q_c (k := 2) (x := 2) (by decide)) kv3 (Int32.not_lt.mp kc4)).w (by decide) (by decide)
      refine lv_bipush (v := (-2)) hx hb dX11_back_9 (by decide) ?_
      exact q_reti hE hr hlocks hW (⟨((q_c (k := (-2)) (x := (-2)) (by decide)).w (by decide) (by decide)), (by have := kv9.1; have := kv9.2; unfold kz_back; (repeat' split) <;> first | rfl | omega)⟩) dX11_back_11
set_option maxHeartbeats 4000000 in
set_option maxRecDepth 100000 in
theorem c_X2_flow_tz (l : Launch) (G : q_G) (σ : q_S) (a0 : Nat) (h0 : q_T G a0 = 7) (hz : q_fr G [] [(12, 0, 6)] σ) : Met l yX2_flow (Cond.code yX2_flow cX2_flow 3 none :: wsL_law) (q_Rm 1) (q_Pre G σ [.ref a0]) (q_Qv G [12] σ (fun σ1 => q_fr G [] [(12, 0, 6)] σ1)) 0 0 (q_N G) := by
  refine q_ofW (ts := [12]) (by decide) (Nat.le_of_ble_eq_true rfl) ?_
  intro p e s m args below meth c hE hr hlocks hW ls hl
  have hE : q_E G p s m args c cX2_flow 3 RX2 := hE
  have hx := hE.1.1
  have hb := hE.1.2.1
  have hl : lv_has ls 3 [(0, .ref a0)] := hl
  have lp2a : ∀ (n2a : Nat) (ks2 : q_S) (H : Heap) (locs : List Loc) (kx1 : Int32) (vkx1 : q_V 0 6 kx1) (hW : q_Wd G [12] σ s.heap ks2 H locs) (hz2a : q_fr G [] [(12, 0, 6)] ks2) (ls : Array Slot) (hl : lv_has ls 3 [(0, .ref a0), (1, .int kx1)]), (6 - kx1.toInt).toNat < n2a → W p l e (q_Rm 1) s m args below meth c H locs 0 0 (MQ below (q_Qv G [12] σ (fun σ1 => q_fr G [] [(12, 0, 6)] σ1)) args s 0 0 (q_N G)) (F0 m 2 ls []) := by
    intro n2a
    induction n2a with
    | zero => intro _ _ _ _ _ _ _ _ _; exact fun h => absurd h (Nat.not_lt_zero _)
    | succ n2a ih2a =>
      intro ks2 H locs kx1 vkx1 hW hz2a ls hl hm2a
      have lp11a : ∀ (n11a : Nat) (ks5 : q_S) (H : Heap) (locs : List Loc) (kv3 : q_V 0 5 kx1) (kx4 : Int32) (vkx4 : q_V 0 6 kx4) (hW : q_Wd G [12] σ s.heap ks5 H locs) (hz11a : q_fr G [] [(12, 0, 6)] ks5) (ls : Array Slot) (hl : lv_has ls 3 [(0, .ref a0), (1, .int kx1), (2, .int kx4)]), (kx4.toInt - 0).toNat < n11a → W p l e (q_Rm 1) s m args below meth c H locs 0 0 (MQ below (q_Qv G [12] σ (fun σ1 => q_fr G [] [(12, 0, 6)] σ1)) args s 0 0 (q_N G)) (F0 m 11 ls []) := by
        intro n11a
        induction n11a with
        | zero => intro _ _ _ _ _ _ _ _ _ _; exact fun h => absurd h (Nat.not_lt_zero _)
        | succ n11a ih11a =>
          intro ks5 H locs kv3 kx4 vkx4 hW hz11a ls hl hm11a
          refine lv_iload_n hx hb dX2_flow_11 rfl (lv_at hl 2 rfl) ?_
          refine lv_if_le (tgt := 41) hx hb dX2_flow_12 (by decide) (fun kc6 => ?_) (fun kc6 => ?_)
          · have kv7 : q_V 0 0 kx4 := (q_le1 vkx4 (q_c (k := 0) (x := 0) (by decide)) kc6).w (by decide) (by decide)
            refine lv_aload_n hx hb dX2_flow_41 rfl (lv_at hl 0 rfl) ?_
            refine q_getr hE hW h0 rfl q_k2 5 (by decide) rfl (hE.l wl_89) dX2_flow_42 (fun kb8 ekb8 hkb8a hkb8b => ?_)
            have hkb8 : q_T G kb8 = 11 := q_tag hkb8a hkb8b
            refine lv_iconst (v := 0) hx hb dX2_flow_45 (by decide) ?_
            refine q_aald hE hW hkb8 rfl (q_in (q_c (k := 0) (x := 0) (by decide)) (by decide) (by decide)) dX2_flow_46 (fun kb9 ekb9 hkb9a hkb9b => ?_)
            have hkb9 : q_T G kb9 = 12 := q_tag hkb9a hkb9b
            refine lv_iload_n hx hb dX2_flow_47 rfl (lv_at hl 1 rfl) ?_
            refine lv_iconst (v := 0) hx hb dX2_flow_48 (by decide) ?_
            refine q_iast hE hW hkb9 rfl (q_in kv3 (by decide) (by decide)) trivial (by decide) dX2_flow_49 (fun H locs ks10 kp11 hW => ?_)
            have kz12 := (q_fr.wA0 hz11a kp11 hkb9 rfl)
            obtain ⟨kx13, ekx13⟩ : ∃ y : Int32, y = kx1 + 1 := ⟨_, rfl⟩
            have vkx13 : q_V 1 6 kx13 := by rw [ekx13]; exact (q_add kv3 (q_c (k := 1) (x := 1) (by decide)) (by decide) (by decide)).w (by decide) (by decide)
            have ikx13 : kx13.toInt = kx1.toInt + 1 := q_incT ekx13 kv3 (by decide) (by decide) (by decide)
            refine lv_iinc (v := kx13) (lv' := [(1, .int kx13), (0, .ref a0), (2, .int kx4)]) hx hb dX2_flow_50 hl (k := 1) rfl (by rw [ekx13]; rfl) (by decide) rfl (fun ls hl => ?_)
            refine lv_goto (tgt := 2) hx hb dX2_flow_53 (by decide) ?_
            exact ih2a _ _ _ kx13 (vkx13.w (by decide) (by decide)) hW (q_fr.sub kz12 (by decide) (by decide)) ls (lv_sub hl [1, 0] rfl) (Nat.lt_of_lt_of_le (q_up (ikx13) (show q_V 1 6 kx13 from vkx13).2) (Nat.le_of_lt_succ hm2a))
          · have kv14 : q_V 1 6 kx4 := (q_lt2 (q_c (k := 0) (x := 0) (by decide)) vkx4 (Int32.not_le.mp kc6)).w (by decide) (by decide)
            refine lv_aload_n hx hb dX2_flow_15 rfl (lv_at hl 0 rfl) ?_
            refine q_getr hE hW h0 rfl q_k2 5 (by decide) rfl (hE.l wl_89) dX2_flow_16 (fun kb15 ekb15 hkb15a hkb15b => ?_)
            have hkb15 : q_T G kb15 = 11 := q_tag hkb15a hkb15b
            refine lv_iload_n hx hb dX2_flow_19 rfl (lv_at hl 2 rfl) ?_
            refine q_aald hE hW hkb15 rfl (q_in kv14 (by decide) (by decide)) dX2_flow_20 (fun kb16 ekb16 hkb16a hkb16b => ?_)
            have hkb16 : q_T G kb16 = 12 := q_tag hkb16a hkb16b
            refine lv_iload_n hx hb dX2_flow_21 rfl (lv_at hl 1 rfl) ?_
            refine lv_aload_n hx hb dX2_flow_22 rfl (lv_at hl 0 rfl) ?_
            refine q_getr hE hW h0 rfl q_k2 5 (by decide) rfl (hE.l wl_89) dX2_flow_23 (fun kb17 ekb17 hkb17a hkb17b => ?_)
            obtain rfl : kb15 = kb17 := ekb15.symm.trans ekb17
            refine lv_iload_n hx hb dX2_flow_26 rfl (lv_at hl 2 rfl) ?_
            refine lv_iconst (v := 1) hx hb dX2_flow_27 (by decide) ?_
            refine lv_isub hx hb dX2_flow_28 ?_
            refine lv_topi (fun kx18 ekx18 => ?_)
            have vkx18 : q_V 0 5 kx18 := by rw [ekx18]; exact (q_sub kv14 (q_c (k := 1) (x := 1) (by decide)) (by decide) (by decide)).w (by decide) (by decide)
            refine q_aald hE hW hkb15 rfl (q_in vkx18 (by decide) (by decide)) dX2_flow_29 (fun kb19 ekb19 hkb19a hkb19b => ?_)
            have hkb19 : q_T G kb19 = 12 := q_tag hkb19a hkb19b
            refine lv_iload_n hx hb dX2_flow_30 rfl (lv_at hl 1 rfl) ?_
            refine q_iald hE hW hkb19 rfl (q_in kv3 (by decide) (by decide)) dX2_flow_31 (fun kx20 ekx20 gkx20 => ?_)
            obtain rfl : (0 : Int32) = kx20 := (q_fr.z hz11a (t := 12) (l := 0) (u := 6) (by decide) hkb19 kv3 (by decide) (by decide) (by decide)).symm.trans ekx20
            refine lv_iconst (v := 2) hx hb dX2_flow_32 (by decide) ?_
            refine lv_idiv hx hb dX2_flow_33 (q_ne0 (q_c (k := 2) (x := 2) (by decide)) (by decide)) ?_
            refine lv_eqi (y := 0) (by decide) ?_
            refine q_iast hE hW hkb16 rfl (q_in kv3 (by decide) (by decide)) trivial (by decide) dX2_flow_34 (fun H locs ks21 kp22 hW => ?_)
            have kz23 := (q_fr.wA0 hz11a kp22 hkb16 rfl)
            obtain ⟨kx24, ekx24⟩ : ∃ y : Int32, y = kx4 + (-1) := ⟨_, rfl⟩
            have vkx24 : q_V 0 5 kx24 := by rw [ekx24]; exact (q_add kv14 (q_c (k := (-1)) (x := (-1)) (by decide)) (by decide) (by decide)).w (by decide) (by decide)
            have ikx24 : kx24.toInt = kx4.toInt + (-1) := q_incT ekx24 kv14 (by decide) (by decide) (by decide)
            refine lv_iinc (v := kx24) (lv' := [(2, .int kx24), (0, .ref a0), (1, .int kx1)]) hx hb dX2_flow_35 hl (k := 2) rfl (by rw [ekx24]; rfl) (by decide) rfl (fun ls hl => ?_)
            refine lv_goto (tgt := 11) hx hb dX2_flow_38 (by decide) ?_
            exact ih11a _ _ _ kv3 kx24 (vkx24.w (by decide) (by decide)) hW (q_fr.sub kz23 (by decide) (by decide)) ls (lv_sub hl [1, 2, 0] rfl) (Nat.lt_of_lt_of_le (q_dn (ikx24) (show q_V 0 5 kx24 from vkx24).1) (Nat.le_of_lt_succ hm11a))
      refine lv_iload_n hx hb dX2_flow_2 rfl (lv_at hl 1 rfl) ?_
      refine lv_bipush (v := 6) hx hb dX2_flow_3 (by decide) ?_
      refine lv_icmp_ge (tgt := 56) hx hb dX2_flow_5 (by decide) (fun kc25 => ?_) (fun kc25 => ?_)
      · have kv26 : q_V 6 6 kx1 := (q_le2 (q_c (k := 6) (x := 6) (by decide)) vkx1 kc25).w (by decide) (by decide)
        exact q_retv hE hr hlocks hW ((q_fr.sub hz2a (by decide) (by decide))) dX2_flow_56
      · have kv27 : q_V 0 5 kx1 := (q_lt1 vkx1 (q_c (k := 6) (x := 6) (by decide)) (Int32.not_le.mp kc25)).w (by decide) (by decide)
        refine lv_bipush (v := 6) hx hb dX2_flow_8 (by decide) ?_
        refine lv_istore_n (lv' := [(2, .int 6), (0, .ref a0), (1, .int kx1)]) hx hb dX2_flow_10 rfl hl (by decide) rfl (fun ls hl => ?_)
        exact lp11a _ _ _ _ kv27 6 ((q_c (k := 6) (x := 6) (by decide)).w (by decide) (by decide)) hW (q_fr.sub hz2a (by decide) (by decide)) ls (lv_sub hl [1, 2, 0] rfl) (Nat.lt_succ_self _)
  refine lv_iconst (v := 0) hx hb dX2_flow_0 (by decide) ?_
  refine lv_istore_n (lv' := [(1, .int 0), (0, .ref a0)]) hx hb dX2_flow_1 rfl hl (by decide) rfl (fun ls hl => ?_)
  exact lp2a _ _ _ _ 0 ((q_c (k := 0) (x := 0) (by decide)).w (by decide) (by decide)) hW (q_fr.sub hz (by decide) (by decide)) ls (lv_sub hl [1, 0] rfl) (Nat.lt_succ_self _)
set_option maxHeartbeats 4000000 in
set_option maxRecDepth 100000 in
theorem c_X2_readAt_tz (l : Launch) (G : q_G) (σ : q_S) (a0 : Nat) (h0 : q_T G a0 = 7) (i1 : Int32) (hz : q_fr G [(7, 7)] [(12, 0, 6)] σ) : Met l yX2_readAt (Cond.code yX2_readAt cX2_readAt 4 (some .int) :: wsL_law) (q_Rm 1) (q_Pre G σ [.ref a0, .int i1]) (q_Qi G [] σ (fun r σ1 => q_V 0 0 r)) 0 0 (q_N G) := by
  refine q_ofW (ts := []) (by decide) (Nat.le_of_ble_eq_true rfl) ?_
  intro p e s m args below meth c hE hr hlocks hW ls hl
  have hE : q_E G p s m args c cX2_readAt 4 RX2 := hE
  have hx := hE.1.1
  have hb := hE.1.2.1
  have hl : lv_has ls 4 [(0, .ref a0), (1, .int i1)] := hl
  have lp14a : ∀ (n14a : Nat) (kv1 : q_V 0 6 i1) (kx2 : Int32) (vkx2 : q_V 0 6 kx2) (ls : Array Slot) (hl : lv_has ls 4 [(0, .ref a0), (1, .int i1), (2, .int 0), (3, .int kx2)]), (6 - kx2.toInt).toNat < n14a → W p l e (q_Rm 1) s m args below meth c s.heap [] 0 0 (MQ below (q_Qi G [] σ (fun r σ1 => q_V 0 0 r)) args s 0 0 (q_N G)) (F0 m 14 ls []) := by
    intro n14a
    induction n14a with
    | zero => intro _ _ _ _ _; exact fun h => absurd h (Nat.not_lt_zero _)
    | succ n14a ih14a =>
      intro kv1 kx2 vkx2 ls hl hm14a
      have jn41a : ∀ (kv3 : q_V 0 5 kx2) (ls : Array Slot) (hl : lv_has ls 4 [(0, .ref a0), (1, .int i1), (2, .int 0), (3, .int kx2)]), W p l e (q_Rm 1) s m args below meth c s.heap [] 0 0 (MQ below (q_Qi G [] σ (fun r σ1 => q_V 0 0 r)) args s 0 0 (q_N G)) (F0 m 41 ls []) := by
        intro kv3 ls hl
        obtain ⟨kx4, ekx4⟩ : ∃ y : Int32, y = kx2 + 1 := ⟨_, rfl⟩
        have vkx4 : q_V 1 6 kx4 := by rw [ekx4]; exact (q_add kv3 (q_c (k := 1) (x := 1) (by decide)) (by decide) (by decide)).w (by decide) (by decide)
        have ikx4 : kx4.toInt = kx2.toInt + 1 := q_incT ekx4 kv3 (by decide) (by decide) (by decide)
        refine lv_iinc (v := kx4) (lv' := [(3, .int kx4), (0, .ref a0), (1, .int i1), (2, .int 0)]) hx hb dX2_readAt_41 hl (k := 3) rfl (by rw [ekx4]; rfl) (by decide) rfl (fun ls hl => ?_)
        refine lv_goto (tgt := 14) hx hb dX2_readAt_44 (by decide) ?_
        exact ih14a kv1 kx4 (vkx4.w (by decide) (by decide)) ls (lv_sub hl [1, 2, 3, 0] rfl) (Nat.lt_of_lt_of_le (q_up (ikx4) (show q_V 1 6 kx4 from vkx4).2) (Nat.le_of_lt_succ hm14a))
      refine lv_iload_n hx hb dX2_readAt_14 rfl (lv_at hl 3 rfl) ?_
      refine lv_bipush (v := 6) hx hb dX2_readAt_15 (by decide) ?_
      refine lv_icmp_ge (tgt := 47) hx hb dX2_readAt_17 (by decide) (fun kc5 => ?_) (fun kc5 => ?_)
      · have kv6 : q_V 6 6 kx2 := (q_le2 (q_c (k := 6) (x := 6) (by decide)) vkx2 kc5).w (by decide) (by decide)
        refine lv_iload_n hx hb dX2_readAt_47 rfl (lv_at hl 2 rfl) ?_
        exact q_reti hE hr hlocks hW ((q_c (k := 0) (x := 0) (by decide))) dX2_readAt_48
      · have kv7 : q_V 0 5 kx2 := (q_lt1 vkx2 (q_c (k := 6) (x := 6) (by decide)) (Int32.not_le.mp kc5)).w (by decide) (by decide)
        refine lv_aload_n hx hb dX2_readAt_20 rfl (lv_at hl 0 rfl) ?_
        refine q_getr hE hW h0 rfl q_k2 5 (by decide) rfl (hE.l wl_89) dX2_readAt_21 (fun kb8 ekb8 hkb8a hkb8b => ?_)
        have hkb8 : q_T G kb8 = 11 := q_tag hkb8a hkb8b
        refine lv_iload_n hx hb dX2_readAt_24 rfl (lv_at hl 1 rfl) ?_
        refine q_aald hE hW hkb8 rfl (q_in kv1 (by decide) (by decide)) dX2_readAt_25 (fun kb9 ekb9 hkb9a hkb9b => ?_)
        have hkb9 : q_T G kb9 = 12 := q_tag hkb9a hkb9b
        refine lv_iload_n hx hb dX2_readAt_26 rfl (lv_at hl 3 rfl) ?_
        refine q_iald hE hW hkb9 rfl (q_in kv7 (by decide) (by decide)) dX2_readAt_27 (fun kx10 ekx10 gkx10 => ?_)
        obtain rfl : (0 : Int32) = kx10 := (q_fr.z hz (t := 12) (l := 0) (u := 6) (by decide) hkb9 kv7 (by decide) (by decide) (by decide)).symm.trans ekx10
        refine lv_aload_n hx hb dX2_readAt_28 rfl (lv_at hl 0 rfl) ?_
        refine q_geti hE hW h0 rfl q_k2 7 (by decide) rfl (hE.l wl_90) dX2_readAt_29 (fun kx11 ekx11 vkx11 => ?_)
        obtain rfl : (8 : Int32) = kx11 := (q_fr.f hz (t := 7) (k := 7) (by decide) h0).symm.trans ekx11
        refine lv_icmp_lt (tgt := 41) hx hb dX2_readAt_32 (by decide) (fun kc12 => ?_) (fun kc12 => ?_)
        · exact jn41a kv7 ls (lv_sub hl [0, 1, 2, 3] rfl)
        · have kv13 : q_V 8 0 8 := (q_le1 (q_c (k := 8) (x := 8) (by decide)) (q_c (k := 0) (x := 0) (by decide)) (Int32.not_lt.mp kc12)).w (by decide) (by decide)
          exact (kv13.no (by decide))
  refine lv_iconst (v := 0) hx hb dX2_readAt_0 (by decide) ?_
  refine lv_istore_n (lv' := [(2, .int 0), (0, .ref a0), (1, .int i1)]) hx hb dX2_readAt_1 rfl hl (by decide) rfl (fun ls hl => ?_)
  refine lv_iload_n hx hb dX2_readAt_2 rfl (lv_at hl 2 rfl) ?_
  refine lv_if_lt (tgt := 47) hx hb dX2_readAt_3 (by decide) (fun kc14 => ?_) (fun kc14 => ?_)
  · have kv15 : q_V (-2147483648) (-1) i1 := (q_lt1 (q_all i1) (q_c (k := 0) (x := 0) (by decide)) kc14).w (by decide) (by decide)
    refine lv_iload_n hx hb dX2_readAt_47 rfl (lv_at hl 0 rfl) ?_
    exact q_reti hE hr hlocks hW ((q_c (k := 0) (x := 0) (by decide))) dX2_readAt_48
  · have kv16 : q_V 0 2147483647 i1 := (q_le2 (q_c (k := 0) (x := 0) (by decide)) (q_all i1) (Int32.not_lt.mp kc14)).w (by decide) (by decide)
    refine lv_iload_n hx hb dX2_readAt_6 rfl (lv_at hl 2 rfl) ?_
    refine lv_bipush (v := 7) hx hb dX2_readAt_7 (by decide) ?_
    refine lv_icmp_ge (tgt := 47) hx hb dX2_readAt_9 (by decide) (fun kc17 => ?_) (fun kc17 => ?_)
    · have kv18 : q_V 7 2147483647 i1 := (q_le2 (q_c (k := 7) (x := 7) (by decide)) kv16 kc17).w (by decide) (by decide)
      refine lv_iload_n hx hb dX2_readAt_47 rfl (lv_at hl 0 rfl) ?_
      exact q_reti hE hr hlocks hW ((q_c (k := 0) (x := 0) (by decide))) dX2_readAt_48
    · have kv19 : q_V 0 6 i1 := (q_lt1 kv16 (q_c (k := 7) (x := 7) (by decide)) (Int32.not_le.mp kc17)).w (by decide) (by decide)
      refine lv_iconst (v := 0) hx hb dX2_readAt_12 (by decide) ?_
      refine lv_istore_n (lv' := [(3, .int 0), (2, .int 0), (0, .ref a0), (1, .int i1)]) hx hb dX2_readAt_13 rfl hl (by decide) rfl (fun ls hl => ?_)
      exact lp14a _ kv19 0 ((q_c (k := 0) (x := 0) (by decide)).w (by decide) (by decide)) ls (lv_sub hl [2, 3, 1, 0] rfl) (Nat.lt_succ_self _)
set_option maxHeartbeats 4000000 in
set_option maxRecDepth 100000 in
theorem c_X11_readFrom_tz (l : Launch) (G : q_G) (σ : q_S) (a0 : Nat) (h0 : q_T G a0 = 26) (i1 : Int32) (hz : q_fr G [] [(28, 0, 7)] σ) : Met l yX11_readFrom (Cond.code yX11_readFrom cX11_readFrom 4 (some .int) :: wsL_law) (q_Rm 1) (q_Pre G σ [.ref a0, .int i1]) (q_Qi G [] σ (fun r σ1 => q_V 0 0 r)) 0 0 (q_N G) := by
  refine q_ofW (ts := []) (by decide) (Nat.le_of_ble_eq_true rfl) ?_
  intro p e s m args below meth c hE hr hlocks hW ls hl
  have hE : q_E G p s m args c cX11_readFrom 4 RX11 := hE
  have hx := hE.1.1
  have hb := hE.1.2.1
  have hl : lv_has ls 4 [(0, .ref a0), (1, .int i1)] := hl
  have lp4a : ∀ (n4a : Nat) (kx1 : Int32) (vkx1 : q_V 0 7 kx1) (ls : Array Slot) (hl : lv_has ls 4 [(0, .ref a0), (1, .int i1), (2, .int 0), (3, .int kx1)]), (7 - kx1.toInt).toNat < n4a → W p l e (q_Rm 1) s m args below meth c s.heap [] 0 0 (MQ below (q_Qi G [] σ (fun r σ1 => q_V 0 0 r)) args s 0 0 (q_N G)) (F0 m 4 ls []) := by
    intro n4a
    induction n4a with
    | zero => intro _ _ _ _; exact fun h => absurd h (Nat.not_lt_zero _)
    | succ n4a ih4a =>
      intro kx1 vkx1 ls hl hm4a
      have jn28a : ∀ (kv2 : q_V 0 6 kx1) (ls : Array Slot) (hl : lv_has ls 4 [(0, .ref a0), (1, .int i1), (2, .int 0), (3, .int kx1)]), W p l e (q_Rm 1) s m args below meth c s.heap [] 0 0 (MQ below (q_Qi G [] σ (fun r σ1 => q_V 0 0 r)) args s 0 0 (q_N G)) (F0 m 28 ls []) := by
        intro kv2 ls hl
        obtain ⟨kx3, ekx3⟩ : ∃ y : Int32, y = kx1 + 1 := ⟨_, rfl⟩
        have vkx3 : q_V 1 7 kx3 := by rw [ekx3]; exact (q_add kv2 (q_c (k := 1) (x := 1) (by decide)) (by decide) (by decide)).w (by decide) (by decide)
        have ikx3 : kx3.toInt = kx1.toInt + 1 := q_incT ekx3 kv2 (by decide) (by decide) (by decide)
        refine lv_iinc (v := kx3) (lv' := [(3, .int kx3), (0, .ref a0), (1, .int i1), (2, .int 0)]) hx hb dX11_readFrom_28 hl (k := 3) rfl (by rw [ekx3]; rfl) (by decide) rfl (fun ls hl => ?_)
        refine lv_goto (tgt := 4) hx hb dX11_readFrom_31 (by decide) ?_
        exact ih4a kx3 (vkx3.w (by decide) (by decide)) ls (lv_sub hl [1, 2, 3, 0] rfl) (Nat.lt_of_lt_of_le (q_up (ikx3) (show q_V 1 7 kx3 from vkx3).2) (Nat.le_of_lt_succ hm4a))
      refine lv_iload_n hx hb dX11_readFrom_4 rfl (lv_at hl 3 rfl) ?_
      refine lv_bipush (v := 7) hx hb dX11_readFrom_5 (by decide) ?_
      refine lv_icmp_ge (tgt := 34) hx hb dX11_readFrom_7 (by decide) (fun kc4 => ?_) (fun kc4 => ?_)
      · have kv5 : q_V 7 7 kx1 := (q_le2 (q_c (k := 7) (x := 7) (by decide)) vkx1 kc4).w (by decide) (by decide)
        refine lv_iload_n hx hb dX11_readFrom_34 rfl (lv_at hl 2 rfl) ?_
        exact q_reti hE hr hlocks hW ((q_c (k := 0) (x := 0) (by decide))) dX11_readFrom_35
      · have kv6 : q_V 0 6 kx1 := (q_lt1 vkx1 (q_c (k := 7) (x := 7) (by decide)) (Int32.not_le.mp kc4)).w (by decide) (by decide)
        refine lv_iload_n hx hb dX11_readFrom_10 rfl (lv_at hl 1 rfl) ?_
        refine lv_iload_n hx hb dX11_readFrom_11 rfl (lv_at hl 3 rfl) ?_
        refine lv_ishr hx hb dX11_readFrom_12 ?_
        refine lv_topi (fun kx7 ekx7 => ?_)
        refine lv_iconst (v := 1) hx hb dX11_readFrom_13 (by decide) ?_
        refine lv_iand hx hb dX11_readFrom_14 ?_
        refine lv_topi (fun kx8 ekx8 => ?_)
        have vkx8 : q_V 0 1 kx8 := by rw [ekx8]; exact (q_and1 kx7).w (by decide) (by decide)
        refine lv_iconst (v := 1) hx hb dX11_readFrom_15 (by decide) ?_
        refine lv_icmp_ne (tgt := 28) hx hb dX11_readFrom_16 (by decide) (fun kc9 => ?_) (fun kc9 => ?_)
        · have kv10 : q_V 0 0 kx8 := q_ne2 vkx8 (q_c (k := 1) (x := 1) (by decide)) kc9 (by decide)
          exact jn28a kv6 ls (lv_sub hl [0, 1, 2, 3] rfl)
        · have kv11 : q_V 1 1 kx8 := q_eq1 vkx8 (q_c (k := 1) (x := 1) (by decide)) kc9 (by decide) (by decide)
          refine lv_iload_n hx hb dX11_readFrom_19 rfl (lv_at hl 2 rfl) ?_
          refine lv_aload_n hx hb dX11_readFrom_20 rfl (lv_at hl 0 rfl) ?_
          refine q_getr hE hW h0 rfl q_k11 8 (by decide) rfl (hE.l wl_46) dX11_readFrom_21 (fun kb12 ekb12 hkb12a hkb12b => ?_)
          have hkb12 : q_T G kb12 = 28 := q_tag hkb12a hkb12b
          refine lv_iload_n hx hb dX11_readFrom_24 rfl (lv_at hl 3 rfl) ?_
          refine q_iald hE hW hkb12 rfl (q_in kv6 (by decide) (by decide)) dX11_readFrom_25 (fun kx13 ekx13 gkx13 => ?_)
          obtain rfl : (0 : Int32) = kx13 := (q_fr.z hz (t := 28) (l := 0) (u := 7) (by decide) hkb12 kv6 (by decide) (by decide) (by decide)).symm.trans ekx13
          refine lv_ior hx hb dX11_readFrom_26 ?_
          refine lv_eqi (y := 0) (by decide) ?_
          refine lv_istore_n (lv' := [(2, .int 0), (0, .ref a0), (1, .int i1), (3, .int kx1)]) hx hb dX11_readFrom_27 rfl hl (by decide) rfl (fun ls hl => ?_)
          exact jn28a kv6 ls (lv_sub hl [1, 2, 0, 3] rfl)
  refine lv_iconst (v := 0) hx hb dX11_readFrom_0 (by decide) ?_
  refine lv_istore_n (lv' := [(2, .int 0), (0, .ref a0), (1, .int i1)]) hx hb dX11_readFrom_1 rfl hl (by decide) rfl (fun ls hl => ?_)
  refine lv_iconst (v := 0) hx hb dX11_readFrom_2 (by decide) ?_
  refine lv_istore_n (lv' := [(3, .int 0), (2, .int 0), (0, .ref a0), (1, .int i1)]) hx hb dX11_readFrom_3 rfl hl (by decide) rfl (fun ls hl => ?_)
  exact lp4a _ 0 ((q_c (k := 0) (x := 0) (by decide)).w (by decide) (by decide)) ls (lv_sub hl [2, 3, 1, 0] rfl) (Nat.lt_succ_self _)
set_option maxHeartbeats 4000000 in
set_option maxRecDepth 100000 in
theorem c_X2_allWater_tz (l : Launch) (G : q_G) (σ : q_S) (a0 : Nat) (h0 : q_T G a0 = 7) (hz : q_fr G [] [(12, 0, 6)] σ) : Met l yX2_allWater (Cond.code yX2_allWater cX2_allWater 4 (some .int) :: wsL_law) (q_Rm 1) (q_Pre G σ [.ref a0]) (q_Qi G [] σ (fun r σ1 => q_V 0 0 r)) 0 0 (q_N G) := by
  refine q_ofW (ts := []) (by decide) (Nat.le_of_ble_eq_true rfl) ?_
  intro p e s m args below meth c hE hr hlocks hW ls hl
  have hE : q_E G p s m args c cX2_allWater 4 RX2 := hE
  have hx := hE.1.1
  have hb := hE.1.2.1
  have hl : lv_has ls 4 [(0, .ref a0)] := hl
  have lp4a : ∀ (n4a : Nat) (kx1 : Int32) (vkx1 : q_V 0 7 kx1) (ls : Array Slot) (hl : lv_has ls 4 [(0, .ref a0), (1, .int 0), (2, .int kx1)]), (7 - kx1.toInt).toNat < n4a → W p l e (q_Rm 1) s m args below meth c s.heap [] 0 0 (MQ below (q_Qi G [] σ (fun r σ1 => q_V 0 0 r)) args s 0 0 (q_N G)) (F0 m 4 ls []) := by
    intro n4a
    induction n4a with
    | zero => intro _ _ _ _; exact fun h => absurd h (Nat.not_lt_zero _)
    | succ n4a ih4a =>
      intro kx1 vkx1 ls hl hm4a
      have lp12a : ∀ (n12a : Nat) (kv2 : q_V 0 6 kx1) (kx3 : Int32) (vkx3 : q_V 0 6 kx3) (ls : Array Slot) (hl : lv_has ls 4 [(0, .ref a0), (1, .int 0), (2, .int kx1), (3, .int kx3)]), (6 - kx3.toInt).toNat < n12a → W p l e (q_Rm 1) s m args below meth c s.heap [] 0 0 (MQ below (q_Qi G [] σ (fun r σ1 => q_V 0 0 r)) args s 0 0 (q_N G)) (F0 m 12 ls []) := by
        intro n12a
        induction n12a with
        | zero => intro _ _ _ _ _; exact fun h => absurd h (Nat.not_lt_zero _)
        | succ n12a ih12a =>
          intro kv2 kx3 vkx3 ls hl hm12a
          refine lv_iload_n hx hb dX2_allWater_12 rfl (lv_at hl 3 rfl) ?_
          refine lv_bipush (v := 6) hx hb dX2_allWater_13 (by decide) ?_
          refine lv_icmp_ge (tgt := 35) hx hb dX2_allWater_15 (by decide) (fun kc4 => ?_) (fun kc4 => ?_)
          · have kv5 : q_V 6 6 kx3 := (q_le2 (q_c (k := 6) (x := 6) (by decide)) vkx3 kc4).w (by decide) (by decide)
            obtain ⟨kx6, ekx6⟩ : ∃ y : Int32, y = kx1 + 1 := ⟨_, rfl⟩
            have vkx6 : q_V 1 7 kx6 := by rw [ekx6]; exact (q_add kv2 (q_c (k := 1) (x := 1) (by decide)) (by decide) (by decide)).w (by decide) (by decide)
            have ikx6 : kx6.toInt = kx1.toInt + 1 := q_incT ekx6 kv2 (by decide) (by decide) (by decide)
            refine lv_iinc (v := kx6) (lv' := [(2, .int kx6), (0, .ref a0), (1, .int 0), (3, .int kx3)]) hx hb dX2_allWater_35 hl (k := 2) rfl (by rw [ekx6]; rfl) (by decide) rfl (fun ls hl => ?_)
            refine lv_goto (tgt := 4) hx hb dX2_allWater_38 (by decide) ?_
            exact ih4a kx6 (vkx6.w (by decide) (by decide)) ls (lv_sub hl [1, 2, 0] rfl) (Nat.lt_of_lt_of_le (q_up (ikx6) (show q_V 1 7 kx6 from vkx6).2) (Nat.le_of_lt_succ hm4a))
          · have kv7 : q_V 0 5 kx3 := (q_lt1 vkx3 (q_c (k := 6) (x := 6) (by decide)) (Int32.not_le.mp kc4)).w (by decide) (by decide)
            refine lv_iload_n hx hb dX2_allWater_18 rfl (lv_at hl 1 rfl) ?_
            refine lv_aload_n hx hb dX2_allWater_19 rfl (lv_at hl 0 rfl) ?_
            refine q_getr hE hW h0 rfl q_k2 5 (by decide) rfl (hE.l wl_89) dX2_allWater_20 (fun kb8 ekb8 hkb8a hkb8b => ?_)
            have hkb8 : q_T G kb8 = 11 := q_tag hkb8a hkb8b
            refine lv_iload_n hx hb dX2_allWater_23 rfl (lv_at hl 2 rfl) ?_
            refine q_aald hE hW hkb8 rfl (q_in kv2 (by decide) (by decide)) dX2_allWater_24 (fun kb9 ekb9 hkb9a hkb9b => ?_)
            have hkb9 : q_T G kb9 = 12 := q_tag hkb9a hkb9b
            refine lv_iload_n hx hb dX2_allWater_25 rfl (lv_at hl 3 rfl) ?_
            refine q_iald hE hW hkb9 rfl (q_in kv7 (by decide) (by decide)) dX2_allWater_26 (fun kx10 ekx10 gkx10 => ?_)
            obtain rfl : (0 : Int32) = kx10 := (q_fr.z hz (t := 12) (l := 0) (u := 6) (by decide) hkb9 kv7 (by decide) (by decide) (by decide)).symm.trans ekx10
            refine lv_iadd hx hb dX2_allWater_27 ?_
            refine lv_eqi (y := 0) (by decide) ?_
            refine lv_istore_n (lv' := [(1, .int 0), (0, .ref a0), (2, .int kx1), (3, .int kx3)]) hx hb dX2_allWater_28 rfl hl (by decide) rfl (fun ls hl => ?_)
            obtain ⟨kx11, ekx11⟩ : ∃ y : Int32, y = kx3 + 1 := ⟨_, rfl⟩
            have vkx11 : q_V 1 6 kx11 := by rw [ekx11]; exact (q_add kv7 (q_c (k := 1) (x := 1) (by decide)) (by decide) (by decide)).w (by decide) (by decide)
            have ikx11 : kx11.toInt = kx3.toInt + 1 := q_incT ekx11 kv7 (by decide) (by decide) (by decide)
            refine lv_iinc (v := kx11) (lv' := [(3, .int kx11), (1, .int 0), (0, .ref a0), (2, .int kx1)]) hx hb dX2_allWater_29 hl (k := 3) rfl (by rw [ekx11]; rfl) (by decide) rfl (fun ls hl => ?_)
            refine lv_goto (tgt := 12) hx hb dX2_allWater_32 (by decide) ?_
            exact ih12a kv2 kx11 (vkx11.w (by decide) (by decide)) ls (lv_sub hl [2, 1, 3, 0] rfl) (Nat.lt_of_lt_of_le (q_up (ikx11) (show q_V 1 6 kx11 from vkx11).2) (Nat.le_of_lt_succ hm12a))
      refine lv_iload_n hx hb dX2_allWater_4 rfl (lv_at hl 2 rfl) ?_
      refine lv_bipush (v := 7) hx hb dX2_allWater_5 (by decide) ?_
      refine lv_icmp_ge (tgt := 41) hx hb dX2_allWater_7 (by decide) (fun kc12 => ?_) (fun kc12 => ?_)
      · have kv13 : q_V 7 7 kx1 := (q_le2 (q_c (k := 7) (x := 7) (by decide)) vkx1 kc12).w (by decide) (by decide)
        refine lv_iload_n hx hb dX2_allWater_41 rfl (lv_at hl 1 rfl) ?_
        exact q_reti hE hr hlocks hW ((q_c (k := 0) (x := 0) (by decide))) dX2_allWater_42
      · have kv14 : q_V 0 6 kx1 := (q_lt1 vkx1 (q_c (k := 7) (x := 7) (by decide)) (Int32.not_le.mp kc12)).w (by decide) (by decide)
        refine lv_iconst (v := 0) hx hb dX2_allWater_10 (by decide) ?_
        refine lv_istore_n (lv' := [(3, .int 0), (0, .ref a0), (1, .int 0), (2, .int kx1)]) hx hb dX2_allWater_11 rfl hl (by decide) rfl (fun ls hl => ?_)
        exact lp12a _ kv14 0 ((q_c (k := 0) (x := 0) (by decide)).w (by decide) (by decide)) ls (lv_sub hl [1, 2, 3, 0] rfl) (Nat.lt_succ_self _)
  refine lv_iconst (v := 0) hx hb dX2_allWater_0 (by decide) ?_
  refine lv_istore_n (lv' := [(1, .int 0), (0, .ref a0)]) hx hb dX2_allWater_1 rfl hl (by decide) rfl (fun ls hl => ?_)
  refine lv_iconst (v := 0) hx hb dX2_allWater_2 (by decide) ?_
  refine lv_istore_n (lv' := [(2, .int 0), (1, .int 0), (0, .ref a0)]) hx hb dX2_allWater_3 rfl hl (by decide) rfl (fun ls hl => ?_)
  exact lp4a _ 0 ((q_c (k := 0) (x := 0) (by decide)).w (by decide) (by decide)) ls (lv_sub hl [2, 1, 0] rfl) (Nat.lt_succ_self _)
set_option maxHeartbeats 4000000 in
set_option maxRecDepth 100000 in
theorem c_X2_cloudsThatAre_tz (l : Launch) (G : q_G) (σ : q_S) (a0 : Nat) (h0 : q_T G a0 = 7) (i1 : Int32) (hz : q_fr G [(7, 1)] [] σ) : Met l yX2_cloudsThatAre (Cond.code yX2_cloudsThatAre cX2_cloudsThatAre 4 (some .int) :: wsL_law) (q_Rm 1) (q_Pre G σ [.ref a0, .int i1]) (q_Qi G [] σ (fun r σ1 => q_V 0 0 r)) 0 0 (q_N G) := by
  refine q_ofW (ts := []) (by decide) (Nat.le_of_ble_eq_true rfl) ?_
  intro p e s m args below meth c hE hr hlocks hW ls hl
  have hE : q_E G p s m args c cX2_cloudsThatAre 4 RX2 := hE
  have hx := hE.1.1
  have hb := hE.1.2.1
  have hl : lv_has ls 4 [(0, .ref a0), (1, .int i1)] := hl
  refine lv_iconst (v := 0) hx hb dX2_cloudsThatAre_0 (by decide) ?_
  refine lv_istore_n (lv' := [(2, .int 0), (0, .ref a0), (1, .int i1)]) hx hb dX2_cloudsThatAre_1 rfl hl (by decide) rfl (fun ls hl => ?_)
  refine lv_iconst (v := 0) hx hb dX2_cloudsThatAre_2 (by decide) ?_
  refine lv_istore_n (lv' := [(3, .int 0), (2, .int 0), (0, .ref a0), (1, .int i1)]) hx hb dX2_cloudsThatAre_3 rfl hl (by decide) rfl (fun ls hl => ?_)
  refine lv_iload_n hx hb dX2_cloudsThatAre_4 rfl (lv_at hl 0 rfl) ?_
  refine lv_aload_n hx hb dX2_cloudsThatAre_5 rfl (lv_at hl 2 rfl) ?_
  refine q_geti hE hW h0 rfl q_k2 1 (by decide) rfl (hE.l wl_198) dX2_cloudsThatAre_6 (fun kx1 ekx1 vkx1 => ?_)
  obtain rfl : (0 : Int32) = kx1 := (q_fr.f hz (t := 7) (k := 1) (by decide) h0).symm.trans ekx1
  refine lv_icmp_ge (tgt := 43) hx hb dX2_cloudsThatAre_9 (by decide) (fun kc2 => ?_) (fun kc2 => ?_)
  · refine lv_iload_n hx hb dX2_cloudsThatAre_43 rfl (lv_at hl 1 rfl) ?_
    exact q_reti hE hr hlocks hW ((q_c (k := 0) (x := 0) (by decide))) dX2_cloudsThatAre_44
  · have kv3 : q_V 0 (-1) 0 := (q_lt1 (q_c (k := 0) (x := 0) (by decide)) (q_c (k := 0) (x := 0) (by decide)) (Int32.not_le.mp kc2)).w (by decide) (by decide)
    exact (kv3.no (by decide))
set_option maxHeartbeats 4000000 in
set_option maxRecDepth 100000 in
theorem c_X11_linesThere_tz (l : Launch) (G : q_G) (σ : q_S) (a0 : Nat) (h0 : q_T G a0 = 26) (hz : q_fr G [(23, 0)] [] σ) : Met l yX11_linesThere (Cond.code yX11_linesThere cX11_linesThere 3 (some .int) :: wsL_law) (q_Rm 1) (q_Pre G σ [.ref a0]) (q_Qi G [] σ (fun r σ1 => q_V 0 0 r)) 0 0 (q_N G) := by
  refine q_ofW (ts := []) (by decide) (Nat.le_of_ble_eq_true rfl) ?_
  intro p e s m args below meth c hE hr hlocks hW ls hl
  have hE : q_E G p s m args c cX11_linesThere 3 RX11 := hE
  have hx := hE.1.1
  have hb := hE.1.2.1
  have hl : lv_has ls 3 [(0, .ref a0)] := hl
  have lp4a : ∀ (n4a : Nat) (kx1 : Int32) (vkx1 : q_V 0 3 kx1) (ls : Array Slot) (hl : lv_has ls 3 [(0, .ref a0), (1, .int 0), (2, .int kx1)]), (3 - kx1.toInt).toNat < n4a → W p l e (q_Rm 1) s m args below meth c s.heap [] 0 0 (MQ below (q_Qi G [] σ (fun r σ1 => q_V 0 0 r)) args s 0 0 (q_N G)) (F0 m 4 ls []) := by
    intro n4a
    induction n4a with
    | zero => intro _ _ _ _; exact fun h => absurd h (Nat.not_lt_zero _)
    | succ n4a ih4a =>
      intro kx1 vkx1 ls hl hm4a
      have jn27a : ∀ (kv2 : q_V 0 2 kx1) (ls : Array Slot) (hl : lv_has ls 3 [(0, .ref a0), (2, .int kx1)]), W p l e (q_Rm 1) s m args below meth c s.heap [] 0 0 (MQ below (q_Qi G [] σ (fun r σ1 => q_V 0 0 r)) args s 0 0 (q_N G)) (F0 m 27 ls [.int 0, .int 0]) := by
        intro kv2 ls hl
        refine lv_iadd hx hb dX11_linesThere_27 ?_
        refine lv_eqi (y := 0) (by decide) ?_
        refine lv_istore_n (lv' := [(1, .int 0), (0, .ref a0), (2, .int kx1)]) hx hb dX11_linesThere_28 rfl hl (by decide) rfl (fun ls hl => ?_)
        obtain ⟨kx3, ekx3⟩ : ∃ y : Int32, y = kx1 + 1 := ⟨_, rfl⟩
        have vkx3 : q_V 1 3 kx3 := by rw [ekx3]; exact (q_add kv2 (q_c (k := 1) (x := 1) (by decide)) (by decide) (by decide)).w (by decide) (by decide)
        have ikx3 : kx3.toInt = kx1.toInt + 1 := q_incT ekx3 kv2 (by decide) (by decide) (by decide)
        refine lv_iinc (v := kx3) (lv' := [(2, .int kx3), (1, .int 0), (0, .ref a0)]) hx hb dX11_linesThere_29 hl (k := 2) rfl (by rw [ekx3]; rfl) (by decide) rfl (fun ls hl => ?_)
        refine lv_goto (tgt := 4) hx hb dX11_linesThere_32 (by decide) ?_
        exact ih4a kx3 (vkx3.w (by decide) (by decide)) ls (lv_sub hl [2, 1, 0] rfl) (Nat.lt_of_lt_of_le (q_up (ikx3) (show q_V 1 3 kx3 from vkx3).2) (Nat.le_of_lt_succ hm4a))
      refine lv_iload_n hx hb dX11_linesThere_4 rfl (lv_at hl 2 rfl) ?_
      refine lv_iconst (v := 3) hx hb dX11_linesThere_5 (by decide) ?_
      refine lv_icmp_ge (tgt := 35) hx hb dX11_linesThere_6 (by decide) (fun kc4 => ?_) (fun kc4 => ?_)
      · have kv5 : q_V 3 3 kx1 := (q_le2 (q_c (k := 3) (x := 3) (by decide)) vkx1 kc4).w (by decide) (by decide)
        refine lv_iload_n hx hb dX11_linesThere_35 rfl (lv_at hl 1 rfl) ?_
        exact q_reti hE hr hlocks hW ((q_c (k := 0) (x := 0) (by decide))) dX11_linesThere_36
      · have kv6 : q_V 0 2 kx1 := (q_lt1 vkx1 (q_c (k := 3) (x := 3) (by decide)) (Int32.not_le.mp kc4)).w (by decide) (by decide)
        refine lv_iload_n hx hb dX11_linesThere_9 rfl (lv_at hl 1 rfl) ?_
        refine lv_aload_n hx hb dX11_linesThere_10 rfl (lv_at hl 0 rfl) ?_
        refine q_getr hE hW h0 rfl q_k11 18 (by decide) rfl (hE.l wl_56) dX11_linesThere_11 (fun kb7 ekb7 hkb7a hkb7b => ?_)
        have hkb7 : q_T G kb7 = 36 := q_tag hkb7a hkb7b
        refine lv_iload_n hx hb dX11_linesThere_14 rfl (lv_at hl 2 rfl) ?_
        refine q_aald hE hW hkb7 rfl (q_in kv6 (by decide) (by decide)) dX11_linesThere_15 (fun kb8 ekb8 hkb8a hkb8b => ?_)
        have hkb8 : q_T G kb8 = 23 := q_tag hkb8a hkb8b
        refine q_geti hE hW hkb8 rfl q_k5 0 (by decide) rfl (hE.n 37 rfl) dX11_linesThere_16 (fun kx9 ekx9 vkx9 => ?_)
        obtain rfl : (0 : Int32) = kx9 := (q_fr.f hz (t := 23) (k := 0) (by decide) hkb8).symm.trans ekx9
        refine lv_if_eq (tgt := 26) hx hb dX11_linesThere_19 (by decide) (fun kc10 => ?_) (fun kc10 => ?_)
        · refine lv_iconst (v := 0) hx hb dX11_linesThere_26 (by decide) ?_
          exact jn27a kv6 ls (lv_sub hl [0, 2] rfl)
        · exact q_neq (q_c (k := 0) (x := 0) (by decide)) (q_c (k := 0) (x := 0) (by decide)) kc10
  refine lv_iconst (v := 0) hx hb dX11_linesThere_0 (by decide) ?_
  refine lv_istore_n (lv' := [(1, .int 0), (0, .ref a0)]) hx hb dX11_linesThere_1 rfl hl (by decide) rfl (fun ls hl => ?_)
  refine lv_iconst (v := 0) hx hb dX11_linesThere_2 (by decide) ?_
  refine lv_istore_n (lv' := [(2, .int 0), (1, .int 0), (0, .ref a0)]) hx hb dX11_linesThere_3 rfl hl (by decide) rfl (fun ls hl => ?_)
  exact lp4a _ 0 ((q_c (k := 0) (x := 0) (by decide)).w (by decide) (by decide)) ls (lv_sub hl [2, 1, 0] rfl) (Nat.lt_succ_self _)
set_option maxHeartbeats 4000000 in
set_option maxRecDepth 100000 in
theorem c_X11_needed_tz (l : Launch) (G : q_G) (σ : q_S) (a0 : Nat) (h0 : q_T G a0 = 26) (i1 : Int32) (hz : q_fr G [(7, 1)] [] σ) : Met l yX11_needed (Cond.code yX11_needed cX11_needed 4 (some .int) :: wsL_law) (q_Rm 2) (q_Pre G σ [.ref a0, .int i1]) (q_Qi G [] σ (fun r σ1 => q_V (-2147483648) 2147483647 r ∧ r = kz_needed i1)) 0 0 (q_N G) := by
  refine q_ofW (ts := []) (by decide) (Nat.le_of_ble_eq_true rfl) ?_
  intro p e s m args below meth c hE hr hlocks hW ls hl
  have hE : q_E G p s m args c cX11_needed 4 RX11 := hE
  have hx := hE.1.1
  have hb := hE.1.2.1
  have hl : lv_has ls 4 [(0, .ref a0), (1, .int i1)] := hl
  refine lv_iload_n hx hb dX11_needed_0 rfl (lv_at hl 1 rfl) ?_
  refine lv_if_lt (tgt := 17) hx hb dX11_needed_1 (by decide) (fun kc1 => ?_) (fun kc1 => ?_)
  · have kv2 : q_V (-2147483648) (-1) i1 := (q_lt1 (q_all i1) (q_c (k := 0) (x := 0) (by decide)) kc1).w (by decide) (by decide)
    refine lv_bipush (v := (-2)) hx hb dX11_needed_17 (by decide) ?_
    exact q_reti hE hr hlocks hW (⟨((q_c (k := (-2)) (x := (-2)) (by decide)).w (by decide) (by decide)), (by have := kv2.1; have := kv2.2; unfold kz_needed; (repeat' split) <;> first | rfl | omega)⟩) dX11_needed_19
  · have kv3 : q_V 0 2147483647 i1 := (q_le2 (q_c (k := 0) (x := 0) (by decide)) (q_all i1) (Int32.not_lt.mp kc1)).w (by decide) (by decide)
    refine lv_iload_n hx hb dX11_needed_4 rfl (lv_at hl 1 rfl) ?_
    refine lv_iconst (v := 1) hx hb dX11_needed_5 (by decide) ?_
    refine lv_aload_n hx hb dX11_needed_6 rfl (lv_at hl 0 rfl) ?_
    refine q_getr hE hW h0 rfl q_k11 5 (by decide) rfl (hE.l wl_35) dX11_needed_7 (fun kb4 ekb4 hkb4a hkb4b => ?_)
    have hkb4 : q_T G kb4 = 7 := q_tag hkb4a hkb4b
    refine q_geti hE hW hkb4 rfl q_k2 1 (by decide) rfl (hE.n 21 rfl) dX11_needed_10 (fun kx5 ekx5 vkx5 => ?_)
    obtain rfl : (0 : Int32) = kx5 := (q_fr.f hz (t := 7) (k := 1) (by decide) hkb4).symm.trans ekx5
    refine lv_ishl hx hb dX11_needed_13 ?_
    refine lv_eqi (y := 1) (by decide) ?_
    refine lv_icmp_lt (tgt := 20) hx hb dX11_needed_14 (by decide) (fun kc6 => ?_) (fun kc6 => ?_)
    · have kv7 : q_V 0 0 i1 := (q_lt1 kv3 (q_c (k := 1) (x := 1) (by decide)) kc6).w (by decide) (by decide)
      refine lv_iconst (v := 0) hx hb dX11_needed_20 (by decide) ?_
      refine lv_istore_n (lv' := [(2, .int 0), (0, .ref a0), (1, .int i1)]) hx hb dX11_needed_21 rfl hl (by decide) rfl (fun ls hl => ?_)
      refine lv_iconst (v := 0) hx hb dX11_needed_22 (by decide) ?_
      refine lv_istore_n (lv' := [(3, .int 0), (2, .int 0), (0, .ref a0), (1, .int i1)]) hx hb dX11_needed_23 rfl hl (by decide) rfl (fun ls hl => ?_)
      refine lv_iload_n hx hb dX11_needed_24 rfl (lv_at hl 0 rfl) ?_
      refine lv_aload_n hx hb dX11_needed_25 rfl (lv_at hl 2 rfl) ?_
      refine q_getr hE hW h0 rfl q_k11 5 (by decide) rfl (hE.l wl_35) dX11_needed_26 (fun kb8 ekb8 hkb8a hkb8b => ?_)
      obtain rfl : kb4 = kb8 := ekb4.symm.trans ekb8
      refine q_geti hE hW hkb4 rfl q_k2 1 (by decide) rfl (hE.n 21 rfl) dX11_needed_29 (fun kx9 ekx9 vkx9 => ?_)
      obtain rfl : 0 = kx9 := ekx5.symm.trans ekx9
      refine lv_icmp_ge (tgt := 73) hx hb dX11_needed_32 (by decide) (fun kc10 => ?_) (fun kc10 => ?_)
      · refine lv_iload_n hx hb dX11_needed_73 rfl (lv_at hl 1 rfl) ?_
        exact q_reti hE hr hlocks hW (⟨((q_c (k := 0) (x := 0) (by decide)).w (by decide) (by decide)), (by have := kv7.1; have := kv7.2; unfold kz_needed; (repeat' split) <;> first | rfl | omega)⟩) dX11_needed_74
      · have kv11 : q_V 0 (-1) 0 := (q_lt1 (q_c (k := 0) (x := 0) (by decide)) (q_c (k := 0) (x := 0) (by decide)) (Int32.not_le.mp kc10)).w (by decide) (by decide)
        exact (kv11.no (by decide))
    · have kv12 : q_V 1 2147483647 i1 := (q_le2 (q_c (k := 1) (x := 1) (by decide)) kv3 (Int32.not_lt.mp kc6)).w (by decide) (by decide)
      refine lv_bipush (v := (-2)) hx hb dX11_needed_17 (by decide) ?_
      exact q_reti hE hr hlocks hW (⟨((q_c (k := (-2)) (x := (-2)) (by decide)).w (by decide) (by decide)), (by have := kv12.1; have := kv12.2; unfold kz_needed; (repeat' split) <;> first | rfl | omega)⟩) dX11_needed_19
set_option maxHeartbeats 4000000 in
set_option maxRecDepth 100000 in
theorem c_X11_peg_tz (l : Launch) (G : q_G) (σ : q_S) (a0 : Nat) (h0 : q_T G a0 = 26) (i1 : Int32) (i2 : Int32) (i3 : Int32) (hz : q_fr G [(23, 0)] [] σ) : Met l yX11_peg (Cond.code yX11_peg cX11_peg 6 (some .int) :: wsL_law) (q_Rm 3) (q_Pre G σ [.ref a0, .int i1, .int i2, .int i3]) (q_Qi G [] σ (fun r σ1 => q_V (-2147483648) 2147483647 r ∧ r = kz_peg i1 i2 i3)) 0 0 (q_N G) := by
  refine q_ofW (ts := []) (by decide) (Nat.le_of_ble_eq_true rfl) ?_
  intro p e s m args below meth c hE hr hlocks hW ls hl
  have hE : q_E G p s m args c cX11_peg 6 RX11 := hE
  have hx := hE.1.1
  have hb := hE.1.2.1
  have hl : lv_has ls 6 [(0, .ref a0), (1, .int i1), (2, .int i2), (3, .int i3)] := hl
  refine lv_aload_n hx hb dX11_peg_0 rfl (lv_at hl 0 rfl) ?_
  refine lv_iload_n hx hb dX11_peg_1 rfl (lv_at hl 1 rfl) ?_
  refine q_goq hW (q_runV (As := [.int i1]) (rest := []) hE hW (c_X11_lineAt_tx l G σ a0 h0 i1) kw_X11_272 (q_recv hE hW h0 rfl q_k11) rfl hl.1 rfl (Nat.le_of_ble_eq_true rfl) dX11_peg_2 ⟨by decide, by decide⟩ ⟨by decide, by decide⟩) (by decide) (fun ks2 H locs kp1 kf3 hW => ?_) (fun kb4 ks2 H locs kp1 kf3 hW => ?_)
  · refine lv_astoreN (lv' := [(4, .null), (0, .ref a0), (1, .int i1), (2, .int i2), (3, .int i3)]) hx hb dX11_peg_5 hl (by decide) rfl (fun ls hl => ?_)
    refine lv_aloadN hx hb dX11_peg_7 (lv_at hl 0 rfl) ?_
    refine lv_ifnonnullN hx hb dX11_peg_9 ?_
    refine lv_bipush (v := (-2)) hx hb dX11_peg_12 (by decide) ?_
    exact q_reti hE hr hlocks hW (⟨((q_c (k := (-2)) (x := (-2)) (by decide)).w (by decide) (by decide)), (by have := (kp1.2.1 rfl); unfold kz_peg; (repeat' split) <;> first | rfl | omega)⟩) dX11_peg_14
  · have hkb4 : q_T G kb4 = 23 := kp1.1 kb4 rfl
    have kv5 : q_V 0 2 i1 := kp1.2.2 (fun q_h => by cases q_h)
    refine lv_astore (lv' := [(4, .ref kb4), (0, .ref a0), (1, .int i1), (2, .int i2), (3, .int i3)]) hx hb dX11_peg_5 hl (by decide) rfl (fun ls hl => ?_)
    refine lv_aload hx hb dX11_peg_7 (lv_at hl 0 rfl) ?_
    refine lv_ifnonnull hx hb dX11_peg_9 (tgt := 15) (by decide) ?_
    refine lv_iload_n hx hb dX11_peg_15 rfl (lv_at hl 4 rfl) ?_
    refine lv_if_lt (tgt := 24) hx hb dX11_peg_16 (by decide) (fun kc6 => ?_) (fun kc6 => ?_)
    · have kv7 : q_V (-2147483648) (-1) i3 := (q_lt1 (q_all i3) (q_c (k := 0) (x := 0) (by decide)) kc6).w (by decide) (by decide)
      refine lv_bipush (v := (-3)) hx hb dX11_peg_24 (by decide) ?_
      exact q_reti hE hr hlocks hW (⟨((q_c (k := (-3)) (x := (-3)) (by decide)).w (by decide) (by decide)), (by have := kv5.1; have := kv5.2; have := kv7.1; have := kv7.2; unfold kz_peg; (repeat' split) <;> first | rfl | omega)⟩) dX11_peg_26
    · have kv8 : q_V 0 2147483647 i3 := (q_le2 (q_c (k := 0) (x := 0) (by decide)) (q_all i3) (Int32.not_lt.mp kc6)).w (by decide) (by decide)
      refine lv_iload_n hx hb dX11_peg_19 rfl (lv_at hl 4 rfl) ?_
      refine lv_iconst (v := 2) hx hb dX11_peg_20 (by decide) ?_
      refine lv_icmp_le (tgt := 27) hx hb dX11_peg_21 (by decide) (fun kc9 => ?_) (fun kc9 => ?_)
      · have kv10 : q_V 0 2 i3 := (q_le1 kv8 (q_c (k := 2) (x := 2) (by decide)) kc9).w (by decide) (by decide)
        refine lv_aload hx hb dX11_peg_27 (lv_at hl 0 rfl) ?_
        refine q_geti hE hW hkb4 rfl q_k5 0 (by decide) rfl (hE.n 37 rfl) dX11_peg_29 (fun kx11 ekx11 vkx11 => ?_)
        obtain rfl : (0 : Int32) = kx11 := (q_fr.f (q_fr.fr (q_fr.sub (F2 := [(23, 0)]) (A2 := []) hz (by decide) (by decide)) kf3 (by decide) (by decide)) (t := 23) (k := 0) (by decide) hkb4).symm.trans ekx11
        refine lv_if_ne (tgt := 38) hx hb dX11_peg_32 (by decide) (fun kc12 => ?_) (fun kc12 => ?_)
        · exact q_neq (q_c (k := 0) (x := 0) (by decide)) (q_c (k := 0) (x := 0) (by decide)) kc12
        · refine lv_bipush (v := (-11)) hx hb dX11_peg_35 (by decide) ?_
          exact q_reti hE hr hlocks hW (⟨((q_c (k := (-11)) (x := (-11)) (by decide)).w (by decide) (by decide)), (by have := kv5.1; have := kv5.2; have := kv10.1; have := kv10.2; unfold kz_peg; (repeat' split) <;> first | rfl | omega)⟩) dX11_peg_37
      · have kv13 : q_V 3 2147483647 i3 := (q_lt2 (q_c (k := 2) (x := 2) (by decide)) kv8 (Int32.not_le.mp kc9)).w (by decide) (by decide)
        refine lv_bipush (v := (-3)) hx hb dX11_peg_24 (by decide) ?_
        exact q_reti hE hr hlocks hW (⟨((q_c (k := (-3)) (x := (-3)) (by decide)).w (by decide) (by decide)), (by have := kv5.1; have := kv5.2; have := kv13.1; have := kv13.2; unfold kz_peg; (repeat' split) <;> first | rfl | omega)⟩) dX11_peg_26
set_option maxHeartbeats 4000000 in
set_option maxRecDepth 100000 in
theorem c_X11_move_tz (l : Launch) (G : q_G) (σ : q_S) (a0 : Nat) (h0 : q_T G a0 = 26) (i1 : Int32) (i2 : Int32) (i3 : Int32) (i4 : Int32) (i5 : Int32) (hz : q_fr G [(23, 0)] [] σ) : Met l yX11_move (Cond.code yX11_move cX11_move 9 (some .int) :: wsL_law) (q_Rm 3) (q_Pre G σ [.ref a0, .int i1, .int i2, .int i3, .int i4, .int i5]) (q_Qi G [24, 25] σ (fun r σ1 => q_V (-2147483648) 2147483647 r ∧ r = kz_move i1 i2 i3 i4 i5)) 0 0 (q_N G) := by
  refine q_ofW (ts := [24, 25]) (by decide) (Nat.le_of_ble_eq_true rfl) ?_
  intro p e s m args below meth c hE hr hlocks hW ls hl
  have hE : q_E G p s m args c cX11_move 9 RX11 := hE
  have hx := hE.1.1
  have hb := hE.1.2.1
  have hl : lv_has ls 9 [(0, .ref a0), (1, .int i1), (2, .int i2), (3, .int i3), (4, .int i4), (5, .int i5)] := hl
  refine lv_aload_n hx hb dX11_move_0 rfl (lv_at hl 0 rfl) ?_
  refine lv_iload_n hx hb dX11_move_1 rfl (lv_at hl 1 rfl) ?_
  refine q_goq hW (q_runV (As := [.int i1]) (rest := []) hE hW (c_X11_lineAt_tx l G σ a0 h0 i1) kw_X11_272 (q_recv hE hW h0 rfl q_k11) rfl hl.1 rfl (Nat.le_of_ble_eq_true rfl) dX11_move_2 ⟨by decide, by decide⟩ ⟨by decide, by decide⟩) (by decide) (fun ks2 H locs kp1 kf3 hW => ?_) (fun kb4 ks2 H locs kp1 kf3 hW => ?_)
  · refine lv_astoreN (lv' := [(6, .null), (0, .ref a0), (1, .int i1), (2, .int i2), (3, .int i3), (4, .int i4), (5, .int i5)]) hx hb dX11_move_5 hl (by decide) rfl (fun ls hl => ?_)
    refine lv_aload_n hx hb dX11_move_7 rfl (lv_at hl 1 rfl) ?_
    refine lv_iload_n hx hb dX11_move_8 rfl (lv_at hl 4 rfl) ?_
    refine q_goq hW (q_runV (As := [.int i3]) (rest := []) hE hW (c_X11_lineAt_tx l G ks2 a0 h0 i3) kw_X11_272 (q_recv hE hW h0 rfl q_k11) rfl hl.1 rfl (Nat.le_of_ble_eq_true rfl) dX11_move_9 ⟨by decide, by decide⟩ ⟨by decide, by decide⟩) (by decide) (fun ks6 H locs kp5 kf7 hW => ?_) (fun kb8 ks6 H locs kp5 kf7 hW => ?_)
    · refine lv_astoreN (lv' := [(7, .null), (6, .null), (0, .ref a0), (1, .int i1), (2, .int i2), (3, .int i3), (4, .int i4), (5, .int i5)]) hx hb dX11_move_12 hl (by decide) rfl (fun ls hl => ?_)
      refine lv_aloadN hx hb dX11_move_14 (lv_at hl 1 rfl) ?_
      refine lv_ifnullN hx hb dX11_move_16 (tgt := 24) (by decide) ?_
      refine lv_bipush (v := (-2)) hx hb dX11_move_24 (by decide) ?_
      exact q_reti hE hr hlocks hW (⟨((q_c (k := (-2)) (x := (-2)) (by decide)).w (by decide) (by decide)), (by have := (kp1.2.1 rfl); have := (kp5.2.1 rfl); unfold kz_move; (repeat' split) <;> first | rfl | omega)⟩) dX11_move_26
    · have hkb8 : q_T G kb8 = 23 := kp5.1 kb8 rfl
      have kv9 : q_V 0 2 i3 := kp5.2.2 (fun q_h => by cases q_h)
      refine lv_astore (lv' := [(7, .ref kb8), (6, .null), (0, .ref a0), (1, .int i1), (2, .int i2), (3, .int i3), (4, .int i4), (5, .int i5)]) hx hb dX11_move_12 hl (by decide) rfl (fun ls hl => ?_)
      refine lv_aloadN hx hb dX11_move_14 (lv_at hl 1 rfl) ?_
      refine lv_ifnullN hx hb dX11_move_16 (tgt := 24) (by decide) ?_
      refine lv_bipush (v := (-2)) hx hb dX11_move_24 (by decide) ?_
      exact q_reti hE hr hlocks hW (⟨((q_c (k := (-2)) (x := (-2)) (by decide)).w (by decide) (by decide)), (by have := kv9.1; have := kv9.2; have := (kp1.2.1 rfl); unfold kz_move; (repeat' split) <;> first | rfl | omega)⟩) dX11_move_26
  · have hkb4 : q_T G kb4 = 23 := kp1.1 kb4 rfl
    have kv10 : q_V 0 2 i1 := kp1.2.2 (fun q_h => by cases q_h)
    refine lv_astore (lv' := [(6, .ref kb4), (0, .ref a0), (1, .int i1), (2, .int i2), (3, .int i3), (4, .int i4), (5, .int i5)]) hx hb dX11_move_5 hl (by decide) rfl (fun ls hl => ?_)
    refine lv_aload_n hx hb dX11_move_7 rfl (lv_at hl 1 rfl) ?_
    refine lv_iload_n hx hb dX11_move_8 rfl (lv_at hl 4 rfl) ?_
    refine q_goq hW (q_runV (As := [.int i3]) (rest := []) hE hW (c_X11_lineAt_tx l G ks2 a0 h0 i3) kw_X11_272 (q_recv hE hW h0 rfl q_k11) rfl hl.1 rfl (Nat.le_of_ble_eq_true rfl) dX11_move_9 ⟨by decide, by decide⟩ ⟨by decide, by decide⟩) (by decide) (fun ks12 H locs kp11 kf13 hW => ?_) (fun kb14 ks12 H locs kp11 kf13 hW => ?_)
    · refine lv_astoreN (lv' := [(7, .null), (6, .ref kb4), (0, .ref a0), (1, .int i1), (2, .int i2), (3, .int i3), (4, .int i4), (5, .int i5)]) hx hb dX11_move_12 hl (by decide) rfl (fun ls hl => ?_)
      refine lv_aload hx hb dX11_move_14 (lv_at hl 1 rfl) ?_
      refine lv_ifnull hx hb dX11_move_16 ?_
      refine lv_aloadN hx hb dX11_move_19 (lv_at hl 0 rfl) ?_
      refine lv_ifnonnullN hx hb dX11_move_21 ?_
      refine lv_bipush (v := (-2)) hx hb dX11_move_24 (by decide) ?_
      exact q_reti hE hr hlocks hW (⟨((q_c (k := (-2)) (x := (-2)) (by decide)).w (by decide) (by decide)), (by have := kv10.1; have := kv10.2; have := (kp11.2.1 rfl); unfold kz_move; (repeat' split) <;> first | rfl | omega)⟩) dX11_move_26
    · have hkb14 : q_T G kb14 = 23 := kp11.1 kb14 rfl
      have kv15 : q_V 0 2 i3 := kp11.2.2 (fun q_h => by cases q_h)
      refine lv_astore (lv' := [(7, .ref kb14), (6, .ref kb4), (0, .ref a0), (1, .int i1), (2, .int i2), (3, .int i3), (4, .int i4), (5, .int i5)]) hx hb dX11_move_12 hl (by decide) rfl (fun ls hl => ?_)
      refine lv_aload hx hb dX11_move_14 (lv_at hl 1 rfl) ?_
      refine lv_ifnull hx hb dX11_move_16 ?_
      refine lv_aload hx hb dX11_move_19 (lv_at hl 0 rfl) ?_
      refine lv_ifnonnull hx hb dX11_move_21 (tgt := 27) (by decide) ?_
      refine lv_aload hx hb dX11_move_27 (lv_at hl 1 rfl) ?_
      refine q_geti hE hW hkb4 rfl q_k5 0 (by decide) rfl (hE.n 37 rfl) dX11_move_29 (fun kx16 ekx16 vkx16 => ?_)
      obtain rfl : (0 : Int32) = kx16 := (q_fr.f (q_fr.fr (q_fr.sub (F2 := [(23, 0)]) (A2 := []) (q_fr.fr (q_fr.sub (F2 := [(23, 0)]) (A2 := []) hz (by decide) (by decide)) kf3 (by decide) (by decide)) (by decide) (by decide)) kf13 (by decide) (by decide)) (t := 23) (k := 0) (by decide) hkb4).symm.trans ekx16
      refine lv_if_eq (tgt := 43) hx hb dX11_move_32 (by decide) (fun kc17 => ?_) (fun kc17 => ?_)
      · refine lv_bipush (v := (-11)) hx hb dX11_move_43 (by decide) ?_
        exact q_reti hE hr hlocks hW (⟨((q_c (k := (-11)) (x := (-11)) (by decide)).w (by decide) (by decide)), (by have := kv10.1; have := kv10.2; have := kv15.1; have := kv15.2; unfold kz_move; (repeat' split) <;> first | rfl | omega)⟩) dX11_move_45
      · exact q_neq (q_c (k := 0) (x := 0) (by decide)) (q_c (k := 0) (x := 0) (by decide)) kc17
set_option maxHeartbeats 4000000 in
set_option maxRecDepth 100000 in
theorem c_X11_drop_tz (l : Launch) (G : q_G) (σ : q_S) (a0 : Nat) (h0 : q_T G a0 = 26) (i1 : Int32) (hz : q_fr G [(23, 0)] [] σ) : Met l yX11_drop (Cond.code yX11_drop cX11_drop 3 (some .int) :: wsL_law) (q_Rm 3) (q_Pre G σ [.ref a0, .int i1]) (q_Qi G [23] σ (fun r σ1 => q_V (-2147483648) 2147483647 r ∧ r = kz_row i1)) 0 0 (q_N G) := by
  refine q_ofW (ts := [23]) (by decide) (Nat.le_of_ble_eq_true rfl) ?_
  intro p e s m args below meth c hE hr hlocks hW ls hl
  have hE : q_E G p s m args c cX11_drop 3 RX11 := hE
  have hx := hE.1.1
  have hb := hE.1.2.1
  have hl : lv_has ls 3 [(0, .ref a0), (1, .int i1)] := hl
  refine lv_aload_n hx hb dX11_drop_0 rfl (lv_at hl 0 rfl) ?_
  refine lv_iload_n hx hb dX11_drop_1 rfl (lv_at hl 1 rfl) ?_
  refine q_goq hW (q_runV (As := [.int i1]) (rest := []) hE hW (c_X11_lineAt_tx l G σ a0 h0 i1) kw_X11_272 (q_recv hE hW h0 rfl q_k11) rfl hl.1 rfl (Nat.le_of_ble_eq_true rfl) dX11_drop_2 ⟨by decide, by decide⟩ ⟨by decide, by decide⟩) (by decide) (fun ks2 H locs kp1 kf3 hW => ?_) (fun kb4 ks2 H locs kp1 kf3 hW => ?_)
  · refine lv_astore_nN (lv' := [(2, .null), (0, .ref a0), (1, .int i1)]) hx hb dX11_drop_5 rfl hl (by decide) rfl (fun ls hl => ?_)
    refine lv_aload_nN hx hb dX11_drop_6 rfl (lv_at hl 0 rfl) ?_
    refine lv_ifnonnullN hx hb dX11_drop_7 ?_
    refine lv_bipush (v := (-2)) hx hb dX11_drop_10 (by decide) ?_
    exact q_reti hE hr hlocks hW (⟨((q_c (k := (-2)) (x := (-2)) (by decide)).w (by decide) (by decide)), (by have := (kp1.2.1 rfl); unfold kz_row; (repeat' split) <;> first | rfl | omega)⟩) dX11_drop_12
  · have hkb4 : q_T G kb4 = 23 := kp1.1 kb4 rfl
    have kv5 : q_V 0 2 i1 := kp1.2.2 (fun q_h => by cases q_h)
    refine lv_astore_n (lv' := [(2, .ref kb4), (0, .ref a0), (1, .int i1)]) hx hb dX11_drop_5 rfl hl (by decide) rfl (fun ls hl => ?_)
    refine lv_aload_n hx hb dX11_drop_6 rfl (lv_at hl 0 rfl) ?_
    refine lv_ifnonnull hx hb dX11_drop_7 (tgt := 13) (by decide) ?_
    refine lv_aload_n hx hb dX11_drop_13 rfl (lv_at hl 0 rfl) ?_
    refine q_geti hE hW hkb4 rfl q_k5 0 (by decide) rfl (hE.n 37 rfl) dX11_drop_14 (fun kx6 ekx6 vkx6 => ?_)
    obtain rfl : (0 : Int32) = kx6 := (q_fr.f (q_fr.fr (q_fr.sub (F2 := [(23, 0)]) (A2 := []) hz (by decide) (by decide)) kf3 (by decide) (by decide)) (t := 23) (k := 0) (by decide) hkb4).symm.trans ekx6
    refine lv_if_ne (tgt := 23) hx hb dX11_drop_17 (by decide) (fun kc7 => ?_) (fun kc7 => ?_)
    · exact q_neq (q_c (k := 0) (x := 0) (by decide)) (q_c (k := 0) (x := 0) (by decide)) kc7
    · refine lv_bipush (v := (-11)) hx hb dX11_drop_20 (by decide) ?_
      exact q_reti hE hr hlocks hW (⟨((q_c (k := (-11)) (x := (-11)) (by decide)).w (by decide) (by decide)), (by have := kv5.1; have := kv5.2; unfold kz_row; (repeat' split) <;> first | rfl | omega)⟩) dX11_drop_22
set_option maxHeartbeats 4000000 in
set_option maxRecDepth 100000 in
theorem c_X11_sum_tz (l : Launch) (G : q_G) (σ : q_S) (a0 : Nat) (h0 : q_T G a0 = 26) (i1 : Int32) (hz : q_fr G [(23, 0)] [] σ) : Met l yX11_sum (Cond.code yX11_sum cX11_sum 6 (some .int) :: wsL_law) (q_Rm 3) (q_Pre G σ [.ref a0, .int i1]) (q_Qi G [] σ (fun r σ1 => q_V (-2147483648) 2147483647 r ∧ r = kz_row i1)) 0 0 (q_N G) := by
  refine q_ofW (ts := []) (by decide) (Nat.le_of_ble_eq_true rfl) ?_
  intro p e s m args below meth c hE hr hlocks hW ls hl
  have hE : q_E G p s m args c cX11_sum 6 RX11 := hE
  have hx := hE.1.1
  have hb := hE.1.2.1
  have hl : lv_has ls 6 [(0, .ref a0), (1, .int i1)] := hl
  refine lv_aload_n hx hb dX11_sum_0 rfl (lv_at hl 0 rfl) ?_
  refine lv_iload_n hx hb dX11_sum_1 rfl (lv_at hl 1 rfl) ?_
  refine q_goq hW (q_runV (As := [.int i1]) (rest := []) hE hW (c_X11_lineAt_tx l G σ a0 h0 i1) kw_X11_272 (q_recv hE hW h0 rfl q_k11) rfl hl.1 rfl (Nat.le_of_ble_eq_true rfl) dX11_sum_2 ⟨by decide, by decide⟩ ⟨by decide, by decide⟩) (by decide) (fun ks2 H locs kp1 kf3 hW => ?_) (fun kb4 ks2 H locs kp1 kf3 hW => ?_)
  · refine lv_astore_nN (lv' := [(2, .null), (0, .ref a0), (1, .int i1)]) hx hb dX11_sum_5 rfl hl (by decide) rfl (fun ls hl => ?_)
    refine lv_aload_nN hx hb dX11_sum_6 rfl (lv_at hl 0 rfl) ?_
    refine lv_ifnonnullN hx hb dX11_sum_7 ?_
    refine lv_bipush (v := (-2)) hx hb dX11_sum_10 (by decide) ?_
    exact q_reti hE hr hlocks hW (⟨((q_c (k := (-2)) (x := (-2)) (by decide)).w (by decide) (by decide)), (by have := (kp1.2.1 rfl); unfold kz_row; (repeat' split) <;> first | rfl | omega)⟩) dX11_sum_12
  · have hkb4 : q_T G kb4 = 23 := kp1.1 kb4 rfl
    have kv5 : q_V 0 2 i1 := kp1.2.2 (fun q_h => by cases q_h)
    refine lv_astore_n (lv' := [(2, .ref kb4), (0, .ref a0), (1, .int i1)]) hx hb dX11_sum_5 rfl hl (by decide) rfl (fun ls hl => ?_)
    refine lv_aload_n hx hb dX11_sum_6 rfl (lv_at hl 0 rfl) ?_
    refine lv_ifnonnull hx hb dX11_sum_7 (tgt := 13) (by decide) ?_
    refine lv_aload_n hx hb dX11_sum_13 rfl (lv_at hl 0 rfl) ?_
    refine q_geti hE hW hkb4 rfl q_k5 0 (by decide) rfl (hE.n 37 rfl) dX11_sum_14 (fun kx6 ekx6 vkx6 => ?_)
    obtain rfl : (0 : Int32) = kx6 := (q_fr.f (q_fr.fr (q_fr.sub (F2 := [(23, 0)]) (A2 := []) hz (by decide) (by decide)) kf3 (by decide) (by decide)) (t := 23) (k := 0) (by decide) hkb4).symm.trans ekx6
    refine lv_if_ne (tgt := 23) hx hb dX11_sum_17 (by decide) (fun kc7 => ?_) (fun kc7 => ?_)
    · exact q_neq (q_c (k := 0) (x := 0) (by decide)) (q_c (k := 0) (x := 0) (by decide)) kc7
    · refine lv_bipush (v := (-11)) hx hb dX11_sum_20 (by decide) ?_
      exact q_reti hE hr hlocks hW (⟨((q_c (k := (-11)) (x := (-11)) (by decide)).w (by decide) (by decide)), (by have := kv5.1; have := kv5.2; unfold kz_row; (repeat' split) <;> first | rfl | omega)⟩) dX11_sum_22
set_option maxHeartbeats 4000000 in
set_option maxRecDepth 100000 in
theorem c_X7_step_tz (l : Launch) (G : q_G) (σ : q_S) (a0 : Nat) (h0 : q_T G a0 = 15) (h4 : q_I σ a0 4 = 0) (hz : q_fr G [(13, 1)] [] σ) : Met l yX7_step (Cond.code yX7_step cX7_step 2 none :: wsL_law) (q_Rm 2) (q_Pre G σ [.ref a0]) (q_Qv G [15] σ (fun σ1 => q_I σ1 a0 3 = 0 ∧ q_I σ1 a0 4 = 0)) 0 0 (q_N G) := by
  refine q_ofW (ts := [15]) (by decide) (Nat.le_of_ble_eq_true rfl) ?_
  intro p e s m args below meth c hE hr hlocks hW ls hl
  have hE : q_E G p s m args c cX7_step 2 RX7 := hE
  have hx := hE.1.1
  have hb := hE.1.2.1
  have hl : lv_has ls 2 [(0, .ref a0)] := hl
  refine lv_aload_n hx hb dX7_step_0 rfl (lv_at hl 0 rfl) ?_
  refine lv_aload_n hx hb dX7_step_1 rfl (lv_at hl 0 rfl) ?_
  refine q_geti hE hW h0 rfl q_k7 4 (by decide) rfl (hE.l wl_191) dX7_step_2 (fun kx1 ekx1 vkx1 => ?_)
  obtain rfl : 0 = kx1 := h4.symm.trans ekx1
  refine q_puti hE hW h0 rfl q_k7 tyX7 tyX7_ok 3 (by decide) rfl (hE.l wl_193) rfl rfl rfl ((q_c (k := 0) (x := 0) (by decide)).w (by decide) (by decide)) (by decide) dX7_step_5 (fun H locs ks2 kp3 hW => ?_)
  have kz4 := (hz.wI kp3 h0 (Or.inl (by decide)))
  refine lv_aload_n hx hb dX7_step_8 rfl (lv_at hl 0 rfl) ?_
  refine q_geti hE hW h0 rfl q_k7 3 (by decide) rfl (hE.l wl_193) dX7_step_9 (fun kx5 ekx5 vkx5 => ?_)
  obtain rfl : 0 = kx5 := kp3.1.symm.trans ekx5
  refine lv_aload_n hx hb dX7_step_12 rfl (lv_at hl 0 rfl) ?_
  refine q_getr hE hW h0 rfl q_k7 0 (by decide) rfl (hE.l wl_105) dX7_step_13 (fun kb6 ekb6 hkb6a hkb6b => ?_)
  have hkb6 : q_T G kb6 = 13 := q_tag hkb6a hkb6b
  refine q_geti hE hW hkb6 rfl q_k8 1 (by decide) rfl (hE.n 1 rfl) dX7_step_16 (fun kx7 ekx7 vkx7 => ?_)
  obtain rfl : (0 : Int32) = kx7 := (q_fr.f kz4 (t := 13) (k := 1) (by decide) hkb6).symm.trans ekx7
  refine lv_icmp_ge (tgt := 51) hx hb dX7_step_19 (by decide) (fun kc8 => ?_) (fun kc8 => ?_)
  · refine lv_aload_n hx hb dX7_step_51 rfl (lv_at hl 0 rfl) ?_
    refine lv_aload_n hx hb dX7_step_52 rfl (lv_at hl 0 rfl) ?_
    refine q_geti hE hW h0 rfl q_k7 3 (by decide) rfl (hE.l wl_193) dX7_step_53 (fun kx9 ekx9 vkx9 => ?_)
    obtain rfl : 0 = kx9 := kp3.1.symm.trans ekx9
    refine q_puti hE hW h0 rfl q_k7 tyX7 tyX7_ok 4 (by decide) rfl (hE.l wl_191) rfl rfl rfl ((q_c (k := 0) (x := 0) (by decide)).w (by decide) (by decide)) (by decide) dX7_step_56 (fun H locs ks10 kp11 hW => ?_)
    have kz12 := (kz4.wI kp11 h0 (Or.inl (by decide)))
    refine lv_aload_n hx hb dX7_step_59 rfl (lv_at hl 0 rfl) ?_
    refine q_geti hE hW h0 rfl q_k7 3 (by decide) rfl (hE.l wl_193) dX7_step_60 (fun kx13 ekx13 vkx13 => ?_)
    obtain rfl : 0 = kx13 := ((kp11.2.1 _ _ (Or.inr (by decide))).trans kp3.1).symm.trans ekx13
    refine lv_aload_n hx hb dX7_step_63 rfl (lv_at hl 0 rfl) ?_
    refine q_getr hE hW h0 rfl q_k7 0 (by decide) rfl (hE.l wl_105) dX7_step_64 (fun kb14 ekb14 hkb14a hkb14b => ?_)
    obtain rfl : kb6 = kb14 := ((kp11.2.2.1 _ _).trans ekb6).symm.trans ekb14
    refine q_geti hE hW hkb6 rfl q_k8 1 (by decide) rfl (hE.n 1 rfl) dX7_step_67 (fun kx15 ekx15 vkx15 => ?_)
    obtain rfl : 0 = kx15 := ((kp11.2.1 _ _ (Or.inl (q_neT hkb6 h0 (by decide)))).trans ekx7).symm.trans ekx15
    refine lv_icmp_lt (tgt := 74) hx hb dX7_step_70 (by decide) (fun kc16 => ?_) (fun kc16 => ?_)
    · have kv17 : q_V 0 (-1) 0 := (q_lt1 (q_c (k := 0) (x := 0) (by decide)) (q_c (k := 0) (x := 0) (by decide)) kc16).w (by decide) (by decide)
      exact (kv17.no (by decide))
    · exact q_retv hE hr hlocks hW (⟨((kp11.2.1 _ _ (Or.inr (by decide))).trans kp3.1), kp11.1⟩) dX7_step_73
  · have kv18 : q_V 0 (-1) 0 := (q_lt1 (q_c (k := 0) (x := 0) (by decide)) (q_c (k := 0) (x := 0) (by decide)) (Int32.not_le.mp kc8)).w (by decide) (by decide)
    exact (kv18.no (by decide))
set_option maxHeartbeats 4000000 in
set_option maxRecDepth 100000 in
theorem c_X7_isWord_tz (l : Launch) (G : q_G) (σ : q_S) (a0 : Nat) (h0 : q_T G a0 = 15) (k1 : Nat) (hk1 : k1 < 9) (h3 : q_I σ a0 3 = 0) (h4 : q_I σ a0 4 = 0) (hz : q_fr G [] [] σ) : Met l yX7_isWord (Cond.code yX7_isWord cX7_isWord 3 (some .boolean) :: wsL_law) (q_Rm 5) (q_Pre G σ [.ref a0, .ref (q_aK G k1)]) (q_Qi G [] σ (fun r σ1 => q_V 0 0 r)) 0 0 (q_N G) := by
  refine q_ofW (ts := []) (by decide) (Nat.le_of_ble_eq_true rfl) ?_
  intro p e s m args below meth c hE hr hlocks hW ls hl
  have hE : q_E G p s m args c cX7_isWord 3 RX7 := hE
  have hx := hE.1.1
  have hb := hE.1.2.1
  have hl : lv_has ls 3 [(0, .ref a0), (1, .ref (q_aK G k1))] := hl
  refine lv_aload_n hx hb dX7_isWord_0 rfl (lv_at hl 0 rfl) ?_
  refine q_geti hE hW h0 rfl q_k7 4 (by decide) rfl (hE.l wl_191) dX7_isWord_1 (fun kx1 ekx1 vkx1 => ?_)
  obtain rfl : 0 = kx1 := h4.symm.trans ekx1
  refine lv_aload_n hx hb dX7_isWord_4 rfl (lv_at hl 0 rfl) ?_
  refine q_geti hE hW h0 rfl q_k7 3 (by decide) rfl (hE.l wl_193) dX7_isWord_5 (fun kx2 ekx2 vkx2 => ?_)
  obtain rfl : 0 = kx2 := h3.symm.trans ekx2
  refine lv_isub hx hb dX7_isWord_8 ?_
  refine lv_eqi (y := 0) (by decide) ?_
  refine lv_aload_n hx hb dX7_isWord_9 rfl (lv_at hl 1 rfl) ?_
  refine q_goi hW (q_runV (As := []) (rest := [.int 0]) hE hW (c_J0_length l G σ k1 hk1) kw_X7_59 (q_recvS hE hW hk1) rfl hl.1 rfl (Nat.le_of_ble_eq_true rfl) dX7_isWord_10 ⟨by decide, by decide⟩ ⟨by decide, by decide⟩) (by decide) (fun kx6 ks5 H locs kp3 kf4 hW => ?_)
  have vkx6 : q_V 3 7 kx6 := by rw [kp3]; exact q_lenV hk1
  refine lv_icmp_eq (tgt := 18) hx hb dX7_isWord_13 (by decide) (fun kc7 => ?_) (fun kc7 => ?_)
  · have kv8 : q_V 3 0 0 := q_eq1 (q_c (k := 0) (x := 0) (by decide)) vkx6 kc7 (by decide) (by decide)
    exact (kv8.no (by decide))
  · refine lv_iconst (v := 0) hx hb dX7_isWord_16 (by decide) ?_
    exact q_retz hE hr hlocks hW (Or.inl rfl) ((q_c (k := 0) (x := 0) (by decide))) dX7_isWord_17
set_option maxHeartbeats 4000000 in
set_option maxRecDepth 100000 in
theorem c_X6_sortByDue_tz (l : Launch) (G : q_G) (σ : q_S) (a0 : Nat) (h0 : q_T G a0 = 16) (hz : q_fr G [(7, 1)] [] σ) : Met l yX6_sortByDue (Cond.code yX6_sortByDue cX6_sortByDue 3 none :: wsL_law) (q_Rm 3) (q_Pre G σ [.ref a0]) (q_Qv G [17] σ (fun σ1 => True)) 0 0 (q_N G) := by
  refine q_ofW (ts := [17]) (by decide) (Nat.le_of_ble_eq_true rfl) ?_
  intro p e s m args below meth c hE hr hlocks hW ls hl
  have hE : q_E G p s m args c cX6_sortByDue 3 RX6 := hE
  have hx := hE.1.1
  have hb := hE.1.2.1
  have hl : lv_has ls 3 [(0, .ref a0)] := hl
  refine lv_iconst (v := 0) hx hb dX6_sortByDue_0 (by decide) ?_
  refine lv_istore_n (lv' := [(1, .int 0), (0, .ref a0)]) hx hb dX6_sortByDue_1 rfl hl (by decide) rfl (fun ls hl => ?_)
  refine lv_iload_n hx hb dX6_sortByDue_2 rfl (lv_at hl 0 rfl) ?_
  refine lv_aload_n hx hb dX6_sortByDue_3 rfl (lv_at hl 1 rfl) ?_
  refine q_getr hE hW h0 rfl q_k6 0 (by decide) rfl (hE.l wl_112) dX6_sortByDue_4 (fun kb1 ekb1 hkb1a hkb1b => ?_)
  have hkb1 : q_T G kb1 = 7 := q_tag hkb1a hkb1b
  refine q_geti hE hW hkb1 rfl q_k2 1 (by decide) rfl (hE.n 19 rfl) dX6_sortByDue_7 (fun kx2 ekx2 vkx2 => ?_)
  obtain rfl : (0 : Int32) = kx2 := (q_fr.f hz (t := 7) (k := 1) (by decide) hkb1).symm.trans ekx2
  refine lv_icmp_ge (tgt := 78) hx hb dX6_sortByDue_10 (by decide) (fun kc3 => ?_) (fun kc3 => ?_)
  · exact q_retv hE hr hlocks hW (trivial) dX6_sortByDue_78
  · have kv4 : q_V 0 (-1) 0 := (q_lt1 (q_c (k := 0) (x := 0) (by decide)) (q_c (k := 0) (x := 0) (by decide)) (Int32.not_le.mp kc3)).w (by decide) (by decide)
    exact (kv4.no (by decide))
set_option maxHeartbeats 4000000 in
set_option maxRecDepth 100000 in
theorem c_X6_share_t0_tz (l : Launch) (G : q_G) (σ : q_S) (a0 : Nat) (h0 : q_T G a0 = 16) (i1 : Int32) (w1 : q_V 0 0 i1) (i2 : Int32) (w2 : q_V 0 0 i2) (h6 : q_I σ a0 6 = -1) (hz : q_fr G [(7, 1), (7, 4)] [] σ) : Met l yX6_share (Cond.code yX6_share cX6_share 5 none :: wsL_law) (q_Rm 4) (q_Pre G σ [.ref a0, .int i1, .int i2]) (q_Qv G [16, 18, 19, 20] σ (fun σ1 => q_I σ1 a0 6 = 0)) 0 0 (q_N G) := by
  refine q_ofW (ts := [16, 18, 19, 20]) (by decide) (Nat.le_of_ble_eq_true rfl) ?_
  intro p e s m args below meth c hE hr hlocks hW ls hl
  have hE : q_E G p s m args c cX6_share 5 RX6 := hE
  have hx := hE.1.1
  have hb := hE.1.2.1
  have hl : lv_has ls 5 [(0, .ref a0), (1, .int i1), (2, .int i2)] := hl
  refine lv_iload_n hx hb dX6_share_0 rfl (lv_at hl 1 rfl) ?_
  refine lv_if_lt (tgt := 21) hx hb dX6_share_1 (by decide) (fun kc1 => ?_) (fun kc1 => ?_)
  · have kv2 : q_V 0 (-1) i1 := (q_lt1 w1 (q_c (k := 0) (x := 0) (by decide)) kc1).w (by decide) (by decide)
    exact (kv2.no (by decide))
  · refine lv_iload_n hx hb dX6_share_4 rfl (lv_at hl 1 rfl) ?_
    refine lv_aload_n hx hb dX6_share_5 rfl (lv_at hl 0 rfl) ?_
    refine q_getr hE hW h0 rfl q_k6 0 (by decide) rfl (hE.l wl_112) dX6_share_6 (fun kb3 ekb3 hkb3a hkb3b => ?_)
    have hkb3 : q_T G kb3 = 7 := q_tag hkb3a hkb3b
    refine q_geti hE hW hkb3 rfl q_k2 1 (by decide) rfl (hE.n 19 rfl) dX6_share_9 (fun kx4 ekx4 vkx4 => ?_)
    obtain rfl : (0 : Int32) = kx4 := (q_fr.f hz (t := 7) (k := 1) (by decide) hkb3).symm.trans ekx4
    refine lv_icmp_ge (tgt := 21) hx hb dX6_share_12 (by decide) (fun kc5 => ?_) (fun kc5 => ?_)
    · refine lv_iload_n hx hb dX6_share_21 rfl (lv_at hl 2 rfl) ?_
      refine lv_aload_n hx hb dX6_share_22 rfl (lv_at hl 0 rfl) ?_
      refine q_geti hE hW h0 rfl q_k6 6 (by decide) rfl (hE.l wl_834) dX6_share_23 (fun kx6 ekx6 vkx6 => ?_)
      obtain rfl : (-1) = kx6 := h6.symm.trans ekx6
      refine lv_icmp_le (tgt := 49) hx hb dX6_share_26 (by decide) (fun kc7 => ?_) (fun kc7 => ?_)
      · have kv8 : q_V 0 (-1) i2 := (q_le1 w2 (q_c (k := (-1)) (x := (-1)) (by decide)) kc7).w (by decide) (by decide)
        exact (kv8.no (by decide))
      · refine lv_aload_n hx hb dX6_share_29 rfl (lv_at hl 0 rfl) ?_
        refine lv_iload_n hx hb dX6_share_30 rfl (lv_at hl 2 rfl) ?_
        refine q_puti hE hW h0 rfl q_k6 tyX6 tyX6_ok 6 (by decide) rfl (hE.l wl_834) rfl rfl rfl (w2.w (by decide) (by decide)) (by decide) dX6_share_31 (fun H locs ks9 kp10 hW => ?_)
        have kz11 := (hz.wI kp10 h0 (Or.inl (by decide)))
        refine lv_aload_n hx hb dX6_share_34 rfl (lv_at hl 0 rfl) ?_
        refine q_getr hE hW h0 rfl q_k6 3 (by decide) rfl (hE.l wl_115) dX6_share_35 (fun kb12 ekb12 hkb12a hkb12b => ?_)
        have hkb12 : q_T G kb12 = 19 := q_tag hkb12a hkb12b
        refine lv_iconst (v := 0) hx hb dX6_share_38 (by decide) ?_
        refine lv_aload_n hx hb dX6_share_39 rfl (lv_at hl 0 rfl) ?_
        refine q_getr hE hW h0 rfl q_k6 4 (by decide) rfl (hE.l wl_116) dX6_share_40 (fun kb13 ekb13 hkb13a hkb13b => ?_)
        have hkb13 : q_T G kb13 = 20 := q_tag hkb13a hkb13b
        refine lv_iconst (v := 0) hx hb dX6_share_43 (by decide) ?_
        refine lv_bipush (v := 6) hx hb dX6_share_44 (by decide) ?_
        refine q_acopy hE hW hkb12 hkb13 rfl rfl (Or.inl rfl) (by decide) (by decide) (by decide) (by decide) (by decide) (fun _ _ _ _ => trivial) (by decide) wl_850 wl_201 wl_202 wl_203 hl.1 (by decide) (Nat.le_of_ble_eq_true rfl) dX6_share_46 (fun H locs ks14 kp15 hW => ?_)
        have kz16 := (q_fr.wC (q_fr.sub (F2 := [(7, 1), (7, 4)]) (A2 := []) kz11 (by decide) (by decide)) kp15 hkb13 (Or.inl (by decide)))
        exact q_retv hE hr hlocks hW ((((kp15.2.2.2.1 _ _).trans kp10.1).trans (q_lit w2 (by decide)))) dX6_share_49
    · have kv17 : q_V 0 (-1) i1 := (q_lt1 w1 (q_c (k := 0) (x := 0) (by decide)) (Int32.not_le.mp kc5)).w (by decide) (by decide)
      exact (kv17.no (by decide))
set_option maxHeartbeats 4000000 in
set_option maxRecDepth 100000 in
theorem c_X11_cloud_tz (l : Launch) (G : q_G) (σ : q_S) (a0 : Nat) (h0 : q_T G a0 = 26) (i1 : Int32) (i2 : Int32) (hz : q_fr G [(7, 1)] [] σ) : Met l yX11_cloud (Cond.code yX11_cloud cX11_cloud 4 (some .int) :: wsL_law) (q_Rm 4) (q_Pre G σ [.ref a0, .int i1, .int i2]) (q_Qi G [] σ (fun r σ1 => q_V (-2) (-2) r)) 0 0 (q_N G) := by
  refine q_ofW (ts := []) (by decide) (Nat.le_of_ble_eq_true rfl) ?_
  intro p e s m args below meth c hE hr hlocks hW ls hl
  have hE : q_E G p s m args c cX11_cloud 4 RX11 := hE
  have hx := hE.1.1
  have hb := hE.1.2.1
  have hl : lv_has ls 4 [(0, .ref a0), (1, .int i1), (2, .int i2)] := hl
  refine lv_aload_n hx hb dX11_cloud_0 rfl (lv_at hl 0 rfl) ?_
  refine q_getr hE hW h0 rfl q_k11 5 (by decide) rfl (hE.l wl_35) dX11_cloud_1 (fun kb1 ekb1 hkb1a hkb1b => ?_)
  have hkb1 : q_T G kb1 = 7 := q_tag hkb1a hkb1b
  refine lv_iload_n hx hb dX11_cloud_4 rfl (lv_at hl 1 rfl) ?_
  refine q_goq hW (q_runV (As := [.int i1]) (rest := []) hE hW (c_X2_cloudAt_tz l G σ kb1 hkb1 i1 (q_fr.sub hz (by decide) (by decide))) kw_X11_137 (q_recv hE hW hkb1 rfl q_k2) rfl hl.1 rfl (Nat.le_of_ble_eq_true rfl) dX11_cloud_5 ⟨by decide, by decide⟩ ⟨by decide, by decide⟩) (by decide) (fun ks3 H locs kp2 kf4 hW => ?_) (fun kb5 ks3 H locs kp2 kf4 hW => ?_)
  · refine lv_astore_nN (lv' := [(3, .null), (0, .ref a0), (1, .int i1), (2, .int i2)]) hx hb dX11_cloud_8 rfl hl (by decide) rfl (fun ls hl => ?_)
    refine lv_aload_nN hx hb dX11_cloud_9 rfl (lv_at hl 0 rfl) ?_
    refine lv_ifnonnullN hx hb dX11_cloud_10 ?_
    refine lv_bipush (v := (-2)) hx hb dX11_cloud_13 (by decide) ?_
    exact q_reti hE hr hlocks hW ((q_c (k := (-2)) (x := (-2)) (by decide))) dX11_cloud_15
  · exact absurd kp2.2 (fun q_h => by cases q_h)
set_option maxHeartbeats 4000000 in
set_option maxRecDepth 100000 in
theorem c_X11_deep_tz (l : Launch) (G : q_G) (σ : q_S) (a0 : Nat) (h0 : q_T G a0 = 26) (i1 : Int32) (i2 : Int32) (hz : q_fr G [(7, 1)] [] σ) : Met l yX11_deep (Cond.code yX11_deep cX11_deep 4 (some .int) :: wsL_law) (q_Rm 2) (q_Pre G σ [.ref a0, .int i1, .int i2]) (q_Qi G [] σ (fun r σ1 => q_V (-2) (-2) r)) 0 0 (q_N G) := by
  refine q_ofW (ts := []) (by decide) (Nat.le_of_ble_eq_true rfl) ?_
  intro p e s m args below meth c hE hr hlocks hW ls hl
  have hE : q_E G p s m args c cX11_deep 4 RX11 := hE
  have hx := hE.1.1
  have hb := hE.1.2.1
  have hl : lv_has ls 4 [(0, .ref a0), (1, .int i1), (2, .int i2)] := hl
  refine lv_aload_n hx hb dX11_deep_0 rfl (lv_at hl 0 rfl) ?_
  refine q_getr hE hW h0 rfl q_k11 5 (by decide) rfl (hE.l wl_35) dX11_deep_1 (fun kb1 ekb1 hkb1a hkb1b => ?_)
  have hkb1 : q_T G kb1 = 7 := q_tag hkb1a hkb1b
  refine lv_iload_n hx hb dX11_deep_4 rfl (lv_at hl 1 rfl) ?_
  refine q_goq hW (q_runV (As := [.int i1]) (rest := []) hE hW (c_X2_cloudAt_tz l G σ kb1 hkb1 i1 (q_fr.sub hz (by decide) (by decide))) kw_X11_137 (q_recv hE hW hkb1 rfl q_k2) rfl hl.1 rfl (Nat.le_of_ble_eq_true rfl) dX11_deep_5 ⟨by decide, by decide⟩ ⟨by decide, by decide⟩) (by decide) (fun ks3 H locs kp2 kf4 hW => ?_) (fun kb5 ks3 H locs kp2 kf4 hW => ?_)
  · refine lv_astore_nN (lv' := [(3, .null), (0, .ref a0), (1, .int i1), (2, .int i2)]) hx hb dX11_deep_8 rfl hl (by decide) rfl (fun ls hl => ?_)
    refine lv_aload_nN hx hb dX11_deep_9 rfl (lv_at hl 0 rfl) ?_
    refine lv_ifnullN hx hb dX11_deep_10 (tgt := 23) (by decide) ?_
    refine lv_bipush (v := (-2)) hx hb dX11_deep_23 (by decide) ?_
    exact q_reti hE hr hlocks hW ((q_c (k := (-2)) (x := (-2)) (by decide))) dX11_deep_25
  · exact absurd kp2.2 (fun q_h => by cases q_h)
set_option maxHeartbeats 4000000 in
set_option maxRecDepth 100000 in
theorem c_X11_as_tz (l : Launch) (G : q_G) (σ : q_S) (a0 : Nat) (h0 : q_T G a0 = 26) (i1 : Int32) (i2 : Int32) (hz : q_fr G [(7, 1)] [] σ) : Met l yX11_as (Cond.code yX11_as cX11_as 4 (some .int) :: wsL_law) (q_Rm 4) (q_Pre G σ [.ref a0, .int i1, .int i2]) (q_Qi G [] σ (fun r σ1 => q_V (-2) (-2) r)) 0 0 (q_N G) := by
  refine q_ofW (ts := []) (by decide) (Nat.le_of_ble_eq_true rfl) ?_
  intro p e s m args below meth c hE hr hlocks hW ls hl
  have hE : q_E G p s m args c cX11_as 4 RX11 := hE
  have hx := hE.1.1
  have hb := hE.1.2.1
  have hl : lv_has ls 4 [(0, .ref a0), (1, .int i1), (2, .int i2)] := hl
  refine lv_aload_n hx hb dX11_as_0 rfl (lv_at hl 0 rfl) ?_
  refine q_getr hE hW h0 rfl q_k11 5 (by decide) rfl (hE.l wl_35) dX11_as_1 (fun kb1 ekb1 hkb1a hkb1b => ?_)
  have hkb1 : q_T G kb1 = 7 := q_tag hkb1a hkb1b
  refine lv_iload_n hx hb dX11_as_4 rfl (lv_at hl 1 rfl) ?_
  refine q_goq hW (q_runV (As := [.int i1]) (rest := []) hE hW (c_X2_cloudAt_tz l G σ kb1 hkb1 i1 (q_fr.sub hz (by decide) (by decide))) kw_X11_137 (q_recv hE hW hkb1 rfl q_k2) rfl hl.1 rfl (Nat.le_of_ble_eq_true rfl) dX11_as_5 ⟨by decide, by decide⟩ ⟨by decide, by decide⟩) (by decide) (fun ks3 H locs kp2 kf4 hW => ?_) (fun kb5 ks3 H locs kp2 kf4 hW => ?_)
  · refine lv_astore_nN (lv' := [(3, .null), (0, .ref a0), (1, .int i1), (2, .int i2)]) hx hb dX11_as_8 rfl hl (by decide) rfl (fun ls hl => ?_)
    refine lv_aload_nN hx hb dX11_as_9 rfl (lv_at hl 0 rfl) ?_
    refine lv_ifnonnullN hx hb dX11_as_10 ?_
    refine lv_bipush (v := (-2)) hx hb dX11_as_13 (by decide) ?_
    exact q_reti hE hr hlocks hW ((q_c (k := (-2)) (x := (-2)) (by decide))) dX11_as_15
  · exact absurd kp2.2 (fun q_h => by cases q_h)
set_option maxHeartbeats 4000000 in
set_option maxRecDepth 100000 in
theorem c_X11_takes_tz (l : Launch) (G : q_G) (σ : q_S) (a0 : Nat) (h0 : q_T G a0 = 26) (i1 : Int32) (i2 : Int32) (hz : q_fr G [(7, 1)] [] σ) : Met l yX11_takes (Cond.code yX11_takes cX11_takes 4 (some .int) :: wsL_law) (q_Rm 5) (q_Pre G σ [.ref a0, .int i1, .int i2]) (q_Qi G [] σ (fun r σ1 => q_V (-2) (-2) r)) 0 0 (q_N G) := by
  refine q_ofW (ts := []) (by decide) (Nat.le_of_ble_eq_true rfl) ?_
  intro p e s m args below meth c hE hr hlocks hW ls hl
  have hE : q_E G p s m args c cX11_takes 4 RX11 := hE
  have hx := hE.1.1
  have hb := hE.1.2.1
  have hl : lv_has ls 4 [(0, .ref a0), (1, .int i1), (2, .int i2)] := hl
  refine lv_aload_n hx hb dX11_takes_0 rfl (lv_at hl 0 rfl) ?_
  refine q_getr hE hW h0 rfl q_k11 5 (by decide) rfl (hE.l wl_35) dX11_takes_1 (fun kb1 ekb1 hkb1a hkb1b => ?_)
  have hkb1 : q_T G kb1 = 7 := q_tag hkb1a hkb1b
  refine lv_iload_n hx hb dX11_takes_4 rfl (lv_at hl 1 rfl) ?_
  refine q_goq hW (q_runV (As := [.int i1]) (rest := []) hE hW (c_X2_cloudAt_tz l G σ kb1 hkb1 i1 (q_fr.sub hz (by decide) (by decide))) kw_X11_137 (q_recv hE hW hkb1 rfl q_k2) rfl hl.1 rfl (Nat.le_of_ble_eq_true rfl) dX11_takes_5 ⟨by decide, by decide⟩ ⟨by decide, by decide⟩) (by decide) (fun ks3 H locs kp2 kf4 hW => ?_) (fun kb5 ks3 H locs kp2 kf4 hW => ?_)
  · refine lv_astore_nN (lv' := [(3, .null), (0, .ref a0), (1, .int i1), (2, .int i2)]) hx hb dX11_takes_8 rfl hl (by decide) rfl (fun ls hl => ?_)
    refine lv_aload_nN hx hb dX11_takes_9 rfl (lv_at hl 0 rfl) ?_
    refine lv_ifnonnullN hx hb dX11_takes_10 ?_
    refine lv_bipush (v := (-2)) hx hb dX11_takes_13 (by decide) ?_
    exact q_reti hE hr hlocks hW ((q_c (k := (-2)) (x := (-2)) (by decide))) dX11_takes_15
  · exact absurd kp2.2 (fun q_h => by cases q_h)
set_option maxHeartbeats 4000000 in
set_option maxRecDepth 100000 in
theorem c_X11_kinds_tz (l : Launch) (G : q_G) (σ : q_S) (a0 : Nat) (h0 : q_T G a0 = 26) (i1 : Int32) (hz : q_fr G [(7, 1)] [] σ) : Met l yX11_kinds (Cond.code yX11_kinds cX11_kinds 5 (some .int) :: wsL_law) (q_Rm 6) (q_Pre G σ [.ref a0, .int i1]) (q_Qi G [] σ (fun r σ1 => q_V (-2) (-2) r)) 0 0 (q_N G) := by
  refine q_ofW (ts := []) (by decide) (Nat.le_of_ble_eq_true rfl) ?_
  intro p e s m args below meth c hE hr hlocks hW ls hl
  have hE : q_E G p s m args c cX11_kinds 5 RX11 := hE
  have hx := hE.1.1
  have hb := hE.1.2.1
  have hl : lv_has ls 5 [(0, .ref a0), (1, .int i1)] := hl
  refine lv_aload_n hx hb dX11_kinds_0 rfl (lv_at hl 0 rfl) ?_
  refine q_getr hE hW h0 rfl q_k11 5 (by decide) rfl (hE.l wl_35) dX11_kinds_1 (fun kb1 ekb1 hkb1a hkb1b => ?_)
  have hkb1 : q_T G kb1 = 7 := q_tag hkb1a hkb1b
  refine lv_iload_n hx hb dX11_kinds_4 rfl (lv_at hl 1 rfl) ?_
  refine q_goq hW (q_runV (As := [.int i1]) (rest := []) hE hW (c_X2_cloudAt_tz l G σ kb1 hkb1 i1 (q_fr.sub hz (by decide) (by decide))) kw_X11_137 (q_recv hE hW hkb1 rfl q_k2) rfl hl.1 rfl (Nat.le_of_ble_eq_true rfl) dX11_kinds_5 ⟨by decide, by decide⟩ ⟨by decide, by decide⟩) (by decide) (fun ks3 H locs kp2 kf4 hW => ?_) (fun kb5 ks3 H locs kp2 kf4 hW => ?_)
  · refine lv_astore_nN (lv' := [(2, .null), (0, .ref a0), (1, .int i1)]) hx hb dX11_kinds_8 rfl hl (by decide) rfl (fun ls hl => ?_)
    refine lv_aload_nN hx hb dX11_kinds_9 rfl (lv_at hl 0 rfl) ?_
    refine lv_ifnonnullN hx hb dX11_kinds_10 ?_
    refine lv_bipush (v := (-2)) hx hb dX11_kinds_13 (by decide) ?_
    exact q_reti hE hr hlocks hW ((q_c (k := (-2)) (x := (-2)) (by decide))) dX11_kinds_15
  · exact absurd kp2.2 (fun q_h => by cases q_h)
set_option maxHeartbeats 4000000 in
set_option maxRecDepth 100000 in
theorem c_X11_seen_tz (l : Launch) (G : q_G) (σ : q_S) (a0 : Nat) (h0 : q_T G a0 = 26) (i1 : Int32) (i2 : Int32) (i3 : Int32) (hz : q_fr G [(7, 1)] [] σ) : Met l yX11_seen (Cond.code yX11_seen cX11_seen 4 (some .int) :: wsL_law) (q_Rm 2) (q_Pre G σ [.ref a0, .int i1, .int i2, .int i3]) (q_Qi G [26, 33, 34, 35] σ (fun r σ1 => q_V (-2) (-2) r)) 0 0 (q_N G) := by
  refine q_ofW (ts := [26, 33, 34, 35]) (by decide) (Nat.le_of_ble_eq_true rfl) ?_
  intro p e s m args below meth c hE hr hlocks hW ls hl
  have hE : q_E G p s m args c cX11_seen 4 RX11 := hE
  have hx := hE.1.1
  have hb := hE.1.2.1
  have hl : lv_has ls 4 [(0, .ref a0), (1, .int i1), (2, .int i2), (3, .int i3)] := hl
  refine lv_aload_n hx hb dX11_seen_0 rfl (lv_at hl 0 rfl) ?_
  refine q_getr hE hW h0 rfl q_k11 5 (by decide) rfl (hE.l wl_35) dX11_seen_1 (fun kb1 ekb1 hkb1a hkb1b => ?_)
  have hkb1 : q_T G kb1 = 7 := q_tag hkb1a hkb1b
  refine lv_iload_n hx hb dX11_seen_4 rfl (lv_at hl 1 rfl) ?_
  refine q_goq hW (q_runV (As := [.int i1]) (rest := []) hE hW (c_X2_cloudAt_tz l G σ kb1 hkb1 i1 (q_fr.sub hz (by decide) (by decide))) kw_X11_137 (q_recv hE hW hkb1 rfl q_k2) rfl hl.1 rfl (Nat.le_of_ble_eq_true rfl) dX11_seen_5 ⟨by decide, by decide⟩ ⟨by decide, by decide⟩) (by decide) (fun ks3 H locs kp2 kf4 hW => ?_) (fun kb5 ks3 H locs kp2 kf4 hW => ?_)
  · refine lv_ifnonnullN hx hb dX11_seen_8 ?_
    refine lv_bipush (v := (-2)) hx hb dX11_seen_11 (by decide) ?_
    exact q_reti hE hr hlocks hW ((q_c (k := (-2)) (x := (-2)) (by decide))) dX11_seen_13
  · exact absurd kp2.2 (fun q_h => by cases q_h)
set_option maxHeartbeats 4000000 in
set_option maxRecDepth 100000 in
theorem c_X11_washer_tz (l : Launch) (G : q_G) (σ : q_S) (a0 : Nat) (h0 : q_T G a0 = 26) (i1 : Int32) (i2 : Int32) (hz : q_fr G [(7, 4)] [] σ) : Met l yX11_washer (Cond.code yX11_washer cX11_washer 3 (some .int) :: wsL_law) (q_Rm 2) (q_Pre G σ [.ref a0, .int i1, .int i2]) (q_Qi G [] σ (fun r σ1 => q_V (-2) (-2) r)) 0 0 (q_N G) := by
  refine q_ofW (ts := []) (by decide) (Nat.le_of_ble_eq_true rfl) ?_
  intro p e s m args below meth c hE hr hlocks hW ls hl
  have hE : q_E G p s m args c cX11_washer 3 RX11 := hE
  have hx := hE.1.1
  have hb := hE.1.2.1
  have hl : lv_has ls 3 [(0, .ref a0), (1, .int i1), (2, .int i2)] := hl
  refine lv_aload_n hx hb dX11_washer_0 rfl (lv_at hl 0 rfl) ?_
  refine q_getr hE hW h0 rfl q_k11 5 (by decide) rfl (hE.l wl_35) dX11_washer_1 (fun kb1 ekb1 hkb1a hkb1b => ?_)
  have hkb1 : q_T G kb1 = 7 := q_tag hkb1a hkb1b
  refine lv_iload_n hx hb dX11_washer_4 rfl (lv_at hl 1 rfl) ?_
  refine q_goi hW (q_runV (As := [.int i1]) (rest := []) hE hW (c_X2_isWasher_tz l G σ kb1 hkb1 i1 (q_fr.sub hz (by decide) (by decide))) kw_X11_177 (q_recv hE hW hkb1 rfl q_k2) rfl hl.1 rfl (Nat.le_of_ble_eq_true rfl) dX11_washer_5 ⟨by decide, by decide⟩ ⟨by decide, by decide⟩) (by decide) (fun kx5 ks3 H locs kp2 kf4 hW => ?_)
  have kz6 := (q_fr.fr (q_fr.sub (F2 := [(7, 4)]) (A2 := []) hz (by decide) (by decide)) kf4 (by decide) (by decide))
  obtain rfl : (0 : Int32) = kx5 := (q_lit kp2 (by decide)).symm
  refine lv_if_ne (tgt := 14) hx hb dX11_washer_8 (by decide) (fun kc7 => ?_) (fun kc7 => ?_)
  · exact q_neq (q_c (k := 0) (x := 0) (by decide)) (q_c (k := 0) (x := 0) (by decide)) kc7
  · refine lv_bipush (v := (-2)) hx hb dX11_washer_11 (by decide) ?_
    exact q_reti hE hr hlocks hW ((q_c (k := (-2)) (x := (-2)) (by decide))) dX11_washer_13
set_option maxHeartbeats 4000000 in
set_option maxRecDepth 100000 in
theorem c_X11_hang_tz (l : Launch) (G : q_G) (σ : q_S) (a0 : Nat) (h0 : q_T G a0 = 26) (i1 : Int32) (hz : q_fr G [(7, 4)] [] σ) : Met l yX11_hang (Cond.code yX11_hang cX11_hang 4 (some .int) :: wsL_law) (q_Rm 4) (q_Pre G σ [.ref a0, .int i1]) (q_Qi G [5, 6, 7, 9, 10, 12, 26, 29] σ (fun r σ1 => q_V (-2) (-2) r)) 0 0 (q_N G) := by
  refine q_ofW (ts := [5, 6, 7, 9, 10, 12, 26, 29]) (by decide) (Nat.le_of_ble_eq_true rfl) ?_
  intro p e s m args below meth c hE hr hlocks hW ls hl
  have hE : q_E G p s m args c cX11_hang 4 RX11 := hE
  have hx := hE.1.1
  have hb := hE.1.2.1
  have hl : lv_has ls 4 [(0, .ref a0), (1, .int i1)] := hl
  refine lv_aload_n hx hb dX11_hang_0 rfl (lv_at hl 0 rfl) ?_
  refine q_getr hE hW h0 rfl q_k11 5 (by decide) rfl (hE.l wl_35) dX11_hang_1 (fun kb1 ekb1 hkb1a hkb1b => ?_)
  have hkb1 : q_T G kb1 = 7 := q_tag hkb1a hkb1b
  refine lv_iload_n hx hb dX11_hang_4 rfl (lv_at hl 1 rfl) ?_
  refine q_goi hW (q_runV (As := [.int i1]) (rest := []) hE hW (c_X2_isWasher_tz l G σ kb1 hkb1 i1 (q_fr.sub hz (by decide) (by decide))) kw_X11_177 (q_recv hE hW hkb1 rfl q_k2) rfl hl.1 rfl (Nat.le_of_ble_eq_true rfl) dX11_hang_5 ⟨by decide, by decide⟩ ⟨by decide, by decide⟩) (by decide) (fun kx5 ks3 H locs kp2 kf4 hW => ?_)
  have kz6 := (q_fr.fr (q_fr.sub (F2 := [(7, 4)]) (A2 := []) hz (by decide) (by decide)) kf4 (by decide) (by decide))
  obtain rfl : (0 : Int32) = kx5 := (q_lit kp2 (by decide)).symm
  refine lv_if_ne (tgt := 14) hx hb dX11_hang_8 (by decide) (fun kc7 => ?_) (fun kc7 => ?_)
  · exact q_neq (q_c (k := 0) (x := 0) (by decide)) (q_c (k := 0) (x := 0) (by decide)) kc7
  · refine lv_bipush (v := (-2)) hx hb dX11_hang_11 (by decide) ?_
    exact q_reti hE hr hlocks hW ((q_c (k := (-2)) (x := (-2)) (by decide))) dX11_hang_13
set_option maxHeartbeats 4000000 in
set_option maxRecDepth 100000 in
theorem c_X11_wash_tz (l : Launch) (G : q_G) (σ : q_S) (a0 : Nat) (h0 : q_T G a0 = 26) (i1 : Int32) (i2 : Int32) (hz : q_fr G [(7, 1), (7, 4)] [] σ) : Met l yX11_wash (Cond.code yX11_wash cX11_wash 4 (some .int) :: wsL_law) (q_Rm 4) (q_Pre G σ [.ref a0, .int i1, .int i2]) (q_Qi G [5, 6, 7, 9, 10, 12, 26, 29] σ (fun r σ1 => q_V (-2) (-2) r)) 0 0 (q_N G) := by
  refine q_ofW (ts := [5, 6, 7, 9, 10, 12, 26, 29]) (by decide) (Nat.le_of_ble_eq_true rfl) ?_
  intro p e s m args below meth c hE hr hlocks hW ls hl
  have hE : q_E G p s m args c cX11_wash 4 RX11 := hE
  have hx := hE.1.1
  have hb := hE.1.2.1
  have hl : lv_has ls 4 [(0, .ref a0), (1, .int i1), (2, .int i2)] := hl
  refine lv_aload_n hx hb dX11_wash_0 rfl (lv_at hl 0 rfl) ?_
  refine q_getr hE hW h0 rfl q_k11 5 (by decide) rfl (hE.l wl_35) dX11_wash_1 (fun kb1 ekb1 hkb1a hkb1b => ?_)
  have hkb1 : q_T G kb1 = 7 := q_tag hkb1a hkb1b
  refine lv_iload_n hx hb dX11_wash_4 rfl (lv_at hl 2 rfl) ?_
  refine q_goq hW (q_runV (As := [.int i2]) (rest := []) hE hW (c_X2_cloudAt_tz l G σ kb1 hkb1 i2 (q_fr.sub hz (by decide) (by decide))) kw_X11_137 (q_recv hE hW hkb1 rfl q_k2) rfl hl.1 rfl (Nat.le_of_ble_eq_true rfl) dX11_wash_5 ⟨by decide, by decide⟩ ⟨by decide, by decide⟩) (by decide) (fun ks3 H locs kp2 kf4 hW => ?_) (fun kb5 ks3 H locs kp2 kf4 hW => ?_)
  · refine lv_astore_nN (lv' := [(3, .null), (0, .ref a0), (1, .int i1), (2, .int i2)]) hx hb dX11_wash_8 rfl hl (by decide) rfl (fun ls hl => ?_)
    refine lv_aload_nN hx hb dX11_wash_9 rfl (lv_at hl 0 rfl) ?_
    refine lv_ifnullN hx hb dX11_wash_10 (tgt := 24) (by decide) ?_
    refine lv_bipush (v := (-2)) hx hb dX11_wash_24 (by decide) ?_
    exact q_reti hE hr hlocks hW ((q_c (k := (-2)) (x := (-2)) (by decide))) dX11_wash_26
  · exact absurd kp2.2 (fun q_h => by cases q_h)
set_option maxHeartbeats 4000000 in
set_option maxRecDepth 100000 in
theorem c_X11_again_tz (l : Launch) (G : q_G) (σ : q_S) (a0 : Nat) (h0 : q_T G a0 = 26) (i1 : Int32) (hz : q_fr G [(7, 1)] [] σ) : Met l yX11_again (Cond.code yX11_again cX11_again 4 (some .int) :: wsL_law) (q_Rm 4) (q_Pre G σ [.ref a0, .int i1]) (q_Qi G [5, 6, 7, 9, 10, 12, 26, 29] σ (fun r σ1 => q_V (-2) (-2) r)) 0 0 (q_N G) := by
  refine q_ofW (ts := [5, 6, 7, 9, 10, 12, 26, 29]) (by decide) (Nat.le_of_ble_eq_true rfl) ?_
  intro p e s m args below meth c hE hr hlocks hW ls hl
  have hE : q_E G p s m args c cX11_again 4 RX11 := hE
  have hx := hE.1.1
  have hb := hE.1.2.1
  have hl : lv_has ls 4 [(0, .ref a0), (1, .int i1)] := hl
  refine lv_aload_n hx hb dX11_again_0 rfl (lv_at hl 0 rfl) ?_
  refine q_getr hE hW h0 rfl q_k11 5 (by decide) rfl (hE.l wl_35) dX11_again_1 (fun kb1 ekb1 hkb1a hkb1b => ?_)
  have hkb1 : q_T G kb1 = 7 := q_tag hkb1a hkb1b
  refine lv_iload_n hx hb dX11_again_4 rfl (lv_at hl 1 rfl) ?_
  refine q_goq hW (q_runV (As := [.int i1]) (rest := []) hE hW (c_X2_cloudAt_tz l G σ kb1 hkb1 i1 (q_fr.sub hz (by decide) (by decide))) kw_X11_137 (q_recv hE hW hkb1 rfl q_k2) rfl hl.1 rfl (Nat.le_of_ble_eq_true rfl) dX11_again_5 ⟨by decide, by decide⟩ ⟨by decide, by decide⟩) (by decide) (fun ks3 H locs kp2 kf4 hW => ?_) (fun kb5 ks3 H locs kp2 kf4 hW => ?_)
  · refine lv_astore_nN (lv' := [(2, .null), (0, .ref a0), (1, .int i1)]) hx hb dX11_again_8 rfl hl (by decide) rfl (fun ls hl => ?_)
    refine lv_aload_nN hx hb dX11_again_9 rfl (lv_at hl 0 rfl) ?_
    refine lv_ifnonnullN hx hb dX11_again_10 ?_
    refine lv_bipush (v := (-2)) hx hb dX11_again_13 (by decide) ?_
    exact q_reti hE hr hlocks hW ((q_c (k := (-2)) (x := (-2)) (by decide))) dX11_again_15
  · exact absurd kp2.2 (fun q_h => by cases q_h)
set_option maxHeartbeats 4000000 in
set_option maxRecDepth 100000 in
theorem c_X11_send_tz (l : Launch) (G : q_G) (σ : q_S) (a0 : Nat) (h0 : q_T G a0 = 26) (i1 : Int32) (hz : q_fr G [(7, 1)] [] σ) : Met l yX11_send (Cond.code yX11_send cX11_send 3 (some .int) :: wsL_law) (q_Rm 4) (q_Pre G σ [.ref a0, .int i1]) (q_Qi G [5, 6, 7, 9, 10, 12, 26, 29] σ (fun r σ1 => q_V (-2) (-2) r)) 0 0 (q_N G) := by
  refine q_ofW (ts := [5, 6, 7, 9, 10, 12, 26, 29]) (by decide) (Nat.le_of_ble_eq_true rfl) ?_
  intro p e s m args below meth c hE hr hlocks hW ls hl
  have hE : q_E G p s m args c cX11_send 3 RX11 := hE
  have hx := hE.1.1
  have hb := hE.1.2.1
  have hl : lv_has ls 3 [(0, .ref a0), (1, .int i1)] := hl
  refine lv_aload_n hx hb dX11_send_0 rfl (lv_at hl 0 rfl) ?_
  refine q_getr hE hW h0 rfl q_k11 5 (by decide) rfl (hE.l wl_35) dX11_send_1 (fun kb1 ekb1 hkb1a hkb1b => ?_)
  have hkb1 : q_T G kb1 = 7 := q_tag hkb1a hkb1b
  refine lv_iload_n hx hb dX11_send_4 rfl (lv_at hl 1 rfl) ?_
  refine q_goq hW (q_runV (As := [.int i1]) (rest := []) hE hW (c_X2_cloudAt_tz l G σ kb1 hkb1 i1 (q_fr.sub hz (by decide) (by decide))) kw_X11_137 (q_recv hE hW hkb1 rfl q_k2) rfl hl.1 rfl (Nat.le_of_ble_eq_true rfl) dX11_send_5 ⟨by decide, by decide⟩ ⟨by decide, by decide⟩) (by decide) (fun ks3 H locs kp2 kf4 hW => ?_) (fun kb5 ks3 H locs kp2 kf4 hW => ?_)
  · refine lv_astore_nN (lv' := [(2, .null), (0, .ref a0), (1, .int i1)]) hx hb dX11_send_8 rfl hl (by decide) rfl (fun ls hl => ?_)
    refine lv_aload_nN hx hb dX11_send_9 rfl (lv_at hl 0 rfl) ?_
    refine lv_ifnonnullN hx hb dX11_send_10 ?_
    refine lv_bipush (v := (-2)) hx hb dX11_send_13 (by decide) ?_
    exact q_reti hE hr hlocks hW ((q_c (k := (-2)) (x := (-2)) (by decide))) dX11_send_15
  · exact absurd kp2.2 (fun q_h => by cases q_h)
set_option maxHeartbeats 4000000 in
set_option maxRecDepth 100000 in
theorem c_X11_write_tz (l : Launch) (G : q_G) (σ : q_S) (a0 : Nat) (h0 : q_T G a0 = 26) (i1 : Int32) (hz : q_fr G [(13, 1)] [] σ) : Met l yX11_write (Cond.code yX11_write cX11_write 2 (some .int) :: wsL_law) (q_Rm 2) (q_Pre G σ [.ref a0, .int i1]) (q_Qi G [13, 14] σ (fun r σ1 => q_V (-2147483648) 2147483647 r ∧ r = kz_write i1)) 0 0 (q_N G) := by
  refine q_ofW (ts := [13, 14]) (by decide) (Nat.le_of_ble_eq_true rfl) ?_
  intro p e s m args below meth c hE hr hlocks hW ls hl
  have hE : q_E G p s m args c cX11_write 2 RX11 := hE
  have hx := hE.1.1
  have hb := hE.1.2.1
  have hl : lv_has ls 2 [(0, .ref a0), (1, .int i1)] := hl
  refine lv_iload_n hx hb dX11_write_0 rfl (lv_at hl 1 rfl) ?_
  refine lv_if_lt (tgt := 11) hx hb dX11_write_1 (by decide) (fun kc1 => ?_) (fun kc1 => ?_)
  · have kv2 : q_V (-2147483648) (-1) i1 := (q_lt1 (q_all i1) (q_c (k := 0) (x := 0) (by decide)) kc1).w (by decide) (by decide)
    refine lv_bipush (v := (-3)) hx hb dX11_write_11 (by decide) ?_
    exact q_reti hE hr hlocks hW (⟨((q_c (k := (-3)) (x := (-3)) (by decide)).w (by decide) (by decide)), (by have := kv2.1; have := kv2.2; unfold kz_write; (repeat' split) <;> first | rfl | omega)⟩) dX11_write_13
  · have kv3 : q_V 0 2147483647 i1 := (q_le2 (q_c (k := 0) (x := 0) (by decide)) (q_all i1) (Int32.not_lt.mp kc1)).w (by decide) (by decide)
    refine lv_iload_n hx hb dX11_write_4 rfl (lv_at hl 1 rfl) ?_
    refine lv_sipush (v := 255) hx hb dX11_write_5 (by decide) ?_
    refine lv_icmp_le (tgt := 14) hx hb dX11_write_8 (by decide) (fun kc4 => ?_) (fun kc4 => ?_)
    · have kv5 : q_V 0 255 i1 := (q_le1 kv3 (q_c (k := 255) (x := 255) (by decide)) kc4).w (by decide) (by decide)
      refine lv_aload_n hx hb dX11_write_14 rfl (lv_at hl 0 rfl) ?_
      refine q_getr hE hW h0 rfl q_k11 1 (by decide) rfl (hE.l wl_29) dX11_write_15 (fun kb6 ekb6 hkb6a hkb6b => ?_)
      have hkb6 : q_T G kb6 = 13 := q_tag hkb6a hkb6b
      refine lv_iload_n hx hb dX11_write_18 rfl (lv_at hl 1 rfl) ?_
      refine lv_i2c hx hb dX11_write_19 rfl ?_
      refine lv_topi (fun kx7 ekx7 => ?_)
      have vkx7 : q_V 0 65535 kx7 := by rw [ekx7]; exact q_i2c i1
      refine q_goi hW (q_runV (As := [.int kx7]) (rest := []) hE hW (c_X8_add_tz l G σ kb6 hkb6 kx7 vkx7 (q_fr.sub hz (by decide) (by decide))) kw_X11_109 (q_recv hE hW hkb6 rfl q_k8) rfl hl.1 rfl (Nat.le_of_ble_eq_true rfl) dX11_write_20 ⟨by decide, by decide⟩ ⟨by decide, by decide⟩) (by decide) (fun kx11 ks9 H locs kp8 kf10 hW => ?_)
      have kz12 := (q_fr.fr (q_fr.sub (F2 := []) (A2 := []) hz (by decide) (by decide)) kf10 (by decide) (by decide))
      obtain rfl : (1 : Int32) = kx11 := (q_lit kp8.1 (by decide)).symm
      refine lv_if_eq (tgt := 36) hx hb dX11_write_23 (by decide) (fun kc13 => ?_) (fun kc13 => ?_)
      · have kv14 : q_V 1 0 1 := q_eq1 (q_c (k := 1) (x := 1) (by decide)) (q_c (k := 0) (x := 0) (by decide)) kc13 (by decide) (by decide)
        exact (kv14.no (by decide))
      · refine lv_aload_n hx hb dX11_write_26 rfl (lv_at hl 0 rfl) ?_
        refine q_getr hE hW h0 rfl q_k11 1 (by decide) rfl (hE.l wl_29) dX11_write_27 (fun kb15 ekb15 hkb15a hkb15b => ?_)
        obtain rfl : kb6 = kb15 := ((kf10.R _ h0 (by decide)).trans ekb6).symm.trans ekb15
        refine q_geti hE hW hkb6 rfl q_k8 1 (by decide) rfl (hE.n 0 rfl) dX11_write_30 (fun kx16 ekx16 vkx16 => ?_)
        obtain rfl : 1 = kx16 := kp8.2.symm.trans ekx16
        refine lv_goto (tgt := 38) hx hb dX11_write_33 (by decide) ?_
        exact q_reti hE hr hlocks hW (⟨((q_c (k := 1) (x := 1) (by decide)).w (by decide) (by decide)), (by have := kv5.1; have := kv5.2; unfold kz_write; (repeat' split) <;> first | rfl | omega)⟩) dX11_write_38
    · have kv17 : q_V 256 2147483647 i1 := (q_lt2 (q_c (k := 255) (x := 255) (by decide)) kv3 (Int32.not_le.mp kc4)).w (by decide) (by decide)
      refine lv_bipush (v := (-3)) hx hb dX11_write_11 (by decide) ?_
      exact q_reti hE hr hlocks hW (⟨((q_c (k := (-3)) (x := (-3)) (by decide)).w (by decide) (by decide)), (by have := kv17.1; have := kv17.2; unfold kz_write; (repeat' split) <;> first | rfl | omega)⟩) dX11_write_13
set_option maxHeartbeats 4000000 in
set_option maxRecDepth 100000 in
theorem c_X11_remember_tz (l : Launch) (G : q_G) (σ : q_S) (a0 : Nat) (h0 : q_T G a0 = 26) (hz : q_fr G [(7, 1), (7, 4), (7, 6), (7, 7), (7, 8), (26, 10)] [(12, 0, 6)] σ) : Met l yX11_remember (Cond.code yX11_remember cX11_remember 3 none :: wsL_law) (q_Rm 3) (q_Pre G σ [.ref a0]) (q_Qv G [5, 6, 7, 9, 10, 12, 26, 29] σ (fun σ1 => q_fr G [(7, 1), (7, 4), (7, 6), (7, 7), (7, 8)] [(12, 0, 6)] σ1)) 0 0 (q_N G) := by
  refine q_ofW (ts := [5, 6, 7, 9, 10, 12, 26, 29]) (by decide) (Nat.le_of_ble_eq_true rfl) ?_
  intro p e s m args below meth c hE hr hlocks hW ls hl
  have hE : q_E G p s m args c cX11_remember 3 RX11 := hE
  have hx := hE.1.1
  have hb := hE.1.2.1
  have hl : lv_has ls 3 [(0, .ref a0)] := hl
  have jn65a : ∀ (ks1 : q_S) (H : Heap) (locs : List Loc) (hW : q_Wd G [5, 6, 7, 9, 10, 12, 26, 29] σ s.heap ks1 H locs) (hz65a : q_fr G [(7, 1), (7, 4), (7, 6), (7, 7), (7, 8), (26, 10)] [(12, 0, 6)] ks1) (ls : Array Slot) (hl : lv_has ls 3 [(0, .ref a0)]), W p l e (q_Rm 3) s m args below meth c H locs 0 0 (MQ below (q_Qv G [5, 6, 7, 9, 10, 12, 26, 29] σ (fun σ1 => q_fr G [(7, 1), (7, 4), (7, 6), (7, 7), (7, 8)] [(12, 0, 6)] σ1)) args s 0 0 (q_N G)) (F0 m 65 ls []) := by
    intro ks1 H locs hW hz65a ls hl
    refine lv_aload_n hx hb dX11_remember_65 rfl (lv_at hl 0 rfl) ?_
    refine q_getr hE hW h0 rfl q_k11 9 (by decide) rfl (hE.l wl_47) dX11_remember_66 (fun kb2 ekb2 hkb2a hkb2b => ?_)
    have hkb2 : q_T G kb2 = 29 := q_tag hkb2a hkb2b
    refine lv_aload_n hx hb dX11_remember_69 rfl (lv_at hl 0 rfl) ?_
    refine q_geti hE hW h0 rfl q_k11 10 (by decide) rfl (hE.l wl_435) dX11_remember_70 (fun kx3 ekx3 vkx3 => ?_)
    obtain rfl : (0 : Int32) = kx3 := (q_fr.f hz65a (t := 26) (k := 10) (by decide) h0).symm.trans ekx3
    refine q_aald hE hW hkb2 rfl (q_in (q_c (k := 0) (x := 0) (by decide)) (by decide) (by decide)) dX11_remember_73 (fun kb4 ekb4 hkb4a hkb4b => ?_)
    have hkb4 : q_T G kb4 = 7 := q_tag hkb4a hkb4b
    refine lv_aload_n hx hb dX11_remember_74 rfl (lv_at hl 0 rfl) ?_
    refine q_getr hE hW h0 rfl q_k11 5 (by decide) rfl (hE.l wl_35) dX11_remember_75 (fun kb5 ekb5 hkb5a hkb5b => ?_)
    have hkb5 : q_T G kb5 = 7 := q_tag hkb5a hkb5b
    refine q_gov hW (q_runV (As := [.ref kb5]) (rest := []) hE hW (c_X2_copyFrom_tz l G ks1 kb4 hkb4 kb5 hkb5 (q_fr.sub hz65a (by decide) (by decide))) kw_X11_121 (q_recv hE hW hkb4 rfl q_k2) rfl hl.1 rfl (Nat.le_of_ble_eq_true rfl) dX11_remember_78 ⟨by decide, by decide⟩ ⟨by decide, by decide⟩) (by decide) (fun ks7 H locs kp6 kf8 hW => ?_)
    have kz9 := (q_fr.and (q_fr.fr (q_fr.sub (F2 := [(26, 10)]) (A2 := []) hz65a (by decide) (by decide)) kf8 (by decide) (by decide)) kp6)
    refine lv_aload_n hx hb dX11_remember_81 rfl (lv_at hl 0 rfl) ?_
    refine lv_dup hx hb dX11_remember_82 rfl ?_
    refine q_geti hE hW h0 rfl q_k11 10 (by decide) rfl (hE.l wl_435) dX11_remember_83 (fun kx10 ekx10 vkx10 => ?_)
    obtain rfl : 0 = kx10 := ((kf8.I _ h0 (by decide)).trans ekx3).symm.trans ekx10
    refine lv_iconst (v := 1) hx hb dX11_remember_86 (by decide) ?_
    refine lv_iadd hx hb dX11_remember_87 ?_
    refine lv_eqi (y := 1) (by decide) ?_
    refine q_puti hE hW h0 rfl q_k11 tyX11 tyX11_ok 10 (by decide) rfl (hE.l wl_435) rfl rfl rfl ((q_c (k := 1) (x := 1) (by decide)).w (by decide) (by decide)) (by decide) dX11_remember_88 (fun H locs ks11 kp12 hW => ?_)
    have kz13 := (q_fr.wI (q_fr.sub (F2 := [(7, 1), (7, 4), (7, 6), (7, 7), (7, 8)]) (A2 := [(12, 0, 6)]) kz9 (by decide) (by decide)) kp12 h0 (Or.inl (by decide)))
    exact q_retv hE hr hlocks hW ((q_fr.sub kz13 (by decide) (by decide))) dX11_remember_91
  refine lv_aload_n hx hb dX11_remember_0 rfl (lv_at hl 0 rfl) ?_
  refine q_geti hE hW h0 rfl q_k11 10 (by decide) rfl (hE.l wl_435) dX11_remember_1 (fun kx14 ekx14 vkx14 => ?_)
  obtain rfl : (0 : Int32) = kx14 := (q_fr.f hz (t := 26) (k := 10) (by decide) h0).symm.trans ekx14
  refine lv_if_lt (tgt := 16) hx hb dX11_remember_4 (by decide) (fun kc15 => ?_) (fun kc15 => ?_)
  · have kv16 : q_V 0 (-1) 0 := (q_lt1 (q_c (k := 0) (x := 0) (by decide)) (q_c (k := 0) (x := 0) (by decide)) kc15).w (by decide) (by decide)
    exact (kv16.no (by decide))
  · refine lv_aload_n hx hb dX11_remember_7 rfl (lv_at hl 0 rfl) ?_
    refine q_geti hE hW h0 rfl q_k11 10 (by decide) rfl (hE.l wl_435) dX11_remember_8 (fun kx17 ekx17 vkx17 => ?_)
    obtain rfl : 0 = kx17 := ekx14.symm.trans ekx17
    refine lv_bipush (v := 8) hx hb dX11_remember_11 (by decide) ?_
    refine lv_icmp_lt (tgt := 65) hx hb dX11_remember_13 (by decide) (fun kc18 => ?_) (fun kc18 => ?_)
    · exact jn65a _ _ _ hW (q_fr.sub hz (by decide) (by decide)) ls (lv_sub hl [0] rfl)
    · have kv19 : q_V 8 0 8 := (q_le1 (q_c (k := 8) (x := 8) (by decide)) (q_c (k := 0) (x := 0) (by decide)) (Int32.not_lt.mp kc18)).w (by decide) (by decide)
      exact (kv19.no (by decide))
set_option maxHeartbeats 4000000 in
set_option maxRecDepth 100000 in
theorem c_X11_keep_tz (l : Launch) (G : q_G) (σ : q_S) (a0 : Nat) (h0 : q_T G a0 = 26) (i1 : Int32) (hz : q_fr G [(7, 1), (7, 4), (7, 6), (7, 7), (7, 8)] [(12, 0, 6)] σ) : Met l yX11_keep (Cond.code yX11_keep cX11_keep 2 (some .int) :: wsL_law) (q_Rm 3) (q_Pre G σ [.ref a0, .int i1]) (q_Qi G [5, 6, 7, 9, 10, 12, 13, 14, 32] σ (fun r σ1 => q_V (-2147483648) 2147483647 r ∧ r = kz_keep i1)) 0 0 (q_N G) := by
  refine q_ofW (ts := [5, 6, 7, 9, 10, 12, 13, 14, 32]) (by decide) (Nat.le_of_ble_eq_true rfl) ?_
  intro p e s m args below meth c hE hr hlocks hW ls hl
  have hE : q_E G p s m args c cX11_keep 2 RX11 := hE
  have hx := hE.1.1
  have hb := hE.1.2.1
  have hl : lv_has ls 2 [(0, .ref a0), (1, .int i1)] := hl
  refine lv_iload_n hx hb dX11_keep_0 rfl (lv_at hl 1 rfl) ?_
  refine lv_if_lt (tgt := 9) hx hb dX11_keep_1 (by decide) (fun kc1 => ?_) (fun kc1 => ?_)
  · have kv2 : q_V (-2147483648) (-1) i1 := (q_lt1 (q_all i1) (q_c (k := 0) (x := 0) (by decide)) kc1).w (by decide) (by decide)
    refine lv_bipush (v := (-2)) hx hb dX11_keep_9 (by decide) ?_
    exact q_reti hE hr hlocks hW (⟨((q_c (k := (-2)) (x := (-2)) (by decide)).w (by decide) (by decide)), (by have := kv2.1; have := kv2.2; unfold kz_keep; (repeat' split) <;> first | rfl | omega)⟩) dX11_keep_11
  · have kv3 : q_V 0 2147483647 i1 := (q_le2 (q_c (k := 0) (x := 0) (by decide)) (q_all i1) (Int32.not_lt.mp kc1)).w (by decide) (by decide)
    refine lv_iload_n hx hb dX11_keep_4 rfl (lv_at hl 1 rfl) ?_
    refine lv_iconst (v := 2) hx hb dX11_keep_5 (by decide) ?_
    refine lv_icmp_lt (tgt := 12) hx hb dX11_keep_6 (by decide) (fun kc4 => ?_) (fun kc4 => ?_)
    · have kv5 : q_V 0 1 i1 := (q_lt1 kv3 (q_c (k := 2) (x := 2) (by decide)) kc4).w (by decide) (by decide)
      refine lv_aload_n hx hb dX11_keep_12 rfl (lv_at hl 0 rfl) ?_
      refine q_getr hE hW h0 rfl q_k11 11 (by decide) rfl (hE.l wl_48) dX11_keep_13 (fun kb6 ekb6 hkb6a hkb6b => ?_)
      have hkb6 : q_T G kb6 = 30 := q_tag hkb6a hkb6b
      refine lv_iload_n hx hb dX11_keep_16 rfl (lv_at hl 1 rfl) ?_
      refine q_aald hE hW hkb6 rfl (q_in kv5 (by decide) (by decide)) dX11_keep_17 (fun kb7 ekb7 hkb7a hkb7b => ?_)
      have hkb7 : q_T G kb7 = 7 := q_tag hkb7a hkb7b
      refine lv_aload_n hx hb dX11_keep_18 rfl (lv_at hl 0 rfl) ?_
      refine q_getr hE hW h0 rfl q_k11 5 (by decide) rfl (hE.l wl_35) dX11_keep_19 (fun kb8 ekb8 hkb8a hkb8b => ?_)
      have hkb8 : q_T G kb8 = 7 := q_tag hkb8a hkb8b
      refine q_gov hW (q_runV (As := [.ref kb8]) (rest := []) hE hW (c_X2_copyFrom_tz l G σ kb7 hkb7 kb8 hkb8 (q_fr.sub hz (by decide) (by decide))) kw_X11_121 (q_recv hE hW hkb7 rfl q_k2) rfl hl.1 rfl (Nat.le_of_ble_eq_true rfl) dX11_keep_22 ⟨by decide, by decide⟩ ⟨by decide, by decide⟩) (by decide) (fun ks10 H locs kp9 kf11 hW => ?_)
      have kz12 := (q_fr.and (q_fr.fr (q_fr.sub (F2 := []) (A2 := []) hz (by decide) (by decide)) kf11 (by decide) (by decide)) kp9)
      refine lv_aload_n hx hb dX11_keep_25 rfl (lv_at hl 0 rfl) ?_
      refine q_getr hE hW h0 rfl q_k11 12 (by decide) rfl (hE.l wl_49) dX11_keep_26 (fun kb13 ekb13 hkb13a hkb13b => ?_)
      have hkb13 : q_T G kb13 = 31 := q_tag hkb13a hkb13b
      refine lv_iload_n hx hb dX11_keep_29 rfl (lv_at hl 1 rfl) ?_
      refine q_aald hE hW hkb13 rfl (q_in kv5 (by decide) (by decide)) dX11_keep_30 (fun kb14 ekb14 hkb14a hkb14b => ?_)
      have hkb14 : q_T G kb14 = 13 := q_tag hkb14a hkb14b
      refine lv_aload_n hx hb dX11_keep_31 rfl (lv_at hl 0 rfl) ?_
      refine q_getr hE hW h0 rfl q_k11 1 (by decide) rfl (hE.l wl_29) dX11_keep_32 (fun kb15 ekb15 hkb15a hkb15b => ?_)
      have hkb15 : q_T G kb15 = 13 := q_tag hkb15a hkb15b
      refine q_gov hW (q_runV (As := [.ref kb15]) (rest := []) hE hW (c_X8_copyFrom l G ks10 kb14 hkb14 kb15 hkb15) kw_X11_219 (q_recv hE hW hkb14 rfl q_k8) rfl hl.1 rfl (Nat.le_of_ble_eq_true rfl) dX11_keep_35 ⟨by decide, by decide⟩ ⟨by decide, by decide⟩) (by decide) (fun ks17 H locs kp16 kf18 hW => ?_)
      have kz19 := (q_fr.fr (q_fr.sub (F2 := [(7, 1), (7, 4), (7, 6), (7, 7), (7, 8)]) (A2 := [(12, 0, 6)]) kz12 (by decide) (by decide)) kf18 (by decide) (by decide))
      refine lv_aload_n hx hb dX11_keep_38 rfl (lv_at hl 0 rfl) ?_
      refine q_getr hE hW h0 rfl q_k11 13 (by decide) rfl (hE.l wl_51) dX11_keep_39 (fun kb20 ekb20 hkb20a hkb20b => ?_)
      have hkb20 : q_T G kb20 = 32 := q_tag hkb20a hkb20b
      refine lv_iload_n hx hb dX11_keep_42 rfl (lv_at hl 1 rfl) ?_
      refine lv_iconst (v := 1) hx hb dX11_keep_43 (by decide) ?_
      refine q_zast hE hW hkb20 rfl (q_in kv5 (by decide) (by decide)) (q_narz ((q_c (k := 1) (x := 1) (by decide)).w (by decide) (by decide))) ((q_c (k := 1) (x := 1) (by decide)).w (by decide) (by decide)) (by decide) dX11_keep_44 (fun H locs ks21 kp22 hW => ?_)
      have kz23 := (q_fr.wAi (q_fr.sub (F2 := [(7, 1), (7, 4), (7, 6), (7, 7), (7, 8)]) (A2 := [(12, 0, 6)]) kz19 (by decide) (by decide)) kp22 hkb20 kv5 (by decide) (by decide))
      refine lv_aload_n hx hb dX11_keep_45 rfl (lv_at hl 0 rfl) ?_
      refine q_getr hE hW h0 rfl q_k11 5 (by decide) rfl (hE.l wl_35) dX11_keep_46 (fun kb24 ekb24 hkb24a hkb24b => ?_)
      obtain rfl : kb8 = kb24 := ((((kp22.2.2.1 _ _).trans (kf18.R _ h0 (by decide))).trans (kf11.R _ h0 (by decide))).trans ekb8).symm.trans ekb24
      refine q_geti hE hW hkb8 rfl q_k2 8 (by decide) rfl (hE.n 34 rfl) dX11_keep_49 (fun kx25 ekx25 vkx25 => ?_)
      obtain rfl : (0 : Int32) = kx25 := (q_fr.f kz23 (t := 7) (k := 8) (by decide) hkb8).symm.trans ekx25
      exact q_reti hE hr hlocks hW (⟨((q_c (k := 0) (x := 0) (by decide)).w (by decide) (by decide)), (by have := kv5.1; have := kv5.2; unfold kz_keep; (repeat' split) <;> first | rfl | omega)⟩) dX11_keep_52
    · have kv26 : q_V 2 2147483647 i1 := (q_le2 (q_c (k := 2) (x := 2) (by decide)) kv3 (Int32.not_lt.mp kc4)).w (by decide) (by decide)
      refine lv_bipush (v := (-2)) hx hb dX11_keep_9 (by decide) ?_
      exact q_reti hE hr hlocks hW (⟨((q_c (k := (-2)) (x := (-2)) (by decide)).w (by decide) (by decide)), (by have := kv26.1; have := kv26.2; unfold kz_keep; (repeat' split) <;> first | rfl | omega)⟩) dX11_keep_11
set_option maxHeartbeats 4000000 in
set_option maxRecDepth 100000 in
theorem c_X2_passHour_tz (l : Launch) (G : q_G) (σ : q_S) (a0 : Nat) (h0 : q_T G a0 = 7) (hz : q_fr G [(7, 1), (7, 4), (7, 6), (7, 7)] [(12, 0, 6)] σ) : Met l yX2_passHour (Cond.code yX2_passHour cX2_passHour 2 none :: wsL_law) (q_Rm 5) (q_Pre G σ [.ref a0]) (q_Qv G [5, 6, 7, 10, 12] σ (fun σ1 => q_I σ1 a0 8 = q_I σ a0 8 + 1 ∧ q_fr G [(7, 1), (7, 4), (7, 6), (7, 7)] [(12, 0, 6)] σ1)) 0 0 (q_N G) := by
  refine q_ofW (ts := [5, 6, 7, 10, 12]) (by decide) (Nat.le_of_ble_eq_true rfl) ?_
  intro p e s m args below meth c hE hr hlocks hW ls hl
  have hE : q_E G p s m args c cX2_passHour 2 RX2 := hE
  have hx := hE.1.1
  have hb := hE.1.2.1
  have hl : lv_has ls 2 [(0, .ref a0)] := hl
  obtain ⟨kx1, ekx1, vkx1⟩ := q_ghi hW h0 rfl 8 rfl
  refine lv_aload_n hx hb dX2_passHour_0 rfl (lv_at hl 0 rfl) ?_
  refine q_gov hW (q_runV (As := []) (rest := []) hE hW (c_X2_flow_tz l G σ a0 h0 (q_fr.sub hz (by decide) (by decide))) kw_X2_71 (q_recv hE hW h0 rfl q_k2) rfl hl.1 rfl (Nat.le_of_ble_eq_true rfl) dX2_passHour_1 ⟨by decide, by decide⟩ ⟨by decide, by decide⟩) (by decide) (fun ks3 H locs kp2 kf4 hW => ?_)
  have kz5 := (q_fr.and (q_fr.fr (q_fr.sub (F2 := [(7, 1), (7, 4), (7, 6), (7, 7)]) (A2 := []) hz (by decide) (by decide)) kf4 (by decide) (by decide)) kp2)
  refine lv_iconst (v := 0) hx hb dX2_passHour_4 (by decide) ?_
  refine lv_istore_n (lv' := [(1, .int 0), (0, .ref a0)]) hx hb dX2_passHour_5 rfl hl (by decide) rfl (fun ls hl => ?_)
  refine lv_iload_n hx hb dX2_passHour_6 rfl (lv_at hl 0 rfl) ?_
  refine lv_aload_n hx hb dX2_passHour_7 rfl (lv_at hl 1 rfl) ?_
  refine q_geti hE hW h0 rfl q_k2 4 (by decide) rfl (hE.l wl_199) dX2_passHour_8 (fun kx6 ekx6 vkx6 => ?_)
  obtain rfl : (0 : Int32) = kx6 := (q_fr.f kz5 (t := 7) (k := 4) (by decide) h0).symm.trans ekx6
  refine lv_icmp_ge (tgt := 30) hx hb dX2_passHour_11 (by decide) (fun kc7 => ?_) (fun kc7 => ?_)
  · refine lv_iconst (v := 0) hx hb dX2_passHour_30 (by decide) ?_
    refine lv_istore_n (lv' := [(1, .int 0), (0, .ref a0)]) hx hb dX2_passHour_31 rfl hl (by decide) rfl (fun ls hl => ?_)
    refine lv_iload_n hx hb dX2_passHour_32 rfl (lv_at hl 0 rfl) ?_
    refine lv_aload_n hx hb dX2_passHour_33 rfl (lv_at hl 1 rfl) ?_
    refine q_geti hE hW h0 rfl q_k2 1 (by decide) rfl (hE.l wl_198) dX2_passHour_34 (fun kx8 ekx8 vkx8 => ?_)
    obtain rfl : (0 : Int32) = kx8 := (q_fr.f kz5 (t := 7) (k := 1) (by decide) h0).symm.trans ekx8
    refine lv_icmp_ge (tgt := 80) hx hb dX2_passHour_37 (by decide) (fun kc9 => ?_) (fun kc9 => ?_)
    · refine lv_aload_n hx hb dX2_passHour_80 rfl (lv_at hl 1 rfl) ?_
      refine lv_dup hx hb dX2_passHour_81 rfl ?_
      refine q_geti hE hW h0 rfl q_k2 8 (by decide) rfl (hE.l wl_205) dX2_passHour_82 (fun kx10 ekx10 vkx10 => ?_)
      obtain rfl : kx1 = kx10 := ((kf4.I _ h0 (by decide)).trans ekx1).symm.trans ekx10
      refine lv_iconst (v := 1) hx hb dX2_passHour_85 (by decide) ?_
      refine lv_iadd hx hb dX2_passHour_86 ?_
      refine lv_topi (fun kx11 ekx11 => ?_)
      refine q_puti hE hW h0 rfl q_k2 tyX2 tyX2_ok 8 (by decide) rfl (hE.l wl_205) rfl rfl rfl (q_all kx11) (by decide) dX2_passHour_87 (fun H locs ks12 kp13 hW => ?_)
      have kz14 := (kz5.wI kp13 h0 (Or.inl (by decide)))
      exact q_retv hE hr hlocks hW (⟨(kp13.1.trans (by rw [ekx11, ekx1])), (q_fr.sub kz14 (by decide) (by decide))⟩) dX2_passHour_90
    · have kv15 : q_V 0 (-1) 0 := (q_lt1 (q_c (k := 0) (x := 0) (by decide)) (q_c (k := 0) (x := 0) (by decide)) (Int32.not_le.mp kc9)).w (by decide) (by decide)
      exact (kv15.no (by decide))
  · have kv16 : q_V 0 (-1) 0 := (q_lt1 (q_c (k := 0) (x := 0) (by decide)) (q_c (k := 0) (x := 0) (by decide)) (Int32.not_le.mp kc7)).w (by decide) (by decide)
    exact (kv16.no (by decide))
set_option maxHeartbeats 4000000 in
set_option maxRecDepth 100000 in
theorem c_X11_count_tz (l : Launch) (G : q_G) (σ : q_S) (a0 : Nat) (h0 : q_T G a0 = 26) (i1 : Int32) (hz : q_fr G [(7, 1), (7, 4), (7, 6), (7, 7), (7, 8), (13, 1), (23, 0), (26, 10), (26, 17)] [(12, 0, 6)] σ) : Met l yX11_count (Cond.code yX11_count cX11_count 2 (some .int) :: wsL_law) (q_Rm 3) (q_Pre G σ [.ref a0, .int i1]) (q_Qi G [] σ (fun r σ1 => q_V (-2147483648) 2147483647 r ∧ r = kz_count i1)) 0 0 (q_N G) := by
  refine q_ofW (ts := []) (by decide) (Nat.le_of_ble_eq_true rfl) ?_
  intro p e s m args below meth c hE hr hlocks hW ls hl
  have hE : q_E G p s m args c cX11_count 2 RX11 := hE
  have hx := hE.1.1
  have hb := hE.1.2.1
  have hl : lv_has ls 2 [(0, .ref a0), (1, .int i1)] := hl
  refine lv_iload_n hx hb dX11_count_0 rfl (lv_at hl 1 rfl) ?_
  rcases q_sw i1 0 13 with kc1 | kc1
  · refine lv_tableOut (tgt := 179) hx hb dX11_count_1 kc1 (by decide) ?_
    refine lv_bipush (v := (-3)) hx hb dX11_count_179 (by decide) ?_
    exact q_reti hE hr hlocks hW (⟨((q_c (k := (-3)) (x := (-3)) (by decide)).w (by decide) (by decide)), (by skip; unfold kz_count; (repeat' split) <;> first | rfl | omega)⟩) dX11_count_181
  · obtain ⟨kc1a, kc1b⟩ := kc1
    by_cases kc1_0 : i1.toInt = 0
    · refine lv_tableIn (off := 71) (tgt := 72) hx hb dX11_count_1 (by rw [kc1_0]; decide) (by rw [kc1_0]; decide) (by rw [kc1_0]; rfl) (by decide) ?_
      have fkc1_0 : q_V 0 0 i1 := q_c kc1_0
      refine lv_aload_n hx hb dX11_count_72 rfl (lv_at hl 0 rfl) ?_
      refine q_getr hE hW h0 rfl q_k11 5 (by decide) rfl (hE.l wl_35) dX11_count_73 (fun kb2 ekb2 hkb2a hkb2b => ?_)
      have hkb2 : q_T G kb2 = 7 := q_tag hkb2a hkb2b
      refine q_geti hE hW hkb2 rfl q_k2 1 (by decide) rfl (hE.n 21 rfl) dX11_count_76 (fun kx3 ekx3 vkx3 => ?_)
      obtain rfl : (0 : Int32) = kx3 := (q_fr.f hz (t := 7) (k := 1) (by decide) hkb2).symm.trans ekx3
      exact q_reti hE hr hlocks hW (⟨((q_c (k := 0) (x := 0) (by decide)).w (by decide) (by decide)), (by have := fkc1_0.1; have := fkc1_0.2; unfold kz_count; (repeat' split) <;> first | rfl | omega)⟩) dX11_count_79
    by_cases kc1_1 : i1.toInt = 1
    · refine lv_tableIn (off := 79) (tgt := 80) hx hb dX11_count_1 (by rw [kc1_1]; decide) (by rw [kc1_1]; decide) (by rw [kc1_1]; rfl) (by decide) ?_
      have fkc1_1 : q_V 1 1 i1 := q_c kc1_1
      refine lv_aload_n hx hb dX11_count_80 rfl (lv_at hl 0 rfl) ?_
      refine q_getr hE hW h0 rfl q_k11 5 (by decide) rfl (hE.l wl_35) dX11_count_81 (fun kb4 ekb4 hkb4a hkb4b => ?_)
      have hkb4 : q_T G kb4 = 7 := q_tag hkb4a hkb4b
      refine q_geti hE hW hkb4 rfl q_k2 4 (by decide) rfl (hE.n 27 rfl) dX11_count_84 (fun kx5 ekx5 vkx5 => ?_)
      obtain rfl : (0 : Int32) = kx5 := (q_fr.f hz (t := 7) (k := 4) (by decide) hkb4).symm.trans ekx5
      exact q_reti hE hr hlocks hW (⟨((q_c (k := 0) (x := 0) (by decide)).w (by decide) (by decide)), (by have := fkc1_1.1; have := fkc1_1.2; unfold kz_count; (repeat' split) <;> first | rfl | omega)⟩) dX11_count_87
    by_cases kc1_2 : i1.toInt = 2
    · refine lv_tableIn (off := 87) (tgt := 88) hx hb dX11_count_1 (by rw [kc1_2]; decide) (by rw [kc1_2]; decide) (by rw [kc1_2]; rfl) (by decide) ?_
      have fkc1_2 : q_V 2 2 i1 := q_c kc1_2
      refine lv_aload_n hx hb dX11_count_88 rfl (lv_at hl 0 rfl) ?_
      refine q_getr hE hW h0 rfl q_k11 5 (by decide) rfl (hE.l wl_35) dX11_count_89 (fun kb6 ekb6 hkb6a hkb6b => ?_)
      have hkb6 : q_T G kb6 = 7 := q_tag hkb6a hkb6b
      refine q_geti hE hW hkb6 rfl q_k2 6 (by decide) rfl (hE.n 30 rfl) dX11_count_92 (fun kx7 ekx7 vkx7 => ?_)
      obtain rfl : (0 : Int32) = kx7 := (q_fr.f hz (t := 7) (k := 6) (by decide) hkb6).symm.trans ekx7
      exact q_reti hE hr hlocks hW (⟨((q_c (k := 0) (x := 0) (by decide)).w (by decide) (by decide)), (by have := fkc1_2.1; have := fkc1_2.2; unfold kz_count; (repeat' split) <;> first | rfl | omega)⟩) dX11_count_95
    by_cases kc1_3 : i1.toInt = 3
    · refine lv_tableIn (off := 95) (tgt := 96) hx hb dX11_count_1 (by rw [kc1_3]; decide) (by rw [kc1_3]; decide) (by rw [kc1_3]; rfl) (by decide) ?_
      have fkc1_3 : q_V 3 3 i1 := q_c kc1_3
      refine lv_aload_n hx hb dX11_count_96 rfl (lv_at hl 0 rfl) ?_
      refine q_getr hE hW h0 rfl q_k11 5 (by decide) rfl (hE.l wl_35) dX11_count_97 (fun kb8 ekb8 hkb8a hkb8b => ?_)
      have hkb8 : q_T G kb8 = 7 := q_tag hkb8a hkb8b
      refine q_geti hE hW hkb8 rfl q_k2 8 (by decide) rfl (hE.n 34 rfl) dX11_count_100 (fun kx9 ekx9 vkx9 => ?_)
      obtain rfl : (0 : Int32) = kx9 := (q_fr.f hz (t := 7) (k := 8) (by decide) hkb8).symm.trans ekx9
      exact q_reti hE hr hlocks hW (⟨((q_c (k := 0) (x := 0) (by decide)).w (by decide) (by decide)), (by have := fkc1_3.1; have := fkc1_3.2; unfold kz_count; (repeat' split) <;> first | rfl | omega)⟩) dX11_count_103
    by_cases kc1_4 : i1.toInt = 4
    · refine lv_tableIn (off := 103) (tgt := 104) hx hb dX11_count_1 (by rw [kc1_4]; decide) (by rw [kc1_4]; decide) (by rw [kc1_4]; rfl) (by decide) ?_
      have fkc1_4 : q_V 4 4 i1 := q_c kc1_4
      refine lv_aload_n hx hb dX11_count_104 rfl (lv_at hl 0 rfl) ?_
      refine q_getr hE hW h0 rfl q_k11 5 (by decide) rfl (hE.l wl_35) dX11_count_105 (fun kb10 ekb10 hkb10a hkb10b => ?_)
      have hkb10 : q_T G kb10 = 7 := q_tag hkb10a hkb10b
      refine lv_iconst (v := 0) hx hb dX11_count_108 (by decide) ?_
      refine q_goi hW (q_runV (As := [.int 0]) (rest := []) hE hW (c_X2_cloudsThatAre_tz l G σ kb10 hkb10 0 (q_fr.sub hz (by decide) (by decide))) kw_X11_311 (q_recv hE hW hkb10 rfl q_k2) rfl hl.1 rfl (Nat.le_of_ble_eq_true rfl) dX11_count_109 ⟨by decide, by decide⟩ ⟨by decide, by decide⟩) (by decide) (fun kx14 ks12 H locs kp11 kf13 hW => ?_)
      have kz15 := (q_fr.fr (q_fr.sub (F2 := [(7, 1), (7, 4), (7, 6), (7, 7), (7, 8), (13, 1), (23, 0), (26, 10), (26, 17)]) (A2 := [(12, 0, 6)]) hz (by decide) (by decide)) kf13 (by decide) (by decide))
      obtain rfl : (0 : Int32) = kx14 := (q_lit kp11 (by decide)).symm
      exact q_reti hE hr hlocks hW (⟨((q_c (k := 0) (x := 0) (by decide)).w (by decide) (by decide)), (by have := fkc1_4.1; have := fkc1_4.2; unfold kz_count; (repeat' split) <;> first | rfl | omega)⟩) dX11_count_112
    by_cases kc1_5 : i1.toInt = 5
    · refine lv_tableIn (off := 112) (tgt := 113) hx hb dX11_count_1 (by rw [kc1_5]; decide) (by rw [kc1_5]; decide) (by rw [kc1_5]; rfl) (by decide) ?_
      have fkc1_5 : q_V 5 5 i1 := q_c kc1_5
      refine lv_aload_n hx hb dX11_count_113 rfl (lv_at hl 0 rfl) ?_
      refine q_getr hE hW h0 rfl q_k11 5 (by decide) rfl (hE.l wl_35) dX11_count_114 (fun kb16 ekb16 hkb16a hkb16b => ?_)
      have hkb16 : q_T G kb16 = 7 := q_tag hkb16a hkb16b
      refine lv_iconst (v := 2) hx hb dX11_count_117 (by decide) ?_
      refine q_goi hW (q_runV (As := [.int 2]) (rest := []) hE hW (c_X2_cloudsThatAre_tz l G σ kb16 hkb16 2 (q_fr.sub hz (by decide) (by decide))) kw_X11_311 (q_recv hE hW hkb16 rfl q_k2) rfl hl.1 rfl (Nat.le_of_ble_eq_true rfl) dX11_count_118 ⟨by decide, by decide⟩ ⟨by decide, by decide⟩) (by decide) (fun kx20 ks18 H locs kp17 kf19 hW => ?_)
      have kz21 := (q_fr.fr (q_fr.sub (F2 := [(7, 1), (7, 4), (7, 6), (7, 7), (7, 8), (13, 1), (23, 0), (26, 10), (26, 17)]) (A2 := [(12, 0, 6)]) hz (by decide) (by decide)) kf19 (by decide) (by decide))
      obtain rfl : (0 : Int32) = kx20 := (q_lit kp17 (by decide)).symm
      exact q_reti hE hr hlocks hW (⟨((q_c (k := 0) (x := 0) (by decide)).w (by decide) (by decide)), (by have := fkc1_5.1; have := fkc1_5.2; unfold kz_count; (repeat' split) <;> first | rfl | omega)⟩) dX11_count_121
    by_cases kc1_6 : i1.toInt = 6
    · refine lv_tableIn (off := 121) (tgt := 122) hx hb dX11_count_1 (by rw [kc1_6]; decide) (by rw [kc1_6]; decide) (by rw [kc1_6]; rfl) (by decide) ?_
      have fkc1_6 : q_V 6 6 i1 := q_c kc1_6
      refine lv_aload_n hx hb dX11_count_122 rfl (lv_at hl 0 rfl) ?_
      refine q_getr hE hW h0 rfl q_k11 5 (by decide) rfl (hE.l wl_35) dX11_count_123 (fun kb22 ekb22 hkb22a hkb22b => ?_)
      have hkb22 : q_T G kb22 = 7 := q_tag hkb22a hkb22b
      refine lv_iconst (v := 3) hx hb dX11_count_126 (by decide) ?_
      refine q_goi hW (q_runV (As := [.int 3]) (rest := []) hE hW (c_X2_cloudsThatAre_tz l G σ kb22 hkb22 3 (q_fr.sub hz (by decide) (by decide))) kw_X11_311 (q_recv hE hW hkb22 rfl q_k2) rfl hl.1 rfl (Nat.le_of_ble_eq_true rfl) dX11_count_127 ⟨by decide, by decide⟩ ⟨by decide, by decide⟩) (by decide) (fun kx26 ks24 H locs kp23 kf25 hW => ?_)
      have kz27 := (q_fr.fr (q_fr.sub (F2 := [(7, 1), (7, 4), (7, 6), (7, 7), (7, 8), (13, 1), (23, 0), (26, 10), (26, 17)]) (A2 := [(12, 0, 6)]) hz (by decide) (by decide)) kf25 (by decide) (by decide))
      obtain rfl : (0 : Int32) = kx26 := (q_lit kp23 (by decide)).symm
      exact q_reti hE hr hlocks hW (⟨((q_c (k := 0) (x := 0) (by decide)).w (by decide) (by decide)), (by have := fkc1_6.1; have := fkc1_6.2; unfold kz_count; (repeat' split) <;> first | rfl | omega)⟩) dX11_count_130
    by_cases kc1_7 : i1.toInt = 7
    · refine lv_tableIn (off := 130) (tgt := 131) hx hb dX11_count_1 (by rw [kc1_7]; decide) (by rw [kc1_7]; decide) (by rw [kc1_7]; rfl) (by decide) ?_
      have fkc1_7 : q_V 7 7 i1 := q_c kc1_7
      refine lv_aload_n hx hb dX11_count_131 rfl (lv_at hl 0 rfl) ?_
      refine q_getr hE hW h0 rfl q_k11 5 (by decide) rfl (hE.l wl_35) dX11_count_132 (fun kb28 ekb28 hkb28a hkb28b => ?_)
      have hkb28 : q_T G kb28 = 7 := q_tag hkb28a hkb28b
      refine lv_iconst (v := 4) hx hb dX11_count_135 (by decide) ?_
      refine q_goi hW (q_runV (As := [.int 4]) (rest := []) hE hW (c_X2_cloudsThatAre_tz l G σ kb28 hkb28 4 (q_fr.sub hz (by decide) (by decide))) kw_X11_311 (q_recv hE hW hkb28 rfl q_k2) rfl hl.1 rfl (Nat.le_of_ble_eq_true rfl) dX11_count_136 ⟨by decide, by decide⟩ ⟨by decide, by decide⟩) (by decide) (fun kx32 ks30 H locs kp29 kf31 hW => ?_)
      have kz33 := (q_fr.fr (q_fr.sub (F2 := [(7, 1), (7, 4), (7, 6), (7, 7), (7, 8), (13, 1), (23, 0), (26, 10), (26, 17)]) (A2 := [(12, 0, 6)]) hz (by decide) (by decide)) kf31 (by decide) (by decide))
      obtain rfl : (0 : Int32) = kx32 := (q_lit kp29 (by decide)).symm
      exact q_reti hE hr hlocks hW (⟨((q_c (k := 0) (x := 0) (by decide)).w (by decide) (by decide)), (by have := fkc1_7.1; have := fkc1_7.2; unfold kz_count; (repeat' split) <;> first | rfl | omega)⟩) dX11_count_139
    by_cases kc1_8 : i1.toInt = 8
    · refine lv_tableIn (off := 139) (tgt := 140) hx hb dX11_count_1 (by rw [kc1_8]; decide) (by rw [kc1_8]; decide) (by rw [kc1_8]; rfl) (by decide) ?_
      have fkc1_8 : q_V 8 8 i1 := q_c kc1_8
      refine lv_aload_n hx hb dX11_count_140 rfl (lv_at hl 0 rfl) ?_
      refine q_geti hE hW h0 rfl q_k11 17 (by decide) rfl (hE.l wl_434) dX11_count_141 (fun kx34 ekx34 vkx34 => ?_)
      obtain rfl : (0 : Int32) = kx34 := (q_fr.f hz (t := 26) (k := 17) (by decide) h0).symm.trans ekx34
      exact q_reti hE hr hlocks hW (⟨((q_c (k := 0) (x := 0) (by decide)).w (by decide) (by decide)), (by have := fkc1_8.1; have := fkc1_8.2; unfold kz_count; (repeat' split) <;> first | rfl | omega)⟩) dX11_count_144
    by_cases kc1_9 : i1.toInt = 9
    · refine lv_tableIn (off := 144) (tgt := 145) hx hb dX11_count_1 (by rw [kc1_9]; decide) (by rw [kc1_9]; decide) (by rw [kc1_9]; rfl) (by decide) ?_
      have fkc1_9 : q_V 9 9 i1 := q_c kc1_9
      refine lv_aload_n hx hb dX11_count_145 rfl (lv_at hl 0 rfl) ?_
      refine q_goi hW (q_runV (As := []) (rest := []) hE hW (c_X11_linesThere_tz l G σ a0 h0 (q_fr.sub hz (by decide) (by decide))) kw_X11_314 (q_recv hE hW h0 rfl q_k11) rfl hl.1 rfl (Nat.le_of_ble_eq_true rfl) dX11_count_146 ⟨by decide, by decide⟩ ⟨by decide, by decide⟩) (by decide) (fun kx38 ks36 H locs kp35 kf37 hW => ?_)
      have kz39 := (q_fr.fr (q_fr.sub (F2 := [(7, 1), (7, 4), (7, 6), (7, 7), (7, 8), (13, 1), (23, 0), (26, 10), (26, 17)]) (A2 := [(12, 0, 6)]) hz (by decide) (by decide)) kf37 (by decide) (by decide))
      obtain rfl : (0 : Int32) = kx38 := (q_lit kp35 (by decide)).symm
      exact q_reti hE hr hlocks hW (⟨((q_c (k := 0) (x := 0) (by decide)).w (by decide) (by decide)), (by have := fkc1_9.1; have := fkc1_9.2; unfold kz_count; (repeat' split) <;> first | rfl | omega)⟩) dX11_count_149
    by_cases kc1_10 : i1.toInt = 10
    · refine lv_tableIn (off := 149) (tgt := 150) hx hb dX11_count_1 (by rw [kc1_10]; decide) (by rw [kc1_10]; decide) (by rw [kc1_10]; rfl) (by decide) ?_
      have fkc1_10 : q_V 10 10 i1 := q_c kc1_10
      refine lv_aload_n hx hb dX11_count_150 rfl (lv_at hl 0 rfl) ?_
      refine q_geti hE hW h0 rfl q_k11 10 (by decide) rfl (hE.l wl_435) dX11_count_151 (fun kx40 ekx40 vkx40 => ?_)
      obtain rfl : (0 : Int32) = kx40 := (q_fr.f hz (t := 26) (k := 10) (by decide) h0).symm.trans ekx40
      exact q_reti hE hr hlocks hW (⟨((q_c (k := 0) (x := 0) (by decide)).w (by decide) (by decide)), (by have := fkc1_10.1; have := fkc1_10.2; unfold kz_count; (repeat' split) <;> first | rfl | omega)⟩) dX11_count_154
    by_cases kc1_11 : i1.toInt = 11
    · refine lv_tableIn (off := 154) (tgt := 155) hx hb dX11_count_1 (by rw [kc1_11]; decide) (by rw [kc1_11]; decide) (by rw [kc1_11]; rfl) (by decide) ?_
      have fkc1_11 : q_V 11 11 i1 := q_c kc1_11
      refine lv_aload_n hx hb dX11_count_155 rfl (lv_at hl 0 rfl) ?_
      refine q_getr hE hW h0 rfl q_k11 1 (by decide) rfl (hE.l wl_29) dX11_count_156 (fun kb41 ekb41 hkb41a hkb41b => ?_)
      have hkb41 : q_T G kb41 = 13 := q_tag hkb41a hkb41b
      refine q_geti hE hW hkb41 rfl q_k8 1 (by decide) rfl (hE.n 0 rfl) dX11_count_159 (fun kx42 ekx42 vkx42 => ?_)
      obtain rfl : (0 : Int32) = kx42 := (q_fr.f hz (t := 13) (k := 1) (by decide) hkb41).symm.trans ekx42
      exact q_reti hE hr hlocks hW (⟨((q_c (k := 0) (x := 0) (by decide)).w (by decide) (by decide)), (by have := fkc1_11.1; have := fkc1_11.2; unfold kz_count; (repeat' split) <;> first | rfl | omega)⟩) dX11_count_162
    by_cases kc1_12 : i1.toInt = 12
    · refine lv_tableIn (off := 162) (tgt := 163) hx hb dX11_count_1 (by rw [kc1_12]; decide) (by rw [kc1_12]; decide) (by rw [kc1_12]; rfl) (by decide) ?_
      have fkc1_12 : q_V 12 12 i1 := q_c kc1_12
      refine lv_aload_n hx hb dX11_count_163 rfl (lv_at hl 0 rfl) ?_
      refine q_getr hE hW h0 rfl q_k11 5 (by decide) rfl (hE.l wl_35) dX11_count_164 (fun kb43 ekb43 hkb43a hkb43b => ?_)
      have hkb43 : q_T G kb43 = 7 := q_tag hkb43a hkb43b
      refine q_geti hE hW hkb43 rfl q_k2 7 (by decide) rfl (hE.n 32 rfl) dX11_count_167 (fun kx44 ekx44 vkx44 => ?_)
      obtain rfl : (8 : Int32) = kx44 := (q_fr.f hz (t := 7) (k := 7) (by decide) hkb43).symm.trans ekx44
      exact q_reti hE hr hlocks hW (⟨((q_c (k := 8) (x := 8) (by decide)).w (by decide) (by decide)), (by have := fkc1_12.1; have := fkc1_12.2; unfold kz_count; (repeat' split) <;> first | rfl | omega)⟩) dX11_count_170
    have kc1_13 : i1.toInt = 13 := by omega
    refine lv_tableIn (off := 170) (tgt := 171) hx hb dX11_count_1 (by rw [kc1_13]; decide) (by rw [kc1_13]; decide) (by rw [kc1_13]; rfl) (by decide) ?_
    have fkc1_13 : q_V 13 13 i1 := q_c kc1_13
    refine lv_aload_n hx hb dX11_count_171 rfl (lv_at hl 0 rfl) ?_
    refine q_getr hE hW h0 rfl q_k11 5 (by decide) rfl (hE.l wl_35) dX11_count_172 (fun kb45 ekb45 hkb45a hkb45b => ?_)
    have hkb45 : q_T G kb45 = 7 := q_tag hkb45a hkb45b
    refine q_goi hW (q_runV (As := []) (rest := []) hE hW (c_X2_allWater_tz l G σ kb45 hkb45 (q_fr.sub hz (by decide) (by decide))) kw_X11_320 (q_recv hE hW hkb45 rfl q_k2) rfl hl.1 rfl (Nat.le_of_ble_eq_true rfl) dX11_count_175 ⟨by decide, by decide⟩ ⟨by decide, by decide⟩) (by decide) (fun kx49 ks47 H locs kp46 kf48 hW => ?_)
    have kz50 := (q_fr.fr (q_fr.sub (F2 := [(7, 1), (7, 4), (7, 6), (7, 7), (7, 8), (13, 1), (23, 0), (26, 10), (26, 17)]) (A2 := [(12, 0, 6)]) hz (by decide) (by decide)) kf48 (by decide) (by decide))
    obtain rfl : (0 : Int32) = kx49 := (q_lit kp46 (by decide)).symm
    exact q_reti hE hr hlocks hW (⟨((q_c (k := 0) (x := 0) (by decide)).w (by decide) (by decide)), (by have := fkc1_13.1; have := fkc1_13.2; unfold kz_count; (repeat' split) <;> first | rfl | omega)⟩) dX11_count_178
set_option maxHeartbeats 4000000 in
set_option maxRecDepth 100000 in
theorem c_X11_pin_tz (l : Launch) (G : q_G) (σ : q_S) (a0 : Nat) (h0 : q_T G a0 = 26) (i1 : Int32) (i2 : Int32) (i3 : Int32) (i4 : Int32) (hz : q_fr G [(7, 1), (23, 0)] [] σ) : Met l yX11_pin (Cond.code yX11_pin cX11_pin 7 (some .int) :: wsL_law) (q_Rm 3) (q_Pre G σ [.ref a0, .int i1, .int i2, .int i3, .int i4]) (q_Qi G [24, 25] σ (fun r σ1 => q_V (-2147483648) 2147483647 r ∧ r = kz_pin i1 i2 i3 i4)) 0 0 (q_N G) := by
  refine q_ofW (ts := [24, 25]) (by decide) (Nat.le_of_ble_eq_true rfl) ?_
  intro p e s m args below meth c hE hr hlocks hW ls hl
  have hE : q_E G p s m args c cX11_pin 7 RX11 := hE
  have hx := hE.1.1
  have hb := hE.1.2.1
  have hl : lv_has ls 7 [(0, .ref a0), (1, .int i1), (2, .int i2), (3, .int i3), (4, .int i4)] := hl
  refine lv_aload_n hx hb dX11_pin_0 rfl (lv_at hl 0 rfl) ?_
  refine lv_iload_n hx hb dX11_pin_1 rfl (lv_at hl 1 rfl) ?_
  refine q_goq hW (q_runV (As := [.int i1]) (rest := []) hE hW (c_X11_lineAt_tx l G σ a0 h0 i1) kw_X11_272 (q_recv hE hW h0 rfl q_k11) rfl hl.1 rfl (Nat.le_of_ble_eq_true rfl) dX11_pin_2 ⟨by decide, by decide⟩ ⟨by decide, by decide⟩) (by decide) (fun ks2 H locs kp1 kf3 hW => ?_) (fun kb4 ks2 H locs kp1 kf3 hW => ?_)
  · refine lv_astoreN (lv' := [(5, .null), (0, .ref a0), (1, .int i1), (2, .int i2), (3, .int i3), (4, .int i4)]) hx hb dX11_pin_5 hl (by decide) rfl (fun ls hl => ?_)
    refine lv_aloadN hx hb dX11_pin_7 (lv_at hl 0 rfl) ?_
    refine lv_ifnullN hx hb dX11_pin_9 (tgt := 28) (by decide) ?_
    refine lv_bipush (v := (-2)) hx hb dX11_pin_28 (by decide) ?_
    exact q_reti hE hr hlocks hW (⟨((q_c (k := (-2)) (x := (-2)) (by decide)).w (by decide) (by decide)), (by have := (kp1.2.1 rfl); unfold kz_pin; (repeat' split) <;> first | rfl | omega)⟩) dX11_pin_30
  · have hkb4 : q_T G kb4 = 23 := kp1.1 kb4 rfl
    have kv5 : q_V 0 2 i1 := kp1.2.2 (fun q_h => by cases q_h)
    refine lv_astore (lv' := [(5, .ref kb4), (0, .ref a0), (1, .int i1), (2, .int i2), (3, .int i3), (4, .int i4)]) hx hb dX11_pin_5 hl (by decide) rfl (fun ls hl => ?_)
    refine lv_aload hx hb dX11_pin_7 (lv_at hl 0 rfl) ?_
    refine lv_ifnull hx hb dX11_pin_9 ?_
    refine lv_iload_n hx hb dX11_pin_12 rfl (lv_at hl 4 rfl) ?_
    refine lv_if_ne (tgt := 31) hx hb dX11_pin_13 (by decide) (fun kc6 => ?_) (fun kc6 => ?_)
    · refine lv_iload_n hx hb dX11_pin_31 rfl (lv_at hl 4 rfl) ?_
      refine lv_if_lt (tgt := 61) hx hb dX11_pin_32 (by decide) (fun kc7 => ?_) (fun kc7 => ?_)
      · have kv8 : q_V (-2147483648) (-1) i3 := (q_lt1 (q_all i3) (q_c (k := 0) (x := 0) (by decide)) kc7).w (by decide) (by decide)
        refine lv_bipush (v := (-3)) hx hb dX11_pin_61 (by decide) ?_
        exact q_reti hE hr hlocks hW (⟨((q_c (k := (-3)) (x := (-3)) (by decide)).w (by decide) (by decide)), (by have := kv5.1; have := kv5.2; have := kv8.1; have := kv8.2; have : i3.toInt ≠ 0 := fun q_e => kc6 (Int32.toInt_inj.mp (q_e.trans (by decide))); unfold kz_pin; (repeat' split) <;> first | rfl | omega)⟩) dX11_pin_63
      · have kv9 : q_V 0 2147483647 i3 := (q_le2 (q_c (k := 0) (x := 0) (by decide)) (q_all i3) (Int32.not_lt.mp kc7)).w (by decide) (by decide)
        have kv10 : q_V 1 2147483647 i3 := q_ne1 kv9 (q_c (k := 0) (x := 0) (by decide)) kc6 (by decide)
        refine lv_iload_n hx hb dX11_pin_35 rfl (lv_at hl 4 rfl) ?_
        refine lv_iconst (v := 2) hx hb dX11_pin_36 (by decide) ?_
        refine lv_icmp_gt (tgt := 61) hx hb dX11_pin_37 (by decide) (fun kc11 => ?_) (fun kc11 => ?_)
        · have kv12 : q_V 3 2147483647 i3 := (q_lt2 (q_c (k := 2) (x := 2) (by decide)) kv10 kc11).w (by decide) (by decide)
          refine lv_bipush (v := (-3)) hx hb dX11_pin_61 (by decide) ?_
          exact q_reti hE hr hlocks hW (⟨((q_c (k := (-3)) (x := (-3)) (by decide)).w (by decide) (by decide)), (by have := kv5.1; have := kv5.2; have := kv12.1; have := kv12.2; have : i3.toInt ≠ 0 := fun q_e => kc6 (Int32.toInt_inj.mp (q_e.trans (by decide))); unfold kz_pin; (repeat' split) <;> first | rfl | omega)⟩) dX11_pin_63
        · have kv13 : q_V 1 2 i3 := (q_le1 kv10 (q_c (k := 2) (x := 2) (by decide)) (Int32.not_lt.mp kc11)).w (by decide) (by decide)
          refine lv_iload_n hx hb dX11_pin_40 rfl (lv_at hl 4 rfl) ?_
          refine lv_iconst (v := 1) hx hb dX11_pin_41 (by decide) ?_
          refine lv_icmp_ne (tgt := 64) hx hb dX11_pin_42 (by decide) (fun kc14 => ?_) (fun kc14 => ?_)
          · have kv15 : q_V 2 2 i3 := q_ne1 kv13 (q_c (k := 1) (x := 1) (by decide)) kc14 (by decide)
            refine lv_aload hx hb dX11_pin_64 (lv_at hl 0 rfl) ?_
            refine q_geti hE hW hkb4 rfl q_k5 0 (by decide) rfl (hE.n 37 rfl) dX11_pin_66 (fun kx16 ekx16 vkx16 => ?_)
            obtain rfl : (0 : Int32) = kx16 := (q_fr.f (q_fr.fr (q_fr.sub (F2 := [(7, 1), (23, 0)]) (A2 := []) hz (by decide) (by decide)) kf3 (by decide) (by decide)) (t := 23) (k := 0) (by decide) hkb4).symm.trans ekx16
            refine lv_if_ne (tgt := 75) hx hb dX11_pin_69 (by decide) (fun kc17 => ?_) (fun kc17 => ?_)
            · exact q_neq (q_c (k := 0) (x := 0) (by decide)) (q_c (k := 0) (x := 0) (by decide)) kc17
            · refine lv_bipush (v := (-11)) hx hb dX11_pin_72 (by decide) ?_
              exact q_reti hE hr hlocks hW (⟨((q_c (k := (-11)) (x := (-11)) (by decide)).w (by decide) (by decide)), (by have := kv5.1; have := kv5.2; have := kv15.1; have := kv15.2; have : i3.toInt ≠ 0 := fun q_e => kc6 (Int32.toInt_inj.mp (q_e.trans (by decide))); have : i3.toInt ≠ 1 := fun q_e => kc14 (Int32.toInt_inj.mp (q_e.trans (by decide))); unfold kz_pin; (repeat' split) <;> first | rfl | omega)⟩) dX11_pin_74
          · have kv18 : q_V 1 1 i3 := q_eq1 kv13 (q_c (k := 1) (x := 1) (by decide)) kc14 (by decide) (by decide)
            refine lv_iload hx hb dX11_pin_45 (lv_at hl 5 rfl) ?_
            refine lv_sipush (v := (-999)) hx hb dX11_pin_47 (by decide) ?_
            refine lv_icmp_lt (tgt := 61) hx hb dX11_pin_50 (by decide) (fun kc19 => ?_) (fun kc19 => ?_)
            · have kv20 : q_V (-2147483648) (-1000) i4 := (q_lt1 (q_all i4) (q_c (k := (-999)) (x := (-999)) (by decide)) kc19).w (by decide) (by decide)
              refine lv_bipush (v := (-3)) hx hb dX11_pin_61 (by decide) ?_
              exact q_reti hE hr hlocks hW (⟨((q_c (k := (-3)) (x := (-3)) (by decide)).w (by decide) (by decide)), (by have := kv5.1; have := kv5.2; have := kv18.1; have := kv18.2; have := kv20.1; have := kv20.2; have : i3.toInt ≠ 0 := fun q_e => kc6 (Int32.toInt_inj.mp (q_e.trans (by decide))); unfold kz_pin; (repeat' split) <;> first | rfl | omega)⟩) dX11_pin_63
            · have kv21 : q_V (-999) 2147483647 i4 := (q_le2 (q_c (k := (-999)) (x := (-999)) (by decide)) (q_all i4) (Int32.not_lt.mp kc19)).w (by decide) (by decide)
              refine lv_iload hx hb dX11_pin_53 (lv_at hl 5 rfl) ?_
              refine lv_sipush (v := 999) hx hb dX11_pin_55 (by decide) ?_
              refine lv_icmp_le (tgt := 64) hx hb dX11_pin_58 (by decide) (fun kc22 => ?_) (fun kc22 => ?_)
              · have kv23 : q_V (-999) 999 i4 := (q_le1 kv21 (q_c (k := 999) (x := 999) (by decide)) kc22).w (by decide) (by decide)
                refine lv_aload hx hb dX11_pin_64 (lv_at hl 0 rfl) ?_
                refine q_geti hE hW hkb4 rfl q_k5 0 (by decide) rfl (hE.n 37 rfl) dX11_pin_66 (fun kx24 ekx24 vkx24 => ?_)
                obtain rfl : (0 : Int32) = kx24 := (q_fr.f (q_fr.fr (q_fr.sub (F2 := [(7, 1), (23, 0)]) (A2 := []) hz (by decide) (by decide)) kf3 (by decide) (by decide)) (t := 23) (k := 0) (by decide) hkb4).symm.trans ekx24
                refine lv_if_ne (tgt := 75) hx hb dX11_pin_69 (by decide) (fun kc25 => ?_) (fun kc25 => ?_)
                · exact q_neq (q_c (k := 0) (x := 0) (by decide)) (q_c (k := 0) (x := 0) (by decide)) kc25
                · refine lv_bipush (v := (-11)) hx hb dX11_pin_72 (by decide) ?_
                  exact q_reti hE hr hlocks hW (⟨((q_c (k := (-11)) (x := (-11)) (by decide)).w (by decide) (by decide)), (by have := kv5.1; have := kv5.2; have := kv18.1; have := kv18.2; have := kv23.1; have := kv23.2; have : i3.toInt ≠ 0 := fun q_e => kc6 (Int32.toInt_inj.mp (q_e.trans (by decide))); unfold kz_pin; (repeat' split) <;> first | rfl | omega)⟩) dX11_pin_74
              · have kv26 : q_V 1000 2147483647 i4 := (q_lt2 (q_c (k := 999) (x := 999) (by decide)) kv21 (Int32.not_le.mp kc22)).w (by decide) (by decide)
                refine lv_bipush (v := (-3)) hx hb dX11_pin_61 (by decide) ?_
                exact q_reti hE hr hlocks hW (⟨((q_c (k := (-3)) (x := (-3)) (by decide)).w (by decide) (by decide)), (by have := kv5.1; have := kv5.2; have := kv18.1; have := kv18.2; have := kv26.1; have := kv26.2; have : i3.toInt ≠ 0 := fun q_e => kc6 (Int32.toInt_inj.mp (q_e.trans (by decide))); unfold kz_pin; (repeat' split) <;> first | rfl | omega)⟩) dX11_pin_63
    · have kv27 : q_V 0 0 i3 := q_eq1 (q_all i3) (q_c (k := 0) (x := 0) (by decide)) kc6 (by decide) (by decide)
      refine lv_aload_n hx hb dX11_pin_16 rfl (lv_at hl 1 rfl) ?_
      refine q_getr hE hW h0 rfl q_k11 5 (by decide) rfl (hE.l wl_35) dX11_pin_17 (fun kb28 ekb28 hkb28a hkb28b => ?_)
      have hkb28 : q_T G kb28 = 7 := q_tag hkb28a hkb28b
      refine lv_iload hx hb dX11_pin_20 (lv_at hl 5 rfl) ?_
      refine q_goq hW (q_runV (As := [.int i4]) (rest := []) hE hW (c_X2_cloudAt_tz l G ks2 kb28 hkb28 i4 (q_fr.sub (q_fr.fr (q_fr.sub (F2 := [(7, 1), (23, 0)]) (A2 := []) hz (by decide) (by decide)) kf3 (by decide) (by decide)) (by decide) (by decide))) kw_X11_137 (q_recv hE hW hkb28 rfl q_k2) rfl hl.1 rfl (Nat.le_of_ble_eq_true rfl) dX11_pin_22 ⟨by decide, by decide⟩ ⟨by decide, by decide⟩) (by decide) (fun ks30 H locs kp29 kf31 hW => ?_) (fun kb32 ks30 H locs kp29 kf31 hW => ?_)
      · refine lv_ifnonnullN hx hb dX11_pin_25 ?_
        refine lv_bipush (v := (-2)) hx hb dX11_pin_28 (by decide) ?_
        exact q_reti hE hr hlocks hW (⟨((q_c (k := (-2)) (x := (-2)) (by decide)).w (by decide) (by decide)), (by have := kv5.1; have := kv5.2; have := kv27.1; have := kv27.2; unfold kz_pin; (repeat' split) <;> first | rfl | omega)⟩) dX11_pin_30
      · exact absurd kp29.2 (fun q_h => by cases q_h)
set_option maxHeartbeats 4000000 in
set_option maxRecDepth 100000 in
theorem c_X7_readsClause_tz (l : Launch) (G : q_G) (σ : q_S) (a0 : Nat) (h0 : q_T G a0 = 15) (h3 : q_I σ a0 3 = 0) (h4 : q_I σ a0 4 = 0) (hz : q_fr G [] [] σ) : Met l yX7_readsClause (Cond.code yX7_readsClause cX7_readsClause 2 (some .boolean) :: wsL_law) (q_Rm 6) (q_Pre G σ [.ref a0]) (q_Qi G [] σ (fun r σ1 => q_V 0 0 r)) 0 0 (q_N G) := by
  refine q_ofW (ts := []) (by decide) (Nat.le_of_ble_eq_true rfl) ?_
  intro p e s m args below meth c hE hr hlocks hW ls hl
  have hE : q_E G p s m args c cX7_readsClause 2 RX7 := hE
  have hx := hE.1.1
  have hb := hE.1.2.1
  have hl : lv_has ls 2 [(0, .ref a0)] := hl
  have lp80a : ∀ (n80a : Nat) (ks2 : q_S) (H : Heap) (locs : List Loc) (kx1 : Int32) (vkx1 : q_V 0 4 kx1) (ke3 : q_I ks2 a0 3 = 0) (ke4 : q_I ks2 a0 4 = 0) (hW : q_Wd G [] σ s.heap ks2 H locs) (hz80a : q_fr G [] [] ks2) (ls : Array Slot) (hl : lv_has ls 2 [(0, .ref a0), (1, .int kx1)]), (4 - kx1.toInt).toNat < n80a → W p l e (q_Rm 6) s m args below meth c H locs 0 0 (MQ below (q_Qi G [] σ (fun r σ1 => q_V 0 0 r)) args s 0 0 (q_N G)) (F0 m 80 ls []) := by
    intro n80a
    induction n80a with
    | zero => intro _ _ _ _ _ _ _ _ _ _ _; exact fun h => absurd h (Nat.not_lt_zero _)
    | succ n80a ih80a =>
      intro ks2 H locs kx1 vkx1 ke3 ke4 hW hz80a ls hl hm80a
      refine lv_iload_n hx hb dX7_readsClause_80 rfl (lv_at hl 1 rfl) ?_
      refine lv_aload_n hx hb dX7_readsClause_81 rfl (lv_at hl 0 rfl) ?_
      refine q_getr hE hW h0 rfl q_k7 2 (by decide) rfl (hE.l wl_107) dX7_readsClause_82 (fun kb5 ekb5 hkb5a hkb5b => ?_)
      have hkb5 : q_T G kb5 = 27 := q_tag hkb5a hkb5b
      refine q_alen hE hW hkb5 rfl dX7_readsClause_85 ?_
      refine lv_eqi (y := 4) (by decide) ?_
      refine lv_icmp_ge (tgt := 122) hx hb dX7_readsClause_86 (by decide) (fun kc6 => ?_) (fun kc6 => ?_)
      · have kv7 : q_V 4 4 kx1 := (q_le2 (q_c (k := 4) (x := 4) (by decide)) vkx1 kc6).w (by decide) (by decide)
        refine lv_iconst (v := 0) hx hb dX7_readsClause_122 (by decide) ?_
        exact q_retz hE hr hlocks hW (Or.inl rfl) ((q_c (k := 0) (x := 0) (by decide))) dX7_readsClause_123
      · have kv8 : q_V 0 3 kx1 := (q_lt1 vkx1 (q_c (k := 4) (x := 4) (by decide)) (Int32.not_le.mp kc6)).w (by decide) (by decide)
        refine lv_aload_n hx hb dX7_readsClause_89 rfl (lv_at hl 0 rfl) ?_
        refine lv_aload_n hx hb dX7_readsClause_90 rfl (lv_at hl 0 rfl) ?_
        refine q_getr hE hW h0 rfl q_k7 2 (by decide) rfl (hE.l wl_107) dX7_readsClause_91 (fun kb9 ekb9 hkb9a hkb9b => ?_)
        obtain rfl : kb5 = kb9 := ekb5.symm.trans ekb9
        refine lv_iload_n hx hb dX7_readsClause_94 rfl (lv_at hl 1 rfl) ?_
        refine q_aald hE hW hkb5 rfl (q_in kv8 (by decide) (by decide)) dX7_readsClause_95 (fun kb10 ekb10 hkb10a hkb10b => ?_)
        refine q_goq hW (kd_X7_96 l (rest := [.ref a0]) hE hW hkb10a hkb10b hl.1 rfl (Nat.le_of_ble_eq_true rfl) dX7_readsClause_96 ⟨by decide, by decide⟩ ⟨by decide, by decide⟩) (by decide) (fun ks13 H locs kp11 kf12 hW => ?_) (fun kb14 ks13 H locs kp11 kf12 hW => ?_)
        · obtain ⟨_, _, q_h⟩ := kp11; cases q_h
        obtain ⟨kk15, hkk15, q_h⟩ := kp11
        obtain rfl := Option.some.inj q_h
        refine q_goi hW (q_runV (As := [.ref (q_aK G kk15)]) (rest := []) hE hW (c_X7_isWord_tz l G ks13 a0 h0 kk15 hkk15 ((kf12.I _ h0 (by decide)).trans ke3) ((kf12.I _ h0 (by decide)).trans ke4) (q_fr.sub (q_fr.fr (q_fr.sub (F2 := []) (A2 := []) hz80a (by decide) (by decide)) kf12 (by decide) (by decide)) (by decide) (by decide))) kw_X7_69 (q_recv hE hW h0 rfl q_k7) rfl hl.1 rfl (Nat.le_of_ble_eq_true rfl) dX7_readsClause_99 ⟨by decide, by decide⟩ ⟨by decide, by decide⟩) (by decide) (fun kx19 ks17 H locs kp16 kf18 hW => ?_)
        have kz20 := (q_fr.fr (q_fr.sub (F2 := []) (A2 := []) (q_fr.fr (q_fr.sub (F2 := []) (A2 := []) hz80a (by decide) (by decide)) kf12 (by decide) (by decide)) (by decide) (by decide)) kf18 (by decide) (by decide))
        obtain rfl : (0 : Int32) = kx19 := (q_lit kp16 (by decide)).symm
        refine lv_if_eq (tgt := 116) hx hb dX7_readsClause_102 (by decide) (fun kc21 => ?_) (fun kc21 => ?_)
        · obtain ⟨kx22, ekx22⟩ : ∃ y : Int32, y = kx1 + 1 := ⟨_, rfl⟩
          have vkx22 : q_V 1 4 kx22 := by rw [ekx22]; exact (q_add kv8 (q_c (k := 1) (x := 1) (by decide)) (by decide) (by decide)).w (by decide) (by decide)
          have ikx22 : kx22.toInt = kx1.toInt + 1 := q_incT ekx22 kv8 (by decide) (by decide) (by decide)
          refine lv_iinc (v := kx22) (lv' := [(1, .int kx22), (0, .ref a0)]) hx hb dX7_readsClause_116 hl (k := 1) rfl (by rw [ekx22]; rfl) (by decide) rfl (fun ls hl => ?_)
          refine lv_goto (tgt := 80) hx hb dX7_readsClause_119 (by decide) ?_
          exact ih80a _ _ _ kx22 (vkx22.w (by decide) (by decide)) (((kf18.I _ h0 (by decide)).trans (kf12.I _ h0 (by decide))).trans ke3) (((kf18.I _ h0 (by decide)).trans (kf12.I _ h0 (by decide))).trans ke4) hW (q_fr.sub kz20 (by decide) (by decide)) ls (lv_sub hl [1, 0] rfl) (Nat.lt_of_lt_of_le (q_up (ikx22) (show q_V 1 4 kx22 from vkx22).2) (Nat.le_of_lt_succ hm80a))
        · exact q_neq (q_c (k := 0) (x := 0) (by decide)) (q_c (k := 0) (x := 0) (by decide)) kc21
  refine lv_aload_n hx hb dX7_readsClause_0 rfl (lv_at hl 0 rfl) ?_
  refine q_ldcS hE 0 rfl dX7_readsClause_1 ?_
  refine q_goi hW (q_runV (As := [.ref (q_aK G 0)]) (rest := []) hE hW (c_X7_isWord_tz l G σ a0 h0 0 (by decide) h3 h4 (q_fr.sub hz (by decide) (by decide))) kw_X7_69 (q_recv hE hW h0 rfl q_k7) rfl hl.1 rfl (Nat.le_of_ble_eq_true rfl) dX7_readsClause_3 ⟨by decide, by decide⟩ ⟨by decide, by decide⟩) (by decide) (fun kx26 ks24 H locs kp23 kf25 hW => ?_)
  have kz27 := (q_fr.fr (q_fr.sub (F2 := []) (A2 := []) hz (by decide) (by decide)) kf25 (by decide) (by decide))
  obtain rfl : (0 : Int32) = kx26 := (q_lit kp23 (by decide)).symm
  refine lv_if_eq (tgt := 22) hx hb dX7_readsClause_6 (by decide) (fun kc28 => ?_) (fun kc28 => ?_)
  · refine lv_aload_n hx hb dX7_readsClause_22 rfl (lv_at hl 0 rfl) ?_
    refine q_ldcS hE 1 rfl dX7_readsClause_23 ?_
    refine q_goi hW (q_runV (As := [.ref (q_aK G 1)]) (rest := []) hE hW (c_X7_isWord_tz l G ks24 a0 h0 1 (by decide) ((kf25.I _ h0 (by decide)).trans h3) ((kf25.I _ h0 (by decide)).trans h4) (q_fr.sub kz27 (by decide) (by decide))) kw_X7_69 (q_recv hE hW h0 rfl q_k7) rfl hl.1 rfl (Nat.le_of_ble_eq_true rfl) dX7_readsClause_25 ⟨by decide, by decide⟩ ⟨by decide, by decide⟩) (by decide) (fun kx32 ks30 H locs kp29 kf31 hW => ?_)
    have kz33 := (q_fr.fr (q_fr.sub (F2 := []) (A2 := []) kz27 (by decide) (by decide)) kf31 (by decide) (by decide))
    obtain rfl : (0 : Int32) = kx32 := (q_lit kp29 (by decide)).symm
    refine lv_if_eq (tgt := 36) hx hb dX7_readsClause_28 (by decide) (fun kc34 => ?_) (fun kc34 => ?_)
    · refine lv_aload_n hx hb dX7_readsClause_36 rfl (lv_at hl 0 rfl) ?_
      refine q_ldcS hE 2 rfl dX7_readsClause_37 ?_
      refine q_goi hW (q_runV (As := [.ref (q_aK G 2)]) (rest := []) hE hW (c_X7_isWord_tz l G ks30 a0 h0 2 (by decide) (((kf31.I _ h0 (by decide)).trans (kf25.I _ h0 (by decide))).trans h3) (((kf31.I _ h0 (by decide)).trans (kf25.I _ h0 (by decide))).trans h4) (q_fr.sub kz33 (by decide) (by decide))) kw_X7_69 (q_recv hE hW h0 rfl q_k7) rfl hl.1 rfl (Nat.le_of_ble_eq_true rfl) dX7_readsClause_39 ⟨by decide, by decide⟩ ⟨by decide, by decide⟩) (by decide) (fun kx38 ks36 H locs kp35 kf37 hW => ?_)
      have kz39 := (q_fr.fr (q_fr.sub (F2 := []) (A2 := []) kz33 (by decide) (by decide)) kf37 (by decide) (by decide))
      obtain rfl : (0 : Int32) = kx38 := (q_lit kp35 (by decide)).symm
      refine lv_if_eq (tgt := 50) hx hb dX7_readsClause_42 (by decide) (fun kc40 => ?_) (fun kc40 => ?_)
      · refine lv_aload_n hx hb dX7_readsClause_50 rfl (lv_at hl 0 rfl) ?_
        refine q_ldcS hE 3 rfl dX7_readsClause_51 ?_
        refine q_goi hW (q_runV (As := [.ref (q_aK G 3)]) (rest := []) hE hW (c_X7_isWord_tz l G ks36 a0 h0 3 (by decide) ((((kf37.I _ h0 (by decide)).trans (kf31.I _ h0 (by decide))).trans (kf25.I _ h0 (by decide))).trans h3) ((((kf37.I _ h0 (by decide)).trans (kf31.I _ h0 (by decide))).trans (kf25.I _ h0 (by decide))).trans h4) (q_fr.sub kz39 (by decide) (by decide))) kw_X7_69 (q_recv hE hW h0 rfl q_k7) rfl hl.1 rfl (Nat.le_of_ble_eq_true rfl) dX7_readsClause_53 ⟨by decide, by decide⟩ ⟨by decide, by decide⟩) (by decide) (fun kx44 ks42 H locs kp41 kf43 hW => ?_)
        have kz45 := (q_fr.fr (q_fr.sub (F2 := []) (A2 := []) kz39 (by decide) (by decide)) kf43 (by decide) (by decide))
        obtain rfl : (0 : Int32) = kx44 := (q_lit kp41 (by decide)).symm
        refine lv_if_eq (tgt := 64) hx hb dX7_readsClause_56 (by decide) (fun kc46 => ?_) (fun kc46 => ?_)
        · refine lv_aload_n hx hb dX7_readsClause_64 rfl (lv_at hl 0 rfl) ?_
          refine q_ldcS hE 4 rfl dX7_readsClause_65 ?_
          refine q_goi hW (q_runV (As := [.ref (q_aK G 4)]) (rest := []) hE hW (c_X7_isWord_tz l G ks42 a0 h0 4 (by decide) (((((kf43.I _ h0 (by decide)).trans (kf37.I _ h0 (by decide))).trans (kf31.I _ h0 (by decide))).trans (kf25.I _ h0 (by decide))).trans h3) (((((kf43.I _ h0 (by decide)).trans (kf37.I _ h0 (by decide))).trans (kf31.I _ h0 (by decide))).trans (kf25.I _ h0 (by decide))).trans h4) (q_fr.sub kz45 (by decide) (by decide))) kw_X7_69 (q_recv hE hW h0 rfl q_k7) rfl hl.1 rfl (Nat.le_of_ble_eq_true rfl) dX7_readsClause_67 ⟨by decide, by decide⟩ ⟨by decide, by decide⟩) (by decide) (fun kx50 ks48 H locs kp47 kf49 hW => ?_)
          have kz51 := (q_fr.fr (q_fr.sub (F2 := []) (A2 := []) kz45 (by decide) (by decide)) kf49 (by decide) (by decide))
          obtain rfl : (0 : Int32) = kx50 := (q_lit kp47 (by decide)).symm
          refine lv_if_eq (tgt := 78) hx hb dX7_readsClause_70 (by decide) (fun kc52 => ?_) (fun kc52 => ?_)
          · refine lv_iconst (v := 0) hx hb dX7_readsClause_78 (by decide) ?_
            refine lv_istore_n (lv' := [(1, .int 0), (0, .ref a0)]) hx hb dX7_readsClause_79 rfl hl (by decide) rfl (fun ls hl => ?_)
            exact lp80a _ _ _ _ 0 ((q_c (k := 0) (x := 0) (by decide)).w (by decide) (by decide)) ((((((kf49.I _ h0 (by decide)).trans (kf43.I _ h0 (by decide))).trans (kf37.I _ h0 (by decide))).trans (kf31.I _ h0 (by decide))).trans (kf25.I _ h0 (by decide))).trans h3) ((((((kf49.I _ h0 (by decide)).trans (kf43.I _ h0 (by decide))).trans (kf37.I _ h0 (by decide))).trans (kf31.I _ h0 (by decide))).trans (kf25.I _ h0 (by decide))).trans h4) hW (q_fr.sub kz51 (by decide) (by decide)) ls (lv_sub hl [1, 0] rfl) (Nat.lt_succ_self _)
          · exact q_neq (q_c (k := 0) (x := 0) (by decide)) (q_c (k := 0) (x := 0) (by decide)) kc52
        · exact q_neq (q_c (k := 0) (x := 0) (by decide)) (q_c (k := 0) (x := 0) (by decide)) kc46
      · exact q_neq (q_c (k := 0) (x := 0) (by decide)) (q_c (k := 0) (x := 0) (by decide)) kc40
    · exact q_neq (q_c (k := 0) (x := 0) (by decide)) (q_c (k := 0) (x := 0) (by decide)) kc34
  · exact q_neq (q_c (k := 0) (x := 0) (by decide)) (q_c (k := 0) (x := 0) (by decide)) kc28
set_option maxHeartbeats 4000000 in
set_option maxRecDepth 100000 in
theorem c_X6_make_tz (l : Launch) (G : q_G) (σ : q_S) (a0 : Nat) (h0 : q_T G a0 = 16) (hz : q_fr G [(7, 1), (7, 4)] [] σ) : Met l yX6_make (Cond.code yX6_make cX6_make 3 none :: wsL_law) (q_Rm 12) (q_Pre G σ [.ref a0]) (q_Qv G [16, 17, 18, 19, 20, 22] σ (fun σ1 => q_I σ1 a0 6 = 0)) 0 0 (q_N G) := by
  refine q_ofW (ts := [16, 17, 18, 19, 20, 22]) (by decide) (Nat.le_of_ble_eq_true rfl) ?_
  intro p e s m args below meth c hE hr hlocks hW ls hl
  have hE : q_E G p s m args c cX6_make 3 RX6 := hE
  have hx := hE.1.1
  have hb := hE.1.2.1
  have hl : lv_has ls 3 [(0, .ref a0)] := hl
  refine lv_aload_n hx hb dX6_make_0 rfl (lv_at hl 0 rfl) ?_
  refine lv_iconst (v := (-1)) hx hb dX6_make_1 (by decide) ?_
  refine q_puti hE hW h0 rfl q_k6 tyX6 tyX6_ok 6 (by decide) rfl (hE.l wl_834) rfl rfl rfl ((q_c (k := (-1)) (x := (-1)) (by decide)).w (by decide) (by decide)) (by decide) dX6_make_2 (fun H locs ks1 kp2 hW => ?_)
  have kz3 := (hz.wI kp2 h0 (Or.inl (by decide)))
  refine lv_aload_n hx hb dX6_make_5 rfl (lv_at hl 0 rfl) ?_
  refine q_getr hE hW h0 rfl q_k6 2 (by decide) rfl (hE.l wl_114) dX6_make_6 (fun kb4 ekb4 hkb4a hkb4b => ?_)
  have hkb4 : q_T G kb4 = 18 := q_tag hkb4a hkb4b
  refine lv_iconst (v := 0) hx hb dX6_make_9 (by decide) ?_
  refine q_gov hW (q_runS (As := [.ref kb4, .int 0]) (rest := []) hE hW (c_J7_fill_53178_t18 l G ks1 kb4 hkb4 0) kw_X6_37 rfl hl.1 rfl (Nat.le_of_ble_eq_true rfl) dX6_make_10 ⟨by decide, by decide⟩ ⟨by decide, by decide⟩) (by decide) (fun ks6 H locs kp5 kf7 hW => ?_)
  have kz8 := (q_fr.fr (q_fr.sub (F2 := [(7, 1), (7, 4)]) (A2 := []) kz3 (by decide) (by decide)) kf7 (by decide) (by decide))
  refine lv_aload_n hx hb dX6_make_13 rfl (lv_at hl 0 rfl) ?_
  refine q_getr hE hW h0 rfl q_k6 3 (by decide) rfl (hE.l wl_115) dX6_make_14 (fun kb9 ekb9 hkb9a hkb9b => ?_)
  have hkb9 : q_T G kb9 = 19 := q_tag hkb9a hkb9b
  refine lv_iconst (v := (-1)) hx hb dX6_make_17 (by decide) ?_
  refine q_gov hW (q_runS (As := [.ref kb9, .int (-1)]) (rest := []) hE hW (c_J7_fill_53178_t19 l G ks6 kb9 hkb9 (-1)) kw_X6_37 rfl hl.1 rfl (Nat.le_of_ble_eq_true rfl) dX6_make_18 ⟨by decide, by decide⟩ ⟨by decide, by decide⟩) (by decide) (fun ks11 H locs kp10 kf12 hW => ?_)
  have kz13 := (q_fr.fr (q_fr.sub (F2 := [(7, 1), (7, 4)]) (A2 := []) kz8 (by decide) (by decide)) kf12 (by decide) (by decide))
  refine lv_aload_n hx hb dX6_make_21 rfl (lv_at hl 0 rfl) ?_
  refine q_getr hE hW h0 rfl q_k6 4 (by decide) rfl (hE.l wl_116) dX6_make_22 (fun kb14 ekb14 hkb14a hkb14b => ?_)
  have hkb14 : q_T G kb14 = 20 := q_tag hkb14a hkb14b
  refine lv_iconst (v := (-1)) hx hb dX6_make_25 (by decide) ?_
  refine q_gov hW (q_runS (As := [.ref kb14, .int (-1)]) (rest := []) hE hW (c_J7_fill_53178_t20 l G ks11 kb14 hkb14 (-1)) kw_X6_37 rfl hl.1 rfl (Nat.le_of_ble_eq_true rfl) dX6_make_26 ⟨by decide, by decide⟩ ⟨by decide, by decide⟩) (by decide) (fun ks16 H locs kp15 kf17 hW => ?_)
  have kz18 := (q_fr.fr (q_fr.sub (F2 := [(7, 1), (7, 4)]) (A2 := []) kz13 (by decide) (by decide)) kf17 (by decide) (by decide))
  refine lv_aload_n hx hb dX6_make_29 rfl (lv_at hl 0 rfl) ?_
  refine q_gov hW (q_runV (As := []) (rest := []) hE hW (c_X6_sortByDue_tz l G ks16 a0 h0 (q_fr.sub kz18 (by decide) (by decide))) kw_X6_43 (q_recv hE hW h0 rfl q_k6) rfl hl.1 rfl (Nat.le_of_ble_eq_true rfl) dX6_make_30 ⟨by decide, by decide⟩ ⟨by decide, by decide⟩) (by decide) (fun ks20 H locs kp19 kf21 hW => ?_)
  have kz22 := (q_fr.fr (q_fr.sub (F2 := [(7, 1), (7, 4)]) (A2 := []) kz18 (by decide) (by decide)) kf21 (by decide) (by decide))
  refine lv_iconst (v := 0) hx hb dX6_make_33 (by decide) ?_
  refine lv_istore_n (lv' := [(1, .int 0), (0, .ref a0)]) hx hb dX6_make_34 rfl hl (by decide) rfl (fun ls hl => ?_)
  refine lv_iload_n hx hb dX6_make_35 rfl (lv_at hl 0 rfl) ?_
  refine lv_aload_n hx hb dX6_make_36 rfl (lv_at hl 1 rfl) ?_
  refine q_getr hE hW h0 rfl q_k6 0 (by decide) rfl (hE.l wl_112) dX6_make_37 (fun kb23 ekb23 hkb23a hkb23b => ?_)
  have hkb23 : q_T G kb23 = 7 := q_tag hkb23a hkb23b
  refine q_geti hE hW hkb23 rfl q_k2 4 (by decide) rfl (hE.n 25 rfl) dX6_make_40 (fun kx24 ekx24 vkx24 => ?_)
  obtain rfl : (0 : Int32) = kx24 := (q_fr.f kz22 (t := 7) (k := 4) (by decide) hkb23).symm.trans ekx24
  refine lv_icmp_ge (tgt := 123) hx hb dX6_make_43 (by decide) (fun kc25 => ?_) (fun kc25 => ?_)
  · refine lv_aload_n hx hb dX6_make_123 rfl (lv_at hl 1 rfl) ?_
    refine lv_iconst (v := 0) hx hb dX6_make_124 (by decide) ?_
    refine lv_iconst (v := 0) hx hb dX6_make_125 (by decide) ?_
    refine q_gov hW (q_runV (As := [.int 0, .int 0]) (rest := []) hE hW (c_X6_share_t0_tz l G ks20 a0 h0 0 (q_c (k := 0) (x := 0) (by decide)) 0 (q_c (k := 0) (x := 0) (by decide)) (((((kf21.I _ h0 (by decide)).trans (kf17.I _ h0 (by decide))).trans (kf12.I _ h0 (by decide))).trans (kf7.I _ h0 (by decide))).trans kp2.1) (q_fr.sub kz22 (by decide) (by decide))) kw_X6_71 (q_recv hE hW h0 rfl q_k6) rfl hl.1 rfl (Nat.le_of_ble_eq_true rfl) dX6_make_126 ⟨by decide, by decide⟩ ⟨by decide, by decide⟩) (by decide) (fun ks27 H locs kp26 kf28 hW => ?_)
    have kz29 := (q_fr.fr (q_fr.sub (F2 := [(7, 1), (7, 4)]) (A2 := []) kz22 (by decide) (by decide)) kf28 (by decide) (by decide))
    exact q_retv hE hr hlocks hW (kp26) dX6_make_129
  · have kv30 : q_V 0 (-1) 0 := (q_lt1 (q_c (k := 0) (x := 0) (by decide)) (q_c (k := 0) (x := 0) (by decide)) (Int32.not_le.mp kc25)).w (by decide) (by decide)
    exact (kv30.no (by decide))
set_option maxHeartbeats 4000000 in
set_option maxRecDepth 100000 in
theorem c_X11_soap_tz (l : Launch) (G : q_G) (σ : q_S) (a0 : Nat) (h0 : q_T G a0 = 26) (i1 : Int32) (hz : q_fr G [(7, 1), (7, 4), (7, 6), (7, 7), (7, 8), (26, 10)] [(12, 0, 6)] σ) : Met l yX11_soap (Cond.code yX11_soap cX11_soap 2 (some .int) :: wsL_law) (q_Rm 4) (q_Pre G σ [.ref a0, .int i1]) (q_Qi G [5, 6, 7, 9, 10, 12, 26, 29] σ (fun r σ1 => q_V (-2147483648) 2147483647 r ∧ r = kz_soap i1)) 0 0 (q_N G) := by
  refine q_ofW (ts := [5, 6, 7, 9, 10, 12, 26, 29]) (by decide) (Nat.le_of_ble_eq_true rfl) ?_
  intro p e s m args below meth c hE hr hlocks hW ls hl
  have hE : q_E G p s m args c cX11_soap 2 RX11 := hE
  have hx := hE.1.1
  have hb := hE.1.2.1
  have hl : lv_has ls 2 [(0, .ref a0), (1, .int i1)] := hl
  refine lv_iload_n hx hb dX11_soap_0 rfl (lv_at hl 1 rfl) ?_
  refine lv_iconst (v := 1) hx hb dX11_soap_1 (by decide) ?_
  refine lv_icmp_lt (tgt := 11) hx hb dX11_soap_2 (by decide) (fun kc1 => ?_) (fun kc1 => ?_)
  · have kv2 : q_V (-2147483648) 0 i1 := (q_lt1 (q_all i1) (q_c (k := 1) (x := 1) (by decide)) kc1).w (by decide) (by decide)
    refine lv_bipush (v := (-3)) hx hb dX11_soap_11 (by decide) ?_
    exact q_reti hE hr hlocks hW (⟨((q_c (k := (-3)) (x := (-3)) (by decide)).w (by decide) (by decide)), (by have := kv2.1; have := kv2.2; unfold kz_soap; (repeat' split) <;> first | rfl | omega)⟩) dX11_soap_13
  · have kv3 : q_V 1 2147483647 i1 := (q_le2 (q_c (k := 1) (x := 1) (by decide)) (q_all i1) (Int32.not_lt.mp kc1)).w (by decide) (by decide)
    refine lv_iload_n hx hb dX11_soap_5 rfl (lv_at hl 1 rfl) ?_
    refine lv_bipush (v := 20) hx hb dX11_soap_6 (by decide) ?_
    refine lv_icmp_le (tgt := 14) hx hb dX11_soap_8 (by decide) (fun kc4 => ?_) (fun kc4 => ?_)
    · have kv5 : q_V 1 20 i1 := (q_le1 kv3 (q_c (k := 20) (x := 20) (by decide)) kc4).w (by decide) (by decide)
      refine lv_aload_n hx hb dX11_soap_14 rfl (lv_at hl 0 rfl) ?_
      refine q_getr hE hW h0 rfl q_k11 5 (by decide) rfl (hE.l wl_35) dX11_soap_15 (fun kb6 ekb6 hkb6a hkb6b => ?_)
      have hkb6 : q_T G kb6 = 7 := q_tag hkb6a hkb6b
      refine q_geti hE hW hkb6 rfl q_k2 6 (by decide) rfl (hE.n 30 rfl) dX11_soap_18 (fun kx7 ekx7 vkx7 => ?_)
      obtain rfl : (0 : Int32) = kx7 := (q_fr.f hz (t := 7) (k := 6) (by decide) hkb6).symm.trans ekx7
      refine lv_iload_n hx hb dX11_soap_21 rfl (lv_at hl 1 rfl) ?_
      refine lv_iadd hx hb dX11_soap_22 ?_
      refine lv_eqi (y := i1) (by simp) ?_
      refine lv_bipush (v := 99) hx hb dX11_soap_23 (by decide) ?_
      refine lv_icmp_le (tgt := 31) hx hb dX11_soap_25 (by decide) (fun kc8 => ?_) (fun kc8 => ?_)
      · refine lv_aload_n hx hb dX11_soap_31 rfl (lv_at hl 0 rfl) ?_
        refine q_gov hW (q_runV (As := []) (rest := []) hE hW (c_X11_remember_tz l G σ a0 h0 (q_fr.sub hz (by decide) (by decide))) kw_X11_198 (q_recv hE hW h0 rfl q_k11) rfl hl.1 rfl (Nat.le_of_ble_eq_true rfl) dX11_soap_32 ⟨by decide, by decide⟩ ⟨by decide, by decide⟩) (by decide) (fun ks10 H locs kp9 kf11 hW => ?_)
        have kz12 := (q_fr.and (q_fr.fr (q_fr.sub (F2 := []) (A2 := []) hz (by decide) (by decide)) kf11 (by decide) (by decide)) kp9)
        refine lv_aload_n hx hb dX11_soap_35 rfl (lv_at hl 0 rfl) ?_
        refine q_getr hE hW h0 rfl q_k11 5 (by decide) rfl (hE.l wl_35) dX11_soap_36 (fun kb13 ekb13 hkb13a hkb13b => ?_)
        have hkb13 : q_T G kb13 = 7 := q_tag hkb13a hkb13b
        refine lv_dup hx hb dX11_soap_39 rfl ?_
        refine q_geti hE hW hkb13 rfl q_k2 6 (by decide) rfl (hE.n 30 rfl) dX11_soap_40 (fun kx14 ekx14 vkx14 => ?_)
        obtain rfl : (0 : Int32) = kx14 := (q_fr.f kz12 (t := 7) (k := 6) (by decide) hkb13).symm.trans ekx14
        refine lv_iload_n hx hb dX11_soap_43 rfl (lv_at hl 1 rfl) ?_
        refine lv_iadd hx hb dX11_soap_44 ?_
        refine lv_eqi (y := i1) (by simp) ?_
        refine q_puti hE hW hkb13 rfl q_k2 tyX2 tyX2_ok 6 (by decide) rfl (hE.n 30 rfl) rfl rfl rfl (kv5.w (by decide) (by decide)) (by decide) dX11_soap_45 (fun H locs ks15 kp16 hW => ?_)
        have kz17 := (q_fr.wI (q_fr.sub (F2 := [(7, 1), (7, 4), (7, 7), (7, 8)]) (A2 := [(12, 0, 6)]) kz12 (by decide) (by decide)) kp16 hkb13 (Or.inl (by decide)))
        refine lv_aload_n hx hb dX11_soap_48 rfl (lv_at hl 0 rfl) ?_
        refine q_getr hE hW h0 rfl q_k11 5 (by decide) rfl (hE.l wl_35) dX11_soap_49 (fun kb18 ekb18 hkb18a hkb18b => ?_)
        obtain rfl : kb13 = kb18 := ((kp16.2.2.1 _ _).trans ekb13).symm.trans ekb18
        refine q_geti hE hW hkb13 rfl q_k2 6 (by decide) rfl (hE.n 30 rfl) dX11_soap_52 (fun kx19 ekx19 vkx19 => ?_)
        obtain rfl : i1 = kx19 := kp16.1.symm.trans ekx19
        exact q_reti hE hr hlocks hW (⟨(kv5.w (by decide) (by decide)), (by have := kv5.1; have := kv5.2; unfold kz_soap; (repeat' split) <;> first | rfl | omega)⟩) dX11_soap_55
      · have kv20 : q_V 99 19 99 := (q_lt1 (q_c (k := 99) (x := 99) (by decide)) kv5 (Int32.not_le.mp kc8)).w (by decide) (by decide)
        exact (kv20.no (by decide))
    · have kv21 : q_V 21 2147483647 i1 := (q_lt2 (q_c (k := 20) (x := 20) (by decide)) kv3 (Int32.not_le.mp kc4)).w (by decide) (by decide)
      refine lv_bipush (v := (-3)) hx hb dX11_soap_11 (by decide) ?_
      exact q_reti hE hr hlocks hW (⟨((q_c (k := (-3)) (x := (-3)) (by decide)).w (by decide) (by decide)), (by have := kv21.1; have := kv21.2; unfold kz_soap; (repeat' split) <;> first | rfl | omega)⟩) dX11_soap_13
set_option maxHeartbeats 4000000 in
set_option maxRecDepth 100000 in
theorem c_X11_hour_tz (l : Launch) (G : q_G) (σ : q_S) (a0 : Nat) (h0 : q_T G a0 = 26) (i1 : Int32) (hz : q_fr G [(7, 1), (7, 4), (7, 6), (7, 7), (7, 8), (26, 10)] [(12, 0, 6)] σ) : Met l yX11_hour (Cond.code yX11_hour cX11_hour 3 (some .int) :: wsL_law) (q_Rm 6) (q_Pre G σ [.ref a0, .int i1]) (q_Qi G [5, 6, 7, 9, 10, 12, 26, 29] σ (fun r σ1 => q_V (-2147483648) 2147483647 r ∧ r = kz_hour i1)) 0 0 (q_N G) := by
  refine q_ofW (ts := [5, 6, 7, 9, 10, 12, 26, 29]) (by decide) (Nat.le_of_ble_eq_true rfl) ?_
  intro p e s m args below meth c hE hr hlocks hW ls hl
  have hE : q_E G p s m args c cX11_hour 3 RX11 := hE
  have hx := hE.1.1
  have hb := hE.1.2.1
  have hl : lv_has ls 3 [(0, .ref a0), (1, .int i1)] := hl
  have lp38a : ∀ (n38a : Nat) (ks3 : q_S) (H : Heap) (locs : List Loc) (kv1 : q_V 1 12 i1) (kx2 : Int32) (vkx2 : q_V 0 12 kx2) (kb4 : Nat) (hkb4 : q_T G kb4 = 7) (ke5 : q_R ks3 a0 5 = kb4) (kx6 : Int32) (ke7 : q_I ks3 kb4 8 = kx6) (hW : q_Wd G [5, 6, 7, 9, 10, 12, 26, 29] σ s.heap ks3 H locs) (hz38a : q_fr G [(7, 1), (7, 4), (7, 6), (7, 7)] [(12, 0, 6)] ks3) (iv38a0 : (kx6 : Int32) = (kx2 : Int32)) (iv38a1 : (kx2 : Int32).toInt ≤ i1.toInt) (ls : Array Slot) (hl : lv_has ls 3 [(0, .ref a0), (1, .int i1), (2, .int kx2)]), (12 - kx2.toInt).toNat < n38a → W p l e (q_Rm 6) s m args below meth c H locs 0 0 (MQ below (q_Qi G [5, 6, 7, 9, 10, 12, 26, 29] σ (fun r σ1 => q_V (-2147483648) 2147483647 r ∧ r = kz_hour i1)) args s 0 0 (q_N G)) (F0 m 38 ls []) := by
    intro n38a
    induction n38a with
    | zero => intro _ _ _ _ _ _ _ _ _ _ _ _ _ _ _ _ _; exact fun h => absurd h (Nat.not_lt_zero _)
    | succ n38a ih38a =>
      intro ks3 H locs kv1 kx2 vkx2 kb4 hkb4 ke5 kx6 ke7 hW hz38a iv38a0 iv38a1 ls hl hm38a
      refine lv_iload_n hx hb dX11_hour_38 rfl (lv_at hl 2 rfl) ?_
      refine lv_iload_n hx hb dX11_hour_39 rfl (lv_at hl 1 rfl) ?_
      refine lv_icmp_ge (tgt := 56) hx hb dX11_hour_40 (by decide) (fun kc8 => ?_) (fun kc8 => ?_)
      · have kv9 : q_V 1 12 kx2 := (q_le2 kv1 vkx2 kc8).w (by decide) (by decide)
        refine lv_aload_n hx hb dX11_hour_56 rfl (lv_at hl 0 rfl) ?_
        refine q_getr hE hW h0 rfl q_k11 5 (by decide) rfl (hE.l wl_35) dX11_hour_57 (fun kb10 ekb10 hkb10a hkb10b => ?_)
        obtain rfl : kb4 = kb10 := ke5.symm.trans ekb10
        refine q_geti hE hW hkb4 rfl q_k2 8 (by decide) rfl (hE.n 34 rfl) dX11_hour_60 (fun kx11 ekx11 vkx11 => ?_)
        obtain rfl : kx6 = kx11 := ke7.symm.trans ekx11
        exact q_reti hE hr hlocks hW (⟨(q_all kx6), (by have q_a := Int32.le_iff_toInt_le.mp kc8; have q_b : kx2 = i1 := Int32.toInt_inj.mp (by omega); rw [iv38a0, q_b]; have := kv1.1; have := kv1.2; unfold kz_hour; (repeat' split) <;> first | rfl | omega)⟩) dX11_hour_63
      · have kv12 : q_V 0 11 kx2 := (q_lt1 vkx2 kv1 (Int32.not_le.mp kc8)).w (by decide) (by decide)
        refine lv_aload_n hx hb dX11_hour_43 rfl (lv_at hl 0 rfl) ?_
        refine q_getr hE hW h0 rfl q_k11 5 (by decide) rfl (hE.l wl_35) dX11_hour_44 (fun kb13 ekb13 hkb13a hkb13b => ?_)
        obtain rfl : kb4 = kb13 := ke5.symm.trans ekb13
        refine q_gov hW (q_runV (As := []) (rest := []) hE hW (c_X2_passHour_tz l G ks3 kb4 hkb4 (q_fr.sub hz38a (by decide) (by decide))) kw_X11_216 (q_recv hE hW hkb4 rfl q_k2) rfl hl.1 rfl (Nat.le_of_ble_eq_true rfl) dX11_hour_47 ⟨by decide, by decide⟩ ⟨by decide, by decide⟩) (by decide) (fun ks15 H locs kp14 kf16 hW => ?_)
        have kz17 := (q_fr.and (q_fr.fr (q_fr.sub (F2 := []) (A2 := []) hz38a (by decide) (by decide)) kf16 (by decide) (by decide)) kp14.2)
        obtain ⟨kx18, ekx18⟩ : ∃ y : Int32, y = kx6 + 1 := ⟨_, rfl⟩
        have gkx18 : q_I ks15 kb4 8 = kx18 := by rw [kp14.1, ke7, ekx18]
        obtain ⟨kx19, ekx19⟩ : ∃ y : Int32, y = kx2 + 1 := ⟨_, rfl⟩
        have vkx19 : q_V 1 12 kx19 := by rw [ekx19]; exact (q_add kv12 (q_c (k := 1) (x := 1) (by decide)) (by decide) (by decide)).w (by decide) (by decide)
        have ikx19 : kx19.toInt = kx2.toInt + 1 := q_incT ekx19 kv12 (by decide) (by decide) (by decide)
        refine lv_iinc (v := kx19) (lv' := [(2, .int kx19), (0, .ref a0), (1, .int i1)]) hx hb dX11_hour_50 hl (k := 2) rfl (by rw [ekx19]; rfl) (by decide) rfl (fun ls hl => ?_)
        refine lv_goto (tgt := 38) hx hb dX11_hour_53 (by decide) ?_
        exact ih38a _ _ _ kv1 kx19 (vkx19.w (by decide) (by decide)) kb4 hkb4 ((kf16.R _ h0 (by decide)).trans ke5) kx18 gkx18 hW (q_fr.sub kz17 (by decide) (by decide)) (by rw [ekx18, iv38a0, ekx19]) (by have := Int32.lt_iff_toInt_lt.mp (Int32.not_le.mp kc8); have := ikx19; omega) ls (lv_sub hl [1, 2, 0] rfl) (Nat.lt_of_lt_of_le (q_up (ikx19) (show q_V 1 12 kx19 from vkx19).2) (Nat.le_of_lt_succ hm38a))
  refine lv_iload_n hx hb dX11_hour_0 rfl (lv_at hl 1 rfl) ?_
  refine lv_iconst (v := 1) hx hb dX11_hour_1 (by decide) ?_
  refine lv_icmp_lt (tgt := 11) hx hb dX11_hour_2 (by decide) (fun kc20 => ?_) (fun kc20 => ?_)
  · have kv21 : q_V (-2147483648) 0 i1 := (q_lt1 (q_all i1) (q_c (k := 1) (x := 1) (by decide)) kc20).w (by decide) (by decide)
    refine lv_bipush (v := (-3)) hx hb dX11_hour_11 (by decide) ?_
    exact q_reti hE hr hlocks hW (⟨((q_c (k := (-3)) (x := (-3)) (by decide)).w (by decide) (by decide)), (by have := kv21.1; have := kv21.2; unfold kz_hour; (repeat' split) <;> first | rfl | omega)⟩) dX11_hour_13
  · have kv22 : q_V 1 2147483647 i1 := (q_le2 (q_c (k := 1) (x := 1) (by decide)) (q_all i1) (Int32.not_lt.mp kc20)).w (by decide) (by decide)
    refine lv_iload_n hx hb dX11_hour_5 rfl (lv_at hl 1 rfl) ?_
    refine lv_bipush (v := 12) hx hb dX11_hour_6 (by decide) ?_
    refine lv_icmp_le (tgt := 14) hx hb dX11_hour_8 (by decide) (fun kc23 => ?_) (fun kc23 => ?_)
    · have kv24 : q_V 1 12 i1 := (q_le1 kv22 (q_c (k := 12) (x := 12) (by decide)) kc23).w (by decide) (by decide)
      refine lv_aload_n hx hb dX11_hour_14 rfl (lv_at hl 0 rfl) ?_
      refine q_getr hE hW h0 rfl q_k11 5 (by decide) rfl (hE.l wl_35) dX11_hour_15 (fun kb25 ekb25 hkb25a hkb25b => ?_)
      have hkb25 : q_T G kb25 = 7 := q_tag hkb25a hkb25b
      refine q_geti hE hW hkb25 rfl q_k2 8 (by decide) rfl (hE.n 34 rfl) dX11_hour_18 (fun kx26 ekx26 vkx26 => ?_)
      obtain rfl : (0 : Int32) = kx26 := (q_fr.f hz (t := 7) (k := 8) (by decide) hkb25).symm.trans ekx26
      refine lv_iload_n hx hb dX11_hour_21 rfl (lv_at hl 1 rfl) ?_
      refine lv_iadd hx hb dX11_hour_22 ?_
      refine lv_eqi (y := i1) (by simp) ?_
      refine lv_sipush (v := 999) hx hb dX11_hour_23 (by decide) ?_
      refine lv_icmp_le (tgt := 32) hx hb dX11_hour_26 (by decide) (fun kc27 => ?_) (fun kc27 => ?_)
      · refine lv_aload_n hx hb dX11_hour_32 rfl (lv_at hl 0 rfl) ?_
        refine q_gov hW (q_runV (As := []) (rest := []) hE hW (c_X11_remember_tz l G σ a0 h0 (q_fr.sub hz (by decide) (by decide))) kw_X11_198 (q_recv hE hW h0 rfl q_k11) rfl hl.1 rfl (Nat.le_of_ble_eq_true rfl) dX11_hour_33 ⟨by decide, by decide⟩ ⟨by decide, by decide⟩) (by decide) (fun ks29 H locs kp28 kf30 hW => ?_)
        have kz31 := (q_fr.and (q_fr.fr (q_fr.sub (F2 := []) (A2 := []) hz (by decide) (by decide)) kf30 (by decide) (by decide)) kp28)
        refine lv_iconst (v := 0) hx hb dX11_hour_36 (by decide) ?_
        refine lv_istore_n (lv' := [(2, .int 0), (0, .ref a0), (1, .int i1)]) hx hb dX11_hour_37 rfl hl (by decide) rfl (fun ls hl => ?_)
        obtain ⟨kb32, ekb32, hkb32a, hkb32b⟩ := q_ghr hW h0 rfl 5 rfl
        have hkb32 : q_T G kb32 = 7 := q_tag hkb32a hkb32b
        obtain ⟨kx33, ekx33, vkx33⟩ := q_ghi hW hkb32 rfl 8 rfl
        obtain rfl : (0 : Int32) = kx33 := (q_fr.f kz31 (t := 7) (k := 8) (by decide) hkb32).symm.trans ekx33
        exact lp38a _ _ _ _ kv24 0 ((q_c (k := 0) (x := 0) (by decide)).w (by decide) (by decide)) kb32 hkb32 ekb32 0 ekx33 hW (q_fr.sub kz31 (by decide) (by decide)) rfl (by have := kv24.1; have := kv24.2; show (0 : Int) ≤ i1.toInt; omega) ls (lv_sub hl [1, 2, 0] rfl) (Nat.lt_succ_self _)
      · have kv34 : q_V 999 11 999 := (q_lt1 (q_c (k := 999) (x := 999) (by decide)) kv24 (Int32.not_le.mp kc27)).w (by decide) (by decide)
        exact (kv34.no (by decide))
    · have kv35 : q_V 13 2147483647 i1 := (q_lt2 (q_c (k := 12) (x := 12) (by decide)) kv22 (Int32.not_le.mp kc23)).w (by decide) (by decide)
      refine lv_bipush (v := (-3)) hx hb dX11_hour_11 (by decide) ?_
      exact q_reti hE hr hlocks hW (⟨((q_c (k := (-3)) (x := (-3)) (by decide)).w (by decide) (by decide)), (by have := kv35.1; have := kv35.2; unfold kz_hour; (repeat' split) <;> first | rfl | omega)⟩) dX11_hour_13
set_option maxHeartbeats 4000000 in
set_option maxRecDepth 100000 in
theorem c_X11_later_tz (l : Launch) (G : q_G) (σ : q_S) (a0 : Nat) (h0 : q_T G a0 = 26) (i1 : Int32) (i2 : Int32) (hz : q_fr G [(7, 1), (7, 4), (7, 6), (7, 7), (7, 8)] [(12, 0, 6)] σ) : Met l yX11_later (Cond.code yX11_later cX11_later 4 (some .int) :: wsL_law) (q_Rm 6) (q_Pre G σ [.ref a0, .int i1, .int i2]) (q_Qi G [5, 6, 7, 9, 10, 12] σ (fun r σ1 => q_V (-2147483648) 2147483647 r ∧ r = kz_later i1 i2)) 0 0 (q_N G) := by
  refine q_ofW (ts := [5, 6, 7, 9, 10, 12]) (by decide) (Nat.le_of_ble_eq_true rfl) ?_
  intro p e s m args below meth c hE hr hlocks hW ls hl
  have hE : q_E G p s m args c cX11_later 4 RX11 := hE
  have hx := hE.1.1
  have hb := hE.1.2.1
  have hl : lv_has ls 4 [(0, .ref a0), (1, .int i1), (2, .int i2)] := hl
  have lp39a : ∀ (n39a : Nat) (ks4 : q_S) (H : Heap) (locs : List Loc) (kv1 : q_V 0 6 i1) (kv2 : q_V 0 20 i2) (kx3 : Int32) (vkx3 : q_V 0 20 kx3) (hW : q_Wd G [5, 6, 7, 9, 10, 12] σ s.heap ks4 H locs) (hz39a : q_fr G [(7, 1), (7, 4), (7, 6), (7, 7)] [(12, 0, 6)] ks4) (ls : Array Slot) (hl : lv_has ls 4 [(0, .ref a0), (1, .int i1), (2, .int i2), (3, .int kx3)]), (20 - kx3.toInt).toNat < n39a → W p l e (q_Rm 6) s m args below meth c H locs 0 0 (MQ below (q_Qi G [5, 6, 7, 9, 10, 12] σ (fun r σ1 => q_V (-2147483648) 2147483647 r ∧ r = kz_later i1 i2)) args s 0 0 (q_N G)) (F0 m 39 ls []) := by
    intro n39a
    induction n39a with
    | zero => intro _ _ _ _ _ _ _ _ _ _ _; exact fun h => absurd h (Nat.not_lt_zero _)
    | succ n39a ih39a =>
      intro ks4 H locs kv1 kv2 kx3 vkx3 hW hz39a ls hl hm39a
      refine lv_iload_n hx hb dX11_later_39 rfl (lv_at hl 3 rfl) ?_
      refine lv_iload_n hx hb dX11_later_40 rfl (lv_at hl 2 rfl) ?_
      refine lv_icmp_ge (tgt := 57) hx hb dX11_later_41 (by decide) (fun kc5 => ?_) (fun kc5 => ?_)
      · refine lv_aload_n hx hb dX11_later_57 rfl (lv_at hl 0 rfl) ?_
        refine q_getr hE hW h0 rfl q_k11 6 (by decide) rfl (hE.l wl_36) dX11_later_58 (fun kb6 ekb6 hkb6a hkb6b => ?_)
        have hkb6 : q_T G kb6 = 7 := q_tag hkb6a hkb6b
        refine lv_iload_n hx hb dX11_later_61 rfl (lv_at hl 1 rfl) ?_
        refine q_goi hW (q_runV (As := [.int i1]) (rest := []) hE hW (c_X2_readAt_tz l G ks4 kb6 hkb6 i1 (q_fr.sub hz39a (by decide) (by decide))) kw_X11_226 (q_recv hE hW hkb6 rfl q_k2) rfl hl.1 rfl (Nat.le_of_ble_eq_true rfl) dX11_later_62 ⟨by decide, by decide⟩ ⟨by decide, by decide⟩) (by decide) (fun kx10 ks8 H locs kp7 kf9 hW => ?_)
        have kz11 := (q_fr.fr (q_fr.sub (F2 := [(7, 1), (7, 4), (7, 6), (7, 7)]) (A2 := [(12, 0, 6)]) hz39a (by decide) (by decide)) kf9 (by decide) (by decide))
        obtain rfl : (0 : Int32) = kx10 := (q_lit kp7 (by decide)).symm
        exact q_reti hE hr hlocks hW (⟨((q_c (k := 0) (x := 0) (by decide)).w (by decide) (by decide)), (by have := kv1.1; have := kv1.2; have := kv2.1; have := kv2.2; unfold kz_later; (repeat' split) <;> first | rfl | omega)⟩) dX11_later_65
      · have kv12 : q_V 0 19 kx3 := (q_lt1 vkx3 kv2 (Int32.not_le.mp kc5)).w (by decide) (by decide)
        have kv13 : q_V 1 20 i2 := (q_lt2 vkx3 kv2 (Int32.not_le.mp kc5)).w (by decide) (by decide)
        refine lv_aload_n hx hb dX11_later_44 rfl (lv_at hl 0 rfl) ?_
        refine q_getr hE hW h0 rfl q_k11 6 (by decide) rfl (hE.l wl_36) dX11_later_45 (fun kb14 ekb14 hkb14a hkb14b => ?_)
        have hkb14 : q_T G kb14 = 7 := q_tag hkb14a hkb14b
        refine q_gov hW (q_runV (As := []) (rest := []) hE hW (c_X2_passHour_tz l G ks4 kb14 hkb14 (q_fr.sub hz39a (by decide) (by decide))) kw_X11_216 (q_recv hE hW hkb14 rfl q_k2) rfl hl.1 rfl (Nat.le_of_ble_eq_true rfl) dX11_later_48 ⟨by decide, by decide⟩ ⟨by decide, by decide⟩) (by decide) (fun ks16 H locs kp15 kf17 hW => ?_)
        have kz18 := (q_fr.and (q_fr.fr (q_fr.sub (F2 := []) (A2 := []) hz39a (by decide) (by decide)) kf17 (by decide) (by decide)) kp15.2)
        obtain ⟨kx19, ekx19⟩ : ∃ y : Int32, y = kx3 + 1 := ⟨_, rfl⟩
        have vkx19 : q_V 1 20 kx19 := by rw [ekx19]; exact (q_add kv12 (q_c (k := 1) (x := 1) (by decide)) (by decide) (by decide)).w (by decide) (by decide)
        have ikx19 : kx19.toInt = kx3.toInt + 1 := q_incT ekx19 kv12 (by decide) (by decide) (by decide)
        refine lv_iinc (v := kx19) (lv' := [(3, .int kx19), (0, .ref a0), (1, .int i1), (2, .int i2)]) hx hb dX11_later_51 hl (k := 3) rfl (by rw [ekx19]; rfl) (by decide) rfl (fun ls hl => ?_)
        refine lv_goto (tgt := 39) hx hb dX11_later_54 (by decide) ?_
        exact ih39a _ _ _ kv1 (kv13.w (by decide) (by decide)) kx19 (vkx19.w (by decide) (by decide)) hW (q_fr.sub kz18 (by decide) (by decide)) ls (lv_sub hl [1, 2, 3, 0] rfl) (Nat.lt_of_lt_of_le (q_up (ikx19) (show q_V 1 20 kx19 from vkx19).2) (Nat.le_of_lt_succ hm39a))
  refine lv_iload_n hx hb dX11_later_0 rfl (lv_at hl 1 rfl) ?_
  refine lv_if_lt (tgt := 10) hx hb dX11_later_1 (by decide) (fun kc20 => ?_) (fun kc20 => ?_)
  · have kv21 : q_V (-2147483648) (-1) i1 := (q_lt1 (q_all i1) (q_c (k := 0) (x := 0) (by decide)) kc20).w (by decide) (by decide)
    refine lv_bipush (v := (-2)) hx hb dX11_later_10 (by decide) ?_
    exact q_reti hE hr hlocks hW (⟨((q_c (k := (-2)) (x := (-2)) (by decide)).w (by decide) (by decide)), (by have := kv21.1; have := kv21.2; unfold kz_later; (repeat' split) <;> first | rfl | omega)⟩) dX11_later_12
  · have kv22 : q_V 0 2147483647 i1 := (q_le2 (q_c (k := 0) (x := 0) (by decide)) (q_all i1) (Int32.not_lt.mp kc20)).w (by decide) (by decide)
    refine lv_iload_n hx hb dX11_later_4 rfl (lv_at hl 1 rfl) ?_
    refine lv_bipush (v := 7) hx hb dX11_later_5 (by decide) ?_
    refine lv_icmp_lt (tgt := 13) hx hb dX11_later_7 (by decide) (fun kc23 => ?_) (fun kc23 => ?_)
    · have kv24 : q_V 0 6 i1 := (q_lt1 kv22 (q_c (k := 7) (x := 7) (by decide)) kc23).w (by decide) (by decide)
      refine lv_iload_n hx hb dX11_later_13 rfl (lv_at hl 2 rfl) ?_
      refine lv_if_lt (tgt := 23) hx hb dX11_later_14 (by decide) (fun kc25 => ?_) (fun kc25 => ?_)
      · have kv26 : q_V (-2147483648) (-1) i2 := (q_lt1 (q_all i2) (q_c (k := 0) (x := 0) (by decide)) kc25).w (by decide) (by decide)
        refine lv_bipush (v := (-3)) hx hb dX11_later_23 (by decide) ?_
        exact q_reti hE hr hlocks hW (⟨((q_c (k := (-3)) (x := (-3)) (by decide)).w (by decide) (by decide)), (by have := kv24.1; have := kv24.2; have := kv26.1; have := kv26.2; unfold kz_later; (repeat' split) <;> first | rfl | omega)⟩) dX11_later_25
      · have kv27 : q_V 0 2147483647 i2 := (q_le2 (q_c (k := 0) (x := 0) (by decide)) (q_all i2) (Int32.not_lt.mp kc25)).w (by decide) (by decide)
        refine lv_iload_n hx hb dX11_later_17 rfl (lv_at hl 2 rfl) ?_
        refine lv_bipush (v := 20) hx hb dX11_later_18 (by decide) ?_
        refine lv_icmp_le (tgt := 26) hx hb dX11_later_20 (by decide) (fun kc28 => ?_) (fun kc28 => ?_)
        · have kv29 : q_V 0 20 i2 := (q_le1 kv27 (q_c (k := 20) (x := 20) (by decide)) kc28).w (by decide) (by decide)
          refine lv_aload_n hx hb dX11_later_26 rfl (lv_at hl 0 rfl) ?_
          refine q_getr hE hW h0 rfl q_k11 6 (by decide) rfl (hE.l wl_36) dX11_later_27 (fun kb30 ekb30 hkb30a hkb30b => ?_)
          have hkb30 : q_T G kb30 = 7 := q_tag hkb30a hkb30b
          refine lv_aload_n hx hb dX11_later_30 rfl (lv_at hl 0 rfl) ?_
          refine q_getr hE hW h0 rfl q_k11 5 (by decide) rfl (hE.l wl_35) dX11_later_31 (fun kb31 ekb31 hkb31a hkb31b => ?_)
          have hkb31 : q_T G kb31 = 7 := q_tag hkb31a hkb31b
          refine q_gov hW (q_runV (As := [.ref kb31]) (rest := []) hE hW (c_X2_copyFrom_tz l G σ kb30 hkb30 kb31 hkb31 (q_fr.sub hz (by decide) (by decide))) kw_X11_121 (q_recv hE hW hkb30 rfl q_k2) rfl hl.1 rfl (Nat.le_of_ble_eq_true rfl) dX11_later_34 ⟨by decide, by decide⟩ ⟨by decide, by decide⟩) (by decide) (fun ks33 H locs kp32 kf34 hW => ?_)
          have kz35 := (q_fr.and (q_fr.fr (q_fr.sub (F2 := []) (A2 := []) hz (by decide) (by decide)) kf34 (by decide) (by decide)) kp32)
          refine lv_iconst (v := 0) hx hb dX11_later_37 (by decide) ?_
          refine lv_istore_n (lv' := [(3, .int 0), (0, .ref a0), (1, .int i1), (2, .int i2)]) hx hb dX11_later_38 rfl hl (by decide) rfl (fun ls hl => ?_)
          exact lp39a _ _ _ _ kv24 kv29 0 ((q_c (k := 0) (x := 0) (by decide)).w (by decide) (by decide)) hW (q_fr.sub kz35 (by decide) (by decide)) ls (lv_sub hl [1, 2, 3, 0] rfl) (Nat.lt_succ_self _)
        · have kv36 : q_V 21 2147483647 i2 := (q_lt2 (q_c (k := 20) (x := 20) (by decide)) kv27 (Int32.not_le.mp kc28)).w (by decide) (by decide)
          refine lv_bipush (v := (-3)) hx hb dX11_later_23 (by decide) ?_
          exact q_reti hE hr hlocks hW (⟨((q_c (k := (-3)) (x := (-3)) (by decide)).w (by decide) (by decide)), (by have := kv24.1; have := kv24.2; have := kv36.1; have := kv36.2; unfold kz_later; (repeat' split) <;> first | rfl | omega)⟩) dX11_later_25
    · have kv37 : q_V 7 2147483647 i1 := (q_le2 (q_c (k := 7) (x := 7) (by decide)) kv22 (Int32.not_lt.mp kc23)).w (by decide) (by decide)
      refine lv_bipush (v := (-2)) hx hb dX11_later_10 (by decide) ?_
      exact q_reti hE hr hlocks hW (⟨((q_c (k := (-2)) (x := (-2)) (by decide)).w (by decide) (by decide)), (by have := kv37.1; have := kv37.2; unfold kz_later; (repeat' split) <;> first | rfl | omega)⟩) dX11_later_12
set_option maxHeartbeats 4000000 in
set_option maxRecDepth 100000 in
theorem c_X11_readAhead_tz (l : Launch) (G : q_G) (σ : q_S) (a0 : Nat) (h0 : q_T G a0 = 26) (i1 : Int32) (hz : q_fr G [(7, 1), (7, 4), (7, 6), (7, 7), (7, 8)] [(12, 0, 6), (28, 0, 7)] σ) : Met l yX11_readAhead (Cond.code yX11_readAhead cX11_readAhead 4 none :: wsL_law) (q_Rm 6) (q_Pre G σ [.ref a0, .int i1]) (q_Qv G [5, 6, 7, 9, 10, 12, 28] σ (fun σ1 => q_fr G [] [(28, 0, 7)] σ1)) 0 0 (q_N G) := by
  refine q_ofW (ts := [5, 6, 7, 9, 10, 12, 28]) (by decide) (Nat.le_of_ble_eq_true rfl) ?_
  intro p e s m args below meth c hE hr hlocks hW ls hl
  have hE : q_E G p s m args c cX11_readAhead 4 RX11 := hE
  have hx := hE.1.1
  have hb := hE.1.2.1
  have hl : lv_has ls 4 [(0, .ref a0), (1, .int i1)] := hl
  have lp41a : ∀ (n41a : Nat) (ks2 : q_S) (H : Heap) (locs : List Loc) (kx1 : Int32) (vkx1 : q_V 0 2147483647 kx1) (hW : q_Wd G [5, 6, 7, 9, 10, 12, 28] σ s.heap ks2 H locs) (hz41a : q_fr G [(7, 1), (7, 4), (7, 6), (7, 7)] [(28, 0, 7), (12, 0, 6)] ks2) (ls : Array Slot) (hl : lv_has ls 4 [(0, .ref a0), (1, .int i1), (2, .int kx1)]), (2147483647 - kx1.toInt).toNat < n41a → W p l e (q_Rm 6) s m args below meth c H locs 0 0 (MQ below (q_Qv G [5, 6, 7, 9, 10, 12, 28] σ (fun σ1 => q_fr G [] [(28, 0, 7)] σ1)) args s 0 0 (q_N G)) (F0 m 41 ls []) := by
    intro n41a
    induction n41a with
    | zero => intro _ _ _ _ _ _ _ _ _; exact fun h => absurd h (Nat.not_lt_zero _)
    | succ n41a ih41a =>
      intro ks2 H locs kx1 vkx1 hW hz41a ls hl hm41a
      have lp55a : ∀ (n55a : Nat) (ks6 : q_S) (H : Heap) (locs : List Loc) (kv3 : q_V 1 2147483647 i1) (kv4 : q_V 0 2147483646 kx1) (kx5 : Int32) (vkx5 : q_V 0 7 kx5) (hW : q_Wd G [5, 6, 7, 9, 10, 12, 28] σ s.heap ks6 H locs) (hz55a : q_fr G [(7, 1), (7, 4), (7, 6), (7, 7)] [(28, 0, 7), (12, 0, 6)] ks6) (ls : Array Slot) (hl : lv_has ls 4 [(0, .ref a0), (1, .int i1), (2, .int kx1), (3, .int kx5)]), (7 - kx5.toInt).toNat < n55a → W p l e (q_Rm 6) s m args below meth c H locs 0 0 (MQ below (q_Qv G [5, 6, 7, 9, 10, 12, 28] σ (fun σ1 => q_fr G [] [(28, 0, 7)] σ1)) args s 0 0 (q_N G)) (F0 m 55 ls []) := by
        intro n55a
        induction n55a with
        | zero => intro _ _ _ _ _ _ _ _ _ _ _; exact fun h => absurd h (Nat.not_lt_zero _)
        | succ n55a ih55a =>
          intro ks6 H locs kv3 kv4 kx5 vkx5 hW hz55a ls hl hm55a
          refine lv_iload_n hx hb dX11_readAhead_55 rfl (lv_at hl 3 rfl) ?_
          refine lv_bipush (v := 7) hx hb dX11_readAhead_56 (by decide) ?_
          refine lv_icmp_ge (tgt := 84) hx hb dX11_readAhead_58 (by decide) (fun kc7 => ?_) (fun kc7 => ?_)
          · have kv8 : q_V 7 7 kx5 := (q_le2 (q_c (k := 7) (x := 7) (by decide)) vkx5 kc7).w (by decide) (by decide)
            obtain ⟨kx9, ekx9⟩ : ∃ y : Int32, y = kx1 + 1 := ⟨_, rfl⟩
            have vkx9 : q_V 1 2147483647 kx9 := by rw [ekx9]; exact (q_add kv4 (q_c (k := 1) (x := 1) (by decide)) (by decide) (by decide)).w (by decide) (by decide)
            have ikx9 : kx9.toInt = kx1.toInt + 1 := q_incT ekx9 kv4 (by decide) (by decide) (by decide)
            refine lv_iinc (v := kx9) (lv' := [(2, .int kx9), (0, .ref a0), (1, .int i1), (3, .int kx5)]) hx hb dX11_readAhead_84 hl (k := 2) rfl (by rw [ekx9]; rfl) (by decide) rfl (fun ls hl => ?_)
            refine lv_goto (tgt := 41) hx hb dX11_readAhead_87 (by decide) ?_
            exact ih41a _ _ _ kx9 (vkx9.w (by decide) (by decide)) hW (q_fr.sub hz55a (by decide) (by decide)) ls (lv_sub hl [1, 2, 0] rfl) (Nat.lt_of_lt_of_le (q_up (ikx9) (show q_V 1 2147483647 kx9 from vkx9).2) (Nat.le_of_lt_succ hm41a))
          · have kv10 : q_V 0 6 kx5 := (q_lt1 vkx5 (q_c (k := 7) (x := 7) (by decide)) (Int32.not_le.mp kc7)).w (by decide) (by decide)
            refine lv_aload_n hx hb dX11_readAhead_61 rfl (lv_at hl 0 rfl) ?_
            refine q_getr hE hW h0 rfl q_k11 8 (by decide) rfl (hE.l wl_46) dX11_readAhead_62 (fun kb11 ekb11 hkb11a hkb11b => ?_)
            have hkb11 : q_T G kb11 = 28 := q_tag hkb11a hkb11b
            refine lv_iload_n hx hb dX11_readAhead_65 rfl (lv_at hl 3 rfl) ?_
            refine lv_dup2_11 hx hb dX11_readAhead_66 rfl rfl ?_
            refine q_iald hE hW hkb11 rfl (q_in kv10 (by decide) (by decide)) dX11_readAhead_67 (fun kx12 ekx12 gkx12 => ?_)
            obtain rfl : (0 : Int32) = kx12 := (q_fr.z hz55a (t := 28) (l := 0) (u := 7) (by decide) hkb11 kv10 (by decide) (by decide) (by decide)).symm.trans ekx12
            refine lv_aload_n hx hb dX11_readAhead_68 rfl (lv_at hl 0 rfl) ?_
            refine q_getr hE hW h0 rfl q_k11 6 (by decide) rfl (hE.l wl_36) dX11_readAhead_69 (fun kb13 ekb13 hkb13a hkb13b => ?_)
            have hkb13 : q_T G kb13 = 7 := q_tag hkb13a hkb13b
            refine lv_iload_n hx hb dX11_readAhead_72 rfl (lv_at hl 3 rfl) ?_
            refine q_goi hW (q_runV (As := [.int kx5]) (rest := [.int 0, .int kx5, .ref kb11]) hE hW (c_X2_readAt_tz l G ks6 kb13 hkb13 kx5 (q_fr.sub hz55a (by decide) (by decide))) kw_X11_226 (q_recv hE hW hkb13 rfl q_k2) rfl hl.1 rfl (Nat.le_of_ble_eq_true rfl) dX11_readAhead_73 ⟨by decide, by decide⟩ ⟨by decide, by decide⟩) (by decide) (fun kx17 ks15 H locs kp14 kf16 hW => ?_)
            have kz18 := (q_fr.fr (q_fr.sub (F2 := [(7, 1), (7, 4), (7, 6), (7, 7)]) (A2 := [(28, 0, 7), (12, 0, 6)]) hz55a (by decide) (by decide)) kf16 (by decide) (by decide))
            obtain rfl : (0 : Int32) = kx17 := (q_lit kp14 (by decide)).symm
            refine lv_ior hx hb dX11_readAhead_76 ?_
            refine lv_eqi (y := 0) (by decide) ?_
            refine q_iast hE hW hkb11 rfl (q_in kv10 (by decide) (by decide)) trivial (by decide) dX11_readAhead_77 (fun H locs ks19 kp20 hW => ?_)
            have kz21 := (q_fr.wA0 kz18 kp20 hkb11 rfl)
            obtain ⟨kx22, ekx22⟩ : ∃ y : Int32, y = kx5 + 1 := ⟨_, rfl⟩
            have vkx22 : q_V 1 7 kx22 := by rw [ekx22]; exact (q_add kv10 (q_c (k := 1) (x := 1) (by decide)) (by decide) (by decide)).w (by decide) (by decide)
            have ikx22 : kx22.toInt = kx5.toInt + 1 := q_incT ekx22 kv10 (by decide) (by decide) (by decide)
            refine lv_iinc (v := kx22) (lv' := [(3, .int kx22), (0, .ref a0), (1, .int i1), (2, .int kx1)]) hx hb dX11_readAhead_78 hl (k := 3) rfl (by rw [ekx22]; rfl) (by decide) rfl (fun ls hl => ?_)
            refine lv_goto (tgt := 55) hx hb dX11_readAhead_81 (by decide) ?_
            exact ih55a _ _ _ kv3 kv4 kx22 (vkx22.w (by decide) (by decide)) hW (q_fr.sub kz21 (by decide) (by decide)) ls (lv_sub hl [1, 2, 3, 0] rfl) (Nat.lt_of_lt_of_le (q_up (ikx22) (show q_V 1 7 kx22 from vkx22).2) (Nat.le_of_lt_succ hm55a))
      refine lv_iload_n hx hb dX11_readAhead_41 rfl (lv_at hl 2 rfl) ?_
      refine lv_iload_n hx hb dX11_readAhead_42 rfl (lv_at hl 1 rfl) ?_
      refine lv_icmp_ge (tgt := 90) hx hb dX11_readAhead_43 (by decide) (fun kc23 => ?_) (fun kc23 => ?_)
      · exact q_retv hE hr hlocks hW ((q_fr.sub hz41a (by decide) (by decide))) dX11_readAhead_90
      · have kv24 : q_V 0 2147483646 kx1 := (q_lt1 vkx1 (q_all i1) (Int32.not_le.mp kc23)).w (by decide) (by decide)
        have kv25 : q_V 1 2147483647 i1 := (q_lt2 vkx1 (q_all i1) (Int32.not_le.mp kc23)).w (by decide) (by decide)
        refine lv_aload_n hx hb dX11_readAhead_46 rfl (lv_at hl 0 rfl) ?_
        refine q_getr hE hW h0 rfl q_k11 6 (by decide) rfl (hE.l wl_36) dX11_readAhead_47 (fun kb26 ekb26 hkb26a hkb26b => ?_)
        have hkb26 : q_T G kb26 = 7 := q_tag hkb26a hkb26b
        refine q_gov hW (q_runV (As := []) (rest := []) hE hW (c_X2_passHour_tz l G ks2 kb26 hkb26 (q_fr.sub hz41a (by decide) (by decide))) kw_X11_216 (q_recv hE hW hkb26 rfl q_k2) rfl hl.1 rfl (Nat.le_of_ble_eq_true rfl) dX11_readAhead_50 ⟨by decide, by decide⟩ ⟨by decide, by decide⟩) (by decide) (fun ks28 H locs kp27 kf29 hW => ?_)
        have kz30 := (q_fr.and (q_fr.fr (q_fr.sub (F2 := []) (A2 := [(28, 0, 7)]) hz41a (by decide) (by decide)) kf29 (by decide) (by decide)) kp27.2)
        refine lv_iconst (v := 0) hx hb dX11_readAhead_53 (by decide) ?_
        refine lv_istore_n (lv' := [(3, .int 0), (0, .ref a0), (1, .int i1), (2, .int kx1)]) hx hb dX11_readAhead_54 rfl hl (by decide) rfl (fun ls hl => ?_)
        exact lp55a _ _ _ _ kv25 kv24 0 ((q_c (k := 0) (x := 0) (by decide)).w (by decide) (by decide)) hW (q_fr.sub kz30 (by decide) (by decide)) ls (lv_sub hl [1, 2, 3, 0] rfl) (Nat.lt_succ_self _)
  have lp13a : ∀ (n13a : Nat) (ks32 : q_S) (H : Heap) (locs : List Loc) (kx31 : Int32) (vkx31 : q_V 0 7 kx31) (hW : q_Wd G [5, 6, 7, 9, 10, 12, 28] σ s.heap ks32 H locs) (hz13a : q_fr G [(7, 1), (7, 4), (7, 6), (7, 7), (7, 8)] [(28, 0, 7), (12, 0, 6)] ks32) (ls : Array Slot) (hl : lv_has ls 4 [(0, .ref a0), (1, .int i1), (2, .int kx31)]), (7 - kx31.toInt).toNat < n13a → W p l e (q_Rm 6) s m args below meth c H locs 0 0 (MQ below (q_Qv G [5, 6, 7, 9, 10, 12, 28] σ (fun σ1 => q_fr G [] [(28, 0, 7)] σ1)) args s 0 0 (q_N G)) (F0 m 13 ls []) := by
    intro n13a
    induction n13a with
    | zero => intro _ _ _ _ _ _ _ _ _; exact fun h => absurd h (Nat.not_lt_zero _)
    | succ n13a ih13a =>
      intro ks32 H locs kx31 vkx31 hW hz13a ls hl hm13a
      refine lv_iload_n hx hb dX11_readAhead_13 rfl (lv_at hl 2 rfl) ?_
      refine lv_bipush (v := 7) hx hb dX11_readAhead_14 (by decide) ?_
      refine lv_icmp_ge (tgt := 39) hx hb dX11_readAhead_16 (by decide) (fun kc33 => ?_) (fun kc33 => ?_)
      · have kv34 : q_V 7 7 kx31 := (q_le2 (q_c (k := 7) (x := 7) (by decide)) vkx31 kc33).w (by decide) (by decide)
        refine lv_iconst (v := 0) hx hb dX11_readAhead_39 (by decide) ?_
        refine lv_istore_n (lv' := [(2, .int 0), (0, .ref a0), (1, .int i1)]) hx hb dX11_readAhead_40 rfl hl (by decide) rfl (fun ls hl => ?_)
        exact lp41a _ _ _ _ 0 ((q_c (k := 0) (x := 0) (by decide)).w (by decide) (by decide)) hW (q_fr.sub hz13a (by decide) (by decide)) ls (lv_sub hl [1, 2, 0] rfl) (Nat.lt_succ_self _)
      · have kv35 : q_V 0 6 kx31 := (q_lt1 vkx31 (q_c (k := 7) (x := 7) (by decide)) (Int32.not_le.mp kc33)).w (by decide) (by decide)
        refine lv_aload_n hx hb dX11_readAhead_19 rfl (lv_at hl 0 rfl) ?_
        refine q_getr hE hW h0 rfl q_k11 8 (by decide) rfl (hE.l wl_46) dX11_readAhead_20 (fun kb36 ekb36 hkb36a hkb36b => ?_)
        have hkb36 : q_T G kb36 = 28 := q_tag hkb36a hkb36b
        refine lv_iload_n hx hb dX11_readAhead_23 rfl (lv_at hl 2 rfl) ?_
        refine lv_aload_n hx hb dX11_readAhead_24 rfl (lv_at hl 0 rfl) ?_
        refine q_getr hE hW h0 rfl q_k11 6 (by decide) rfl (hE.l wl_36) dX11_readAhead_25 (fun kb37 ekb37 hkb37a hkb37b => ?_)
        have hkb37 : q_T G kb37 = 7 := q_tag hkb37a hkb37b
        refine lv_iload_n hx hb dX11_readAhead_28 rfl (lv_at hl 2 rfl) ?_
        refine q_goi hW (q_runV (As := [.int kx31]) (rest := [.int kx31, .ref kb36]) hE hW (c_X2_readAt_tz l G ks32 kb37 hkb37 kx31 (q_fr.sub hz13a (by decide) (by decide))) kw_X11_226 (q_recv hE hW hkb37 rfl q_k2) rfl hl.1 rfl (Nat.le_of_ble_eq_true rfl) dX11_readAhead_29 ⟨by decide, by decide⟩ ⟨by decide, by decide⟩) (by decide) (fun kx41 ks39 H locs kp38 kf40 hW => ?_)
        have kz42 := (q_fr.fr (q_fr.sub (F2 := [(7, 1), (7, 4), (7, 6), (7, 7), (7, 8)]) (A2 := [(28, 0, 7), (12, 0, 6)]) hz13a (by decide) (by decide)) kf40 (by decide) (by decide))
        obtain rfl : (0 : Int32) = kx41 := (q_lit kp38 (by decide)).symm
        refine q_iast hE hW hkb36 rfl (q_in kv35 (by decide) (by decide)) trivial (by decide) dX11_readAhead_32 (fun H locs ks43 kp44 hW => ?_)
        have kz45 := (q_fr.wA0 kz42 kp44 hkb36 rfl)
        obtain ⟨kx46, ekx46⟩ : ∃ y : Int32, y = kx31 + 1 := ⟨_, rfl⟩
        have vkx46 : q_V 1 7 kx46 := by rw [ekx46]; exact (q_add kv35 (q_c (k := 1) (x := 1) (by decide)) (by decide) (by decide)).w (by decide) (by decide)
        have ikx46 : kx46.toInt = kx31.toInt + 1 := q_incT ekx46 kv35 (by decide) (by decide) (by decide)
        refine lv_iinc (v := kx46) (lv' := [(2, .int kx46), (0, .ref a0), (1, .int i1)]) hx hb dX11_readAhead_33 hl (k := 2) rfl (by rw [ekx46]; rfl) (by decide) rfl (fun ls hl => ?_)
        refine lv_goto (tgt := 13) hx hb dX11_readAhead_36 (by decide) ?_
        exact ih13a _ _ _ kx46 (vkx46.w (by decide) (by decide)) hW (q_fr.sub kz45 (by decide) (by decide)) ls (lv_sub hl [1, 2, 0] rfl) (Nat.lt_of_lt_of_le (q_up (ikx46) (show q_V 1 7 kx46 from vkx46).2) (Nat.le_of_lt_succ hm13a))
  refine lv_aload_n hx hb dX11_readAhead_0 rfl (lv_at hl 0 rfl) ?_
  refine q_getr hE hW h0 rfl q_k11 6 (by decide) rfl (hE.l wl_36) dX11_readAhead_1 (fun kb47 ekb47 hkb47a hkb47b => ?_)
  have hkb47 : q_T G kb47 = 7 := q_tag hkb47a hkb47b
  refine lv_aload_n hx hb dX11_readAhead_4 rfl (lv_at hl 0 rfl) ?_
  refine q_getr hE hW h0 rfl q_k11 5 (by decide) rfl (hE.l wl_35) dX11_readAhead_5 (fun kb48 ekb48 hkb48a hkb48b => ?_)
  have hkb48 : q_T G kb48 = 7 := q_tag hkb48a hkb48b
  refine q_gov hW (q_runV (As := [.ref kb48]) (rest := []) hE hW (c_X2_copyFrom_tz l G σ kb47 hkb47 kb48 hkb48 (q_fr.sub hz (by decide) (by decide))) kw_X11_121 (q_recv hE hW hkb47 rfl q_k2) rfl hl.1 rfl (Nat.le_of_ble_eq_true rfl) dX11_readAhead_8 ⟨by decide, by decide⟩ ⟨by decide, by decide⟩) (by decide) (fun ks50 H locs kp49 kf51 hW => ?_)
  have kz52 := (q_fr.and (q_fr.fr (q_fr.sub (F2 := []) (A2 := [(28, 0, 7)]) hz (by decide) (by decide)) kf51 (by decide) (by decide)) kp49)
  refine lv_iconst (v := 0) hx hb dX11_readAhead_11 (by decide) ?_
  refine lv_istore_n (lv' := [(2, .int 0), (0, .ref a0), (1, .int i1)]) hx hb dX11_readAhead_12 rfl hl (by decide) rfl (fun ls hl => ?_)
  exact lp13a _ _ _ _ 0 ((q_c (k := 0) (x := 0) (by decide)).w (by decide) (by decide)) hW (q_fr.sub kz52 (by decide) (by decide)) ls (lv_sub hl [1, 2, 0] rfl) (Nat.lt_succ_self _)
set_option maxHeartbeats 4000000 in
set_option maxRecDepth 100000 in
theorem c_X7_read_tz (l : Launch) (G : q_G) (σ : q_S) (a0 : Nat) (h0 : q_T G a0 = 15) (a1 : Nat) (h1 : q_T G a1 = 7) (hz : q_fr G [(7, 1), (7, 4), (7, 6), (7, 7), (7, 8), (13, 1)] [(12, 0, 6)] σ) : Met l yX7_read (Cond.code yX7_read cX7_read 2 (some .int) :: wsL_law) (q_Rm 7) (q_Pre G σ [.ref a0, .ref a1]) (q_Qi G [5, 6, 7, 9, 10, 12, 15] σ (fun r σ1 => q_V 0 0 r)) 0 0 (q_N G) := by
  refine q_ofW (ts := [5, 6, 7, 9, 10, 12, 15]) (by decide) (Nat.le_of_ble_eq_true rfl) ?_
  intro p e s m args below meth c hE hr hlocks hW ls hl
  have hE : q_E G p s m args c cX7_read 2 RX7 := hE
  have hx := hE.1.1
  have hb := hE.1.2.1
  have hl : lv_has ls 2 [(0, .ref a0), (1, .ref a1)] := hl
  refine lv_aload_n hx hb dX7_read_0 rfl (lv_at hl 0 rfl) ?_
  refine q_getr hE hW h0 rfl q_k7 1 (by decide) rfl (hE.l wl_106) dX7_read_1 (fun kb1 ekb1 hkb1a hkb1b => ?_)
  have hkb1 : q_T G kb1 = 7 := q_tag hkb1a hkb1b
  refine lv_aload_n hx hb dX7_read_4 rfl (lv_at hl 1 rfl) ?_
  refine q_gov hW (q_runV (As := [.ref a1]) (rest := []) hE hW (c_X2_copyFrom_tz l G σ kb1 hkb1 a1 h1 (q_fr.sub hz (by decide) (by decide))) kw_X7_23 (q_recv hE hW hkb1 rfl q_k2) rfl hl.1 rfl (Nat.le_of_ble_eq_true rfl) dX7_read_5 ⟨by decide, by decide⟩ ⟨by decide, by decide⟩) (by decide) (fun ks3 H locs kp2 kf4 hW => ?_)
  have kz5 := (q_fr.and (q_fr.fr (q_fr.sub (F2 := [(13, 1)]) (A2 := []) hz (by decide) (by decide)) kf4 (by decide) (by decide)) kp2)
  refine lv_aload_n hx hb dX7_read_8 rfl (lv_at hl 0 rfl) ?_
  refine lv_iconst (v := 0) hx hb dX7_read_9 (by decide) ?_
  refine q_puti hE hW h0 rfl q_k7 tyX7 tyX7_ok 4 (by decide) rfl (hE.l wl_191) rfl rfl rfl ((q_c (k := 0) (x := 0) (by decide)).w (by decide) (by decide)) (by decide) dX7_read_10 (fun H locs ks6 kp7 hW => ?_)
  have kz8 := (kz5.wI kp7 h0 (Or.inl (by decide)))
  refine lv_aload_n hx hb dX7_read_13 rfl (lv_at hl 0 rfl) ?_
  refine q_gov hW (q_runV (As := []) (rest := []) hE hW (c_X7_step_tz l G ks6 a0 h0 kp7.1 (q_fr.sub kz8 (by decide) (by decide))) kw_X7_33 (q_recv hE hW h0 rfl q_k7) rfl hl.1 rfl (Nat.le_of_ble_eq_true rfl) dX7_read_14 ⟨by decide, by decide⟩ ⟨by decide, by decide⟩) (by decide) (fun ks10 H locs kp9 kf11 hW => ?_)
  have kz12 := (q_fr.fr (q_fr.sub (F2 := [(13, 1), (7, 1), (7, 4), (7, 6), (7, 7), (7, 8)]) (A2 := [(12, 0, 6)]) kz8 (by decide) (by decide)) kf11 (by decide) (by decide))
  refine lv_aload_n hx hb dX7_read_17 rfl (lv_at hl 0 rfl) ?_
  refine lv_iconst (v := 1) hx hb dX7_read_18 (by decide) ?_
  refine q_puti hE hW h0 rfl q_k7 tyX7 tyX7_ok 5 (by decide) rfl (hE.l wl_192) rfl rfl rfl ((q_c (k := 1) (x := 1) (by decide)).w (by decide) (by decide)) (by decide) dX7_read_19 (fun H locs ks13 kp14 hW => ?_)
  have kz15 := (kz12.wI kp14 h0 (Or.inl (by decide)))
  refine lv_aload_n hx hb dX7_read_22 rfl (lv_at hl 0 rfl) ?_
  refine q_geti hE hW h0 rfl q_k7 5 (by decide) rfl (hE.l wl_192) dX7_read_23 (fun kx16 ekx16 vkx16 => ?_)
  obtain rfl : 1 = kx16 := kp14.1.symm.trans ekx16
  refine lv_bipush (v := 20) hx hb dX7_read_26 (by decide) ?_
  refine lv_icmp_gt (tgt := 106) hx hb dX7_read_28 (by decide) (fun kc17 => ?_) (fun kc17 => ?_)
  · have kv18 : q_V 20 0 20 := (q_lt1 (q_c (k := 20) (x := 20) (by decide)) (q_c (k := 1) (x := 1) (by decide)) kc17).w (by decide) (by decide)
    exact (kv18.no (by decide))
  · refine lv_aload_n hx hb dX7_read_31 rfl (lv_at hl 0 rfl) ?_
    refine q_goi hW (q_runV (As := []) (rest := []) hE hW (c_X7_readsClause_tz l G ks13 a0 h0 ((kp14.2.1 _ _ (Or.inr (by decide))).trans kp9.1) ((kp14.2.1 _ _ (Or.inr (by decide))).trans kp9.2) (q_fr.sub kz15 (by decide) (by decide))) kw_X7_39 (q_recv hE hW h0 rfl q_k7) rfl hl.1 rfl (Nat.le_of_ble_eq_true rfl) dX7_read_32 ⟨by decide, by decide⟩ ⟨by decide, by decide⟩) (by decide) (fun kx22 ks20 H locs kp19 kf21 hW => ?_)
    have kz23 := (q_fr.fr (q_fr.sub (F2 := [(13, 1), (7, 1), (7, 4), (7, 6), (7, 7), (7, 8)]) (A2 := [(12, 0, 6)]) kz15 (by decide) (by decide)) kf21 (by decide) (by decide))
    obtain rfl : (0 : Int32) = kx22 := (q_lit kp19 (by decide)).symm
    refine lv_if_ne (tgt := 43) hx hb dX7_read_35 (by decide) (fun kc24 => ?_) (fun kc24 => ?_)
    · exact q_neq (q_c (k := 0) (x := 0) (by decide)) (q_c (k := 0) (x := 0) (by decide)) kc24
    · refine lv_aload_n hx hb dX7_read_38 rfl (lv_at hl 0 rfl) ?_
      refine q_geti hE hW h0 rfl q_k7 3 (by decide) rfl (hE.l wl_193) dX7_read_39 (fun kx25 ekx25 vkx25 => ?_)
      obtain rfl : 0 = kx25 := (((kf21.I _ h0 (by decide)).trans (kp14.2.1 _ _ (Or.inr (by decide)))).trans kp9.1).symm.trans ekx25
      exact q_reti hE hr hlocks hW ((q_c (k := 0) (x := 0) (by decide))) dX7_read_42
set_option maxHeartbeats 4000000 in
set_option maxRecDepth 100000 in
theorem c_X11_plan_tz (l : Launch) (G : q_G) (σ : q_S) (a0 : Nat) (h0 : q_T G a0 = 26) (i1 : Int32) (hz : q_fr G [(7, 1), (7, 4)] [] σ) : Met l yX11_plan (Cond.code yX11_plan cX11_plan 2 (some .int) :: wsL_law) (q_Rm 13) (q_Pre G σ [.ref a0, .int i1]) (q_Qi G [16, 17, 18, 19, 20, 22] σ (fun r σ1 => q_V (-2147483648) 2147483647 r ∧ r = kz_plan i1)) 0 0 (q_N G) := by
  refine q_ofW (ts := [16, 17, 18, 19, 20, 22]) (by decide) (Nat.le_of_ble_eq_true rfl) ?_
  intro p e s m args below meth c hE hr hlocks hW ls hl
  have hE : q_E G p s m args c cX11_plan 2 RX11 := hE
  have hx := hE.1.1
  have hb := hE.1.2.1
  have hl : lv_has ls 2 [(0, .ref a0), (1, .int i1)] := hl
  refine lv_iload_n hx hb dX11_plan_0 rfl (lv_at hl 1 rfl) ?_
  refine lv_iconst (v := (-1)) hx hb dX11_plan_1 (by decide) ?_
  refine lv_icmp_eq (tgt := 19) hx hb dX11_plan_2 (by decide) (fun kc1 => ?_) (fun kc1 => ?_)
  · have kv2 : q_V (-1) (-1) i1 := q_eq1 (q_all i1) (q_c (k := (-1)) (x := (-1)) (by decide)) kc1 (by decide) (by decide)
    refine lv_aload_n hx hb dX11_plan_19 rfl (lv_at hl 0 rfl) ?_
    refine q_getr hE hW h0 rfl q_k11 7 (by decide) rfl (hE.l wl_44) dX11_plan_20 (fun kb3 ekb3 hkb3a hkb3b => ?_)
    have hkb3 : q_T G kb3 = 16 := q_tag hkb3a hkb3b
    refine q_gov hW (q_runV (As := []) (rest := []) hE hW (c_X6_make_tz l G σ kb3 hkb3 (q_fr.sub hz (by decide) (by decide))) kw_X11_241 (q_recv hE hW hkb3 rfl q_k6) rfl hl.1 rfl (Nat.le_of_ble_eq_true rfl) dX11_plan_23 ⟨by decide, by decide⟩ ⟨by decide, by decide⟩) (by decide) (fun ks5 H locs kp4 kf6 hW => ?_)
    have kz7 := (q_fr.fr (q_fr.sub (F2 := [(7, 1), (7, 4)]) (A2 := []) hz (by decide) (by decide)) kf6 (by decide) (by decide))
    refine lv_iload_n hx hb dX11_plan_26 rfl (lv_at hl 1 rfl) ?_
    refine lv_iconst (v := (-1)) hx hb dX11_plan_27 (by decide) ?_
    refine lv_icmp_ne (tgt := 41) hx hb dX11_plan_28 (by decide) (fun kc8 => ?_) (fun kc8 => ?_)
    · exact q_neq kv2 (q_c (k := (-1)) (x := (-1)) (by decide)) kc8
    · refine lv_aload_n hx hb dX11_plan_31 rfl (lv_at hl 0 rfl) ?_
      refine q_getr hE hW h0 rfl q_k11 7 (by decide) rfl (hE.l wl_44) dX11_plan_32 (fun kb9 ekb9 hkb9a hkb9b => ?_)
      obtain rfl : kb3 = kb9 := ((kf6.R _ h0 (by decide)).trans ekb3).symm.trans ekb9
      refine q_geti hE hW hkb3 rfl q_k6 6 (by decide) rfl (hE.n 36 rfl) dX11_plan_35 (fun kx10 ekx10 vkx10 => ?_)
      obtain rfl : 0 = kx10 := kp4.symm.trans ekx10
      refine lv_goto (tgt := 49) hx hb dX11_plan_38 (by decide) ?_
      exact q_reti hE hr hlocks hW (⟨((q_c (k := 0) (x := 0) (by decide)).w (by decide) (by decide)), (by have := kv2.1; have := kv2.2; unfold kz_plan; (repeat' split) <;> first | rfl | omega)⟩) dX11_plan_49
  · refine lv_aload_n hx hb dX11_plan_5 rfl (lv_at hl 0 rfl) ?_
    refine q_getr hE hW h0 rfl q_k11 5 (by decide) rfl (hE.l wl_35) dX11_plan_6 (fun kb11 ekb11 hkb11a hkb11b => ?_)
    have hkb11 : q_T G kb11 = 7 := q_tag hkb11a hkb11b
    refine lv_iload_n hx hb dX11_plan_9 rfl (lv_at hl 1 rfl) ?_
    refine q_goq hW (q_runV (As := [.int i1]) (rest := []) hE hW (c_X2_cloudAt_tz l G σ kb11 hkb11 i1 (q_fr.sub hz (by decide) (by decide))) kw_X11_137 (q_recv hE hW hkb11 rfl q_k2) rfl hl.1 rfl (Nat.le_of_ble_eq_true rfl) dX11_plan_10 ⟨by decide, by decide⟩ ⟨by decide, by decide⟩) (by decide) (fun ks13 H locs kp12 kf14 hW => ?_) (fun kb15 ks13 H locs kp12 kf14 hW => ?_)
    · refine lv_ifnonnullN hx hb dX11_plan_13 ?_
      refine lv_bipush (v := (-2)) hx hb dX11_plan_16 (by decide) ?_
      exact q_reti hE hr hlocks hW (⟨((q_c (k := (-2)) (x := (-2)) (by decide)).w (by decide) (by decide)), (by have : i1.toInt ≠ -1 := fun q_e => kc1 (Int32.toInt_inj.mp (q_e.trans (by decide))); unfold kz_plan; (repeat' split) <;> first | rfl | omega)⟩) dX11_plan_18
    · exact absurd kp12.2 (fun q_h => by cases q_h)
set_option maxHeartbeats 4000000 in
set_option maxRecDepth 100000 in
theorem c_X11_fault_tz (l : Launch) (G : q_G) (σ : q_S) (a0 : Nat) (h0 : q_T G a0 = 26) (hz : q_fr G [(7, 1), (7, 4), (7, 6), (7, 7), (7, 8), (13, 1)] [(12, 0, 6)] σ) : Met l yX11_fault (Cond.code yX11_fault cX11_fault 1 (some .int) :: wsL_law) (q_Rm 8) (q_Pre G σ [.ref a0]) (q_Qi G [5, 6, 7, 9, 10, 12, 15] σ (fun r σ1 => q_V 0 0 r)) 0 0 (q_N G) := by
  refine q_ofW (ts := [5, 6, 7, 9, 10, 12, 15]) (by decide) (Nat.le_of_ble_eq_true rfl) ?_
  intro p e s m args below meth c hE hr hlocks hW ls hl
  have hE : q_E G p s m args c cX11_fault 1 RX11 := hE
  have hx := hE.1.1
  have hb := hE.1.2.1
  have hl : lv_has ls 1 [(0, .ref a0)] := hl
  refine lv_aload_n hx hb dX11_fault_0 rfl (lv_at hl 0 rfl) ?_
  refine q_getr hE hW h0 rfl q_k11 2 (by decide) rfl (hE.l wl_40) dX11_fault_1 (fun kb1 ekb1 hkb1a hkb1b => ?_)
  have hkb1 : q_T G kb1 = 15 := q_tag hkb1a hkb1b
  refine lv_aload_n hx hb dX11_fault_4 rfl (lv_at hl 0 rfl) ?_
  refine q_getr hE hW h0 rfl q_k11 3 (by decide) rfl (hE.l wl_33) dX11_fault_5 (fun kb2 ekb2 hkb2a hkb2b => ?_)
  have hkb2 : q_T G kb2 = 7 := q_tag hkb2a hkb2b
  refine q_goi hW (q_runV (As := [.ref kb2]) (rest := []) hE hW (c_X7_read_tz l G σ kb1 hkb1 kb2 hkb2 (q_fr.sub hz (by decide) (by decide))) kw_X11_117 (q_recv hE hW hkb1 rfl q_k7) rfl hl.1 rfl (Nat.le_of_ble_eq_true rfl) dX11_fault_8 ⟨by decide, by decide⟩ ⟨by decide, by decide⟩) (by decide) (fun kx6 ks4 H locs kp3 kf5 hW => ?_)
  have kz7 := (q_fr.fr (q_fr.sub (F2 := [(13, 1)]) (A2 := []) hz (by decide) (by decide)) kf5 (by decide) (by decide))
  obtain rfl : (0 : Int32) = kx6 := (q_lit kp3 (by decide)).symm
  exact q_reti hE hr hlocks hW ((q_c (k := 0) (x := 0) (by decide))) dX11_fault_11
set_option maxHeartbeats 4000000 in
set_option maxRecDepth 100000 in
theorem c_X11_summer_tz (l : Launch) (G : q_G) (σ : q_S) (a0 : Nat) (h0 : q_T G a0 = 26) (hz : q_fr G [(7, 1), (7, 4), (7, 6), (7, 7), (7, 8), (13, 1)] [(12, 0, 6)] σ) : Met l yX11_summer (Cond.code yX11_summer cX11_summer 2 (some .int) :: wsL_law) (q_Rm 8) (q_Pre G σ [.ref a0]) (q_Qi G [5, 6, 7, 9, 10, 12, 13, 15, 23, 26, 27, 31, 32] σ (fun r σ1 => q_V (-4) (-4) r)) 0 0 (q_N G) := by
  refine q_ofW (ts := [5, 6, 7, 9, 10, 12, 13, 15, 23, 26, 27, 31, 32]) (by decide) (Nat.le_of_ble_eq_true rfl) ?_
  intro p e s m args below meth c hE hr hlocks hW ls hl
  have hE : q_E G p s m args c cX11_summer 2 RX11 := hE
  have hx := hE.1.1
  have hb := hE.1.2.1
  have hl : lv_has ls 2 [(0, .ref a0)] := hl
  refine lv_aload_n hx hb dX11_summer_0 rfl (lv_at hl 0 rfl) ?_
  refine q_getr hE hW h0 rfl q_k11 2 (by decide) rfl (hE.l wl_40) dX11_summer_1 (fun kb1 ekb1 hkb1a hkb1b => ?_)
  have hkb1 : q_T G kb1 = 15 := q_tag hkb1a hkb1b
  refine lv_aload_n hx hb dX11_summer_4 rfl (lv_at hl 0 rfl) ?_
  refine q_getr hE hW h0 rfl q_k11 3 (by decide) rfl (hE.l wl_33) dX11_summer_5 (fun kb2 ekb2 hkb2a hkb2b => ?_)
  have hkb2 : q_T G kb2 = 7 := q_tag hkb2a hkb2b
  refine q_goi hW (q_runV (As := [.ref kb2]) (rest := []) hE hW (c_X7_read_tz l G σ kb1 hkb1 kb2 hkb2 (q_fr.sub hz (by decide) (by decide))) kw_X11_117 (q_recv hE hW hkb1 rfl q_k7) rfl hl.1 rfl (Nat.le_of_ble_eq_true rfl) dX11_summer_8 ⟨by decide, by decide⟩ ⟨by decide, by decide⟩) (by decide) (fun kx6 ks4 H locs kp3 kf5 hW => ?_)
  have kz7 := (q_fr.fr (q_fr.sub (F2 := [(13, 1)]) (A2 := []) hz (by decide) (by decide)) kf5 (by decide) (by decide))
  obtain rfl : (0 : Int32) = kx6 := (q_lit kp3 (by decide)).symm
  refine lv_iconst (v := (-1)) hx hb dX11_summer_11 (by decide) ?_
  refine lv_icmp_eq (tgt := 18) hx hb dX11_summer_12 (by decide) (fun kc8 => ?_) (fun kc8 => ?_)
  · have kv9 : q_V 0 (-1) 0 := q_eq1 (q_c (k := 0) (x := 0) (by decide)) (q_c (k := (-1)) (x := (-1)) (by decide)) kc8 (by decide) (by decide)
    exact (kv9.no (by decide))
  · refine lv_bipush (v := (-4)) hx hb dX11_summer_15 (by decide) ?_
    exact q_reti hE hr hlocks hW ((q_c (k := (-4)) (x := (-4)) (by decide))) dX11_summer_17
