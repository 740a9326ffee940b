set_option maxHeartbeats 4000000 in
set_option maxRecDepth 100000 in
theorem c_X12_isCloud_tz (l : Launch) (G : q_G) (σ : q_S) (a0 : Nat) (h0 : q_T G a0 = 40) (i1 : Int32) (hz : q_fr G [(40, 0)] [] σ) : Met l yX12_isCloud (Cond.code yX12_isCloud cX12_isCloud 2 (some .boolean) :: wsL_law) (q_Rm 2) (q_Pre G σ [.ref a0, .int i1]) (q_Qi G [] σ (fun r σ1 => q_V 0 0 r)) 0 0 (q_N G) := by
  refine q_ofW (ts := []) (by decide) (Nat.le_of_ble_eq_true rfl) ?_
  intro p e s m args below meth c hE hr hlocks hW ls hl
  have hE : q_E G p s m args c cX12_isCloud 2 RX12 := hE
  have hx := hE.1.1
  have hb := hE.1.2.1
  have hl : lv_has ls 2 [(0, .ref a0), (1, .int i1)] := hl
  refine lv_iload_n hx hb dX12_isCloud_0 rfl (lv_at hl 1 rfl) ?_
  refine lv_i2l (v := i1.toInt64) hx hb dX12_isCloud_1 rfl ?_
  refine lv_lconst (v := 0) hx hb dX12_isCloud_2 (by decide) ?_
  refine lv_aload_n hx hb dX12_isCloud_3 rfl (lv_at hl 0 rfl) ?_
  refine q_geti hE hW h0 rfl q_k12 0 (by decide) rfl (hE.l wl_358) dX12_isCloud_4 (fun kx1 ekx1 vkx1 => ?_)
  obtain rfl : (0 : Int32) = kx1 := (q_fr.f hz (t := 40) (k := 0) (by decide) h0).symm.trans ekx1
  refine lv_iconst (v := 1) hx hb dX12_isCloud_7 (by decide) ?_
  refine lv_isub hx hb dX12_isCloud_8 ?_
  refine lv_eqi (y := (-1)) (by decide) ?_
  refine lv_i2l (v := ((-1) : Int32).toInt64) hx hb dX12_isCloud_9 rfl ?_
  refine q_goi hW (q_runS (As := [.long (i1).toInt64, .long 0, .long ((-1) : Int32).toInt64]) (rest := []) hE hW (c_X12_in l G σ ((i1).toInt64) 0 (((-1) : Int32).toInt64)) kw_X12_99 rfl hl.1 rfl (Nat.le_of_ble_eq_true rfl) dX12_isCloud_10 ⟨by decide, by decide⟩ ⟨by decide, by decide⟩) (by decide) (fun kx5 ks3 H locs kp2 kf4 hW => ?_)
  have kz6 := (q_fr.fr (q_fr.sub (F2 := [(40, 0)]) (A2 := []) hz (by decide) (by decide)) kf4 (by decide) (by decide))
  obtain rfl : (0 : Int32) = kx5 := q_in0 kp2.1 kp2.2.1 (by decide)
  exact q_retz hE hr hlocks hW (Or.inl rfl) ((q_c (k := 0) (x := 0) (by decide))) dX12_isCloud_13
set_option maxHeartbeats 4000000 in
set_option maxRecDepth 100000 in
theorem c_X12_isWasher_tz (l : Launch) (G : q_G) (σ : q_S) (a0 : Nat) (h0 : q_T G a0 = 40) (i1 : Int32) (hz : q_fr G [(40, 5)] [] σ) : Met l yX12_isWasher (Cond.code yX12_isWasher cX12_isWasher 2 (some .boolean) :: wsL_law) (q_Rm 2) (q_Pre G σ [.ref a0, .int i1]) (q_Qi G [] σ (fun r σ1 => q_V 0 0 r)) 0 0 (q_N G) := by
  refine q_ofW (ts := []) (by decide) (Nat.le_of_ble_eq_true rfl) ?_
  intro p e s m args below meth c hE hr hlocks hW ls hl
  have hE : q_E G p s m args c cX12_isWasher 2 RX12 := hE
  have hx := hE.1.1
  have hb := hE.1.2.1
  have hl : lv_has ls 2 [(0, .ref a0), (1, .int i1)] := hl
  refine lv_iload_n hx hb dX12_isWasher_0 rfl (lv_at hl 1 rfl) ?_
  refine lv_i2l (v := i1.toInt64) hx hb dX12_isWasher_1 rfl ?_
  refine lv_lconst (v := 0) hx hb dX12_isWasher_2 (by decide) ?_
  refine lv_aload_n hx hb dX12_isWasher_3 rfl (lv_at hl 0 rfl) ?_
  refine q_geti hE hW h0 rfl q_k12 5 (by decide) rfl (hE.l wl_360) dX12_isWasher_4 (fun kx1 ekx1 vkx1 => ?_)
  obtain rfl : (0 : Int32) = kx1 := (q_fr.f hz (t := 40) (k := 5) (by decide) h0).symm.trans ekx1
  refine lv_iconst (v := 1) hx hb dX12_isWasher_7 (by decide) ?_
  refine lv_isub hx hb dX12_isWasher_8 ?_
  refine lv_eqi (y := (-1)) (by decide) ?_
  refine lv_i2l (v := ((-1) : Int32).toInt64) hx hb dX12_isWasher_9 rfl ?_
  refine q_goi hW (q_runS (As := [.long (i1).toInt64, .long 0, .long ((-1) : Int32).toInt64]) (rest := []) hE hW (c_X12_in l G σ ((i1).toInt64) 0 (((-1) : Int32).toInt64)) kw_X12_99 rfl hl.1 rfl (Nat.le_of_ble_eq_true rfl) dX12_isWasher_10 ⟨by decide, by decide⟩ ⟨by decide, by decide⟩) (by decide) (fun kx5 ks3 H locs kp2 kf4 hW => ?_)
  have kz6 := (q_fr.fr (q_fr.sub (F2 := [(40, 5)]) (A2 := []) hz (by decide) (by decide)) kf4 (by decide) (by decide))
  obtain rfl : (0 : Int32) = kx5 := q_in0 kp2.1 kp2.2.1 (by decide)
  exact q_retz hE hr hlocks hW (Or.inl rfl) ((q_c (k := 0) (x := 0) (by decide))) dX12_isWasher_13
set_option maxHeartbeats 4000000 in
set_option maxRecDepth 100000 in
theorem c_X12_water_tz (l : Launch) (G : q_G) (σ : q_S) (a0 : Nat) (h0 : q_T G a0 = 40) (i1 : Int32) (i2 : Int32) (hz : q_fr G [] [(46, 0, 54), (46, 57, 58), (46, 58, 59), (46, 59, 101)] σ) : Met l yX12_water (Cond.code yX12_water cX12_water 3 (some .int) :: wsL_law) (q_Rm 3) (q_Pre G σ [.ref a0, .int i1, .int i2]) (q_Qi G [] σ (fun r σ1 => q_V (-2147483648) 2147483647 r ∧ r = kz_water i1 i2)) 0 0 (q_N G) := by
  refine q_ofW (ts := []) (by decide) (Nat.le_of_ble_eq_true rfl) ?_
  intro p e s m args below meth c hE hr hlocks hW ls hl
  have hE : q_E G p s m args c cX12_water 3 RX12 := hE
  have hx := hE.1.1
  have hb := hE.1.2.1
  have hl : lv_has ls 3 [(0, .ref a0), (1, .int i1), (2, .int i2)] := hl
  refine lv_iload_n hx hb dX12_water_0 rfl (lv_at hl 1 rfl) ?_
  refine lv_i2l (v := i1.toInt64) hx hb dX12_water_1 rfl ?_
  refine lv_lconst (v := 0) hx hb dX12_water_2 (by decide) ?_
  refine lv_ldc2 (v := 6) hx hb hE.1.2.2.2.1 (hE.w wl_557) dX12_water_3 ?_
  refine q_goi hW (q_runS (As := [.long (i1).toInt64, .long 0, .long 6]) (rest := []) hE hW (c_X12_in l G σ ((i1).toInt64) 0 6) kw_X12_99 rfl hl.1 rfl (Nat.le_of_ble_eq_true rfl) dX12_water_6 ⟨by decide, by decide⟩ ⟨by decide, by decide⟩) (by decide) (fun kx4 ks2 H locs kp1 kf3 hW => ?_)
  have kz5 := (q_fr.fr (q_fr.sub (F2 := []) (A2 := [(46, 0, 54), (46, 57, 58), (46, 58, 59), (46, 59, 101)]) hz (by decide) (by decide)) kf3 (by decide) (by decide))
  refine lv_if_eq (tgt := 41) hx hb dX12_water_9 (by decide) (fun kc6 => ?_) (fun kc6 => ?_)
  · have kv7 : q_V 0 0 kx4 := q_eq1 kp1.1 (q_c (k := 0) (x := 0) (by decide)) kc6 (by decide) (by decide)
    refine lv_bipush (v := (-2)) hx hb dX12_water_41 (by decide) ?_
    exact q_reti hE hr hlocks hW (⟨((q_c (k := (-2)) (x := (-2)) (by decide)).w (by decide) (by decide)), (by have := (q_nin (kp1.2.2 kc6) (q_lc (k := 0) (x := 0) (by decide)) (q_lc (k := 6) (x := 6) (by decide))); unfold kz_water; (repeat' split) <;> first | rfl | omega)⟩) dX12_water_43
  · have kv8 : q_V 0 6 i1 := q_inV (kp1.2.1 kc6).1 (kp1.2.1 kc6).2 (q_lc (k := 0) (x := 0) (by decide)) (q_lc (k := 6) (x := 6) (by decide))
    have kv9 : q_V 1 1 kx4 := q_ne1 kp1.1 (q_c (k := 0) (x := 0) (by decide)) kc6 (by decide)
    refine lv_iload_n hx hb dX12_water_12 rfl (lv_at hl 2 rfl) ?_
    refine lv_i2l (v := i2.toInt64) hx hb dX12_water_13 rfl ?_
    refine lv_lconst (v := 0) hx hb dX12_water_14 (by decide) ?_
    refine lv_ldc2 (v := 5) hx hb hE.1.2.2.2.1 (hE.w wl_532) dX12_water_15 ?_
    refine q_goi hW (q_runS (As := [.long (i2).toInt64, .long 0, .long 5]) (rest := []) hE hW (c_X12_in l G ks2 ((i2).toInt64) 0 5) kw_X12_99 rfl hl.1 rfl (Nat.le_of_ble_eq_true rfl) dX12_water_18 ⟨by decide, by decide⟩ ⟨by decide, by decide⟩) (by decide) (fun kx13 ks11 H locs kp10 kf12 hW => ?_)
    have kz14 := (q_fr.fr (q_fr.sub (F2 := []) (A2 := [(46, 0, 54), (46, 57, 58), (46, 58, 59), (46, 59, 101)]) kz5 (by decide) (by decide)) kf12 (by decide) (by decide))
    refine lv_if_eq (tgt := 41) hx hb dX12_water_21 (by decide) (fun kc15 => ?_) (fun kc15 => ?_)
    · have kv16 : q_V 0 0 kx13 := q_eq1 kp10.1 (q_c (k := 0) (x := 0) (by decide)) kc15 (by decide) (by decide)
      refine lv_bipush (v := (-2)) hx hb dX12_water_41 (by decide) ?_
      exact q_reti hE hr hlocks hW (⟨((q_c (k := (-2)) (x := (-2)) (by decide)).w (by decide) (by decide)), (by have := kv8.1; have := kv8.2; have := (q_nin (kp10.2.2 kc15) (q_lc (k := 0) (x := 0) (by decide)) (q_lc (k := 5) (x := 5) (by decide))); unfold kz_water; (repeat' split) <;> first | rfl | omega)⟩) dX12_water_43
    · have kv17 : q_V 0 5 i2 := q_inV (kp10.2.1 kc15).1 (kp10.2.1 kc15).2 (q_lc (k := 0) (x := 0) (by decide)) (q_lc (k := 5) (x := 5) (by decide))
      have kv18 : q_V 1 1 kx13 := q_ne1 kp10.1 (q_c (k := 0) (x := 0) (by decide)) kc15 (by decide)
      refine lv_aload_n hx hb dX12_water_24 rfl (lv_at hl 0 rfl) ?_
      refine q_getr hE hW h0 rfl q_k12 9 (by decide) rfl (hE.l wl_135) dX12_water_25 (fun kb19 ekb19 hkb19a hkb19b => ?_)
      have hkb19 : q_T G kb19 = 46 := q_tag hkb19a hkb19b
      refine lv_bipush (v := 59) hx hb dX12_water_28 (by decide) ?_
      refine lv_bipush (v := 6) hx hb dX12_water_30 (by decide) ?_
      refine lv_iload_n hx hb dX12_water_32 rfl (lv_at hl 1 rfl) ?_
      refine lv_imul hx hb dX12_water_33 ?_
      refine lv_topi (fun kx20 ekx20 => ?_)
      have vkx20 : q_V 0 36 kx20 := by rw [ekx20]; exact (q_mul (k := 6) (by decide) kv8 (by decide) (by decide) (by decide)).w (by decide) (by decide)
      refine lv_iadd hx hb dX12_water_34 ?_
      refine lv_topi (fun kx21 ekx21 => ?_)
      have vkx21 : q_V 59 95 kx21 := by rw [ekx21]; exact (q_add (q_c (k := 59) (x := 59) (by decide)) vkx20 (by decide) (by decide)).w (by decide) (by decide)
      refine lv_iload_n hx hb dX12_water_35 rfl (lv_at hl 2 rfl) ?_
      refine lv_iadd hx hb dX12_water_36 ?_
      refine lv_topi (fun kx22 ekx22 => ?_)
      have vkx22 : q_V 59 100 kx22 := by rw [ekx22]; exact (q_add vkx21 kv17 (by decide) (by decide)).w (by decide) (by decide)
      refine q_iald hE hW hkb19 rfl (q_in vkx22 (by decide) (by decide)) dX12_water_37 (fun kx23 ekx23 gkx23 => ?_)
      obtain rfl : (0 : Int32) = kx23 := (q_fr.z kz14 (t := 46) (l := 59) (u := 101) (by decide) hkb19 vkx22 (by decide) (by decide) (by decide)).symm.trans ekx23
      refine lv_goto (tgt := 43) hx hb dX12_water_38 (by decide) ?_
      exact q_reti hE hr hlocks hW (⟨((q_c (k := 0) (x := 0) (by decide)).w (by decide) (by decide)), (by have := kv8.1; have := kv8.2; have := kv17.1; have := kv17.2; unfold kz_water; (repeat' split) <;> first | rfl | omega)⟩) dX12_water_43
set_option maxHeartbeats 4000000 in
set_option maxRecDepth 100000 in
theorem c_X12_write_tz (l : Launch) (G : q_G) (σ : q_S) (a0 : Nat) (h0 : q_T G a0 = 40) (i1 : Int32) (hz : q_fr G [(40, 11)] [] σ) : Met l yX12_write (Cond.code yX12_write cX12_write 2 (some .int) :: wsL_law) (q_Rm 2) (q_Pre G σ [.ref a0, .int i1]) (q_Qi G [40, 47] σ (fun r σ1 => q_V (-2147483648) 2147483647 r ∧ r = kz_write i1)) 0 0 (q_N G) := by
  refine q_ofW (ts := [40, 47]) (by decide) (Nat.le_of_ble_eq_true rfl) ?_
  intro p e s m args below meth c hE hr hlocks hW ls hl
  have hE : q_E G p s m args c cX12_write 2 RX12 := hE
  have hx := hE.1.1
  have hb := hE.1.2.1
  have hl : lv_has ls 2 [(0, .ref a0), (1, .int i1)] := hl
  refine lv_iload_n hx hb dX12_write_0 rfl (lv_at hl 1 rfl) ?_
  refine lv_i2l (v := i1.toInt64) hx hb dX12_write_1 rfl ?_
  refine lv_lconst (v := 0) hx hb dX12_write_2 (by decide) ?_
  refine lv_ldc2 (v := 255) hx hb hE.1.2.2.2.1 (hE.w wl_170) dX12_write_3 ?_
  refine q_goi hW (q_runS (As := [.long (i1).toInt64, .long 0, .long 255]) (rest := []) hE hW (c_X12_in l G σ ((i1).toInt64) 0 255) kw_X12_99 rfl hl.1 rfl (Nat.le_of_ble_eq_true rfl) dX12_write_6 ⟨by decide, by decide⟩ ⟨by decide, by decide⟩) (by decide) (fun kx4 ks2 H locs kp1 kf3 hW => ?_)
  have kz5 := (q_fr.fr (q_fr.sub (F2 := [(40, 11)]) (A2 := []) hz (by decide) (by decide)) kf3 (by decide) (by decide))
  refine lv_if_ne (tgt := 15) hx hb dX12_write_9 (by decide) (fun kc6 => ?_) (fun kc6 => ?_)
  · have kv7 : q_V 0 255 i1 := q_inV (kp1.2.1 kc6).1 (kp1.2.1 kc6).2 (q_lc (k := 0) (x := 0) (by decide)) (q_lc (k := 255) (x := 255) (by decide))
    have kv8 : q_V 1 1 kx4 := q_ne1 kp1.1 (q_c (k := 0) (x := 0) (by decide)) kc6 (by decide)
    refine lv_aload_n hx hb dX12_write_15 rfl (lv_at hl 0 rfl) ?_
    refine q_geti hE hW h0 rfl q_k12 11 (by decide) rfl (hE.l wl_171) dX12_write_16 (fun kx9 ekx9 vkx9 => ?_)
    obtain rfl : (0 : Int32) = kx9 := (q_fr.f kz5 (t := 40) (k := 11) (by decide) h0).symm.trans ekx9
    refine lv_sipush (v := 200) hx hb dX12_write_19 (by decide) ?_
    refine lv_icmp_ne (tgt := 28) hx hb dX12_write_22 (by decide) (fun kc10 => ?_) (fun kc10 => ?_)
    · refine lv_aload_n hx hb dX12_write_28 rfl (lv_at hl 0 rfl) ?_
      refine q_getr hE hW h0 rfl q_k12 10 (by decide) rfl (hE.l wl_136) dX12_write_29 (fun kb11 ekb11 hkb11a hkb11b => ?_)
      have hkb11 : q_T G kb11 = 47 := q_tag hkb11a hkb11b
      refine lv_aload_n hx hb dX12_write_32 rfl (lv_at hl 0 rfl) ?_
      refine q_geti hE hW h0 rfl q_k12 11 (by decide) rfl (hE.l wl_171) dX12_write_33 (fun kx12 ekx12 vkx12 => ?_)
      obtain rfl : 0 = kx12 := ekx9.symm.trans ekx12
      refine lv_iload_n hx hb dX12_write_36 rfl (lv_at hl 1 rfl) ?_
      refine q_iast hE hW hkb11 rfl (q_in (q_c (k := 0) (x := 0) (by decide)) (by decide) (by decide)) trivial (by decide) dX12_write_37 (fun H locs ks13 kp14 hW => ?_)
      have kz15 := (q_fr.wAi (q_fr.sub (F2 := [(40, 11)]) (A2 := []) kz5 (by decide) (by decide)) kp14 hkb11 (q_c (k := 0) (x := 0) (by decide)) (by decide) (by decide))
      refine lv_aload_n hx hb dX12_write_38 rfl (lv_at hl 0 rfl) ?_
      refine lv_dup hx hb dX12_write_39 rfl ?_
      refine q_geti hE hW h0 rfl q_k12 11 (by decide) rfl (hE.l wl_171) dX12_write_40 (fun kx16 ekx16 vkx16 => ?_)
      obtain rfl : 0 = kx16 := ((kp14.2.2.2.1 _ _).trans ekx9).symm.trans ekx16
      refine lv_iconst (v := 1) hx hb dX12_write_43 (by decide) ?_
      refine lv_iadd hx hb dX12_write_44 ?_
      refine lv_eqi (y := 1) (by decide) ?_
      refine q_puti hE hW h0 rfl q_k12 tyX12 tyX12_ok 11 (by decide) rfl (hE.l wl_171) rfl rfl rfl ((q_c (k := 1) (x := 1) (by decide)).w (by decide) (by decide)) (by decide) dX12_write_45 (fun H locs ks17 kp18 hW => ?_)
      have kz19 := (q_fr.wI (q_fr.sub (F2 := []) (A2 := []) kz15 (by decide) (by decide)) kp18 h0 (Or.inl (by decide)))
      refine lv_aload_n hx hb dX12_write_48 rfl (lv_at hl 0 rfl) ?_
      refine q_geti hE hW h0 rfl q_k12 11 (by decide) rfl (hE.l wl_171) dX12_write_49 (fun kx20 ekx20 vkx20 => ?_)
      obtain rfl : 1 = kx20 := kp18.1.symm.trans ekx20
      exact q_reti hE hr hlocks hW (⟨((q_c (k := 1) (x := 1) (by decide)).w (by decide) (by decide)), (by have := kv7.1; have := kv7.2; unfold kz_write; (repeat' split) <;> first | rfl | omega)⟩) dX12_write_52
    · have kv21 : q_V 200 0 0 := q_eq1 (q_c (k := 0) (x := 0) (by decide)) (q_c (k := 200) (x := 200) (by decide)) kc10 (by decide) (by decide)
      exact (kv21.no (by decide))
  · have kv22 : q_V 0 0 kx4 := q_eq1 kp1.1 (q_c (k := 0) (x := 0) (by decide)) kc6 (by decide) (by decide)
    refine lv_bipush (v := (-3)) hx hb dX12_write_12 (by decide) ?_
    exact q_reti hE hr hlocks hW (⟨((q_c (k := (-3)) (x := (-3)) (by decide)).w (by decide) (by decide)), (by have := (q_nin (kp1.2.2 kc6) (q_lc (k := 0) (x := 0) (by decide)) (q_lc (k := 255) (x := 255) (by decide))); unfold kz_write; (repeat' split) <;> first | rfl | omega)⟩) dX12_write_14
set_option maxHeartbeats 4000000 in
set_option maxRecDepth 100000 in
theorem c_X12_erase_tz (l : Launch) (G : q_G) (σ : q_S) (a0 : Nat) (h0 : q_T G a0 = 40) (hz : q_fr G [(40, 11)] [] σ) : Met l yX12_erase (Cond.code yX12_erase cX12_erase 2 (some .int) :: wsL_law) (q_Rm 1) (q_Pre G σ [.ref a0]) (q_Qi G [40] σ (fun r σ1 => q_V 0 0 r)) 0 0 (q_N G) := by
  refine q_ofW (ts := [40]) (by decide) (Nat.le_of_ble_eq_true rfl) ?_
  intro p e s m args below meth c hE hr hlocks hW ls hl
  have hE : q_E G p s m args c cX12_erase 2 RX12 := hE
  have hx := hE.1.1
  have hb := hE.1.2.1
  have hl : lv_has ls 2 [(0, .ref a0)] := hl
  refine lv_aload_n hx hb dX12_erase_0 rfl (lv_at hl 0 rfl) ?_
  refine q_geti hE hW h0 rfl q_k12 11 (by decide) rfl (hE.l wl_171) dX12_erase_1 (fun kx1 ekx1 vkx1 => ?_)
  obtain rfl : (0 : Int32) = kx1 := (q_fr.f hz (t := 40) (k := 11) (by decide) h0).symm.trans ekx1
  refine lv_istore_n (lv' := [(1, .int 0), (0, .ref a0)]) hx hb dX12_erase_4 rfl hl (by decide) rfl (fun ls hl => ?_)
  refine lv_aload_n hx hb dX12_erase_5 rfl (lv_at hl 1 rfl) ?_
  refine lv_iconst (v := 0) hx hb dX12_erase_6 (by decide) ?_
  refine q_puti hE hW h0 rfl q_k12 tyX12 tyX12_ok 11 (by decide) rfl (hE.l wl_171) rfl rfl rfl ((q_c (k := 0) (x := 0) (by decide)).w (by decide) (by decide)) (by decide) dX12_erase_7 (fun H locs ks2 kp3 hW => ?_)
  have kz4 := (hz.wI kp3 h0 (Or.inr (by decide)))
  refine lv_iload_n hx hb dX12_erase_10 rfl (lv_at hl 0 rfl) ?_
  exact q_reti hE hr hlocks hW ((q_c (k := 0) (x := 0) (by decide))) dX12_erase_11
set_option maxHeartbeats 4000000 in
set_option maxRecDepth 100000 in
theorem c_X12_forget_tz (l : Launch) (G : q_G) (σ : q_S) (a0 : Nat) (h0 : q_T G a0 = 40) (hz : q_fr G [(40, 35)] [] σ) : Met l yX12_forget (Cond.code yX12_forget cX12_forget 2 (some .int) :: wsL_law) (q_Rm 1) (q_Pre G σ [.ref a0]) (q_Qi G [40] σ (fun r σ1 => q_V 0 0 r)) 0 0 (q_N G) := by
  refine q_ofW (ts := [40]) (by decide) (Nat.le_of_ble_eq_true rfl) ?_
  intro p e s m args below meth c hE hr hlocks hW ls hl
  have hE : q_E G p s m args c cX12_forget 2 RX12 := hE
  have hx := hE.1.1
  have hb := hE.1.2.1
  have hl : lv_has ls 2 [(0, .ref a0)] := hl
  refine lv_aload_n hx hb dX12_forget_0 rfl (lv_at hl 0 rfl) ?_
  refine q_geti hE hW h0 rfl q_k12 35 (by decide) rfl (hE.l wl_445) dX12_forget_1 (fun kx1 ekx1 vkx1 => ?_)
  obtain rfl : (0 : Int32) = kx1 := (q_fr.f hz (t := 40) (k := 35) (by decide) h0).symm.trans ekx1
  refine lv_istore_n (lv' := [(1, .int 0), (0, .ref a0)]) hx hb dX12_forget_4 rfl hl (by decide) rfl (fun ls hl => ?_)
  refine lv_aload_n hx hb dX12_forget_5 rfl (lv_at hl 1 rfl) ?_
  refine lv_iconst (v := 0) hx hb dX12_forget_6 (by decide) ?_
  refine q_puti hE hW h0 rfl q_k12 tyX12 tyX12_ok 35 (by decide) rfl (hE.l wl_445) rfl rfl rfl ((q_c (k := 0) (x := 0) (by decide)).w (by decide) (by decide)) (by decide) dX12_forget_7 (fun H locs ks2 kp3 hW => ?_)
  have kz4 := (hz.wI kp3 h0 (Or.inr (by decide)))
  refine lv_iload_n hx hb dX12_forget_10 rfl (lv_at hl 0 rfl) ?_
  exact q_reti hE hr hlocks hW ((q_c (k := 0) (x := 0) (by decide))) dX12_forget_11
set_option maxHeartbeats 4000000 in
set_option maxRecDepth 100000 in
theorem c_X12_undo_tz (l : Launch) (G : q_G) (σ : q_S) (a0 : Nat) (h0 : q_T G a0 = 40) (hz : q_fr G [(40, 27)] [] σ) : Met l yX12_undo (Cond.code yX12_undo cX12_undo 2 (some .int) :: wsL_law) (q_Rm 1) (q_Pre G σ [.ref a0]) (q_Qi G [40, 46] σ (fun r σ1 => q_V (-4) (-4) r)) 0 0 (q_N G) := by
  refine q_ofW (ts := [40, 46]) (by decide) (Nat.le_of_ble_eq_true rfl) ?_
  intro p e s m args below meth c hE hr hlocks hW ls hl
  have hE : q_E G p s m args c cX12_undo 2 RX12 := hE
  have hx := hE.1.1
  have hb := hE.1.2.1
  have hl : lv_has ls 2 [(0, .ref a0)] := hl
  refine lv_aload_n hx hb dX12_undo_0 rfl (lv_at hl 0 rfl) ?_
  refine q_geti hE hW h0 rfl q_k12 27 (by decide) rfl (hE.l wl_446) dX12_undo_1 (fun kx1 ekx1 vkx1 => ?_)
  obtain rfl : (0 : Int32) = kx1 := (q_fr.f hz (t := 40) (k := 27) (by decide) h0).symm.trans ekx1
  refine lv_if_ne (tgt := 10) hx hb dX12_undo_4 (by decide) (fun kc2 => ?_) (fun kc2 => ?_)
  · exact q_neq (q_c (k := 0) (x := 0) (by decide)) (q_c (k := 0) (x := 0) (by decide)) kc2
  · refine lv_bipush (v := (-4)) hx hb dX12_undo_7 (by decide) ?_
    exact q_reti hE hr hlocks hW ((q_c (k := (-4)) (x := (-4)) (by decide))) dX12_undo_9
set_option maxHeartbeats 4000000 in
set_option maxRecDepth 100000 in
theorem c_X12_remember_tz (l : Launch) (G : q_G) (σ : q_S) (a0 : Nat) (h0 : q_T G a0 = 40) (hz : q_fr G [(40, 0), (40, 5), (40, 8), (40, 27)] [] σ) : Met l yX12_remember (Cond.code yX12_remember cX12_remember 2 none :: wsL_law) (q_Rm 1) (q_Pre G σ [.ref a0]) (q_Qv G [40, 53] σ (fun σ1 => q_fr G [(40, 0), (40, 5), (40, 8)] [] σ1)) 0 0 (q_N G) := by
  refine q_ofW (ts := [40, 53]) (by decide) (Nat.le_of_ble_eq_true rfl) ?_
  intro p e s m args below meth c hE hr hlocks hW ls hl
  have hE : q_E G p s m args c cX12_remember 2 RX12 := hE
  have hx := hE.1.1
  have hb := hE.1.2.1
  have hl : lv_has ls 2 [(0, .ref a0)] := hl
  have lp52a : ∀ (n52a : Nat) (ks2 : q_S) (H : Heap) (locs : List Loc) (kx1 : Int32) (vkx1 : q_V 0 101 kx1) (hW : q_Wd G [40, 53] σ s.heap ks2 H locs) (hz52a : q_fr G [(40, 0), (40, 5), (40, 8), (40, 27)] [] ks2) (ls : Array Slot) (hl : lv_has ls 2 [(0, .ref a0), (1, .int kx1)]), (101 - kx1.toInt).toNat < n52a → W p l e (q_Rm 1) s m args below meth c H locs 0 0 (MQ below (q_Qv G [40, 53] σ (fun σ1 => q_fr G [(40, 0), (40, 5), (40, 8)] [] σ1)) args s 0 0 (q_N G)) (F0 m 52 ls []) := by
    intro n52a
    induction n52a with
    | zero => intro _ _ _ _ _ _ _ _ _; exact fun h => absurd h (Nat.not_lt_zero _)
    | succ n52a ih52a =>
      intro ks2 H locs kx1 vkx1 hW hz52a ls hl hm52a
      refine lv_iload_n hx hb dX12_remember_52 rfl (lv_at hl 1 rfl) ?_
      refine lv_bipush (v := 101) hx hb dX12_remember_53 (by decide) ?_
      refine lv_icmp_ge (tgt := 84) hx hb dX12_remember_55 (by decide) (fun kc3 => ?_) (fun kc3 => ?_)
      · have kv4 : q_V 101 101 kx1 := (q_le2 (q_c (k := 101) (x := 101) (by decide)) vkx1 kc3).w (by decide) (by decide)
        refine lv_aload_n hx hb dX12_remember_84 rfl (lv_at hl 0 rfl) ?_
        refine lv_dup hx hb dX12_remember_85 rfl ?_
        refine q_geti hE hW h0 rfl q_k12 27 (by decide) rfl (hE.l wl_446) dX12_remember_86 (fun kx5 ekx5 vkx5 => ?_)
        obtain rfl : (0 : Int32) = kx5 := (q_fr.f hz52a (t := 40) (k := 27) (by decide) h0).symm.trans ekx5
        refine lv_iconst (v := 1) hx hb dX12_remember_89 (by decide) ?_
        refine lv_iadd hx hb dX12_remember_90 ?_
        refine lv_eqi (y := 1) (by decide) ?_
        refine q_puti hE hW h0 rfl q_k12 tyX12 tyX12_ok 27 (by decide) rfl (hE.l wl_446) rfl rfl rfl ((q_c (k := 1) (x := 1) (by decide)).w (by decide) (by decide)) (by decide) dX12_remember_91 (fun H locs ks6 kp7 hW => ?_)
        have kz8 := (q_fr.wI (q_fr.sub (F2 := [(40, 0), (40, 5), (40, 8)]) (A2 := []) hz52a (by decide) (by decide)) kp7 h0 (Or.inl (by decide)))
        exact q_retv hE hr hlocks hW ((q_fr.sub kz8 (by decide) (by decide))) dX12_remember_94
      · have kv9 : q_V 0 100 kx1 := (q_lt1 vkx1 (q_c (k := 101) (x := 101) (by decide)) (Int32.not_le.mp kc3)).w (by decide) (by decide)
        refine lv_aload_n hx hb dX12_remember_58 rfl (lv_at hl 0 rfl) ?_
        refine q_getr hE hW h0 rfl q_k12 28 (by decide) rfl (hE.l wl_142) dX12_remember_59 (fun kb10 ekb10 hkb10a hkb10b => ?_)
        have hkb10 : q_T G kb10 = 53 := q_tag hkb10a hkb10b
        refine lv_bipush (v := 101) hx hb dX12_remember_62 (by decide) ?_
        refine lv_aload_n hx hb dX12_remember_64 rfl (lv_at hl 0 rfl) ?_
        refine q_geti hE hW h0 rfl q_k12 27 (by decide) rfl (hE.l wl_446) dX12_remember_65 (fun kx11 ekx11 vkx11 => ?_)
        obtain rfl : (0 : Int32) = kx11 := (q_fr.f hz52a (t := 40) (k := 27) (by decide) h0).symm.trans ekx11
        refine lv_imul hx hb dX12_remember_68 ?_
        refine lv_eqi (y := 0) (by decide) ?_
        refine lv_iload_n hx hb dX12_remember_69 rfl (lv_at hl 1 rfl) ?_
        refine lv_iadd hx hb dX12_remember_70 ?_
        refine lv_eqi (y := kx1) (by simp) ?_
        refine lv_aload_n hx hb dX12_remember_71 rfl (lv_at hl 0 rfl) ?_
        refine q_getr hE hW h0 rfl q_k12 9 (by decide) rfl (hE.l wl_135) dX12_remember_72 (fun kb12 ekb12 hkb12a hkb12b => ?_)
        have hkb12 : q_T G kb12 = 46 := q_tag hkb12a hkb12b
        refine lv_iload_n hx hb dX12_remember_75 rfl (lv_at hl 1 rfl) ?_
        refine q_iald hE hW hkb12 rfl (q_in kv9 (by decide) (by decide)) dX12_remember_76 (fun kx13 ekx13 gkx13 => ?_)
        refine q_iast hE hW hkb10 rfl (q_in kv9 (by decide) (by decide)) (q_cpy53 kv9 gkx13) (by decide) dX12_remember_77 (fun H locs ks14 kp15 hW => ?_)
        have kz16 := (q_fr.wAi (q_fr.sub (F2 := [(40, 0), (40, 5), (40, 8), (40, 27)]) (A2 := []) hz52a (by decide) (by decide)) kp15 hkb10 kv9 (by decide) (by decide))
        obtain ⟨kx17, ekx17⟩ : ∃ y : Int32, y = kx1 + 1 := ⟨_, rfl⟩
        have vkx17 : q_V 1 101 kx17 := by rw [ekx17]; exact (q_add kv9 (q_c (k := 1) (x := 1) (by decide)) (by decide) (by decide)).w (by decide) (by decide)
        have ikx17 : kx17.toInt = kx1.toInt + 1 := q_incT ekx17 kv9 (by decide) (by decide) (by decide)
        refine lv_iinc (v := kx17) (lv' := [(1, .int kx17), (0, .ref a0)]) hx hb dX12_remember_78 hl (k := 1) rfl (by rw [ekx17]; rfl) (by decide) rfl (fun ls hl => ?_)
        refine lv_goto (tgt := 52) hx hb dX12_remember_81 (by decide) ?_
        exact ih52a _ _ _ kx17 (vkx17.w (by decide) (by decide)) hW (q_fr.sub kz16 (by decide) (by decide)) ls (lv_sub hl [1, 0] rfl) (Nat.lt_of_lt_of_le (q_up (ikx17) (show q_V 1 101 kx17 from vkx17).2) (Nat.le_of_lt_succ hm52a))
  have jn50a : ∀ (ks18 : q_S) (H : Heap) (locs : List Loc) (hW : q_Wd G [40, 53] σ s.heap ks18 H locs) (hz50a : q_fr G [(40, 0), (40, 5), (40, 8), (40, 27)] [] ks18) (ls : Array Slot) (hl : lv_has ls 2 [(0, .ref a0)]), W p l e (q_Rm 1) s m args below meth c H locs 0 0 (MQ below (q_Qv G [40, 53] σ (fun σ1 => q_fr G [(40, 0), (40, 5), (40, 8)] [] σ1)) args s 0 0 (q_N G)) (F0 m 50 ls []) := by
    intro ks18 H locs hW hz50a ls hl
    refine lv_iconst (v := 0) hx hb dX12_remember_50 (by decide) ?_
    refine lv_istore_n (lv' := [(1, .int 0), (0, .ref a0)]) hx hb dX12_remember_51 rfl hl (by decide) rfl (fun ls hl => ?_)
    exact lp52a _ _ _ _ 0 ((q_c (k := 0) (x := 0) (by decide)).w (by decide) (by decide)) hW (q_fr.sub hz50a (by decide) (by decide)) ls (lv_sub hl [1, 0] rfl) (Nat.lt_succ_self _)
  refine lv_aload_n hx hb dX12_remember_0 rfl (lv_at hl 0 rfl) ?_
  refine q_geti hE hW h0 rfl q_k12 27 (by decide) rfl (hE.l wl_446) dX12_remember_1 (fun kx19 ekx19 vkx19 => ?_)
  obtain rfl : (0 : Int32) = kx19 := (q_fr.f hz (t := 40) (k := 27) (by decide) h0).symm.trans ekx19
  refine lv_bipush (v := 8) hx hb dX12_remember_4 (by decide) ?_
  refine lv_icmp_ne (tgt := 50) hx hb dX12_remember_6 (by decide) (fun kc20 => ?_) (fun kc20 => ?_)
  · exact jn50a _ _ _ hW (q_fr.sub hz (by decide) (by decide)) ls (lv_sub hl [0] rfl)
  · have kv21 : q_V 8 0 0 := q_eq1 (q_c (k := 0) (x := 0) (by decide)) (q_c (k := 8) (x := 8) (by decide)) kc20 (by decide) (by decide)
    exact (kv21.no (by decide))
set_option maxHeartbeats 4000000 in
set_option maxRecDepth 100000 in
theorem c_X12_keep_tz (l : Launch) (G : q_G) (σ : q_S) (a0 : Nat) (h0 : q_T G a0 = 40) (i1 : Int32) (hz : q_fr G [] [(46, 0, 54), (46, 57, 58), (46, 58, 59), (46, 59, 101)] σ) : Met l yX12_keep (Cond.code yX12_keep cX12_keep 3 (some .int) :: wsL_law) (q_Rm 2) (q_Pre G σ [.ref a0, .int i1]) (q_Qi G [54, 55] σ (fun r σ1 => q_V (-2147483648) 2147483647 r ∧ r = kz_keep i1)) 0 0 (q_N G) := by
  refine q_ofW (ts := [54, 55]) (by decide) (Nat.le_of_ble_eq_true rfl) ?_
  intro p e s m args below meth c hE hr hlocks hW ls hl
  have hE : q_E G p s m args c cX12_keep 3 RX12 := hE
  have hx := hE.1.1
  have hb := hE.1.2.1
  have hl : lv_has ls 3 [(0, .ref a0), (1, .int i1)] := hl
  have lp15a : ∀ (n15a : Nat) (ks3 : q_S) (H : Heap) (locs : List Loc) (kv1 : q_V 0 1 i1) (kx2 : Int32) (vkx2 : q_V 0 101 kx2) (hW : q_Wd G [54, 55] σ s.heap ks3 H locs) (hz15a : q_fr G [] [(46, 0, 54), (46, 57, 58), (46, 58, 59), (46, 59, 101)] ks3) (ls : Array Slot) (hl : lv_has ls 3 [(0, .ref a0), (1, .int i1), (2, .int kx2)]), (101 - kx2.toInt).toNat < n15a → W p l e (q_Rm 2) s m args below meth c H locs 0 0 (MQ below (q_Qi G [54, 55] σ (fun r σ1 => q_V (-2147483648) 2147483647 r ∧ r = kz_keep i1)) args s 0 0 (q_N G)) (F0 m 15 ls []) := by
    intro n15a
    induction n15a with
    | zero => intro _ _ _ _ _ _ _ _ _ _; exact fun h => absurd h (Nat.not_lt_zero _)
    | succ n15a ih15a =>
      intro ks3 H locs kv1 kx2 vkx2 hW hz15a ls hl hm15a
      refine lv_iload_n hx hb dX12_keep_15 rfl (lv_at hl 2 rfl) ?_
      refine lv_bipush (v := 101) hx hb dX12_keep_16 (by decide) ?_
      refine lv_icmp_ge (tgt := 44) hx hb dX12_keep_18 (by decide) (fun kc4 => ?_) (fun kc4 => ?_)
      · have kv5 : q_V 101 101 kx2 := (q_le2 (q_c (k := 101) (x := 101) (by decide)) vkx2 kc4).w (by decide) (by decide)
        refine lv_aload_n hx hb dX12_keep_44 rfl (lv_at hl 0 rfl) ?_
        refine q_getr hE hW h0 rfl q_k12 30 (by decide) rfl (hE.l wl_144) dX12_keep_45 (fun kb6 ekb6 hkb6a hkb6b => ?_)
        have hkb6 : q_T G kb6 = 55 := q_tag hkb6a hkb6b
        refine lv_iload_n hx hb dX12_keep_48 rfl (lv_at hl 1 rfl) ?_
        refine lv_iconst (v := 1) hx hb dX12_keep_49 (by decide) ?_
        refine q_zast hE hW hkb6 rfl (q_in kv1 (by decide) (by decide)) (q_narz ((q_c (k := 1) (x := 1) (by decide)).w (by decide) (by decide))) ((q_c (k := 1) (x := 1) (by decide)).w (by decide) (by decide)) (by decide) dX12_keep_50 (fun H locs ks7 kp8 hW => ?_)
        have kz9 := (q_fr.wAi (q_fr.sub (F2 := []) (A2 := [(46, 0, 54), (46, 57, 58), (46, 58, 59), (46, 59, 101)]) hz15a (by decide) (by decide)) kp8 hkb6 kv1 (by decide) (by decide))
        refine lv_aload_n hx hb dX12_keep_51 rfl (lv_at hl 0 rfl) ?_
        refine q_getr hE hW h0 rfl q_k12 9 (by decide) rfl (hE.l wl_135) dX12_keep_52 (fun kb10 ekb10 hkb10a hkb10b => ?_)
        have hkb10 : q_T G kb10 = 46 := q_tag hkb10a hkb10b
        refine lv_bipush (v := 58) hx hb dX12_keep_55 (by decide) ?_
        refine q_iald hE hW hkb10 rfl (q_in (q_c (k := 58) (x := 58) (by decide)) (by decide) (by decide)) dX12_keep_57 (fun kx11 ekx11 gkx11 => ?_)
        obtain rfl : (0 : Int32) = kx11 := (q_fr.z kz9 (t := 46) (l := 58) (u := 59) (by decide) hkb10 (q_c (k := 58) (x := 58) (by decide)) (by decide) (by decide) (by decide)).symm.trans ekx11
        exact q_reti hE hr hlocks hW (⟨((q_c (k := 0) (x := 0) (by decide)).w (by decide) (by decide)), (by have := kv1.1; have := kv1.2; unfold kz_keep; (repeat' split) <;> first | rfl | omega)⟩) dX12_keep_58
      · have kv12 : q_V 0 100 kx2 := (q_lt1 vkx2 (q_c (k := 101) (x := 101) (by decide)) (Int32.not_le.mp kc4)).w (by decide) (by decide)
        refine lv_aload_n hx hb dX12_keep_21 rfl (lv_at hl 0 rfl) ?_
        refine q_getr hE hW h0 rfl q_k12 29 (by decide) rfl (hE.l wl_143) dX12_keep_22 (fun kb13 ekb13 hkb13a hkb13b => ?_)
        have hkb13 : q_T G kb13 = 54 := q_tag hkb13a hkb13b
        refine lv_bipush (v := 101) hx hb dX12_keep_25 (by decide) ?_
        refine lv_iload_n hx hb dX12_keep_27 rfl (lv_at hl 1 rfl) ?_
        refine lv_imul hx hb dX12_keep_28 ?_
        refine lv_topi (fun kx14 ekx14 => ?_)
        have vkx14 : q_V 0 101 kx14 := by rw [ekx14]; exact (q_mul (k := 101) (by decide) kv1 (by decide) (by decide) (by decide)).w (by decide) (by decide)
        refine lv_iload_n hx hb dX12_keep_29 rfl (lv_at hl 2 rfl) ?_
        refine lv_iadd hx hb dX12_keep_30 ?_
        refine lv_topi (fun kx15 ekx15 => ?_)
        have vkx15 : q_V 0 201 kx15 := by rw [ekx15]; exact (q_add vkx14 kv12 (by decide) (by decide)).w (by decide) (by decide)
        refine lv_aload_n hx hb dX12_keep_31 rfl (lv_at hl 0 rfl) ?_
        refine q_getr hE hW h0 rfl q_k12 9 (by decide) rfl (hE.l wl_135) dX12_keep_32 (fun kb16 ekb16 hkb16a hkb16b => ?_)
        have hkb16 : q_T G kb16 = 46 := q_tag hkb16a hkb16b
        refine lv_iload_n hx hb dX12_keep_35 rfl (lv_at hl 2 rfl) ?_
        refine q_iald hE hW hkb16 rfl (q_in kv12 (by decide) (by decide)) dX12_keep_36 (fun kx17 ekx17 gkx17 => ?_)
        refine q_iast hE hW hkb13 rfl (q_in vkx15 (by decide) (by decide)) (q_cpy ekx15 ekx14 kv1 kv12 (by decide) (by decide) (by decide) (by decide) gkx17) (by decide) dX12_keep_37 (fun H locs ks18 kp19 hW => ?_)
        have kz20 := (q_fr.wAi (q_fr.sub (F2 := []) (A2 := [(46, 0, 54), (46, 57, 58), (46, 58, 59), (46, 59, 101)]) hz15a (by decide) (by decide)) kp19 hkb13 vkx15 (by decide) (by decide))
        obtain ⟨kx21, ekx21⟩ : ∃ y : Int32, y = kx2 + 1 := ⟨_, rfl⟩
        have vkx21 : q_V 1 101 kx21 := by rw [ekx21]; exact (q_add kv12 (q_c (k := 1) (x := 1) (by decide)) (by decide) (by decide)).w (by decide) (by decide)
        have ikx21 : kx21.toInt = kx2.toInt + 1 := q_incT ekx21 kv12 (by decide) (by decide) (by decide)
        refine lv_iinc (v := kx21) (lv' := [(2, .int kx21), (0, .ref a0), (1, .int i1)]) hx hb dX12_keep_38 hl (k := 2) rfl (by rw [ekx21]; rfl) (by decide) rfl (fun ls hl => ?_)
        refine lv_goto (tgt := 15) hx hb dX12_keep_41 (by decide) ?_
        exact ih15a _ _ _ kv1 kx21 (vkx21.w (by decide) (by decide)) hW (q_fr.sub kz20 (by decide) (by decide)) ls (lv_sub hl [1, 2, 0] rfl) (Nat.lt_of_lt_of_le (q_up (ikx21) (show q_V 1 101 kx21 from vkx21).2) (Nat.le_of_lt_succ hm15a))
  refine lv_iload_n hx hb dX12_keep_0 rfl (lv_at hl 1 rfl) ?_
  refine lv_i2l (v := i1.toInt64) hx hb dX12_keep_1 rfl ?_
  refine lv_lconst (v := 0) hx hb dX12_keep_2 (by decide) ?_
  refine lv_lconst (v := 1) hx hb dX12_keep_3 (by decide) ?_
  refine q_goi hW (q_runS (As := [.long (i1).toInt64, .long 0, .long 1]) (rest := []) hE hW (c_X12_in l G σ ((i1).toInt64) 0 1) kw_X12_99 rfl hl.1 rfl (Nat.le_of_ble_eq_true rfl) dX12_keep_4 ⟨by decide, by decide⟩ ⟨by decide, by decide⟩) (by decide) (fun kx25 ks23 H locs kp22 kf24 hW => ?_)
  have kz26 := (q_fr.fr (q_fr.sub (F2 := []) (A2 := [(46, 0, 54), (46, 57, 58), (46, 58, 59), (46, 59, 101)]) hz (by decide) (by decide)) kf24 (by decide) (by decide))
  refine lv_if_ne (tgt := 13) hx hb dX12_keep_7 (by decide) (fun kc27 => ?_) (fun kc27 => ?_)
  · have kv28 : q_V 0 1 i1 := q_inV (kp22.2.1 kc27).1 (kp22.2.1 kc27).2 (q_lc (k := 0) (x := 0) (by decide)) (q_lc (k := 1) (x := 1) (by decide))
    have kv29 : q_V 1 1 kx25 := q_ne1 kp22.1 (q_c (k := 0) (x := 0) (by decide)) kc27 (by decide)
    refine lv_iconst (v := 0) hx hb dX12_keep_13 (by decide) ?_
    refine lv_istore_n (lv' := [(2, .int 0), (0, .ref a0), (1, .int i1)]) hx hb dX12_keep_14 rfl hl (by decide) rfl (fun ls hl => ?_)
    exact lp15a _ _ _ _ kv28 0 ((q_c (k := 0) (x := 0) (by decide)).w (by decide) (by decide)) hW (q_fr.sub kz26 (by decide) (by decide)) ls (lv_sub hl [1, 2, 0] rfl) (Nat.lt_succ_self _)
  · have kv30 : q_V 0 0 kx25 := q_eq1 kp22.1 (q_c (k := 0) (x := 0) (by decide)) kc27 (by decide) (by decide)
    refine lv_bipush (v := (-2)) hx hb dX12_keep_10 (by decide) ?_
    exact q_reti hE hr hlocks hW (⟨((q_c (k := (-2)) (x := (-2)) (by decide)).w (by decide) (by decide)), (by have := (q_nin (kp22.2.2 kc27) (q_lc (k := 0) (x := 0) (by decide)) (q_lc (k := 1) (x := 1) (by decide))); unfold kz_keep; (repeat' split) <;> first | rfl | omega)⟩) dX12_keep_12
set_option maxHeartbeats 4000000 in
set_option maxRecDepth 100000 in
theorem c_X12_back_tz (l : Launch) (G : q_G) (σ : q_S) (a0 : Nat) (h0 : q_T G a0 = 40) (i1 : Int32) (hz : q_fr G [] [(55, 0, 2)] σ) : Met l yX12_back (Cond.code yX12_back cX12_back 3 (some .int) :: wsL_law) (q_Rm 2) (q_Pre G σ [.ref a0, .int i1]) (q_Qi G [40, 46] σ (fun r σ1 => q_V (-2147483648) 2147483647 r ∧ r = kz_back i1)) 0 0 (q_N G) := by
  refine q_ofW (ts := [40, 46]) (by decide) (Nat.le_of_ble_eq_true rfl) ?_
  intro p e s m args below meth c hE hr hlocks hW ls hl
  have hE : q_E G p s m args c cX12_back 3 RX12 := hE
  have hx := hE.1.1
  have hb := hE.1.2.1
  have hl : lv_has ls 3 [(0, .ref a0), (1, .int i1)] := hl
  refine lv_iload_n hx hb dX12_back_0 rfl (lv_at hl 1 rfl) ?_
  refine lv_i2l (v := i1.toInt64) hx hb dX12_back_1 rfl ?_
  refine lv_lconst (v := 0) hx hb dX12_back_2 (by decide) ?_
  refine lv_lconst (v := 1) hx hb dX12_back_3 (by decide) ?_
  refine q_goi hW (q_runS (As := [.long (i1).toInt64, .long 0, .long 1]) (rest := []) hE hW (c_X12_in l G σ ((i1).toInt64) 0 1) kw_X12_99 rfl hl.1 rfl (Nat.le_of_ble_eq_true rfl) dX12_back_4 ⟨by decide, by decide⟩ ⟨by decide, by decide⟩) (by decide) (fun kx4 ks2 H locs kp1 kf3 hW => ?_)
  have kz5 := (q_fr.fr (q_fr.sub (F2 := []) (A2 := [(55, 0, 2)]) hz (by decide) (by decide)) kf3 (by decide) (by decide))
  refine lv_if_ne (tgt := 13) hx hb dX12_back_7 (by decide) (fun kc6 => ?_) (fun kc6 => ?_)
  · have kv7 : q_V 0 1 i1 := q_inV (kp1.2.1 kc6).1 (kp1.2.1 kc6).2 (q_lc (k := 0) (x := 0) (by decide)) (q_lc (k := 1) (x := 1) (by decide))
    have kv8 : q_V 1 1 kx4 := q_ne1 kp1.1 (q_c (k := 0) (x := 0) (by decide)) kc6 (by decide)
    refine lv_aload_n hx hb dX12_back_13 rfl (lv_at hl 0 rfl) ?_
    refine q_getr hE hW h0 rfl q_k12 30 (by decide) rfl (hE.l wl_144) dX12_back_14 (fun kb9 ekb9 hkb9a hkb9b => ?_)
    have hkb9 : q_T G kb9 = 55 := q_tag hkb9a hkb9b
    refine lv_iload_n hx hb dX12_back_17 rfl (lv_at hl 1 rfl) ?_
    refine q_zald hE hW hkb9 rfl (q_in kv7 (by decide) (by decide)) dX12_back_18 (fun kx10 ekx10 gkx10 => ?_)
    obtain rfl : (0 : Int32) = kx10 := (q_fr.z kz5 (t := 55) (l := 0) (u := 2) (by decide) hkb9 kv7 (by decide) (by decide) (by decide)).symm.trans ekx10
    refine lv_if_ne (tgt := 25) hx hb dX12_back_19 (by decide) (fun kc11 => ?_) (fun kc11 => ?_)
    · exact q_neq (q_c (k := 0) (x := 0) (by decide)) (q_c (k := 0) (x := 0) (by decide)) kc11
    · refine lv_bipush (v := (-4)) hx hb dX12_back_22 (by decide) ?_
      exact q_reti hE hr hlocks hW (⟨((q_c (k := (-4)) (x := (-4)) (by decide)).w (by decide) (by decide)), (by have := kv7.1; have := kv7.2; unfold kz_back; (repeat' split) <;> first | rfl | omega)⟩) dX12_back_24
  · have kv12 : q_V 0 0 kx4 := q_eq1 kp1.1 (q_c (k := 0) (x := 0) (by decide)) kc6 (by decide) (by decide)
    refine lv_bipush (v := (-2)) hx hb dX12_back_10 (by decide) ?_
    exact q_reti hE hr hlocks hW (⟨((q_c (k := (-2)) (x := (-2)) (by decide)).w (by decide) (by decide)), (by have := (q_nin (kp1.2.2 kc6) (q_lc (k := 0) (x := 0) (by decide)) (q_lc (k := 1) (x := 1) (by decide))); unfold kz_back; (repeat' split) <;> first | rfl | omega)⟩) dX12_back_12
set_option maxHeartbeats 4000000 in
set_option maxRecDepth 100000 in
theorem c_X12_pass_tz (l : Launch) (G : q_G) (σ : q_S) (a0 : Nat) (h0 : q_T G a0 = 40) (hz : q_fr G [(40, 0), (40, 5), (40, 8)] [(46, 0, 54), (46, 57, 58), (46, 59, 101)] σ) : Met l yX12_pass (Cond.code yX12_pass cX12_pass 3 none :: wsL_law) (q_Rm 4) (q_Pre G σ [.ref a0]) (q_Qv G [46] σ (fun σ1 => q_A σ1 (q_R σ a0 9) (58 : Int32).toNatClampNeg = q_A σ (q_R σ a0 9) (58 : Int32).toNatClampNeg + 1 ∧ q_fr G [(40, 0), (40, 5), (40, 8)] [(46, 0, 54), (46, 57, 58), (46, 59, 101)] σ1)) 0 0 (q_N G) := by
  refine q_ofW (ts := [46]) (by decide) (Nat.le_of_ble_eq_true rfl) ?_
  intro p e s m args below meth c hE hr hlocks hW ls hl
  have hE : q_E G p s m args c cX12_pass 3 RX12 := hE
  have hx := hE.1.1
  have hb := hE.1.2.1
  have hl : lv_has ls 3 [(0, .ref a0)] := hl
  have lp3a : ∀ (n3a : Nat) (ks2 : q_S) (H : Heap) (locs : List Loc) (kx1 : Int32) (vkx1 : q_V (-1) 6 kx1) (kb3 : Nat) (hkb3 : q_T G kb3 = 46) (ke4 : q_R ks2 a0 9 = kb3) (kx5 : Int32) (ke6 : q_A ks2 kb3 (58 : Int32).toNatClampNeg = kx5) (hW : q_Wd G [46] σ s.heap ks2 H locs) (hz3a : q_fr G [(40, 0), (40, 5), (40, 8)] [(46, 0, 54), (46, 57, 58), (46, 59, 101)] ks2) (iv3a0 : q_R σ a0 9 = kb3 ∧ q_A σ kb3 (58 : Int32).toNatClampNeg = kx5) (ls : Array Slot) (hl : lv_has ls 3 [(0, .ref a0), (1, .int kx1)]), (kx1.toInt - (-1)).toNat < n3a → W p l e (q_Rm 4) s m args below meth c H locs 0 0 (MQ below (q_Qv G [46] σ (fun σ1 => q_A σ1 (q_R σ a0 9) (58 : Int32).toNatClampNeg = q_A σ (q_R σ a0 9) (58 : Int32).toNatClampNeg + 1 ∧ q_fr G [(40, 0), (40, 5), (40, 8)] [(46, 0, 54), (46, 57, 58), (46, 59, 101)] σ1)) args s 0 0 (q_N G)) (F0 m 3 ls []) := by
    intro n3a
    induction n3a with
    | zero => intro _ _ _ _ _ _ _ _ _ _ _ _ _ _ _; exact fun h => absurd h (Nat.not_lt_zero _)
    | succ n3a ih3a =>
      intro ks2 H locs kx1 vkx1 kb3 hkb3 ke4 kx5 ke6 hW hz3a iv3a0 ls hl hm3a
      have lp9a : ∀ (n9a : Nat) (ks9 : q_S) (H : Heap) (locs : List Loc) (kv7 : q_V 0 6 kx1) (kx8 : Int32) (vkx8 : q_V 0 6 kx8) (kb10 : Nat) (hkb10 : q_T G kb10 = 46) (ke11 : q_R ks9 a0 9 = kb10) (kx12 : Int32) (ke13 : q_A ks9 kb10 (58 : Int32).toNatClampNeg = kx12) (hW : q_Wd G [46] σ s.heap ks9 H locs) (hz9a : q_fr G [(40, 0), (40, 5), (40, 8)] [(46, 0, 54), (46, 57, 58), (46, 59, 101)] ks9) (iv9a0 : q_R σ a0 9 = kb10 ∧ q_A σ kb10 (58 : Int32).toNatClampNeg = kx12) (ls : Array Slot) (hl : lv_has ls 3 [(0, .ref a0), (1, .int kx1), (2, .int kx8)]), (6 - kx8.toInt).toNat < n9a → W p l e (q_Rm 4) s m args below meth c H locs 0 0 (MQ below (q_Qv G [46] σ (fun σ1 => q_A σ1 (q_R σ a0 9) (58 : Int32).toNatClampNeg = q_A σ (q_R σ a0 9) (58 : Int32).toNatClampNeg + 1 ∧ q_fr G [(40, 0), (40, 5), (40, 8)] [(46, 0, 54), (46, 57, 58), (46, 59, 101)] σ1)) args s 0 0 (q_N G)) (F0 m 9 ls []) := by
        intro n9a
        induction n9a with
        | zero => intro _ _ _ _ _ _ _ _ _ _ _ _ _ _ _ _; exact fun h => absurd h (Nat.not_lt_zero _)
        | succ n9a ih9a =>
          intro ks9 H locs kv7 kx8 vkx8 kb10 hkb10 ke11 kx12 ke13 hW hz9a iv9a0 ls hl hm9a
          refine lv_iload_n hx hb dX12_pass_9 rfl (lv_at hl 2 rfl) ?_
          refine lv_bipush (v := 6) hx hb dX12_pass_10 (by decide) ?_
          refine lv_icmp_ge (tgt := 61) hx hb dX12_pass_12 (by decide) (fun kc14 => ?_) (fun kc14 => ?_)
          · have kv15 : q_V 6 6 kx8 := (q_le2 (q_c (k := 6) (x := 6) (by decide)) vkx8 kc14).w (by decide) (by decide)
            obtain ⟨kx16, ekx16⟩ : ∃ y : Int32, y = kx1 + (-1) := ⟨_, rfl⟩
            have vkx16 : q_V (-1) 5 kx16 := by rw [ekx16]; exact (q_add kv7 (q_c (k := (-1)) (x := (-1)) (by decide)) (by decide) (by decide)).w (by decide) (by decide)
            have ikx16 : kx16.toInt = kx1.toInt + (-1) := q_incT ekx16 kv7 (by decide) (by decide) (by decide)
            refine lv_iinc (v := kx16) (lv' := [(1, .int kx16), (0, .ref a0), (2, .int kx8)]) hx hb dX12_pass_61 hl (k := 1) rfl (by rw [ekx16]; rfl) (by decide) rfl (fun ls hl => ?_)
            refine lv_goto (tgt := 3) hx hb dX12_pass_64 (by decide) ?_
            exact ih3a _ _ _ kx16 (vkx16.w (by decide) (by decide)) kb10 hkb10 ke11 kx12 ke13 hW (q_fr.sub hz9a (by decide) (by decide)) iv9a0 ls (lv_sub hl [1, 0] rfl) (Nat.lt_of_lt_of_le (q_dn (ikx16) (show q_V (-1) 5 kx16 from vkx16).1) (Nat.le_of_lt_succ hm3a))
          · have kv17 : q_V 0 5 kx8 := (q_lt1 vkx8 (q_c (k := 6) (x := 6) (by decide)) (Int32.not_le.mp kc14)).w (by decide) (by decide)
            refine lv_aload_n hx hb dX12_pass_15 rfl (lv_at hl 0 rfl) ?_
            refine q_getr hE hW h0 rfl q_k12 9 (by decide) rfl (hE.l wl_135) dX12_pass_16 (fun kb18 ekb18 hkb18a hkb18b => ?_)
            obtain rfl : kb10 = kb18 := ke11.symm.trans ekb18
            refine lv_bipush (v := 59) hx hb dX12_pass_19 (by decide) ?_
            refine lv_bipush (v := 6) hx hb dX12_pass_21 (by decide) ?_
            refine lv_iload_n hx hb dX12_pass_23 rfl (lv_at hl 1 rfl) ?_
            refine lv_imul hx hb dX12_pass_24 ?_
            refine lv_topi (fun kx19 ekx19 => ?_)
            have vkx19 : q_V 0 36 kx19 := by rw [ekx19]; exact (q_mul (k := 6) (by decide) kv7 (by decide) (by decide) (by decide)).w (by decide) (by decide)
            refine lv_iadd hx hb dX12_pass_25 ?_
            refine lv_topi (fun kx20 ekx20 => ?_)
            have vkx20 : q_V 59 95 kx20 := by rw [ekx20]; exact (q_add (q_c (k := 59) (x := 59) (by decide)) vkx19 (by decide) (by decide)).w (by decide) (by decide)
            refine lv_iload_n hx hb dX12_pass_26 rfl (lv_at hl 2 rfl) ?_
            refine lv_iadd hx hb dX12_pass_27 ?_
            refine lv_topi (fun kx21 ekx21 => ?_)
            have vkx21 : q_V 59 100 kx21 := by rw [ekx21]; exact (q_add vkx20 kv17 (by decide) (by decide)).w (by decide) (by decide)
            refine lv_iload_n hx hb dX12_pass_28 rfl (lv_at hl 1 rfl) ?_
            refine lv_if_ne (tgt := 36) hx hb dX12_pass_29 (by decide) (fun kc22 => ?_) (fun kc22 => ?_)
            · have kv23 : q_V 1 6 kx1 := q_ne1 kv7 (q_c (k := 0) (x := 0) (by decide)) kc22 (by decide)
              refine lv_aload_n hx hb dX12_pass_36 rfl (lv_at hl 0 rfl) ?_
              refine q_getr hE hW h0 rfl q_k12 9 (by decide) rfl (hE.l wl_135) dX12_pass_37 (fun kb24 ekb24 hkb24a hkb24b => ?_)
              obtain rfl : kb10 = kb24 := ke11.symm.trans ekb24
              refine lv_bipush (v := 59) hx hb dX12_pass_40 (by decide) ?_
              refine lv_bipush (v := 6) hx hb dX12_pass_42 (by decide) ?_
              refine lv_iload_n hx hb dX12_pass_44 rfl (lv_at hl 1 rfl) ?_
              refine lv_iconst (v := 1) hx hb dX12_pass_45 (by decide) ?_
              refine lv_isub hx hb dX12_pass_46 ?_
              refine lv_topi (fun kx25 ekx25 => ?_)
              have vkx25 : q_V 0 5 kx25 := by rw [ekx25]; exact (q_sub kv23 (q_c (k := 1) (x := 1) (by decide)) (by decide) (by decide)).w (by decide) (by decide)
              refine lv_imul hx hb dX12_pass_47 ?_
              refine lv_topi (fun kx26 ekx26 => ?_)
              have vkx26 : q_V 0 30 kx26 := by rw [ekx26]; exact (q_mul (k := 6) (by decide) vkx25 (by decide) (by decide) (by decide)).w (by decide) (by decide)
              refine lv_iadd hx hb dX12_pass_48 ?_
              refine lv_topi (fun kx27 ekx27 => ?_)
              have vkx27 : q_V 59 89 kx27 := by rw [ekx27]; exact (q_add (q_c (k := 59) (x := 59) (by decide)) vkx26 (by decide) (by decide)).w (by decide) (by decide)
              refine lv_iload_n hx hb dX12_pass_49 rfl (lv_at hl 2 rfl) ?_
              refine lv_iadd hx hb dX12_pass_50 ?_
              refine lv_topi (fun kx28 ekx28 => ?_)
              have vkx28 : q_V 59 94 kx28 := by rw [ekx28]; exact (q_add vkx27 kv17 (by decide) (by decide)).w (by decide) (by decide)
              refine q_iald hE hW hkb10 rfl (q_in vkx28 (by decide) (by decide)) dX12_pass_51 (fun kx29 ekx29 gkx29 => ?_)
              obtain rfl : (0 : Int32) = kx29 := (q_fr.z hz9a (t := 46) (l := 59) (u := 101) (by decide) hkb10 vkx28 (by decide) (by decide) (by decide)).symm.trans ekx29
              refine lv_iconst (v := 2) hx hb dX12_pass_52 (by decide) ?_
              refine lv_idiv hx hb dX12_pass_53 (q_ne0 (q_c (k := 2) (x := 2) (by decide)) (by decide)) ?_
              refine lv_eqi (y := 0) (by decide) ?_
              refine q_iast hE hW hkb10 rfl (q_in vkx21 (by decide) (by decide)) (fun q_a q_b => q_out vkx21 q_a q_b (by decide)) (by decide) dX12_pass_54 (fun H locs ks30 kp31 hW => ?_)
              have kz32 := (q_fr.wA0 hz9a kp31 hkb10 rfl)
              obtain ⟨kx33, ekx33⟩ : ∃ y : Int32, y = kx8 + 1 := ⟨_, rfl⟩
              have vkx33 : q_V 1 6 kx33 := by rw [ekx33]; exact (q_add kv17 (q_c (k := 1) (x := 1) (by decide)) (by decide) (by decide)).w (by decide) (by decide)
              have ikx33 : kx33.toInt = kx8.toInt + 1 := q_incT ekx33 kv17 (by decide) (by decide) (by decide)
              refine lv_iinc (v := kx33) (lv' := [(2, .int kx33), (0, .ref a0), (1, .int kx1)]) hx hb dX12_pass_55 hl (k := 2) rfl (by rw [ekx33]; rfl) (by decide) rfl (fun ls hl => ?_)
              refine lv_goto (tgt := 9) hx hb dX12_pass_58 (by decide) ?_
              exact ih9a _ _ _ (kv23.w (by decide) (by decide)) kx33 (vkx33.w (by decide) (by decide)) kb10 hkb10 ((kp31.2.2.1 _ _).trans ke11) kx12 ((kp31.2.1 _ _ (Or.inr (q_ixR (j := 58) vkx21 (by decide) (by decide) (by decide)))).trans ke13) hW (q_fr.sub kz32 (by decide) (by decide)) iv9a0 ls (lv_sub hl [1, 2, 0] rfl) (Nat.lt_of_lt_of_le (q_up (ikx33) (show q_V 1 6 kx33 from vkx33).2) (Nat.le_of_lt_succ hm9a))
            · have kv34 : q_V 0 0 kx1 := q_eq1 kv7 (q_c (k := 0) (x := 0) (by decide)) kc22 (by decide) (by decide)
              refine lv_iconst (v := 0) hx hb dX12_pass_32 (by decide) ?_
              refine lv_goto (tgt := 54) hx hb dX12_pass_33 (by decide) ?_
              refine q_iast hE hW hkb10 rfl (q_in vkx21 (by decide) (by decide)) (fun q_a q_b => q_out vkx21 q_a q_b (by decide)) (by decide) dX12_pass_54 (fun H locs ks35 kp36 hW => ?_)
              have kz37 := (q_fr.wA0 hz9a kp36 hkb10 rfl)
              obtain ⟨kx38, ekx38⟩ : ∃ y : Int32, y = kx8 + 1 := ⟨_, rfl⟩
              have vkx38 : q_V 1 6 kx38 := by rw [ekx38]; exact (q_add kv17 (q_c (k := 1) (x := 1) (by decide)) (by decide) (by decide)).w (by decide) (by decide)
              have ikx38 : kx38.toInt = kx8.toInt + 1 := q_incT ekx38 kv17 (by decide) (by decide) (by decide)
              refine lv_iinc (v := kx38) (lv' := [(2, .int kx38), (0, .ref a0), (1, .int kx1)]) hx hb dX12_pass_55 hl (k := 2) rfl (by rw [ekx38]; rfl) (by decide) rfl (fun ls hl => ?_)
              refine lv_goto (tgt := 9) hx hb dX12_pass_58 (by decide) ?_
              exact ih9a _ _ _ (kv34.w (by decide) (by decide)) kx38 (vkx38.w (by decide) (by decide)) kb10 hkb10 ((kp36.2.2.1 _ _).trans ke11) kx12 ((kp36.2.1 _ _ (Or.inr (q_ixR (j := 58) vkx21 (by decide) (by decide) (by decide)))).trans ke13) hW (q_fr.sub kz37 (by decide) (by decide)) iv9a0 ls (lv_sub hl [1, 2, 0] rfl) (Nat.lt_of_lt_of_le (q_up (ikx38) (show q_V 1 6 kx38 from vkx38).2) (Nat.le_of_lt_succ hm9a))
      refine lv_iload_n hx hb dX12_pass_3 rfl (lv_at hl 1 rfl) ?_
      refine lv_if_lt (tgt := 67) hx hb dX12_pass_4 (by decide) (fun kc39 => ?_) (fun kc39 => ?_)
      · have kv40 : q_V (-1) (-1) kx1 := (q_lt1 vkx1 (q_c (k := 0) (x := 0) (by decide)) kc39).w (by decide) (by decide)
        refine lv_iconst (v := 0) hx hb dX12_pass_67 (by decide) ?_
        refine lv_istore_n (lv' := [(1, .int 0), (0, .ref a0)]) hx hb dX12_pass_68 rfl hl (by decide) rfl (fun ls hl => ?_)
        refine lv_iload_n hx hb dX12_pass_69 rfl (lv_at hl 0 rfl) ?_
        refine lv_aload_n hx hb dX12_pass_70 rfl (lv_at hl 1 rfl) ?_
        refine q_geti hE hW h0 rfl q_k12 5 (by decide) rfl (hE.l wl_360) dX12_pass_71 (fun kx41 ekx41 vkx41 => ?_)
        obtain rfl : (0 : Int32) = kx41 := (q_fr.f hz3a (t := 40) (k := 5) (by decide) h0).symm.trans ekx41
        refine lv_icmp_ge (tgt := 109) hx hb dX12_pass_74 (by decide) (fun kc42 => ?_) (fun kc42 => ?_)
        · refine lv_iconst (v := 0) hx hb dX12_pass_109 (by decide) ?_
          refine lv_istore_n (lv' := [(1, .int 0), (0, .ref a0)]) hx hb dX12_pass_110 rfl hl (by decide) rfl (fun ls hl => ?_)
          refine lv_iload_n hx hb dX12_pass_111 rfl (lv_at hl 0 rfl) ?_
          refine lv_aload_n hx hb dX12_pass_112 rfl (lv_at hl 1 rfl) ?_
          refine q_geti hE hW h0 rfl q_k12 0 (by decide) rfl (hE.l wl_358) dX12_pass_113 (fun kx43 ekx43 vkx43 => ?_)
          obtain rfl : (0 : Int32) = kx43 := (q_fr.f hz3a (t := 40) (k := 0) (by decide) h0).symm.trans ekx43
          refine lv_icmp_ge (tgt := 155) hx hb dX12_pass_116 (by decide) (fun kc44 => ?_) (fun kc44 => ?_)
          · refine lv_aload_n hx hb dX12_pass_155 rfl (lv_at hl 1 rfl) ?_
            refine q_getr hE hW h0 rfl q_k12 9 (by decide) rfl (hE.l wl_135) dX12_pass_156 (fun kb45 ekb45 hkb45a hkb45b => ?_)
            obtain rfl : kb3 = kb45 := ke4.symm.trans ekb45
            refine lv_bipush (v := 58) hx hb dX12_pass_159 (by decide) ?_
            refine lv_dup2_11 hx hb dX12_pass_161 rfl rfl ?_
            refine q_iald hE hW hkb3 rfl (q_in (q_c (k := 58) (x := 58) (by decide)) (by decide) (by decide)) dX12_pass_162 (fun kx46 ekx46 gkx46 => ?_)
            obtain rfl : kx5 = kx46 := ke6.symm.trans ekx46
            refine lv_iconst (v := 1) hx hb dX12_pass_163 (by decide) ?_
            refine lv_iadd hx hb dX12_pass_164 ?_
            refine lv_topi (fun kx47 ekx47 => ?_)
            refine q_iast hE hW hkb3 rfl (q_in (q_c (k := 58) (x := 58) (by decide)) (by decide) (by decide)) (fun q_a q_b => q_out (q_c (k := 58) (x := 58) (by decide)) q_a q_b (by decide)) (by decide) dX12_pass_165 (fun H locs ks48 kp49 hW => ?_)
            have kz50 := (q_fr.wAi (q_fr.sub (F2 := [(40, 0), (40, 5), (40, 8)]) (A2 := [(46, 0, 54), (46, 57, 58), (46, 59, 101)]) hz3a (by decide) (by decide)) kp49 hkb3 (q_c (k := 58) (x := 58) (by decide)) (by decide) (by decide))
            exact q_retv hE hr hlocks hW (⟨(by have q_h : q_R σ a0 9 = kb3 ∧ _ := iv3a0; rw [q_h.1, q_h.2]; exact kp49.1.trans ekx47), (q_fr.sub kz50 (by decide) (by decide))⟩) dX12_pass_166
          · have kv51 : q_V 0 (-1) 0 := (q_lt1 (q_c (k := 0) (x := 0) (by decide)) (q_c (k := 0) (x := 0) (by decide)) (Int32.not_le.mp kc44)).w (by decide) (by decide)
            exact (kv51.no (by decide))
        · have kv52 : q_V 0 (-1) 0 := (q_lt1 (q_c (k := 0) (x := 0) (by decide)) (q_c (k := 0) (x := 0) (by decide)) (Int32.not_le.mp kc42)).w (by decide) (by decide)
          exact (kv52.no (by decide))
      · have kv53 : q_V 0 6 kx1 := (q_le2 (q_c (k := 0) (x := 0) (by decide)) vkx1 (Int32.not_lt.mp kc39)).w (by decide) (by decide)
        refine lv_iconst (v := 0) hx hb dX12_pass_7 (by decide) ?_
        refine lv_istore_n (lv' := [(2, .int 0), (0, .ref a0), (1, .int kx1)]) hx hb dX12_pass_8 rfl hl (by decide) rfl (fun ls hl => ?_)
        exact lp9a _ _ _ _ kv53 0 ((q_c (k := 0) (x := 0) (by decide)).w (by decide) (by decide)) kb3 hkb3 ke4 kx5 ke6 hW (q_fr.sub hz3a (by decide) (by decide)) iv3a0 ls (lv_sub hl [1, 2, 0] rfl) (Nat.lt_succ_self _)
  obtain ⟨kb54, ekb54, hkb54a, hkb54b⟩ := q_ghr hW h0 rfl 9 rfl
  have hkb54 : q_T G kb54 = 46 := q_tag hkb54a hkb54b
  obtain ⟨kx55, ekx55⟩ : ∃ y : Int32, q_A σ kb54 (58 : Int32).toNatClampNeg = y := ⟨_, rfl⟩
  refine lv_bipush (v := 6) hx hb dX12_pass_0 (by decide) ?_
  refine lv_istore_n (lv' := [(1, .int 6), (0, .ref a0)]) hx hb dX12_pass_2 rfl hl (by decide) rfl (fun ls hl => ?_)
  exact lp3a _ _ _ _ 6 ((q_c (k := 6) (x := 6) (by decide)).w (by decide) (by decide)) kb54 hkb54 ekb54 kx55 ekx55 hW (q_fr.sub hz (by decide) (by decide)) ⟨ekb54, ekx55⟩ ls (lv_sub hl [1, 0] rfl) (Nat.lt_succ_self _)
set_option maxHeartbeats 4000000 in
set_option maxRecDepth 100000 in
theorem c_X12_copyRow_tz (l : Launch) (G : q_G) (σ : q_S) (a0 : Nat) (h0 : q_T G a0 = 40) (a1 : Nat) (h1 : q_T G a1 = 46) (a2 : Nat) (h2 : q_T G a2 = 46) (hz : q_fr G [] [(46, 0, 54), (46, 57, 58), (46, 59, 101)] σ) : Met l yX12_copyRow (Cond.code yX12_copyRow cX12_copyRow 4 none :: wsL_law) (q_Rm 1) (q_Pre G σ [.ref a0, .ref a1, .ref a2]) (q_Qv G [46] σ (fun σ1 => q_fr G [] [(46, 0, 54), (46, 57, 58), (46, 59, 101)] σ1)) 0 0 (q_N G) := by
  refine q_ofW (ts := [46]) (by decide) (Nat.le_of_ble_eq_true rfl) ?_
  intro p e s m args below meth c hE hr hlocks hW ls hl
  have hE : q_E G p s m args c cX12_copyRow 4 RX12 := hE
  have hx := hE.1.1
  have hb := hE.1.2.1
  have hl : lv_has ls 4 [(0, .ref a0), (1, .ref a1), (2, .ref a2)] := hl
  have lp2a : ∀ (n2a : Nat) (ks2 : q_S) (H : Heap) (locs : List Loc) (kx1 : Int32) (vkx1 : q_V 0 101 kx1) (hW : q_Wd G [46] σ s.heap ks2 H locs) (hz2a : q_fr G [] [(46, 0, 54), (46, 57, 58), (46, 59, 101)] ks2) (ls : Array Slot) (hl : lv_has ls 4 [(1, .ref a1), (2, .ref a2), (3, .int kx1)]), (101 - kx1.toInt).toNat < n2a → W p l e (q_Rm 1) s m args below meth c H locs 0 0 (MQ below (q_Qv G [46] σ (fun σ1 => q_fr G [] [(46, 0, 54), (46, 57, 58), (46, 59, 101)] σ1)) args s 0 0 (q_N G)) (F0 m 2 ls []) := by
    intro n2a
    induction n2a with
    | zero => intro _ _ _ _ _ _ _ _ _; exact fun h => absurd h (Nat.not_lt_zero _)
    | succ n2a ih2a =>
      intro ks2 H locs kx1 vkx1 hW hz2a ls hl hm2a
      refine lv_iload_n hx hb dX12_copyRow_2 rfl (lv_at hl 2 rfl) ?_
      refine lv_bipush (v := 101) hx hb dX12_copyRow_3 (by decide) ?_
      refine lv_icmp_ge (tgt := 20) hx hb dX12_copyRow_5 (by decide) (fun kc3 => ?_) (fun kc3 => ?_)
      · have kv4 : q_V 101 101 kx1 := (q_le2 (q_c (k := 101) (x := 101) (by decide)) vkx1 kc3).w (by decide) (by decide)
        exact q_retv hE hr hlocks hW ((q_fr.sub hz2a (by decide) (by decide))) dX12_copyRow_20
      · have kv5 : q_V 0 100 kx1 := (q_lt1 vkx1 (q_c (k := 101) (x := 101) (by decide)) (Int32.not_le.mp kc3)).w (by decide) (by decide)
        refine lv_aload_n hx hb dX12_copyRow_8 rfl (lv_at hl 1 rfl) ?_
        refine lv_iload_n hx hb dX12_copyRow_9 rfl (lv_at hl 2 rfl) ?_
        refine lv_aload_n hx hb dX12_copyRow_10 rfl (lv_at hl 0 rfl) ?_
        refine lv_iload_n hx hb dX12_copyRow_11 rfl (lv_at hl 2 rfl) ?_
        refine q_iald hE hW h1 rfl (q_in kv5 (by decide) (by decide)) dX12_copyRow_12 (fun kx6 ekx6 gkx6 => ?_)
        refine q_iast hE hW h2 rfl (q_in kv5 (by decide) (by decide)) gkx6 (by decide) dX12_copyRow_13 (fun H locs ks7 kp8 hW => ?_)
        have kz9 := (q_fr.wAc hz2a kp8 h2 h1 ekx6)
        obtain ⟨kx10, ekx10⟩ : ∃ y : Int32, y = kx1 + 1 := ⟨_, rfl⟩
        have vkx10 : q_V 1 101 kx10 := by rw [ekx10]; exact (q_add kv5 (q_c (k := 1) (x := 1) (by decide)) (by decide) (by decide)).w (by decide) (by decide)
        have ikx10 : kx10.toInt = kx1.toInt + 1 := q_incT ekx10 kv5 (by decide) (by decide) (by decide)
        refine lv_iinc (v := kx10) (lv' := [(3, .int kx10), (1, .ref a1), (2, .ref a2)]) hx hb dX12_copyRow_14 hl (k := 2) rfl (by rw [ekx10]; rfl) (by decide) rfl (fun ls hl => ?_)
        refine lv_goto (tgt := 2) hx hb dX12_copyRow_17 (by decide) ?_
        exact ih2a _ _ _ kx10 (vkx10.w (by decide) (by decide)) hW (q_fr.sub kz9 (by decide) (by decide)) ls (lv_sub hl [1, 2, 0] rfl) (Nat.lt_of_lt_of_le (q_up (ikx10) (show q_V 1 101 kx10 from vkx10).2) (Nat.le_of_lt_succ hm2a))
  refine lv_iconst (v := 0) hx hb dX12_copyRow_0 (by decide) ?_
  refine lv_istore_n (lv' := [(3, .int 0), (0, .ref a0), (1, .ref a1), (2, .ref a2)]) hx hb dX12_copyRow_1 rfl hl (by decide) rfl (fun ls hl => ?_)
  exact lp2a _ _ _ _ 0 ((q_c (k := 0) (x := 0) (by decide)).w (by decide) (by decide)) hW (q_fr.sub hz (by decide) (by decide)) ls (lv_sub hl [2, 3, 0] rfl) (Nat.lt_succ_self _)
set_option maxHeartbeats 4000000 in
set_option maxRecDepth 100000 in
theorem c_X12_readAt_tz (l : Launch) (G : q_G) (σ : q_S) (a0 : Nat) (h0 : q_T G a0 = 40) (i1 : Int32) (w1 : q_V 0 6 i1) (hz : q_fr G [(40, 8)] [(46, 59, 101)] σ) : Met l yX12_readAt (Cond.code yX12_readAt cX12_readAt 4 (some .int) :: wsL_law) (q_Rm 1) (q_Pre G σ [.ref a0, .int i1]) (q_Qi G [] σ (fun r σ1 => q_V 0 0 r)) 0 0 (q_N G) := by
  refine q_ofW (ts := []) (by decide) (Nat.le_of_ble_eq_true rfl) ?_
  intro p e s m args below meth c hE hr hlocks hW ls hl
  have hE : q_E G p s m args c cX12_readAt 4 RX12 := hE
  have hx := hE.1.1
  have hb := hE.1.2.1
  have hl : lv_has ls 4 [(0, .ref a0), (1, .int i1)] := hl
  have lp4a : ∀ (n4a : Nat) (kx1 : Int32) (vkx1 : q_V 0 6 kx1) (ls : Array Slot) (hl : lv_has ls 4 [(0, .ref a0), (1, .int i1), (2, .int 0), (3, .int kx1)]), (6 - kx1.toInt).toNat < n4a → W p l e (q_Rm 1) s m args below meth c s.heap [] 0 0 (MQ below (q_Qi G [] σ (fun r σ1 => q_V 0 0 r)) args s 0 0 (q_N G)) (F0 m 4 ls []) := by
    intro n4a
    induction n4a with
    | zero => intro _ _ _ _; exact fun h => absurd h (Nat.not_lt_zero _)
    | succ n4a ih4a =>
      intro kx1 vkx1 ls hl hm4a
      have jn39a : ∀ (kv2 : q_V 0 5 kx1) (ls : Array Slot) (hl : lv_has ls 4 [(0, .ref a0), (1, .int i1), (3, .int kx1)]), W p l e (q_Rm 1) s m args below meth c s.heap [] 0 0 (MQ below (q_Qi G [] σ (fun r σ1 => q_V 0 0 r)) args s 0 0 (q_N G)) (F0 m 39 ls [.int 0, .int 0]) := by
        intro kv2 ls hl
        refine lv_ior hx hb dX12_readAt_39 ?_
        refine lv_eqi (y := 0) (by decide) ?_
        refine lv_istore_n (lv' := [(2, .int 0), (0, .ref a0), (1, .int i1), (3, .int kx1)]) hx hb dX12_readAt_40 rfl hl (by decide) rfl (fun ls hl => ?_)
        obtain ⟨kx3, ekx3⟩ : ∃ y : Int32, y = kx1 + 1 := ⟨_, rfl⟩
        have vkx3 : q_V 1 6 kx3 := by rw [ekx3]; exact (q_add kv2 (q_c (k := 1) (x := 1) (by decide)) (by decide) (by decide)).w (by decide) (by decide)
        have ikx3 : kx3.toInt = kx1.toInt + 1 := q_incT ekx3 kv2 (by decide) (by decide) (by decide)
        refine lv_iinc (v := kx3) (lv' := [(3, .int kx3), (2, .int 0), (0, .ref a0), (1, .int i1)]) hx hb dX12_readAt_41 hl (k := 3) rfl (by rw [ekx3]; rfl) (by decide) rfl (fun ls hl => ?_)
        refine lv_goto (tgt := 4) hx hb dX12_readAt_44 (by decide) ?_
        exact ih4a kx3 (vkx3.w (by decide) (by decide)) ls (lv_sub hl [2, 3, 1, 0] rfl) (Nat.lt_of_lt_of_le (q_up (ikx3) (show q_V 1 6 kx3 from vkx3).2) (Nat.le_of_lt_succ hm4a))
      refine lv_iload_n hx hb dX12_readAt_4 rfl (lv_at hl 3 rfl) ?_
      refine lv_bipush (v := 6) hx hb dX12_readAt_5 (by decide) ?_
      refine lv_icmp_ge (tgt := 47) hx hb dX12_readAt_7 (by decide) (fun kc4 => ?_) (fun kc4 => ?_)
      · have kv5 : q_V 6 6 kx1 := (q_le2 (q_c (k := 6) (x := 6) (by decide)) vkx1 kc4).w (by decide) (by decide)
        refine lv_iload_n hx hb dX12_readAt_47 rfl (lv_at hl 2 rfl) ?_
        exact q_reti hE hr hlocks hW ((q_c (k := 0) (x := 0) (by decide))) dX12_readAt_48
      · have kv6 : q_V 0 5 kx1 := (q_lt1 vkx1 (q_c (k := 6) (x := 6) (by decide)) (Int32.not_le.mp kc4)).w (by decide) (by decide)
        refine lv_iload_n hx hb dX12_readAt_10 rfl (lv_at hl 2 rfl) ?_
        refine lv_aload_n hx hb dX12_readAt_11 rfl (lv_at hl 0 rfl) ?_
        refine q_getr hE hW h0 rfl q_k12 9 (by decide) rfl (hE.l wl_135) dX12_readAt_12 (fun kb7 ekb7 hkb7a hkb7b => ?_)
        have hkb7 : q_T G kb7 = 46 := q_tag hkb7a hkb7b
        refine lv_bipush (v := 59) hx hb dX12_readAt_15 (by decide) ?_
        refine lv_bipush (v := 6) hx hb dX12_readAt_17 (by decide) ?_
        refine lv_iload_n hx hb dX12_readAt_19 rfl (lv_at hl 1 rfl) ?_
        refine lv_imul hx hb dX12_readAt_20 ?_
        refine lv_topi (fun kx8 ekx8 => ?_)
        have vkx8 : q_V 0 36 kx8 := by rw [ekx8]; exact (q_mul (k := 6) (by decide) w1 (by decide) (by decide) (by decide)).w (by decide) (by decide)
        refine lv_iadd hx hb dX12_readAt_21 ?_
        refine lv_topi (fun kx9 ekx9 => ?_)
        have vkx9 : q_V 59 95 kx9 := by rw [ekx9]; exact (q_add (q_c (k := 59) (x := 59) (by decide)) vkx8 (by decide) (by decide)).w (by decide) (by decide)
        refine lv_iload_n hx hb dX12_readAt_22 rfl (lv_at hl 3 rfl) ?_
        refine lv_iadd hx hb dX12_readAt_23 ?_
        refine lv_topi (fun kx10 ekx10 => ?_)
        have vkx10 : q_V 59 100 kx10 := by rw [ekx10]; exact (q_add vkx9 kv6 (by decide) (by decide)).w (by decide) (by decide)
        refine q_iald hE hW hkb7 rfl (q_in vkx10 (by decide) (by decide)) dX12_readAt_24 (fun kx11 ekx11 gkx11 => ?_)
        obtain rfl : (0 : Int32) = kx11 := (q_fr.z hz (t := 46) (l := 59) (u := 101) (by decide) hkb7 vkx10 (by decide) (by decide) (by decide)).symm.trans ekx11
        refine lv_aload_n hx hb dX12_readAt_25 rfl (lv_at hl 0 rfl) ?_
        refine q_geti hE hW h0 rfl q_k12 8 (by decide) rfl (hE.l wl_134) dX12_readAt_26 (fun kx12 ekx12 vkx12 => ?_)
        obtain rfl : (8 : Int32) = kx12 := (q_fr.f hz (t := 40) (k := 8) (by decide) h0).symm.trans ekx12
        refine lv_icmp_lt (tgt := 38) hx hb dX12_readAt_29 (by decide) (fun kc13 => ?_) (fun kc13 => ?_)
        · refine lv_iconst (v := 0) hx hb dX12_readAt_38 (by decide) ?_
          exact jn39a kv6 ls (lv_sub hl [0, 1, 3] rfl)
        · have kv14 : q_V 8 0 8 := (q_le1 (q_c (k := 8) (x := 8) (by decide)) (q_c (k := 0) (x := 0) (by decide)) (Int32.not_lt.mp kc13)).w (by decide) (by decide)
          exact (kv14.no (by decide))
  refine lv_iconst (v := 0) hx hb dX12_readAt_0 (by decide) ?_
  refine lv_istore_n (lv' := [(2, .int 0), (0, .ref a0), (1, .int i1)]) hx hb dX12_readAt_1 rfl hl (by decide) rfl (fun ls hl => ?_)
  refine lv_iconst (v := 0) hx hb dX12_readAt_2 (by decide) ?_
  refine lv_istore_n (lv' := [(3, .int 0), (2, .int 0), (0, .ref a0), (1, .int i1)]) hx hb dX12_readAt_3 rfl hl (by decide) rfl (fun ls hl => ?_)
  exact lp4a _ 0 ((q_c (k := 0) (x := 0) (by decide)).w (by decide) (by decide)) ls (lv_sub hl [2, 3, 1, 0] rfl) (Nat.lt_succ_self _)
set_option maxHeartbeats 4000000 in
set_option maxRecDepth 100000 in
theorem c_X12_cloudsAt_tz (l : Launch) (G : q_G) (σ : q_S) (a0 : Nat) (h0 : q_T G a0 = 40) (i1 : Int32) (hz : q_fr G [(40, 0)] [] σ) : Met l yX12_cloudsAt (Cond.code yX12_cloudsAt cX12_cloudsAt 4 (some .int) :: wsL_law) (q_Rm 1) (q_Pre G σ [.ref a0, .int i1]) (q_Qi G [] σ (fun r σ1 => q_V 0 0 r)) 0 0 (q_N G) := by
  refine q_ofW (ts := []) (by decide) (Nat.le_of_ble_eq_true rfl) ?_
  intro p e s m args below meth c hE hr hlocks hW ls hl
  have hE : q_E G p s m args c cX12_cloudsAt 4 RX12 := hE
  have hx := hE.1.1
  have hb := hE.1.2.1
  have hl : lv_has ls 4 [(0, .ref a0), (1, .int i1)] := hl
  refine lv_iconst (v := 0) hx hb dX12_cloudsAt_0 (by decide) ?_
  refine lv_istore_n (lv' := [(2, .int 0), (0, .ref a0), (1, .int i1)]) hx hb dX12_cloudsAt_1 rfl hl (by decide) rfl (fun ls hl => ?_)
  refine lv_iconst (v := 0) hx hb dX12_cloudsAt_2 (by decide) ?_
  refine lv_istore_n (lv' := [(3, .int 0), (2, .int 0), (0, .ref a0), (1, .int i1)]) hx hb dX12_cloudsAt_3 rfl hl (by decide) rfl (fun ls hl => ?_)
  refine lv_iload_n hx hb dX12_cloudsAt_4 rfl (lv_at hl 0 rfl) ?_
  refine lv_aload_n hx hb dX12_cloudsAt_5 rfl (lv_at hl 2 rfl) ?_
  refine q_geti hE hW h0 rfl q_k12 0 (by decide) rfl (hE.l wl_358) dX12_cloudsAt_6 (fun kx1 ekx1 vkx1 => ?_)
  obtain rfl : (0 : Int32) = kx1 := (q_fr.f hz (t := 40) (k := 0) (by decide) h0).symm.trans ekx1
  refine lv_icmp_ge (tgt := 41) hx hb dX12_cloudsAt_9 (by decide) (fun kc2 => ?_) (fun kc2 => ?_)
  · refine lv_iload_n hx hb dX12_cloudsAt_41 rfl (lv_at hl 1 rfl) ?_
    exact q_reti hE hr hlocks hW ((q_c (k := 0) (x := 0) (by decide))) dX12_cloudsAt_42
  · have kv3 : q_V 0 (-1) 0 := (q_lt1 (q_c (k := 0) (x := 0) (by decide)) (q_c (k := 0) (x := 0) (by decide)) (Int32.not_le.mp kc2)).w (by decide) (by decide)
    exact (kv3.no (by decide))
set_option maxHeartbeats 4000000 in
set_option maxRecDepth 100000 in
theorem c_X12_linesThere_tz (l : Launch) (G : q_G) (σ : q_S) (a0 : Nat) (h0 : q_T G a0 = 40) (hz : q_fr G [] [(63, 0, 3)] σ) : Met l yX12_linesThere (Cond.code yX12_linesThere cX12_linesThere 3 (some .int) :: wsL_law) (q_Rm 1) (q_Pre G σ [.ref a0]) (q_Qi G [] σ (fun r σ1 => q_V 0 0 r)) 0 0 (q_N G) := by
  refine q_ofW (ts := []) (by decide) (Nat.le_of_ble_eq_true rfl) ?_
  intro p e s m args below meth c hE hr hlocks hW ls hl
  have hE : q_E G p s m args c cX12_linesThere 3 RX12 := hE
  have hx := hE.1.1
  have hb := hE.1.2.1
  have hl : lv_has ls 3 [(0, .ref a0)] := hl
  have lp4a : ∀ (n4a : Nat) (kx1 : Int32) (vkx1 : q_V 0 3 kx1) (ls : Array Slot) (hl : lv_has ls 3 [(0, .ref a0), (1, .int 0), (2, .int kx1)]), (3 - kx1.toInt).toNat < n4a → W p l e (q_Rm 1) s m args below meth c s.heap [] 0 0 (MQ below (q_Qi G [] σ (fun r σ1 => q_V 0 0 r)) args s 0 0 (q_N G)) (F0 m 4 ls []) := by
    intro n4a
    induction n4a with
    | zero => intro _ _ _ _; exact fun h => absurd h (Nat.not_lt_zero _)
    | succ n4a ih4a =>
      intro kx1 vkx1 ls hl hm4a
      have jn24a : ∀ (kv2 : q_V 0 2 kx1) (ls : Array Slot) (hl : lv_has ls 3 [(0, .ref a0), (2, .int kx1)]), W p l e (q_Rm 1) s m args below meth c s.heap [] 0 0 (MQ below (q_Qi G [] σ (fun r σ1 => q_V 0 0 r)) args s 0 0 (q_N G)) (F0 m 24 ls [.int 0, .int 0]) := by
        intro kv2 ls hl
        refine lv_iadd hx hb dX12_linesThere_24 ?_
        refine lv_eqi (y := 0) (by decide) ?_
        refine lv_istore_n (lv' := [(1, .int 0), (0, .ref a0), (2, .int kx1)]) hx hb dX12_linesThere_25 rfl hl (by decide) rfl (fun ls hl => ?_)
        obtain ⟨kx3, ekx3⟩ : ∃ y : Int32, y = kx1 + 1 := ⟨_, rfl⟩
        have vkx3 : q_V 1 3 kx3 := by rw [ekx3]; exact (q_add kv2 (q_c (k := 1) (x := 1) (by decide)) (by decide) (by decide)).w (by decide) (by decide)
        have ikx3 : kx3.toInt = kx1.toInt + 1 := q_incT ekx3 kv2 (by decide) (by decide) (by decide)
        refine lv_iinc (v := kx3) (lv' := [(2, .int kx3), (1, .int 0), (0, .ref a0)]) hx hb dX12_linesThere_26 hl (k := 2) rfl (by rw [ekx3]; rfl) (by decide) rfl (fun ls hl => ?_)
        refine lv_goto (tgt := 4) hx hb dX12_linesThere_29 (by decide) ?_
        exact ih4a kx3 (vkx3.w (by decide) (by decide)) ls (lv_sub hl [2, 1, 0] rfl) (Nat.lt_of_lt_of_le (q_up (ikx3) (show q_V 1 3 kx3 from vkx3).2) (Nat.le_of_lt_succ hm4a))
      refine lv_iload_n hx hb dX12_linesThere_4 rfl (lv_at hl 2 rfl) ?_
      refine lv_iconst (v := 3) hx hb dX12_linesThere_5 (by decide) ?_
      refine lv_icmp_ge (tgt := 32) hx hb dX12_linesThere_6 (by decide) (fun kc4 => ?_) (fun kc4 => ?_)
      · have kv5 : q_V 3 3 kx1 := (q_le2 (q_c (k := 3) (x := 3) (by decide)) vkx1 kc4).w (by decide) (by decide)
        refine lv_iload_n hx hb dX12_linesThere_32 rfl (lv_at hl 1 rfl) ?_
        exact q_reti hE hr hlocks hW ((q_c (k := 0) (x := 0) (by decide))) dX12_linesThere_33
      · have kv6 : q_V 0 2 kx1 := (q_lt1 vkx1 (q_c (k := 3) (x := 3) (by decide)) (Int32.not_le.mp kc4)).w (by decide) (by decide)
        refine lv_iload_n hx hb dX12_linesThere_9 rfl (lv_at hl 1 rfl) ?_
        refine lv_aload_n hx hb dX12_linesThere_10 rfl (lv_at hl 0 rfl) ?_
        refine q_getr hE hW h0 rfl q_k12 39 (by decide) rfl (hE.l wl_152) dX12_linesThere_11 (fun kb7 ekb7 hkb7a hkb7b => ?_)
        have hkb7 : q_T G kb7 = 63 := q_tag hkb7a hkb7b
        refine lv_iload_n hx hb dX12_linesThere_14 rfl (lv_at hl 2 rfl) ?_
        refine q_zald hE hW hkb7 rfl (q_in kv6 (by decide) (by decide)) dX12_linesThere_15 (fun kx8 ekx8 gkx8 => ?_)
        obtain rfl : (0 : Int32) = kx8 := (q_fr.z hz (t := 63) (l := 0) (u := 3) (by decide) hkb7 kv6 (by decide) (by decide) (by decide)).symm.trans ekx8
        refine lv_if_eq (tgt := 23) hx hb dX12_linesThere_16 (by decide) (fun kc9 => ?_) (fun kc9 => ?_)
        · refine lv_iconst (v := 0) hx hb dX12_linesThere_23 (by decide) ?_
          exact jn24a kv6 ls (lv_sub hl [0, 2] rfl)
        · exact q_neq (q_c (k := 0) (x := 0) (by decide)) (q_c (k := 0) (x := 0) (by decide)) kc9
  refine lv_iconst (v := 0) hx hb dX12_linesThere_0 (by decide) ?_
  refine lv_istore_n (lv' := [(1, .int 0), (0, .ref a0)]) hx hb dX12_linesThere_1 rfl hl (by decide) rfl (fun ls hl => ?_)
  refine lv_iconst (v := 0) hx hb dX12_linesThere_2 (by decide) ?_
  refine lv_istore_n (lv' := [(2, .int 0), (1, .int 0), (0, .ref a0)]) hx hb dX12_linesThere_3 rfl hl (by decide) rfl (fun ls hl => ?_)
  exact lp4a _ 0 ((q_c (k := 0) (x := 0) (by decide)).w (by decide) (by decide)) ls (lv_sub hl [2, 1, 0] rfl) (Nat.lt_succ_self _)
set_option maxHeartbeats 4000000 in
set_option maxRecDepth 100000 in
theorem c_X12_allWater_tz (l : Launch) (G : q_G) (σ : q_S) (a0 : Nat) (h0 : q_T G a0 = 40) (hz : q_fr G [] [(46, 0, 54), (46, 57, 58), (46, 58, 59), (46, 59, 101)] σ) : Met l yX12_allWater (Cond.code yX12_allWater cX12_allWater 3 (some .int) :: wsL_law) (q_Rm 1) (q_Pre G σ [.ref a0]) (q_Qi G [] σ (fun r σ1 => q_V 0 0 r)) 0 0 (q_N G) := by
  refine q_ofW (ts := []) (by decide) (Nat.le_of_ble_eq_true rfl) ?_
  intro p e s m args below meth c hE hr hlocks hW ls hl
  have hE : q_E G p s m args c cX12_allWater 3 RX12 := hE
  have hx := hE.1.1
  have hb := hE.1.2.1
  have hl : lv_has ls 3 [(0, .ref a0)] := hl
  have lp4a : ∀ (n4a : Nat) (kx1 : Int32) (vkx1 : q_V 0 42 kx1) (ls : Array Slot) (hl : lv_has ls 3 [(0, .ref a0), (1, .int 0), (2, .int kx1)]), (42 - kx1.toInt).toNat < n4a → W p l e (q_Rm 1) s m args below meth c s.heap [] 0 0 (MQ below (q_Qi G [] σ (fun r σ1 => q_V 0 0 r)) args s 0 0 (q_N G)) (F0 m 4 ls []) := by
    intro n4a
    induction n4a with
    | zero => intro _ _ _ _; exact fun h => absurd h (Nat.not_lt_zero _)
    | succ n4a ih4a =>
      intro kx1 vkx1 ls hl hm4a
      refine lv_iload_n hx hb dX12_allWater_4 rfl (lv_at hl 2 rfl) ?_
      refine lv_bipush (v := 42) hx hb dX12_allWater_5 (by decide) ?_
      refine lv_icmp_ge (tgt := 28) hx hb dX12_allWater_7 (by decide) (fun kc2 => ?_) (fun kc2 => ?_)
      · have kv3 : q_V 42 42 kx1 := (q_le2 (q_c (k := 42) (x := 42) (by decide)) vkx1 kc2).w (by decide) (by decide)
        refine lv_iload_n hx hb dX12_allWater_28 rfl (lv_at hl 1 rfl) ?_
        exact q_reti hE hr hlocks hW ((q_c (k := 0) (x := 0) (by decide))) dX12_allWater_29
      · have kv4 : q_V 0 41 kx1 := (q_lt1 vkx1 (q_c (k := 42) (x := 42) (by decide)) (Int32.not_le.mp kc2)).w (by decide) (by decide)
        refine lv_iload_n hx hb dX12_allWater_10 rfl (lv_at hl 1 rfl) ?_
        refine lv_aload_n hx hb dX12_allWater_11 rfl (lv_at hl 0 rfl) ?_
        refine q_getr hE hW h0 rfl q_k12 9 (by decide) rfl (hE.l wl_135) dX12_allWater_12 (fun kb5 ekb5 hkb5a hkb5b => ?_)
        have hkb5 : q_T G kb5 = 46 := q_tag hkb5a hkb5b
        refine lv_bipush (v := 59) hx hb dX12_allWater_15 (by decide) ?_
        refine lv_iload_n hx hb dX12_allWater_17 rfl (lv_at hl 2 rfl) ?_
        refine lv_iadd hx hb dX12_allWater_18 ?_
        refine lv_topi (fun kx6 ekx6 => ?_)
        have vkx6 : q_V 59 100 kx6 := by rw [ekx6]; exact (q_add (q_c (k := 59) (x := 59) (by decide)) kv4 (by decide) (by decide)).w (by decide) (by decide)
        refine q_iald hE hW hkb5 rfl (q_in vkx6 (by decide) (by decide)) dX12_allWater_19 (fun kx7 ekx7 gkx7 => ?_)
        obtain rfl : (0 : Int32) = kx7 := (q_fr.z hz (t := 46) (l := 59) (u := 101) (by decide) hkb5 vkx6 (by decide) (by decide) (by decide)).symm.trans ekx7
        refine lv_iadd hx hb dX12_allWater_20 ?_
        refine lv_eqi (y := 0) (by decide) ?_
        refine lv_istore_n (lv' := [(1, .int 0), (0, .ref a0), (2, .int kx1)]) hx hb dX12_allWater_21 rfl hl (by decide) rfl (fun ls hl => ?_)
        obtain ⟨kx8, ekx8⟩ : ∃ y : Int32, y = kx1 + 1 := ⟨_, rfl⟩
        have vkx8 : q_V 1 42 kx8 := by rw [ekx8]; exact (q_add kv4 (q_c (k := 1) (x := 1) (by decide)) (by decide) (by decide)).w (by decide) (by decide)
        have ikx8 : kx8.toInt = kx1.toInt + 1 := q_incT ekx8 kv4 (by decide) (by decide) (by decide)
        refine lv_iinc (v := kx8) (lv' := [(2, .int kx8), (1, .int 0), (0, .ref a0)]) hx hb dX12_allWater_22 hl (k := 2) rfl (by rw [ekx8]; rfl) (by decide) rfl (fun ls hl => ?_)
        refine lv_goto (tgt := 4) hx hb dX12_allWater_25 (by decide) ?_
        exact ih4a kx8 (vkx8.w (by decide) (by decide)) ls (lv_sub hl [2, 1, 0] rfl) (Nat.lt_of_lt_of_le (q_up (ikx8) (show q_V 1 42 kx8 from vkx8).2) (Nat.le_of_lt_succ hm4a))
  refine lv_iconst (v := 0) hx hb dX12_allWater_0 (by decide) ?_
  refine lv_istore_n (lv' := [(1, .int 0), (0, .ref a0)]) hx hb dX12_allWater_1 rfl hl (by decide) rfl (fun ls hl => ?_)
  refine lv_iconst (v := 0) hx hb dX12_allWater_2 (by decide) ?_
  refine lv_istore_n (lv' := [(2, .int 0), (1, .int 0), (0, .ref a0)]) hx hb dX12_allWater_3 rfl hl (by decide) rfl (fun ls hl => ?_)
  exact lp4a _ 0 ((q_c (k := 0) (x := 0) (by decide)).w (by decide) (by decide)) ls (lv_sub hl [2, 1, 0] rfl) (Nat.lt_succ_self _)
set_option maxHeartbeats 4000000 in
set_option maxRecDepth 100000 in
theorem c_X12_needed_tz (l : Launch) (G : q_G) (σ : q_S) (a0 : Nat) (h0 : q_T G a0 = 40) (i1 : Int32) (hz : q_fr G [(40, 0)] [] σ) : Met l yX12_needed (Cond.code yX12_needed cX12_needed 4 (some .int) :: wsL_law) (q_Rm 2) (q_Pre G σ [.ref a0, .int i1]) (q_Qi G [] σ (fun r σ1 => q_V (-2147483648) 2147483647 r ∧ r = kz_needed i1)) 0 0 (q_N G) := by
  refine q_ofW (ts := []) (by decide) (Nat.le_of_ble_eq_true rfl) ?_
  intro p e s m args below meth c hE hr hlocks hW ls hl
  have hE : q_E G p s m args c cX12_needed 4 RX12 := hE
  have hx := hE.1.1
  have hb := hE.1.2.1
  have hl : lv_has ls 4 [(0, .ref a0), (1, .int i1)] := hl
  refine lv_iload_n hx hb dX12_needed_0 rfl (lv_at hl 1 rfl) ?_
  refine lv_i2l (v := i1.toInt64) hx hb dX12_needed_1 rfl ?_
  refine lv_lconst (v := 0) hx hb dX12_needed_2 (by decide) ?_
  refine lv_iconst (v := 1) hx hb dX12_needed_3 (by decide) ?_
  refine lv_aload_n hx hb dX12_needed_4 rfl (lv_at hl 0 rfl) ?_
  refine q_geti hE hW h0 rfl q_k12 0 (by decide) rfl (hE.l wl_358) dX12_needed_5 (fun kx1 ekx1 vkx1 => ?_)
  obtain rfl : (0 : Int32) = kx1 := (q_fr.f hz (t := 40) (k := 0) (by decide) h0).symm.trans ekx1
  refine lv_ishl hx hb dX12_needed_8 ?_
  refine lv_eqi (y := 1) (by decide) ?_
  refine lv_iconst (v := 1) hx hb dX12_needed_9 (by decide) ?_
  refine lv_isub hx hb dX12_needed_10 ?_
  refine lv_eqi (y := 0) (by decide) ?_
  refine lv_i2l (v := (0 : Int32).toInt64) hx hb dX12_needed_11 rfl ?_
  refine q_goi hW (q_runS (As := [.long (i1).toInt64, .long 0, .long (0 : Int32).toInt64]) (rest := []) hE hW (c_X12_in l G σ ((i1).toInt64) 0 ((0 : Int32).toInt64)) kw_X12_99 rfl hl.1 rfl (Nat.le_of_ble_eq_true rfl) dX12_needed_12 ⟨by decide, by decide⟩ ⟨by decide, by decide⟩) (by decide) (fun kx5 ks3 H locs kp2 kf4 hW => ?_)
  have kz6 := (q_fr.fr (q_fr.sub (F2 := [(40, 0)]) (A2 := []) hz (by decide) (by decide)) kf4 (by decide) (by decide))
  refine lv_if_ne (tgt := 21) hx hb dX12_needed_15 (by decide) (fun kc7 => ?_) (fun kc7 => ?_)
  · have kv8 : q_V 0 0 i1 := q_inV (kp2.2.1 kc7).1 (kp2.2.1 kc7).2 (q_lc (k := 0) (x := 0) (by decide)) (q_l (q_c (k := 0) (x := 0) (by decide)))
    have kv9 : q_V 1 1 kx5 := q_ne1 kp2.1 (q_c (k := 0) (x := 0) (by decide)) kc7 (by decide)
    refine lv_iconst (v := 0) hx hb dX12_needed_21 (by decide) ?_
    refine lv_istore_n (lv' := [(2, .int 0), (0, .ref a0), (1, .int i1)]) hx hb dX12_needed_22 rfl hl (by decide) rfl (fun ls hl => ?_)
    refine lv_iconst (v := 0) hx hb dX12_needed_23 (by decide) ?_
    refine lv_istore_n (lv' := [(3, .int 0), (2, .int 0), (0, .ref a0), (1, .int i1)]) hx hb dX12_needed_24 rfl hl (by decide) rfl (fun ls hl => ?_)
    refine lv_iload_n hx hb dX12_needed_25 rfl (lv_at hl 0 rfl) ?_
    refine lv_aload_n hx hb dX12_needed_26 rfl (lv_at hl 2 rfl) ?_
    refine q_geti hE hW h0 rfl q_k12 0 (by decide) rfl (hE.l wl_358) dX12_needed_27 (fun kx10 ekx10 vkx10 => ?_)
    obtain rfl : 0 = kx10 := ((kf4.I _ h0 (by decide)).trans ekx1).symm.trans ekx10
    refine lv_icmp_ge (tgt := 68) hx hb dX12_needed_30 (by decide) (fun kc11 => ?_) (fun kc11 => ?_)
    · refine lv_iload_n hx hb dX12_needed_68 rfl (lv_at hl 1 rfl) ?_
      exact q_reti hE hr hlocks hW (⟨((q_c (k := 0) (x := 0) (by decide)).w (by decide) (by decide)), (by have := kv8.1; have := kv8.2; unfold kz_needed; (repeat' split) <;> first | rfl | omega)⟩) dX12_needed_69
    · have kv12 : q_V 0 (-1) 0 := (q_lt1 (q_c (k := 0) (x := 0) (by decide)) (q_c (k := 0) (x := 0) (by decide)) (Int32.not_le.mp kc11)).w (by decide) (by decide)
      exact (kv12.no (by decide))
  · have kv13 : q_V 0 0 kx5 := q_eq1 kp2.1 (q_c (k := 0) (x := 0) (by decide)) kc7 (by decide) (by decide)
    refine lv_bipush (v := (-2)) hx hb dX12_needed_18 (by decide) ?_
    exact q_reti hE hr hlocks hW (⟨((q_c (k := (-2)) (x := (-2)) (by decide)).w (by decide) (by decide)), (by have := (q_nin (kp2.2.2 kc7) (q_lc (k := 0) (x := 0) (by decide)) (q_l (q_c (k := 0) (x := 0) (by decide)))); unfold kz_needed; (repeat' split) <;> first | rfl | omega)⟩) dX12_needed_20
set_option maxHeartbeats 4000000 in
set_option maxRecDepth 100000 in
theorem c_X12_peg_tz (l : Launch) (G : q_G) (σ : q_S) (a0 : Nat) (h0 : q_T G a0 = 40) (i1 : Int32) (i2 : Int32) (i3 : Int32) (hz : q_fr G [] [(63, 0, 3)] σ) : Met l yX12_peg (Cond.code yX12_peg cX12_peg 6 (some .int) :: wsL_law) (q_Rm 3) (q_Pre G σ [.ref a0, .int i1, .int i2, .int i3]) (q_Qi G [] σ (fun r σ1 => q_V (-2147483648) 2147483647 r ∧ r = kz_peg i1 i2 i3)) 0 0 (q_N G) := by
  refine q_ofW (ts := []) (by decide) (Nat.le_of_ble_eq_true rfl) ?_
  intro p e s m args below meth c hE hr hlocks hW ls hl
  have hE : q_E G p s m args c cX12_peg 6 RX12 := hE
  have hx := hE.1.1
  have hb := hE.1.2.1
  have hl : lv_has ls 6 [(0, .ref a0), (1, .int i1), (2, .int i2), (3, .int i3)] := hl
  refine lv_iload_n hx hb dX12_peg_0 rfl (lv_at hl 1 rfl) ?_
  refine q_goi hW (q_runS (As := [.int i1]) (rest := []) hE hW (c_X12_isRow_tx l G σ i1) kw_X12_354 rfl hl.1 rfl (Nat.le_of_ble_eq_true rfl) dX12_peg_1 ⟨by decide, by decide⟩ ⟨by decide, by decide⟩) (by decide) (fun kx4 ks2 H locs kp1 kf3 hW => ?_)
  have kz5 := (q_fr.fr (q_fr.sub (F2 := []) (A2 := [(63, 0, 3)]) hz (by decide) (by decide)) kf3 (by decide) (by decide))
  refine lv_if_ne (tgt := 10) hx hb dX12_peg_4 (by decide) (fun kc6 => ?_) (fun kc6 => ?_)
  · have kv7 : q_V 0 2 i1 := kp1.2.1 kc6
    have kv8 : q_V 1 1 kx4 := q_ne1 kp1.1 (q_c (k := 0) (x := 0) (by decide)) kc6 (by decide)
    refine lv_iload_n hx hb dX12_peg_10 rfl (lv_at hl 3 rfl) ?_
    refine lv_i2l (v := i3.toInt64) hx hb dX12_peg_11 rfl ?_
    refine lv_lconst (v := 0) hx hb dX12_peg_12 (by decide) ?_
    refine lv_ldc2 (v := 2) hx hb hE.1.2.2.2.1 (hE.w wl_977) dX12_peg_13 ?_
    refine q_goi hW (q_runS (As := [.long (i3).toInt64, .long 0, .long 2]) (rest := []) hE hW (c_X12_in l G ks2 ((i3).toInt64) 0 2) kw_X12_99 rfl hl.1 rfl (Nat.le_of_ble_eq_true rfl) dX12_peg_16 ⟨by decide, by decide⟩ ⟨by decide, by decide⟩) (by decide) (fun kx12 ks10 H locs kp9 kf11 hW => ?_)
    have kz13 := (q_fr.fr (q_fr.sub (F2 := []) (A2 := [(63, 0, 3)]) kz5 (by decide) (by decide)) kf11 (by decide) (by decide))
    refine lv_if_ne (tgt := 25) hx hb dX12_peg_19 (by decide) (fun kc14 => ?_) (fun kc14 => ?_)
    · have kv15 : q_V 0 2 i3 := q_inV (kp9.2.1 kc14).1 (kp9.2.1 kc14).2 (q_lc (k := 0) (x := 0) (by decide)) (q_lc (k := 2) (x := 2) (by decide))
      have kv16 : q_V 1 1 kx12 := q_ne1 kp9.1 (q_c (k := 0) (x := 0) (by decide)) kc14 (by decide)
      refine lv_aload_n hx hb dX12_peg_25 rfl (lv_at hl 0 rfl) ?_
      refine q_getr hE hW h0 rfl q_k12 39 (by decide) rfl (hE.l wl_152) dX12_peg_26 (fun kb17 ekb17 hkb17a hkb17b => ?_)
      have hkb17 : q_T G kb17 = 63 := q_tag hkb17a hkb17b
      refine lv_iload_n hx hb dX12_peg_29 rfl (lv_at hl 1 rfl) ?_
      refine q_zald hE hW hkb17 rfl (q_in kv7 (by decide) (by decide)) dX12_peg_30 (fun kx18 ekx18 gkx18 => ?_)
      obtain rfl : (0 : Int32) = kx18 := (q_fr.z kz13 (t := 63) (l := 0) (u := 3) (by decide) hkb17 kv7 (by decide) (by decide) (by decide)).symm.trans ekx18
      refine lv_if_ne (tgt := 37) hx hb dX12_peg_31 (by decide) (fun kc19 => ?_) (fun kc19 => ?_)
      · exact q_neq (q_c (k := 0) (x := 0) (by decide)) (q_c (k := 0) (x := 0) (by decide)) kc19
      · refine lv_bipush (v := (-11)) hx hb dX12_peg_34 (by decide) ?_
        exact q_reti hE hr hlocks hW (⟨((q_c (k := (-11)) (x := (-11)) (by decide)).w (by decide) (by decide)), (by have := kv7.1; have := kv7.2; have := kv15.1; have := kv15.2; unfold kz_peg; (repeat' split) <;> first | rfl | omega)⟩) dX12_peg_36
    · have kv20 : q_V 0 0 kx12 := q_eq1 kp9.1 (q_c (k := 0) (x := 0) (by decide)) kc14 (by decide) (by decide)
      refine lv_bipush (v := (-3)) hx hb dX12_peg_22 (by decide) ?_
      exact q_reti hE hr hlocks hW (⟨((q_c (k := (-3)) (x := (-3)) (by decide)).w (by decide) (by decide)), (by have := kv7.1; have := kv7.2; have := (q_nin (kp9.2.2 kc14) (q_lc (k := 0) (x := 0) (by decide)) (q_lc (k := 2) (x := 2) (by decide))); unfold kz_peg; (repeat' split) <;> first | rfl | omega)⟩) dX12_peg_24
  · have kv21 : q_V 0 0 kx4 := q_eq1 kp1.1 (q_c (k := 0) (x := 0) (by decide)) kc6 (by decide) (by decide)
    refine lv_bipush (v := (-2)) hx hb dX12_peg_7 (by decide) ?_
    exact q_reti hE hr hlocks hW (⟨((q_c (k := (-2)) (x := (-2)) (by decide)).w (by decide) (by decide)), (by have := (kp1.2.2 kc6); unfold kz_peg; (repeat' split) <;> first | rfl | omega)⟩) dX12_peg_9
set_option maxHeartbeats 4000000 in
set_option maxRecDepth 100000 in
theorem c_X12_move_tz (l : Launch) (G : q_G) (σ : q_S) (a0 : Nat) (h0 : q_T G a0 = 40) (i1 : Int32) (i2 : Int32) (i3 : Int32) (i4 : Int32) (i5 : Int32) (hz : q_fr G [] [(63, 0, 3)] σ) : Met l yX12_move (Cond.code yX12_move cX12_move 7 (some .int) :: wsL_law) (q_Rm 3) (q_Pre G σ [.ref a0, .int i1, .int i2, .int i3, .int i4, .int i5]) (q_Qi G [66, 67] σ (fun r σ1 => q_V (-2147483648) 2147483647 r ∧ r = kz_move i1 i2 i3 i4 i5)) 0 0 (q_N G) := by
  refine q_ofW (ts := [66, 67]) (by decide) (Nat.le_of_ble_eq_true rfl) ?_
  intro p e s m args below meth c hE hr hlocks hW ls hl
  have hE : q_E G p s m args c cX12_move 7 RX12 := hE
  have hx := hE.1.1
  have hb := hE.1.2.1
  have hl : lv_has ls 7 [(0, .ref a0), (1, .int i1), (2, .int i2), (3, .int i3), (4, .int i4), (5, .int i5)] := hl
  refine lv_iload_n hx hb dX12_move_0 rfl (lv_at hl 1 rfl) ?_
  refine q_goi hW (q_runS (As := [.int i1]) (rest := []) hE hW (c_X12_isRow_tx l G σ i1) kw_X12_354 rfl hl.1 rfl (Nat.le_of_ble_eq_true rfl) dX12_move_1 ⟨by decide, by decide⟩ ⟨by decide, by decide⟩) (by decide) (fun kx4 ks2 H locs kp1 kf3 hW => ?_)
  have kz5 := (q_fr.fr (q_fr.sub (F2 := []) (A2 := [(63, 0, 3)]) hz (by decide) (by decide)) kf3 (by decide) (by decide))
  refine lv_if_eq (tgt := 14) hx hb dX12_move_4 (by decide) (fun kc6 => ?_) (fun kc6 => ?_)
  · have kv7 : q_V 0 0 kx4 := q_eq1 kp1.1 (q_c (k := 0) (x := 0) (by decide)) kc6 (by decide) (by decide)
    refine lv_bipush (v := (-2)) hx hb dX12_move_14 (by decide) ?_
    exact q_reti hE hr hlocks hW (⟨((q_c (k := (-2)) (x := (-2)) (by decide)).w (by decide) (by decide)), (by have := (kp1.2.2 kc6); unfold kz_move; (repeat' split) <;> first | rfl | omega)⟩) dX12_move_16
  · have kv8 : q_V 0 2 i1 := kp1.2.1 kc6
    have kv9 : q_V 1 1 kx4 := q_ne1 kp1.1 (q_c (k := 0) (x := 0) (by decide)) kc6 (by decide)
    refine lv_iload_n hx hb dX12_move_7 rfl (lv_at hl 3 rfl) ?_
    refine q_goi hW (q_runS (As := [.int i3]) (rest := []) hE hW (c_X12_isRow_tx l G ks2 i3) kw_X12_354 rfl hl.1 rfl (Nat.le_of_ble_eq_true rfl) dX12_move_8 ⟨by decide, by decide⟩ ⟨by decide, by decide⟩) (by decide) (fun kx13 ks11 H locs kp10 kf12 hW => ?_)
    have kz14 := (q_fr.fr (q_fr.sub (F2 := []) (A2 := [(63, 0, 3)]) kz5 (by decide) (by decide)) kf12 (by decide) (by decide))
    refine lv_if_ne (tgt := 17) hx hb dX12_move_11 (by decide) (fun kc15 => ?_) (fun kc15 => ?_)
    · have kv16 : q_V 0 2 i3 := kp10.2.1 kc15
      have kv17 : q_V 1 1 kx13 := q_ne1 kp10.1 (q_c (k := 0) (x := 0) (by decide)) kc15 (by decide)
      refine lv_aload_n hx hb dX12_move_17 rfl (lv_at hl 0 rfl) ?_
      refine q_getr hE hW h0 rfl q_k12 39 (by decide) rfl (hE.l wl_152) dX12_move_18 (fun kb18 ekb18 hkb18a hkb18b => ?_)
      have hkb18 : q_T G kb18 = 63 := q_tag hkb18a hkb18b
      refine lv_iload_n hx hb dX12_move_21 rfl (lv_at hl 1 rfl) ?_
      refine q_zald hE hW hkb18 rfl (q_in kv8 (by decide) (by decide)) dX12_move_22 (fun kx19 ekx19 gkx19 => ?_)
      obtain rfl : (0 : Int32) = kx19 := (q_fr.z kz14 (t := 63) (l := 0) (u := 3) (by decide) hkb18 kv8 (by decide) (by decide) (by decide)).symm.trans ekx19
      refine lv_if_eq (tgt := 35) hx hb dX12_move_23 (by decide) (fun kc20 => ?_) (fun kc20 => ?_)
      · refine lv_bipush (v := (-11)) hx hb dX12_move_35 (by decide) ?_
        exact q_reti hE hr hlocks hW (⟨((q_c (k := (-11)) (x := (-11)) (by decide)).w (by decide) (by decide)), (by have := kv8.1; have := kv8.2; have := kv16.1; have := kv16.2; unfold kz_move; (repeat' split) <;> first | rfl | omega)⟩) dX12_move_37
      · exact q_neq (q_c (k := 0) (x := 0) (by decide)) (q_c (k := 0) (x := 0) (by decide)) kc20
    · have kv21 : q_V 0 0 kx13 := q_eq1 kp10.1 (q_c (k := 0) (x := 0) (by decide)) kc15 (by decide) (by decide)
      refine lv_bipush (v := (-2)) hx hb dX12_move_14 (by decide) ?_
      exact q_reti hE hr hlocks hW (⟨((q_c (k := (-2)) (x := (-2)) (by decide)).w (by decide) (by decide)), (by have := kv8.1; have := kv8.2; have := (kp10.2.2 kc15); unfold kz_move; (repeat' split) <;> first | rfl | omega)⟩) dX12_move_16
set_option maxHeartbeats 4000000 in
set_option maxRecDepth 100000 in
theorem c_X12_drop_tz (l : Launch) (G : q_G) (σ : q_S) (a0 : Nat) (h0 : q_T G a0 = 40) (i1 : Int32) (hz : q_fr G [] [(63, 0, 3)] σ) : Met l yX12_drop (Cond.code yX12_drop cX12_drop 4 (some .int) :: wsL_law) (q_Rm 3) (q_Pre G σ [.ref a0, .int i1]) (q_Qi G [63] σ (fun r σ1 => q_V (-2147483648) 2147483647 r ∧ r = kz_row i1)) 0 0 (q_N G) := by
  refine q_ofW (ts := [63]) (by decide) (Nat.le_of_ble_eq_true rfl) ?_
  intro p e s m args below meth c hE hr hlocks hW ls hl
  have hE : q_E G p s m args c cX12_drop 4 RX12 := hE
  have hx := hE.1.1
  have hb := hE.1.2.1
  have hl : lv_has ls 4 [(0, .ref a0), (1, .int i1)] := hl
  refine lv_iload_n hx hb dX12_drop_0 rfl (lv_at hl 1 rfl) ?_
  refine q_goi hW (q_runS (As := [.int i1]) (rest := []) hE hW (c_X12_isRow_tx l G σ i1) kw_X12_354 rfl hl.1 rfl (Nat.le_of_ble_eq_true rfl) dX12_drop_1 ⟨by decide, by decide⟩ ⟨by decide, by decide⟩) (by decide) (fun kx4 ks2 H locs kp1 kf3 hW => ?_)
  have kz5 := (q_fr.fr (q_fr.sub (F2 := []) (A2 := [(63, 0, 3)]) hz (by decide) (by decide)) kf3 (by decide) (by decide))
  refine lv_if_ne (tgt := 10) hx hb dX12_drop_4 (by decide) (fun kc6 => ?_) (fun kc6 => ?_)
  · have kv7 : q_V 0 2 i1 := kp1.2.1 kc6
    have kv8 : q_V 1 1 kx4 := q_ne1 kp1.1 (q_c (k := 0) (x := 0) (by decide)) kc6 (by decide)
    refine lv_aload_n hx hb dX12_drop_10 rfl (lv_at hl 0 rfl) ?_
    refine q_getr hE hW h0 rfl q_k12 39 (by decide) rfl (hE.l wl_152) dX12_drop_11 (fun kb9 ekb9 hkb9a hkb9b => ?_)
    have hkb9 : q_T G kb9 = 63 := q_tag hkb9a hkb9b
    refine lv_iload_n hx hb dX12_drop_14 rfl (lv_at hl 1 rfl) ?_
    refine q_zald hE hW hkb9 rfl (q_in kv7 (by decide) (by decide)) dX12_drop_15 (fun kx10 ekx10 gkx10 => ?_)
    obtain rfl : (0 : Int32) = kx10 := (q_fr.z kz5 (t := 63) (l := 0) (u := 3) (by decide) hkb9 kv7 (by decide) (by decide) (by decide)).symm.trans ekx10
    refine lv_if_ne (tgt := 22) hx hb dX12_drop_16 (by decide) (fun kc11 => ?_) (fun kc11 => ?_)
    · exact q_neq (q_c (k := 0) (x := 0) (by decide)) (q_c (k := 0) (x := 0) (by decide)) kc11
    · refine lv_bipush (v := (-11)) hx hb dX12_drop_19 (by decide) ?_
      exact q_reti hE hr hlocks hW (⟨((q_c (k := (-11)) (x := (-11)) (by decide)).w (by decide) (by decide)), (by have := kv7.1; have := kv7.2; unfold kz_row; (repeat' split) <;> first | rfl | omega)⟩) dX12_drop_21
  · have kv12 : q_V 0 0 kx4 := q_eq1 kp1.1 (q_c (k := 0) (x := 0) (by decide)) kc6 (by decide) (by decide)
    refine lv_bipush (v := (-2)) hx hb dX12_drop_7 (by decide) ?_
    exact q_reti hE hr hlocks hW (⟨((q_c (k := (-2)) (x := (-2)) (by decide)).w (by decide) (by decide)), (by have := (kp1.2.2 kc6); unfold kz_row; (repeat' split) <;> first | rfl | omega)⟩) dX12_drop_9
set_option maxHeartbeats 4000000 in
set_option maxRecDepth 100000 in
theorem c_X12_sum_tz (l : Launch) (G : q_G) (σ : q_S) (a0 : Nat) (h0 : q_T G a0 = 40) (i1 : Int32) (hz : q_fr G [] [(63, 0, 3)] σ) : Met l yX12_sum (Cond.code yX12_sum cX12_sum 5 (some .int) :: wsL_law) (q_Rm 3) (q_Pre G σ [.ref a0, .int i1]) (q_Qi G [] σ (fun r σ1 => q_V (-2147483648) 2147483647 r ∧ r = kz_row i1)) 0 0 (q_N G) := by
  refine q_ofW (ts := []) (by decide) (Nat.le_of_ble_eq_true rfl) ?_
  intro p e s m args below meth c hE hr hlocks hW ls hl
  have hE : q_E G p s m args c cX12_sum 5 RX12 := hE
  have hx := hE.1.1
  have hb := hE.1.2.1
  have hl : lv_has ls 5 [(0, .ref a0), (1, .int i1)] := hl
  refine lv_iload_n hx hb dX12_sum_0 rfl (lv_at hl 1 rfl) ?_
  refine q_goi hW (q_runS (As := [.int i1]) (rest := []) hE hW (c_X12_isRow_tx l G σ i1) kw_X12_354 rfl hl.1 rfl (Nat.le_of_ble_eq_true rfl) dX12_sum_1 ⟨by decide, by decide⟩ ⟨by decide, by decide⟩) (by decide) (fun kx4 ks2 H locs kp1 kf3 hW => ?_)
  have kz5 := (q_fr.fr (q_fr.sub (F2 := []) (A2 := [(63, 0, 3)]) hz (by decide) (by decide)) kf3 (by decide) (by decide))
  refine lv_if_ne (tgt := 10) hx hb dX12_sum_4 (by decide) (fun kc6 => ?_) (fun kc6 => ?_)
  · have kv7 : q_V 0 2 i1 := kp1.2.1 kc6
    have kv8 : q_V 1 1 kx4 := q_ne1 kp1.1 (q_c (k := 0) (x := 0) (by decide)) kc6 (by decide)
    refine lv_aload_n hx hb dX12_sum_10 rfl (lv_at hl 0 rfl) ?_
    refine q_getr hE hW h0 rfl q_k12 39 (by decide) rfl (hE.l wl_152) dX12_sum_11 (fun kb9 ekb9 hkb9a hkb9b => ?_)
    have hkb9 : q_T G kb9 = 63 := q_tag hkb9a hkb9b
    refine lv_iload_n hx hb dX12_sum_14 rfl (lv_at hl 1 rfl) ?_
    refine q_zald hE hW hkb9 rfl (q_in kv7 (by decide) (by decide)) dX12_sum_15 (fun kx10 ekx10 gkx10 => ?_)
    obtain rfl : (0 : Int32) = kx10 := (q_fr.z kz5 (t := 63) (l := 0) (u := 3) (by decide) hkb9 kv7 (by decide) (by decide) (by decide)).symm.trans ekx10
    refine lv_if_ne (tgt := 22) hx hb dX12_sum_16 (by decide) (fun kc11 => ?_) (fun kc11 => ?_)
    · exact q_neq (q_c (k := 0) (x := 0) (by decide)) (q_c (k := 0) (x := 0) (by decide)) kc11
    · refine lv_bipush (v := (-11)) hx hb dX12_sum_19 (by decide) ?_
      exact q_reti hE hr hlocks hW (⟨((q_c (k := (-11)) (x := (-11)) (by decide)).w (by decide) (by decide)), (by have := kv7.1; have := kv7.2; unfold kz_row; (repeat' split) <;> first | rfl | omega)⟩) dX12_sum_21
  · have kv12 : q_V 0 0 kx4 := q_eq1 kp1.1 (q_c (k := 0) (x := 0) (by decide)) kc6 (by decide) (by decide)
    refine lv_bipush (v := (-2)) hx hb dX12_sum_7 (by decide) ?_
    exact q_reti hE hr hlocks hW (⟨((q_c (k := (-2)) (x := (-2)) (by decide)).w (by decide) (by decide)), (by have := (kp1.2.2 kc6); unfold kz_row; (repeat' split) <;> first | rfl | omega)⟩) dX12_sum_9
set_option maxHeartbeats 4000000 in
set_option maxRecDepth 100000 in
theorem c_X12_next_tz (l : Launch) (G : q_G) (σ : q_S) (a0 : Nat) (h0 : q_T G a0 = 40) (h12 : q_I σ a0 12 = 0) (hz : q_fr G [(40, 11)] [] σ) : Met l yX12_next (Cond.code yX12_next cX12_next 2 none :: wsL_law) (q_Rm 3) (q_Pre G σ [.ref a0]) (q_Qv G [40] σ (fun σ1 => q_I σ1 a0 13 = 0 ∧ q_I σ1 a0 14 = 0)) 0 0 (q_N G) := by
  refine q_ofW (ts := [40]) (by decide) (Nat.le_of_ble_eq_true rfl) ?_
  intro p e s m args below meth c hE hr hlocks hW ls hl
  have hE : q_E G p s m args c cX12_next 2 RX12 := hE
  have hx := hE.1.1
  have hb := hE.1.2.1
  have hl : lv_has ls 2 [(0, .ref a0)] := hl
  refine lv_aload_n hx hb dX12_next_0 rfl (lv_at hl 0 rfl) ?_
  refine q_geti hE hW h0 rfl q_k12 12 (by decide) rfl (hE.l wl_351) dX12_next_1 (fun kx1 ekx1 vkx1 => ?_)
  obtain rfl : 0 = kx1 := h12.symm.trans ekx1
  refine lv_aload_n hx hb dX12_next_4 rfl (lv_at hl 0 rfl) ?_
  refine q_geti hE hW h0 rfl q_k12 11 (by decide) rfl (hE.l wl_171) dX12_next_5 (fun kx2 ekx2 vkx2 => ?_)
  obtain rfl : (0 : Int32) = kx2 := (q_fr.f hz (t := 40) (k := 11) (by decide) h0).symm.trans ekx2
  refine lv_icmp_ge (tgt := 38) hx hb dX12_next_8 (by decide) (fun kc3 => ?_) (fun kc3 => ?_)
  · refine lv_aload_n hx hb dX12_next_38 rfl (lv_at hl 0 rfl) ?_
    refine lv_aload_n hx hb dX12_next_39 rfl (lv_at hl 0 rfl) ?_
    refine q_geti hE hW h0 rfl q_k12 12 (by decide) rfl (hE.l wl_351) dX12_next_40 (fun kx4 ekx4 vkx4 => ?_)
    obtain rfl : 0 = kx4 := h12.symm.trans ekx4
    refine q_puti hE hW h0 rfl q_k12 tyX12 tyX12_ok 14 (by decide) rfl (hE.l wl_346) rfl rfl rfl ((q_c (k := 0) (x := 0) (by decide)).w (by decide) (by decide)) (by decide) dX12_next_43 (fun H locs ks5 kp6 hW => ?_)
    have kz7 := (hz.wI kp6 h0 (Or.inl (by decide)))
    refine lv_aload_n hx hb dX12_next_46 rfl (lv_at hl 0 rfl) ?_
    refine lv_aload_n hx hb dX12_next_47 rfl (lv_at hl 0 rfl) ?_
    refine q_geti hE hW h0 rfl q_k12 12 (by decide) rfl (hE.l wl_351) dX12_next_48 (fun kx8 ekx8 vkx8 => ?_)
    obtain rfl : 0 = kx8 := ((kp6.2.1 _ _ (Or.inr (by decide))).trans h12).symm.trans ekx8
    refine lv_iconst (v := 1) hx hb dX12_next_51 (by decide) ?_
    refine lv_iadd hx hb dX12_next_52 ?_
    refine lv_eqi (y := 1) (by decide) ?_
    refine q_puti hE hW h0 rfl q_k12 tyX12 tyX12_ok 15 (by decide) rfl (hE.l wl_369) rfl rfl rfl ((q_c (k := 1) (x := 1) (by decide)).w (by decide) (by decide)) (by decide) dX12_next_53 (fun H locs ks9 kp10 hW => ?_)
    have kz11 := (kz7.wI kp10 h0 (Or.inl (by decide)))
    refine lv_aload_n hx hb dX12_next_56 rfl (lv_at hl 0 rfl) ?_
    refine lv_aload_n hx hb dX12_next_57 rfl (lv_at hl 0 rfl) ?_
    refine q_geti hE hW h0 rfl q_k12 12 (by decide) rfl (hE.l wl_351) dX12_next_58 (fun kx12 ekx12 vkx12 => ?_)
    obtain rfl : 0 = kx12 := (((kp10.2.1 _ _ (Or.inr (by decide))).trans (kp6.2.1 _ _ (Or.inr (by decide)))).trans h12).symm.trans ekx12
    refine lv_aload_n hx hb dX12_next_61 rfl (lv_at hl 0 rfl) ?_
    refine q_geti hE hW h0 rfl q_k12 11 (by decide) rfl (hE.l wl_171) dX12_next_62 (fun kx13 ekx13 vkx13 => ?_)
    obtain rfl : 0 = kx13 := (((kp10.2.1 _ _ (Or.inr (by decide))).trans (kp6.2.1 _ _ (Or.inr (by decide)))).trans ekx2).symm.trans ekx13
    refine lv_icmp_ne (tgt := 72) hx hb dX12_next_65 (by decide) (fun kc14 => ?_) (fun kc14 => ?_)
    · exact q_neq (q_c (k := 0) (x := 0) (by decide)) (q_c (k := 0) (x := 0) (by decide)) kc14
    · refine lv_iconst (v := 0) hx hb dX12_next_68 (by decide) ?_
      refine lv_goto (tgt := 103) hx hb dX12_next_69 (by decide) ?_
      refine q_puti hE hW h0 rfl q_k12 tyX12 tyX12_ok 13 (by decide) rfl (hE.l wl_352) rfl rfl rfl ((q_c (k := 0) (x := 0) (by decide)).w (by decide) (by decide)) (by decide) dX12_next_103 (fun H locs ks15 kp16 hW => ?_)
      have kz17 := (kz11.wI kp16 h0 (Or.inl (by decide)))
      refine lv_aload_n hx hb dX12_next_106 rfl (lv_at hl 0 rfl) ?_
      refine q_geti hE hW h0 rfl q_k12 13 (by decide) rfl (hE.l wl_352) dX12_next_107 (fun kx18 ekx18 vkx18 => ?_)
      obtain rfl : 0 = kx18 := kp16.1.symm.trans ekx18
      refine lv_iconst (v := 1) hx hb dX12_next_110 (by decide) ?_
      refine lv_icmp_ne (tgt := 125) hx hb dX12_next_111 (by decide) (fun kc19 => ?_) (fun kc19 => ?_)
      · refine lv_aload_n hx hb dX12_next_125 rfl (lv_at hl 0 rfl) ?_
        refine q_geti hE hW h0 rfl q_k12 13 (by decide) rfl (hE.l wl_352) dX12_next_126 (fun kx20 ekx20 vkx20 => ?_)
        obtain rfl : 0 = kx20 := kp16.1.symm.trans ekx20
        refine lv_iconst (v := 2) hx hb dX12_next_129 (by decide) ?_
        refine lv_icmp_ne (tgt := 157) hx hb dX12_next_130 (by decide) (fun kc21 => ?_) (fun kc21 => ?_)
        · refine lv_aload_n hx hb dX12_next_157 rfl (lv_at hl 0 rfl) ?_
          refine lv_iconst (v := 0) hx hb dX12_next_158 (by decide) ?_
          refine q_puti hE hW h0 rfl q_k12 tyX12 tyX12_ok 16 (by decide) rfl (hE.l wl_370) rfl rfl rfl ((q_c (k := 0) (x := 0) (by decide)).w (by decide) (by decide)) (by decide) dX12_next_159 (fun H locs ks22 kp23 hW => ?_)
          have kz24 := (kz17.wI kp23 h0 (Or.inl (by decide)))
          refine lv_aload_n hx hb dX12_next_162 rfl (lv_at hl 0 rfl) ?_
          refine q_geti hE hW h0 rfl q_k12 14 (by decide) rfl (hE.l wl_346) dX12_next_163 (fun kx25 ekx25 vkx25 => ?_)
          obtain rfl : 0 = kx25 := ((((kp23.2.1 _ _ (Or.inr (by decide))).trans (kp16.2.1 _ _ (Or.inr (by decide)))).trans (kp10.2.1 _ _ (Or.inr (by decide)))).trans kp6.1).symm.trans ekx25
          refine lv_istore_n (lv' := [(1, .int 0), (0, .ref a0)]) hx hb dX12_next_166 rfl hl (by decide) rfl (fun ls hl => ?_)
          refine lv_iload_n hx hb dX12_next_167 rfl (lv_at hl 0 rfl) ?_
          refine lv_aload_n hx hb dX12_next_168 rfl (lv_at hl 1 rfl) ?_
          refine q_geti hE hW h0 rfl q_k12 15 (by decide) rfl (hE.l wl_369) dX12_next_169 (fun kx26 ekx26 vkx26 => ?_)
          obtain rfl : 1 = kx26 := (((kp23.2.1 _ _ (Or.inr (by decide))).trans (kp16.2.1 _ _ (Or.inr (by decide)))).trans kp10.1).symm.trans ekx26
          refine lv_icmp_ge (tgt := 229) hx hb dX12_next_172 (by decide) (fun kc27 => ?_) (fun kc27 => ?_)
          · have kv28 : q_V 1 0 1 := (q_le1 (q_c (k := 1) (x := 1) (by decide)) (q_c (k := 0) (x := 0) (by decide)) kc27).w (by decide) (by decide)
            exact (kv28.no (by decide))
          · refine lv_aload_n hx hb dX12_next_175 rfl (lv_at hl 1 rfl) ?_
            refine q_geti hE hW h0 rfl q_k12 13 (by decide) rfl (hE.l wl_352) dX12_next_176 (fun kx29 ekx29 vkx29 => ?_)
            obtain rfl : 0 = kx29 := ((kp23.2.1 _ _ (Or.inr (by decide))).trans kp16.1).symm.trans ekx29
            refine lv_iconst (v := 2) hx hb dX12_next_179 (by decide) ?_
            refine lv_icmp_ne (tgt := 229) hx hb dX12_next_180 (by decide) (fun kc30 => ?_) (fun kc30 => ?_)
            · refine lv_aload_n hx hb dX12_next_229 rfl (lv_at hl 1 rfl) ?_
              refine lv_aload_n hx hb dX12_next_230 rfl (lv_at hl 1 rfl) ?_
              refine q_geti hE hW h0 rfl q_k12 13 (by decide) rfl (hE.l wl_352) dX12_next_231 (fun kx31 ekx31 vkx31 => ?_)
              obtain rfl : 0 = kx31 := ((kp23.2.1 _ _ (Or.inr (by decide))).trans kp16.1).symm.trans ekx31
              refine lv_if_ne (tgt := 244) hx hb dX12_next_234 (by decide) (fun kc32 => ?_) (fun kc32 => ?_)
              · exact q_neq (q_c (k := 0) (x := 0) (by decide)) (q_c (k := 0) (x := 0) (by decide)) kc32
              · refine lv_aload_n hx hb dX12_next_237 rfl (lv_at hl 1 rfl) ?_
                refine q_geti hE hW h0 rfl q_k12 12 (by decide) rfl (hE.l wl_351) dX12_next_238 (fun kx33 ekx33 vkx33 => ?_)
                obtain rfl : 0 = kx33 := (((((kp23.2.1 _ _ (Or.inr (by decide))).trans (kp16.2.1 _ _ (Or.inr (by decide)))).trans (kp10.2.1 _ _ (Or.inr (by decide)))).trans (kp6.2.1 _ _ (Or.inr (by decide)))).trans h12).symm.trans ekx33
                refine lv_goto (tgt := 248) hx hb dX12_next_241 (by decide) ?_
                refine q_puti hE hW h0 rfl q_k12 tyX12 tyX12_ok 12 (by decide) rfl (hE.l wl_351) rfl rfl rfl ((q_c (k := 0) (x := 0) (by decide)).w (by decide) (by decide)) (by decide) dX12_next_248 (fun H locs ks34 kp35 hW => ?_)
                have kz36 := (kz24.wI kp35 h0 (Or.inl (by decide)))
                exact q_retv hE hr hlocks hW (⟨(((kp35.2.1 _ _ (Or.inr (by decide))).trans (kp23.2.1 _ _ (Or.inr (by decide)))).trans kp16.1), (((((kp35.2.1 _ _ (Or.inr (by decide))).trans (kp23.2.1 _ _ (Or.inr (by decide)))).trans (kp16.2.1 _ _ (Or.inr (by decide)))).trans (kp10.2.1 _ _ (Or.inr (by decide)))).trans kp6.1)⟩) dX12_next_251
            · have kv37 : q_V 2 0 0 := q_eq1 (q_c (k := 0) (x := 0) (by decide)) (q_c (k := 2) (x := 2) (by decide)) kc30 (by decide) (by decide)
              exact (kv37.no (by decide))
        · have kv38 : q_V 2 0 0 := q_eq1 (q_c (k := 0) (x := 0) (by decide)) (q_c (k := 2) (x := 2) (by decide)) kc21 (by decide) (by decide)
          exact (kv38.no (by decide))
      · have kv39 : q_V 1 0 0 := q_eq1 (q_c (k := 0) (x := 0) (by decide)) (q_c (k := 1) (x := 1) (by decide)) kc19 (by decide) (by decide)
        exact (kv39.no (by decide))
  · have kv40 : q_V 0 (-1) 0 := (q_lt1 (q_c (k := 0) (x := 0) (by decide)) (q_c (k := 0) (x := 0) (by decide)) (Int32.not_le.mp kc3)).w (by decide) (by decide)
    exact (kv40.no (by decide))
set_option maxHeartbeats 4000000 in
set_option maxRecDepth 100000 in
theorem c_X12_readAsTold_tz (l : Launch) (G : q_G) (σ : q_S) (a0 : Nat) (h0 : q_T G a0 = 40) (hz : q_fr G [(40, 11)] [] σ) : Met l yX12_readAsTold (Cond.code yX12_readAsTold cX12_readAsTold 2 none :: wsL_law) (q_Rm 1) (q_Pre G σ [.ref a0]) (q_Qv G [40, 48, 49, 50, 51, 52] σ (fun σ1 => q_fr G [(40, 11)] [] σ1)) 0 0 (q_N G) := by
  refine q_ofW (ts := [40, 48, 49, 50, 51, 52]) (by decide) (Nat.le_of_ble_eq_true rfl) ?_
  intro p e s m args below meth c hE hr hlocks hW ls hl
  have hE : q_E G p s m args c cX12_readAsTold 2 RX12 := hE
  have hx := hE.1.1
  have hb := hE.1.2.1
  have hl : lv_has ls 2 [(0, .ref a0)] := hl
  have lp115a : ∀ (n115a : Nat) (ks2 : q_S) (H : Heap) (locs : List Loc) (kx1 : Int32) (vkx1 : q_V 0 3 kx1) (hW : q_Wd G [40, 48, 49, 50, 51, 52] σ s.heap ks2 H locs) (hz115a : q_fr G [(40, 11)] [] ks2) (ls : Array Slot) (hl : lv_has ls 2 [(0, .ref a0), (1, .int kx1)]), (3 - kx1.toInt).toNat < n115a → W p l e (q_Rm 1) s m args below meth c H locs 0 0 (MQ below (q_Qv G [40, 48, 49, 50, 51, 52] σ (fun σ1 => q_fr G [(40, 11)] [] σ1)) args s 0 0 (q_N G)) (F0 m 115 ls []) := by
    intro n115a
    induction n115a with
    | zero => intro _ _ _ _ _ _ _ _ _; exact fun h => absurd h (Nat.not_lt_zero _)
    | succ n115a ih115a =>
      intro ks2 H locs kx1 vkx1 hW hz115a ls hl hm115a
      refine lv_iload_n hx hb dX12_readAsTold_115 rfl (lv_at hl 1 rfl) ?_
      refine lv_iconst (v := 3) hx hb dX12_readAsTold_116 (by decide) ?_
      refine lv_icmp_ge (tgt := 138) hx hb dX12_readAsTold_117 (by decide) (fun kc3 => ?_) (fun kc3 => ?_)
      · have kv4 : q_V 3 3 kx1 := (q_le2 (q_c (k := 3) (x := 3) (by decide)) vkx1 kc3).w (by decide) (by decide)
        exact q_retv hE hr hlocks hW ((q_fr.sub hz115a (by decide) (by decide))) dX12_readAsTold_138
      · have kv5 : q_V 0 2 kx1 := (q_lt1 vkx1 (q_c (k := 3) (x := 3) (by decide)) (Int32.not_le.mp kc3)).w (by decide) (by decide)
        refine lv_aload_n hx hb dX12_readAsTold_120 rfl (lv_at hl 0 rfl) ?_
        refine q_getr hE hW h0 rfl q_k12 23 (by decide) rfl (hE.l wl_141) dX12_readAsTold_121 (fun kb6 ekb6 hkb6a hkb6b => ?_)
        have hkb6 : q_T G kb6 = 52 := q_tag hkb6a hkb6b
        refine lv_iload_n hx hb dX12_readAsTold_124 rfl (lv_at hl 1 rfl) ?_
        refine lv_aload_n hx hb dX12_readAsTold_125 rfl (lv_at hl 0 rfl) ?_
        refine q_getr hE hW h0 rfl q_k12 6 (by decide) rfl (hE.l wl_133) dX12_readAsTold_126 (fun kb7 ekb7 hkb7a hkb7b => ?_)
        have hkb7 : q_T G kb7 = 45 := q_tag hkb7a hkb7b
        refine lv_iload_n hx hb dX12_readAsTold_129 rfl (lv_at hl 1 rfl) ?_
        refine q_iald hE hW hkb7 rfl (q_in kv5 (by decide) (by decide)) dX12_readAsTold_130 (fun kx8 ekx8 gkx8 => ?_)
        refine q_iast hE hW hkb6 rfl (q_in kv5 (by decide) (by decide)) trivial (by decide) dX12_readAsTold_131 (fun H locs ks9 kp10 hW => ?_)
        have kz11 := (q_fr.wAi (q_fr.sub (F2 := [(40, 11)]) (A2 := []) hz115a (by decide) (by decide)) kp10 hkb6 kv5 (by decide) (by decide))
        obtain ⟨kx12, ekx12⟩ : ∃ y : Int32, y = kx1 + 1 := ⟨_, rfl⟩
        have vkx12 : q_V 1 3 kx12 := by rw [ekx12]; exact (q_add kv5 (q_c (k := 1) (x := 1) (by decide)) (by decide) (by decide)).w (by decide) (by decide)
        have ikx12 : kx12.toInt = kx1.toInt + 1 := q_incT ekx12 kv5 (by decide) (by decide) (by decide)
        refine lv_iinc (v := kx12) (lv' := [(1, .int kx12), (0, .ref a0)]) hx hb dX12_readAsTold_132 hl (k := 1) rfl (by rw [ekx12]; rfl) (by decide) rfl (fun ls hl => ?_)
        refine lv_goto (tgt := 115) hx hb dX12_readAsTold_135 (by decide) ?_
        exact ih115a _ _ _ kx12 (vkx12.w (by decide) (by decide)) hW (q_fr.sub kz11 (by decide) (by decide)) ls (lv_sub hl [1, 0] rfl) (Nat.lt_of_lt_of_le (q_up (ikx12) (show q_V 1 3 kx12 from vkx12).2) (Nat.le_of_lt_succ hm115a))
  have lp89a : ∀ (n89a : Nat) (ks14 : q_S) (H : Heap) (locs : List Loc) (kx13 : Int32) (vkx13 : q_V 0 36 kx13) (hW : q_Wd G [40, 48, 49, 50, 51, 52] σ s.heap ks14 H locs) (hz89a : q_fr G [(40, 11)] [] ks14) (ls : Array Slot) (hl : lv_has ls 2 [(0, .ref a0), (1, .int kx13)]), (36 - kx13.toInt).toNat < n89a → W p l e (q_Rm 1) s m args below meth c H locs 0 0 (MQ below (q_Qv G [40, 48, 49, 50, 51, 52] σ (fun σ1 => q_fr G [(40, 11)] [] σ1)) args s 0 0 (q_N G)) (F0 m 89 ls []) := by
    intro n89a
    induction n89a with
    | zero => intro _ _ _ _ _ _ _ _ _; exact fun h => absurd h (Nat.not_lt_zero _)
    | succ n89a ih89a =>
      intro ks14 H locs kx13 vkx13 hW hz89a ls hl hm89a
      refine lv_iload_n hx hb dX12_readAsTold_89 rfl (lv_at hl 1 rfl) ?_
      refine lv_bipush (v := 36) hx hb dX12_readAsTold_90 (by decide) ?_
      refine lv_icmp_ge (tgt := 113) hx hb dX12_readAsTold_92 (by decide) (fun kc15 => ?_) (fun kc15 => ?_)
      · have kv16 : q_V 36 36 kx13 := (q_le2 (q_c (k := 36) (x := 36) (by decide)) vkx13 kc15).w (by decide) (by decide)
        refine lv_iconst (v := 0) hx hb dX12_readAsTold_113 (by decide) ?_
        refine lv_istore_n (lv' := [(1, .int 0), (0, .ref a0)]) hx hb dX12_readAsTold_114 rfl hl (by decide) rfl (fun ls hl => ?_)
        exact lp115a _ _ _ _ 0 ((q_c (k := 0) (x := 0) (by decide)).w (by decide) (by decide)) hW (q_fr.sub hz89a (by decide) (by decide)) ls (lv_sub hl [1, 0] rfl) (Nat.lt_succ_self _)
      · have kv17 : q_V 0 35 kx13 := (q_lt1 vkx13 (q_c (k := 36) (x := 36) (by decide)) (Int32.not_le.mp kc15)).w (by decide) (by decide)
        refine lv_aload_n hx hb dX12_readAsTold_95 rfl (lv_at hl 0 rfl) ?_
        refine q_getr hE hW h0 rfl q_k12 21 (by decide) rfl (hE.l wl_140) dX12_readAsTold_96 (fun kb18 ekb18 hkb18a hkb18b => ?_)
        have hkb18 : q_T G kb18 = 51 := q_tag hkb18a hkb18b
        refine lv_iload_n hx hb dX12_readAsTold_99 rfl (lv_at hl 1 rfl) ?_
        refine lv_aload_n hx hb dX12_readAsTold_100 rfl (lv_at hl 0 rfl) ?_
        refine q_getr hE hW h0 rfl q_k12 4 (by decide) rfl (hE.l wl_132) dX12_readAsTold_101 (fun kb19 ekb19 hkb19a hkb19b => ?_)
        have hkb19 : q_T G kb19 = 44 := q_tag hkb19a hkb19b
        refine lv_iload_n hx hb dX12_readAsTold_104 rfl (lv_at hl 1 rfl) ?_
        refine q_iald hE hW hkb19 rfl (q_in kv17 (by decide) (by decide)) dX12_readAsTold_105 (fun kx20 ekx20 gkx20 => ?_)
        refine q_iast hE hW hkb18 rfl (q_in kv17 (by decide) (by decide)) trivial (by decide) dX12_readAsTold_106 (fun H locs ks21 kp22 hW => ?_)
        have kz23 := (q_fr.wAi (q_fr.sub (F2 := [(40, 11)]) (A2 := []) hz89a (by decide) (by decide)) kp22 hkb18 kv17 (by decide) (by decide))
        obtain ⟨kx24, ekx24⟩ : ∃ y : Int32, y = kx13 + 1 := ⟨_, rfl⟩
        have vkx24 : q_V 1 36 kx24 := by rw [ekx24]; exact (q_add kv17 (q_c (k := 1) (x := 1) (by decide)) (by decide) (by decide)).w (by decide) (by decide)
        have ikx24 : kx24.toInt = kx13.toInt + 1 := q_incT ekx24 kv17 (by decide) (by decide) (by decide)
        refine lv_iinc (v := kx24) (lv' := [(1, .int kx24), (0, .ref a0)]) hx hb dX12_readAsTold_107 hl (k := 1) rfl (by rw [ekx24]; rfl) (by decide) rfl (fun ls hl => ?_)
        refine lv_goto (tgt := 89) hx hb dX12_readAsTold_110 (by decide) ?_
        exact ih89a _ _ _ kx24 (vkx24.w (by decide) (by decide)) hW (q_fr.sub kz23 (by decide) (by decide)) ls (lv_sub hl [1, 0] rfl) (Nat.lt_of_lt_of_le (q_up (ikx24) (show q_V 1 36 kx24 from vkx24).2) (Nat.le_of_lt_succ hm89a))
  have lp39a : ∀ (n39a : Nat) (ks26 : q_S) (H : Heap) (locs : List Loc) (kx25 : Int32) (vkx25 : q_V 0 6 kx25) (hW : q_Wd G [40, 48, 49, 50, 51, 52] σ s.heap ks26 H locs) (hz39a : q_fr G [(40, 11)] [] ks26) (ls : Array Slot) (hl : lv_has ls 2 [(0, .ref a0), (1, .int kx25)]), (6 - kx25.toInt).toNat < n39a → W p l e (q_Rm 1) s m args below meth c H locs 0 0 (MQ below (q_Qv G [40, 48, 49, 50, 51, 52] σ (fun σ1 => q_fr G [(40, 11)] [] σ1)) args s 0 0 (q_N G)) (F0 m 39 ls []) := by
    intro n39a
    induction n39a with
    | zero => intro _ _ _ _ _ _ _ _ _; exact fun h => absurd h (Nat.not_lt_zero _)
    | succ n39a ih39a =>
      intro ks26 H locs kx25 vkx25 hW hz39a ls hl hm39a
      refine lv_iload_n hx hb dX12_readAsTold_39 rfl (lv_at hl 1 rfl) ?_
      refine lv_bipush (v := 6) hx hb dX12_readAsTold_40 (by decide) ?_
      refine lv_icmp_ge (tgt := 87) hx hb dX12_readAsTold_42 (by decide) (fun kc27 => ?_) (fun kc27 => ?_)
      · have kv28 : q_V 6 6 kx25 := (q_le2 (q_c (k := 6) (x := 6) (by decide)) vkx25 kc27).w (by decide) (by decide)
        refine lv_iconst (v := 0) hx hb dX12_readAsTold_87 (by decide) ?_
        refine lv_istore_n (lv' := [(1, .int 0), (0, .ref a0)]) hx hb dX12_readAsTold_88 rfl hl (by decide) rfl (fun ls hl => ?_)
        exact lp89a _ _ _ _ 0 ((q_c (k := 0) (x := 0) (by decide)).w (by decide) (by decide)) hW (q_fr.sub hz39a (by decide) (by decide)) ls (lv_sub hl [1, 0] rfl) (Nat.lt_succ_self _)
      · have kv29 : q_V 0 5 kx25 := (q_lt1 vkx25 (q_c (k := 6) (x := 6) (by decide)) (Int32.not_le.mp kc27)).w (by decide) (by decide)
        refine lv_aload_n hx hb dX12_readAsTold_45 rfl (lv_at hl 0 rfl) ?_
        refine q_getr hE hW h0 rfl q_k12 18 (by decide) rfl (hE.l wl_137) dX12_readAsTold_46 (fun kb30 ekb30 hkb30a hkb30b => ?_)
        have hkb30 : q_T G kb30 = 48 := q_tag hkb30a hkb30b
        refine lv_iload_n hx hb dX12_readAsTold_49 rfl (lv_at hl 1 rfl) ?_
        refine lv_aload_n hx hb dX12_readAsTold_50 rfl (lv_at hl 0 rfl) ?_
        refine q_getr hE hW h0 rfl q_k12 1 (by decide) rfl (hE.l wl_129) dX12_readAsTold_51 (fun kb31 ekb31 hkb31a hkb31b => ?_)
        have hkb31 : q_T G kb31 = 41 := q_tag hkb31a hkb31b
        refine lv_iload_n hx hb dX12_readAsTold_54 rfl (lv_at hl 1 rfl) ?_
        refine q_iald hE hW hkb31 rfl (q_in kv29 (by decide) (by decide)) dX12_readAsTold_55 (fun kx32 ekx32 gkx32 => ?_)
        refine q_iast hE hW hkb30 rfl (q_in kv29 (by decide) (by decide)) trivial (by decide) dX12_readAsTold_56 (fun H locs ks33 kp34 hW => ?_)
        have kz35 := (q_fr.wAi (q_fr.sub (F2 := [(40, 11)]) (A2 := []) hz39a (by decide) (by decide)) kp34 hkb30 kv29 (by decide) (by decide))
        refine lv_aload_n hx hb dX12_readAsTold_57 rfl (lv_at hl 0 rfl) ?_
        refine q_getr hE hW h0 rfl q_k12 19 (by decide) rfl (hE.l wl_138) dX12_readAsTold_58 (fun kb36 ekb36 hkb36a hkb36b => ?_)
        have hkb36 : q_T G kb36 = 49 := q_tag hkb36a hkb36b
        refine lv_iload_n hx hb dX12_readAsTold_61 rfl (lv_at hl 1 rfl) ?_
        refine lv_aload_n hx hb dX12_readAsTold_62 rfl (lv_at hl 0 rfl) ?_
        refine q_getr hE hW h0 rfl q_k12 2 (by decide) rfl (hE.l wl_130) dX12_readAsTold_63 (fun kb37 ekb37 hkb37a hkb37b => ?_)
        have hkb37 : q_T G kb37 = 42 := q_tag hkb37a hkb37b
        refine lv_iload_n hx hb dX12_readAsTold_66 rfl (lv_at hl 1 rfl) ?_
        refine q_iald hE hW hkb37 rfl (q_in kv29 (by decide) (by decide)) dX12_readAsTold_67 (fun kx38 ekx38 gkx38 => ?_)
        refine q_iast hE hW hkb36 rfl (q_in kv29 (by decide) (by decide)) trivial (by decide) dX12_readAsTold_68 (fun H locs ks39 kp40 hW => ?_)
        have kz41 := (q_fr.wAi (q_fr.sub (F2 := [(40, 11)]) (A2 := []) kz35 (by decide) (by decide)) kp40 hkb36 kv29 (by decide) (by decide))
        refine lv_aload_n hx hb dX12_readAsTold_69 rfl (lv_at hl 0 rfl) ?_
        refine q_getr hE hW h0 rfl q_k12 20 (by decide) rfl (hE.l wl_139) dX12_readAsTold_70 (fun kb42 ekb42 hkb42a hkb42b => ?_)
        have hkb42 : q_T G kb42 = 50 := q_tag hkb42a hkb42b
        refine lv_iload_n hx hb dX12_readAsTold_73 rfl (lv_at hl 1 rfl) ?_
        refine lv_aload_n hx hb dX12_readAsTold_74 rfl (lv_at hl 0 rfl) ?_
        refine q_getr hE hW h0 rfl q_k12 3 (by decide) rfl (hE.l wl_131) dX12_readAsTold_75 (fun kb43 ekb43 hkb43a hkb43b => ?_)
        have hkb43 : q_T G kb43 = 43 := q_tag hkb43a hkb43b
        refine lv_iload_n hx hb dX12_readAsTold_78 rfl (lv_at hl 1 rfl) ?_
        refine q_iald hE hW hkb43 rfl (q_in kv29 (by decide) (by decide)) dX12_readAsTold_79 (fun kx44 ekx44 gkx44 => ?_)
        refine q_iast hE hW hkb42 rfl (q_in kv29 (by decide) (by decide)) trivial (by decide) dX12_readAsTold_80 (fun H locs ks45 kp46 hW => ?_)
        have kz47 := (q_fr.wAi (q_fr.sub (F2 := [(40, 11)]) (A2 := []) kz41 (by decide) (by decide)) kp46 hkb42 kv29 (by decide) (by decide))
        obtain ⟨kx48, ekx48⟩ : ∃ y : Int32, y = kx25 + 1 := ⟨_, rfl⟩
        have vkx48 : q_V 1 6 kx48 := by rw [ekx48]; exact (q_add kv29 (q_c (k := 1) (x := 1) (by decide)) (by decide) (by decide)).w (by decide) (by decide)
        have ikx48 : kx48.toInt = kx25.toInt + 1 := q_incT ekx48 kv29 (by decide) (by decide) (by decide)
        refine lv_iinc (v := kx48) (lv' := [(1, .int kx48), (0, .ref a0)]) hx hb dX12_readAsTold_81 hl (k := 1) rfl (by rw [ekx48]; rfl) (by decide) rfl (fun ls hl => ?_)
        refine lv_goto (tgt := 39) hx hb dX12_readAsTold_84 (by decide) ?_
        exact ih39a _ _ _ kx48 (vkx48.w (by decide) (by decide)) hW (q_fr.sub kz47 (by decide) (by decide)) ls (lv_sub hl [1, 0] rfl) (Nat.lt_of_lt_of_le (q_up (ikx48) (show q_V 1 6 kx48 from vkx48).2) (Nat.le_of_lt_succ hm39a))
  refine lv_aload_n hx hb dX12_readAsTold_0 rfl (lv_at hl 0 rfl) ?_
  refine lv_aload_n hx hb dX12_readAsTold_1 rfl (lv_at hl 0 rfl) ?_
  refine q_geti hE hW h0 rfl q_k12 0 (by decide) rfl (hE.l wl_358) dX12_readAsTold_2 (fun kx49 ekx49 vkx49 => ?_)
  refine q_puti hE hW h0 rfl q_k12 tyX12 tyX12_ok 17 (by decide) rfl (hE.l wl_359) rfl rfl rfl vkx49 (by decide) dX12_readAsTold_5 (fun H locs ks50 kp51 hW => ?_)
  have kz52 := (hz.wI kp51 h0 (Or.inl (by decide)))
  refine lv_aload_n hx hb dX12_readAsTold_8 rfl (lv_at hl 0 rfl) ?_
  refine lv_aload_n hx hb dX12_readAsTold_9 rfl (lv_at hl 0 rfl) ?_
  refine q_geti hE hW h0 rfl q_k12 5 (by decide) rfl (hE.l wl_360) dX12_readAsTold_10 (fun kx53 ekx53 vkx53 => ?_)
  refine q_puti hE hW h0 rfl q_k12 tyX12 tyX12_ok 22 (by decide) rfl (hE.l wl_361) rfl rfl rfl vkx53 (by decide) dX12_readAsTold_13 (fun H locs ks54 kp55 hW => ?_)
  have kz56 := (kz52.wI kp55 h0 (Or.inl (by decide)))
  refine lv_aload_n hx hb dX12_readAsTold_16 rfl (lv_at hl 0 rfl) ?_
  refine lv_aload_n hx hb dX12_readAsTold_17 rfl (lv_at hl 0 rfl) ?_
  refine q_geti hE hW h0 rfl q_k12 7 (by decide) rfl (hE.l wl_362) dX12_readAsTold_18 (fun kx57 ekx57 vkx57 => ?_)
  refine q_puti hE hW h0 rfl q_k12 tyX12 tyX12_ok 24 (by decide) rfl (hE.l wl_363) rfl rfl rfl (q_all kx57) (by decide) dX12_readAsTold_21 (fun H locs ks58 kp59 hW => ?_)
  have kz60 := (kz56.wI kp59 h0 (Or.inl (by decide)))
  refine lv_aload_n hx hb dX12_readAsTold_24 rfl (lv_at hl 0 rfl) ?_
  refine lv_aload_n hx hb dX12_readAsTold_25 rfl (lv_at hl 0 rfl) ?_
  refine q_geti hE hW h0 rfl q_k12 8 (by decide) rfl (hE.l wl_134) dX12_readAsTold_26 (fun kx61 ekx61 vkx61 => ?_)
  refine q_puti hE hW h0 rfl q_k12 tyX12 tyX12_ok 25 (by decide) rfl (hE.l wl_364) rfl rfl rfl (q_all kx61) (by decide) dX12_readAsTold_29 (fun H locs ks62 kp63 hW => ?_)
  have kz64 := (kz60.wI kp63 h0 (Or.inl (by decide)))
  refine lv_aload_n hx hb dX12_readAsTold_32 rfl (lv_at hl 0 rfl) ?_
  refine lv_iconst (v := 0) hx hb dX12_readAsTold_33 (by decide) ?_
  refine q_puti hE hW h0 rfl q_k12 tyX12 tyX12_ok 26 (by decide) rfl (hE.l wl_353) rfl rfl rfl ((q_c (k := 0) (x := 0) (by decide)).w (by decide) (by decide)) (by decide) dX12_readAsTold_34 (fun H locs ks65 kp66 hW => ?_)
  have kz67 := (kz64.wI kp66 h0 (Or.inl (by decide)))
  refine lv_iconst (v := 0) hx hb dX12_readAsTold_37 (by decide) ?_
  refine lv_istore_n (lv' := [(1, .int 0), (0, .ref a0)]) hx hb dX12_readAsTold_38 rfl hl (by decide) rfl (fun ls hl => ?_)
  exact lp39a _ _ _ _ 0 ((q_c (k := 0) (x := 0) (by decide)).w (by decide) (by decide)) hW (q_fr.sub kz67 (by decide) (by decide)) ls (lv_sub hl [1, 0] rfl) (Nat.lt_succ_self _)
set_option maxHeartbeats 4000000 in
set_option maxRecDepth 100000 in
theorem c_X12_washedBy_tz (l : Launch) (G : q_G) (σ : q_S) (a0 : Nat) (h0 : q_T G a0 = 40) (i1 : Int32) (hz : q_fr G [(40, 0), (40, 5)] [] σ) : Met l yX12_washedBy (Cond.code yX12_washedBy cX12_washedBy 5 (some .int) :: wsL_law) (q_Rm 4) (q_Pre G σ [.ref a0, .int i1]) (q_Qi G [] σ (fun r σ1 => q_V 0 0 r)) 0 0 (q_N G) := by
  refine q_ofW (ts := []) (by decide) (Nat.le_of_ble_eq_true rfl) ?_
  intro p e s m args below meth c hE hr hlocks hW ls hl
  have hE : q_E G p s m args c cX12_washedBy 5 RX12 := hE
  have hx := hE.1.1
  have hb := hE.1.2.1
  have hl : lv_has ls 5 [(0, .ref a0), (1, .int i1)] := hl
  refine lv_iconst (v := 0) hx hb dX12_washedBy_0 (by decide) ?_
  refine lv_istore_n (lv' := [(2, .int 0), (0, .ref a0), (1, .int i1)]) hx hb dX12_washedBy_1 rfl hl (by decide) rfl (fun ls hl => ?_)
  refine lv_iconst (v := 0) hx hb dX12_washedBy_2 (by decide) ?_
  refine lv_istore_n (lv' := [(3, .int 0), (2, .int 0), (0, .ref a0), (1, .int i1)]) hx hb dX12_washedBy_3 rfl hl (by decide) rfl (fun ls hl => ?_)
  refine lv_iload_n hx hb dX12_washedBy_4 rfl (lv_at hl 0 rfl) ?_
  refine lv_aload_n hx hb dX12_washedBy_5 rfl (lv_at hl 2 rfl) ?_
  refine q_geti hE hW h0 rfl q_k12 0 (by decide) rfl (hE.l wl_358) dX12_washedBy_6 (fun kx1 ekx1 vkx1 => ?_)
  obtain rfl : (0 : Int32) = kx1 := (q_fr.f hz (t := 40) (k := 0) (by decide) h0).symm.trans ekx1
  refine lv_icmp_ge (tgt := 70) hx hb dX12_washedBy_9 (by decide) (fun kc2 => ?_) (fun kc2 => ?_)
  · refine lv_iconst (v := 0) hx hb dX12_washedBy_70 (by decide) ?_
    refine lv_istore_n (lv' := [(3, .int 0), (2, .int 0), (0, .ref a0), (1, .int i1)]) hx hb dX12_washedBy_71 rfl hl (by decide) rfl (fun ls hl => ?_)
    refine lv_iload_n hx hb dX12_washedBy_72 rfl (lv_at hl 0 rfl) ?_
    refine lv_aload_n hx hb dX12_washedBy_73 rfl (lv_at hl 2 rfl) ?_
    refine q_geti hE hW h0 rfl q_k12 5 (by decide) rfl (hE.l wl_360) dX12_washedBy_74 (fun kx3 ekx3 vkx3 => ?_)
    obtain rfl : (0 : Int32) = kx3 := (q_fr.f hz (t := 40) (k := 5) (by decide) h0).symm.trans ekx3
    refine lv_icmp_ge (tgt := 97) hx hb dX12_washedBy_77 (by decide) (fun kc4 => ?_) (fun kc4 => ?_)
    · refine lv_iload_n hx hb dX12_washedBy_97 rfl (lv_at hl 1 rfl) ?_
      exact q_reti hE hr hlocks hW ((q_c (k := 0) (x := 0) (by decide))) dX12_washedBy_98
    · have kv5 : q_V 0 (-1) 0 := (q_lt1 (q_c (k := 0) (x := 0) (by decide)) (q_c (k := 0) (x := 0) (by decide)) (Int32.not_le.mp kc4)).w (by decide) (by decide)
      exact (kv5.no (by decide))
  · have kv6 : q_V 0 (-1) 0 := (q_lt1 (q_c (k := 0) (x := 0) (by decide)) (q_c (k := 0) (x := 0) (by decide)) (Int32.not_le.mp kc2)).w (by decide) (by decide)
    exact (kv6.no (by decide))
set_option maxHeartbeats 4000000 in
set_option maxRecDepth 100000 in
theorem c_X12_cloud_tz (l : Launch) (G : q_G) (σ : q_S) (a0 : Nat) (h0 : q_T G a0 = 40) (i1 : Int32) (i2 : Int32) (hz : q_fr G [(40, 0)] [] σ) : Met l yX12_cloud (Cond.code yX12_cloud cX12_cloud 3 (some .int) :: wsL_law) (q_Rm 3) (q_Pre G σ [.ref a0, .int i1, .int i2]) (q_Qi G [] σ (fun r σ1 => q_V (-2) (-2) r)) 0 0 (q_N G) := by
  refine q_ofW (ts := []) (by decide) (Nat.le_of_ble_eq_true rfl) ?_
  intro p e s m args below meth c hE hr hlocks hW ls hl
  have hE : q_E G p s m args c cX12_cloud 3 RX12 := hE
  have hx := hE.1.1
  have hb := hE.1.2.1
  have hl : lv_has ls 3 [(0, .ref a0), (1, .int i1), (2, .int i2)] := hl
  refine lv_aload_n hx hb dX12_cloud_0 rfl (lv_at hl 0 rfl) ?_
  refine lv_iload_n hx hb dX12_cloud_1 rfl (lv_at hl 1 rfl) ?_
  refine q_goi hW (q_runV (As := [.int i1]) (rest := []) hE hW (c_X12_isCloud_tz l G σ a0 h0 i1 (q_fr.sub hz (by decide) (by decide))) kw_X12_233 (q_recv hE hW h0 rfl q_k12) rfl hl.1 rfl (Nat.le_of_ble_eq_true rfl) dX12_cloud_2 ⟨by decide, by decide⟩ ⟨by decide, by decide⟩) (by decide) (fun kx4 ks2 H locs kp1 kf3 hW => ?_)
  have kz5 := (q_fr.fr (q_fr.sub (F2 := [(40, 0)]) (A2 := []) hz (by decide) (by decide)) kf3 (by decide) (by decide))
  obtain rfl : (0 : Int32) = kx4 := (q_lit kp1 (by decide)).symm
  refine lv_if_ne (tgt := 11) hx hb dX12_cloud_5 (by decide) (fun kc6 => ?_) (fun kc6 => ?_)
  · exact q_neq (q_c (k := 0) (x := 0) (by decide)) (q_c (k := 0) (x := 0) (by decide)) kc6
  · refine lv_bipush (v := (-2)) hx hb dX12_cloud_8 (by decide) ?_
    exact q_reti hE hr hlocks hW ((q_c (k := (-2)) (x := (-2)) (by decide))) dX12_cloud_10
set_option maxHeartbeats 4000000 in
set_option maxRecDepth 100000 in
theorem c_X12_deep_tz (l : Launch) (G : q_G) (σ : q_S) (a0 : Nat) (h0 : q_T G a0 = 40) (i1 : Int32) (i2 : Int32) (hz : q_fr G [(40, 0)] [] σ) : Met l yX12_deep (Cond.code yX12_deep cX12_deep 3 (some .int) :: wsL_law) (q_Rm 3) (q_Pre G σ [.ref a0, .int i1, .int i2]) (q_Qi G [] σ (fun r σ1 => q_V (-2) (-2) r)) 0 0 (q_N G) := by
  refine q_ofW (ts := []) (by decide) (Nat.le_of_ble_eq_true rfl) ?_
  intro p e s m args below meth c hE hr hlocks hW ls hl
  have hE : q_E G p s m args c cX12_deep 3 RX12 := hE
  have hx := hE.1.1
  have hb := hE.1.2.1
  have hl : lv_has ls 3 [(0, .ref a0), (1, .int i1), (2, .int i2)] := hl
  refine lv_aload_n hx hb dX12_deep_0 rfl (lv_at hl 0 rfl) ?_
  refine lv_iload_n hx hb dX12_deep_1 rfl (lv_at hl 1 rfl) ?_
  refine q_goi hW (q_runV (As := [.int i1]) (rest := []) hE hW (c_X12_isCloud_tz l G σ a0 h0 i1 (q_fr.sub hz (by decide) (by decide))) kw_X12_233 (q_recv hE hW h0 rfl q_k12) rfl hl.1 rfl (Nat.le_of_ble_eq_true rfl) dX12_deep_2 ⟨by decide, by decide⟩ ⟨by decide, by decide⟩) (by decide) (fun kx4 ks2 H locs kp1 kf3 hW => ?_)
  have kz5 := (q_fr.fr (q_fr.sub (F2 := [(40, 0)]) (A2 := []) hz (by decide) (by decide)) kf3 (by decide) (by decide))
  obtain rfl : (0 : Int32) = kx4 := (q_lit kp1 (by decide)).symm
  refine lv_if_eq (tgt := 37) hx hb dX12_deep_5 (by decide) (fun kc6 => ?_) (fun kc6 => ?_)
  · refine lv_bipush (v := (-2)) hx hb dX12_deep_37 (by decide) ?_
    exact q_reti hE hr hlocks hW ((q_c (k := (-2)) (x := (-2)) (by decide))) dX12_deep_39
  · exact q_neq (q_c (k := 0) (x := 0) (by decide)) (q_c (k := 0) (x := 0) (by decide)) kc6
set_option maxHeartbeats 4000000 in
set_option maxRecDepth 100000 in
theorem c_X12_as_tz (l : Launch) (G : q_G) (σ : q_S) (a0 : Nat) (h0 : q_T G a0 = 40) (i1 : Int32) (i2 : Int32) (hz : q_fr G [(40, 0)] [] σ) : Met l yX12_as (Cond.code yX12_as cX12_as 5 (some .int) :: wsL_law) (q_Rm 3) (q_Pre G σ [.ref a0, .int i1, .int i2]) (q_Qi G [] σ (fun r σ1 => q_V (-2) (-2) r)) 0 0 (q_N G) := by
  refine q_ofW (ts := []) (by decide) (Nat.le_of_ble_eq_true rfl) ?_
  intro p e s m args below meth c hE hr hlocks hW ls hl
  have hE : q_E G p s m args c cX12_as 5 RX12 := hE
  have hx := hE.1.1
  have hb := hE.1.2.1
  have hl : lv_has ls 5 [(0, .ref a0), (1, .int i1), (2, .int i2)] := hl
  refine lv_aload_n hx hb dX12_as_0 rfl (lv_at hl 0 rfl) ?_
  refine lv_iload_n hx hb dX12_as_1 rfl (lv_at hl 1 rfl) ?_
  refine q_goi hW (q_runV (As := [.int i1]) (rest := []) hE hW (c_X12_isCloud_tz l G σ a0 h0 i1 (q_fr.sub hz (by decide) (by decide))) kw_X12_233 (q_recv hE hW h0 rfl q_k12) rfl hl.1 rfl (Nat.le_of_ble_eq_true rfl) dX12_as_2 ⟨by decide, by decide⟩ ⟨by decide, by decide⟩) (by decide) (fun kx4 ks2 H locs kp1 kf3 hW => ?_)
  have kz5 := (q_fr.fr (q_fr.sub (F2 := [(40, 0)]) (A2 := []) hz (by decide) (by decide)) kf3 (by decide) (by decide))
  obtain rfl : (0 : Int32) = kx4 := (q_lit kp1 (by decide)).symm
  refine lv_if_ne (tgt := 11) hx hb dX12_as_5 (by decide) (fun kc6 => ?_) (fun kc6 => ?_)
  · exact q_neq (q_c (k := 0) (x := 0) (by decide)) (q_c (k := 0) (x := 0) (by decide)) kc6
  · refine lv_bipush (v := (-2)) hx hb dX12_as_8 (by decide) ?_
    exact q_reti hE hr hlocks hW ((q_c (k := (-2)) (x := (-2)) (by decide))) dX12_as_10
set_option maxHeartbeats 4000000 in
set_option maxRecDepth 100000 in
theorem c_X12_takes_tz (l : Launch) (G : q_G) (σ : q_S) (a0 : Nat) (h0 : q_T G a0 = 40) (i1 : Int32) (i2 : Int32) (hz : q_fr G [(40, 0)] [] σ) : Met l yX12_takes (Cond.code yX12_takes cX12_takes 3 (some .int) :: wsL_law) (q_Rm 3) (q_Pre G σ [.ref a0, .int i1, .int i2]) (q_Qi G [56] σ (fun r σ1 => q_V (-2) (-2) r)) 0 0 (q_N G) := by
  refine q_ofW (ts := [56]) (by decide) (Nat.le_of_ble_eq_true rfl) ?_
  intro p e s m args below meth c hE hr hlocks hW ls hl
  have hE : q_E G p s m args c cX12_takes 3 RX12 := hE
  have hx := hE.1.1
  have hb := hE.1.2.1
  have hl : lv_has ls 3 [(0, .ref a0), (1, .int i1), (2, .int i2)] := hl
  refine lv_aload_n hx hb dX12_takes_0 rfl (lv_at hl 0 rfl) ?_
  refine lv_iload_n hx hb dX12_takes_1 rfl (lv_at hl 1 rfl) ?_
  refine q_goi hW (q_runV (As := [.int i1]) (rest := []) hE hW (c_X12_isCloud_tz l G σ a0 h0 i1 (q_fr.sub hz (by decide) (by decide))) kw_X12_233 (q_recv hE hW h0 rfl q_k12) rfl hl.1 rfl (Nat.le_of_ble_eq_true rfl) dX12_takes_2 ⟨by decide, by decide⟩ ⟨by decide, by decide⟩) (by decide) (fun kx4 ks2 H locs kp1 kf3 hW => ?_)
  have kz5 := (q_fr.fr (q_fr.sub (F2 := [(40, 0)]) (A2 := []) hz (by decide) (by decide)) kf3 (by decide) (by decide))
  obtain rfl : (0 : Int32) = kx4 := (q_lit kp1 (by decide)).symm
  refine lv_if_ne (tgt := 11) hx hb dX12_takes_5 (by decide) (fun kc6 => ?_) (fun kc6 => ?_)
  · exact q_neq (q_c (k := 0) (x := 0) (by decide)) (q_c (k := 0) (x := 0) (by decide)) kc6
  · refine lv_bipush (v := (-2)) hx hb dX12_takes_8 (by decide) ?_
    exact q_reti hE hr hlocks hW ((q_c (k := (-2)) (x := (-2)) (by decide))) dX12_takes_10
set_option maxHeartbeats 4000000 in
set_option maxRecDepth 100000 in
theorem c_X12_again_tz (l : Launch) (G : q_G) (σ : q_S) (a0 : Nat) (h0 : q_T G a0 = 40) (i1 : Int32) (hz : q_fr G [(40, 0)] [] σ) : Met l yX12_again (Cond.code yX12_again cX12_again 3 (some .int) :: wsL_law) (q_Rm 3) (q_Pre G σ [.ref a0, .int i1]) (q_Qi G [40, 46, 53] σ (fun r σ1 => q_V (-2) (-2) r)) 0 0 (q_N G) := by
  refine q_ofW (ts := [40, 46, 53]) (by decide) (Nat.le_of_ble_eq_true rfl) ?_
  intro p e s m args below meth c hE hr hlocks hW ls hl
  have hE : q_E G p s m args c cX12_again 3 RX12 := hE
  have hx := hE.1.1
  have hb := hE.1.2.1
  have hl : lv_has ls 3 [(0, .ref a0), (1, .int i1)] := hl
  refine lv_aload_n hx hb dX12_again_0 rfl (lv_at hl 0 rfl) ?_
  refine lv_iload_n hx hb dX12_again_1 rfl (lv_at hl 1 rfl) ?_
  refine q_goi hW (q_runV (As := [.int i1]) (rest := []) hE hW (c_X12_isCloud_tz l G σ a0 h0 i1 (q_fr.sub hz (by decide) (by decide))) kw_X12_233 (q_recv hE hW h0 rfl q_k12) rfl hl.1 rfl (Nat.le_of_ble_eq_true rfl) dX12_again_2 ⟨by decide, by decide⟩ ⟨by decide, by decide⟩) (by decide) (fun kx4 ks2 H locs kp1 kf3 hW => ?_)
  have kz5 := (q_fr.fr (q_fr.sub (F2 := [(40, 0)]) (A2 := []) hz (by decide) (by decide)) kf3 (by decide) (by decide))
  obtain rfl : (0 : Int32) = kx4 := (q_lit kp1 (by decide)).symm
  refine lv_if_ne (tgt := 11) hx hb dX12_again_5 (by decide) (fun kc6 => ?_) (fun kc6 => ?_)
  · exact q_neq (q_c (k := 0) (x := 0) (by decide)) (q_c (k := 0) (x := 0) (by decide)) kc6
  · refine lv_bipush (v := (-2)) hx hb dX12_again_8 (by decide) ?_
    exact q_reti hE hr hlocks hW ((q_c (k := (-2)) (x := (-2)) (by decide))) dX12_again_10
set_option maxHeartbeats 4000000 in
set_option maxRecDepth 100000 in
theorem c_X12_send_tz (l : Launch) (G : q_G) (σ : q_S) (a0 : Nat) (h0 : q_T G a0 = 40) (i1 : Int32) (hz : q_fr G [(40, 0)] [] σ) : Met l yX12_send (Cond.code yX12_send cX12_send 2 (some .int) :: wsL_law) (q_Rm 3) (q_Pre G σ [.ref a0, .int i1]) (q_Qi G [40, 46, 53] σ (fun r σ1 => q_V (-2) (-2) r)) 0 0 (q_N G) := by
  refine q_ofW (ts := [40, 46, 53]) (by decide) (Nat.le_of_ble_eq_true rfl) ?_
  intro p e s m args below meth c hE hr hlocks hW ls hl
  have hE : q_E G p s m args c cX12_send 2 RX12 := hE
  have hx := hE.1.1
  have hb := hE.1.2.1
  have hl : lv_has ls 2 [(0, .ref a0), (1, .int i1)] := hl
  refine lv_aload_n hx hb dX12_send_0 rfl (lv_at hl 0 rfl) ?_
  refine lv_iload_n hx hb dX12_send_1 rfl (lv_at hl 1 rfl) ?_
  refine q_goi hW (q_runV (As := [.int i1]) (rest := []) hE hW (c_X12_isCloud_tz l G σ a0 h0 i1 (q_fr.sub hz (by decide) (by decide))) kw_X12_233 (q_recv hE hW h0 rfl q_k12) rfl hl.1 rfl (Nat.le_of_ble_eq_true rfl) dX12_send_2 ⟨by decide, by decide⟩ ⟨by decide, by decide⟩) (by decide) (fun kx4 ks2 H locs kp1 kf3 hW => ?_)
  have kz5 := (q_fr.fr (q_fr.sub (F2 := [(40, 0)]) (A2 := []) hz (by decide) (by decide)) kf3 (by decide) (by decide))
  obtain rfl : (0 : Int32) = kx4 := (q_lit kp1 (by decide)).symm
  refine lv_if_ne (tgt := 11) hx hb dX12_send_5 (by decide) (fun kc6 => ?_) (fun kc6 => ?_)
  · exact q_neq (q_c (k := 0) (x := 0) (by decide)) (q_c (k := 0) (x := 0) (by decide)) kc6
  · refine lv_bipush (v := (-2)) hx hb dX12_send_8 (by decide) ?_
    exact q_reti hE hr hlocks hW ((q_c (k := (-2)) (x := (-2)) (by decide))) dX12_send_10
set_option maxHeartbeats 4000000 in
set_option maxRecDepth 100000 in
theorem c_X12_seen_tz (l : Launch) (G : q_G) (σ : q_S) (a0 : Nat) (h0 : q_T G a0 = 40) (i1 : Int32) (i2 : Int32) (i3 : Int32) (hz : q_fr G [(40, 0)] [] σ) : Met l yX12_seen (Cond.code yX12_seen cX12_seen 4 (some .int) :: wsL_law) (q_Rm 3) (q_Pre G σ [.ref a0, .int i1, .int i2, .int i3]) (q_Qi G [40, 60, 61, 62] σ (fun r σ1 => q_V (-2) (-2) r)) 0 0 (q_N G) := by
  refine q_ofW (ts := [40, 60, 61, 62]) (by decide) (Nat.le_of_ble_eq_true rfl) ?_
  intro p e s m args below meth c hE hr hlocks hW ls hl
  have hE : q_E G p s m args c cX12_seen 4 RX12 := hE
  have hx := hE.1.1
  have hb := hE.1.2.1
  have hl : lv_has ls 4 [(0, .ref a0), (1, .int i1), (2, .int i2), (3, .int i3)] := hl
  refine lv_aload_n hx hb dX12_seen_0 rfl (lv_at hl 0 rfl) ?_
  refine lv_iload_n hx hb dX12_seen_1 rfl (lv_at hl 1 rfl) ?_
  refine q_goi hW (q_runV (As := [.int i1]) (rest := []) hE hW (c_X12_isCloud_tz l G σ a0 h0 i1 (q_fr.sub hz (by decide) (by decide))) kw_X12_233 (q_recv hE hW h0 rfl q_k12) rfl hl.1 rfl (Nat.le_of_ble_eq_true rfl) dX12_seen_2 ⟨by decide, by decide⟩ ⟨by decide, by decide⟩) (by decide) (fun kx4 ks2 H locs kp1 kf3 hW => ?_)
  have kz5 := (q_fr.fr (q_fr.sub (F2 := [(40, 0)]) (A2 := []) hz (by decide) (by decide)) kf3 (by decide) (by decide))
  obtain rfl : (0 : Int32) = kx4 := (q_lit kp1 (by decide)).symm
  refine lv_if_ne (tgt := 11) hx hb dX12_seen_5 (by decide) (fun kc6 => ?_) (fun kc6 => ?_)
  · exact q_neq (q_c (k := 0) (x := 0) (by decide)) (q_c (k := 0) (x := 0) (by decide)) kc6
  · refine lv_bipush (v := (-2)) hx hb dX12_seen_8 (by decide) ?_
    exact q_reti hE hr hlocks hW ((q_c (k := (-2)) (x := (-2)) (by decide))) dX12_seen_10
set_option maxHeartbeats 4000000 in
set_option maxRecDepth 100000 in
theorem c_X12_kinds_tz (l : Launch) (G : q_G) (σ : q_S) (a0 : Nat) (h0 : q_T G a0 = 40) (i1 : Int32) (hz : q_fr G [(40, 0)] [] σ) : Met l yX12_kinds (Cond.code yX12_kinds cX12_kinds 7 (some .int) :: wsL_law) (q_Rm 3) (q_Pre G σ [.ref a0, .int i1]) (q_Qi G [56] σ (fun r σ1 => q_V (-2) (-2) r)) 0 0 (q_N G) := by
  refine q_ofW (ts := [56]) (by decide) (Nat.le_of_ble_eq_true rfl) ?_
  intro p e s m args below meth c hE hr hlocks hW ls hl
  have hE : q_E G p s m args c cX12_kinds 7 RX12 := hE
  have hx := hE.1.1
  have hb := hE.1.2.1
  have hl : lv_has ls 7 [(0, .ref a0), (1, .int i1)] := hl
  refine lv_aload_n hx hb dX12_kinds_0 rfl (lv_at hl 0 rfl) ?_
  refine lv_iload_n hx hb dX12_kinds_1 rfl (lv_at hl 1 rfl) ?_
  refine q_goi hW (q_runV (As := [.int i1]) (rest := []) hE hW (c_X12_isCloud_tz l G σ a0 h0 i1 (q_fr.sub hz (by decide) (by decide))) kw_X12_233 (q_recv hE hW h0 rfl q_k12) rfl hl.1 rfl (Nat.le_of_ble_eq_true rfl) dX12_kinds_2 ⟨by decide, by decide⟩ ⟨by decide, by decide⟩) (by decide) (fun kx4 ks2 H locs kp1 kf3 hW => ?_)
  have kz5 := (q_fr.fr (q_fr.sub (F2 := [(40, 0)]) (A2 := []) hz (by decide) (by decide)) kf3 (by decide) (by decide))
  obtain rfl : (0 : Int32) = kx4 := (q_lit kp1 (by decide)).symm
  refine lv_if_ne (tgt := 11) hx hb dX12_kinds_5 (by decide) (fun kc6 => ?_) (fun kc6 => ?_)
  · exact q_neq (q_c (k := 0) (x := 0) (by decide)) (q_c (k := 0) (x := 0) (by decide)) kc6
  · refine lv_bipush (v := (-2)) hx hb dX12_kinds_8 (by decide) ?_
    exact q_reti hE hr hlocks hW ((q_c (k := (-2)) (x := (-2)) (by decide))) dX12_kinds_10
set_option maxHeartbeats 4000000 in
set_option maxRecDepth 100000 in
theorem c_X12_washer_tz (l : Launch) (G : q_G) (σ : q_S) (a0 : Nat) (h0 : q_T G a0 = 40) (i1 : Int32) (i2 : Int32) (hz : q_fr G [(40, 5)] [] σ) : Met l yX12_washer (Cond.code yX12_washer cX12_washer 3 (some .int) :: wsL_law) (q_Rm 3) (q_Pre G σ [.ref a0, .int i1, .int i2]) (q_Qi G [] σ (fun r σ1 => q_V (-2) (-2) r)) 0 0 (q_N G) := by
  refine q_ofW (ts := []) (by decide) (Nat.le_of_ble_eq_true rfl) ?_
  intro p e s m args below meth c hE hr hlocks hW ls hl
  have hE : q_E G p s m args c cX12_washer 3 RX12 := hE
  have hx := hE.1.1
  have hb := hE.1.2.1
  have hl : lv_has ls 3 [(0, .ref a0), (1, .int i1), (2, .int i2)] := hl
  refine lv_aload_n hx hb dX12_washer_0 rfl (lv_at hl 0 rfl) ?_
  refine lv_iload_n hx hb dX12_washer_1 rfl (lv_at hl 1 rfl) ?_
  refine q_goi hW (q_runV (As := [.int i1]) (rest := []) hE hW (c_X12_isWasher_tz l G σ a0 h0 i1 (q_fr.sub hz (by decide) (by decide))) kw_X12_247 (q_recv hE hW h0 rfl q_k12) rfl hl.1 rfl (Nat.le_of_ble_eq_true rfl) dX12_washer_2 ⟨by decide, by decide⟩ ⟨by decide, by decide⟩) (by decide) (fun kx4 ks2 H locs kp1 kf3 hW => ?_)
  have kz5 := (q_fr.fr (q_fr.sub (F2 := [(40, 5)]) (A2 := []) hz (by decide) (by decide)) kf3 (by decide) (by decide))
  obtain rfl : (0 : Int32) = kx4 := (q_lit kp1 (by decide)).symm
  refine lv_if_ne (tgt := 11) hx hb dX12_washer_5 (by decide) (fun kc6 => ?_) (fun kc6 => ?_)
  · exact q_neq (q_c (k := 0) (x := 0) (by decide)) (q_c (k := 0) (x := 0) (by decide)) kc6
  · refine lv_bipush (v := (-2)) hx hb dX12_washer_8 (by decide) ?_
    exact q_reti hE hr hlocks hW ((q_c (k := (-2)) (x := (-2)) (by decide))) dX12_washer_10
set_option maxHeartbeats 4000000 in
set_option maxRecDepth 100000 in
theorem c_X12_hang_tz (l : Launch) (G : q_G) (σ : q_S) (a0 : Nat) (h0 : q_T G a0 = 40) (i1 : Int32) (hz : q_fr G [(40, 5)] [] σ) : Met l yX12_hang (Cond.code yX12_hang cX12_hang 3 (some .int) :: wsL_law) (q_Rm 3) (q_Pre G σ [.ref a0, .int i1]) (q_Qi G [40, 46, 53] σ (fun r σ1 => q_V (-2) (-2) r)) 0 0 (q_N G) := by
  refine q_ofW (ts := [40, 46, 53]) (by decide) (Nat.le_of_ble_eq_true rfl) ?_
  intro p e s m args below meth c hE hr hlocks hW ls hl
  have hE : q_E G p s m args c cX12_hang 3 RX12 := hE
  have hx := hE.1.1
  have hb := hE.1.2.1
  have hl : lv_has ls 3 [(0, .ref a0), (1, .int i1)] := hl
  refine lv_aload_n hx hb dX12_hang_0 rfl (lv_at hl 0 rfl) ?_
  refine lv_iload_n hx hb dX12_hang_1 rfl (lv_at hl 1 rfl) ?_
  refine q_goi hW (q_runV (As := [.int i1]) (rest := []) hE hW (c_X12_isWasher_tz l G σ a0 h0 i1 (q_fr.sub hz (by decide) (by decide))) kw_X12_247 (q_recv hE hW h0 rfl q_k12) rfl hl.1 rfl (Nat.le_of_ble_eq_true rfl) dX12_hang_2 ⟨by decide, by decide⟩ ⟨by decide, by decide⟩) (by decide) (fun kx4 ks2 H locs kp1 kf3 hW => ?_)
  have kz5 := (q_fr.fr (q_fr.sub (F2 := [(40, 5)]) (A2 := []) hz (by decide) (by decide)) kf3 (by decide) (by decide))
  obtain rfl : (0 : Int32) = kx4 := (q_lit kp1 (by decide)).symm
  refine lv_if_ne (tgt := 11) hx hb dX12_hang_5 (by decide) (fun kc6 => ?_) (fun kc6 => ?_)
  · exact q_neq (q_c (k := 0) (x := 0) (by decide)) (q_c (k := 0) (x := 0) (by decide)) kc6
  · refine lv_bipush (v := (-2)) hx hb dX12_hang_8 (by decide) ?_
    exact q_reti hE hr hlocks hW ((q_c (k := (-2)) (x := (-2)) (by decide))) dX12_hang_10
set_option maxHeartbeats 4000000 in
set_option maxRecDepth 100000 in
theorem c_X12_wash_tz (l : Launch) (G : q_G) (σ : q_S) (a0 : Nat) (h0 : q_T G a0 = 40) (i1 : Int32) (i2 : Int32) (hz : q_fr G [(40, 0), (40, 5)] [] σ) : Met l yX12_wash (Cond.code yX12_wash cX12_wash 3 (some .int) :: wsL_law) (q_Rm 3) (q_Pre G σ [.ref a0, .int i1, .int i2]) (q_Qi G [40, 46, 53] σ (fun r σ1 => q_V (-2) (-2) r)) 0 0 (q_N G) := by
  refine q_ofW (ts := [40, 46, 53]) (by decide) (Nat.le_of_ble_eq_true rfl) ?_
  intro p e s m args below meth c hE hr hlocks hW ls hl
  have hE : q_E G p s m args c cX12_wash 3 RX12 := hE
  have hx := hE.1.1
  have hb := hE.1.2.1
  have hl : lv_has ls 3 [(0, .ref a0), (1, .int i1), (2, .int i2)] := hl
  refine lv_aload_n hx hb dX12_wash_0 rfl (lv_at hl 0 rfl) ?_
  refine lv_iload_n hx hb dX12_wash_1 rfl (lv_at hl 1 rfl) ?_
  refine q_goi hW (q_runV (As := [.int i1]) (rest := []) hE hW (c_X12_isWasher_tz l G σ a0 h0 i1 (q_fr.sub hz (by decide) (by decide))) kw_X12_247 (q_recv hE hW h0 rfl q_k12) rfl hl.1 rfl (Nat.le_of_ble_eq_true rfl) dX12_wash_2 ⟨by decide, by decide⟩ ⟨by decide, by decide⟩) (by decide) (fun kx4 ks2 H locs kp1 kf3 hW => ?_)
  have kz5 := (q_fr.fr (q_fr.sub (F2 := [(40, 0), (40, 5)]) (A2 := []) hz (by decide) (by decide)) kf3 (by decide) (by decide))
  obtain rfl : (0 : Int32) = kx4 := (q_lit kp1 (by decide)).symm
  refine lv_if_eq (tgt := 16) hx hb dX12_wash_5 (by decide) (fun kc6 => ?_) (fun kc6 => ?_)
  · refine lv_bipush (v := (-2)) hx hb dX12_wash_16 (by decide) ?_
    exact q_reti hE hr hlocks hW ((q_c (k := (-2)) (x := (-2)) (by decide))) dX12_wash_18
  · exact q_neq (q_c (k := 0) (x := 0) (by decide)) (q_c (k := 0) (x := 0) (by decide)) kc6
set_option maxHeartbeats 4000000 in
set_option maxRecDepth 100000 in
theorem c_X12_soap_tz (l : Launch) (G : q_G) (σ : q_S) (a0 : Nat) (h0 : q_T G a0 = 40) (i1 : Int32) (hz : q_fr G [(40, 0), (40, 5), (40, 8), (40, 27)] [(46, 0, 54), (46, 57, 58), (46, 58, 59), (46, 59, 101)] σ) : Met l yX12_soap (Cond.code yX12_soap cX12_soap 2 (some .int) :: wsL_law) (q_Rm 3) (q_Pre G σ [.ref a0, .int i1]) (q_Qi G [40, 46, 53] σ (fun r σ1 => q_V (-2147483648) 2147483647 r ∧ r = kz_soap i1)) 0 0 (q_N G) := by
  refine q_ofW (ts := [40, 46, 53]) (by decide) (Nat.le_of_ble_eq_true rfl) ?_
  intro p e s m args below meth c hE hr hlocks hW ls hl
  have hE : q_E G p s m args c cX12_soap 2 RX12 := hE
  have hx := hE.1.1
  have hb := hE.1.2.1
  have hl : lv_has ls 2 [(0, .ref a0), (1, .int i1)] := hl
  refine lv_iload_n hx hb dX12_soap_0 rfl (lv_at hl 1 rfl) ?_
  refine lv_i2l (v := i1.toInt64) hx hb dX12_soap_1 rfl ?_
  refine lv_lconst (v := 1) hx hb dX12_soap_2 (by decide) ?_
  refine lv_ldc2 (v := 20) hx hb hE.1.2.2.2.1 (hE.w wl_649) dX12_soap_3 ?_
  refine q_goi hW (q_runS (As := [.long (i1).toInt64, .long 1, .long 20]) (rest := []) hE hW (c_X12_in l G σ ((i1).toInt64) 1 20) kw_X12_99 rfl hl.1 rfl (Nat.le_of_ble_eq_true rfl) dX12_soap_6 ⟨by decide, by decide⟩ ⟨by decide, by decide⟩) (by decide) (fun kx4 ks2 H locs kp1 kf3 hW => ?_)
  have kz5 := (q_fr.fr (q_fr.sub (F2 := [(40, 0), (40, 5), (40, 8), (40, 27)]) (A2 := [(46, 0, 54), (46, 57, 58), (46, 58, 59), (46, 59, 101)]) hz (by decide) (by decide)) kf3 (by decide) (by decide))
  refine lv_if_ne (tgt := 15) hx hb dX12_soap_9 (by decide) (fun kc6 => ?_) (fun kc6 => ?_)
  · have kv7 : q_V 1 20 i1 := q_inV (kp1.2.1 kc6).1 (kp1.2.1 kc6).2 (q_lc (k := 1) (x := 1) (by decide)) (q_lc (k := 20) (x := 20) (by decide))
    have kv8 : q_V 1 1 kx4 := q_ne1 kp1.1 (q_c (k := 0) (x := 0) (by decide)) kc6 (by decide)
    refine lv_aload_n hx hb dX12_soap_15 rfl (lv_at hl 0 rfl) ?_
    refine q_getr hE hW h0 rfl q_k12 9 (by decide) rfl (hE.l wl_135) dX12_soap_16 (fun kb9 ekb9 hkb9a hkb9b => ?_)
    have hkb9 : q_T G kb9 = 46 := q_tag hkb9a hkb9b
    refine lv_bipush (v := 57) hx hb dX12_soap_19 (by decide) ?_
    refine q_iald hE hW hkb9 rfl (q_in (q_c (k := 57) (x := 57) (by decide)) (by decide) (by decide)) dX12_soap_21 (fun kx10 ekx10 gkx10 => ?_)
    obtain rfl : (0 : Int32) = kx10 := (q_fr.z kz5 (t := 46) (l := 57) (u := 58) (by decide) hkb9 (q_c (k := 57) (x := 57) (by decide)) (by decide) (by decide) (by decide)).symm.trans ekx10
    refine lv_iload_n hx hb dX12_soap_22 rfl (lv_at hl 1 rfl) ?_
    refine lv_iadd hx hb dX12_soap_23 ?_
    refine lv_eqi (y := i1) (by simp) ?_
    refine lv_bipush (v := 99) hx hb dX12_soap_24 (by decide) ?_
    refine lv_icmp_le (tgt := 32) hx hb dX12_soap_26 (by decide) (fun kc11 => ?_) (fun kc11 => ?_)
    · refine lv_aload_n hx hb dX12_soap_32 rfl (lv_at hl 0 rfl) ?_
      refine q_gov hW (q_runV (As := []) (rest := []) hE hW (c_X12_remember_tz l G ks2 a0 h0 (q_fr.sub kz5 (by decide) (by decide))) kw_X12_273 (q_recv hE hW h0 rfl q_k12) rfl hl.1 rfl (Nat.le_of_ble_eq_true rfl) dX12_soap_33 ⟨by decide, by decide⟩ ⟨by decide, by decide⟩) (by decide) (fun ks13 H locs kp12 kf14 hW => ?_)
      have kz15 := (q_fr.and (q_fr.fr (q_fr.sub (F2 := []) (A2 := [(46, 0, 54), (46, 57, 58), (46, 58, 59), (46, 59, 101)]) kz5 (by decide) (by decide)) kf14 (by decide) (by decide)) kp12)
      refine lv_aload_n hx hb dX12_soap_36 rfl (lv_at hl 0 rfl) ?_
      refine q_getr hE hW h0 rfl q_k12 9 (by decide) rfl (hE.l wl_135) dX12_soap_37 (fun kb16 ekb16 hkb16a hkb16b => ?_)
      have hkb16 : q_T G kb16 = 46 := q_tag hkb16a hkb16b
      refine lv_bipush (v := 57) hx hb dX12_soap_40 (by decide) ?_
      refine lv_dup2_11 hx hb dX12_soap_42 rfl rfl ?_
      refine q_iald hE hW hkb16 rfl (q_in (q_c (k := 57) (x := 57) (by decide)) (by decide) (by decide)) dX12_soap_43 (fun kx17 ekx17 gkx17 => ?_)
      obtain rfl : (0 : Int32) = kx17 := (q_fr.z kz15 (t := 46) (l := 57) (u := 58) (by decide) hkb16 (q_c (k := 57) (x := 57) (by decide)) (by decide) (by decide) (by decide)).symm.trans ekx17
      refine lv_iload_n hx hb dX12_soap_44 rfl (lv_at hl 1 rfl) ?_
      refine lv_iadd hx hb dX12_soap_45 ?_
      refine lv_eqi (y := i1) (by simp) ?_
      refine q_iast hE hW hkb16 rfl (q_in (q_c (k := 57) (x := 57) (by decide)) (by decide) (by decide)) (fun q_a q_b => q_out (q_c (k := 57) (x := 57) (by decide)) q_a q_b (by decide)) (by decide) dX12_soap_46 (fun H locs ks18 kp19 hW => ?_)
      have kz20 := (q_fr.wAi (q_fr.sub (F2 := [(40, 0), (40, 5), (40, 8)]) (A2 := [(46, 0, 54), (46, 58, 59), (46, 59, 101)]) kz15 (by decide) (by decide)) kp19 hkb16 (q_c (k := 57) (x := 57) (by decide)) (by decide) (by decide))
      refine lv_aload_n hx hb dX12_soap_47 rfl (lv_at hl 0 rfl) ?_
      refine q_getr hE hW h0 rfl q_k12 9 (by decide) rfl (hE.l wl_135) dX12_soap_48 (fun kb21 ekb21 hkb21a hkb21b => ?_)
      obtain rfl : kb16 = kb21 := ((kp19.2.2.1 _ _).trans ekb16).symm.trans ekb21
      refine lv_bipush (v := 57) hx hb dX12_soap_51 (by decide) ?_
      refine q_iald hE hW hkb16 rfl (q_in (q_c (k := 57) (x := 57) (by decide)) (by decide) (by decide)) dX12_soap_53 (fun kx22 ekx22 gkx22 => ?_)
      obtain rfl : i1 = kx22 := kp19.1.symm.trans ekx22
      exact q_reti hE hr hlocks hW (⟨(kv7.w (by decide) (by decide)), (by have := kv7.1; have := kv7.2; unfold kz_soap; (repeat' split) <;> first | rfl | omega)⟩) dX12_soap_54
    · have kv23 : q_V 99 19 99 := (q_lt1 (q_c (k := 99) (x := 99) (by decide)) kv7 (Int32.not_le.mp kc11)).w (by decide) (by decide)
      exact (kv23.no (by decide))
  · have kv24 : q_V 0 0 kx4 := q_eq1 kp1.1 (q_c (k := 0) (x := 0) (by decide)) kc6 (by decide) (by decide)
    refine lv_bipush (v := (-3)) hx hb dX12_soap_12 (by decide) ?_
    exact q_reti hE hr hlocks hW (⟨((q_c (k := (-3)) (x := (-3)) (by decide)).w (by decide) (by decide)), (by have := (q_nin (kp1.2.2 kc6) (q_lc (k := 1) (x := 1) (by decide)) (q_lc (k := 20) (x := 20) (by decide))); unfold kz_soap; (repeat' split) <;> first | rfl | omega)⟩) dX12_soap_14
set_option maxHeartbeats 4000000 in
set_option maxRecDepth 100000 in
theorem c_X12_hour_tz (l : Launch) (G : q_G) (σ : q_S) (a0 : Nat) (h0 : q_T G a0 = 40) (i1 : Int32) (hz : q_fr G [(40, 0), (40, 5), (40, 8), (40, 27)] [(46, 0, 54), (46, 57, 58), (46, 58, 59), (46, 59, 101)] σ) : Met l yX12_hour (Cond.code yX12_hour cX12_hour 3 (some .int) :: wsL_law) (q_Rm 5) (q_Pre G σ [.ref a0, .int i1]) (q_Qi G [40, 46, 53] σ (fun r σ1 => q_V (-2147483648) 2147483647 r ∧ r = kz_hour i1)) 0 0 (q_N G) := by
  refine q_ofW (ts := [40, 46, 53]) (by decide) (Nat.le_of_ble_eq_true rfl) ?_
  intro p e s m args below meth c hE hr hlocks hW ls hl
  have hE : q_E G p s m args c cX12_hour 3 RX12 := hE
  have hx := hE.1.1
  have hb := hE.1.2.1
  have hl : lv_has ls 3 [(0, .ref a0), (1, .int i1)] := hl
  have lp39a : ∀ (n39a : Nat) (ks3 : q_S) (H : Heap) (locs : List Loc) (kv1 : q_V 1 12 i1) (kx2 : Int32) (vkx2 : q_V 0 15 kx2) (kb4 : Nat) (hkb4 : q_T G kb4 = 46) (ke5 : q_R ks3 a0 9 = kb4) (kx6 : Int32) (ke7 : q_A ks3 kb4 (58 : Int32).toNatClampNeg = kx6) (hW : q_Wd G [40, 46, 53] σ s.heap ks3 H locs) (hz39a : q_fr G [(40, 0), (40, 5), (40, 8)] [(46, 0, 54), (46, 57, 58), (46, 59, 101)] ks3) (iv39a0 : (kx6 : Int32) = (kx2 : Int32)) (iv39a1 : (kx2 : Int32).toInt ≤ i1.toInt) (ls : Array Slot) (hl : lv_has ls 3 [(0, .ref a0), (1, .int i1), (2, .int kx2)]), (15 - kx2.toInt).toNat < n39a → W p l e (q_Rm 5) s m args below meth c H locs 0 0 (MQ below (q_Qi G [40, 46, 53] σ (fun r σ1 => q_V (-2147483648) 2147483647 r ∧ r = kz_hour i1)) args s 0 0 (q_N G)) (F0 m 39 ls []) := by
    intro n39a
    induction n39a with
    | zero => intro _ _ _ _ _ _ _ _ _ _ _ _ _ _ _ _ _; exact fun h => absurd h (Nat.not_lt_zero _)
    | succ n39a ih39a =>
      intro ks3 H locs kv1 kx2 vkx2 kb4 hkb4 ke5 kx6 ke7 hW hz39a iv39a0 iv39a1 ls hl hm39a
      refine lv_iload_n hx hb dX12_hour_39 rfl (lv_at hl 2 rfl) ?_
      refine lv_iload_n hx hb dX12_hour_40 rfl (lv_at hl 1 rfl) ?_
      refine lv_icmp_ge (tgt := 54) hx hb dX12_hour_41 (by decide) (fun kc8 => ?_) (fun kc8 => ?_)
      · have kv9 : q_V 1 15 kx2 := (q_le2 kv1 vkx2 kc8).w (by decide) (by decide)
        refine lv_aload_n hx hb dX12_hour_54 rfl (lv_at hl 0 rfl) ?_
        refine q_getr hE hW h0 rfl q_k12 9 (by decide) rfl (hE.l wl_135) dX12_hour_55 (fun kb10 ekb10 hkb10a hkb10b => ?_)
        obtain rfl : kb4 = kb10 := ke5.symm.trans ekb10
        refine lv_bipush (v := 58) hx hb dX12_hour_58 (by decide) ?_
        refine q_iald hE hW hkb4 rfl (q_in (q_c (k := 58) (x := 58) (by decide)) (by decide) (by decide)) dX12_hour_60 (fun kx11 ekx11 gkx11 => ?_)
        obtain rfl : kx6 = kx11 := ke7.symm.trans ekx11
        exact q_reti hE hr hlocks hW (⟨(q_all kx6), (by have q_a := Int32.le_iff_toInt_le.mp kc8; have q_b : kx2 = i1 := Int32.toInt_inj.mp (by omega); rw [iv39a0, q_b]; have := kv1.1; have := kv1.2; unfold kz_hour; (repeat' split) <;> first | rfl | omega)⟩) dX12_hour_61
      · have kv12 : q_V 0 11 kx2 := (q_lt1 vkx2 kv1 (Int32.not_le.mp kc8)).w (by decide) (by decide)
        refine lv_aload_n hx hb dX12_hour_44 rfl (lv_at hl 0 rfl) ?_
        refine q_gov hW (q_runV (As := []) (rest := []) hE hW (c_X12_pass_tz l G ks3 a0 h0 (q_fr.sub hz39a (by decide) (by decide))) kw_X12_283 (q_recv hE hW h0 rfl q_k12) rfl hl.1 rfl (Nat.le_of_ble_eq_true rfl) dX12_hour_45 ⟨by decide, by decide⟩ ⟨by decide, by decide⟩) (by decide) (fun ks14 H locs kp13 kf15 hW => ?_)
        have kz16 := (q_fr.and (q_fr.fr (q_fr.sub (F2 := [(40, 0), (40, 5), (40, 8)]) (A2 := []) hz39a (by decide) (by decide)) kf15 (by decide) (by decide)) kp13.2)
        obtain ⟨kx17, ekx17⟩ : ∃ y : Int32, y = kx6 + 1 := ⟨_, rfl⟩
        have gkx17 : q_A ks14 kb4 (58 : Int32).toNatClampNeg = kx17 := by have q_h := kp13.1; rw [ke5, ke7] at q_h; rw [ekx17]; exact q_h
        obtain ⟨kx18, ekx18⟩ : ∃ y : Int32, y = kx2 + 1 := ⟨_, rfl⟩
        have vkx18 : q_V 1 12 kx18 := by rw [ekx18]; exact (q_add kv12 (q_c (k := 1) (x := 1) (by decide)) (by decide) (by decide)).w (by decide) (by decide)
        have ikx18 : kx18.toInt = kx2.toInt + 1 := q_incT ekx18 kv12 (by decide) (by decide) (by decide)
        refine lv_iinc (v := kx18) (lv' := [(2, .int kx18), (0, .ref a0), (1, .int i1)]) hx hb dX12_hour_48 hl (k := 2) rfl (by rw [ekx18]; rfl) (by decide) rfl (fun ls hl => ?_)
        refine lv_goto (tgt := 39) hx hb dX12_hour_51 (by decide) ?_
        exact ih39a _ _ _ kv1 kx18 (vkx18.w (by decide) (by decide)) kb4 hkb4 ((kf15.R _ h0 (by decide)).trans ke5) kx17 gkx17 hW (q_fr.sub kz16 (by decide) (by decide)) (by rw [ekx17, iv39a0, ekx18]) (by have := Int32.lt_iff_toInt_lt.mp (Int32.not_le.mp kc8); have := ikx18; omega) ls (lv_sub hl [1, 2, 0] rfl) (Nat.lt_of_lt_of_le (q_up (ikx18) (show q_V 1 15 kx18 from (vkx18.w (by decide) (by decide))).2) (Nat.le_of_lt_succ hm39a))
  refine lv_iload_n hx hb dX12_hour_0 rfl (lv_at hl 1 rfl) ?_
  refine lv_i2l (v := i1.toInt64) hx hb dX12_hour_1 rfl ?_
  refine lv_lconst (v := 1) hx hb dX12_hour_2 (by decide) ?_
  refine lv_ldc2 (v := 12) hx hb hE.1.2.2.2.1 (hE.w wl_696) dX12_hour_3 ?_
  refine q_goi hW (q_runS (As := [.long (i1).toInt64, .long 1, .long 12]) (rest := []) hE hW (c_X12_in l G σ ((i1).toInt64) 1 12) kw_X12_99 rfl hl.1 rfl (Nat.le_of_ble_eq_true rfl) dX12_hour_6 ⟨by decide, by decide⟩ ⟨by decide, by decide⟩) (by decide) (fun kx22 ks20 H locs kp19 kf21 hW => ?_)
  have kz23 := (q_fr.fr (q_fr.sub (F2 := [(40, 0), (40, 5), (40, 8), (40, 27)]) (A2 := [(46, 0, 54), (46, 57, 58), (46, 58, 59), (46, 59, 101)]) hz (by decide) (by decide)) kf21 (by decide) (by decide))
  refine lv_if_ne (tgt := 15) hx hb dX12_hour_9 (by decide) (fun kc24 => ?_) (fun kc24 => ?_)
  · have kv25 : q_V 1 12 i1 := q_inV (kp19.2.1 kc24).1 (kp19.2.1 kc24).2 (q_lc (k := 1) (x := 1) (by decide)) (q_lc (k := 12) (x := 12) (by decide))
    have kv26 : q_V 1 1 kx22 := q_ne1 kp19.1 (q_c (k := 0) (x := 0) (by decide)) kc24 (by decide)
    refine lv_aload_n hx hb dX12_hour_15 rfl (lv_at hl 0 rfl) ?_
    refine q_getr hE hW h0 rfl q_k12 9 (by decide) rfl (hE.l wl_135) dX12_hour_16 (fun kb27 ekb27 hkb27a hkb27b => ?_)
    have hkb27 : q_T G kb27 = 46 := q_tag hkb27a hkb27b
    refine lv_bipush (v := 58) hx hb dX12_hour_19 (by decide) ?_
    refine q_iald hE hW hkb27 rfl (q_in (q_c (k := 58) (x := 58) (by decide)) (by decide) (by decide)) dX12_hour_21 (fun kx28 ekx28 gkx28 => ?_)
    obtain rfl : (0 : Int32) = kx28 := (q_fr.z kz23 (t := 46) (l := 58) (u := 59) (by decide) hkb27 (q_c (k := 58) (x := 58) (by decide)) (by decide) (by decide) (by decide)).symm.trans ekx28
    refine lv_iload_n hx hb dX12_hour_22 rfl (lv_at hl 1 rfl) ?_
    refine lv_iadd hx hb dX12_hour_23 ?_
    refine lv_eqi (y := i1) (by simp) ?_
    refine lv_sipush (v := 999) hx hb dX12_hour_24 (by decide) ?_
    refine lv_icmp_le (tgt := 33) hx hb dX12_hour_27 (by decide) (fun kc29 => ?_) (fun kc29 => ?_)
    · refine lv_aload_n hx hb dX12_hour_33 rfl (lv_at hl 0 rfl) ?_
      refine q_gov hW (q_runV (As := []) (rest := []) hE hW (c_X12_remember_tz l G ks20 a0 h0 (q_fr.sub kz23 (by decide) (by decide))) kw_X12_273 (q_recv hE hW h0 rfl q_k12) rfl hl.1 rfl (Nat.le_of_ble_eq_true rfl) dX12_hour_34 ⟨by decide, by decide⟩ ⟨by decide, by decide⟩) (by decide) (fun ks31 H locs kp30 kf32 hW => ?_)
      have kz33 := (q_fr.and (q_fr.fr (q_fr.sub (F2 := []) (A2 := [(46, 0, 54), (46, 57, 58), (46, 58, 59), (46, 59, 101)]) kz23 (by decide) (by decide)) kf32 (by decide) (by decide)) kp30)
      obtain ⟨kb34, ekb34, hkb34a, hkb34b⟩ := q_ghr hW h0 rfl 9 rfl
      have hkb34 : q_T G kb34 = 46 := q_tag hkb34a hkb34b
      have ke35 : q_A ks31 kb34 (58 : Int32).toNatClampNeg = 0 := q_fr.z kz33 (t := 46) (l := 58) (u := 59) (by decide) hkb34 (q_c (k := 58) (x := 58) (by decide)) (by decide) (by decide) (by decide)
      refine lv_iconst (v := 0) hx hb dX12_hour_37 (by decide) ?_
      refine lv_istore_n (lv' := [(2, .int 0), (0, .ref a0), (1, .int i1)]) hx hb dX12_hour_38 rfl hl (by decide) rfl (fun ls hl => ?_)
      exact lp39a _ _ _ _ kv25 0 ((q_c (k := 0) (x := 0) (by decide)).w (by decide) (by decide)) kb34 hkb34 ekb34 0 ke35 hW (q_fr.sub kz33 (by decide) (by decide)) rfl (by have := kv25.1; have := kv25.2; show (0 : Int) ≤ i1.toInt; omega) ls (lv_sub hl [1, 2, 0] rfl) (Nat.lt_succ_self _)
    · have kv36 : q_V 999 11 999 := (q_lt1 (q_c (k := 999) (x := 999) (by decide)) kv25 (Int32.not_le.mp kc29)).w (by decide) (by decide)
      exact (kv36.no (by decide))
  · have kv37 : q_V 0 0 kx22 := q_eq1 kp19.1 (q_c (k := 0) (x := 0) (by decide)) kc24 (by decide) (by decide)
    refine lv_bipush (v := (-3)) hx hb dX12_hour_12 (by decide) ?_
    exact q_reti hE hr hlocks hW (⟨((q_c (k := (-3)) (x := (-3)) (by decide)).w (by decide) (by decide)), (by have := (q_nin (kp19.2.2 kc24) (q_lc (k := 1) (x := 1) (by decide)) (q_lc (k := 12) (x := 12) (by decide))); unfold kz_hour; (repeat' split) <;> first | rfl | omega)⟩) dX12_hour_14
set_option maxHeartbeats 4000000 in
set_option maxRecDepth 100000 in
theorem c_X12_later_tz (l : Launch) (G : q_G) (σ : q_S) (a0 : Nat) (h0 : q_T G a0 = 40) (i1 : Int32) (i2 : Int32) (hz : q_fr G [(40, 0), (40, 5), (40, 8)] [(46, 0, 54), (46, 57, 58), (46, 58, 59), (46, 59, 101)] σ) : Met l yX12_later (Cond.code yX12_later cX12_later 4 (some .int) :: wsL_law) (q_Rm 5) (q_Pre G σ [.ref a0, .int i1, .int i2]) (q_Qi G [46] σ (fun r σ1 => q_V (-2147483648) 2147483647 r ∧ r = kz_later i1 i2)) 0 0 (q_N G) := by
  refine q_ofW (ts := [46]) (by decide) (Nat.le_of_ble_eq_true rfl) ?_
  intro p e s m args below meth c hE hr hlocks hW ls hl
  have hE : q_E G p s m args c cX12_later 4 RX12 := hE
  have hx := hE.1.1
  have hb := hE.1.2.1
  have hl : lv_has ls 4 [(0, .ref a0), (1, .int i1), (2, .int i2)] := hl
  have lp44a : ∀ (n44a : Nat) (ks4 : q_S) (H : Heap) (locs : List Loc) (kv1 : q_V 0 6 i1) (kv2 : q_V 0 20 i2) (kx3 : Int32) (vkx3 : q_V 0 199 kx3) (hW : q_Wd G [46] σ s.heap ks4 H locs) (hz44a : q_fr G [(40, 0), (40, 5), (40, 8)] [(46, 0, 54), (46, 57, 58), (46, 59, 101)] ks4) (ls : Array Slot) (hl : lv_has ls 4 [(0, .ref a0), (1, .int i1), (2, .int i2), (3, .int kx3)]), (199 - kx3.toInt).toNat < n44a → W p l e (q_Rm 5) s m args below meth c H locs 0 0 (MQ below (q_Qi G [46] σ (fun r σ1 => q_V (-2147483648) 2147483647 r ∧ r = kz_later i1 i2)) args s 0 0 (q_N G)) (F0 m 44 ls []) := by
    intro n44a
    induction n44a with
    | zero => intro _ _ _ _ _ _ _ _ _ _ _; exact fun h => absurd h (Nat.not_lt_zero _)
    | succ n44a ih44a =>
      intro ks4 H locs kv1 kv2 kx3 vkx3 hW hz44a ls hl hm44a
      refine lv_iload_n hx hb dX12_later_44 rfl (lv_at hl 3 rfl) ?_
      refine lv_iload_n hx hb dX12_later_45 rfl (lv_at hl 2 rfl) ?_
      refine lv_icmp_ge (tgt := 59) hx hb dX12_later_46 (by decide) (fun kc5 => ?_) (fun kc5 => ?_)
      · refine lv_aload_n hx hb dX12_later_59 rfl (lv_at hl 0 rfl) ?_
        refine lv_iload_n hx hb dX12_later_60 rfl (lv_at hl 1 rfl) ?_
        refine q_goi hW (q_runV (As := [.int i1]) (rest := []) hE hW (c_X12_readAt_tz l G ks4 a0 h0 i1 kv1 (q_fr.sub hz44a (by decide) (by decide))) kw_X12_302 (q_recv hE hW h0 rfl q_k12) rfl hl.1 rfl (Nat.le_of_ble_eq_true rfl) dX12_later_61 ⟨by decide, by decide⟩ ⟨by decide, by decide⟩) (by decide) (fun kx9 ks7 H locs kp6 kf8 hW => ?_)
        have kz10 := (q_fr.fr (q_fr.sub (F2 := [(40, 0), (40, 5), (40, 8)]) (A2 := [(46, 0, 54), (46, 57, 58), (46, 59, 101)]) hz44a (by decide) (by decide)) kf8 (by decide) (by decide))
        obtain rfl : (0 : Int32) = kx9 := (q_lit kp6 (by decide)).symm
        refine lv_istore_n (lv' := [(3, .int 0), (0, .ref a0), (1, .int i1), (2, .int i2)]) hx hb dX12_later_64 rfl hl (by decide) rfl (fun ls hl => ?_)
        refine lv_aload_n hx hb dX12_later_65 rfl (lv_at hl 1 rfl) ?_
        refine lv_aload_n hx hb dX12_later_66 rfl (lv_at hl 1 rfl) ?_
        refine q_getr hE hW h0 rfl q_k12 32 (by decide) rfl (hE.l wl_146) dX12_later_67 (fun kb11 ekb11 hkb11a hkb11b => ?_)
        have hkb11 : q_T G kb11 = 46 := q_tag hkb11a hkb11b
        refine lv_aload_n hx hb dX12_later_70 rfl (lv_at hl 1 rfl) ?_
        refine q_getr hE hW h0 rfl q_k12 9 (by decide) rfl (hE.l wl_135) dX12_later_71 (fun kb12 ekb12 hkb12a hkb12b => ?_)
        have hkb12 : q_T G kb12 = 46 := q_tag hkb12a hkb12b
        refine q_gov hW (q_runV (As := [.ref kb11, .ref kb12]) (rest := []) hE hW (c_X12_copyRow_tz l G ks7 a0 h0 kb11 hkb11 kb12 hkb12 (q_fr.sub kz10 (by decide) (by decide))) kw_X12_298 (q_recv hE hW h0 rfl q_k12) rfl hl.1 rfl (Nat.le_of_ble_eq_true rfl) dX12_later_74 ⟨by decide, by decide⟩ ⟨by decide, by decide⟩) (by decide) (fun ks14 H locs kp13 kf15 hW => ?_)
        have kz16 := (q_fr.and (q_fr.fr (q_fr.sub (F2 := [(40, 0), (40, 5), (40, 8)]) (A2 := []) kz10 (by decide) (by decide)) kf15 (by decide) (by decide)) kp13)
        refine lv_iload_n hx hb dX12_later_77 rfl (lv_at hl 0 rfl) ?_
        exact q_reti hE hr hlocks hW (⟨((q_c (k := 0) (x := 0) (by decide)).w (by decide) (by decide)), (by have := kv1.1; have := kv1.2; have := kv2.1; have := kv2.2; unfold kz_later; (repeat' split) <;> first | rfl | omega)⟩) dX12_later_78
      · have kv17 : q_V 0 19 kx3 := (q_lt1 vkx3 kv2 (Int32.not_le.mp kc5)).w (by decide) (by decide)
        have kv18 : q_V 1 20 i2 := (q_lt2 vkx3 kv2 (Int32.not_le.mp kc5)).w (by decide) (by decide)
        refine lv_aload_n hx hb dX12_later_49 rfl (lv_at hl 0 rfl) ?_
        refine q_gov hW (q_runV (As := []) (rest := []) hE hW (c_X12_pass_tz l G ks4 a0 h0 (q_fr.sub hz44a (by decide) (by decide))) kw_X12_283 (q_recv hE hW h0 rfl q_k12) rfl hl.1 rfl (Nat.le_of_ble_eq_true rfl) dX12_later_50 ⟨by decide, by decide⟩ ⟨by decide, by decide⟩) (by decide) (fun ks20 H locs kp19 kf21 hW => ?_)
        have kz22 := (q_fr.and (q_fr.fr (q_fr.sub (F2 := [(40, 0), (40, 5), (40, 8)]) (A2 := []) hz44a (by decide) (by decide)) kf21 (by decide) (by decide)) kp19.2)
        obtain ⟨kx23, ekx23⟩ : ∃ y : Int32, y = kx3 + 1 := ⟨_, rfl⟩
        have vkx23 : q_V 1 20 kx23 := by rw [ekx23]; exact (q_add kv17 (q_c (k := 1) (x := 1) (by decide)) (by decide) (by decide)).w (by decide) (by decide)
        have ikx23 : kx23.toInt = kx3.toInt + 1 := q_incT ekx23 kv17 (by decide) (by decide) (by decide)
        refine lv_iinc (v := kx23) (lv' := [(3, .int kx23), (0, .ref a0), (1, .int i1), (2, .int i2)]) hx hb dX12_later_53 hl (k := 3) rfl (by rw [ekx23]; rfl) (by decide) rfl (fun ls hl => ?_)
        refine lv_goto (tgt := 44) hx hb dX12_later_56 (by decide) ?_
        exact ih44a _ _ _ kv1 (kv18.w (by decide) (by decide)) kx23 (vkx23.w (by decide) (by decide)) hW (q_fr.sub kz22 (by decide) (by decide)) ls (lv_sub hl [1, 2, 3, 0] rfl) (Nat.lt_of_lt_of_le (q_up (ikx23) (show q_V 1 199 kx23 from (vkx23.w (by decide) (by decide))).2) (Nat.le_of_lt_succ hm44a))
  refine lv_iload_n hx hb dX12_later_0 rfl (lv_at hl 1 rfl) ?_
  refine lv_i2l (v := i1.toInt64) hx hb dX12_later_1 rfl ?_
  refine lv_lconst (v := 0) hx hb dX12_later_2 (by decide) ?_
  refine lv_ldc2 (v := 6) hx hb hE.1.2.2.2.1 (hE.w wl_557) dX12_later_3 ?_
  refine q_goi hW (q_runS (As := [.long (i1).toInt64, .long 0, .long 6]) (rest := []) hE hW (c_X12_in l G σ ((i1).toInt64) 0 6) kw_X12_99 rfl hl.1 rfl (Nat.le_of_ble_eq_true rfl) dX12_later_6 ⟨by decide, by decide⟩ ⟨by decide, by decide⟩) (by decide) (fun kx27 ks25 H locs kp24 kf26 hW => ?_)
  have kz28 := (q_fr.fr (q_fr.sub (F2 := [(40, 0), (40, 5), (40, 8)]) (A2 := [(46, 0, 54), (46, 57, 58), (46, 58, 59), (46, 59, 101)]) hz (by decide) (by decide)) kf26 (by decide) (by decide))
  refine lv_if_ne (tgt := 15) hx hb dX12_later_9 (by decide) (fun kc29 => ?_) (fun kc29 => ?_)
  · have kv30 : q_V 0 6 i1 := q_inV (kp24.2.1 kc29).1 (kp24.2.1 kc29).2 (q_lc (k := 0) (x := 0) (by decide)) (q_lc (k := 6) (x := 6) (by decide))
    have kv31 : q_V 1 1 kx27 := q_ne1 kp24.1 (q_c (k := 0) (x := 0) (by decide)) kc29 (by decide)
    refine lv_iload_n hx hb dX12_later_15 rfl (lv_at hl 2 rfl) ?_
    refine lv_i2l (v := i2.toInt64) hx hb dX12_later_16 rfl ?_
    refine lv_lconst (v := 0) hx hb dX12_later_17 (by decide) ?_
    refine lv_ldc2 (v := 20) hx hb hE.1.2.2.2.1 (hE.w wl_649) dX12_later_18 ?_
    refine q_goi hW (q_runS (As := [.long (i2).toInt64, .long 0, .long 20]) (rest := []) hE hW (c_X12_in l G ks25 ((i2).toInt64) 0 20) kw_X12_99 rfl hl.1 rfl (Nat.le_of_ble_eq_true rfl) dX12_later_21 ⟨by decide, by decide⟩ ⟨by decide, by decide⟩) (by decide) (fun kx35 ks33 H locs kp32 kf34 hW => ?_)
    have kz36 := (q_fr.fr (q_fr.sub (F2 := [(40, 0), (40, 5), (40, 8)]) (A2 := [(46, 0, 54), (46, 57, 58), (46, 58, 59), (46, 59, 101)]) kz28 (by decide) (by decide)) kf34 (by decide) (by decide))
    refine lv_if_ne (tgt := 30) hx hb dX12_later_24 (by decide) (fun kc37 => ?_) (fun kc37 => ?_)
    · have kv38 : q_V 0 20 i2 := q_inV (kp32.2.1 kc37).1 (kp32.2.1 kc37).2 (q_lc (k := 0) (x := 0) (by decide)) (q_lc (k := 20) (x := 20) (by decide))
      have kv39 : q_V 1 1 kx35 := q_ne1 kp32.1 (q_c (k := 0) (x := 0) (by decide)) kc37 (by decide)
      refine lv_aload_n hx hb dX12_later_30 rfl (lv_at hl 0 rfl) ?_
      refine lv_aload_n hx hb dX12_later_31 rfl (lv_at hl 0 rfl) ?_
      refine q_getr hE hW h0 rfl q_k12 9 (by decide) rfl (hE.l wl_135) dX12_later_32 (fun kb40 ekb40 hkb40a hkb40b => ?_)
      have hkb40 : q_T G kb40 = 46 := q_tag hkb40a hkb40b
      refine lv_aload_n hx hb dX12_later_35 rfl (lv_at hl 0 rfl) ?_
      refine q_getr hE hW h0 rfl q_k12 32 (by decide) rfl (hE.l wl_146) dX12_later_36 (fun kb41 ekb41 hkb41a hkb41b => ?_)
      have hkb41 : q_T G kb41 = 46 := q_tag hkb41a hkb41b
      refine q_gov hW (q_runV (As := [.ref kb40, .ref kb41]) (rest := []) hE hW (c_X12_copyRow_tz l G ks33 a0 h0 kb40 hkb40 kb41 hkb41 (q_fr.sub kz36 (by decide) (by decide))) kw_X12_298 (q_recv hE hW h0 rfl q_k12) rfl hl.1 rfl (Nat.le_of_ble_eq_true rfl) dX12_later_39 ⟨by decide, by decide⟩ ⟨by decide, by decide⟩) (by decide) (fun ks43 H locs kp42 kf44 hW => ?_)
      have kz45 := (q_fr.and (q_fr.fr (q_fr.sub (F2 := [(40, 0), (40, 5), (40, 8)]) (A2 := []) kz36 (by decide) (by decide)) kf44 (by decide) (by decide)) kp42)
      refine lv_iconst (v := 0) hx hb dX12_later_42 (by decide) ?_
      refine lv_istore_n (lv' := [(3, .int 0), (0, .ref a0), (1, .int i1), (2, .int i2)]) hx hb dX12_later_43 rfl hl (by decide) rfl (fun ls hl => ?_)
      exact lp44a _ _ _ _ kv30 kv38 0 ((q_c (k := 0) (x := 0) (by decide)).w (by decide) (by decide)) hW (q_fr.sub kz45 (by decide) (by decide)) ls (lv_sub hl [1, 2, 3, 0] rfl) (Nat.lt_succ_self _)
    · have kv46 : q_V 0 0 kx35 := q_eq1 kp32.1 (q_c (k := 0) (x := 0) (by decide)) kc37 (by decide) (by decide)
      refine lv_bipush (v := (-3)) hx hb dX12_later_27 (by decide) ?_
      exact q_reti hE hr hlocks hW (⟨((q_c (k := (-3)) (x := (-3)) (by decide)).w (by decide) (by decide)), (by have := kv30.1; have := kv30.2; have := (q_nin (kp32.2.2 kc37) (q_lc (k := 0) (x := 0) (by decide)) (q_lc (k := 20) (x := 20) (by decide))); unfold kz_later; (repeat' split) <;> first | rfl | omega)⟩) dX12_later_29
  · have kv47 : q_V 0 0 kx27 := q_eq1 kp24.1 (q_c (k := 0) (x := 0) (by decide)) kc29 (by decide) (by decide)
    refine lv_bipush (v := (-2)) hx hb dX12_later_12 (by decide) ?_
    exact q_reti hE hr hlocks hW (⟨((q_c (k := (-2)) (x := (-2)) (by decide)).w (by decide) (by decide)), (by have := (q_nin (kp24.2.2 kc29) (q_lc (k := 0) (x := 0) (by decide)) (q_lc (k := 6) (x := 6) (by decide))); unfold kz_later; (repeat' split) <;> first | rfl | omega)⟩) dX12_later_14
set_option maxHeartbeats 4000000 in
set_option maxRecDepth 100000 in
theorem c_X12_count_tz (l : Launch) (G : q_G) (σ : q_S) (a0 : Nat) (h0 : q_T G a0 = 40) (i1 : Int32) (hz : q_fr G [(40, 0), (40, 5), (40, 7), (40, 8), (40, 11), (40, 35), (40, 27)] [(46, 0, 54), (46, 57, 58), (46, 58, 59), (46, 59, 101), (63, 0, 3)] σ) : Met l yX12_count (Cond.code yX12_count cX12_count 2 (some .int) :: wsL_law) (q_Rm 2) (q_Pre G σ [.ref a0, .int i1]) (q_Qi G [] σ (fun r σ1 => q_V (-2147483648) 2147483647 r ∧ r = kz_count i1)) 0 0 (q_N G) := by
  refine q_ofW (ts := []) (by decide) (Nat.le_of_ble_eq_true rfl) ?_
  intro p e s m args below meth c hE hr hlocks hW ls hl
  have hE : q_E G p s m args c cX12_count 2 RX12 := hE
  have hx := hE.1.1
  have hb := hE.1.2.1
  have hl : lv_has ls 2 [(0, .ref a0), (1, .int i1)] := hl
  refine lv_iload_n hx hb dX12_count_0 rfl (lv_at hl 1 rfl) ?_
  rcases q_sw i1 0 13 with kc1 | kc1
  · refine lv_tableOut (tgt := 152) hx hb dX12_count_1 kc1 (by decide) ?_
    refine lv_bipush (v := (-3)) hx hb dX12_count_152 (by decide) ?_
    exact q_reti hE hr hlocks hW (⟨((q_c (k := (-3)) (x := (-3)) (by decide)).w (by decide) (by decide)), (by skip; unfold kz_count; (repeat' split) <;> first | rfl | omega)⟩) dX12_count_154
  · obtain ⟨kc1a, kc1b⟩ := kc1
    by_cases kc1_0 : i1.toInt = 0
    · refine lv_tableIn (off := 71) (tgt := 72) hx hb dX12_count_1 (by rw [kc1_0]; decide) (by rw [kc1_0]; decide) (by rw [kc1_0]; rfl) (by decide) ?_
      have fkc1_0 : q_V 0 0 i1 := q_c kc1_0
      refine lv_aload_n hx hb dX12_count_72 rfl (lv_at hl 0 rfl) ?_
      refine q_geti hE hW h0 rfl q_k12 0 (by decide) rfl (hE.l wl_358) dX12_count_73 (fun kx2 ekx2 vkx2 => ?_)
      obtain rfl : (0 : Int32) = kx2 := (q_fr.f hz (t := 40) (k := 0) (by decide) h0).symm.trans ekx2
      exact q_reti hE hr hlocks hW (⟨((q_c (k := 0) (x := 0) (by decide)).w (by decide) (by decide)), (by have := fkc1_0.1; have := fkc1_0.2; unfold kz_count; (repeat' split) <;> first | rfl | omega)⟩) dX12_count_76
    by_cases kc1_1 : i1.toInt = 1
    · refine lv_tableIn (off := 76) (tgt := 77) hx hb dX12_count_1 (by rw [kc1_1]; decide) (by rw [kc1_1]; decide) (by rw [kc1_1]; rfl) (by decide) ?_
      have fkc1_1 : q_V 1 1 i1 := q_c kc1_1
      refine lv_aload_n hx hb dX12_count_77 rfl (lv_at hl 0 rfl) ?_
      refine q_geti hE hW h0 rfl q_k12 5 (by decide) rfl (hE.l wl_360) dX12_count_78 (fun kx3 ekx3 vkx3 => ?_)
      obtain rfl : (0 : Int32) = kx3 := (q_fr.f hz (t := 40) (k := 5) (by decide) h0).symm.trans ekx3
      exact q_reti hE hr hlocks hW (⟨((q_c (k := 0) (x := 0) (by decide)).w (by decide) (by decide)), (by have := fkc1_1.1; have := fkc1_1.2; unfold kz_count; (repeat' split) <;> first | rfl | omega)⟩) dX12_count_81
    by_cases kc1_2 : i1.toInt = 2
    · refine lv_tableIn (off := 81) (tgt := 82) hx hb dX12_count_1 (by rw [kc1_2]; decide) (by rw [kc1_2]; decide) (by rw [kc1_2]; rfl) (by decide) ?_
      have fkc1_2 : q_V 2 2 i1 := q_c kc1_2
      refine lv_aload_n hx hb dX12_count_82 rfl (lv_at hl 0 rfl) ?_
      refine q_getr hE hW h0 rfl q_k12 9 (by decide) rfl (hE.l wl_135) dX12_count_83 (fun kb4 ekb4 hkb4a hkb4b => ?_)
      have hkb4 : q_T G kb4 = 46 := q_tag hkb4a hkb4b
      refine lv_bipush (v := 57) hx hb dX12_count_86 (by decide) ?_
      refine q_iald hE hW hkb4 rfl (q_in (q_c (k := 57) (x := 57) (by decide)) (by decide) (by decide)) dX12_count_88 (fun kx5 ekx5 gkx5 => ?_)
      obtain rfl : (0 : Int32) = kx5 := (q_fr.z hz (t := 46) (l := 57) (u := 58) (by decide) hkb4 (q_c (k := 57) (x := 57) (by decide)) (by decide) (by decide) (by decide)).symm.trans ekx5
      exact q_reti hE hr hlocks hW (⟨((q_c (k := 0) (x := 0) (by decide)).w (by decide) (by decide)), (by have := fkc1_2.1; have := fkc1_2.2; unfold kz_count; (repeat' split) <;> first | rfl | omega)⟩) dX12_count_89
    by_cases kc1_3 : i1.toInt = 3
    · refine lv_tableIn (off := 89) (tgt := 90) hx hb dX12_count_1 (by rw [kc1_3]; decide) (by rw [kc1_3]; decide) (by rw [kc1_3]; rfl) (by decide) ?_
      have fkc1_3 : q_V 3 3 i1 := q_c kc1_3
      refine lv_aload_n hx hb dX12_count_90 rfl (lv_at hl 0 rfl) ?_
      refine q_getr hE hW h0 rfl q_k12 9 (by decide) rfl (hE.l wl_135) dX12_count_91 (fun kb6 ekb6 hkb6a hkb6b => ?_)
      have hkb6 : q_T G kb6 = 46 := q_tag hkb6a hkb6b
      refine lv_bipush (v := 58) hx hb dX12_count_94 (by decide) ?_
      refine q_iald hE hW hkb6 rfl (q_in (q_c (k := 58) (x := 58) (by decide)) (by decide) (by decide)) dX12_count_96 (fun kx7 ekx7 gkx7 => ?_)
      obtain rfl : (0 : Int32) = kx7 := (q_fr.z hz (t := 46) (l := 58) (u := 59) (by decide) hkb6 (q_c (k := 58) (x := 58) (by decide)) (by decide) (by decide) (by decide)).symm.trans ekx7
      exact q_reti hE hr hlocks hW (⟨((q_c (k := 0) (x := 0) (by decide)).w (by decide) (by decide)), (by have := fkc1_3.1; have := fkc1_3.2; unfold kz_count; (repeat' split) <;> first | rfl | omega)⟩) dX12_count_97
    by_cases kc1_4 : i1.toInt = 4
    · refine lv_tableIn (off := 97) (tgt := 98) hx hb dX12_count_1 (by rw [kc1_4]; decide) (by rw [kc1_4]; decide) (by rw [kc1_4]; rfl) (by decide) ?_
      have fkc1_4 : q_V 4 4 i1 := q_c kc1_4
      refine lv_aload_n hx hb dX12_count_98 rfl (lv_at hl 0 rfl) ?_
      refine lv_iconst (v := 0) hx hb dX12_count_99 (by decide) ?_
      refine q_goi hW (q_runV (As := [.int 0]) (rest := []) hE hW (c_X12_cloudsAt_tz l G σ a0 h0 0 (q_fr.sub hz (by decide) (by decide))) kw_X12_365 (q_recv hE hW h0 rfl q_k12) rfl hl.1 rfl (Nat.le_of_ble_eq_true rfl) dX12_count_100 ⟨by decide, by decide⟩ ⟨by decide, by decide⟩) (by decide) (fun kx11 ks9 H locs kp8 kf10 hW => ?_)
      have kz12 := (q_fr.fr (q_fr.sub (F2 := [(40, 0), (40, 5), (40, 7), (40, 8), (40, 11), (40, 35), (40, 27)]) (A2 := [(46, 0, 54), (46, 57, 58), (46, 58, 59), (46, 59, 101), (63, 0, 3)]) hz (by decide) (by decide)) kf10 (by decide) (by decide))
      obtain rfl : (0 : Int32) = kx11 := (q_lit kp8 (by decide)).symm
      exact q_reti hE hr hlocks hW (⟨((q_c (k := 0) (x := 0) (by decide)).w (by decide) (by decide)), (by have := fkc1_4.1; have := fkc1_4.2; unfold kz_count; (repeat' split) <;> first | rfl | omega)⟩) dX12_count_103
    by_cases kc1_5 : i1.toInt = 5
    · refine lv_tableIn (off := 103) (tgt := 104) hx hb dX12_count_1 (by rw [kc1_5]; decide) (by rw [kc1_5]; decide) (by rw [kc1_5]; rfl) (by decide) ?_
      have fkc1_5 : q_V 5 5 i1 := q_c kc1_5
      refine lv_aload_n hx hb dX12_count_104 rfl (lv_at hl 0 rfl) ?_
      refine lv_iconst (v := 2) hx hb dX12_count_105 (by decide) ?_
      refine q_goi hW (q_runV (As := [.int 2]) (rest := []) hE hW (c_X12_cloudsAt_tz l G σ a0 h0 2 (q_fr.sub hz (by decide) (by decide))) kw_X12_365 (q_recv hE hW h0 rfl q_k12) rfl hl.1 rfl (Nat.le_of_ble_eq_true rfl) dX12_count_106 ⟨by decide, by decide⟩ ⟨by decide, by decide⟩) (by decide) (fun kx16 ks14 H locs kp13 kf15 hW => ?_)
      have kz17 := (q_fr.fr (q_fr.sub (F2 := [(40, 0), (40, 5), (40, 7), (40, 8), (40, 11), (40, 35), (40, 27)]) (A2 := [(46, 0, 54), (46, 57, 58), (46, 58, 59), (46, 59, 101), (63, 0, 3)]) hz (by decide) (by decide)) kf15 (by decide) (by decide))
      obtain rfl : (0 : Int32) = kx16 := (q_lit kp13 (by decide)).symm
      exact q_reti hE hr hlocks hW (⟨((q_c (k := 0) (x := 0) (by decide)).w (by decide) (by decide)), (by have := fkc1_5.1; have := fkc1_5.2; unfold kz_count; (repeat' split) <;> first | rfl | omega)⟩) dX12_count_109
    by_cases kc1_6 : i1.toInt = 6
    · refine lv_tableIn (off := 109) (tgt := 110) hx hb dX12_count_1 (by rw [kc1_6]; decide) (by rw [kc1_6]; decide) (by rw [kc1_6]; rfl) (by decide) ?_
      have fkc1_6 : q_V 6 6 i1 := q_c kc1_6
      refine lv_aload_n hx hb dX12_count_110 rfl (lv_at hl 0 rfl) ?_
      refine lv_iconst (v := 3) hx hb dX12_count_111 (by decide) ?_
      refine q_goi hW (q_runV (As := [.int 3]) (rest := []) hE hW (c_X12_cloudsAt_tz l G σ a0 h0 3 (q_fr.sub hz (by decide) (by decide))) kw_X12_365 (q_recv hE hW h0 rfl q_k12) rfl hl.1 rfl (Nat.le_of_ble_eq_true rfl) dX12_count_112 ⟨by decide, by decide⟩ ⟨by decide, by decide⟩) (by decide) (fun kx21 ks19 H locs kp18 kf20 hW => ?_)
      have kz22 := (q_fr.fr (q_fr.sub (F2 := [(40, 0), (40, 5), (40, 7), (40, 8), (40, 11), (40, 35), (40, 27)]) (A2 := [(46, 0, 54), (46, 57, 58), (46, 58, 59), (46, 59, 101), (63, 0, 3)]) hz (by decide) (by decide)) kf20 (by decide) (by decide))
      obtain rfl : (0 : Int32) = kx21 := (q_lit kp18 (by decide)).symm
      exact q_reti hE hr hlocks hW (⟨((q_c (k := 0) (x := 0) (by decide)).w (by decide) (by decide)), (by have := fkc1_6.1; have := fkc1_6.2; unfold kz_count; (repeat' split) <;> first | rfl | omega)⟩) dX12_count_115
    by_cases kc1_7 : i1.toInt = 7
    · refine lv_tableIn (off := 115) (tgt := 116) hx hb dX12_count_1 (by rw [kc1_7]; decide) (by rw [kc1_7]; decide) (by rw [kc1_7]; rfl) (by decide) ?_
      have fkc1_7 : q_V 7 7 i1 := q_c kc1_7
      refine lv_aload_n hx hb dX12_count_116 rfl (lv_at hl 0 rfl) ?_
      refine lv_iconst (v := 4) hx hb dX12_count_117 (by decide) ?_
      refine q_goi hW (q_runV (As := [.int 4]) (rest := []) hE hW (c_X12_cloudsAt_tz l G σ a0 h0 4 (q_fr.sub hz (by decide) (by decide))) kw_X12_365 (q_recv hE hW h0 rfl q_k12) rfl hl.1 rfl (Nat.le_of_ble_eq_true rfl) dX12_count_118 ⟨by decide, by decide⟩ ⟨by decide, by decide⟩) (by decide) (fun kx26 ks24 H locs kp23 kf25 hW => ?_)
      have kz27 := (q_fr.fr (q_fr.sub (F2 := [(40, 0), (40, 5), (40, 7), (40, 8), (40, 11), (40, 35), (40, 27)]) (A2 := [(46, 0, 54), (46, 57, 58), (46, 58, 59), (46, 59, 101), (63, 0, 3)]) hz (by decide) (by decide)) kf25 (by decide) (by decide))
      obtain rfl : (0 : Int32) = kx26 := (q_lit kp23 (by decide)).symm
      exact q_reti hE hr hlocks hW (⟨((q_c (k := 0) (x := 0) (by decide)).w (by decide) (by decide)), (by have := fkc1_7.1; have := fkc1_7.2; unfold kz_count; (repeat' split) <;> first | rfl | omega)⟩) dX12_count_121
    by_cases kc1_8 : i1.toInt = 8
    · refine lv_tableIn (off := 121) (tgt := 122) hx hb dX12_count_1 (by rw [kc1_8]; decide) (by rw [kc1_8]; decide) (by rw [kc1_8]; rfl) (by decide) ?_
      have fkc1_8 : q_V 8 8 i1 := q_c kc1_8
      refine lv_aload_n hx hb dX12_count_122 rfl (lv_at hl 0 rfl) ?_
      refine q_geti hE hW h0 rfl q_k12 35 (by decide) rfl (hE.l wl_445) dX12_count_123 (fun kx28 ekx28 vkx28 => ?_)
      obtain rfl : (0 : Int32) = kx28 := (q_fr.f hz (t := 40) (k := 35) (by decide) h0).symm.trans ekx28
      exact q_reti hE hr hlocks hW (⟨((q_c (k := 0) (x := 0) (by decide)).w (by decide) (by decide)), (by have := fkc1_8.1; have := fkc1_8.2; unfold kz_count; (repeat' split) <;> first | rfl | omega)⟩) dX12_count_126
    by_cases kc1_9 : i1.toInt = 9
    · refine lv_tableIn (off := 126) (tgt := 127) hx hb dX12_count_1 (by rw [kc1_9]; decide) (by rw [kc1_9]; decide) (by rw [kc1_9]; rfl) (by decide) ?_
      have fkc1_9 : q_V 9 9 i1 := q_c kc1_9
      refine lv_aload_n hx hb dX12_count_127 rfl (lv_at hl 0 rfl) ?_
      refine q_goi hW (q_runV (As := []) (rest := []) hE hW (c_X12_linesThere_tz l G σ a0 h0 (q_fr.sub hz (by decide) (by decide))) kw_X12_368 (q_recv hE hW h0 rfl q_k12) rfl hl.1 rfl (Nat.le_of_ble_eq_true rfl) dX12_count_128 ⟨by decide, by decide⟩ ⟨by decide, by decide⟩) (by decide) (fun kx32 ks30 H locs kp29 kf31 hW => ?_)
      have kz33 := (q_fr.fr (q_fr.sub (F2 := [(40, 0), (40, 5), (40, 7), (40, 8), (40, 11), (40, 35), (40, 27)]) (A2 := [(46, 0, 54), (46, 57, 58), (46, 58, 59), (46, 59, 101), (63, 0, 3)]) hz (by decide) (by decide)) kf31 (by decide) (by decide))
      obtain rfl : (0 : Int32) = kx32 := (q_lit kp29 (by decide)).symm
      exact q_reti hE hr hlocks hW (⟨((q_c (k := 0) (x := 0) (by decide)).w (by decide) (by decide)), (by have := fkc1_9.1; have := fkc1_9.2; unfold kz_count; (repeat' split) <;> first | rfl | omega)⟩) dX12_count_131
    by_cases kc1_10 : i1.toInt = 10
    · refine lv_tableIn (off := 131) (tgt := 132) hx hb dX12_count_1 (by rw [kc1_10]; decide) (by rw [kc1_10]; decide) (by rw [kc1_10]; rfl) (by decide) ?_
      have fkc1_10 : q_V 10 10 i1 := q_c kc1_10
      refine lv_aload_n hx hb dX12_count_132 rfl (lv_at hl 0 rfl) ?_
      refine q_geti hE hW h0 rfl q_k12 27 (by decide) rfl (hE.l wl_446) dX12_count_133 (fun kx34 ekx34 vkx34 => ?_)
      obtain rfl : (0 : Int32) = kx34 := (q_fr.f hz (t := 40) (k := 27) (by decide) h0).symm.trans ekx34
      exact q_reti hE hr hlocks hW (⟨((q_c (k := 0) (x := 0) (by decide)).w (by decide) (by decide)), (by have := fkc1_10.1; have := fkc1_10.2; unfold kz_count; (repeat' split) <;> first | rfl | omega)⟩) dX12_count_136
    by_cases kc1_11 : i1.toInt = 11
    · refine lv_tableIn (off := 136) (tgt := 137) hx hb dX12_count_1 (by rw [kc1_11]; decide) (by rw [kc1_11]; decide) (by rw [kc1_11]; rfl) (by decide) ?_
      have fkc1_11 : q_V 11 11 i1 := q_c kc1_11
      refine lv_aload_n hx hb dX12_count_137 rfl (lv_at hl 0 rfl) ?_
      refine q_geti hE hW h0 rfl q_k12 11 (by decide) rfl (hE.l wl_171) dX12_count_138 (fun kx35 ekx35 vkx35 => ?_)
      obtain rfl : (0 : Int32) = kx35 := (q_fr.f hz (t := 40) (k := 11) (by decide) h0).symm.trans ekx35
      exact q_reti hE hr hlocks hW (⟨((q_c (k := 0) (x := 0) (by decide)).w (by decide) (by decide)), (by have := fkc1_11.1; have := fkc1_11.2; unfold kz_count; (repeat' split) <;> first | rfl | omega)⟩) dX12_count_141
    by_cases kc1_12 : i1.toInt = 12
    · refine lv_tableIn (off := 141) (tgt := 142) hx hb dX12_count_1 (by rw [kc1_12]; decide) (by rw [kc1_12]; decide) (by rw [kc1_12]; rfl) (by decide) ?_
      have fkc1_12 : q_V 12 12 i1 := q_c kc1_12
      refine lv_aload_n hx hb dX12_count_142 rfl (lv_at hl 0 rfl) ?_
      refine q_geti hE hW h0 rfl q_k12 8 (by decide) rfl (hE.l wl_134) dX12_count_143 (fun kx36 ekx36 vkx36 => ?_)
      obtain rfl : (8 : Int32) = kx36 := (q_fr.f hz (t := 40) (k := 8) (by decide) h0).symm.trans ekx36
      exact q_reti hE hr hlocks hW (⟨((q_c (k := 8) (x := 8) (by decide)).w (by decide) (by decide)), (by have := fkc1_12.1; have := fkc1_12.2; unfold kz_count; (repeat' split) <;> first | rfl | omega)⟩) dX12_count_146
    have kc1_13 : i1.toInt = 13 := by omega
    refine lv_tableIn (off := 146) (tgt := 147) hx hb dX12_count_1 (by rw [kc1_13]; decide) (by rw [kc1_13]; decide) (by rw [kc1_13]; rfl) (by decide) ?_
    have fkc1_13 : q_V 13 13 i1 := q_c kc1_13
    refine lv_aload_n hx hb dX12_count_147 rfl (lv_at hl 0 rfl) ?_
    refine q_goi hW (q_runV (As := []) (rest := []) hE hW (c_X12_allWater_tz l G σ a0 h0 (q_fr.sub hz (by decide) (by decide))) kw_X12_371 (q_recv hE hW h0 rfl q_k12) rfl hl.1 rfl (Nat.le_of_ble_eq_true rfl) dX12_count_148 ⟨by decide, by decide⟩ ⟨by decide, by decide⟩) (by decide) (fun kx40 ks38 H locs kp37 kf39 hW => ?_)
    have kz41 := (q_fr.fr (q_fr.sub (F2 := [(40, 0), (40, 5), (40, 7), (40, 8), (40, 11), (40, 35), (40, 27)]) (A2 := [(46, 0, 54), (46, 57, 58), (46, 58, 59), (46, 59, 101), (63, 0, 3)]) hz (by decide) (by decide)) kf39 (by decide) (by decide))
    obtain rfl : (0 : Int32) = kx40 := (q_lit kp37 (by decide)).symm
    exact q_reti hE hr hlocks hW (⟨((q_c (k := 0) (x := 0) (by decide)).w (by decide) (by decide)), (by have := fkc1_13.1; have := fkc1_13.2; unfold kz_count; (repeat' split) <;> first | rfl | omega)⟩) dX12_count_151
set_option maxHeartbeats 4000000 in
set_option maxRecDepth 100000 in
theorem c_X12_pin_tz (l : Launch) (G : q_G) (σ : q_S) (a0 : Nat) (h0 : q_T G a0 = 40) (i1 : Int32) (i2 : Int32) (i3 : Int32) (i4 : Int32) (hz : q_fr G [(40, 0)] [(63, 0, 3)] σ) : Met l yX12_pin (Cond.code yX12_pin cX12_pin 6 (some .int) :: wsL_law) (q_Rm 3) (q_Pre G σ [.ref a0, .int i1, .int i2, .int i3, .int i4]) (q_Qi G [66] σ (fun r σ1 => q_V (-2147483648) 2147483647 r ∧ r = kz_pin i1 i2 i3 i4)) 0 0 (q_N G) := by
  refine q_ofW (ts := [66]) (by decide) (Nat.le_of_ble_eq_true rfl) ?_
  intro p e s m args below meth c hE hr hlocks hW ls hl
  have hE : q_E G p s m args c cX12_pin 6 RX12 := hE
  have hx := hE.1.1
  have hb := hE.1.2.1
  have hl : lv_has ls 6 [(0, .ref a0), (1, .int i1), (2, .int i2), (3, .int i3), (4, .int i4)] := hl
  refine lv_iload_n hx hb dX12_pin_0 rfl (lv_at hl 1 rfl) ?_
  refine q_goi hW (q_runS (As := [.int i1]) (rest := []) hE hW (c_X12_isRow_tx l G σ i1) kw_X12_354 rfl hl.1 rfl (Nat.le_of_ble_eq_true rfl) dX12_pin_1 ⟨by decide, by decide⟩ ⟨by decide, by decide⟩) (by decide) (fun kx4 ks2 H locs kp1 kf3 hW => ?_)
  have kz5 := (q_fr.fr (q_fr.sub (F2 := [(40, 0)]) (A2 := [(63, 0, 3)]) hz (by decide) (by decide)) kf3 (by decide) (by decide))
  refine lv_if_eq (tgt := 20) hx hb dX12_pin_4 (by decide) (fun kc6 => ?_) (fun kc6 => ?_)
  · have kv7 : q_V 0 0 kx4 := q_eq1 kp1.1 (q_c (k := 0) (x := 0) (by decide)) kc6 (by decide) (by decide)
    refine lv_bipush (v := (-2)) hx hb dX12_pin_20 (by decide) ?_
    exact q_reti hE hr hlocks hW (⟨((q_c (k := (-2)) (x := (-2)) (by decide)).w (by decide) (by decide)), (by have := (kp1.2.2 kc6); unfold kz_pin; (repeat' split) <;> first | rfl | omega)⟩) dX12_pin_22
  · have kv8 : q_V 0 2 i1 := kp1.2.1 kc6
    have kv9 : q_V 1 1 kx4 := q_ne1 kp1.1 (q_c (k := 0) (x := 0) (by decide)) kc6 (by decide)
    refine lv_iload_n hx hb dX12_pin_7 rfl (lv_at hl 3 rfl) ?_
    refine lv_if_ne (tgt := 23) hx hb dX12_pin_8 (by decide) (fun kc10 => ?_) (fun kc10 => ?_)
    · refine lv_iload_n hx hb dX12_pin_23 rfl (lv_at hl 3 rfl) ?_
      refine lv_i2l (v := i3.toInt64) hx hb dX12_pin_24 rfl ?_
      refine lv_lconst (v := 0) hx hb dX12_pin_25 (by decide) ?_
      refine lv_ldc2 (v := 2) hx hb hE.1.2.2.2.1 (hE.w wl_977) dX12_pin_26 ?_
      refine q_goi hW (q_runS (As := [.long (i3).toInt64, .long 0, .long 2]) (rest := []) hE hW (c_X12_in l G ks2 ((i3).toInt64) 0 2) kw_X12_99 rfl hl.1 rfl (Nat.le_of_ble_eq_true rfl) dX12_pin_29 ⟨by decide, by decide⟩ ⟨by decide, by decide⟩) (by decide) (fun kx14 ks12 H locs kp11 kf13 hW => ?_)
      have kz15 := (q_fr.fr (q_fr.sub (F2 := [(40, 0)]) (A2 := [(63, 0, 3)]) kz5 (by decide) (by decide)) kf13 (by decide) (by decide))
      refine lv_if_eq (tgt := 55) hx hb dX12_pin_32 (by decide) (fun kc16 => ?_) (fun kc16 => ?_)
      · have kv17 : q_V 0 0 kx14 := q_eq1 kp11.1 (q_c (k := 0) (x := 0) (by decide)) kc16 (by decide) (by decide)
        refine lv_bipush (v := (-3)) hx hb dX12_pin_55 (by decide) ?_
        exact q_reti hE hr hlocks hW (⟨((q_c (k := (-3)) (x := (-3)) (by decide)).w (by decide) (by decide)), (by have := kv8.1; have := kv8.2; have := (q_nin (kp11.2.2 kc16) (q_lc (k := 0) (x := 0) (by decide)) (q_lc (k := 2) (x := 2) (by decide))); have : i3.toInt ≠ 0 := fun q_e => kc10 (Int32.toInt_inj.mp (q_e.trans (by decide))); unfold kz_pin; (repeat' split) <;> first | rfl | omega)⟩) dX12_pin_57
      · have kv18 : q_V 0 2 i3 := q_inV (kp11.2.1 kc16).1 (kp11.2.1 kc16).2 (q_lc (k := 0) (x := 0) (by decide)) (q_lc (k := 2) (x := 2) (by decide))
        have kv19 : q_V 1 2 i3 := q_ne1 kv18 (q_c (k := 0) (x := 0) (by decide)) kc10 (by decide)
        have kv20 : q_V 1 1 kx14 := q_ne1 kp11.1 (q_c (k := 0) (x := 0) (by decide)) kc16 (by decide)
        refine lv_iload_n hx hb dX12_pin_35 rfl (lv_at hl 3 rfl) ?_
        refine lv_iconst (v := 1) hx hb dX12_pin_36 (by decide) ?_
        refine lv_icmp_ne (tgt := 58) hx hb dX12_pin_37 (by decide) (fun kc21 => ?_) (fun kc21 => ?_)
        · have kv22 : q_V 2 2 i3 := q_ne1 kv19 (q_c (k := 1) (x := 1) (by decide)) kc21 (by decide)
          refine lv_aload_n hx hb dX12_pin_58 rfl (lv_at hl 0 rfl) ?_
          refine q_getr hE hW h0 rfl q_k12 39 (by decide) rfl (hE.l wl_152) dX12_pin_59 (fun kb23 ekb23 hkb23a hkb23b => ?_)
          have hkb23 : q_T G kb23 = 63 := q_tag hkb23a hkb23b
          refine lv_iload_n hx hb dX12_pin_62 rfl (lv_at hl 1 rfl) ?_
          refine q_zald hE hW hkb23 rfl (q_in kv8 (by decide) (by decide)) dX12_pin_63 (fun kx24 ekx24 gkx24 => ?_)
          obtain rfl : (0 : Int32) = kx24 := (q_fr.z kz15 (t := 63) (l := 0) (u := 3) (by decide) hkb23 kv8 (by decide) (by decide) (by decide)).symm.trans ekx24
          refine lv_if_ne (tgt := 70) hx hb dX12_pin_64 (by decide) (fun kc25 => ?_) (fun kc25 => ?_)
          · exact q_neq (q_c (k := 0) (x := 0) (by decide)) (q_c (k := 0) (x := 0) (by decide)) kc25
          · refine lv_bipush (v := (-11)) hx hb dX12_pin_67 (by decide) ?_
            exact q_reti hE hr hlocks hW (⟨((q_c (k := (-11)) (x := (-11)) (by decide)).w (by decide) (by decide)), (by have := kv8.1; have := kv8.2; have := kv22.1; have := kv22.2; have : i3.toInt ≠ 0 := fun q_e => kc10 (Int32.toInt_inj.mp (q_e.trans (by decide))); have : i3.toInt ≠ 1 := fun q_e => kc21 (Int32.toInt_inj.mp (q_e.trans (by decide))); unfold kz_pin; (repeat' split) <;> first | rfl | omega)⟩) dX12_pin_69
        · have kv26 : q_V 1 1 i3 := q_eq1 kv19 (q_c (k := 1) (x := 1) (by decide)) kc21 (by decide) (by decide)
          refine lv_iload hx hb dX12_pin_40 (lv_at hl 4 rfl) ?_
          refine lv_i2l (v := i4.toInt64) hx hb dX12_pin_42 rfl ?_
          refine lv_ldc2 (v := (-999)) hx hb hE.1.2.2.2.1 (hE.w wl_1005) dX12_pin_43 ?_
          refine lv_ldc2 (v := 999) hx hb hE.1.2.2.2.1 (hE.w wl_1006) dX12_pin_46 ?_
          refine q_goi hW (q_runS (As := [.long (i4).toInt64, .long (-999), .long 999]) (rest := []) hE hW (c_X12_in l G ks12 ((i4).toInt64) (-999) 999) kw_X12_99 rfl hl.1 rfl (Nat.le_of_ble_eq_true rfl) dX12_pin_49 ⟨by decide, by decide⟩ ⟨by decide, by decide⟩) (by decide) (fun kx30 ks28 H locs kp27 kf29 hW => ?_)
          have kz31 := (q_fr.fr (q_fr.sub (F2 := [(40, 0)]) (A2 := [(63, 0, 3)]) kz15 (by decide) (by decide)) kf29 (by decide) (by decide))
          refine lv_if_ne (tgt := 58) hx hb dX12_pin_52 (by decide) (fun kc32 => ?_) (fun kc32 => ?_)
          · have kv33 : q_V (-999) 999 i4 := q_inV (kp27.2.1 kc32).1 (kp27.2.1 kc32).2 (q_lc (k := (-999)) (x := (-999)) (by decide)) (q_lc (k := 999) (x := 999) (by decide))
            have kv34 : q_V 1 1 kx30 := q_ne1 kp27.1 (q_c (k := 0) (x := 0) (by decide)) kc32 (by decide)
            refine lv_aload_n hx hb dX12_pin_58 rfl (lv_at hl 0 rfl) ?_
            refine q_getr hE hW h0 rfl q_k12 39 (by decide) rfl (hE.l wl_152) dX12_pin_59 (fun kb35 ekb35 hkb35a hkb35b => ?_)
            have hkb35 : q_T G kb35 = 63 := q_tag hkb35a hkb35b
            refine lv_iload_n hx hb dX12_pin_62 rfl (lv_at hl 1 rfl) ?_
            refine q_zald hE hW hkb35 rfl (q_in kv8 (by decide) (by decide)) dX12_pin_63 (fun kx36 ekx36 gkx36 => ?_)
            obtain rfl : (0 : Int32) = kx36 := (q_fr.z kz31 (t := 63) (l := 0) (u := 3) (by decide) hkb35 kv8 (by decide) (by decide) (by decide)).symm.trans ekx36
            refine lv_if_ne (tgt := 70) hx hb dX12_pin_64 (by decide) (fun kc37 => ?_) (fun kc37 => ?_)
            · exact q_neq (q_c (k := 0) (x := 0) (by decide)) (q_c (k := 0) (x := 0) (by decide)) kc37
            · refine lv_bipush (v := (-11)) hx hb dX12_pin_67 (by decide) ?_
              exact q_reti hE hr hlocks hW (⟨((q_c (k := (-11)) (x := (-11)) (by decide)).w (by decide) (by decide)), (by have := kv8.1; have := kv8.2; have := kv26.1; have := kv26.2; have := kv33.1; have := kv33.2; have : i3.toInt ≠ 0 := fun q_e => kc10 (Int32.toInt_inj.mp (q_e.trans (by decide))); unfold kz_pin; (repeat' split) <;> first | rfl | omega)⟩) dX12_pin_69
          · have kv38 : q_V 0 0 kx30 := q_eq1 kp27.1 (q_c (k := 0) (x := 0) (by decide)) kc32 (by decide) (by decide)
            refine lv_bipush (v := (-3)) hx hb dX12_pin_55 (by decide) ?_
            exact q_reti hE hr hlocks hW (⟨((q_c (k := (-3)) (x := (-3)) (by decide)).w (by decide) (by decide)), (by have := kv8.1; have := kv8.2; have := kv26.1; have := kv26.2; have := (q_nin (kp27.2.2 kc32) (q_lc (k := (-999)) (x := (-999)) (by decide)) (q_lc (k := 999) (x := 999) (by decide))); have : i3.toInt ≠ 0 := fun q_e => kc10 (Int32.toInt_inj.mp (q_e.trans (by decide))); unfold kz_pin; (repeat' split) <;> first | rfl | omega)⟩) dX12_pin_57
    · have kv39 : q_V 0 0 i3 := q_eq1 (q_all i3) (q_c (k := 0) (x := 0) (by decide)) kc10 (by decide) (by decide)
      refine lv_aload_n hx hb dX12_pin_11 rfl (lv_at hl 0 rfl) ?_
      refine lv_iload hx hb dX12_pin_12 (lv_at hl 4 rfl) ?_
      refine q_goi hW (q_runV (As := [.int i4]) (rest := []) hE hW (c_X12_isCloud_tz l G ks2 a0 h0 i4 (q_fr.sub kz5 (by decide) (by decide))) kw_X12_233 (q_recv hE hW h0 rfl q_k12) rfl hl.1 rfl (Nat.le_of_ble_eq_true rfl) dX12_pin_14 ⟨by decide, by decide⟩ ⟨by decide, by decide⟩) (by decide) (fun kx43 ks41 H locs kp40 kf42 hW => ?_)
      have kz44 := (q_fr.fr (q_fr.sub (F2 := [(40, 0)]) (A2 := [(63, 0, 3)]) kz5 (by decide) (by decide)) kf42 (by decide) (by decide))
      obtain rfl : (0 : Int32) = kx43 := (q_lit kp40 (by decide)).symm
      refine lv_if_ne (tgt := 23) hx hb dX12_pin_17 (by decide) (fun kc45 => ?_) (fun kc45 => ?_)
      · exact q_neq (q_c (k := 0) (x := 0) (by decide)) (q_c (k := 0) (x := 0) (by decide)) kc45
      · refine lv_bipush (v := (-2)) hx hb dX12_pin_20 (by decide) ?_
        exact q_reti hE hr hlocks hW (⟨((q_c (k := (-2)) (x := (-2)) (by decide)).w (by decide) (by decide)), (by have := kv8.1; have := kv8.2; have := kv39.1; have := kv39.2; unfold kz_pin; (repeat' split) <;> first | rfl | omega)⟩) dX12_pin_22
set_option maxHeartbeats 4000000 in
set_option maxRecDepth 100000 in
theorem c_X12_readsAll_tz (l : Launch) (G : q_G) (σ : q_S) (a0 : Nat) (h0 : q_T G a0 = 40) (hz : q_fr G [(40, 11)] [] σ) : Met l yX12_readsAll (Cond.code yX12_readsAll cX12_readsAll 3 (some .boolean) :: wsL_law) (q_Rm 6) (q_Pre G σ [.ref a0]) (q_Qi G [40, 48, 49, 50, 51, 52] σ (fun r σ1 => q_V 0 0 r ∧ q_I σ1 a0 14 = 0)) 0 0 (q_N G) := by
  refine q_ofW (ts := [40, 48, 49, 50, 51, 52]) (by decide) (Nat.le_of_ble_eq_true rfl) ?_
  intro p e s m args below meth c hE hr hlocks hW ls hl
  have hE : q_E G p s m args c cX12_readsAll 3 RX12 := hE
  have hx := hE.1.1
  have hb := hE.1.2.1
  have hl : lv_has ls 3 [(0, .ref a0)] := hl
  refine lv_aload_n hx hb dX12_readsAll_0 rfl (lv_at hl 0 rfl) ?_
  refine q_gov hW (q_runV (As := []) (rest := []) hE hW (c_X12_readAsTold_tz l G σ a0 h0 (q_fr.sub hz (by decide) (by decide))) kw_X12_211 (q_recv hE hW h0 rfl q_k12) rfl hl.1 rfl (Nat.le_of_ble_eq_true rfl) dX12_readsAll_1 ⟨by decide, by decide⟩ ⟨by decide, by decide⟩) (by decide) (fun ks2 H locs kp1 kf3 hW => ?_)
  have kz4 := (q_fr.and (q_fr.fr (q_fr.sub (F2 := []) (A2 := []) hz (by decide) (by decide)) kf3 (by decide) (by decide)) kp1)
  refine lv_aload_n hx hb dX12_readsAll_4 rfl (lv_at hl 0 rfl) ?_
  refine lv_iconst (v := 0) hx hb dX12_readsAll_5 (by decide) ?_
  refine q_puti hE hW h0 rfl q_k12 tyX12 tyX12_ok 12 (by decide) rfl (hE.l wl_351) rfl rfl rfl ((q_c (k := 0) (x := 0) (by decide)).w (by decide) (by decide)) (by decide) dX12_readsAll_6 (fun H locs ks5 kp6 hW => ?_)
  have kz7 := (kz4.wI kp6 h0 (Or.inl (by decide)))
  refine lv_aload_n hx hb dX12_readsAll_9 rfl (lv_at hl 0 rfl) ?_
  refine q_gov hW (q_runV (As := []) (rest := []) hE hW (c_X12_next_tz l G ks5 a0 h0 kp6.1 (q_fr.sub kz7 (by decide) (by decide))) kw_X12_163 (q_recv hE hW h0 rfl q_k12) rfl hl.1 rfl (Nat.le_of_ble_eq_true rfl) dX12_readsAll_10 ⟨by decide, by decide⟩ ⟨by decide, by decide⟩) (by decide) (fun ks9 H locs kp8 kf10 hW => ?_)
  have kz11 := (q_fr.fr (q_fr.sub (F2 := []) (A2 := []) kz7 (by decide) (by decide)) kf10 (by decide) (by decide))
  refine lv_iconst (v := 1) hx hb dX12_readsAll_13 (by decide) ?_
  refine lv_istore_n (lv' := [(1, .int 1), (0, .ref a0)]) hx hb dX12_readsAll_14 rfl hl (by decide) rfl (fun ls hl => ?_)
  refine lv_iconst (v := 1) hx hb dX12_readsAll_15 (by decide) ?_
  refine lv_istore_n (lv' := [(2, .int 1), (1, .int 1), (0, .ref a0)]) hx hb dX12_readsAll_16 rfl hl (by decide) rfl (fun ls hl => ?_)
  refine lv_iload_n hx hb dX12_readsAll_17 rfl (lv_at hl 1 rfl) ?_
  refine lv_if_eq (tgt := 133) hx hb dX12_readsAll_18 (by decide) (fun kc12 => ?_) (fun kc12 => ?_)
  · have kv13 : q_V 1 0 1 := q_eq1 (q_c (k := 1) (x := 1) (by decide)) (q_c (k := 0) (x := 0) (by decide)) kc12 (by decide) (by decide)
    exact (kv13.no (by decide))
  · refine lv_iload_n hx hb dX12_readsAll_21 rfl (lv_at hl 0 rfl) ?_
    refine lv_if_eq (tgt := 133) hx hb dX12_readsAll_22 (by decide) (fun kc14 => ?_) (fun kc14 => ?_)
    · have kv15 : q_V 1 0 1 := q_eq1 (q_c (k := 1) (x := 1) (by decide)) (q_c (k := 0) (x := 0) (by decide)) kc14 (by decide) (by decide)
      exact (kv15.no (by decide))
    · refine lv_aload_n hx hb dX12_readsAll_25 rfl (lv_at hl 2 rfl) ?_
      refine q_geti hE hW h0 rfl q_k12 13 (by decide) rfl (hE.l wl_352) dX12_readsAll_26 (fun kx16 ekx16 vkx16 => ?_)
      obtain rfl : 0 = kx16 := kp8.1.symm.trans ekx16
      refine lv_iconst (v := 1) hx hb dX12_readsAll_29 (by decide) ?_
      refine lv_icmp_ne (tgt := 44) hx hb dX12_readsAll_30 (by decide) (fun kc17 => ?_) (fun kc17 => ?_)
      · refine lv_iconst (v := 0) hx hb dX12_readsAll_44 (by decide) ?_
        refine lv_istore_n (lv' := [(1, .int 0), (2, .int 1), (0, .ref a0)]) hx hb dX12_readsAll_45 rfl hl (by decide) rfl (fun ls hl => ?_)
        refine lv_iload_n hx hb dX12_readsAll_46 rfl (lv_at hl 0 rfl) ?_
        refine lv_if_eq (tgt := 17) hx hb dX12_readsAll_47 (by decide) (fun kc18 => ?_) (fun kc18 => ?_)
        · refine lv_iload_n hx hb dX12_readsAll_17 rfl (lv_at hl 0 rfl) ?_
          refine lv_if_eq (tgt := 133) hx hb dX12_readsAll_18 (by decide) (fun kc19 => ?_) (fun kc19 => ?_)
          · refine lv_iload_n hx hb dX12_readsAll_133 rfl (lv_at hl 0 rfl) ?_
            exact q_retz hE hr hlocks hW (Or.inl rfl) (⟨(q_c (k := 0) (x := 0) (by decide)), kp8.2⟩) dX12_readsAll_134
          · exact q_neq (q_c (k := 0) (x := 0) (by decide)) (q_c (k := 0) (x := 0) (by decide)) kc19
        · exact q_neq (q_c (k := 0) (x := 0) (by decide)) (q_c (k := 0) (x := 0) (by decide)) kc18
      · have kv20 : q_V 1 0 0 := q_eq1 (q_c (k := 0) (x := 0) (by decide)) (q_c (k := 1) (x := 1) (by decide)) kc17 (by decide) (by decide)
        exact (kv20.no (by decide))
set_option maxHeartbeats 4000000 in
set_option maxRecDepth 100000 in
theorem c_X12_bestWay_tz (l : Launch) (G : q_G) (σ : q_S) (a0 : Nat) (h0 : q_T G a0 = 40) (hz : q_fr G [(40, 0), (40, 5)] [] σ) : Met l yX12_bestWay (Cond.code yX12_bestWay cX12_bestWay 6 (some .int) :: wsL_law) (q_Rm 5) (q_Pre G σ [.ref a0]) (q_Qi G [56, 59] σ (fun r σ1 => q_V 0 0 r)) 0 0 (q_N G) := by
  refine q_ofW (ts := [56, 59]) (by decide) (Nat.le_of_ble_eq_true rfl) ?_
  intro p e s m args below meth c hE hr hlocks hW ls hl
  have hE : q_E G p s m args c cX12_bestWay 6 RX12 := hE
  have hx := hE.1.1
  have hb := hE.1.2.1
  have hl : lv_has ls 6 [(0, .ref a0)] := hl
  refine lv_iconst (v := 0) hx hb dX12_bestWay_0 (by decide) ?_
  refine lv_istore_n (lv' := [(1, .int 0), (0, .ref a0)]) hx hb dX12_bestWay_1 rfl hl (by decide) rfl (fun ls hl => ?_)
  refine lv_iload_n hx hb dX12_bestWay_2 rfl (lv_at hl 0 rfl) ?_
  refine lv_aload_n hx hb dX12_bestWay_3 rfl (lv_at hl 1 rfl) ?_
  refine q_geti hE hW h0 rfl q_k12 5 (by decide) rfl (hE.l wl_360) dX12_bestWay_4 (fun kx1 ekx1 vkx1 => ?_)
  obtain rfl : (0 : Int32) = kx1 := (q_fr.f hz (t := 40) (k := 5) (by decide) h0).symm.trans ekx1
  refine lv_icmp_ge (tgt := 60) hx hb dX12_bestWay_7 (by decide) (fun kc2 => ?_) (fun kc2 => ?_)
  · refine lv_iconst (v := 1) hx hb dX12_bestWay_60 (by decide) ?_
    refine lv_istore_n (lv' := [(1, .int 1), (0, .ref a0)]) hx hb dX12_bestWay_61 rfl hl (by decide) rfl (fun ls hl => ?_)
    refine lv_iconst (v := 0) hx hb dX12_bestWay_62 (by decide) ?_
    refine lv_istore_n (lv' := [(2, .int 0), (1, .int 1), (0, .ref a0)]) hx hb dX12_bestWay_63 rfl hl (by decide) rfl (fun ls hl => ?_)
    refine lv_iload_n hx hb dX12_bestWay_64 rfl (lv_at hl 0 rfl) ?_
    refine lv_aload_n hx hb dX12_bestWay_65 rfl (lv_at hl 2 rfl) ?_
    refine q_geti hE hW h0 rfl q_k12 0 (by decide) rfl (hE.l wl_358) dX12_bestWay_66 (fun kx3 ekx3 vkx3 => ?_)
    obtain rfl : (0 : Int32) = kx3 := (q_fr.f hz (t := 40) (k := 0) (by decide) h0).symm.trans ekx3
    refine lv_icmp_ge (tgt := 85) hx hb dX12_bestWay_69 (by decide) (fun kc4 => ?_) (fun kc4 => ?_)
    · refine lv_iconst (v := (-1)) hx hb dX12_bestWay_85 (by decide) ?_
      refine lv_istore_n (lv' := [(2, .int (-1)), (1, .int 1), (0, .ref a0)]) hx hb dX12_bestWay_86 rfl hl (by decide) rfl (fun ls hl => ?_)
      refine lv_iconst (v := (-1)) hx hb dX12_bestWay_87 (by decide) ?_
      refine lv_istore_n (lv' := [(3, .int (-1)), (2, .int (-1)), (1, .int 1), (0, .ref a0)]) hx hb dX12_bestWay_88 rfl hl (by decide) rfl (fun ls hl => ?_)
      refine lv_iconst (v := 0) hx hb dX12_bestWay_89 (by decide) ?_
      refine lv_istore (lv' := [(4, .int 0), (3, .int (-1)), (2, .int (-1)), (1, .int 1), (0, .ref a0)]) hx hb dX12_bestWay_90 hl (by decide) rfl (fun ls hl => ?_)
      refine lv_iload hx hb dX12_bestWay_92 (lv_at hl 0 rfl) ?_
      refine lv_iload_n hx hb dX12_bestWay_94 rfl (lv_at hl 3 rfl) ?_
      refine lv_icmp_ge (tgt := 138) hx hb dX12_bestWay_95 (by decide) (fun kc5 => ?_) (fun kc5 => ?_)
      · have kv6 : q_V 1 0 1 := (q_le1 (q_c (k := 1) (x := 1) (by decide)) (q_c (k := 0) (x := 0) (by decide)) kc5).w (by decide) (by decide)
        exact (kv6.no (by decide))
      · refine lv_aload_n hx hb dX12_bestWay_98 rfl (lv_at hl 4 rfl) ?_
        refine lv_iload hx hb dX12_bestWay_99 (lv_at hl 0 rfl) ?_
        refine q_goi hW (q_runV (As := [.int 0]) (rest := []) hE hW (c_X12_washedBy_tz l G σ a0 h0 0 (q_fr.sub hz (by decide) (by decide))) kw_X12_326 (q_recv hE hW h0 rfl q_k12) rfl hl.1 rfl (Nat.le_of_ble_eq_true rfl) dX12_bestWay_101 ⟨by decide, by decide⟩ ⟨by decide, by decide⟩) (by decide) (fun kx10 ks8 H locs kp7 kf9 hW => ?_)
        have kz11 := (q_fr.fr (q_fr.sub (F2 := [(40, 0), (40, 5)]) (A2 := []) hz (by decide) (by decide)) kf9 (by decide) (by decide))
        obtain rfl : (0 : Int32) = kx10 := (q_lit kp7 (by decide)).symm
        refine lv_istore (lv' := [(5, .int 0), (4, .int 0), (3, .int (-1)), (2, .int (-1)), (1, .int 1), (0, .ref a0)]) hx hb dX12_bestWay_104 hl (by decide) rfl (fun ls hl => ?_)
        refine lv_iload hx hb dX12_bestWay_106 (lv_at hl 0 rfl) ?_
        refine lv_iload_n hx hb dX12_bestWay_108 rfl (lv_at hl 2 rfl) ?_
        refine lv_icmp_le (tgt := 117) hx hb dX12_bestWay_109 (by decide) (fun kc12 => ?_) (fun kc12 => ?_)
        · have kv13 : q_V 0 (-1) 0 := (q_le1 (q_c (k := 0) (x := 0) (by decide)) (q_c (k := (-1)) (x := (-1)) (by decide)) kc12).w (by decide) (by decide)
          exact (kv13.no (by decide))
        · refine lv_iload hx hb dX12_bestWay_112 (lv_at hl 1 rfl) ?_
          refine lv_goto (tgt := 118) hx hb dX12_bestWay_114 (by decide) ?_
          refine lv_istore_n (lv' := [(2, .int 0), (5, .int 0), (4, .int 0), (3, .int (-1)), (1, .int 1), (0, .ref a0)]) hx hb dX12_bestWay_118 rfl hl (by decide) rfl (fun ls hl => ?_)
          refine lv_iload hx hb dX12_bestWay_119 (lv_at hl 1 rfl) ?_
          refine lv_iload_n hx hb dX12_bestWay_121 rfl (lv_at hl 3 rfl) ?_
          refine lv_icmp_le (tgt := 130) hx hb dX12_bestWay_122 (by decide) (fun kc14 => ?_) (fun kc14 => ?_)
          · have kv15 : q_V 0 (-1) 0 := (q_le1 (q_c (k := 0) (x := 0) (by decide)) (q_c (k := (-1)) (x := (-1)) (by decide)) kc14).w (by decide) (by decide)
            exact (kv15.no (by decide))
          · refine lv_iload hx hb dX12_bestWay_125 (lv_at hl 1 rfl) ?_
            refine lv_goto (tgt := 131) hx hb dX12_bestWay_127 (by decide) ?_
            refine lv_istore_n (lv' := [(3, .int 0), (2, .int 0), (5, .int 0), (4, .int 0), (1, .int 1), (0, .ref a0)]) hx hb dX12_bestWay_131 rfl hl (by decide) rfl (fun ls hl => ?_)
            refine lv_iinc (v := 1) (lv' := [(4, .int 1), (3, .int 0), (2, .int 0), (5, .int 0), (1, .int 1), (0, .ref a0)]) hx hb dX12_bestWay_132 hl (k := 3) rfl (by decide) (by decide) rfl (fun ls hl => ?_)
            refine lv_goto (tgt := 92) hx hb dX12_bestWay_135 (by decide) ?_
            refine lv_iload hx hb dX12_bestWay_92 (lv_at hl 0 rfl) ?_
            refine lv_iload_n hx hb dX12_bestWay_94 rfl (lv_at hl 4 rfl) ?_
            refine lv_icmp_ge (tgt := 138) hx hb dX12_bestWay_95 (by decide) (fun kc16 => ?_) (fun kc16 => ?_)
            · refine lv_iload_n hx hb dX12_bestWay_138 rfl (lv_at hl 2 rfl) ?_
              exact q_reti hE hr hlocks hW ((q_c (k := 0) (x := 0) (by decide))) dX12_bestWay_139
            · have kv17 : q_V 1 0 1 := (q_lt1 (q_c (k := 1) (x := 1) (by decide)) (q_c (k := 1) (x := 1) (by decide)) (Int32.not_le.mp kc16)).w (by decide) (by decide)
              exact (kv17.no (by decide))
    · have kv18 : q_V 0 (-1) 0 := (q_lt1 (q_c (k := 0) (x := 0) (by decide)) (q_c (k := 0) (x := 0) (by decide)) (Int32.not_le.mp kc4)).w (by decide) (by decide)
      exact (kv18.no (by decide))
  · have kv19 : q_V 0 (-1) 0 := (q_lt1 (q_c (k := 0) (x := 0) (by decide)) (q_c (k := 0) (x := 0) (by decide)) (Int32.not_le.mp kc2)).w (by decide) (by decide)
    exact (kv19.no (by decide))
set_option maxHeartbeats 4000000 in
set_option maxRecDepth 100000 in
theorem c_X12_fault_tz (l : Launch) (G : q_G) (σ : q_S) (a0 : Nat) (h0 : q_T G a0 = 40) (hz : q_fr G [(40, 11)] [] σ) : Met l yX12_fault (Cond.code yX12_fault cX12_fault 1 (some .int) :: wsL_law) (q_Rm 8) (q_Pre G σ [.ref a0]) (q_Qi G [40, 48, 49, 50, 51, 52] σ (fun r σ1 => q_V 0 0 r)) 0 0 (q_N G) := by
  refine q_ofW (ts := [40, 48, 49, 50, 51, 52]) (by decide) (Nat.le_of_ble_eq_true rfl) ?_
  intro p e s m args below meth c hE hr hlocks hW ls hl
  have hE : q_E G p s m args c cX12_fault 1 RX12 := hE
  have hx := hE.1.1
  have hb := hE.1.2.1
  have hl : lv_has ls 1 [(0, .ref a0)] := hl
  refine lv_aload_n hx hb dX12_fault_0 rfl (lv_at hl 0 rfl) ?_
  refine q_goi hW (q_runV (As := []) (rest := []) hE hW (c_X12_readsAll_tz l G σ a0 h0 (q_fr.sub hz (by decide) (by decide))) kw_X12_217 (q_recv hE hW h0 rfl q_k12) rfl hl.1 rfl (Nat.le_of_ble_eq_true rfl) dX12_fault_1 ⟨by decide, by decide⟩ ⟨by decide, by decide⟩) (by decide) (fun kx4 ks2 H locs kp1 kf3 hW => ?_)
  have kz5 := (q_fr.fr (q_fr.sub (F2 := []) (A2 := []) hz (by decide) (by decide)) kf3 (by decide) (by decide))
  obtain rfl : (0 : Int32) = kx4 := (q_lit kp1.1 (by decide)).symm
  refine lv_if_eq (tgt := 11) hx hb dX12_fault_4 (by decide) (fun kc6 => ?_) (fun kc6 => ?_)
  · refine lv_aload_n hx hb dX12_fault_11 rfl (lv_at hl 0 rfl) ?_
    refine q_geti hE hW h0 rfl q_k12 14 (by decide) rfl (hE.l wl_346) dX12_fault_12 (fun kx7 ekx7 vkx7 => ?_)
    obtain rfl : 0 = kx7 := kp1.2.symm.trans ekx7
    exact q_reti hE hr hlocks hW ((q_c (k := 0) (x := 0) (by decide))) dX12_fault_15
  · exact q_neq (q_c (k := 0) (x := 0) (by decide)) (q_c (k := 0) (x := 0) (by decide)) kc6
set_option maxHeartbeats 4000000 in
set_option maxRecDepth 100000 in
theorem c_X12_summer_tz (l : Launch) (G : q_G) (σ : q_S) (a0 : Nat) (h0 : q_T G a0 = 40) (hz : q_fr G [(40, 11)] [] σ) : Met l yX12_summer (Cond.code yX12_summer cX12_summer 2 (some .int) :: wsL_law) (q_Rm 8) (q_Pre G σ [.ref a0]) (q_Qi G [40, 41, 42, 43, 44, 45, 46, 48, 49, 50, 51, 52, 55, 63] σ (fun r σ1 => q_V (-4) (-4) r)) 0 0 (q_N G) := by
  refine q_ofW (ts := [40, 41, 42, 43, 44, 45, 46, 48, 49, 50, 51, 52, 55, 63]) (by decide) (Nat.le_of_ble_eq_true rfl) ?_
  intro p e s m args below meth c hE hr hlocks hW ls hl
  have hE : q_E G p s m args c cX12_summer 2 RX12 := hE
  have hx := hE.1.1
  have hb := hE.1.2.1
  have hl : lv_has ls 2 [(0, .ref a0)] := hl
  refine lv_aload_n hx hb dX12_summer_0 rfl (lv_at hl 0 rfl) ?_
  refine q_goi hW (q_runV (As := []) (rest := []) hE hW (c_X12_readsAll_tz l G σ a0 h0 (q_fr.sub hz (by decide) (by decide))) kw_X12_217 (q_recv hE hW h0 rfl q_k12) rfl hl.1 rfl (Nat.le_of_ble_eq_true rfl) dX12_summer_1 ⟨by decide, by decide⟩ ⟨by decide, by decide⟩) (by decide) (fun kx4 ks2 H locs kp1 kf3 hW => ?_)
  have kz5 := (q_fr.fr (q_fr.sub (F2 := []) (A2 := []) hz (by decide) (by decide)) kf3 (by decide) (by decide))
  obtain rfl : (0 : Int32) = kx4 := (q_lit kp1.1 (by decide)).symm
  refine lv_if_ne (tgt := 10) hx hb dX12_summer_4 (by decide) (fun kc6 => ?_) (fun kc6 => ?_)
  · exact q_neq (q_c (k := 0) (x := 0) (by decide)) (q_c (k := 0) (x := 0) (by decide)) kc6
  · refine lv_bipush (v := (-4)) hx hb dX12_summer_7 (by decide) ?_
    exact q_reti hE hr hlocks hW ((q_c (k := (-4)) (x := (-4)) (by decide))) dX12_summer_9
set_option maxHeartbeats 4000000 in
set_option maxRecDepth 100000 in
theorem c_X12_plan_tz (l : Launch) (G : q_G) (σ : q_S) (a0 : Nat) (h0 : q_T G a0 = 40) (i1 : Int32) (hz : q_fr G [(40, 0), (40, 5)] [] σ) : Met l yX12_plan (Cond.code yX12_plan cX12_plan 4 (some .int) :: wsL_law) (q_Rm 6) (q_Pre G σ [.ref a0, .int i1]) (q_Qi G [56, 59] σ (fun r σ1 => q_V (-2147483648) 2147483647 r ∧ r = kz_plan i1)) 0 0 (q_N G) := by
  refine q_ofW (ts := [56, 59]) (by decide) (Nat.le_of_ble_eq_true rfl) ?_
  intro p e s m args below meth c hE hr hlocks hW ls hl
  have hE : q_E G p s m args c cX12_plan 4 RX12 := hE
  have hx := hE.1.1
  have hb := hE.1.2.1
  have hl : lv_has ls 4 [(0, .ref a0), (1, .int i1)] := hl
  refine lv_iload_n hx hb dX12_plan_0 rfl (lv_at hl 1 rfl) ?_
  refine lv_iconst (v := (-1)) hx hb dX12_plan_1 (by decide) ?_
  refine lv_icmp_eq (tgt := 16) hx hb dX12_plan_2 (by decide) (fun kc1 => ?_) (fun kc1 => ?_)
  · have kv2 : q_V (-1) (-1) i1 := q_eq1 (q_all i1) (q_c (k := (-1)) (x := (-1)) (by decide)) kc1 (by decide) (by decide)
    refine lv_aload_n hx hb dX12_plan_16 rfl (lv_at hl 0 rfl) ?_
    refine q_goi hW (q_runV (As := []) (rest := []) hE hW (c_X12_bestWay_tz l G σ a0 h0 (q_fr.sub hz (by decide) (by decide))) kw_X12_329 (q_recv hE hW h0 rfl q_k12) rfl hl.1 rfl (Nat.le_of_ble_eq_true rfl) dX12_plan_17 ⟨by decide, by decide⟩ ⟨by decide, by decide⟩) (by decide) (fun kx6 ks4 H locs kp3 kf5 hW => ?_)
    have kz7 := (q_fr.fr (q_fr.sub (F2 := [(40, 0), (40, 5)]) (A2 := []) hz (by decide) (by decide)) kf5 (by decide) (by decide))
    obtain rfl : (0 : Int32) = kx6 := (q_lit kp3 (by decide)).symm
    refine lv_istore_n (lv' := [(2, .int 0), (0, .ref a0), (1, .int i1)]) hx hb dX12_plan_20 rfl hl (by decide) rfl (fun ls hl => ?_)
    refine lv_iload_n hx hb dX12_plan_21 rfl (lv_at hl 2 rfl) ?_
    refine lv_iconst (v := (-1)) hx hb dX12_plan_22 (by decide) ?_
    refine lv_icmp_ne (tgt := 32) hx hb dX12_plan_23 (by decide) (fun kc8 => ?_) (fun kc8 => ?_)
    · exact q_neq kv2 (q_c (k := (-1)) (x := (-1)) (by decide)) kc8
    · refine lv_aload_n hx hb dX12_plan_26 rfl (lv_at hl 1 rfl) ?_
      refine lv_iload_n hx hb dX12_plan_27 rfl (lv_at hl 0 rfl) ?_
      refine q_goi hW (q_runV (As := [.int 0]) (rest := []) hE hW (c_X12_washedBy_tz l G ks4 a0 h0 0 (q_fr.sub kz7 (by decide) (by decide))) kw_X12_326 (q_recv hE hW h0 rfl q_k12) rfl hl.1 rfl (Nat.le_of_ble_eq_true rfl) dX12_plan_28 ⟨by decide, by decide⟩ ⟨by decide, by decide⟩) (by decide) (fun kx12 ks10 H locs kp9 kf11 hW => ?_)
      have kz13 := (q_fr.fr (q_fr.sub (F2 := [(40, 0), (40, 5)]) (A2 := []) kz7 (by decide) (by decide)) kf11 (by decide) (by decide))
      obtain rfl : (0 : Int32) = kx12 := (q_lit kp9 (by decide)).symm
      exact q_reti hE hr hlocks hW (⟨((q_c (k := 0) (x := 0) (by decide)).w (by decide) (by decide)), (by have := kv2.1; have := kv2.2; unfold kz_plan; (repeat' split) <;> first | rfl | omega)⟩) dX12_plan_31
  · refine lv_aload_n hx hb dX12_plan_5 rfl (lv_at hl 0 rfl) ?_
    refine lv_iload_n hx hb dX12_plan_6 rfl (lv_at hl 1 rfl) ?_
    refine q_goi hW (q_runV (As := [.int i1]) (rest := []) hE hW (c_X12_isCloud_tz l G σ a0 h0 i1 (q_fr.sub hz (by decide) (by decide))) kw_X12_233 (q_recv hE hW h0 rfl q_k12) rfl hl.1 rfl (Nat.le_of_ble_eq_true rfl) dX12_plan_7 ⟨by decide, by decide⟩ ⟨by decide, by decide⟩) (by decide) (fun kx17 ks15 H locs kp14 kf16 hW => ?_)
    have kz18 := (q_fr.fr (q_fr.sub (F2 := [(40, 0), (40, 5)]) (A2 := []) hz (by decide) (by decide)) kf16 (by decide) (by decide))
    obtain rfl : (0 : Int32) = kx17 := (q_lit kp14 (by decide)).symm
    refine lv_if_ne (tgt := 16) hx hb dX12_plan_10 (by decide) (fun kc19 => ?_) (fun kc19 => ?_)
    · exact q_neq (q_c (k := 0) (x := 0) (by decide)) (q_c (k := 0) (x := 0) (by decide)) kc19
    · refine lv_bipush (v := (-2)) hx hb dX12_plan_13 (by decide) ?_
      exact q_reti hE hr hlocks hW (⟨((q_c (k := (-2)) (x := (-2)) (by decide)).w (by decide) (by decide)), (by have : i1.toInt ≠ -1 := fun q_e => kc1 (Int32.toInt_inj.mp (q_e.trans (by decide))); unfold kz_plan; (repeat' split) <;> first | rfl | omega)⟩) dX12_plan_15
