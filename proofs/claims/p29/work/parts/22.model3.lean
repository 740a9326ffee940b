theorem kw_X12_354 : q_wS RX12 354 yX12_isRow cX12_isRow 1 (some .boolean) 1 := ⟨⟨wl_978, wl_979, wl_5, wl_980⟩, by decide, by decide, by decide +kernel⟩
theorem kw_X12_361 : q_wV RX12 RX12 361 yX12_holds cX12_holds 3 (some .boolean) 2 := ⟨q_goodV wl_1007 wl_1008 wl_1009 wl_5 wl_1010, rfl, by decide, by decide, by decide +kernel⟩
theorem kw_X12_365 : q_wV RX12 RX12 365 yX12_cloudsAt cX12_cloudsAt 4 (some .int) 1 := ⟨q_goodV wl_1074 wl_1075 wl_1076 wl_5 wl_1077, rfl, by decide, by decide, by decide +kernel⟩
theorem kw_X12_368 : q_wV RX12 RX12 368 yX12_linesThere cX12_linesThere 3 (some .int) 0 := ⟨q_goodV wl_1078 wl_1079 wl_1080 wl_5 wl_1081, rfl, by decide, by decide, by decide +kernel⟩
theorem kw_X12_371 : q_wV RX12 RX12 371 yX12_allWater cX12_allWater 3 (some .int) 0 := ⟨q_goodV wl_1082 wl_1083 wl_1084 wl_5 wl_1085, rfl, by decide, by decide, by decide +kernel⟩
set_option maxHeartbeats 4000000 in
set_option maxRecDepth 100000 in
theorem c_X12_needed (l : Launch) (G : q_G) (σ : q_S) (a0 : Nat) (h0 : q_T G a0 = 40) (i1 : Int32)  : Met l yX12_needed (Cond.code yX12_needed cX12_needed 4 (some .int) :: wsL_law) (q_Rm 2) (q_Pre G σ [.ref a0, .int i1]) (q_Qi G [] σ (fun r σ1 => q_V (-2147483648) 2147483647 r)) 0 0 (q_N G) := by
  refine q_ofW (ts := []) (by decide) (Nat.le_of_ble_eq_true rfl) ?_
  intro p e s m args below meth c hE hr hlocks hW ls hl
  have hE : q_E G p s m args c cX12_needed 4 RX12 := hE
  have hx := hE.1.1
  have hb := hE.1.2.1
  have hl : lv_has ls 4 [(0, .ref a0), (1, .int i1)] := hl
  have lp25a : ∀ (n25a : Nat) (ks4 : q_S) (H : Heap) (locs : List Loc) (kv1 : q_V 0 2147483647 i1) (kx2 : Int32) (kx3 : Int32) (vkx3 : q_V 0 6 kx3) (hW : q_Wd G [] σ s.heap ks4 H locs) (ls : Array Slot) (hl : lv_has ls 4 [(0, .ref a0), (1, .int i1), (2, .int kx2), (3, .int kx3)]), (6 - kx3.toInt).toNat < n25a → W p l e (q_Rm 2) s m args below meth c H locs 0 0 (MQ below (q_Qi G [] σ (fun r σ1 => q_V (-2147483648) 2147483647 r)) args s 0 0 (q_N G)) (F0 m 25 ls []) := by
    intro n25a
    induction n25a with
    | zero => intro _ _ _ _ _ _ _ _ _ _; exact fun h => absurd h (Nat.not_lt_zero _)
    | succ n25a ih25a =>
      intro ks4 H locs kv1 kx2 kx3 vkx3 hW ls hl hm25a
      have jn60a : ∀ (ks8 : q_S) (H : Heap) (locs : List Loc) (kv5 : q_V 0 5 kx3) (kx6 : Int32) (kx7 : Int32) (hW : q_Wd G [] σ s.heap ks8 H locs) (ls : Array Slot) (hl : lv_has ls 4 [(0, .ref a0), (1, .int i1), (3, .int kx3)]), W p l e (q_Rm 2) s m args below meth c H locs 0 0 (MQ below (q_Qi G [] σ (fun r σ1 => q_V (-2147483648) 2147483647 r)) args s 0 0 (q_N G)) (F0 m 60 ls [.int kx7, .int kx6]) := by
        intro ks8 H locs kv5 kx6 kx7 hW ls hl
        refine lv_iadd hx hb dX12_needed_60 ?_
        refine lv_topi (fun kx9 ekx9 => ?_)
        refine lv_istore_n (lv' := [(2, .int kx9), (0, .ref a0), (1, .int i1), (3, .int kx3)]) hx hb dX12_needed_61 rfl hl (by decide) rfl (fun ls hl => ?_)
        obtain ⟨kx10, ekx10⟩ : ∃ y : Int32, y = kx3 + 1 := ⟨_, rfl⟩
        have vkx10 : q_V 1 6 kx10 := by rw [ekx10]; exact (q_add kv5 (q_c (k := 1) (x := 1) (by decide)) (by decide) (by decide)).w (by decide) (by decide)
        have ikx10 : kx10.toInt = kx3.toInt + 1 := q_incT ekx10 kv5 (by decide) (by decide) (by decide)
        refine lv_iinc (v := kx10) (lv' := [(3, .int kx10), (2, .int kx9), (0, .ref a0), (1, .int i1)]) hx hb dX12_needed_62 hl (k := 3) rfl (by rw [ekx10]; rfl) (by decide) rfl (fun ls hl => ?_)
        refine lv_goto (tgt := 25) hx hb dX12_needed_65 (by decide) ?_
        exact ih25a _ _ _ kv1 kx9 kx10 (vkx10.w (by decide) (by decide)) hW ls (lv_sub hl [2, 3, 1, 0] rfl) (Nat.lt_of_lt_of_le (q_up (ikx10) (show q_V 1 6 kx10 from vkx10).2) (Nat.le_of_lt_succ hm25a))
      refine lv_iload_n hx hb dX12_needed_25 rfl (lv_at hl 3 rfl) ?_
      refine lv_aload_n hx hb dX12_needed_26 rfl (lv_at hl 0 rfl) ?_
      refine q_geti hE hW h0 rfl q_k12 0 (by decide) rfl (hE.l wl_358) dX12_needed_27 (fun kx11 ekx11 vkx11 => ?_)
      refine lv_icmp_ge (tgt := 68) hx hb dX12_needed_30 (by decide) (fun kc12 => ?_) (fun kc12 => ?_)
      · refine lv_iload_n hx hb dX12_needed_68 rfl (lv_at hl 2 rfl) ?_
        exact q_reti hE hr hlocks hW ((q_all kx2)) dX12_needed_69
      · have kv13 : q_V 0 5 kx3 := (q_lt1 vkx3 vkx11 (Int32.not_le.mp kc12)).w (by decide) (by decide)
        have kv14 : q_V 1 6 kx11 := (q_lt2 vkx3 vkx11 (Int32.not_le.mp kc12)).w (by decide) (by decide)
        refine lv_iload_n hx hb dX12_needed_33 rfl (lv_at hl 2 rfl) ?_
        refine lv_iload_n hx hb dX12_needed_34 rfl (lv_at hl 1 rfl) ?_
        refine lv_iload_n hx hb dX12_needed_35 rfl (lv_at hl 3 rfl) ?_
        refine q_goi hW (q_runS (As := [.int i1, .int kx3]) (rest := [.int kx2]) hE hW (c_X12_isBit l G ks4 i1 kx3) kw_X12_305 rfl hl.1 rfl (Nat.le_of_ble_eq_true rfl) dX12_needed_36 ⟨by decide, by decide⟩ ⟨by decide, by decide⟩) (by decide) (fun kx18 ks16 H locs kp15 kf17 hW => ?_)
        refine lv_if_eq (tgt := 59) hx hb dX12_needed_39 (by decide) (fun kc19 => ?_) (fun kc19 => ?_)
        · have kv20 : q_V 0 0 kx18 := q_eq1 kp15 (q_c (k := 0) (x := 0) (by decide)) kc19 (by decide) (by decide)
          refine lv_iconst (v := 0) hx hb dX12_needed_59 (by decide) ?_
          exact jn60a _ _ _ kv13 kx2 0 hW ls (lv_sub hl [0, 1, 3] rfl)
        · have kv21 : q_V 1 1 kx18 := q_ne1 kp15 (q_c (k := 0) (x := 0) (by decide)) kc19 (by decide)
          refine lv_aload_n hx hb dX12_needed_42 rfl (lv_at hl 0 rfl) ?_
          refine q_getr hE hW h0 rfl q_k12 9 (by decide) rfl (hE.l wl_135) dX12_needed_43 (fun kb22 ekb22 hkb22a hkb22b => ?_)
          have hkb22 : q_T G kb22 = 46 := q_tag hkb22a hkb22b
          refine lv_bipush (v := 18) hx hb dX12_needed_46 (by decide) ?_
          refine lv_bipush (v := 6) hx hb dX12_needed_48 (by decide) ?_
          refine lv_iload_n hx hb dX12_needed_50 rfl (lv_at hl 3 rfl) ?_
          refine lv_imul hx hb dX12_needed_51 ?_
          refine lv_topi (fun kx23 ekx23 => ?_)
          have vkx23 : q_V 0 30 kx23 := by rw [ekx23]; exact (q_mul (k := 6) (by decide) kv13 (by decide) (by decide) (by decide)).w (by decide) (by decide)
          refine lv_iadd hx hb dX12_needed_52 ?_
          refine lv_topi (fun kx24 ekx24 => ?_)
          have vkx24 : q_V 18 48 kx24 := by rw [ekx24]; exact (q_add (q_c (k := 18) (x := 18) (by decide)) vkx23 (by decide) (by decide)).w (by decide) (by decide)
          refine lv_iconst (v := 5) hx hb dX12_needed_53 (by decide) ?_
          refine lv_iadd hx hb dX12_needed_54 ?_
          refine lv_topi (fun kx25 ekx25 => ?_)
          have vkx25 : q_V 23 53 kx25 := by rw [ekx25]; exact (q_add vkx24 (q_c (k := 5) (x := 5) (by decide)) (by decide) (by decide)).w (by decide) (by decide)
          refine q_iald hE hW hkb22 rfl (q_in vkx25 (by decide) (by decide)) dX12_needed_55 (fun kx26 ekx26 gkx26 => ?_)
          refine lv_goto (tgt := 60) hx hb dX12_needed_56 (by decide) ?_
          exact jn60a _ _ _ kv13 kx2 kx26 hW ls (lv_sub hl [0, 1, 3] rfl)
  refine lv_iload_n hx hb dX12_needed_0 rfl (lv_at hl 1 rfl) ?_
  refine lv_i2l (v := i1.toInt64) hx hb dX12_needed_1 rfl ?_
  refine lv_lconst (v := 0) hx hb dX12_needed_2 (by decide) ?_
  refine lv_iconst (v := 1) hx hb dX12_needed_3 (by decide) ?_
  refine lv_aload_n hx hb dX12_needed_4 rfl (lv_at hl 0 rfl) ?_
  refine q_geti hE hW h0 rfl q_k12 0 (by decide) rfl (hE.l wl_358) dX12_needed_5 (fun kx27 ekx27 vkx27 => ?_)
  refine lv_ishl hx hb dX12_needed_8 ?_
  refine lv_topi (fun kx28 ekx28 => ?_)
  refine lv_iconst (v := 1) hx hb dX12_needed_9 (by decide) ?_
  refine lv_isub hx hb dX12_needed_10 ?_
  refine lv_topi (fun kx29 ekx29 => ?_)
  refine lv_i2l (v := kx29.toInt64) hx hb dX12_needed_11 rfl ?_
  refine q_goi hW (q_runS (As := [.long (i1).toInt64, .long 0, .long (kx29).toInt64]) (rest := []) hE hW (c_X12_in l G σ ((i1).toInt64) 0 ((kx29).toInt64)) kw_X12_99 rfl hl.1 rfl (Nat.le_of_ble_eq_true rfl) dX12_needed_12 ⟨by decide, by decide⟩ ⟨by decide, by decide⟩) (by decide) (fun kx33 ks31 H locs kp30 kf32 hW => ?_)
  refine lv_if_ne (tgt := 21) hx hb dX12_needed_15 (by decide) (fun kc34 => ?_) (fun kc34 => ?_)
  · have kv35 : q_V 0 2147483647 i1 := q_inV (kp30.2.1 kc34).1 (kp30.2.1 kc34).2 (q_lc (k := 0) (x := 0) (by decide)) (q_l (q_all kx29))
    have kv36 : q_V 1 1 kx33 := q_ne1 kp30.1 (q_c (k := 0) (x := 0) (by decide)) kc34 (by decide)
    refine lv_iconst (v := 0) hx hb dX12_needed_21 (by decide) ?_
    refine lv_istore_n (lv' := [(2, .int 0), (0, .ref a0), (1, .int i1)]) hx hb dX12_needed_22 rfl hl (by decide) rfl (fun ls hl => ?_)
    refine lv_iconst (v := 0) hx hb dX12_needed_23 (by decide) ?_
    refine lv_istore_n (lv' := [(3, .int 0), (2, .int 0), (0, .ref a0), (1, .int i1)]) hx hb dX12_needed_24 rfl hl (by decide) rfl (fun ls hl => ?_)
    exact lp25a _ _ _ _ kv35 0 0 ((q_c (k := 0) (x := 0) (by decide)).w (by decide) (by decide)) hW ls (lv_sub hl [2, 3, 1, 0] rfl) (Nat.lt_succ_self _)
  · have kv37 : q_V 0 0 kx33 := q_eq1 kp30.1 (q_c (k := 0) (x := 0) (by decide)) kc34 (by decide) (by decide)
    refine lv_bipush (v := (-2)) hx hb dX12_needed_18 (by decide) ?_
    exact q_reti hE hr hlocks hW (((q_c (k := (-2)) (x := (-2)) (by decide)).w (by decide) (by decide))) dX12_needed_20
set_option maxHeartbeats 4000000 in
set_option maxRecDepth 100000 in
theorem c_X12_seen (l : Launch) (G : q_G) (σ : q_S) (a0 : Nat) (h0 : q_T G a0 = 40) (i1 : Int32) (i2 : Int32) (i3 : Int32)  : Met l yX12_seen (Cond.code yX12_seen cX12_seen 4 (some .int) :: wsL_law) (q_Rm 3) (q_Pre G σ [.ref a0, .int i1, .int i2, .int i3]) (q_Qi G [40, 60, 61, 62] σ (fun r σ1 => q_V (-2147483648) 2147483647 r)) 0 0 (q_N G) := by
  refine q_ofW (ts := [40, 60, 61, 62]) (by decide) (Nat.le_of_ble_eq_true rfl) ?_
  intro p e s m args below meth c hE hr hlocks hW ls hl
  have hE : q_E G p s m args c cX12_seen 4 RX12 := hE
  have hx := hE.1.1
  have hb := hE.1.2.1
  have hl : lv_has ls 4 [(0, .ref a0), (1, .int i1), (2, .int i2), (3, .int i3)] := hl
  refine lv_aload_n hx hb dX12_seen_0 rfl (lv_at hl 0 rfl) ?_
  refine lv_iload_n hx hb dX12_seen_1 rfl (lv_at hl 1 rfl) ?_
  refine q_goi hW (q_runV (As := [.int i1]) (rest := []) hE hW (c_X12_isCloud l G σ a0 h0 i1) kw_X12_233 (q_recv hE hW h0 rfl q_k12) rfl hl.1 rfl (Nat.le_of_ble_eq_true rfl) dX12_seen_2 ⟨by decide, by decide⟩ ⟨by decide, by decide⟩) (by decide) (fun kx4 ks2 H locs kp1 kf3 hW => ?_)
  refine lv_if_ne (tgt := 11) hx hb dX12_seen_5 (by decide) (fun kc5 => ?_) (fun kc5 => ?_)
  · have kv6 : q_V 0 5 i1 := kp1.2 kc5
    have kv7 : q_V 1 1 kx4 := q_ne1 kp1.1 (q_c (k := 0) (x := 0) (by decide)) kc5 (by decide)
    refine lv_iload_n hx hb dX12_seen_11 rfl (lv_at hl 2 rfl) ?_
    refine lv_i2l (v := i2.toInt64) hx hb dX12_seen_12 rfl ?_
    refine lv_lconst (v := 1) hx hb dX12_seen_13 (by decide) ?_
    refine lv_ldc2 (v := 3) hx hb hE.1.2.2.2.1 (hE.w wl_759) dX12_seen_14 ?_
    refine q_goi hW (q_runS (As := [.long (i2).toInt64, .long 1, .long 3]) (rest := []) hE hW (c_X12_in l G ks2 ((i2).toInt64) 1 3) kw_X12_99 rfl hl.1 rfl (Nat.le_of_ble_eq_true rfl) dX12_seen_17 ⟨by decide, by decide⟩ ⟨by decide, by decide⟩) (by decide) (fun kx11 ks9 H locs kp8 kf10 hW => ?_)
    refine lv_if_eq (tgt := 35) hx hb dX12_seen_20 (by decide) (fun kc12 => ?_) (fun kc12 => ?_)
    · have kv13 : q_V 0 0 kx11 := q_eq1 kp8.1 (q_c (k := 0) (x := 0) (by decide)) kc12 (by decide) (by decide)
      refine lv_bipush (v := (-3)) hx hb dX12_seen_35 (by decide) ?_
      exact q_reti hE hr hlocks hW (((q_c (k := (-3)) (x := (-3)) (by decide)).w (by decide) (by decide))) dX12_seen_37
    · have kv14 : q_V 1 3 i2 := q_inV (kp8.2.1 kc12).1 (kp8.2.1 kc12).2 (q_lc (k := 1) (x := 1) (by decide)) (q_lc (k := 3) (x := 3) (by decide))
      have kv15 : q_V 1 1 kx11 := q_ne1 kp8.1 (q_c (k := 0) (x := 0) (by decide)) kc12 (by decide)
      refine lv_iload_n hx hb dX12_seen_23 rfl (lv_at hl 3 rfl) ?_
      refine lv_i2l (v := i3.toInt64) hx hb dX12_seen_24 rfl ?_
      refine lv_lconst (v := 0) hx hb dX12_seen_25 (by decide) ?_
      refine lv_ldc2 (v := 60) hx hb hE.1.2.2.2.1 (hE.w wl_907) dX12_seen_26 ?_
      refine q_goi hW (q_runS (As := [.long (i3).toInt64, .long 0, .long 60]) (rest := []) hE hW (c_X12_in l G ks9 ((i3).toInt64) 0 60) kw_X12_99 rfl hl.1 rfl (Nat.le_of_ble_eq_true rfl) dX12_seen_29 ⟨by decide, by decide⟩ ⟨by decide, by decide⟩) (by decide) (fun kx19 ks17 H locs kp16 kf18 hW => ?_)
      refine lv_if_ne (tgt := 38) hx hb dX12_seen_32 (by decide) (fun kc20 => ?_) (fun kc20 => ?_)
      · have kv21 : q_V 0 60 i3 := q_inV (kp16.2.1 kc20).1 (kp16.2.1 kc20).2 (q_lc (k := 0) (x := 0) (by decide)) (q_lc (k := 60) (x := 60) (by decide))
        have kv22 : q_V 1 1 kx19 := q_ne1 kp16.1 (q_c (k := 0) (x := 0) (by decide)) kc20 (by decide)
        refine lv_aload_n hx hb dX12_seen_38 rfl (lv_at hl 0 rfl) ?_
        refine q_geti hE hW h0 rfl q_k12 35 (by decide) rfl (hE.l wl_445) dX12_seen_39 (fun kx23 ekx23 vkx23 => ?_)
        refine lv_bipush (v := 6) hx hb dX12_seen_42 (by decide) ?_
        refine lv_icmp_ne (tgt := 50) hx hb dX12_seen_44 (by decide) (fun kc24 => ?_) (fun kc24 => ?_)
        · have kv25 : q_V 0 5 kx23 := q_ne2 vkx23 (q_c (k := 6) (x := 6) (by decide)) kc24 (by decide)
          refine lv_aload_n hx hb dX12_seen_50 rfl (lv_at hl 0 rfl) ?_
          refine q_getr hE hW h0 rfl q_k12 36 (by decide) rfl (hE.l wl_149) dX12_seen_51 (fun kb26 ekb26 hkb26a hkb26b => ?_)
          have hkb26 : q_T G kb26 = 60 := q_tag hkb26a hkb26b
          refine lv_aload_n hx hb dX12_seen_54 rfl (lv_at hl 0 rfl) ?_
          refine q_geti hE hW h0 rfl q_k12 35 (by decide) rfl (hE.l wl_445) dX12_seen_55 (fun kx27 ekx27 vkx27 => ?_)
          obtain rfl : kx23 = kx27 := ekx23.symm.trans ekx27
          refine lv_iload_n hx hb dX12_seen_58 rfl (lv_at hl 1 rfl) ?_
          refine q_iast hE hW hkb26 rfl (q_in kv25 (by decide) (by decide)) trivial (by decide) dX12_seen_59 (fun H locs ks28 kp29 hW => ?_)
          refine lv_aload_n hx hb dX12_seen_60 rfl (lv_at hl 0 rfl) ?_
          refine q_getr hE hW h0 rfl q_k12 37 (by decide) rfl (hE.l wl_150) dX12_seen_61 (fun kb30 ekb30 hkb30a hkb30b => ?_)
          have hkb30 : q_T G kb30 = 61 := q_tag hkb30a hkb30b
          refine lv_aload_n hx hb dX12_seen_64 rfl (lv_at hl 0 rfl) ?_
          refine q_geti hE hW h0 rfl q_k12 35 (by decide) rfl (hE.l wl_445) dX12_seen_65 (fun kx31 ekx31 vkx31 => ?_)
          obtain rfl : kx23 = kx31 := ((kp29.2.2.2.1 _ _).trans ekx23).symm.trans ekx31
          refine lv_iload_n hx hb dX12_seen_68 rfl (lv_at hl 2 rfl) ?_
          refine q_iast hE hW hkb30 rfl (q_in kv25 (by decide) (by decide)) trivial (by decide) dX12_seen_69 (fun H locs ks32 kp33 hW => ?_)
          refine lv_aload_n hx hb dX12_seen_70 rfl (lv_at hl 0 rfl) ?_
          refine q_getr hE hW h0 rfl q_k12 38 (by decide) rfl (hE.l wl_151) dX12_seen_71 (fun kb34 ekb34 hkb34a hkb34b => ?_)
          have hkb34 : q_T G kb34 = 62 := q_tag hkb34a hkb34b
          refine lv_aload_n hx hb dX12_seen_74 rfl (lv_at hl 0 rfl) ?_
          refine q_geti hE hW h0 rfl q_k12 35 (by decide) rfl (hE.l wl_445) dX12_seen_75 (fun kx35 ekx35 vkx35 => ?_)
          obtain rfl : kx23 = kx35 := (((kp33.2.2.2.1 _ _).trans (kp29.2.2.2.1 _ _)).trans ekx23).symm.trans ekx35
          refine lv_iload_n hx hb dX12_seen_78 rfl (lv_at hl 3 rfl) ?_
          refine q_iast hE hW hkb34 rfl (q_in kv25 (by decide) (by decide)) trivial (by decide) dX12_seen_79 (fun H locs ks36 kp37 hW => ?_)
          refine lv_aload_n hx hb dX12_seen_80 rfl (lv_at hl 0 rfl) ?_
          refine lv_dup hx hb dX12_seen_81 rfl ?_
          refine q_geti hE hW h0 rfl q_k12 35 (by decide) rfl (hE.l wl_445) dX12_seen_82 (fun kx38 ekx38 vkx38 => ?_)
          obtain rfl : kx23 = kx38 := ((((kp37.2.2.2.1 _ _).trans (kp33.2.2.2.1 _ _)).trans (kp29.2.2.2.1 _ _)).trans ekx23).symm.trans ekx38
          refine lv_iconst (v := 1) hx hb dX12_seen_85 (by decide) ?_
          refine lv_iadd hx hb dX12_seen_86 ?_
          refine lv_topi (fun kx39 ekx39 => ?_)
          have vkx39 : q_V 1 6 kx39 := by rw [ekx39]; exact (q_add kv25 (q_c (k := 1) (x := 1) (by decide)) (by decide) (by decide)).w (by decide) (by decide)
          have ikx39 : kx39.toInt = kx23.toInt + 1 := q_incT ekx39 kv25 (by decide) (by decide) (by decide)
          refine q_puti hE hW h0 rfl q_k12 tyX12 tyX12_ok 35 (by decide) rfl (hE.l wl_445) rfl rfl rfl (vkx39.w (by decide) (by decide)) (by decide) dX12_seen_87 (fun H locs ks40 kp41 hW => ?_)
          refine lv_aload_n hx hb dX12_seen_90 rfl (lv_at hl 0 rfl) ?_
          refine q_geti hE hW h0 rfl q_k12 35 (by decide) rfl (hE.l wl_445) dX12_seen_91 (fun kx42 ekx42 vkx42 => ?_)
          obtain rfl : kx39 = kx42 := kp41.1.symm.trans ekx42
          exact q_reti hE hr hlocks hW ((vkx39.w (by decide) (by decide))) dX12_seen_94
        · have kv43 : q_V 6 6 kx23 := q_eq1 vkx23 (q_c (k := 6) (x := 6) (by decide)) kc24 (by decide) (by decide)
          refine lv_bipush (v := (-5)) hx hb dX12_seen_47 (by decide) ?_
          exact q_reti hE hr hlocks hW (((q_c (k := (-5)) (x := (-5)) (by decide)).w (by decide) (by decide))) dX12_seen_49
      · have kv44 : q_V 0 0 kx19 := q_eq1 kp16.1 (q_c (k := 0) (x := 0) (by decide)) kc20 (by decide) (by decide)
        refine lv_bipush (v := (-3)) hx hb dX12_seen_35 (by decide) ?_
        exact q_reti hE hr hlocks hW (((q_c (k := (-3)) (x := (-3)) (by decide)).w (by decide) (by decide))) dX12_seen_37
  · have kv45 : q_V 0 0 kx4 := q_eq1 kp1.1 (q_c (k := 0) (x := 0) (by decide)) kc5 (by decide) (by decide)
    refine lv_bipush (v := (-2)) hx hb dX12_seen_8 (by decide) ?_
    exact q_reti hE hr hlocks hW (((q_c (k := (-2)) (x := (-2)) (by decide)).w (by decide) (by decide))) dX12_seen_10
set_option maxHeartbeats 4000000 in
set_option maxRecDepth 100000 in
theorem c_X12_forget (l : Launch) (G : q_G) (σ : q_S) (a0 : Nat) (h0 : q_T G a0 = 40)  : Met l yX12_forget (Cond.code yX12_forget cX12_forget 2 (some .int) :: wsL_law) (q_Rm 1) (q_Pre G σ [.ref a0]) (q_Qi G [40] σ (fun r σ1 => q_V (-2147483648) 2147483647 r)) 0 0 (q_N G) := by
  refine q_ofW (ts := [40]) (by decide) (Nat.le_of_ble_eq_true rfl) ?_
  intro p e s m args below meth c hE hr hlocks hW ls hl
  have hE : q_E G p s m args c cX12_forget 2 RX12 := hE
  have hx := hE.1.1
  have hb := hE.1.2.1
  have hl : lv_has ls 2 [(0, .ref a0)] := hl
  refine lv_aload_n hx hb dX12_forget_0 rfl (lv_at hl 0 rfl) ?_
  refine q_geti hE hW h0 rfl q_k12 35 (by decide) rfl (hE.l wl_445) dX12_forget_1 (fun kx1 ekx1 vkx1 => ?_)
  refine lv_istore_n (lv' := [(1, .int kx1), (0, .ref a0)]) hx hb dX12_forget_4 rfl hl (by decide) rfl (fun ls hl => ?_)
  refine lv_aload_n hx hb dX12_forget_5 rfl (lv_at hl 1 rfl) ?_
  refine lv_iconst (v := 0) hx hb dX12_forget_6 (by decide) ?_
  refine q_puti hE hW h0 rfl q_k12 tyX12 tyX12_ok 35 (by decide) rfl (hE.l wl_445) rfl rfl rfl ((q_c (k := 0) (x := 0) (by decide)).w (by decide) (by decide)) (by decide) dX12_forget_7 (fun H locs ks2 kp3 hW => ?_)
  refine lv_iload_n hx hb dX12_forget_10 rfl (lv_at hl 0 rfl) ?_
  exact q_reti hE hr hlocks hW ((vkx1.w (by decide) (by decide))) dX12_forget_11
set_option maxHeartbeats 4000000 in
set_option maxRecDepth 100000 in
theorem c_X12_kinds (l : Launch) (G : q_G) (σ : q_S) (a0 : Nat) (h0 : q_T G a0 = 40) (i1 : Int32)  : Met l yX12_kinds (Cond.code yX12_kinds cX12_kinds 7 (some .int) :: wsL_law) (q_Rm 3) (q_Pre G σ [.ref a0, .int i1]) (q_Qi G [56] σ (fun r σ1 => q_V (-2147483648) 2147483647 r)) 0 0 (q_N G) := by
  refine q_ofW (ts := [56]) (by decide) (Nat.le_of_ble_eq_true rfl) ?_
  intro p e s m args below meth c hE hr hlocks hW ls hl
  have hE : q_E G p s m args c cX12_kinds 7 RX12 := hE
  have hx := hE.1.1
  have hb := hE.1.2.1
  have hl : lv_has ls 7 [(0, .ref a0), (1, .int i1)] := hl
  have lp15a : ∀ (n15a : Nat) (ks4 : q_S) (H : Heap) (locs : List Loc) (kv1 : q_V 0 5 i1) (kx2 : Int32) (kx3 : Int32) (vkx3 : q_V 0 4 kx3) (hW : q_Wd G [56] σ s.heap ks4 H locs) (ls : Array Slot) (hl : lv_has ls 7 [(0, .ref a0), (1, .int i1), (2, .int kx2), (3, .int kx3)]), (4 - kx3.toInt).toNat < n15a → W p l e (q_Rm 3) s m args below meth c H locs 0 0 (MQ below (q_Qi G [56] σ (fun r σ1 => q_V (-2147483648) 2147483647 r)) args s 0 0 (q_N G)) (F0 m 15 ls []) := by
    intro n15a
    induction n15a with
    | zero => intro _ _ _ _ _ _ _ _ _ _; exact fun h => absurd h (Nat.not_lt_zero _)
    | succ n15a ih15a =>
      intro ks4 H locs kv1 kx2 kx3 vkx3 hW ls hl hm15a
      have jn114a : ∀ (ks8 : q_S) (H : Heap) (locs : List Loc) (kv5 : q_V 0 3 kx3) (kx6 : Int32) (kx7 : Int32) (hW : q_Wd G [56] σ s.heap ks8 H locs) (ls : Array Slot) (hl : lv_has ls 7 [(0, .ref a0), (1, .int i1), (3, .int kx3)]), W p l e (q_Rm 3) s m args below meth c H locs 0 0 (MQ below (q_Qi G [56] σ (fun r σ1 => q_V (-2147483648) 2147483647 r)) args s 0 0 (q_N G)) (F0 m 114 ls [.int kx7, .int kx6]) := by
        intro ks8 H locs kv5 kx6 kx7 hW ls hl
        refine lv_ior hx hb dX12_kinds_114 ?_
        refine lv_topi (fun kx9 ekx9 => ?_)
        refine lv_istore_n (lv' := [(2, .int kx9), (0, .ref a0), (1, .int i1), (3, .int kx3)]) hx hb dX12_kinds_115 rfl hl (by decide) rfl (fun ls hl => ?_)
        obtain ⟨kx10, ekx10⟩ : ∃ y : Int32, y = kx3 + 1 := ⟨_, rfl⟩
        have vkx10 : q_V 1 4 kx10 := by rw [ekx10]; exact (q_add kv5 (q_c (k := 1) (x := 1) (by decide)) (by decide) (by decide)).w (by decide) (by decide)
        have ikx10 : kx10.toInt = kx3.toInt + 1 := q_incT ekx10 kv5 (by decide) (by decide) (by decide)
        refine lv_iinc (v := kx10) (lv' := [(3, .int kx10), (2, .int kx9), (0, .ref a0), (1, .int i1)]) hx hb dX12_kinds_116 hl (k := 3) rfl (by rw [ekx10]; rfl) (by decide) rfl (fun ls hl => ?_)
        refine lv_goto (tgt := 15) hx hb dX12_kinds_119 (by decide) ?_
        exact ih15a _ _ _ kv1 kx9 kx10 (vkx10.w (by decide) (by decide)) hW ls (lv_sub hl [2, 3, 1, 0] rfl) (Nat.lt_of_lt_of_le (q_up (ikx10) (show q_V 1 4 kx10 from vkx10).2) (Nat.le_of_lt_succ hm15a))
      have lp26a : ∀ (n26a : Nat) (ks14 : q_S) (H : Heap) (locs : List Loc) (kv11 : q_V 0 3 kx3) (kx12 : Int32) (vkx12 : q_V 0 1 kx12) (kx13 : Int32) (vkx13 : q_V 0 6 kx13) (hW : q_Wd G [56] σ s.heap ks14 H locs) (ls : Array Slot) (hl : lv_has ls 7 [(0, .ref a0), (1, .int i1), (2, .int kx2), (3, .int kx3), (4, .int kx12), (5, .int kx13)]), (6 - kx13.toInt).toNat < n26a → W p l e (q_Rm 3) s m args below meth c H locs 0 0 (MQ below (q_Qi G [56] σ (fun r σ1 => q_V (-2147483648) 2147483647 r)) args s 0 0 (q_N G)) (F0 m 26 ls []) := by
        intro n26a
        induction n26a with
        | zero => intro _ _ _ _ _ _ _ _ _ _ _; exact fun h => absurd h (Nat.not_lt_zero _)
        | succ n26a ih26a =>
          intro ks14 H locs kv11 kx12 vkx12 kx13 vkx13 hW ls hl hm26a
          have jn93a : ∀ (ks17 : q_S) (H : Heap) (locs : List Loc) (kv15 : q_V 0 5 kx13) (kx16 : Int32) (vkx16 : q_V 0 1 kx16) (hW : q_Wd G [56] σ s.heap ks17 H locs) (ls : Array Slot) (hl : lv_has ls 7 [(0, .ref a0), (1, .int i1), (2, .int kx2), (3, .int kx3), (5, .int kx13)]), W p l e (q_Rm 3) s m args below meth c H locs 0 0 (MQ below (q_Qi G [56] σ (fun r σ1 => q_V (-2147483648) 2147483647 r)) args s 0 0 (q_N G)) (F0 m 93 ls [.int kx16]) := by
            intro ks17 H locs kv15 kx16 vkx16 hW ls hl
            refine lv_istore (lv' := [(4, .int kx16), (0, .ref a0), (1, .int i1), (2, .int kx2), (3, .int kx3), (5, .int kx13)]) hx hb dX12_kinds_93 hl (by decide) rfl (fun ls hl => ?_)
            obtain ⟨kx18, ekx18⟩ : ∃ y : Int32, y = kx13 + 1 := ⟨_, rfl⟩
            have vkx18 : q_V 1 6 kx18 := by rw [ekx18]; exact (q_add kv15 (q_c (k := 1) (x := 1) (by decide)) (by decide) (by decide)).w (by decide) (by decide)
            have ikx18 : kx18.toInt = kx13.toInt + 1 := q_incT ekx18 kv15 (by decide) (by decide) (by decide)
            refine lv_iinc (v := kx18) (lv' := [(5, .int kx18), (4, .int kx16), (0, .ref a0), (1, .int i1), (2, .int kx2), (3, .int kx3)]) hx hb dX12_kinds_95 hl (k := 5) rfl (by rw [ekx18]; rfl) (by decide) rfl (fun ls hl => ?_)
            refine lv_goto (tgt := 26) hx hb dX12_kinds_98 (by decide) ?_
            exact ih26a _ _ _ kv11 kx16 vkx16 kx18 (vkx18.w (by decide) (by decide)) hW ls (lv_sub hl [2, 3, 4, 5, 1, 0] rfl) (Nat.lt_of_lt_of_le (q_up (ikx18) (show q_V 1 6 kx18 from vkx18).2) (Nat.le_of_lt_succ hm26a))
          have jn92a : ∀ (ks20 : q_S) (H : Heap) (locs : List Loc) (kv19 : q_V 0 5 kx13) (hW : q_Wd G [56] σ s.heap ks20 H locs) (ls : Array Slot) (hl : lv_has ls 7 [(0, .ref a0), (1, .int i1), (2, .int kx2), (3, .int kx3), (5, .int kx13)]), W p l e (q_Rm 3) s m args below meth c H locs 0 0 (MQ below (q_Qi G [56] σ (fun r σ1 => q_V (-2147483648) 2147483647 r)) args s 0 0 (q_N G)) (F0 m 92 ls []) := by
            intro ks20 H locs kv19 hW ls hl
            refine lv_iconst (v := 0) hx hb dX12_kinds_92 (by decide) ?_
            exact jn93a _ _ _ kv19 0 ((q_c (k := 0) (x := 0) (by decide)).w (by decide) (by decide)) hW ls (lv_sub hl [0, 1, 2, 3, 4] rfl)
          have jn88a : ∀ (ks22 : q_S) (H : Heap) (locs : List Loc) (kv21 : q_V 0 5 kx13) (hW : q_Wd G [56] σ s.heap ks22 H locs) (ls : Array Slot) (hl : lv_has ls 7 [(0, .ref a0), (1, .int i1), (2, .int kx2), (3, .int kx3), (5, .int kx13)]), W p l e (q_Rm 3) s m args below meth c H locs 0 0 (MQ below (q_Qi G [56] σ (fun r σ1 => q_V (-2147483648) 2147483647 r)) args s 0 0 (q_N G)) (F0 m 88 ls []) := by
            intro ks22 H locs kv21 hW ls hl
            refine lv_iconst (v := 1) hx hb dX12_kinds_88 (by decide) ?_
            refine lv_goto (tgt := 93) hx hb dX12_kinds_89 (by decide) ?_
            exact jn93a _ _ _ kv21 1 ((q_c (k := 1) (x := 1) (by decide)).w (by decide) (by decide)) hW ls (lv_sub hl [0, 1, 2, 3, 4] rfl)
          have jn85a : ∀ (ks26 : q_S) (H : Heap) (locs : List Loc) (kv23 : q_V 0 5 kx13) (kx24 : Int32) (kx25 : Int32) (vkx25 : q_V 0 2147483647 kx25) (hW : q_Wd G [56] σ s.heap ks26 H locs) (ls : Array Slot) (hl : lv_has ls 7 [(0, .ref a0), (1, .int i1), (2, .int kx2), (3, .int kx3), (5, .int kx13)]), W p l e (q_Rm 3) s m args below meth c H locs 0 0 (MQ below (q_Qi G [56] σ (fun r σ1 => q_V (-2147483648) 2147483647 r)) args s 0 0 (q_N G)) (F0 m 85 ls [.int kx25, .int kx24]) := by
            intro ks26 H locs kv23 kx24 kx25 vkx25 hW ls hl
            refine lv_icmp_ne (tgt := 92) hx hb dX12_kinds_85 (by decide) (fun kc27 => ?_) (fun kc27 => ?_)
            · exact jn92a _ _ _ kv23 hW ls (lv_sub hl [0, 1, 2, 3, 4] rfl)
            · have kv28 : q_V 0 2147483647 kx24 := q_eq1 (q_all kx24) vkx25 kc27 (by decide) (by decide)
              exact jn88a _ _ _ kv23 hW ls (lv_sub hl [0, 1, 2, 3, 4] rfl)
          refine lv_iload hx hb dX12_kinds_26 (lv_at hl 5 rfl) ?_
          refine lv_aload_n hx hb dX12_kinds_28 rfl (lv_at hl 0 rfl) ?_
          refine q_geti hE hW h0 rfl q_k12 35 (by decide) rfl (hE.l wl_445) dX12_kinds_29 (fun kx29 ekx29 vkx29 => ?_)
          refine lv_icmp_ge (tgt := 101) hx hb dX12_kinds_32 (by decide) (fun kc30 => ?_) (fun kc30 => ?_)
          · refine lv_iload_n hx hb dX12_kinds_101 rfl (lv_at hl 2 rfl) ?_
            refine lv_iload hx hb dX12_kinds_102 (lv_at hl 4 rfl) ?_
            refine lv_if_eq (tgt := 113) hx hb dX12_kinds_104 (by decide) (fun kc31 => ?_) (fun kc31 => ?_)
            · have kv32 : q_V 0 0 kx12 := q_eq1 vkx12 (q_c (k := 0) (x := 0) (by decide)) kc31 (by decide) (by decide)
              refine lv_iconst (v := 0) hx hb dX12_kinds_113 (by decide) ?_
              exact jn114a _ _ _ kv11 kx2 0 hW ls (lv_sub hl [0, 1, 3] rfl)
            · have kv33 : q_V 1 1 kx12 := q_ne1 vkx12 (q_c (k := 0) (x := 0) (by decide)) kc31 (by decide)
              refine lv_iconst (v := 1) hx hb dX12_kinds_107 (by decide) ?_
              refine lv_iload_n hx hb dX12_kinds_108 rfl (lv_at hl 3 rfl) ?_
              refine lv_ishl hx hb dX12_kinds_109 ?_
              refine lv_topi (fun kx34 ekx34 => ?_)
              refine lv_goto (tgt := 114) hx hb dX12_kinds_110 (by decide) ?_
              exact jn114a _ _ _ kv11 kx2 kx34 hW ls (lv_sub hl [0, 1, 3] rfl)
          · have kv35 : q_V 0 5 kx13 := (q_lt1 vkx13 vkx29 (Int32.not_le.mp kc30)).w (by decide) (by decide)
            have kv36 : q_V 1 6 kx29 := (q_lt2 vkx13 vkx29 (Int32.not_le.mp kc30)).w (by decide) (by decide)
            refine lv_aload_n hx hb dX12_kinds_35 rfl (lv_at hl 0 rfl) ?_
            refine lv_iload_n hx hb dX12_kinds_36 rfl (lv_at hl 1 rfl) ?_
            refine lv_iload_n hx hb dX12_kinds_37 rfl (lv_at hl 3 rfl) ?_
            refine lv_aload_n hx hb dX12_kinds_38 rfl (lv_at hl 0 rfl) ?_
            refine q_getr hE hW h0 rfl q_k12 37 (by decide) rfl (hE.l wl_150) dX12_kinds_39 (fun kb37 ekb37 hkb37a hkb37b => ?_)
            have hkb37 : q_T G kb37 = 61 := q_tag hkb37a hkb37b
            refine lv_iload hx hb dX12_kinds_42 (lv_at hl 5 rfl) ?_
            refine q_iald hE hW hkb37 rfl (q_in kv35 (by decide) (by decide)) dX12_kinds_44 (fun kx38 ekx38 gkx38 => ?_)
            refine q_goi hW (q_runV (As := [.int i1, .int kx3, .int kx38]) (rest := []) hE hW (c_X12_takesBy l G ks14 a0 h0 i1 kv1 kx3 kx38) kw_X12_294 (q_recv hE hW h0 rfl q_k12) rfl hl.1 rfl (Nat.le_of_ble_eq_true rfl) dX12_kinds_45 ⟨by decide, by decide⟩ ⟨by decide, by decide⟩) (by decide) (fun kx42 ks40 H locs kp39 kf41 hW => ?_)
            refine lv_istore (lv' := [(6, .int kx42), (0, .ref a0), (1, .int i1), (2, .int kx2), (3, .int kx3), (4, .int kx12), (5, .int kx13)]) hx hb dX12_kinds_48 hl (by decide) rfl (fun ls hl => ?_)
            refine lv_iload hx hb dX12_kinds_50 (lv_at hl 5 rfl) ?_
            refine lv_if_eq (tgt := 92) hx hb dX12_kinds_52 (by decide) (fun kc43 => ?_) (fun kc43 => ?_)
            · have kv44 : q_V 0 0 kx12 := q_eq1 vkx12 (q_c (k := 0) (x := 0) (by decide)) kc43 (by decide) (by decide)
              exact jn92a _ _ _ kv35 hW ls (lv_sub hl [1, 2, 3, 4, 6] rfl)
            · have kv45 : q_V 1 1 kx12 := q_ne1 vkx12 (q_c (k := 0) (x := 0) (by decide)) kc43 (by decide)
              refine lv_aload_n hx hb dX12_kinds_55 rfl (lv_at hl 1 rfl) ?_
              refine q_getr hE hW h0 rfl q_k12 36 (by decide) rfl (hE.l wl_149) dX12_kinds_56 (fun kb46 ekb46 hkb46a hkb46b => ?_)
              have hkb46 : q_T G kb46 = 60 := q_tag hkb46a hkb46b
              refine lv_iload hx hb dX12_kinds_59 (lv_at hl 6 rfl) ?_
              refine q_iald hE hW hkb46 rfl (q_in kv35 (by decide) (by decide)) dX12_kinds_61 (fun kx47 ekx47 gkx47 => ?_)
              refine lv_iload_n hx hb dX12_kinds_62 rfl (lv_at hl 2 rfl) ?_
              refine lv_icmp_ne (tgt := 88) hx hb dX12_kinds_63 (by decide) (fun kc48 => ?_) (fun kc48 => ?_)
              · exact jn88a _ _ _ kv35 hW ls (lv_sub hl [1, 2, 3, 4, 6] rfl)
              · have kv49 : q_V 0 5 kx47 := q_eq1 (q_all kx47) kv1 kc48 (by decide) (by decide)
                refine lv_aload_n hx hb dX12_kinds_66 rfl (lv_at hl 1 rfl) ?_
                refine q_getr hE hW h0 rfl q_k12 38 (by decide) rfl (hE.l wl_151) dX12_kinds_67 (fun kb50 ekb50 hkb50a hkb50b => ?_)
                have hkb50 : q_T G kb50 = 62 := q_tag hkb50a hkb50b
                refine lv_iload hx hb dX12_kinds_70 (lv_at hl 6 rfl) ?_
                refine q_iald hE hW hkb50 rfl (q_in kv35 (by decide) (by decide)) dX12_kinds_72 (fun kx51 ekx51 gkx51 => ?_)
                refine lv_iload hx hb dX12_kinds_73 (lv_at hl 0 rfl) ?_
                refine lv_if_ge (tgt := 83) hx hb dX12_kinds_75 (by decide) (fun kc52 => ?_) (fun kc52 => ?_)
                · have kv53 : q_V 0 2147483647 kx42 := (q_le2 (q_c (k := 0) (x := 0) (by decide)) (q_all kx42) kc52).w (by decide) (by decide)
                  refine lv_iload hx hb dX12_kinds_83 (lv_at hl 0 rfl) ?_
                  exact jn85a _ _ _ kv35 kx51 kx42 kv53 hW ls (lv_sub hl [1, 2, 3, 4, 6] rfl)
                · have kv54 : q_V (-2147483648) (-1) kx42 := (q_lt1 (q_all kx42) (q_c (k := 0) (x := 0) (by decide)) (Int32.not_le.mp kc52)).w (by decide) (by decide)
                  refine lv_bipush (v := 60) hx hb dX12_kinds_78 (by decide) ?_
                  refine lv_goto (tgt := 85) hx hb dX12_kinds_80 (by decide) ?_
                  exact jn85a _ _ _ kv35 kx51 60 ((q_c (k := 60) (x := 60) (by decide)).w (by decide) (by decide)) hW ls (lv_sub hl [1, 2, 3, 4, 6] rfl)
      refine lv_iload_n hx hb dX12_kinds_15 rfl (lv_at hl 3 rfl) ?_
      refine lv_iconst (v := 4) hx hb dX12_kinds_16 (by decide) ?_
      refine lv_icmp_ge (tgt := 122) hx hb dX12_kinds_17 (by decide) (fun kc55 => ?_) (fun kc55 => ?_)
      · have kv56 : q_V 4 4 kx3 := (q_le2 (q_c (k := 4) (x := 4) (by decide)) vkx3 kc55).w (by decide) (by decide)
        refine lv_iload_n hx hb dX12_kinds_122 rfl (lv_at hl 2 rfl) ?_
        exact q_reti hE hr hlocks hW ((q_all kx2)) dX12_kinds_123
      · have kv57 : q_V 0 3 kx3 := (q_lt1 vkx3 (q_c (k := 4) (x := 4) (by decide)) (Int32.not_le.mp kc55)).w (by decide) (by decide)
        refine lv_iconst (v := 1) hx hb dX12_kinds_20 (by decide) ?_
        refine lv_istore (lv' := [(4, .int 1), (0, .ref a0), (1, .int i1), (2, .int kx2), (3, .int kx3)]) hx hb dX12_kinds_21 hl (by decide) rfl (fun ls hl => ?_)
        refine lv_iconst (v := 0) hx hb dX12_kinds_23 (by decide) ?_
        refine lv_istore (lv' := [(5, .int 0), (4, .int 1), (0, .ref a0), (1, .int i1), (2, .int kx2), (3, .int kx3)]) hx hb dX12_kinds_24 hl (by decide) rfl (fun ls hl => ?_)
        exact lp26a _ _ _ _ kv57 1 ((q_c (k := 1) (x := 1) (by decide)).w (by decide) (by decide)) 0 ((q_c (k := 0) (x := 0) (by decide)).w (by decide) (by decide)) hW ls (lv_sub hl [2, 3, 4, 5, 1, 0] rfl) (Nat.lt_succ_self _)
  refine lv_aload_n hx hb dX12_kinds_0 rfl (lv_at hl 0 rfl) ?_
  refine lv_iload_n hx hb dX12_kinds_1 rfl (lv_at hl 1 rfl) ?_
  refine q_goi hW (q_runV (As := [.int i1]) (rest := []) hE hW (c_X12_isCloud l G σ a0 h0 i1) kw_X12_233 (q_recv hE hW h0 rfl q_k12) rfl hl.1 rfl (Nat.le_of_ble_eq_true rfl) dX12_kinds_2 ⟨by decide, by decide⟩ ⟨by decide, by decide⟩) (by decide) (fun kx61 ks59 H locs kp58 kf60 hW => ?_)
  refine lv_if_ne (tgt := 11) hx hb dX12_kinds_5 (by decide) (fun kc62 => ?_) (fun kc62 => ?_)
  · have kv63 : q_V 0 5 i1 := kp58.2 kc62
    have kv64 : q_V 1 1 kx61 := q_ne1 kp58.1 (q_c (k := 0) (x := 0) (by decide)) kc62 (by decide)
    refine lv_iconst (v := 0) hx hb dX12_kinds_11 (by decide) ?_
    refine lv_istore_n (lv' := [(2, .int 0), (0, .ref a0), (1, .int i1)]) hx hb dX12_kinds_12 rfl hl (by decide) rfl (fun ls hl => ?_)
    refine lv_iconst (v := 0) hx hb dX12_kinds_13 (by decide) ?_
    refine lv_istore_n (lv' := [(3, .int 0), (2, .int 0), (0, .ref a0), (1, .int i1)]) hx hb dX12_kinds_14 rfl hl (by decide) rfl (fun ls hl => ?_)
    exact lp15a _ _ _ _ kv63 0 0 ((q_c (k := 0) (x := 0) (by decide)).w (by decide) (by decide)) hW ls (lv_sub hl [2, 3, 1, 0] rfl) (Nat.lt_succ_self _)
  · have kv65 : q_V 0 0 kx61 := q_eq1 kp58.1 (q_c (k := 0) (x := 0) (by decide)) kc62 (by decide) (by decide)
    refine lv_bipush (v := (-2)) hx hb dX12_kinds_8 (by decide) ?_
    exact q_reti hE hr hlocks hW (((q_c (k := (-2)) (x := (-2)) (by decide)).w (by decide) (by decide))) dX12_kinds_10
set_option maxHeartbeats 4000000 in
set_option maxRecDepth 100000 in
theorem c_X12_isRow (l : Launch) (G : q_G) (σ : q_S) (i1 : Int32)  : Met l yX12_isRow (Cond.code yX12_isRow cX12_isRow 1 (some .boolean) :: wsL_law) (q_Rm 2) (q_Pre G σ [.int i1]) (q_Qi G [] σ (fun r σ1 => q_V 0 1 r ∧ (r ≠ 0 → q_V 0 2 i1))) 0 0 (q_N G) := by
  refine q_ofW (ts := []) (by decide) (Nat.le_of_ble_eq_true rfl) ?_
  intro p e s m args below meth c hE hr hlocks hW ls hl
  have hE : q_E G p s m args c cX12_isRow 1 RX12 := hE
  have hx := hE.1.1
  have hb := hE.1.2.1
  have hl : lv_has ls 1 [(0, .int i1)] := hl
  refine lv_iload_n hx hb dX12_isRow_0 rfl (lv_at hl 0 rfl) ?_
  refine lv_i2l (v := i1.toInt64) hx hb dX12_isRow_1 rfl ?_
  refine lv_lconst (v := 0) hx hb dX12_isRow_2 (by decide) ?_
  refine lv_ldc2 (v := 2) hx hb hE.1.2.2.2.1 (hE.w wl_977) dX12_isRow_3 ?_
  refine q_goi hW (q_runS (As := [.long (i1).toInt64, .long 0, .long 2]) (rest := []) hE hW (c_X12_in l G σ ((i1).toInt64) 0 2) kw_X12_99 rfl hl.1 rfl (Nat.le_of_ble_eq_true rfl) dX12_isRow_6 ⟨by decide, by decide⟩ ⟨by decide, by decide⟩) (by decide) (fun kx4 ks2 H locs kp1 kf3 hW => ?_)
  exact q_retz hE hr hlocks hW (q_01 kp1.1) (⟨kp1.1, (fun q_h => (q_inV (kp1.2.1 q_h).1 (kp1.2.1 q_h).2 (q_lc (k := 0) (x := 0) (by decide)) (q_lc (k := 2) (x := 2) (by decide))).w (by decide) (by decide))⟩) dX12_isRow_9
set_option maxHeartbeats 4000000 in
set_option maxRecDepth 100000 in
theorem c_X12_line (l : Launch) (G : q_G) (σ : q_S) (a0 : Nat) (h0 : q_T G a0 = 40) (i1 : Int32) (i2 : Int32) (i3 : Int32)  : Met l yX12_line (Cond.code yX12_line cX12_line 5 (some .int) :: wsL_law) (q_Rm 3) (q_Pre G σ [.ref a0, .int i1, .int i2, .int i3]) (q_Qi G [63, 64, 65, 66] σ (fun r σ1 => q_V (-2147483648) 2147483647 r)) 0 0 (q_N G) := by
  refine q_ofW (ts := [63, 64, 65, 66]) (by decide) (Nat.le_of_ble_eq_true rfl) ?_
  intro p e s m args below meth c hE hr hlocks hW ls hl
  have hE : q_E G p s m args c cX12_line 5 RX12 := hE
  have hx := hE.1.1
  have hb := hE.1.2.1
  have hl : lv_has ls 5 [(0, .ref a0), (1, .int i1), (2, .int i2), (3, .int i3)] := hl
  have lp62a : ∀ (n62a : Nat) (ks4 : q_S) (H : Heap) (locs : List Loc) (kv1 : q_V 0 2 i1) (kv2 : q_V 0 16 i3) (kx3 : Int32) (vkx3 : q_V 0 16 kx3) (hW : q_Wd G [63, 64, 65, 66] σ s.heap ks4 H locs) (ls : Array Slot) (hl : lv_has ls 5 [(0, .ref a0), (1, .int i1), (3, .int i3), (4, .int kx3)]), (16 - kx3.toInt).toNat < n62a → W p l e (q_Rm 3) s m args below meth c H locs 0 0 (MQ below (q_Qi G [63, 64, 65, 66] σ (fun r σ1 => q_V (-2147483648) 2147483647 r)) args s 0 0 (q_N G)) (F0 m 62 ls []) := by
    intro n62a
    induction n62a with
    | zero => intro _ _ _ _ _ _ _ _ _ _; exact fun h => absurd h (Nat.not_lt_zero _)
    | succ n62a ih62a =>
      intro ks4 H locs kv1 kv2 kx3 vkx3 hW ls hl hm62a
      refine lv_iload hx hb dX12_line_62 (lv_at hl 3 rfl) ?_
      refine lv_iload_n hx hb dX12_line_64 rfl (lv_at hl 2 rfl) ?_
      refine lv_icmp_ge (tgt := 87) hx hb dX12_line_65 (by decide) (fun kc5 => ?_) (fun kc5 => ?_)
      · refine lv_iload_n hx hb dX12_line_87 rfl (lv_at hl 2 rfl) ?_
        exact q_reti hE hr hlocks hW ((kv2.w (by decide) (by decide))) dX12_line_88
      · have kv6 : q_V 0 15 kx3 := (q_lt1 vkx3 kv2 (Int32.not_le.mp kc5)).w (by decide) (by decide)
        have kv7 : q_V 1 16 i3 := (q_lt2 vkx3 kv2 (Int32.not_le.mp kc5)).w (by decide) (by decide)
        refine lv_aload_n hx hb dX12_line_68 rfl (lv_at hl 0 rfl) ?_
        refine q_getr hE hW h0 rfl q_k12 42 (by decide) rfl (hE.l wl_155) dX12_line_69 (fun kb8 ekb8 hkb8a hkb8b => ?_)
        have hkb8 : q_T G kb8 = 66 := q_tag hkb8a hkb8b
        refine lv_bipush (v := 16) hx hb dX12_line_72 (by decide) ?_
        refine lv_iload_n hx hb dX12_line_74 rfl (lv_at hl 1 rfl) ?_
        refine lv_imul hx hb dX12_line_75 ?_
        refine lv_topi (fun kx9 ekx9 => ?_)
        have vkx9 : q_V 0 32 kx9 := by rw [ekx9]; exact (q_mul (k := 16) (by decide) kv1 (by decide) (by decide) (by decide)).w (by decide) (by decide)
        refine lv_iload hx hb dX12_line_76 (lv_at hl 3 rfl) ?_
        refine lv_iadd hx hb dX12_line_78 ?_
        refine lv_topi (fun kx10 ekx10 => ?_)
        have vkx10 : q_V 0 47 kx10 := by rw [ekx10]; exact (q_add vkx9 kv6 (by decide) (by decide)).w (by decide) (by decide)
        refine lv_iconst (v := 0) hx hb dX12_line_79 (by decide) ?_
        refine q_iast hE hW hkb8 rfl (q_in vkx10 (by decide) (by decide)) (q_pegO (q_c (k := 0) (x := 0) (by decide)) (by decide) (by decide)) (by decide) dX12_line_80 (fun H locs ks11 kp12 hW => ?_)
        obtain ⟨kx13, ekx13⟩ : ∃ y : Int32, y = kx3 + 1 := ⟨_, rfl⟩
        have vkx13 : q_V 1 16 kx13 := by rw [ekx13]; exact (q_add kv6 (q_c (k := 1) (x := 1) (by decide)) (by decide) (by decide)).w (by decide) (by decide)
        have ikx13 : kx13.toInt = kx3.toInt + 1 := q_incT ekx13 kv6 (by decide) (by decide) (by decide)
        refine lv_iinc (v := kx13) (lv' := [(4, .int kx13), (0, .ref a0), (1, .int i1), (3, .int i3)]) hx hb dX12_line_81 hl (k := 3) rfl (by rw [ekx13]; rfl) (by decide) rfl (fun ls hl => ?_)
        refine lv_goto (tgt := 62) hx hb dX12_line_84 (by decide) ?_
        exact ih62a _ _ _ kv1 (kv7.w (by decide) (by decide)) kx13 (vkx13.w (by decide) (by decide)) hW ls (lv_sub hl [1, 2, 3, 0] rfl) (Nat.lt_of_lt_of_le (q_up (ikx13) (show q_V 1 16 kx13 from vkx13).2) (Nat.le_of_lt_succ hm62a))
  refine lv_iload_n hx hb dX12_line_0 rfl (lv_at hl 1 rfl) ?_
  refine q_goi hW (q_runS (As := [.int i1]) (rest := []) hE hW (c_X12_isRow l G σ i1) kw_X12_354 rfl hl.1 rfl (Nat.le_of_ble_eq_true rfl) dX12_line_1 ⟨by decide, by decide⟩ ⟨by decide, by decide⟩) (by decide) (fun kx17 ks15 H locs kp14 kf16 hW => ?_)
  refine lv_if_ne (tgt := 10) hx hb dX12_line_4 (by decide) (fun kc18 => ?_) (fun kc18 => ?_)
  · have kv19 : q_V 0 2 i1 := kp14.2 kc18
    have kv20 : q_V 1 1 kx17 := q_ne1 kp14.1 (q_c (k := 0) (x := 0) (by decide)) kc18 (by decide)
    refine lv_iload_n hx hb dX12_line_10 rfl (lv_at hl 2 rfl) ?_
    refine lv_i2l (v := i2.toInt64) hx hb dX12_line_11 rfl ?_
    refine lv_lconst (v := 0) hx hb dX12_line_12 (by decide) ?_
    refine lv_ldc2 (v := 2) hx hb hE.1.2.2.2.1 (hE.w wl_977) dX12_line_13 ?_
    refine q_goi hW (q_runS (As := [.long (i2).toInt64, .long 0, .long 2]) (rest := []) hE hW (c_X12_in l G ks15 ((i2).toInt64) 0 2) kw_X12_99 rfl hl.1 rfl (Nat.le_of_ble_eq_true rfl) dX12_line_16 ⟨by decide, by decide⟩ ⟨by decide, by decide⟩) (by decide) (fun kx24 ks22 H locs kp21 kf23 hW => ?_)
    refine lv_if_eq (tgt := 28) hx hb dX12_line_19 (by decide) (fun kc25 => ?_) (fun kc25 => ?_)
    · have kv26 : q_V 0 0 kx24 := q_eq1 kp21.1 (q_c (k := 0) (x := 0) (by decide)) kc25 (by decide) (by decide)
      refine lv_bipush (v := (-3)) hx hb dX12_line_28 (by decide) ?_
      exact q_reti hE hr hlocks hW (((q_c (k := (-3)) (x := (-3)) (by decide)).w (by decide) (by decide))) dX12_line_30
    · have kv27 : q_V 0 2 i2 := q_inV (kp21.2.1 kc25).1 (kp21.2.1 kc25).2 (q_lc (k := 0) (x := 0) (by decide)) (q_lc (k := 2) (x := 2) (by decide))
      have kv28 : q_V 1 1 kx24 := q_ne1 kp21.1 (q_c (k := 0) (x := 0) (by decide)) kc25 (by decide)
      refine lv_iload_n hx hb dX12_line_22 rfl (lv_at hl 3 rfl) ?_
      refine lv_bipush (v := 16) hx hb dX12_line_23 (by decide) ?_
      refine lv_icmp_le (tgt := 31) hx hb dX12_line_25 (by decide) (fun kc29 => ?_) (fun kc29 => ?_)
      · have kv30 : q_V (-2147483648) 16 i3 := (q_le1 (q_all i3) (q_c (k := 16) (x := 16) (by decide)) kc29).w (by decide) (by decide)
        refine lv_iload_n hx hb dX12_line_31 rfl (lv_at hl 3 rfl) ?_
        refine lv_if_ge (tgt := 38) hx hb dX12_line_32 (by decide) (fun kc31 => ?_) (fun kc31 => ?_)
        · have kv32 : q_V 0 16 i3 := (q_le2 (q_c (k := 0) (x := 0) (by decide)) kv30 kc31).w (by decide) (by decide)
          refine lv_aload_n hx hb dX12_line_38 rfl (lv_at hl 0 rfl) ?_
          refine q_getr hE hW h0 rfl q_k12 39 (by decide) rfl (hE.l wl_152) dX12_line_39 (fun kb33 ekb33 hkb33a hkb33b => ?_)
          have hkb33 : q_T G kb33 = 63 := q_tag hkb33a hkb33b
          refine lv_iload_n hx hb dX12_line_42 rfl (lv_at hl 1 rfl) ?_
          refine lv_iconst (v := 1) hx hb dX12_line_43 (by decide) ?_
          refine q_zast hE hW hkb33 rfl (q_in kv19 (by decide) (by decide)) (q_narz ((q_c (k := 1) (x := 1) (by decide)).w (by decide) (by decide))) ((q_c (k := 1) (x := 1) (by decide)).w (by decide) (by decide)) (by decide) dX12_line_44 (fun H locs ks34 kp35 hW => ?_)
          refine lv_aload_n hx hb dX12_line_45 rfl (lv_at hl 0 rfl) ?_
          refine q_getr hE hW h0 rfl q_k12 40 (by decide) rfl (hE.l wl_153) dX12_line_46 (fun kb36 ekb36 hkb36a hkb36b => ?_)
          have hkb36 : q_T G kb36 = 64 := q_tag hkb36a hkb36b
          refine lv_iload_n hx hb dX12_line_49 rfl (lv_at hl 1 rfl) ?_
          refine lv_iload_n hx hb dX12_line_50 rfl (lv_at hl 2 rfl) ?_
          refine q_iast hE hW hkb36 rfl (q_in kv19 (by decide) (by decide)) trivial (by decide) dX12_line_51 (fun H locs ks37 kp38 hW => ?_)
          refine lv_aload_n hx hb dX12_line_52 rfl (lv_at hl 0 rfl) ?_
          refine q_getr hE hW h0 rfl q_k12 41 (by decide) rfl (hE.l wl_154) dX12_line_53 (fun kb39 ekb39 hkb39a hkb39b => ?_)
          have hkb39 : q_T G kb39 = 65 := q_tag hkb39a hkb39b
          refine lv_iload_n hx hb dX12_line_56 rfl (lv_at hl 1 rfl) ?_
          refine lv_iload_n hx hb dX12_line_57 rfl (lv_at hl 3 rfl) ?_
          refine q_iast hE hW hkb39 rfl (q_in kv19 (by decide) (by decide)) kv32 (by decide) dX12_line_58 (fun H locs ks40 kp41 hW => ?_)
          refine lv_iconst (v := 0) hx hb dX12_line_59 (by decide) ?_
          refine lv_istore (lv' := [(4, .int 0), (0, .ref a0), (1, .int i1), (2, .int i2), (3, .int i3)]) hx hb dX12_line_60 hl (by decide) rfl (fun ls hl => ?_)
          exact lp62a _ _ _ _ kv19 kv32 0 ((q_c (k := 0) (x := 0) (by decide)).w (by decide) (by decide)) hW ls (lv_sub hl [1, 2, 4, 0] rfl) (Nat.lt_succ_self _)
        · have kv42 : q_V (-2147483648) (-1) i3 := (q_lt1 kv30 (q_c (k := 0) (x := 0) (by decide)) (Int32.not_le.mp kc31)).w (by decide) (by decide)
          refine lv_bipush (v := (-16)) hx hb dX12_line_35 (by decide) ?_
          exact q_reti hE hr hlocks hW (((q_c (k := (-16)) (x := (-16)) (by decide)).w (by decide) (by decide))) dX12_line_37
      · have kv43 : q_V 17 2147483647 i3 := (q_lt2 (q_c (k := 16) (x := 16) (by decide)) (q_all i3) (Int32.not_le.mp kc29)).w (by decide) (by decide)
        refine lv_bipush (v := (-3)) hx hb dX12_line_28 (by decide) ?_
        exact q_reti hE hr hlocks hW (((q_c (k := (-3)) (x := (-3)) (by decide)).w (by decide) (by decide))) dX12_line_30
  · have kv44 : q_V 0 0 kx17 := q_eq1 kp14.1 (q_c (k := 0) (x := 0) (by decide)) kc18 (by decide) (by decide)
    refine lv_bipush (v := (-2)) hx hb dX12_line_7 (by decide) ?_
    exact q_reti hE hr hlocks hW (((q_c (k := (-2)) (x := (-2)) (by decide)).w (by decide) (by decide))) dX12_line_9
set_option maxHeartbeats 4000000 in
set_option maxRecDepth 100000 in
theorem c_X12_holds (l : Launch) (G : q_G) (σ : q_S) (a0 : Nat) (h0 : q_T G a0 = 40) (i1 : Int32) (w1 : q_V 0 2 i1) (i2 : Int32)  : Met l yX12_holds (Cond.code yX12_holds cX12_holds 3 (some .boolean) :: wsL_law) (q_Rm 1) (q_Pre G σ [.ref a0, .int i1, .int i2]) (q_Qi G [] σ (fun r σ1 => q_V 0 1 r)) 0 0 (q_N G) := by
  refine q_ofW (ts := []) (by decide) (Nat.le_of_ble_eq_true rfl) ?_
  intro p e s m args below meth c hE hr hlocks hW ls hl
  have hE : q_E G p s m args c cX12_holds 3 RX12 := hE
  have hx := hE.1.1
  have hb := hE.1.2.1
  have hl : lv_has ls 3 [(0, .ref a0), (1, .int i1), (2, .int i2)] := hl
  have jn40a : ∀ (kx1 : Int32) (vkx1 : q_V 0 1 kx1) (kx2 : Int32) (vkx2 : q_V 0 1 kx2) (ls : Array Slot) (hl : lv_has ls 3 []), W p l e (q_Rm 1) s m args below meth c s.heap [] 0 0 (MQ below (q_Qi G [] σ (fun r σ1 => q_V 0 1 r)) args s 0 0 (q_N G)) (F0 m 40 ls [.int kx2, .int kx1]) := by
    intro kx1 vkx1 kx2 vkx2 ls hl
    refine lv_icmp_ne (tgt := 47) hx hb dX12_holds_40 (by decide) (fun kc3 => ?_) (fun kc3 => ?_)
    · refine lv_iconst (v := 0) hx hb dX12_holds_47 (by decide) ?_
      exact q_retz hE hr hlocks hW (Or.inl rfl) (((q_c (k := 0) (x := 0) (by decide)).w (by decide) (by decide))) dX12_holds_48
    · refine lv_iconst (v := 1) hx hb dX12_holds_43 (by decide) ?_
      refine lv_goto (tgt := 48) hx hb dX12_holds_44 (by decide) ?_
      exact q_retz hE hr hlocks hW (Or.inr rfl) (((q_c (k := 1) (x := 1) (by decide)).w (by decide) (by decide))) dX12_holds_48
  have jn28a : ∀ (kx4 : Int32) (vkx4 : q_V 0 1 kx4) (ls : Array Slot) (hl : lv_has ls 3 [(2, .int i2)]), W p l e (q_Rm 1) s m args below meth c s.heap [] 0 0 (MQ below (q_Qi G [] σ (fun r σ1 => q_V 0 1 r)) args s 0 0 (q_N G)) (F0 m 28 ls [.int kx4]) := by
    intro kx4 vkx4 ls hl
    refine lv_iload_n hx hb dX12_holds_28 rfl (lv_at hl 0 rfl) ?_
    refine lv_sipush (v := 1000) hx hb dX12_holds_29 (by decide) ?_
    refine lv_icmp_ge (tgt := 39) hx hb dX12_holds_32 (by decide) (fun kc5 => ?_) (fun kc5 => ?_)
    · have kv6 : q_V 1000 2147483647 i2 := (q_le2 (q_c (k := 1000) (x := 1000) (by decide)) (q_all i2) kc5).w (by decide) (by decide)
      refine lv_iconst (v := 0) hx hb dX12_holds_39 (by decide) ?_
      exact jn40a kx4 vkx4 0 ((q_c (k := 0) (x := 0) (by decide)).w (by decide) (by decide)) ls (lv_sub hl [] rfl)
    · have kv7 : q_V (-2147483648) 999 i2 := (q_lt1 (q_all i2) (q_c (k := 1000) (x := 1000) (by decide)) (Int32.not_le.mp kc5)).w (by decide) (by decide)
      refine lv_iconst (v := 1) hx hb dX12_holds_35 (by decide) ?_
      refine lv_goto (tgt := 40) hx hb dX12_holds_36 (by decide) ?_
      exact jn40a kx4 vkx4 1 ((q_c (k := 1) (x := 1) (by decide)).w (by decide) (by decide)) ls (lv_sub hl [] rfl)
  refine lv_iload_n hx hb dX12_holds_0 rfl (lv_at hl 2 rfl) ?_
  refine lv_if_eq (tgt := 43) hx hb dX12_holds_1 (by decide) (fun kc8 => ?_) (fun kc8 => ?_)
  · have kv9 : q_V 0 0 i2 := q_eq1 (q_all i2) (q_c (k := 0) (x := 0) (by decide)) kc8 (by decide) (by decide)
    refine lv_iconst (v := 1) hx hb dX12_holds_43 (by decide) ?_
    refine lv_goto (tgt := 48) hx hb dX12_holds_44 (by decide) ?_
    exact q_retz hE hr hlocks hW (Or.inr rfl) (((q_c (k := 1) (x := 1) (by decide)).w (by decide) (by decide))) dX12_holds_48
  · refine lv_aload_n hx hb dX12_holds_4 rfl (lv_at hl 0 rfl) ?_
    refine q_getr hE hW h0 rfl q_k12 40 (by decide) rfl (hE.l wl_153) dX12_holds_5 (fun kb10 ekb10 hkb10a hkb10b => ?_)
    have hkb10 : q_T G kb10 = 64 := q_tag hkb10a hkb10b
    refine lv_iload_n hx hb dX12_holds_8 rfl (lv_at hl 1 rfl) ?_
    refine q_iald hE hW hkb10 rfl (q_in w1 (by decide) (by decide)) dX12_holds_9 (fun kx11 ekx11 gkx11 => ?_)
    refine lv_if_eq (tgt := 43) hx hb dX12_holds_10 (by decide) (fun kc12 => ?_) (fun kc12 => ?_)
    · have kv13 : q_V 0 0 kx11 := q_eq1 (q_all kx11) (q_c (k := 0) (x := 0) (by decide)) kc12 (by decide) (by decide)
      refine lv_iconst (v := 1) hx hb dX12_holds_43 (by decide) ?_
      refine lv_goto (tgt := 48) hx hb dX12_holds_44 (by decide) ?_
      exact q_retz hE hr hlocks hW (Or.inr rfl) (((q_c (k := 1) (x := 1) (by decide)).w (by decide) (by decide))) dX12_holds_48
    · refine lv_aload_n hx hb dX12_holds_13 rfl (lv_at hl 0 rfl) ?_
      refine q_getr hE hW h0 rfl q_k12 40 (by decide) rfl (hE.l wl_153) dX12_holds_14 (fun kb14 ekb14 hkb14a hkb14b => ?_)
      obtain rfl : kb10 = kb14 := ekb10.symm.trans ekb14
      refine lv_iload_n hx hb dX12_holds_17 rfl (lv_at hl 1 rfl) ?_
      refine q_iald hE hW hkb10 rfl (q_in w1 (by decide) (by decide)) dX12_holds_18 (fun kx15 ekx15 gkx15 => ?_)
      obtain rfl : kx11 = kx15 := ekx11.symm.trans ekx15
      refine lv_iconst (v := 1) hx hb dX12_holds_19 (by decide) ?_
      refine lv_icmp_ne (tgt := 27) hx hb dX12_holds_20 (by decide) (fun kc16 => ?_) (fun kc16 => ?_)
      · refine lv_iconst (v := 0) hx hb dX12_holds_27 (by decide) ?_
        exact jn28a 0 ((q_c (k := 0) (x := 0) (by decide)).w (by decide) (by decide)) ls (lv_sub hl [2] rfl)
      · have kv17 : q_V 1 1 kx11 := q_eq1 (q_all kx11) (q_c (k := 1) (x := 1) (by decide)) kc16 (by decide) (by decide)
        refine lv_iconst (v := 1) hx hb dX12_holds_23 (by decide) ?_
        refine lv_goto (tgt := 28) hx hb dX12_holds_24 (by decide) ?_
        exact jn28a 1 ((q_c (k := 1) (x := 1) (by decide)).w (by decide) (by decide)) ls (lv_sub hl [2] rfl)
set_option maxHeartbeats 4000000 in
set_option maxRecDepth 100000 in
theorem c_X12_pin (l : Launch) (G : q_G) (σ : q_S) (a0 : Nat) (h0 : q_T G a0 = 40) (i1 : Int32) (i2 : Int32) (i3 : Int32) (i4 : Int32)  : Met l yX12_pin (Cond.code yX12_pin cX12_pin 6 (some .int) :: wsL_law) (q_Rm 3) (q_Pre G σ [.ref a0, .int i1, .int i2, .int i3, .int i4]) (q_Qi G [66] σ (fun r σ1 => q_V (-2147483648) 2147483647 r)) 0 0 (q_N G) := by
  refine q_ofW (ts := [66]) (by decide) (Nat.le_of_ble_eq_true rfl) ?_
  intro p e s m args below meth c hE hr hlocks hW ls hl
  have hE : q_E G p s m args c cX12_pin 6 RX12 := hE
  have hx := hE.1.1
  have hb := hE.1.2.1
  have hl : lv_has ls 6 [(0, .ref a0), (1, .int i1), (2, .int i2), (3, .int i3), (4, .int i4)] := hl
  refine lv_iload_n hx hb dX12_pin_0 rfl (lv_at hl 1 rfl) ?_
  refine q_goi hW (q_runS (As := [.int i1]) (rest := []) hE hW (c_X12_isRow l G σ i1) kw_X12_354 rfl hl.1 rfl (Nat.le_of_ble_eq_true rfl) dX12_pin_1 ⟨by decide, by decide⟩ ⟨by decide, by decide⟩) (by decide) (fun kx4 ks2 H locs kp1 kf3 hW => ?_)
  refine lv_if_eq (tgt := 20) hx hb dX12_pin_4 (by decide) (fun kc5 => ?_) (fun kc5 => ?_)
  · have kv6 : q_V 0 0 kx4 := q_eq1 kp1.1 (q_c (k := 0) (x := 0) (by decide)) kc5 (by decide) (by decide)
    refine lv_bipush (v := (-2)) hx hb dX12_pin_20 (by decide) ?_
    exact q_reti hE hr hlocks hW (((q_c (k := (-2)) (x := (-2)) (by decide)).w (by decide) (by decide))) dX12_pin_22
  · have kv7 : q_V 0 2 i1 := kp1.2 kc5
    have kv8 : q_V 1 1 kx4 := q_ne1 kp1.1 (q_c (k := 0) (x := 0) (by decide)) kc5 (by decide)
    refine lv_iload_n hx hb dX12_pin_7 rfl (lv_at hl 3 rfl) ?_
    refine lv_if_ne (tgt := 23) hx hb dX12_pin_8 (by decide) (fun kc9 => ?_) (fun kc9 => ?_)
    · refine lv_iload_n hx hb dX12_pin_23 rfl (lv_at hl 3 rfl) ?_
      refine lv_i2l (v := i3.toInt64) hx hb dX12_pin_24 rfl ?_
      refine lv_lconst (v := 0) hx hb dX12_pin_25 (by decide) ?_
      refine lv_ldc2 (v := 2) hx hb hE.1.2.2.2.1 (hE.w wl_977) dX12_pin_26 ?_
      refine q_goi hW (q_runS (As := [.long (i3).toInt64, .long 0, .long 2]) (rest := []) hE hW (c_X12_in l G ks2 ((i3).toInt64) 0 2) kw_X12_99 rfl hl.1 rfl (Nat.le_of_ble_eq_true rfl) dX12_pin_29 ⟨by decide, by decide⟩ ⟨by decide, by decide⟩) (by decide) (fun kx13 ks11 H locs kp10 kf12 hW => ?_)
      refine lv_if_eq (tgt := 55) hx hb dX12_pin_32 (by decide) (fun kc14 => ?_) (fun kc14 => ?_)
      · have kv15 : q_V 0 0 kx13 := q_eq1 kp10.1 (q_c (k := 0) (x := 0) (by decide)) kc14 (by decide) (by decide)
        refine lv_bipush (v := (-3)) hx hb dX12_pin_55 (by decide) ?_
        exact q_reti hE hr hlocks hW (((q_c (k := (-3)) (x := (-3)) (by decide)).w (by decide) (by decide))) dX12_pin_57
      · have kv16 : q_V 0 2 i3 := q_inV (kp10.2.1 kc14).1 (kp10.2.1 kc14).2 (q_lc (k := 0) (x := 0) (by decide)) (q_lc (k := 2) (x := 2) (by decide))
        have kv17 : q_V 1 2 i3 := q_ne1 kv16 (q_c (k := 0) (x := 0) (by decide)) kc9 (by decide)
        have kv18 : q_V 1 1 kx13 := q_ne1 kp10.1 (q_c (k := 0) (x := 0) (by decide)) kc14 (by decide)
        refine lv_iload_n hx hb dX12_pin_35 rfl (lv_at hl 3 rfl) ?_
        refine lv_iconst (v := 1) hx hb dX12_pin_36 (by decide) ?_
        refine lv_icmp_ne (tgt := 58) hx hb dX12_pin_37 (by decide) (fun kc19 => ?_) (fun kc19 => ?_)
        · have kv20 : q_V 2 2 i3 := q_ne1 kv17 (q_c (k := 1) (x := 1) (by decide)) kc19 (by decide)
          refine lv_aload_n hx hb dX12_pin_58 rfl (lv_at hl 0 rfl) ?_
          refine q_getr hE hW h0 rfl q_k12 39 (by decide) rfl (hE.l wl_152) dX12_pin_59 (fun kb21 ekb21 hkb21a hkb21b => ?_)
          have hkb21 : q_T G kb21 = 63 := q_tag hkb21a hkb21b
          refine lv_iload_n hx hb dX12_pin_62 rfl (lv_at hl 1 rfl) ?_
          refine q_zald hE hW hkb21 rfl (q_in kv7 (by decide) (by decide)) dX12_pin_63 (fun kx22 ekx22 gkx22 => ?_)
          have vkx22 : q_V 0 1 kx22 := gkx22
          refine lv_if_ne (tgt := 70) hx hb dX12_pin_64 (by decide) (fun kc23 => ?_) (fun kc23 => ?_)
          · have kv24 : q_V 1 1 kx22 := q_ne1 vkx22 (q_c (k := 0) (x := 0) (by decide)) kc23 (by decide)
            refine lv_iload_n hx hb dX12_pin_70 rfl (lv_at hl 2 rfl) ?_
            refine lv_i2l (v := i2.toInt64) hx hb dX12_pin_71 rfl ?_
            refine lv_lconst (v := 0) hx hb dX12_pin_72 (by decide) ?_
            refine lv_aload_n hx hb dX12_pin_73 rfl (lv_at hl 0 rfl) ?_
            refine q_getr hE hW h0 rfl q_k12 41 (by decide) rfl (hE.l wl_154) dX12_pin_74 (fun kb25 ekb25 hkb25a hkb25b => ?_)
            have hkb25 : q_T G kb25 = 65 := q_tag hkb25a hkb25b
            refine lv_iload_n hx hb dX12_pin_77 rfl (lv_at hl 1 rfl) ?_
            refine q_iald hE hW hkb25 rfl (q_in kv7 (by decide) (by decide)) dX12_pin_78 (fun kx26 ekx26 gkx26 => ?_)
            have vkx26 : q_V 0 16 kx26 := gkx26
            refine lv_iconst (v := 1) hx hb dX12_pin_79 (by decide) ?_
            refine lv_isub hx hb dX12_pin_80 ?_
            refine lv_topi (fun kx27 ekx27 => ?_)
            have vkx27 : q_V (-1) 15 kx27 := by rw [ekx27]; exact (q_sub vkx26 (q_c (k := 1) (x := 1) (by decide)) (by decide) (by decide)).w (by decide) (by decide)
            refine lv_i2l (v := kx27.toInt64) hx hb dX12_pin_81 rfl ?_
            refine q_goi hW (q_runS (As := [.long (i2).toInt64, .long 0, .long (kx27).toInt64]) (rest := []) hE hW (c_X12_in l G ks11 ((i2).toInt64) 0 ((kx27).toInt64)) kw_X12_99 rfl hl.1 rfl (Nat.le_of_ble_eq_true rfl) dX12_pin_82 ⟨by decide, by decide⟩ ⟨by decide, by decide⟩) (by decide) (fun kx31 ks29 H locs kp28 kf30 hW => ?_)
            refine lv_if_ne (tgt := 91) hx hb dX12_pin_85 (by decide) (fun kc32 => ?_) (fun kc32 => ?_)
            · have kv33 : q_V 0 15 i2 := q_inV (kp28.2.1 kc32).1 (kp28.2.1 kc32).2 (q_lc (k := 0) (x := 0) (by decide)) (q_l vkx27)
              have kv34 : q_V 1 1 kx31 := q_ne1 kp28.1 (q_c (k := 0) (x := 0) (by decide)) kc32 (by decide)
              refine lv_iload_n hx hb dX12_pin_91 rfl (lv_at hl 3 rfl) ?_
              refine lv_if_ne (tgt := 102) hx hb dX12_pin_92 (by decide) (fun kc35 => ?_) (fun kc35 => ?_)
              · refine lv_iload_n hx hb dX12_pin_102 rfl (lv_at hl 3 rfl) ?_
                refine lv_iconst (v := 1) hx hb dX12_pin_103 (by decide) ?_
                refine lv_icmp_ne (tgt := 116) hx hb dX12_pin_104 (by decide) (fun kc36 => ?_) (fun kc36 => ?_)
                · refine lv_iconst (v := 0) hx hb dX12_pin_116 (by decide) ?_
                  refine lv_istore (lv' := [(5, .int 0), (0, .ref a0), (1, .int i1), (2, .int i2), (3, .int i3), (4, .int i4)]) hx hb dX12_pin_117 hl (by decide) rfl (fun ls hl => ?_)
                  refine lv_aload_n hx hb dX12_pin_119 rfl (lv_at hl 1 rfl) ?_
                  refine lv_iload_n hx hb dX12_pin_120 rfl (lv_at hl 2 rfl) ?_
                  refine lv_iload hx hb dX12_pin_121 (lv_at hl 0 rfl) ?_
                  refine q_goi hW (q_runV (As := [.int i1, .int 0]) (rest := []) hE hW (c_X12_holds l G ks29 a0 h0 i1 kv7 0) kw_X12_361 (q_recv hE hW h0 rfl q_k12) rfl hl.1 rfl (Nat.le_of_ble_eq_true rfl) dX12_pin_123 ⟨by decide, by decide⟩ ⟨by decide, by decide⟩) (by decide) (fun kx40 ks38 H locs kp37 kf39 hW => ?_)
                  refine lv_if_ne (tgt := 132) hx hb dX12_pin_126 (by decide) (fun kc41 => ?_) (fun kc41 => ?_)
                  · have kv42 : q_V 1 1 kx40 := q_ne1 kp37 (q_c (k := 0) (x := 0) (by decide)) kc41 (by decide)
                    refine lv_aload_n hx hb dX12_pin_132 rfl (lv_at hl 1 rfl) ?_
                    refine q_getr hE hW h0 rfl q_k12 42 (by decide) rfl (hE.l wl_155) dX12_pin_133 (fun kb43 ekb43 hkb43a hkb43b => ?_)
                    have hkb43 : q_T G kb43 = 66 := q_tag hkb43a hkb43b
                    refine lv_bipush (v := 16) hx hb dX12_pin_136 (by decide) ?_
                    refine lv_iload_n hx hb dX12_pin_138 rfl (lv_at hl 2 rfl) ?_
                    refine lv_imul hx hb dX12_pin_139 ?_
                    refine lv_topi (fun kx44 ekx44 => ?_)
                    have vkx44 : q_V 0 32 kx44 := by rw [ekx44]; exact (q_mul (k := 16) (by decide) kv7 (by decide) (by decide) (by decide)).w (by decide) (by decide)
                    refine lv_iload_n hx hb dX12_pin_140 rfl (lv_at hl 3 rfl) ?_
                    refine lv_iadd hx hb dX12_pin_141 ?_
                    refine lv_topi (fun kx45 ekx45 => ?_)
                    have vkx45 : q_V 0 47 kx45 := by rw [ekx45]; exact (q_add vkx44 kv33 (by decide) (by decide)).w (by decide) (by decide)
                    refine lv_iload hx hb dX12_pin_142 (lv_at hl 0 rfl) ?_
                    refine q_iast hE hW hkb43 rfl (q_in vkx45 (by decide) (by decide)) (q_pegO (q_c (k := 0) (x := 0) (by decide)) (by decide) (by decide)) (by decide) dX12_pin_144 (fun H locs ks46 kp47 hW => ?_)
                    refine lv_iconst (v := 1) hx hb dX12_pin_145 (by decide) ?_
                    exact q_reti hE hr hlocks hW (((q_c (k := 1) (x := 1) (by decide)).w (by decide) (by decide))) dX12_pin_146
                  · have kv48 : q_V 0 0 kx40 := q_eq1 kp37 (q_c (k := 0) (x := 0) (by decide)) kc41 (by decide) (by decide)
                    refine lv_bipush (v := (-13)) hx hb dX12_pin_129 (by decide) ?_
                    exact q_reti hE hr hlocks hW (((q_c (k := (-13)) (x := (-13)) (by decide)).w (by decide) (by decide))) dX12_pin_131
                · have kv49 : q_V 2 1 i3 := q_eq1 kv20 (q_c (k := 1) (x := 1) (by decide)) kc36 (by decide) (by decide)
                  exact (kv49.no (by decide))
              · have kv50 : q_V 2 0 i3 := q_eq1 kv20 (q_c (k := 0) (x := 0) (by decide)) kc35 (by decide) (by decide)
                exact (kv50.no (by decide))
            · have kv51 : q_V 0 0 kx31 := q_eq1 kp28.1 (q_c (k := 0) (x := 0) (by decide)) kc32 (by decide) (by decide)
              refine lv_bipush (v := (-12)) hx hb dX12_pin_88 (by decide) ?_
              exact q_reti hE hr hlocks hW (((q_c (k := (-12)) (x := (-12)) (by decide)).w (by decide) (by decide))) dX12_pin_90
          · have kv52 : q_V 0 0 kx22 := q_eq1 vkx22 (q_c (k := 0) (x := 0) (by decide)) kc23 (by decide) (by decide)
            refine lv_bipush (v := (-11)) hx hb dX12_pin_67 (by decide) ?_
            exact q_reti hE hr hlocks hW (((q_c (k := (-11)) (x := (-11)) (by decide)).w (by decide) (by decide))) dX12_pin_69
        · have kv53 : q_V 1 1 i3 := q_eq1 kv17 (q_c (k := 1) (x := 1) (by decide)) kc19 (by decide) (by decide)
          refine lv_iload hx hb dX12_pin_40 (lv_at hl 4 rfl) ?_
          refine lv_i2l (v := i4.toInt64) hx hb dX12_pin_42 rfl ?_
          refine lv_ldc2 (v := (-999)) hx hb hE.1.2.2.2.1 (hE.w wl_1005) dX12_pin_43 ?_
          refine lv_ldc2 (v := 999) hx hb hE.1.2.2.2.1 (hE.w wl_1006) dX12_pin_46 ?_
          refine q_goi hW (q_runS (As := [.long (i4).toInt64, .long (-999), .long 999]) (rest := []) hE hW (c_X12_in l G ks11 ((i4).toInt64) (-999) 999) kw_X12_99 rfl hl.1 rfl (Nat.le_of_ble_eq_true rfl) dX12_pin_49 ⟨by decide, by decide⟩ ⟨by decide, by decide⟩) (by decide) (fun kx57 ks55 H locs kp54 kf56 hW => ?_)
          refine lv_if_ne (tgt := 58) hx hb dX12_pin_52 (by decide) (fun kc58 => ?_) (fun kc58 => ?_)
          · have kv59 : q_V (-999) 999 i4 := q_inV (kp54.2.1 kc58).1 (kp54.2.1 kc58).2 (q_lc (k := (-999)) (x := (-999)) (by decide)) (q_lc (k := 999) (x := 999) (by decide))
            have kv60 : q_V 1 1 kx57 := q_ne1 kp54.1 (q_c (k := 0) (x := 0) (by decide)) kc58 (by decide)
            refine lv_aload_n hx hb dX12_pin_58 rfl (lv_at hl 0 rfl) ?_
            refine q_getr hE hW h0 rfl q_k12 39 (by decide) rfl (hE.l wl_152) dX12_pin_59 (fun kb61 ekb61 hkb61a hkb61b => ?_)
            have hkb61 : q_T G kb61 = 63 := q_tag hkb61a hkb61b
            refine lv_iload_n hx hb dX12_pin_62 rfl (lv_at hl 1 rfl) ?_
            refine q_zald hE hW hkb61 rfl (q_in kv7 (by decide) (by decide)) dX12_pin_63 (fun kx62 ekx62 gkx62 => ?_)
            have vkx62 : q_V 0 1 kx62 := gkx62
            refine lv_if_ne (tgt := 70) hx hb dX12_pin_64 (by decide) (fun kc63 => ?_) (fun kc63 => ?_)
            · have kv64 : q_V 1 1 kx62 := q_ne1 vkx62 (q_c (k := 0) (x := 0) (by decide)) kc63 (by decide)
              refine lv_iload_n hx hb dX12_pin_70 rfl (lv_at hl 2 rfl) ?_
              refine lv_i2l (v := i2.toInt64) hx hb dX12_pin_71 rfl ?_
              refine lv_lconst (v := 0) hx hb dX12_pin_72 (by decide) ?_
              refine lv_aload_n hx hb dX12_pin_73 rfl (lv_at hl 0 rfl) ?_
              refine q_getr hE hW h0 rfl q_k12 41 (by decide) rfl (hE.l wl_154) dX12_pin_74 (fun kb65 ekb65 hkb65a hkb65b => ?_)
              have hkb65 : q_T G kb65 = 65 := q_tag hkb65a hkb65b
              refine lv_iload_n hx hb dX12_pin_77 rfl (lv_at hl 1 rfl) ?_
              refine q_iald hE hW hkb65 rfl (q_in kv7 (by decide) (by decide)) dX12_pin_78 (fun kx66 ekx66 gkx66 => ?_)
              have vkx66 : q_V 0 16 kx66 := gkx66
              refine lv_iconst (v := 1) hx hb dX12_pin_79 (by decide) ?_
              refine lv_isub hx hb dX12_pin_80 ?_
              refine lv_topi (fun kx67 ekx67 => ?_)
              have vkx67 : q_V (-1) 15 kx67 := by rw [ekx67]; exact (q_sub vkx66 (q_c (k := 1) (x := 1) (by decide)) (by decide) (by decide)).w (by decide) (by decide)
              refine lv_i2l (v := kx67.toInt64) hx hb dX12_pin_81 rfl ?_
              refine q_goi hW (q_runS (As := [.long (i2).toInt64, .long 0, .long (kx67).toInt64]) (rest := []) hE hW (c_X12_in l G ks55 ((i2).toInt64) 0 ((kx67).toInt64)) kw_X12_99 rfl hl.1 rfl (Nat.le_of_ble_eq_true rfl) dX12_pin_82 ⟨by decide, by decide⟩ ⟨by decide, by decide⟩) (by decide) (fun kx71 ks69 H locs kp68 kf70 hW => ?_)
              refine lv_if_ne (tgt := 91) hx hb dX12_pin_85 (by decide) (fun kc72 => ?_) (fun kc72 => ?_)
              · have kv73 : q_V 0 15 i2 := q_inV (kp68.2.1 kc72).1 (kp68.2.1 kc72).2 (q_lc (k := 0) (x := 0) (by decide)) (q_l vkx67)
                have kv74 : q_V 1 1 kx71 := q_ne1 kp68.1 (q_c (k := 0) (x := 0) (by decide)) kc72 (by decide)
                refine lv_iload_n hx hb dX12_pin_91 rfl (lv_at hl 3 rfl) ?_
                refine lv_if_ne (tgt := 102) hx hb dX12_pin_92 (by decide) (fun kc75 => ?_) (fun kc75 => ?_)
                · refine lv_iload_n hx hb dX12_pin_102 rfl (lv_at hl 3 rfl) ?_
                  refine lv_iconst (v := 1) hx hb dX12_pin_103 (by decide) ?_
                  refine lv_icmp_ne (tgt := 116) hx hb dX12_pin_104 (by decide) (fun kc76 => ?_) (fun kc76 => ?_)
                  · exact q_neq kv53 (q_c (k := 1) (x := 1) (by decide)) kc76
                  · refine lv_iload hx hb dX12_pin_107 (lv_at hl 4 rfl) ?_
                    refine lv_sipush (v := 3000) hx hb dX12_pin_109 (by decide) ?_
                    refine lv_iadd hx hb dX12_pin_112 ?_
                    refine lv_topi (fun kx77 ekx77 => ?_)
                    have vkx77 : q_V 2001 3999 kx77 := by rw [ekx77]; exact (q_add kv59 (q_c (k := 3000) (x := 3000) (by decide)) (by decide) (by decide)).w (by decide) (by decide)
                    refine lv_goto (tgt := 117) hx hb dX12_pin_113 (by decide) ?_
                    refine lv_istore (lv' := [(5, .int kx77), (0, .ref a0), (1, .int i1), (2, .int i2), (3, .int i3), (4, .int i4)]) hx hb dX12_pin_117 hl (by decide) rfl (fun ls hl => ?_)
                    refine lv_aload_n hx hb dX12_pin_119 rfl (lv_at hl 1 rfl) ?_
                    refine lv_iload_n hx hb dX12_pin_120 rfl (lv_at hl 2 rfl) ?_
                    refine lv_iload hx hb dX12_pin_121 (lv_at hl 0 rfl) ?_
                    refine q_goi hW (q_runV (As := [.int i1, .int kx77]) (rest := []) hE hW (c_X12_holds l G ks69 a0 h0 i1 kv7 kx77) kw_X12_361 (q_recv hE hW h0 rfl q_k12) rfl hl.1 rfl (Nat.le_of_ble_eq_true rfl) dX12_pin_123 ⟨by decide, by decide⟩ ⟨by decide, by decide⟩) (by decide) (fun kx81 ks79 H locs kp78 kf80 hW => ?_)
                    refine lv_if_ne (tgt := 132) hx hb dX12_pin_126 (by decide) (fun kc82 => ?_) (fun kc82 => ?_)
                    · have kv83 : q_V 1 1 kx81 := q_ne1 kp78 (q_c (k := 0) (x := 0) (by decide)) kc82 (by decide)
                      refine lv_aload_n hx hb dX12_pin_132 rfl (lv_at hl 1 rfl) ?_
                      refine q_getr hE hW h0 rfl q_k12 42 (by decide) rfl (hE.l wl_155) dX12_pin_133 (fun kb84 ekb84 hkb84a hkb84b => ?_)
                      have hkb84 : q_T G kb84 = 66 := q_tag hkb84a hkb84b
                      refine lv_bipush (v := 16) hx hb dX12_pin_136 (by decide) ?_
                      refine lv_iload_n hx hb dX12_pin_138 rfl (lv_at hl 2 rfl) ?_
                      refine lv_imul hx hb dX12_pin_139 ?_
                      refine lv_topi (fun kx85 ekx85 => ?_)
                      have vkx85 : q_V 0 32 kx85 := by rw [ekx85]; exact (q_mul (k := 16) (by decide) kv7 (by decide) (by decide) (by decide)).w (by decide) (by decide)
                      refine lv_iload_n hx hb dX12_pin_140 rfl (lv_at hl 3 rfl) ?_
                      refine lv_iadd hx hb dX12_pin_141 ?_
                      refine lv_topi (fun kx86 ekx86 => ?_)
                      have vkx86 : q_V 0 47 kx86 := by rw [ekx86]; exact (q_add vkx85 kv73 (by decide) (by decide)).w (by decide) (by decide)
                      refine lv_iload hx hb dX12_pin_142 (lv_at hl 0 rfl) ?_
                      refine q_iast hE hW hkb84 rfl (q_in vkx86 (by decide) (by decide)) (q_pegN vkx77 (by decide)) (by decide) dX12_pin_144 (fun H locs ks87 kp88 hW => ?_)
                      refine lv_iconst (v := 1) hx hb dX12_pin_145 (by decide) ?_
                      exact q_reti hE hr hlocks hW (((q_c (k := 1) (x := 1) (by decide)).w (by decide) (by decide))) dX12_pin_146
                    · have kv89 : q_V 0 0 kx81 := q_eq1 kp78 (q_c (k := 0) (x := 0) (by decide)) kc82 (by decide) (by decide)
                      refine lv_bipush (v := (-13)) hx hb dX12_pin_129 (by decide) ?_
                      exact q_reti hE hr hlocks hW (((q_c (k := (-13)) (x := (-13)) (by decide)).w (by decide) (by decide))) dX12_pin_131
                · have kv90 : q_V 1 0 i3 := q_eq1 kv53 (q_c (k := 0) (x := 0) (by decide)) kc75 (by decide) (by decide)
                  exact (kv90.no (by decide))
              · have kv91 : q_V 0 0 kx71 := q_eq1 kp68.1 (q_c (k := 0) (x := 0) (by decide)) kc72 (by decide) (by decide)
                refine lv_bipush (v := (-12)) hx hb dX12_pin_88 (by decide) ?_
                exact q_reti hE hr hlocks hW (((q_c (k := (-12)) (x := (-12)) (by decide)).w (by decide) (by decide))) dX12_pin_90
            · have kv92 : q_V 0 0 kx62 := q_eq1 vkx62 (q_c (k := 0) (x := 0) (by decide)) kc63 (by decide) (by decide)
              refine lv_bipush (v := (-11)) hx hb dX12_pin_67 (by decide) ?_
              exact q_reti hE hr hlocks hW (((q_c (k := (-11)) (x := (-11)) (by decide)).w (by decide) (by decide))) dX12_pin_69
          · have kv93 : q_V 0 0 kx57 := q_eq1 kp54.1 (q_c (k := 0) (x := 0) (by decide)) kc58 (by decide) (by decide)
            refine lv_bipush (v := (-3)) hx hb dX12_pin_55 (by decide) ?_
            exact q_reti hE hr hlocks hW (((q_c (k := (-3)) (x := (-3)) (by decide)).w (by decide) (by decide))) dX12_pin_57
    · have kv94 : q_V 0 0 i3 := q_eq1 (q_all i3) (q_c (k := 0) (x := 0) (by decide)) kc9 (by decide) (by decide)
      refine lv_aload_n hx hb dX12_pin_11 rfl (lv_at hl 0 rfl) ?_
      refine lv_iload hx hb dX12_pin_12 (lv_at hl 4 rfl) ?_
      refine q_goi hW (q_runV (As := [.int i4]) (rest := []) hE hW (c_X12_isCloud l G ks2 a0 h0 i4) kw_X12_233 (q_recv hE hW h0 rfl q_k12) rfl hl.1 rfl (Nat.le_of_ble_eq_true rfl) dX12_pin_14 ⟨by decide, by decide⟩ ⟨by decide, by decide⟩) (by decide) (fun kx98 ks96 H locs kp95 kf97 hW => ?_)
      refine lv_if_ne (tgt := 23) hx hb dX12_pin_17 (by decide) (fun kc99 => ?_) (fun kc99 => ?_)
      · have kv100 : q_V 0 5 i4 := kp95.2 kc99
        have kv101 : q_V 1 1 kx98 := q_ne1 kp95.1 (q_c (k := 0) (x := 0) (by decide)) kc99 (by decide)
        refine lv_iload_n hx hb dX12_pin_23 rfl (lv_at hl 3 rfl) ?_
        refine lv_i2l (v := i3.toInt64) hx hb dX12_pin_24 rfl ?_
        refine lv_lconst (v := 0) hx hb dX12_pin_25 (by decide) ?_
        refine lv_ldc2 (v := 2) hx hb hE.1.2.2.2.1 (hE.w wl_977) dX12_pin_26 ?_
        refine q_goi hW (q_runS (As := [.long (i3).toInt64, .long 0, .long 2]) (rest := []) hE hW (c_X12_in l G ks96 ((i3).toInt64) 0 2) kw_X12_99 rfl hl.1 rfl (Nat.le_of_ble_eq_true rfl) dX12_pin_29 ⟨by decide, by decide⟩ ⟨by decide, by decide⟩) (by decide) (fun kx105 ks103 H locs kp102 kf104 hW => ?_)
        refine lv_if_eq (tgt := 55) hx hb dX12_pin_32 (by decide) (fun kc106 => ?_) (fun kc106 => ?_)
        · have kv107 : q_V 0 0 kx105 := q_eq1 kp102.1 (q_c (k := 0) (x := 0) (by decide)) kc106 (by decide) (by decide)
          refine lv_bipush (v := (-3)) hx hb dX12_pin_55 (by decide) ?_
          exact q_reti hE hr hlocks hW (((q_c (k := (-3)) (x := (-3)) (by decide)).w (by decide) (by decide))) dX12_pin_57
        · have kv108 : q_V 1 1 kx105 := q_ne1 kp102.1 (q_c (k := 0) (x := 0) (by decide)) kc106 (by decide)
          refine lv_iload_n hx hb dX12_pin_35 rfl (lv_at hl 3 rfl) ?_
          refine lv_iconst (v := 1) hx hb dX12_pin_36 (by decide) ?_
          refine lv_icmp_ne (tgt := 58) hx hb dX12_pin_37 (by decide) (fun kc109 => ?_) (fun kc109 => ?_)
          · refine lv_aload_n hx hb dX12_pin_58 rfl (lv_at hl 0 rfl) ?_
            refine q_getr hE hW h0 rfl q_k12 39 (by decide) rfl (hE.l wl_152) dX12_pin_59 (fun kb110 ekb110 hkb110a hkb110b => ?_)
            have hkb110 : q_T G kb110 = 63 := q_tag hkb110a hkb110b
            refine lv_iload_n hx hb dX12_pin_62 rfl (lv_at hl 1 rfl) ?_
            refine q_zald hE hW hkb110 rfl (q_in kv7 (by decide) (by decide)) dX12_pin_63 (fun kx111 ekx111 gkx111 => ?_)
            have vkx111 : q_V 0 1 kx111 := gkx111
            refine lv_if_ne (tgt := 70) hx hb dX12_pin_64 (by decide) (fun kc112 => ?_) (fun kc112 => ?_)
            · have kv113 : q_V 1 1 kx111 := q_ne1 vkx111 (q_c (k := 0) (x := 0) (by decide)) kc112 (by decide)
              refine lv_iload_n hx hb dX12_pin_70 rfl (lv_at hl 2 rfl) ?_
              refine lv_i2l (v := i2.toInt64) hx hb dX12_pin_71 rfl ?_
              refine lv_lconst (v := 0) hx hb dX12_pin_72 (by decide) ?_
              refine lv_aload_n hx hb dX12_pin_73 rfl (lv_at hl 0 rfl) ?_
              refine q_getr hE hW h0 rfl q_k12 41 (by decide) rfl (hE.l wl_154) dX12_pin_74 (fun kb114 ekb114 hkb114a hkb114b => ?_)
              have hkb114 : q_T G kb114 = 65 := q_tag hkb114a hkb114b
              refine lv_iload_n hx hb dX12_pin_77 rfl (lv_at hl 1 rfl) ?_
              refine q_iald hE hW hkb114 rfl (q_in kv7 (by decide) (by decide)) dX12_pin_78 (fun kx115 ekx115 gkx115 => ?_)
              have vkx115 : q_V 0 16 kx115 := gkx115
              refine lv_iconst (v := 1) hx hb dX12_pin_79 (by decide) ?_
              refine lv_isub hx hb dX12_pin_80 ?_
              refine lv_topi (fun kx116 ekx116 => ?_)
              have vkx116 : q_V (-1) 15 kx116 := by rw [ekx116]; exact (q_sub vkx115 (q_c (k := 1) (x := 1) (by decide)) (by decide) (by decide)).w (by decide) (by decide)
              refine lv_i2l (v := kx116.toInt64) hx hb dX12_pin_81 rfl ?_
              refine q_goi hW (q_runS (As := [.long (i2).toInt64, .long 0, .long (kx116).toInt64]) (rest := []) hE hW (c_X12_in l G ks103 ((i2).toInt64) 0 ((kx116).toInt64)) kw_X12_99 rfl hl.1 rfl (Nat.le_of_ble_eq_true rfl) dX12_pin_82 ⟨by decide, by decide⟩ ⟨by decide, by decide⟩) (by decide) (fun kx120 ks118 H locs kp117 kf119 hW => ?_)
              refine lv_if_ne (tgt := 91) hx hb dX12_pin_85 (by decide) (fun kc121 => ?_) (fun kc121 => ?_)
              · have kv122 : q_V 0 15 i2 := q_inV (kp117.2.1 kc121).1 (kp117.2.1 kc121).2 (q_lc (k := 0) (x := 0) (by decide)) (q_l vkx116)
                have kv123 : q_V 1 1 kx120 := q_ne1 kp117.1 (q_c (k := 0) (x := 0) (by decide)) kc121 (by decide)
                refine lv_iload_n hx hb dX12_pin_91 rfl (lv_at hl 3 rfl) ?_
                refine lv_if_ne (tgt := 102) hx hb dX12_pin_92 (by decide) (fun kc124 => ?_) (fun kc124 => ?_)
                · exact q_neq kv94 (q_c (k := 0) (x := 0) (by decide)) kc124
                · refine lv_iload hx hb dX12_pin_95 (lv_at hl 4 rfl) ?_
                  refine lv_iconst (v := 1) hx hb dX12_pin_97 (by decide) ?_
                  refine lv_iadd hx hb dX12_pin_98 ?_
                  refine lv_topi (fun kx125 ekx125 => ?_)
                  have vkx125 : q_V 1 6 kx125 := by rw [ekx125]; exact (q_add kv100 (q_c (k := 1) (x := 1) (by decide)) (by decide) (by decide)).w (by decide) (by decide)
                  have ikx125 : kx125.toInt = i4.toInt + 1 := q_incT ekx125 kv100 (by decide) (by decide) (by decide)
                  refine lv_goto (tgt := 117) hx hb dX12_pin_99 (by decide) ?_
                  refine lv_istore (lv' := [(5, .int kx125), (0, .ref a0), (1, .int i1), (2, .int i2), (3, .int i3), (4, .int i4)]) hx hb dX12_pin_117 hl (by decide) rfl (fun ls hl => ?_)
                  refine lv_aload_n hx hb dX12_pin_119 rfl (lv_at hl 1 rfl) ?_
                  refine lv_iload_n hx hb dX12_pin_120 rfl (lv_at hl 2 rfl) ?_
                  refine lv_iload hx hb dX12_pin_121 (lv_at hl 0 rfl) ?_
                  refine q_goi hW (q_runV (As := [.int i1, .int kx125]) (rest := []) hE hW (c_X12_holds l G ks118 a0 h0 i1 kv7 kx125) kw_X12_361 (q_recv hE hW h0 rfl q_k12) rfl hl.1 rfl (Nat.le_of_ble_eq_true rfl) dX12_pin_123 ⟨by decide, by decide⟩ ⟨by decide, by decide⟩) (by decide) (fun kx129 ks127 H locs kp126 kf128 hW => ?_)
                  refine lv_if_ne (tgt := 132) hx hb dX12_pin_126 (by decide) (fun kc130 => ?_) (fun kc130 => ?_)
                  · have kv131 : q_V 1 1 kx129 := q_ne1 kp126 (q_c (k := 0) (x := 0) (by decide)) kc130 (by decide)
                    refine lv_aload_n hx hb dX12_pin_132 rfl (lv_at hl 1 rfl) ?_
                    refine q_getr hE hW h0 rfl q_k12 42 (by decide) rfl (hE.l wl_155) dX12_pin_133 (fun kb132 ekb132 hkb132a hkb132b => ?_)
                    have hkb132 : q_T G kb132 = 66 := q_tag hkb132a hkb132b
                    refine lv_bipush (v := 16) hx hb dX12_pin_136 (by decide) ?_
                    refine lv_iload_n hx hb dX12_pin_138 rfl (lv_at hl 2 rfl) ?_
                    refine lv_imul hx hb dX12_pin_139 ?_
                    refine lv_topi (fun kx133 ekx133 => ?_)
                    have vkx133 : q_V 0 32 kx133 := by rw [ekx133]; exact (q_mul (k := 16) (by decide) kv7 (by decide) (by decide) (by decide)).w (by decide) (by decide)
                    refine lv_iload_n hx hb dX12_pin_140 rfl (lv_at hl 3 rfl) ?_
                    refine lv_iadd hx hb dX12_pin_141 ?_
                    refine lv_topi (fun kx134 ekx134 => ?_)
                    have vkx134 : q_V 0 47 kx134 := by rw [ekx134]; exact (q_add vkx133 kv122 (by decide) (by decide)).w (by decide) (by decide)
                    refine lv_iload hx hb dX12_pin_142 (lv_at hl 0 rfl) ?_
                    refine q_iast hE hW hkb132 rfl (q_in vkx134 (by decide) (by decide)) (q_pegO vkx125 (by decide) (by decide)) (by decide) dX12_pin_144 (fun H locs ks135 kp136 hW => ?_)
                    refine lv_iconst (v := 1) hx hb dX12_pin_145 (by decide) ?_
                    exact q_reti hE hr hlocks hW (((q_c (k := 1) (x := 1) (by decide)).w (by decide) (by decide))) dX12_pin_146
                  · have kv137 : q_V 0 0 kx129 := q_eq1 kp126 (q_c (k := 0) (x := 0) (by decide)) kc130 (by decide) (by decide)
                    refine lv_bipush (v := (-13)) hx hb dX12_pin_129 (by decide) ?_
                    exact q_reti hE hr hlocks hW (((q_c (k := (-13)) (x := (-13)) (by decide)).w (by decide) (by decide))) dX12_pin_131
              · have kv138 : q_V 0 0 kx120 := q_eq1 kp117.1 (q_c (k := 0) (x := 0) (by decide)) kc121 (by decide) (by decide)
                refine lv_bipush (v := (-12)) hx hb dX12_pin_88 (by decide) ?_
                exact q_reti hE hr hlocks hW (((q_c (k := (-12)) (x := (-12)) (by decide)).w (by decide) (by decide))) dX12_pin_90
            · have kv139 : q_V 0 0 kx111 := q_eq1 vkx111 (q_c (k := 0) (x := 0) (by decide)) kc112 (by decide) (by decide)
              refine lv_bipush (v := (-11)) hx hb dX12_pin_67 (by decide) ?_
              exact q_reti hE hr hlocks hW (((q_c (k := (-11)) (x := (-11)) (by decide)).w (by decide) (by decide))) dX12_pin_69
          · have kv140 : q_V 1 0 i3 := q_eq1 kv94 (q_c (k := 1) (x := 1) (by decide)) kc109 (by decide) (by decide)
            exact (kv140.no (by decide))
      · have kv141 : q_V 0 0 kx98 := q_eq1 kp95.1 (q_c (k := 0) (x := 0) (by decide)) kc99 (by decide) (by decide)
        refine lv_bipush (v := (-2)) hx hb dX12_pin_20 (by decide) ?_
        exact q_reti hE hr hlocks hW (((q_c (k := (-2)) (x := (-2)) (by decide)).w (by decide) (by decide))) dX12_pin_22
set_option maxHeartbeats 4000000 in
set_option maxRecDepth 100000 in
theorem c_X12_peg (l : Launch) (G : q_G) (σ : q_S) (a0 : Nat) (h0 : q_T G a0 = 40) (i1 : Int32) (i2 : Int32) (i3 : Int32)  : Met l yX12_peg (Cond.code yX12_peg cX12_peg 6 (some .int) :: wsL_law) (q_Rm 3) (q_Pre G σ [.ref a0, .int i1, .int i2, .int i3]) (q_Qi G [] σ (fun r σ1 => q_V (-2147483648) 2147483647 r)) 0 0 (q_N G) := by
  refine q_ofW (ts := []) (by decide) (Nat.le_of_ble_eq_true rfl) ?_
  intro p e s m args below meth c hE hr hlocks hW ls hl
  have hE : q_E G p s m args c cX12_peg 6 RX12 := hE
  have hx := hE.1.1
  have hb := hE.1.2.1
  have hl : lv_has ls 6 [(0, .ref a0), (1, .int i1), (2, .int i2), (3, .int i3)] := hl
  have jn122a : ∀ (ks5 : q_S) (H : Heap) (locs : List Loc) (kx1 : Int32) (vkx1 : q_V 1 2147483647 kx1) (kx2 : Int32) (vkx2 : q_V 0 1 kx2) (kx3 : Int32) (vkx3 : q_V 0 1 kx3) (kx4 : Int32) (vkx4 : q_V 0 1 kx4) (hW : q_Wd G [] σ s.heap ks5 H locs) (ls : Array Slot) (hl : lv_has ls 6 [(4, .int kx1), (5, .int kx2)]), W p l e (q_Rm 3) s m args below meth c H locs 0 0 (MQ below (q_Qi G [] σ (fun r σ1 => q_V (-2147483648) 2147483647 r)) args s 0 0 (q_N G)) (F0 m 122 ls [.int kx4, .int kx3]) := by
    intro ks5 H locs kx1 vkx1 kx2 vkx2 kx3 vkx3 kx4 vkx4 hW ls hl
    refine lv_icmp_eq (tgt := 130) hx hb dX12_peg_122 (by decide) (fun kc6 => ?_) (fun kc6 => ?_)
    · refine lv_iload hx hb dX12_peg_130 (lv_at hl 1 rfl) ?_
      refine lv_if_eq (tgt := 148) hx hb dX12_peg_132 (by decide) (fun kc7 => ?_) (fun kc7 => ?_)
      · have kv8 : q_V 0 0 kx2 := q_eq1 vkx2 (q_c (k := 0) (x := 0) (by decide)) kc7 (by decide) (by decide)
        refine lv_iload hx hb dX12_peg_148 (lv_at hl 0 rfl) ?_
        refine lv_iconst (v := 1) hx hb dX12_peg_150 (by decide) ?_
        refine lv_isub hx hb dX12_peg_151 ?_
        refine lv_topi (fun kx9 ekx9 => ?_)
        have vkx9 : q_V 0 2147483646 kx9 := by rw [ekx9]; exact (q_sub vkx1 (q_c (k := 1) (x := 1) (by decide)) (by decide) (by decide)).w (by decide) (by decide)
        exact q_reti hE hr hlocks hW ((vkx9.w (by decide) (by decide))) dX12_peg_152
      · have kv10 : q_V 1 1 kx2 := q_ne1 vkx2 (q_c (k := 0) (x := 0) (by decide)) kc7 (by decide)
        refine lv_iload hx hb dX12_peg_135 (lv_at hl 0 rfl) ?_
        refine lv_sipush (v := 3000) hx hb dX12_peg_137 (by decide) ?_
        refine lv_isub hx hb dX12_peg_140 ?_
        refine lv_topi (fun kx11 ekx11 => ?_)
        have vkx11 : q_V (-2999) 2147480647 kx11 := by rw [ekx11]; exact (q_sub vkx1 (q_c (k := 3000) (x := 3000) (by decide)) (by decide) (by decide)).w (by decide) (by decide)
        refine lv_sipush (v := 5000) hx hb dX12_peg_141 (by decide) ?_
        refine lv_iadd hx hb dX12_peg_144 ?_
        refine lv_topi (fun kx12 ekx12 => ?_)
        refine lv_goto (tgt := 152) hx hb dX12_peg_145 (by decide) ?_
        exact q_reti hE hr hlocks hW ((q_all kx12)) dX12_peg_152
    · refine lv_bipush (v := (-14)) hx hb dX12_peg_125 (by decide) ?_
      refine lv_goto (tgt := 152) hx hb dX12_peg_127 (by decide) ?_
      exact q_reti hE hr hlocks hW (((q_c (k := (-14)) (x := (-14)) (by decide)).w (by decide) (by decide))) dX12_peg_152
  have jn92a : ∀ (ks16 : q_S) (H : Heap) (locs : List Loc) (kv13 : q_V 0 2 i3) (kx14 : Int32) (vkx14 : q_V 1 2147483647 kx14) (kx15 : Int32) (vkx15 : q_V 0 1 kx15) (hW : q_Wd G [] σ s.heap ks16 H locs) (ls : Array Slot) (hl : lv_has ls 6 [(3, .int i3), (4, .int kx14)]), W p l e (q_Rm 3) s m args below meth c H locs 0 0 (MQ below (q_Qi G [] σ (fun r σ1 => q_V (-2147483648) 2147483647 r)) args s 0 0 (q_N G)) (F0 m 92 ls [.int kx15]) := by
    intro ks16 H locs kv13 kx14 vkx14 kx15 vkx15 hW ls hl
    refine lv_istore (lv' := [(5, .int kx15), (3, .int i3), (4, .int kx14)]) hx hb dX12_peg_92 hl (by decide) rfl (fun ls hl => ?_)
    refine lv_iload_n hx hb dX12_peg_94 rfl (lv_at hl 1 rfl) ?_
    refine lv_iconst (v := 2) hx hb dX12_peg_95 (by decide) ?_
    refine lv_icmp_ne (tgt := 110) hx hb dX12_peg_96 (by decide) (fun kc17 => ?_) (fun kc17 => ?_)
    · have kv18 : q_V 0 1 i3 := q_ne2 kv13 (q_c (k := 2) (x := 2) (by decide)) kc17 (by decide)
      refine lv_iload hx hb dX12_peg_110 (lv_at hl 0 rfl) ?_
      refine lv_iload_n hx hb dX12_peg_112 rfl (lv_at hl 1 rfl) ?_
      refine lv_iconst (v := 1) hx hb dX12_peg_113 (by decide) ?_
      refine lv_icmp_ne (tgt := 121) hx hb dX12_peg_114 (by decide) (fun kc19 => ?_) (fun kc19 => ?_)
      · have kv20 : q_V 0 0 i3 := q_ne2 kv18 (q_c (k := 1) (x := 1) (by decide)) kc19 (by decide)
        refine lv_iconst (v := 0) hx hb dX12_peg_121 (by decide) ?_
        exact jn122a _ _ _ kx14 vkx14 kx15 vkx15 kx15 vkx15 0 ((q_c (k := 0) (x := 0) (by decide)).w (by decide) (by decide)) hW ls (lv_sub hl [2, 0] rfl)
      · have kv21 : q_V 1 1 i3 := q_eq1 kv18 (q_c (k := 1) (x := 1) (by decide)) kc19 (by decide) (by decide)
        refine lv_iconst (v := 1) hx hb dX12_peg_117 (by decide) ?_
        refine lv_goto (tgt := 122) hx hb dX12_peg_118 (by decide) ?_
        exact jn122a _ _ _ kx14 vkx14 kx15 vkx15 kx15 vkx15 1 ((q_c (k := 1) (x := 1) (by decide)).w (by decide) (by decide)) hW ls (lv_sub hl [2, 0] rfl)
    · have kv22 : q_V 2 2 i3 := q_eq1 kv13 (q_c (k := 2) (x := 2) (by decide)) kc17 (by decide) (by decide)
      refine lv_iload hx hb dX12_peg_99 (lv_at hl 0 rfl) ?_
      refine lv_if_eq (tgt := 108) hx hb dX12_peg_101 (by decide) (fun kc23 => ?_) (fun kc23 => ?_)
      · have kv24 : q_V 0 0 kx15 := q_eq1 vkx15 (q_c (k := 0) (x := 0) (by decide)) kc23 (by decide) (by decide)
        refine lv_iconst (v := 1) hx hb dX12_peg_108 (by decide) ?_
        exact q_reti hE hr hlocks hW (((q_c (k := 1) (x := 1) (by decide)).w (by decide) (by decide))) dX12_peg_109
      · have kv25 : q_V 1 1 kx15 := q_ne1 vkx15 (q_c (k := 0) (x := 0) (by decide)) kc23 (by decide)
        refine lv_iconst (v := 2) hx hb dX12_peg_104 (by decide) ?_
        refine lv_goto (tgt := 109) hx hb dX12_peg_105 (by decide) ?_
        exact q_reti hE hr hlocks hW (((q_c (k := 2) (x := 2) (by decide)).w (by decide) (by decide))) dX12_peg_109
  refine lv_iload_n hx hb dX12_peg_0 rfl (lv_at hl 1 rfl) ?_
  refine q_goi hW (q_runS (As := [.int i1]) (rest := []) hE hW (c_X12_isRow l G σ i1) kw_X12_354 rfl hl.1 rfl (Nat.le_of_ble_eq_true rfl) dX12_peg_1 ⟨by decide, by decide⟩ ⟨by decide, by decide⟩) (by decide) (fun kx29 ks27 H locs kp26 kf28 hW => ?_)
  refine lv_if_ne (tgt := 10) hx hb dX12_peg_4 (by decide) (fun kc30 => ?_) (fun kc30 => ?_)
  · have kv31 : q_V 0 2 i1 := kp26.2 kc30
    have kv32 : q_V 1 1 kx29 := q_ne1 kp26.1 (q_c (k := 0) (x := 0) (by decide)) kc30 (by decide)
    refine lv_iload_n hx hb dX12_peg_10 rfl (lv_at hl 3 rfl) ?_
    refine lv_i2l (v := i3.toInt64) hx hb dX12_peg_11 rfl ?_
    refine lv_lconst (v := 0) hx hb dX12_peg_12 (by decide) ?_
    refine lv_ldc2 (v := 2) hx hb hE.1.2.2.2.1 (hE.w wl_977) dX12_peg_13 ?_
    refine q_goi hW (q_runS (As := [.long (i3).toInt64, .long 0, .long 2]) (rest := []) hE hW (c_X12_in l G ks27 ((i3).toInt64) 0 2) kw_X12_99 rfl hl.1 rfl (Nat.le_of_ble_eq_true rfl) dX12_peg_16 ⟨by decide, by decide⟩ ⟨by decide, by decide⟩) (by decide) (fun kx36 ks34 H locs kp33 kf35 hW => ?_)
    refine lv_if_ne (tgt := 25) hx hb dX12_peg_19 (by decide) (fun kc37 => ?_) (fun kc37 => ?_)
    · have kv38 : q_V 0 2 i3 := q_inV (kp33.2.1 kc37).1 (kp33.2.1 kc37).2 (q_lc (k := 0) (x := 0) (by decide)) (q_lc (k := 2) (x := 2) (by decide))
      have kv39 : q_V 1 1 kx36 := q_ne1 kp33.1 (q_c (k := 0) (x := 0) (by decide)) kc37 (by decide)
      refine lv_aload_n hx hb dX12_peg_25 rfl (lv_at hl 0 rfl) ?_
      refine q_getr hE hW h0 rfl q_k12 39 (by decide) rfl (hE.l wl_152) dX12_peg_26 (fun kb40 ekb40 hkb40a hkb40b => ?_)
      have hkb40 : q_T G kb40 = 63 := q_tag hkb40a hkb40b
      refine lv_iload_n hx hb dX12_peg_29 rfl (lv_at hl 1 rfl) ?_
      refine q_zald hE hW hkb40 rfl (q_in kv31 (by decide) (by decide)) dX12_peg_30 (fun kx41 ekx41 gkx41 => ?_)
      have vkx41 : q_V 0 1 kx41 := gkx41
      refine lv_if_ne (tgt := 37) hx hb dX12_peg_31 (by decide) (fun kc42 => ?_) (fun kc42 => ?_)
      · have kv43 : q_V 1 1 kx41 := q_ne1 vkx41 (q_c (k := 0) (x := 0) (by decide)) kc42 (by decide)
        refine lv_iload_n hx hb dX12_peg_37 rfl (lv_at hl 2 rfl) ?_
        refine lv_i2l (v := i2.toInt64) hx hb dX12_peg_38 rfl ?_
        refine lv_lconst (v := 0) hx hb dX12_peg_39 (by decide) ?_
        refine lv_aload_n hx hb dX12_peg_40 rfl (lv_at hl 0 rfl) ?_
        refine q_getr hE hW h0 rfl q_k12 41 (by decide) rfl (hE.l wl_154) dX12_peg_41 (fun kb44 ekb44 hkb44a hkb44b => ?_)
        have hkb44 : q_T G kb44 = 65 := q_tag hkb44a hkb44b
        refine lv_iload_n hx hb dX12_peg_44 rfl (lv_at hl 1 rfl) ?_
        refine q_iald hE hW hkb44 rfl (q_in kv31 (by decide) (by decide)) dX12_peg_45 (fun kx45 ekx45 gkx45 => ?_)
        have vkx45 : q_V 0 16 kx45 := gkx45
        refine lv_iconst (v := 1) hx hb dX12_peg_46 (by decide) ?_
        refine lv_isub hx hb dX12_peg_47 ?_
        refine lv_topi (fun kx46 ekx46 => ?_)
        have vkx46 : q_V (-1) 15 kx46 := by rw [ekx46]; exact (q_sub vkx45 (q_c (k := 1) (x := 1) (by decide)) (by decide) (by decide)).w (by decide) (by decide)
        refine lv_i2l (v := kx46.toInt64) hx hb dX12_peg_48 rfl ?_
        refine q_goi hW (q_runS (As := [.long (i2).toInt64, .long 0, .long (kx46).toInt64]) (rest := []) hE hW (c_X12_in l G ks34 ((i2).toInt64) 0 ((kx46).toInt64)) kw_X12_99 rfl hl.1 rfl (Nat.le_of_ble_eq_true rfl) dX12_peg_49 ⟨by decide, by decide⟩ ⟨by decide, by decide⟩) (by decide) (fun kx50 ks48 H locs kp47 kf49 hW => ?_)
        refine lv_if_ne (tgt := 58) hx hb dX12_peg_52 (by decide) (fun kc51 => ?_) (fun kc51 => ?_)
        · have kv52 : q_V 0 15 i2 := q_inV (kp47.2.1 kc51).1 (kp47.2.1 kc51).2 (q_lc (k := 0) (x := 0) (by decide)) (q_l vkx46)
          have kv53 : q_V 1 1 kx50 := q_ne1 kp47.1 (q_c (k := 0) (x := 0) (by decide)) kc51 (by decide)
          refine lv_aload_n hx hb dX12_peg_58 rfl (lv_at hl 0 rfl) ?_
          refine q_getr hE hW h0 rfl q_k12 42 (by decide) rfl (hE.l wl_155) dX12_peg_59 (fun kb54 ekb54 hkb54a hkb54b => ?_)
          have hkb54 : q_T G kb54 = 66 := q_tag hkb54a hkb54b
          refine lv_bipush (v := 16) hx hb dX12_peg_62 (by decide) ?_
          refine lv_iload_n hx hb dX12_peg_64 rfl (lv_at hl 1 rfl) ?_
          refine lv_imul hx hb dX12_peg_65 ?_
          refine lv_topi (fun kx55 ekx55 => ?_)
          have vkx55 : q_V 0 32 kx55 := by rw [ekx55]; exact (q_mul (k := 16) (by decide) kv31 (by decide) (by decide) (by decide)).w (by decide) (by decide)
          refine lv_iload_n hx hb dX12_peg_66 rfl (lv_at hl 2 rfl) ?_
          refine lv_iadd hx hb dX12_peg_67 ?_
          refine lv_topi (fun kx56 ekx56 => ?_)
          have vkx56 : q_V 0 47 kx56 := by rw [ekx56]; exact (q_add vkx55 kv52 (by decide) (by decide)).w (by decide) (by decide)
          refine q_iald hE hW hkb54 rfl (q_in vkx56 (by decide) (by decide)) dX12_peg_68 (fun kx57 ekx57 gkx57 => ?_)
          have vkx57 : q_V 0 2147483647 kx57 := ⟨gkx57.1, (q_all kx57).2⟩
          refine lv_istore (lv' := [(4, .int kx57), (0, .ref a0), (1, .int i1), (2, .int i2), (3, .int i3)]) hx hb dX12_peg_69 hl (by decide) rfl (fun ls hl => ?_)
          refine lv_iload hx hb dX12_peg_71 (lv_at hl 0 rfl) ?_
          refine lv_if_ne (tgt := 79) hx hb dX12_peg_73 (by decide) (fun kc58 => ?_) (fun kc58 => ?_)
          · have kv59 : q_V 1 2147483647 kx57 := q_ne1 vkx57 (q_c (k := 0) (x := 0) (by decide)) kc58 (by decide)
            refine lv_iload hx hb dX12_peg_79 (lv_at hl 0 rfl) ?_
            refine lv_sipush (v := 1000) hx hb dX12_peg_81 (by decide) ?_
            refine lv_icmp_lt (tgt := 91) hx hb dX12_peg_84 (by decide) (fun kc60 => ?_) (fun kc60 => ?_)
            · have kv61 : q_V 1 999 kx57 := (q_lt1 kv59 (q_c (k := 1000) (x := 1000) (by decide)) kc60).w (by decide) (by decide)
              have kv62 : q_V 1 6 kx57 := q_peg gkx57 kv61 (by decide)
              refine lv_iconst (v := 0) hx hb dX12_peg_91 (by decide) ?_
              exact jn92a _ _ _ kv38 kx57 (kv62.w (by decide) (by decide)) 0 ((q_c (k := 0) (x := 0) (by decide)).w (by decide) (by decide)) hW ls (lv_sub hl [4, 0] rfl)
            · have kv63 : q_V 1000 2147483647 kx57 := (q_le2 (q_c (k := 1000) (x := 1000) (by decide)) kv59 (Int32.not_lt.mp kc60)).w (by decide) (by decide)
              refine lv_iconst (v := 1) hx hb dX12_peg_87 (by decide) ?_
              refine lv_goto (tgt := 92) hx hb dX12_peg_88 (by decide) ?_
              exact jn92a _ _ _ kv38 kx57 (kv63.w (by decide) (by decide)) 1 ((q_c (k := 1) (x := 1) (by decide)).w (by decide) (by decide)) hW ls (lv_sub hl [4, 0] rfl)
          · have kv64 : q_V 0 0 kx57 := q_eq1 vkx57 (q_c (k := 0) (x := 0) (by decide)) kc58 (by decide) (by decide)
            refine lv_bipush (v := (-15)) hx hb dX12_peg_76 (by decide) ?_
            exact q_reti hE hr hlocks hW (((q_c (k := (-15)) (x := (-15)) (by decide)).w (by decide) (by decide))) dX12_peg_78
        · have kv65 : q_V 0 0 kx50 := q_eq1 kp47.1 (q_c (k := 0) (x := 0) (by decide)) kc51 (by decide) (by decide)
          refine lv_bipush (v := (-12)) hx hb dX12_peg_55 (by decide) ?_
          exact q_reti hE hr hlocks hW (((q_c (k := (-12)) (x := (-12)) (by decide)).w (by decide) (by decide))) dX12_peg_57
      · have kv66 : q_V 0 0 kx41 := q_eq1 vkx41 (q_c (k := 0) (x := 0) (by decide)) kc42 (by decide) (by decide)
        refine lv_bipush (v := (-11)) hx hb dX12_peg_34 (by decide) ?_
        exact q_reti hE hr hlocks hW (((q_c (k := (-11)) (x := (-11)) (by decide)).w (by decide) (by decide))) dX12_peg_36
    · have kv67 : q_V 0 0 kx36 := q_eq1 kp33.1 (q_c (k := 0) (x := 0) (by decide)) kc37 (by decide) (by decide)
      refine lv_bipush (v := (-3)) hx hb dX12_peg_22 (by decide) ?_
      exact q_reti hE hr hlocks hW (((q_c (k := (-3)) (x := (-3)) (by decide)).w (by decide) (by decide))) dX12_peg_24
  · have kv68 : q_V 0 0 kx29 := q_eq1 kp26.1 (q_c (k := 0) (x := 0) (by decide)) kc30 (by decide) (by decide)
    refine lv_bipush (v := (-2)) hx hb dX12_peg_7 (by decide) ?_
    exact q_reti hE hr hlocks hW (((q_c (k := (-2)) (x := (-2)) (by decide)).w (by decide) (by decide))) dX12_peg_9
set_option maxHeartbeats 4000000 in
set_option maxRecDepth 100000 in
theorem c_X12_drop (l : Launch) (G : q_G) (σ : q_S) (a0 : Nat) (h0 : q_T G a0 = 40) (i1 : Int32)  : Met l yX12_drop (Cond.code yX12_drop cX12_drop 4 (some .int) :: wsL_law) (q_Rm 3) (q_Pre G σ [.ref a0, .int i1]) (q_Qi G [63] σ (fun r σ1 => q_V (-2147483648) 2147483647 r)) 0 0 (q_N G) := by
  refine q_ofW (ts := [63]) (by decide) (Nat.le_of_ble_eq_true rfl) ?_
  intro p e s m args below meth c hE hr hlocks hW ls hl
  have hE : q_E G p s m args c cX12_drop 4 RX12 := hE
  have hx := hE.1.1
  have hb := hE.1.2.1
  have hl : lv_has ls 4 [(0, .ref a0), (1, .int i1)] := hl
  have lp26a : ∀ (n26a : Nat) (ks4 : q_S) (H : Heap) (locs : List Loc) (kv1 : q_V 0 2 i1) (kx2 : Int32) (kx3 : Int32) (vkx3 : q_V 0 16 kx3) (hW : q_Wd G [63] σ s.heap ks4 H locs) (ls : Array Slot) (hl : lv_has ls 4 [(0, .ref a0), (1, .int i1), (2, .int kx2), (3, .int kx3)]), (16 - kx3.toInt).toNat < n26a → W p l e (q_Rm 3) s m args below meth c H locs 0 0 (MQ below (q_Qi G [63] σ (fun r σ1 => q_V (-2147483648) 2147483647 r)) args s 0 0 (q_N G)) (F0 m 26 ls []) := by
    intro n26a
    induction n26a with
    | zero => intro _ _ _ _ _ _ _ _ _ _; exact fun h => absurd h (Nat.not_lt_zero _)
    | succ n26a ih26a =>
      intro ks4 H locs kv1 kx2 kx3 vkx3 hW ls hl hm26a
      have jn56a : ∀ (ks8 : q_S) (H : Heap) (locs : List Loc) (kv5 : q_V 0 15 kx3) (kx6 : Int32) (kx7 : Int32) (vkx7 : q_V 0 1 kx7) (hW : q_Wd G [63] σ s.heap ks8 H locs) (ls : Array Slot) (hl : lv_has ls 4 [(0, .ref a0), (1, .int i1), (3, .int kx3)]), W p l e (q_Rm 3) s m args below meth c H locs 0 0 (MQ below (q_Qi G [63] σ (fun r σ1 => q_V (-2147483648) 2147483647 r)) args s 0 0 (q_N G)) (F0 m 56 ls [.int kx7, .int kx6]) := by
        intro ks8 H locs kv5 kx6 kx7 vkx7 hW ls hl
        refine lv_iadd hx hb dX12_drop_56 ?_
        refine lv_topi (fun kx9 ekx9 => ?_)
        refine lv_istore_n (lv' := [(2, .int kx9), (0, .ref a0), (1, .int i1), (3, .int kx3)]) hx hb dX12_drop_57 rfl hl (by decide) rfl (fun ls hl => ?_)
        obtain ⟨kx10, ekx10⟩ : ∃ y : Int32, y = kx3 + 1 := ⟨_, rfl⟩
        have vkx10 : q_V 1 16 kx10 := by rw [ekx10]; exact (q_add kv5 (q_c (k := 1) (x := 1) (by decide)) (by decide) (by decide)).w (by decide) (by decide)
        have ikx10 : kx10.toInt = kx3.toInt + 1 := q_incT ekx10 kv5 (by decide) (by decide) (by decide)
        refine lv_iinc (v := kx10) (lv' := [(3, .int kx10), (2, .int kx9), (0, .ref a0), (1, .int i1)]) hx hb dX12_drop_58 hl (k := 3) rfl (by rw [ekx10]; rfl) (by decide) rfl (fun ls hl => ?_)
        refine lv_goto (tgt := 26) hx hb dX12_drop_61 (by decide) ?_
        exact ih26a _ _ _ kv1 kx9 kx10 (vkx10.w (by decide) (by decide)) hW ls (lv_sub hl [2, 3, 1, 0] rfl) (Nat.lt_of_lt_of_le (q_up (ikx10) (show q_V 1 16 kx10 from vkx10).2) (Nat.le_of_lt_succ hm26a))
      refine lv_iload_n hx hb dX12_drop_26 rfl (lv_at hl 3 rfl) ?_
      refine lv_aload_n hx hb dX12_drop_27 rfl (lv_at hl 0 rfl) ?_
      refine q_getr hE hW h0 rfl q_k12 41 (by decide) rfl (hE.l wl_154) dX12_drop_28 (fun kb11 ekb11 hkb11a hkb11b => ?_)
      have hkb11 : q_T G kb11 = 65 := q_tag hkb11a hkb11b
      refine lv_iload_n hx hb dX12_drop_31 rfl (lv_at hl 1 rfl) ?_
      refine q_iald hE hW hkb11 rfl (q_in kv1 (by decide) (by decide)) dX12_drop_32 (fun kx12 ekx12 gkx12 => ?_)
      have vkx12 : q_V 0 16 kx12 := gkx12
      refine lv_icmp_ge (tgt := 64) hx hb dX12_drop_33 (by decide) (fun kc13 => ?_) (fun kc13 => ?_)
      · refine lv_aload_n hx hb dX12_drop_64 rfl (lv_at hl 0 rfl) ?_
        refine q_getr hE hW h0 rfl q_k12 39 (by decide) rfl (hE.l wl_152) dX12_drop_65 (fun kb14 ekb14 hkb14a hkb14b => ?_)
        have hkb14 : q_T G kb14 = 63 := q_tag hkb14a hkb14b
        refine lv_iload_n hx hb dX12_drop_68 rfl (lv_at hl 1 rfl) ?_
        refine lv_iconst (v := 0) hx hb dX12_drop_69 (by decide) ?_
        refine q_zast hE hW hkb14 rfl (q_in kv1 (by decide) (by decide)) (q_narz ((q_c (k := 0) (x := 0) (by decide)).w (by decide) (by decide))) ((q_c (k := 0) (x := 0) (by decide)).w (by decide) (by decide)) (by decide) dX12_drop_70 (fun H locs ks15 kp16 hW => ?_)
        refine lv_iload_n hx hb dX12_drop_71 rfl (lv_at hl 2 rfl) ?_
        exact q_reti hE hr hlocks hW ((q_all kx2)) dX12_drop_72
      · have kv17 : q_V 0 15 kx3 := (q_lt1 vkx3 vkx12 (Int32.not_le.mp kc13)).w (by decide) (by decide)
        have kv18 : q_V 1 16 kx12 := (q_lt2 vkx3 vkx12 (Int32.not_le.mp kc13)).w (by decide) (by decide)
        refine lv_iload_n hx hb dX12_drop_36 rfl (lv_at hl 2 rfl) ?_
        refine lv_aload_n hx hb dX12_drop_37 rfl (lv_at hl 0 rfl) ?_
        refine q_getr hE hW h0 rfl q_k12 42 (by decide) rfl (hE.l wl_155) dX12_drop_38 (fun kb19 ekb19 hkb19a hkb19b => ?_)
        have hkb19 : q_T G kb19 = 66 := q_tag hkb19a hkb19b
        refine lv_bipush (v := 16) hx hb dX12_drop_41 (by decide) ?_
        refine lv_iload_n hx hb dX12_drop_43 rfl (lv_at hl 1 rfl) ?_
        refine lv_imul hx hb dX12_drop_44 ?_
        refine lv_topi (fun kx20 ekx20 => ?_)
        have vkx20 : q_V 0 32 kx20 := by rw [ekx20]; exact (q_mul (k := 16) (by decide) kv1 (by decide) (by decide) (by decide)).w (by decide) (by decide)
        refine lv_iload_n hx hb dX12_drop_45 rfl (lv_at hl 3 rfl) ?_
        refine lv_iadd hx hb dX12_drop_46 ?_
        refine lv_topi (fun kx21 ekx21 => ?_)
        have vkx21 : q_V 0 47 kx21 := by rw [ekx21]; exact (q_add vkx20 kv17 (by decide) (by decide)).w (by decide) (by decide)
        refine q_iald hE hW hkb19 rfl (q_in vkx21 (by decide) (by decide)) dX12_drop_47 (fun kx22 ekx22 gkx22 => ?_)
        have vkx22 : q_V 0 2147483647 kx22 := ⟨gkx22.1, (q_all kx22).2⟩
        refine lv_if_eq (tgt := 55) hx hb dX12_drop_48 (by decide) (fun kc23 => ?_) (fun kc23 => ?_)
        · have kv24 : q_V 0 0 kx22 := q_eq1 vkx22 (q_c (k := 0) (x := 0) (by decide)) kc23 (by decide) (by decide)
          refine lv_iconst (v := 0) hx hb dX12_drop_55 (by decide) ?_
          exact jn56a _ _ _ kv17 kx2 0 ((q_c (k := 0) (x := 0) (by decide)).w (by decide) (by decide)) hW ls (lv_sub hl [0, 1, 3] rfl)
        · have kv25 : q_V 1 2147483647 kx22 := q_ne1 vkx22 (q_c (k := 0) (x := 0) (by decide)) kc23 (by decide)
          refine lv_iconst (v := 1) hx hb dX12_drop_51 (by decide) ?_
          refine lv_goto (tgt := 56) hx hb dX12_drop_52 (by decide) ?_
          exact jn56a _ _ _ kv17 kx2 1 ((q_c (k := 1) (x := 1) (by decide)).w (by decide) (by decide)) hW ls (lv_sub hl [0, 1, 3] rfl)
  refine lv_iload_n hx hb dX12_drop_0 rfl (lv_at hl 1 rfl) ?_
  refine q_goi hW (q_runS (As := [.int i1]) (rest := []) hE hW (c_X12_isRow l G σ i1) kw_X12_354 rfl hl.1 rfl (Nat.le_of_ble_eq_true rfl) dX12_drop_1 ⟨by decide, by decide⟩ ⟨by decide, by decide⟩) (by decide) (fun kx29 ks27 H locs kp26 kf28 hW => ?_)
  refine lv_if_ne (tgt := 10) hx hb dX12_drop_4 (by decide) (fun kc30 => ?_) (fun kc30 => ?_)
  · have kv31 : q_V 0 2 i1 := kp26.2 kc30
    have kv32 : q_V 1 1 kx29 := q_ne1 kp26.1 (q_c (k := 0) (x := 0) (by decide)) kc30 (by decide)
    refine lv_aload_n hx hb dX12_drop_10 rfl (lv_at hl 0 rfl) ?_
    refine q_getr hE hW h0 rfl q_k12 39 (by decide) rfl (hE.l wl_152) dX12_drop_11 (fun kb33 ekb33 hkb33a hkb33b => ?_)
    have hkb33 : q_T G kb33 = 63 := q_tag hkb33a hkb33b
    refine lv_iload_n hx hb dX12_drop_14 rfl (lv_at hl 1 rfl) ?_
    refine q_zald hE hW hkb33 rfl (q_in kv31 (by decide) (by decide)) dX12_drop_15 (fun kx34 ekx34 gkx34 => ?_)
    have vkx34 : q_V 0 1 kx34 := gkx34
    refine lv_if_ne (tgt := 22) hx hb dX12_drop_16 (by decide) (fun kc35 => ?_) (fun kc35 => ?_)
    · have kv36 : q_V 1 1 kx34 := q_ne1 vkx34 (q_c (k := 0) (x := 0) (by decide)) kc35 (by decide)
      refine lv_iconst (v := 0) hx hb dX12_drop_22 (by decide) ?_
      refine lv_istore_n (lv' := [(2, .int 0), (0, .ref a0), (1, .int i1)]) hx hb dX12_drop_23 rfl hl (by decide) rfl (fun ls hl => ?_)
      refine lv_iconst (v := 0) hx hb dX12_drop_24 (by decide) ?_
      refine lv_istore_n (lv' := [(3, .int 0), (2, .int 0), (0, .ref a0), (1, .int i1)]) hx hb dX12_drop_25 rfl hl (by decide) rfl (fun ls hl => ?_)
      exact lp26a _ _ _ _ kv31 0 0 ((q_c (k := 0) (x := 0) (by decide)).w (by decide) (by decide)) hW ls (lv_sub hl [2, 3, 1, 0] rfl) (Nat.lt_succ_self _)
    · have kv37 : q_V 0 0 kx34 := q_eq1 vkx34 (q_c (k := 0) (x := 0) (by decide)) kc35 (by decide) (by decide)
      refine lv_bipush (v := (-11)) hx hb dX12_drop_19 (by decide) ?_
      exact q_reti hE hr hlocks hW (((q_c (k := (-11)) (x := (-11)) (by decide)).w (by decide) (by decide))) dX12_drop_21
  · have kv38 : q_V 0 0 kx29 := q_eq1 kp26.1 (q_c (k := 0) (x := 0) (by decide)) kc30 (by decide) (by decide)
    refine lv_bipush (v := (-2)) hx hb dX12_drop_7 (by decide) ?_
    exact q_reti hE hr hlocks hW (((q_c (k := (-2)) (x := (-2)) (by decide)).w (by decide) (by decide))) dX12_drop_9
set_option maxHeartbeats 4000000 in
set_option maxRecDepth 100000 in
theorem c_X12_sum (l : Launch) (G : q_G) (σ : q_S) (a0 : Nat) (h0 : q_T G a0 = 40) (i1 : Int32)  : Met l yX12_sum (Cond.code yX12_sum cX12_sum 5 (some .int) :: wsL_law) (q_Rm 3) (q_Pre G σ [.ref a0, .int i1]) (q_Qi G [] σ (fun r σ1 => q_V (-2147483648) 2147483647 r)) 0 0 (q_N G) := by
  refine q_ofW (ts := []) (by decide) (Nat.le_of_ble_eq_true rfl) ?_
  intro p e s m args below meth c hE hr hlocks hW ls hl
  have hE : q_E G p s m args c cX12_sum 5 RX12 := hE
  have hx := hE.1.1
  have hb := hE.1.2.1
  have hl : lv_has ls 5 [(0, .ref a0), (1, .int i1)] := hl
  have lp28a : ∀ (n28a : Nat) (ks4 : q_S) (H : Heap) (locs : List Loc) (kv1 : q_V 0 2 i1) (kx2 : Int32) (kx3 : Int32) (vkx3 : q_V 0 16 kx3) (hW : q_Wd G [] σ s.heap ks4 H locs) (ls : Array Slot) (hl : lv_has ls 5 [(0, .ref a0), (1, .int i1), (2, .int kx2), (3, .int kx3)]), (16 - kx3.toInt).toNat < n28a → W p l e (q_Rm 3) s m args below meth c H locs 0 0 (MQ below (q_Qi G [] σ (fun r σ1 => q_V (-2147483648) 2147483647 r)) args s 0 0 (q_N G)) (F0 m 28 ls []) := by
    intro n28a
    induction n28a with
    | zero => intro _ _ _ _ _ _ _ _ _ _; exact fun h => absurd h (Nat.not_lt_zero _)
    | succ n28a ih28a =>
      intro ks4 H locs kv1 kx2 kx3 vkx3 hW ls hl hm28a
      have jn86a : ∀ (ks8 : q_S) (H : Heap) (locs : List Loc) (kv5 : q_V 0 15 kx3) (kx6 : Int32) (kx7 : Int32) (hW : q_Wd G [] σ s.heap ks8 H locs) (ls : Array Slot) (hl : lv_has ls 5 [(0, .ref a0), (1, .int i1), (3, .int kx3)]), W p l e (q_Rm 3) s m args below meth c H locs 0 0 (MQ below (q_Qi G [] σ (fun r σ1 => q_V (-2147483648) 2147483647 r)) args s 0 0 (q_N G)) (F0 m 86 ls [.int kx7, .int kx6]) := by
        intro ks8 H locs kv5 kx6 kx7 hW ls hl
        refine lv_iadd hx hb dX12_sum_86 ?_
        refine lv_topi (fun kx9 ekx9 => ?_)
        refine lv_istore_n (lv' := [(2, .int kx9), (0, .ref a0), (1, .int i1), (3, .int kx3)]) hx hb dX12_sum_87 rfl hl (by decide) rfl (fun ls hl => ?_)
        obtain ⟨kx10, ekx10⟩ : ∃ y : Int32, y = kx3 + 1 := ⟨_, rfl⟩
        have vkx10 : q_V 1 16 kx10 := by rw [ekx10]; exact (q_add kv5 (q_c (k := 1) (x := 1) (by decide)) (by decide) (by decide)).w (by decide) (by decide)
        have ikx10 : kx10.toInt = kx3.toInt + 1 := q_incT ekx10 kv5 (by decide) (by decide) (by decide)
        refine lv_iinc (v := kx10) (lv' := [(3, .int kx10), (2, .int kx9), (0, .ref a0), (1, .int i1)]) hx hb dX12_sum_88 hl (k := 3) rfl (by rw [ekx10]; rfl) (by decide) rfl (fun ls hl => ?_)
        refine lv_goto (tgt := 28) hx hb dX12_sum_91 (by decide) ?_
        exact ih28a _ _ _ kv1 kx9 kx10 (vkx10.w (by decide) (by decide)) hW ls (lv_sub hl [2, 3, 1, 0] rfl) (Nat.lt_of_lt_of_le (q_up (ikx10) (show q_V 1 16 kx10 from vkx10).2) (Nat.le_of_lt_succ hm28a))
      refine lv_iload_n hx hb dX12_sum_28 rfl (lv_at hl 3 rfl) ?_
      refine lv_aload_n hx hb dX12_sum_29 rfl (lv_at hl 0 rfl) ?_
      refine q_getr hE hW h0 rfl q_k12 41 (by decide) rfl (hE.l wl_154) dX12_sum_30 (fun kb11 ekb11 hkb11a hkb11b => ?_)
      have hkb11 : q_T G kb11 = 65 := q_tag hkb11a hkb11b
      refine lv_iload_n hx hb dX12_sum_33 rfl (lv_at hl 1 rfl) ?_
      refine q_iald hE hW hkb11 rfl (q_in kv1 (by decide) (by decide)) dX12_sum_34 (fun kx12 ekx12 gkx12 => ?_)
      have vkx12 : q_V 0 16 kx12 := gkx12
      refine lv_icmp_ge (tgt := 94) hx hb dX12_sum_35 (by decide) (fun kc13 => ?_) (fun kc13 => ?_)
      · refine lv_iload_n hx hb dX12_sum_94 rfl (lv_at hl 2 rfl) ?_
        exact q_reti hE hr hlocks hW ((q_all kx2)) dX12_sum_95
      · have kv14 : q_V 0 15 kx3 := (q_lt1 vkx3 vkx12 (Int32.not_le.mp kc13)).w (by decide) (by decide)
        have kv15 : q_V 1 16 kx12 := (q_lt2 vkx3 vkx12 (Int32.not_le.mp kc13)).w (by decide) (by decide)
        refine lv_aload_n hx hb dX12_sum_38 rfl (lv_at hl 0 rfl) ?_
        refine q_getr hE hW h0 rfl q_k12 42 (by decide) rfl (hE.l wl_155) dX12_sum_39 (fun kb16 ekb16 hkb16a hkb16b => ?_)
        have hkb16 : q_T G kb16 = 66 := q_tag hkb16a hkb16b
        refine lv_bipush (v := 16) hx hb dX12_sum_42 (by decide) ?_
        refine lv_iload_n hx hb dX12_sum_44 rfl (lv_at hl 1 rfl) ?_
        refine lv_imul hx hb dX12_sum_45 ?_
        refine lv_topi (fun kx17 ekx17 => ?_)
        have vkx17 : q_V 0 32 kx17 := by rw [ekx17]; exact (q_mul (k := 16) (by decide) kv1 (by decide) (by decide) (by decide)).w (by decide) (by decide)
        refine lv_iload_n hx hb dX12_sum_46 rfl (lv_at hl 3 rfl) ?_
        refine lv_iadd hx hb dX12_sum_47 ?_
        refine lv_topi (fun kx18 ekx18 => ?_)
        have vkx18 : q_V 0 47 kx18 := by rw [ekx18]; exact (q_add vkx17 kv14 (by decide) (by decide)).w (by decide) (by decide)
        refine q_iald hE hW hkb16 rfl (q_in vkx18 (by decide) (by decide)) dX12_sum_48 (fun kx19 ekx19 gkx19 => ?_)
        have vkx19 : q_V 0 2147483647 kx19 := ⟨gkx19.1, (q_all kx19).2⟩
        refine lv_istore (lv' := [(4, .int kx19), (0, .ref a0), (1, .int i1), (2, .int kx2), (3, .int kx3)]) hx hb dX12_sum_49 hl (by decide) rfl (fun ls hl => ?_)
        refine lv_iload_n hx hb dX12_sum_51 rfl (lv_at hl 3 rfl) ?_
        refine lv_iload hx hb dX12_sum_52 (lv_at hl 0 rfl) ?_
        refine lv_if_ne (tgt := 61) hx hb dX12_sum_54 (by decide) (fun kc20 => ?_) (fun kc20 => ?_)
        · have kv21 : q_V 1 2147483647 kx19 := q_ne1 vkx19 (q_c (k := 0) (x := 0) (by decide)) kc20 (by decide)
          refine lv_iload hx hb dX12_sum_61 (lv_at hl 0 rfl) ?_
          refine lv_sipush (v := 1000) hx hb dX12_sum_63 (by decide) ?_
          refine lv_icmp_lt (tgt := 78) hx hb dX12_sum_66 (by decide) (fun kc22 => ?_) (fun kc22 => ?_)
          · have kv23 : q_V 1 999 kx19 := (q_lt1 kv21 (q_c (k := 1000) (x := 1000) (by decide)) kc22).w (by decide) (by decide)
            have kv24 : q_V 1 6 kx19 := q_peg gkx19 kv23 (by decide)
            refine lv_aload_n hx hb dX12_sum_78 rfl (lv_at hl 1 rfl) ?_
            refine lv_iload hx hb dX12_sum_79 (lv_at hl 0 rfl) ?_
            refine lv_iconst (v := 1) hx hb dX12_sum_81 (by decide) ?_
            refine lv_isub hx hb dX12_sum_82 ?_
            refine lv_topi (fun kx25 ekx25 => ?_)
            have vkx25 : q_V 0 5 kx25 := by rw [ekx25]; exact (q_sub kv24 (q_c (k := 1) (x := 1) (by decide)) (by decide) (by decide)).w (by decide) (by decide)
            refine q_goi hW (q_runV (As := [.int kx25]) (rest := [.int kx2]) hE hW (c_X12_allDeep l G ks4 a0 h0 kx25 vkx25) kw_X12_276 (q_recv hE hW h0 rfl q_k12) rfl hl.1 rfl (Nat.le_of_ble_eq_true rfl) dX12_sum_83 ⟨by decide, by decide⟩ ⟨by decide, by decide⟩) (by decide) (fun kx29 ks27 H locs kp26 kf28 hW => ?_)
            exact jn86a _ _ _ kv14 kx2 kx29 hW ls (lv_sub hl [1, 2, 4] rfl)
          · have kv30 : q_V 1000 2147483647 kx19 := (q_le2 (q_c (k := 1000) (x := 1000) (by decide)) kv21 (Int32.not_lt.mp kc22)).w (by decide) (by decide)
            refine lv_iload hx hb dX12_sum_69 (lv_at hl 0 rfl) ?_
            refine lv_sipush (v := 3000) hx hb dX12_sum_71 (by decide) ?_
            refine lv_isub hx hb dX12_sum_74 ?_
            refine lv_topi (fun kx31 ekx31 => ?_)
            have vkx31 : q_V (-2000) 2147480647 kx31 := by rw [ekx31]; exact (q_sub kv30 (q_c (k := 3000) (x := 3000) (by decide)) (by decide) (by decide)).w (by decide) (by decide)
            refine lv_goto (tgt := 86) hx hb dX12_sum_75 (by decide) ?_
            exact jn86a _ _ _ kv14 kx2 kx31 hW ls (lv_sub hl [1, 2, 4] rfl)
        · have kv32 : q_V 0 0 kx19 := q_eq1 vkx19 (q_c (k := 0) (x := 0) (by decide)) kc20 (by decide) (by decide)
          refine lv_iconst (v := 0) hx hb dX12_sum_57 (by decide) ?_
          refine lv_goto (tgt := 86) hx hb dX12_sum_58 (by decide) ?_
          exact jn86a _ _ _ kv14 kx2 0 hW ls (lv_sub hl [1, 2, 4] rfl)
  refine lv_iload_n hx hb dX12_sum_0 rfl (lv_at hl 1 rfl) ?_
  refine q_goi hW (q_runS (As := [.int i1]) (rest := []) hE hW (c_X12_isRow l G σ i1) kw_X12_354 rfl hl.1 rfl (Nat.le_of_ble_eq_true rfl) dX12_sum_1 ⟨by decide, by decide⟩ ⟨by decide, by decide⟩) (by decide) (fun kx36 ks34 H locs kp33 kf35 hW => ?_)
  refine lv_if_ne (tgt := 10) hx hb dX12_sum_4 (by decide) (fun kc37 => ?_) (fun kc37 => ?_)
  · have kv38 : q_V 0 2 i1 := kp33.2 kc37
    have kv39 : q_V 1 1 kx36 := q_ne1 kp33.1 (q_c (k := 0) (x := 0) (by decide)) kc37 (by decide)
    refine lv_aload_n hx hb dX12_sum_10 rfl (lv_at hl 0 rfl) ?_
    refine q_getr hE hW h0 rfl q_k12 39 (by decide) rfl (hE.l wl_152) dX12_sum_11 (fun kb40 ekb40 hkb40a hkb40b => ?_)
    have hkb40 : q_T G kb40 = 63 := q_tag hkb40a hkb40b
    refine lv_iload_n hx hb dX12_sum_14 rfl (lv_at hl 1 rfl) ?_
    refine q_zald hE hW hkb40 rfl (q_in kv38 (by decide) (by decide)) dX12_sum_15 (fun kx41 ekx41 gkx41 => ?_)
    have vkx41 : q_V 0 1 kx41 := gkx41
    refine lv_if_ne (tgt := 22) hx hb dX12_sum_16 (by decide) (fun kc42 => ?_) (fun kc42 => ?_)
    · have kv43 : q_V 1 1 kx41 := q_ne1 vkx41 (q_c (k := 0) (x := 0) (by decide)) kc42 (by decide)
      refine lv_ldcw (v := 100000) hx hb hE.1.2.2.2.1 (hE.w wl_1053) dX12_sum_22 ?_
      refine lv_istore_n (lv' := [(2, .int 100000), (0, .ref a0), (1, .int i1)]) hx hb dX12_sum_25 rfl hl (by decide) rfl (fun ls hl => ?_)
      refine lv_iconst (v := 0) hx hb dX12_sum_26 (by decide) ?_
      refine lv_istore_n (lv' := [(3, .int 0), (2, .int 100000), (0, .ref a0), (1, .int i1)]) hx hb dX12_sum_27 rfl hl (by decide) rfl (fun ls hl => ?_)
      exact lp28a _ _ _ _ kv38 100000 0 ((q_c (k := 0) (x := 0) (by decide)).w (by decide) (by decide)) hW ls (lv_sub hl [2, 3, 1, 0] rfl) (Nat.lt_succ_self _)
    · have kv44 : q_V 0 0 kx41 := q_eq1 vkx41 (q_c (k := 0) (x := 0) (by decide)) kc42 (by decide) (by decide)
      refine lv_bipush (v := (-11)) hx hb dX12_sum_19 (by decide) ?_
      exact q_reti hE hr hlocks hW (((q_c (k := (-11)) (x := (-11)) (by decide)).w (by decide) (by decide))) dX12_sum_21
  · have kv45 : q_V 0 0 kx36 := q_eq1 kp33.1 (q_c (k := 0) (x := 0) (by decide)) kc37 (by decide) (by decide)
    refine lv_bipush (v := (-2)) hx hb dX12_sum_7 (by decide) ?_
    exact q_reti hE hr hlocks hW (((q_c (k := (-2)) (x := (-2)) (by decide)).w (by decide) (by decide))) dX12_sum_9
set_option maxHeartbeats 4000000 in
set_option maxRecDepth 100000 in
theorem c_X12_cloudsAt (l : Launch) (G : q_G) (σ : q_S) (a0 : Nat) (h0 : q_T G a0 = 40) (i1 : Int32)  : Met l yX12_cloudsAt (Cond.code yX12_cloudsAt cX12_cloudsAt 4 (some .int) :: wsL_law) (q_Rm 1) (q_Pre G σ [.ref a0, .int i1]) (q_Qi G [] σ (fun r σ1 => q_V (-2147483648) 2147483647 r)) 0 0 (q_N G) := by
  refine q_ofW (ts := []) (by decide) (Nat.le_of_ble_eq_true rfl) ?_
  intro p e s m args below meth c hE hr hlocks hW ls hl
  have hE : q_E G p s m args c cX12_cloudsAt 4 RX12 := hE
  have hx := hE.1.1
  have hb := hE.1.2.1
  have hl : lv_has ls 4 [(0, .ref a0), (1, .int i1)] := hl
  have lp4a : ∀ (n4a : Nat) (kx1 : Int32) (kx2 : Int32) (vkx2 : q_V 0 6 kx2) (ls : Array Slot) (hl : lv_has ls 4 [(0, .ref a0), (1, .int i1), (2, .int kx1), (3, .int kx2)]), (6 - kx2.toInt).toNat < n4a → W p l e (q_Rm 1) s m args below meth c s.heap [] 0 0 (MQ below (q_Qi G [] σ (fun r σ1 => q_V (-2147483648) 2147483647 r)) args s 0 0 (q_N G)) (F0 m 4 ls []) := by
    intro n4a
    induction n4a with
    | zero => intro _ _ _ _ _; exact fun h => absurd h (Nat.not_lt_zero _)
    | succ n4a ih4a =>
      intro kx1 kx2 vkx2 ls hl hm4a
      have jn33a : ∀ (kv3 : q_V 0 5 kx2) (kx4 : Int32) (kx5 : Int32) (ls : Array Slot) (hl : lv_has ls 4 [(0, .ref a0), (1, .int i1), (3, .int kx2)]), W p l e (q_Rm 1) s m args below meth c s.heap [] 0 0 (MQ below (q_Qi G [] σ (fun r σ1 => q_V (-2147483648) 2147483647 r)) args s 0 0 (q_N G)) (F0 m 33 ls [.int kx5, .int kx4]) := by
        intro kv3 kx4 kx5 ls hl
        refine lv_ior hx hb dX12_cloudsAt_33 ?_
        refine lv_topi (fun kx6 ekx6 => ?_)
        refine lv_istore_n (lv' := [(2, .int kx6), (0, .ref a0), (1, .int i1), (3, .int kx2)]) hx hb dX12_cloudsAt_34 rfl hl (by decide) rfl (fun ls hl => ?_)
        obtain ⟨kx7, ekx7⟩ : ∃ y : Int32, y = kx2 + 1 := ⟨_, rfl⟩
        have vkx7 : q_V 1 6 kx7 := by rw [ekx7]; exact (q_add kv3 (q_c (k := 1) (x := 1) (by decide)) (by decide) (by decide)).w (by decide) (by decide)
        have ikx7 : kx7.toInt = kx2.toInt + 1 := q_incT ekx7 kv3 (by decide) (by decide) (by decide)
        refine lv_iinc (v := kx7) (lv' := [(3, .int kx7), (2, .int kx6), (0, .ref a0), (1, .int i1)]) hx hb dX12_cloudsAt_35 hl (k := 3) rfl (by rw [ekx7]; rfl) (by decide) rfl (fun ls hl => ?_)
        refine lv_goto (tgt := 4) hx hb dX12_cloudsAt_38 (by decide) ?_
        exact ih4a kx6 kx7 (vkx7.w (by decide) (by decide)) ls (lv_sub hl [2, 3, 1, 0] rfl) (Nat.lt_of_lt_of_le (q_up (ikx7) (show q_V 1 6 kx7 from vkx7).2) (Nat.le_of_lt_succ hm4a))
      refine lv_iload_n hx hb dX12_cloudsAt_4 rfl (lv_at hl 3 rfl) ?_
      refine lv_aload_n hx hb dX12_cloudsAt_5 rfl (lv_at hl 0 rfl) ?_
      refine q_geti hE hW h0 rfl q_k12 0 (by decide) rfl (hE.l wl_358) dX12_cloudsAt_6 (fun kx8 ekx8 vkx8 => ?_)
      refine lv_icmp_ge (tgt := 41) hx hb dX12_cloudsAt_9 (by decide) (fun kc9 => ?_) (fun kc9 => ?_)
      · refine lv_iload_n hx hb dX12_cloudsAt_41 rfl (lv_at hl 2 rfl) ?_
        exact q_reti hE hr hlocks hW ((q_all kx1)) dX12_cloudsAt_42
      · have kv10 : q_V 0 5 kx2 := (q_lt1 vkx2 vkx8 (Int32.not_le.mp kc9)).w (by decide) (by decide)
        have kv11 : q_V 1 6 kx8 := (q_lt2 vkx2 vkx8 (Int32.not_le.mp kc9)).w (by decide) (by decide)
        refine lv_iload_n hx hb dX12_cloudsAt_12 rfl (lv_at hl 2 rfl) ?_
        refine lv_aload_n hx hb dX12_cloudsAt_13 rfl (lv_at hl 0 rfl) ?_
        refine q_getr hE hW h0 rfl q_k12 9 (by decide) rfl (hE.l wl_135) dX12_cloudsAt_14 (fun kb12 ekb12 hkb12a hkb12b => ?_)
        have hkb12 : q_T G kb12 = 46 := q_tag hkb12a hkb12b
        refine lv_bipush (v := 6) hx hb dX12_cloudsAt_17 (by decide) ?_
        refine lv_iload_n hx hb dX12_cloudsAt_19 rfl (lv_at hl 3 rfl) ?_
        refine lv_iadd hx hb dX12_cloudsAt_20 ?_
        refine lv_topi (fun kx13 ekx13 => ?_)
        have vkx13 : q_V 6 11 kx13 := by rw [ekx13]; exact (q_add (q_c (k := 6) (x := 6) (by decide)) kv10 (by decide) (by decide)).w (by decide) (by decide)
        refine q_iald hE hW hkb12 rfl (q_in vkx13 (by decide) (by decide)) dX12_cloudsAt_21 (fun kx14 ekx14 gkx14 => ?_)
        refine lv_iload_n hx hb dX12_cloudsAt_22 rfl (lv_at hl 1 rfl) ?_
        refine lv_icmp_ne (tgt := 32) hx hb dX12_cloudsAt_23 (by decide) (fun kc15 => ?_) (fun kc15 => ?_)
        · refine lv_iconst (v := 0) hx hb dX12_cloudsAt_32 (by decide) ?_
          exact jn33a kv10 kx1 0 ls (lv_sub hl [0, 1, 3] rfl)
        · refine lv_iconst (v := 1) hx hb dX12_cloudsAt_26 (by decide) ?_
          refine lv_iload_n hx hb dX12_cloudsAt_27 rfl (lv_at hl 3 rfl) ?_
          refine lv_ishl hx hb dX12_cloudsAt_28 ?_
          refine lv_topi (fun kx16 ekx16 => ?_)
          refine lv_goto (tgt := 33) hx hb dX12_cloudsAt_29 (by decide) ?_
          exact jn33a kv10 kx1 kx16 ls (lv_sub hl [0, 1, 3] rfl)
  refine lv_iconst (v := 0) hx hb dX12_cloudsAt_0 (by decide) ?_
  refine lv_istore_n (lv' := [(2, .int 0), (0, .ref a0), (1, .int i1)]) hx hb dX12_cloudsAt_1 rfl hl (by decide) rfl (fun ls hl => ?_)
  refine lv_iconst (v := 0) hx hb dX12_cloudsAt_2 (by decide) ?_
  refine lv_istore_n (lv' := [(3, .int 0), (2, .int 0), (0, .ref a0), (1, .int i1)]) hx hb dX12_cloudsAt_3 rfl hl (by decide) rfl (fun ls hl => ?_)
  exact lp4a _ 0 0 ((q_c (k := 0) (x := 0) (by decide)).w (by decide) (by decide)) ls (lv_sub hl [2, 3, 1, 0] rfl) (Nat.lt_succ_self _)
set_option maxHeartbeats 4000000 in
set_option maxRecDepth 100000 in
theorem c_X12_linesThere (l : Launch) (G : q_G) (σ : q_S) (a0 : Nat) (h0 : q_T G a0 = 40)  : Met l yX12_linesThere (Cond.code yX12_linesThere cX12_linesThere 3 (some .int) :: wsL_law) (q_Rm 1) (q_Pre G σ [.ref a0]) (q_Qi G [] σ (fun r σ1 => q_V (-2147483648) 2147483647 r)) 0 0 (q_N G) := by
  refine q_ofW (ts := []) (by decide) (Nat.le_of_ble_eq_true rfl) ?_
  intro p e s m args below meth c hE hr hlocks hW ls hl
  have hE : q_E G p s m args c cX12_linesThere 3 RX12 := hE
  have hx := hE.1.1
  have hb := hE.1.2.1
  have hl : lv_has ls 3 [(0, .ref a0)] := hl
  have lp4a : ∀ (n4a : Nat) (kx1 : Int32) (kx2 : Int32) (vkx2 : q_V 0 3 kx2) (ls : Array Slot) (hl : lv_has ls 3 [(0, .ref a0), (1, .int kx1), (2, .int kx2)]), (3 - kx2.toInt).toNat < n4a → W p l e (q_Rm 1) s m args below meth c s.heap [] 0 0 (MQ below (q_Qi G [] σ (fun r σ1 => q_V (-2147483648) 2147483647 r)) args s 0 0 (q_N G)) (F0 m 4 ls []) := by
    intro n4a
    induction n4a with
    | zero => intro _ _ _ _ _; exact fun h => absurd h (Nat.not_lt_zero _)
    | succ n4a ih4a =>
      intro kx1 kx2 vkx2 ls hl hm4a
      have jn24a : ∀ (kv3 : q_V 0 2 kx2) (kx4 : Int32) (kx5 : Int32) (vkx5 : q_V 0 1 kx5) (ls : Array Slot) (hl : lv_has ls 3 [(0, .ref a0), (2, .int kx2)]), W p l e (q_Rm 1) s m args below meth c s.heap [] 0 0 (MQ below (q_Qi G [] σ (fun r σ1 => q_V (-2147483648) 2147483647 r)) args s 0 0 (q_N G)) (F0 m 24 ls [.int kx5, .int kx4]) := by
        intro kv3 kx4 kx5 vkx5 ls hl
        refine lv_iadd hx hb dX12_linesThere_24 ?_
        refine lv_topi (fun kx6 ekx6 => ?_)
        refine lv_istore_n (lv' := [(1, .int kx6), (0, .ref a0), (2, .int kx2)]) hx hb dX12_linesThere_25 rfl hl (by decide) rfl (fun ls hl => ?_)
        obtain ⟨kx7, ekx7⟩ : ∃ y : Int32, y = kx2 + 1 := ⟨_, rfl⟩
        have vkx7 : q_V 1 3 kx7 := by rw [ekx7]; exact (q_add kv3 (q_c (k := 1) (x := 1) (by decide)) (by decide) (by decide)).w (by decide) (by decide)
        have ikx7 : kx7.toInt = kx2.toInt + 1 := q_incT ekx7 kv3 (by decide) (by decide) (by decide)
        refine lv_iinc (v := kx7) (lv' := [(2, .int kx7), (1, .int kx6), (0, .ref a0)]) hx hb dX12_linesThere_26 hl (k := 2) rfl (by rw [ekx7]; rfl) (by decide) rfl (fun ls hl => ?_)
        refine lv_goto (tgt := 4) hx hb dX12_linesThere_29 (by decide) ?_
        exact ih4a kx6 kx7 (vkx7.w (by decide) (by decide)) ls (lv_sub hl [2, 1, 0] rfl) (Nat.lt_of_lt_of_le (q_up (ikx7) (show q_V 1 3 kx7 from vkx7).2) (Nat.le_of_lt_succ hm4a))
      refine lv_iload_n hx hb dX12_linesThere_4 rfl (lv_at hl 2 rfl) ?_
      refine lv_iconst (v := 3) hx hb dX12_linesThere_5 (by decide) ?_
      refine lv_icmp_ge (tgt := 32) hx hb dX12_linesThere_6 (by decide) (fun kc8 => ?_) (fun kc8 => ?_)
      · have kv9 : q_V 3 3 kx2 := (q_le2 (q_c (k := 3) (x := 3) (by decide)) vkx2 kc8).w (by decide) (by decide)
        refine lv_iload_n hx hb dX12_linesThere_32 rfl (lv_at hl 1 rfl) ?_
        exact q_reti hE hr hlocks hW ((q_all kx1)) dX12_linesThere_33
      · have kv10 : q_V 0 2 kx2 := (q_lt1 vkx2 (q_c (k := 3) (x := 3) (by decide)) (Int32.not_le.mp kc8)).w (by decide) (by decide)
        refine lv_iload_n hx hb dX12_linesThere_9 rfl (lv_at hl 1 rfl) ?_
        refine lv_aload_n hx hb dX12_linesThere_10 rfl (lv_at hl 0 rfl) ?_
        refine q_getr hE hW h0 rfl q_k12 39 (by decide) rfl (hE.l wl_152) dX12_linesThere_11 (fun kb11 ekb11 hkb11a hkb11b => ?_)
        have hkb11 : q_T G kb11 = 63 := q_tag hkb11a hkb11b
        refine lv_iload_n hx hb dX12_linesThere_14 rfl (lv_at hl 2 rfl) ?_
        refine q_zald hE hW hkb11 rfl (q_in kv10 (by decide) (by decide)) dX12_linesThere_15 (fun kx12 ekx12 gkx12 => ?_)
        have vkx12 : q_V 0 1 kx12 := gkx12
        refine lv_if_eq (tgt := 23) hx hb dX12_linesThere_16 (by decide) (fun kc13 => ?_) (fun kc13 => ?_)
        · have kv14 : q_V 0 0 kx12 := q_eq1 vkx12 (q_c (k := 0) (x := 0) (by decide)) kc13 (by decide) (by decide)
          refine lv_iconst (v := 0) hx hb dX12_linesThere_23 (by decide) ?_
          exact jn24a kv10 kx1 0 ((q_c (k := 0) (x := 0) (by decide)).w (by decide) (by decide)) ls (lv_sub hl [0, 2] rfl)
        · have kv15 : q_V 1 1 kx12 := q_ne1 vkx12 (q_c (k := 0) (x := 0) (by decide)) kc13 (by decide)
          refine lv_iconst (v := 1) hx hb dX12_linesThere_19 (by decide) ?_
          refine lv_goto (tgt := 24) hx hb dX12_linesThere_20 (by decide) ?_
          exact jn24a kv10 kx1 1 ((q_c (k := 1) (x := 1) (by decide)).w (by decide) (by decide)) ls (lv_sub hl [0, 2] rfl)
  refine lv_iconst (v := 0) hx hb dX12_linesThere_0 (by decide) ?_
  refine lv_istore_n (lv' := [(1, .int 0), (0, .ref a0)]) hx hb dX12_linesThere_1 rfl hl (by decide) rfl (fun ls hl => ?_)
  refine lv_iconst (v := 0) hx hb dX12_linesThere_2 (by decide) ?_
  refine lv_istore_n (lv' := [(2, .int 0), (1, .int 0), (0, .ref a0)]) hx hb dX12_linesThere_3 rfl hl (by decide) rfl (fun ls hl => ?_)
  exact lp4a _ 0 0 ((q_c (k := 0) (x := 0) (by decide)).w (by decide) (by decide)) ls (lv_sub hl [2, 1, 0] rfl) (Nat.lt_succ_self _)
set_option maxHeartbeats 4000000 in
set_option maxRecDepth 100000 in
theorem c_X12_allWater (l : Launch) (G : q_G) (σ : q_S) (a0 : Nat) (h0 : q_T G a0 = 40)  : Met l yX12_allWater (Cond.code yX12_allWater cX12_allWater 3 (some .int) :: wsL_law) (q_Rm 1) (q_Pre G σ [.ref a0]) (q_Qi G [] σ (fun r σ1 => q_V (-2147483648) 2147483647 r)) 0 0 (q_N G) := by
  refine q_ofW (ts := []) (by decide) (Nat.le_of_ble_eq_true rfl) ?_
  intro p e s m args below meth c hE hr hlocks hW ls hl
  have hE : q_E G p s m args c cX12_allWater 3 RX12 := hE
  have hx := hE.1.1
  have hb := hE.1.2.1
  have hl : lv_has ls 3 [(0, .ref a0)] := hl
  have lp4a : ∀ (n4a : Nat) (kx1 : Int32) (kx2 : Int32) (vkx2 : q_V 0 42 kx2) (ls : Array Slot) (hl : lv_has ls 3 [(0, .ref a0), (1, .int kx1), (2, .int kx2)]), (42 - kx2.toInt).toNat < n4a → W p l e (q_Rm 1) s m args below meth c s.heap [] 0 0 (MQ below (q_Qi G [] σ (fun r σ1 => q_V (-2147483648) 2147483647 r)) args s 0 0 (q_N G)) (F0 m 4 ls []) := by
    intro n4a
    induction n4a with
    | zero => intro _ _ _ _ _; exact fun h => absurd h (Nat.not_lt_zero _)
    | succ n4a ih4a =>
      intro kx1 kx2 vkx2 ls hl hm4a
      refine lv_iload_n hx hb dX12_allWater_4 rfl (lv_at hl 2 rfl) ?_
      refine lv_bipush (v := 42) hx hb dX12_allWater_5 (by decide) ?_
      refine lv_icmp_ge (tgt := 28) hx hb dX12_allWater_7 (by decide) (fun kc3 => ?_) (fun kc3 => ?_)
      · have kv4 : q_V 42 42 kx2 := (q_le2 (q_c (k := 42) (x := 42) (by decide)) vkx2 kc3).w (by decide) (by decide)
        refine lv_iload_n hx hb dX12_allWater_28 rfl (lv_at hl 1 rfl) ?_
        exact q_reti hE hr hlocks hW ((q_all kx1)) dX12_allWater_29
      · have kv5 : q_V 0 41 kx2 := (q_lt1 vkx2 (q_c (k := 42) (x := 42) (by decide)) (Int32.not_le.mp kc3)).w (by decide) (by decide)
        refine lv_iload_n hx hb dX12_allWater_10 rfl (lv_at hl 1 rfl) ?_
        refine lv_aload_n hx hb dX12_allWater_11 rfl (lv_at hl 0 rfl) ?_
        refine q_getr hE hW h0 rfl q_k12 9 (by decide) rfl (hE.l wl_135) dX12_allWater_12 (fun kb6 ekb6 hkb6a hkb6b => ?_)
        have hkb6 : q_T G kb6 = 46 := q_tag hkb6a hkb6b
        refine lv_bipush (v := 59) hx hb dX12_allWater_15 (by decide) ?_
        refine lv_iload_n hx hb dX12_allWater_17 rfl (lv_at hl 2 rfl) ?_
        refine lv_iadd hx hb dX12_allWater_18 ?_
        refine lv_topi (fun kx7 ekx7 => ?_)
        have vkx7 : q_V 59 100 kx7 := by rw [ekx7]; exact (q_add (q_c (k := 59) (x := 59) (by decide)) kv5 (by decide) (by decide)).w (by decide) (by decide)
        refine q_iald hE hW hkb6 rfl (q_in vkx7 (by decide) (by decide)) dX12_allWater_19 (fun kx8 ekx8 gkx8 => ?_)
        refine lv_iadd hx hb dX12_allWater_20 ?_
        refine lv_topi (fun kx9 ekx9 => ?_)
        refine lv_istore_n (lv' := [(1, .int kx9), (0, .ref a0), (2, .int kx2)]) hx hb dX12_allWater_21 rfl hl (by decide) rfl (fun ls hl => ?_)
        obtain ⟨kx10, ekx10⟩ : ∃ y : Int32, y = kx2 + 1 := ⟨_, rfl⟩
        have vkx10 : q_V 1 42 kx10 := by rw [ekx10]; exact (q_add kv5 (q_c (k := 1) (x := 1) (by decide)) (by decide) (by decide)).w (by decide) (by decide)
        have ikx10 : kx10.toInt = kx2.toInt + 1 := q_incT ekx10 kv5 (by decide) (by decide) (by decide)
        refine lv_iinc (v := kx10) (lv' := [(2, .int kx10), (1, .int kx9), (0, .ref a0)]) hx hb dX12_allWater_22 hl (k := 2) rfl (by rw [ekx10]; rfl) (by decide) rfl (fun ls hl => ?_)
        refine lv_goto (tgt := 4) hx hb dX12_allWater_25 (by decide) ?_
        exact ih4a kx9 kx10 (vkx10.w (by decide) (by decide)) ls (lv_sub hl [2, 1, 0] rfl) (Nat.lt_of_lt_of_le (q_up (ikx10) (show q_V 1 42 kx10 from vkx10).2) (Nat.le_of_lt_succ hm4a))
  refine lv_iconst (v := 0) hx hb dX12_allWater_0 (by decide) ?_
  refine lv_istore_n (lv' := [(1, .int 0), (0, .ref a0)]) hx hb dX12_allWater_1 rfl hl (by decide) rfl (fun ls hl => ?_)
  refine lv_iconst (v := 0) hx hb dX12_allWater_2 (by decide) ?_
  refine lv_istore_n (lv' := [(2, .int 0), (1, .int 0), (0, .ref a0)]) hx hb dX12_allWater_3 rfl hl (by decide) rfl (fun ls hl => ?_)
  exact lp4a _ 0 0 ((q_c (k := 0) (x := 0) (by decide)).w (by decide) (by decide)) ls (lv_sub hl [2, 1, 0] rfl) (Nat.lt_succ_self _)
set_option maxHeartbeats 4000000 in
set_option maxRecDepth 100000 in
theorem c_X12_count (l : Launch) (G : q_G) (σ : q_S) (a0 : Nat) (h0 : q_T G a0 = 40) (i1 : Int32)  : Met l yX12_count (Cond.code yX12_count cX12_count 2 (some .int) :: wsL_law) (q_Rm 2) (q_Pre G σ [.ref a0, .int i1]) (q_Qi G [] σ (fun r σ1 => q_V (-2147483648) 2147483647 r)) 0 0 (q_N G) := by
  refine q_ofW (ts := []) (by decide) (Nat.le_of_ble_eq_true rfl) ?_
  intro p e s m args below meth c hE hr hlocks hW ls hl
  have hE : q_E G p s m args c cX12_count 2 RX12 := hE
  have hx := hE.1.1
  have hb := hE.1.2.1
  have hl : lv_has ls 2 [(0, .ref a0), (1, .int i1)] := hl
  refine lv_iload_n hx hb dX12_count_0 rfl (lv_at hl 1 rfl) ?_
  rcases q_sw i1 0 13 with kc1 | kc1
  · refine lv_tableOut (tgt := 152) hx hb dX12_count_1 kc1 (by decide) ?_
    refine lv_bipush (v := (-3)) hx hb dX12_count_152 (by decide) ?_
    exact q_reti hE hr hlocks hW (((q_c (k := (-3)) (x := (-3)) (by decide)).w (by decide) (by decide))) dX12_count_154
  · obtain ⟨kc1a, kc1b⟩ := kc1
    by_cases kc1_0 : i1.toInt = 0
    · refine lv_tableIn (off := 71) (tgt := 72) hx hb dX12_count_1 (by rw [kc1_0]; decide) (by rw [kc1_0]; decide) (by rw [kc1_0]; rfl) (by decide) ?_
      have fkc1_0 : q_V 0 0 i1 := q_c kc1_0
      refine lv_aload_n hx hb dX12_count_72 rfl (lv_at hl 0 rfl) ?_
      refine q_geti hE hW h0 rfl q_k12 0 (by decide) rfl (hE.l wl_358) dX12_count_73 (fun kx2 ekx2 vkx2 => ?_)
      exact q_reti hE hr hlocks hW ((vkx2.w (by decide) (by decide))) dX12_count_76
    by_cases kc1_1 : i1.toInt = 1
    · refine lv_tableIn (off := 76) (tgt := 77) hx hb dX12_count_1 (by rw [kc1_1]; decide) (by rw [kc1_1]; decide) (by rw [kc1_1]; rfl) (by decide) ?_
      have fkc1_1 : q_V 1 1 i1 := q_c kc1_1
      refine lv_aload_n hx hb dX12_count_77 rfl (lv_at hl 0 rfl) ?_
      refine q_geti hE hW h0 rfl q_k12 5 (by decide) rfl (hE.l wl_360) dX12_count_78 (fun kx3 ekx3 vkx3 => ?_)
      exact q_reti hE hr hlocks hW ((vkx3.w (by decide) (by decide))) dX12_count_81
    by_cases kc1_2 : i1.toInt = 2
    · refine lv_tableIn (off := 81) (tgt := 82) hx hb dX12_count_1 (by rw [kc1_2]; decide) (by rw [kc1_2]; decide) (by rw [kc1_2]; rfl) (by decide) ?_
      have fkc1_2 : q_V 2 2 i1 := q_c kc1_2
      refine lv_aload_n hx hb dX12_count_82 rfl (lv_at hl 0 rfl) ?_
      refine q_getr hE hW h0 rfl q_k12 9 (by decide) rfl (hE.l wl_135) dX12_count_83 (fun kb4 ekb4 hkb4a hkb4b => ?_)
      have hkb4 : q_T G kb4 = 46 := q_tag hkb4a hkb4b
      refine lv_bipush (v := 57) hx hb dX12_count_86 (by decide) ?_
      refine q_iald hE hW hkb4 rfl (q_in (q_c (k := 57) (x := 57) (by decide)) (by decide) (by decide)) dX12_count_88 (fun kx5 ekx5 gkx5 => ?_)
      exact q_reti hE hr hlocks hW ((q_all kx5)) dX12_count_89
    by_cases kc1_3 : i1.toInt = 3
    · refine lv_tableIn (off := 89) (tgt := 90) hx hb dX12_count_1 (by rw [kc1_3]; decide) (by rw [kc1_3]; decide) (by rw [kc1_3]; rfl) (by decide) ?_
      have fkc1_3 : q_V 3 3 i1 := q_c kc1_3
      refine lv_aload_n hx hb dX12_count_90 rfl (lv_at hl 0 rfl) ?_
      refine q_getr hE hW h0 rfl q_k12 9 (by decide) rfl (hE.l wl_135) dX12_count_91 (fun kb6 ekb6 hkb6a hkb6b => ?_)
      have hkb6 : q_T G kb6 = 46 := q_tag hkb6a hkb6b
      refine lv_bipush (v := 58) hx hb dX12_count_94 (by decide) ?_
      refine q_iald hE hW hkb6 rfl (q_in (q_c (k := 58) (x := 58) (by decide)) (by decide) (by decide)) dX12_count_96 (fun kx7 ekx7 gkx7 => ?_)
      exact q_reti hE hr hlocks hW ((q_all kx7)) dX12_count_97
    by_cases kc1_4 : i1.toInt = 4
    · refine lv_tableIn (off := 97) (tgt := 98) hx hb dX12_count_1 (by rw [kc1_4]; decide) (by rw [kc1_4]; decide) (by rw [kc1_4]; rfl) (by decide) ?_
      have fkc1_4 : q_V 4 4 i1 := q_c kc1_4
      refine lv_aload_n hx hb dX12_count_98 rfl (lv_at hl 0 rfl) ?_
      refine lv_iconst (v := 0) hx hb dX12_count_99 (by decide) ?_
      refine q_goi hW (q_runV (As := [.int 0]) (rest := []) hE hW (c_X12_cloudsAt l G σ a0 h0 0) kw_X12_365 (q_recv hE hW h0 rfl q_k12) rfl hl.1 rfl (Nat.le_of_ble_eq_true rfl) dX12_count_100 ⟨by decide, by decide⟩ ⟨by decide, by decide⟩) (by decide) (fun kx11 ks9 H locs kp8 kf10 hW => ?_)
      exact q_reti hE hr hlocks hW ((q_all kx11)) dX12_count_103
    by_cases kc1_5 : i1.toInt = 5
    · refine lv_tableIn (off := 103) (tgt := 104) hx hb dX12_count_1 (by rw [kc1_5]; decide) (by rw [kc1_5]; decide) (by rw [kc1_5]; rfl) (by decide) ?_
      have fkc1_5 : q_V 5 5 i1 := q_c kc1_5
      refine lv_aload_n hx hb dX12_count_104 rfl (lv_at hl 0 rfl) ?_
      refine lv_iconst (v := 2) hx hb dX12_count_105 (by decide) ?_
      refine q_goi hW (q_runV (As := [.int 2]) (rest := []) hE hW (c_X12_cloudsAt l G σ a0 h0 2) kw_X12_365 (q_recv hE hW h0 rfl q_k12) rfl hl.1 rfl (Nat.le_of_ble_eq_true rfl) dX12_count_106 ⟨by decide, by decide⟩ ⟨by decide, by decide⟩) (by decide) (fun kx15 ks13 H locs kp12 kf14 hW => ?_)
      exact q_reti hE hr hlocks hW ((q_all kx15)) dX12_count_109
    by_cases kc1_6 : i1.toInt = 6
    · refine lv_tableIn (off := 109) (tgt := 110) hx hb dX12_count_1 (by rw [kc1_6]; decide) (by rw [kc1_6]; decide) (by rw [kc1_6]; rfl) (by decide) ?_
      have fkc1_6 : q_V 6 6 i1 := q_c kc1_6
      refine lv_aload_n hx hb dX12_count_110 rfl (lv_at hl 0 rfl) ?_
      refine lv_iconst (v := 3) hx hb dX12_count_111 (by decide) ?_
      refine q_goi hW (q_runV (As := [.int 3]) (rest := []) hE hW (c_X12_cloudsAt l G σ a0 h0 3) kw_X12_365 (q_recv hE hW h0 rfl q_k12) rfl hl.1 rfl (Nat.le_of_ble_eq_true rfl) dX12_count_112 ⟨by decide, by decide⟩ ⟨by decide, by decide⟩) (by decide) (fun kx19 ks17 H locs kp16 kf18 hW => ?_)
      exact q_reti hE hr hlocks hW ((q_all kx19)) dX12_count_115
    by_cases kc1_7 : i1.toInt = 7
    · refine lv_tableIn (off := 115) (tgt := 116) hx hb dX12_count_1 (by rw [kc1_7]; decide) (by rw [kc1_7]; decide) (by rw [kc1_7]; rfl) (by decide) ?_
      have fkc1_7 : q_V 7 7 i1 := q_c kc1_7
      refine lv_aload_n hx hb dX12_count_116 rfl (lv_at hl 0 rfl) ?_
      refine lv_iconst (v := 4) hx hb dX12_count_117 (by decide) ?_
      refine q_goi hW (q_runV (As := [.int 4]) (rest := []) hE hW (c_X12_cloudsAt l G σ a0 h0 4) kw_X12_365 (q_recv hE hW h0 rfl q_k12) rfl hl.1 rfl (Nat.le_of_ble_eq_true rfl) dX12_count_118 ⟨by decide, by decide⟩ ⟨by decide, by decide⟩) (by decide) (fun kx23 ks21 H locs kp20 kf22 hW => ?_)
      exact q_reti hE hr hlocks hW ((q_all kx23)) dX12_count_121
    by_cases kc1_8 : i1.toInt = 8
    · refine lv_tableIn (off := 121) (tgt := 122) hx hb dX12_count_1 (by rw [kc1_8]; decide) (by rw [kc1_8]; decide) (by rw [kc1_8]; rfl) (by decide) ?_
      have fkc1_8 : q_V 8 8 i1 := q_c kc1_8
      refine lv_aload_n hx hb dX12_count_122 rfl (lv_at hl 0 rfl) ?_
      refine q_geti hE hW h0 rfl q_k12 35 (by decide) rfl (hE.l wl_445) dX12_count_123 (fun kx24 ekx24 vkx24 => ?_)
      exact q_reti hE hr hlocks hW ((vkx24.w (by decide) (by decide))) dX12_count_126
    by_cases kc1_9 : i1.toInt = 9
    · refine lv_tableIn (off := 126) (tgt := 127) hx hb dX12_count_1 (by rw [kc1_9]; decide) (by rw [kc1_9]; decide) (by rw [kc1_9]; rfl) (by decide) ?_
      have fkc1_9 : q_V 9 9 i1 := q_c kc1_9
      refine lv_aload_n hx hb dX12_count_127 rfl (lv_at hl 0 rfl) ?_
      refine q_goi hW (q_runV (As := []) (rest := []) hE hW (c_X12_linesThere l G σ a0 h0) kw_X12_368 (q_recv hE hW h0 rfl q_k12) rfl hl.1 rfl (Nat.le_of_ble_eq_true rfl) dX12_count_128 ⟨by decide, by decide⟩ ⟨by decide, by decide⟩) (by decide) (fun kx28 ks26 H locs kp25 kf27 hW => ?_)
      exact q_reti hE hr hlocks hW ((q_all kx28)) dX12_count_131
    by_cases kc1_10 : i1.toInt = 10
    · refine lv_tableIn (off := 131) (tgt := 132) hx hb dX12_count_1 (by rw [kc1_10]; decide) (by rw [kc1_10]; decide) (by rw [kc1_10]; rfl) (by decide) ?_
      have fkc1_10 : q_V 10 10 i1 := q_c kc1_10
      refine lv_aload_n hx hb dX12_count_132 rfl (lv_at hl 0 rfl) ?_
      refine q_geti hE hW h0 rfl q_k12 27 (by decide) rfl (hE.l wl_446) dX12_count_133 (fun kx29 ekx29 vkx29 => ?_)
      exact q_reti hE hr hlocks hW ((vkx29.w (by decide) (by decide))) dX12_count_136
    by_cases kc1_11 : i1.toInt = 11
    · refine lv_tableIn (off := 136) (tgt := 137) hx hb dX12_count_1 (by rw [kc1_11]; decide) (by rw [kc1_11]; decide) (by rw [kc1_11]; rfl) (by decide) ?_
      have fkc1_11 : q_V 11 11 i1 := q_c kc1_11
      refine lv_aload_n hx hb dX12_count_137 rfl (lv_at hl 0 rfl) ?_
      refine q_geti hE hW h0 rfl q_k12 11 (by decide) rfl (hE.l wl_171) dX12_count_138 (fun kx30 ekx30 vkx30 => ?_)
      exact q_reti hE hr hlocks hW ((vkx30.w (by decide) (by decide))) dX12_count_141
    by_cases kc1_12 : i1.toInt = 12
    · refine lv_tableIn (off := 141) (tgt := 142) hx hb dX12_count_1 (by rw [kc1_12]; decide) (by rw [kc1_12]; decide) (by rw [kc1_12]; rfl) (by decide) ?_
      have fkc1_12 : q_V 12 12 i1 := q_c kc1_12
      refine lv_aload_n hx hb dX12_count_142 rfl (lv_at hl 0 rfl) ?_
      refine q_geti hE hW h0 rfl q_k12 8 (by decide) rfl (hE.l wl_134) dX12_count_143 (fun kx31 ekx31 vkx31 => ?_)
      exact q_reti hE hr hlocks hW ((q_all kx31)) dX12_count_146
    have kc1_13 : i1.toInt = 13 := by omega
    refine lv_tableIn (off := 146) (tgt := 147) hx hb dX12_count_1 (by rw [kc1_13]; decide) (by rw [kc1_13]; decide) (by rw [kc1_13]; rfl) (by decide) ?_
    have fkc1_13 : q_V 13 13 i1 := q_c kc1_13
    refine lv_aload_n hx hb dX12_count_147 rfl (lv_at hl 0 rfl) ?_
    refine q_goi hW (q_runV (As := []) (rest := []) hE hW (c_X12_allWater l G σ a0 h0) kw_X12_371 (q_recv hE hW h0 rfl q_k12) rfl hl.1 rfl (Nat.le_of_ble_eq_true rfl) dX12_count_148 ⟨by decide, by decide⟩ ⟨by decide, by decide⟩) (by decide) (fun kx35 ks33 H locs kp32 kf34 hW => ?_)
    exact q_reti hE hr hlocks hW ((q_all kx35)) dX12_count_151
set_option maxHeartbeats 4000000 in
set_option maxRecDepth 100000 in
theorem c_X12_begin (l : Launch) (G : q_G) (σ : q_S) (a0 : Nat) (h0 : q_T G a0 = 40)  : Met l yX12_begin (Cond.code yX12_begin cX12_begin 2 none :: wsL_law) (q_Rm 1) (q_Pre G σ [.ref a0]) (q_Qv G [40, 46, 55, 63] σ (fun σ1 => True)) 0 0 (q_N G) := by
  refine q_ofW (ts := [40, 46, 55, 63]) (by decide) (Nat.le_of_ble_eq_true rfl) ?_
  intro p e s m args below meth c hE hr hlocks hW ls hl
  have hE : q_E G p s m args c cX12_begin 2 RX12 := hE
  have hx := hE.1.1
  have hb := hE.1.2.1
  have hl : lv_has ls 2 [(0, .ref a0)] := hl
  have lp121a : ∀ (n121a : Nat) (ks2 : q_S) (H : Heap) (locs : List Loc) (kx1 : Int32) (vkx1 : q_V 0 3 kx1) (hW : q_Wd G [40, 46, 55, 63] σ s.heap ks2 H locs) (ls : Array Slot) (hl : lv_has ls 2 [(0, .ref a0), (1, .int kx1)]), (3 - kx1.toInt).toNat < n121a → W p l e (q_Rm 1) s m args below meth c H locs 0 0 (MQ below (q_Qv G [40, 46, 55, 63] σ (fun σ1 => True)) args s 0 0 (q_N G)) (F0 m 121 ls []) := by
    intro n121a
    induction n121a with
    | zero => intro _ _ _ _ _ _ _ _; exact fun h => absurd h (Nat.not_lt_zero _)
    | succ n121a ih121a =>
      intro ks2 H locs kx1 vkx1 hW ls hl hm121a
      refine lv_iload_n hx hb dX12_begin_121 rfl (lv_at hl 1 rfl) ?_
      refine lv_iconst (v := 3) hx hb dX12_begin_122 (by decide) ?_
      refine lv_icmp_ge (tgt := 139) hx hb dX12_begin_123 (by decide) (fun kc3 => ?_) (fun kc3 => ?_)
      · have kv4 : q_V 3 3 kx1 := (q_le2 (q_c (k := 3) (x := 3) (by decide)) vkx1 kc3).w (by decide) (by decide)
        refine lv_aload_n hx hb dX12_begin_139 rfl (lv_at hl 0 rfl) ?_
        refine lv_iconst (v := 0) hx hb dX12_begin_140 (by decide) ?_
        refine q_puti hE hW h0 rfl q_k12 tyX12 tyX12_ok 35 (by decide) rfl (hE.l wl_445) rfl rfl rfl ((q_c (k := 0) (x := 0) (by decide)).w (by decide) (by decide)) (by decide) dX12_begin_141 (fun H locs ks5 kp6 hW => ?_)
        refine lv_aload_n hx hb dX12_begin_144 rfl (lv_at hl 0 rfl) ?_
        refine lv_iconst (v := 0) hx hb dX12_begin_145 (by decide) ?_
        refine q_puti hE hW h0 rfl q_k12 tyX12 tyX12_ok 27 (by decide) rfl (hE.l wl_446) rfl rfl rfl ((q_c (k := 0) (x := 0) (by decide)).w (by decide) (by decide)) (by decide) dX12_begin_146 (fun H locs ks7 kp8 hW => ?_)
        refine lv_aload_n hx hb dX12_begin_149 rfl (lv_at hl 0 rfl) ?_
        refine q_getr hE hW h0 rfl q_k12 30 (by decide) rfl (hE.l wl_144) dX12_begin_150 (fun kb9 ekb9 hkb9a hkb9b => ?_)
        have hkb9 : q_T G kb9 = 55 := q_tag hkb9a hkb9b
        refine lv_iconst (v := 0) hx hb dX12_begin_153 (by decide) ?_
        refine lv_iconst (v := 0) hx hb dX12_begin_154 (by decide) ?_
        refine q_zast hE hW hkb9 rfl (q_in (q_c (k := 0) (x := 0) (by decide)) (by decide) (by decide)) (q_narz ((q_c (k := 0) (x := 0) (by decide)).w (by decide) (by decide))) ((q_c (k := 0) (x := 0) (by decide)).w (by decide) (by decide)) (by decide) dX12_begin_155 (fun H locs ks10 kp11 hW => ?_)
        refine lv_aload_n hx hb dX12_begin_156 rfl (lv_at hl 0 rfl) ?_
        refine q_getr hE hW h0 rfl q_k12 30 (by decide) rfl (hE.l wl_144) dX12_begin_157 (fun kb12 ekb12 hkb12a hkb12b => ?_)
        obtain rfl : kb9 = kb12 := ((kp11.2.2.1 _ _).trans ekb9).symm.trans ekb12
        refine lv_iconst (v := 1) hx hb dX12_begin_160 (by decide) ?_
        refine lv_iconst (v := 0) hx hb dX12_begin_161 (by decide) ?_
        refine q_zast hE hW hkb9 rfl (q_in (q_c (k := 1) (x := 1) (by decide)) (by decide) (by decide)) (q_narz ((q_c (k := 0) (x := 0) (by decide)).w (by decide) (by decide))) ((q_c (k := 0) (x := 0) (by decide)).w (by decide) (by decide)) (by decide) dX12_begin_162 (fun H locs ks13 kp14 hW => ?_)
        exact q_retv hE hr hlocks hW (trivial) dX12_begin_163
      · have kv15 : q_V 0 2 kx1 := (q_lt1 vkx1 (q_c (k := 3) (x := 3) (by decide)) (Int32.not_le.mp kc3)).w (by decide) (by decide)
        refine lv_aload_n hx hb dX12_begin_126 rfl (lv_at hl 0 rfl) ?_
        refine q_getr hE hW h0 rfl q_k12 39 (by decide) rfl (hE.l wl_152) dX12_begin_127 (fun kb16 ekb16 hkb16a hkb16b => ?_)
        have hkb16 : q_T G kb16 = 63 := q_tag hkb16a hkb16b
        refine lv_iload_n hx hb dX12_begin_130 rfl (lv_at hl 1 rfl) ?_
        refine lv_iconst (v := 0) hx hb dX12_begin_131 (by decide) ?_
        refine q_zast hE hW hkb16 rfl (q_in kv15 (by decide) (by decide)) (q_narz ((q_c (k := 0) (x := 0) (by decide)).w (by decide) (by decide))) ((q_c (k := 0) (x := 0) (by decide)).w (by decide) (by decide)) (by decide) dX12_begin_132 (fun H locs ks17 kp18 hW => ?_)
        obtain ⟨kx19, ekx19⟩ : ∃ y : Int32, y = kx1 + 1 := ⟨_, rfl⟩
        have vkx19 : q_V 1 3 kx19 := by rw [ekx19]; exact (q_add kv15 (q_c (k := 1) (x := 1) (by decide)) (by decide) (by decide)).w (by decide) (by decide)
        have ikx19 : kx19.toInt = kx1.toInt + 1 := q_incT ekx19 kv15 (by decide) (by decide) (by decide)
        refine lv_iinc (v := kx19) (lv' := [(1, .int kx19), (0, .ref a0)]) hx hb dX12_begin_133 hl (k := 1) rfl (by rw [ekx19]; rfl) (by decide) rfl (fun ls hl => ?_)
        refine lv_goto (tgt := 121) hx hb dX12_begin_136 (by decide) ?_
        exact ih121a _ _ _ kx19 (vkx19.w (by decide) (by decide)) hW ls (lv_sub hl [1, 0] rfl) (Nat.lt_of_lt_of_le (q_up (ikx19) (show q_V 1 3 kx19 from vkx19).2) (Nat.le_of_lt_succ hm121a))
  have lp87a : ∀ (n87a : Nat) (ks21 : q_S) (H : Heap) (locs : List Loc) (kx20 : Int32) (vkx20 : q_V 0 3 kx20) (hW : q_Wd G [40, 46, 55, 63] σ s.heap ks21 H locs) (ls : Array Slot) (hl : lv_has ls 2 [(0, .ref a0), (1, .int kx20)]), (3 - kx20.toInt).toNat < n87a → W p l e (q_Rm 1) s m args below meth c H locs 0 0 (MQ below (q_Qv G [40, 46, 55, 63] σ (fun σ1 => True)) args s 0 0 (q_N G)) (F0 m 87 ls []) := by
    intro n87a
    induction n87a with
    | zero => intro _ _ _ _ _ _ _ _; exact fun h => absurd h (Nat.not_lt_zero _)
    | succ n87a ih87a =>
      intro ks21 H locs kx20 vkx20 hW ls hl hm87a
      refine lv_iload_n hx hb dX12_begin_87 rfl (lv_at hl 1 rfl) ?_
      refine lv_iconst (v := 3) hx hb dX12_begin_88 (by decide) ?_
      refine lv_icmp_ge (tgt := 108) hx hb dX12_begin_89 (by decide) (fun kc22 => ?_) (fun kc22 => ?_)
      · have kv23 : q_V 3 3 kx20 := (q_le2 (q_c (k := 3) (x := 3) (by decide)) vkx20 kc22).w (by decide) (by decide)
        refine lv_aload_n hx hb dX12_begin_108 rfl (lv_at hl 0 rfl) ?_
        refine q_getr hE hW h0 rfl q_k12 9 (by decide) rfl (hE.l wl_135) dX12_begin_109 (fun kb24 ekb24 hkb24a hkb24b => ?_)
        have hkb24 : q_T G kb24 = 46 := q_tag hkb24a hkb24b
        refine lv_bipush (v := 57) hx hb dX12_begin_112 (by decide) ?_
        refine lv_aload_n hx hb dX12_begin_114 rfl (lv_at hl 0 rfl) ?_
        refine q_geti hE hW h0 rfl q_k12 7 (by decide) rfl (hE.l wl_362) dX12_begin_115 (fun kx25 ekx25 vkx25 => ?_)
        refine q_iast hE hW hkb24 rfl (q_in (q_c (k := 57) (x := 57) (by decide)) (by decide) (by decide)) (fun q_a q_b => q_out (q_c (k := 57) (x := 57) (by decide)) q_a q_b (by decide)) (by decide) dX12_begin_118 (fun H locs ks26 kp27 hW => ?_)
        refine lv_iconst (v := 0) hx hb dX12_begin_119 (by decide) ?_
        refine lv_istore_n (lv' := [(1, .int 0), (0, .ref a0)]) hx hb dX12_begin_120 rfl hl (by decide) rfl (fun ls hl => ?_)
        exact lp121a _ _ _ _ 0 ((q_c (k := 0) (x := 0) (by decide)).w (by decide) (by decide)) hW ls (lv_sub hl [1, 0] rfl) (Nat.lt_succ_self _)
      · have kv28 : q_V 0 2 kx20 := (q_lt1 vkx20 (q_c (k := 3) (x := 3) (by decide)) (Int32.not_le.mp kc22)).w (by decide) (by decide)
        refine lv_aload_n hx hb dX12_begin_92 rfl (lv_at hl 0 rfl) ?_
        refine q_getr hE hW h0 rfl q_k12 9 (by decide) rfl (hE.l wl_135) dX12_begin_93 (fun kb29 ekb29 hkb29a hkb29b => ?_)
        have hkb29 : q_T G kb29 = 46 := q_tag hkb29a hkb29b
        refine lv_bipush (v := 54) hx hb dX12_begin_96 (by decide) ?_
        refine lv_iload_n hx hb dX12_begin_98 rfl (lv_at hl 1 rfl) ?_
        refine lv_iadd hx hb dX12_begin_99 ?_
        refine lv_topi (fun kx30 ekx30 => ?_)
        have vkx30 : q_V 54 56 kx30 := by rw [ekx30]; exact (q_add (q_c (k := 54) (x := 54) (by decide)) kv28 (by decide) (by decide)).w (by decide) (by decide)
        refine lv_iconst (v := (-1)) hx hb dX12_begin_100 (by decide) ?_
        refine q_iast hE hW hkb29 rfl (q_in vkx30 (by decide) (by decide)) (fun _ _ => ((q_c (k := (-1)) (x := (-1)) (by decide)).w (by decide) (by decide))) (by decide) dX12_begin_101 (fun H locs ks31 kp32 hW => ?_)
        obtain ⟨kx33, ekx33⟩ : ∃ y : Int32, y = kx20 + 1 := ⟨_, rfl⟩
        have vkx33 : q_V 1 3 kx33 := by rw [ekx33]; exact (q_add kv28 (q_c (k := 1) (x := 1) (by decide)) (by decide) (by decide)).w (by decide) (by decide)
        have ikx33 : kx33.toInt = kx20.toInt + 1 := q_incT ekx33 kv28 (by decide) (by decide) (by decide)
        refine lv_iinc (v := kx33) (lv' := [(1, .int kx33), (0, .ref a0)]) hx hb dX12_begin_102 hl (k := 1) rfl (by rw [ekx33]; rfl) (by decide) rfl (fun ls hl => ?_)
        refine lv_goto (tgt := 87) hx hb dX12_begin_105 (by decide) ?_
        exact ih87a _ _ _ kx33 (vkx33.w (by decide) (by decide)) hW ls (lv_sub hl [1, 0] rfl) (Nat.lt_of_lt_of_le (q_up (ikx33) (show q_V 1 3 kx33 from vkx33).2) (Nat.le_of_lt_succ hm87a))
  have lp53a : ∀ (n53a : Nat) (ks35 : q_S) (H : Heap) (locs : List Loc) (kx34 : Int32) (vkx34 : q_V 0 53 kx34) (hW : q_Wd G [40, 46, 55, 63] σ s.heap ks35 H locs) (ls : Array Slot) (hl : lv_has ls 2 [(0, .ref a0), (1, .int kx34)]), (53 - kx34.toInt).toNat < n53a → W p l e (q_Rm 1) s m args below meth c H locs 0 0 (MQ below (q_Qv G [40, 46, 55, 63] σ (fun σ1 => True)) args s 0 0 (q_N G)) (F0 m 53 ls []) := by
    intro n53a
    induction n53a with
    | zero => intro _ _ _ _ _ _ _ _; exact fun h => absurd h (Nat.not_lt_zero _)
    | succ n53a ih53a =>
      intro ks35 H locs kx34 vkx34 hW ls hl hm53a
      refine lv_iload_n hx hb dX12_begin_53 rfl (lv_at hl 1 rfl) ?_
      refine lv_bipush (v := 6) hx hb dX12_begin_54 (by decide) ?_
      refine lv_aload_n hx hb dX12_begin_56 rfl (lv_at hl 0 rfl) ?_
      refine q_geti hE hW h0 rfl q_k12 0 (by decide) rfl (hE.l wl_358) dX12_begin_57 (fun kx36 ekx36 vkx36 => ?_)
      refine lv_imul hx hb dX12_begin_60 ?_
      refine lv_topi (fun kx37 ekx37 => ?_)
      have vkx37 : q_V 0 36 kx37 := by rw [ekx37]; exact (q_mul (k := 6) (by decide) vkx36 (by decide) (by decide) (by decide)).w (by decide) (by decide)
      refine lv_icmp_ge (tgt := 85) hx hb dX12_begin_61 (by decide) (fun kc38 => ?_) (fun kc38 => ?_)
      · refine lv_iconst (v := 0) hx hb dX12_begin_85 (by decide) ?_
        refine lv_istore_n (lv' := [(1, .int 0), (0, .ref a0)]) hx hb dX12_begin_86 rfl hl (by decide) rfl (fun ls hl => ?_)
        exact lp87a _ _ _ _ 0 ((q_c (k := 0) (x := 0) (by decide)).w (by decide) (by decide)) hW ls (lv_sub hl [1, 0] rfl) (Nat.lt_succ_self _)
      · have kv39 : q_V 0 35 kx34 := (q_lt1 vkx34 vkx37 (Int32.not_le.mp kc38)).w (by decide) (by decide)
        have kv40 : q_V 1 36 kx37 := (q_lt2 vkx34 vkx37 (Int32.not_le.mp kc38)).w (by decide) (by decide)
        refine lv_aload_n hx hb dX12_begin_64 rfl (lv_at hl 0 rfl) ?_
        refine q_getr hE hW h0 rfl q_k12 9 (by decide) rfl (hE.l wl_135) dX12_begin_65 (fun kb41 ekb41 hkb41a hkb41b => ?_)
        have hkb41 : q_T G kb41 = 46 := q_tag hkb41a hkb41b
        refine lv_bipush (v := 18) hx hb dX12_begin_68 (by decide) ?_
        refine lv_iload_n hx hb dX12_begin_70 rfl (lv_at hl 1 rfl) ?_
        refine lv_iadd hx hb dX12_begin_71 ?_
        refine lv_topi (fun kx42 ekx42 => ?_)
        have vkx42 : q_V 18 53 kx42 := by rw [ekx42]; exact (q_add (q_c (k := 18) (x := 18) (by decide)) kv39 (by decide) (by decide)).w (by decide) (by decide)
        refine lv_aload_n hx hb dX12_begin_72 rfl (lv_at hl 0 rfl) ?_
        refine q_getr hE hW h0 rfl q_k12 4 (by decide) rfl (hE.l wl_132) dX12_begin_73 (fun kb43 ekb43 hkb43a hkb43b => ?_)
        have hkb43 : q_T G kb43 = 44 := q_tag hkb43a hkb43b
        refine lv_iload_n hx hb dX12_begin_76 rfl (lv_at hl 1 rfl) ?_
        refine q_iald hE hW hkb43 rfl (q_in kv39 (by decide) (by decide)) dX12_begin_77 (fun kx44 ekx44 gkx44 => ?_)
        refine q_iast hE hW hkb41 rfl (q_in vkx42 (by decide) (by decide)) (fun q_a q_b => q_out vkx42 q_a q_b (by decide)) (by decide) dX12_begin_78 (fun H locs ks45 kp46 hW => ?_)
        obtain ⟨kx47, ekx47⟩ : ∃ y : Int32, y = kx34 + 1 := ⟨_, rfl⟩
        have vkx47 : q_V 1 36 kx47 := by rw [ekx47]; exact (q_add kv39 (q_c (k := 1) (x := 1) (by decide)) (by decide) (by decide)).w (by decide) (by decide)
        have ikx47 : kx47.toInt = kx34.toInt + 1 := q_incT ekx47 kv39 (by decide) (by decide) (by decide)
        refine lv_iinc (v := kx47) (lv' := [(1, .int kx47), (0, .ref a0)]) hx hb dX12_begin_79 hl (k := 1) rfl (by rw [ekx47]; rfl) (by decide) rfl (fun ls hl => ?_)
        refine lv_goto (tgt := 53) hx hb dX12_begin_82 (by decide) ?_
        exact ih53a _ _ _ kx47 (vkx47.w (by decide) (by decide)) hW ls (lv_sub hl [1, 0] rfl) (Nat.lt_of_lt_of_le (q_up (ikx47) (show q_V 1 53 kx47 from (vkx47.w (by decide) (by decide))).2) (Nat.le_of_lt_succ hm53a))
  have lp23a : ∀ (n23a : Nat) (ks49 : q_S) (H : Heap) (locs : List Loc) (kx48 : Int32) (vkx48 : q_V 0 6 kx48) (hW : q_Wd G [40, 46, 55, 63] σ s.heap ks49 H locs) (ls : Array Slot) (hl : lv_has ls 2 [(0, .ref a0), (1, .int kx48)]), (6 - kx48.toInt).toNat < n23a → W p l e (q_Rm 1) s m args below meth c H locs 0 0 (MQ below (q_Qv G [40, 46, 55, 63] σ (fun σ1 => True)) args s 0 0 (q_N G)) (F0 m 23 ls []) := by
    intro n23a
    induction n23a with
    | zero => intro _ _ _ _ _ _ _ _; exact fun h => absurd h (Nat.not_lt_zero _)
    | succ n23a ih23a =>
      intro ks49 H locs kx48 vkx48 hW ls hl hm23a
      refine lv_iload_n hx hb dX12_begin_23 rfl (lv_at hl 1 rfl) ?_
      refine lv_aload_n hx hb dX12_begin_24 rfl (lv_at hl 0 rfl) ?_
      refine q_geti hE hW h0 rfl q_k12 0 (by decide) rfl (hE.l wl_358) dX12_begin_25 (fun kx50 ekx50 vkx50 => ?_)
      refine lv_icmp_ge (tgt := 51) hx hb dX12_begin_28 (by decide) (fun kc51 => ?_) (fun kc51 => ?_)
      · refine lv_iconst (v := 0) hx hb dX12_begin_51 (by decide) ?_
        refine lv_istore_n (lv' := [(1, .int 0), (0, .ref a0)]) hx hb dX12_begin_52 rfl hl (by decide) rfl (fun ls hl => ?_)
        exact lp53a _ _ _ _ 0 ((q_c (k := 0) (x := 0) (by decide)).w (by decide) (by decide)) hW ls (lv_sub hl [1, 0] rfl) (Nat.lt_succ_self _)
      · have kv52 : q_V 0 5 kx48 := (q_lt1 vkx48 vkx50 (Int32.not_le.mp kc51)).w (by decide) (by decide)
        have kv53 : q_V 1 6 kx50 := (q_lt2 vkx48 vkx50 (Int32.not_le.mp kc51)).w (by decide) (by decide)
        refine lv_aload_n hx hb dX12_begin_31 rfl (lv_at hl 0 rfl) ?_
        refine q_getr hE hW h0 rfl q_k12 9 (by decide) rfl (hE.l wl_135) dX12_begin_32 (fun kb54 ekb54 hkb54a hkb54b => ?_)
        have hkb54 : q_T G kb54 = 46 := q_tag hkb54a hkb54b
        refine lv_iconst (v := 0) hx hb dX12_begin_35 (by decide) ?_
        refine lv_iload_n hx hb dX12_begin_36 rfl (lv_at hl 1 rfl) ?_
        refine lv_iadd hx hb dX12_begin_37 ?_
        refine lv_topi (fun kx55 ekx55 => ?_)
        have vkx55 : q_V 0 5 kx55 := by rw [ekx55]; exact (q_add (q_c (k := 0) (x := 0) (by decide)) kv52 (by decide) (by decide)).w (by decide) (by decide)
        refine lv_aload_n hx hb dX12_begin_38 rfl (lv_at hl 0 rfl) ?_
        refine q_getr hE hW h0 rfl q_k12 2 (by decide) rfl (hE.l wl_130) dX12_begin_39 (fun kb56 ekb56 hkb56a hkb56b => ?_)
        have hkb56 : q_T G kb56 = 42 := q_tag hkb56a hkb56b
        refine lv_iload_n hx hb dX12_begin_42 rfl (lv_at hl 1 rfl) ?_
        refine q_iald hE hW hkb56 rfl (q_in kv52 (by decide) (by decide)) dX12_begin_43 (fun kx57 ekx57 gkx57 => ?_)
        refine q_iast hE hW hkb54 rfl (q_in vkx55 (by decide) (by decide)) (fun q_a q_b => q_out vkx55 q_a q_b (by decide)) (by decide) dX12_begin_44 (fun H locs ks58 kp59 hW => ?_)
        obtain ⟨kx60, ekx60⟩ : ∃ y : Int32, y = kx48 + 1 := ⟨_, rfl⟩
        have vkx60 : q_V 1 6 kx60 := by rw [ekx60]; exact (q_add kv52 (q_c (k := 1) (x := 1) (by decide)) (by decide) (by decide)).w (by decide) (by decide)
        have ikx60 : kx60.toInt = kx48.toInt + 1 := q_incT ekx60 kv52 (by decide) (by decide) (by decide)
        refine lv_iinc (v := kx60) (lv' := [(1, .int kx60), (0, .ref a0)]) hx hb dX12_begin_45 hl (k := 1) rfl (by rw [ekx60]; rfl) (by decide) rfl (fun ls hl => ?_)
        refine lv_goto (tgt := 23) hx hb dX12_begin_48 (by decide) ?_
        exact ih23a _ _ _ kx60 (vkx60.w (by decide) (by decide)) hW ls (lv_sub hl [1, 0] rfl) (Nat.lt_of_lt_of_le (q_up (ikx60) (show q_V 1 6 kx60 from vkx60).2) (Nat.le_of_lt_succ hm23a))
  have lp2a : ∀ (n2a : Nat) (ks62 : q_S) (H : Heap) (locs : List Loc) (kx61 : Int32) (vkx61 : q_V 0 101 kx61) (hW : q_Wd G [40, 46, 55, 63] σ s.heap ks62 H locs) (ls : Array Slot) (hl : lv_has ls 2 [(0, .ref a0), (1, .int kx61)]), (101 - kx61.toInt).toNat < n2a → W p l e (q_Rm 1) s m args below meth c H locs 0 0 (MQ below (q_Qv G [40, 46, 55, 63] σ (fun σ1 => True)) args s 0 0 (q_N G)) (F0 m 2 ls []) := by
    intro n2a
    induction n2a with
    | zero => intro _ _ _ _ _ _ _ _; exact fun h => absurd h (Nat.not_lt_zero _)
    | succ n2a ih2a =>
      intro ks62 H locs kx61 vkx61 hW ls hl hm2a
      refine lv_iload_n hx hb dX12_begin_2 rfl (lv_at hl 1 rfl) ?_
      refine lv_bipush (v := 101) hx hb dX12_begin_3 (by decide) ?_
      refine lv_icmp_ge (tgt := 21) hx hb dX12_begin_5 (by decide) (fun kc63 => ?_) (fun kc63 => ?_)
      · have kv64 : q_V 101 101 kx61 := (q_le2 (q_c (k := 101) (x := 101) (by decide)) vkx61 kc63).w (by decide) (by decide)
        refine lv_iconst (v := 0) hx hb dX12_begin_21 (by decide) ?_
        refine lv_istore_n (lv' := [(1, .int 0), (0, .ref a0)]) hx hb dX12_begin_22 rfl hl (by decide) rfl (fun ls hl => ?_)
        exact lp23a _ _ _ _ 0 ((q_c (k := 0) (x := 0) (by decide)).w (by decide) (by decide)) hW ls (lv_sub hl [1, 0] rfl) (Nat.lt_succ_self _)
      · have kv65 : q_V 0 100 kx61 := (q_lt1 vkx61 (q_c (k := 101) (x := 101) (by decide)) (Int32.not_le.mp kc63)).w (by decide) (by decide)
        refine lv_aload_n hx hb dX12_begin_8 rfl (lv_at hl 0 rfl) ?_
        refine q_getr hE hW h0 rfl q_k12 9 (by decide) rfl (hE.l wl_135) dX12_begin_9 (fun kb66 ekb66 hkb66a hkb66b => ?_)
        have hkb66 : q_T G kb66 = 46 := q_tag hkb66a hkb66b
        refine lv_iload_n hx hb dX12_begin_12 rfl (lv_at hl 1 rfl) ?_
        refine lv_iconst (v := 0) hx hb dX12_begin_13 (by decide) ?_
        refine q_iast hE hW hkb66 rfl (q_in kv65 (by decide) (by decide)) (fun _ _ => ((q_c (k := 0) (x := 0) (by decide)).w (by decide) (by decide))) (by decide) dX12_begin_14 (fun H locs ks67 kp68 hW => ?_)
        obtain ⟨kx69, ekx69⟩ : ∃ y : Int32, y = kx61 + 1 := ⟨_, rfl⟩
        have vkx69 : q_V 1 101 kx69 := by rw [ekx69]; exact (q_add kv65 (q_c (k := 1) (x := 1) (by decide)) (by decide) (by decide)).w (by decide) (by decide)
        have ikx69 : kx69.toInt = kx61.toInt + 1 := q_incT ekx69 kv65 (by decide) (by decide) (by decide)
        refine lv_iinc (v := kx69) (lv' := [(1, .int kx69), (0, .ref a0)]) hx hb dX12_begin_15 hl (k := 1) rfl (by rw [ekx69]; rfl) (by decide) rfl (fun ls hl => ?_)
        refine lv_goto (tgt := 2) hx hb dX12_begin_18 (by decide) ?_
        exact ih2a _ _ _ kx69 (vkx69.w (by decide) (by decide)) hW ls (lv_sub hl [1, 0] rfl) (Nat.lt_of_lt_of_le (q_up (ikx69) (show q_V 1 101 kx69 from vkx69).2) (Nat.le_of_lt_succ hm2a))
  refine lv_iconst (v := 0) hx hb dX12_begin_0 (by decide) ?_
  refine lv_istore_n (lv' := [(1, .int 0), (0, .ref a0)]) hx hb dX12_begin_1 rfl hl (by decide) rfl (fun ls hl => ?_)
  exact lp2a _ _ _ _ 0 ((q_c (k := 0) (x := 0) (by decide)).w (by decide) (by decide)) hW ls (lv_sub hl [1, 0] rfl) (Nat.lt_succ_self _)
