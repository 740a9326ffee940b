theorem kw_X11_261 : q_wS RX11 261 yX11_choices cX11_choices 5 (some .long) 2 := ⟨⟨wl_932, wl_933, wl_2, wl_934⟩, by decide, by decide, by decide +kernel⟩
theorem kw_X11_265 : q_wS RX11 265 yX11_power cX11_power 5 (some .long) 2 := ⟨⟨wl_935, wl_936, wl_2, wl_937⟩, by decide, by decide, by decide +kernel⟩
theorem kw_X11_268 : q_wS RX11 268 yX11_commonDivisor cX11_commonDivisor 11 (some .long) 2 := ⟨⟨wl_938, wl_939, wl_2, wl_940⟩, by decide, by decide, by decide +kernel⟩
theorem kw_X12_340 : q_wS RX12 340 yX12_over cX12_over 5 (some .long) 2 := ⟨⟨wl_948, wl_949, wl_5, wl_950⟩, by decide, by decide, by decide +kernel⟩
theorem kw_X12_344 : q_wS RX12 344 yX12_power cX12_power 6 (some .long) 2 := ⟨⟨wl_951, wl_952, wl_5, wl_953⟩, by decide, by decide, by decide +kernel⟩
theorem kw_X12_348 : q_wS RX12 348 yX12_common cX12_common 10 (some .long) 2 := ⟨⟨wl_954, wl_955, wl_5, wl_956⟩, by decide, by decide, by decide +kernel⟩
set_option maxHeartbeats 4000000 in
set_option maxRecDepth 100000 in
theorem c_X12_over (l : Launch) (G : q_G) (σ : q_S) (i1 : Int32) (w1 : q_V 0 8 i1) (i2 : Int32) (w2 : q_V 0 8 i2)  : Met l yX12_over (Cond.code yX12_over cX12_over 5 (some .long) :: wsL_law) (q_Rm 1) (q_Pre G σ [.int i1, .int i2]) (q_Ql G [] σ (fun r σ1 => r = kch i1 i2 i2.toInt.toNat)) 0 0 (q_N G) := by
  refine q_ofW (ts := []) (by decide) (Nat.le_of_ble_eq_true rfl) ?_
  intro p e s m args below meth c hE hr hlocks hW ls hl
  have hE : q_E G p s m args c cX12_over 5 RX12 := hE
  have hx := hE.1.1
  have hb := hE.1.2.1
  have hl : lv_has ls 5 [(0, .int i1), (1, .int i2)] := hl
  have lp5a : ∀ (n5a : Nat) (ky1 : Int64) (kx2 : Int32) (vkx2 : q_V 1 9 kx2) (iv5a0 : (ky1 : Int64) = kch i1 i2 ((kx2 : Int32).toInt.toNat - 1)) (iv5a1 : (kx2 : Int32).toInt ≤ i2.toInt + 1) (ls : Array Slot) (hl : lv_has ls 5 [(0, .int i1), (1, .int i2), (2, .long ky1), (4, .int kx2)]), (9 - kx2.toInt).toNat < n5a → W p l e (q_Rm 1) s m args below meth c s.heap [] 0 0 (MQ below (q_Ql G [] σ (fun r σ1 => r = kch i1 i2 i2.toInt.toNat)) args s 0 0 (q_N G)) (F0 m 5 ls []) := by
    intro n5a
    induction n5a with
    | zero => intro _ _ _ _ _ _ _; exact fun h => absurd h (Nat.not_lt_zero _)
    | succ n5a ih5a =>
      intro ky1 kx2 vkx2 iv5a0 iv5a1 ls hl hm5a
      refine lv_iload hx hb dX12_over_5 (lv_at hl 3 rfl) ?_
      refine lv_iload_n hx hb dX12_over_7 rfl (lv_at hl 1 rfl) ?_
      refine lv_icmp_gt (tgt := 31) hx hb dX12_over_8 (by decide) (fun kc3 => ?_) (fun kc3 => ?_)
      · refine lv_lload_n hx hb dX12_over_31 rfl (lv_at hl 2 rfl) ?_
        exact q_retl hE hr hlocks hW ((by have := Int32.lt_iff_toInt_lt.mp kc3; have := w2.1; rw [show i2.toInt.toNat = kx2.toInt.toNat - 1 by omega]; exact iv5a0)) dX12_over_32
      · have kv4 : q_V 1 8 kx2 := (q_le1 vkx2 w2 (Int32.not_lt.mp kc3)).w (by decide) (by decide)
        have kv5 : q_V 1 8 i2 := (q_le2 vkx2 w2 (Int32.not_lt.mp kc3)).w (by decide) (by decide)
        refine lv_lload_n hx hb dX12_over_11 rfl (lv_at hl 2 rfl) ?_
        refine lv_iload_n hx hb dX12_over_12 rfl (lv_at hl 0 rfl) ?_
        refine lv_iload_n hx hb dX12_over_13 rfl (lv_at hl 1 rfl) ?_
        refine lv_isub hx hb dX12_over_14 ?_
        refine lv_topi (fun kx6 ekx6 => ?_)
        have vkx6 : q_V (-8) 7 kx6 := by rw [ekx6]; exact (q_sub w1 kv5 (by decide) (by decide)).w (by decide) (by decide)
        refine lv_iload hx hb dX12_over_15 (lv_at hl 3 rfl) ?_
        refine lv_iadd hx hb dX12_over_17 ?_
        refine lv_topi (fun kx7 ekx7 => ?_)
        have vkx7 : q_V (-7) 15 kx7 := by rw [ekx7]; exact (q_add vkx6 kv4 (by decide) (by decide)).w (by decide) (by decide)
        refine lv_i2l (v := kx7.toInt64) hx hb dX12_over_18 rfl ?_
        refine lv_lmul hx hb dX12_over_19 ?_
        refine lv_topl (fun ky8 eky8 => ?_)
        refine lv_iload hx hb dX12_over_20 (lv_at hl 3 rfl) ?_
        refine lv_i2l (v := kx2.toInt64) hx hb dX12_over_22 rfl ?_
        refine lv_ldiv hx hb dX12_over_23 (q_ln0 (q_l kv4) (by decide)) ?_
        refine lv_topl (fun ky9 eky9 => ?_)
        refine lv_lstore_n (lv' := [(2, .long ky9), (0, .int i1), (1, .int i2), (4, .int kx2)]) hx hb dX12_over_24 rfl hl (by decide) rfl (fun ls hl => ?_)
        obtain ⟨kx10, ekx10⟩ : ∃ y : Int32, y = kx2 + 1 := ⟨_, rfl⟩
        have vkx10 : q_V 2 9 kx10 := by rw [ekx10]; exact (q_add kv4 (q_c (k := 1) (x := 1) (by decide)) (by decide) (by decide)).w (by decide) (by decide)
        have ikx10 : kx10.toInt = kx2.toInt + 1 := q_incT ekx10 kv4 (by decide) (by decide) (by decide)
        refine lv_iinc (v := kx10) (lv' := [(4, .int kx10), (2, .long ky9), (0, .int i1), (1, .int i2)]) hx hb dX12_over_25 hl (k := 3) rfl (by rw [ekx10]; rfl) (by decide) rfl (fun ls hl => ?_)
        refine lv_goto (tgt := 5) hx hb dX12_over_28 (by decide) ?_
        exact ih5a ky9 kx10 (vkx10.w (by decide) (by decide)) (by rw [eky9, eky8, ekx7, ekx6]; exact kch_step iv5a0 kv4 (by decide) ikx10) (by have := Int32.le_iff_toInt_le.mp (Int32.not_lt.mp kc3); omega) ls (lv_sub hl [2, 3, 1, 0] rfl) (Nat.lt_of_lt_of_le (q_up (ikx10) (show q_V 2 9 kx10 from vkx10).2) (Nat.le_of_lt_succ hm5a))
  refine lv_lconst (v := 1) hx hb dX12_over_0 (by decide) ?_
  refine lv_lstore_n (lv' := [(2, .long 1), (0, .int i1), (1, .int i2)]) hx hb dX12_over_1 rfl hl (by decide) rfl (fun ls hl => ?_)
  refine lv_iconst (v := 1) hx hb dX12_over_2 (by decide) ?_
  refine lv_istore (lv' := [(4, .int 1), (2, .long 1), (0, .int i1), (1, .int i2)]) hx hb dX12_over_3 hl (by decide) rfl (fun ls hl => ?_)
  exact lp5a _ 1 1 ((q_c (k := 1) (x := 1) (by decide)).w (by decide) (by decide)) (by rfl) (show (1 : Int) ≤ i2.toInt + 1 by have := w2.1; omega) ls (lv_sub hl [2, 3, 1, 0] rfl) (Nat.lt_succ_self _)
set_option maxHeartbeats 4000000 in
set_option maxRecDepth 100000 in
theorem c_X12_power (l : Launch) (G : q_G) (σ : q_S) (j1 : Int64) (i2 : Int32) (w2 : q_V 0 9 i2)  : Met l yX12_power (Cond.code yX12_power cX12_power 6 (some .long) :: wsL_law) (q_Rm 1) (q_Pre G σ [.long j1, .int i2]) (q_Ql G [] σ (fun r σ1 => r = kpw j1 i2.toInt.toNat)) 0 0 (q_N G) := by
  refine q_ofW (ts := []) (by decide) (Nat.le_of_ble_eq_true rfl) ?_
  intro p e s m args below meth c hE hr hlocks hW ls hl
  have hE : q_E G p s m args c cX12_power 6 RX12 := hE
  have hx := hE.1.1
  have hb := hE.1.2.1
  have hl : lv_has ls 6 [(0, .long j1), (2, .int i2)] := hl
  have lp5a : ∀ (n5a : Nat) (ky1 : Int64) (kx2 : Int32) (vkx2 : q_V 0 9 kx2) (iv5a0 : (ky1 : Int64) = kpw j1 (kx2 : Int32).toInt.toNat) (iv5a1 : (kx2 : Int32).toInt ≤ i2.toInt) (ls : Array Slot) (hl : lv_has ls 6 [(0, .long j1), (2, .int i2), (3, .long ky1), (5, .int kx2)]), (9 - kx2.toInt).toNat < n5a → W p l e (q_Rm 1) s m args below meth c s.heap [] 0 0 (MQ below (q_Ql G [] σ (fun r σ1 => r = kpw j1 i2.toInt.toNat)) args s 0 0 (q_N G)) (F0 m 5 ls []) := by
    intro n5a
    induction n5a with
    | zero => intro _ _ _ _ _ _ _; exact fun h => absurd h (Nat.not_lt_zero _)
    | succ n5a ih5a =>
      intro ky1 kx2 vkx2 iv5a0 iv5a1 ls hl hm5a
      refine lv_iload hx hb dX12_power_5 (lv_at hl 3 rfl) ?_
      refine lv_iload_n hx hb dX12_power_7 rfl (lv_at hl 1 rfl) ?_
      refine lv_icmp_ge (tgt := 21) hx hb dX12_power_8 (by decide) (fun kc3 => ?_) (fun kc3 => ?_)
      · refine lv_lload_n hx hb dX12_power_21 rfl (lv_at hl 2 rfl) ?_
        exact q_retl hE hr hlocks hW ((by have := Int32.le_iff_toInt_le.mp kc3; rw [show i2.toInt.toNat = kx2.toInt.toNat by omega]; exact iv5a0)) dX12_power_22
      · have kv4 : q_V 0 8 kx2 := (q_lt1 vkx2 w2 (Int32.not_le.mp kc3)).w (by decide) (by decide)
        have kv5 : q_V 1 9 i2 := (q_lt2 vkx2 w2 (Int32.not_le.mp kc3)).w (by decide) (by decide)
        refine lv_lload_n hx hb dX12_power_11 rfl (lv_at hl 2 rfl) ?_
        refine lv_lload_n hx hb dX12_power_12 rfl (lv_at hl 0 rfl) ?_
        refine lv_lmul hx hb dX12_power_13 ?_
        refine lv_topl (fun ky6 eky6 => ?_)
        refine lv_lstore_n (lv' := [(3, .long ky6), (0, .long j1), (2, .int i2), (5, .int kx2)]) hx hb dX12_power_14 rfl hl (by decide) rfl (fun ls hl => ?_)
        obtain ⟨kx7, ekx7⟩ : ∃ y : Int32, y = kx2 + 1 := ⟨_, rfl⟩
        have vkx7 : q_V 1 9 kx7 := by rw [ekx7]; exact (q_add kv4 (q_c (k := 1) (x := 1) (by decide)) (by decide) (by decide)).w (by decide) (by decide)
        have ikx7 : kx7.toInt = kx2.toInt + 1 := q_incT ekx7 kv4 (by decide) (by decide) (by decide)
        refine lv_iinc (v := kx7) (lv' := [(5, .int kx7), (3, .long ky6), (0, .long j1), (2, .int i2)]) hx hb dX12_power_15 hl (k := 3) rfl (by rw [ekx7]; rfl) (by decide) rfl (fun ls hl => ?_)
        refine lv_goto (tgt := 5) hx hb dX12_power_18 (by decide) ?_
        exact ih5a ky6 kx7 (vkx7.w (by decide) (by decide)) (by rw [eky6]; exact kpw_step iv5a0 kv4 (by decide) ikx7) (by have := Int32.lt_iff_toInt_lt.mp (Int32.not_le.mp kc3); omega) ls (lv_sub hl [2, 3, 1, 0] rfl) (Nat.lt_of_lt_of_le (q_up (ikx7) (show q_V 1 9 kx7 from vkx7).2) (Nat.le_of_lt_succ hm5a))
  refine lv_lconst (v := 1) hx hb dX12_power_0 (by decide) ?_
  refine lv_lstore_n (lv' := [(3, .long 1), (0, .long j1), (2, .int i2)]) hx hb dX12_power_1 rfl hl (by decide) rfl (fun ls hl => ?_)
  refine lv_iconst (v := 0) hx hb dX12_power_2 (by decide) ?_
  refine lv_istore (lv' := [(5, .int 0), (3, .long 1), (0, .long j1), (2, .int i2)]) hx hb dX12_power_3 hl (by decide) rfl (fun ls hl => ?_)
  exact lp5a _ 1 0 ((q_c (k := 0) (x := 0) (by decide)).w (by decide) (by decide)) (by rfl) (show (0 : Int) ≤ i2.toInt by have := w2.1; omega) ls (lv_sub hl [2, 3, 1, 0] rfl) (Nat.lt_succ_self _)
set_option maxHeartbeats 4000000 in
set_option maxRecDepth 100000 in
theorem c_X12_common (l : Launch) (G : q_G) (σ : q_S) (j1 : Int64) (j2 : Int64) (hgd : kgd 100 j1 j2 = true) : Met l yX12_common (Cond.code yX12_common cX12_common 10 (some .long) :: wsL_law) (q_Rm 1) (q_Pre G σ [.long j1, .long j2]) (q_Ql G [] σ (fun r σ1 => r = kgc 100 j1 j2)) 0 0 (q_N G) := by
  refine q_ofW (ts := []) (by decide) (Nat.le_of_ble_eq_true rfl) ?_
  intro p e s m args below meth c hE hr hlocks hW ls hl
  have hE : q_E G p s m args c cX12_common 10 RX12 := hE
  have hx := hE.1.1
  have hb := hE.1.2.1
  have hl : lv_has ls 10 [(0, .long j1), (2, .long j2)] := hl
  have lp6a : ∀ (n6a : Nat) (ky1 : Int64) (ky2 : Int64) (iv6a0 : ∃ q_f, kgc q_f (ky1 : Int64) (ky2 : Int64) = kgc 100 j1 j2 ∧ kgd q_f (ky1 : Int64) (ky2 : Int64) = true) (ls : Array Slot) (hl : lv_has ls 10 [(4, .long ky1), (6, .long ky2)]), (ky2 : Int64).toInt.toNat < n6a → W p l e (q_Rm 1) s m args below meth c s.heap [] 0 0 (MQ below (q_Ql G [] σ (fun r σ1 => r = kgc 100 j1 j2)) args s 0 0 (q_N G)) (F0 m 6 ls []) := by
    intro n6a
    induction n6a with
    | zero => intro _ _ _ _ _; exact fun h => absurd h (Nat.not_lt_zero _)
    | succ n6a ih6a =>
      intro ky1 ky2 iv6a0 ls hl hm6a
      refine lv_lload hx hb dX12_common_6 (lv_at hl 1 rfl) ?_
      refine lv_lconst (v := 0) hx hb dX12_common_8 (by decide) ?_
      refine W.lcmp hx hb dX12_common_9 ?_
      refine lv_topi (fun kx3 ekx3 => ?_)
      refine lv_if_le (tgt := 31) hx hb dX12_common_10 (by decide) (fun kc4 => ?_) (fun kc4 => ?_)
      · have kr5 : (ky2 : Int64) ≤ (0 : Int64) := (lg_cmp_le (ky2 : Int64) (0 : Int64)).mp (by rw [← ekx3]; exact kc4)
        have kv6 : q_V (-2147483648) 0 kx3 := (q_le1 (q_all kx3) (q_c (k := 0) (x := 0) (by decide)) kc4).w (by decide) (by decide)
        refine lv_lload hx hb dX12_common_31 (lv_at hl 0 rfl) ?_
        exact q_retl hE hr hlocks hW ((by obtain ⟨q_f, q_e, q_g⟩ := iv6a0; exact (kgc_stop kr5).symm.trans q_e)) dX12_common_33
      · have kr7 : (0 : Int64) < (ky2 : Int64) := (lg_cmp_gt (ky2 : Int64) (0 : Int64)).mp (by rw [← ekx3]; exact (Int32.not_le.mp kc4))
        have kv8 : q_V 1 2147483647 kx3 := (q_lt2 (q_c (k := 0) (x := 0) (by decide)) (q_all kx3) (Int32.not_le.mp kc4)).w (by decide) (by decide)
        refine lv_lload hx hb dX12_common_13 (lv_at hl 0 rfl) ?_
        refine lv_lload hx hb dX12_common_15 (lv_at hl 1 rfl) ?_
        refine lv_lrem hx hb dX12_common_17 (q_ln1 kr7) ?_
        refine lv_topl (fun ky9 eky9 => ?_)
        refine lv_lstore (lv' := [(8, .long ky9), (4, .long ky1), (6, .long ky2)]) hx hb dX12_common_18 hl (by decide) rfl (fun ls hl => ?_)
        refine lv_lload hx hb dX12_common_20 (lv_at hl 2 rfl) ?_
        refine lv_lstore (lv' := [(4, .long ky2), (8, .long ky9), (6, .long ky2)]) hx hb dX12_common_22 hl (by decide) rfl (fun ls hl => ?_)
        refine lv_lload hx hb dX12_common_24 (lv_at hl 1 rfl) ?_
        refine lv_lstore (lv' := [(6, .long ky9), (4, .long ky2), (8, .long ky9)]) hx hb dX12_common_26 hl (by decide) rfl (fun ls hl => ?_)
        refine lv_goto (tgt := 6) hx hb dX12_common_28 (by decide) ?_
        exact ih6a ky2 ky9 (by obtain ⟨q_f, q_e, q_g⟩ := iv6a0; obtain ⟨q_k, rfl, q_h⟩ := kgd_pos q_g kr7; rw [eky9]; exact ⟨q_k, (kgc_step kr7).symm.trans q_e, q_h⟩) ls (lv_sub hl [1, 0] rfl) (Nat.lt_of_lt_of_le (q_lremN eky9 kr7) (Nat.le_of_lt_succ hm6a))
  refine lv_lload_n hx hb dX12_common_0 rfl (lv_at hl 0 rfl) ?_
  refine lv_lstore (lv' := [(4, .long j1), (0, .long j1), (2, .long j2)]) hx hb dX12_common_1 hl (by decide) rfl (fun ls hl => ?_)
  refine lv_lload_n hx hb dX12_common_3 rfl (lv_at hl 2 rfl) ?_
  refine lv_lstore (lv' := [(6, .long j2), (4, .long j1), (0, .long j1), (2, .long j2)]) hx hb dX12_common_4 hl (by decide) rfl (fun ls hl => ?_)
  exact lp6a _ j1 j2 ⟨100, rfl, hgd⟩ ls (lv_sub hl [1, 0] rfl) (Nat.lt_succ_self _)
set_option maxHeartbeats 4000000 in
set_option maxRecDepth 100000 in
theorem c_X11_lightning (l : Launch) (G : q_G) (σ : q_S) (a0 : Nat) (h0 : q_T G a0 = 26) (i1 : Int32) (i2 : Int32) (i3 : Int32) (i4 : Int32)  : Met l yX11_lightning (Cond.code yX11_lightning cX11_lightning 12 (some .int) :: wsL_law) (q_Rm 3) (q_Pre G σ [.ref a0, .int i1, .int i2, .int i3, .int i4]) (q_Qi G [] σ (fun r σ1 => q_V (-2147483648) 2147483647 r ∧ r = k11 i1 i2 i3 i4)) 0 0 (q_N G) := by
  refine q_ofW (ts := []) (by decide) (Nat.le_of_ble_eq_true rfl) ?_
  intro p e s m args below meth c hE hr hlocks hW ls hl
  have hE : q_E G p s m args c cX11_lightning 12 RX11 := hE
  have hx := hE.1.1
  have hb := hE.1.2.1
  have hl : lv_has ls 12 [(0, .ref a0), (1, .int i1), (2, .int i2), (3, .int i3), (4, .int i4)] := hl
  have lp62a : ∀ (n62a : Nat) (ks7 : q_S) (H : Heap) (locs : List Loc) (kv1 : q_V 0 8 i1) (kv2 : q_V 0 10 i2) (kv3 : q_V 0 9 i3) (kv4 : q_V 0 1 i4) (ky5 : Int64) (kx6 : Int32) (vkx6 : q_V 0 9 kx6) (hW : q_Wd G [] σ s.heap ks7 H locs) (iv62a0 : (ky5 : Int64) = ksm i1 i2 i3 ((kx6 : Int32).toInt - i3.toInt).toNat) (iv62a1 : i3.toInt ≤ (kx6 : Int32).toInt ∧ ((kx6 : Int32).toInt ≤ i1.toInt + 1 ∨ (kx6 : Int32).toInt = i3.toInt)) (ls : Array Slot) (hl : lv_has ls 12 [(1, .int i1), (2, .int i2), (3, .int i3), (4, .int i4), (6, .long ky5), (8, .int kx6)]), (9 - kx6.toInt).toNat < n62a → W p l e (q_Rm 3) s m args below meth c H locs 0 0 (MQ below (q_Qi G [] σ (fun r σ1 => q_V (-2147483648) 2147483647 r ∧ r = k11 i1 i2 i3 i4)) args s 0 0 (q_N G)) (F0 m 62 ls []) := by
    intro n62a
    induction n62a with
    | zero => intro _ _ _ _ _ _ _ _ _ _ _ _ _ _ _; exact fun h => absurd h (Nat.not_lt_zero _)
    | succ n62a ih62a =>
      intro ks7 H locs kv1 kv2 kv3 kv4 ky5 kx6 vkx6 hW iv62a0 iv62a1 ls hl hm62a
      refine lv_iload hx hb dX11_lightning_62 (lv_at hl 5 rfl) ?_
      refine lv_iload_n hx hb dX11_lightning_64 rfl (lv_at hl 0 rfl) ?_
      refine lv_icmp_gt (tgt := 104) hx hb dX11_lightning_65 (by decide) (fun kc8 => ?_) (fun kc8 => ?_)
      · have kv9 : q_V 1 9 kx6 := (q_lt2 kv1 vkx6 kc8).w (by decide) (by decide)
        refine lv_bipush (v := 10) hx hb dX11_lightning_104 (by decide) ?_
        refine lv_iload_n hx hb dX11_lightning_106 rfl (lv_at hl 0 rfl) ?_
        refine q_gol hW (q_runS (As := [.int 10, .int i1]) (rest := []) hE hW (c_X11_power l G ks7 10 i1 (kv1.w (by decide) (by decide))) kw_X11_265 rfl hl.1 rfl (Nat.le_of_ble_eq_true rfl) dX11_lightning_107 ⟨by decide, by decide⟩ ⟨by decide, by decide⟩) (by decide) (fun ky13 ks11 H locs kp10 kf12 hW => ?_)
        refine lv_lstore (lv' := [(8, .long ky13), (1, .int i1), (2, .int i2), (3, .int i3), (4, .int i4), (6, .long ky5)]) hx hb dX11_lightning_110 hl (by decide) rfl (fun ls hl => ?_)
        refine lv_lload hx hb dX11_lightning_112 (lv_at hl 5 rfl) ?_
        refine lv_lload hx hb dX11_lightning_114 (lv_at hl 0 rfl) ?_
        refine q_gol hW (q_runS (As := [.long ky5, .long ky13]) (rest := []) hE hW (c_X11_commonDivisor l G ks11 ky5 ky13) kw_X11_268 rfl hl.1 rfl (Nat.le_of_ble_eq_true rfl) dX11_lightning_116 ⟨by decide, by decide⟩ ⟨by decide, by decide⟩) (by decide) (fun ky17 ks15 H locs kp14 kf16 hW => ?_)
        refine lv_lstore (lv' := [(10, .long ky17), (8, .long ky13), (1, .int i1), (2, .int i2), (3, .int i3), (4, .int i4), (6, .long ky5)]) hx hb dX11_lightning_119 hl (by decide) rfl (fun ls hl => ?_)
        refine lv_lload hx hb dX11_lightning_121 (lv_at hl 0 rfl) ?_
        refine lv_lconst (v := 1) hx hb dX11_lightning_123 (by decide) ?_
        refine W.lcmp hx hb dX11_lightning_124 ?_
        refine lv_topi (fun kx18 ekx18 => ?_)
        refine lv_if_ge (tgt := 130) hx hb dX11_lightning_125 (by decide) (fun kc19 => ?_) (fun kc19 => ?_)
        · have kr20 : (1 : Int64) ≤ (ky17 : Int64) := (lg_cmp_ge (ky17 : Int64) (1 : Int64)).mp (by rw [← ekx18]; exact kc19)
          have kv21 : q_V 0 2147483647 kx18 := (q_le2 (q_c (k := 0) (x := 0) (by decide)) (q_all kx18) kc19).w (by decide) (by decide)
          refine lv_iload hx hb dX11_lightning_130 (lv_at hl 5 rfl) ?_
          refine lv_if_ne (tgt := 140) hx hb dX11_lightning_132 (by decide) (fun kc22 => ?_) (fun kc22 => ?_)
          · have kv23 : q_V 1 1 i4 := q_ne1 kv4 (q_c (k := 0) (x := 0) (by decide)) kc22 (by decide)
            refine lv_lload hx hb dX11_lightning_140 (lv_at hl 1 rfl) ?_
            refine lv_lload hx hb dX11_lightning_142 (lv_at hl 0 rfl) ?_
            refine lv_ldiv hx hb dX11_lightning_144 (q_ln2 kr20) ?_
            refine lv_topl (fun ky24 eky24 => ?_)
            refine t_l2i hx hb dX11_lightning_145 rfl ?_
            refine lv_topi (fun kx25 ekx25 => ?_)
            exact q_reti hE hr hlocks hW (⟨(q_all kx25), (k11_get (k_dm ⟨(kv1.w (by decide) (by decide) : q_V 0 8 i1), (kv2.w (by decide) (by decide) : q_V 0 10 i2), (kv3.w (by decide) (by decide) : q_V 0 9 i3), (kv23.w (by decide) (by decide) : q_V 0 1 i4)⟩) (kal_of iv62a0 iv62a1.1 iv62a1.2 kc8) (k_ways kp10 rfl) kp14 (Or.inr ⟨(q_ne0 kv23 (by decide)), eky24⟩) ekx25)⟩) dX11_lightning_146
          · have kv26 : q_V 0 0 i4 := q_eq1 kv4 (q_c (k := 0) (x := 0) (by decide)) kc22 (by decide) (by decide)
            refine lv_lload hx hb dX11_lightning_135 (lv_at hl 6 rfl) ?_
            refine lv_goto (tgt := 142) hx hb dX11_lightning_137 (by decide) ?_
            refine lv_lload hx hb dX11_lightning_142 (lv_at hl 0 rfl) ?_
            refine lv_ldiv hx hb dX11_lightning_144 (q_ln2 kr20) ?_
            refine lv_topl (fun ky27 eky27 => ?_)
            refine t_l2i hx hb dX11_lightning_145 rfl ?_
            refine lv_topi (fun kx28 ekx28 => ?_)
            exact q_reti hE hr hlocks hW (⟨(q_all kx28), (k11_get (k_dm ⟨(kv1.w (by decide) (by decide) : q_V 0 8 i1), (kv2.w (by decide) (by decide) : q_V 0 10 i2), (kv3.w (by decide) (by decide) : q_V 0 9 i3), (kv26.w (by decide) (by decide) : q_V 0 1 i4)⟩) (kal_of iv62a0 iv62a1.1 iv62a1.2 kc8) (k_ways kp10 rfl) kp14 (Or.inl ⟨(q_lit kv26 (by decide)), eky27⟩) ekx28)⟩) dX11_lightning_146
        · have kr29 : (ky17 : Int64) < (1 : Int64) := (lg_cmp_lt (ky17 : Int64) (1 : Int64)).mp (by rw [← ekx18]; exact (Int32.not_le.mp kc19))
          have kv30 : q_V (-2147483648) (-1) kx18 := (q_lt1 (q_all kx18) (q_c (k := 0) (x := 0) (by decide)) (Int32.not_le.mp kc19)).w (by decide) (by decide)
          refine lv_iconst (v := (-1)) hx hb dX11_lightning_128 (by decide) ?_
          exact q_reti hE hr hlocks hW (⟨((q_c (k := (-1)) (x := (-1)) (by decide)).w (by decide) (by decide)), (k11_low (k_dm ⟨(kv1.w (by decide) (by decide) : q_V 0 8 i1), (kv2.w (by decide) (by decide) : q_V 0 10 i2), (kv3.w (by decide) (by decide) : q_V 0 9 i3), (kv4.w (by decide) (by decide) : q_V 0 1 i4)⟩) (kal_of iv62a0 iv62a1.1 iv62a1.2 kc8) (k_ways kp10 rfl) kp14 kr29)⟩) dX11_lightning_129
      · have kv31 : q_V 0 8 kx6 := (q_le1 vkx6 kv1 (Int32.not_lt.mp kc8)).w (by decide) (by decide)
        refine lv_lload hx hb dX11_lightning_68 (lv_at hl 4 rfl) ?_
        refine lv_iload_n hx hb dX11_lightning_70 rfl (lv_at hl 0 rfl) ?_
        refine lv_iload hx hb dX11_lightning_71 (lv_at hl 5 rfl) ?_
        refine q_gol hW (q_runS (As := [.int i1, .int kx6]) (rest := [.long ky5]) hE hW (c_X11_choices l G ks7 i1 kv1 kx6 kv31) kw_X11_261 rfl hl.1 rfl (Nat.le_of_ble_eq_true rfl) dX11_lightning_73 ⟨by decide, by decide⟩ ⟨by decide, by decide⟩) (by decide) (fun ky35 ks33 H locs kp32 kf34 hW => ?_)
        refine lv_bipush (v := 10) hx hb dX11_lightning_76 (by decide) ?_
        refine lv_iload_n hx hb dX11_lightning_78 rfl (lv_at hl 1 rfl) ?_
        refine lv_isub hx hb dX11_lightning_79 ?_
        refine lv_topi (fun kx36 ekx36 => ?_)
        have vkx36 : q_V 0 10 kx36 := by rw [ekx36]; exact (q_sub (q_c (k := 10) (x := 10) (by decide)) kv2 (by decide) (by decide)).w (by decide) (by decide)
        refine lv_iload hx hb dX11_lightning_80 (lv_at hl 5 rfl) ?_
        refine q_gol hW (q_runS (As := [.int kx36, .int kx6]) (rest := [.long ky35, .long ky5]) hE hW (c_X11_power l G ks33 kx36 kx6 (kv31.w (by decide) (by decide))) kw_X11_265 rfl hl.1 rfl (Nat.le_of_ble_eq_true rfl) dX11_lightning_82 ⟨by decide, by decide⟩ ⟨by decide, by decide⟩) (by decide) (fun ky40 ks38 H locs kp37 kf39 hW => ?_)
        refine lv_lmul hx hb dX11_lightning_85 ?_
        refine lv_topl (fun ky41 eky41 => ?_)
        refine lv_iload_n hx hb dX11_lightning_86 rfl (lv_at hl 1 rfl) ?_
        refine lv_iload_n hx hb dX11_lightning_87 rfl (lv_at hl 0 rfl) ?_
        refine lv_iload hx hb dX11_lightning_88 (lv_at hl 5 rfl) ?_
        refine lv_isub hx hb dX11_lightning_90 ?_
        refine lv_topi (fun kx42 ekx42 => ?_)
        have vkx42 : q_V (-8) 8 kx42 := by rw [ekx42]; exact (q_sub kv1 kv31 (by decide) (by decide)).w (by decide) (by decide)
        have kv43 : q_V 0 9 kx42 := q_sub0 ekx42 kv1 kv31 (Int32.not_lt.mp kc8) (by decide) (by decide) (by decide)
        refine q_gol hW (q_runS (As := [.int i2, .int kx42]) (rest := [.long ky41, .long ky5]) hE hW (c_X11_power l G ks38 i2 kx42 kv43) kw_X11_265 rfl hl.1 rfl (Nat.le_of_ble_eq_true rfl) dX11_lightning_91 ⟨by decide, by decide⟩ ⟨by decide, by decide⟩) (by decide) (fun ky47 ks45 H locs kp44 kf46 hW => ?_)
        refine lv_lmul hx hb dX11_lightning_94 ?_
        refine lv_topl (fun ky48 eky48 => ?_)
        refine lv_ladd hx hb dX11_lightning_95 ?_
        refine lv_topl (fun ky49 eky49 => ?_)
        refine lv_lstore (lv' := [(6, .long ky49), (1, .int i1), (2, .int i2), (3, .int i3), (4, .int i4), (8, .int kx6)]) hx hb dX11_lightning_96 hl (by decide) rfl (fun ls hl => ?_)
        obtain ⟨kx50, ekx50⟩ : ∃ y : Int32, y = kx6 + 1 := ⟨_, rfl⟩
        have vkx50 : q_V 1 9 kx50 := by rw [ekx50]; exact (q_add kv31 (q_c (k := 1) (x := 1) (by decide)) (by decide) (by decide)).w (by decide) (by decide)
        have ikx50 : kx50.toInt = kx6.toInt + 1 := q_incT ekx50 kv31 (by decide) (by decide) (by decide)
        refine lv_iinc (v := kx50) (lv' := [(8, .int kx50), (6, .long ky49), (1, .int i1), (2, .int i2), (3, .int i3), (4, .int i4)]) hx hb dX11_lightning_98 hl (k := 5) rfl (by rw [ekx50]; rfl) (by decide) rfl (fun ls hl => ?_)
        refine lv_goto (tgt := 62) hx hb dX11_lightning_101 (by decide) ?_
        exact ih62a _ _ _ kv1 kv2 kv3 kv4 ky49 kx50 (vkx50.w (by decide) (by decide)) hW (by rw [eky49, eky48, eky41]; exact ksm_step iv62a0 iv62a1.1 kv3.1 ikx50 kp32 kp37 ekx36 kp44 ekx42) ⟨by have := iv62a1.1; omega, Or.inl (by have := Int32.le_iff_toInt_le.mp (Int32.not_lt.mp kc8); omega)⟩ ls (lv_sub hl [2, 3, 4, 5, 1, 0] rfl) (Nat.lt_of_lt_of_le (q_up (ikx50) (show q_V 1 9 kx50 from vkx50).2) (Nat.le_of_lt_succ hm62a))
  refine lv_iload_n hx hb dX11_lightning_0 rfl (lv_at hl 1 rfl) ?_
  refine lv_if_lt (tgt := 34) hx hb dX11_lightning_1 (by decide) (fun kc51 => ?_) (fun kc51 => ?_)
  · have kv52 : q_V (-2147483648) (-1) i1 := (q_lt1 (q_all i1) (q_c (k := 0) (x := 0) (by decide)) kc51).w (by decide) (by decide)
    refine lv_iconst (v := 0) hx hb dX11_lightning_34 (by decide) ?_
    refine lv_istore (lv' := [(5, .int 0), (0, .ref a0), (1, .int i1), (2, .int i2), (3, .int i3), (4, .int i4)]) hx hb dX11_lightning_35 hl (by decide) rfl (fun ls hl => ?_)
    refine lv_iload hx hb dX11_lightning_37 (lv_at hl 0 rfl) ?_
    refine lv_if_eq (tgt := 53) hx hb dX11_lightning_39 (by decide) (fun kc53 => ?_) (fun kc53 => ?_)
    · refine lv_bipush (v := (-3)) hx hb dX11_lightning_53 (by decide) ?_
      exact q_reti hE hr hlocks hW (⟨((q_c (k := (-3)) (x := (-3)) (by decide)).w (by decide) (by decide)), (k11_out (by intro q_d; obtain ⟨⟨_, _⟩, ⟨_, _⟩, ⟨_, _⟩, _, _⟩ := q_d; have := kv52.1; have := kv52.2; omega))⟩) dX11_lightning_55
    · exact q_neq (q_c (k := 0) (x := 0) (by decide)) (q_c (k := 0) (x := 0) (by decide)) kc53
  · have kv54 : q_V 0 2147483647 i1 := (q_le2 (q_c (k := 0) (x := 0) (by decide)) (q_all i1) (Int32.not_lt.mp kc51)).w (by decide) (by decide)
    refine lv_iload_n hx hb dX11_lightning_4 rfl (lv_at hl 1 rfl) ?_
    refine lv_bipush (v := 8) hx hb dX11_lightning_5 (by decide) ?_
    refine lv_icmp_gt (tgt := 34) hx hb dX11_lightning_7 (by decide) (fun kc55 => ?_) (fun kc55 => ?_)
    · have kv56 : q_V 9 2147483647 i1 := (q_lt2 (q_c (k := 8) (x := 8) (by decide)) kv54 kc55).w (by decide) (by decide)
      refine lv_iconst (v := 0) hx hb dX11_lightning_34 (by decide) ?_
      refine lv_istore (lv' := [(5, .int 0), (0, .ref a0), (1, .int i1), (2, .int i2), (3, .int i3), (4, .int i4)]) hx hb dX11_lightning_35 hl (by decide) rfl (fun ls hl => ?_)
      refine lv_iload hx hb dX11_lightning_37 (lv_at hl 0 rfl) ?_
      refine lv_if_eq (tgt := 53) hx hb dX11_lightning_39 (by decide) (fun kc57 => ?_) (fun kc57 => ?_)
      · refine lv_bipush (v := (-3)) hx hb dX11_lightning_53 (by decide) ?_
        exact q_reti hE hr hlocks hW (⟨((q_c (k := (-3)) (x := (-3)) (by decide)).w (by decide) (by decide)), (k11_out (by intro q_d; obtain ⟨⟨_, _⟩, ⟨_, _⟩, ⟨_, _⟩, _, _⟩ := q_d; have := kv56.1; have := kv56.2; omega))⟩) dX11_lightning_55
      · exact q_neq (q_c (k := 0) (x := 0) (by decide)) (q_c (k := 0) (x := 0) (by decide)) kc57
    · have kv58 : q_V 0 8 i1 := (q_le1 kv54 (q_c (k := 8) (x := 8) (by decide)) (Int32.not_lt.mp kc55)).w (by decide) (by decide)
      refine lv_iload_n hx hb dX11_lightning_10 rfl (lv_at hl 2 rfl) ?_
      refine lv_if_lt (tgt := 34) hx hb dX11_lightning_11 (by decide) (fun kc59 => ?_) (fun kc59 => ?_)
      · have kv60 : q_V (-2147483648) (-1) i2 := (q_lt1 (q_all i2) (q_c (k := 0) (x := 0) (by decide)) kc59).w (by decide) (by decide)
        refine lv_iconst (v := 0) hx hb dX11_lightning_34 (by decide) ?_
        refine lv_istore (lv' := [(5, .int 0), (0, .ref a0), (1, .int i1), (2, .int i2), (3, .int i3), (4, .int i4)]) hx hb dX11_lightning_35 hl (by decide) rfl (fun ls hl => ?_)
        refine lv_iload hx hb dX11_lightning_37 (lv_at hl 0 rfl) ?_
        refine lv_if_eq (tgt := 53) hx hb dX11_lightning_39 (by decide) (fun kc61 => ?_) (fun kc61 => ?_)
        · refine lv_bipush (v := (-3)) hx hb dX11_lightning_53 (by decide) ?_
          exact q_reti hE hr hlocks hW (⟨((q_c (k := (-3)) (x := (-3)) (by decide)).w (by decide) (by decide)), (k11_out (by intro q_d; obtain ⟨⟨_, _⟩, ⟨_, _⟩, ⟨_, _⟩, _, _⟩ := q_d; have := kv58.1; have := kv58.2; have := kv60.1; have := kv60.2; omega))⟩) dX11_lightning_55
        · exact q_neq (q_c (k := 0) (x := 0) (by decide)) (q_c (k := 0) (x := 0) (by decide)) kc61
      · have kv62 : q_V 0 2147483647 i2 := (q_le2 (q_c (k := 0) (x := 0) (by decide)) (q_all i2) (Int32.not_lt.mp kc59)).w (by decide) (by decide)
        refine lv_iload_n hx hb dX11_lightning_14 rfl (lv_at hl 2 rfl) ?_
        refine lv_bipush (v := 10) hx hb dX11_lightning_15 (by decide) ?_
        refine lv_icmp_gt (tgt := 34) hx hb dX11_lightning_17 (by decide) (fun kc63 => ?_) (fun kc63 => ?_)
        · have kv64 : q_V 11 2147483647 i2 := (q_lt2 (q_c (k := 10) (x := 10) (by decide)) kv62 kc63).w (by decide) (by decide)
          refine lv_iconst (v := 0) hx hb dX11_lightning_34 (by decide) ?_
          refine lv_istore (lv' := [(5, .int 0), (0, .ref a0), (1, .int i1), (2, .int i2), (3, .int i3), (4, .int i4)]) hx hb dX11_lightning_35 hl (by decide) rfl (fun ls hl => ?_)
          refine lv_iload hx hb dX11_lightning_37 (lv_at hl 0 rfl) ?_
          refine lv_if_eq (tgt := 53) hx hb dX11_lightning_39 (by decide) (fun kc65 => ?_) (fun kc65 => ?_)
          · refine lv_bipush (v := (-3)) hx hb dX11_lightning_53 (by decide) ?_
            exact q_reti hE hr hlocks hW (⟨((q_c (k := (-3)) (x := (-3)) (by decide)).w (by decide) (by decide)), (k11_out (by intro q_d; obtain ⟨⟨_, _⟩, ⟨_, _⟩, ⟨_, _⟩, _, _⟩ := q_d; have := kv58.1; have := kv58.2; have := kv64.1; have := kv64.2; omega))⟩) dX11_lightning_55
          · exact q_neq (q_c (k := 0) (x := 0) (by decide)) (q_c (k := 0) (x := 0) (by decide)) kc65
        · have kv66 : q_V 0 10 i2 := (q_le1 kv62 (q_c (k := 10) (x := 10) (by decide)) (Int32.not_lt.mp kc63)).w (by decide) (by decide)
          refine lv_iload_n hx hb dX11_lightning_20 rfl (lv_at hl 3 rfl) ?_
          refine lv_if_lt (tgt := 34) hx hb dX11_lightning_21 (by decide) (fun kc67 => ?_) (fun kc67 => ?_)
          · have kv68 : q_V (-2147483648) (-1) i3 := (q_lt1 (q_all i3) (q_c (k := 0) (x := 0) (by decide)) kc67).w (by decide) (by decide)
            refine lv_iconst (v := 0) hx hb dX11_lightning_34 (by decide) ?_
            refine lv_istore (lv' := [(5, .int 0), (0, .ref a0), (1, .int i1), (2, .int i2), (3, .int i3), (4, .int i4)]) hx hb dX11_lightning_35 hl (by decide) rfl (fun ls hl => ?_)
            refine lv_iload hx hb dX11_lightning_37 (lv_at hl 0 rfl) ?_
            refine lv_if_eq (tgt := 53) hx hb dX11_lightning_39 (by decide) (fun kc69 => ?_) (fun kc69 => ?_)
            · refine lv_bipush (v := (-3)) hx hb dX11_lightning_53 (by decide) ?_
              exact q_reti hE hr hlocks hW (⟨((q_c (k := (-3)) (x := (-3)) (by decide)).w (by decide) (by decide)), (k11_out (by intro q_d; obtain ⟨⟨_, _⟩, ⟨_, _⟩, ⟨_, _⟩, _, _⟩ := q_d; have := kv58.1; have := kv58.2; have := kv66.1; have := kv66.2; have := kv68.1; have := kv68.2; omega))⟩) dX11_lightning_55
            · exact q_neq (q_c (k := 0) (x := 0) (by decide)) (q_c (k := 0) (x := 0) (by decide)) kc69
          · have kv70 : q_V 0 2147483647 i3 := (q_le2 (q_c (k := 0) (x := 0) (by decide)) (q_all i3) (Int32.not_lt.mp kc67)).w (by decide) (by decide)
            refine lv_iload_n hx hb dX11_lightning_24 rfl (lv_at hl 3 rfl) ?_
            refine lv_bipush (v := 9) hx hb dX11_lightning_25 (by decide) ?_
            refine lv_icmp_gt (tgt := 34) hx hb dX11_lightning_27 (by decide) (fun kc71 => ?_) (fun kc71 => ?_)
            · have kv72 : q_V 10 2147483647 i3 := (q_lt2 (q_c (k := 9) (x := 9) (by decide)) kv70 kc71).w (by decide) (by decide)
              refine lv_iconst (v := 0) hx hb dX11_lightning_34 (by decide) ?_
              refine lv_istore (lv' := [(5, .int 0), (0, .ref a0), (1, .int i1), (2, .int i2), (3, .int i3), (4, .int i4)]) hx hb dX11_lightning_35 hl (by decide) rfl (fun ls hl => ?_)
              refine lv_iload hx hb dX11_lightning_37 (lv_at hl 0 rfl) ?_
              refine lv_if_eq (tgt := 53) hx hb dX11_lightning_39 (by decide) (fun kc73 => ?_) (fun kc73 => ?_)
              · refine lv_bipush (v := (-3)) hx hb dX11_lightning_53 (by decide) ?_
                exact q_reti hE hr hlocks hW (⟨((q_c (k := (-3)) (x := (-3)) (by decide)).w (by decide) (by decide)), (k11_out (by intro q_d; obtain ⟨⟨_, _⟩, ⟨_, _⟩, ⟨_, _⟩, _, _⟩ := q_d; have := kv58.1; have := kv58.2; have := kv66.1; have := kv66.2; have := kv72.1; have := kv72.2; omega))⟩) dX11_lightning_55
              · exact q_neq (q_c (k := 0) (x := 0) (by decide)) (q_c (k := 0) (x := 0) (by decide)) kc73
            · have kv74 : q_V 0 9 i3 := (q_le1 kv70 (q_c (k := 9) (x := 9) (by decide)) (Int32.not_lt.mp kc71)).w (by decide) (by decide)
              refine lv_iconst (v := 1) hx hb dX11_lightning_30 (by decide) ?_
              refine lv_goto (tgt := 35) hx hb dX11_lightning_31 (by decide) ?_
              refine lv_istore (lv' := [(5, .int 1), (0, .ref a0), (1, .int i1), (2, .int i2), (3, .int i3), (4, .int i4)]) hx hb dX11_lightning_35 hl (by decide) rfl (fun ls hl => ?_)
              refine lv_iload hx hb dX11_lightning_37 (lv_at hl 0 rfl) ?_
              refine lv_if_eq (tgt := 53) hx hb dX11_lightning_39 (by decide) (fun kc75 => ?_) (fun kc75 => ?_)
              · have kv76 : q_V 1 0 1 := q_eq1 (q_c (k := 1) (x := 1) (by decide)) (q_c (k := 0) (x := 0) (by decide)) kc75 (by decide) (by decide)
                exact (kv76.no (by decide))
              · refine lv_iload hx hb dX11_lightning_42 (lv_at hl 5 rfl) ?_
                refine lv_if_lt (tgt := 53) hx hb dX11_lightning_44 (by decide) (fun kc77 => ?_) (fun kc77 => ?_)
                · have kv78 : q_V (-2147483648) (-1) i4 := (q_lt1 (q_all i4) (q_c (k := 0) (x := 0) (by decide)) kc77).w (by decide) (by decide)
                  refine lv_bipush (v := (-3)) hx hb dX11_lightning_53 (by decide) ?_
                  exact q_reti hE hr hlocks hW (⟨((q_c (k := (-3)) (x := (-3)) (by decide)).w (by decide) (by decide)), (k11_out (by intro q_d; obtain ⟨⟨_, _⟩, ⟨_, _⟩, ⟨_, _⟩, _, _⟩ := q_d; have := kv58.1; have := kv58.2; have := kv66.1; have := kv66.2; have := kv74.1; have := kv74.2; have := kv78.1; have := kv78.2; omega))⟩) dX11_lightning_55
                · have kv79 : q_V 0 2147483647 i4 := (q_le2 (q_c (k := 0) (x := 0) (by decide)) (q_all i4) (Int32.not_lt.mp kc77)).w (by decide) (by decide)
                  refine lv_iload hx hb dX11_lightning_47 (lv_at hl 5 rfl) ?_
                  refine lv_iconst (v := 1) hx hb dX11_lightning_49 (by decide) ?_
                  refine lv_icmp_le (tgt := 56) hx hb dX11_lightning_50 (by decide) (fun kc80 => ?_) (fun kc80 => ?_)
                  · have kv81 : q_V 0 1 i4 := (q_le1 kv79 (q_c (k := 1) (x := 1) (by decide)) kc80).w (by decide) (by decide)
                    refine lv_lconst (v := 0) hx hb dX11_lightning_56 (by decide) ?_
                    refine lv_lstore (lv' := [(6, .long 0), (5, .int 1), (0, .ref a0), (1, .int i1), (2, .int i2), (3, .int i3), (4, .int i4)]) hx hb dX11_lightning_57 hl (by decide) rfl (fun ls hl => ?_)
                    refine lv_iload_n hx hb dX11_lightning_59 rfl (lv_at hl 5 rfl) ?_
                    refine lv_istore (lv' := [(8, .int i3), (6, .long 0), (5, .int 1), (0, .ref a0), (1, .int i1), (2, .int i2), (3, .int i3), (4, .int i4)]) hx hb dX11_lightning_60 hl (by decide) rfl (fun ls hl => ?_)
                    exact lp62a _ _ _ _ kv58 kv66 kv74 kv81 0 i3 kv74 hW (by rw [Int.sub_self]; rfl) ⟨Int.le_refl _, Or.inr rfl⟩ ls (lv_sub hl [4, 5, 6, 7, 1, 0] rfl) (Nat.lt_succ_self _)
                  · have kv82 : q_V 2 2147483647 i4 := (q_lt2 (q_c (k := 1) (x := 1) (by decide)) kv79 (Int32.not_le.mp kc80)).w (by decide) (by decide)
                    refine lv_bipush (v := (-3)) hx hb dX11_lightning_53 (by decide) ?_
                    exact q_reti hE hr hlocks hW (⟨((q_c (k := (-3)) (x := (-3)) (by decide)).w (by decide) (by decide)), (k11_out (by intro q_d; obtain ⟨⟨_, _⟩, ⟨_, _⟩, ⟨_, _⟩, _, _⟩ := q_d; have := kv58.1; have := kv58.2; have := kv66.1; have := kv66.2; have := kv74.1; have := kv74.2; have := kv82.1; have := kv82.2; omega))⟩) dX11_lightning_55
set_option maxHeartbeats 4000000 in
set_option maxRecDepth 100000 in
theorem c_X12_lightning (l : Launch) (G : q_G) (σ : q_S) (a0 : Nat) (h0 : q_T G a0 = 40) (i1 : Int32) (i2 : Int32) (i3 : Int32) (i4 : Int32)  : Met l yX12_lightning (Cond.code yX12_lightning cX12_lightning 11 (some .int) :: wsL_law) (q_Rm 3) (q_Pre G σ [.ref a0, .int i1, .int i2, .int i3, .int i4]) (q_Qi G [] σ (fun r σ1 => q_V (-2147483648) 2147483647 r ∧ r = k12 i1 i2 i3 i4)) 0 0 (q_N G) := by
  refine q_ofW (ts := []) (by decide) (Nat.le_of_ble_eq_true rfl) ?_
  intro p e s m args below meth c hE hr hlocks hW ls hl
  have hE : q_E G p s m args c cX12_lightning 11 RX12 := hE
  have hx := hE.1.1
  have hb := hE.1.2.1
  have hl : lv_has ls 11 [(0, .ref a0), (1, .int i1), (2, .int i2), (3, .int i3), (4, .int i4)] := hl
  have lp56a : ∀ (n56a : Nat) (ks7 : q_S) (H : Heap) (locs : List Loc) (kv1 : q_V 0 8 i1) (kv2 : q_V 0 10 i2) (kv3 : q_V 0 9 i3) (kv4 : q_V 0 1 i4) (ky5 : Int64) (kx6 : Int32) (vkx6 : q_V 0 9 kx6) (hW : q_Wd G [] σ s.heap ks7 H locs) (iv56a0 : (ky5 : Int64) = ksm i1 i2 i3 ((kx6 : Int32).toInt - i3.toInt).toNat) (iv56a1 : i3.toInt ≤ (kx6 : Int32).toInt ∧ ((kx6 : Int32).toInt ≤ i1.toInt + 1 ∨ (kx6 : Int32).toInt = i3.toInt)) (ls : Array Slot) (hl : lv_has ls 11 [(1, .int i1), (2, .int i2), (3, .int i3), (4, .int i4), (5, .long ky5), (7, .int kx6)]), (9 - kx6.toInt).toNat < n56a → W p l e (q_Rm 3) s m args below meth c H locs 0 0 (MQ below (q_Qi G [] σ (fun r σ1 => q_V (-2147483648) 2147483647 r ∧ r = k12 i1 i2 i3 i4)) args s 0 0 (q_N G)) (F0 m 56 ls []) := by
    intro n56a
    induction n56a with
    | zero => intro _ _ _ _ _ _ _ _ _ _ _ _ _ _ _; exact fun h => absurd h (Nat.not_lt_zero _)
    | succ n56a ih56a =>
      intro ks7 H locs kv1 kv2 kv3 kv4 ky5 kx6 vkx6 hW iv56a0 iv56a1 ls hl hm56a
      refine lv_iload hx hb dX12_lightning_56 (lv_at hl 5 rfl) ?_
      refine lv_iload_n hx hb dX12_lightning_58 rfl (lv_at hl 0 rfl) ?_
      refine lv_icmp_gt (tgt := 100) hx hb dX12_lightning_59 (by decide) (fun kc8 => ?_) (fun kc8 => ?_)
      · have kv9 : q_V 1 9 kx6 := (q_lt2 kv1 vkx6 kc8).w (by decide) (by decide)
        refine lv_ldc2 (v := 10) hx hb hE.1.2.2.2.1 (hE.w wl_946) dX12_lightning_100 ?_
        refine lv_iload_n hx hb dX12_lightning_103 rfl (lv_at hl 0 rfl) ?_
        refine q_gol hW (q_runS (As := [.long 10, .int i1]) (rest := []) hE hW (c_X12_power l G ks7 10 i1 (kv1.w (by decide) (by decide))) kw_X12_344 rfl hl.1 rfl (Nat.le_of_ble_eq_true rfl) dX12_lightning_104 ⟨by decide, by decide⟩ ⟨by decide, by decide⟩) (by decide) (fun ky13 ks11 H locs kp10 kf12 hW => ?_)
        refine lv_lstore (lv' := [(7, .long ky13), (1, .int i1), (2, .int i2), (3, .int i3), (4, .int i4), (5, .long ky5)]) hx hb dX12_lightning_107 hl (by decide) rfl (fun ls hl => ?_)
        refine lv_lload hx hb dX12_lightning_109 (lv_at hl 0 rfl) ?_
        refine lv_lload hx hb dX12_lightning_111 (lv_at hl 5 rfl) ?_
        refine q_gol hW (q_runS (As := [.long ky13, .long ky5]) (rest := []) hE hW (c_X12_common l G ks11 ky13 ky5 (k12_gd (k_dm ⟨(kv1.w (by decide) (by decide) : q_V 0 8 i1), (kv2.w (by decide) (by decide) : q_V 0 10 i2), (kv3.w (by decide) (by decide) : q_V 0 9 i3), (kv4.w (by decide) (by decide) : q_V 0 1 i4)⟩) (kal_of iv56a0 iv56a1.1 iv56a1.2 kc8) kp10)) kw_X12_348 rfl hl.1 rfl (Nat.le_of_ble_eq_true rfl) dX12_lightning_113 ⟨by decide, by decide⟩ ⟨by decide, by decide⟩) (by decide) (fun ky17 ks15 H locs kp14 kf16 hW => ?_)
        refine lv_lstore (lv' := [(9, .long ky17), (7, .long ky13), (1, .int i1), (2, .int i2), (3, .int i3), (4, .int i4), (5, .long ky5)]) hx hb dX12_lightning_116 hl (by decide) rfl (fun ls hl => ?_)
        refine lv_iload hx hb dX12_lightning_118 (lv_at hl 5 rfl) ?_
        refine lv_if_ne (tgt := 131) hx hb dX12_lightning_120 (by decide) (fun kc18 => ?_) (fun kc18 => ?_)
        · have kv19 : q_V 1 1 i4 := q_ne1 kv4 (q_c (k := 0) (x := 0) (by decide)) kc18 (by decide)
          refine lv_lload hx hb dX12_lightning_131 (lv_at hl 1 rfl) ?_
          refine lv_lload hx hb dX12_lightning_133 (lv_at hl 0 rfl) ?_
          refine lv_ldiv hx hb dX12_lightning_135 (k12_ne (k_dm ⟨(kv1.w (by decide) (by decide) : q_V 0 8 i1), (kv2.w (by decide) (by decide) : q_V 0 10 i2), (kv3.w (by decide) (by decide) : q_V 0 9 i3), (kv19.w (by decide) (by decide) : q_V 0 1 i4)⟩) (kal_of iv56a0 iv56a1.1 iv56a1.2 kc8) kp10 kp14) ?_
          refine lv_topl (fun ky20 eky20 => ?_)
          refine t_l2i hx hb dX12_lightning_136 rfl ?_
          refine lv_topi (fun kx21 ekx21 => ?_)
          exact q_reti hE hr hlocks hW (⟨(q_all kx21), (k12_get (k_dm ⟨(kv1.w (by decide) (by decide) : q_V 0 8 i1), (kv2.w (by decide) (by decide) : q_V 0 10 i2), (kv3.w (by decide) (by decide) : q_V 0 9 i3), (kv19.w (by decide) (by decide) : q_V 0 1 i4)⟩) (kal_of iv56a0 iv56a1.1 iv56a1.2 kc8) kp10 kp14 (Or.inr ⟨(q_ne0 kv19 (by decide)), eky20⟩) ekx21)⟩) dX12_lightning_137
        · have kv22 : q_V 0 0 i4 := q_eq1 kv4 (q_c (k := 0) (x := 0) (by decide)) kc18 (by decide) (by decide)
          refine lv_lload hx hb dX12_lightning_123 (lv_at hl 6 rfl) ?_
          refine lv_lload hx hb dX12_lightning_125 (lv_at hl 0 rfl) ?_
          refine lv_ldiv hx hb dX12_lightning_127 (k12_ne (k_dm ⟨(kv1.w (by decide) (by decide) : q_V 0 8 i1), (kv2.w (by decide) (by decide) : q_V 0 10 i2), (kv3.w (by decide) (by decide) : q_V 0 9 i3), (kv22.w (by decide) (by decide) : q_V 0 1 i4)⟩) (kal_of iv56a0 iv56a1.1 iv56a1.2 kc8) kp10 kp14) ?_
          refine lv_topl (fun ky23 eky23 => ?_)
          refine lv_goto (tgt := 136) hx hb dX12_lightning_128 (by decide) ?_
          refine t_l2i hx hb dX12_lightning_136 rfl ?_
          refine lv_topi (fun kx24 ekx24 => ?_)
          exact q_reti hE hr hlocks hW (⟨(q_all kx24), (k12_get (k_dm ⟨(kv1.w (by decide) (by decide) : q_V 0 8 i1), (kv2.w (by decide) (by decide) : q_V 0 10 i2), (kv3.w (by decide) (by decide) : q_V 0 9 i3), (kv22.w (by decide) (by decide) : q_V 0 1 i4)⟩) (kal_of iv56a0 iv56a1.1 iv56a1.2 kc8) kp10 kp14 (Or.inl ⟨(q_lit kv22 (by decide)), eky23⟩) ekx24)⟩) dX12_lightning_137
      · have kv25 : q_V 0 8 kx6 := (q_le1 vkx6 kv1 (Int32.not_lt.mp kc8)).w (by decide) (by decide)
        refine lv_lload hx hb dX12_lightning_62 (lv_at hl 4 rfl) ?_
        refine lv_iload_n hx hb dX12_lightning_64 rfl (lv_at hl 0 rfl) ?_
        refine lv_iload hx hb dX12_lightning_65 (lv_at hl 5 rfl) ?_
        refine q_gol hW (q_runS (As := [.int i1, .int kx6]) (rest := [.long ky5]) hE hW (c_X12_over l G ks7 i1 kv1 kx6 kv25) kw_X12_340 rfl hl.1 rfl (Nat.le_of_ble_eq_true rfl) dX12_lightning_67 ⟨by decide, by decide⟩ ⟨by decide, by decide⟩) (by decide) (fun ky29 ks27 H locs kp26 kf28 hW => ?_)
        refine lv_bipush (v := 10) hx hb dX12_lightning_70 (by decide) ?_
        refine lv_iload_n hx hb dX12_lightning_72 rfl (lv_at hl 1 rfl) ?_
        refine lv_isub hx hb dX12_lightning_73 ?_
        refine lv_topi (fun kx30 ekx30 => ?_)
        have vkx30 : q_V 0 10 kx30 := by rw [ekx30]; exact (q_sub (q_c (k := 10) (x := 10) (by decide)) kv2 (by decide) (by decide)).w (by decide) (by decide)
        refine lv_i2l (v := kx30.toInt64) hx hb dX12_lightning_74 rfl ?_
        refine lv_iload hx hb dX12_lightning_75 (lv_at hl 5 rfl) ?_
        refine q_gol hW (q_runS (As := [.long (kx30).toInt64, .int kx6]) (rest := [.long ky29, .long ky5]) hE hW (c_X12_power l G ks27 ((kx30).toInt64) kx6 (kv25.w (by decide) (by decide))) kw_X12_344 rfl hl.1 rfl (Nat.le_of_ble_eq_true rfl) dX12_lightning_77 ⟨by decide, by decide⟩ ⟨by decide, by decide⟩) (by decide) (fun ky34 ks32 H locs kp31 kf33 hW => ?_)
        refine lv_lmul hx hb dX12_lightning_80 ?_
        refine lv_topl (fun ky35 eky35 => ?_)
        refine lv_iload_n hx hb dX12_lightning_81 rfl (lv_at hl 1 rfl) ?_
        refine lv_i2l (v := i2.toInt64) hx hb dX12_lightning_82 rfl ?_
        refine lv_iload_n hx hb dX12_lightning_83 rfl (lv_at hl 0 rfl) ?_
        refine lv_iload hx hb dX12_lightning_84 (lv_at hl 5 rfl) ?_
        refine lv_isub hx hb dX12_lightning_86 ?_
        refine lv_topi (fun kx36 ekx36 => ?_)
        have vkx36 : q_V (-8) 8 kx36 := by rw [ekx36]; exact (q_sub kv1 kv25 (by decide) (by decide)).w (by decide) (by decide)
        have kv37 : q_V 0 9 kx36 := q_sub0 ekx36 kv1 kv25 (Int32.not_lt.mp kc8) (by decide) (by decide) (by decide)
        refine q_gol hW (q_runS (As := [.long (i2).toInt64, .int kx36]) (rest := [.long ky35, .long ky5]) hE hW (c_X12_power l G ks32 ((i2).toInt64) kx36 kv37) kw_X12_344 rfl hl.1 rfl (Nat.le_of_ble_eq_true rfl) dX12_lightning_87 ⟨by decide, by decide⟩ ⟨by decide, by decide⟩) (by decide) (fun ky41 ks39 H locs kp38 kf40 hW => ?_)
        refine lv_lmul hx hb dX12_lightning_90 ?_
        refine lv_topl (fun ky42 eky42 => ?_)
        refine lv_ladd hx hb dX12_lightning_91 ?_
        refine lv_topl (fun ky43 eky43 => ?_)
        refine lv_lstore (lv' := [(5, .long ky43), (1, .int i1), (2, .int i2), (3, .int i3), (4, .int i4), (7, .int kx6)]) hx hb dX12_lightning_92 hl (by decide) rfl (fun ls hl => ?_)
        obtain ⟨kx44, ekx44⟩ : ∃ y : Int32, y = kx6 + 1 := ⟨_, rfl⟩
        have vkx44 : q_V 1 9 kx44 := by rw [ekx44]; exact (q_add kv25 (q_c (k := 1) (x := 1) (by decide)) (by decide) (by decide)).w (by decide) (by decide)
        have ikx44 : kx44.toInt = kx6.toInt + 1 := q_incT ekx44 kv25 (by decide) (by decide) (by decide)
        refine lv_iinc (v := kx44) (lv' := [(7, .int kx44), (5, .long ky43), (1, .int i1), (2, .int i2), (3, .int i3), (4, .int i4)]) hx hb dX12_lightning_94 hl (k := 5) rfl (by rw [ekx44]; rfl) (by decide) rfl (fun ls hl => ?_)
        refine lv_goto (tgt := 56) hx hb dX12_lightning_97 (by decide) ?_
        exact ih56a _ _ _ kv1 kv2 kv3 kv4 ky43 kx44 (vkx44.w (by decide) (by decide)) hW (by rw [eky43, eky42, eky35]; exact ksm_step iv56a0 iv56a1.1 kv3.1 ikx44 kp26 kp31 ekx30 kp38 ekx36) ⟨by have := iv56a1.1; omega, Or.inl (by have := Int32.le_iff_toInt_le.mp (Int32.not_lt.mp kc8); omega)⟩ ls (lv_sub hl [2, 3, 4, 5, 1, 0] rfl) (Nat.lt_of_lt_of_le (q_up (ikx44) (show q_V 1 9 kx44 from vkx44).2) (Nat.le_of_lt_succ hm56a))
  refine lv_iload_n hx hb dX12_lightning_0 rfl (lv_at hl 1 rfl) ?_
  refine lv_i2l (v := i1.toInt64) hx hb dX12_lightning_1 rfl ?_
  refine lv_lconst (v := 0) hx hb dX12_lightning_2 (by decide) ?_
  refine lv_ldc2 (v := 8) hx hb hE.1.2.2.2.1 (hE.w wl_945) dX12_lightning_3 ?_
  refine q_goi hW (q_runS (As := [.long (i1).toInt64, .long 0, .long 8]) (rest := []) hE hW (c_X12_in l G σ ((i1).toInt64) 0 8) kw_X12_99 rfl hl.1 rfl (Nat.le_of_ble_eq_true rfl) dX12_lightning_6 ⟨by decide, by decide⟩ ⟨by decide, by decide⟩) (by decide) (fun kx48 ks46 H locs kp45 kf47 hW => ?_)
  refine lv_if_eq (tgt := 47) hx hb dX12_lightning_9 (by decide) (fun kc49 => ?_) (fun kc49 => ?_)
  · have kv50 : q_V 0 0 kx48 := q_eq1 kp45.1 (q_c (k := 0) (x := 0) (by decide)) kc49 (by decide) (by decide)
    refine lv_bipush (v := (-3)) hx hb dX12_lightning_47 (by decide) ?_
    exact q_reti hE hr hlocks hW (⟨((q_c (k := (-3)) (x := (-3)) (by decide)).w (by decide) (by decide)), (k12_out (fun q_d => (q_nin (kp45.2.2 kc49) (q_lc (k := 0) (x := 0) (by decide)) (q_lc (k := 8) (x := 8) (by decide))) q_d.1))⟩) dX12_lightning_49
  · have kv51 : q_V 0 8 i1 := q_inV (kp45.2.1 kc49).1 (kp45.2.1 kc49).2 (q_lc (k := 0) (x := 0) (by decide)) (q_lc (k := 8) (x := 8) (by decide))
    have kv52 : q_V 1 1 kx48 := q_ne1 kp45.1 (q_c (k := 0) (x := 0) (by decide)) kc49 (by decide)
    refine lv_iload_n hx hb dX12_lightning_12 rfl (lv_at hl 2 rfl) ?_
    refine lv_i2l (v := i2.toInt64) hx hb dX12_lightning_13 rfl ?_
    refine lv_lconst (v := 0) hx hb dX12_lightning_14 (by decide) ?_
    refine lv_ldc2 (v := 10) hx hb hE.1.2.2.2.1 (hE.w wl_946) dX12_lightning_15 ?_
    refine q_goi hW (q_runS (As := [.long (i2).toInt64, .long 0, .long 10]) (rest := []) hE hW (c_X12_in l G ks46 ((i2).toInt64) 0 10) kw_X12_99 rfl hl.1 rfl (Nat.le_of_ble_eq_true rfl) dX12_lightning_18 ⟨by decide, by decide⟩ ⟨by decide, by decide⟩) (by decide) (fun kx56 ks54 H locs kp53 kf55 hW => ?_)
    refine lv_if_eq (tgt := 47) hx hb dX12_lightning_21 (by decide) (fun kc57 => ?_) (fun kc57 => ?_)
    · have kv58 : q_V 0 0 kx56 := q_eq1 kp53.1 (q_c (k := 0) (x := 0) (by decide)) kc57 (by decide) (by decide)
      refine lv_bipush (v := (-3)) hx hb dX12_lightning_47 (by decide) ?_
      exact q_reti hE hr hlocks hW (⟨((q_c (k := (-3)) (x := (-3)) (by decide)).w (by decide) (by decide)), (k12_out (fun q_d => (q_nin (kp53.2.2 kc57) (q_lc (k := 0) (x := 0) (by decide)) (q_lc (k := 10) (x := 10) (by decide))) q_d.2.1))⟩) dX12_lightning_49
    · have kv59 : q_V 0 10 i2 := q_inV (kp53.2.1 kc57).1 (kp53.2.1 kc57).2 (q_lc (k := 0) (x := 0) (by decide)) (q_lc (k := 10) (x := 10) (by decide))
      have kv60 : q_V 1 1 kx56 := q_ne1 kp53.1 (q_c (k := 0) (x := 0) (by decide)) kc57 (by decide)
      refine lv_iload_n hx hb dX12_lightning_24 rfl (lv_at hl 3 rfl) ?_
      refine lv_i2l (v := i3.toInt64) hx hb dX12_lightning_25 rfl ?_
      refine lv_lconst (v := 0) hx hb dX12_lightning_26 (by decide) ?_
      refine lv_ldc2 (v := 9) hx hb hE.1.2.2.2.1 (hE.w wl_947) dX12_lightning_27 ?_
      refine q_goi hW (q_runS (As := [.long (i3).toInt64, .long 0, .long 9]) (rest := []) hE hW (c_X12_in l G ks54 ((i3).toInt64) 0 9) kw_X12_99 rfl hl.1 rfl (Nat.le_of_ble_eq_true rfl) dX12_lightning_30 ⟨by decide, by decide⟩ ⟨by decide, by decide⟩) (by decide) (fun kx64 ks62 H locs kp61 kf63 hW => ?_)
      refine lv_if_eq (tgt := 47) hx hb dX12_lightning_33 (by decide) (fun kc65 => ?_) (fun kc65 => ?_)
      · have kv66 : q_V 0 0 kx64 := q_eq1 kp61.1 (q_c (k := 0) (x := 0) (by decide)) kc65 (by decide) (by decide)
        refine lv_bipush (v := (-3)) hx hb dX12_lightning_47 (by decide) ?_
        exact q_reti hE hr hlocks hW (⟨((q_c (k := (-3)) (x := (-3)) (by decide)).w (by decide) (by decide)), (k12_out (fun q_d => (q_nin (kp61.2.2 kc65) (q_lc (k := 0) (x := 0) (by decide)) (q_lc (k := 9) (x := 9) (by decide))) q_d.2.2.1))⟩) dX12_lightning_49
      · have kv67 : q_V 0 9 i3 := q_inV (kp61.2.1 kc65).1 (kp61.2.1 kc65).2 (q_lc (k := 0) (x := 0) (by decide)) (q_lc (k := 9) (x := 9) (by decide))
        have kv68 : q_V 1 1 kx64 := q_ne1 kp61.1 (q_c (k := 0) (x := 0) (by decide)) kc65 (by decide)
        refine lv_iload hx hb dX12_lightning_36 (lv_at hl 4 rfl) ?_
        refine lv_i2l (v := i4.toInt64) hx hb dX12_lightning_38 rfl ?_
        refine lv_lconst (v := 0) hx hb dX12_lightning_39 (by decide) ?_
        refine lv_lconst (v := 1) hx hb dX12_lightning_40 (by decide) ?_
        refine q_goi hW (q_runS (As := [.long (i4).toInt64, .long 0, .long 1]) (rest := []) hE hW (c_X12_in l G ks62 ((i4).toInt64) 0 1) kw_X12_99 rfl hl.1 rfl (Nat.le_of_ble_eq_true rfl) dX12_lightning_41 ⟨by decide, by decide⟩ ⟨by decide, by decide⟩) (by decide) (fun kx72 ks70 H locs kp69 kf71 hW => ?_)
        refine lv_if_ne (tgt := 50) hx hb dX12_lightning_44 (by decide) (fun kc73 => ?_) (fun kc73 => ?_)
        · have kv74 : q_V 0 1 i4 := q_inV (kp69.2.1 kc73).1 (kp69.2.1 kc73).2 (q_lc (k := 0) (x := 0) (by decide)) (q_lc (k := 1) (x := 1) (by decide))
          have kv75 : q_V 1 1 kx72 := q_ne1 kp69.1 (q_c (k := 0) (x := 0) (by decide)) kc73 (by decide)
          refine lv_lconst (v := 0) hx hb dX12_lightning_50 (by decide) ?_
          refine lv_lstore (lv' := [(5, .long 0), (0, .ref a0), (1, .int i1), (2, .int i2), (3, .int i3), (4, .int i4)]) hx hb dX12_lightning_51 hl (by decide) rfl (fun ls hl => ?_)
          refine lv_iload_n hx hb dX12_lightning_53 rfl (lv_at hl 4 rfl) ?_
          refine lv_istore (lv' := [(7, .int i3), (5, .long 0), (0, .ref a0), (1, .int i1), (2, .int i2), (3, .int i3), (4, .int i4)]) hx hb dX12_lightning_54 hl (by decide) rfl (fun ls hl => ?_)
          exact lp56a _ _ _ _ kv51 kv59 kv67 kv74 0 i3 kv67 hW (by rw [Int.sub_self]; rfl) ⟨Int.le_refl _, Or.inr rfl⟩ ls (lv_sub hl [3, 4, 5, 6, 1, 0] rfl) (Nat.lt_succ_self _)
        · have kv76 : q_V 0 0 kx72 := q_eq1 kp69.1 (q_c (k := 0) (x := 0) (by decide)) kc73 (by decide) (by decide)
          refine lv_bipush (v := (-3)) hx hb dX12_lightning_47 (by decide) ?_
          exact q_reti hE hr hlocks hW (⟨((q_c (k := (-3)) (x := (-3)) (by decide)).w (by decide) (by decide)), (k12_out (fun q_d => (q_nin (kp69.2.2 kc73) (q_lc (k := 0) (x := 0) (by decide)) (q_lc (k := 1) (x := 1) (by decide))) q_d.2.2.2))⟩) dX12_lightning_49
