theorem kw_X12_99 : q_wS RX12 99 yX12_in cX12_in 6 (some .boolean) 3 := ⟨⟨wl_172, wl_173, wl_5, wl_174⟩, by decide, by decide, by decide +kernel⟩
theorem kw_X12_229 : q_wS RX12 229 yX12_driesBy cX12_driesBy 1 (some .int) 1 := ⟨⟨wl_521, wl_522, wl_5, wl_523⟩, by decide, by decide, by decide +kernel⟩
theorem kw_X12_254 : q_wS RX12 254 yX12_rubsBy cX12_rubsBy 2 (some .int) 2 := ⟨⟨wl_592, wl_593, wl_5, wl_594⟩, by decide, by decide, by decide +kernel⟩
theorem kw_X12_266 : q_wS RX12 266 yX12_shrinksBy cX12_shrinksBy 1 (some .int) 1 := ⟨⟨wl_713, wl_714, wl_5, wl_715⟩, by decide, by decide, by decide +kernel⟩
theorem kw_X12_233 : q_wV RX12 RX12 233 yX12_isCloud cX12_isCloud 2 (some .boolean) 1 := ⟨q_goodV wl_505 wl_506 wl_507 wl_5 wl_508, rfl, by decide, by decide, by decide +kernel⟩
theorem kw_X12_236 : q_wV RX12 RX12 236 yX12_whoHas cX12_whoHas 4 (some .int) 1 := ⟨q_goodV wl_509 wl_510 wl_511 wl_5 wl_512, rfl, by decide, by decide, by decide +kernel⟩
theorem kw_X12_239 : q_wV RX12 RX12 239 yX12_isClean cX12_isClean 4 (some .boolean) 1 := ⟨q_goodV wl_513 wl_514 wl_515 wl_5 wl_516, rfl, by decide, by decide, by decide +kernel⟩
theorem kw_X12_242 : q_wV RX12 RX12 242 yX12_isDry cX12_isDry 2 (some .boolean) 1 := ⟨q_goodV wl_517 wl_518 wl_519 wl_5 wl_520, rfl, by decide, by decide, by decide +kernel⟩
theorem kw_X12_247 : q_wV RX12 RX12 247 yX12_isWasher cX12_isWasher 2 (some .boolean) 1 := ⟨q_goodV wl_545 wl_546 wl_547 wl_5 wl_548, rfl, by decide, by decide, by decide +kernel⟩
theorem kw_X12_258 : q_wV RX12 RX12 258 yX12_deepest cX12_deepest 7 (some .int) 2 := ⟨q_goodV wl_709 wl_710 wl_711 wl_5 wl_712, rfl, by decide, by decide, by decide +kernel⟩
theorem kw_X12_262 : q_wV RX12 RX12 262 yX12_rub cX12_rub 3 none 1 := ⟨q_goodV wl_705 wl_706 wl_707 wl_5 wl_708, rfl, by decide, by decide, by decide +kernel⟩
theorem kw_X12_269 : q_wV RX12 RX12 269 yX12_work cX12_work 5 none 2 := ⟨q_goodV wl_701 wl_702 wl_703 wl_5 wl_704, rfl, by decide, by decide, by decide +kernel⟩
set_option maxHeartbeats 4000000 in
set_option maxRecDepth 100000 in
theorem c_X12_in (l : Launch) (G : q_G) (σ : q_S) (j1 : Int64) (j2 : Int64) (j3 : Int64)  : Met l yX12_in (Cond.code yX12_in cX12_in 6 (some .boolean) :: wsL_law) (q_Rm 1) (q_Pre G σ [.long j1, .long j2, .long j3]) (q_Qi G [] σ (fun r σ1 => q_V 0 1 r ∧ (r ≠ 0 → j2 ≤ j1 ∧ j1 ≤ j3) ∧ (r = 0 → ¬ (j2 ≤ j1 ∧ j1 ≤ j3)))) 0 0 (q_N G) := by
  refine q_ofW (ts := []) (by decide) (Nat.le_of_ble_eq_true rfl) ?_
  intro p e s m args below meth c hE hr hlocks hW ls hl
  have hE : q_E G p s m args c cX12_in 6 RX12 := hE
  have hx := hE.1.1
  have hb := hE.1.2.1
  have hl : lv_has ls 6 [(0, .long j1), (2, .long j2), (4, .long j3)] := hl
  refine lv_lload_n hx hb dX12_in_0 rfl (lv_at hl 0 rfl) ?_
  refine lv_lload_n hx hb dX12_in_1 rfl (lv_at hl 1 rfl) ?_
  refine W.lcmp hx hb dX12_in_2 ?_
  refine lv_topi (fun kx1 ekx1 => ?_)
  refine lv_if_lt (tgt := 17) hx hb dX12_in_3 (by decide) (fun kc2 => ?_) (fun kc2 => ?_)
  · have kr3 : (j1 : Int64) < (j2 : Int64) := (lg_cmp_lt (j1 : Int64) (j2 : Int64)).mp (by rw [← ekx1]; exact kc2)
    have kv4 : q_V (-2147483648) (-1) kx1 := (q_lt1 (q_all kx1) (q_c (k := 0) (x := 0) (by decide)) kc2).w (by decide) (by decide)
    refine lv_iconst (v := 0) hx hb dX12_in_17 (by decide) ?_
    exact q_retz hE hr hlocks hW (Or.inl rfl) (⟨((q_c (k := 0) (x := 0) (by decide)).w (by decide) (by decide)), (fun q_h => absurd rfl q_h), (fun _ q_h => absurd q_h.1 (Int64.not_le.mpr kr3))⟩) dX12_in_18
  · have kr5 : (j2 : Int64) ≤ (j1 : Int64) := (lg_cmp_ge (j1 : Int64) (j2 : Int64)).mp (by rw [← ekx1]; exact (Int32.not_lt.mp kc2))
    have kv6 : q_V 0 2147483647 kx1 := (q_le2 (q_c (k := 0) (x := 0) (by decide)) (q_all kx1) (Int32.not_lt.mp kc2)).w (by decide) (by decide)
    refine lv_lload_n hx hb dX12_in_6 rfl (lv_at hl 0 rfl) ?_
    refine lv_lload hx hb dX12_in_7 (lv_at hl 2 rfl) ?_
    refine W.lcmp hx hb dX12_in_9 ?_
    refine lv_topi (fun kx7 ekx7 => ?_)
    refine lv_if_gt (tgt := 17) hx hb dX12_in_10 (by decide) (fun kc8 => ?_) (fun kc8 => ?_)
    · have kr9 : (j3 : Int64) < (j1 : Int64) := (lg_cmp_gt (j1 : Int64) (j3 : Int64)).mp (by rw [← ekx7]; exact kc8)
      have kv10 : q_V 1 2147483647 kx7 := (q_lt2 (q_c (k := 0) (x := 0) (by decide)) (q_all kx7) kc8).w (by decide) (by decide)
      refine lv_iconst (v := 0) hx hb dX12_in_17 (by decide) ?_
      exact q_retz hE hr hlocks hW (Or.inl rfl) (⟨((q_c (k := 0) (x := 0) (by decide)).w (by decide) (by decide)), (fun q_h => absurd rfl q_h), (fun _ q_h => absurd q_h.2 (Int64.not_le.mpr kr9))⟩) dX12_in_18
    · have kr11 : (j1 : Int64) ≤ (j3 : Int64) := (lg_cmp_le (j1 : Int64) (j3 : Int64)).mp (by rw [← ekx7]; exact (Int32.not_lt.mp kc8))
      have kv12 : q_V (-2147483648) 0 kx7 := (q_le1 (q_all kx7) (q_c (k := 0) (x := 0) (by decide)) (Int32.not_lt.mp kc8)).w (by decide) (by decide)
      refine lv_iconst (v := 1) hx hb dX12_in_13 (by decide) ?_
      refine lv_goto (tgt := 18) hx hb dX12_in_14 (by decide) ?_
      exact q_retz hE hr hlocks hW (Or.inr rfl) (⟨((q_c (k := 1) (x := 1) (by decide)).w (by decide) (by decide)), (fun _ => ⟨kr5, kr11⟩), (fun q_h => absurd q_h (by decide))⟩) dX12_in_18
set_option maxHeartbeats 4000000 in
set_option maxRecDepth 100000 in
theorem c_X12_isBit (l : Launch) (G : q_G) (σ : q_S) (i1 : Int32) (i2 : Int32)  : Met l yX12_isBit (Cond.code yX12_isBit cX12_isBit 2 (some .boolean) :: wsL_law) (q_Rm 1) (q_Pre G σ [.int i1, .int i2]) (q_Qi G [] σ (fun r σ1 => q_V 0 1 r)) 0 0 (q_N G) := by
  refine q_ofW (ts := []) (by decide) (Nat.le_of_ble_eq_true rfl) ?_
  intro p e s m args below meth c hE hr hlocks hW ls hl
  have hE : q_E G p s m args c cX12_isBit 2 RX12 := hE
  have hx := hE.1.1
  have hb := hE.1.2.1
  have hl : lv_has ls 2 [(0, .int i1), (1, .int i2)] := hl
  refine lv_iload_n hx hb dX12_isBit_0 rfl (lv_at hl 0 rfl) ?_
  refine lv_iload_n hx hb dX12_isBit_1 rfl (lv_at hl 1 rfl) ?_
  refine lv_ishr hx hb dX12_isBit_2 ?_
  refine lv_topi (fun kx1 ekx1 => ?_)
  refine lv_iconst (v := 1) hx hb dX12_isBit_3 (by decide) ?_
  refine lv_iand hx hb dX12_isBit_4 ?_
  refine lv_topi (fun kx2 ekx2 => ?_)
  have vkx2 : q_V 0 1 kx2 := by rw [ekx2]; exact (q_and1 kx1).w (by decide) (by decide)
  refine lv_iconst (v := 1) hx hb dX12_isBit_5 (by decide) ?_
  refine lv_icmp_ne (tgt := 13) hx hb dX12_isBit_6 (by decide) (fun kc3 => ?_) (fun kc3 => ?_)
  · have kv4 : q_V 0 0 kx2 := q_ne2 vkx2 (q_c (k := 1) (x := 1) (by decide)) kc3 (by decide)
    refine lv_iconst (v := 0) hx hb dX12_isBit_13 (by decide) ?_
    exact q_retz hE hr hlocks hW (Or.inl rfl) (((q_c (k := 0) (x := 0) (by decide)).w (by decide) (by decide))) dX12_isBit_14
  · have kv5 : q_V 1 1 kx2 := q_eq1 vkx2 (q_c (k := 1) (x := 1) (by decide)) kc3 (by decide) (by decide)
    refine lv_iconst (v := 1) hx hb dX12_isBit_9 (by decide) ?_
    refine lv_goto (tgt := 14) hx hb dX12_isBit_10 (by decide) ?_
    exact q_retz hE hr hlocks hW (Or.inr rfl) (((q_c (k := 1) (x := 1) (by decide)).w (by decide) (by decide))) dX12_isBit_14
set_option maxHeartbeats 4000000 in
set_option maxRecDepth 100000 in
theorem c_X12_bits (l : Launch) (G : q_G) (σ : q_S) (i1 : Int32)  : Met l yX12_bits (Cond.code yX12_bits cX12_bits 3 (some .int) :: wsL_law) (q_Rm 1) (q_Pre G σ [.int i1]) (q_Qi G [] σ (fun r σ1 => q_V (-2147483648) 2147483647 r)) 0 0 (q_N G) := by
  refine q_ofW (ts := []) (by decide) (Nat.le_of_ble_eq_true rfl) ?_
  intro p e s m args below meth c hE hr hlocks hW ls hl
  have hE : q_E G p s m args c cX12_bits 3 RX12 := hE
  have hx := hE.1.1
  have hb := hE.1.2.1
  have hl : lv_has ls 3 [(0, .int i1)] := hl
  have lp4a : ∀ (n4a : Nat) (kx1 : Int32) (kx2 : Int32) (vkx2 : q_V 0 8 kx2) (ls : Array Slot) (hl : lv_has ls 3 [(0, .int i1), (1, .int kx1), (2, .int kx2)]), (8 - kx2.toInt).toNat < n4a → W p l e (q_Rm 1) s m args below meth c s.heap [] 0 0 (MQ below (q_Qi G [] σ (fun r σ1 => q_V (-2147483648) 2147483647 r)) args s 0 0 (q_N G)) (F0 m 4 ls []) := by
    intro n4a
    induction n4a with
    | zero => intro _ _ _ _ _; exact fun h => absurd h (Nat.not_lt_zero _)
    | succ n4a ih4a =>
      intro kx1 kx2 vkx2 ls hl hm4a
      refine lv_iload_n hx hb dX12_bits_4 rfl (lv_at hl 2 rfl) ?_
      refine lv_bipush (v := 8) hx hb dX12_bits_5 (by decide) ?_
      refine lv_icmp_ge (tgt := 24) hx hb dX12_bits_7 (by decide) (fun kc3 => ?_) (fun kc3 => ?_)
      · have kv4 : q_V 8 8 kx2 := (q_le2 (q_c (k := 8) (x := 8) (by decide)) vkx2 kc3).w (by decide) (by decide)
        refine lv_iload_n hx hb dX12_bits_24 rfl (lv_at hl 1 rfl) ?_
        exact q_reti hE hr hlocks hW ((q_all kx1)) dX12_bits_25
      · have kv5 : q_V 0 7 kx2 := (q_lt1 vkx2 (q_c (k := 8) (x := 8) (by decide)) (Int32.not_le.mp kc3)).w (by decide) (by decide)
        refine lv_iload_n hx hb dX12_bits_10 rfl (lv_at hl 1 rfl) ?_
        refine lv_iload_n hx hb dX12_bits_11 rfl (lv_at hl 0 rfl) ?_
        refine lv_iload_n hx hb dX12_bits_12 rfl (lv_at hl 2 rfl) ?_
        refine lv_ishr hx hb dX12_bits_13 ?_
        refine lv_topi (fun kx6 ekx6 => ?_)
        refine lv_iconst (v := 1) hx hb dX12_bits_14 (by decide) ?_
        refine lv_iand hx hb dX12_bits_15 ?_
        refine lv_topi (fun kx7 ekx7 => ?_)
        have vkx7 : q_V 0 1 kx7 := by rw [ekx7]; exact (q_and1 kx6).w (by decide) (by decide)
        refine lv_iadd hx hb dX12_bits_16 ?_
        refine lv_topi (fun kx8 ekx8 => ?_)
        refine lv_istore_n (lv' := [(1, .int kx8), (0, .int i1), (2, .int kx2)]) hx hb dX12_bits_17 rfl hl (by decide) rfl (fun ls hl => ?_)
        obtain ⟨kx9, ekx9⟩ : ∃ y : Int32, y = kx2 + 1 := ⟨_, rfl⟩
        have vkx9 : q_V 1 8 kx9 := by rw [ekx9]; exact (q_add kv5 (q_c (k := 1) (x := 1) (by decide)) (by decide) (by decide)).w (by decide) (by decide)
        have ikx9 : kx9.toInt = kx2.toInt + 1 := q_incT ekx9 kv5 (by decide) (by decide) (by decide)
        refine lv_iinc (v := kx9) (lv' := [(2, .int kx9), (1, .int kx8), (0, .int i1)]) hx hb dX12_bits_18 hl (k := 2) rfl (by rw [ekx9]; rfl) (by decide) rfl (fun ls hl => ?_)
        refine lv_goto (tgt := 4) hx hb dX12_bits_21 (by decide) ?_
        exact ih4a kx8 kx9 (vkx9.w (by decide) (by decide)) ls (lv_sub hl [2, 1, 0] rfl) (Nat.lt_of_lt_of_le (q_up (ikx9) (show q_V 1 8 kx9 from vkx9).2) (Nat.le_of_lt_succ hm4a))
  refine lv_iconst (v := 0) hx hb dX12_bits_0 (by decide) ?_
  refine lv_istore_n (lv' := [(1, .int 0), (0, .int i1)]) hx hb dX12_bits_1 rfl hl (by decide) rfl (fun ls hl => ?_)
  refine lv_iconst (v := 0) hx hb dX12_bits_2 (by decide) ?_
  refine lv_istore_n (lv' := [(2, .int 0), (1, .int 0), (0, .int i1)]) hx hb dX12_bits_3 rfl hl (by decide) rfl (fun ls hl => ?_)
  exact lp4a _ 0 0 ((q_c (k := 0) (x := 0) (by decide)).w (by decide) (by decide)) ls (lv_sub hl [2, 1, 0] rfl) (Nat.lt_succ_self _)
set_option maxHeartbeats 4000000 in
set_option maxRecDepth 100000 in
theorem c_X12_isCloud (l : Launch) (G : q_G) (σ : q_S) (a0 : Nat) (h0 : q_T G a0 = 40) (i1 : Int32)  : Met l yX12_isCloud (Cond.code yX12_isCloud cX12_isCloud 2 (some .boolean) :: wsL_law) (q_Rm 2) (q_Pre G σ [.ref a0, .int i1]) (q_Qi G [] σ (fun r σ1 => q_V 0 1 r ∧ (r ≠ 0 → q_V 0 5 i1))) 0 0 (q_N G) := by
  refine q_ofW (ts := []) (by decide) (Nat.le_of_ble_eq_true rfl) ?_
  intro p e s m args below meth c hE hr hlocks hW ls hl
  have hE : q_E G p s m args c cX12_isCloud 2 RX12 := hE
  have hx := hE.1.1
  have hb := hE.1.2.1
  have hl : lv_has ls 2 [(0, .ref a0), (1, .int i1)] := hl
  refine lv_iload_n hx hb dX12_isCloud_0 rfl (lv_at hl 1 rfl) ?_
  refine lv_i2l (v := i1.toInt64) hx hb dX12_isCloud_1 rfl ?_
  refine lv_lconst (v := 0) hx hb dX12_isCloud_2 (by decide) ?_
  refine lv_aload_n hx hb dX12_isCloud_3 rfl (lv_at hl 0 rfl) ?_
  refine q_geti hE hW h0 rfl q_k12 0 (by decide) rfl (hE.l wl_358) dX12_isCloud_4 (fun kx1 ekx1 vkx1 => ?_)
  refine lv_iconst (v := 1) hx hb dX12_isCloud_7 (by decide) ?_
  refine lv_isub hx hb dX12_isCloud_8 ?_
  refine lv_topi (fun kx2 ekx2 => ?_)
  have vkx2 : q_V (-1) 5 kx2 := by rw [ekx2]; exact (q_sub vkx1 (q_c (k := 1) (x := 1) (by decide)) (by decide) (by decide)).w (by decide) (by decide)
  refine lv_i2l (v := kx2.toInt64) hx hb dX12_isCloud_9 rfl ?_
  refine q_goi hW (q_runS (As := [.long (i1).toInt64, .long 0, .long (kx2).toInt64]) (rest := []) hE hW (c_X12_in l G σ ((i1).toInt64) 0 ((kx2).toInt64)) kw_X12_99 rfl hl.1 rfl (Nat.le_of_ble_eq_true rfl) dX12_isCloud_10 ⟨by decide, by decide⟩ ⟨by decide, by decide⟩) (by decide) (fun kx6 ks4 H locs kp3 kf5 hW => ?_)
  exact q_retz hE hr hlocks hW (q_01 kp3.1) (⟨kp3.1, (fun q_h => (q_inV (kp3.2.1 q_h).1 (kp3.2.1 q_h).2 (q_lc (k := 0) (x := 0) (by decide)) (q_l vkx2)).w (by decide) (by decide))⟩) dX12_isCloud_13
set_option maxHeartbeats 4000000 in
set_option maxRecDepth 100000 in
theorem c_X12_isWasher (l : Launch) (G : q_G) (σ : q_S) (a0 : Nat) (h0 : q_T G a0 = 40) (i1 : Int32)  : Met l yX12_isWasher (Cond.code yX12_isWasher cX12_isWasher 2 (some .boolean) :: wsL_law) (q_Rm 2) (q_Pre G σ [.ref a0, .int i1]) (q_Qi G [] σ (fun r σ1 => q_V 0 1 r ∧ (r ≠ 0 → q_V 0 2 i1))) 0 0 (q_N G) := by
  refine q_ofW (ts := []) (by decide) (Nat.le_of_ble_eq_true rfl) ?_
  intro p e s m args below meth c hE hr hlocks hW ls hl
  have hE : q_E G p s m args c cX12_isWasher 2 RX12 := hE
  have hx := hE.1.1
  have hb := hE.1.2.1
  have hl : lv_has ls 2 [(0, .ref a0), (1, .int i1)] := hl
  refine lv_iload_n hx hb dX12_isWasher_0 rfl (lv_at hl 1 rfl) ?_
  refine lv_i2l (v := i1.toInt64) hx hb dX12_isWasher_1 rfl ?_
  refine lv_lconst (v := 0) hx hb dX12_isWasher_2 (by decide) ?_
  refine lv_aload_n hx hb dX12_isWasher_3 rfl (lv_at hl 0 rfl) ?_
  refine q_geti hE hW h0 rfl q_k12 5 (by decide) rfl (hE.l wl_360) dX12_isWasher_4 (fun kx1 ekx1 vkx1 => ?_)
  refine lv_iconst (v := 1) hx hb dX12_isWasher_7 (by decide) ?_
  refine lv_isub hx hb dX12_isWasher_8 ?_
  refine lv_topi (fun kx2 ekx2 => ?_)
  have vkx2 : q_V (-1) 2 kx2 := by rw [ekx2]; exact (q_sub vkx1 (q_c (k := 1) (x := 1) (by decide)) (by decide) (by decide)).w (by decide) (by decide)
  refine lv_i2l (v := kx2.toInt64) hx hb dX12_isWasher_9 rfl ?_
  refine q_goi hW (q_runS (As := [.long (i1).toInt64, .long 0, .long (kx2).toInt64]) (rest := []) hE hW (c_X12_in l G σ ((i1).toInt64) 0 ((kx2).toInt64)) kw_X12_99 rfl hl.1 rfl (Nat.le_of_ble_eq_true rfl) dX12_isWasher_10 ⟨by decide, by decide⟩ ⟨by decide, by decide⟩) (by decide) (fun kx6 ks4 H locs kp3 kf5 hW => ?_)
  exact q_retz hE hr hlocks hW (q_01 kp3.1) (⟨kp3.1, (fun q_h => (q_inV (kp3.2.1 q_h).1 (kp3.2.1 q_h).2 (q_lc (k := 0) (x := 0) (by decide)) (q_l vkx2)).w (by decide) (by decide))⟩) dX12_isWasher_13
set_option maxHeartbeats 4000000 in
set_option maxRecDepth 100000 in
theorem c_X12_rubsBy (l : Launch) (G : q_G) (σ : q_S) (i1 : Int32) (i2 : Int32)  : Met l yX12_rubsBy (Cond.code yX12_rubsBy cX12_rubsBy 2 (some .int) :: wsL_law) (q_Rm 1) (q_Pre G σ [.int i1, .int i2]) (q_Qi G [] σ (fun r σ1 => q_V (-2147483648) 2147483647 r)) 0 0 (q_N G) := by
  refine q_ofW (ts := []) (by decide) (Nat.le_of_ble_eq_true rfl) ?_
  intro p e s m args below meth c hE hr hlocks hW ls hl
  have hE : q_E G p s m args c cX12_rubsBy 2 RX12 := hE
  have hx := hE.1.1
  have hb := hE.1.2.1
  have hl : lv_has ls 2 [(0, .int i1), (1, .int i2)] := hl
  refine lv_iload_n hx hb dX12_rubsBy_0 rfl (lv_at hl 0 rfl) ?_
  by_cases kc1_0 : i1 = 1
  · have fkc1_0 : q_V 1 1 i1 := by rw [kc1_0]; exact q_c (by decide)
    refine lv_lookup (off := 27) (tgt := 28) hx hb dX12_rubsBy_1 (by decide) (by rw [kc1_0]; rfl) (by decide) ?_
    refine lv_iload_n hx hb dX12_rubsBy_28 rfl (lv_at hl 1 rfl) ?_
    refine lv_iconst (v := 1) hx hb dX12_rubsBy_29 (by decide) ?_
    refine lv_icmp_le (tgt := 39) hx hb dX12_rubsBy_30 (by decide) (fun kc2 => ?_) (fun kc2 => ?_)
    · have kv3 : q_V (-2147483648) 1 i2 := (q_le1 (q_all i2) (q_c (k := 1) (x := 1) (by decide)) kc2).w (by decide) (by decide)
      refine lv_iconst (v := 1) hx hb dX12_rubsBy_39 (by decide) ?_
      exact q_reti hE hr hlocks hW (((q_c (k := 1) (x := 1) (by decide)).w (by decide) (by decide))) dX12_rubsBy_40
    · have kv4 : q_V 2 2147483647 i2 := (q_lt2 (q_c (k := 1) (x := 1) (by decide)) (q_all i2) (Int32.not_le.mp kc2)).w (by decide) (by decide)
      refine lv_iload_n hx hb dX12_rubsBy_33 rfl (lv_at hl 1 rfl) ?_
      refine lv_iconst (v := 1) hx hb dX12_rubsBy_34 (by decide) ?_
      refine lv_isub hx hb dX12_rubsBy_35 ?_
      refine lv_topi (fun kx5 ekx5 => ?_)
      have vkx5 : q_V 1 2147483646 kx5 := by rw [ekx5]; exact (q_sub kv4 (q_c (k := 1) (x := 1) (by decide)) (by decide) (by decide)).w (by decide) (by decide)
      refine lv_goto (tgt := 40) hx hb dX12_rubsBy_36 (by decide) ?_
      exact q_reti hE hr hlocks hW ((vkx5.w (by decide) (by decide))) dX12_rubsBy_40
  by_cases kc1_1 : i1 = 3
  · have fkc1_1 : q_V 3 3 i1 := by rw [kc1_1]; exact q_c (by decide)
    refine lv_lookup (off := 40) (tgt := 41) hx hb dX12_rubsBy_1 (by decide) (by rw [kc1_1]; rfl) (by decide) ?_
    refine lv_iconst (v := 1) hx hb dX12_rubsBy_41 (by decide) ?_
    exact q_reti hE hr hlocks hW (((q_c (k := 1) (x := 1) (by decide)).w (by decide) (by decide))) dX12_rubsBy_42
  refine lv_lookup (off := 42) (tgt := 43) hx hb dX12_rubsBy_1 (by decide) (by show Op.lookupswitch.offset [(1, 27), (3, 40)] 42 i1.toInt = _; rw [lv_osw (k := 1) kc1_0 (by decide), lv_osw (k := 3) kc1_1 (by decide)]; rfl) (by decide) ?_
  refine lv_iload_n hx hb dX12_rubsBy_43 rfl (lv_at hl 1 rfl) ?_
  exact q_reti hE hr hlocks hW ((q_all i2)) dX12_rubsBy_44
set_option maxHeartbeats 4000000 in
set_option maxRecDepth 100000 in
theorem c_X12_shrinksBy (l : Launch) (G : q_G) (σ : q_S) (i1 : Int32)  : Met l yX12_shrinksBy (Cond.code yX12_shrinksBy cX12_shrinksBy 1 (some .int) :: wsL_law) (q_Rm 1) (q_Pre G σ [.int i1]) (q_Qi G [] σ (fun r σ1 => q_V 0 2 r)) 0 0 (q_N G) := by
  refine q_ofW (ts := []) (by decide) (Nat.le_of_ble_eq_true rfl) ?_
  intro p e s m args below meth c hE hr hlocks hW ls hl
  have hE : q_E G p s m args c cX12_shrinksBy 1 RX12 := hE
  have hx := hE.1.1
  have hb := hE.1.2.1
  have hl : lv_has ls 1 [(0, .int i1)] := hl
  refine lv_iload_n hx hb dX12_shrinksBy_0 rfl (lv_at hl 0 rfl) ?_
  refine lv_iconst (v := 2) hx hb dX12_shrinksBy_1 (by decide) ?_
  refine lv_icmp_ne (tgt := 9) hx hb dX12_shrinksBy_2 (by decide) (fun kc1 => ?_) (fun kc1 => ?_)
  · refine lv_iload_n hx hb dX12_shrinksBy_9 rfl (lv_at hl 0 rfl) ?_
    refine lv_iconst (v := 3) hx hb dX12_shrinksBy_10 (by decide) ?_
    refine lv_icmp_ne (tgt := 18) hx hb dX12_shrinksBy_11 (by decide) (fun kc2 => ?_) (fun kc2 => ?_)
    · refine lv_iconst (v := 1) hx hb dX12_shrinksBy_18 (by decide) ?_
      exact q_reti hE hr hlocks hW (((q_c (k := 1) (x := 1) (by decide)).w (by decide) (by decide))) dX12_shrinksBy_19
    · have kv3 : q_V 3 3 i1 := q_eq1 (q_all i1) (q_c (k := 3) (x := 3) (by decide)) kc2 (by decide) (by decide)
      refine lv_iconst (v := 0) hx hb dX12_shrinksBy_14 (by decide) ?_
      refine lv_goto (tgt := 19) hx hb dX12_shrinksBy_15 (by decide) ?_
      exact q_reti hE hr hlocks hW (((q_c (k := 0) (x := 0) (by decide)).w (by decide) (by decide))) dX12_shrinksBy_19
  · have kv4 : q_V 2 2 i1 := q_eq1 (q_all i1) (q_c (k := 2) (x := 2) (by decide)) kc1 (by decide) (by decide)
    refine lv_iconst (v := 2) hx hb dX12_shrinksBy_5 (by decide) ?_
    refine lv_goto (tgt := 19) hx hb dX12_shrinksBy_6 (by decide) ?_
    exact q_reti hE hr hlocks hW (((q_c (k := 2) (x := 2) (by decide)).w (by decide) (by decide))) dX12_shrinksBy_19
set_option maxHeartbeats 4000000 in
set_option maxRecDepth 100000 in
theorem c_X12_driesBy (l : Launch) (G : q_G) (σ : q_S) (i1 : Int32)  : Met l yX12_driesBy (Cond.code yX12_driesBy cX12_driesBy 1 (some .int) :: wsL_law) (q_Rm 1) (q_Pre G σ [.int i1]) (q_Qi G [] σ (fun r σ1 => q_V 1 4 r)) 0 0 (q_N G) := by
  refine q_ofW (ts := []) (by decide) (Nat.le_of_ble_eq_true rfl) ?_
  intro p e s m args below meth c hE hr hlocks hW ls hl
  have hE : q_E G p s m args c cX12_driesBy 1 RX12 := hE
  have hx := hE.1.1
  have hb := hE.1.2.1
  have hl : lv_has ls 1 [(0, .int i1)] := hl
  refine lv_iload_n hx hb dX12_driesBy_0 rfl (lv_at hl 0 rfl) ?_
  refine lv_if_ne (tgt := 8) hx hb dX12_driesBy_1 (by decide) (fun kc1 => ?_) (fun kc1 => ?_)
  · refine lv_iload_n hx hb dX12_driesBy_8 rfl (lv_at hl 0 rfl) ?_
    refine lv_iconst (v := 1) hx hb dX12_driesBy_9 (by decide) ?_
    refine lv_icmp_ne (tgt := 17) hx hb dX12_driesBy_10 (by decide) (fun kc2 => ?_) (fun kc2 => ?_)
    · refine lv_iload_n hx hb dX12_driesBy_17 rfl (lv_at hl 0 rfl) ?_
      refine lv_iconst (v := 2) hx hb dX12_driesBy_18 (by decide) ?_
      refine lv_icmp_ne (tgt := 26) hx hb dX12_driesBy_19 (by decide) (fun kc3 => ?_) (fun kc3 => ?_)
      · refine lv_iconst (v := 4) hx hb dX12_driesBy_26 (by decide) ?_
        exact q_reti hE hr hlocks hW (((q_c (k := 4) (x := 4) (by decide)).w (by decide) (by decide))) dX12_driesBy_27
      · have kv4 : q_V 2 2 i1 := q_eq1 (q_all i1) (q_c (k := 2) (x := 2) (by decide)) kc3 (by decide) (by decide)
        refine lv_iconst (v := 1) hx hb dX12_driesBy_22 (by decide) ?_
        refine lv_goto (tgt := 27) hx hb dX12_driesBy_23 (by decide) ?_
        exact q_reti hE hr hlocks hW (((q_c (k := 1) (x := 1) (by decide)).w (by decide) (by decide))) dX12_driesBy_27
    · have kv5 : q_V 1 1 i1 := q_eq1 (q_all i1) (q_c (k := 1) (x := 1) (by decide)) kc2 (by decide) (by decide)
      refine lv_iconst (v := 3) hx hb dX12_driesBy_13 (by decide) ?_
      refine lv_goto (tgt := 27) hx hb dX12_driesBy_14 (by decide) ?_
      exact q_reti hE hr hlocks hW (((q_c (k := 3) (x := 3) (by decide)).w (by decide) (by decide))) dX12_driesBy_27
  · have kv6 : q_V 0 0 i1 := q_eq1 (q_all i1) (q_c (k := 0) (x := 0) (by decide)) kc1 (by decide) (by decide)
    refine lv_iconst (v := 2) hx hb dX12_driesBy_4 (by decide) ?_
    refine lv_goto (tgt := 27) hx hb dX12_driesBy_5 (by decide) ?_
    exact q_reti hE hr hlocks hW (((q_c (k := 2) (x := 2) (by decide)).w (by decide) (by decide))) dX12_driesBy_27
set_option maxHeartbeats 4000000 in
set_option maxRecDepth 100000 in
theorem c_X12_write (l : Launch) (G : q_G) (σ : q_S) (a0 : Nat) (h0 : q_T G a0 = 40) (i1 : Int32)  : Met l yX12_write (Cond.code yX12_write cX12_write 2 (some .int) :: wsL_law) (q_Rm 2) (q_Pre G σ [.ref a0, .int i1]) (q_Qi G [40, 47] σ (fun r σ1 => q_V (-2147483648) 2147483647 r)) 0 0 (q_N G) := by
  refine q_ofW (ts := [40, 47]) (by decide) (Nat.le_of_ble_eq_true rfl) ?_
  intro p e s m args below meth c hE hr hlocks hW ls hl
  have hE : q_E G p s m args c cX12_write 2 RX12 := hE
  have hx := hE.1.1
  have hb := hE.1.2.1
  have hl : lv_has ls 2 [(0, .ref a0), (1, .int i1)] := hl
  refine lv_iload_n hx hb dX12_write_0 rfl (lv_at hl 1 rfl) ?_
  refine lv_i2l (v := i1.toInt64) hx hb dX12_write_1 rfl ?_
  refine lv_lconst (v := 0) hx hb dX12_write_2 (by decide) ?_
  refine lv_ldc2 (v := 255) hx hb hE.1.2.2.2.1 (hE.w wl_170) dX12_write_3 ?_
  refine q_goi hW (q_runS (As := [.long (i1).toInt64, .long 0, .long 255]) (rest := []) hE hW (c_X12_in l G σ ((i1).toInt64) 0 255) kw_X12_99 rfl hl.1 rfl (Nat.le_of_ble_eq_true rfl) dX12_write_6 ⟨by decide, by decide⟩ ⟨by decide, by decide⟩) (by decide) (fun kx4 ks2 H locs kp1 kf3 hW => ?_)
  refine lv_if_ne (tgt := 15) hx hb dX12_write_9 (by decide) (fun kc5 => ?_) (fun kc5 => ?_)
  · have kv6 : q_V 0 255 i1 := q_inV (kp1.2.1 kc5).1 (kp1.2.1 kc5).2 (q_lc (k := 0) (x := 0) (by decide)) (q_lc (k := 255) (x := 255) (by decide))
    have kv7 : q_V 1 1 kx4 := q_ne1 kp1.1 (q_c (k := 0) (x := 0) (by decide)) kc5 (by decide)
    refine lv_aload_n hx hb dX12_write_15 rfl (lv_at hl 0 rfl) ?_
    refine q_geti hE hW h0 rfl q_k12 11 (by decide) rfl (hE.l wl_171) dX12_write_16 (fun kx8 ekx8 vkx8 => ?_)
    refine lv_sipush (v := 200) hx hb dX12_write_19 (by decide) ?_
    refine lv_icmp_ne (tgt := 28) hx hb dX12_write_22 (by decide) (fun kc9 => ?_) (fun kc9 => ?_)
    · have kv10 : q_V 0 199 kx8 := q_ne2 vkx8 (q_c (k := 200) (x := 200) (by decide)) kc9 (by decide)
      refine lv_aload_n hx hb dX12_write_28 rfl (lv_at hl 0 rfl) ?_
      refine q_getr hE hW h0 rfl q_k12 10 (by decide) rfl (hE.l wl_136) dX12_write_29 (fun kb11 ekb11 hkb11a hkb11b => ?_)
      have hkb11 : q_T G kb11 = 47 := q_tag hkb11a hkb11b
      refine lv_aload_n hx hb dX12_write_32 rfl (lv_at hl 0 rfl) ?_
      refine q_geti hE hW h0 rfl q_k12 11 (by decide) rfl (hE.l wl_171) dX12_write_33 (fun kx12 ekx12 vkx12 => ?_)
      obtain rfl : kx8 = kx12 := ekx8.symm.trans ekx12
      refine lv_iload_n hx hb dX12_write_36 rfl (lv_at hl 1 rfl) ?_
      refine q_iast hE hW hkb11 rfl (q_in kv10 (by decide) (by decide)) trivial (by decide) dX12_write_37 (fun H locs ks13 kp14 hW => ?_)
      refine lv_aload_n hx hb dX12_write_38 rfl (lv_at hl 0 rfl) ?_
      refine lv_dup hx hb dX12_write_39 rfl ?_
      refine q_geti hE hW h0 rfl q_k12 11 (by decide) rfl (hE.l wl_171) dX12_write_40 (fun kx15 ekx15 vkx15 => ?_)
      obtain rfl : kx8 = kx15 := ((kp14.2.2.2.1 _ _).trans ekx8).symm.trans ekx15
      refine lv_iconst (v := 1) hx hb dX12_write_43 (by decide) ?_
      refine lv_iadd hx hb dX12_write_44 ?_
      refine lv_topi (fun kx16 ekx16 => ?_)
      have vkx16 : q_V 1 200 kx16 := by rw [ekx16]; exact (q_add kv10 (q_c (k := 1) (x := 1) (by decide)) (by decide) (by decide)).w (by decide) (by decide)
      have ikx16 : kx16.toInt = kx8.toInt + 1 := q_incT ekx16 kv10 (by decide) (by decide) (by decide)
      refine q_puti hE hW h0 rfl q_k12 tyX12 tyX12_ok 11 (by decide) rfl (hE.l wl_171) rfl rfl rfl (vkx16.w (by decide) (by decide)) (by decide) dX12_write_45 (fun H locs ks17 kp18 hW => ?_)
      refine lv_aload_n hx hb dX12_write_48 rfl (lv_at hl 0 rfl) ?_
      refine q_geti hE hW h0 rfl q_k12 11 (by decide) rfl (hE.l wl_171) dX12_write_49 (fun kx19 ekx19 vkx19 => ?_)
      obtain rfl : kx16 = kx19 := kp18.1.symm.trans ekx19
      exact q_reti hE hr hlocks hW ((vkx16.w (by decide) (by decide))) dX12_write_52
    · have kv20 : q_V 200 200 kx8 := q_eq1 vkx8 (q_c (k := 200) (x := 200) (by decide)) kc9 (by decide) (by decide)
      refine lv_bipush (v := (-5)) hx hb dX12_write_25 (by decide) ?_
      exact q_reti hE hr hlocks hW (((q_c (k := (-5)) (x := (-5)) (by decide)).w (by decide) (by decide))) dX12_write_27
  · have kv21 : q_V 0 0 kx4 := q_eq1 kp1.1 (q_c (k := 0) (x := 0) (by decide)) kc5 (by decide) (by decide)
    refine lv_bipush (v := (-3)) hx hb dX12_write_12 (by decide) ?_
    exact q_reti hE hr hlocks hW (((q_c (k := (-3)) (x := (-3)) (by decide)).w (by decide) (by decide))) dX12_write_14
set_option maxHeartbeats 4000000 in
set_option maxRecDepth 100000 in
theorem c_X12_erase (l : Launch) (G : q_G) (σ : q_S) (a0 : Nat) (h0 : q_T G a0 = 40)  : Met l yX12_erase (Cond.code yX12_erase cX12_erase 2 (some .int) :: wsL_law) (q_Rm 1) (q_Pre G σ [.ref a0]) (q_Qi G [40] σ (fun r σ1 => q_V (-2147483648) 2147483647 r)) 0 0 (q_N G) := by
  refine q_ofW (ts := [40]) (by decide) (Nat.le_of_ble_eq_true rfl) ?_
  intro p e s m args below meth c hE hr hlocks hW ls hl
  have hE : q_E G p s m args c cX12_erase 2 RX12 := hE
  have hx := hE.1.1
  have hb := hE.1.2.1
  have hl : lv_has ls 2 [(0, .ref a0)] := hl
  refine lv_aload_n hx hb dX12_erase_0 rfl (lv_at hl 0 rfl) ?_
  refine q_geti hE hW h0 rfl q_k12 11 (by decide) rfl (hE.l wl_171) dX12_erase_1 (fun kx1 ekx1 vkx1 => ?_)
  refine lv_istore_n (lv' := [(1, .int kx1), (0, .ref a0)]) hx hb dX12_erase_4 rfl hl (by decide) rfl (fun ls hl => ?_)
  refine lv_aload_n hx hb dX12_erase_5 rfl (lv_at hl 1 rfl) ?_
  refine lv_iconst (v := 0) hx hb dX12_erase_6 (by decide) ?_
  refine q_puti hE hW h0 rfl q_k12 tyX12 tyX12_ok 11 (by decide) rfl (hE.l wl_171) rfl rfl rfl ((q_c (k := 0) (x := 0) (by decide)).w (by decide) (by decide)) (by decide) dX12_erase_7 (fun H locs ks2 kp3 hW => ?_)
  refine lv_iload_n hx hb dX12_erase_10 rfl (lv_at hl 0 rfl) ?_
  exact q_reti hE hr hlocks hW ((vkx1.w (by decide) (by decide))) dX12_erase_11
set_option maxHeartbeats 4000000 in
set_option maxRecDepth 100000 in
theorem c_X12_isSmall (l : Launch) (G : q_G) (σ : q_S) (a0 : Nat) (h0 : q_T G a0 = 40) (i1 : Int32) (w1 : q_V 0 2147483647 i1)  : Met l yX12_isSmall (Cond.code yX12_isSmall cX12_isSmall 2 (some .boolean) :: wsL_law) (q_Rm 2) (q_Pre G σ [.ref a0, .int i1]) (q_Qi G [] σ (fun r σ1 => q_V 0 1 r ∧ (r ≠ 0 → q_V 0 199 i1) ∧ (r ≠ 0 → i1.toInt < (q_I σ a0 11).toInt))) 0 0 (q_N G) := by
  refine q_ofW (ts := []) (by decide) (Nat.le_of_ble_eq_true rfl) ?_
  intro p e s m args below meth c hE hr hlocks hW ls hl
  have hE : q_E G p s m args c cX12_isSmall 2 RX12 := hE
  have hx := hE.1.1
  have hb := hE.1.2.1
  have hl : lv_has ls 2 [(0, .ref a0), (1, .int i1)] := hl
  refine lv_iload_n hx hb dX12_isSmall_0 rfl (lv_at hl 1 rfl) ?_
  refine lv_aload_n hx hb dX12_isSmall_1 rfl (lv_at hl 0 rfl) ?_
  refine q_geti hE hW h0 rfl q_k12 11 (by decide) rfl (hE.l wl_171) dX12_isSmall_2 (fun kx1 ekx1 vkx1 => ?_)
  refine lv_icmp_ge (tgt := 31) hx hb dX12_isSmall_5 (by decide) (fun kc2 => ?_) (fun kc2 => ?_)
  · refine lv_iconst (v := 0) hx hb dX12_isSmall_31 (by decide) ?_
    exact q_retz hE hr hlocks hW (Or.inl rfl) (⟨((q_c (k := 0) (x := 0) (by decide)).w (by decide) (by decide)), (fun q_h => absurd rfl q_h), (fun q_h => absurd rfl q_h)⟩) dX12_isSmall_32
  · have kv3 : q_V 0 199 i1 := (q_lt1 w1 vkx1 (Int32.not_le.mp kc2)).w (by decide) (by decide)
    have kv4 : q_V 1 200 kx1 := (q_lt2 w1 vkx1 (Int32.not_le.mp kc2)).w (by decide) (by decide)
    refine lv_aload_n hx hb dX12_isSmall_8 rfl (lv_at hl 0 rfl) ?_
    refine q_getr hE hW h0 rfl q_k12 10 (by decide) rfl (hE.l wl_136) dX12_isSmall_9 (fun kb5 ekb5 hkb5a hkb5b => ?_)
    have hkb5 : q_T G kb5 = 47 := q_tag hkb5a hkb5b
    refine lv_iload_n hx hb dX12_isSmall_12 rfl (lv_at hl 1 rfl) ?_
    refine q_iald hE hW hkb5 rfl (q_in kv3 (by decide) (by decide)) dX12_isSmall_13 (fun kx6 ekx6 gkx6 => ?_)
    refine lv_i2l (v := kx6.toInt64) hx hb dX12_isSmall_14 rfl ?_
    refine lv_ldc2 (v := 97) hx hb hE.1.2.2.2.1 (hE.w wl_375) dX12_isSmall_15 ?_
    refine lv_ldc2 (v := 122) hx hb hE.1.2.2.2.1 (hE.w wl_376) dX12_isSmall_18 ?_
    refine q_goi hW (q_runS (As := [.long (kx6).toInt64, .long 97, .long 122]) (rest := []) hE hW (c_X12_in l G σ ((kx6).toInt64) 97 122) kw_X12_99 rfl hl.1 rfl (Nat.le_of_ble_eq_true rfl) dX12_isSmall_21 ⟨by decide, by decide⟩ ⟨by decide, by decide⟩) (by decide) (fun kx10 ks8 H locs kp7 kf9 hW => ?_)
    refine lv_if_eq (tgt := 31) hx hb dX12_isSmall_24 (by decide) (fun kc11 => ?_) (fun kc11 => ?_)
    · have kv12 : q_V 0 0 kx10 := q_eq1 kp7.1 (q_c (k := 0) (x := 0) (by decide)) kc11 (by decide) (by decide)
      refine lv_iconst (v := 0) hx hb dX12_isSmall_31 (by decide) ?_
      exact q_retz hE hr hlocks hW (Or.inl rfl) (⟨((q_c (k := 0) (x := 0) (by decide)).w (by decide) (by decide)), (fun q_h => absurd rfl q_h), (fun q_h => absurd rfl q_h)⟩) dX12_isSmall_32
    · have kv13 : q_V 97 122 kx6 := q_inV (kp7.2.1 kc11).1 (kp7.2.1 kc11).2 (q_lc (k := 97) (x := 97) (by decide)) (q_lc (k := 122) (x := 122) (by decide))
      have kv14 : q_V 1 1 kx10 := q_ne1 kp7.1 (q_c (k := 0) (x := 0) (by decide)) kc11 (by decide)
      refine lv_iconst (v := 1) hx hb dX12_isSmall_27 (by decide) ?_
      refine lv_goto (tgt := 32) hx hb dX12_isSmall_28 (by decide) ?_
      exact q_retz hE hr hlocks hW (Or.inr rfl) (⟨((q_c (k := 1) (x := 1) (by decide)).w (by decide) (by decide)), (fun _ => kv3), (fun _ => by rw [ekx1]; exact Int32.lt_iff_toInt_lt.mp (Int32.not_le.mp kc2))⟩) dX12_isSmall_32
set_option maxHeartbeats 4000000 in
set_option maxRecDepth 100000 in
theorem c_X12_isDigit (l : Launch) (G : q_G) (σ : q_S) (a0 : Nat) (h0 : q_T G a0 = 40) (i1 : Int32) (w1 : q_V 0 2147483647 i1)  : Met l yX12_isDigit (Cond.code yX12_isDigit cX12_isDigit 2 (some .boolean) :: wsL_law) (q_Rm 2) (q_Pre G σ [.ref a0, .int i1]) (q_Qi G [] σ (fun r σ1 => q_V 0 1 r ∧ (r ≠ 0 → q_V 0 199 i1) ∧ (r ≠ 0 → i1.toInt < (q_I σ a0 11).toInt))) 0 0 (q_N G) := by
  refine q_ofW (ts := []) (by decide) (Nat.le_of_ble_eq_true rfl) ?_
  intro p e s m args below meth c hE hr hlocks hW ls hl
  have hE : q_E G p s m args c cX12_isDigit 2 RX12 := hE
  have hx := hE.1.1
  have hb := hE.1.2.1
  have hl : lv_has ls 2 [(0, .ref a0), (1, .int i1)] := hl
  refine lv_iload_n hx hb dX12_isDigit_0 rfl (lv_at hl 1 rfl) ?_
  refine lv_aload_n hx hb dX12_isDigit_1 rfl (lv_at hl 0 rfl) ?_
  refine q_geti hE hW h0 rfl q_k12 11 (by decide) rfl (hE.l wl_171) dX12_isDigit_2 (fun kx1 ekx1 vkx1 => ?_)
  refine lv_icmp_ge (tgt := 31) hx hb dX12_isDigit_5 (by decide) (fun kc2 => ?_) (fun kc2 => ?_)
  · refine lv_iconst (v := 0) hx hb dX12_isDigit_31 (by decide) ?_
    exact q_retz hE hr hlocks hW (Or.inl rfl) (⟨((q_c (k := 0) (x := 0) (by decide)).w (by decide) (by decide)), (fun q_h => absurd rfl q_h), (fun q_h => absurd rfl q_h)⟩) dX12_isDigit_32
  · have kv3 : q_V 0 199 i1 := (q_lt1 w1 vkx1 (Int32.not_le.mp kc2)).w (by decide) (by decide)
    have kv4 : q_V 1 200 kx1 := (q_lt2 w1 vkx1 (Int32.not_le.mp kc2)).w (by decide) (by decide)
    refine lv_aload_n hx hb dX12_isDigit_8 rfl (lv_at hl 0 rfl) ?_
    refine q_getr hE hW h0 rfl q_k12 10 (by decide) rfl (hE.l wl_136) dX12_isDigit_9 (fun kb5 ekb5 hkb5a hkb5b => ?_)
    have hkb5 : q_T G kb5 = 47 := q_tag hkb5a hkb5b
    refine lv_iload_n hx hb dX12_isDigit_12 rfl (lv_at hl 1 rfl) ?_
    refine q_iald hE hW hkb5 rfl (q_in kv3 (by decide) (by decide)) dX12_isDigit_13 (fun kx6 ekx6 gkx6 => ?_)
    refine lv_i2l (v := kx6.toInt64) hx hb dX12_isDigit_14 rfl ?_
    refine lv_ldc2 (v := 48) hx hb hE.1.2.2.2.1 (hE.w wl_381) dX12_isDigit_15 ?_
    refine lv_ldc2 (v := 57) hx hb hE.1.2.2.2.1 (hE.w wl_382) dX12_isDigit_18 ?_
    refine q_goi hW (q_runS (As := [.long (kx6).toInt64, .long 48, .long 57]) (rest := []) hE hW (c_X12_in l G σ ((kx6).toInt64) 48 57) kw_X12_99 rfl hl.1 rfl (Nat.le_of_ble_eq_true rfl) dX12_isDigit_21 ⟨by decide, by decide⟩ ⟨by decide, by decide⟩) (by decide) (fun kx10 ks8 H locs kp7 kf9 hW => ?_)
    refine lv_if_eq (tgt := 31) hx hb dX12_isDigit_24 (by decide) (fun kc11 => ?_) (fun kc11 => ?_)
    · have kv12 : q_V 0 0 kx10 := q_eq1 kp7.1 (q_c (k := 0) (x := 0) (by decide)) kc11 (by decide) (by decide)
      refine lv_iconst (v := 0) hx hb dX12_isDigit_31 (by decide) ?_
      exact q_retz hE hr hlocks hW (Or.inl rfl) (⟨((q_c (k := 0) (x := 0) (by decide)).w (by decide) (by decide)), (fun q_h => absurd rfl q_h), (fun q_h => absurd rfl q_h)⟩) dX12_isDigit_32
    · have kv13 : q_V 48 57 kx6 := q_inV (kp7.2.1 kc11).1 (kp7.2.1 kc11).2 (q_lc (k := 48) (x := 48) (by decide)) (q_lc (k := 57) (x := 57) (by decide))
      have kv14 : q_V 1 1 kx10 := q_ne1 kp7.1 (q_c (k := 0) (x := 0) (by decide)) kc11 (by decide)
      refine lv_iconst (v := 1) hx hb dX12_isDigit_27 (by decide) ?_
      refine lv_goto (tgt := 32) hx hb dX12_isDigit_28 (by decide) ?_
      exact q_retz hE hr hlocks hW (Or.inr rfl) (⟨((q_c (k := 1) (x := 1) (by decide)).w (by decide) (by decide)), (fun _ => kv3), (fun _ => by rw [ekx1]; exact Int32.lt_iff_toInt_lt.mp (Int32.not_le.mp kc2))⟩) dX12_isDigit_32
set_option maxHeartbeats 4000000 in
set_option maxRecDepth 100000 in
theorem c_X12_isClean (l : Launch) (G : q_G) (σ : q_S) (a0 : Nat) (h0 : q_T G a0 = 40) (i1 : Int32) (w1 : q_V 0 5 i1)  : Met l yX12_isClean (Cond.code yX12_isClean cX12_isClean 4 (some .boolean) :: wsL_law) (q_Rm 1) (q_Pre G σ [.ref a0, .int i1]) (q_Qi G [] σ (fun r σ1 => q_V 0 1 r)) 0 0 (q_N G) := by
  refine q_ofW (ts := []) (by decide) (Nat.le_of_ble_eq_true rfl) ?_
  intro p e s m args below meth c hE hr hlocks hW ls hl
  have hE : q_E G p s m args c cX12_isClean 4 RX12 := hE
  have hx := hE.1.1
  have hb := hE.1.2.1
  have hl : lv_has ls 4 [(0, .ref a0), (1, .int i1)] := hl
  have lp4a : ∀ (n4a : Nat) (kx1 : Int32) (vkx1 : q_V 0 1 kx1) (kx2 : Int32) (vkx2 : q_V 0 6 kx2) (ls : Array Slot) (hl : lv_has ls 4 [(0, .ref a0), (1, .int i1), (2, .int kx1), (3, .int kx2)]), (6 - kx2.toInt).toNat < n4a → W p l e (q_Rm 1) s m args below meth c s.heap [] 0 0 (MQ below (q_Qi G [] σ (fun r σ1 => q_V 0 1 r)) args s 0 0 (q_N G)) (F0 m 4 ls []) := by
    intro n4a
    induction n4a with
    | zero => intro _ _ _ _ _ _; exact fun h => absurd h (Nat.not_lt_zero _)
    | succ n4a ih4a =>
      intro kx1 vkx1 kx2 vkx2 ls hl hm4a
      have jn36a : ∀ (kv3 : q_V 0 5 kx2) (kx4 : Int32) (vkx4 : q_V 0 1 kx4) (ls : Array Slot) (hl : lv_has ls 4 [(0, .ref a0), (1, .int i1), (3, .int kx2)]), W p l e (q_Rm 1) s m args below meth c s.heap [] 0 0 (MQ below (q_Qi G [] σ (fun r σ1 => q_V 0 1 r)) args s 0 0 (q_N G)) (F0 m 36 ls [.int kx4]) := by
        intro kv3 kx4 vkx4 ls hl
        refine lv_istore_n (lv' := [(2, .int kx4), (0, .ref a0), (1, .int i1), (3, .int kx2)]) hx hb dX12_isClean_36 rfl hl (by decide) rfl (fun ls hl => ?_)
        obtain ⟨kx5, ekx5⟩ : ∃ y : Int32, y = kx2 + 1 := ⟨_, rfl⟩
        have vkx5 : q_V 1 6 kx5 := by rw [ekx5]; exact (q_add kv3 (q_c (k := 1) (x := 1) (by decide)) (by decide) (by decide)).w (by decide) (by decide)
        have ikx5 : kx5.toInt = kx2.toInt + 1 := q_incT ekx5 kv3 (by decide) (by decide) (by decide)
        refine lv_iinc (v := kx5) (lv' := [(3, .int kx5), (2, .int kx4), (0, .ref a0), (1, .int i1)]) hx hb dX12_isClean_37 hl (k := 3) rfl (by rw [ekx5]; rfl) (by decide) rfl (fun ls hl => ?_)
        refine lv_goto (tgt := 4) hx hb dX12_isClean_40 (by decide) ?_
        exact ih4a kx4 vkx4 kx5 (vkx5.w (by decide) (by decide)) ls (lv_sub hl [2, 3, 1, 0] rfl) (Nat.lt_of_lt_of_le (q_up (ikx5) (show q_V 1 6 kx5 from vkx5).2) (Nat.le_of_lt_succ hm4a))
      have jn35a : ∀ (kv6 : q_V 0 5 kx2) (ls : Array Slot) (hl : lv_has ls 4 [(0, .ref a0), (1, .int i1), (3, .int kx2)]), W p l e (q_Rm 1) s m args below meth c s.heap [] 0 0 (MQ below (q_Qi G [] σ (fun r σ1 => q_V 0 1 r)) args s 0 0 (q_N G)) (F0 m 35 ls []) := by
        intro kv6 ls hl
        refine lv_iconst (v := 0) hx hb dX12_isClean_35 (by decide) ?_
        exact jn36a kv6 0 ((q_c (k := 0) (x := 0) (by decide)).w (by decide) (by decide)) ls (lv_sub hl [0, 1, 2] rfl)
      refine lv_iload_n hx hb dX12_isClean_4 rfl (lv_at hl 3 rfl) ?_
      refine lv_bipush (v := 6) hx hb dX12_isClean_5 (by decide) ?_
      refine lv_icmp_ge (tgt := 43) hx hb dX12_isClean_7 (by decide) (fun kc7 => ?_) (fun kc7 => ?_)
      · have kv8 : q_V 6 6 kx2 := (q_le2 (q_c (k := 6) (x := 6) (by decide)) vkx2 kc7).w (by decide) (by decide)
        refine lv_iload_n hx hb dX12_isClean_43 rfl (lv_at hl 2 rfl) ?_
        exact q_retz hE hr hlocks hW (q_01 vkx1) (vkx1) dX12_isClean_44
      · have kv9 : q_V 0 5 kx2 := (q_lt1 vkx2 (q_c (k := 6) (x := 6) (by decide)) (Int32.not_le.mp kc7)).w (by decide) (by decide)
        refine lv_iload_n hx hb dX12_isClean_10 rfl (lv_at hl 2 rfl) ?_
        refine lv_if_eq (tgt := 35) hx hb dX12_isClean_11 (by decide) (fun kc10 => ?_) (fun kc10 => ?_)
        · have kv11 : q_V 0 0 kx1 := q_eq1 vkx1 (q_c (k := 0) (x := 0) (by decide)) kc10 (by decide) (by decide)
          exact jn35a kv9 ls (lv_sub hl [0, 1, 3] rfl)
        · have kv12 : q_V 1 1 kx1 := q_ne1 vkx1 (q_c (k := 0) (x := 0) (by decide)) kc10 (by decide)
          refine lv_aload_n hx hb dX12_isClean_14 rfl (lv_at hl 0 rfl) ?_
          refine q_getr hE hW h0 rfl q_k12 9 (by decide) rfl (hE.l wl_135) dX12_isClean_15 (fun kb13 ekb13 hkb13a hkb13b => ?_)
          have hkb13 : q_T G kb13 = 46 := q_tag hkb13a hkb13b
          refine lv_bipush (v := 18) hx hb dX12_isClean_18 (by decide) ?_
          refine lv_bipush (v := 6) hx hb dX12_isClean_20 (by decide) ?_
          refine lv_iload_n hx hb dX12_isClean_22 rfl (lv_at hl 1 rfl) ?_
          refine lv_imul hx hb dX12_isClean_23 ?_
          refine lv_topi (fun kx14 ekx14 => ?_)
          have vkx14 : q_V 0 30 kx14 := by rw [ekx14]; exact (q_mul (k := 6) (by decide) w1 (by decide) (by decide) (by decide)).w (by decide) (by decide)
          refine lv_iadd hx hb dX12_isClean_24 ?_
          refine lv_topi (fun kx15 ekx15 => ?_)
          have vkx15 : q_V 18 48 kx15 := by rw [ekx15]; exact (q_add (q_c (k := 18) (x := 18) (by decide)) vkx14 (by decide) (by decide)).w (by decide) (by decide)
          refine lv_iload_n hx hb dX12_isClean_25 rfl (lv_at hl 3 rfl) ?_
          refine lv_iadd hx hb dX12_isClean_26 ?_
          refine lv_topi (fun kx16 ekx16 => ?_)
          have vkx16 : q_V 18 53 kx16 := by rw [ekx16]; exact (q_add vkx15 kv9 (by decide) (by decide)).w (by decide) (by decide)
          refine q_iald hE hW hkb13 rfl (q_in vkx16 (by decide) (by decide)) dX12_isClean_27 (fun kx17 ekx17 gkx17 => ?_)
          refine lv_if_ne (tgt := 35) hx hb dX12_isClean_28 (by decide) (fun kc18 => ?_) (fun kc18 => ?_)
          · exact jn35a kv9 ls (lv_sub hl [0, 1, 3] rfl)
          · have kv19 : q_V 0 0 kx17 := q_eq1 (q_all kx17) (q_c (k := 0) (x := 0) (by decide)) kc18 (by decide) (by decide)
            refine lv_iconst (v := 1) hx hb dX12_isClean_31 (by decide) ?_
            refine lv_goto (tgt := 36) hx hb dX12_isClean_32 (by decide) ?_
            exact jn36a kv9 1 ((q_c (k := 1) (x := 1) (by decide)).w (by decide) (by decide)) ls (lv_sub hl [0, 1, 3] rfl)
  refine lv_iconst (v := 1) hx hb dX12_isClean_0 (by decide) ?_
  refine lv_istore_n (lv' := [(2, .int 1), (0, .ref a0), (1, .int i1)]) hx hb dX12_isClean_1 rfl hl (by decide) rfl (fun ls hl => ?_)
  refine lv_iconst (v := 0) hx hb dX12_isClean_2 (by decide) ?_
  refine lv_istore_n (lv' := [(3, .int 0), (2, .int 1), (0, .ref a0), (1, .int i1)]) hx hb dX12_isClean_3 rfl hl (by decide) rfl (fun ls hl => ?_)
  exact lp4a _ 1 ((q_c (k := 1) (x := 1) (by decide)).w (by decide) (by decide)) 0 ((q_c (k := 0) (x := 0) (by decide)).w (by decide) (by decide)) ls (lv_sub hl [2, 3, 1, 0] rfl) (Nat.lt_succ_self _)
set_option maxHeartbeats 4000000 in
set_option maxRecDepth 100000 in
theorem c_X12_isDry (l : Launch) (G : q_G) (σ : q_S) (a0 : Nat) (h0 : q_T G a0 = 40) (i1 : Int32) (w1 : q_V 0 5 i1)  : Met l yX12_isDry (Cond.code yX12_isDry cX12_isDry 2 (some .boolean) :: wsL_law) (q_Rm 2) (q_Pre G σ [.ref a0, .int i1]) (q_Qi G [] σ (fun r σ1 => q_V 0 1 r)) 0 0 (q_N G) := by
  refine q_ofW (ts := []) (by decide) (Nat.le_of_ble_eq_true rfl) ?_
  intro p e s m args below meth c hE hr hlocks hW ls hl
  have hE : q_E G p s m args c cX12_isDry 2 RX12 := hE
  have hx := hE.1.1
  have hb := hE.1.2.1
  have hl : lv_has ls 2 [(0, .ref a0), (1, .int i1)] := hl
  refine lv_aload_n hx hb dX12_isDry_0 rfl (lv_at hl 0 rfl) ?_
  refine q_getr hE hW h0 rfl q_k12 9 (by decide) rfl (hE.l wl_135) dX12_isDry_1 (fun kb1 ekb1 hkb1a hkb1b => ?_)
  have hkb1 : q_T G kb1 = 46 := q_tag hkb1a hkb1b
  refine lv_bipush (v := 6) hx hb dX12_isDry_4 (by decide) ?_
  refine lv_iload_n hx hb dX12_isDry_6 rfl (lv_at hl 1 rfl) ?_
  refine lv_iadd hx hb dX12_isDry_7 ?_
  refine lv_topi (fun kx2 ekx2 => ?_)
  have vkx2 : q_V 6 11 kx2 := by rw [ekx2]; exact (q_add (q_c (k := 6) (x := 6) (by decide)) w1 (by decide) (by decide)).w (by decide) (by decide)
  refine q_iald hE hW hkb1 rfl (q_in vkx2 (by decide) (by decide)) dX12_isDry_8 (fun kx3 ekx3 gkx3 => ?_)
  refine lv_iconst (v := 2) hx hb dX12_isDry_9 (by decide) ?_
  refine lv_icmp_ne (tgt := 38) hx hb dX12_isDry_10 (by decide) (fun kc4 => ?_) (fun kc4 => ?_)
  · refine lv_iconst (v := 0) hx hb dX12_isDry_38 (by decide) ?_
    exact q_retz hE hr hlocks hW (Or.inl rfl) (((q_c (k := 0) (x := 0) (by decide)).w (by decide) (by decide))) dX12_isDry_39
  · have kv5 : q_V 2 2 kx3 := q_eq1 (q_all kx3) (q_c (k := 2) (x := 2) (by decide)) kc4 (by decide) (by decide)
    refine lv_aload_n hx hb dX12_isDry_13 rfl (lv_at hl 0 rfl) ?_
    refine q_getr hE hW h0 rfl q_k12 9 (by decide) rfl (hE.l wl_135) dX12_isDry_14 (fun kb6 ekb6 hkb6a hkb6b => ?_)
    obtain rfl : kb1 = kb6 := ekb1.symm.trans ekb6
    refine lv_bipush (v := 12) hx hb dX12_isDry_17 (by decide) ?_
    refine lv_iload_n hx hb dX12_isDry_19 rfl (lv_at hl 1 rfl) ?_
    refine lv_iadd hx hb dX12_isDry_20 ?_
    refine lv_topi (fun kx7 ekx7 => ?_)
    have vkx7 : q_V 12 17 kx7 := by rw [ekx7]; exact (q_add (q_c (k := 12) (x := 12) (by decide)) w1 (by decide) (by decide)).w (by decide) (by decide)
    refine q_iald hE hW hkb1 rfl (q_in vkx7 (by decide) (by decide)) dX12_isDry_21 (fun kx8 ekx8 gkx8 => ?_)
    refine lv_aload_n hx hb dX12_isDry_22 rfl (lv_at hl 0 rfl) ?_
    refine q_getr hE hW h0 rfl q_k12 1 (by decide) rfl (hE.l wl_129) dX12_isDry_23 (fun kb9 ekb9 hkb9a hkb9b => ?_)
    have hkb9 : q_T G kb9 = 41 := q_tag hkb9a hkb9b
    refine lv_iload_n hx hb dX12_isDry_26 rfl (lv_at hl 1 rfl) ?_
    refine q_iald hE hW hkb9 rfl (q_in w1 (by decide) (by decide)) dX12_isDry_27 (fun kx10 ekx10 gkx10 => ?_)
    refine q_goi hW (q_runS (As := [.int kx10]) (rest := [.int kx8]) hE hW (c_X12_driesBy l G σ kx10) kw_X12_229 rfl hl.1 rfl (Nat.le_of_ble_eq_true rfl) dX12_isDry_28 ⟨by decide, by decide⟩ ⟨by decide, by decide⟩) (by decide) (fun kx14 ks12 H locs kp11 kf13 hW => ?_)
    refine lv_icmp_lt (tgt := 38) hx hb dX12_isDry_31 (by decide) (fun kc15 => ?_) (fun kc15 => ?_)
    · have kv16 : q_V (-2147483648) 3 kx8 := (q_lt1 (q_all kx8) kp11 kc15).w (by decide) (by decide)
      refine lv_iconst (v := 0) hx hb dX12_isDry_38 (by decide) ?_
      exact q_retz hE hr hlocks hW (Or.inl rfl) (((q_c (k := 0) (x := 0) (by decide)).w (by decide) (by decide))) dX12_isDry_39
    · have kv17 : q_V 1 2147483647 kx8 := (q_le2 kp11 (q_all kx8) (Int32.not_lt.mp kc15)).w (by decide) (by decide)
      refine lv_iconst (v := 1) hx hb dX12_isDry_34 (by decide) ?_
      refine lv_goto (tgt := 39) hx hb dX12_isDry_35 (by decide) ?_
      exact q_retz hE hr hlocks hW (Or.inr rfl) (((q_c (k := 1) (x := 1) (by decide)).w (by decide) (by decide))) dX12_isDry_39
set_option maxHeartbeats 4000000 in
set_option maxRecDepth 100000 in
theorem c_X12_whoHas (l : Launch) (G : q_G) (σ : q_S) (a0 : Nat) (h0 : q_T G a0 = 40) (i1 : Int32)  : Met l yX12_whoHas (Cond.code yX12_whoHas cX12_whoHas 4 (some .int) :: wsL_law) (q_Rm 1) (q_Pre G σ [.ref a0, .int i1]) (q_Qi G [] σ (fun r σ1 => q_V (-1) 2 r)) 0 0 (q_N G) := by
  refine q_ofW (ts := []) (by decide) (Nat.le_of_ble_eq_true rfl) ?_
  intro p e s m args below meth c hE hr hlocks hW ls hl
  have hE : q_E G p s m args c cX12_whoHas 4 RX12 := hE
  have hx := hE.1.1
  have hb := hE.1.2.1
  have hl : lv_has ls 4 [(0, .ref a0), (1, .int i1)] := hl
  have lp4a : ∀ (n4a : Nat) (kx1 : Int32) (vkx1 : q_V (-1) 2 kx1) (kx2 : Int32) (vkx2 : q_V 0 3 kx2) (ls : Array Slot) (hl : lv_has ls 4 [(0, .ref a0), (1, .int i1), (2, .int kx1), (3, .int kx2)]), (3 - kx2.toInt).toNat < n4a → W p l e (q_Rm 1) s m args below meth c s.heap [] 0 0 (MQ below (q_Qi G [] σ (fun r σ1 => q_V (-1) 2 r)) args s 0 0 (q_N G)) (F0 m 4 ls []) := by
    intro n4a
    induction n4a with
    | zero => intro _ _ _ _ _ _; exact fun h => absurd h (Nat.not_lt_zero _)
    | succ n4a ih4a =>
      intro kx1 vkx1 kx2 vkx2 ls hl hm4a
      have jn30a : ∀ (kv3 : q_V 0 2 kx2) (kx4 : Int32) (vkx4 : q_V (-1) 2 kx4) (ls : Array Slot) (hl : lv_has ls 4 [(0, .ref a0), (1, .int i1), (3, .int kx2)]), W p l e (q_Rm 1) s m args below meth c s.heap [] 0 0 (MQ below (q_Qi G [] σ (fun r σ1 => q_V (-1) 2 r)) args s 0 0 (q_N G)) (F0 m 30 ls [.int kx4]) := by
        intro kv3 kx4 vkx4 ls hl
        refine lv_istore_n (lv' := [(2, .int kx4), (0, .ref a0), (1, .int i1), (3, .int kx2)]) hx hb dX12_whoHas_30 rfl hl (by decide) rfl (fun ls hl => ?_)
        obtain ⟨kx5, ekx5⟩ : ∃ y : Int32, y = kx2 + 1 := ⟨_, rfl⟩
        have vkx5 : q_V 1 3 kx5 := by rw [ekx5]; exact (q_add kv3 (q_c (k := 1) (x := 1) (by decide)) (by decide) (by decide)).w (by decide) (by decide)
        have ikx5 : kx5.toInt = kx2.toInt + 1 := q_incT ekx5 kv3 (by decide) (by decide) (by decide)
        refine lv_iinc (v := kx5) (lv' := [(3, .int kx5), (2, .int kx4), (0, .ref a0), (1, .int i1)]) hx hb dX12_whoHas_31 hl (k := 3) rfl (by rw [ekx5]; rfl) (by decide) rfl (fun ls hl => ?_)
        refine lv_goto (tgt := 4) hx hb dX12_whoHas_34 (by decide) ?_
        exact ih4a kx4 vkx4 kx5 (vkx5.w (by decide) (by decide)) ls (lv_sub hl [2, 3, 1, 0] rfl) (Nat.lt_of_lt_of_le (q_up (ikx5) (show q_V 1 3 kx5 from vkx5).2) (Nat.le_of_lt_succ hm4a))
      refine lv_iload_n hx hb dX12_whoHas_4 rfl (lv_at hl 3 rfl) ?_
      refine lv_aload_n hx hb dX12_whoHas_5 rfl (lv_at hl 0 rfl) ?_
      refine q_geti hE hW h0 rfl q_k12 5 (by decide) rfl (hE.l wl_360) dX12_whoHas_6 (fun kx6 ekx6 vkx6 => ?_)
      refine lv_icmp_ge (tgt := 37) hx hb dX12_whoHas_9 (by decide) (fun kc7 => ?_) (fun kc7 => ?_)
      · refine lv_iload_n hx hb dX12_whoHas_37 rfl (lv_at hl 2 rfl) ?_
        exact q_reti hE hr hlocks hW (vkx1) dX12_whoHas_38
      · have kv8 : q_V 0 2 kx2 := (q_lt1 vkx2 vkx6 (Int32.not_le.mp kc7)).w (by decide) (by decide)
        have kv9 : q_V 1 3 kx6 := (q_lt2 vkx2 vkx6 (Int32.not_le.mp kc7)).w (by decide) (by decide)
        refine lv_aload_n hx hb dX12_whoHas_12 rfl (lv_at hl 0 rfl) ?_
        refine q_getr hE hW h0 rfl q_k12 9 (by decide) rfl (hE.l wl_135) dX12_whoHas_13 (fun kb10 ekb10 hkb10a hkb10b => ?_)
        have hkb10 : q_T G kb10 = 46 := q_tag hkb10a hkb10b
        refine lv_bipush (v := 54) hx hb dX12_whoHas_16 (by decide) ?_
        refine lv_iload_n hx hb dX12_whoHas_18 rfl (lv_at hl 3 rfl) ?_
        refine lv_iadd hx hb dX12_whoHas_19 ?_
        refine lv_topi (fun kx11 ekx11 => ?_)
        have vkx11 : q_V 54 56 kx11 := by rw [ekx11]; exact (q_add (q_c (k := 54) (x := 54) (by decide)) kv8 (by decide) (by decide)).w (by decide) (by decide)
        refine q_iald hE hW hkb10 rfl (q_in vkx11 (by decide) (by decide)) dX12_whoHas_20 (fun kx12 ekx12 gkx12 => ?_)
        have vkx12 : q_V (-1) 5 kx12 := (gkx12 (q_nat (A := 54) (B := 56) vkx11 (by decide) (by decide)).1 (q_nat (A := 54) (B := 56) vkx11 (by decide) (by decide)).2)
        refine lv_iload_n hx hb dX12_whoHas_21 rfl (lv_at hl 1 rfl) ?_
        refine lv_icmp_ne (tgt := 29) hx hb dX12_whoHas_22 (by decide) (fun kc13 => ?_) (fun kc13 => ?_)
        · refine lv_iload_n hx hb dX12_whoHas_29 rfl (lv_at hl 2 rfl) ?_
          exact jn30a kv8 kx1 vkx1 ls (lv_sub hl [0, 1, 3] rfl)
        · have kv14 : q_V (-1) 5 i1 := q_eq2 vkx12 (q_all i1) kc13 (by decide) (by decide)
          refine lv_iload_n hx hb dX12_whoHas_25 rfl (lv_at hl 3 rfl) ?_
          refine lv_goto (tgt := 30) hx hb dX12_whoHas_26 (by decide) ?_
          exact jn30a kv8 kx2 (kv8.w (by decide) (by decide)) ls (lv_sub hl [0, 1, 3] rfl)
  refine lv_iconst (v := (-1)) hx hb dX12_whoHas_0 (by decide) ?_
  refine lv_istore_n (lv' := [(2, .int (-1)), (0, .ref a0), (1, .int i1)]) hx hb dX12_whoHas_1 rfl hl (by decide) rfl (fun ls hl => ?_)
  refine lv_iconst (v := 0) hx hb dX12_whoHas_2 (by decide) ?_
  refine lv_istore_n (lv' := [(3, .int 0), (2, .int (-1)), (0, .ref a0), (1, .int i1)]) hx hb dX12_whoHas_3 rfl hl (by decide) rfl (fun ls hl => ?_)
  exact lp4a _ (-1) ((q_c (k := (-1)) (x := (-1)) (by decide)).w (by decide) (by decide)) 0 ((q_c (k := 0) (x := 0) (by decide)).w (by decide) (by decide)) ls (lv_sub hl [2, 3, 1, 0] rfl) (Nat.lt_succ_self _)
set_option maxHeartbeats 4000000 in
set_option maxRecDepth 100000 in
theorem c_X12_cloud (l : Launch) (G : q_G) (σ : q_S) (a0 : Nat) (h0 : q_T G a0 = 40) (i1 : Int32) (i2 : Int32)  : Met l yX12_cloud (Cond.code yX12_cloud cX12_cloud 3 (some .int) :: wsL_law) (q_Rm 3) (q_Pre G σ [.ref a0, .int i1, .int i2]) (q_Qi G [] σ (fun r σ1 => q_V (-2147483648) 2147483647 r)) 0 0 (q_N G) := by
  refine q_ofW (ts := []) (by decide) (Nat.le_of_ble_eq_true rfl) ?_
  intro p e s m args below meth c hE hr hlocks hW ls hl
  have hE : q_E G p s m args c cX12_cloud 3 RX12 := hE
  have hx := hE.1.1
  have hb := hE.1.2.1
  have hl : lv_has ls 3 [(0, .ref a0), (1, .int i1), (2, .int i2)] := hl
  refine lv_aload_n hx hb dX12_cloud_0 rfl (lv_at hl 0 rfl) ?_
  refine lv_iload_n hx hb dX12_cloud_1 rfl (lv_at hl 1 rfl) ?_
  refine q_goi hW (q_runV (As := [.int i1]) (rest := []) hE hW (c_X12_isCloud l G σ a0 h0 i1) kw_X12_233 (q_recv hE hW h0 rfl q_k12) rfl hl.1 rfl (Nat.le_of_ble_eq_true rfl) dX12_cloud_2 ⟨by decide, by decide⟩ ⟨by decide, by decide⟩) (by decide) (fun kx4 ks2 H locs kp1 kf3 hW => ?_)
  refine lv_if_ne (tgt := 11) hx hb dX12_cloud_5 (by decide) (fun kc5 => ?_) (fun kc5 => ?_)
  · have kv6 : q_V 0 5 i1 := kp1.2 kc5
    have kv7 : q_V 1 1 kx4 := q_ne1 kp1.1 (q_c (k := 0) (x := 0) (by decide)) kc5 (by decide)
    refine lv_iload_n hx hb dX12_cloud_11 rfl (lv_at hl 2 rfl) ?_
    rcases q_sw i2 0 7 with kc8 | kc8
    · refine lv_tableOut (tgt := 154) hx hb dX12_cloud_12 kc8 (by decide) ?_
      refine lv_bipush (v := (-3)) hx hb dX12_cloud_154 (by decide) ?_
      exact q_reti hE hr hlocks hW (((q_c (k := (-3)) (x := (-3)) (by decide)).w (by decide) (by decide))) dX12_cloud_156
    · obtain ⟨kc8a, kc8b⟩ := kc8
      by_cases kc8_0 : i2.toInt = 0
      · refine lv_tableIn (off := 48) (tgt := 60) hx hb dX12_cloud_12 (by rw [kc8_0]; decide) (by rw [kc8_0]; decide) (by rw [kc8_0]; rfl) (by decide) ?_
        have fkc8_0 : q_V 0 0 i2 := q_c kc8_0
        refine lv_aload_n hx hb dX12_cloud_60 rfl (lv_at hl 0 rfl) ?_
        refine q_getr hE hW h0 rfl q_k12 1 (by decide) rfl (hE.l wl_129) dX12_cloud_61 (fun kb9 ekb9 hkb9a hkb9b => ?_)
        have hkb9 : q_T G kb9 = 41 := q_tag hkb9a hkb9b
        refine lv_iload_n hx hb dX12_cloud_64 rfl (lv_at hl 1 rfl) ?_
        refine q_iald hE hW hkb9 rfl (q_in kv6 (by decide) (by decide)) dX12_cloud_65 (fun kx10 ekx10 gkx10 => ?_)
        exact q_reti hE hr hlocks hW ((q_all kx10)) dX12_cloud_66
      by_cases kc8_1 : i2.toInt = 1
      · refine lv_tableIn (off := 55) (tgt := 67) hx hb dX12_cloud_12 (by rw [kc8_1]; decide) (by rw [kc8_1]; decide) (by rw [kc8_1]; rfl) (by decide) ?_
        have fkc8_1 : q_V 1 1 i2 := q_c kc8_1
        refine lv_aload_n hx hb dX12_cloud_67 rfl (lv_at hl 0 rfl) ?_
        refine q_getr hE hW h0 rfl q_k12 9 (by decide) rfl (hE.l wl_135) dX12_cloud_68 (fun kb11 ekb11 hkb11a hkb11b => ?_)
        have hkb11 : q_T G kb11 = 46 := q_tag hkb11a hkb11b
        refine lv_iconst (v := 0) hx hb dX12_cloud_71 (by decide) ?_
        refine lv_iload_n hx hb dX12_cloud_72 rfl (lv_at hl 1 rfl) ?_
        refine lv_iadd hx hb dX12_cloud_73 ?_
        refine lv_topi (fun kx12 ekx12 => ?_)
        have vkx12 : q_V 0 5 kx12 := by rw [ekx12]; exact (q_add (q_c (k := 0) (x := 0) (by decide)) kv6 (by decide) (by decide)).w (by decide) (by decide)
        refine q_iald hE hW hkb11 rfl (q_in vkx12 (by decide) (by decide)) dX12_cloud_74 (fun kx13 ekx13 gkx13 => ?_)
        exact q_reti hE hr hlocks hW ((q_all kx13)) dX12_cloud_75
      by_cases kc8_2 : i2.toInt = 2
      · refine lv_tableIn (off := 64) (tgt := 76) hx hb dX12_cloud_12 (by rw [kc8_2]; decide) (by rw [kc8_2]; decide) (by rw [kc8_2]; rfl) (by decide) ?_
        have fkc8_2 : q_V 2 2 i2 := q_c kc8_2
        refine lv_aload_n hx hb dX12_cloud_76 rfl (lv_at hl 0 rfl) ?_
        refine q_getr hE hW h0 rfl q_k12 3 (by decide) rfl (hE.l wl_131) dX12_cloud_77 (fun kb14 ekb14 hkb14a hkb14b => ?_)
        have hkb14 : q_T G kb14 = 43 := q_tag hkb14a hkb14b
        refine lv_iload_n hx hb dX12_cloud_80 rfl (lv_at hl 1 rfl) ?_
        refine q_iald hE hW hkb14 rfl (q_in kv6 (by decide) (by decide)) dX12_cloud_81 (fun kx15 ekx15 gkx15 => ?_)
        exact q_reti hE hr hlocks hW ((q_all kx15)) dX12_cloud_82
      by_cases kc8_3 : i2.toInt = 3
      · refine lv_tableIn (off := 71) (tgt := 83) hx hb dX12_cloud_12 (by rw [kc8_3]; decide) (by rw [kc8_3]; decide) (by rw [kc8_3]; rfl) (by decide) ?_
        have fkc8_3 : q_V 3 3 i2 := q_c kc8_3
        refine lv_aload_n hx hb dX12_cloud_83 rfl (lv_at hl 0 rfl) ?_
        refine q_getr hE hW h0 rfl q_k12 9 (by decide) rfl (hE.l wl_135) dX12_cloud_84 (fun kb16 ekb16 hkb16a hkb16b => ?_)
        have hkb16 : q_T G kb16 = 46 := q_tag hkb16a hkb16b
        refine lv_bipush (v := 6) hx hb dX12_cloud_87 (by decide) ?_
        refine lv_iload_n hx hb dX12_cloud_89 rfl (lv_at hl 1 rfl) ?_
        refine lv_iadd hx hb dX12_cloud_90 ?_
        refine lv_topi (fun kx17 ekx17 => ?_)
        have vkx17 : q_V 6 11 kx17 := by rw [ekx17]; exact (q_add (q_c (k := 6) (x := 6) (by decide)) kv6 (by decide) (by decide)).w (by decide) (by decide)
        refine q_iald hE hW hkb16 rfl (q_in vkx17 (by decide) (by decide)) dX12_cloud_91 (fun kx18 ekx18 gkx18 => ?_)
        exact q_reti hE hr hlocks hW ((q_all kx18)) dX12_cloud_92
      by_cases kc8_4 : i2.toInt = 4
      · refine lv_tableIn (off := 81) (tgt := 93) hx hb dX12_cloud_12 (by rw [kc8_4]; decide) (by rw [kc8_4]; decide) (by rw [kc8_4]; rfl) (by decide) ?_
        have fkc8_4 : q_V 4 4 i2 := q_c kc8_4
        refine lv_aload_n hx hb dX12_cloud_93 rfl (lv_at hl 0 rfl) ?_
        refine lv_iload_n hx hb dX12_cloud_94 rfl (lv_at hl 1 rfl) ?_
        refine q_goi hW (q_runV (As := [.int i1]) (rest := []) hE hW (c_X12_whoHas l G ks2 a0 h0 i1) kw_X12_236 (q_recv hE hW h0 rfl q_k12) rfl hl.1 rfl (Nat.le_of_ble_eq_true rfl) dX12_cloud_95 ⟨by decide, by decide⟩ ⟨by decide, by decide⟩) (by decide) (fun kx22 ks20 H locs kp19 kf21 hW => ?_)
        exact q_reti hE hr hlocks hW ((kp19.w (by decide) (by decide))) dX12_cloud_98
      by_cases kc8_5 : i2.toInt = 5
      · refine lv_tableIn (off := 87) (tgt := 99) hx hb dX12_cloud_12 (by rw [kc8_5]; decide) (by rw [kc8_5]; decide) (by rw [kc8_5]; rfl) (by decide) ?_
        have fkc8_5 : q_V 5 5 i2 := q_c kc8_5
        refine lv_aload_n hx hb dX12_cloud_99 rfl (lv_at hl 0 rfl) ?_
        refine q_getr hE hW h0 rfl q_k12 9 (by decide) rfl (hE.l wl_135) dX12_cloud_100 (fun kb23 ekb23 hkb23a hkb23b => ?_)
        have hkb23 : q_T G kb23 = 46 := q_tag hkb23a hkb23b
        refine lv_bipush (v := 6) hx hb dX12_cloud_103 (by decide) ?_
        refine lv_iload_n hx hb dX12_cloud_105 rfl (lv_at hl 1 rfl) ?_
        refine lv_iadd hx hb dX12_cloud_106 ?_
        refine lv_topi (fun kx24 ekx24 => ?_)
        have vkx24 : q_V 6 11 kx24 := by rw [ekx24]; exact (q_add (q_c (k := 6) (x := 6) (by decide)) kv6 (by decide) (by decide)).w (by decide) (by decide)
        refine q_iald hE hW hkb23 rfl (q_in vkx24 (by decide) (by decide)) dX12_cloud_107 (fun kx25 ekx25 gkx25 => ?_)
        refine lv_iconst (v := 2) hx hb dX12_cloud_108 (by decide) ?_
        refine lv_icmp_ne (tgt := 124) hx hb dX12_cloud_109 (by decide) (fun kc26 => ?_) (fun kc26 => ?_)
        · refine lv_iconst (v := 0) hx hb dX12_cloud_124 (by decide) ?_
          exact q_reti hE hr hlocks hW (((q_c (k := 0) (x := 0) (by decide)).w (by decide) (by decide))) dX12_cloud_125
        · have kv27 : q_V 2 2 kx25 := q_eq1 (q_all kx25) (q_c (k := 2) (x := 2) (by decide)) kc26 (by decide) (by decide)
          refine lv_aload_n hx hb dX12_cloud_112 rfl (lv_at hl 0 rfl) ?_
          refine q_getr hE hW h0 rfl q_k12 9 (by decide) rfl (hE.l wl_135) dX12_cloud_113 (fun kb28 ekb28 hkb28a hkb28b => ?_)
          obtain rfl : kb23 = kb28 := ekb23.symm.trans ekb28
          refine lv_bipush (v := 12) hx hb dX12_cloud_116 (by decide) ?_
          refine lv_iload_n hx hb dX12_cloud_118 rfl (lv_at hl 1 rfl) ?_
          refine lv_iadd hx hb dX12_cloud_119 ?_
          refine lv_topi (fun kx29 ekx29 => ?_)
          have vkx29 : q_V 12 17 kx29 := by rw [ekx29]; exact (q_add (q_c (k := 12) (x := 12) (by decide)) kv6 (by decide) (by decide)).w (by decide) (by decide)
          refine q_iald hE hW hkb23 rfl (q_in vkx29 (by decide) (by decide)) dX12_cloud_120 (fun kx30 ekx30 gkx30 => ?_)
          refine lv_goto (tgt := 125) hx hb dX12_cloud_121 (by decide) ?_
          exact q_reti hE hr hlocks hW ((q_all kx30)) dX12_cloud_125
      by_cases kc8_6 : i2.toInt = 6
      · refine lv_tableIn (off := 114) (tgt := 126) hx hb dX12_cloud_12 (by rw [kc8_6]; decide) (by rw [kc8_6]; decide) (by rw [kc8_6]; rfl) (by decide) ?_
        have fkc8_6 : q_V 6 6 i2 := q_c kc8_6
        refine lv_aload_n hx hb dX12_cloud_126 rfl (lv_at hl 0 rfl) ?_
        refine lv_iload_n hx hb dX12_cloud_127 rfl (lv_at hl 1 rfl) ?_
        refine q_goi hW (q_runV (As := [.int i1]) (rest := []) hE hW (c_X12_isClean l G ks2 a0 h0 i1 kv6) kw_X12_239 (q_recv hE hW h0 rfl q_k12) rfl hl.1 rfl (Nat.le_of_ble_eq_true rfl) dX12_cloud_128 ⟨by decide, by decide⟩ ⟨by decide, by decide⟩) (by decide) (fun kx34 ks32 H locs kp31 kf33 hW => ?_)
        refine lv_if_eq (tgt := 138) hx hb dX12_cloud_131 (by decide) (fun kc35 => ?_) (fun kc35 => ?_)
        · have kv36 : q_V 0 0 kx34 := q_eq1 kp31 (q_c (k := 0) (x := 0) (by decide)) kc35 (by decide) (by decide)
          refine lv_iconst (v := 0) hx hb dX12_cloud_138 (by decide) ?_
          exact q_reti hE hr hlocks hW (((q_c (k := 0) (x := 0) (by decide)).w (by decide) (by decide))) dX12_cloud_139
        · have kv37 : q_V 1 1 kx34 := q_ne1 kp31 (q_c (k := 0) (x := 0) (by decide)) kc35 (by decide)
          refine lv_iconst (v := 1) hx hb dX12_cloud_134 (by decide) ?_
          refine lv_goto (tgt := 139) hx hb dX12_cloud_135 (by decide) ?_
          exact q_reti hE hr hlocks hW (((q_c (k := 1) (x := 1) (by decide)).w (by decide) (by decide))) dX12_cloud_139
      have kc8_7 : i2.toInt = 7 := by omega
      refine lv_tableIn (off := 128) (tgt := 140) hx hb dX12_cloud_12 (by rw [kc8_7]; decide) (by rw [kc8_7]; decide) (by rw [kc8_7]; rfl) (by decide) ?_
      have fkc8_7 : q_V 7 7 i2 := q_c kc8_7
      refine lv_aload_n hx hb dX12_cloud_140 rfl (lv_at hl 0 rfl) ?_
      refine lv_iload_n hx hb dX12_cloud_141 rfl (lv_at hl 1 rfl) ?_
      refine q_goi hW (q_runV (As := [.int i1]) (rest := []) hE hW (c_X12_isDry l G ks2 a0 h0 i1 kv6) kw_X12_242 (q_recv hE hW h0 rfl q_k12) rfl hl.1 rfl (Nat.le_of_ble_eq_true rfl) dX12_cloud_142 ⟨by decide, by decide⟩ ⟨by decide, by decide⟩) (by decide) (fun kx41 ks39 H locs kp38 kf40 hW => ?_)
      refine lv_if_eq (tgt := 152) hx hb dX12_cloud_145 (by decide) (fun kc42 => ?_) (fun kc42 => ?_)
      · have kv43 : q_V 0 0 kx41 := q_eq1 kp38 (q_c (k := 0) (x := 0) (by decide)) kc42 (by decide) (by decide)
        refine lv_iconst (v := 0) hx hb dX12_cloud_152 (by decide) ?_
        exact q_reti hE hr hlocks hW (((q_c (k := 0) (x := 0) (by decide)).w (by decide) (by decide))) dX12_cloud_153
      · have kv44 : q_V 1 1 kx41 := q_ne1 kp38 (q_c (k := 0) (x := 0) (by decide)) kc42 (by decide)
        refine lv_iconst (v := 1) hx hb dX12_cloud_148 (by decide) ?_
        refine lv_goto (tgt := 153) hx hb dX12_cloud_149 (by decide) ?_
        exact q_reti hE hr hlocks hW (((q_c (k := 1) (x := 1) (by decide)).w (by decide) (by decide))) dX12_cloud_153
  · have kv45 : q_V 0 0 kx4 := q_eq1 kp1.1 (q_c (k := 0) (x := 0) (by decide)) kc5 (by decide) (by decide)
    refine lv_bipush (v := (-2)) hx hb dX12_cloud_8 (by decide) ?_
    exact q_reti hE hr hlocks hW (((q_c (k := (-2)) (x := (-2)) (by decide)).w (by decide) (by decide))) dX12_cloud_10
set_option maxHeartbeats 4000000 in
set_option maxRecDepth 100000 in
theorem c_X12_deep (l : Launch) (G : q_G) (σ : q_S) (a0 : Nat) (h0 : q_T G a0 = 40) (i1 : Int32) (i2 : Int32)  : Met l yX12_deep (Cond.code yX12_deep cX12_deep 3 (some .int) :: wsL_law) (q_Rm 3) (q_Pre G σ [.ref a0, .int i1, .int i2]) (q_Qi G [] σ (fun r σ1 => q_V (-2147483648) 2147483647 r)) 0 0 (q_N G) := by
  refine q_ofW (ts := []) (by decide) (Nat.le_of_ble_eq_true rfl) ?_
  intro p e s m args below meth c hE hr hlocks hW ls hl
  have hE : q_E G p s m args c cX12_deep 3 RX12 := hE
  have hx := hE.1.1
  have hb := hE.1.2.1
  have hl : lv_has ls 3 [(0, .ref a0), (1, .int i1), (2, .int i2)] := hl
  refine lv_aload_n hx hb dX12_deep_0 rfl (lv_at hl 0 rfl) ?_
  refine lv_iload_n hx hb dX12_deep_1 rfl (lv_at hl 1 rfl) ?_
  refine q_goi hW (q_runV (As := [.int i1]) (rest := []) hE hW (c_X12_isCloud l G σ a0 h0 i1) kw_X12_233 (q_recv hE hW h0 rfl q_k12) rfl hl.1 rfl (Nat.le_of_ble_eq_true rfl) dX12_deep_2 ⟨by decide, by decide⟩ ⟨by decide, by decide⟩) (by decide) (fun kx4 ks2 H locs kp1 kf3 hW => ?_)
  refine lv_if_eq (tgt := 37) hx hb dX12_deep_5 (by decide) (fun kc5 => ?_) (fun kc5 => ?_)
  · have kv6 : q_V 0 0 kx4 := q_eq1 kp1.1 (q_c (k := 0) (x := 0) (by decide)) kc5 (by decide) (by decide)
    refine lv_bipush (v := (-2)) hx hb dX12_deep_37 (by decide) ?_
    exact q_reti hE hr hlocks hW (((q_c (k := (-2)) (x := (-2)) (by decide)).w (by decide) (by decide))) dX12_deep_39
  · have kv7 : q_V 0 5 i1 := kp1.2 kc5
    have kv8 : q_V 1 1 kx4 := q_ne1 kp1.1 (q_c (k := 0) (x := 0) (by decide)) kc5 (by decide)
    refine lv_iload_n hx hb dX12_deep_8 rfl (lv_at hl 2 rfl) ?_
    refine lv_i2l (v := i2.toInt64) hx hb dX12_deep_9 rfl ?_
    refine lv_lconst (v := 0) hx hb dX12_deep_10 (by decide) ?_
    refine lv_ldc2 (v := 5) hx hb hE.1.2.2.2.1 (hE.w wl_532) dX12_deep_11 ?_
    refine q_goi hW (q_runS (As := [.long (i2).toInt64, .long 0, .long 5]) (rest := []) hE hW (c_X12_in l G ks2 ((i2).toInt64) 0 5) kw_X12_99 rfl hl.1 rfl (Nat.le_of_ble_eq_true rfl) dX12_deep_14 ⟨by decide, by decide⟩ ⟨by decide, by decide⟩) (by decide) (fun kx12 ks10 H locs kp9 kf11 hW => ?_)
    refine lv_if_eq (tgt := 37) hx hb dX12_deep_17 (by decide) (fun kc13 => ?_) (fun kc13 => ?_)
    · have kv14 : q_V 0 0 kx12 := q_eq1 kp9.1 (q_c (k := 0) (x := 0) (by decide)) kc13 (by decide) (by decide)
      refine lv_bipush (v := (-2)) hx hb dX12_deep_37 (by decide) ?_
      exact q_reti hE hr hlocks hW (((q_c (k := (-2)) (x := (-2)) (by decide)).w (by decide) (by decide))) dX12_deep_39
    · have kv15 : q_V 0 5 i2 := q_inV (kp9.2.1 kc13).1 (kp9.2.1 kc13).2 (q_lc (k := 0) (x := 0) (by decide)) (q_lc (k := 5) (x := 5) (by decide))
      have kv16 : q_V 1 1 kx12 := q_ne1 kp9.1 (q_c (k := 0) (x := 0) (by decide)) kc13 (by decide)
      refine lv_aload_n hx hb dX12_deep_20 rfl (lv_at hl 0 rfl) ?_
      refine q_getr hE hW h0 rfl q_k12 9 (by decide) rfl (hE.l wl_135) dX12_deep_21 (fun kb17 ekb17 hkb17a hkb17b => ?_)
      have hkb17 : q_T G kb17 = 46 := q_tag hkb17a hkb17b
      refine lv_bipush (v := 18) hx hb dX12_deep_24 (by decide) ?_
      refine lv_bipush (v := 6) hx hb dX12_deep_26 (by decide) ?_
      refine lv_iload_n hx hb dX12_deep_28 rfl (lv_at hl 1 rfl) ?_
      refine lv_imul hx hb dX12_deep_29 ?_
      refine lv_topi (fun kx18 ekx18 => ?_)
      have vkx18 : q_V 0 30 kx18 := by rw [ekx18]; exact (q_mul (k := 6) (by decide) kv7 (by decide) (by decide) (by decide)).w (by decide) (by decide)
      refine lv_iadd hx hb dX12_deep_30 ?_
      refine lv_topi (fun kx19 ekx19 => ?_)
      have vkx19 : q_V 18 48 kx19 := by rw [ekx19]; exact (q_add (q_c (k := 18) (x := 18) (by decide)) vkx18 (by decide) (by decide)).w (by decide) (by decide)
      refine lv_iload_n hx hb dX12_deep_31 rfl (lv_at hl 2 rfl) ?_
      refine lv_iadd hx hb dX12_deep_32 ?_
      refine lv_topi (fun kx20 ekx20 => ?_)
      have vkx20 : q_V 18 53 kx20 := by rw [ekx20]; exact (q_add vkx19 kv15 (by decide) (by decide)).w (by decide) (by decide)
      refine q_iald hE hW hkb17 rfl (q_in vkx20 (by decide) (by decide)) dX12_deep_33 (fun kx21 ekx21 gkx21 => ?_)
      refine lv_goto (tgt := 39) hx hb dX12_deep_34 (by decide) ?_
      exact q_reti hE hr hlocks hW ((q_all kx21)) dX12_deep_39
set_option maxHeartbeats 4000000 in
set_option maxRecDepth 100000 in
theorem c_X12_washer (l : Launch) (G : q_G) (σ : q_S) (a0 : Nat) (h0 : q_T G a0 = 40) (i1 : Int32) (i2 : Int32)  : Met l yX12_washer (Cond.code yX12_washer cX12_washer 3 (some .int) :: wsL_law) (q_Rm 3) (q_Pre G σ [.ref a0, .int i1, .int i2]) (q_Qi G [] σ (fun r σ1 => q_V (-2147483648) 2147483647 r)) 0 0 (q_N G) := by
  refine q_ofW (ts := []) (by decide) (Nat.le_of_ble_eq_true rfl) ?_
  intro p e s m args below meth c hE hr hlocks hW ls hl
  have hE : q_E G p s m args c cX12_washer 3 RX12 := hE
  have hx := hE.1.1
  have hb := hE.1.2.1
  have hl : lv_has ls 3 [(0, .ref a0), (1, .int i1), (2, .int i2)] := hl
  refine lv_aload_n hx hb dX12_washer_0 rfl (lv_at hl 0 rfl) ?_
  refine lv_iload_n hx hb dX12_washer_1 rfl (lv_at hl 1 rfl) ?_
  refine q_goi hW (q_runV (As := [.int i1]) (rest := []) hE hW (c_X12_isWasher l G σ a0 h0 i1) kw_X12_247 (q_recv hE hW h0 rfl q_k12) rfl hl.1 rfl (Nat.le_of_ble_eq_true rfl) dX12_washer_2 ⟨by decide, by decide⟩ ⟨by decide, by decide⟩) (by decide) (fun kx4 ks2 H locs kp1 kf3 hW => ?_)
  refine lv_if_ne (tgt := 11) hx hb dX12_washer_5 (by decide) (fun kc5 => ?_) (fun kc5 => ?_)
  · have kv6 : q_V 0 2 i1 := kp1.2 kc5
    have kv7 : q_V 1 1 kx4 := q_ne1 kp1.1 (q_c (k := 0) (x := 0) (by decide)) kc5 (by decide)
    refine lv_iload_n hx hb dX12_washer_11 rfl (lv_at hl 2 rfl) ?_
    refine lv_if_ne (tgt := 24) hx hb dX12_washer_12 (by decide) (fun kc8 => ?_) (fun kc8 => ?_)
    · refine lv_iload_n hx hb dX12_washer_24 rfl (lv_at hl 2 rfl) ?_
      refine lv_iconst (v := 1) hx hb dX12_washer_25 (by decide) ?_
      refine lv_icmp_ne (tgt := 41) hx hb dX12_washer_26 (by decide) (fun kc9 => ?_) (fun kc9 => ?_)
      · refine lv_bipush (v := (-3)) hx hb dX12_washer_41 (by decide) ?_
        exact q_reti hE hr hlocks hW (((q_c (k := (-3)) (x := (-3)) (by decide)).w (by decide) (by decide))) dX12_washer_43
      · have kv10 : q_V 1 1 i2 := q_eq1 (q_all i2) (q_c (k := 1) (x := 1) (by decide)) kc9 (by decide) (by decide)
        refine lv_aload_n hx hb dX12_washer_29 rfl (lv_at hl 0 rfl) ?_
        refine q_getr hE hW h0 rfl q_k12 9 (by decide) rfl (hE.l wl_135) dX12_washer_30 (fun kb11 ekb11 hkb11a hkb11b => ?_)
        have hkb11 : q_T G kb11 = 46 := q_tag hkb11a hkb11b
        refine lv_bipush (v := 54) hx hb dX12_washer_33 (by decide) ?_
        refine lv_iload_n hx hb dX12_washer_35 rfl (lv_at hl 1 rfl) ?_
        refine lv_iadd hx hb dX12_washer_36 ?_
        refine lv_topi (fun kx12 ekx12 => ?_)
        have vkx12 : q_V 54 56 kx12 := by rw [ekx12]; exact (q_add (q_c (k := 54) (x := 54) (by decide)) kv6 (by decide) (by decide)).w (by decide) (by decide)
        refine q_iald hE hW hkb11 rfl (q_in vkx12 (by decide) (by decide)) dX12_washer_37 (fun kx13 ekx13 gkx13 => ?_)
        have vkx13 : q_V (-1) 5 kx13 := (gkx13 (q_nat (A := 54) (B := 56) vkx12 (by decide) (by decide)).1 (q_nat (A := 54) (B := 56) vkx12 (by decide) (by decide)).2)
        refine lv_goto (tgt := 43) hx hb dX12_washer_38 (by decide) ?_
        exact q_reti hE hr hlocks hW ((vkx13.w (by decide) (by decide))) dX12_washer_43
    · have kv14 : q_V 0 0 i2 := q_eq1 (q_all i2) (q_c (k := 0) (x := 0) (by decide)) kc8 (by decide) (by decide)
      refine lv_aload_n hx hb dX12_washer_15 rfl (lv_at hl 0 rfl) ?_
      refine q_getr hE hW h0 rfl q_k12 6 (by decide) rfl (hE.l wl_133) dX12_washer_16 (fun kb15 ekb15 hkb15a hkb15b => ?_)
      have hkb15 : q_T G kb15 = 45 := q_tag hkb15a hkb15b
      refine lv_iload_n hx hb dX12_washer_19 rfl (lv_at hl 1 rfl) ?_
      refine q_iald hE hW hkb15 rfl (q_in kv6 (by decide) (by decide)) dX12_washer_20 (fun kx16 ekx16 gkx16 => ?_)
      refine lv_goto (tgt := 43) hx hb dX12_washer_21 (by decide) ?_
      exact q_reti hE hr hlocks hW ((q_all kx16)) dX12_washer_43
  · have kv17 : q_V 0 0 kx4 := q_eq1 kp1.1 (q_c (k := 0) (x := 0) (by decide)) kc5 (by decide) (by decide)
    refine lv_bipush (v := (-2)) hx hb dX12_washer_8 (by decide) ?_
    exact q_reti hE hr hlocks hW (((q_c (k := (-2)) (x := (-2)) (by decide)).w (by decide) (by decide))) dX12_washer_10
set_option maxHeartbeats 4000000 in
set_option maxRecDepth 100000 in
theorem c_X12_water (l : Launch) (G : q_G) (σ : q_S) (a0 : Nat) (h0 : q_T G a0 = 40) (i1 : Int32) (i2 : Int32)  : Met l yX12_water (Cond.code yX12_water cX12_water 3 (some .int) :: wsL_law) (q_Rm 3) (q_Pre G σ [.ref a0, .int i1, .int i2]) (q_Qi G [] σ (fun r σ1 => q_V (-2147483648) 2147483647 r)) 0 0 (q_N G) := by
  refine q_ofW (ts := []) (by decide) (Nat.le_of_ble_eq_true rfl) ?_
  intro p e s m args below meth c hE hr hlocks hW ls hl
  have hE : q_E G p s m args c cX12_water 3 RX12 := hE
  have hx := hE.1.1
  have hb := hE.1.2.1
  have hl : lv_has ls 3 [(0, .ref a0), (1, .int i1), (2, .int i2)] := hl
  refine lv_iload_n hx hb dX12_water_0 rfl (lv_at hl 1 rfl) ?_
  refine lv_i2l (v := i1.toInt64) hx hb dX12_water_1 rfl ?_
  refine lv_lconst (v := 0) hx hb dX12_water_2 (by decide) ?_
  refine lv_ldc2 (v := 6) hx hb hE.1.2.2.2.1 (hE.w wl_557) dX12_water_3 ?_
  refine q_goi hW (q_runS (As := [.long (i1).toInt64, .long 0, .long 6]) (rest := []) hE hW (c_X12_in l G σ ((i1).toInt64) 0 6) kw_X12_99 rfl hl.1 rfl (Nat.le_of_ble_eq_true rfl) dX12_water_6 ⟨by decide, by decide⟩ ⟨by decide, by decide⟩) (by decide) (fun kx4 ks2 H locs kp1 kf3 hW => ?_)
  refine lv_if_eq (tgt := 41) hx hb dX12_water_9 (by decide) (fun kc5 => ?_) (fun kc5 => ?_)
  · have kv6 : q_V 0 0 kx4 := q_eq1 kp1.1 (q_c (k := 0) (x := 0) (by decide)) kc5 (by decide) (by decide)
    refine lv_bipush (v := (-2)) hx hb dX12_water_41 (by decide) ?_
    exact q_reti hE hr hlocks hW (((q_c (k := (-2)) (x := (-2)) (by decide)).w (by decide) (by decide))) dX12_water_43
  · have kv7 : q_V 0 6 i1 := q_inV (kp1.2.1 kc5).1 (kp1.2.1 kc5).2 (q_lc (k := 0) (x := 0) (by decide)) (q_lc (k := 6) (x := 6) (by decide))
    have kv8 : q_V 1 1 kx4 := q_ne1 kp1.1 (q_c (k := 0) (x := 0) (by decide)) kc5 (by decide)
    refine lv_iload_n hx hb dX12_water_12 rfl (lv_at hl 2 rfl) ?_
    refine lv_i2l (v := i2.toInt64) hx hb dX12_water_13 rfl ?_
    refine lv_lconst (v := 0) hx hb dX12_water_14 (by decide) ?_
    refine lv_ldc2 (v := 5) hx hb hE.1.2.2.2.1 (hE.w wl_532) dX12_water_15 ?_
    refine q_goi hW (q_runS (As := [.long (i2).toInt64, .long 0, .long 5]) (rest := []) hE hW (c_X12_in l G ks2 ((i2).toInt64) 0 5) kw_X12_99 rfl hl.1 rfl (Nat.le_of_ble_eq_true rfl) dX12_water_18 ⟨by decide, by decide⟩ ⟨by decide, by decide⟩) (by decide) (fun kx12 ks10 H locs kp9 kf11 hW => ?_)
    refine lv_if_eq (tgt := 41) hx hb dX12_water_21 (by decide) (fun kc13 => ?_) (fun kc13 => ?_)
    · have kv14 : q_V 0 0 kx12 := q_eq1 kp9.1 (q_c (k := 0) (x := 0) (by decide)) kc13 (by decide) (by decide)
      refine lv_bipush (v := (-2)) hx hb dX12_water_41 (by decide) ?_
      exact q_reti hE hr hlocks hW (((q_c (k := (-2)) (x := (-2)) (by decide)).w (by decide) (by decide))) dX12_water_43
    · have kv15 : q_V 0 5 i2 := q_inV (kp9.2.1 kc13).1 (kp9.2.1 kc13).2 (q_lc (k := 0) (x := 0) (by decide)) (q_lc (k := 5) (x := 5) (by decide))
      have kv16 : q_V 1 1 kx12 := q_ne1 kp9.1 (q_c (k := 0) (x := 0) (by decide)) kc13 (by decide)
      refine lv_aload_n hx hb dX12_water_24 rfl (lv_at hl 0 rfl) ?_
      refine q_getr hE hW h0 rfl q_k12 9 (by decide) rfl (hE.l wl_135) dX12_water_25 (fun kb17 ekb17 hkb17a hkb17b => ?_)
      have hkb17 : q_T G kb17 = 46 := q_tag hkb17a hkb17b
      refine lv_bipush (v := 59) hx hb dX12_water_28 (by decide) ?_
      refine lv_bipush (v := 6) hx hb dX12_water_30 (by decide) ?_
      refine lv_iload_n hx hb dX12_water_32 rfl (lv_at hl 1 rfl) ?_
      refine lv_imul hx hb dX12_water_33 ?_
      refine lv_topi (fun kx18 ekx18 => ?_)
      have vkx18 : q_V 0 36 kx18 := by rw [ekx18]; exact (q_mul (k := 6) (by decide) kv7 (by decide) (by decide) (by decide)).w (by decide) (by decide)
      refine lv_iadd hx hb dX12_water_34 ?_
      refine lv_topi (fun kx19 ekx19 => ?_)
      have vkx19 : q_V 59 95 kx19 := by rw [ekx19]; exact (q_add (q_c (k := 59) (x := 59) (by decide)) vkx18 (by decide) (by decide)).w (by decide) (by decide)
      refine lv_iload_n hx hb dX12_water_35 rfl (lv_at hl 2 rfl) ?_
      refine lv_iadd hx hb dX12_water_36 ?_
      refine lv_topi (fun kx20 ekx20 => ?_)
      have vkx20 : q_V 59 100 kx20 := by rw [ekx20]; exact (q_add vkx19 kv15 (by decide) (by decide)).w (by decide) (by decide)
      refine q_iald hE hW hkb17 rfl (q_in vkx20 (by decide) (by decide)) dX12_water_37 (fun kx21 ekx21 gkx21 => ?_)
      refine lv_goto (tgt := 43) hx hb dX12_water_38 (by decide) ?_
      exact q_reti hE hr hlocks hW ((q_all kx21)) dX12_water_43
set_option maxHeartbeats 4000000 in
set_option maxRecDepth 100000 in
theorem c_X12_as (l : Launch) (G : q_G) (σ : q_S) (a0 : Nat) (h0 : q_T G a0 = 40) (i1 : Int32) (i2 : Int32)  : Met l yX12_as (Cond.code yX12_as cX12_as 5 (some .int) :: wsL_law) (q_Rm 3) (q_Pre G σ [.ref a0, .int i1, .int i2]) (q_Qi G [] σ (fun r σ1 => q_V (-2147483648) 2147483647 r)) 0 0 (q_N G) := by
  refine q_ofW (ts := []) (by decide) (Nat.le_of_ble_eq_true rfl) ?_
  intro p e s m args below meth c hE hr hlocks hW ls hl
  have hE : q_E G p s m args c cX12_as 5 RX12 := hE
  have hx := hE.1.1
  have hb := hE.1.2.1
  have hl : lv_has ls 5 [(0, .ref a0), (1, .int i1), (2, .int i2)] := hl
  have jn59a : ∀ (ks3 : q_S) (H : Heap) (locs : List Loc) (kx1 : Int32) (kx2 : Int32) (vkx2 : q_V 0 1 kx2) (hW : q_Wd G [] σ s.heap ks3 H locs) (ls : Array Slot) (hl : lv_has ls 5 [(3, .int kx1)]), W p l e (q_Rm 3) s m args below meth c H locs 0 0 (MQ below (q_Qi G [] σ (fun r σ1 => q_V (-2147483648) 2147483647 r)) args s 0 0 (q_N G)) (F0 m 59 ls [.int kx2]) := by
    intro ks3 H locs kx1 kx2 vkx2 hW ls hl
    refine lv_istore (lv' := [(4, .int kx2), (3, .int kx1)]) hx hb dX12_as_59 hl (by decide) rfl (fun ls hl => ?_)
    refine lv_iload hx hb dX12_as_61 (lv_at hl 0 rfl) ?_
    refine lv_if_eq (tgt := 74) hx hb dX12_as_63 (by decide) (fun kc4 => ?_) (fun kc4 => ?_)
    · have kv5 : q_V 0 0 kx2 := q_eq1 vkx2 (q_c (k := 0) (x := 0) (by decide)) kc4 (by decide) (by decide)
      refine lv_bipush (v := (-4)) hx hb dX12_as_74 (by decide) ?_
      exact q_reti hE hr hlocks hW (((q_c (k := (-4)) (x := (-4)) (by decide)).w (by decide) (by decide))) dX12_as_76
    · have kv6 : q_V 1 1 kx2 := q_ne1 vkx2 (q_c (k := 0) (x := 0) (by decide)) kc4 (by decide)
      refine lv_iload_n hx hb dX12_as_66 rfl (lv_at hl 1 rfl) ?_
      refine lv_iconst (v := 3) hx hb dX12_as_67 (by decide) ?_
      refine q_goi hW (q_runS (As := [.int kx1, .int 3]) (rest := []) hE hW (c_X12_rubsBy l G ks3 kx1 3) kw_X12_254 rfl hl.1 rfl (Nat.le_of_ble_eq_true rfl) dX12_as_68 ⟨by decide, by decide⟩ ⟨by decide, by decide⟩) (by decide) (fun kx10 ks8 H locs kp7 kf9 hW => ?_)
      refine lv_goto (tgt := 76) hx hb dX12_as_71 (by decide) ?_
      exact q_reti hE hr hlocks hW ((q_all kx10)) dX12_as_76
  have jn58a : ∀ (ks12 : q_S) (H : Heap) (locs : List Loc) (kx11 : Int32) (hW : q_Wd G [] σ s.heap ks12 H locs) (ls : Array Slot) (hl : lv_has ls 5 [(3, .int kx11)]), W p l e (q_Rm 3) s m args below meth c H locs 0 0 (MQ below (q_Qi G [] σ (fun r σ1 => q_V (-2147483648) 2147483647 r)) args s 0 0 (q_N G)) (F0 m 58 ls []) := by
    intro ks12 H locs kx11 hW ls hl
    refine lv_iconst (v := 0) hx hb dX12_as_58 (by decide) ?_
    exact jn59a _ _ _ kx11 0 ((q_c (k := 0) (x := 0) (by decide)).w (by decide) (by decide)) hW ls (lv_sub hl [0] rfl)
  have jn54a : ∀ (ks14 : q_S) (H : Heap) (locs : List Loc) (kx13 : Int32) (hW : q_Wd G [] σ s.heap ks14 H locs) (ls : Array Slot) (hl : lv_has ls 5 [(3, .int kx13)]), W p l e (q_Rm 3) s m args below meth c H locs 0 0 (MQ below (q_Qi G [] σ (fun r σ1 => q_V (-2147483648) 2147483647 r)) args s 0 0 (q_N G)) (F0 m 54 ls []) := by
    intro ks14 H locs kx13 hW ls hl
    refine lv_iconst (v := 1) hx hb dX12_as_54 (by decide) ?_
    refine lv_goto (tgt := 59) hx hb dX12_as_55 (by decide) ?_
    exact jn59a _ _ _ kx13 1 ((q_c (k := 1) (x := 1) (by decide)).w (by decide) (by decide)) hW ls (lv_sub hl [0] rfl)
  refine lv_aload_n hx hb dX12_as_0 rfl (lv_at hl 0 rfl) ?_
  refine lv_iload_n hx hb dX12_as_1 rfl (lv_at hl 1 rfl) ?_
  refine q_goi hW (q_runV (As := [.int i1]) (rest := []) hE hW (c_X12_isCloud l G σ a0 h0 i1) kw_X12_233 (q_recv hE hW h0 rfl q_k12) rfl hl.1 rfl (Nat.le_of_ble_eq_true rfl) dX12_as_2 ⟨by decide, by decide⟩ ⟨by decide, by decide⟩) (by decide) (fun kx18 ks16 H locs kp15 kf17 hW => ?_)
  refine lv_if_ne (tgt := 11) hx hb dX12_as_5 (by decide) (fun kc19 => ?_) (fun kc19 => ?_)
  · have kv20 : q_V 0 5 i1 := kp15.2 kc19
    have kv21 : q_V 1 1 kx18 := q_ne1 kp15.1 (q_c (k := 0) (x := 0) (by decide)) kc19 (by decide)
    refine lv_iload_n hx hb dX12_as_11 rfl (lv_at hl 2 rfl) ?_
    refine lv_i2l (v := i2.toInt64) hx hb dX12_as_12 rfl ?_
    refine lv_lconst (v := 0) hx hb dX12_as_13 (by decide) ?_
    refine lv_ldc2 (v := 4) hx hb hE.1.2.2.2.1 (hE.w wl_591) dX12_as_14 ?_
    refine q_goi hW (q_runS (As := [.long (i2).toInt64, .long 0, .long 4]) (rest := []) hE hW (c_X12_in l G ks16 ((i2).toInt64) 0 4) kw_X12_99 rfl hl.1 rfl (Nat.le_of_ble_eq_true rfl) dX12_as_17 ⟨by decide, by decide⟩ ⟨by decide, by decide⟩) (by decide) (fun kx25 ks23 H locs kp22 kf24 hW => ?_)
    refine lv_if_ne (tgt := 26) hx hb dX12_as_20 (by decide) (fun kc26 => ?_) (fun kc26 => ?_)
    · have kv27 : q_V 0 4 i2 := q_inV (kp22.2.1 kc26).1 (kp22.2.1 kc26).2 (q_lc (k := 0) (x := 0) (by decide)) (q_lc (k := 4) (x := 4) (by decide))
      have kv28 : q_V 1 1 kx25 := q_ne1 kp22.1 (q_c (k := 0) (x := 0) (by decide)) kc26 (by decide)
      refine lv_aload_n hx hb dX12_as_26 rfl (lv_at hl 0 rfl) ?_
      refine q_getr hE hW h0 rfl q_k12 1 (by decide) rfl (hE.l wl_129) dX12_as_27 (fun kb29 ekb29 hkb29a hkb29b => ?_)
      have hkb29 : q_T G kb29 = 41 := q_tag hkb29a hkb29b
      refine lv_iload_n hx hb dX12_as_30 rfl (lv_at hl 1 rfl) ?_
      refine q_iald hE hW hkb29 rfl (q_in kv20 (by decide) (by decide)) dX12_as_31 (fun kx30 ekx30 gkx30 => ?_)
      refine lv_istore_n (lv' := [(3, .int kx30), (0, .ref a0), (1, .int i1), (2, .int i2)]) hx hb dX12_as_32 rfl hl (by decide) rfl (fun ls hl => ?_)
      refine lv_iload_n hx hb dX12_as_33 rfl (lv_at hl 3 rfl) ?_
      refine lv_if_eq (tgt := 54) hx hb dX12_as_34 (by decide) (fun kc31 => ?_) (fun kc31 => ?_)
      · have kv32 : q_V 0 0 i2 := q_eq1 kv27 (q_c (k := 0) (x := 0) (by decide)) kc31 (by decide) (by decide)
        exact jn54a _ _ _ kx30 hW ls (lv_sub hl [0] rfl)
      · have kv33 : q_V 1 4 i2 := q_ne1 kv27 (q_c (k := 0) (x := 0) (by decide)) kc31 (by decide)
        refine lv_iload_n hx hb dX12_as_37 rfl (lv_at hl 3 rfl) ?_
        refine lv_iload_n hx hb dX12_as_38 rfl (lv_at hl 0 rfl) ?_
        refine lv_iconst (v := 1) hx hb dX12_as_39 (by decide) ?_
        refine lv_iadd hx hb dX12_as_40 ?_
        refine lv_topi (fun kx34 ekx34 => ?_)
        refine lv_icmp_eq (tgt := 54) hx hb dX12_as_41 (by decide) (fun kc35 => ?_) (fun kc35 => ?_)
        · have kv36 : q_V 1 4 kx34 := q_eq2 kv33 (q_all kx34) kc35 (by decide) (by decide)
          exact jn54a _ _ _ kx30 hW ls (lv_sub hl [0] rfl)
        · refine lv_iload_n hx hb dX12_as_44 rfl (lv_at hl 3 rfl) ?_
          refine lv_iconst (v := 1) hx hb dX12_as_45 (by decide) ?_
          refine lv_icmp_ne (tgt := 58) hx hb dX12_as_46 (by decide) (fun kc37 => ?_) (fun kc37 => ?_)
          · have kv38 : q_V 2 4 i2 := q_ne1 kv33 (q_c (k := 1) (x := 1) (by decide)) kc37 (by decide)
            exact jn58a _ _ _ kx30 hW ls (lv_sub hl [0] rfl)
          · have kv39 : q_V 1 1 i2 := q_eq1 kv33 (q_c (k := 1) (x := 1) (by decide)) kc37 (by decide) (by decide)
            refine lv_iload_n hx hb dX12_as_49 rfl (lv_at hl 0 rfl) ?_
            refine lv_iconst (v := 3) hx hb dX12_as_50 (by decide) ?_
            refine lv_icmp_ge (tgt := 58) hx hb dX12_as_51 (by decide) (fun kc40 => ?_) (fun kc40 => ?_)
            · have kv41 : q_V 3 2147483647 kx30 := (q_le2 (q_c (k := 3) (x := 3) (by decide)) (q_all kx30) kc40).w (by decide) (by decide)
              exact jn58a _ _ _ kx30 hW ls (lv_sub hl [0] rfl)
            · have kv42 : q_V (-2147483648) 2 kx30 := (q_lt1 (q_all kx30) (q_c (k := 3) (x := 3) (by decide)) (Int32.not_le.mp kc40)).w (by decide) (by decide)
              exact jn54a _ _ _ kx30 hW ls (lv_sub hl [0] rfl)
    · have kv43 : q_V 0 0 kx25 := q_eq1 kp22.1 (q_c (k := 0) (x := 0) (by decide)) kc26 (by decide) (by decide)
      refine lv_bipush (v := (-3)) hx hb dX12_as_23 (by decide) ?_
      exact q_reti hE hr hlocks hW (((q_c (k := (-3)) (x := (-3)) (by decide)).w (by decide) (by decide))) dX12_as_25
  · have kv44 : q_V 0 0 kx18 := q_eq1 kp15.1 (q_c (k := 0) (x := 0) (by decide)) kc19 (by decide) (by decide)
    refine lv_bipush (v := (-2)) hx hb dX12_as_8 (by decide) ?_
    exact q_reti hE hr hlocks hW (((q_c (k := (-2)) (x := (-2)) (by decide)).w (by decide) (by decide))) dX12_as_10
set_option maxHeartbeats 4000000 in
set_option maxRecDepth 100000 in
theorem c_X12_deepest (l : Launch) (G : q_G) (σ : q_S) (a0 : Nat) (h0 : q_T G a0 = 40) (i1 : Int32) (w1 : q_V 0 60 i1) (i2 : Int32) (w2 : q_V 0 1 i2)  : Met l yX12_deepest (Cond.code yX12_deepest cX12_deepest 7 (some .int) :: wsL_law) (q_Rm 1) (q_Pre G σ [.ref a0, .int i1, .int i2]) (q_Qi G [] σ (fun r σ1 => q_V (-1) 5 r)) 0 0 (q_N G) := by
  refine q_ofW (ts := []) (by decide) (Nat.le_of_ble_eq_true rfl) ?_
  intro p e s m args below meth c hE hr hlocks hW ls hl
  have hE : q_E G p s m args c cX12_deepest 7 RX12 := hE
  have hx := hE.1.1
  have hb := hE.1.2.1
  have hl : lv_has ls 7 [(0, .ref a0), (1, .int i1), (2, .int i2)] := hl
  have lp8a : ∀ (n8a : Nat) (kx1 : Int32) (vkx1 : q_V (-1) 5 kx1) (kx2 : Int32) (vkx2 : q_V 0 2147483647 kx2) (kx3 : Int32) (vkx3 : q_V 0 6 kx3) (ls : Array Slot) (hl : lv_has ls 7 [(0, .ref a0), (1, .int i1), (2, .int i2), (3, .int kx1), (4, .int kx2), (5, .int kx3)]), (6 - kx3.toInt).toNat < n8a → W p l e (q_Rm 1) s m args below meth c s.heap [] 0 0 (MQ below (q_Qi G [] σ (fun r σ1 => q_V (-1) 5 r)) args s 0 0 (q_N G)) (F0 m 8 ls []) := by
    intro n8a
    induction n8a with
    | zero => intro _ _ _ _ _ _ _ _; exact fun h => absurd h (Nat.not_lt_zero _)
    | succ n8a ih8a =>
      intro kx1 vkx1 kx2 vkx2 kx3 vkx3 ls hl hm8a
      have jn91a : ∀ (kx4 : Int32) (vkx4 : q_V (-1) 5 kx4) (kv5 : q_V 0 5 kx3) (kx6 : Int32) (vkx6 : q_V 0 2147483647 kx6) (ls : Array Slot) (hl : lv_has ls 7 [(0, .ref a0), (1, .int i1), (2, .int i2), (3, .int kx4), (5, .int kx3)]), W p l e (q_Rm 1) s m args below meth c s.heap [] 0 0 (MQ below (q_Qi G [] σ (fun r σ1 => q_V (-1) 5 r)) args s 0 0 (q_N G)) (F0 m 91 ls [.int kx6]) := by
        intro kx4 vkx4 kv5 kx6 vkx6 ls hl
        refine lv_istore (lv' := [(4, .int kx6), (0, .ref a0), (1, .int i1), (2, .int i2), (3, .int kx4), (5, .int kx3)]) hx hb dX12_deepest_91 hl (by decide) rfl (fun ls hl => ?_)
        obtain ⟨kx7, ekx7⟩ : ∃ y : Int32, y = kx3 + 1 := ⟨_, rfl⟩
        have vkx7 : q_V 1 6 kx7 := by rw [ekx7]; exact (q_add kv5 (q_c (k := 1) (x := 1) (by decide)) (by decide) (by decide)).w (by decide) (by decide)
        have ikx7 : kx7.toInt = kx3.toInt + 1 := q_incT ekx7 kv5 (by decide) (by decide) (by decide)
        refine lv_iinc (v := kx7) (lv' := [(5, .int kx7), (4, .int kx6), (0, .ref a0), (1, .int i1), (2, .int i2), (3, .int kx4)]) hx hb dX12_deepest_93 hl (k := 5) rfl (by rw [ekx7]; rfl) (by decide) rfl (fun ls hl => ?_)
        refine lv_goto (tgt := 8) hx hb dX12_deepest_96 (by decide) ?_
        exact ih8a kx4 vkx4 kx6 vkx6 kx7 (vkx7.w (by decide) (by decide)) ls (lv_sub hl [2, 3, 4, 5, 1, 0] rfl) (Nat.lt_of_lt_of_le (q_up (ikx7) (show q_V 1 6 kx7 from vkx7).2) (Nat.le_of_lt_succ hm8a))
      have jn89a : ∀ (kx8 : Int32) (vkx8 : q_V (-1) 5 kx8) (kv9 : q_V 0 5 kx3) (ls : Array Slot) (hl : lv_has ls 7 [(0, .ref a0), (1, .int i1), (2, .int i2), (3, .int kx8), (4, .int kx2), (5, .int kx3)]), W p l e (q_Rm 1) s m args below meth c s.heap [] 0 0 (MQ below (q_Qi G [] σ (fun r σ1 => q_V (-1) 5 r)) args s 0 0 (q_N G)) (F0 m 89 ls []) := by
        intro kx8 vkx8 kv9 ls hl
        refine lv_iload hx hb dX12_deepest_89 (lv_at hl 4 rfl) ?_
        exact jn91a kx8 vkx8 kv9 kx2 vkx2 ls (lv_sub hl [0, 1, 2, 3, 5] rfl)
      have jn57a : ∀ (kv10 : q_V 0 5 kx3) (kx11 : Int32) (vkx11 : q_V 0 1 kx11) (kx12 : Int32) (vkx12 : q_V (-1) 5 kx12) (ls : Array Slot) (hl : lv_has ls 7 [(0, .ref a0), (1, .int i1), (2, .int i2), (4, .int kx2), (5, .int kx3), (6, .int kx11)]), W p l e (q_Rm 1) s m args below meth c s.heap [] 0 0 (MQ below (q_Qi G [] σ (fun r σ1 => q_V (-1) 5 r)) args s 0 0 (q_N G)) (F0 m 57 ls [.int kx12]) := by
        intro kv10 kx11 vkx11 kx12 vkx12 ls hl
        refine lv_istore_n (lv' := [(3, .int kx12), (0, .ref a0), (1, .int i1), (2, .int i2), (4, .int kx2), (5, .int kx3), (6, .int kx11)]) hx hb dX12_deepest_57 rfl hl (by decide) rfl (fun ls hl => ?_)
        refine lv_iload hx hb dX12_deepest_58 (lv_at hl 6 rfl) ?_
        refine lv_if_eq (tgt := 89) hx hb dX12_deepest_60 (by decide) (fun kc13 => ?_) (fun kc13 => ?_)
        · have kv14 : q_V 0 0 kx11 := q_eq1 vkx11 (q_c (k := 0) (x := 0) (by decide)) kc13 (by decide) (by decide)
          exact jn89a kx12 vkx12 kv10 ls (lv_sub hl [1, 2, 3, 0, 4, 5] rfl)
        · have kv15 : q_V 1 1 kx11 := q_ne1 vkx11 (q_c (k := 0) (x := 0) (by decide)) kc13 (by decide)
          refine lv_aload_n hx hb dX12_deepest_63 rfl (lv_at hl 1 rfl) ?_
          refine q_getr hE hW h0 rfl q_k12 9 (by decide) rfl (hE.l wl_135) dX12_deepest_64 (fun kb16 ekb16 hkb16a hkb16b => ?_)
          have hkb16 : q_T G kb16 = 46 := q_tag hkb16a hkb16b
          refine lv_iload_n hx hb dX12_deepest_67 rfl (lv_at hl 2 rfl) ?_
          refine lv_iload hx hb dX12_deepest_68 (lv_at hl 5 rfl) ?_
          refine lv_iadd hx hb dX12_deepest_70 ?_
          refine lv_topi (fun kx17 ekx17 => ?_)
          have vkx17 : q_V 0 65 kx17 := by rw [ekx17]; exact (q_add w1 kv10 (by decide) (by decide)).w (by decide) (by decide)
          refine q_iald hE hW hkb16 rfl (q_in vkx17 (by decide) (by decide)) dX12_deepest_71 (fun kx18 ekx18 gkx18 => ?_)
          refine lv_iload hx hb dX12_deepest_72 (lv_at hl 4 rfl) ?_
          refine lv_icmp_le (tgt := 89) hx hb dX12_deepest_74 (by decide) (fun kc19 => ?_) (fun kc19 => ?_)
          · exact jn89a kx12 vkx12 kv10 ls (lv_sub hl [1, 2, 3, 0, 4, 5] rfl)
          · have kv20 : q_V 0 2147483646 kx2 := (q_lt1 vkx2 (q_all kx18) (Int32.not_le.mp kc19)).w (by decide) (by decide)
            have kv21 : q_V 1 2147483647 kx18 := (q_lt2 vkx2 (q_all kx18) (Int32.not_le.mp kc19)).w (by decide) (by decide)
            refine lv_aload_n hx hb dX12_deepest_77 rfl (lv_at hl 1 rfl) ?_
            refine q_getr hE hW h0 rfl q_k12 9 (by decide) rfl (hE.l wl_135) dX12_deepest_78 (fun kb22 ekb22 hkb22a hkb22b => ?_)
            obtain rfl : kb16 = kb22 := ekb16.symm.trans ekb22
            refine lv_iload_n hx hb dX12_deepest_81 rfl (lv_at hl 2 rfl) ?_
            refine lv_iload hx hb dX12_deepest_82 (lv_at hl 5 rfl) ?_
            refine lv_iadd hx hb dX12_deepest_84 ?_
            refine lv_topi (fun kx23 ekx23 => ?_)
            obtain rfl : kx17 = kx23 := ekx17.trans ekx23.symm
            refine q_iald hE hW hkb16 rfl (q_in vkx17 (by decide) (by decide)) dX12_deepest_85 (fun kx24 ekx24 gkx24 => ?_)
            obtain rfl : kx18 = kx24 := ekx18.symm.trans ekx24
            refine lv_goto (tgt := 91) hx hb dX12_deepest_86 (by decide) ?_
            exact jn91a kx12 vkx12 kv10 kx18 (kv21.w (by decide) (by decide)) ls (lv_sub hl [1, 2, 3, 0, 5] rfl)
      have jn56a : ∀ (kv25 : q_V 0 5 kx3) (kx26 : Int32) (vkx26 : q_V 0 1 kx26) (ls : Array Slot) (hl : lv_has ls 7 [(0, .ref a0), (1, .int i1), (2, .int i2), (3, .int kx1), (4, .int kx2), (5, .int kx3), (6, .int kx26)]), W p l e (q_Rm 1) s m args below meth c s.heap [] 0 0 (MQ below (q_Qi G [] σ (fun r σ1 => q_V (-1) 5 r)) args s 0 0 (q_N G)) (F0 m 56 ls []) := by
        intro kv25 kx26 vkx26 ls hl
        refine lv_iload_n hx hb dX12_deepest_56 rfl (lv_at hl 3 rfl) ?_
        exact jn57a kv25 kx26 vkx26 kx1 vkx1 ls (lv_sub hl [0, 1, 2, 4, 5, 6] rfl)
      have jn30a : ∀ (kv27 : q_V 0 5 kx3) (kx28 : Int32) (vkx28 : q_V 0 1 kx28) (ls : Array Slot) (hl : lv_has ls 7 [(0, .ref a0), (1, .int i1), (2, .int i2), (3, .int kx1), (4, .int kx2), (5, .int kx3)]), W p l e (q_Rm 1) s m args below meth c s.heap [] 0 0 (MQ below (q_Qi G [] σ (fun r σ1 => q_V (-1) 5 r)) args s 0 0 (q_N G)) (F0 m 30 ls [.int kx28]) := by
        intro kv27 kx28 vkx28 ls hl
        refine lv_istore (lv' := [(6, .int kx28), (0, .ref a0), (1, .int i1), (2, .int i2), (3, .int kx1), (4, .int kx2), (5, .int kx3)]) hx hb dX12_deepest_30 hl (by decide) rfl (fun ls hl => ?_)
        refine lv_iload hx hb dX12_deepest_32 (lv_at hl 0 rfl) ?_
        refine lv_if_eq (tgt := 56) hx hb dX12_deepest_34 (by decide) (fun kc29 => ?_) (fun kc29 => ?_)
        · have kv30 : q_V 0 0 kx28 := q_eq1 vkx28 (q_c (k := 0) (x := 0) (by decide)) kc29 (by decide) (by decide)
          exact jn56a kv27 kx28 (kv30.w (by decide) (by decide)) ls (lv_sub hl [1, 2, 3, 4, 5, 6, 0] rfl)
        · have kv31 : q_V 1 1 kx28 := q_ne1 vkx28 (q_c (k := 0) (x := 0) (by decide)) kc29 (by decide)
          refine lv_aload_n hx hb dX12_deepest_37 rfl (lv_at hl 1 rfl) ?_
          refine q_getr hE hW h0 rfl q_k12 9 (by decide) rfl (hE.l wl_135) dX12_deepest_38 (fun kb32 ekb32 hkb32a hkb32b => ?_)
          have hkb32 : q_T G kb32 = 46 := q_tag hkb32a hkb32b
          refine lv_iload_n hx hb dX12_deepest_41 rfl (lv_at hl 2 rfl) ?_
          refine lv_iload hx hb dX12_deepest_42 (lv_at hl 6 rfl) ?_
          refine lv_iadd hx hb dX12_deepest_44 ?_
          refine lv_topi (fun kx33 ekx33 => ?_)
          have vkx33 : q_V 0 65 kx33 := by rw [ekx33]; exact (q_add w1 kv27 (by decide) (by decide)).w (by decide) (by decide)
          refine q_iald hE hW hkb32 rfl (q_in vkx33 (by decide) (by decide)) dX12_deepest_45 (fun kx34 ekx34 gkx34 => ?_)
          refine lv_iload hx hb dX12_deepest_46 (lv_at hl 5 rfl) ?_
          refine lv_icmp_le (tgt := 56) hx hb dX12_deepest_48 (by decide) (fun kc35 => ?_) (fun kc35 => ?_)
          · exact jn56a kv27 kx28 (kv31.w (by decide) (by decide)) ls (lv_sub hl [1, 2, 3, 4, 5, 6, 0] rfl)
          · have kv36 : q_V 0 2147483646 kx2 := (q_lt1 vkx2 (q_all kx34) (Int32.not_le.mp kc35)).w (by decide) (by decide)
            have kv37 : q_V 1 2147483647 kx34 := (q_lt2 vkx2 (q_all kx34) (Int32.not_le.mp kc35)).w (by decide) (by decide)
            refine lv_iload hx hb dX12_deepest_51 (lv_at hl 6 rfl) ?_
            refine lv_goto (tgt := 57) hx hb dX12_deepest_53 (by decide) ?_
            exact jn57a kv27 kx28 (kv31.w (by decide) (by decide)) kx3 (kv27.w (by decide) (by decide)) ls (lv_sub hl [1, 2, 3, 5, 6, 0] rfl)
      have jn25a : ∀ (kv38 : q_V 0 5 kx3) (ls : Array Slot) (hl : lv_has ls 7 [(0, .ref a0), (1, .int i1), (2, .int i2), (3, .int kx1), (4, .int kx2), (5, .int kx3)]), W p l e (q_Rm 1) s m args below meth c s.heap [] 0 0 (MQ below (q_Qi G [] σ (fun r σ1 => q_V (-1) 5 r)) args s 0 0 (q_N G)) (F0 m 25 ls []) := by
        intro kv38 ls hl
        refine lv_iconst (v := 1) hx hb dX12_deepest_25 (by decide) ?_
        refine lv_goto (tgt := 30) hx hb dX12_deepest_26 (by decide) ?_
        exact jn30a kv38 1 ((q_c (k := 1) (x := 1) (by decide)).w (by decide) (by decide)) ls (lv_sub hl [0, 1, 2, 3, 4, 5] rfl)
      refine lv_iload hx hb dX12_deepest_8 (lv_at hl 5 rfl) ?_
      refine lv_bipush (v := 6) hx hb dX12_deepest_10 (by decide) ?_
      refine lv_icmp_ge (tgt := 99) hx hb dX12_deepest_12 (by decide) (fun kc39 => ?_) (fun kc39 => ?_)
      · have kv40 : q_V 6 6 kx3 := (q_le2 (q_c (k := 6) (x := 6) (by decide)) vkx3 kc39).w (by decide) (by decide)
        refine lv_iload_n hx hb dX12_deepest_99 rfl (lv_at hl 3 rfl) ?_
        exact q_reti hE hr hlocks hW (vkx1) dX12_deepest_100
      · have kv41 : q_V 0 5 kx3 := (q_lt1 vkx3 (q_c (k := 6) (x := 6) (by decide)) (Int32.not_le.mp kc39)).w (by decide) (by decide)
        refine lv_iload hx hb dX12_deepest_15 (lv_at hl 5 rfl) ?_
        refine lv_iconst (v := 5) hx hb dX12_deepest_17 (by decide) ?_
        refine lv_icmp_ne (tgt := 25) hx hb dX12_deepest_18 (by decide) (fun kc42 => ?_) (fun kc42 => ?_)
        · have kv43 : q_V 0 4 kx3 := q_ne2 kv41 (q_c (k := 5) (x := 5) (by decide)) kc42 (by decide)
          exact jn25a (kv43.w (by decide) (by decide)) ls (lv_sub hl [0, 1, 2, 3, 4, 5] rfl)
        · have kv44 : q_V 5 5 kx3 := q_eq1 kv41 (q_c (k := 5) (x := 5) (by decide)) kc42 (by decide) (by decide)
          refine lv_iload_n hx hb dX12_deepest_21 rfl (lv_at hl 2 rfl) ?_
          refine lv_if_eq (tgt := 29) hx hb dX12_deepest_22 (by decide) (fun kc45 => ?_) (fun kc45 => ?_)
          · have kv46 : q_V 0 0 i2 := q_eq1 w2 (q_c (k := 0) (x := 0) (by decide)) kc45 (by decide) (by decide)
            refine lv_iconst (v := 0) hx hb dX12_deepest_29 (by decide) ?_
            exact jn30a (kv44.w (by decide) (by decide)) 0 ((q_c (k := 0) (x := 0) (by decide)).w (by decide) (by decide)) ls (lv_sub hl [0, 1, 2, 3, 4, 5] rfl)
          · have kv47 : q_V 1 1 i2 := q_ne1 w2 (q_c (k := 0) (x := 0) (by decide)) kc45 (by decide)
            exact jn25a (kv44.w (by decide) (by decide)) ls (lv_sub hl [0, 1, 2, 3, 4, 5] rfl)
  refine lv_iconst (v := (-1)) hx hb dX12_deepest_0 (by decide) ?_
  refine lv_istore_n (lv' := [(3, .int (-1)), (0, .ref a0), (1, .int i1), (2, .int i2)]) hx hb dX12_deepest_1 rfl hl (by decide) rfl (fun ls hl => ?_)
  refine lv_iconst (v := 0) hx hb dX12_deepest_2 (by decide) ?_
  refine lv_istore (lv' := [(4, .int 0), (3, .int (-1)), (0, .ref a0), (1, .int i1), (2, .int i2)]) hx hb dX12_deepest_3 hl (by decide) rfl (fun ls hl => ?_)
  refine lv_iconst (v := 0) hx hb dX12_deepest_5 (by decide) ?_
  refine lv_istore (lv' := [(5, .int 0), (4, .int 0), (3, .int (-1)), (0, .ref a0), (1, .int i1), (2, .int i2)]) hx hb dX12_deepest_6 hl (by decide) rfl (fun ls hl => ?_)
  exact lp8a _ (-1) ((q_c (k := (-1)) (x := (-1)) (by decide)).w (by decide) (by decide)) 0 ((q_c (k := 0) (x := 0) (by decide)).w (by decide) (by decide)) 0 ((q_c (k := 0) (x := 0) (by decide)).w (by decide) (by decide)) ls (lv_sub hl [3, 4, 5, 2, 1, 0] rfl) (Nat.lt_succ_self _)
set_option maxHeartbeats 4000000 in
set_option maxRecDepth 100000 in
theorem c_X12_rub (l : Launch) (G : q_G) (σ : q_S) (a0 : Nat) (h0 : q_T G a0 = 40) (i1 : Int32) (w1 : q_V 0 5 i1)  : Met l yX12_rub (Cond.code yX12_rub cX12_rub 3 none :: wsL_law) (q_Rm 2) (q_Pre G σ [.ref a0, .int i1]) (q_Qv G [46] σ (fun σ1 => True)) 0 0 (q_N G) := by
  refine q_ofW (ts := [46]) (by decide) (Nat.le_of_ble_eq_true rfl) ?_
  intro p e s m args below meth c hE hr hlocks hW ls hl
  have hE : q_E G p s m args c cX12_rub 3 RX12 := hE
  have hx := hE.1.1
  have hb := hE.1.2.1
  have hl : lv_has ls 3 [(0, .ref a0), (1, .int i1)] := hl
  have jn67a : ∀ (ks6 : q_S) (H : Heap) (locs : List Loc) (kx1 : Int32) (vkx1 : q_V 0 5 kx1) (kb2 : Nat) (hkb2 : q_T G kb2 = 46) (kx3 : Int32) (vkx3 : q_V 57 57 kx3) (kx4 : Int32) (kx5 : Int32) (vkx5 : q_V 0 1 kx5) (hW : q_Wd G [46] σ s.heap ks6 H locs) (ls : Array Slot) (hl : lv_has ls 3 [(0, .ref a0), (2, .int kx1)]), W p l e (q_Rm 2) s m args below meth c H locs 0 0 (MQ below (q_Qv G [46] σ (fun σ1 => True)) args s 0 0 (q_N G)) (F0 m 67 ls [.int kx5, .int kx4, .int kx3, .ref kb2]) := by
    intro ks6 H locs kx1 vkx1 kb2 hkb2 kx3 vkx3 kx4 kx5 vkx5 hW ls hl
    refine lv_isub hx hb dX12_rub_67 ?_
    refine lv_topi (fun kx7 ekx7 => ?_)
    refine q_iast hE hW hkb2 rfl (q_in vkx3 (by decide) (by decide)) (fun q_a q_b => q_out vkx3 q_a q_b (by decide)) (by decide) dX12_rub_68 (fun H locs ks8 kp9 hW => ?_)
    refine lv_aload_n hx hb dX12_rub_69 rfl (lv_at hl 0 rfl) ?_
    refine q_getr hE hW h0 rfl q_k12 9 (by decide) rfl (hE.l wl_135) dX12_rub_70 (fun kb10 ekb10 hkb10a hkb10b => ?_)
    have hkb10 : q_T G kb10 = 46 := q_tag hkb10a hkb10b
    refine lv_bipush (v := 59) hx hb dX12_rub_73 (by decide) ?_
    refine lv_iload_n hx hb dX12_rub_75 rfl (lv_at hl 1 rfl) ?_
    refine lv_iadd hx hb dX12_rub_76 ?_
    refine lv_topi (fun kx11 ekx11 => ?_)
    have vkx11 : q_V 59 64 kx11 := by rw [ekx11]; exact (q_add (q_c (k := 59) (x := 59) (by decide)) vkx1 (by decide) (by decide)).w (by decide) (by decide)
    refine lv_dup2_11 hx hb dX12_rub_77 rfl rfl ?_
    refine q_iald hE hW hkb10 rfl (q_in vkx11 (by decide) (by decide)) dX12_rub_78 (fun kx12 ekx12 gkx12 => ?_)
    refine lv_bipush (v := 64) hx hb dX12_rub_79 (by decide) ?_
    refine lv_iadd hx hb dX12_rub_81 ?_
    refine lv_topi (fun kx13 ekx13 => ?_)
    refine q_iast hE hW hkb10 rfl (q_in vkx11 (by decide) (by decide)) (fun q_a q_b => q_out vkx11 q_a q_b (by decide)) (by decide) dX12_rub_82 (fun H locs ks14 kp15 hW => ?_)
    exact q_retv hE hr hlocks hW (trivial) dX12_rub_83
  have jn23a : ∀ (ks19 : q_S) (H : Heap) (locs : List Loc) (kb16 : Nat) (hkb16 : q_T G kb16 = 40) (kx17 : Int32) (vkx17 : q_V 18 48 kx17) (kx18 : Int32) (vkx18 : q_V 0 1 kx18) (hW : q_Wd G [46] σ s.heap ks19 H locs) (ls : Array Slot) (hl : lv_has ls 3 [(0, .ref a0), (1, .int i1)]), W p l e (q_Rm 2) s m args below meth c H locs 0 0 (MQ below (q_Qv G [46] σ (fun σ1 => True)) args s 0 0 (q_N G)) (F0 m 23 ls [.int kx18, .int kx17, .ref kb16]) := by
    intro ks19 H locs kb16 hkb16 kx17 vkx17 kx18 vkx18 hW ls hl
    refine q_goi hW (q_runV (As := [.int kx17, .int kx18]) (rest := []) hE hW (c_X12_deepest l G ks19 kb16 hkb16 kx17 (vkx17.w (by decide) (by decide)) kx18 vkx18) kw_X12_258 (q_recv hE hW hkb16 rfl q_k12) rfl hl.1 rfl (Nat.le_of_ble_eq_true rfl) dX12_rub_23 ⟨by decide, by decide⟩ ⟨by decide, by decide⟩) (by decide) (fun kx23 ks21 H locs kp20 kf22 hW => ?_)
    refine lv_istore_n (lv' := [(2, .int kx23), (0, .ref a0), (1, .int i1)]) hx hb dX12_rub_26 rfl hl (by decide) rfl (fun ls hl => ?_)
    refine lv_iload_n hx hb dX12_rub_27 rfl (lv_at hl 0 rfl) ?_
    refine lv_if_lt (tgt := 83) hx hb dX12_rub_28 (by decide) (fun kc24 => ?_) (fun kc24 => ?_)
    · have kv25 : q_V (-1) (-1) kx23 := (q_lt1 kp20 (q_c (k := 0) (x := 0) (by decide)) kc24).w (by decide) (by decide)
      exact q_retv hE hr hlocks hW (trivial) dX12_rub_83
    · have kv26 : q_V 0 5 kx23 := (q_le2 (q_c (k := 0) (x := 0) (by decide)) kp20 (Int32.not_lt.mp kc24)).w (by decide) (by decide)
      refine lv_aload_n hx hb dX12_rub_31 rfl (lv_at hl 1 rfl) ?_
      refine q_getr hE hW h0 rfl q_k12 9 (by decide) rfl (hE.l wl_135) dX12_rub_32 (fun kb27 ekb27 hkb27a hkb27b => ?_)
      have hkb27 : q_T G kb27 = 46 := q_tag hkb27a hkb27b
      refine lv_bipush (v := 18) hx hb dX12_rub_35 (by decide) ?_
      refine lv_bipush (v := 6) hx hb dX12_rub_37 (by decide) ?_
      refine lv_iload_n hx hb dX12_rub_39 rfl (lv_at hl 2 rfl) ?_
      refine lv_imul hx hb dX12_rub_40 ?_
      refine lv_topi (fun kx28 ekx28 => ?_)
      have vkx28 : q_V 0 30 kx28 := by rw [ekx28]; exact (q_mul (k := 6) (by decide) w1 (by decide) (by decide) (by decide)).w (by decide) (by decide)
      refine lv_iadd hx hb dX12_rub_41 ?_
      refine lv_topi (fun kx29 ekx29 => ?_)
      have vkx29 : q_V 18 48 kx29 := by rw [ekx29]; exact (q_add (q_c (k := 18) (x := 18) (by decide)) vkx28 (by decide) (by decide)).w (by decide) (by decide)
      refine lv_iload_n hx hb dX12_rub_42 rfl (lv_at hl 0 rfl) ?_
      refine lv_iadd hx hb dX12_rub_43 ?_
      refine lv_topi (fun kx30 ekx30 => ?_)
      have vkx30 : q_V 18 53 kx30 := by rw [ekx30]; exact (q_add vkx29 kv26 (by decide) (by decide)).w (by decide) (by decide)
      refine lv_dup2_11 hx hb dX12_rub_44 rfl rfl ?_
      refine q_iald hE hW hkb27 rfl (q_in vkx30 (by decide) (by decide)) dX12_rub_45 (fun kx31 ekx31 gkx31 => ?_)
      refine lv_iconst (v := 1) hx hb dX12_rub_46 (by decide) ?_
      refine lv_isub hx hb dX12_rub_47 ?_
      refine lv_topi (fun kx32 ekx32 => ?_)
      refine q_iast hE hW hkb27 rfl (q_in vkx30 (by decide) (by decide)) (fun q_a q_b => q_out vkx30 q_a q_b (by decide)) (by decide) dX12_rub_48 (fun H locs ks33 kp34 hW => ?_)
      refine lv_aload_n hx hb dX12_rub_49 rfl (lv_at hl 1 rfl) ?_
      refine q_getr hE hW h0 rfl q_k12 9 (by decide) rfl (hE.l wl_135) dX12_rub_50 (fun kb35 ekb35 hkb35a hkb35b => ?_)
      obtain rfl : kb27 = kb35 := ((kp34.2.2.1 _ _).trans ekb27).symm.trans ekb35
      refine lv_bipush (v := 57) hx hb dX12_rub_53 (by decide) ?_
      refine lv_dup2_11 hx hb dX12_rub_55 rfl rfl ?_
      refine q_iald hE hW hkb27 rfl (q_in (q_c (k := 57) (x := 57) (by decide)) (by decide) (by decide)) dX12_rub_56 (fun kx36 ekx36 gkx36 => ?_)
      refine lv_iload_n hx hb dX12_rub_57 rfl (lv_at hl 0 rfl) ?_
      refine lv_iconst (v := 5) hx hb dX12_rub_58 (by decide) ?_
      refine lv_icmp_ne (tgt := 66) hx hb dX12_rub_59 (by decide) (fun kc37 => ?_) (fun kc37 => ?_)
      · have kv38 : q_V 0 4 kx23 := q_ne2 kv26 (q_c (k := 5) (x := 5) (by decide)) kc37 (by decide)
        refine lv_iconst (v := 0) hx hb dX12_rub_66 (by decide) ?_
        exact jn67a _ _ _ kx23 (kv38.w (by decide) (by decide)) kb27 hkb27 57 (q_c (k := 57) (x := 57) (by decide)) kx36 0 ((q_c (k := 0) (x := 0) (by decide)).w (by decide) (by decide)) hW ls (lv_sub hl [1, 0] rfl)
      · have kv39 : q_V 5 5 kx23 := q_eq1 kv26 (q_c (k := 5) (x := 5) (by decide)) kc37 (by decide) (by decide)
        refine lv_iconst (v := 1) hx hb dX12_rub_62 (by decide) ?_
        refine lv_goto (tgt := 67) hx hb dX12_rub_63 (by decide) ?_
        exact jn67a _ _ _ kx23 (kv39.w (by decide) (by decide)) kb27 hkb27 57 (q_c (k := 57) (x := 57) (by decide)) kx36 1 ((q_c (k := 1) (x := 1) (by decide)).w (by decide) (by decide)) hW ls (lv_sub hl [1, 0] rfl)
  refine lv_aload_n hx hb dX12_rub_0 rfl (lv_at hl 0 rfl) ?_
  refine lv_bipush (v := 18) hx hb dX12_rub_1 (by decide) ?_
  refine lv_bipush (v := 6) hx hb dX12_rub_3 (by decide) ?_
  refine lv_iload_n hx hb dX12_rub_5 rfl (lv_at hl 1 rfl) ?_
  refine lv_imul hx hb dX12_rub_6 ?_
  refine lv_topi (fun kx40 ekx40 => ?_)
  have vkx40 : q_V 0 30 kx40 := by rw [ekx40]; exact (q_mul (k := 6) (by decide) w1 (by decide) (by decide) (by decide)).w (by decide) (by decide)
  refine lv_iadd hx hb dX12_rub_7 ?_
  refine lv_topi (fun kx41 ekx41 => ?_)
  have vkx41 : q_V 18 48 kx41 := by rw [ekx41]; exact (q_add (q_c (k := 18) (x := 18) (by decide)) vkx40 (by decide) (by decide)).w (by decide) (by decide)
  refine lv_aload_n hx hb dX12_rub_8 rfl (lv_at hl 0 rfl) ?_
  refine q_getr hE hW h0 rfl q_k12 9 (by decide) rfl (hE.l wl_135) dX12_rub_9 (fun kb42 ekb42 hkb42a hkb42b => ?_)
  have hkb42 : q_T G kb42 = 46 := q_tag hkb42a hkb42b
  refine lv_bipush (v := 57) hx hb dX12_rub_12 (by decide) ?_
  refine q_iald hE hW hkb42 rfl (q_in (q_c (k := 57) (x := 57) (by decide)) (by decide) (by decide)) dX12_rub_14 (fun kx43 ekx43 gkx43 => ?_)
  refine lv_if_le (tgt := 22) hx hb dX12_rub_15 (by decide) (fun kc44 => ?_) (fun kc44 => ?_)
  · have kv45 : q_V (-2147483648) 0 kx43 := (q_le1 (q_all kx43) (q_c (k := 0) (x := 0) (by decide)) kc44).w (by decide) (by decide)
    refine lv_iconst (v := 0) hx hb dX12_rub_22 (by decide) ?_
    exact jn23a _ _ _ a0 h0 kx41 vkx41 0 ((q_c (k := 0) (x := 0) (by decide)).w (by decide) (by decide)) hW ls (lv_sub hl [0, 1] rfl)
  · have kv46 : q_V 1 2147483647 kx43 := (q_lt2 (q_c (k := 0) (x := 0) (by decide)) (q_all kx43) (Int32.not_le.mp kc44)).w (by decide) (by decide)
    refine lv_iconst (v := 1) hx hb dX12_rub_18 (by decide) ?_
    refine lv_goto (tgt := 23) hx hb dX12_rub_19 (by decide) ?_
    exact jn23a _ _ _ a0 h0 kx41 vkx41 1 ((q_c (k := 1) (x := 1) (by decide)).w (by decide) (by decide)) hW ls (lv_sub hl [0, 1] rfl)
set_option maxHeartbeats 4000000 in
set_option maxRecDepth 100000 in
theorem c_X12_work (l : Launch) (G : q_G) (σ : q_S) (a0 : Nat) (h0 : q_T G a0 = 40) (i1 : Int32) (w1 : q_V 0 2 i1) (i2 : Int32) (w2 : q_V 0 5 i2)  : Met l yX12_work (Cond.code yX12_work cX12_work 5 none :: wsL_law) (q_Rm 3) (q_Pre G σ [.ref a0, .int i1, .int i2]) (q_Qv G [46] σ (fun σ1 => True)) 0 0 (q_N G) := by
  refine q_ofW (ts := [46]) (by decide) (Nat.le_of_ble_eq_true rfl) ?_
  intro p e s m args below meth c hE hr hlocks hW ls hl
  have hE : q_E G p s m args c cX12_work 5 RX12 := hE
  have hx := hE.1.1
  have hb := hE.1.2.1
  have hl : lv_has ls 5 [(0, .ref a0), (1, .int i1), (2, .int i2)] := hl
  have jn74a : ∀ (ks5 : q_S) (H : Heap) (locs : List Loc) (kx1 : Int32) (kb2 : Nat) (hkb2 : q_T G kb2 = 46) (kx3 : Int32) (vkx3 : q_V 0 5 kx3) (kx4 : Int32) (vkx4 : q_V 0 2147483647 kx4) (hW : q_Wd G [46] σ s.heap ks5 H locs) (ls : Array Slot) (hl : lv_has ls 5 [(0, .ref a0), (1, .int i1), (2, .int i2), (4, .int kx1)]), W p l e (q_Rm 3) s m args below meth c H locs 0 0 (MQ below (q_Qv G [46] σ (fun σ1 => True)) args s 0 0 (q_N G)) (F0 m 74 ls [.int kx4, .int kx3, .ref kb2]) := by
    intro ks5 H locs kx1 kb2 hkb2 kx3 vkx3 kx4 vkx4 hW ls hl
    refine q_iast hE hW hkb2 rfl (q_in vkx3 (by decide) (by decide)) (fun q_a q_b => q_out vkx3 q_a q_b (by decide)) (by decide) dX12_work_74 (fun H locs ks6 kp7 hW => ?_)
    refine lv_iload hx hb dX12_work_75 (lv_at hl 3 rfl) ?_
    refine lv_if_gt (tgt := 100) hx hb dX12_work_77 (by decide) (fun kc8 => ?_) (fun kc8 => ?_)
    · have kv9 : q_V 1 2147483647 kx1 := (q_lt2 (q_c (k := 0) (x := 0) (by decide)) (q_all kx1) kc8).w (by decide) (by decide)
      exact q_retv hE hr hlocks hW (trivial) dX12_work_100
    · have kv10 : q_V (-2147483648) 0 kx1 := (q_le1 (q_all kx1) (q_c (k := 0) (x := 0) (by decide)) (Int32.not_lt.mp kc8)).w (by decide) (by decide)
      refine lv_aload_n hx hb dX12_work_80 rfl (lv_at hl 0 rfl) ?_
      refine q_getr hE hW h0 rfl q_k12 9 (by decide) rfl (hE.l wl_135) dX12_work_81 (fun kb11 ekb11 hkb11a hkb11b => ?_)
      have hkb11 : q_T G kb11 = 46 := q_tag hkb11a hkb11b
      refine lv_bipush (v := 6) hx hb dX12_work_84 (by decide) ?_
      refine lv_iload_n hx hb dX12_work_86 rfl (lv_at hl 2 rfl) ?_
      refine lv_iadd hx hb dX12_work_87 ?_
      refine lv_topi (fun kx12 ekx12 => ?_)
      have vkx12 : q_V 6 11 kx12 := by rw [ekx12]; exact (q_add (q_c (k := 6) (x := 6) (by decide)) w2 (by decide) (by decide)).w (by decide) (by decide)
      refine lv_iconst (v := 4) hx hb dX12_work_88 (by decide) ?_
      refine q_iast hE hW hkb11 rfl (q_in vkx12 (by decide) (by decide)) (fun q_a q_b => q_out vkx12 q_a q_b (by decide)) (by decide) dX12_work_89 (fun H locs ks13 kp14 hW => ?_)
      refine lv_aload_n hx hb dX12_work_90 rfl (lv_at hl 0 rfl) ?_
      refine q_getr hE hW h0 rfl q_k12 9 (by decide) rfl (hE.l wl_135) dX12_work_91 (fun kb15 ekb15 hkb15a hkb15b => ?_)
      obtain rfl : kb11 = kb15 := ((kp14.2.2.1 _ _).trans ekb11).symm.trans ekb15
      refine lv_bipush (v := 54) hx hb dX12_work_94 (by decide) ?_
      refine lv_iload_n hx hb dX12_work_96 rfl (lv_at hl 1 rfl) ?_
      refine lv_iadd hx hb dX12_work_97 ?_
      refine lv_topi (fun kx16 ekx16 => ?_)
      have vkx16 : q_V 54 56 kx16 := by rw [ekx16]; exact (q_add (q_c (k := 54) (x := 54) (by decide)) w1 (by decide) (by decide)).w (by decide) (by decide)
      refine lv_iconst (v := (-1)) hx hb dX12_work_98 (by decide) ?_
      refine q_iast hE hW hkb11 rfl (q_in vkx16 (by decide) (by decide)) (fun _ _ => ((q_c (k := (-1)) (x := (-1)) (by decide)).w (by decide) (by decide))) (by decide) dX12_work_99 (fun H locs ks17 kp18 hW => ?_)
      exact q_retv hE hr hlocks hW (trivial) dX12_work_100
  have lp19a : ∀ (n19a : Nat) (ks21 : q_S) (H : Heap) (locs : List Loc) (kx19 : Int32) (kx20 : Int32) (vkx20 : q_V 0 2147483647 kx20) (hW : q_Wd G [46] σ s.heap ks21 H locs) (ls : Array Slot) (hl : lv_has ls 5 [(0, .ref a0), (1, .int i1), (2, .int i2), (3, .int kx19), (4, .int kx20)]), (2147483647 - kx20.toInt).toNat < n19a → W p l e (q_Rm 3) s m args below meth c H locs 0 0 (MQ below (q_Qv G [46] σ (fun σ1 => True)) args s 0 0 (q_N G)) (F0 m 19 ls []) := by
    intro n19a
    induction n19a with
    | zero => intro _ _ _ _ _ _ _ _ _; exact fun h => absurd h (Nat.not_lt_zero _)
    | succ n19a ih19a =>
      intro ks21 H locs kx19 kx20 vkx20 hW ls hl hm19a
      refine lv_iload hx hb dX12_work_19 (lv_at hl 4 rfl) ?_
      refine lv_iload_n hx hb dX12_work_21 rfl (lv_at hl 3 rfl) ?_
      refine lv_icmp_ge (tgt := 36) hx hb dX12_work_22 (by decide) (fun kc22 => ?_) (fun kc22 => ?_)
      · refine lv_aload_n hx hb dX12_work_36 rfl (lv_at hl 0 rfl) ?_
        refine q_getr hE hW h0 rfl q_k12 9 (by decide) rfl (hE.l wl_135) dX12_work_37 (fun kb23 ekb23 hkb23a hkb23b => ?_)
        have hkb23 : q_T G kb23 = 46 := q_tag hkb23a hkb23b
        refine lv_iconst (v := 0) hx hb dX12_work_40 (by decide) ?_
        refine lv_iload_n hx hb dX12_work_41 rfl (lv_at hl 2 rfl) ?_
        refine lv_iadd hx hb dX12_work_42 ?_
        refine lv_topi (fun kx24 ekx24 => ?_)
        have vkx24 : q_V 0 5 kx24 := by rw [ekx24]; exact (q_add (q_c (k := 0) (x := 0) (by decide)) w2 (by decide) (by decide)).w (by decide) (by decide)
        refine q_iald hE hW hkb23 rfl (q_in vkx24 (by decide) (by decide)) dX12_work_43 (fun kx25 ekx25 gkx25 => ?_)
        refine lv_aload_n hx hb dX12_work_44 rfl (lv_at hl 0 rfl) ?_
        refine q_getr hE hW h0 rfl q_k12 1 (by decide) rfl (hE.l wl_129) dX12_work_45 (fun kb26 ekb26 hkb26a hkb26b => ?_)
        have hkb26 : q_T G kb26 = 41 := q_tag hkb26a hkb26b
        refine lv_iload_n hx hb dX12_work_48 rfl (lv_at hl 2 rfl) ?_
        refine q_iald hE hW hkb26 rfl (q_in w2 (by decide) (by decide)) dX12_work_49 (fun kx27 ekx27 gkx27 => ?_)
        refine q_goi hW (q_runS (As := [.int kx27]) (rest := [.int kx25]) hE hW (c_X12_shrinksBy l G ks21 kx27) kw_X12_266 rfl hl.1 rfl (Nat.le_of_ble_eq_true rfl) dX12_work_50 ⟨by decide, by decide⟩ ⟨by decide, by decide⟩) (by decide) (fun kx31 ks29 H locs kp28 kf30 hW => ?_)
        refine lv_isub hx hb dX12_work_53 ?_
        refine lv_topi (fun kx32 ekx32 => ?_)
        refine lv_istore (lv' := [(4, .int kx32), (0, .ref a0), (1, .int i1), (2, .int i2), (3, .int kx19)]) hx hb dX12_work_54 hl (by decide) rfl (fun ls hl => ?_)
        refine lv_aload_n hx hb dX12_work_56 rfl (lv_at hl 1 rfl) ?_
        refine q_getr hE hW h0 rfl q_k12 9 (by decide) rfl (hE.l wl_135) dX12_work_57 (fun kb33 ekb33 hkb33a hkb33b => ?_)
        obtain rfl : kb23 = kb33 := ((kf30.R _ h0 (by decide)).trans ekb23).symm.trans ekb33
        refine lv_iconst (v := 0) hx hb dX12_work_60 (by decide) ?_
        refine lv_iload_n hx hb dX12_work_61 rfl (lv_at hl 3 rfl) ?_
        refine lv_iadd hx hb dX12_work_62 ?_
        refine lv_topi (fun kx34 ekx34 => ?_)
        obtain rfl : kx24 = kx34 := ekx24.trans ekx34.symm
        refine lv_iload hx hb dX12_work_63 (lv_at hl 0 rfl) ?_
        refine lv_if_le (tgt := 73) hx hb dX12_work_65 (by decide) (fun kc35 => ?_) (fun kc35 => ?_)
        · have kv36 : q_V (-2147483648) 0 kx32 := (q_le1 (q_all kx32) (q_c (k := 0) (x := 0) (by decide)) kc35).w (by decide) (by decide)
          refine lv_iconst (v := 0) hx hb dX12_work_73 (by decide) ?_
          exact jn74a _ _ _ kx32 kb23 hkb23 kx24 vkx24 0 ((q_c (k := 0) (x := 0) (by decide)).w (by decide) (by decide)) hW ls (lv_sub hl [1, 2, 3, 0] rfl)
        · have kv37 : q_V 1 2147483647 kx32 := (q_lt2 (q_c (k := 0) (x := 0) (by decide)) (q_all kx32) (Int32.not_le.mp kc35)).w (by decide) (by decide)
          refine lv_iload hx hb dX12_work_68 (lv_at hl 0 rfl) ?_
          refine lv_goto (tgt := 74) hx hb dX12_work_70 (by decide) ?_
          exact jn74a _ _ _ kx32 kb23 hkb23 kx24 vkx24 kx32 (kv37.w (by decide) (by decide)) hW ls (lv_sub hl [1, 2, 3, 0] rfl)
      · have kv38 : q_V 0 2147483646 kx20 := (q_lt1 vkx20 (q_all kx19) (Int32.not_le.mp kc22)).w (by decide) (by decide)
        have kv39 : q_V 1 2147483647 kx19 := (q_lt2 vkx20 (q_all kx19) (Int32.not_le.mp kc22)).w (by decide) (by decide)
        refine lv_aload_n hx hb dX12_work_25 rfl (lv_at hl 0 rfl) ?_
        refine lv_iload_n hx hb dX12_work_26 rfl (lv_at hl 2 rfl) ?_
        refine q_gov hW (q_runV (As := [.int i2]) (rest := []) hE hW (c_X12_rub l G ks21 a0 h0 i2 w2) kw_X12_262 (q_recv hE hW h0 rfl q_k12) rfl hl.1 rfl (Nat.le_of_ble_eq_true rfl) dX12_work_27 ⟨by decide, by decide⟩ ⟨by decide, by decide⟩) (by decide) (fun ks41 H locs kp40 kf42 hW => ?_)
        obtain ⟨kx43, ekx43⟩ : ∃ y : Int32, y = kx20 + 1 := ⟨_, rfl⟩
        have vkx43 : q_V 1 2147483647 kx43 := by rw [ekx43]; exact (q_add kv38 (q_c (k := 1) (x := 1) (by decide)) (by decide) (by decide)).w (by decide) (by decide)
        have ikx43 : kx43.toInt = kx20.toInt + 1 := q_incT ekx43 kv38 (by decide) (by decide) (by decide)
        refine lv_iinc (v := kx43) (lv' := [(4, .int kx43), (0, .ref a0), (1, .int i1), (2, .int i2), (3, .int kx19)]) hx hb dX12_work_30 hl (k := 4) rfl (by rw [ekx43]; rfl) (by decide) rfl (fun ls hl => ?_)
        refine lv_goto (tgt := 19) hx hb dX12_work_33 (by decide) ?_
        exact ih19a _ _ _ kx19 kx43 (vkx43.w (by decide) (by decide)) hW ls (lv_sub hl [1, 2, 3, 4, 0] rfl) (Nat.lt_of_lt_of_le (q_up (ikx43) (show q_V 1 2147483647 kx43 from vkx43).2) (Nat.le_of_lt_succ hm19a))
  refine lv_aload_n hx hb dX12_work_0 rfl (lv_at hl 0 rfl) ?_
  refine q_getr hE hW h0 rfl q_k12 1 (by decide) rfl (hE.l wl_129) dX12_work_1 (fun kb44 ekb44 hkb44a hkb44b => ?_)
  have hkb44 : q_T G kb44 = 41 := q_tag hkb44a hkb44b
  refine lv_iload_n hx hb dX12_work_4 rfl (lv_at hl 2 rfl) ?_
  refine q_iald hE hW hkb44 rfl (q_in w2 (by decide) (by decide)) dX12_work_5 (fun kx45 ekx45 gkx45 => ?_)
  refine lv_aload_n hx hb dX12_work_6 rfl (lv_at hl 0 rfl) ?_
  refine q_getr hE hW h0 rfl q_k12 6 (by decide) rfl (hE.l wl_133) dX12_work_7 (fun kb46 ekb46 hkb46a hkb46b => ?_)
  have hkb46 : q_T G kb46 = 45 := q_tag hkb46a hkb46b
  refine lv_iload_n hx hb dX12_work_10 rfl (lv_at hl 1 rfl) ?_
  refine q_iald hE hW hkb46 rfl (q_in w1 (by decide) (by decide)) dX12_work_11 (fun kx47 ekx47 gkx47 => ?_)
  refine q_goi hW (q_runS (As := [.int kx45, .int kx47]) (rest := []) hE hW (c_X12_rubsBy l G σ kx45 kx47) kw_X12_254 rfl hl.1 rfl (Nat.le_of_ble_eq_true rfl) dX12_work_12 ⟨by decide, by decide⟩ ⟨by decide, by decide⟩) (by decide) (fun kx51 ks49 H locs kp48 kf50 hW => ?_)
  refine lv_istore_n (lv' := [(3, .int kx51), (0, .ref a0), (1, .int i1), (2, .int i2)]) hx hb dX12_work_15 rfl hl (by decide) rfl (fun ls hl => ?_)
  refine lv_iconst (v := 0) hx hb dX12_work_16 (by decide) ?_
  refine lv_istore (lv' := [(4, .int 0), (3, .int kx51), (0, .ref a0), (1, .int i1), (2, .int i2)]) hx hb dX12_work_17 hl (by decide) rfl (fun ls hl => ?_)
  exact lp19a _ _ _ _ kx51 0 ((q_c (k := 0) (x := 0) (by decide)).w (by decide) (by decide)) hW ls (lv_sub hl [2, 3, 4, 1, 0] rfl) (Nat.lt_succ_self _)
set_option maxHeartbeats 4000000 in
set_option maxRecDepth 100000 in
theorem c_X12_pass (l : Launch) (G : q_G) (σ : q_S) (a0 : Nat) (h0 : q_T G a0 = 40)  : Met l yX12_pass (Cond.code yX12_pass cX12_pass 3 none :: wsL_law) (q_Rm 4) (q_Pre G σ [.ref a0]) (q_Qv G [46] σ (fun σ1 => True)) 0 0 (q_N G) := by
  refine q_ofW (ts := [46]) (by decide) (Nat.le_of_ble_eq_true rfl) ?_
  intro p e s m args below meth c hE hr hlocks hW ls hl
  have hE : q_E G p s m args c cX12_pass 3 RX12 := hE
  have hx := hE.1.1
  have hb := hE.1.2.1
  have hl : lv_has ls 3 [(0, .ref a0)] := hl
  have lp111a : ∀ (n111a : Nat) (ks2 : q_S) (H : Heap) (locs : List Loc) (kx1 : Int32) (vkx1 : q_V 0 6 kx1) (hW : q_Wd G [46] σ s.heap ks2 H locs) (ls : Array Slot) (hl : lv_has ls 3 [(0, .ref a0), (1, .int kx1)]), (6 - kx1.toInt).toNat < n111a → W p l e (q_Rm 4) s m args below meth c H locs 0 0 (MQ below (q_Qv G [46] σ (fun σ1 => True)) args s 0 0 (q_N G)) (F0 m 111 ls []) := by
    intro n111a
    induction n111a with
    | zero => intro _ _ _ _ _ _ _ _; exact fun h => absurd h (Nat.not_lt_zero _)
    | succ n111a ih111a =>
      intro ks2 H locs kx1 vkx1 hW ls hl hm111a
      have jn147a : ∀ (ks8 : q_S) (H : Heap) (locs : List Loc) (kv3 : q_V 0 5 kx1) (kb4 : Nat) (hkb4 : q_T G kb4 = 46) (kx5 : Int32) (vkx5 : q_V 12 17 kx5) (kx6 : Int32) (kx7 : Int32) (vkx7 : q_V 0 1 kx7) (hW : q_Wd G [46] σ s.heap ks8 H locs) (ls : Array Slot) (hl : lv_has ls 3 [(0, .ref a0), (1, .int kx1)]), W p l e (q_Rm 4) s m args below meth c H locs 0 0 (MQ below (q_Qv G [46] σ (fun σ1 => True)) args s 0 0 (q_N G)) (F0 m 147 ls [.int kx7, .int kx6, .int kx5, .ref kb4]) := by
        intro ks8 H locs kv3 kb4 hkb4 kx5 vkx5 kx6 kx7 vkx7 hW ls hl
        refine lv_iadd hx hb dX12_pass_147 ?_
        refine lv_topi (fun kx9 ekx9 => ?_)
        refine q_iast hE hW hkb4 rfl (q_in vkx5 (by decide) (by decide)) (fun q_a q_b => q_out vkx5 q_a q_b (by decide)) (by decide) dX12_pass_148 (fun H locs ks10 kp11 hW => ?_)
        obtain ⟨kx12, ekx12⟩ : ∃ y : Int32, y = kx1 + 1 := ⟨_, rfl⟩
        have vkx12 : q_V 1 6 kx12 := by rw [ekx12]; exact (q_add kv3 (q_c (k := 1) (x := 1) (by decide)) (by decide) (by decide)).w (by decide) (by decide)
        have ikx12 : kx12.toInt = kx1.toInt + 1 := q_incT ekx12 kv3 (by decide) (by decide) (by decide)
        refine lv_iinc (v := kx12) (lv' := [(1, .int kx12), (0, .ref a0)]) hx hb dX12_pass_149 hl (k := 1) rfl (by rw [ekx12]; rfl) (by decide) rfl (fun ls hl => ?_)
        refine lv_goto (tgt := 111) hx hb dX12_pass_152 (by decide) ?_
        exact ih111a _ _ _ kx12 (vkx12.w (by decide) (by decide)) hW ls (lv_sub hl [1, 0] rfl) (Nat.lt_of_lt_of_le (q_up (ikx12) (show q_V 1 6 kx12 from vkx12).2) (Nat.le_of_lt_succ hm111a))
      refine lv_iload_n hx hb dX12_pass_111 rfl (lv_at hl 1 rfl) ?_
      refine lv_aload_n hx hb dX12_pass_112 rfl (lv_at hl 0 rfl) ?_
      refine q_geti hE hW h0 rfl q_k12 0 (by decide) rfl (hE.l wl_358) dX12_pass_113 (fun kx13 ekx13 vkx13 => ?_)
      refine lv_icmp_ge (tgt := 155) hx hb dX12_pass_116 (by decide) (fun kc14 => ?_) (fun kc14 => ?_)
      · refine lv_aload_n hx hb dX12_pass_155 rfl (lv_at hl 0 rfl) ?_
        refine q_getr hE hW h0 rfl q_k12 9 (by decide) rfl (hE.l wl_135) dX12_pass_156 (fun kb15 ekb15 hkb15a hkb15b => ?_)
        have hkb15 : q_T G kb15 = 46 := q_tag hkb15a hkb15b
        refine lv_bipush (v := 58) hx hb dX12_pass_159 (by decide) ?_
        refine lv_dup2_11 hx hb dX12_pass_161 rfl rfl ?_
        refine q_iald hE hW hkb15 rfl (q_in (q_c (k := 58) (x := 58) (by decide)) (by decide) (by decide)) dX12_pass_162 (fun kx16 ekx16 gkx16 => ?_)
        refine lv_iconst (v := 1) hx hb dX12_pass_163 (by decide) ?_
        refine lv_iadd hx hb dX12_pass_164 ?_
        refine lv_topi (fun kx17 ekx17 => ?_)
        refine q_iast hE hW hkb15 rfl (q_in (q_c (k := 58) (x := 58) (by decide)) (by decide) (by decide)) (fun q_a q_b => q_out (q_c (k := 58) (x := 58) (by decide)) q_a q_b (by decide)) (by decide) dX12_pass_165 (fun H locs ks18 kp19 hW => ?_)
        exact q_retv hE hr hlocks hW (trivial) dX12_pass_166
      · have kv20 : q_V 0 5 kx1 := (q_lt1 vkx1 vkx13 (Int32.not_le.mp kc14)).w (by decide) (by decide)
        have kv21 : q_V 1 6 kx13 := (q_lt2 vkx1 vkx13 (Int32.not_le.mp kc14)).w (by decide) (by decide)
        refine lv_aload_n hx hb dX12_pass_119 rfl (lv_at hl 0 rfl) ?_
        refine q_getr hE hW h0 rfl q_k12 9 (by decide) rfl (hE.l wl_135) dX12_pass_120 (fun kb22 ekb22 hkb22a hkb22b => ?_)
        have hkb22 : q_T G kb22 = 46 := q_tag hkb22a hkb22b
        refine lv_bipush (v := 12) hx hb dX12_pass_123 (by decide) ?_
        refine lv_iload_n hx hb dX12_pass_125 rfl (lv_at hl 1 rfl) ?_
        refine lv_iadd hx hb dX12_pass_126 ?_
        refine lv_topi (fun kx23 ekx23 => ?_)
        have vkx23 : q_V 12 17 kx23 := by rw [ekx23]; exact (q_add (q_c (k := 12) (x := 12) (by decide)) kv20 (by decide) (by decide)).w (by decide) (by decide)
        refine lv_dup2_11 hx hb dX12_pass_127 rfl rfl ?_
        refine q_iald hE hW hkb22 rfl (q_in vkx23 (by decide) (by decide)) dX12_pass_128 (fun kx24 ekx24 gkx24 => ?_)
        refine lv_aload_n hx hb dX12_pass_129 rfl (lv_at hl 0 rfl) ?_
        refine q_getr hE hW h0 rfl q_k12 9 (by decide) rfl (hE.l wl_135) dX12_pass_130 (fun kb25 ekb25 hkb25a hkb25b => ?_)
        obtain rfl : kb22 = kb25 := ekb22.symm.trans ekb25
        refine lv_bipush (v := 6) hx hb dX12_pass_133 (by decide) ?_
        refine lv_iload_n hx hb dX12_pass_135 rfl (lv_at hl 1 rfl) ?_
        refine lv_iadd hx hb dX12_pass_136 ?_
        refine lv_topi (fun kx26 ekx26 => ?_)
        have vkx26 : q_V 6 11 kx26 := by rw [ekx26]; exact (q_add (q_c (k := 6) (x := 6) (by decide)) kv20 (by decide) (by decide)).w (by decide) (by decide)
        refine q_iald hE hW hkb22 rfl (q_in vkx26 (by decide) (by decide)) dX12_pass_137 (fun kx27 ekx27 gkx27 => ?_)
        refine lv_iconst (v := 2) hx hb dX12_pass_138 (by decide) ?_
        refine lv_icmp_ne (tgt := 146) hx hb dX12_pass_139 (by decide) (fun kc28 => ?_) (fun kc28 => ?_)
        · refine lv_iconst (v := 0) hx hb dX12_pass_146 (by decide) ?_
          exact jn147a _ _ _ kv20 kb22 hkb22 kx23 vkx23 kx24 0 ((q_c (k := 0) (x := 0) (by decide)).w (by decide) (by decide)) hW ls (lv_sub hl [0, 1] rfl)
        · have kv29 : q_V 2 2 kx27 := q_eq1 (q_all kx27) (q_c (k := 2) (x := 2) (by decide)) kc28 (by decide) (by decide)
          refine lv_iconst (v := 1) hx hb dX12_pass_142 (by decide) ?_
          refine lv_goto (tgt := 147) hx hb dX12_pass_143 (by decide) ?_
          exact jn147a _ _ _ kv20 kb22 hkb22 kx23 vkx23 kx24 1 ((q_c (k := 1) (x := 1) (by decide)).w (by decide) (by decide)) hW ls (lv_sub hl [0, 1] rfl)
  have lp69a : ∀ (n69a : Nat) (ks31 : q_S) (H : Heap) (locs : List Loc) (kx30 : Int32) (vkx30 : q_V 0 3 kx30) (hW : q_Wd G [46] σ s.heap ks31 H locs) (ls : Array Slot) (hl : lv_has ls 3 [(0, .ref a0), (1, .int kx30)]), (3 - kx30.toInt).toNat < n69a → W p l e (q_Rm 4) s m args below meth c H locs 0 0 (MQ below (q_Qv G [46] σ (fun σ1 => True)) args s 0 0 (q_N G)) (F0 m 69 ls []) := by
    intro n69a
    induction n69a with
    | zero => intro _ _ _ _ _ _ _ _; exact fun h => absurd h (Nat.not_lt_zero _)
    | succ n69a ih69a =>
      intro ks31 H locs kx30 vkx30 hW ls hl hm69a
      have jn103a : ∀ (ks33 : q_S) (H : Heap) (locs : List Loc) (kv32 : q_V 0 2 kx30) (hW : q_Wd G [46] σ s.heap ks33 H locs) (ls : Array Slot) (hl : lv_has ls 3 [(0, .ref a0), (1, .int kx30)]), W p l e (q_Rm 4) s m args below meth c H locs 0 0 (MQ below (q_Qv G [46] σ (fun σ1 => True)) args s 0 0 (q_N G)) (F0 m 103 ls []) := by
        intro ks33 H locs kv32 hW ls hl
        obtain ⟨kx34, ekx34⟩ : ∃ y : Int32, y = kx30 + 1 := ⟨_, rfl⟩
        have vkx34 : q_V 1 3 kx34 := by rw [ekx34]; exact (q_add kv32 (q_c (k := 1) (x := 1) (by decide)) (by decide) (by decide)).w (by decide) (by decide)
        have ikx34 : kx34.toInt = kx30.toInt + 1 := q_incT ekx34 kv32 (by decide) (by decide) (by decide)
        refine lv_iinc (v := kx34) (lv' := [(1, .int kx34), (0, .ref a0)]) hx hb dX12_pass_103 hl (k := 1) rfl (by rw [ekx34]; rfl) (by decide) rfl (fun ls hl => ?_)
        refine lv_goto (tgt := 69) hx hb dX12_pass_106 (by decide) ?_
        exact ih69a _ _ _ kx34 (vkx34.w (by decide) (by decide)) hW ls (lv_sub hl [1, 0] rfl) (Nat.lt_of_lt_of_le (q_up (ikx34) (show q_V 1 3 kx34 from vkx34).2) (Nat.le_of_lt_succ hm69a))
      refine lv_iload_n hx hb dX12_pass_69 rfl (lv_at hl 1 rfl) ?_
      refine lv_aload_n hx hb dX12_pass_70 rfl (lv_at hl 0 rfl) ?_
      refine q_geti hE hW h0 rfl q_k12 5 (by decide) rfl (hE.l wl_360) dX12_pass_71 (fun kx35 ekx35 vkx35 => ?_)
      refine lv_icmp_ge (tgt := 109) hx hb dX12_pass_74 (by decide) (fun kc36 => ?_) (fun kc36 => ?_)
      · refine lv_iconst (v := 0) hx hb dX12_pass_109 (by decide) ?_
        refine lv_istore_n (lv' := [(1, .int 0), (0, .ref a0)]) hx hb dX12_pass_110 rfl hl (by decide) rfl (fun ls hl => ?_)
        exact lp111a _ _ _ _ 0 ((q_c (k := 0) (x := 0) (by decide)).w (by decide) (by decide)) hW ls (lv_sub hl [1, 0] rfl) (Nat.lt_succ_self _)
      · have kv37 : q_V 0 2 kx30 := (q_lt1 vkx30 vkx35 (Int32.not_le.mp kc36)).w (by decide) (by decide)
        have kv38 : q_V 1 3 kx35 := (q_lt2 vkx30 vkx35 (Int32.not_le.mp kc36)).w (by decide) (by decide)
        refine lv_aload_n hx hb dX12_pass_77 rfl (lv_at hl 0 rfl) ?_
        refine q_getr hE hW h0 rfl q_k12 9 (by decide) rfl (hE.l wl_135) dX12_pass_78 (fun kb39 ekb39 hkb39a hkb39b => ?_)
        have hkb39 : q_T G kb39 = 46 := q_tag hkb39a hkb39b
        refine lv_bipush (v := 54) hx hb dX12_pass_81 (by decide) ?_
        refine lv_iload_n hx hb dX12_pass_83 rfl (lv_at hl 1 rfl) ?_
        refine lv_iadd hx hb dX12_pass_84 ?_
        refine lv_topi (fun kx40 ekx40 => ?_)
        have vkx40 : q_V 54 56 kx40 := by rw [ekx40]; exact (q_add (q_c (k := 54) (x := 54) (by decide)) kv37 (by decide) (by decide)).w (by decide) (by decide)
        refine q_iald hE hW hkb39 rfl (q_in vkx40 (by decide) (by decide)) dX12_pass_85 (fun kx41 ekx41 gkx41 => ?_)
        have vkx41 : q_V (-1) 5 kx41 := (gkx41 (q_nat (A := 54) (B := 56) vkx40 (by decide) (by decide)).1 (q_nat (A := 54) (B := 56) vkx40 (by decide) (by decide)).2)
        refine lv_if_lt (tgt := 103) hx hb dX12_pass_86 (by decide) (fun kc42 => ?_) (fun kc42 => ?_)
        · have kv43 : q_V (-1) (-1) kx41 := (q_lt1 vkx41 (q_c (k := 0) (x := 0) (by decide)) kc42).w (by decide) (by decide)
          exact jn103a _ _ _ kv37 hW ls (lv_sub hl [0, 1] rfl)
        · have kv44 : q_V 0 5 kx41 := (q_le2 (q_c (k := 0) (x := 0) (by decide)) vkx41 (Int32.not_lt.mp kc42)).w (by decide) (by decide)
          refine lv_aload_n hx hb dX12_pass_89 rfl (lv_at hl 0 rfl) ?_
          refine lv_iload_n hx hb dX12_pass_90 rfl (lv_at hl 1 rfl) ?_
          refine lv_aload_n hx hb dX12_pass_91 rfl (lv_at hl 0 rfl) ?_
          refine q_getr hE hW h0 rfl q_k12 9 (by decide) rfl (hE.l wl_135) dX12_pass_92 (fun kb45 ekb45 hkb45a hkb45b => ?_)
          obtain rfl : kb39 = kb45 := ekb39.symm.trans ekb45
          refine lv_bipush (v := 54) hx hb dX12_pass_95 (by decide) ?_
          refine lv_iload_n hx hb dX12_pass_97 rfl (lv_at hl 1 rfl) ?_
          refine lv_iadd hx hb dX12_pass_98 ?_
          refine lv_topi (fun kx46 ekx46 => ?_)
          obtain rfl : kx40 = kx46 := ekx40.trans ekx46.symm
          refine q_iald hE hW hkb39 rfl (q_in vkx40 (by decide) (by decide)) dX12_pass_99 (fun kx47 ekx47 gkx47 => ?_)
          obtain rfl : kx41 = kx47 := ekx41.symm.trans ekx47
          refine q_gov hW (q_runV (As := [.int kx30, .int kx41]) (rest := []) hE hW (c_X12_work l G ks31 a0 h0 kx30 kv37 kx41 kv44) kw_X12_269 (q_recv hE hW h0 rfl q_k12) rfl hl.1 rfl (Nat.le_of_ble_eq_true rfl) dX12_pass_100 ⟨by decide, by decide⟩ ⟨by decide, by decide⟩) (by decide) (fun ks49 H locs kp48 kf50 hW => ?_)
          exact jn103a _ _ _ kv37 hW ls (lv_sub hl [0, 1] rfl)
  have lp3a : ∀ (n3a : Nat) (ks52 : q_S) (H : Heap) (locs : List Loc) (kx51 : Int32) (vkx51 : q_V (-1) 6 kx51) (hW : q_Wd G [46] σ s.heap ks52 H locs) (ls : Array Slot) (hl : lv_has ls 3 [(0, .ref a0), (1, .int kx51)]), (kx51.toInt - (-1)).toNat < n3a → W p l e (q_Rm 4) s m args below meth c H locs 0 0 (MQ below (q_Qv G [46] σ (fun σ1 => True)) args s 0 0 (q_N G)) (F0 m 3 ls []) := by
    intro n3a
    induction n3a with
    | zero => intro _ _ _ _ _ _ _ _; exact fun h => absurd h (Nat.not_lt_zero _)
    | succ n3a ih3a =>
      intro ks52 H locs kx51 vkx51 hW ls hl hm3a
      have lp9a : ∀ (n9a : Nat) (ks55 : q_S) (H : Heap) (locs : List Loc) (kv53 : q_V 0 6 kx51) (kx54 : Int32) (vkx54 : q_V 0 6 kx54) (hW : q_Wd G [46] σ s.heap ks55 H locs) (ls : Array Slot) (hl : lv_has ls 3 [(0, .ref a0), (1, .int kx51), (2, .int kx54)]), (6 - kx54.toInt).toNat < n9a → W p l e (q_Rm 4) s m args below meth c H locs 0 0 (MQ below (q_Qv G [46] σ (fun σ1 => True)) args s 0 0 (q_N G)) (F0 m 9 ls []) := by
        intro n9a
        induction n9a with
        | zero => intro _ _ _ _ _ _ _ _ _; exact fun h => absurd h (Nat.not_lt_zero _)
        | succ n9a ih9a =>
          intro ks55 H locs kv53 kx54 vkx54 hW ls hl hm9a
          have jn54a : ∀ (ks60 : q_S) (H : Heap) (locs : List Loc) (kv56 : q_V 0 5 kx54) (kb57 : Nat) (hkb57 : q_T G kb57 = 46) (kx58 : Int32) (vkx58 : q_V 59 100 kx58) (kx59 : Int32) (hW : q_Wd G [46] σ s.heap ks60 H locs) (ls : Array Slot) (hl : lv_has ls 3 [(0, .ref a0), (1, .int kx51), (2, .int kx54)]), W p l e (q_Rm 4) s m args below meth c H locs 0 0 (MQ below (q_Qv G [46] σ (fun σ1 => True)) args s 0 0 (q_N G)) (F0 m 54 ls [.int kx59, .int kx58, .ref kb57]) := by
            intro ks60 H locs kv56 kb57 hkb57 kx58 vkx58 kx59 hW ls hl
            refine q_iast hE hW hkb57 rfl (q_in vkx58 (by decide) (by decide)) (fun q_a q_b => q_out vkx58 q_a q_b (by decide)) (by decide) dX12_pass_54 (fun H locs ks61 kp62 hW => ?_)
            obtain ⟨kx63, ekx63⟩ : ∃ y : Int32, y = kx54 + 1 := ⟨_, rfl⟩
            have vkx63 : q_V 1 6 kx63 := by rw [ekx63]; exact (q_add kv56 (q_c (k := 1) (x := 1) (by decide)) (by decide) (by decide)).w (by decide) (by decide)
            have ikx63 : kx63.toInt = kx54.toInt + 1 := q_incT ekx63 kv56 (by decide) (by decide) (by decide)
            refine lv_iinc (v := kx63) (lv' := [(2, .int kx63), (0, .ref a0), (1, .int kx51)]) hx hb dX12_pass_55 hl (k := 2) rfl (by rw [ekx63]; rfl) (by decide) rfl (fun ls hl => ?_)
            refine lv_goto (tgt := 9) hx hb dX12_pass_58 (by decide) ?_
            exact ih9a _ _ _ kv53 kx63 (vkx63.w (by decide) (by decide)) hW ls (lv_sub hl [1, 2, 0] rfl) (Nat.lt_of_lt_of_le (q_up (ikx63) (show q_V 1 6 kx63 from vkx63).2) (Nat.le_of_lt_succ hm9a))
          refine lv_iload_n hx hb dX12_pass_9 rfl (lv_at hl 2 rfl) ?_
          refine lv_bipush (v := 6) hx hb dX12_pass_10 (by decide) ?_
          refine lv_icmp_ge (tgt := 61) hx hb dX12_pass_12 (by decide) (fun kc64 => ?_) (fun kc64 => ?_)
          · have kv65 : q_V 6 6 kx54 := (q_le2 (q_c (k := 6) (x := 6) (by decide)) vkx54 kc64).w (by decide) (by decide)
            obtain ⟨kx66, ekx66⟩ : ∃ y : Int32, y = kx51 + (-1) := ⟨_, rfl⟩
            have vkx66 : q_V (-1) 5 kx66 := by rw [ekx66]; exact (q_add kv53 (q_c (k := (-1)) (x := (-1)) (by decide)) (by decide) (by decide)).w (by decide) (by decide)
            have ikx66 : kx66.toInt = kx51.toInt + (-1) := q_incT ekx66 kv53 (by decide) (by decide) (by decide)
            refine lv_iinc (v := kx66) (lv' := [(1, .int kx66), (0, .ref a0), (2, .int kx54)]) hx hb dX12_pass_61 hl (k := 1) rfl (by rw [ekx66]; rfl) (by decide) rfl (fun ls hl => ?_)
            refine lv_goto (tgt := 3) hx hb dX12_pass_64 (by decide) ?_
            exact ih3a _ _ _ kx66 (vkx66.w (by decide) (by decide)) hW ls (lv_sub hl [1, 0] rfl) (Nat.lt_of_lt_of_le (q_dn (ikx66) (show q_V (-1) 5 kx66 from vkx66).1) (Nat.le_of_lt_succ hm3a))
          · have kv67 : q_V 0 5 kx54 := (q_lt1 vkx54 (q_c (k := 6) (x := 6) (by decide)) (Int32.not_le.mp kc64)).w (by decide) (by decide)
            refine lv_aload_n hx hb dX12_pass_15 rfl (lv_at hl 0 rfl) ?_
            refine q_getr hE hW h0 rfl q_k12 9 (by decide) rfl (hE.l wl_135) dX12_pass_16 (fun kb68 ekb68 hkb68a hkb68b => ?_)
            have hkb68 : q_T G kb68 = 46 := q_tag hkb68a hkb68b
            refine lv_bipush (v := 59) hx hb dX12_pass_19 (by decide) ?_
            refine lv_bipush (v := 6) hx hb dX12_pass_21 (by decide) ?_
            refine lv_iload_n hx hb dX12_pass_23 rfl (lv_at hl 1 rfl) ?_
            refine lv_imul hx hb dX12_pass_24 ?_
            refine lv_topi (fun kx69 ekx69 => ?_)
            have vkx69 : q_V 0 36 kx69 := by rw [ekx69]; exact (q_mul (k := 6) (by decide) kv53 (by decide) (by decide) (by decide)).w (by decide) (by decide)
            refine lv_iadd hx hb dX12_pass_25 ?_
            refine lv_topi (fun kx70 ekx70 => ?_)
            have vkx70 : q_V 59 95 kx70 := by rw [ekx70]; exact (q_add (q_c (k := 59) (x := 59) (by decide)) vkx69 (by decide) (by decide)).w (by decide) (by decide)
            refine lv_iload_n hx hb dX12_pass_26 rfl (lv_at hl 2 rfl) ?_
            refine lv_iadd hx hb dX12_pass_27 ?_
            refine lv_topi (fun kx71 ekx71 => ?_)
            have vkx71 : q_V 59 100 kx71 := by rw [ekx71]; exact (q_add vkx70 kv67 (by decide) (by decide)).w (by decide) (by decide)
            refine lv_iload_n hx hb dX12_pass_28 rfl (lv_at hl 1 rfl) ?_
            refine lv_if_ne (tgt := 36) hx hb dX12_pass_29 (by decide) (fun kc72 => ?_) (fun kc72 => ?_)
            · have kv73 : q_V 1 6 kx51 := q_ne1 kv53 (q_c (k := 0) (x := 0) (by decide)) kc72 (by decide)
              refine lv_aload_n hx hb dX12_pass_36 rfl (lv_at hl 0 rfl) ?_
              refine q_getr hE hW h0 rfl q_k12 9 (by decide) rfl (hE.l wl_135) dX12_pass_37 (fun kb74 ekb74 hkb74a hkb74b => ?_)
              obtain rfl : kb68 = kb74 := ekb68.symm.trans ekb74
              refine lv_bipush (v := 59) hx hb dX12_pass_40 (by decide) ?_
              refine lv_bipush (v := 6) hx hb dX12_pass_42 (by decide) ?_
              refine lv_iload_n hx hb dX12_pass_44 rfl (lv_at hl 1 rfl) ?_
              refine lv_iconst (v := 1) hx hb dX12_pass_45 (by decide) ?_
              refine lv_isub hx hb dX12_pass_46 ?_
              refine lv_topi (fun kx75 ekx75 => ?_)
              have vkx75 : q_V 0 5 kx75 := by rw [ekx75]; exact (q_sub kv73 (q_c (k := 1) (x := 1) (by decide)) (by decide) (by decide)).w (by decide) (by decide)
              refine lv_imul hx hb dX12_pass_47 ?_
              refine lv_topi (fun kx76 ekx76 => ?_)
              have vkx76 : q_V 0 30 kx76 := by rw [ekx76]; exact (q_mul (k := 6) (by decide) vkx75 (by decide) (by decide) (by decide)).w (by decide) (by decide)
              refine lv_iadd hx hb dX12_pass_48 ?_
              refine lv_topi (fun kx77 ekx77 => ?_)
              have vkx77 : q_V 59 89 kx77 := by rw [ekx77]; exact (q_add (q_c (k := 59) (x := 59) (by decide)) vkx76 (by decide) (by decide)).w (by decide) (by decide)
              refine lv_iload_n hx hb dX12_pass_49 rfl (lv_at hl 2 rfl) ?_
              refine lv_iadd hx hb dX12_pass_50 ?_
              refine lv_topi (fun kx78 ekx78 => ?_)
              have vkx78 : q_V 59 94 kx78 := by rw [ekx78]; exact (q_add vkx77 kv67 (by decide) (by decide)).w (by decide) (by decide)
              refine q_iald hE hW hkb68 rfl (q_in vkx78 (by decide) (by decide)) dX12_pass_51 (fun kx79 ekx79 gkx79 => ?_)
              refine lv_iconst (v := 2) hx hb dX12_pass_52 (by decide) ?_
              refine lv_idiv hx hb dX12_pass_53 (q_ne0 (q_c (k := 2) (x := 2) (by decide)) (by decide)) ?_
              refine lv_topi (fun kx80 ekx80 => ?_)
              exact jn54a _ _ _ kv67 kb68 hkb68 kx71 vkx71 kx80 hW ls (lv_sub hl [0, 1, 2] rfl)
            · have kv81 : q_V 0 0 kx51 := q_eq1 kv53 (q_c (k := 0) (x := 0) (by decide)) kc72 (by decide) (by decide)
              refine lv_iconst (v := 0) hx hb dX12_pass_32 (by decide) ?_
              refine lv_goto (tgt := 54) hx hb dX12_pass_33 (by decide) ?_
              exact jn54a _ _ _ kv67 kb68 hkb68 kx71 vkx71 0 hW ls (lv_sub hl [0, 1, 2] rfl)
      refine lv_iload_n hx hb dX12_pass_3 rfl (lv_at hl 1 rfl) ?_
      refine lv_if_lt (tgt := 67) hx hb dX12_pass_4 (by decide) (fun kc82 => ?_) (fun kc82 => ?_)
      · have kv83 : q_V (-1) (-1) kx51 := (q_lt1 vkx51 (q_c (k := 0) (x := 0) (by decide)) kc82).w (by decide) (by decide)
        refine lv_iconst (v := 0) hx hb dX12_pass_67 (by decide) ?_
        refine lv_istore_n (lv' := [(1, .int 0), (0, .ref a0)]) hx hb dX12_pass_68 rfl hl (by decide) rfl (fun ls hl => ?_)
        exact lp69a _ _ _ _ 0 ((q_c (k := 0) (x := 0) (by decide)).w (by decide) (by decide)) hW ls (lv_sub hl [1, 0] rfl) (Nat.lt_succ_self _)
      · have kv84 : q_V 0 6 kx51 := (q_le2 (q_c (k := 0) (x := 0) (by decide)) vkx51 (Int32.not_lt.mp kc82)).w (by decide) (by decide)
        refine lv_iconst (v := 0) hx hb dX12_pass_7 (by decide) ?_
        refine lv_istore_n (lv' := [(2, .int 0), (0, .ref a0), (1, .int kx51)]) hx hb dX12_pass_8 rfl hl (by decide) rfl (fun ls hl => ?_)
        exact lp9a _ _ _ _ kv84 0 ((q_c (k := 0) (x := 0) (by decide)).w (by decide) (by decide)) hW ls (lv_sub hl [1, 2, 0] rfl) (Nat.lt_succ_self _)
  refine lv_bipush (v := 6) hx hb dX12_pass_0 (by decide) ?_
  refine lv_istore_n (lv' := [(1, .int 6), (0, .ref a0)]) hx hb dX12_pass_2 rfl hl (by decide) rfl (fun ls hl => ?_)
  exact lp3a _ _ _ _ 6 ((q_c (k := 6) (x := 6) (by decide)).w (by decide) (by decide)) hW ls (lv_sub hl [1, 0] rfl) (Nat.lt_succ_self _)
set_option maxHeartbeats 4000000 in
set_option maxRecDepth 100000 in
theorem c_X12_remember (l : Launch) (G : q_G) (σ : q_S) (a0 : Nat) (h0 : q_T G a0 = 40)  : Met l yX12_remember (Cond.code yX12_remember cX12_remember 2 none :: wsL_law) (q_Rm 1) (q_Pre G σ [.ref a0]) (q_Qv G [40, 53] σ (fun σ1 => True)) 0 0 (q_N G) := by
  refine q_ofW (ts := [40, 53]) (by decide) (Nat.le_of_ble_eq_true rfl) ?_
  intro p e s m args below meth c hE hr hlocks hW ls hl
  have hE : q_E G p s m args c cX12_remember 2 RX12 := hE
  have hx := hE.1.1
  have hb := hE.1.2.1
  have hl : lv_has ls 2 [(0, .ref a0)] := hl
  have lp52a : ∀ (n52a : Nat) (ks2 : q_S) (H : Heap) (locs : List Loc) (kx1 : Int32) (vkx1 : q_V 0 101 kx1) (kx3 : Int32) (vkx3 : q_V 0 7 kx3) (ke4 : q_I ks2 a0 27 = kx3) (hW : q_Wd G [40, 53] σ s.heap ks2 H locs) (ls : Array Slot) (hl : lv_has ls 2 [(0, .ref a0), (1, .int kx1)]), (101 - kx1.toInt).toNat < n52a → W p l e (q_Rm 1) s m args below meth c H locs 0 0 (MQ below (q_Qv G [40, 53] σ (fun σ1 => True)) args s 0 0 (q_N G)) (F0 m 52 ls []) := by
    intro n52a
    induction n52a with
    | zero => intro _ _ _ _ _ _ _ _ _ _ _; exact fun h => absurd h (Nat.not_lt_zero _)
    | succ n52a ih52a =>
      intro ks2 H locs kx1 vkx1 kx3 vkx3 ke4 hW ls hl hm52a
      refine lv_iload_n hx hb dX12_remember_52 rfl (lv_at hl 1 rfl) ?_
      refine lv_bipush (v := 101) hx hb dX12_remember_53 (by decide) ?_
      refine lv_icmp_ge (tgt := 84) hx hb dX12_remember_55 (by decide) (fun kc5 => ?_) (fun kc5 => ?_)
      · have kv6 : q_V 101 101 kx1 := (q_le2 (q_c (k := 101) (x := 101) (by decide)) vkx1 kc5).w (by decide) (by decide)
        refine lv_aload_n hx hb dX12_remember_84 rfl (lv_at hl 0 rfl) ?_
        refine lv_dup hx hb dX12_remember_85 rfl ?_
        refine q_geti hE hW h0 rfl q_k12 27 (by decide) rfl (hE.l wl_446) dX12_remember_86 (fun kx7 ekx7 vkx7 => ?_)
        obtain rfl : kx3 = kx7 := ke4.symm.trans ekx7
        refine lv_iconst (v := 1) hx hb dX12_remember_89 (by decide) ?_
        refine lv_iadd hx hb dX12_remember_90 ?_
        refine lv_topi (fun kx8 ekx8 => ?_)
        have vkx8 : q_V 1 8 kx8 := by rw [ekx8]; exact (q_add vkx3 (q_c (k := 1) (x := 1) (by decide)) (by decide) (by decide)).w (by decide) (by decide)
        have ikx8 : kx8.toInt = kx3.toInt + 1 := q_incT ekx8 vkx3 (by decide) (by decide) (by decide)
        refine q_puti hE hW h0 rfl q_k12 tyX12 tyX12_ok 27 (by decide) rfl (hE.l wl_446) rfl rfl rfl (vkx8.w (by decide) (by decide)) (by decide) dX12_remember_91 (fun H locs ks9 kp10 hW => ?_)
        exact q_retv hE hr hlocks hW (trivial) dX12_remember_94
      · have kv11 : q_V 0 100 kx1 := (q_lt1 vkx1 (q_c (k := 101) (x := 101) (by decide)) (Int32.not_le.mp kc5)).w (by decide) (by decide)
        refine lv_aload_n hx hb dX12_remember_58 rfl (lv_at hl 0 rfl) ?_
        refine q_getr hE hW h0 rfl q_k12 28 (by decide) rfl (hE.l wl_142) dX12_remember_59 (fun kb12 ekb12 hkb12a hkb12b => ?_)
        have hkb12 : q_T G kb12 = 53 := q_tag hkb12a hkb12b
        refine lv_bipush (v := 101) hx hb dX12_remember_62 (by decide) ?_
        refine lv_aload_n hx hb dX12_remember_64 rfl (lv_at hl 0 rfl) ?_
        refine q_geti hE hW h0 rfl q_k12 27 (by decide) rfl (hE.l wl_446) dX12_remember_65 (fun kx13 ekx13 vkx13 => ?_)
        obtain rfl : kx3 = kx13 := ke4.symm.trans ekx13
        refine lv_imul hx hb dX12_remember_68 ?_
        refine lv_topi (fun kx14 ekx14 => ?_)
        have vkx14 : q_V 0 707 kx14 := by rw [ekx14]; exact (q_mul (k := 101) (by decide) vkx3 (by decide) (by decide) (by decide)).w (by decide) (by decide)
        refine lv_iload_n hx hb dX12_remember_69 rfl (lv_at hl 1 rfl) ?_
        refine lv_iadd hx hb dX12_remember_70 ?_
        refine lv_topi (fun kx15 ekx15 => ?_)
        have vkx15 : q_V 0 807 kx15 := by rw [ekx15]; exact (q_add vkx14 kv11 (by decide) (by decide)).w (by decide) (by decide)
        refine lv_aload_n hx hb dX12_remember_71 rfl (lv_at hl 0 rfl) ?_
        refine q_getr hE hW h0 rfl q_k12 9 (by decide) rfl (hE.l wl_135) dX12_remember_72 (fun kb16 ekb16 hkb16a hkb16b => ?_)
        have hkb16 : q_T G kb16 = 46 := q_tag hkb16a hkb16b
        refine lv_iload_n hx hb dX12_remember_75 rfl (lv_at hl 1 rfl) ?_
        refine q_iald hE hW hkb16 rfl (q_in kv11 (by decide) (by decide)) dX12_remember_76 (fun kx17 ekx17 gkx17 => ?_)
        refine q_iast hE hW hkb12 rfl (q_in vkx15 (by decide) (by decide)) (q_cpy ekx15 ekx14 vkx3 kv11 (by decide) (by decide) (by decide) (by decide) gkx17) (by decide) dX12_remember_77 (fun H locs ks18 kp19 hW => ?_)
        obtain ⟨kx20, ekx20⟩ : ∃ y : Int32, y = kx1 + 1 := ⟨_, rfl⟩
        have vkx20 : q_V 1 101 kx20 := by rw [ekx20]; exact (q_add kv11 (q_c (k := 1) (x := 1) (by decide)) (by decide) (by decide)).w (by decide) (by decide)
        have ikx20 : kx20.toInt = kx1.toInt + 1 := q_incT ekx20 kv11 (by decide) (by decide) (by decide)
        refine lv_iinc (v := kx20) (lv' := [(1, .int kx20), (0, .ref a0)]) hx hb dX12_remember_78 hl (k := 1) rfl (by rw [ekx20]; rfl) (by decide) rfl (fun ls hl => ?_)
        refine lv_goto (tgt := 52) hx hb dX12_remember_81 (by decide) ?_
        exact ih52a _ _ _ kx20 (vkx20.w (by decide) (by decide)) kx3 vkx3 ((kp19.2.2.2.1 _ _).trans ke4) hW ls (lv_sub hl [1, 0] rfl) (Nat.lt_of_lt_of_le (q_up (ikx20) (show q_V 1 101 kx20 from vkx20).2) (Nat.le_of_lt_succ hm52a))
  have jn50a : ∀ (ks21 : q_S) (H : Heap) (locs : List Loc) (kx22 : Int32) (vkx22 : q_V 0 7 kx22) (ke23 : q_I ks21 a0 27 = kx22) (hW : q_Wd G [40, 53] σ s.heap ks21 H locs) (ls : Array Slot) (hl : lv_has ls 2 [(0, .ref a0)]), W p l e (q_Rm 1) s m args below meth c H locs 0 0 (MQ below (q_Qv G [40, 53] σ (fun σ1 => True)) args s 0 0 (q_N G)) (F0 m 50 ls []) := by
    intro ks21 H locs kx22 vkx22 ke23 hW ls hl
    refine lv_iconst (v := 0) hx hb dX12_remember_50 (by decide) ?_
    refine lv_istore_n (lv' := [(1, .int 0), (0, .ref a0)]) hx hb dX12_remember_51 rfl hl (by decide) rfl (fun ls hl => ?_)
    exact lp52a _ _ _ _ 0 ((q_c (k := 0) (x := 0) (by decide)).w (by decide) (by decide)) kx22 vkx22 ke23 hW ls (lv_sub hl [1, 0] rfl) (Nat.lt_succ_self _)
  have lp12a : ∀ (n12a : Nat) (ks25 : q_S) (H : Heap) (locs : List Loc) (kx24 : Int32) (vkx24 : q_V 101 808 kx24) (kx26 : Int32) (vkx26 : q_V 8 8 kx26) (ke27 : q_I ks25 a0 27 = kx26) (hW : q_Wd G [40, 53] σ s.heap ks25 H locs) (ls : Array Slot) (hl : lv_has ls 2 [(0, .ref a0), (1, .int kx24)]), (808 - kx24.toInt).toNat < n12a → W p l e (q_Rm 1) s m args below meth c H locs 0 0 (MQ below (q_Qv G [40, 53] σ (fun σ1 => True)) args s 0 0 (q_N G)) (F0 m 12 ls []) := by
    intro n12a
    induction n12a with
    | zero => intro _ _ _ _ _ _ _ _ _ _ _; exact fun h => absurd h (Nat.not_lt_zero _)
    | succ n12a ih12a =>
      intro ks25 H locs kx24 vkx24 kx26 vkx26 ke27 hW ls hl hm12a
      refine lv_iload_n hx hb dX12_remember_12 rfl (lv_at hl 1 rfl) ?_
      refine lv_sipush (v := 808) hx hb dX12_remember_13 (by decide) ?_
      refine lv_icmp_ge (tgt := 40) hx hb dX12_remember_16 (by decide) (fun kc28 => ?_) (fun kc28 => ?_)
      · have kv29 : q_V 808 808 kx24 := (q_le2 (q_c (k := 808) (x := 808) (by decide)) vkx24 kc28).w (by decide) (by decide)
        refine lv_aload_n hx hb dX12_remember_40 rfl (lv_at hl 0 rfl) ?_
        refine lv_dup hx hb dX12_remember_41 rfl ?_
        refine q_geti hE hW h0 rfl q_k12 27 (by decide) rfl (hE.l wl_446) dX12_remember_42 (fun kx30 ekx30 vkx30 => ?_)
        obtain rfl : kx26 = kx30 := ke27.symm.trans ekx30
        refine lv_iconst (v := 1) hx hb dX12_remember_45 (by decide) ?_
        refine lv_isub hx hb dX12_remember_46 ?_
        refine lv_topi (fun kx31 ekx31 => ?_)
        have vkx31 : q_V 7 7 kx31 := by rw [ekx31]; exact (q_sub vkx26 (q_c (k := 1) (x := 1) (by decide)) (by decide) (by decide)).w (by decide) (by decide)
        refine q_puti hE hW h0 rfl q_k12 tyX12 tyX12_ok 27 (by decide) rfl (hE.l wl_446) rfl rfl rfl (vkx31.w (by decide) (by decide)) (by decide) dX12_remember_47 (fun H locs ks32 kp33 hW => ?_)
        exact jn50a _ _ _ kx31 (vkx31.w (by decide) (by decide)) kp33.1 hW ls (lv_sub hl [0] rfl)
      · have kv34 : q_V 101 807 kx24 := (q_lt1 vkx24 (q_c (k := 808) (x := 808) (by decide)) (Int32.not_le.mp kc28)).w (by decide) (by decide)
        refine lv_aload_n hx hb dX12_remember_19 rfl (lv_at hl 0 rfl) ?_
        refine q_getr hE hW h0 rfl q_k12 28 (by decide) rfl (hE.l wl_142) dX12_remember_20 (fun kb35 ekb35 hkb35a hkb35b => ?_)
        have hkb35 : q_T G kb35 = 53 := q_tag hkb35a hkb35b
        refine lv_iload_n hx hb dX12_remember_23 rfl (lv_at hl 1 rfl) ?_
        refine lv_bipush (v := 101) hx hb dX12_remember_24 (by decide) ?_
        refine lv_isub hx hb dX12_remember_26 ?_
        refine lv_topi (fun kx36 ekx36 => ?_)
        have vkx36 : q_V 0 706 kx36 := by rw [ekx36]; exact (q_sub kv34 (q_c (k := 101) (x := 101) (by decide)) (by decide) (by decide)).w (by decide) (by decide)
        refine lv_aload_n hx hb dX12_remember_27 rfl (lv_at hl 0 rfl) ?_
        refine q_getr hE hW h0 rfl q_k12 28 (by decide) rfl (hE.l wl_142) dX12_remember_28 (fun kb37 ekb37 hkb37a hkb37b => ?_)
        obtain rfl : kb35 = kb37 := ekb35.symm.trans ekb37
        refine lv_iload_n hx hb dX12_remember_31 rfl (lv_at hl 1 rfl) ?_
        refine q_iald hE hW hkb35 rfl (q_in kv34 (by decide) (by decide)) dX12_remember_32 (fun kx38 ekx38 gkx38 => ?_)
        refine q_iast hE hW hkb35 rfl (q_in vkx36 (by decide) (by decide)) (q_cpyC ekx36 kv34 (by decide) (by decide) gkx38) (by decide) dX12_remember_33 (fun H locs ks39 kp40 hW => ?_)
        obtain ⟨kx41, ekx41⟩ : ∃ y : Int32, y = kx24 + 1 := ⟨_, rfl⟩
        have vkx41 : q_V 102 808 kx41 := by rw [ekx41]; exact (q_add kv34 (q_c (k := 1) (x := 1) (by decide)) (by decide) (by decide)).w (by decide) (by decide)
        have ikx41 : kx41.toInt = kx24.toInt + 1 := q_incT ekx41 kv34 (by decide) (by decide) (by decide)
        refine lv_iinc (v := kx41) (lv' := [(1, .int kx41), (0, .ref a0)]) hx hb dX12_remember_34 hl (k := 1) rfl (by rw [ekx41]; rfl) (by decide) rfl (fun ls hl => ?_)
        refine lv_goto (tgt := 12) hx hb dX12_remember_37 (by decide) ?_
        exact ih12a _ _ _ kx41 (vkx41.w (by decide) (by decide)) kx26 vkx26 ((kp40.2.2.2.1 _ _).trans ke27) hW ls (lv_sub hl [1, 0] rfl) (Nat.lt_of_lt_of_le (q_up (ikx41) (show q_V 102 808 kx41 from vkx41).2) (Nat.le_of_lt_succ hm12a))
  refine lv_aload_n hx hb dX12_remember_0 rfl (lv_at hl 0 rfl) ?_
  refine q_geti hE hW h0 rfl q_k12 27 (by decide) rfl (hE.l wl_446) dX12_remember_1 (fun kx42 ekx42 vkx42 => ?_)
  refine lv_bipush (v := 8) hx hb dX12_remember_4 (by decide) ?_
  refine lv_icmp_ne (tgt := 50) hx hb dX12_remember_6 (by decide) (fun kc43 => ?_) (fun kc43 => ?_)
  · have kv44 : q_V 0 7 kx42 := q_ne2 vkx42 (q_c (k := 8) (x := 8) (by decide)) kc43 (by decide)
    exact jn50a _ _ _ kx42 kv44 ekx42 hW ls (lv_sub hl [0] rfl)
  · have kv45 : q_V 8 8 kx42 := q_eq1 vkx42 (q_c (k := 8) (x := 8) (by decide)) kc43 (by decide) (by decide)
    refine lv_bipush (v := 101) hx hb dX12_remember_9 (by decide) ?_
    refine lv_istore_n (lv' := [(1, .int 101), (0, .ref a0)]) hx hb dX12_remember_11 rfl hl (by decide) rfl (fun ls hl => ?_)
    exact lp12a _ _ _ _ 101 ((q_c (k := 101) (x := 101) (by decide)).w (by decide) (by decide)) kx42 kv45 ekx42 hW ls (lv_sub hl [1, 0] rfl) (Nat.lt_succ_self _)
set_option maxHeartbeats 4000000 in
set_option maxRecDepth 100000 in
theorem c_X12_allDeep (l : Launch) (G : q_G) (σ : q_S) (a0 : Nat) (h0 : q_T G a0 = 40) (i1 : Int32) (w1 : q_V 0 5 i1)  : Met l yX12_allDeep (Cond.code yX12_allDeep cX12_allDeep 4 (some .int) :: wsL_law) (q_Rm 1) (q_Pre G σ [.ref a0, .int i1]) (q_Qi G [] σ (fun r σ1 => q_V (-2147483648) 2147483647 r)) 0 0 (q_N G) := by
  refine q_ofW (ts := []) (by decide) (Nat.le_of_ble_eq_true rfl) ?_
  intro p e s m args below meth c hE hr hlocks hW ls hl
  have hE : q_E G p s m args c cX12_allDeep 4 RX12 := hE
  have hx := hE.1.1
  have hb := hE.1.2.1
  have hl : lv_has ls 4 [(0, .ref a0), (1, .int i1)] := hl
  have lp4a : ∀ (n4a : Nat) (kx1 : Int32) (kx2 : Int32) (vkx2 : q_V 0 6 kx2) (ls : Array Slot) (hl : lv_has ls 4 [(0, .ref a0), (1, .int i1), (2, .int kx1), (3, .int kx2)]), (6 - kx2.toInt).toNat < n4a → W p l e (q_Rm 1) s m args below meth c s.heap [] 0 0 (MQ below (q_Qi G [] σ (fun r σ1 => q_V (-2147483648) 2147483647 r)) args s 0 0 (q_N G)) (F0 m 4 ls []) := by
    intro n4a
    induction n4a with
    | zero => intro _ _ _ _ _; exact fun h => absurd h (Nat.not_lt_zero _)
    | succ n4a ih4a =>
      intro kx1 kx2 vkx2 ls hl hm4a
      refine lv_iload_n hx hb dX12_allDeep_4 rfl (lv_at hl 3 rfl) ?_
      refine lv_bipush (v := 6) hx hb dX12_allDeep_5 (by decide) ?_
      refine lv_icmp_ge (tgt := 33) hx hb dX12_allDeep_7 (by decide) (fun kc3 => ?_) (fun kc3 => ?_)
      · have kv4 : q_V 6 6 kx2 := (q_le2 (q_c (k := 6) (x := 6) (by decide)) vkx2 kc3).w (by decide) (by decide)
        refine lv_iload_n hx hb dX12_allDeep_33 rfl (lv_at hl 2 rfl) ?_
        exact q_reti hE hr hlocks hW ((q_all kx1)) dX12_allDeep_34
      · have kv5 : q_V 0 5 kx2 := (q_lt1 vkx2 (q_c (k := 6) (x := 6) (by decide)) (Int32.not_le.mp kc3)).w (by decide) (by decide)
        refine lv_iload_n hx hb dX12_allDeep_10 rfl (lv_at hl 2 rfl) ?_
        refine lv_aload_n hx hb dX12_allDeep_11 rfl (lv_at hl 0 rfl) ?_
        refine q_getr hE hW h0 rfl q_k12 9 (by decide) rfl (hE.l wl_135) dX12_allDeep_12 (fun kb6 ekb6 hkb6a hkb6b => ?_)
        have hkb6 : q_T G kb6 = 46 := q_tag hkb6a hkb6b
        refine lv_bipush (v := 18) hx hb dX12_allDeep_15 (by decide) ?_
        refine lv_bipush (v := 6) hx hb dX12_allDeep_17 (by decide) ?_
        refine lv_iload_n hx hb dX12_allDeep_19 rfl (lv_at hl 1 rfl) ?_
        refine lv_imul hx hb dX12_allDeep_20 ?_
        refine lv_topi (fun kx7 ekx7 => ?_)
        have vkx7 : q_V 0 30 kx7 := by rw [ekx7]; exact (q_mul (k := 6) (by decide) w1 (by decide) (by decide) (by decide)).w (by decide) (by decide)
        refine lv_iadd hx hb dX12_allDeep_21 ?_
        refine lv_topi (fun kx8 ekx8 => ?_)
        have vkx8 : q_V 18 48 kx8 := by rw [ekx8]; exact (q_add (q_c (k := 18) (x := 18) (by decide)) vkx7 (by decide) (by decide)).w (by decide) (by decide)
        refine lv_iload_n hx hb dX12_allDeep_22 rfl (lv_at hl 3 rfl) ?_
        refine lv_iadd hx hb dX12_allDeep_23 ?_
        refine lv_topi (fun kx9 ekx9 => ?_)
        have vkx9 : q_V 18 53 kx9 := by rw [ekx9]; exact (q_add vkx8 kv5 (by decide) (by decide)).w (by decide) (by decide)
        refine q_iald hE hW hkb6 rfl (q_in vkx9 (by decide) (by decide)) dX12_allDeep_24 (fun kx10 ekx10 gkx10 => ?_)
        refine lv_iadd hx hb dX12_allDeep_25 ?_
        refine lv_topi (fun kx11 ekx11 => ?_)
        refine lv_istore_n (lv' := [(2, .int kx11), (0, .ref a0), (1, .int i1), (3, .int kx2)]) hx hb dX12_allDeep_26 rfl hl (by decide) rfl (fun ls hl => ?_)
        obtain ⟨kx12, ekx12⟩ : ∃ y : Int32, y = kx2 + 1 := ⟨_, rfl⟩
        have vkx12 : q_V 1 6 kx12 := by rw [ekx12]; exact (q_add kv5 (q_c (k := 1) (x := 1) (by decide)) (by decide) (by decide)).w (by decide) (by decide)
        have ikx12 : kx12.toInt = kx2.toInt + 1 := q_incT ekx12 kv5 (by decide) (by decide) (by decide)
        refine lv_iinc (v := kx12) (lv' := [(3, .int kx12), (2, .int kx11), (0, .ref a0), (1, .int i1)]) hx hb dX12_allDeep_27 hl (k := 3) rfl (by rw [ekx12]; rfl) (by decide) rfl (fun ls hl => ?_)
        refine lv_goto (tgt := 4) hx hb dX12_allDeep_30 (by decide) ?_
        exact ih4a kx11 kx12 (vkx12.w (by decide) (by decide)) ls (lv_sub hl [2, 3, 1, 0] rfl) (Nat.lt_of_lt_of_le (q_up (ikx12) (show q_V 1 6 kx12 from vkx12).2) (Nat.le_of_lt_succ hm4a))
  refine lv_iconst (v := 0) hx hb dX12_allDeep_0 (by decide) ?_
  refine lv_istore_n (lv' := [(2, .int 0), (0, .ref a0), (1, .int i1)]) hx hb dX12_allDeep_1 rfl hl (by decide) rfl (fun ls hl => ?_)
  refine lv_iconst (v := 0) hx hb dX12_allDeep_2 (by decide) ?_
  refine lv_istore_n (lv' := [(3, .int 0), (2, .int 0), (0, .ref a0), (1, .int i1)]) hx hb dX12_allDeep_3 rfl hl (by decide) rfl (fun ls hl => ?_)
  exact lp4a _ 0 0 ((q_c (k := 0) (x := 0) (by decide)).w (by decide) (by decide)) ls (lv_sub hl [2, 3, 1, 0] rfl) (Nat.lt_succ_self _)
