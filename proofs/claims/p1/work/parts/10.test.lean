theorem kw_X1_44 : q_wV RX1 RX1 44 yX1_allDeep cX1_allDeep 3 (some .int) 0 := ⟨q_goodV wl_474 wl_475 wl_476 wl_85 wl_477, rfl, by decide, by decide, by decide +kernel⟩
set_option maxHeartbeats 4000000 in
set_option maxRecDepth 100000 in
theorem c_X8_add (l : Launch) (G : q_G) (σ : q_S) (a0 : Nat) (h0 : q_T G a0 = 13) (i1 : Int32) (w1 : q_V 0 65535 i1)  : Met l yX8_add (Cond.code yX8_add cX8_add 2 (some .boolean) :: wsL_law) (q_Rm 1) (q_Pre G σ [.ref a0, .int i1]) (q_Qi G [13, 14] σ (fun r σ1 => q_V 0 1 r)) 0 0 (q_N G) := by
  refine q_ofW (ts := [13, 14]) (by decide) (Nat.le_of_ble_eq_true rfl) ?_
  intro p e s m args below meth c hE hr hlocks hW ls hl
  have hE : q_E G p s m args c cX8_add 2 RX8 := hE
  have hx := hE.1.1
  have hb := hE.1.2.1
  have hl : lv_has ls 2 [(0, .ref a0), (1, .int i1)] := hl
  refine lv_aload_n hx hb dX8_add_0 rfl (lv_at hl 0 rfl) ?_
  refine q_geti hE hW h0 rfl q_k8 1 (by decide) rfl (hE.l wl_165) dX8_add_1 (fun x1 ex1 vx1 => ?_)
  refine lv_if_lt (tgt := 17) hx hb dX8_add_4 (by decide) (fun c2 => ?_) (fun c2 => ?_)
  · have v3 : q_V (-2147483648) (-1) x1 := (q_lt1 (q_all x1) (q_c (k := 0) (x := 0) (by decide)) c2).w (by decide) (by decide)
    refine lv_iconst (v := 0) hx hb dX8_add_17 (by decide) ?_
    exact q_retz hE hr hlocks hW (Or.inl rfl) (((q_c (k := 0) (x := 0) (by decide)).w (by decide) (by decide))) dX8_add_18
  · have v4 : q_V 0 2147483647 x1 := (q_le2 (q_c (k := 0) (x := 0) (by decide)) (q_all x1) (Int32.not_lt.mp c2)).w (by decide) (by decide)
    refine lv_aload_n hx hb dX8_add_7 rfl (lv_at hl 0 rfl) ?_
    refine q_geti hE hW h0 rfl q_k8 1 (by decide) rfl (hE.l wl_165) dX8_add_8 (fun x5 ex5 vx5 => ?_)
    obtain rfl : x5 = x1 := ex5.symm.trans ex1
    refine lv_sipush (v := 200) hx hb dX8_add_11 (by decide) ?_
    refine lv_icmp_lt (tgt := 19) hx hb dX8_add_14 (by decide) (fun c6 => ?_) (fun c6 => ?_)
    · have v7 : q_V 0 199 x1 := (q_lt1 v4 (q_c (k := 200) (x := 200) (by decide)) c6).w (by decide) (by decide)
      refine lv_aload_n hx hb dX8_add_19 rfl (lv_at hl 0 rfl) ?_
      refine q_getr hE hW h0 rfl q_k8 0 (by decide) rfl (hE.l wl_77) dX8_add_20 (fun b8 eb8 hb8a hb8b => ?_)
      have hb8 : q_T G b8 = 14 := q_tag hb8a hb8b
      refine lv_aload_n hx hb dX8_add_23 rfl (lv_at hl 0 rfl) ?_
      refine q_geti hE hW h0 rfl q_k8 1 (by decide) rfl (hE.l wl_165) dX8_add_24 (fun x9 ex9 vx9 => ?_)
      obtain rfl : x9 = x1 := ex9.symm.trans ex1
      refine lv_iload_n hx hb dX8_add_27 rfl (lv_at hl 1 rfl) ?_
      refine q_cast hE hW hb8 rfl (q_in v7 (by decide) (by decide)) (q_narc w1) w1 (by decide) dX8_add_28 (fun H locs s10 p11 hW => ?_)
      refine lv_aload_n hx hb dX8_add_29 rfl (lv_at hl 0 rfl) ?_
      refine lv_dup hx hb dX8_add_30 rfl ?_
      refine q_geti hE hW h0 rfl q_k8 1 (by decide) rfl (hE.l wl_165) dX8_add_31 (fun x12 ex12 vx12 => ?_)
      obtain rfl : x12 = x1 := ex12.symm.trans ((p11.2.2.2.1 _ _).trans ex1)
      refine lv_iconst (v := 1) hx hb dX8_add_34 (by decide) ?_
      refine lv_iadd hx hb dX8_add_35 ?_
      refine lv_topi (fun x13 ex13 => ?_)
      have vx13 : q_V 1 200 x13 := by rw [ex13]; exact q_add v7 (q_c (k := 1) (x := 1) (by decide)) (by decide) (by decide)
      refine q_puti hE hW h0 rfl q_k8 tyX8 tyX8_ok 1 (by decide) rfl (hE.l wl_165) rfl rfl rfl (vx13.w (by decide) (by decide)) (by decide) dX8_add_36 (fun H locs s14 p15 hW => ?_)
      refine lv_iconst (v := 1) hx hb dX8_add_39 (by decide) ?_
      exact q_retz hE hr hlocks hW (Or.inr rfl) (((q_c (k := 1) (x := 1) (by decide)).w (by decide) (by decide))) dX8_add_40
    · have v16 : q_V 200 2147483647 x1 := (q_le2 (q_c (k := 200) (x := 200) (by decide)) v4 (Int32.not_lt.mp c6)).w (by decide) (by decide)
      refine lv_iconst (v := 0) hx hb dX8_add_17 (by decide) ?_
      exact q_retz hE hr hlocks hW (Or.inl rfl) (((q_c (k := 0) (x := 0) (by decide)).w (by decide) (by decide))) dX8_add_18
set_option maxHeartbeats 4000000 in
set_option maxRecDepth 100000 in
theorem c_X8_at (l : Launch) (G : q_G) (σ : q_S) (a0 : Nat) (h0 : q_T G a0 = 13) (i1 : Int32)  : Met l yX8_at (Cond.code yX8_at cX8_at 2 (some .char) :: wsL_law) (q_Rm 1) (q_Pre G σ [.ref a0, .int i1]) (q_Qi G [] σ (fun r σ1 => q_V 0 65535 r)) 0 0 (q_N G) := by
  refine q_ofW (ts := []) (by decide) (Nat.le_of_ble_eq_true rfl) ?_
  intro p e s m args below meth c hE hr hlocks hW ls hl
  have hE : q_E G p s m args c cX8_at 2 RX8 := hE
  have hx := hE.1.1
  have hb := hE.1.2.1
  have hl : lv_has ls 2 [(0, .ref a0), (1, .int i1)] := hl
  refine lv_iload_n hx hb dX8_at_0 rfl (lv_at hl 1 rfl) ?_
  refine lv_if_lt (tgt := 19) hx hb dX8_at_1 (by decide) (fun c1 => ?_) (fun c1 => ?_)
  · have v2 : q_V (-2147483648) (-1) i1 := (q_lt1 (q_all i1) (q_c (k := 0) (x := 0) (by decide)) c1).w (by decide) (by decide)
    refine lv_iconst (v := 0) hx hb dX8_at_19 (by decide) ?_
    refine lv_goto (tgt := 29) hx hb dX8_at_20 (by decide) ?_
    exact q_retc hE hr hlocks hW (q_nc ((q_c (k := 0) (x := 0) (by decide)).w (by decide) (by decide))) (((q_c (k := 0) (x := 0) (by decide)).w (by decide) (by decide))) dX8_at_29
  · have v3 : q_V 0 2147483647 i1 := (q_le2 (q_c (k := 0) (x := 0) (by decide)) (q_all i1) (Int32.not_lt.mp c1)).w (by decide) (by decide)
    refine lv_iload_n hx hb dX8_at_4 rfl (lv_at hl 1 rfl) ?_
    refine lv_aload_n hx hb dX8_at_5 rfl (lv_at hl 0 rfl) ?_
    refine q_geti hE hW h0 rfl q_k8 1 (by decide) rfl (hE.l wl_165) dX8_at_6 (fun x4 ex4 vx4 => ?_)
    refine lv_icmp_ge (tgt := 19) hx hb dX8_at_9 (by decide) (fun c5 => ?_) (fun c5 => ?_)
    · refine lv_iconst (v := 0) hx hb dX8_at_19 (by decide) ?_
      refine lv_goto (tgt := 29) hx hb dX8_at_20 (by decide) ?_
      exact q_retc hE hr hlocks hW (q_nc ((q_c (k := 0) (x := 0) (by decide)).w (by decide) (by decide))) (((q_c (k := 0) (x := 0) (by decide)).w (by decide) (by decide))) dX8_at_29
    · have v6 : q_V 0 2147483646 i1 := (q_lt1 v3 (q_all x4) (Int32.not_le.mp c5)).w (by decide) (by decide)
      have v7 : q_V 1 2147483647 x4 := (q_lt2 v3 (q_all x4) (Int32.not_le.mp c5)).w (by decide) (by decide)
      refine lv_iload_n hx hb dX8_at_12 rfl (lv_at hl 1 rfl) ?_
      refine lv_sipush (v := 200) hx hb dX8_at_13 (by decide) ?_
      refine lv_icmp_lt (tgt := 23) hx hb dX8_at_16 (by decide) (fun c8 => ?_) (fun c8 => ?_)
      · have v9 : q_V 0 199 i1 := (q_lt1 v6 (q_c (k := 200) (x := 200) (by decide)) c8).w (by decide) (by decide)
        refine lv_aload_n hx hb dX8_at_23 rfl (lv_at hl 0 rfl) ?_
        refine q_getr hE hW h0 rfl q_k8 0 (by decide) rfl (hE.l wl_77) dX8_at_24 (fun b10 eb10 hb10a hb10b => ?_)
        have hb10 : q_T G b10 = 14 := q_tag hb10a hb10b
        refine lv_iload_n hx hb dX8_at_27 rfl (lv_at hl 1 rfl) ?_
        refine q_cald hE hW hb10 rfl (q_in v9 (by decide) (by decide)) dX8_at_28 (fun x11 ex11 gx11 => ?_)
        have vx11 : q_V 0 65535 x11 := gx11
        exact q_retc hE hr hlocks hW (q_nc vx11) (vx11) dX8_at_29
      · have v12 : q_V 200 2147483646 i1 := (q_le2 (q_c (k := 200) (x := 200) (by decide)) v6 (Int32.not_lt.mp c8)).w (by decide) (by decide)
        refine lv_iconst (v := 0) hx hb dX8_at_19 (by decide) ?_
        refine lv_goto (tgt := 29) hx hb dX8_at_20 (by decide) ?_
        exact q_retc hE hr hlocks hW (q_nc ((q_c (k := 0) (x := 0) (by decide)).w (by decide) (by decide))) (((q_c (k := 0) (x := 0) (by decide)).w (by decide) (by decide))) dX8_at_29
set_option maxHeartbeats 4000000 in
set_option maxRecDepth 100000 in
theorem c_X2_cloudAt (l : Launch) (G : q_G) (σ : q_S) (a0 : Nat) (h0 : q_T G a0 = 7) (i1 : Int32)  : Met l yX2_cloudAt (Cond.code yX2_cloudAt cX2_cloudAt 2 (some (.object "CloudLaundry$Cloud")) :: wsL_law) (q_Rm 1) (q_Pre G σ [.ref a0, .int i1]) (q_Qq G [] σ (fun r σ1 => (∀ b, r = some b → q_T G b = 5))) 0 0 (q_N G) := by
  refine q_ofW (ts := []) (by decide) (Nat.le_of_ble_eq_true rfl) ?_
  intro p e s m args below meth c hE hr hlocks hW ls hl
  have hE : q_E G p s m args c cX2_cloudAt 2 RX2 := hE
  have hx := hE.1.1
  have hb := hE.1.2.1
  have hl : lv_has ls 2 [(0, .ref a0), (1, .int i1)] := hl
  refine lv_iload_n hx hb dX2_cloudAt_0 rfl (lv_at hl 1 rfl) ?_
  refine lv_if_lt (tgt := 18) hx hb dX2_cloudAt_1 (by decide) (fun c1 => ?_) (fun c1 => ?_)
  · have v2 : q_V (-2147483648) (-1) i1 := (q_lt1 (q_all i1) (q_c (k := 0) (x := 0) (by decide)) c1).w (by decide) (by decide)
    refine lv_null hx hb dX2_cloudAt_18 ?_
    refine lv_goto (tgt := 28) hx hb dX2_cloudAt_19 (by decide) ?_
    exact q_retq none hE hr hlocks hW ((fun _ h => by cases h)) dX2_cloudAt_28
  · have v3 : q_V 0 2147483647 i1 := (q_le2 (q_c (k := 0) (x := 0) (by decide)) (q_all i1) (Int32.not_lt.mp c1)).w (by decide) (by decide)
    refine lv_iload_n hx hb dX2_cloudAt_4 rfl (lv_at hl 1 rfl) ?_
    refine lv_aload_n hx hb dX2_cloudAt_5 rfl (lv_at hl 0 rfl) ?_
    refine q_geti hE hW h0 rfl q_k2 1 (by decide) rfl (hE.l wl_198) dX2_cloudAt_6 (fun x4 ex4 vx4 => ?_)
    refine lv_icmp_ge (tgt := 18) hx hb dX2_cloudAt_9 (by decide) (fun c5 => ?_) (fun c5 => ?_)
    · refine lv_null hx hb dX2_cloudAt_18 ?_
      refine lv_goto (tgt := 28) hx hb dX2_cloudAt_19 (by decide) ?_
      exact q_retq none hE hr hlocks hW ((fun _ h => by cases h)) dX2_cloudAt_28
    · have v6 : q_V 0 5 i1 := (q_lt1 v3 vx4 (Int32.not_le.mp c5)).w (by decide) (by decide)
      have v7 : q_V 1 6 x4 := (q_lt2 v3 vx4 (Int32.not_le.mp c5)).w (by decide) (by decide)
      refine lv_iload_n hx hb dX2_cloudAt_12 rfl (lv_at hl 1 rfl) ?_
      refine lv_bipush (v := 6) hx hb dX2_cloudAt_13 (by decide) ?_
      refine lv_icmp_lt (tgt := 22) hx hb dX2_cloudAt_15 (by decide) (fun c8 => ?_) (fun c8 => ?_)
      · refine lv_aload_n hx hb dX2_cloudAt_22 rfl (lv_at hl 0 rfl) ?_
        refine q_getr hE hW h0 rfl q_k2 0 (by decide) rfl (hE.l wl_83) dX2_cloudAt_23 (fun b9 eb9 hb9a hb9b => ?_)
        have hb9 : q_T G b9 = 8 := q_tag hb9a hb9b
        refine lv_iload_n hx hb dX2_cloudAt_26 rfl (lv_at hl 1 rfl) ?_
        refine q_aald hE hW hb9 rfl (q_in v6 (by decide) (by decide)) dX2_cloudAt_27 (fun b10 eb10 hb10a hb10b => ?_)
        have hb10 : q_T G b10 = 5 := q_tag hb10a hb10b
        exact q_retq (some b10) hE hr hlocks hW ((fun _ h => by cases h; exact hb10)) dX2_cloudAt_28
      · have v11 : q_V 6 5 6 := (q_le1 (q_c (k := 6) (x := 6) (by decide)) v6 (Int32.not_lt.mp c8)).w (by decide) (by decide)
        exact (v11.no (by decide))
set_option maxHeartbeats 4000000 in
set_option maxRecDepth 100000 in
theorem c_X2_isWasher (l : Launch) (G : q_G) (σ : q_S) (a0 : Nat) (h0 : q_T G a0 = 7) (i1 : Int32)  : Met l yX2_isWasher (Cond.code yX2_isWasher cX2_isWasher 2 (some .boolean) :: wsL_law) (q_Rm 1) (q_Pre G σ [.ref a0, .int i1]) (q_Qi G [] σ (fun r σ1 => q_V 0 1 r ∧ (r ≠ 0 → q_V 0 2 i1))) 0 0 (q_N G) := by
  refine q_ofW (ts := []) (by decide) (Nat.le_of_ble_eq_true rfl) ?_
  intro p e s m args below meth c hE hr hlocks hW ls hl
  have hE : q_E G p s m args c cX2_isWasher 2 RX2 := hE
  have hx := hE.1.1
  have hb := hE.1.2.1
  have hl : lv_has ls 2 [(0, .ref a0), (1, .int i1)] := hl
  refine lv_iload_n hx hb dX2_isWasher_0 rfl (lv_at hl 1 rfl) ?_
  refine lv_if_lt (tgt := 21) hx hb dX2_isWasher_1 (by decide) (fun c1 => ?_) (fun c1 => ?_)
  · have v2 : q_V (-2147483648) (-1) i1 := (q_lt1 (q_all i1) (q_c (k := 0) (x := 0) (by decide)) c1).w (by decide) (by decide)
    refine lv_iconst (v := 0) hx hb dX2_isWasher_21 (by decide) ?_
    exact q_retz hE hr hlocks hW (Or.inl rfl) (⟨((q_c (k := 0) (x := 0) (by decide)).w (by decide) (by decide)), (fun q_h => absurd rfl q_h)⟩) dX2_isWasher_22
  · have v3 : q_V 0 2147483647 i1 := (q_le2 (q_c (k := 0) (x := 0) (by decide)) (q_all i1) (Int32.not_lt.mp c1)).w (by decide) (by decide)
    refine lv_iload_n hx hb dX2_isWasher_4 rfl (lv_at hl 1 rfl) ?_
    refine lv_aload_n hx hb dX2_isWasher_5 rfl (lv_at hl 0 rfl) ?_
    refine q_geti hE hW h0 rfl q_k2 4 (by decide) rfl (hE.l wl_199) dX2_isWasher_6 (fun x4 ex4 vx4 => ?_)
    refine lv_icmp_ge (tgt := 21) hx hb dX2_isWasher_9 (by decide) (fun c5 => ?_) (fun c5 => ?_)
    · refine lv_iconst (v := 0) hx hb dX2_isWasher_21 (by decide) ?_
      exact q_retz hE hr hlocks hW (Or.inl rfl) (⟨((q_c (k := 0) (x := 0) (by decide)).w (by decide) (by decide)), (fun q_h => absurd rfl q_h)⟩) dX2_isWasher_22
    · have v6 : q_V 0 2 i1 := (q_lt1 v3 vx4 (Int32.not_le.mp c5)).w (by decide) (by decide)
      have v7 : q_V 1 3 x4 := (q_lt2 v3 vx4 (Int32.not_le.mp c5)).w (by decide) (by decide)
      refine lv_iload_n hx hb dX2_isWasher_12 rfl (lv_at hl 1 rfl) ?_
      refine lv_iconst (v := 3) hx hb dX2_isWasher_13 (by decide) ?_
      refine lv_icmp_ge (tgt := 21) hx hb dX2_isWasher_14 (by decide) (fun c8 => ?_) (fun c8 => ?_)
      · have v9 : q_V 3 2 3 := (q_le1 (q_c (k := 3) (x := 3) (by decide)) v6 c8).w (by decide) (by decide)
        exact (v9.no (by decide))
      · refine lv_iconst (v := 1) hx hb dX2_isWasher_17 (by decide) ?_
        refine lv_goto (tgt := 22) hx hb dX2_isWasher_18 (by decide) ?_
        exact q_retz hE hr hlocks hW (Or.inr rfl) (⟨((q_c (k := 1) (x := 1) (by decide)).w (by decide) (by decide)), (fun _ => v6)⟩) dX2_isWasher_22
set_option maxHeartbeats 4000000 in
set_option maxRecDepth 100000 in
theorem c_X2_washerOf (l : Launch) (G : q_G) (σ : q_S) (a0 : Nat) (h0 : q_T G a0 = 7) (i1 : Int32)  : Met l yX2_washerOf (Cond.code yX2_washerOf cX2_washerOf 3 (some .int) :: wsL_law) (q_Rm 1) (q_Pre G σ [.ref a0, .int i1]) (q_Qi G [] σ (fun r σ1 => q_V (-1) 2 r)) 0 0 (q_N G) := by
  refine q_ofW (ts := []) (by decide) (Nat.le_of_ble_eq_true rfl) ?_
  intro p e s m args below meth c hE hr hlocks hW ls hl
  have hE : q_E G p s m args c cX2_washerOf 3 RX2 := hE
  have hx := hE.1.1
  have hb := hE.1.2.1
  have hl : lv_has ls 3 [(0, .ref a0), (1, .int i1)] := hl
  have lp2a : ∀ (n2a : Nat) (x1 : Int32) (vx1 : q_V 0 3 x1) (ls : Array Slot) (hl : lv_has ls 3 [(0, .ref a0), (1, .int i1), (2, .int x1)]), (3 - x1.toInt).toNat < n2a → W p l e (q_Rm 1) s m args below meth c s.heap [] 0 0 (MQ below (q_Qi G [] σ (fun r σ1 => q_V (-1) 2 r)) args s 0 0 (q_N G)) (F0 m 2 ls []) := by
    intro n2a
    induction n2a with
    | zero => intro _ _ _ _; exact fun h => absurd h (Nat.not_lt_zero _)
    | succ n2a ih2a =>
      intro x1 vx1 ls hl hm2a
      refine lv_iload_n hx hb dX2_washerOf_2 rfl (lv_at hl 2 rfl) ?_
      refine lv_aload_n hx hb dX2_washerOf_3 rfl (lv_at hl 0 rfl) ?_
      refine q_geti hE hW h0 rfl q_k2 4 (by decide) rfl (hE.l wl_199) dX2_washerOf_4 (fun x2 ex2 vx2 => ?_)
      refine lv_icmp_ge (tgt := 33) hx hb dX2_washerOf_7 (by decide) (fun c3 => ?_) (fun c3 => ?_)
      · refine lv_iconst (v := (-1)) hx hb dX2_washerOf_33 (by decide) ?_
        exact q_reti hE hr hlocks hW (((q_c (k := (-1)) (x := (-1)) (by decide)).w (by decide) (by decide))) dX2_washerOf_34
      · have v4 : q_V 0 2 x1 := (q_lt1 vx1 vx2 (Int32.not_le.mp c3)).w (by decide) (by decide)
        have v5 : q_V 1 3 x2 := (q_lt2 vx1 vx2 (Int32.not_le.mp c3)).w (by decide) (by decide)
        refine lv_iload_n hx hb dX2_washerOf_10 rfl (lv_at hl 2 rfl) ?_
        refine lv_iconst (v := 3) hx hb dX2_washerOf_11 (by decide) ?_
        refine lv_icmp_ge (tgt := 33) hx hb dX2_washerOf_12 (by decide) (fun c6 => ?_) (fun c6 => ?_)
        · have v7 : q_V 3 2 3 := (q_le1 (q_c (k := 3) (x := 3) (by decide)) v4 c6).w (by decide) (by decide)
          exact (v7.no (by decide))
        · refine lv_aload_n hx hb dX2_washerOf_15 rfl (lv_at hl 0 rfl) ?_
          refine q_getr hE hW h0 rfl q_k2 3 (by decide) rfl (hE.l wl_87) dX2_washerOf_16 (fun b8 eb8 hb8a hb8b => ?_)
          have hb8 : q_T G b8 = 10 := q_tag hb8a hb8b
          refine lv_iload_n hx hb dX2_washerOf_19 rfl (lv_at hl 2 rfl) ?_
          refine q_iald hE hW hb8 rfl (q_in v4 (by decide) (by decide)) dX2_washerOf_20 (fun x9 ex9 gx9 => ?_)
          refine lv_iload_n hx hb dX2_washerOf_21 rfl (lv_at hl 1 rfl) ?_
          refine lv_icmp_ne (tgt := 27) hx hb dX2_washerOf_22 (by decide) (fun c10 => ?_) (fun c10 => ?_)
          · obtain ⟨x11, ex11⟩ : ∃ y : Int32, y = x1 + 1 := ⟨_, rfl⟩
            have vx11 : q_V 1 3 x11 := by rw [ex11]; exact q_add v4 (q_c (k := 1) (x := 1) (by decide)) (by decide) (by decide)
            have ix11 : x11.toInt = x1.toInt + 1 := by rw [ex11]; exact q_addT v4 (q_c (k := 1) (x := 1) (by decide)) (by decide) (by decide)
            refine lv_iinc (v := x11) (lv' := [(2, .int x11), (0, .ref a0), (1, .int i1)]) hx hb dX2_washerOf_27 hl (k := 2) rfl (by rw [ex11]; rfl) (by decide) rfl (fun ls hl => ?_)
            refine lv_goto (tgt := 2) hx hb dX2_washerOf_30 (by decide) ?_
            exact ih2a x11 (vx11.w (by decide) (by decide)) ls (lv_sub hl [1, 2, 0] rfl) (Nat.lt_of_lt_of_le (q_up (ix11) (vx11).2) (Nat.le_of_lt_succ hm2a))
          · refine lv_iload_n hx hb dX2_washerOf_25 rfl (lv_at hl 2 rfl) ?_
            exact q_reti hE hr hlocks hW ((v4.w (by decide) (by decide))) dX2_washerOf_26
  refine lv_iconst (v := 0) hx hb dX2_washerOf_0 (by decide) ?_
  refine lv_istore_n (lv' := [(2, .int 0), (0, .ref a0), (1, .int i1)]) hx hb dX2_washerOf_1 rfl hl (by decide) rfl (fun ls hl => ?_)
  exact lp2a _ 0 ((q_c (k := 0) (x := 0) (by decide)).w (by decide) (by decide)) ls (lv_sub hl [1, 2, 0] rfl) (Nat.lt_succ_self _)
set_option maxHeartbeats 4000000 in
set_option maxRecDepth 100000 in
theorem c_X1_allDeep (l : Launch) (G : q_G) (σ : q_S) (a0 : Nat) (h0 : q_T G a0 = 5)  : Met l yX1_allDeep (Cond.code yX1_allDeep cX1_allDeep 3 (some .int) :: wsL_law) (q_Rm 1) (q_Pre G σ [.ref a0]) (q_Qi G [] σ (fun r σ1 => q_V (-2147483648) 2147483647 r)) 0 0 (q_N G) := by
  refine q_ofW (ts := []) (by decide) (Nat.le_of_ble_eq_true rfl) ?_
  intro p e s m args below meth c hE hr hlocks hW ls hl
  have hE : q_E G p s m args c cX1_allDeep 3 RX1 := hE
  have hx := hE.1.1
  have hb := hE.1.2.1
  have hl : lv_has ls 3 [(0, .ref a0)] := hl
  have lp4a : ∀ (n4a : Nat) (x1 : Int32) (x2 : Int32) (vx2 : q_V 0 6 x2) (ls : Array Slot) (hl : lv_has ls 3 [(0, .ref a0), (1, .int x1), (2, .int x2)]), (6 - x2.toInt).toNat < n4a → W p l e (q_Rm 1) s m args below meth c s.heap [] 0 0 (MQ below (q_Qi G [] σ (fun r σ1 => q_V (-2147483648) 2147483647 r)) args s 0 0 (q_N G)) (F0 m 4 ls []) := by
    intro n4a
    induction n4a with
    | zero => intro _ _ _ _ _; exact fun h => absurd h (Nat.not_lt_zero _)
    | succ n4a ih4a =>
      intro x1 x2 vx2 ls hl hm4a
      refine lv_iload_n hx hb dX1_allDeep_4 rfl (lv_at hl 2 rfl) ?_
      refine lv_bipush (v := 6) hx hb dX1_allDeep_5 (by decide) ?_
      refine lv_icmp_ge (tgt := 25) hx hb dX1_allDeep_7 (by decide) (fun c3 => ?_) (fun c3 => ?_)
      · have v4 : q_V 6 6 x2 := (q_le2 (q_c (k := 6) (x := 6) (by decide)) vx2 c3).w (by decide) (by decide)
        refine lv_iload_n hx hb dX1_allDeep_25 rfl (lv_at hl 1 rfl) ?_
        exact q_reti hE hr hlocks hW ((q_all x1)) dX1_allDeep_26
      · have v5 : q_V 0 5 x2 := (q_lt1 vx2 (q_c (k := 6) (x := 6) (by decide)) (Int32.not_le.mp c3)).w (by decide) (by decide)
        refine lv_iload_n hx hb dX1_allDeep_10 rfl (lv_at hl 1 rfl) ?_
        refine lv_aload_n hx hb dX1_allDeep_11 rfl (lv_at hl 0 rfl) ?_
        refine q_getr hE hW h0 rfl q_k1 5 (by decide) rfl (hE.l wl_96) dX1_allDeep_12 (fun b6 eb6 hb6a hb6b => ?_)
        have hb6 : q_T G b6 = 6 := q_tag hb6a hb6b
        refine lv_iload_n hx hb dX1_allDeep_15 rfl (lv_at hl 2 rfl) ?_
        refine q_iald hE hW hb6 rfl (q_in v5 (by decide) (by decide)) dX1_allDeep_16 (fun x7 ex7 gx7 => ?_)
        refine lv_iadd hx hb dX1_allDeep_17 ?_
        refine lv_topi (fun x8 ex8 => ?_)
        refine lv_istore_n (lv' := [(1, .int x8), (0, .ref a0), (2, .int x2)]) hx hb dX1_allDeep_18 rfl hl (by decide) rfl (fun ls hl => ?_)
        obtain ⟨x9, ex9⟩ : ∃ y : Int32, y = x2 + 1 := ⟨_, rfl⟩
        have vx9 : q_V 1 6 x9 := by rw [ex9]; exact q_add v5 (q_c (k := 1) (x := 1) (by decide)) (by decide) (by decide)
        have ix9 : x9.toInt = x2.toInt + 1 := by rw [ex9]; exact q_addT v5 (q_c (k := 1) (x := 1) (by decide)) (by decide) (by decide)
        refine lv_iinc (v := x9) (lv' := [(2, .int x9), (1, .int x8), (0, .ref a0)]) hx hb dX1_allDeep_19 hl (k := 2) rfl (by rw [ex9]; rfl) (by decide) rfl (fun ls hl => ?_)
        refine lv_goto (tgt := 4) hx hb dX1_allDeep_22 (by decide) ?_
        exact ih4a x8 x9 (vx9.w (by decide) (by decide)) ls (lv_sub hl [2, 1, 0] rfl) (Nat.lt_of_lt_of_le (q_up (ix9) (vx9).2) (Nat.le_of_lt_succ hm4a))
  refine lv_iconst (v := 0) hx hb dX1_allDeep_0 (by decide) ?_
  refine lv_istore_n (lv' := [(1, .int 0), (0, .ref a0)]) hx hb dX1_allDeep_1 rfl hl (by decide) rfl (fun ls hl => ?_)
  refine lv_iconst (v := 0) hx hb dX1_allDeep_2 (by decide) ?_
  refine lv_istore_n (lv' := [(2, .int 0), (1, .int 0), (0, .ref a0)]) hx hb dX1_allDeep_3 rfl hl (by decide) rfl (fun ls hl => ?_)
  exact lp4a _ 0 0 ((q_c (k := 0) (x := 0) (by decide)).w (by decide) (by decide)) ls (lv_sub hl [2, 1, 0] rfl) (Nat.lt_succ_self _)
set_option maxHeartbeats 4000000 in
set_option maxRecDepth 100000 in
theorem c_X1_isClean (l : Launch) (G : q_G) (σ : q_S) (a0 : Nat) (h0 : q_T G a0 = 5)  : Met l yX1_isClean (Cond.code yX1_isClean cX1_isClean 1 (some .boolean) :: wsL_law) (q_Rm 2) (q_Pre G σ [.ref a0]) (q_Qi G [] σ (fun r σ1 => q_V 0 1 r)) 0 0 (q_N G) := by
  refine q_ofW (ts := []) (by decide) (Nat.le_of_ble_eq_true rfl) ?_
  intro p e s m args below meth c hE hr hlocks hW ls hl
  have hE : q_E G p s m args c cX1_isClean 1 RX1 := hE
  have hx := hE.1.1
  have hb := hE.1.2.1
  have hl : lv_has ls 1 [(0, .ref a0)] := hl
  refine lv_aload_n hx hb dX1_isClean_0 rfl (lv_at hl 0 rfl) ?_
  refine q_goi hW (q_runV (As := []) (rest := []) hE hW (c_X1_allDeep l G σ a0 h0) kw_X1_44 (q_recv hE hW h0 rfl q_k1) rfl hl.1 rfl (by decide) dX1_isClean_1 ⟨by decide, by decide⟩ ⟨by decide, by decide⟩) (by decide) (fun x4 s2 H locs p1 f3 hW => ?_)
  refine lv_if_ne (tgt := 11) hx hb dX1_isClean_4 (by decide) (fun c5 => ?_) (fun c5 => ?_)
  · refine lv_iconst (v := 0) hx hb dX1_isClean_11 (by decide) ?_
    exact q_retz hE hr hlocks hW (Or.inl rfl) (((q_c (k := 0) (x := 0) (by decide)).w (by decide) (by decide))) dX1_isClean_12
  · have v6 : q_V 0 0 x4 := q_eq1 (q_all x4) (q_c (k := 0) (x := 0) (by decide)) c5 (by decide) (by decide)
    refine lv_iconst (v := 1) hx hb dX1_isClean_7 (by decide) ?_
    refine lv_goto (tgt := 12) hx hb dX1_isClean_8 (by decide) ?_
    exact q_retz hE hr hlocks hW (Or.inr rfl) (((q_c (k := 1) (x := 1) (by decide)).w (by decide) (by decide))) dX1_isClean_12
set_option maxHeartbeats 4000000 in
set_option maxRecDepth 100000 in
theorem c_X2_addWasher (l : Launch) (G : q_G) (σ : q_S) (a0 : Nat) (h0 : q_T G a0 = 7) (i1 : Int32)  : Met l yX2_addWasher (Cond.code yX2_addWasher cX2_addWasher 2 none :: wsL_law) (q_Rm 1) (q_Pre G σ [.ref a0, .int i1]) (q_Qv G [7, 9] σ (fun σ1 => True)) 0 0 (q_N G) := by
  refine q_ofW (ts := [7, 9]) (by decide) (Nat.le_of_ble_eq_true rfl) ?_
  intro p e s m args below meth c hE hr hlocks hW ls hl
  have hE : q_E G p s m args c cX2_addWasher 2 RX2 := hE
  have hx := hE.1.1
  have hb := hE.1.2.1
  have hl : lv_has ls 2 [(0, .ref a0), (1, .int i1)] := hl
  refine lv_aload_n hx hb dX2_addWasher_0 rfl (lv_at hl 0 rfl) ?_
  refine q_geti hE hW h0 rfl q_k2 4 (by decide) rfl (hE.l wl_199) dX2_addWasher_1 (fun x1 ex1 vx1 => ?_)
  refine lv_iconst (v := 3) hx hb dX2_addWasher_4 (by decide) ?_
  refine lv_icmp_ge (tgt := 28) hx hb dX2_addWasher_5 (by decide) (fun c2 => ?_) (fun c2 => ?_)
  · have v3 : q_V 3 3 x1 := (q_le2 (q_c (k := 3) (x := 3) (by decide)) vx1 c2).w (by decide) (by decide)
    exact q_retv hE hr hlocks hW (trivial) dX2_addWasher_28
  · have v4 : q_V 0 2 x1 := (q_lt1 vx1 (q_c (k := 3) (x := 3) (by decide)) (Int32.not_le.mp c2)).w (by decide) (by decide)
    refine lv_aload_n hx hb dX2_addWasher_8 rfl (lv_at hl 0 rfl) ?_
    refine q_getr hE hW h0 rfl q_k2 2 (by decide) rfl (hE.l wl_86) dX2_addWasher_9 (fun b5 eb5 hb5a hb5b => ?_)
    have hb5 : q_T G b5 = 9 := q_tag hb5a hb5b
    refine lv_aload_n hx hb dX2_addWasher_12 rfl (lv_at hl 0 rfl) ?_
    refine q_geti hE hW h0 rfl q_k2 4 (by decide) rfl (hE.l wl_199) dX2_addWasher_13 (fun x6 ex6 vx6 => ?_)
    obtain rfl : x6 = x1 := ex6.symm.trans ex1
    refine lv_iload_n hx hb dX2_addWasher_16 rfl (lv_at hl 1 rfl) ?_
    refine q_iast hE hW hb5 rfl (q_in v4 (by decide) (by decide)) trivial (by decide) dX2_addWasher_17 (fun H locs s7 p8 hW => ?_)
    refine lv_aload_n hx hb dX2_addWasher_18 rfl (lv_at hl 0 rfl) ?_
    refine lv_dup hx hb dX2_addWasher_19 rfl ?_
    refine q_geti hE hW h0 rfl q_k2 4 (by decide) rfl (hE.l wl_199) dX2_addWasher_20 (fun x9 ex9 vx9 => ?_)
    obtain rfl : x9 = x1 := ex9.symm.trans ((p8.2.2.2.1 _ _).trans ex1)
    refine lv_iconst (v := 1) hx hb dX2_addWasher_23 (by decide) ?_
    refine lv_iadd hx hb dX2_addWasher_24 ?_
    refine lv_topi (fun x10 ex10 => ?_)
    have vx10 : q_V 1 3 x10 := by rw [ex10]; exact q_add v4 (q_c (k := 1) (x := 1) (by decide)) (by decide) (by decide)
    refine q_puti hE hW h0 rfl q_k2 tyX2 tyX2_ok 4 (by decide) rfl (hE.l wl_199) rfl rfl rfl (vx10.w (by decide) (by decide)) (by decide) dX2_addWasher_25 (fun H locs s11 p12 hW => ?_)
    exact q_retv hE hr hlocks hW (trivial) dX2_addWasher_28
