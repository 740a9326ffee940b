set_option maxHeartbeats 8000000 in
set_option maxRecDepth 100000 in
theorem c_X12_init (l : Launch) (G : q_G) (L : List Nat) (T : Nat → Nat) (σ : q_S) (a0 : Nat) (hp0 : q_Po L T σ a0 40 [] []) : Met l yX12_init (Cond.code yX12_init cX12_init 2 none :: wsL_law) (q_Rc 3 27 1650) (q_PreC G L T σ [.ref a0]) (q_QcC G L T σ a0 40) 27 1650 (q_N G) := by
  refine q_ofC (by decide) (Nat.le_of_ble_eq_true rfl) ?_
  intro p e s m args below meth c hE hin hB hA hr hlocks hW ls hl
  have hE : q_E G p s m args c cX12_init 2 RX12 := hE
  have hx := hE.1.1
  have hb := hE.1.2.1
  have hW0 := hW
  have hW00 := hW
  have hg := q_Gw.rf (L := L) (T := T) (σ := σ) a0
  have hl : lv_has ls 2 [(0, .ref a0)] := hl
  refine lv_aload_n hx hb dX12_init_0 rfl (lv_at hl 0 rfl) ?_
  refine W.objInit hx hb hE.1.2.2.2.1 (hE.w wl_128) (hE.w wl_10) (hE.w wl_11) rfl (hl.1.trans hE.1.2.2.1.symm) rfl dX12_init_1 (Nat.le_of_ble_eq_true rfl) (Nat.le_of_ble_eq_true rfl) ?_
  refine W.eq (g2 := F0 m 4 ls []) rfl ?_
  refine lv_aload_n hx hb dX12_init_4 rfl (lv_at hl 0 rfl) ?_
  refine lv_bipush (v := 6) hx hb dX12_init_5 (by decide) ?_
  refine q_newI (ty := .int) (atype := .int) hE hB hW 41 rfl rfl rfl rfl wl_45 (by decide) (by decide) (by decide) (by decide) (Nat.le_of_ble_eq_true rfl) (Nat.le_of_ble_eq_true rfl) dX12_init_7 (fun kb1 kL2 kT3 ks4 H hW kg5 nkb1 hy9 hkb1 => ?_)
  refine W.widen (k := 1) (n := 6) (Nat.le_of_ble_eq_true rfl) (Nat.le_of_ble_eq_true rfl) ?_
  have fkb1 := (fun q9 => nkb1 (hg.1 _ q9))
  have ukb1 := hp0.nL nkb1
  have hg := q_Gw.tr hg kg5 (Or.inr fkb1) hy9 (fun x hx => hW0.1.inL x hx)
  have hp0 := hp0.mv kg5 ukb1
  have hW0 := hW
  refine q_putF hE hW hp0 rfl q_k12 tyX12 tyX12_ok 1 (by decide) rfl wl_129 rfl hin rfl rfl rfl (by decide) rfl dX12_init_9 (fun ks6 H locs hW kg7 hp0 => ?_)
  have hg := q_Gw.tr hg kg7 (Or.inl rfl) hp0.here.2 (fun x hx => hW0.1.inL x hx)
  have hkb1 := q_Gw.tag kg7 hkb1 (by decide)
  have hW0 := hW
  have hp0 := hp0.know (List.mem_of_getElem? (i := 0) rfl) rfl (k := 1) rfl (q_1 hkb1 (by decide)) (q_2 hkb1 (by decide))
  refine lv_aload_n hx hb dX12_init_12 rfl (lv_at hl 0 rfl) ?_
  refine lv_bipush (v := 6) hx hb dX12_init_13 (by decide) ?_
  refine q_newI (ty := .int) (atype := .int) hE hB hW 42 rfl rfl rfl rfl wl_45 (by decide) (by decide) (by decide) (by decide) (Nat.le_of_ble_eq_true rfl) (Nat.le_of_ble_eq_true rfl) dX12_init_15 (fun kb8 kL9 kT10 ks11 H hW kg12 nkb8 hy9 hkb8 => ?_)
  refine W.widen (k := 2) (n := 12) (Nat.le_of_ble_eq_true rfl) (Nat.le_of_ble_eq_true rfl) ?_
  have fkb8 := (fun q9 => nkb8 (hg.1 _ q9))
  have ukb8 := hp0.nL nkb8
  have hg := q_Gw.tr hg kg12 (Or.inr fkb8) hy9 (fun x hx => hW0.1.inL x hx)
  have hp0 := hp0.mv kg12 ukb8
  have hkb1 := q_Gw.tag kg12 hkb1 (by decide)
  have hW0 := hW
  refine q_putF hE hW hp0 rfl q_k12 tyX12 tyX12_ok 2 (by decide) rfl wl_130 rfl hin rfl rfl rfl (by decide) rfl dX12_init_17 (fun ks13 H locs hW kg14 hp0 => ?_)
  have hg := q_Gw.tr hg kg14 (Or.inl rfl) hp0.here.2 (fun x hx => hW0.1.inL x hx)
  have hkb1 := q_Gw.tag kg14 hkb1 (by decide)
  have hkb8 := q_Gw.tag kg14 hkb8 (by decide)
  have hW0 := hW
  have hp0 := hp0.know (List.mem_of_getElem? (i := 0) rfl) rfl (k := 2) rfl (q_1 hkb8 (by decide)) (q_2 hkb8 (by decide))
  refine lv_aload_n hx hb dX12_init_20 rfl (lv_at hl 0 rfl) ?_
  refine lv_bipush (v := 6) hx hb dX12_init_21 (by decide) ?_
  refine q_newI (ty := .int) (atype := .int) hE hB hW 43 rfl rfl rfl rfl wl_45 (by decide) (by decide) (by decide) (by decide) (Nat.le_of_ble_eq_true rfl) (Nat.le_of_ble_eq_true rfl) dX12_init_23 (fun kb15 kL16 kT17 ks18 H hW kg19 nkb15 hy9 hkb15 => ?_)
  refine W.widen (k := 3) (n := 18) (Nat.le_of_ble_eq_true rfl) (Nat.le_of_ble_eq_true rfl) ?_
  have fkb15 := (fun q9 => nkb15 (hg.1 _ q9))
  have ukb15 := hp0.nL nkb15
  have hg := q_Gw.tr hg kg19 (Or.inr fkb15) hy9 (fun x hx => hW0.1.inL x hx)
  have hp0 := hp0.mv kg19 ukb15
  have hkb1 := q_Gw.tag kg19 hkb1 (by decide)
  have hkb8 := q_Gw.tag kg19 hkb8 (by decide)
  have hW0 := hW
  refine q_putF hE hW hp0 rfl q_k12 tyX12 tyX12_ok 3 (by decide) rfl wl_131 rfl hin rfl rfl rfl (by decide) rfl dX12_init_25 (fun ks20 H locs hW kg21 hp0 => ?_)
  have hg := q_Gw.tr hg kg21 (Or.inl rfl) hp0.here.2 (fun x hx => hW0.1.inL x hx)
  have hkb1 := q_Gw.tag kg21 hkb1 (by decide)
  have hkb8 := q_Gw.tag kg21 hkb8 (by decide)
  have hkb15 := q_Gw.tag kg21 hkb15 (by decide)
  have hW0 := hW
  have hp0 := hp0.know (List.mem_of_getElem? (i := 0) rfl) rfl (k := 3) rfl (q_1 hkb15 (by decide)) (q_2 hkb15 (by decide))
  refine lv_aload_n hx hb dX12_init_28 rfl (lv_at hl 0 rfl) ?_
  refine lv_bipush (v := 36) hx hb dX12_init_29 (by decide) ?_
  refine q_newI (ty := .int) (atype := .int) hE hB hW 44 rfl rfl rfl rfl wl_45 (by decide) (by decide) (by decide) (by decide) (Nat.le_of_ble_eq_true rfl) (Nat.le_of_ble_eq_true rfl) dX12_init_31 (fun kb22 kL23 kT24 ks25 H hW kg26 nkb22 hy9 hkb22 => ?_)
  refine W.widen (k := 4) (n := 54) (Nat.le_of_ble_eq_true rfl) (Nat.le_of_ble_eq_true rfl) ?_
  have fkb22 := (fun q9 => nkb22 (hg.1 _ q9))
  have ukb22 := hp0.nL nkb22
  have hg := q_Gw.tr hg kg26 (Or.inr fkb22) hy9 (fun x hx => hW0.1.inL x hx)
  have hp0 := hp0.mv kg26 ukb22
  have hkb1 := q_Gw.tag kg26 hkb1 (by decide)
  have hkb8 := q_Gw.tag kg26 hkb8 (by decide)
  have hkb15 := q_Gw.tag kg26 hkb15 (by decide)
  have hW0 := hW
  refine q_putF hE hW hp0 rfl q_k12 tyX12 tyX12_ok 4 (by decide) rfl wl_132 rfl hin rfl rfl rfl (by decide) rfl dX12_init_33 (fun ks27 H locs hW kg28 hp0 => ?_)
  have hg := q_Gw.tr hg kg28 (Or.inl rfl) hp0.here.2 (fun x hx => hW0.1.inL x hx)
  have hkb1 := q_Gw.tag kg28 hkb1 (by decide)
  have hkb8 := q_Gw.tag kg28 hkb8 (by decide)
  have hkb15 := q_Gw.tag kg28 hkb15 (by decide)
  have hkb22 := q_Gw.tag kg28 hkb22 (by decide)
  have hW0 := hW
  have hp0 := hp0.know (List.mem_of_getElem? (i := 0) rfl) rfl (k := 4) rfl (q_1 hkb22 (by decide)) (q_2 hkb22 (by decide))
  refine lv_aload_n hx hb dX12_init_36 rfl (lv_at hl 0 rfl) ?_
  refine lv_iconst (v := 3) hx hb dX12_init_37 (by decide) ?_
  refine q_newI (ty := .int) (atype := .int) hE hB hW 45 rfl rfl rfl rfl wl_45 (by decide) (by decide) (by decide) (by decide) (Nat.le_of_ble_eq_true rfl) (Nat.le_of_ble_eq_true rfl) dX12_init_38 (fun kb29 kL30 kT31 ks32 H hW kg33 nkb29 hy9 hkb29 => ?_)
  refine W.widen (k := 5) (n := 57) (Nat.le_of_ble_eq_true rfl) (Nat.le_of_ble_eq_true rfl) ?_
  have fkb29 := (fun q9 => nkb29 (hg.1 _ q9))
  have ukb29 := hp0.nL nkb29
  have hg := q_Gw.tr hg kg33 (Or.inr fkb29) hy9 (fun x hx => hW0.1.inL x hx)
  have hp0 := hp0.mv kg33 ukb29
  have hkb1 := q_Gw.tag kg33 hkb1 (by decide)
  have hkb8 := q_Gw.tag kg33 hkb8 (by decide)
  have hkb15 := q_Gw.tag kg33 hkb15 (by decide)
  have hkb22 := q_Gw.tag kg33 hkb22 (by decide)
  have hW0 := hW
  refine q_putF hE hW hp0 rfl q_k12 tyX12 tyX12_ok 6 (by decide) rfl wl_133 rfl hin rfl rfl rfl (by decide) rfl dX12_init_40 (fun ks34 H locs hW kg35 hp0 => ?_)
  have hg := q_Gw.tr hg kg35 (Or.inl rfl) hp0.here.2 (fun x hx => hW0.1.inL x hx)
  have hkb1 := q_Gw.tag kg35 hkb1 (by decide)
  have hkb8 := q_Gw.tag kg35 hkb8 (by decide)
  have hkb15 := q_Gw.tag kg35 hkb15 (by decide)
  have hkb22 := q_Gw.tag kg35 hkb22 (by decide)
  have hkb29 := q_Gw.tag kg35 hkb29 (by decide)
  have hW0 := hW
  have hp0 := hp0.know (List.mem_of_getElem? (i := 0) rfl) rfl (k := 6) rfl (q_1 hkb29 (by decide)) (q_2 hkb29 (by decide))
  refine lv_aload_n hx hb dX12_init_43 rfl (lv_at hl 0 rfl) ?_
  refine lv_bipush (v := 8) hx hb dX12_init_44 (by decide) ?_
  refine q_putI hE hW hp0 rfl q_k12 tyX12 tyX12_ok 8 (by decide) rfl wl_134 rfl (by decide) rfl rfl (by decide) rfl dX12_init_46 (fun ks36 H locs hW kg37 hp0 => ?_)
  have hg := q_Gw.tr hg kg37 (Or.inl rfl) hp0.here.2 (fun x hx => hW0.1.inL x hx)
  have hkb1 := q_Gw.tag kg37 hkb1 (by decide)
  have hkb8 := q_Gw.tag kg37 hkb8 (by decide)
  have hkb15 := q_Gw.tag kg37 hkb15 (by decide)
  have hkb22 := q_Gw.tag kg37 hkb22 (by decide)
  have hkb29 := q_Gw.tag kg37 hkb29 (by decide)
  have hW0 := hW
  refine lv_aload_n hx hb dX12_init_49 rfl (lv_at hl 0 rfl) ?_
  refine lv_bipush (v := 101) hx hb dX12_init_50 (by decide) ?_
  refine q_newI (ty := .int) (atype := .int) hE hB hW 46 rfl rfl rfl rfl wl_45 (by decide) (by decide) (by decide) (by decide) (Nat.le_of_ble_eq_true rfl) (Nat.le_of_ble_eq_true rfl) dX12_init_52 (fun kb38 kL39 kT40 ks41 H hW kg42 nkb38 hy9 hkb38 => ?_)
  refine W.widen (k := 6) (n := 158) (Nat.le_of_ble_eq_true rfl) (Nat.le_of_ble_eq_true rfl) ?_
  have fkb38 := (fun q9 => nkb38 (hg.1 _ q9))
  have ukb38 := hp0.nL nkb38
  have hg := q_Gw.tr hg kg42 (Or.inr fkb38) hy9 (fun x hx => hW0.1.inL x hx)
  have hp0 := hp0.mv kg42 ukb38
  have hkb1 := q_Gw.tag kg42 hkb1 (by decide)
  have hkb8 := q_Gw.tag kg42 hkb8 (by decide)
  have hkb15 := q_Gw.tag kg42 hkb15 (by decide)
  have hkb22 := q_Gw.tag kg42 hkb22 (by decide)
  have hkb29 := q_Gw.tag kg42 hkb29 (by decide)
  have hW0 := hW
  refine q_putF hE hW hp0 rfl q_k12 tyX12 tyX12_ok 9 (by decide) rfl wl_135 rfl hin rfl rfl rfl (by decide) rfl dX12_init_54 (fun ks43 H locs hW kg44 hp0 => ?_)
  have hg := q_Gw.tr hg kg44 (Or.inl rfl) hp0.here.2 (fun x hx => hW0.1.inL x hx)
  have hkb1 := q_Gw.tag kg44 hkb1 (by decide)
  have hkb8 := q_Gw.tag kg44 hkb8 (by decide)
  have hkb15 := q_Gw.tag kg44 hkb15 (by decide)
  have hkb22 := q_Gw.tag kg44 hkb22 (by decide)
  have hkb29 := q_Gw.tag kg44 hkb29 (by decide)
  have hkb38 := q_Gw.tag kg44 hkb38 (by decide)
  have hW0 := hW
  have hp0 := hp0.know (List.mem_of_getElem? (i := 0) rfl) rfl (k := 9) rfl (q_1 hkb38 (by decide)) (q_2 hkb38 (by decide))
  refine lv_aload_n hx hb dX12_init_57 rfl (lv_at hl 0 rfl) ?_
  refine lv_sipush (v := 200) hx hb dX12_init_58 (by decide) ?_
  refine q_newI (ty := .int) (atype := .int) hE hB hW 47 rfl rfl rfl rfl wl_45 (by decide) (by decide) (by decide) (by decide) (Nat.le_of_ble_eq_true rfl) (Nat.le_of_ble_eq_true rfl) dX12_init_61 (fun kb45 kL46 kT47 ks48 H hW kg49 nkb45 hy9 hkb45 => ?_)
  refine W.widen (k := 7) (n := 358) (Nat.le_of_ble_eq_true rfl) (Nat.le_of_ble_eq_true rfl) ?_
  have fkb45 := (fun q9 => nkb45 (hg.1 _ q9))
  have ukb45 := hp0.nL nkb45
  have hg := q_Gw.tr hg kg49 (Or.inr fkb45) hy9 (fun x hx => hW0.1.inL x hx)
  have hp0 := hp0.mv kg49 ukb45
  have hkb1 := q_Gw.tag kg49 hkb1 (by decide)
  have hkb8 := q_Gw.tag kg49 hkb8 (by decide)
  have hkb15 := q_Gw.tag kg49 hkb15 (by decide)
  have hkb22 := q_Gw.tag kg49 hkb22 (by decide)
  have hkb29 := q_Gw.tag kg49 hkb29 (by decide)
  have hkb38 := q_Gw.tag kg49 hkb38 (by decide)
  have hW0 := hW
  refine q_putF hE hW hp0 rfl q_k12 tyX12 tyX12_ok 10 (by decide) rfl wl_136 rfl hin rfl rfl rfl (by decide) rfl dX12_init_63 (fun ks50 H locs hW kg51 hp0 => ?_)
  have hg := q_Gw.tr hg kg51 (Or.inl rfl) hp0.here.2 (fun x hx => hW0.1.inL x hx)
  have hkb1 := q_Gw.tag kg51 hkb1 (by decide)
  have hkb8 := q_Gw.tag kg51 hkb8 (by decide)
  have hkb15 := q_Gw.tag kg51 hkb15 (by decide)
  have hkb22 := q_Gw.tag kg51 hkb22 (by decide)
  have hkb29 := q_Gw.tag kg51 hkb29 (by decide)
  have hkb38 := q_Gw.tag kg51 hkb38 (by decide)
  have hkb45 := q_Gw.tag kg51 hkb45 (by decide)
  have hW0 := hW
  have hp0 := hp0.know (List.mem_of_getElem? (i := 0) rfl) rfl (k := 10) rfl (q_1 hkb45 (by decide)) (q_2 hkb45 (by decide))
  refine lv_aload_n hx hb dX12_init_66 rfl (lv_at hl 0 rfl) ?_
  refine lv_bipush (v := 6) hx hb dX12_init_67 (by decide) ?_
  refine q_newI (ty := .int) (atype := .int) hE hB hW 48 rfl rfl rfl rfl wl_45 (by decide) (by decide) (by decide) (by decide) (Nat.le_of_ble_eq_true rfl) (Nat.le_of_ble_eq_true rfl) dX12_init_69 (fun kb52 kL53 kT54 ks55 H hW kg56 nkb52 hy9 hkb52 => ?_)
  refine W.widen (k := 8) (n := 364) (Nat.le_of_ble_eq_true rfl) (Nat.le_of_ble_eq_true rfl) ?_
  have fkb52 := (fun q9 => nkb52 (hg.1 _ q9))
  have ukb52 := hp0.nL nkb52
  have hg := q_Gw.tr hg kg56 (Or.inr fkb52) hy9 (fun x hx => hW0.1.inL x hx)
  have hp0 := hp0.mv kg56 ukb52
  have hkb1 := q_Gw.tag kg56 hkb1 (by decide)
  have hkb8 := q_Gw.tag kg56 hkb8 (by decide)
  have hkb15 := q_Gw.tag kg56 hkb15 (by decide)
  have hkb22 := q_Gw.tag kg56 hkb22 (by decide)
  have hkb29 := q_Gw.tag kg56 hkb29 (by decide)
  have hkb38 := q_Gw.tag kg56 hkb38 (by decide)
  have hkb45 := q_Gw.tag kg56 hkb45 (by decide)
  have hW0 := hW
  refine q_putF hE hW hp0 rfl q_k12 tyX12 tyX12_ok 18 (by decide) rfl wl_137 rfl hin rfl rfl rfl (by decide) rfl dX12_init_71 (fun ks57 H locs hW kg58 hp0 => ?_)
  have hg := q_Gw.tr hg kg58 (Or.inl rfl) hp0.here.2 (fun x hx => hW0.1.inL x hx)
  have hkb1 := q_Gw.tag kg58 hkb1 (by decide)
  have hkb8 := q_Gw.tag kg58 hkb8 (by decide)
  have hkb15 := q_Gw.tag kg58 hkb15 (by decide)
  have hkb22 := q_Gw.tag kg58 hkb22 (by decide)
  have hkb29 := q_Gw.tag kg58 hkb29 (by decide)
  have hkb38 := q_Gw.tag kg58 hkb38 (by decide)
  have hkb45 := q_Gw.tag kg58 hkb45 (by decide)
  have hkb52 := q_Gw.tag kg58 hkb52 (by decide)
  have hW0 := hW
  have hp0 := hp0.know (List.mem_of_getElem? (i := 0) rfl) rfl (k := 18) rfl (q_1 hkb52 (by decide)) (q_2 hkb52 (by decide))
  refine lv_aload_n hx hb dX12_init_74 rfl (lv_at hl 0 rfl) ?_
  refine lv_bipush (v := 6) hx hb dX12_init_75 (by decide) ?_
  refine q_newI (ty := .int) (atype := .int) hE hB hW 49 rfl rfl rfl rfl wl_45 (by decide) (by decide) (by decide) (by decide) (Nat.le_of_ble_eq_true rfl) (Nat.le_of_ble_eq_true rfl) dX12_init_77 (fun kb59 kL60 kT61 ks62 H hW kg63 nkb59 hy9 hkb59 => ?_)
  refine W.widen (k := 9) (n := 370) (Nat.le_of_ble_eq_true rfl) (Nat.le_of_ble_eq_true rfl) ?_
  have fkb59 := (fun q9 => nkb59 (hg.1 _ q9))
  have ukb59 := hp0.nL nkb59
  have hg := q_Gw.tr hg kg63 (Or.inr fkb59) hy9 (fun x hx => hW0.1.inL x hx)
  have hp0 := hp0.mv kg63 ukb59
  have hkb1 := q_Gw.tag kg63 hkb1 (by decide)
  have hkb8 := q_Gw.tag kg63 hkb8 (by decide)
  have hkb15 := q_Gw.tag kg63 hkb15 (by decide)
  have hkb22 := q_Gw.tag kg63 hkb22 (by decide)
  have hkb29 := q_Gw.tag kg63 hkb29 (by decide)
  have hkb38 := q_Gw.tag kg63 hkb38 (by decide)
  have hkb45 := q_Gw.tag kg63 hkb45 (by decide)
  have hkb52 := q_Gw.tag kg63 hkb52 (by decide)
  have hW0 := hW
  refine q_putF hE hW hp0 rfl q_k12 tyX12 tyX12_ok 19 (by decide) rfl wl_138 rfl hin rfl rfl rfl (by decide) rfl dX12_init_79 (fun ks64 H locs hW kg65 hp0 => ?_)
  have hg := q_Gw.tr hg kg65 (Or.inl rfl) hp0.here.2 (fun x hx => hW0.1.inL x hx)
  have hkb1 := q_Gw.tag kg65 hkb1 (by decide)
  have hkb8 := q_Gw.tag kg65 hkb8 (by decide)
  have hkb15 := q_Gw.tag kg65 hkb15 (by decide)
  have hkb22 := q_Gw.tag kg65 hkb22 (by decide)
  have hkb29 := q_Gw.tag kg65 hkb29 (by decide)
  have hkb38 := q_Gw.tag kg65 hkb38 (by decide)
  have hkb45 := q_Gw.tag kg65 hkb45 (by decide)
  have hkb52 := q_Gw.tag kg65 hkb52 (by decide)
  have hkb59 := q_Gw.tag kg65 hkb59 (by decide)
  have hW0 := hW
  have hp0 := hp0.know (List.mem_of_getElem? (i := 0) rfl) rfl (k := 19) rfl (q_1 hkb59 (by decide)) (q_2 hkb59 (by decide))
  refine lv_aload_n hx hb dX12_init_82 rfl (lv_at hl 0 rfl) ?_
  refine lv_bipush (v := 6) hx hb dX12_init_83 (by decide) ?_
  refine q_newI (ty := .int) (atype := .int) hE hB hW 50 rfl rfl rfl rfl wl_45 (by decide) (by decide) (by decide) (by decide) (Nat.le_of_ble_eq_true rfl) (Nat.le_of_ble_eq_true rfl) dX12_init_85 (fun kb66 kL67 kT68 ks69 H hW kg70 nkb66 hy9 hkb66 => ?_)
  refine W.widen (k := 10) (n := 376) (Nat.le_of_ble_eq_true rfl) (Nat.le_of_ble_eq_true rfl) ?_
  have fkb66 := (fun q9 => nkb66 (hg.1 _ q9))
  have ukb66 := hp0.nL nkb66
  have hg := q_Gw.tr hg kg70 (Or.inr fkb66) hy9 (fun x hx => hW0.1.inL x hx)
  have hp0 := hp0.mv kg70 ukb66
  have hkb1 := q_Gw.tag kg70 hkb1 (by decide)
  have hkb8 := q_Gw.tag kg70 hkb8 (by decide)
  have hkb15 := q_Gw.tag kg70 hkb15 (by decide)
  have hkb22 := q_Gw.tag kg70 hkb22 (by decide)
  have hkb29 := q_Gw.tag kg70 hkb29 (by decide)
  have hkb38 := q_Gw.tag kg70 hkb38 (by decide)
  have hkb45 := q_Gw.tag kg70 hkb45 (by decide)
  have hkb52 := q_Gw.tag kg70 hkb52 (by decide)
  have hkb59 := q_Gw.tag kg70 hkb59 (by decide)
  have hW0 := hW
  refine q_putF hE hW hp0 rfl q_k12 tyX12 tyX12_ok 20 (by decide) rfl wl_139 rfl hin rfl rfl rfl (by decide) rfl dX12_init_87 (fun ks71 H locs hW kg72 hp0 => ?_)
  have hg := q_Gw.tr hg kg72 (Or.inl rfl) hp0.here.2 (fun x hx => hW0.1.inL x hx)
  have hkb1 := q_Gw.tag kg72 hkb1 (by decide)
  have hkb8 := q_Gw.tag kg72 hkb8 (by decide)
  have hkb15 := q_Gw.tag kg72 hkb15 (by decide)
  have hkb22 := q_Gw.tag kg72 hkb22 (by decide)
  have hkb29 := q_Gw.tag kg72 hkb29 (by decide)
  have hkb38 := q_Gw.tag kg72 hkb38 (by decide)
  have hkb45 := q_Gw.tag kg72 hkb45 (by decide)
  have hkb52 := q_Gw.tag kg72 hkb52 (by decide)
  have hkb59 := q_Gw.tag kg72 hkb59 (by decide)
  have hkb66 := q_Gw.tag kg72 hkb66 (by decide)
  have hW0 := hW
  have hp0 := hp0.know (List.mem_of_getElem? (i := 0) rfl) rfl (k := 20) rfl (q_1 hkb66 (by decide)) (q_2 hkb66 (by decide))
  refine lv_aload_n hx hb dX12_init_90 rfl (lv_at hl 0 rfl) ?_
  refine lv_bipush (v := 36) hx hb dX12_init_91 (by decide) ?_
  refine q_newI (ty := .int) (atype := .int) hE hB hW 51 rfl rfl rfl rfl wl_45 (by decide) (by decide) (by decide) (by decide) (Nat.le_of_ble_eq_true rfl) (Nat.le_of_ble_eq_true rfl) dX12_init_93 (fun kb73 kL74 kT75 ks76 H hW kg77 nkb73 hy9 hkb73 => ?_)
  refine W.widen (k := 11) (n := 412) (Nat.le_of_ble_eq_true rfl) (Nat.le_of_ble_eq_true rfl) ?_
  have fkb73 := (fun q9 => nkb73 (hg.1 _ q9))
  have ukb73 := hp0.nL nkb73
  have hg := q_Gw.tr hg kg77 (Or.inr fkb73) hy9 (fun x hx => hW0.1.inL x hx)
  have hp0 := hp0.mv kg77 ukb73
  have hkb1 := q_Gw.tag kg77 hkb1 (by decide)
  have hkb8 := q_Gw.tag kg77 hkb8 (by decide)
  have hkb15 := q_Gw.tag kg77 hkb15 (by decide)
  have hkb22 := q_Gw.tag kg77 hkb22 (by decide)
  have hkb29 := q_Gw.tag kg77 hkb29 (by decide)
  have hkb38 := q_Gw.tag kg77 hkb38 (by decide)
  have hkb45 := q_Gw.tag kg77 hkb45 (by decide)
  have hkb52 := q_Gw.tag kg77 hkb52 (by decide)
  have hkb59 := q_Gw.tag kg77 hkb59 (by decide)
  have hkb66 := q_Gw.tag kg77 hkb66 (by decide)
  have hW0 := hW
  refine q_putF hE hW hp0 rfl q_k12 tyX12 tyX12_ok 21 (by decide) rfl wl_140 rfl hin rfl rfl rfl (by decide) rfl dX12_init_95 (fun ks78 H locs hW kg79 hp0 => ?_)
  have hg := q_Gw.tr hg kg79 (Or.inl rfl) hp0.here.2 (fun x hx => hW0.1.inL x hx)
  have hkb1 := q_Gw.tag kg79 hkb1 (by decide)
  have hkb8 := q_Gw.tag kg79 hkb8 (by decide)
  have hkb15 := q_Gw.tag kg79 hkb15 (by decide)
  have hkb22 := q_Gw.tag kg79 hkb22 (by decide)
  have hkb29 := q_Gw.tag kg79 hkb29 (by decide)
  have hkb38 := q_Gw.tag kg79 hkb38 (by decide)
  have hkb45 := q_Gw.tag kg79 hkb45 (by decide)
  have hkb52 := q_Gw.tag kg79 hkb52 (by decide)
  have hkb59 := q_Gw.tag kg79 hkb59 (by decide)
  have hkb66 := q_Gw.tag kg79 hkb66 (by decide)
  have hkb73 := q_Gw.tag kg79 hkb73 (by decide)
  have hW0 := hW
  have hp0 := hp0.know (List.mem_of_getElem? (i := 0) rfl) rfl (k := 21) rfl (q_1 hkb73 (by decide)) (q_2 hkb73 (by decide))
  refine lv_aload_n hx hb dX12_init_98 rfl (lv_at hl 0 rfl) ?_
  refine lv_iconst (v := 3) hx hb dX12_init_99 (by decide) ?_
  refine q_newI (ty := .int) (atype := .int) hE hB hW 52 rfl rfl rfl rfl wl_45 (by decide) (by decide) (by decide) (by decide) (Nat.le_of_ble_eq_true rfl) (Nat.le_of_ble_eq_true rfl) dX12_init_100 (fun kb80 kL81 kT82 ks83 H hW kg84 nkb80 hy9 hkb80 => ?_)
  refine W.widen (k := 12) (n := 415) (Nat.le_of_ble_eq_true rfl) (Nat.le_of_ble_eq_true rfl) ?_
  have fkb80 := (fun q9 => nkb80 (hg.1 _ q9))
  have ukb80 := hp0.nL nkb80
  have hg := q_Gw.tr hg kg84 (Or.inr fkb80) hy9 (fun x hx => hW0.1.inL x hx)
  have hp0 := hp0.mv kg84 ukb80
  have hkb1 := q_Gw.tag kg84 hkb1 (by decide)
  have hkb8 := q_Gw.tag kg84 hkb8 (by decide)
  have hkb15 := q_Gw.tag kg84 hkb15 (by decide)
  have hkb22 := q_Gw.tag kg84 hkb22 (by decide)
  have hkb29 := q_Gw.tag kg84 hkb29 (by decide)
  have hkb38 := q_Gw.tag kg84 hkb38 (by decide)
  have hkb45 := q_Gw.tag kg84 hkb45 (by decide)
  have hkb52 := q_Gw.tag kg84 hkb52 (by decide)
  have hkb59 := q_Gw.tag kg84 hkb59 (by decide)
  have hkb66 := q_Gw.tag kg84 hkb66 (by decide)
  have hkb73 := q_Gw.tag kg84 hkb73 (by decide)
  have hW0 := hW
  refine q_putF hE hW hp0 rfl q_k12 tyX12 tyX12_ok 23 (by decide) rfl wl_141 rfl hin rfl rfl rfl (by decide) rfl dX12_init_102 (fun ks85 H locs hW kg86 hp0 => ?_)
  have hg := q_Gw.tr hg kg86 (Or.inl rfl) hp0.here.2 (fun x hx => hW0.1.inL x hx)
  have hkb1 := q_Gw.tag kg86 hkb1 (by decide)
  have hkb8 := q_Gw.tag kg86 hkb8 (by decide)
  have hkb15 := q_Gw.tag kg86 hkb15 (by decide)
  have hkb22 := q_Gw.tag kg86 hkb22 (by decide)
  have hkb29 := q_Gw.tag kg86 hkb29 (by decide)
  have hkb38 := q_Gw.tag kg86 hkb38 (by decide)
  have hkb45 := q_Gw.tag kg86 hkb45 (by decide)
  have hkb52 := q_Gw.tag kg86 hkb52 (by decide)
  have hkb59 := q_Gw.tag kg86 hkb59 (by decide)
  have hkb66 := q_Gw.tag kg86 hkb66 (by decide)
  have hkb73 := q_Gw.tag kg86 hkb73 (by decide)
  have hkb80 := q_Gw.tag kg86 hkb80 (by decide)
  have hW0 := hW
  have hp0 := hp0.know (List.mem_of_getElem? (i := 0) rfl) rfl (k := 23) rfl (q_1 hkb80 (by decide)) (q_2 hkb80 (by decide))
  refine lv_aload_n hx hb dX12_init_105 rfl (lv_at hl 0 rfl) ?_
  refine lv_sipush (v := 808) hx hb dX12_init_106 (by decide) ?_
  refine q_newI (ty := .int) (atype := .int) hE hB hW 53 rfl rfl rfl rfl wl_45 (by decide) (by decide) (by decide) (by decide) (Nat.le_of_ble_eq_true rfl) (Nat.le_of_ble_eq_true rfl) dX12_init_109 (fun kb87 kL88 kT89 ks90 H hW kg91 nkb87 hy9 hkb87 => ?_)
  refine W.widen (k := 13) (n := 1223) (Nat.le_of_ble_eq_true rfl) (Nat.le_of_ble_eq_true rfl) ?_
  have fkb87 := (fun q9 => nkb87 (hg.1 _ q9))
  have ukb87 := hp0.nL nkb87
  have hg := q_Gw.tr hg kg91 (Or.inr fkb87) hy9 (fun x hx => hW0.1.inL x hx)
  have hp0 := hp0.mv kg91 ukb87
  have hkb1 := q_Gw.tag kg91 hkb1 (by decide)
  have hkb8 := q_Gw.tag kg91 hkb8 (by decide)
  have hkb15 := q_Gw.tag kg91 hkb15 (by decide)
  have hkb22 := q_Gw.tag kg91 hkb22 (by decide)
  have hkb29 := q_Gw.tag kg91 hkb29 (by decide)
  have hkb38 := q_Gw.tag kg91 hkb38 (by decide)
  have hkb45 := q_Gw.tag kg91 hkb45 (by decide)
  have hkb52 := q_Gw.tag kg91 hkb52 (by decide)
  have hkb59 := q_Gw.tag kg91 hkb59 (by decide)
  have hkb66 := q_Gw.tag kg91 hkb66 (by decide)
  have hkb73 := q_Gw.tag kg91 hkb73 (by decide)
  have hkb80 := q_Gw.tag kg91 hkb80 (by decide)
  have hW0 := hW
  refine q_putF hE hW hp0 rfl q_k12 tyX12 tyX12_ok 28 (by decide) rfl wl_142 rfl hin rfl rfl rfl (by decide) rfl dX12_init_111 (fun ks92 H locs hW kg93 hp0 => ?_)
  have hg := q_Gw.tr hg kg93 (Or.inl rfl) hp0.here.2 (fun x hx => hW0.1.inL x hx)
  have hkb1 := q_Gw.tag kg93 hkb1 (by decide)
  have hkb8 := q_Gw.tag kg93 hkb8 (by decide)
  have hkb15 := q_Gw.tag kg93 hkb15 (by decide)
  have hkb22 := q_Gw.tag kg93 hkb22 (by decide)
  have hkb29 := q_Gw.tag kg93 hkb29 (by decide)
  have hkb38 := q_Gw.tag kg93 hkb38 (by decide)
  have hkb45 := q_Gw.tag kg93 hkb45 (by decide)
  have hkb52 := q_Gw.tag kg93 hkb52 (by decide)
  have hkb59 := q_Gw.tag kg93 hkb59 (by decide)
  have hkb66 := q_Gw.tag kg93 hkb66 (by decide)
  have hkb73 := q_Gw.tag kg93 hkb73 (by decide)
  have hkb80 := q_Gw.tag kg93 hkb80 (by decide)
  have hkb87 := q_Gw.tag kg93 hkb87 (by decide)
  have hW0 := hW
  have hp0 := hp0.know (List.mem_of_getElem? (i := 0) rfl) rfl (k := 28) rfl (q_1 hkb87 (by decide)) (q_2 hkb87 (by decide))
  refine lv_aload_n hx hb dX12_init_114 rfl (lv_at hl 0 rfl) ?_
  refine lv_sipush (v := 202) hx hb dX12_init_115 (by decide) ?_
  refine q_newI (ty := .int) (atype := .int) hE hB hW 54 rfl rfl rfl rfl wl_45 (by decide) (by decide) (by decide) (by decide) (Nat.le_of_ble_eq_true rfl) (Nat.le_of_ble_eq_true rfl) dX12_init_118 (fun kb94 kL95 kT96 ks97 H hW kg98 nkb94 hy9 hkb94 => ?_)
  refine W.widen (k := 14) (n := 1425) (Nat.le_of_ble_eq_true rfl) (Nat.le_of_ble_eq_true rfl) ?_
  have fkb94 := (fun q9 => nkb94 (hg.1 _ q9))
  have ukb94 := hp0.nL nkb94
  have hg := q_Gw.tr hg kg98 (Or.inr fkb94) hy9 (fun x hx => hW0.1.inL x hx)
  have hp0 := hp0.mv kg98 ukb94
  have hkb1 := q_Gw.tag kg98 hkb1 (by decide)
  have hkb8 := q_Gw.tag kg98 hkb8 (by decide)
  have hkb15 := q_Gw.tag kg98 hkb15 (by decide)
  have hkb22 := q_Gw.tag kg98 hkb22 (by decide)
  have hkb29 := q_Gw.tag kg98 hkb29 (by decide)
  have hkb38 := q_Gw.tag kg98 hkb38 (by decide)
  have hkb45 := q_Gw.tag kg98 hkb45 (by decide)
  have hkb52 := q_Gw.tag kg98 hkb52 (by decide)
  have hkb59 := q_Gw.tag kg98 hkb59 (by decide)
  have hkb66 := q_Gw.tag kg98 hkb66 (by decide)
  have hkb73 := q_Gw.tag kg98 hkb73 (by decide)
  have hkb80 := q_Gw.tag kg98 hkb80 (by decide)
  have hkb87 := q_Gw.tag kg98 hkb87 (by decide)
  have hW0 := hW
  refine q_putF hE hW hp0 rfl q_k12 tyX12 tyX12_ok 29 (by decide) rfl wl_143 rfl hin rfl rfl rfl (by decide) rfl dX12_init_120 (fun ks99 H locs hW kg100 hp0 => ?_)
  have hg := q_Gw.tr hg kg100 (Or.inl rfl) hp0.here.2 (fun x hx => hW0.1.inL x hx)
  have hkb1 := q_Gw.tag kg100 hkb1 (by decide)
  have hkb8 := q_Gw.tag kg100 hkb8 (by decide)
  have hkb15 := q_Gw.tag kg100 hkb15 (by decide)
  have hkb22 := q_Gw.tag kg100 hkb22 (by decide)
  have hkb29 := q_Gw.tag kg100 hkb29 (by decide)
  have hkb38 := q_Gw.tag kg100 hkb38 (by decide)
  have hkb45 := q_Gw.tag kg100 hkb45 (by decide)
  have hkb52 := q_Gw.tag kg100 hkb52 (by decide)
  have hkb59 := q_Gw.tag kg100 hkb59 (by decide)
  have hkb66 := q_Gw.tag kg100 hkb66 (by decide)
  have hkb73 := q_Gw.tag kg100 hkb73 (by decide)
  have hkb80 := q_Gw.tag kg100 hkb80 (by decide)
  have hkb87 := q_Gw.tag kg100 hkb87 (by decide)
  have hkb94 := q_Gw.tag kg100 hkb94 (by decide)
  have hW0 := hW
  have hp0 := hp0.know (List.mem_of_getElem? (i := 0) rfl) rfl (k := 29) rfl (q_1 hkb94 (by decide)) (q_2 hkb94 (by decide))
  refine lv_aload_n hx hb dX12_init_123 rfl (lv_at hl 0 rfl) ?_
  refine lv_iconst (v := 2) hx hb dX12_init_124 (by decide) ?_
  refine q_newI (ty := .boolean) (atype := .boolean) hE hB hW 55 rfl rfl rfl rfl wl_50 (by decide) (by decide) (by decide) (by decide) (Nat.le_of_ble_eq_true rfl) (Nat.le_of_ble_eq_true rfl) dX12_init_125 (fun kb101 kL102 kT103 ks104 H hW kg105 nkb101 hy9 hkb101 => ?_)
  refine W.widen (k := 15) (n := 1427) (Nat.le_of_ble_eq_true rfl) (Nat.le_of_ble_eq_true rfl) ?_
  have fkb101 := (fun q9 => nkb101 (hg.1 _ q9))
  have ukb101 := hp0.nL nkb101
  have hg := q_Gw.tr hg kg105 (Or.inr fkb101) hy9 (fun x hx => hW0.1.inL x hx)
  have hp0 := hp0.mv kg105 ukb101
  have hkb1 := q_Gw.tag kg105 hkb1 (by decide)
  have hkb8 := q_Gw.tag kg105 hkb8 (by decide)
  have hkb15 := q_Gw.tag kg105 hkb15 (by decide)
  have hkb22 := q_Gw.tag kg105 hkb22 (by decide)
  have hkb29 := q_Gw.tag kg105 hkb29 (by decide)
  have hkb38 := q_Gw.tag kg105 hkb38 (by decide)
  have hkb45 := q_Gw.tag kg105 hkb45 (by decide)
  have hkb52 := q_Gw.tag kg105 hkb52 (by decide)
  have hkb59 := q_Gw.tag kg105 hkb59 (by decide)
  have hkb66 := q_Gw.tag kg105 hkb66 (by decide)
  have hkb73 := q_Gw.tag kg105 hkb73 (by decide)
  have hkb80 := q_Gw.tag kg105 hkb80 (by decide)
  have hkb87 := q_Gw.tag kg105 hkb87 (by decide)
  have hkb94 := q_Gw.tag kg105 hkb94 (by decide)
  have hW0 := hW
  refine q_putF hE hW hp0 rfl q_k12 tyX12 tyX12_ok 30 (by decide) rfl wl_144 rfl hin rfl rfl rfl (by decide) rfl dX12_init_127 (fun ks106 H locs hW kg107 hp0 => ?_)
  have hg := q_Gw.tr hg kg107 (Or.inl rfl) hp0.here.2 (fun x hx => hW0.1.inL x hx)
  have hkb1 := q_Gw.tag kg107 hkb1 (by decide)
  have hkb8 := q_Gw.tag kg107 hkb8 (by decide)
  have hkb15 := q_Gw.tag kg107 hkb15 (by decide)
  have hkb22 := q_Gw.tag kg107 hkb22 (by decide)
  have hkb29 := q_Gw.tag kg107 hkb29 (by decide)
  have hkb38 := q_Gw.tag kg107 hkb38 (by decide)
  have hkb45 := q_Gw.tag kg107 hkb45 (by decide)
  have hkb52 := q_Gw.tag kg107 hkb52 (by decide)
  have hkb59 := q_Gw.tag kg107 hkb59 (by decide)
  have hkb66 := q_Gw.tag kg107 hkb66 (by decide)
  have hkb73 := q_Gw.tag kg107 hkb73 (by decide)
  have hkb80 := q_Gw.tag kg107 hkb80 (by decide)
  have hkb87 := q_Gw.tag kg107 hkb87 (by decide)
  have hkb94 := q_Gw.tag kg107 hkb94 (by decide)
  have hkb101 := q_Gw.tag kg107 hkb101 (by decide)
  have hW0 := hW
  have hp0 := hp0.know (List.mem_of_getElem? (i := 0) rfl) rfl (k := 30) rfl (q_1 hkb101 (by decide)) (q_2 hkb101 (by decide))
  refine lv_aload_n hx hb dX12_init_130 rfl (lv_at hl 0 rfl) ?_
  refine lv_bipush (v := 6) hx hb dX12_init_131 (by decide) ?_
  refine q_newI (ty := .int) (atype := .int) hE hB hW 56 rfl rfl rfl rfl wl_45 (by decide) (by decide) (by decide) (by decide) (Nat.le_of_ble_eq_true rfl) (Nat.le_of_ble_eq_true rfl) dX12_init_133 (fun kb108 kL109 kT110 ks111 H hW kg112 nkb108 hy9 hkb108 => ?_)
  refine W.widen (k := 16) (n := 1433) (Nat.le_of_ble_eq_true rfl) (Nat.le_of_ble_eq_true rfl) ?_
  have fkb108 := (fun q9 => nkb108 (hg.1 _ q9))
  have ukb108 := hp0.nL nkb108
  have hg := q_Gw.tr hg kg112 (Or.inr fkb108) hy9 (fun x hx => hW0.1.inL x hx)
  have hp0 := hp0.mv kg112 ukb108
  have hkb1 := q_Gw.tag kg112 hkb1 (by decide)
  have hkb8 := q_Gw.tag kg112 hkb8 (by decide)
  have hkb15 := q_Gw.tag kg112 hkb15 (by decide)
  have hkb22 := q_Gw.tag kg112 hkb22 (by decide)
  have hkb29 := q_Gw.tag kg112 hkb29 (by decide)
  have hkb38 := q_Gw.tag kg112 hkb38 (by decide)
  have hkb45 := q_Gw.tag kg112 hkb45 (by decide)
  have hkb52 := q_Gw.tag kg112 hkb52 (by decide)
  have hkb59 := q_Gw.tag kg112 hkb59 (by decide)
  have hkb66 := q_Gw.tag kg112 hkb66 (by decide)
  have hkb73 := q_Gw.tag kg112 hkb73 (by decide)
  have hkb80 := q_Gw.tag kg112 hkb80 (by decide)
  have hkb87 := q_Gw.tag kg112 hkb87 (by decide)
  have hkb94 := q_Gw.tag kg112 hkb94 (by decide)
  have hkb101 := q_Gw.tag kg112 hkb101 (by decide)
  have hW0 := hW
  refine q_putF hE hW hp0 rfl q_k12 tyX12 tyX12_ok 31 (by decide) rfl wl_145 rfl hin rfl rfl rfl (by decide) rfl dX12_init_135 (fun ks113 H locs hW kg114 hp0 => ?_)
  have hg := q_Gw.tr hg kg114 (Or.inl rfl) hp0.here.2 (fun x hx => hW0.1.inL x hx)
  have hkb1 := q_Gw.tag kg114 hkb1 (by decide)
  have hkb8 := q_Gw.tag kg114 hkb8 (by decide)
  have hkb15 := q_Gw.tag kg114 hkb15 (by decide)
  have hkb22 := q_Gw.tag kg114 hkb22 (by decide)
  have hkb29 := q_Gw.tag kg114 hkb29 (by decide)
  have hkb38 := q_Gw.tag kg114 hkb38 (by decide)
  have hkb45 := q_Gw.tag kg114 hkb45 (by decide)
  have hkb52 := q_Gw.tag kg114 hkb52 (by decide)
  have hkb59 := q_Gw.tag kg114 hkb59 (by decide)
  have hkb66 := q_Gw.tag kg114 hkb66 (by decide)
  have hkb73 := q_Gw.tag kg114 hkb73 (by decide)
  have hkb80 := q_Gw.tag kg114 hkb80 (by decide)
  have hkb87 := q_Gw.tag kg114 hkb87 (by decide)
  have hkb94 := q_Gw.tag kg114 hkb94 (by decide)
  have hkb101 := q_Gw.tag kg114 hkb101 (by decide)
  have hkb108 := q_Gw.tag kg114 hkb108 (by decide)
  have hW0 := hW
  have hp0 := hp0.know (List.mem_of_getElem? (i := 0) rfl) rfl (k := 31) rfl (q_1 hkb108 (by decide)) (q_2 hkb108 (by decide))
  refine lv_aload_n hx hb dX12_init_138 rfl (lv_at hl 0 rfl) ?_
  refine lv_bipush (v := 101) hx hb dX12_init_139 (by decide) ?_
  refine q_newI (ty := .int) (atype := .int) hE hB hW 46 rfl rfl rfl rfl wl_45 (by decide) (by decide) (by decide) (by decide) (Nat.le_of_ble_eq_true rfl) (Nat.le_of_ble_eq_true rfl) dX12_init_141 (fun kb115 kL116 kT117 ks118 H hW kg119 nkb115 hy9 hkb115 => ?_)
  refine W.widen (k := 17) (n := 1534) (Nat.le_of_ble_eq_true rfl) (Nat.le_of_ble_eq_true rfl) ?_
  have fkb115 := (fun q9 => nkb115 (hg.1 _ q9))
  have ukb115 := hp0.nL nkb115
  have hg := q_Gw.tr hg kg119 (Or.inr fkb115) hy9 (fun x hx => hW0.1.inL x hx)
  have hp0 := hp0.mv kg119 ukb115
  have hkb1 := q_Gw.tag kg119 hkb1 (by decide)
  have hkb8 := q_Gw.tag kg119 hkb8 (by decide)
  have hkb15 := q_Gw.tag kg119 hkb15 (by decide)
  have hkb22 := q_Gw.tag kg119 hkb22 (by decide)
  have hkb29 := q_Gw.tag kg119 hkb29 (by decide)
  have hkb38 := q_Gw.tag kg119 hkb38 (by decide)
  have hkb45 := q_Gw.tag kg119 hkb45 (by decide)
  have hkb52 := q_Gw.tag kg119 hkb52 (by decide)
  have hkb59 := q_Gw.tag kg119 hkb59 (by decide)
  have hkb66 := q_Gw.tag kg119 hkb66 (by decide)
  have hkb73 := q_Gw.tag kg119 hkb73 (by decide)
  have hkb80 := q_Gw.tag kg119 hkb80 (by decide)
  have hkb87 := q_Gw.tag kg119 hkb87 (by decide)
  have hkb94 := q_Gw.tag kg119 hkb94 (by decide)
  have hkb101 := q_Gw.tag kg119 hkb101 (by decide)
  have hkb108 := q_Gw.tag kg119 hkb108 (by decide)
  have hW0 := hW
  refine q_putF hE hW hp0 rfl q_k12 tyX12 tyX12_ok 32 (by decide) rfl wl_146 rfl hin rfl rfl rfl (by decide) rfl dX12_init_143 (fun ks120 H locs hW kg121 hp0 => ?_)
  have hg := q_Gw.tr hg kg121 (Or.inl rfl) hp0.here.2 (fun x hx => hW0.1.inL x hx)
  have hkb1 := q_Gw.tag kg121 hkb1 (by decide)
  have hkb8 := q_Gw.tag kg121 hkb8 (by decide)
  have hkb15 := q_Gw.tag kg121 hkb15 (by decide)
  have hkb22 := q_Gw.tag kg121 hkb22 (by decide)
  have hkb29 := q_Gw.tag kg121 hkb29 (by decide)
  have hkb38 := q_Gw.tag kg121 hkb38 (by decide)
  have hkb45 := q_Gw.tag kg121 hkb45 (by decide)
  have hkb52 := q_Gw.tag kg121 hkb52 (by decide)
  have hkb59 := q_Gw.tag kg121 hkb59 (by decide)
  have hkb66 := q_Gw.tag kg121 hkb66 (by decide)
  have hkb73 := q_Gw.tag kg121 hkb73 (by decide)
  have hkb80 := q_Gw.tag kg121 hkb80 (by decide)
  have hkb87 := q_Gw.tag kg121 hkb87 (by decide)
  have hkb94 := q_Gw.tag kg121 hkb94 (by decide)
  have hkb101 := q_Gw.tag kg121 hkb101 (by decide)
  have hkb108 := q_Gw.tag kg121 hkb108 (by decide)
  have hkb115 := q_Gw.tag kg121 hkb115 (by decide)
  have hW0 := hW
  have hp0 := hp0.know (List.mem_of_getElem? (i := 0) rfl) rfl (k := 32) rfl (q_1 hkb115 (by decide)) (q_2 hkb115 (by decide))
  refine lv_aload_n hx hb dX12_init_146 rfl (lv_at hl 0 rfl) ?_
  refine lv_bipush (v := 7) hx hb dX12_init_147 (by decide) ?_
  refine q_newI (ty := .int) (atype := .int) hE hB hW 58 rfl rfl rfl rfl wl_45 (by decide) (by decide) (by decide) (by decide) (Nat.le_of_ble_eq_true rfl) (Nat.le_of_ble_eq_true rfl) dX12_init_149 (fun kb122 kL123 kT124 ks125 H hW kg126 nkb122 hy9 hkb122 => ?_)
  refine W.widen (k := 18) (n := 1541) (Nat.le_of_ble_eq_true rfl) (Nat.le_of_ble_eq_true rfl) ?_
  have fkb122 := (fun q9 => nkb122 (hg.1 _ q9))
  have ukb122 := hp0.nL nkb122
  have hg := q_Gw.tr hg kg126 (Or.inr fkb122) hy9 (fun x hx => hW0.1.inL x hx)
  have hp0 := hp0.mv kg126 ukb122
  have hkb1 := q_Gw.tag kg126 hkb1 (by decide)
  have hkb8 := q_Gw.tag kg126 hkb8 (by decide)
  have hkb15 := q_Gw.tag kg126 hkb15 (by decide)
  have hkb22 := q_Gw.tag kg126 hkb22 (by decide)
  have hkb29 := q_Gw.tag kg126 hkb29 (by decide)
  have hkb38 := q_Gw.tag kg126 hkb38 (by decide)
  have hkb45 := q_Gw.tag kg126 hkb45 (by decide)
  have hkb52 := q_Gw.tag kg126 hkb52 (by decide)
  have hkb59 := q_Gw.tag kg126 hkb59 (by decide)
  have hkb66 := q_Gw.tag kg126 hkb66 (by decide)
  have hkb73 := q_Gw.tag kg126 hkb73 (by decide)
  have hkb80 := q_Gw.tag kg126 hkb80 (by decide)
  have hkb87 := q_Gw.tag kg126 hkb87 (by decide)
  have hkb94 := q_Gw.tag kg126 hkb94 (by decide)
  have hkb101 := q_Gw.tag kg126 hkb101 (by decide)
  have hkb108 := q_Gw.tag kg126 hkb108 (by decide)
  have hkb115 := q_Gw.tag kg126 hkb115 (by decide)
  have hW0 := hW
  refine q_putF hE hW hp0 rfl q_k12 tyX12 tyX12_ok 33 (by decide) rfl wl_147 rfl hin rfl rfl rfl (by decide) rfl dX12_init_151 (fun ks127 H locs hW kg128 hp0 => ?_)
  have hg := q_Gw.tr hg kg128 (Or.inl rfl) hp0.here.2 (fun x hx => hW0.1.inL x hx)
  have hkb1 := q_Gw.tag kg128 hkb1 (by decide)
  have hkb8 := q_Gw.tag kg128 hkb8 (by decide)
  have hkb15 := q_Gw.tag kg128 hkb15 (by decide)
  have hkb22 := q_Gw.tag kg128 hkb22 (by decide)
  have hkb29 := q_Gw.tag kg128 hkb29 (by decide)
  have hkb38 := q_Gw.tag kg128 hkb38 (by decide)
  have hkb45 := q_Gw.tag kg128 hkb45 (by decide)
  have hkb52 := q_Gw.tag kg128 hkb52 (by decide)
  have hkb59 := q_Gw.tag kg128 hkb59 (by decide)
  have hkb66 := q_Gw.tag kg128 hkb66 (by decide)
  have hkb73 := q_Gw.tag kg128 hkb73 (by decide)
  have hkb80 := q_Gw.tag kg128 hkb80 (by decide)
  have hkb87 := q_Gw.tag kg128 hkb87 (by decide)
  have hkb94 := q_Gw.tag kg128 hkb94 (by decide)
  have hkb101 := q_Gw.tag kg128 hkb101 (by decide)
  have hkb108 := q_Gw.tag kg128 hkb108 (by decide)
  have hkb115 := q_Gw.tag kg128 hkb115 (by decide)
  have hkb122 := q_Gw.tag kg128 hkb122 (by decide)
  have hW0 := hW
  have hp0 := hp0.know (List.mem_of_getElem? (i := 0) rfl) rfl (k := 33) rfl (q_1 hkb122 (by decide)) (q_2 hkb122 (by decide))
  refine lv_aload_n hx hb dX12_init_154 rfl (lv_at hl 0 rfl) ?_
  refine lv_bipush (v := 18) hx hb dX12_init_155 (by decide) ?_
  refine q_newI (ty := .int) (atype := .int) hE hB hW 59 rfl rfl rfl rfl wl_45 (by decide) (by decide) (by decide) (by decide) (Nat.le_of_ble_eq_true rfl) (Nat.le_of_ble_eq_true rfl) dX12_init_157 (fun kb129 kL130 kT131 ks132 H hW kg133 nkb129 hy9 hkb129 => ?_)
  refine W.widen (k := 19) (n := 1559) (Nat.le_of_ble_eq_true rfl) (Nat.le_of_ble_eq_true rfl) ?_
  have fkb129 := (fun q9 => nkb129 (hg.1 _ q9))
  have ukb129 := hp0.nL nkb129
  have hg := q_Gw.tr hg kg133 (Or.inr fkb129) hy9 (fun x hx => hW0.1.inL x hx)
  have hp0 := hp0.mv kg133 ukb129
  have hkb1 := q_Gw.tag kg133 hkb1 (by decide)
  have hkb8 := q_Gw.tag kg133 hkb8 (by decide)
  have hkb15 := q_Gw.tag kg133 hkb15 (by decide)
  have hkb22 := q_Gw.tag kg133 hkb22 (by decide)
  have hkb29 := q_Gw.tag kg133 hkb29 (by decide)
  have hkb38 := q_Gw.tag kg133 hkb38 (by decide)
  have hkb45 := q_Gw.tag kg133 hkb45 (by decide)
  have hkb52 := q_Gw.tag kg133 hkb52 (by decide)
  have hkb59 := q_Gw.tag kg133 hkb59 (by decide)
  have hkb66 := q_Gw.tag kg133 hkb66 (by decide)
  have hkb73 := q_Gw.tag kg133 hkb73 (by decide)
  have hkb80 := q_Gw.tag kg133 hkb80 (by decide)
  have hkb87 := q_Gw.tag kg133 hkb87 (by decide)
  have hkb94 := q_Gw.tag kg133 hkb94 (by decide)
  have hkb101 := q_Gw.tag kg133 hkb101 (by decide)
  have hkb108 := q_Gw.tag kg133 hkb108 (by decide)
  have hkb115 := q_Gw.tag kg133 hkb115 (by decide)
  have hkb122 := q_Gw.tag kg133 hkb122 (by decide)
  have hW0 := hW
  refine q_putF hE hW hp0 rfl q_k12 tyX12 tyX12_ok 34 (by decide) rfl wl_148 rfl hin rfl rfl rfl (by decide) rfl dX12_init_159 (fun ks134 H locs hW kg135 hp0 => ?_)
  have hg := q_Gw.tr hg kg135 (Or.inl rfl) hp0.here.2 (fun x hx => hW0.1.inL x hx)
  have hkb1 := q_Gw.tag kg135 hkb1 (by decide)
  have hkb8 := q_Gw.tag kg135 hkb8 (by decide)
  have hkb15 := q_Gw.tag kg135 hkb15 (by decide)
  have hkb22 := q_Gw.tag kg135 hkb22 (by decide)
  have hkb29 := q_Gw.tag kg135 hkb29 (by decide)
  have hkb38 := q_Gw.tag kg135 hkb38 (by decide)
  have hkb45 := q_Gw.tag kg135 hkb45 (by decide)
  have hkb52 := q_Gw.tag kg135 hkb52 (by decide)
  have hkb59 := q_Gw.tag kg135 hkb59 (by decide)
  have hkb66 := q_Gw.tag kg135 hkb66 (by decide)
  have hkb73 := q_Gw.tag kg135 hkb73 (by decide)
  have hkb80 := q_Gw.tag kg135 hkb80 (by decide)
  have hkb87 := q_Gw.tag kg135 hkb87 (by decide)
  have hkb94 := q_Gw.tag kg135 hkb94 (by decide)
  have hkb101 := q_Gw.tag kg135 hkb101 (by decide)
  have hkb108 := q_Gw.tag kg135 hkb108 (by decide)
  have hkb115 := q_Gw.tag kg135 hkb115 (by decide)
  have hkb122 := q_Gw.tag kg135 hkb122 (by decide)
  have hkb129 := q_Gw.tag kg135 hkb129 (by decide)
  have hW0 := hW
  have hp0 := hp0.know (List.mem_of_getElem? (i := 0) rfl) rfl (k := 34) rfl (q_1 hkb129 (by decide)) (q_2 hkb129 (by decide))
  refine lv_aload_n hx hb dX12_init_162 rfl (lv_at hl 0 rfl) ?_
  refine lv_bipush (v := 6) hx hb dX12_init_163 (by decide) ?_
  refine q_newI (ty := .int) (atype := .int) hE hB hW 60 rfl rfl rfl rfl wl_45 (by decide) (by decide) (by decide) (by decide) (Nat.le_of_ble_eq_true rfl) (Nat.le_of_ble_eq_true rfl) dX12_init_165 (fun kb136 kL137 kT138 ks139 H hW kg140 nkb136 hy9 hkb136 => ?_)
  refine W.widen (k := 20) (n := 1565) (Nat.le_of_ble_eq_true rfl) (Nat.le_of_ble_eq_true rfl) ?_
  have fkb136 := (fun q9 => nkb136 (hg.1 _ q9))
  have ukb136 := hp0.nL nkb136
  have hg := q_Gw.tr hg kg140 (Or.inr fkb136) hy9 (fun x hx => hW0.1.inL x hx)
  have hp0 := hp0.mv kg140 ukb136
  have hkb1 := q_Gw.tag kg140 hkb1 (by decide)
  have hkb8 := q_Gw.tag kg140 hkb8 (by decide)
  have hkb15 := q_Gw.tag kg140 hkb15 (by decide)
  have hkb22 := q_Gw.tag kg140 hkb22 (by decide)
  have hkb29 := q_Gw.tag kg140 hkb29 (by decide)
  have hkb38 := q_Gw.tag kg140 hkb38 (by decide)
  have hkb45 := q_Gw.tag kg140 hkb45 (by decide)
  have hkb52 := q_Gw.tag kg140 hkb52 (by decide)
  have hkb59 := q_Gw.tag kg140 hkb59 (by decide)
  have hkb66 := q_Gw.tag kg140 hkb66 (by decide)
  have hkb73 := q_Gw.tag kg140 hkb73 (by decide)
  have hkb80 := q_Gw.tag kg140 hkb80 (by decide)
  have hkb87 := q_Gw.tag kg140 hkb87 (by decide)
  have hkb94 := q_Gw.tag kg140 hkb94 (by decide)
  have hkb101 := q_Gw.tag kg140 hkb101 (by decide)
  have hkb108 := q_Gw.tag kg140 hkb108 (by decide)
  have hkb115 := q_Gw.tag kg140 hkb115 (by decide)
  have hkb122 := q_Gw.tag kg140 hkb122 (by decide)
  have hkb129 := q_Gw.tag kg140 hkb129 (by decide)
  have hW0 := hW
  refine q_putF hE hW hp0 rfl q_k12 tyX12 tyX12_ok 36 (by decide) rfl wl_149 rfl hin rfl rfl rfl (by decide) rfl dX12_init_167 (fun ks141 H locs hW kg142 hp0 => ?_)
  have hg := q_Gw.tr hg kg142 (Or.inl rfl) hp0.here.2 (fun x hx => hW0.1.inL x hx)
  have hkb1 := q_Gw.tag kg142 hkb1 (by decide)
  have hkb8 := q_Gw.tag kg142 hkb8 (by decide)
  have hkb15 := q_Gw.tag kg142 hkb15 (by decide)
  have hkb22 := q_Gw.tag kg142 hkb22 (by decide)
  have hkb29 := q_Gw.tag kg142 hkb29 (by decide)
  have hkb38 := q_Gw.tag kg142 hkb38 (by decide)
  have hkb45 := q_Gw.tag kg142 hkb45 (by decide)
  have hkb52 := q_Gw.tag kg142 hkb52 (by decide)
  have hkb59 := q_Gw.tag kg142 hkb59 (by decide)
  have hkb66 := q_Gw.tag kg142 hkb66 (by decide)
  have hkb73 := q_Gw.tag kg142 hkb73 (by decide)
  have hkb80 := q_Gw.tag kg142 hkb80 (by decide)
  have hkb87 := q_Gw.tag kg142 hkb87 (by decide)
  have hkb94 := q_Gw.tag kg142 hkb94 (by decide)
  have hkb101 := q_Gw.tag kg142 hkb101 (by decide)
  have hkb108 := q_Gw.tag kg142 hkb108 (by decide)
  have hkb115 := q_Gw.tag kg142 hkb115 (by decide)
  have hkb122 := q_Gw.tag kg142 hkb122 (by decide)
  have hkb129 := q_Gw.tag kg142 hkb129 (by decide)
  have hkb136 := q_Gw.tag kg142 hkb136 (by decide)
  have hW0 := hW
  have hp0 := hp0.know (List.mem_of_getElem? (i := 0) rfl) rfl (k := 36) rfl (q_1 hkb136 (by decide)) (q_2 hkb136 (by decide))
  refine lv_aload_n hx hb dX12_init_170 rfl (lv_at hl 0 rfl) ?_
  refine lv_bipush (v := 6) hx hb dX12_init_171 (by decide) ?_
  refine q_newI (ty := .int) (atype := .int) hE hB hW 61 rfl rfl rfl rfl wl_45 (by decide) (by decide) (by decide) (by decide) (Nat.le_of_ble_eq_true rfl) (Nat.le_of_ble_eq_true rfl) dX12_init_173 (fun kb143 kL144 kT145 ks146 H hW kg147 nkb143 hy9 hkb143 => ?_)
  refine W.widen (k := 21) (n := 1571) (Nat.le_of_ble_eq_true rfl) (Nat.le_of_ble_eq_true rfl) ?_
  have fkb143 := (fun q9 => nkb143 (hg.1 _ q9))
  have ukb143 := hp0.nL nkb143
  have hg := q_Gw.tr hg kg147 (Or.inr fkb143) hy9 (fun x hx => hW0.1.inL x hx)
  have hp0 := hp0.mv kg147 ukb143
  have hkb1 := q_Gw.tag kg147 hkb1 (by decide)
  have hkb8 := q_Gw.tag kg147 hkb8 (by decide)
  have hkb15 := q_Gw.tag kg147 hkb15 (by decide)
  have hkb22 := q_Gw.tag kg147 hkb22 (by decide)
  have hkb29 := q_Gw.tag kg147 hkb29 (by decide)
  have hkb38 := q_Gw.tag kg147 hkb38 (by decide)
  have hkb45 := q_Gw.tag kg147 hkb45 (by decide)
  have hkb52 := q_Gw.tag kg147 hkb52 (by decide)
  have hkb59 := q_Gw.tag kg147 hkb59 (by decide)
  have hkb66 := q_Gw.tag kg147 hkb66 (by decide)
  have hkb73 := q_Gw.tag kg147 hkb73 (by decide)
  have hkb80 := q_Gw.tag kg147 hkb80 (by decide)
  have hkb87 := q_Gw.tag kg147 hkb87 (by decide)
  have hkb94 := q_Gw.tag kg147 hkb94 (by decide)
  have hkb101 := q_Gw.tag kg147 hkb101 (by decide)
  have hkb108 := q_Gw.tag kg147 hkb108 (by decide)
  have hkb115 := q_Gw.tag kg147 hkb115 (by decide)
  have hkb122 := q_Gw.tag kg147 hkb122 (by decide)
  have hkb129 := q_Gw.tag kg147 hkb129 (by decide)
  have hkb136 := q_Gw.tag kg147 hkb136 (by decide)
  have hW0 := hW
  refine q_putF hE hW hp0 rfl q_k12 tyX12 tyX12_ok 37 (by decide) rfl wl_150 rfl hin rfl rfl rfl (by decide) rfl dX12_init_175 (fun ks148 H locs hW kg149 hp0 => ?_)
  have hg := q_Gw.tr hg kg149 (Or.inl rfl) hp0.here.2 (fun x hx => hW0.1.inL x hx)
  have hkb1 := q_Gw.tag kg149 hkb1 (by decide)
  have hkb8 := q_Gw.tag kg149 hkb8 (by decide)
  have hkb15 := q_Gw.tag kg149 hkb15 (by decide)
  have hkb22 := q_Gw.tag kg149 hkb22 (by decide)
  have hkb29 := q_Gw.tag kg149 hkb29 (by decide)
  have hkb38 := q_Gw.tag kg149 hkb38 (by decide)
  have hkb45 := q_Gw.tag kg149 hkb45 (by decide)
  have hkb52 := q_Gw.tag kg149 hkb52 (by decide)
  have hkb59 := q_Gw.tag kg149 hkb59 (by decide)
  have hkb66 := q_Gw.tag kg149 hkb66 (by decide)
  have hkb73 := q_Gw.tag kg149 hkb73 (by decide)
  have hkb80 := q_Gw.tag kg149 hkb80 (by decide)
  have hkb87 := q_Gw.tag kg149 hkb87 (by decide)
  have hkb94 := q_Gw.tag kg149 hkb94 (by decide)
  have hkb101 := q_Gw.tag kg149 hkb101 (by decide)
  have hkb108 := q_Gw.tag kg149 hkb108 (by decide)
  have hkb115 := q_Gw.tag kg149 hkb115 (by decide)
  have hkb122 := q_Gw.tag kg149 hkb122 (by decide)
  have hkb129 := q_Gw.tag kg149 hkb129 (by decide)
  have hkb136 := q_Gw.tag kg149 hkb136 (by decide)
  have hkb143 := q_Gw.tag kg149 hkb143 (by decide)
  have hW0 := hW
  have hp0 := hp0.know (List.mem_of_getElem? (i := 0) rfl) rfl (k := 37) rfl (q_1 hkb143 (by decide)) (q_2 hkb143 (by decide))
  refine lv_aload_n hx hb dX12_init_178 rfl (lv_at hl 0 rfl) ?_
  refine lv_bipush (v := 6) hx hb dX12_init_179 (by decide) ?_
  refine q_newI (ty := .int) (atype := .int) hE hB hW 62 rfl rfl rfl rfl wl_45 (by decide) (by decide) (by decide) (by decide) (Nat.le_of_ble_eq_true rfl) (Nat.le_of_ble_eq_true rfl) dX12_init_181 (fun kb150 kL151 kT152 ks153 H hW kg154 nkb150 hy9 hkb150 => ?_)
  refine W.widen (k := 22) (n := 1577) (Nat.le_of_ble_eq_true rfl) (Nat.le_of_ble_eq_true rfl) ?_
  have fkb150 := (fun q9 => nkb150 (hg.1 _ q9))
  have ukb150 := hp0.nL nkb150
  have hg := q_Gw.tr hg kg154 (Or.inr fkb150) hy9 (fun x hx => hW0.1.inL x hx)
  have hp0 := hp0.mv kg154 ukb150
  have hkb1 := q_Gw.tag kg154 hkb1 (by decide)
  have hkb8 := q_Gw.tag kg154 hkb8 (by decide)
  have hkb15 := q_Gw.tag kg154 hkb15 (by decide)
  have hkb22 := q_Gw.tag kg154 hkb22 (by decide)
  have hkb29 := q_Gw.tag kg154 hkb29 (by decide)
  have hkb38 := q_Gw.tag kg154 hkb38 (by decide)
  have hkb45 := q_Gw.tag kg154 hkb45 (by decide)
  have hkb52 := q_Gw.tag kg154 hkb52 (by decide)
  have hkb59 := q_Gw.tag kg154 hkb59 (by decide)
  have hkb66 := q_Gw.tag kg154 hkb66 (by decide)
  have hkb73 := q_Gw.tag kg154 hkb73 (by decide)
  have hkb80 := q_Gw.tag kg154 hkb80 (by decide)
  have hkb87 := q_Gw.tag kg154 hkb87 (by decide)
  have hkb94 := q_Gw.tag kg154 hkb94 (by decide)
  have hkb101 := q_Gw.tag kg154 hkb101 (by decide)
  have hkb108 := q_Gw.tag kg154 hkb108 (by decide)
  have hkb115 := q_Gw.tag kg154 hkb115 (by decide)
  have hkb122 := q_Gw.tag kg154 hkb122 (by decide)
  have hkb129 := q_Gw.tag kg154 hkb129 (by decide)
  have hkb136 := q_Gw.tag kg154 hkb136 (by decide)
  have hkb143 := q_Gw.tag kg154 hkb143 (by decide)
  have hW0 := hW
  refine q_putF hE hW hp0 rfl q_k12 tyX12 tyX12_ok 38 (by decide) rfl wl_151 rfl hin rfl rfl rfl (by decide) rfl dX12_init_183 (fun ks155 H locs hW kg156 hp0 => ?_)
  have hg := q_Gw.tr hg kg156 (Or.inl rfl) hp0.here.2 (fun x hx => hW0.1.inL x hx)
  have hkb1 := q_Gw.tag kg156 hkb1 (by decide)
  have hkb8 := q_Gw.tag kg156 hkb8 (by decide)
  have hkb15 := q_Gw.tag kg156 hkb15 (by decide)
  have hkb22 := q_Gw.tag kg156 hkb22 (by decide)
  have hkb29 := q_Gw.tag kg156 hkb29 (by decide)
  have hkb38 := q_Gw.tag kg156 hkb38 (by decide)
  have hkb45 := q_Gw.tag kg156 hkb45 (by decide)
  have hkb52 := q_Gw.tag kg156 hkb52 (by decide)
  have hkb59 := q_Gw.tag kg156 hkb59 (by decide)
  have hkb66 := q_Gw.tag kg156 hkb66 (by decide)
  have hkb73 := q_Gw.tag kg156 hkb73 (by decide)
  have hkb80 := q_Gw.tag kg156 hkb80 (by decide)
  have hkb87 := q_Gw.tag kg156 hkb87 (by decide)
  have hkb94 := q_Gw.tag kg156 hkb94 (by decide)
  have hkb101 := q_Gw.tag kg156 hkb101 (by decide)
  have hkb108 := q_Gw.tag kg156 hkb108 (by decide)
  have hkb115 := q_Gw.tag kg156 hkb115 (by decide)
  have hkb122 := q_Gw.tag kg156 hkb122 (by decide)
  have hkb129 := q_Gw.tag kg156 hkb129 (by decide)
  have hkb136 := q_Gw.tag kg156 hkb136 (by decide)
  have hkb143 := q_Gw.tag kg156 hkb143 (by decide)
  have hkb150 := q_Gw.tag kg156 hkb150 (by decide)
  have hW0 := hW
  have hp0 := hp0.know (List.mem_of_getElem? (i := 0) rfl) rfl (k := 38) rfl (q_1 hkb150 (by decide)) (q_2 hkb150 (by decide))
  refine lv_aload_n hx hb dX12_init_186 rfl (lv_at hl 0 rfl) ?_
  refine lv_iconst (v := 3) hx hb dX12_init_187 (by decide) ?_
  refine q_newI (ty := .boolean) (atype := .boolean) hE hB hW 63 rfl rfl rfl rfl wl_50 (by decide) (by decide) (by decide) (by decide) (Nat.le_of_ble_eq_true rfl) (Nat.le_of_ble_eq_true rfl) dX12_init_188 (fun kb157 kL158 kT159 ks160 H hW kg161 nkb157 hy9 hkb157 => ?_)
  refine W.widen (k := 23) (n := 1580) (Nat.le_of_ble_eq_true rfl) (Nat.le_of_ble_eq_true rfl) ?_
  have fkb157 := (fun q9 => nkb157 (hg.1 _ q9))
  have ukb157 := hp0.nL nkb157
  have hg := q_Gw.tr hg kg161 (Or.inr fkb157) hy9 (fun x hx => hW0.1.inL x hx)
  have hp0 := hp0.mv kg161 ukb157
  have hkb1 := q_Gw.tag kg161 hkb1 (by decide)
  have hkb8 := q_Gw.tag kg161 hkb8 (by decide)
  have hkb15 := q_Gw.tag kg161 hkb15 (by decide)
  have hkb22 := q_Gw.tag kg161 hkb22 (by decide)
  have hkb29 := q_Gw.tag kg161 hkb29 (by decide)
  have hkb38 := q_Gw.tag kg161 hkb38 (by decide)
  have hkb45 := q_Gw.tag kg161 hkb45 (by decide)
  have hkb52 := q_Gw.tag kg161 hkb52 (by decide)
  have hkb59 := q_Gw.tag kg161 hkb59 (by decide)
  have hkb66 := q_Gw.tag kg161 hkb66 (by decide)
  have hkb73 := q_Gw.tag kg161 hkb73 (by decide)
  have hkb80 := q_Gw.tag kg161 hkb80 (by decide)
  have hkb87 := q_Gw.tag kg161 hkb87 (by decide)
  have hkb94 := q_Gw.tag kg161 hkb94 (by decide)
  have hkb101 := q_Gw.tag kg161 hkb101 (by decide)
  have hkb108 := q_Gw.tag kg161 hkb108 (by decide)
  have hkb115 := q_Gw.tag kg161 hkb115 (by decide)
  have hkb122 := q_Gw.tag kg161 hkb122 (by decide)
  have hkb129 := q_Gw.tag kg161 hkb129 (by decide)
  have hkb136 := q_Gw.tag kg161 hkb136 (by decide)
  have hkb143 := q_Gw.tag kg161 hkb143 (by decide)
  have hkb150 := q_Gw.tag kg161 hkb150 (by decide)
  have hW0 := hW
  refine q_putF hE hW hp0 rfl q_k12 tyX12 tyX12_ok 39 (by decide) rfl wl_152 rfl hin rfl rfl rfl (by decide) rfl dX12_init_190 (fun ks162 H locs hW kg163 hp0 => ?_)
  have hg := q_Gw.tr hg kg163 (Or.inl rfl) hp0.here.2 (fun x hx => hW0.1.inL x hx)
  have hkb1 := q_Gw.tag kg163 hkb1 (by decide)
  have hkb8 := q_Gw.tag kg163 hkb8 (by decide)
  have hkb15 := q_Gw.tag kg163 hkb15 (by decide)
  have hkb22 := q_Gw.tag kg163 hkb22 (by decide)
  have hkb29 := q_Gw.tag kg163 hkb29 (by decide)
  have hkb38 := q_Gw.tag kg163 hkb38 (by decide)
  have hkb45 := q_Gw.tag kg163 hkb45 (by decide)
  have hkb52 := q_Gw.tag kg163 hkb52 (by decide)
  have hkb59 := q_Gw.tag kg163 hkb59 (by decide)
  have hkb66 := q_Gw.tag kg163 hkb66 (by decide)
  have hkb73 := q_Gw.tag kg163 hkb73 (by decide)
  have hkb80 := q_Gw.tag kg163 hkb80 (by decide)
  have hkb87 := q_Gw.tag kg163 hkb87 (by decide)
  have hkb94 := q_Gw.tag kg163 hkb94 (by decide)
  have hkb101 := q_Gw.tag kg163 hkb101 (by decide)
  have hkb108 := q_Gw.tag kg163 hkb108 (by decide)
  have hkb115 := q_Gw.tag kg163 hkb115 (by decide)
  have hkb122 := q_Gw.tag kg163 hkb122 (by decide)
  have hkb129 := q_Gw.tag kg163 hkb129 (by decide)
  have hkb136 := q_Gw.tag kg163 hkb136 (by decide)
  have hkb143 := q_Gw.tag kg163 hkb143 (by decide)
  have hkb150 := q_Gw.tag kg163 hkb150 (by decide)
  have hkb157 := q_Gw.tag kg163 hkb157 (by decide)
  have hW0 := hW
  have hp0 := hp0.know (List.mem_of_getElem? (i := 0) rfl) rfl (k := 39) rfl (q_1 hkb157 (by decide)) (q_2 hkb157 (by decide))
  refine lv_aload_n hx hb dX12_init_193 rfl (lv_at hl 0 rfl) ?_
  refine lv_iconst (v := 3) hx hb dX12_init_194 (by decide) ?_
  refine q_newI (ty := .int) (atype := .int) hE hB hW 64 rfl rfl rfl rfl wl_45 (by decide) (by decide) (by decide) (by decide) (Nat.le_of_ble_eq_true rfl) (Nat.le_of_ble_eq_true rfl) dX12_init_195 (fun kb164 kL165 kT166 ks167 H hW kg168 nkb164 hy9 hkb164 => ?_)
  refine W.widen (k := 24) (n := 1583) (Nat.le_of_ble_eq_true rfl) (Nat.le_of_ble_eq_true rfl) ?_
  have fkb164 := (fun q9 => nkb164 (hg.1 _ q9))
  have ukb164 := hp0.nL nkb164
  have hg := q_Gw.tr hg kg168 (Or.inr fkb164) hy9 (fun x hx => hW0.1.inL x hx)
  have hp0 := hp0.mv kg168 ukb164
  have hkb1 := q_Gw.tag kg168 hkb1 (by decide)
  have hkb8 := q_Gw.tag kg168 hkb8 (by decide)
  have hkb15 := q_Gw.tag kg168 hkb15 (by decide)
  have hkb22 := q_Gw.tag kg168 hkb22 (by decide)
  have hkb29 := q_Gw.tag kg168 hkb29 (by decide)
  have hkb38 := q_Gw.tag kg168 hkb38 (by decide)
  have hkb45 := q_Gw.tag kg168 hkb45 (by decide)
  have hkb52 := q_Gw.tag kg168 hkb52 (by decide)
  have hkb59 := q_Gw.tag kg168 hkb59 (by decide)
  have hkb66 := q_Gw.tag kg168 hkb66 (by decide)
  have hkb73 := q_Gw.tag kg168 hkb73 (by decide)
  have hkb80 := q_Gw.tag kg168 hkb80 (by decide)
  have hkb87 := q_Gw.tag kg168 hkb87 (by decide)
  have hkb94 := q_Gw.tag kg168 hkb94 (by decide)
  have hkb101 := q_Gw.tag kg168 hkb101 (by decide)
  have hkb108 := q_Gw.tag kg168 hkb108 (by decide)
  have hkb115 := q_Gw.tag kg168 hkb115 (by decide)
  have hkb122 := q_Gw.tag kg168 hkb122 (by decide)
  have hkb129 := q_Gw.tag kg168 hkb129 (by decide)
  have hkb136 := q_Gw.tag kg168 hkb136 (by decide)
  have hkb143 := q_Gw.tag kg168 hkb143 (by decide)
  have hkb150 := q_Gw.tag kg168 hkb150 (by decide)
  have hkb157 := q_Gw.tag kg168 hkb157 (by decide)
  have hW0 := hW
  refine q_putF hE hW hp0 rfl q_k12 tyX12 tyX12_ok 40 (by decide) rfl wl_153 rfl hin rfl rfl rfl (by decide) rfl dX12_init_197 (fun ks169 H locs hW kg170 hp0 => ?_)
  have hg := q_Gw.tr hg kg170 (Or.inl rfl) hp0.here.2 (fun x hx => hW0.1.inL x hx)
  have hkb1 := q_Gw.tag kg170 hkb1 (by decide)
  have hkb8 := q_Gw.tag kg170 hkb8 (by decide)
  have hkb15 := q_Gw.tag kg170 hkb15 (by decide)
  have hkb22 := q_Gw.tag kg170 hkb22 (by decide)
  have hkb29 := q_Gw.tag kg170 hkb29 (by decide)
  have hkb38 := q_Gw.tag kg170 hkb38 (by decide)
  have hkb45 := q_Gw.tag kg170 hkb45 (by decide)
  have hkb52 := q_Gw.tag kg170 hkb52 (by decide)
  have hkb59 := q_Gw.tag kg170 hkb59 (by decide)
  have hkb66 := q_Gw.tag kg170 hkb66 (by decide)
  have hkb73 := q_Gw.tag kg170 hkb73 (by decide)
  have hkb80 := q_Gw.tag kg170 hkb80 (by decide)
  have hkb87 := q_Gw.tag kg170 hkb87 (by decide)
  have hkb94 := q_Gw.tag kg170 hkb94 (by decide)
  have hkb101 := q_Gw.tag kg170 hkb101 (by decide)
  have hkb108 := q_Gw.tag kg170 hkb108 (by decide)
  have hkb115 := q_Gw.tag kg170 hkb115 (by decide)
  have hkb122 := q_Gw.tag kg170 hkb122 (by decide)
  have hkb129 := q_Gw.tag kg170 hkb129 (by decide)
  have hkb136 := q_Gw.tag kg170 hkb136 (by decide)
  have hkb143 := q_Gw.tag kg170 hkb143 (by decide)
  have hkb150 := q_Gw.tag kg170 hkb150 (by decide)
  have hkb157 := q_Gw.tag kg170 hkb157 (by decide)
  have hkb164 := q_Gw.tag kg170 hkb164 (by decide)
  have hW0 := hW
  have hp0 := hp0.know (List.mem_of_getElem? (i := 0) rfl) rfl (k := 40) rfl (q_1 hkb164 (by decide)) (q_2 hkb164 (by decide))
  refine lv_aload_n hx hb dX12_init_200 rfl (lv_at hl 0 rfl) ?_
  refine lv_iconst (v := 3) hx hb dX12_init_201 (by decide) ?_
  refine q_newI (ty := .int) (atype := .int) hE hB hW 65 rfl rfl rfl rfl wl_45 (by decide) (by decide) (by decide) (by decide) (Nat.le_of_ble_eq_true rfl) (Nat.le_of_ble_eq_true rfl) dX12_init_202 (fun kb171 kL172 kT173 ks174 H hW kg175 nkb171 hy9 hkb171 => ?_)
  refine W.widen (k := 25) (n := 1586) (Nat.le_of_ble_eq_true rfl) (Nat.le_of_ble_eq_true rfl) ?_
  have fkb171 := (fun q9 => nkb171 (hg.1 _ q9))
  have ukb171 := hp0.nL nkb171
  have hg := q_Gw.tr hg kg175 (Or.inr fkb171) hy9 (fun x hx => hW0.1.inL x hx)
  have hp0 := hp0.mv kg175 ukb171
  have hkb1 := q_Gw.tag kg175 hkb1 (by decide)
  have hkb8 := q_Gw.tag kg175 hkb8 (by decide)
  have hkb15 := q_Gw.tag kg175 hkb15 (by decide)
  have hkb22 := q_Gw.tag kg175 hkb22 (by decide)
  have hkb29 := q_Gw.tag kg175 hkb29 (by decide)
  have hkb38 := q_Gw.tag kg175 hkb38 (by decide)
  have hkb45 := q_Gw.tag kg175 hkb45 (by decide)
  have hkb52 := q_Gw.tag kg175 hkb52 (by decide)
  have hkb59 := q_Gw.tag kg175 hkb59 (by decide)
  have hkb66 := q_Gw.tag kg175 hkb66 (by decide)
  have hkb73 := q_Gw.tag kg175 hkb73 (by decide)
  have hkb80 := q_Gw.tag kg175 hkb80 (by decide)
  have hkb87 := q_Gw.tag kg175 hkb87 (by decide)
  have hkb94 := q_Gw.tag kg175 hkb94 (by decide)
  have hkb101 := q_Gw.tag kg175 hkb101 (by decide)
  have hkb108 := q_Gw.tag kg175 hkb108 (by decide)
  have hkb115 := q_Gw.tag kg175 hkb115 (by decide)
  have hkb122 := q_Gw.tag kg175 hkb122 (by decide)
  have hkb129 := q_Gw.tag kg175 hkb129 (by decide)
  have hkb136 := q_Gw.tag kg175 hkb136 (by decide)
  have hkb143 := q_Gw.tag kg175 hkb143 (by decide)
  have hkb150 := q_Gw.tag kg175 hkb150 (by decide)
  have hkb157 := q_Gw.tag kg175 hkb157 (by decide)
  have hkb164 := q_Gw.tag kg175 hkb164 (by decide)
  have hW0 := hW
  refine q_putF hE hW hp0 rfl q_k12 tyX12 tyX12_ok 41 (by decide) rfl wl_154 rfl hin rfl rfl rfl (by decide) rfl dX12_init_204 (fun ks176 H locs hW kg177 hp0 => ?_)
  have hg := q_Gw.tr hg kg177 (Or.inl rfl) hp0.here.2 (fun x hx => hW0.1.inL x hx)
  have hkb1 := q_Gw.tag kg177 hkb1 (by decide)
  have hkb8 := q_Gw.tag kg177 hkb8 (by decide)
  have hkb15 := q_Gw.tag kg177 hkb15 (by decide)
  have hkb22 := q_Gw.tag kg177 hkb22 (by decide)
  have hkb29 := q_Gw.tag kg177 hkb29 (by decide)
  have hkb38 := q_Gw.tag kg177 hkb38 (by decide)
  have hkb45 := q_Gw.tag kg177 hkb45 (by decide)
  have hkb52 := q_Gw.tag kg177 hkb52 (by decide)
  have hkb59 := q_Gw.tag kg177 hkb59 (by decide)
  have hkb66 := q_Gw.tag kg177 hkb66 (by decide)
  have hkb73 := q_Gw.tag kg177 hkb73 (by decide)
  have hkb80 := q_Gw.tag kg177 hkb80 (by decide)
  have hkb87 := q_Gw.tag kg177 hkb87 (by decide)
  have hkb94 := q_Gw.tag kg177 hkb94 (by decide)
  have hkb101 := q_Gw.tag kg177 hkb101 (by decide)
  have hkb108 := q_Gw.tag kg177 hkb108 (by decide)
  have hkb115 := q_Gw.tag kg177 hkb115 (by decide)
  have hkb122 := q_Gw.tag kg177 hkb122 (by decide)
  have hkb129 := q_Gw.tag kg177 hkb129 (by decide)
  have hkb136 := q_Gw.tag kg177 hkb136 (by decide)
  have hkb143 := q_Gw.tag kg177 hkb143 (by decide)
  have hkb150 := q_Gw.tag kg177 hkb150 (by decide)
  have hkb157 := q_Gw.tag kg177 hkb157 (by decide)
  have hkb164 := q_Gw.tag kg177 hkb164 (by decide)
  have hkb171 := q_Gw.tag kg177 hkb171 (by decide)
  have hW0 := hW
  have hp0 := hp0.know (List.mem_of_getElem? (i := 0) rfl) rfl (k := 41) rfl (q_1 hkb171 (by decide)) (q_2 hkb171 (by decide))
  refine lv_aload_n hx hb dX12_init_207 rfl (lv_at hl 0 rfl) ?_
  refine lv_bipush (v := 48) hx hb dX12_init_208 (by decide) ?_
  refine q_newI (ty := .int) (atype := .int) hE hB hW 66 rfl rfl rfl rfl wl_45 (by decide) (by decide) (by decide) (by decide) (Nat.le_of_ble_eq_true rfl) (Nat.le_of_ble_eq_true rfl) dX12_init_210 (fun kb178 kL179 kT180 ks181 H hW kg182 nkb178 hy9 hkb178 => ?_)
  refine W.widen (k := 26) (n := 1634) (Nat.le_of_ble_eq_true rfl) (Nat.le_of_ble_eq_true rfl) ?_
  have fkb178 := (fun q9 => nkb178 (hg.1 _ q9))
  have ukb178 := hp0.nL nkb178
  have hg := q_Gw.tr hg kg182 (Or.inr fkb178) hy9 (fun x hx => hW0.1.inL x hx)
  have hp0 := hp0.mv kg182 ukb178
  have hkb1 := q_Gw.tag kg182 hkb1 (by decide)
  have hkb8 := q_Gw.tag kg182 hkb8 (by decide)
  have hkb15 := q_Gw.tag kg182 hkb15 (by decide)
  have hkb22 := q_Gw.tag kg182 hkb22 (by decide)
  have hkb29 := q_Gw.tag kg182 hkb29 (by decide)
  have hkb38 := q_Gw.tag kg182 hkb38 (by decide)
  have hkb45 := q_Gw.tag kg182 hkb45 (by decide)
  have hkb52 := q_Gw.tag kg182 hkb52 (by decide)
  have hkb59 := q_Gw.tag kg182 hkb59 (by decide)
  have hkb66 := q_Gw.tag kg182 hkb66 (by decide)
  have hkb73 := q_Gw.tag kg182 hkb73 (by decide)
  have hkb80 := q_Gw.tag kg182 hkb80 (by decide)
  have hkb87 := q_Gw.tag kg182 hkb87 (by decide)
  have hkb94 := q_Gw.tag kg182 hkb94 (by decide)
  have hkb101 := q_Gw.tag kg182 hkb101 (by decide)
  have hkb108 := q_Gw.tag kg182 hkb108 (by decide)
  have hkb115 := q_Gw.tag kg182 hkb115 (by decide)
  have hkb122 := q_Gw.tag kg182 hkb122 (by decide)
  have hkb129 := q_Gw.tag kg182 hkb129 (by decide)
  have hkb136 := q_Gw.tag kg182 hkb136 (by decide)
  have hkb143 := q_Gw.tag kg182 hkb143 (by decide)
  have hkb150 := q_Gw.tag kg182 hkb150 (by decide)
  have hkb157 := q_Gw.tag kg182 hkb157 (by decide)
  have hkb164 := q_Gw.tag kg182 hkb164 (by decide)
  have hkb171 := q_Gw.tag kg182 hkb171 (by decide)
  have hW0 := hW
  refine q_putF hE hW hp0 rfl q_k12 tyX12 tyX12_ok 42 (by decide) rfl wl_155 rfl hin rfl rfl rfl (by decide) rfl dX12_init_212 (fun ks183 H locs hW kg184 hp0 => ?_)
  have hg := q_Gw.tr hg kg184 (Or.inl rfl) hp0.here.2 (fun x hx => hW0.1.inL x hx)
  have hkb1 := q_Gw.tag kg184 hkb1 (by decide)
  have hkb8 := q_Gw.tag kg184 hkb8 (by decide)
  have hkb15 := q_Gw.tag kg184 hkb15 (by decide)
  have hkb22 := q_Gw.tag kg184 hkb22 (by decide)
  have hkb29 := q_Gw.tag kg184 hkb29 (by decide)
  have hkb38 := q_Gw.tag kg184 hkb38 (by decide)
  have hkb45 := q_Gw.tag kg184 hkb45 (by decide)
  have hkb52 := q_Gw.tag kg184 hkb52 (by decide)
  have hkb59 := q_Gw.tag kg184 hkb59 (by decide)
  have hkb66 := q_Gw.tag kg184 hkb66 (by decide)
  have hkb73 := q_Gw.tag kg184 hkb73 (by decide)
  have hkb80 := q_Gw.tag kg184 hkb80 (by decide)
  have hkb87 := q_Gw.tag kg184 hkb87 (by decide)
  have hkb94 := q_Gw.tag kg184 hkb94 (by decide)
  have hkb101 := q_Gw.tag kg184 hkb101 (by decide)
  have hkb108 := q_Gw.tag kg184 hkb108 (by decide)
  have hkb115 := q_Gw.tag kg184 hkb115 (by decide)
  have hkb122 := q_Gw.tag kg184 hkb122 (by decide)
  have hkb129 := q_Gw.tag kg184 hkb129 (by decide)
  have hkb136 := q_Gw.tag kg184 hkb136 (by decide)
  have hkb143 := q_Gw.tag kg184 hkb143 (by decide)
  have hkb150 := q_Gw.tag kg184 hkb150 (by decide)
  have hkb157 := q_Gw.tag kg184 hkb157 (by decide)
  have hkb164 := q_Gw.tag kg184 hkb164 (by decide)
  have hkb171 := q_Gw.tag kg184 hkb171 (by decide)
  have hkb178 := q_Gw.tag kg184 hkb178 (by decide)
  have hW0 := hW
  have hp0 := hp0.know (List.mem_of_getElem? (i := 0) rfl) rfl (k := 42) rfl (q_1 hkb178 (by decide)) (q_2 hkb178 (by decide))
  refine lv_aload_n hx hb dX12_init_215 rfl (lv_at hl 0 rfl) ?_
  refine lv_bipush (v := 16) hx hb dX12_init_216 (by decide) ?_
  refine q_newI (ty := .int) (atype := .int) hE hB hW 67 rfl rfl rfl rfl wl_45 (by decide) (by decide) (by decide) (by decide) (Nat.le_of_ble_eq_true rfl) (Nat.le_of_ble_eq_true rfl) dX12_init_218 (fun kb185 kL186 kT187 ks188 H hW kg189 nkb185 hy9 hkb185 => ?_)
  refine W.widen (k := 27) (n := 1650) (Nat.le_of_ble_eq_true rfl) (Nat.le_of_ble_eq_true rfl) ?_
  have fkb185 := (fun q9 => nkb185 (hg.1 _ q9))
  have ukb185 := hp0.nL nkb185
  have hg := q_Gw.tr hg kg189 (Or.inr fkb185) hy9 (fun x hx => hW0.1.inL x hx)
  have hp0 := hp0.mv kg189 ukb185
  have hkb1 := q_Gw.tag kg189 hkb1 (by decide)
  have hkb8 := q_Gw.tag kg189 hkb8 (by decide)
  have hkb15 := q_Gw.tag kg189 hkb15 (by decide)
  have hkb22 := q_Gw.tag kg189 hkb22 (by decide)
  have hkb29 := q_Gw.tag kg189 hkb29 (by decide)
  have hkb38 := q_Gw.tag kg189 hkb38 (by decide)
  have hkb45 := q_Gw.tag kg189 hkb45 (by decide)
  have hkb52 := q_Gw.tag kg189 hkb52 (by decide)
  have hkb59 := q_Gw.tag kg189 hkb59 (by decide)
  have hkb66 := q_Gw.tag kg189 hkb66 (by decide)
  have hkb73 := q_Gw.tag kg189 hkb73 (by decide)
  have hkb80 := q_Gw.tag kg189 hkb80 (by decide)
  have hkb87 := q_Gw.tag kg189 hkb87 (by decide)
  have hkb94 := q_Gw.tag kg189 hkb94 (by decide)
  have hkb101 := q_Gw.tag kg189 hkb101 (by decide)
  have hkb108 := q_Gw.tag kg189 hkb108 (by decide)
  have hkb115 := q_Gw.tag kg189 hkb115 (by decide)
  have hkb122 := q_Gw.tag kg189 hkb122 (by decide)
  have hkb129 := q_Gw.tag kg189 hkb129 (by decide)
  have hkb136 := q_Gw.tag kg189 hkb136 (by decide)
  have hkb143 := q_Gw.tag kg189 hkb143 (by decide)
  have hkb150 := q_Gw.tag kg189 hkb150 (by decide)
  have hkb157 := q_Gw.tag kg189 hkb157 (by decide)
  have hkb164 := q_Gw.tag kg189 hkb164 (by decide)
  have hkb171 := q_Gw.tag kg189 hkb171 (by decide)
  have hkb178 := q_Gw.tag kg189 hkb178 (by decide)
  have hW0 := hW
  refine q_putF hE hW hp0 rfl q_k12 tyX12 tyX12_ok 43 (by decide) rfl wl_156 rfl hin rfl rfl rfl (by decide) rfl dX12_init_220 (fun ks190 H locs hW kg191 hp0 => ?_)
  have hg := q_Gw.tr hg kg191 (Or.inl rfl) hp0.here.2 (fun x hx => hW0.1.inL x hx)
  have hkb1 := q_Gw.tag kg191 hkb1 (by decide)
  have hkb8 := q_Gw.tag kg191 hkb8 (by decide)
  have hkb15 := q_Gw.tag kg191 hkb15 (by decide)
  have hkb22 := q_Gw.tag kg191 hkb22 (by decide)
  have hkb29 := q_Gw.tag kg191 hkb29 (by decide)
  have hkb38 := q_Gw.tag kg191 hkb38 (by decide)
  have hkb45 := q_Gw.tag kg191 hkb45 (by decide)
  have hkb52 := q_Gw.tag kg191 hkb52 (by decide)
  have hkb59 := q_Gw.tag kg191 hkb59 (by decide)
  have hkb66 := q_Gw.tag kg191 hkb66 (by decide)
  have hkb73 := q_Gw.tag kg191 hkb73 (by decide)
  have hkb80 := q_Gw.tag kg191 hkb80 (by decide)
  have hkb87 := q_Gw.tag kg191 hkb87 (by decide)
  have hkb94 := q_Gw.tag kg191 hkb94 (by decide)
  have hkb101 := q_Gw.tag kg191 hkb101 (by decide)
  have hkb108 := q_Gw.tag kg191 hkb108 (by decide)
  have hkb115 := q_Gw.tag kg191 hkb115 (by decide)
  have hkb122 := q_Gw.tag kg191 hkb122 (by decide)
  have hkb129 := q_Gw.tag kg191 hkb129 (by decide)
  have hkb136 := q_Gw.tag kg191 hkb136 (by decide)
  have hkb143 := q_Gw.tag kg191 hkb143 (by decide)
  have hkb150 := q_Gw.tag kg191 hkb150 (by decide)
  have hkb157 := q_Gw.tag kg191 hkb157 (by decide)
  have hkb164 := q_Gw.tag kg191 hkb164 (by decide)
  have hkb171 := q_Gw.tag kg191 hkb171 (by decide)
  have hkb178 := q_Gw.tag kg191 hkb178 (by decide)
  have hkb185 := q_Gw.tag kg191 hkb185 (by decide)
  have hW0 := hW
  have hp0 := hp0.know (List.mem_of_getElem? (i := 0) rfl) rfl (k := 43) rfl (q_1 hkb185 (by decide)) (q_2 hkb185 (by decide))
  refine lv_iconst (v := 0) hx hb dX12_init_223 (by decide) ?_
  refine lv_istore_n (lv' := [(1, .int 0), (0, .ref a0)]) hx hb dX12_init_224 rfl hl (by decide) rfl (fun ls hl => ?_)
  refine lv_iload_n hx hb dX12_init_225 rfl (lv_at hl 0 rfl) ?_
  refine lv_iconst (v := 3) hx hb dX12_init_226 (by decide) ?_
  refine lv_icmp_ge (tgt := 246) hx hb dX12_init_227 (by decide) (fun q_h => absurd q_h (by decide)) (fun _ => ?_)
  refine lv_aload_n hx hb dX12_init_230 rfl (lv_at hl 1 rfl) ?_
  refine q_getX hE hW hp0 rfl q_k12 9 (by decide) (List.mem_of_getElem? (i := 21) rfl) wl_135 dX12_init_231 ?_
  refine lv_bipush (v := 54) hx hb dX12_init_234 (by decide) ?_
  refine lv_iload_n hx hb dX12_init_236 rfl (lv_at hl 0 rfl) ?_
  refine lv_iadd hx hb dX12_init_237 ?_
  refine lv_eqi (y := 54) (by decide) ?_
  refine lv_iconst (v := (-1)) hx hb dX12_init_238 (by decide) ?_
  refine q_iaC hE hW hg hp0 hkb38 fkb38 (Classical.byContradiction fun q_h => fkb38 (hW00.1.inL _ q_h)) (by decide) (by decide) (q_in (q_c (k := 54) (x := 54) (by decide)) (by decide) (by decide)) (fun _ _ => ⟨by decide, by decide⟩) dX12_init_239 (fun ks192 H locs hW hg hp0 => ?_)
  have hW0 := hW
  refine lv_iinc (v := 1) (lv' := [(1, .int 1), (0, .ref a0)]) hx hb dX12_init_240 hl (k := 0) rfl (by decide) (by decide) rfl (fun ls hl => ?_)
  refine lv_goto (tgt := 225) hx hb dX12_init_243 (by decide) ?_
  refine lv_iload_n hx hb dX12_init_225 rfl (lv_at hl 0 rfl) ?_
  refine lv_iconst (v := 3) hx hb dX12_init_226 (by decide) ?_
  refine lv_icmp_ge (tgt := 246) hx hb dX12_init_227 (by decide) (fun q_h => absurd q_h (by decide)) (fun _ => ?_)
  refine lv_aload_n hx hb dX12_init_230 rfl (lv_at hl 1 rfl) ?_
  refine q_getX hE hW hp0 rfl q_k12 9 (by decide) (List.mem_of_getElem? (i := 21) rfl) wl_135 dX12_init_231 ?_
  refine lv_bipush (v := 54) hx hb dX12_init_234 (by decide) ?_
  refine lv_iload_n hx hb dX12_init_236 rfl (lv_at hl 0 rfl) ?_
  refine lv_iadd hx hb dX12_init_237 ?_
  refine lv_eqi (y := 55) (by decide) ?_
  refine lv_iconst (v := (-1)) hx hb dX12_init_238 (by decide) ?_
  refine q_iaC hE hW hg hp0 hkb38 fkb38 (Classical.byContradiction fun q_h => fkb38 (hW00.1.inL _ q_h)) (by decide) (by decide) (q_in (q_c (k := 55) (x := 55) (by decide)) (by decide) (by decide)) (fun _ _ => ⟨by decide, by decide⟩) dX12_init_239 (fun ks193 H locs hW hg hp0 => ?_)
  have hW0 := hW
  refine lv_iinc (v := 2) (lv' := [(1, .int 2), (0, .ref a0)]) hx hb dX12_init_240 hl (k := 0) rfl (by decide) (by decide) rfl (fun ls hl => ?_)
  refine lv_goto (tgt := 225) hx hb dX12_init_243 (by decide) ?_
  refine lv_iload_n hx hb dX12_init_225 rfl (lv_at hl 0 rfl) ?_
  refine lv_iconst (v := 3) hx hb dX12_init_226 (by decide) ?_
  refine lv_icmp_ge (tgt := 246) hx hb dX12_init_227 (by decide) (fun q_h => absurd q_h (by decide)) (fun _ => ?_)
  refine lv_aload_n hx hb dX12_init_230 rfl (lv_at hl 1 rfl) ?_
  refine q_getX hE hW hp0 rfl q_k12 9 (by decide) (List.mem_of_getElem? (i := 21) rfl) wl_135 dX12_init_231 ?_
  refine lv_bipush (v := 54) hx hb dX12_init_234 (by decide) ?_
  refine lv_iload_n hx hb dX12_init_236 rfl (lv_at hl 0 rfl) ?_
  refine lv_iadd hx hb dX12_init_237 ?_
  refine lv_eqi (y := 56) (by decide) ?_
  refine lv_iconst (v := (-1)) hx hb dX12_init_238 (by decide) ?_
  refine q_iaC hE hW hg hp0 hkb38 fkb38 (Classical.byContradiction fun q_h => fkb38 (hW00.1.inL _ q_h)) (by decide) (by decide) (q_in (q_c (k := 56) (x := 56) (by decide)) (by decide) (by decide)) (fun _ _ => ⟨by decide, by decide⟩) dX12_init_239 (fun ks194 H locs hW hg hp0 => ?_)
  have hW0 := hW
  refine lv_iinc (v := 3) (lv' := [(1, .int 3), (0, .ref a0)]) hx hb dX12_init_240 hl (k := 0) rfl (by decide) (by decide) rfl (fun ls hl => ?_)
  refine lv_goto (tgt := 225) hx hb dX12_init_243 (by decide) ?_
  refine lv_iload_n hx hb dX12_init_225 rfl (lv_at hl 0 rfl) ?_
  refine lv_iconst (v := 3) hx hb dX12_init_226 (by decide) ?_
  refine lv_icmp_ge (tgt := 246) hx hb dX12_init_227 (by decide) (fun _ => ?_) (fun q_h => absurd (by decide) q_h)
  obtain ⟨hW, hz8, hz9⟩ := hp0.tell hW rfl rfl (by decide)
  exact q_retC hE hr hlocks hW (q_Gw.tr hg hz8 (Or.inl rfl) hp0.here.2 (fun x hx => hW0.1.inL x hx)) hz9 dX12_init_246
