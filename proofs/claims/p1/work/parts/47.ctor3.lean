set_option maxHeartbeats 8000000 in
set_option maxRecDepth 100000 in
theorem c_X11_init (l : Launch) (G : q_G) (L : List Nat) (T : Nat → Nat) (σ : q_S) (a0 : Nat) (hp0 : q_Po L T σ a0 26 [] []) : Met l yX11_init (Cond.code yX11_init cX11_init 3 none :: wsL_law) (q_Rc 9 378 2843) (q_PreC G L T σ [.ref a0]) (q_QcC G L T σ a0 26) 378 2843 (q_N G) := by
  refine q_ofC (by decide) (Nat.le_of_ble_eq_true rfl) ?_
  intro p e s m args below meth c hE hin hB hA hr hlocks hW ls hl
  have hE : q_E G p s m args c cX11_init 3 RX11 := hE
  have hx := hE.1.1
  have hb := hE.1.2.1
  have hW0 := hW
  have hW00 := hW
  have hg := q_Gw.rf (L := L) (T := T) (σ := σ) a0
  have hl : lv_has ls 3 [(0, .ref a0)] := hl
  refine lv_aload_n hx hb dX11_init_0 rfl (lv_at hl 0 rfl) ?_
  refine W.objInit hx hb hE.1.2.2.2.1 (hE.w wl_9) (hE.w wl_10) (hE.w wl_11) rfl (hl.1.trans hE.1.2.2.1.symm) rfl dX11_init_1 (Nat.le_of_ble_eq_true rfl) (Nat.le_of_ble_eq_true rfl) ?_
  refine W.eq (g2 := F0 m 4 ls []) rfl ?_
  refine q_new (t := 1) hE hB hW rfl q_k10 tyX10 tyX10_ok wl_12 wl_13 wl_14 (by decide +kernel) rfl (Nat.le_of_ble_eq_true rfl) (Nat.le_of_ble_eq_true rfl) dX11_init_4 (fun kb1 kL2 ks3 H hW kg4 nkb1 hkb1 => ?_)
  refine W.widen (k := 1) (n := 0) (Nat.le_of_ble_eq_true rfl) (Nat.le_of_ble_eq_true rfl) ?_
  have fkb1 := (fun q9 => nkb1 (hg.1 _ q9))
  have ukb1 := hp0.nL nkb1
  have hg := q_Gw.tr hg kg4 (Or.inr fkb1) hkb1.here.2 (fun x hx => hW0.1.inL x hx)
  have hp0 := hp0.mv kg4 ukb1
  have hW0 := hW
  refine lv_dup hx hb dX11_init_7 rfl ?_
  refine q_govC hW (q_runN (G := q_Gx G kL2 T) (As := []) (rest := [.ref kb1]) (show q_E (q_Gx G kL2 T) p s m args c cX11_init 3 RX11 from hE) (show q_Wd (q_Gx G kL2 T) [] ks3 s.heap ks3 _ _ from ⟨hW.1, q_Fr.rf, hW.2⟩) (c_X10_init l (q_Gx G kL2 T) ks3 kb1) wl_61 wl_14 wl_60 (hE.2.2.1.2.1 _ (List.mem_of_getElem? (i := 0) rfl)) rfl ⟨by decide, by decide, by decide +kernel⟩ rfl hl.1 rfl (Nat.le_of_ble_eq_true rfl) dX11_init_8 ⟨by decide, by decide⟩ ⟨by decide, by decide⟩) (by decide) (fun ks5 H locs hst hW => ?_)
  have hst0 := hst a0
  have hst1 := hst (a0 + 1)
  have hp0 := hp0.mv hst1 (Nat.ne_of_lt (Nat.lt_succ_self _))
  have hkb1 := hkb1.mv (hst (kb1 + 1)) (Nat.ne_of_lt (Nat.lt_succ_self _))
  have hg := q_Gw.tr hg hst0 (Or.inl rfl) hp0.here.2 (fun x hx => hW0.1.inL x hx)
  have hW0 := hW
  obtain ⟨hW, kg6, hz9⟩ := hkb1.tell hW rfl rfl (by decide)
  have hy9 := hkb1.here.2
  have hg := q_Gw.tr hg kg6 (Or.inr fkb1) hy9 (fun x hx => hW0.1.inL x hx)
  have hp0 := hp0.mv kg6 ukb1
  have hW0 := hW
  have hkb1 := hz9
  refine lv_astore_n (lv' := [(1, .ref kb1), (0, .ref a0)]) hx hb dX11_init_11 rfl hl (by decide) rfl (fun ls hl => ?_)
  refine lv_aload_n hx hb dX11_init_12 rfl (lv_at hl 1 rfl) ?_
  refine lv_iconst (v := 4) hx hb dX11_init_13 (by decide) ?_
  refine q_newR hE hB hW 27 rfl rfl wl_15 (by decide +kernel) (by decide) (by decide) (by decide) (Nat.le_of_ble_eq_true rfl) (Nat.le_of_ble_eq_true rfl) dX11_init_14 (fun kb7 kL8 ks9 H hW kg10 nkb7 hkb7 => ?_)
  refine W.widen (k := 2) (n := 4) (Nat.le_of_ble_eq_true rfl) (Nat.le_of_ble_eq_true rfl) ?_
  have fkb7 := (fun q9 => nkb7 (hg.1 _ q9))
  have ukb7 := hp0.nL nkb7
  have hg := q_Gw.tr hg kg10 (Or.inr fkb7) hkb7.here.2 (fun x hx => hW0.1.inL x hx)
  have hp0 := hp0.mv kg10 ukb7
  have hkb1 := q_Gw.tag kg10 hkb1 (by decide)
  have hW0 := hW
  refine lv_dup hx hb dX11_init_17 rfl ?_
  refine lv_iconst (v := 0) hx hb dX11_init_18 (by decide) ?_
  refine lv_aload_n hx hb dX11_init_19 rfl (lv_at hl 0 rfl) ?_
  refine q_aaP (E := RX4) hE hW 0 hkb7 rfl rfl hkb1 (by decide) rfl q_k10 (Or.inr (by decide +kernel)) (by decide) (by decide) (by decide) (q_in (q_c (k := 0) (x := 0) (by decide)) (by decide) (by decide)) dX11_init_20 (fun ks11 H locs hW kg12 hkb7 => ?_)
  have hg := q_Gw.tr hg kg12 (Or.inr fkb7) hkb7.here.2 (fun x hx => hW0.1.inL x hx)
  have hp0 := hp0.mv kg12 ukb7
  have hkb1 := q_Gw.tag kg12 hkb1 (by decide)
  have hW0 := hW
  refine lv_dup hx hb dX11_init_21 rfl ?_
  refine lv_iconst (v := 1) hx hb dX11_init_22 (by decide) ?_
  refine q_new (t := 2) hE hB hW rfl q_k9 tyX9 tyX9_ok wl_16 wl_17 wl_18 (by decide +kernel) rfl (Nat.le_of_ble_eq_true rfl) (Nat.le_of_ble_eq_true rfl) dX11_init_23 (fun kb13 kL14 ks15 H hW kg16 nkb13 hkb13 => ?_)
  refine W.widen (k := 3) (n := 4) (Nat.le_of_ble_eq_true rfl) (Nat.le_of_ble_eq_true rfl) ?_
  have fkb13 := (fun q9 => nkb13 (hg.1 _ q9))
  have ukb13 := hp0.nL nkb13
  have ukb7_kb13 := hkb7.nL nkb13
  have hg := q_Gw.tr hg kg16 (Or.inr fkb13) hkb13.here.2 (fun x hx => hW0.1.inL x hx)
  have hp0 := hp0.mv kg16 ukb13
  have hkb7 := hkb7.mv kg16 ukb7_kb13
  have hkb1 := q_Gw.tag kg16 hkb1 (by decide)
  have hW0 := hW
  refine lv_dup hx hb dX11_init_26 rfl ?_
  refine q_govC hW (q_runN (G := q_Gx G kL14 (va_up T kb1 1)) (As := []) (rest := [.ref kb13, .int 1, .ref kb7, .ref kb7, .ref a0]) (show q_E (q_Gx G kL14 (va_up T kb1 1)) p s m args c cX11_init 3 RX11 from hE) (show q_Wd (q_Gx G kL14 (va_up T kb1 1)) [] ks15 s.heap ks15 _ _ from ⟨hW.1, q_Fr.rf, hW.2⟩) (c_X9_init l (q_Gx G kL14 (va_up T kb1 1)) ks15 kb13) wl_67 wl_18 wl_66 (hE.2.2.1.2.1 _ (List.mem_of_getElem? (i := 2) rfl)) rfl ⟨by decide, by decide, by decide +kernel⟩ rfl hl.1 rfl (Nat.le_of_ble_eq_true rfl) dX11_init_27 ⟨by decide, by decide⟩ ⟨by decide, by decide⟩) (by decide) (fun ks17 H locs hst hW => ?_)
  have hst0 := hst a0
  have hst1 := hst (a0 + 1)
  have hp0 := hp0.mv hst1 (Nat.ne_of_lt (Nat.lt_succ_self _))
  have hkb7 := hkb7.mv (hst (kb7 + 1)) (Nat.ne_of_lt (Nat.lt_succ_self _))
  have hkb13 := hkb13.mv (hst (kb13 + 1)) (Nat.ne_of_lt (Nat.lt_succ_self _))
  have hg := q_Gw.tr hg hst0 (Or.inl rfl) hp0.here.2 (fun x hx => hW0.1.inL x hx)
  have hkb1 := q_Gw.tag hst0 hkb1 (by decide)
  have hW0 := hW
  obtain ⟨hW, kg18, hz9⟩ := hkb13.tell hW rfl rfl (by decide)
  have hy9 := hkb13.here.2
  have hg := q_Gw.tr hg kg18 (Or.inr fkb13) hy9 (fun x hx => hW0.1.inL x hx)
  have hp0 := hp0.mv kg18 ukb13
  have hkb7 := hkb7.mv kg18 ukb7_kb13
  have hkb1 := q_Gw.tag kg18 hkb1 (by decide)
  have hW0 := hW
  have hkb13 := hz9
  refine q_aaP (E := RX4) hE hW 1 hkb7 rfl rfl hkb13 (by decide) rfl q_k9 (Or.inr (by decide +kernel)) (by decide) (by decide) (by decide) (q_in (q_c (k := 1) (x := 1) (by decide)) (by decide) (by decide)) dX11_init_30 (fun ks19 H locs hW kg20 hkb7 => ?_)
  have hg := q_Gw.tr hg kg20 (Or.inr fkb7) hkb7.here.2 (fun x hx => hW0.1.inL x hx)
  have hp0 := hp0.mv kg20 ukb7
  have hkb1 := q_Gw.tag kg20 hkb1 (by decide)
  have hkb13 := q_Gw.tag kg20 hkb13 (by decide)
  have hW0 := hW
  refine lv_dup hx hb dX11_init_31 rfl ?_
  refine lv_iconst (v := 2) hx hb dX11_init_32 (by decide) ?_
  refine q_new (t := 3) hE hB hW rfl q_k3 tyX3 tyX3_ok wl_19 wl_20 wl_21 (by decide +kernel) rfl (Nat.le_of_ble_eq_true rfl) (Nat.le_of_ble_eq_true rfl) dX11_init_33 (fun kb21 kL22 ks23 H hW kg24 nkb21 hkb21 => ?_)
  refine W.widen (k := 4) (n := 4) (Nat.le_of_ble_eq_true rfl) (Nat.le_of_ble_eq_true rfl) ?_
  have fkb21 := (fun q9 => nkb21 (hg.1 _ q9))
  have ukb21 := hp0.nL nkb21
  have ukb7_kb21 := hkb7.nL nkb21
  have hg := q_Gw.tr hg kg24 (Or.inr fkb21) hkb21.here.2 (fun x hx => hW0.1.inL x hx)
  have hp0 := hp0.mv kg24 ukb21
  have hkb7 := hkb7.mv kg24 ukb7_kb21
  have hkb1 := q_Gw.tag kg24 hkb1 (by decide)
  have hW0 := hW
  refine lv_dup hx hb dX11_init_36 rfl ?_
  refine q_govC hW (q_runN (G := q_Gx G kL22 (va_up (va_up T kb1 1) kb13 2)) (As := []) (rest := [.ref kb21, .int 2, .ref kb7, .ref kb7, .ref a0]) (show q_E (q_Gx G kL22 (va_up (va_up T kb1 1) kb13 2)) p s m args c cX11_init 3 RX11 from hE) (show q_Wd (q_Gx G kL22 (va_up (va_up T kb1 1) kb13 2)) [] ks23 s.heap ks23 _ _ from ⟨hW.1, q_Fr.rf, hW.2⟩) (c_X3_init l (q_Gx G kL22 (va_up (va_up T kb1 1) kb13 2)) ks23 kb21) wl_69 wl_21 wl_68 (hE.2.2.1.2.1 _ (List.mem_of_getElem? (i := 4) rfl)) rfl ⟨by decide, by decide, by decide +kernel⟩ rfl hl.1 rfl (Nat.le_of_ble_eq_true rfl) dX11_init_37 ⟨by decide, by decide⟩ ⟨by decide, by decide⟩) (by decide) (fun ks25 H locs hst hW => ?_)
  have hst0 := hst a0
  have hst1 := hst (a0 + 1)
  have hp0 := hp0.mv hst1 (Nat.ne_of_lt (Nat.lt_succ_self _))
  have hkb7 := hkb7.mv (hst (kb7 + 1)) (Nat.ne_of_lt (Nat.lt_succ_self _))
  have hkb21 := hkb21.mv (hst (kb21 + 1)) (Nat.ne_of_lt (Nat.lt_succ_self _))
  have hg := q_Gw.tr hg hst0 (Or.inl rfl) hp0.here.2 (fun x hx => hW0.1.inL x hx)
  have hkb1 := q_Gw.tag hst0 hkb1 (by decide)
  have hW0 := hW
  obtain ⟨hW, kg26, hz9⟩ := hkb21.tell hW rfl rfl (by decide)
  have hy9 := hkb21.here.2
  have hg := q_Gw.tr hg kg26 (Or.inr fkb21) hy9 (fun x hx => hW0.1.inL x hx)
  have hp0 := hp0.mv kg26 ukb21
  have hkb7 := hkb7.mv kg26 ukb7_kb21
  have hkb1 := q_Gw.tag kg26 hkb1 (by decide)
  have hW0 := hW
  have hkb21 := hz9
  refine q_aaP (E := RX4) hE hW 2 hkb7 rfl rfl hkb21 (by decide) rfl q_k3 (Or.inr (by decide +kernel)) (by decide) (by decide) (by decide) (q_in (q_c (k := 2) (x := 2) (by decide)) (by decide) (by decide)) dX11_init_40 (fun ks27 H locs hW kg28 hkb7 => ?_)
  have hg := q_Gw.tr hg kg28 (Or.inr fkb7) hkb7.here.2 (fun x hx => hW0.1.inL x hx)
  have hp0 := hp0.mv kg28 ukb7
  have hkb1 := q_Gw.tag kg28 hkb1 (by decide)
  have hkb21 := q_Gw.tag kg28 hkb21 (by decide)
  have hW0 := hW
  refine lv_dup hx hb dX11_init_41 rfl ?_
  refine lv_iconst (v := 3) hx hb dX11_init_42 (by decide) ?_
  refine q_new (t := 4) hE hB hW rfl q_k0 tyX0 tyX0_ok wl_22 wl_23 wl_24 (by decide +kernel) rfl (Nat.le_of_ble_eq_true rfl) (Nat.le_of_ble_eq_true rfl) dX11_init_43 (fun kb29 kL30 ks31 H hW kg32 nkb29 hkb29 => ?_)
  refine W.widen (k := 5) (n := 4) (Nat.le_of_ble_eq_true rfl) (Nat.le_of_ble_eq_true rfl) ?_
  have fkb29 := (fun q9 => nkb29 (hg.1 _ q9))
  have ukb29 := hp0.nL nkb29
  have ukb7_kb29 := hkb7.nL nkb29
  have hg := q_Gw.tr hg kg32 (Or.inr fkb29) hkb29.here.2 (fun x hx => hW0.1.inL x hx)
  have hp0 := hp0.mv kg32 ukb29
  have hkb7 := hkb7.mv kg32 ukb7_kb29
  have hkb1 := q_Gw.tag kg32 hkb1 (by decide)
  have hW0 := hW
  refine lv_dup hx hb dX11_init_46 rfl ?_
  refine q_govC hW (q_runN (G := q_Gx G kL30 (va_up (va_up (va_up T kb1 1) kb13 2) kb21 3)) (As := []) (rest := [.ref kb29, .int 3, .ref kb7, .ref kb7, .ref a0]) (show q_E (q_Gx G kL30 (va_up (va_up (va_up T kb1 1) kb13 2) kb21 3)) p s m args c cX11_init 3 RX11 from hE) (show q_Wd (q_Gx G kL30 (va_up (va_up (va_up T kb1 1) kb13 2) kb21 3)) [] ks31 s.heap ks31 _ _ from ⟨hW.1, q_Fr.rf, hW.2⟩) (c_X0_init l (q_Gx G kL30 (va_up (va_up (va_up T kb1 1) kb13 2) kb21 3)) ks31 kb29) wl_71 wl_24 wl_70 (hE.2.2.1.2.1 _ (List.mem_of_getElem? (i := 6) rfl)) rfl ⟨by decide, by decide, by decide +kernel⟩ rfl hl.1 rfl (Nat.le_of_ble_eq_true rfl) dX11_init_47 ⟨by decide, by decide⟩ ⟨by decide, by decide⟩) (by decide) (fun ks33 H locs hst hW => ?_)
  have hst0 := hst a0
  have hst1 := hst (a0 + 1)
  have hp0 := hp0.mv hst1 (Nat.ne_of_lt (Nat.lt_succ_self _))
  have hkb7 := hkb7.mv (hst (kb7 + 1)) (Nat.ne_of_lt (Nat.lt_succ_self _))
  have hkb29 := hkb29.mv (hst (kb29 + 1)) (Nat.ne_of_lt (Nat.lt_succ_self _))
  have hg := q_Gw.tr hg hst0 (Or.inl rfl) hp0.here.2 (fun x hx => hW0.1.inL x hx)
  have hkb1 := q_Gw.tag hst0 hkb1 (by decide)
  have hW0 := hW
  obtain ⟨hW, kg34, hz9⟩ := hkb29.tell hW rfl rfl (by decide)
  have hy9 := hkb29.here.2
  have hg := q_Gw.tr hg kg34 (Or.inr fkb29) hy9 (fun x hx => hW0.1.inL x hx)
  have hp0 := hp0.mv kg34 ukb29
  have hkb7 := hkb7.mv kg34 ukb7_kb29
  have hkb1 := q_Gw.tag kg34 hkb1 (by decide)
  have hW0 := hW
  have hkb29 := hz9
  refine q_aaP (E := RX4) hE hW 3 hkb7 rfl rfl hkb29 (by decide) rfl q_k0 (Or.inr (by decide +kernel)) (by decide) (by decide) (by decide) (q_in (q_c (k := 3) (x := 3) (by decide)) (by decide) (by decide)) dX11_init_50 (fun ks35 H locs hW kg36 hkb7 => ?_)
  have hg := q_Gw.tr hg kg36 (Or.inr fkb7) hkb7.here.2 (fun x hx => hW0.1.inL x hx)
  have hp0 := hp0.mv kg36 ukb7
  have hkb1 := q_Gw.tag kg36 hkb1 (by decide)
  have hkb29 := q_Gw.tag kg36 hkb29 (by decide)
  have hW0 := hW
  obtain ⟨hW, kg37, hz9⟩ := hkb7.tell hW rfl rfl
  have hy9 := hkb7.here.2
  have hg := q_Gw.tr hg kg37 (Or.inr fkb7) hy9 (fun x hx => hW0.1.inL x hx)
  have hp0 := hp0.mv kg37 ukb7
  have hkb1 := q_Gw.tag kg37 hkb1 (by decide)
  have hkb29 := q_Gw.tag kg37 hkb29 (by decide)
  have hW0 := hW
  have hkb7 := hz9
  refine q_putF hE hW hp0 rfl q_k11 tyX11 tyX11_ok 0 (by decide) rfl wl_25 rfl hin rfl rfl rfl (by decide) rfl dX11_init_51 (fun ks38 H locs hW kg39 hp0 => ?_)
  have hg := q_Gw.tr hg kg39 (Or.inl rfl) hp0.here.2 (fun x hx => hW0.1.inL x hx)
  have hkb1 := q_Gw.tag kg39 hkb1 (by decide)
  have hkb7 := q_Gw.tag kg39 hkb7 (by decide)
  have hW0 := hW
  have hp0 := hp0.know (List.mem_of_getElem? (i := 0) rfl) rfl (k := 0) rfl (q_1 hkb7 (by decide)) (q_2 hkb7 (by decide))
  refine lv_aload_n hx hb dX11_init_54 rfl (lv_at hl 1 rfl) ?_
  refine q_new (t := 13) hE hB hW rfl q_k8 tyX8 tyX8_ok wl_26 wl_27 wl_28 (by decide +kernel) rfl (Nat.le_of_ble_eq_true rfl) (Nat.le_of_ble_eq_true rfl) dX11_init_55 (fun kb40 kL41 ks42 H hW kg43 nkb40 hkb40 => ?_)
  refine W.widen (k := 6) (n := 6) (Nat.le_of_ble_eq_true rfl) (Nat.le_of_ble_eq_true rfl) ?_
  have fkb40 := (fun q9 => nkb40 (hg.1 _ q9))
  have ukb40 := hp0.nL nkb40
  have hg := q_Gw.tr hg kg43 (Or.inr fkb40) hkb40.here.2 (fun x hx => hW0.1.inL x hx)
  have hp0 := hp0.mv kg43 ukb40
  have hkb1 := q_Gw.tag kg43 hkb1 (by decide)
  have hkb7 := q_Gw.tag kg43 hkb7 (by decide)
  have hW0 := hW
  refine lv_dup hx hb dX11_init_58 rfl ?_
  refine q_initC (n := 0) (As := []) (rest := [.ref kb40, .ref a0]) hE hB hA hW (c_X8_init l G kL41 (va_up (va_up (va_up (va_up (va_up T kb1 1) kb13 2) kb21 3) kb29 4) kb7 27) ks42 kb40 hkb40) wl_74 wl_28 wl_72 wl_73 rfl ⟨by decide, by decide, by decide +kernel⟩ rfl hl.1 rfl (Nat.le_of_ble_eq_true rfl) dX11_init_59 ⟨by decide, by decide⟩ ⟨Nat.le_of_ble_eq_true rfl, Nat.le_of_ble_eq_true rfl⟩ (fun kL44 kT45 ks46 H locs hW kg47 hz9 => ?_)
  refine W.widen (k := 7) (n := 206) (Nat.le_of_ble_eq_true rfl) (Nat.le_of_ble_eq_true rfl) ?_
  have hy9 := hkb40.here.2
  have hg := q_Gw.tr hg kg47 (Or.inr fkb40) hy9 (fun x hx => hW0.1.inL x hx)
  have hp0 := hp0.mv kg47 ukb40
  have hkb1 := q_Gw.tag kg47 hkb1 (by decide)
  have hkb7 := q_Gw.tag kg47 hkb7 (by decide)
  have hW0 := hW
  have hkb40 := hz9
  refine q_putF hE hW hp0 rfl q_k11 tyX11 tyX11_ok 1 (by decide) rfl wl_29 rfl hin rfl rfl rfl (by decide) rfl dX11_init_62 (fun ks48 H locs hW kg49 hp0 => ?_)
  have hg := q_Gw.tr hg kg49 (Or.inl rfl) hp0.here.2 (fun x hx => hW0.1.inL x hx)
  have hkb1 := q_Gw.tag kg49 hkb1 (by decide)
  have hkb7 := q_Gw.tag kg49 hkb7 (by decide)
  have hkb40 := q_Gw.tag kg49 hkb40 (by decide)
  have hW0 := hW
  have hp0 := hp0.know (List.mem_of_getElem? (i := 0) rfl) rfl (k := 1) rfl (q_1 hkb40 (by decide)) (q_2 hkb40 (by decide))
  refine lv_aload_n hx hb dX11_init_65 rfl (lv_at hl 1 rfl) ?_
  refine q_new (t := 7) hE hB hW rfl q_k2 tyX2 tyX2_ok wl_30 wl_31 wl_32 (by decide +kernel) rfl (Nat.le_of_ble_eq_true rfl) (Nat.le_of_ble_eq_true rfl) dX11_init_66 (fun kb50 kL51 ks52 H hW kg53 nkb50 hkb50 => ?_)
  refine W.widen (k := 8) (n := 215) (Nat.le_of_ble_eq_true rfl) (Nat.le_of_ble_eq_true rfl) ?_
  have fkb50 := (fun q9 => nkb50 (hg.1 _ q9))
  have ukb50 := hp0.nL nkb50
  have hg := q_Gw.tr hg kg53 (Or.inr fkb50) hkb50.here.2 (fun x hx => hW0.1.inL x hx)
  have hp0 := hp0.mv kg53 ukb50
  have hkb1 := q_Gw.tag kg53 hkb1 (by decide)
  have hkb7 := q_Gw.tag kg53 hkb7 (by decide)
  have hkb40 := q_Gw.tag kg53 hkb40 (by decide)
  have hW0 := hW
  refine lv_dup hx hb dX11_init_69 rfl ?_
  refine lv_aload_n hx hb dX11_init_70 rfl (lv_at hl 0 rfl) ?_
  refine q_initC (n := 1) (As := [.ref kb1]) (rest := [.ref kb50, .ref a0]) hE hB hA hW (c_X2_init l G kL51 kT45 ks52 kb50 hkb50 kb1 hkb1) wl_80 wl_32 wl_78 wl_79 rfl ⟨by decide, by decide, by decide +kernel⟩ rfl hl.1 rfl (Nat.le_of_ble_eq_true rfl) dX11_init_71 ⟨by decide, by decide⟩ ⟨Nat.le_of_ble_eq_true rfl, Nat.le_of_ble_eq_true rfl⟩ (fun kL54 kT55 ks56 H locs hW kg57 hz9 => ?_)
  refine W.widen (k := 31) (n := 348) (Nat.le_of_ble_eq_true rfl) (Nat.le_of_ble_eq_true rfl) ?_
  have hy9 := hkb50.here.2
  have hg := q_Gw.tr hg kg57 (Or.inr fkb50) hy9 (fun x hx => hW0.1.inL x hx)
  have hp0 := hp0.mv kg57 ukb50
  have hkb1 := q_Gw.tag kg57 hkb1 (by decide)
  have hkb7 := q_Gw.tag kg57 hkb7 (by decide)
  have hkb40 := q_Gw.tag kg57 hkb40 (by decide)
  have hW0 := hW
  have hkb50 := hz9
  refine q_putF hE hW hp0 rfl q_k11 tyX11 tyX11_ok 3 (by decide) rfl wl_33 rfl hin rfl rfl rfl (by decide) rfl dX11_init_74 (fun ks58 H locs hW kg59 hp0 => ?_)
  have hg := q_Gw.tr hg kg59 (Or.inl rfl) hp0.here.2 (fun x hx => hW0.1.inL x hx)
  have hkb1 := q_Gw.tag kg59 hkb1 (by decide)
  have hkb7 := q_Gw.tag kg59 hkb7 (by decide)
  have hkb40 := q_Gw.tag kg59 hkb40 (by decide)
  have hkb50 := q_Gw.tag kg59 hkb50 (by decide)
  have hW0 := hW
  have hp0 := hp0.know (List.mem_of_getElem? (i := 0) rfl) rfl (k := 3) rfl (q_1 hkb50 (by decide)) (q_2 hkb50 (by decide))
  refine lv_aload_n hx hb dX11_init_77 rfl (lv_at hl 1 rfl) ?_
  refine q_new (t := 7) hE hB hW rfl q_k2 tyX2 tyX2_ok wl_30 wl_31 wl_32 (by decide +kernel) rfl (Nat.le_of_ble_eq_true rfl) (Nat.le_of_ble_eq_true rfl) dX11_init_78 (fun kb60 kL61 ks62 H hW kg63 nkb60 hkb60 => ?_)
  refine W.widen (k := 32) (n := 357) (Nat.le_of_ble_eq_true rfl) (Nat.le_of_ble_eq_true rfl) ?_
  have fkb60 := (fun q9 => nkb60 (hg.1 _ q9))
  have ukb60 := hp0.nL nkb60
  have hg := q_Gw.tr hg kg63 (Or.inr fkb60) hkb60.here.2 (fun x hx => hW0.1.inL x hx)
  have hp0 := hp0.mv kg63 ukb60
  have hkb1 := q_Gw.tag kg63 hkb1 (by decide)
  have hkb7 := q_Gw.tag kg63 hkb7 (by decide)
  have hkb40 := q_Gw.tag kg63 hkb40 (by decide)
  have hkb50 := q_Gw.tag kg63 hkb50 (by decide)
  have hW0 := hW
  refine lv_dup hx hb dX11_init_81 rfl ?_
  refine lv_aload_n hx hb dX11_init_82 rfl (lv_at hl 0 rfl) ?_
  refine q_initC (n := 1) (As := [.ref kb1]) (rest := [.ref kb60, .ref a0]) hE hB hA hW (c_X2_init l G kL61 kT55 ks62 kb60 hkb60 kb1 hkb1) wl_80 wl_32 wl_78 wl_79 rfl ⟨by decide, by decide, by decide +kernel⟩ rfl hl.1 rfl (Nat.le_of_ble_eq_true rfl) dX11_init_83 ⟨by decide, by decide⟩ ⟨Nat.le_of_ble_eq_true rfl, Nat.le_of_ble_eq_true rfl⟩ (fun kL64 kT65 ks66 H locs hW kg67 hz9 => ?_)
  refine W.widen (k := 55) (n := 490) (Nat.le_of_ble_eq_true rfl) (Nat.le_of_ble_eq_true rfl) ?_
  have hy9 := hkb60.here.2
  have hg := q_Gw.tr hg kg67 (Or.inr fkb60) hy9 (fun x hx => hW0.1.inL x hx)
  have hp0 := hp0.mv kg67 ukb60
  have hkb1 := q_Gw.tag kg67 hkb1 (by decide)
  have hkb7 := q_Gw.tag kg67 hkb7 (by decide)
  have hkb40 := q_Gw.tag kg67 hkb40 (by decide)
  have hkb50 := q_Gw.tag kg67 hkb50 (by decide)
  have hW0 := hW
  have hkb60 := hz9
  refine q_putF hE hW hp0 rfl q_k11 tyX11 tyX11_ok 4 (by decide) rfl wl_34 rfl hin rfl rfl rfl (by decide) rfl dX11_init_86 (fun ks68 H locs hW kg69 hp0 => ?_)
  have hg := q_Gw.tr hg kg69 (Or.inl rfl) hp0.here.2 (fun x hx => hW0.1.inL x hx)
  have hkb1 := q_Gw.tag kg69 hkb1 (by decide)
  have hkb7 := q_Gw.tag kg69 hkb7 (by decide)
  have hkb40 := q_Gw.tag kg69 hkb40 (by decide)
  have hkb50 := q_Gw.tag kg69 hkb50 (by decide)
  have hkb60 := q_Gw.tag kg69 hkb60 (by decide)
  have hW0 := hW
  have hp0 := hp0.know (List.mem_of_getElem? (i := 0) rfl) rfl (k := 4) rfl (q_1 hkb60 (by decide)) (q_2 hkb60 (by decide))
  refine lv_aload_n hx hb dX11_init_89 rfl (lv_at hl 1 rfl) ?_
  refine q_new (t := 7) hE hB hW rfl q_k2 tyX2 tyX2_ok wl_30 wl_31 wl_32 (by decide +kernel) rfl (Nat.le_of_ble_eq_true rfl) (Nat.le_of_ble_eq_true rfl) dX11_init_90 (fun kb70 kL71 ks72 H hW kg73 nkb70 hkb70 => ?_)
  refine W.widen (k := 56) (n := 499) (Nat.le_of_ble_eq_true rfl) (Nat.le_of_ble_eq_true rfl) ?_
  have fkb70 := (fun q9 => nkb70 (hg.1 _ q9))
  have ukb70 := hp0.nL nkb70
  have hg := q_Gw.tr hg kg73 (Or.inr fkb70) hkb70.here.2 (fun x hx => hW0.1.inL x hx)
  have hp0 := hp0.mv kg73 ukb70
  have hkb1 := q_Gw.tag kg73 hkb1 (by decide)
  have hkb7 := q_Gw.tag kg73 hkb7 (by decide)
  have hkb40 := q_Gw.tag kg73 hkb40 (by decide)
  have hkb50 := q_Gw.tag kg73 hkb50 (by decide)
  have hkb60 := q_Gw.tag kg73 hkb60 (by decide)
  have hW0 := hW
  refine lv_dup hx hb dX11_init_93 rfl ?_
  refine lv_aload_n hx hb dX11_init_94 rfl (lv_at hl 0 rfl) ?_
  refine q_initC (n := 1) (As := [.ref kb1]) (rest := [.ref kb70, .ref a0]) hE hB hA hW (c_X2_init l G kL71 kT65 ks72 kb70 hkb70 kb1 hkb1) wl_80 wl_32 wl_78 wl_79 rfl ⟨by decide, by decide, by decide +kernel⟩ rfl hl.1 rfl (Nat.le_of_ble_eq_true rfl) dX11_init_95 ⟨by decide, by decide⟩ ⟨Nat.le_of_ble_eq_true rfl, Nat.le_of_ble_eq_true rfl⟩ (fun kL74 kT75 ks76 H locs hW kg77 hz9 => ?_)
  refine W.widen (k := 79) (n := 632) (Nat.le_of_ble_eq_true rfl) (Nat.le_of_ble_eq_true rfl) ?_
  have hy9 := hkb70.here.2
  have hg := q_Gw.tr hg kg77 (Or.inr fkb70) hy9 (fun x hx => hW0.1.inL x hx)
  have hp0 := hp0.mv kg77 ukb70
  have hkb1 := q_Gw.tag kg77 hkb1 (by decide)
  have hkb7 := q_Gw.tag kg77 hkb7 (by decide)
  have hkb40 := q_Gw.tag kg77 hkb40 (by decide)
  have hkb50 := q_Gw.tag kg77 hkb50 (by decide)
  have hkb60 := q_Gw.tag kg77 hkb60 (by decide)
  have hW0 := hW
  have hkb70 := hz9
  refine q_putF hE hW hp0 rfl q_k11 tyX11 tyX11_ok 5 (by decide) rfl wl_35 rfl hin rfl rfl rfl (by decide) rfl dX11_init_98 (fun ks78 H locs hW kg79 hp0 => ?_)
  have hg := q_Gw.tr hg kg79 (Or.inl rfl) hp0.here.2 (fun x hx => hW0.1.inL x hx)
  have hkb1 := q_Gw.tag kg79 hkb1 (by decide)
  have hkb7 := q_Gw.tag kg79 hkb7 (by decide)
  have hkb40 := q_Gw.tag kg79 hkb40 (by decide)
  have hkb50 := q_Gw.tag kg79 hkb50 (by decide)
  have hkb60 := q_Gw.tag kg79 hkb60 (by decide)
  have hkb70 := q_Gw.tag kg79 hkb70 (by decide)
  have hW0 := hW
  have hp0 := hp0.know (List.mem_of_getElem? (i := 0) rfl) rfl (k := 5) rfl (q_1 hkb70 (by decide)) (q_2 hkb70 (by decide))
  refine lv_aload_n hx hb dX11_init_101 rfl (lv_at hl 1 rfl) ?_
  refine q_new (t := 7) hE hB hW rfl q_k2 tyX2 tyX2_ok wl_30 wl_31 wl_32 (by decide +kernel) rfl (Nat.le_of_ble_eq_true rfl) (Nat.le_of_ble_eq_true rfl) dX11_init_102 (fun kb80 kL81 ks82 H hW kg83 nkb80 hkb80 => ?_)
  refine W.widen (k := 80) (n := 641) (Nat.le_of_ble_eq_true rfl) (Nat.le_of_ble_eq_true rfl) ?_
  have fkb80 := (fun q9 => nkb80 (hg.1 _ q9))
  have ukb80 := hp0.nL nkb80
  have hg := q_Gw.tr hg kg83 (Or.inr fkb80) hkb80.here.2 (fun x hx => hW0.1.inL x hx)
  have hp0 := hp0.mv kg83 ukb80
  have hkb1 := q_Gw.tag kg83 hkb1 (by decide)
  have hkb7 := q_Gw.tag kg83 hkb7 (by decide)
  have hkb40 := q_Gw.tag kg83 hkb40 (by decide)
  have hkb50 := q_Gw.tag kg83 hkb50 (by decide)
  have hkb60 := q_Gw.tag kg83 hkb60 (by decide)
  have hkb70 := q_Gw.tag kg83 hkb70 (by decide)
  have hW0 := hW
  refine lv_dup hx hb dX11_init_105 rfl ?_
  refine lv_aload_n hx hb dX11_init_106 rfl (lv_at hl 0 rfl) ?_
  refine q_initC (n := 1) (As := [.ref kb1]) (rest := [.ref kb80, .ref a0]) hE hB hA hW (c_X2_init l G kL81 kT75 ks82 kb80 hkb80 kb1 hkb1) wl_80 wl_32 wl_78 wl_79 rfl ⟨by decide, by decide, by decide +kernel⟩ rfl hl.1 rfl (Nat.le_of_ble_eq_true rfl) dX11_init_107 ⟨by decide, by decide⟩ ⟨Nat.le_of_ble_eq_true rfl, Nat.le_of_ble_eq_true rfl⟩ (fun kL84 kT85 ks86 H locs hW kg87 hz9 => ?_)
  refine W.widen (k := 103) (n := 774) (Nat.le_of_ble_eq_true rfl) (Nat.le_of_ble_eq_true rfl) ?_
  have hy9 := hkb80.here.2
  have hg := q_Gw.tr hg kg87 (Or.inr fkb80) hy9 (fun x hx => hW0.1.inL x hx)
  have hp0 := hp0.mv kg87 ukb80
  have hkb1 := q_Gw.tag kg87 hkb1 (by decide)
  have hkb7 := q_Gw.tag kg87 hkb7 (by decide)
  have hkb40 := q_Gw.tag kg87 hkb40 (by decide)
  have hkb50 := q_Gw.tag kg87 hkb50 (by decide)
  have hkb60 := q_Gw.tag kg87 hkb60 (by decide)
  have hkb70 := q_Gw.tag kg87 hkb70 (by decide)
  have hW0 := hW
  have hkb80 := hz9
  refine q_putF hE hW hp0 rfl q_k11 tyX11 tyX11_ok 6 (by decide) rfl wl_36 rfl hin rfl rfl rfl (by decide) rfl dX11_init_110 (fun ks88 H locs hW kg89 hp0 => ?_)
  have hg := q_Gw.tr hg kg89 (Or.inl rfl) hp0.here.2 (fun x hx => hW0.1.inL x hx)
  have hkb1 := q_Gw.tag kg89 hkb1 (by decide)
  have hkb7 := q_Gw.tag kg89 hkb7 (by decide)
  have hkb40 := q_Gw.tag kg89 hkb40 (by decide)
  have hkb50 := q_Gw.tag kg89 hkb50 (by decide)
  have hkb60 := q_Gw.tag kg89 hkb60 (by decide)
  have hkb70 := q_Gw.tag kg89 hkb70 (by decide)
  have hkb80 := q_Gw.tag kg89 hkb80 (by decide)
  have hW0 := hW
  have hp0 := hp0.know (List.mem_of_getElem? (i := 0) rfl) rfl (k := 6) rfl (q_1 hkb80 (by decide)) (q_2 hkb80 (by decide))
  refine lv_aload_n hx hb dX11_init_113 rfl (lv_at hl 1 rfl) ?_
  refine q_new (t := 15) hE hB hW rfl q_k7 tyX7 tyX7_ok wl_37 wl_38 wl_39 (by decide +kernel) rfl (Nat.le_of_ble_eq_true rfl) (Nat.le_of_ble_eq_true rfl) dX11_init_114 (fun kb90 kL91 ks92 H hW kg93 nkb90 hkb90 => ?_)
  refine W.widen (k := 104) (n := 780) (Nat.le_of_ble_eq_true rfl) (Nat.le_of_ble_eq_true rfl) ?_
  have fkb90 := (fun q9 => nkb90 (hg.1 _ q9))
  have ukb90 := hp0.nL nkb90
  have hg := q_Gw.tr hg kg93 (Or.inr fkb90) hkb90.here.2 (fun x hx => hW0.1.inL x hx)
  have hp0 := hp0.mv kg93 ukb90
  have hkb1 := q_Gw.tag kg93 hkb1 (by decide)
  have hkb7 := q_Gw.tag kg93 hkb7 (by decide)
  have hkb40 := q_Gw.tag kg93 hkb40 (by decide)
  have hkb50 := q_Gw.tag kg93 hkb50 (by decide)
  have hkb60 := q_Gw.tag kg93 hkb60 (by decide)
  have hkb70 := q_Gw.tag kg93 hkb70 (by decide)
  have hkb80 := q_Gw.tag kg93 hkb80 (by decide)
  have hW0 := hW
  refine lv_dup hx hb dX11_init_117 rfl ?_
  refine lv_aload_n hx hb dX11_init_118 rfl (lv_at hl 1 rfl) ?_
  refine q_getX hE hW hp0 rfl q_k11 1 (by decide) (List.mem_of_getElem? (i := 4) rfl) wl_29 dX11_init_119 ?_
  refine lv_aload_n hx hb dX11_init_122 rfl (lv_at hl 1 rfl) ?_
  refine q_getX hE hW hp0 rfl q_k11 4 (by decide) (List.mem_of_getElem? (i := 2) rfl) wl_34 dX11_init_123 ?_
  refine lv_aload_n hx hb dX11_init_126 rfl (lv_at hl 1 rfl) ?_
  refine q_getX hE hW hp0 rfl q_k11 0 (by decide) (List.mem_of_getElem? (i := 5) rfl) wl_25 dX11_init_127 ?_
  refine q_initC (n := 3) (As := [.ref kb40, .ref kb60, .ref kb7]) (rest := [.ref kb90, .ref a0]) hE hB hA hW (c_X7_init l G kL91 kT85 ks92 kb90 hkb90 kb40 hkb40 kb60 hkb60 kb7 hkb7) wl_103 wl_39 wl_101 wl_102 rfl ⟨by decide, by decide, by decide +kernel⟩ rfl hl.1 rfl (Nat.le_of_ble_eq_true rfl) dX11_init_130 ⟨by decide, by decide⟩ ⟨Nat.le_of_ble_eq_true rfl, Nat.le_of_ble_eq_true rfl⟩ (fun kL94 kT95 ks96 H locs hW kg97 hz9 => ?_)
  refine W.widen (k := 104) (n := 780) (Nat.le_of_ble_eq_true rfl) (Nat.le_of_ble_eq_true rfl) ?_
  have hy9 := hkb90.here.2
  have hg := q_Gw.tr hg kg97 (Or.inr fkb90) hy9 (fun x hx => hW0.1.inL x hx)
  have hp0 := hp0.mv kg97 ukb90
  have hkb1 := q_Gw.tag kg97 hkb1 (by decide)
  have hkb7 := q_Gw.tag kg97 hkb7 (by decide)
  have hkb40 := q_Gw.tag kg97 hkb40 (by decide)
  have hkb50 := q_Gw.tag kg97 hkb50 (by decide)
  have hkb60 := q_Gw.tag kg97 hkb60 (by decide)
  have hkb70 := q_Gw.tag kg97 hkb70 (by decide)
  have hkb80 := q_Gw.tag kg97 hkb80 (by decide)
  have hW0 := hW
  have hkb90 := hz9
  refine q_putF hE hW hp0 rfl q_k11 tyX11 tyX11_ok 2 (by decide) rfl wl_40 rfl hin rfl rfl rfl (by decide) rfl dX11_init_133 (fun ks98 H locs hW kg99 hp0 => ?_)
  have hg := q_Gw.tr hg kg99 (Or.inl rfl) hp0.here.2 (fun x hx => hW0.1.inL x hx)
  have hkb1 := q_Gw.tag kg99 hkb1 (by decide)
  have hkb7 := q_Gw.tag kg99 hkb7 (by decide)
  have hkb40 := q_Gw.tag kg99 hkb40 (by decide)
  have hkb50 := q_Gw.tag kg99 hkb50 (by decide)
  have hkb60 := q_Gw.tag kg99 hkb60 (by decide)
  have hkb70 := q_Gw.tag kg99 hkb70 (by decide)
  have hkb80 := q_Gw.tag kg99 hkb80 (by decide)
  have hkb90 := q_Gw.tag kg99 hkb90 (by decide)
  have hW0 := hW
  have hp0 := hp0.know (List.mem_of_getElem? (i := 0) rfl) rfl (k := 2) rfl (q_1 hkb90 (by decide)) (q_2 hkb90 (by decide))
  refine lv_aload_n hx hb dX11_init_136 rfl (lv_at hl 1 rfl) ?_
  refine q_new (t := 16) hE hB hW rfl q_k6 tyX6 tyX6_ok wl_41 wl_42 wl_43 (by decide +kernel) rfl (Nat.le_of_ble_eq_true rfl) (Nat.le_of_ble_eq_true rfl) dX11_init_137 (fun kb100 kL101 ks102 H hW kg103 nkb100 hkb100 => ?_)
  refine W.widen (k := 105) (n := 787) (Nat.le_of_ble_eq_true rfl) (Nat.le_of_ble_eq_true rfl) ?_
  have fkb100 := (fun q9 => nkb100 (hg.1 _ q9))
  have ukb100 := hp0.nL nkb100
  have hg := q_Gw.tr hg kg103 (Or.inr fkb100) hkb100.here.2 (fun x hx => hW0.1.inL x hx)
  have hp0 := hp0.mv kg103 ukb100
  have hkb1 := q_Gw.tag kg103 hkb1 (by decide)
  have hkb7 := q_Gw.tag kg103 hkb7 (by decide)
  have hkb40 := q_Gw.tag kg103 hkb40 (by decide)
  have hkb50 := q_Gw.tag kg103 hkb50 (by decide)
  have hkb60 := q_Gw.tag kg103 hkb60 (by decide)
  have hkb70 := q_Gw.tag kg103 hkb70 (by decide)
  have hkb80 := q_Gw.tag kg103 hkb80 (by decide)
  have hkb90 := q_Gw.tag kg103 hkb90 (by decide)
  have hW0 := hW
  refine lv_dup hx hb dX11_init_140 rfl ?_
  refine lv_aload_n hx hb dX11_init_141 rfl (lv_at hl 1 rfl) ?_
  refine q_getX hE hW hp0 rfl q_k11 5 (by decide) (List.mem_of_getElem? (i := 2) rfl) wl_35 dX11_init_142 ?_
  refine q_initC (n := 1) (As := [.ref kb70]) (rest := [.ref kb100, .ref a0]) hE hB hA hW (c_X6_init l G kL101 kT95 ks102 kb100 hkb100 kb70 hkb70) wl_110 wl_43 wl_108 wl_109 rfl ⟨by decide, by decide, by decide +kernel⟩ rfl hl.1 rfl (Nat.le_of_ble_eq_true rfl) dX11_init_145 ⟨by decide, by decide⟩ ⟨Nat.le_of_ble_eq_true rfl, Nat.le_of_ble_eq_true rfl⟩ (fun kL104 kT105 ks106 H locs hW kg107 hz9 => ?_)
  refine W.widen (k := 113) (n := 829) (Nat.le_of_ble_eq_true rfl) (Nat.le_of_ble_eq_true rfl) ?_
  have hy9 := hkb100.here.2
  have hg := q_Gw.tr hg kg107 (Or.inr fkb100) hy9 (fun x hx => hW0.1.inL x hx)
  have hp0 := hp0.mv kg107 ukb100
  have hkb1 := q_Gw.tag kg107 hkb1 (by decide)
  have hkb7 := q_Gw.tag kg107 hkb7 (by decide)
  have hkb40 := q_Gw.tag kg107 hkb40 (by decide)
  have hkb50 := q_Gw.tag kg107 hkb50 (by decide)
  have hkb60 := q_Gw.tag kg107 hkb60 (by decide)
  have hkb70 := q_Gw.tag kg107 hkb70 (by decide)
  have hkb80 := q_Gw.tag kg107 hkb80 (by decide)
  have hkb90 := q_Gw.tag kg107 hkb90 (by decide)
  have hW0 := hW
  have hkb100 := hz9
  refine q_putF hE hW hp0 rfl q_k11 tyX11 tyX11_ok 7 (by decide) rfl wl_44 rfl hin rfl rfl rfl (by decide) rfl dX11_init_148 (fun ks108 H locs hW kg109 hp0 => ?_)
  have hg := q_Gw.tr hg kg109 (Or.inl rfl) hp0.here.2 (fun x hx => hW0.1.inL x hx)
  have hkb1 := q_Gw.tag kg109 hkb1 (by decide)
  have hkb7 := q_Gw.tag kg109 hkb7 (by decide)
  have hkb40 := q_Gw.tag kg109 hkb40 (by decide)
  have hkb50 := q_Gw.tag kg109 hkb50 (by decide)
  have hkb60 := q_Gw.tag kg109 hkb60 (by decide)
  have hkb70 := q_Gw.tag kg109 hkb70 (by decide)
  have hkb80 := q_Gw.tag kg109 hkb80 (by decide)
  have hkb90 := q_Gw.tag kg109 hkb90 (by decide)
  have hkb100 := q_Gw.tag kg109 hkb100 (by decide)
  have hW0 := hW
  have hp0 := hp0.know (List.mem_of_getElem? (i := 0) rfl) rfl (k := 7) rfl (q_1 hkb100 (by decide)) (q_2 hkb100 (by decide))
  refine lv_aload_n hx hb dX11_init_151 rfl (lv_at hl 1 rfl) ?_
  refine lv_bipush (v := 7) hx hb dX11_init_152 (by decide) ?_
  refine q_newI (ty := .int) (atype := .int) hE hB hW 28 rfl rfl rfl rfl wl_45 (by decide) (by decide) (by decide) (by decide) (Nat.le_of_ble_eq_true rfl) (Nat.le_of_ble_eq_true rfl) dX11_init_154 (fun kb110 kL111 kT112 ks113 H hW kg114 nkb110 hy9 hkb110 => ?_)
  refine W.widen (k := 114) (n := 836) (Nat.le_of_ble_eq_true rfl) (Nat.le_of_ble_eq_true rfl) ?_
  have fkb110 := (fun q9 => nkb110 (hg.1 _ q9))
  have ukb110 := hp0.nL nkb110
  have hg := q_Gw.tr hg kg114 (Or.inr fkb110) hy9 (fun x hx => hW0.1.inL x hx)
  have hp0 := hp0.mv kg114 ukb110
  have hkb1 := q_Gw.tag kg114 hkb1 (by decide)
  have hkb7 := q_Gw.tag kg114 hkb7 (by decide)
  have hkb40 := q_Gw.tag kg114 hkb40 (by decide)
  have hkb50 := q_Gw.tag kg114 hkb50 (by decide)
  have hkb60 := q_Gw.tag kg114 hkb60 (by decide)
  have hkb70 := q_Gw.tag kg114 hkb70 (by decide)
  have hkb80 := q_Gw.tag kg114 hkb80 (by decide)
  have hkb90 := q_Gw.tag kg114 hkb90 (by decide)
  have hkb100 := q_Gw.tag kg114 hkb100 (by decide)
  have hW0 := hW
  refine q_putF hE hW hp0 rfl q_k11 tyX11 tyX11_ok 8 (by decide) rfl wl_46 rfl hin rfl rfl rfl (by decide) rfl dX11_init_156 (fun ks115 H locs hW kg116 hp0 => ?_)
  have hg := q_Gw.tr hg kg116 (Or.inl rfl) hp0.here.2 (fun x hx => hW0.1.inL x hx)
  have hkb1 := q_Gw.tag kg116 hkb1 (by decide)
  have hkb7 := q_Gw.tag kg116 hkb7 (by decide)
  have hkb40 := q_Gw.tag kg116 hkb40 (by decide)
  have hkb50 := q_Gw.tag kg116 hkb50 (by decide)
  have hkb60 := q_Gw.tag kg116 hkb60 (by decide)
  have hkb70 := q_Gw.tag kg116 hkb70 (by decide)
  have hkb80 := q_Gw.tag kg116 hkb80 (by decide)
  have hkb90 := q_Gw.tag kg116 hkb90 (by decide)
  have hkb100 := q_Gw.tag kg116 hkb100 (by decide)
  have hkb110 := q_Gw.tag kg116 hkb110 (by decide)
  have hW0 := hW
  have hp0 := hp0.know (List.mem_of_getElem? (i := 0) rfl) rfl (k := 8) rfl (q_1 hkb110 (by decide)) (q_2 hkb110 (by decide))
  refine lv_aload_n hx hb dX11_init_159 rfl (lv_at hl 1 rfl) ?_
  refine lv_bipush (v := 8) hx hb dX11_init_160 (by decide) ?_
  refine q_newR hE hB hW 29 rfl rfl wl_30 (by decide +kernel) (by decide) (by decide) (by decide) (Nat.le_of_ble_eq_true rfl) (Nat.le_of_ble_eq_true rfl) dX11_init_162 (fun kb117 kL118 ks119 H hW kg120 nkb117 hkb117 => ?_)
  refine W.widen (k := 115) (n := 844) (Nat.le_of_ble_eq_true rfl) (Nat.le_of_ble_eq_true rfl) ?_
  have fkb117 := (fun q9 => nkb117 (hg.1 _ q9))
  have ukb117 := hp0.nL nkb117
  have hg := q_Gw.tr hg kg120 (Or.inr fkb117) hkb117.here.2 (fun x hx => hW0.1.inL x hx)
  have hp0 := hp0.mv kg120 ukb117
  have hkb1 := q_Gw.tag kg120 hkb1 (by decide)
  have hkb7 := q_Gw.tag kg120 hkb7 (by decide)
  have hkb40 := q_Gw.tag kg120 hkb40 (by decide)
  have hkb50 := q_Gw.tag kg120 hkb50 (by decide)
  have hkb60 := q_Gw.tag kg120 hkb60 (by decide)
  have hkb70 := q_Gw.tag kg120 hkb70 (by decide)
  have hkb80 := q_Gw.tag kg120 hkb80 (by decide)
  have hkb90 := q_Gw.tag kg120 hkb90 (by decide)
  have hkb100 := q_Gw.tag kg120 hkb100 (by decide)
  have hkb110 := q_Gw.tag kg120 hkb110 (by decide)
  have hW0 := hW
  refine q_putF hE hW hp0 rfl q_k11 tyX11 tyX11_ok 9 (by decide) rfl wl_47 rfl hin rfl rfl rfl (by decide) rfl dX11_init_165 (fun ks121 H locs hW kg122 hp0 => ?_)
  have hg := q_Gw.tr hg kg122 (Or.inl rfl) hp0.here.2 (fun x hx => hW0.1.inL x hx)
  have hkb117 := hkb117.mv kg122 (Ne.symm ukb117)
  have hkb1 := q_Gw.tag kg122 hkb1 (by decide)
  have hkb7 := q_Gw.tag kg122 hkb7 (by decide)
  have hkb40 := q_Gw.tag kg122 hkb40 (by decide)
  have hkb50 := q_Gw.tag kg122 hkb50 (by decide)
  have hkb60 := q_Gw.tag kg122 hkb60 (by decide)
  have hkb70 := q_Gw.tag kg122 hkb70 (by decide)
  have hkb80 := q_Gw.tag kg122 hkb80 (by decide)
  have hkb90 := q_Gw.tag kg122 hkb90 (by decide)
  have hkb100 := q_Gw.tag kg122 hkb100 (by decide)
  have hkb110 := q_Gw.tag kg122 hkb110 (by decide)
  have hW0 := hW
  refine lv_iconst (v := 0) hx hb dX11_init_168 (by decide) ?_
  refine lv_istore_n (lv' := [(2, .int 0), (1, .ref kb1), (0, .ref a0)]) hx hb dX11_init_169 rfl hl (by decide) rfl (fun ls hl => ?_)
  refine lv_iload_n hx hb dX11_init_170 rfl (lv_at hl 0 rfl) ?_
  refine lv_bipush (v := 8) hx hb dX11_init_171 (by decide) ?_
  refine lv_icmp_ge (tgt := 196) hx hb dX11_init_173 (by decide) (fun q_h => absurd q_h (by decide)) (fun _ => ?_)
  refine lv_aload_n hx hb dX11_init_176 rfl (lv_at hl 2 rfl) ?_
  refine q_getX hE hW hp0 rfl q_k11 9 (by decide) (List.mem_of_getElem? (i := 0) rfl) wl_47 dX11_init_177 ?_
  refine lv_iload_n hx hb dX11_init_180 rfl (lv_at hl 0 rfl) ?_
  refine q_new (t := 7) hE hB hW rfl q_k2 tyX2 tyX2_ok wl_30 wl_31 wl_32 (by decide +kernel) rfl (Nat.le_of_ble_eq_true rfl) (Nat.le_of_ble_eq_true rfl) dX11_init_181 (fun kb123 kL124 ks125 H hW kg126 nkb123 hkb123 => ?_)
  refine W.widen (k := 116) (n := 853) (Nat.le_of_ble_eq_true rfl) (Nat.le_of_ble_eq_true rfl) ?_
  have fkb123 := (fun q9 => nkb123 (hg.1 _ q9))
  have ukb123 := hp0.nL nkb123
  have ukb117_kb123 := hkb117.nL nkb123
  have hg := q_Gw.tr hg kg126 (Or.inr fkb123) hkb123.here.2 (fun x hx => hW0.1.inL x hx)
  have hp0 := hp0.mv kg126 ukb123
  have hkb117 := hkb117.mv kg126 ukb117_kb123
  have hkb1 := q_Gw.tag kg126 hkb1 (by decide)
  have hkb7 := q_Gw.tag kg126 hkb7 (by decide)
  have hkb40 := q_Gw.tag kg126 hkb40 (by decide)
  have hkb50 := q_Gw.tag kg126 hkb50 (by decide)
  have hkb60 := q_Gw.tag kg126 hkb60 (by decide)
  have hkb70 := q_Gw.tag kg126 hkb70 (by decide)
  have hkb80 := q_Gw.tag kg126 hkb80 (by decide)
  have hkb90 := q_Gw.tag kg126 hkb90 (by decide)
  have hkb100 := q_Gw.tag kg126 hkb100 (by decide)
  have hkb110 := q_Gw.tag kg126 hkb110 (by decide)
  have hW0 := hW
  refine lv_dup hx hb dX11_init_184 rfl ?_
  refine lv_aload_n hx hb dX11_init_185 rfl (lv_at hl 1 rfl) ?_
  refine q_initC (n := 1) (As := [.ref kb1]) (rest := [.ref kb123, .int 0, .ref kb117]) hE hB hA hW (c_X2_init l G kL124 kT112 ks125 kb123 hkb123 kb1 hkb1) wl_80 wl_32 wl_78 wl_79 rfl ⟨by decide, by decide, by decide +kernel⟩ rfl hl.1 rfl (Nat.le_of_ble_eq_true rfl) dX11_init_186 ⟨by decide, by decide⟩ ⟨Nat.le_of_ble_eq_true rfl, Nat.le_of_ble_eq_true rfl⟩ (fun kL127 kT128 ks129 H locs hW kg130 hz9 => ?_)
  refine W.widen (k := 139) (n := 986) (Nat.le_of_ble_eq_true rfl) (Nat.le_of_ble_eq_true rfl) ?_
  have hy9 := hkb123.here.2
  have hg := q_Gw.tr hg kg130 (Or.inr fkb123) hy9 (fun x hx => hW0.1.inL x hx)
  have hp0 := hp0.mv kg130 ukb123
  have hkb117 := hkb117.mv kg130 ukb117_kb123
  have hkb1 := q_Gw.tag kg130 hkb1 (by decide)
  have hkb7 := q_Gw.tag kg130 hkb7 (by decide)
  have hkb40 := q_Gw.tag kg130 hkb40 (by decide)
  have hkb50 := q_Gw.tag kg130 hkb50 (by decide)
  have hkb60 := q_Gw.tag kg130 hkb60 (by decide)
  have hkb70 := q_Gw.tag kg130 hkb70 (by decide)
  have hkb80 := q_Gw.tag kg130 hkb80 (by decide)
  have hkb90 := q_Gw.tag kg130 hkb90 (by decide)
  have hkb100 := q_Gw.tag kg130 hkb100 (by decide)
  have hkb110 := q_Gw.tag kg130 hkb110 (by decide)
  have hW0 := hW
  have hkb123 := hz9
  refine q_aaP (E := RX2) hE hW 0 hkb117 rfl rfl hkb123 (by decide) rfl q_k2 (Or.inl rfl) (by decide) (by decide) (by decide) (q_in (q_c (k := 0) (x := 0) (by decide)) (by decide) (by decide)) dX11_init_189 (fun ks131 H locs hW kg132 hkb117 => ?_)
  have hg := q_Gw.tr hg kg132 (Or.inr fkb117) hkb117.here.2 (fun x hx => hW0.1.inL x hx)
  have hp0 := hp0.mv kg132 ukb117
  have hkb1 := q_Gw.tag kg132 hkb1 (by decide)
  have hkb7 := q_Gw.tag kg132 hkb7 (by decide)
  have hkb40 := q_Gw.tag kg132 hkb40 (by decide)
  have hkb50 := q_Gw.tag kg132 hkb50 (by decide)
  have hkb60 := q_Gw.tag kg132 hkb60 (by decide)
  have hkb70 := q_Gw.tag kg132 hkb70 (by decide)
  have hkb80 := q_Gw.tag kg132 hkb80 (by decide)
  have hkb90 := q_Gw.tag kg132 hkb90 (by decide)
  have hkb100 := q_Gw.tag kg132 hkb100 (by decide)
  have hkb110 := q_Gw.tag kg132 hkb110 (by decide)
  have hkb123 := q_Gw.tag kg132 hkb123 (by decide)
  have hW0 := hW
  refine lv_iinc (v := 1) (lv' := [(2, .int 1), (1, .ref kb1), (0, .ref a0)]) hx hb dX11_init_190 hl (k := 0) rfl (by decide) (by decide) rfl (fun ls hl => ?_)
  refine lv_goto (tgt := 170) hx hb dX11_init_193 (by decide) ?_
  refine lv_iload_n hx hb dX11_init_170 rfl (lv_at hl 0 rfl) ?_
  refine lv_bipush (v := 8) hx hb dX11_init_171 (by decide) ?_
  refine lv_icmp_ge (tgt := 196) hx hb dX11_init_173 (by decide) (fun q_h => absurd q_h (by decide)) (fun _ => ?_)
  refine lv_aload_n hx hb dX11_init_176 rfl (lv_at hl 2 rfl) ?_
  refine q_getX hE hW hp0 rfl q_k11 9 (by decide) (List.mem_of_getElem? (i := 0) rfl) wl_47 dX11_init_177 ?_
  refine lv_iload_n hx hb dX11_init_180 rfl (lv_at hl 0 rfl) ?_
  refine q_new (t := 7) hE hB hW rfl q_k2 tyX2 tyX2_ok wl_30 wl_31 wl_32 (by decide +kernel) rfl (Nat.le_of_ble_eq_true rfl) (Nat.le_of_ble_eq_true rfl) dX11_init_181 (fun kb133 kL134 ks135 H hW kg136 nkb133 hkb133 => ?_)
  refine W.widen (k := 140) (n := 995) (Nat.le_of_ble_eq_true rfl) (Nat.le_of_ble_eq_true rfl) ?_
  have fkb133 := (fun q9 => nkb133 (hg.1 _ q9))
  have ukb133 := hp0.nL nkb133
  have ukb117_kb133 := hkb117.nL nkb133
  have hg := q_Gw.tr hg kg136 (Or.inr fkb133) hkb133.here.2 (fun x hx => hW0.1.inL x hx)
  have hp0 := hp0.mv kg136 ukb133
  have hkb117 := hkb117.mv kg136 ukb117_kb133
  have hkb1 := q_Gw.tag kg136 hkb1 (by decide)
  have hkb7 := q_Gw.tag kg136 hkb7 (by decide)
  have hkb40 := q_Gw.tag kg136 hkb40 (by decide)
  have hkb50 := q_Gw.tag kg136 hkb50 (by decide)
  have hkb60 := q_Gw.tag kg136 hkb60 (by decide)
  have hkb70 := q_Gw.tag kg136 hkb70 (by decide)
  have hkb80 := q_Gw.tag kg136 hkb80 (by decide)
  have hkb90 := q_Gw.tag kg136 hkb90 (by decide)
  have hkb100 := q_Gw.tag kg136 hkb100 (by decide)
  have hkb110 := q_Gw.tag kg136 hkb110 (by decide)
  have hW0 := hW
  refine lv_dup hx hb dX11_init_184 rfl ?_
  refine lv_aload_n hx hb dX11_init_185 rfl (lv_at hl 1 rfl) ?_
  refine q_initC (n := 1) (As := [.ref kb1]) (rest := [.ref kb133, .int 1, .ref kb117]) hE hB hA hW (c_X2_init l G kL134 kT128 ks135 kb133 hkb133 kb1 hkb1) wl_80 wl_32 wl_78 wl_79 rfl ⟨by decide, by decide, by decide +kernel⟩ rfl hl.1 rfl (Nat.le_of_ble_eq_true rfl) dX11_init_186 ⟨by decide, by decide⟩ ⟨Nat.le_of_ble_eq_true rfl, Nat.le_of_ble_eq_true rfl⟩ (fun kL137 kT138 ks139 H locs hW kg140 hz9 => ?_)
  refine W.widen (k := 163) (n := 1128) (Nat.le_of_ble_eq_true rfl) (Nat.le_of_ble_eq_true rfl) ?_
  have hy9 := hkb133.here.2
  have hg := q_Gw.tr hg kg140 (Or.inr fkb133) hy9 (fun x hx => hW0.1.inL x hx)
  have hp0 := hp0.mv kg140 ukb133
  have hkb117 := hkb117.mv kg140 ukb117_kb133
  have hkb1 := q_Gw.tag kg140 hkb1 (by decide)
  have hkb7 := q_Gw.tag kg140 hkb7 (by decide)
  have hkb40 := q_Gw.tag kg140 hkb40 (by decide)
  have hkb50 := q_Gw.tag kg140 hkb50 (by decide)
  have hkb60 := q_Gw.tag kg140 hkb60 (by decide)
  have hkb70 := q_Gw.tag kg140 hkb70 (by decide)
  have hkb80 := q_Gw.tag kg140 hkb80 (by decide)
  have hkb90 := q_Gw.tag kg140 hkb90 (by decide)
  have hkb100 := q_Gw.tag kg140 hkb100 (by decide)
  have hkb110 := q_Gw.tag kg140 hkb110 (by decide)
  have hW0 := hW
  have hkb133 := hz9
  refine q_aaP (E := RX2) hE hW 1 hkb117 rfl rfl hkb133 (by decide) rfl q_k2 (Or.inl rfl) (by decide) (by decide) (by decide) (q_in (q_c (k := 1) (x := 1) (by decide)) (by decide) (by decide)) dX11_init_189 (fun ks141 H locs hW kg142 hkb117 => ?_)
  have hg := q_Gw.tr hg kg142 (Or.inr fkb117) hkb117.here.2 (fun x hx => hW0.1.inL x hx)
  have hp0 := hp0.mv kg142 ukb117
  have hkb1 := q_Gw.tag kg142 hkb1 (by decide)
  have hkb7 := q_Gw.tag kg142 hkb7 (by decide)
  have hkb40 := q_Gw.tag kg142 hkb40 (by decide)
  have hkb50 := q_Gw.tag kg142 hkb50 (by decide)
  have hkb60 := q_Gw.tag kg142 hkb60 (by decide)
  have hkb70 := q_Gw.tag kg142 hkb70 (by decide)
  have hkb80 := q_Gw.tag kg142 hkb80 (by decide)
  have hkb90 := q_Gw.tag kg142 hkb90 (by decide)
  have hkb100 := q_Gw.tag kg142 hkb100 (by decide)
  have hkb110 := q_Gw.tag kg142 hkb110 (by decide)
  have hkb133 := q_Gw.tag kg142 hkb133 (by decide)
  have hW0 := hW
  refine lv_iinc (v := 2) (lv' := [(2, .int 2), (1, .ref kb1), (0, .ref a0)]) hx hb dX11_init_190 hl (k := 0) rfl (by decide) (by decide) rfl (fun ls hl => ?_)
  refine lv_goto (tgt := 170) hx hb dX11_init_193 (by decide) ?_
  refine lv_iload_n hx hb dX11_init_170 rfl (lv_at hl 0 rfl) ?_
  refine lv_bipush (v := 8) hx hb dX11_init_171 (by decide) ?_
  refine lv_icmp_ge (tgt := 196) hx hb dX11_init_173 (by decide) (fun q_h => absurd q_h (by decide)) (fun _ => ?_)
  refine lv_aload_n hx hb dX11_init_176 rfl (lv_at hl 2 rfl) ?_
  refine q_getX hE hW hp0 rfl q_k11 9 (by decide) (List.mem_of_getElem? (i := 0) rfl) wl_47 dX11_init_177 ?_
  refine lv_iload_n hx hb dX11_init_180 rfl (lv_at hl 0 rfl) ?_
  refine q_new (t := 7) hE hB hW rfl q_k2 tyX2 tyX2_ok wl_30 wl_31 wl_32 (by decide +kernel) rfl (Nat.le_of_ble_eq_true rfl) (Nat.le_of_ble_eq_true rfl) dX11_init_181 (fun kb143 kL144 ks145 H hW kg146 nkb143 hkb143 => ?_)
  refine W.widen (k := 164) (n := 1137) (Nat.le_of_ble_eq_true rfl) (Nat.le_of_ble_eq_true rfl) ?_
  have fkb143 := (fun q9 => nkb143 (hg.1 _ q9))
  have ukb143 := hp0.nL nkb143
  have ukb117_kb143 := hkb117.nL nkb143
  have hg := q_Gw.tr hg kg146 (Or.inr fkb143) hkb143.here.2 (fun x hx => hW0.1.inL x hx)
  have hp0 := hp0.mv kg146 ukb143
  have hkb117 := hkb117.mv kg146 ukb117_kb143
  have hkb1 := q_Gw.tag kg146 hkb1 (by decide)
  have hkb7 := q_Gw.tag kg146 hkb7 (by decide)
  have hkb40 := q_Gw.tag kg146 hkb40 (by decide)
  have hkb50 := q_Gw.tag kg146 hkb50 (by decide)
  have hkb60 := q_Gw.tag kg146 hkb60 (by decide)
  have hkb70 := q_Gw.tag kg146 hkb70 (by decide)
  have hkb80 := q_Gw.tag kg146 hkb80 (by decide)
  have hkb90 := q_Gw.tag kg146 hkb90 (by decide)
  have hkb100 := q_Gw.tag kg146 hkb100 (by decide)
  have hkb110 := q_Gw.tag kg146 hkb110 (by decide)
  have hW0 := hW
  refine lv_dup hx hb dX11_init_184 rfl ?_
  refine lv_aload_n hx hb dX11_init_185 rfl (lv_at hl 1 rfl) ?_
  refine q_initC (n := 1) (As := [.ref kb1]) (rest := [.ref kb143, .int 2, .ref kb117]) hE hB hA hW (c_X2_init l G kL144 kT138 ks145 kb143 hkb143 kb1 hkb1) wl_80 wl_32 wl_78 wl_79 rfl ⟨by decide, by decide, by decide +kernel⟩ rfl hl.1 rfl (Nat.le_of_ble_eq_true rfl) dX11_init_186 ⟨by decide, by decide⟩ ⟨Nat.le_of_ble_eq_true rfl, Nat.le_of_ble_eq_true rfl⟩ (fun kL147 kT148 ks149 H locs hW kg150 hz9 => ?_)
  refine W.widen (k := 187) (n := 1270) (Nat.le_of_ble_eq_true rfl) (Nat.le_of_ble_eq_true rfl) ?_
  have hy9 := hkb143.here.2
  have hg := q_Gw.tr hg kg150 (Or.inr fkb143) hy9 (fun x hx => hW0.1.inL x hx)
  have hp0 := hp0.mv kg150 ukb143
  have hkb117 := hkb117.mv kg150 ukb117_kb143
  have hkb1 := q_Gw.tag kg150 hkb1 (by decide)
  have hkb7 := q_Gw.tag kg150 hkb7 (by decide)
  have hkb40 := q_Gw.tag kg150 hkb40 (by decide)
  have hkb50 := q_Gw.tag kg150 hkb50 (by decide)
  have hkb60 := q_Gw.tag kg150 hkb60 (by decide)
  have hkb70 := q_Gw.tag kg150 hkb70 (by decide)
  have hkb80 := q_Gw.tag kg150 hkb80 (by decide)
  have hkb90 := q_Gw.tag kg150 hkb90 (by decide)
  have hkb100 := q_Gw.tag kg150 hkb100 (by decide)
  have hkb110 := q_Gw.tag kg150 hkb110 (by decide)
  have hW0 := hW
  have hkb143 := hz9
  refine q_aaP (E := RX2) hE hW 2 hkb117 rfl rfl hkb143 (by decide) rfl q_k2 (Or.inl rfl) (by decide) (by decide) (by decide) (q_in (q_c (k := 2) (x := 2) (by decide)) (by decide) (by decide)) dX11_init_189 (fun ks151 H locs hW kg152 hkb117 => ?_)
  have hg := q_Gw.tr hg kg152 (Or.inr fkb117) hkb117.here.2 (fun x hx => hW0.1.inL x hx)
  have hp0 := hp0.mv kg152 ukb117
  have hkb1 := q_Gw.tag kg152 hkb1 (by decide)
  have hkb7 := q_Gw.tag kg152 hkb7 (by decide)
  have hkb40 := q_Gw.tag kg152 hkb40 (by decide)
  have hkb50 := q_Gw.tag kg152 hkb50 (by decide)
  have hkb60 := q_Gw.tag kg152 hkb60 (by decide)
  have hkb70 := q_Gw.tag kg152 hkb70 (by decide)
  have hkb80 := q_Gw.tag kg152 hkb80 (by decide)
  have hkb90 := q_Gw.tag kg152 hkb90 (by decide)
  have hkb100 := q_Gw.tag kg152 hkb100 (by decide)
  have hkb110 := q_Gw.tag kg152 hkb110 (by decide)
  have hkb143 := q_Gw.tag kg152 hkb143 (by decide)
  have hW0 := hW
  refine lv_iinc (v := 3) (lv' := [(2, .int 3), (1, .ref kb1), (0, .ref a0)]) hx hb dX11_init_190 hl (k := 0) rfl (by decide) (by decide) rfl (fun ls hl => ?_)
  refine lv_goto (tgt := 170) hx hb dX11_init_193 (by decide) ?_
  refine lv_iload_n hx hb dX11_init_170 rfl (lv_at hl 0 rfl) ?_
  refine lv_bipush (v := 8) hx hb dX11_init_171 (by decide) ?_
  refine lv_icmp_ge (tgt := 196) hx hb dX11_init_173 (by decide) (fun q_h => absurd q_h (by decide)) (fun _ => ?_)
  refine lv_aload_n hx hb dX11_init_176 rfl (lv_at hl 2 rfl) ?_
  refine q_getX hE hW hp0 rfl q_k11 9 (by decide) (List.mem_of_getElem? (i := 0) rfl) wl_47 dX11_init_177 ?_
  refine lv_iload_n hx hb dX11_init_180 rfl (lv_at hl 0 rfl) ?_
  refine q_new (t := 7) hE hB hW rfl q_k2 tyX2 tyX2_ok wl_30 wl_31 wl_32 (by decide +kernel) rfl (Nat.le_of_ble_eq_true rfl) (Nat.le_of_ble_eq_true rfl) dX11_init_181 (fun kb153 kL154 ks155 H hW kg156 nkb153 hkb153 => ?_)
  refine W.widen (k := 188) (n := 1279) (Nat.le_of_ble_eq_true rfl) (Nat.le_of_ble_eq_true rfl) ?_
  have fkb153 := (fun q9 => nkb153 (hg.1 _ q9))
  have ukb153 := hp0.nL nkb153
  have ukb117_kb153 := hkb117.nL nkb153
  have hg := q_Gw.tr hg kg156 (Or.inr fkb153) hkb153.here.2 (fun x hx => hW0.1.inL x hx)
  have hp0 := hp0.mv kg156 ukb153
  have hkb117 := hkb117.mv kg156 ukb117_kb153
  have hkb1 := q_Gw.tag kg156 hkb1 (by decide)
  have hkb7 := q_Gw.tag kg156 hkb7 (by decide)
  have hkb40 := q_Gw.tag kg156 hkb40 (by decide)
  have hkb50 := q_Gw.tag kg156 hkb50 (by decide)
  have hkb60 := q_Gw.tag kg156 hkb60 (by decide)
  have hkb70 := q_Gw.tag kg156 hkb70 (by decide)
  have hkb80 := q_Gw.tag kg156 hkb80 (by decide)
  have hkb90 := q_Gw.tag kg156 hkb90 (by decide)
  have hkb100 := q_Gw.tag kg156 hkb100 (by decide)
  have hkb110 := q_Gw.tag kg156 hkb110 (by decide)
  have hW0 := hW
  refine lv_dup hx hb dX11_init_184 rfl ?_
  refine lv_aload_n hx hb dX11_init_185 rfl (lv_at hl 1 rfl) ?_
  refine q_initC (n := 1) (As := [.ref kb1]) (rest := [.ref kb153, .int 3, .ref kb117]) hE hB hA hW (c_X2_init l G kL154 kT148 ks155 kb153 hkb153 kb1 hkb1) wl_80 wl_32 wl_78 wl_79 rfl ⟨by decide, by decide, by decide +kernel⟩ rfl hl.1 rfl (Nat.le_of_ble_eq_true rfl) dX11_init_186 ⟨by decide, by decide⟩ ⟨Nat.le_of_ble_eq_true rfl, Nat.le_of_ble_eq_true rfl⟩ (fun kL157 kT158 ks159 H locs hW kg160 hz9 => ?_)
  refine W.widen (k := 211) (n := 1412) (Nat.le_of_ble_eq_true rfl) (Nat.le_of_ble_eq_true rfl) ?_
  have hy9 := hkb153.here.2
  have hg := q_Gw.tr hg kg160 (Or.inr fkb153) hy9 (fun x hx => hW0.1.inL x hx)
  have hp0 := hp0.mv kg160 ukb153
  have hkb117 := hkb117.mv kg160 ukb117_kb153
  have hkb1 := q_Gw.tag kg160 hkb1 (by decide)
  have hkb7 := q_Gw.tag kg160 hkb7 (by decide)
  have hkb40 := q_Gw.tag kg160 hkb40 (by decide)
  have hkb50 := q_Gw.tag kg160 hkb50 (by decide)
  have hkb60 := q_Gw.tag kg160 hkb60 (by decide)
  have hkb70 := q_Gw.tag kg160 hkb70 (by decide)
  have hkb80 := q_Gw.tag kg160 hkb80 (by decide)
  have hkb90 := q_Gw.tag kg160 hkb90 (by decide)
  have hkb100 := q_Gw.tag kg160 hkb100 (by decide)
  have hkb110 := q_Gw.tag kg160 hkb110 (by decide)
  have hW0 := hW
  have hkb153 := hz9
  refine q_aaP (E := RX2) hE hW 3 hkb117 rfl rfl hkb153 (by decide) rfl q_k2 (Or.inl rfl) (by decide) (by decide) (by decide) (q_in (q_c (k := 3) (x := 3) (by decide)) (by decide) (by decide)) dX11_init_189 (fun ks161 H locs hW kg162 hkb117 => ?_)
  have hg := q_Gw.tr hg kg162 (Or.inr fkb117) hkb117.here.2 (fun x hx => hW0.1.inL x hx)
  have hp0 := hp0.mv kg162 ukb117
  have hkb1 := q_Gw.tag kg162 hkb1 (by decide)
  have hkb7 := q_Gw.tag kg162 hkb7 (by decide)
  have hkb40 := q_Gw.tag kg162 hkb40 (by decide)
  have hkb50 := q_Gw.tag kg162 hkb50 (by decide)
  have hkb60 := q_Gw.tag kg162 hkb60 (by decide)
  have hkb70 := q_Gw.tag kg162 hkb70 (by decide)
  have hkb80 := q_Gw.tag kg162 hkb80 (by decide)
  have hkb90 := q_Gw.tag kg162 hkb90 (by decide)
  have hkb100 := q_Gw.tag kg162 hkb100 (by decide)
  have hkb110 := q_Gw.tag kg162 hkb110 (by decide)
  have hkb153 := q_Gw.tag kg162 hkb153 (by decide)
  have hW0 := hW
  refine lv_iinc (v := 4) (lv' := [(2, .int 4), (1, .ref kb1), (0, .ref a0)]) hx hb dX11_init_190 hl (k := 0) rfl (by decide) (by decide) rfl (fun ls hl => ?_)
  refine lv_goto (tgt := 170) hx hb dX11_init_193 (by decide) ?_
  refine lv_iload_n hx hb dX11_init_170 rfl (lv_at hl 0 rfl) ?_
  refine lv_bipush (v := 8) hx hb dX11_init_171 (by decide) ?_
  refine lv_icmp_ge (tgt := 196) hx hb dX11_init_173 (by decide) (fun q_h => absurd q_h (by decide)) (fun _ => ?_)
  refine lv_aload_n hx hb dX11_init_176 rfl (lv_at hl 2 rfl) ?_
  refine q_getX hE hW hp0 rfl q_k11 9 (by decide) (List.mem_of_getElem? (i := 0) rfl) wl_47 dX11_init_177 ?_
  refine lv_iload_n hx hb dX11_init_180 rfl (lv_at hl 0 rfl) ?_
  refine q_new (t := 7) hE hB hW rfl q_k2 tyX2 tyX2_ok wl_30 wl_31 wl_32 (by decide +kernel) rfl (Nat.le_of_ble_eq_true rfl) (Nat.le_of_ble_eq_true rfl) dX11_init_181 (fun kb163 kL164 ks165 H hW kg166 nkb163 hkb163 => ?_)
  refine W.widen (k := 212) (n := 1421) (Nat.le_of_ble_eq_true rfl) (Nat.le_of_ble_eq_true rfl) ?_
  have fkb163 := (fun q9 => nkb163 (hg.1 _ q9))
  have ukb163 := hp0.nL nkb163
  have ukb117_kb163 := hkb117.nL nkb163
  have hg := q_Gw.tr hg kg166 (Or.inr fkb163) hkb163.here.2 (fun x hx => hW0.1.inL x hx)
  have hp0 := hp0.mv kg166 ukb163
  have hkb117 := hkb117.mv kg166 ukb117_kb163
  have hkb1 := q_Gw.tag kg166 hkb1 (by decide)
  have hkb7 := q_Gw.tag kg166 hkb7 (by decide)
  have hkb40 := q_Gw.tag kg166 hkb40 (by decide)
  have hkb50 := q_Gw.tag kg166 hkb50 (by decide)
  have hkb60 := q_Gw.tag kg166 hkb60 (by decide)
  have hkb70 := q_Gw.tag kg166 hkb70 (by decide)
  have hkb80 := q_Gw.tag kg166 hkb80 (by decide)
  have hkb90 := q_Gw.tag kg166 hkb90 (by decide)
  have hkb100 := q_Gw.tag kg166 hkb100 (by decide)
  have hkb110 := q_Gw.tag kg166 hkb110 (by decide)
  have hW0 := hW
  refine lv_dup hx hb dX11_init_184 rfl ?_
  refine lv_aload_n hx hb dX11_init_185 rfl (lv_at hl 1 rfl) ?_
  refine q_initC (n := 1) (As := [.ref kb1]) (rest := [.ref kb163, .int 4, .ref kb117]) hE hB hA hW (c_X2_init l G kL164 kT158 ks165 kb163 hkb163 kb1 hkb1) wl_80 wl_32 wl_78 wl_79 rfl ⟨by decide, by decide, by decide +kernel⟩ rfl hl.1 rfl (Nat.le_of_ble_eq_true rfl) dX11_init_186 ⟨by decide, by decide⟩ ⟨Nat.le_of_ble_eq_true rfl, Nat.le_of_ble_eq_true rfl⟩ (fun kL167 kT168 ks169 H locs hW kg170 hz9 => ?_)
  refine W.widen (k := 235) (n := 1554) (Nat.le_of_ble_eq_true rfl) (Nat.le_of_ble_eq_true rfl) ?_
  have hy9 := hkb163.here.2
  have hg := q_Gw.tr hg kg170 (Or.inr fkb163) hy9 (fun x hx => hW0.1.inL x hx)
  have hp0 := hp0.mv kg170 ukb163
  have hkb117 := hkb117.mv kg170 ukb117_kb163
  have hkb1 := q_Gw.tag kg170 hkb1 (by decide)
  have hkb7 := q_Gw.tag kg170 hkb7 (by decide)
  have hkb40 := q_Gw.tag kg170 hkb40 (by decide)
  have hkb50 := q_Gw.tag kg170 hkb50 (by decide)
  have hkb60 := q_Gw.tag kg170 hkb60 (by decide)
  have hkb70 := q_Gw.tag kg170 hkb70 (by decide)
  have hkb80 := q_Gw.tag kg170 hkb80 (by decide)
  have hkb90 := q_Gw.tag kg170 hkb90 (by decide)
  have hkb100 := q_Gw.tag kg170 hkb100 (by decide)
  have hkb110 := q_Gw.tag kg170 hkb110 (by decide)
  have hW0 := hW
  have hkb163 := hz9
  refine q_aaP (E := RX2) hE hW 4 hkb117 rfl rfl hkb163 (by decide) rfl q_k2 (Or.inl rfl) (by decide) (by decide) (by decide) (q_in (q_c (k := 4) (x := 4) (by decide)) (by decide) (by decide)) dX11_init_189 (fun ks171 H locs hW kg172 hkb117 => ?_)
  have hg := q_Gw.tr hg kg172 (Or.inr fkb117) hkb117.here.2 (fun x hx => hW0.1.inL x hx)
  have hp0 := hp0.mv kg172 ukb117
  have hkb1 := q_Gw.tag kg172 hkb1 (by decide)
  have hkb7 := q_Gw.tag kg172 hkb7 (by decide)
  have hkb40 := q_Gw.tag kg172 hkb40 (by decide)
  have hkb50 := q_Gw.tag kg172 hkb50 (by decide)
  have hkb60 := q_Gw.tag kg172 hkb60 (by decide)
  have hkb70 := q_Gw.tag kg172 hkb70 (by decide)
  have hkb80 := q_Gw.tag kg172 hkb80 (by decide)
  have hkb90 := q_Gw.tag kg172 hkb90 (by decide)
  have hkb100 := q_Gw.tag kg172 hkb100 (by decide)
  have hkb110 := q_Gw.tag kg172 hkb110 (by decide)
  have hkb163 := q_Gw.tag kg172 hkb163 (by decide)
  have hW0 := hW
  refine lv_iinc (v := 5) (lv' := [(2, .int 5), (1, .ref kb1), (0, .ref a0)]) hx hb dX11_init_190 hl (k := 0) rfl (by decide) (by decide) rfl (fun ls hl => ?_)
  refine lv_goto (tgt := 170) hx hb dX11_init_193 (by decide) ?_
  refine lv_iload_n hx hb dX11_init_170 rfl (lv_at hl 0 rfl) ?_
  refine lv_bipush (v := 8) hx hb dX11_init_171 (by decide) ?_
  refine lv_icmp_ge (tgt := 196) hx hb dX11_init_173 (by decide) (fun q_h => absurd q_h (by decide)) (fun _ => ?_)
  refine lv_aload_n hx hb dX11_init_176 rfl (lv_at hl 2 rfl) ?_
  refine q_getX hE hW hp0 rfl q_k11 9 (by decide) (List.mem_of_getElem? (i := 0) rfl) wl_47 dX11_init_177 ?_
  refine lv_iload_n hx hb dX11_init_180 rfl (lv_at hl 0 rfl) ?_
  refine q_new (t := 7) hE hB hW rfl q_k2 tyX2 tyX2_ok wl_30 wl_31 wl_32 (by decide +kernel) rfl (Nat.le_of_ble_eq_true rfl) (Nat.le_of_ble_eq_true rfl) dX11_init_181 (fun kb173 kL174 ks175 H hW kg176 nkb173 hkb173 => ?_)
  refine W.widen (k := 236) (n := 1563) (Nat.le_of_ble_eq_true rfl) (Nat.le_of_ble_eq_true rfl) ?_
  have fkb173 := (fun q9 => nkb173 (hg.1 _ q9))
  have ukb173 := hp0.nL nkb173
  have ukb117_kb173 := hkb117.nL nkb173
  have hg := q_Gw.tr hg kg176 (Or.inr fkb173) hkb173.here.2 (fun x hx => hW0.1.inL x hx)
  have hp0 := hp0.mv kg176 ukb173
  have hkb117 := hkb117.mv kg176 ukb117_kb173
  have hkb1 := q_Gw.tag kg176 hkb1 (by decide)
  have hkb7 := q_Gw.tag kg176 hkb7 (by decide)
  have hkb40 := q_Gw.tag kg176 hkb40 (by decide)
  have hkb50 := q_Gw.tag kg176 hkb50 (by decide)
  have hkb60 := q_Gw.tag kg176 hkb60 (by decide)
  have hkb70 := q_Gw.tag kg176 hkb70 (by decide)
  have hkb80 := q_Gw.tag kg176 hkb80 (by decide)
  have hkb90 := q_Gw.tag kg176 hkb90 (by decide)
  have hkb100 := q_Gw.tag kg176 hkb100 (by decide)
  have hkb110 := q_Gw.tag kg176 hkb110 (by decide)
  have hW0 := hW
  refine lv_dup hx hb dX11_init_184 rfl ?_
  refine lv_aload_n hx hb dX11_init_185 rfl (lv_at hl 1 rfl) ?_
  refine q_initC (n := 1) (As := [.ref kb1]) (rest := [.ref kb173, .int 5, .ref kb117]) hE hB hA hW (c_X2_init l G kL174 kT168 ks175 kb173 hkb173 kb1 hkb1) wl_80 wl_32 wl_78 wl_79 rfl ⟨by decide, by decide, by decide +kernel⟩ rfl hl.1 rfl (Nat.le_of_ble_eq_true rfl) dX11_init_186 ⟨by decide, by decide⟩ ⟨Nat.le_of_ble_eq_true rfl, Nat.le_of_ble_eq_true rfl⟩ (fun kL177 kT178 ks179 H locs hW kg180 hz9 => ?_)
  refine W.widen (k := 259) (n := 1696) (Nat.le_of_ble_eq_true rfl) (Nat.le_of_ble_eq_true rfl) ?_
  have hy9 := hkb173.here.2
  have hg := q_Gw.tr hg kg180 (Or.inr fkb173) hy9 (fun x hx => hW0.1.inL x hx)
  have hp0 := hp0.mv kg180 ukb173
  have hkb117 := hkb117.mv kg180 ukb117_kb173
  have hkb1 := q_Gw.tag kg180 hkb1 (by decide)
  have hkb7 := q_Gw.tag kg180 hkb7 (by decide)
  have hkb40 := q_Gw.tag kg180 hkb40 (by decide)
  have hkb50 := q_Gw.tag kg180 hkb50 (by decide)
  have hkb60 := q_Gw.tag kg180 hkb60 (by decide)
  have hkb70 := q_Gw.tag kg180 hkb70 (by decide)
  have hkb80 := q_Gw.tag kg180 hkb80 (by decide)
  have hkb90 := q_Gw.tag kg180 hkb90 (by decide)
  have hkb100 := q_Gw.tag kg180 hkb100 (by decide)
  have hkb110 := q_Gw.tag kg180 hkb110 (by decide)
  have hW0 := hW
  have hkb173 := hz9
  refine q_aaP (E := RX2) hE hW 5 hkb117 rfl rfl hkb173 (by decide) rfl q_k2 (Or.inl rfl) (by decide) (by decide) (by decide) (q_in (q_c (k := 5) (x := 5) (by decide)) (by decide) (by decide)) dX11_init_189 (fun ks181 H locs hW kg182 hkb117 => ?_)
  have hg := q_Gw.tr hg kg182 (Or.inr fkb117) hkb117.here.2 (fun x hx => hW0.1.inL x hx)
  have hp0 := hp0.mv kg182 ukb117
  have hkb1 := q_Gw.tag kg182 hkb1 (by decide)
  have hkb7 := q_Gw.tag kg182 hkb7 (by decide)
  have hkb40 := q_Gw.tag kg182 hkb40 (by decide)
  have hkb50 := q_Gw.tag kg182 hkb50 (by decide)
  have hkb60 := q_Gw.tag kg182 hkb60 (by decide)
  have hkb70 := q_Gw.tag kg182 hkb70 (by decide)
  have hkb80 := q_Gw.tag kg182 hkb80 (by decide)
  have hkb90 := q_Gw.tag kg182 hkb90 (by decide)
  have hkb100 := q_Gw.tag kg182 hkb100 (by decide)
  have hkb110 := q_Gw.tag kg182 hkb110 (by decide)
  have hkb173 := q_Gw.tag kg182 hkb173 (by decide)
  have hW0 := hW
  refine lv_iinc (v := 6) (lv' := [(2, .int 6), (1, .ref kb1), (0, .ref a0)]) hx hb dX11_init_190 hl (k := 0) rfl (by decide) (by decide) rfl (fun ls hl => ?_)
  refine lv_goto (tgt := 170) hx hb dX11_init_193 (by decide) ?_
  refine lv_iload_n hx hb dX11_init_170 rfl (lv_at hl 0 rfl) ?_
  refine lv_bipush (v := 8) hx hb dX11_init_171 (by decide) ?_
  refine lv_icmp_ge (tgt := 196) hx hb dX11_init_173 (by decide) (fun q_h => absurd q_h (by decide)) (fun _ => ?_)
  refine lv_aload_n hx hb dX11_init_176 rfl (lv_at hl 2 rfl) ?_
  refine q_getX hE hW hp0 rfl q_k11 9 (by decide) (List.mem_of_getElem? (i := 0) rfl) wl_47 dX11_init_177 ?_
  refine lv_iload_n hx hb dX11_init_180 rfl (lv_at hl 0 rfl) ?_
  refine q_new (t := 7) hE hB hW rfl q_k2 tyX2 tyX2_ok wl_30 wl_31 wl_32 (by decide +kernel) rfl (Nat.le_of_ble_eq_true rfl) (Nat.le_of_ble_eq_true rfl) dX11_init_181 (fun kb183 kL184 ks185 H hW kg186 nkb183 hkb183 => ?_)
  refine W.widen (k := 260) (n := 1705) (Nat.le_of_ble_eq_true rfl) (Nat.le_of_ble_eq_true rfl) ?_
  have fkb183 := (fun q9 => nkb183 (hg.1 _ q9))
  have ukb183 := hp0.nL nkb183
  have ukb117_kb183 := hkb117.nL nkb183
  have hg := q_Gw.tr hg kg186 (Or.inr fkb183) hkb183.here.2 (fun x hx => hW0.1.inL x hx)
  have hp0 := hp0.mv kg186 ukb183
  have hkb117 := hkb117.mv kg186 ukb117_kb183
  have hkb1 := q_Gw.tag kg186 hkb1 (by decide)
  have hkb7 := q_Gw.tag kg186 hkb7 (by decide)
  have hkb40 := q_Gw.tag kg186 hkb40 (by decide)
  have hkb50 := q_Gw.tag kg186 hkb50 (by decide)
  have hkb60 := q_Gw.tag kg186 hkb60 (by decide)
  have hkb70 := q_Gw.tag kg186 hkb70 (by decide)
  have hkb80 := q_Gw.tag kg186 hkb80 (by decide)
  have hkb90 := q_Gw.tag kg186 hkb90 (by decide)
  have hkb100 := q_Gw.tag kg186 hkb100 (by decide)
  have hkb110 := q_Gw.tag kg186 hkb110 (by decide)
  have hW0 := hW
  refine lv_dup hx hb dX11_init_184 rfl ?_
  refine lv_aload_n hx hb dX11_init_185 rfl (lv_at hl 1 rfl) ?_
  refine q_initC (n := 1) (As := [.ref kb1]) (rest := [.ref kb183, .int 6, .ref kb117]) hE hB hA hW (c_X2_init l G kL184 kT178 ks185 kb183 hkb183 kb1 hkb1) wl_80 wl_32 wl_78 wl_79 rfl ⟨by decide, by decide, by decide +kernel⟩ rfl hl.1 rfl (Nat.le_of_ble_eq_true rfl) dX11_init_186 ⟨by decide, by decide⟩ ⟨Nat.le_of_ble_eq_true rfl, Nat.le_of_ble_eq_true rfl⟩ (fun kL187 kT188 ks189 H locs hW kg190 hz9 => ?_)
  refine W.widen (k := 283) (n := 1838) (Nat.le_of_ble_eq_true rfl) (Nat.le_of_ble_eq_true rfl) ?_
  have hy9 := hkb183.here.2
  have hg := q_Gw.tr hg kg190 (Or.inr fkb183) hy9 (fun x hx => hW0.1.inL x hx)
  have hp0 := hp0.mv kg190 ukb183
  have hkb117 := hkb117.mv kg190 ukb117_kb183
  have hkb1 := q_Gw.tag kg190 hkb1 (by decide)
  have hkb7 := q_Gw.tag kg190 hkb7 (by decide)
  have hkb40 := q_Gw.tag kg190 hkb40 (by decide)
  have hkb50 := q_Gw.tag kg190 hkb50 (by decide)
  have hkb60 := q_Gw.tag kg190 hkb60 (by decide)
  have hkb70 := q_Gw.tag kg190 hkb70 (by decide)
  have hkb80 := q_Gw.tag kg190 hkb80 (by decide)
  have hkb90 := q_Gw.tag kg190 hkb90 (by decide)
  have hkb100 := q_Gw.tag kg190 hkb100 (by decide)
  have hkb110 := q_Gw.tag kg190 hkb110 (by decide)
  have hW0 := hW
  have hkb183 := hz9
  refine q_aaP (E := RX2) hE hW 6 hkb117 rfl rfl hkb183 (by decide) rfl q_k2 (Or.inl rfl) (by decide) (by decide) (by decide) (q_in (q_c (k := 6) (x := 6) (by decide)) (by decide) (by decide)) dX11_init_189 (fun ks191 H locs hW kg192 hkb117 => ?_)
  have hg := q_Gw.tr hg kg192 (Or.inr fkb117) hkb117.here.2 (fun x hx => hW0.1.inL x hx)
  have hp0 := hp0.mv kg192 ukb117
  have hkb1 := q_Gw.tag kg192 hkb1 (by decide)
  have hkb7 := q_Gw.tag kg192 hkb7 (by decide)
  have hkb40 := q_Gw.tag kg192 hkb40 (by decide)
  have hkb50 := q_Gw.tag kg192 hkb50 (by decide)
  have hkb60 := q_Gw.tag kg192 hkb60 (by decide)
  have hkb70 := q_Gw.tag kg192 hkb70 (by decide)
  have hkb80 := q_Gw.tag kg192 hkb80 (by decide)
  have hkb90 := q_Gw.tag kg192 hkb90 (by decide)
  have hkb100 := q_Gw.tag kg192 hkb100 (by decide)
  have hkb110 := q_Gw.tag kg192 hkb110 (by decide)
  have hkb183 := q_Gw.tag kg192 hkb183 (by decide)
  have hW0 := hW
  refine lv_iinc (v := 7) (lv' := [(2, .int 7), (1, .ref kb1), (0, .ref a0)]) hx hb dX11_init_190 hl (k := 0) rfl (by decide) (by decide) rfl (fun ls hl => ?_)
  refine lv_goto (tgt := 170) hx hb dX11_init_193 (by decide) ?_
  refine lv_iload_n hx hb dX11_init_170 rfl (lv_at hl 0 rfl) ?_
  refine lv_bipush (v := 8) hx hb dX11_init_171 (by decide) ?_
  refine lv_icmp_ge (tgt := 196) hx hb dX11_init_173 (by decide) (fun q_h => absurd q_h (by decide)) (fun _ => ?_)
  refine lv_aload_n hx hb dX11_init_176 rfl (lv_at hl 2 rfl) ?_
  refine q_getX hE hW hp0 rfl q_k11 9 (by decide) (List.mem_of_getElem? (i := 0) rfl) wl_47 dX11_init_177 ?_
  refine lv_iload_n hx hb dX11_init_180 rfl (lv_at hl 0 rfl) ?_
  refine q_new (t := 7) hE hB hW rfl q_k2 tyX2 tyX2_ok wl_30 wl_31 wl_32 (by decide +kernel) rfl (Nat.le_of_ble_eq_true rfl) (Nat.le_of_ble_eq_true rfl) dX11_init_181 (fun kb193 kL194 ks195 H hW kg196 nkb193 hkb193 => ?_)
  refine W.widen (k := 284) (n := 1847) (Nat.le_of_ble_eq_true rfl) (Nat.le_of_ble_eq_true rfl) ?_
  have fkb193 := (fun q9 => nkb193 (hg.1 _ q9))
  have ukb193 := hp0.nL nkb193
  have ukb117_kb193 := hkb117.nL nkb193
  have hg := q_Gw.tr hg kg196 (Or.inr fkb193) hkb193.here.2 (fun x hx => hW0.1.inL x hx)
  have hp0 := hp0.mv kg196 ukb193
  have hkb117 := hkb117.mv kg196 ukb117_kb193
  have hkb1 := q_Gw.tag kg196 hkb1 (by decide)
  have hkb7 := q_Gw.tag kg196 hkb7 (by decide)
  have hkb40 := q_Gw.tag kg196 hkb40 (by decide)
  have hkb50 := q_Gw.tag kg196 hkb50 (by decide)
  have hkb60 := q_Gw.tag kg196 hkb60 (by decide)
  have hkb70 := q_Gw.tag kg196 hkb70 (by decide)
  have hkb80 := q_Gw.tag kg196 hkb80 (by decide)
  have hkb90 := q_Gw.tag kg196 hkb90 (by decide)
  have hkb100 := q_Gw.tag kg196 hkb100 (by decide)
  have hkb110 := q_Gw.tag kg196 hkb110 (by decide)
  have hW0 := hW
  refine lv_dup hx hb dX11_init_184 rfl ?_
  refine lv_aload_n hx hb dX11_init_185 rfl (lv_at hl 1 rfl) ?_
  refine q_initC (n := 1) (As := [.ref kb1]) (rest := [.ref kb193, .int 7, .ref kb117]) hE hB hA hW (c_X2_init l G kL194 kT188 ks195 kb193 hkb193 kb1 hkb1) wl_80 wl_32 wl_78 wl_79 rfl ⟨by decide, by decide, by decide +kernel⟩ rfl hl.1 rfl (Nat.le_of_ble_eq_true rfl) dX11_init_186 ⟨by decide, by decide⟩ ⟨Nat.le_of_ble_eq_true rfl, Nat.le_of_ble_eq_true rfl⟩ (fun kL197 kT198 ks199 H locs hW kg200 hz9 => ?_)
  refine W.widen (k := 307) (n := 1980) (Nat.le_of_ble_eq_true rfl) (Nat.le_of_ble_eq_true rfl) ?_
  have hy9 := hkb193.here.2
  have hg := q_Gw.tr hg kg200 (Or.inr fkb193) hy9 (fun x hx => hW0.1.inL x hx)
  have hp0 := hp0.mv kg200 ukb193
  have hkb117 := hkb117.mv kg200 ukb117_kb193
  have hkb1 := q_Gw.tag kg200 hkb1 (by decide)
  have hkb7 := q_Gw.tag kg200 hkb7 (by decide)
  have hkb40 := q_Gw.tag kg200 hkb40 (by decide)
  have hkb50 := q_Gw.tag kg200 hkb50 (by decide)
  have hkb60 := q_Gw.tag kg200 hkb60 (by decide)
  have hkb70 := q_Gw.tag kg200 hkb70 (by decide)
  have hkb80 := q_Gw.tag kg200 hkb80 (by decide)
  have hkb90 := q_Gw.tag kg200 hkb90 (by decide)
  have hkb100 := q_Gw.tag kg200 hkb100 (by decide)
  have hkb110 := q_Gw.tag kg200 hkb110 (by decide)
  have hW0 := hW
  have hkb193 := hz9
  refine q_aaP (E := RX2) hE hW 7 hkb117 rfl rfl hkb193 (by decide) rfl q_k2 (Or.inl rfl) (by decide) (by decide) (by decide) (q_in (q_c (k := 7) (x := 7) (by decide)) (by decide) (by decide)) dX11_init_189 (fun ks201 H locs hW kg202 hkb117 => ?_)
  have hg := q_Gw.tr hg kg202 (Or.inr fkb117) hkb117.here.2 (fun x hx => hW0.1.inL x hx)
  have hp0 := hp0.mv kg202 ukb117
  have hkb1 := q_Gw.tag kg202 hkb1 (by decide)
  have hkb7 := q_Gw.tag kg202 hkb7 (by decide)
  have hkb40 := q_Gw.tag kg202 hkb40 (by decide)
  have hkb50 := q_Gw.tag kg202 hkb50 (by decide)
  have hkb60 := q_Gw.tag kg202 hkb60 (by decide)
  have hkb70 := q_Gw.tag kg202 hkb70 (by decide)
  have hkb80 := q_Gw.tag kg202 hkb80 (by decide)
  have hkb90 := q_Gw.tag kg202 hkb90 (by decide)
  have hkb100 := q_Gw.tag kg202 hkb100 (by decide)
  have hkb110 := q_Gw.tag kg202 hkb110 (by decide)
  have hkb193 := q_Gw.tag kg202 hkb193 (by decide)
  have hW0 := hW
  obtain ⟨hW, kg203, hz9⟩ := hkb117.tell hW rfl rfl
  have hy9 := hkb117.here.2
  have hg := q_Gw.tr hg kg203 (Or.inr fkb117) hy9 (fun x hx => hW0.1.inL x hx)
  have hp0 := hp0.mv kg203 ukb117
  have hkb1 := q_Gw.tag kg203 hkb1 (by decide)
  have hkb7 := q_Gw.tag kg203 hkb7 (by decide)
  have hkb40 := q_Gw.tag kg203 hkb40 (by decide)
  have hkb50 := q_Gw.tag kg203 hkb50 (by decide)
  have hkb60 := q_Gw.tag kg203 hkb60 (by decide)
  have hkb70 := q_Gw.tag kg203 hkb70 (by decide)
  have hkb80 := q_Gw.tag kg203 hkb80 (by decide)
  have hkb90 := q_Gw.tag kg203 hkb90 (by decide)
  have hkb100 := q_Gw.tag kg203 hkb100 (by decide)
  have hkb110 := q_Gw.tag kg203 hkb110 (by decide)
  have hkb193 := q_Gw.tag kg203 hkb193 (by decide)
  have hW0 := hW
  have hkb117 := hz9
  have hp0 := hp0.know (List.mem_of_getElem? (i := 0) rfl) rfl (k := 9) rfl (q_1 hkb117 (by decide)) (q_2 hkb117 (by decide))
  refine lv_iinc (v := 8) (lv' := [(2, .int 8), (1, .ref kb1), (0, .ref a0)]) hx hb dX11_init_190 hl (k := 0) rfl (by decide) (by decide) rfl (fun ls hl => ?_)
  refine lv_goto (tgt := 170) hx hb dX11_init_193 (by decide) ?_
  refine lv_iload_n hx hb dX11_init_170 rfl (lv_at hl 0 rfl) ?_
  refine lv_bipush (v := 8) hx hb dX11_init_171 (by decide) ?_
  refine lv_icmp_ge (tgt := 196) hx hb dX11_init_173 (by decide) (fun _ => ?_) (fun q_h => absurd (by decide) q_h)
  refine lv_aload_n hx hb dX11_init_196 rfl (lv_at hl 2 rfl) ?_
  refine lv_iconst (v := 2) hx hb dX11_init_197 (by decide) ?_
  refine q_newR hE hB hW 30 rfl rfl wl_30 (by decide +kernel) (by decide) (by decide) (by decide) (Nat.le_of_ble_eq_true rfl) (Nat.le_of_ble_eq_true rfl) dX11_init_198 (fun kb204 kL205 ks206 H hW kg207 nkb204 hkb204 => ?_)
  refine W.widen (k := 308) (n := 1982) (Nat.le_of_ble_eq_true rfl) (Nat.le_of_ble_eq_true rfl) ?_
  have fkb204 := (fun q9 => nkb204 (hg.1 _ q9))
  have ukb204 := hp0.nL nkb204
  have hg := q_Gw.tr hg kg207 (Or.inr fkb204) hkb204.here.2 (fun x hx => hW0.1.inL x hx)
  have hp0 := hp0.mv kg207 ukb204
  have hkb1 := q_Gw.tag kg207 hkb1 (by decide)
  have hkb7 := q_Gw.tag kg207 hkb7 (by decide)
  have hkb40 := q_Gw.tag kg207 hkb40 (by decide)
  have hkb50 := q_Gw.tag kg207 hkb50 (by decide)
  have hkb60 := q_Gw.tag kg207 hkb60 (by decide)
  have hkb70 := q_Gw.tag kg207 hkb70 (by decide)
  have hkb80 := q_Gw.tag kg207 hkb80 (by decide)
  have hkb90 := q_Gw.tag kg207 hkb90 (by decide)
  have hkb100 := q_Gw.tag kg207 hkb100 (by decide)
  have hkb110 := q_Gw.tag kg207 hkb110 (by decide)
  have hkb117 := q_Gw.tag kg207 hkb117 (by decide)
  have hW0 := hW
  refine q_putF hE hW hp0 rfl q_k11 tyX11 tyX11_ok 11 (by decide) rfl wl_48 rfl hin rfl rfl rfl (by decide) rfl dX11_init_201 (fun ks208 H locs hW kg209 hp0 => ?_)
  have hg := q_Gw.tr hg kg209 (Or.inl rfl) hp0.here.2 (fun x hx => hW0.1.inL x hx)
  have hkb204 := hkb204.mv kg209 (Ne.symm ukb204)
  have hkb1 := q_Gw.tag kg209 hkb1 (by decide)
  have hkb7 := q_Gw.tag kg209 hkb7 (by decide)
  have hkb40 := q_Gw.tag kg209 hkb40 (by decide)
  have hkb50 := q_Gw.tag kg209 hkb50 (by decide)
  have hkb60 := q_Gw.tag kg209 hkb60 (by decide)
  have hkb70 := q_Gw.tag kg209 hkb70 (by decide)
  have hkb80 := q_Gw.tag kg209 hkb80 (by decide)
  have hkb90 := q_Gw.tag kg209 hkb90 (by decide)
  have hkb100 := q_Gw.tag kg209 hkb100 (by decide)
  have hkb110 := q_Gw.tag kg209 hkb110 (by decide)
  have hkb117 := q_Gw.tag kg209 hkb117 (by decide)
  have hW0 := hW
  refine lv_aload_n hx hb dX11_init_204 rfl (lv_at hl 2 rfl) ?_
  refine lv_iconst (v := 2) hx hb dX11_init_205 (by decide) ?_
  refine q_newR hE hB hW 31 rfl rfl wl_26 (by decide +kernel) (by decide) (by decide) (by decide) (Nat.le_of_ble_eq_true rfl) (Nat.le_of_ble_eq_true rfl) dX11_init_206 (fun kb210 kL211 ks212 H hW kg213 nkb210 hkb210 => ?_)
  refine W.widen (k := 309) (n := 1984) (Nat.le_of_ble_eq_true rfl) (Nat.le_of_ble_eq_true rfl) ?_
  have fkb210 := (fun q9 => nkb210 (hg.1 _ q9))
  have ukb210 := hp0.nL nkb210
  have ukb204_kb210 := hkb204.nL nkb210
  have hg := q_Gw.tr hg kg213 (Or.inr fkb210) hkb210.here.2 (fun x hx => hW0.1.inL x hx)
  have hp0 := hp0.mv kg213 ukb210
  have hkb204 := hkb204.mv kg213 ukb204_kb210
  have hkb1 := q_Gw.tag kg213 hkb1 (by decide)
  have hkb7 := q_Gw.tag kg213 hkb7 (by decide)
  have hkb40 := q_Gw.tag kg213 hkb40 (by decide)
  have hkb50 := q_Gw.tag kg213 hkb50 (by decide)
  have hkb60 := q_Gw.tag kg213 hkb60 (by decide)
  have hkb70 := q_Gw.tag kg213 hkb70 (by decide)
  have hkb80 := q_Gw.tag kg213 hkb80 (by decide)
  have hkb90 := q_Gw.tag kg213 hkb90 (by decide)
  have hkb100 := q_Gw.tag kg213 hkb100 (by decide)
  have hkb110 := q_Gw.tag kg213 hkb110 (by decide)
  have hkb117 := q_Gw.tag kg213 hkb117 (by decide)
  have hW0 := hW
  refine q_putF hE hW hp0 rfl q_k11 tyX11 tyX11_ok 12 (by decide) rfl wl_49 rfl hin rfl rfl rfl (by decide) rfl dX11_init_209 (fun ks214 H locs hW kg215 hp0 => ?_)
  have hg := q_Gw.tr hg kg215 (Or.inl rfl) hp0.here.2 (fun x hx => hW0.1.inL x hx)
  have hkb204 := hkb204.mv kg215 (Ne.symm ukb204)
  have hkb210 := hkb210.mv kg215 (Ne.symm ukb210)
  have hkb1 := q_Gw.tag kg215 hkb1 (by decide)
  have hkb7 := q_Gw.tag kg215 hkb7 (by decide)
  have hkb40 := q_Gw.tag kg215 hkb40 (by decide)
  have hkb50 := q_Gw.tag kg215 hkb50 (by decide)
  have hkb60 := q_Gw.tag kg215 hkb60 (by decide)
  have hkb70 := q_Gw.tag kg215 hkb70 (by decide)
  have hkb80 := q_Gw.tag kg215 hkb80 (by decide)
  have hkb90 := q_Gw.tag kg215 hkb90 (by decide)
  have hkb100 := q_Gw.tag kg215 hkb100 (by decide)
  have hkb110 := q_Gw.tag kg215 hkb110 (by decide)
  have hkb117 := q_Gw.tag kg215 hkb117 (by decide)
  have hW0 := hW
  refine lv_aload_n hx hb dX11_init_212 rfl (lv_at hl 2 rfl) ?_
  refine lv_iconst (v := 2) hx hb dX11_init_213 (by decide) ?_
  refine q_newI (ty := .boolean) (atype := .boolean) hE hB hW 32 rfl rfl rfl rfl wl_50 (by decide) (by decide) (by decide) (by decide) (Nat.le_of_ble_eq_true rfl) (Nat.le_of_ble_eq_true rfl) dX11_init_214 (fun kb216 kL217 kT218 ks219 H hW kg220 nkb216 hy9 hkb216 => ?_)
  refine W.widen (k := 310) (n := 1986) (Nat.le_of_ble_eq_true rfl) (Nat.le_of_ble_eq_true rfl) ?_
  have fkb216 := (fun q9 => nkb216 (hg.1 _ q9))
  have ukb216 := hp0.nL nkb216
  have ukb204_kb216 := hkb204.nL nkb216
  have ukb210_kb216 := hkb210.nL nkb216
  have hg := q_Gw.tr hg kg220 (Or.inr fkb216) hy9 (fun x hx => hW0.1.inL x hx)
  have hp0 := hp0.mv kg220 ukb216
  have hkb204 := hkb204.mv kg220 ukb204_kb216
  have hkb210 := hkb210.mv kg220 ukb210_kb216
  have hkb1 := q_Gw.tag kg220 hkb1 (by decide)
  have hkb7 := q_Gw.tag kg220 hkb7 (by decide)
  have hkb40 := q_Gw.tag kg220 hkb40 (by decide)
  have hkb50 := q_Gw.tag kg220 hkb50 (by decide)
  have hkb60 := q_Gw.tag kg220 hkb60 (by decide)
  have hkb70 := q_Gw.tag kg220 hkb70 (by decide)
  have hkb80 := q_Gw.tag kg220 hkb80 (by decide)
  have hkb90 := q_Gw.tag kg220 hkb90 (by decide)
  have hkb100 := q_Gw.tag kg220 hkb100 (by decide)
  have hkb110 := q_Gw.tag kg220 hkb110 (by decide)
  have hkb117 := q_Gw.tag kg220 hkb117 (by decide)
  have hW0 := hW
  refine q_putF hE hW hp0 rfl q_k11 tyX11 tyX11_ok 13 (by decide) rfl wl_51 rfl hin rfl rfl rfl (by decide) rfl dX11_init_216 (fun ks221 H locs hW kg222 hp0 => ?_)
  have hg := q_Gw.tr hg kg222 (Or.inl rfl) hp0.here.2 (fun x hx => hW0.1.inL x hx)
  have hkb204 := hkb204.mv kg222 (Ne.symm ukb204)
  have hkb210 := hkb210.mv kg222 (Ne.symm ukb210)
  have hkb1 := q_Gw.tag kg222 hkb1 (by decide)
  have hkb7 := q_Gw.tag kg222 hkb7 (by decide)
  have hkb40 := q_Gw.tag kg222 hkb40 (by decide)
  have hkb50 := q_Gw.tag kg222 hkb50 (by decide)
  have hkb60 := q_Gw.tag kg222 hkb60 (by decide)
  have hkb70 := q_Gw.tag kg222 hkb70 (by decide)
  have hkb80 := q_Gw.tag kg222 hkb80 (by decide)
  have hkb90 := q_Gw.tag kg222 hkb90 (by decide)
  have hkb100 := q_Gw.tag kg222 hkb100 (by decide)
  have hkb110 := q_Gw.tag kg222 hkb110 (by decide)
  have hkb117 := q_Gw.tag kg222 hkb117 (by decide)
  have hkb216 := q_Gw.tag kg222 hkb216 (by decide)
  have hW0 := hW
  have hp0 := hp0.know (List.mem_of_getElem? (i := 0) rfl) rfl (k := 13) rfl (q_1 hkb216 (by decide)) (q_2 hkb216 (by decide))
  refine lv_iconst (v := 0) hx hb dX11_init_219 (by decide) ?_
  refine lv_istore_n (lv' := [(2, .int 0), (1, .ref kb1), (0, .ref a0)]) hx hb dX11_init_220 rfl hl (by decide) rfl (fun ls hl => ?_)
  refine lv_iload_n hx hb dX11_init_221 rfl (lv_at hl 0 rfl) ?_
  refine lv_iconst (v := 2) hx hb dX11_init_222 (by decide) ?_
  refine lv_icmp_ge (tgt := 259) hx hb dX11_init_223 (by decide) (fun q_h => absurd q_h (by decide)) (fun _ => ?_)
  refine lv_aload_n hx hb dX11_init_226 rfl (lv_at hl 2 rfl) ?_
  refine q_getX hE hW hp0 rfl q_k11 11 (by decide) (List.mem_of_getElem? (i := 2) rfl) wl_48 dX11_init_227 ?_
  refine lv_iload_n hx hb dX11_init_230 rfl (lv_at hl 0 rfl) ?_
  refine q_new (t := 7) hE hB hW rfl q_k2 tyX2 tyX2_ok wl_30 wl_31 wl_32 (by decide +kernel) rfl (Nat.le_of_ble_eq_true rfl) (Nat.le_of_ble_eq_true rfl) dX11_init_231 (fun kb223 kL224 ks225 H hW kg226 nkb223 hkb223 => ?_)
  refine W.widen (k := 311) (n := 1995) (Nat.le_of_ble_eq_true rfl) (Nat.le_of_ble_eq_true rfl) ?_
  have fkb223 := (fun q9 => nkb223 (hg.1 _ q9))
  have ukb223 := hp0.nL nkb223
  have ukb204_kb223 := hkb204.nL nkb223
  have ukb210_kb223 := hkb210.nL nkb223
  have hg := q_Gw.tr hg kg226 (Or.inr fkb223) hkb223.here.2 (fun x hx => hW0.1.inL x hx)
  have hp0 := hp0.mv kg226 ukb223
  have hkb204 := hkb204.mv kg226 ukb204_kb223
  have hkb210 := hkb210.mv kg226 ukb210_kb223
  have hkb1 := q_Gw.tag kg226 hkb1 (by decide)
  have hkb7 := q_Gw.tag kg226 hkb7 (by decide)
  have hkb40 := q_Gw.tag kg226 hkb40 (by decide)
  have hkb50 := q_Gw.tag kg226 hkb50 (by decide)
  have hkb60 := q_Gw.tag kg226 hkb60 (by decide)
  have hkb70 := q_Gw.tag kg226 hkb70 (by decide)
  have hkb80 := q_Gw.tag kg226 hkb80 (by decide)
  have hkb90 := q_Gw.tag kg226 hkb90 (by decide)
  have hkb100 := q_Gw.tag kg226 hkb100 (by decide)
  have hkb110 := q_Gw.tag kg226 hkb110 (by decide)
  have hkb117 := q_Gw.tag kg226 hkb117 (by decide)
  have hkb216 := q_Gw.tag kg226 hkb216 (by decide)
  have hW0 := hW
  refine lv_dup hx hb dX11_init_234 rfl ?_
  refine lv_aload_n hx hb dX11_init_235 rfl (lv_at hl 1 rfl) ?_
  refine q_initC (n := 1) (As := [.ref kb1]) (rest := [.ref kb223, .int 0, .ref kb204]) hE hB hA hW (c_X2_init l G kL224 kT218 ks225 kb223 hkb223 kb1 hkb1) wl_80 wl_32 wl_78 wl_79 rfl ⟨by decide, by decide, by decide +kernel⟩ rfl hl.1 rfl (Nat.le_of_ble_eq_true rfl) dX11_init_236 ⟨by decide, by decide⟩ ⟨Nat.le_of_ble_eq_true rfl, Nat.le_of_ble_eq_true rfl⟩ (fun kL227 kT228 ks229 H locs hW kg230 hz9 => ?_)
  refine W.widen (k := 334) (n := 2128) (Nat.le_of_ble_eq_true rfl) (Nat.le_of_ble_eq_true rfl) ?_
  have hy9 := hkb223.here.2
  have hg := q_Gw.tr hg kg230 (Or.inr fkb223) hy9 (fun x hx => hW0.1.inL x hx)
  have hp0 := hp0.mv kg230 ukb223
  have hkb204 := hkb204.mv kg230 ukb204_kb223
  have hkb210 := hkb210.mv kg230 ukb210_kb223
  have hkb1 := q_Gw.tag kg230 hkb1 (by decide)
  have hkb7 := q_Gw.tag kg230 hkb7 (by decide)
  have hkb40 := q_Gw.tag kg230 hkb40 (by decide)
  have hkb50 := q_Gw.tag kg230 hkb50 (by decide)
  have hkb60 := q_Gw.tag kg230 hkb60 (by decide)
  have hkb70 := q_Gw.tag kg230 hkb70 (by decide)
  have hkb80 := q_Gw.tag kg230 hkb80 (by decide)
  have hkb90 := q_Gw.tag kg230 hkb90 (by decide)
  have hkb100 := q_Gw.tag kg230 hkb100 (by decide)
  have hkb110 := q_Gw.tag kg230 hkb110 (by decide)
  have hkb117 := q_Gw.tag kg230 hkb117 (by decide)
  have hkb216 := q_Gw.tag kg230 hkb216 (by decide)
  have hW0 := hW
  have hkb223 := hz9
  refine q_aaP (E := RX2) hE hW 0 hkb204 rfl rfl hkb223 (by decide) rfl q_k2 (Or.inl rfl) (by decide) (by decide) (by decide) (q_in (q_c (k := 0) (x := 0) (by decide)) (by decide) (by decide)) dX11_init_239 (fun ks231 H locs hW kg232 hkb204 => ?_)
  have hg := q_Gw.tr hg kg232 (Or.inr fkb204) hkb204.here.2 (fun x hx => hW0.1.inL x hx)
  have hp0 := hp0.mv kg232 ukb204
  have hkb210 := hkb210.mv kg232 (Ne.symm ukb204_kb210)
  have hkb1 := q_Gw.tag kg232 hkb1 (by decide)
  have hkb7 := q_Gw.tag kg232 hkb7 (by decide)
  have hkb40 := q_Gw.tag kg232 hkb40 (by decide)
  have hkb50 := q_Gw.tag kg232 hkb50 (by decide)
  have hkb60 := q_Gw.tag kg232 hkb60 (by decide)
  have hkb70 := q_Gw.tag kg232 hkb70 (by decide)
  have hkb80 := q_Gw.tag kg232 hkb80 (by decide)
  have hkb90 := q_Gw.tag kg232 hkb90 (by decide)
  have hkb100 := q_Gw.tag kg232 hkb100 (by decide)
  have hkb110 := q_Gw.tag kg232 hkb110 (by decide)
  have hkb117 := q_Gw.tag kg232 hkb117 (by decide)
  have hkb216 := q_Gw.tag kg232 hkb216 (by decide)
  have hkb223 := q_Gw.tag kg232 hkb223 (by decide)
  have hW0 := hW
  refine lv_aload_n hx hb dX11_init_240 rfl (lv_at hl 2 rfl) ?_
  refine q_getX hE hW hp0 rfl q_k11 12 (by decide) (List.mem_of_getElem? (i := 1) rfl) wl_49 dX11_init_241 ?_
  refine lv_iload_n hx hb dX11_init_244 rfl (lv_at hl 0 rfl) ?_
  refine q_new (t := 13) hE hB hW rfl q_k8 tyX8 tyX8_ok wl_26 wl_27 wl_28 (by decide +kernel) rfl (Nat.le_of_ble_eq_true rfl) (Nat.le_of_ble_eq_true rfl) dX11_init_245 (fun kb233 kL234 ks235 H hW kg236 nkb233 hkb233 => ?_)
  refine W.widen (k := 335) (n := 2130) (Nat.le_of_ble_eq_true rfl) (Nat.le_of_ble_eq_true rfl) ?_
  have fkb233 := (fun q9 => nkb233 (hg.1 _ q9))
  have ukb233 := hp0.nL nkb233
  have ukb204_kb233 := hkb204.nL nkb233
  have ukb210_kb233 := hkb210.nL nkb233
  have hg := q_Gw.tr hg kg236 (Or.inr fkb233) hkb233.here.2 (fun x hx => hW0.1.inL x hx)
  have hp0 := hp0.mv kg236 ukb233
  have hkb204 := hkb204.mv kg236 ukb204_kb233
  have hkb210 := hkb210.mv kg236 ukb210_kb233
  have hkb1 := q_Gw.tag kg236 hkb1 (by decide)
  have hkb7 := q_Gw.tag kg236 hkb7 (by decide)
  have hkb40 := q_Gw.tag kg236 hkb40 (by decide)
  have hkb50 := q_Gw.tag kg236 hkb50 (by decide)
  have hkb60 := q_Gw.tag kg236 hkb60 (by decide)
  have hkb70 := q_Gw.tag kg236 hkb70 (by decide)
  have hkb80 := q_Gw.tag kg236 hkb80 (by decide)
  have hkb90 := q_Gw.tag kg236 hkb90 (by decide)
  have hkb100 := q_Gw.tag kg236 hkb100 (by decide)
  have hkb110 := q_Gw.tag kg236 hkb110 (by decide)
  have hkb117 := q_Gw.tag kg236 hkb117 (by decide)
  have hkb216 := q_Gw.tag kg236 hkb216 (by decide)
  have hW0 := hW
  refine lv_dup hx hb dX11_init_248 rfl ?_
  refine q_initC (n := 0) (As := []) (rest := [.ref kb233, .int 0, .ref kb210]) hE hB hA hW (c_X8_init l G kL234 kT228 ks235 kb233 hkb233) wl_74 wl_28 wl_72 wl_73 rfl ⟨by decide, by decide, by decide +kernel⟩ rfl hl.1 rfl (Nat.le_of_ble_eq_true rfl) dX11_init_249 ⟨by decide, by decide⟩ ⟨Nat.le_of_ble_eq_true rfl, Nat.le_of_ble_eq_true rfl⟩ (fun kL237 kT238 ks239 H locs hW kg240 hz9 => ?_)
  refine W.widen (k := 336) (n := 2330) (Nat.le_of_ble_eq_true rfl) (Nat.le_of_ble_eq_true rfl) ?_
  have hy9 := hkb233.here.2
  have hg := q_Gw.tr hg kg240 (Or.inr fkb233) hy9 (fun x hx => hW0.1.inL x hx)
  have hp0 := hp0.mv kg240 ukb233
  have hkb204 := hkb204.mv kg240 ukb204_kb233
  have hkb210 := hkb210.mv kg240 ukb210_kb233
  have hkb1 := q_Gw.tag kg240 hkb1 (by decide)
  have hkb7 := q_Gw.tag kg240 hkb7 (by decide)
  have hkb40 := q_Gw.tag kg240 hkb40 (by decide)
  have hkb50 := q_Gw.tag kg240 hkb50 (by decide)
  have hkb60 := q_Gw.tag kg240 hkb60 (by decide)
  have hkb70 := q_Gw.tag kg240 hkb70 (by decide)
  have hkb80 := q_Gw.tag kg240 hkb80 (by decide)
  have hkb90 := q_Gw.tag kg240 hkb90 (by decide)
  have hkb100 := q_Gw.tag kg240 hkb100 (by decide)
  have hkb110 := q_Gw.tag kg240 hkb110 (by decide)
  have hkb117 := q_Gw.tag kg240 hkb117 (by decide)
  have hkb216 := q_Gw.tag kg240 hkb216 (by decide)
  have hW0 := hW
  have hkb233 := hz9
  refine q_aaP (E := RX8) hE hW 0 hkb210 rfl rfl hkb233 (by decide) rfl q_k8 (Or.inl rfl) (by decide) (by decide) (by decide) (q_in (q_c (k := 0) (x := 0) (by decide)) (by decide) (by decide)) dX11_init_252 (fun ks241 H locs hW kg242 hkb210 => ?_)
  have hg := q_Gw.tr hg kg242 (Or.inr fkb210) hkb210.here.2 (fun x hx => hW0.1.inL x hx)
  have hp0 := hp0.mv kg242 ukb210
  have hkb204 := hkb204.mv kg242 ukb204_kb210
  have hkb1 := q_Gw.tag kg242 hkb1 (by decide)
  have hkb7 := q_Gw.tag kg242 hkb7 (by decide)
  have hkb40 := q_Gw.tag kg242 hkb40 (by decide)
  have hkb50 := q_Gw.tag kg242 hkb50 (by decide)
  have hkb60 := q_Gw.tag kg242 hkb60 (by decide)
  have hkb70 := q_Gw.tag kg242 hkb70 (by decide)
  have hkb80 := q_Gw.tag kg242 hkb80 (by decide)
  have hkb90 := q_Gw.tag kg242 hkb90 (by decide)
  have hkb100 := q_Gw.tag kg242 hkb100 (by decide)
  have hkb110 := q_Gw.tag kg242 hkb110 (by decide)
  have hkb117 := q_Gw.tag kg242 hkb117 (by decide)
  have hkb216 := q_Gw.tag kg242 hkb216 (by decide)
  have hkb233 := q_Gw.tag kg242 hkb233 (by decide)
  have hW0 := hW
  refine lv_iinc (v := 1) (lv' := [(2, .int 1), (1, .ref kb1), (0, .ref a0)]) hx hb dX11_init_253 hl (k := 0) rfl (by decide) (by decide) rfl (fun ls hl => ?_)
  refine lv_goto (tgt := 221) hx hb dX11_init_256 (by decide) ?_
  refine lv_iload_n hx hb dX11_init_221 rfl (lv_at hl 0 rfl) ?_
  refine lv_iconst (v := 2) hx hb dX11_init_222 (by decide) ?_
  refine lv_icmp_ge (tgt := 259) hx hb dX11_init_223 (by decide) (fun q_h => absurd q_h (by decide)) (fun _ => ?_)
  refine lv_aload_n hx hb dX11_init_226 rfl (lv_at hl 2 rfl) ?_
  refine q_getX hE hW hp0 rfl q_k11 11 (by decide) (List.mem_of_getElem? (i := 2) rfl) wl_48 dX11_init_227 ?_
  refine lv_iload_n hx hb dX11_init_230 rfl (lv_at hl 0 rfl) ?_
  refine q_new (t := 7) hE hB hW rfl q_k2 tyX2 tyX2_ok wl_30 wl_31 wl_32 (by decide +kernel) rfl (Nat.le_of_ble_eq_true rfl) (Nat.le_of_ble_eq_true rfl) dX11_init_231 (fun kb243 kL244 ks245 H hW kg246 nkb243 hkb243 => ?_)
  refine W.widen (k := 337) (n := 2339) (Nat.le_of_ble_eq_true rfl) (Nat.le_of_ble_eq_true rfl) ?_
  have fkb243 := (fun q9 => nkb243 (hg.1 _ q9))
  have ukb243 := hp0.nL nkb243
  have ukb204_kb243 := hkb204.nL nkb243
  have ukb210_kb243 := hkb210.nL nkb243
  have hg := q_Gw.tr hg kg246 (Or.inr fkb243) hkb243.here.2 (fun x hx => hW0.1.inL x hx)
  have hp0 := hp0.mv kg246 ukb243
  have hkb204 := hkb204.mv kg246 ukb204_kb243
  have hkb210 := hkb210.mv kg246 ukb210_kb243
  have hkb1 := q_Gw.tag kg246 hkb1 (by decide)
  have hkb7 := q_Gw.tag kg246 hkb7 (by decide)
  have hkb40 := q_Gw.tag kg246 hkb40 (by decide)
  have hkb50 := q_Gw.tag kg246 hkb50 (by decide)
  have hkb60 := q_Gw.tag kg246 hkb60 (by decide)
  have hkb70 := q_Gw.tag kg246 hkb70 (by decide)
  have hkb80 := q_Gw.tag kg246 hkb80 (by decide)
  have hkb90 := q_Gw.tag kg246 hkb90 (by decide)
  have hkb100 := q_Gw.tag kg246 hkb100 (by decide)
  have hkb110 := q_Gw.tag kg246 hkb110 (by decide)
  have hkb117 := q_Gw.tag kg246 hkb117 (by decide)
  have hkb216 := q_Gw.tag kg246 hkb216 (by decide)
  have hW0 := hW
  refine lv_dup hx hb dX11_init_234 rfl ?_
  refine lv_aload_n hx hb dX11_init_235 rfl (lv_at hl 1 rfl) ?_
  refine q_initC (n := 1) (As := [.ref kb1]) (rest := [.ref kb243, .int 1, .ref kb204]) hE hB hA hW (c_X2_init l G kL244 kT238 ks245 kb243 hkb243 kb1 hkb1) wl_80 wl_32 wl_78 wl_79 rfl ⟨by decide, by decide, by decide +kernel⟩ rfl hl.1 rfl (Nat.le_of_ble_eq_true rfl) dX11_init_236 ⟨by decide, by decide⟩ ⟨Nat.le_of_ble_eq_true rfl, Nat.le_of_ble_eq_true rfl⟩ (fun kL247 kT248 ks249 H locs hW kg250 hz9 => ?_)
  refine W.widen (k := 360) (n := 2472) (Nat.le_of_ble_eq_true rfl) (Nat.le_of_ble_eq_true rfl) ?_
  have hy9 := hkb243.here.2
  have hg := q_Gw.tr hg kg250 (Or.inr fkb243) hy9 (fun x hx => hW0.1.inL x hx)
  have hp0 := hp0.mv kg250 ukb243
  have hkb204 := hkb204.mv kg250 ukb204_kb243
  have hkb210 := hkb210.mv kg250 ukb210_kb243
  have hkb1 := q_Gw.tag kg250 hkb1 (by decide)
  have hkb7 := q_Gw.tag kg250 hkb7 (by decide)
  have hkb40 := q_Gw.tag kg250 hkb40 (by decide)
  have hkb50 := q_Gw.tag kg250 hkb50 (by decide)
  have hkb60 := q_Gw.tag kg250 hkb60 (by decide)
  have hkb70 := q_Gw.tag kg250 hkb70 (by decide)
  have hkb80 := q_Gw.tag kg250 hkb80 (by decide)
  have hkb90 := q_Gw.tag kg250 hkb90 (by decide)
  have hkb100 := q_Gw.tag kg250 hkb100 (by decide)
  have hkb110 := q_Gw.tag kg250 hkb110 (by decide)
  have hkb117 := q_Gw.tag kg250 hkb117 (by decide)
  have hkb216 := q_Gw.tag kg250 hkb216 (by decide)
  have hW0 := hW
  have hkb243 := hz9
  refine q_aaP (E := RX2) hE hW 1 hkb204 rfl rfl hkb243 (by decide) rfl q_k2 (Or.inl rfl) (by decide) (by decide) (by decide) (q_in (q_c (k := 1) (x := 1) (by decide)) (by decide) (by decide)) dX11_init_239 (fun ks251 H locs hW kg252 hkb204 => ?_)
  have hg := q_Gw.tr hg kg252 (Or.inr fkb204) hkb204.here.2 (fun x hx => hW0.1.inL x hx)
  have hp0 := hp0.mv kg252 ukb204
  have hkb210 := hkb210.mv kg252 (Ne.symm ukb204_kb210)
  have hkb1 := q_Gw.tag kg252 hkb1 (by decide)
  have hkb7 := q_Gw.tag kg252 hkb7 (by decide)
  have hkb40 := q_Gw.tag kg252 hkb40 (by decide)
  have hkb50 := q_Gw.tag kg252 hkb50 (by decide)
  have hkb60 := q_Gw.tag kg252 hkb60 (by decide)
  have hkb70 := q_Gw.tag kg252 hkb70 (by decide)
  have hkb80 := q_Gw.tag kg252 hkb80 (by decide)
  have hkb90 := q_Gw.tag kg252 hkb90 (by decide)
  have hkb100 := q_Gw.tag kg252 hkb100 (by decide)
  have hkb110 := q_Gw.tag kg252 hkb110 (by decide)
  have hkb117 := q_Gw.tag kg252 hkb117 (by decide)
  have hkb216 := q_Gw.tag kg252 hkb216 (by decide)
  have hkb243 := q_Gw.tag kg252 hkb243 (by decide)
  have hW0 := hW
  obtain ⟨hW, kg253, hz9⟩ := hkb204.tell hW rfl rfl
  have hy9 := hkb204.here.2
  have hg := q_Gw.tr hg kg253 (Or.inr fkb204) hy9 (fun x hx => hW0.1.inL x hx)
  have hp0 := hp0.mv kg253 ukb204
  have hkb210 := hkb210.mv kg253 (Ne.symm ukb204_kb210)
  have hkb1 := q_Gw.tag kg253 hkb1 (by decide)
  have hkb7 := q_Gw.tag kg253 hkb7 (by decide)
  have hkb40 := q_Gw.tag kg253 hkb40 (by decide)
  have hkb50 := q_Gw.tag kg253 hkb50 (by decide)
  have hkb60 := q_Gw.tag kg253 hkb60 (by decide)
  have hkb70 := q_Gw.tag kg253 hkb70 (by decide)
  have hkb80 := q_Gw.tag kg253 hkb80 (by decide)
  have hkb90 := q_Gw.tag kg253 hkb90 (by decide)
  have hkb100 := q_Gw.tag kg253 hkb100 (by decide)
  have hkb110 := q_Gw.tag kg253 hkb110 (by decide)
  have hkb117 := q_Gw.tag kg253 hkb117 (by decide)
  have hkb216 := q_Gw.tag kg253 hkb216 (by decide)
  have hkb243 := q_Gw.tag kg253 hkb243 (by decide)
  have hW0 := hW
  have hkb204 := hz9
  have hp0 := hp0.know (List.mem_of_getElem? (i := 2) rfl) rfl (k := 11) rfl (q_1 hkb204 (by decide)) (q_2 hkb204 (by decide))
  refine lv_aload_n hx hb dX11_init_240 rfl (lv_at hl 2 rfl) ?_
  refine q_getX hE hW hp0 rfl q_k11 12 (by decide) (List.mem_of_getElem? (i := 1) rfl) wl_49 dX11_init_241 ?_
  refine lv_iload_n hx hb dX11_init_244 rfl (lv_at hl 0 rfl) ?_
  refine q_new (t := 13) hE hB hW rfl q_k8 tyX8 tyX8_ok wl_26 wl_27 wl_28 (by decide +kernel) rfl (Nat.le_of_ble_eq_true rfl) (Nat.le_of_ble_eq_true rfl) dX11_init_245 (fun kb254 kL255 ks256 H hW kg257 nkb254 hkb254 => ?_)
  refine W.widen (k := 361) (n := 2474) (Nat.le_of_ble_eq_true rfl) (Nat.le_of_ble_eq_true rfl) ?_
  have fkb254 := (fun q9 => nkb254 (hg.1 _ q9))
  have ukb254 := hp0.nL nkb254
  have ukb210_kb254 := hkb210.nL nkb254
  have hg := q_Gw.tr hg kg257 (Or.inr fkb254) hkb254.here.2 (fun x hx => hW0.1.inL x hx)
  have hp0 := hp0.mv kg257 ukb254
  have hkb210 := hkb210.mv kg257 ukb210_kb254
  have hkb1 := q_Gw.tag kg257 hkb1 (by decide)
  have hkb7 := q_Gw.tag kg257 hkb7 (by decide)
  have hkb40 := q_Gw.tag kg257 hkb40 (by decide)
  have hkb50 := q_Gw.tag kg257 hkb50 (by decide)
  have hkb60 := q_Gw.tag kg257 hkb60 (by decide)
  have hkb70 := q_Gw.tag kg257 hkb70 (by decide)
  have hkb80 := q_Gw.tag kg257 hkb80 (by decide)
  have hkb90 := q_Gw.tag kg257 hkb90 (by decide)
  have hkb100 := q_Gw.tag kg257 hkb100 (by decide)
  have hkb110 := q_Gw.tag kg257 hkb110 (by decide)
  have hkb117 := q_Gw.tag kg257 hkb117 (by decide)
  have hkb216 := q_Gw.tag kg257 hkb216 (by decide)
  have hkb204 := q_Gw.tag kg257 hkb204 (by decide)
  have hW0 := hW
  refine lv_dup hx hb dX11_init_248 rfl ?_
  refine q_initC (n := 0) (As := []) (rest := [.ref kb254, .int 1, .ref kb210]) hE hB hA hW (c_X8_init l G kL255 (va_up kT248 kb204 30) ks256 kb254 hkb254) wl_74 wl_28 wl_72 wl_73 rfl ⟨by decide, by decide, by decide +kernel⟩ rfl hl.1 rfl (Nat.le_of_ble_eq_true rfl) dX11_init_249 ⟨by decide, by decide⟩ ⟨Nat.le_of_ble_eq_true rfl, Nat.le_of_ble_eq_true rfl⟩ (fun kL258 kT259 ks260 H locs hW kg261 hz9 => ?_)
  refine W.widen (k := 362) (n := 2674) (Nat.le_of_ble_eq_true rfl) (Nat.le_of_ble_eq_true rfl) ?_
  have hy9 := hkb254.here.2
  have hg := q_Gw.tr hg kg261 (Or.inr fkb254) hy9 (fun x hx => hW0.1.inL x hx)
  have hp0 := hp0.mv kg261 ukb254
  have hkb210 := hkb210.mv kg261 ukb210_kb254
  have hkb1 := q_Gw.tag kg261 hkb1 (by decide)
  have hkb7 := q_Gw.tag kg261 hkb7 (by decide)
  have hkb40 := q_Gw.tag kg261 hkb40 (by decide)
  have hkb50 := q_Gw.tag kg261 hkb50 (by decide)
  have hkb60 := q_Gw.tag kg261 hkb60 (by decide)
  have hkb70 := q_Gw.tag kg261 hkb70 (by decide)
  have hkb80 := q_Gw.tag kg261 hkb80 (by decide)
  have hkb90 := q_Gw.tag kg261 hkb90 (by decide)
  have hkb100 := q_Gw.tag kg261 hkb100 (by decide)
  have hkb110 := q_Gw.tag kg261 hkb110 (by decide)
  have hkb117 := q_Gw.tag kg261 hkb117 (by decide)
  have hkb216 := q_Gw.tag kg261 hkb216 (by decide)
  have hkb204 := q_Gw.tag kg261 hkb204 (by decide)
  have hW0 := hW
  have hkb254 := hz9
  refine q_aaP (E := RX8) hE hW 1 hkb210 rfl rfl hkb254 (by decide) rfl q_k8 (Or.inl rfl) (by decide) (by decide) (by decide) (q_in (q_c (k := 1) (x := 1) (by decide)) (by decide) (by decide)) dX11_init_252 (fun ks262 H locs hW kg263 hkb210 => ?_)
  have hg := q_Gw.tr hg kg263 (Or.inr fkb210) hkb210.here.2 (fun x hx => hW0.1.inL x hx)
  have hp0 := hp0.mv kg263 ukb210
  have hkb1 := q_Gw.tag kg263 hkb1 (by decide)
  have hkb7 := q_Gw.tag kg263 hkb7 (by decide)
  have hkb40 := q_Gw.tag kg263 hkb40 (by decide)
  have hkb50 := q_Gw.tag kg263 hkb50 (by decide)
  have hkb60 := q_Gw.tag kg263 hkb60 (by decide)
  have hkb70 := q_Gw.tag kg263 hkb70 (by decide)
  have hkb80 := q_Gw.tag kg263 hkb80 (by decide)
  have hkb90 := q_Gw.tag kg263 hkb90 (by decide)
  have hkb100 := q_Gw.tag kg263 hkb100 (by decide)
  have hkb110 := q_Gw.tag kg263 hkb110 (by decide)
  have hkb117 := q_Gw.tag kg263 hkb117 (by decide)
  have hkb216 := q_Gw.tag kg263 hkb216 (by decide)
  have hkb204 := q_Gw.tag kg263 hkb204 (by decide)
  have hkb254 := q_Gw.tag kg263 hkb254 (by decide)
  have hW0 := hW
  obtain ⟨hW, kg264, hz9⟩ := hkb210.tell hW rfl rfl
  have hy9 := hkb210.here.2
  have hg := q_Gw.tr hg kg264 (Or.inr fkb210) hy9 (fun x hx => hW0.1.inL x hx)
  have hp0 := hp0.mv kg264 ukb210
  have hkb1 := q_Gw.tag kg264 hkb1 (by decide)
  have hkb7 := q_Gw.tag kg264 hkb7 (by decide)
  have hkb40 := q_Gw.tag kg264 hkb40 (by decide)
  have hkb50 := q_Gw.tag kg264 hkb50 (by decide)
  have hkb60 := q_Gw.tag kg264 hkb60 (by decide)
  have hkb70 := q_Gw.tag kg264 hkb70 (by decide)
  have hkb80 := q_Gw.tag kg264 hkb80 (by decide)
  have hkb90 := q_Gw.tag kg264 hkb90 (by decide)
  have hkb100 := q_Gw.tag kg264 hkb100 (by decide)
  have hkb110 := q_Gw.tag kg264 hkb110 (by decide)
  have hkb117 := q_Gw.tag kg264 hkb117 (by decide)
  have hkb216 := q_Gw.tag kg264 hkb216 (by decide)
  have hkb204 := q_Gw.tag kg264 hkb204 (by decide)
  have hkb254 := q_Gw.tag kg264 hkb254 (by decide)
  have hW0 := hW
  have hkb210 := hz9
  have hp0 := hp0.know (List.mem_of_getElem? (i := 1) rfl) rfl (k := 12) rfl (q_1 hkb210 (by decide)) (q_2 hkb210 (by decide))
  refine lv_iinc (v := 2) (lv' := [(2, .int 2), (1, .ref kb1), (0, .ref a0)]) hx hb dX11_init_253 hl (k := 0) rfl (by decide) (by decide) rfl (fun ls hl => ?_)
  refine lv_goto (tgt := 221) hx hb dX11_init_256 (by decide) ?_
  refine lv_iload_n hx hb dX11_init_221 rfl (lv_at hl 0 rfl) ?_
  refine lv_iconst (v := 2) hx hb dX11_init_222 (by decide) ?_
  refine lv_icmp_ge (tgt := 259) hx hb dX11_init_223 (by decide) (fun _ => ?_) (fun q_h => absurd (by decide) q_h)
  refine lv_aload_n hx hb dX11_init_259 rfl (lv_at hl 2 rfl) ?_
  refine lv_bipush (v := 6) hx hb dX11_init_260 (by decide) ?_
  refine q_newI (ty := .int) (atype := .int) hE hB hW 33 rfl rfl rfl rfl wl_45 (by decide) (by decide) (by decide) (by decide) (Nat.le_of_ble_eq_true rfl) (Nat.le_of_ble_eq_true rfl) dX11_init_262 (fun kb265 kL266 kT267 ks268 H hW kg269 nkb265 hy9 hkb265 => ?_)
  refine W.widen (k := 363) (n := 2680) (Nat.le_of_ble_eq_true rfl) (Nat.le_of_ble_eq_true rfl) ?_
  have fkb265 := (fun q9 => nkb265 (hg.1 _ q9))
  have ukb265 := hp0.nL nkb265
  have hg := q_Gw.tr hg kg269 (Or.inr fkb265) hy9 (fun x hx => hW0.1.inL x hx)
  have hp0 := hp0.mv kg269 ukb265
  have hkb1 := q_Gw.tag kg269 hkb1 (by decide)
  have hkb7 := q_Gw.tag kg269 hkb7 (by decide)
  have hkb40 := q_Gw.tag kg269 hkb40 (by decide)
  have hkb50 := q_Gw.tag kg269 hkb50 (by decide)
  have hkb60 := q_Gw.tag kg269 hkb60 (by decide)
  have hkb70 := q_Gw.tag kg269 hkb70 (by decide)
  have hkb80 := q_Gw.tag kg269 hkb80 (by decide)
  have hkb90 := q_Gw.tag kg269 hkb90 (by decide)
  have hkb100 := q_Gw.tag kg269 hkb100 (by decide)
  have hkb110 := q_Gw.tag kg269 hkb110 (by decide)
  have hkb117 := q_Gw.tag kg269 hkb117 (by decide)
  have hkb216 := q_Gw.tag kg269 hkb216 (by decide)
  have hkb204 := q_Gw.tag kg269 hkb204 (by decide)
  have hkb210 := q_Gw.tag kg269 hkb210 (by decide)
  have hW0 := hW
  refine q_putF hE hW hp0 rfl q_k11 tyX11 tyX11_ok 14 (by decide) rfl wl_52 rfl hin rfl rfl rfl (by decide) rfl dX11_init_264 (fun ks270 H locs hW kg271 hp0 => ?_)
  have hg := q_Gw.tr hg kg271 (Or.inl rfl) hp0.here.2 (fun x hx => hW0.1.inL x hx)
  have hkb1 := q_Gw.tag kg271 hkb1 (by decide)
  have hkb7 := q_Gw.tag kg271 hkb7 (by decide)
  have hkb40 := q_Gw.tag kg271 hkb40 (by decide)
  have hkb50 := q_Gw.tag kg271 hkb50 (by decide)
  have hkb60 := q_Gw.tag kg271 hkb60 (by decide)
  have hkb70 := q_Gw.tag kg271 hkb70 (by decide)
  have hkb80 := q_Gw.tag kg271 hkb80 (by decide)
  have hkb90 := q_Gw.tag kg271 hkb90 (by decide)
  have hkb100 := q_Gw.tag kg271 hkb100 (by decide)
  have hkb110 := q_Gw.tag kg271 hkb110 (by decide)
  have hkb117 := q_Gw.tag kg271 hkb117 (by decide)
  have hkb216 := q_Gw.tag kg271 hkb216 (by decide)
  have hkb204 := q_Gw.tag kg271 hkb204 (by decide)
  have hkb210 := q_Gw.tag kg271 hkb210 (by decide)
  have hkb265 := q_Gw.tag kg271 hkb265 (by decide)
  have hW0 := hW
  have hp0 := hp0.know (List.mem_of_getElem? (i := 0) rfl) rfl (k := 14) rfl (q_1 hkb265 (by decide)) (q_2 hkb265 (by decide))
  refine lv_aload_n hx hb dX11_init_267 rfl (lv_at hl 2 rfl) ?_
  refine lv_bipush (v := 6) hx hb dX11_init_268 (by decide) ?_
  refine q_newI (ty := .int) (atype := .int) hE hB hW 34 rfl rfl rfl rfl wl_45 (by decide) (by decide) (by decide) (by decide) (Nat.le_of_ble_eq_true rfl) (Nat.le_of_ble_eq_true rfl) dX11_init_270 (fun kb272 kL273 kT274 ks275 H hW kg276 nkb272 hy9 hkb272 => ?_)
  refine W.widen (k := 364) (n := 2686) (Nat.le_of_ble_eq_true rfl) (Nat.le_of_ble_eq_true rfl) ?_
  have fkb272 := (fun q9 => nkb272 (hg.1 _ q9))
  have ukb272 := hp0.nL nkb272
  have hg := q_Gw.tr hg kg276 (Or.inr fkb272) hy9 (fun x hx => hW0.1.inL x hx)
  have hp0 := hp0.mv kg276 ukb272
  have hkb1 := q_Gw.tag kg276 hkb1 (by decide)
  have hkb7 := q_Gw.tag kg276 hkb7 (by decide)
  have hkb40 := q_Gw.tag kg276 hkb40 (by decide)
  have hkb50 := q_Gw.tag kg276 hkb50 (by decide)
  have hkb60 := q_Gw.tag kg276 hkb60 (by decide)
  have hkb70 := q_Gw.tag kg276 hkb70 (by decide)
  have hkb80 := q_Gw.tag kg276 hkb80 (by decide)
  have hkb90 := q_Gw.tag kg276 hkb90 (by decide)
  have hkb100 := q_Gw.tag kg276 hkb100 (by decide)
  have hkb110 := q_Gw.tag kg276 hkb110 (by decide)
  have hkb117 := q_Gw.tag kg276 hkb117 (by decide)
  have hkb216 := q_Gw.tag kg276 hkb216 (by decide)
  have hkb204 := q_Gw.tag kg276 hkb204 (by decide)
  have hkb210 := q_Gw.tag kg276 hkb210 (by decide)
  have hkb265 := q_Gw.tag kg276 hkb265 (by decide)
  have hW0 := hW
  refine q_putF hE hW hp0 rfl q_k11 tyX11 tyX11_ok 15 (by decide) rfl wl_53 rfl hin rfl rfl rfl (by decide) rfl dX11_init_272 (fun ks277 H locs hW kg278 hp0 => ?_)
  have hg := q_Gw.tr hg kg278 (Or.inl rfl) hp0.here.2 (fun x hx => hW0.1.inL x hx)
  have hkb1 := q_Gw.tag kg278 hkb1 (by decide)
  have hkb7 := q_Gw.tag kg278 hkb7 (by decide)
  have hkb40 := q_Gw.tag kg278 hkb40 (by decide)
  have hkb50 := q_Gw.tag kg278 hkb50 (by decide)
  have hkb60 := q_Gw.tag kg278 hkb60 (by decide)
  have hkb70 := q_Gw.tag kg278 hkb70 (by decide)
  have hkb80 := q_Gw.tag kg278 hkb80 (by decide)
  have hkb90 := q_Gw.tag kg278 hkb90 (by decide)
  have hkb100 := q_Gw.tag kg278 hkb100 (by decide)
  have hkb110 := q_Gw.tag kg278 hkb110 (by decide)
  have hkb117 := q_Gw.tag kg278 hkb117 (by decide)
  have hkb216 := q_Gw.tag kg278 hkb216 (by decide)
  have hkb204 := q_Gw.tag kg278 hkb204 (by decide)
  have hkb210 := q_Gw.tag kg278 hkb210 (by decide)
  have hkb265 := q_Gw.tag kg278 hkb265 (by decide)
  have hkb272 := q_Gw.tag kg278 hkb272 (by decide)
  have hW0 := hW
  have hp0 := hp0.know (List.mem_of_getElem? (i := 0) rfl) rfl (k := 15) rfl (q_1 hkb272 (by decide)) (q_2 hkb272 (by decide))
  refine lv_aload_n hx hb dX11_init_275 rfl (lv_at hl 2 rfl) ?_
  refine lv_bipush (v := 6) hx hb dX11_init_276 (by decide) ?_
  refine q_newI (ty := .int) (atype := .int) hE hB hW 35 rfl rfl rfl rfl wl_45 (by decide) (by decide) (by decide) (by decide) (Nat.le_of_ble_eq_true rfl) (Nat.le_of_ble_eq_true rfl) dX11_init_278 (fun kb279 kL280 kT281 ks282 H hW kg283 nkb279 hy9 hkb279 => ?_)
  refine W.widen (k := 365) (n := 2692) (Nat.le_of_ble_eq_true rfl) (Nat.le_of_ble_eq_true rfl) ?_
  have fkb279 := (fun q9 => nkb279 (hg.1 _ q9))
  have ukb279 := hp0.nL nkb279
  have hg := q_Gw.tr hg kg283 (Or.inr fkb279) hy9 (fun x hx => hW0.1.inL x hx)
  have hp0 := hp0.mv kg283 ukb279
  have hkb1 := q_Gw.tag kg283 hkb1 (by decide)
  have hkb7 := q_Gw.tag kg283 hkb7 (by decide)
  have hkb40 := q_Gw.tag kg283 hkb40 (by decide)
  have hkb50 := q_Gw.tag kg283 hkb50 (by decide)
  have hkb60 := q_Gw.tag kg283 hkb60 (by decide)
  have hkb70 := q_Gw.tag kg283 hkb70 (by decide)
  have hkb80 := q_Gw.tag kg283 hkb80 (by decide)
  have hkb90 := q_Gw.tag kg283 hkb90 (by decide)
  have hkb100 := q_Gw.tag kg283 hkb100 (by decide)
  have hkb110 := q_Gw.tag kg283 hkb110 (by decide)
  have hkb117 := q_Gw.tag kg283 hkb117 (by decide)
  have hkb216 := q_Gw.tag kg283 hkb216 (by decide)
  have hkb204 := q_Gw.tag kg283 hkb204 (by decide)
  have hkb210 := q_Gw.tag kg283 hkb210 (by decide)
  have hkb265 := q_Gw.tag kg283 hkb265 (by decide)
  have hkb272 := q_Gw.tag kg283 hkb272 (by decide)
  have hW0 := hW
  refine q_putF hE hW hp0 rfl q_k11 tyX11 tyX11_ok 16 (by decide) rfl wl_54 rfl hin rfl rfl rfl (by decide) rfl dX11_init_280 (fun ks284 H locs hW kg285 hp0 => ?_)
  have hg := q_Gw.tr hg kg285 (Or.inl rfl) hp0.here.2 (fun x hx => hW0.1.inL x hx)
  have hkb1 := q_Gw.tag kg285 hkb1 (by decide)
  have hkb7 := q_Gw.tag kg285 hkb7 (by decide)
  have hkb40 := q_Gw.tag kg285 hkb40 (by decide)
  have hkb50 := q_Gw.tag kg285 hkb50 (by decide)
  have hkb60 := q_Gw.tag kg285 hkb60 (by decide)
  have hkb70 := q_Gw.tag kg285 hkb70 (by decide)
  have hkb80 := q_Gw.tag kg285 hkb80 (by decide)
  have hkb90 := q_Gw.tag kg285 hkb90 (by decide)
  have hkb100 := q_Gw.tag kg285 hkb100 (by decide)
  have hkb110 := q_Gw.tag kg285 hkb110 (by decide)
  have hkb117 := q_Gw.tag kg285 hkb117 (by decide)
  have hkb216 := q_Gw.tag kg285 hkb216 (by decide)
  have hkb204 := q_Gw.tag kg285 hkb204 (by decide)
  have hkb210 := q_Gw.tag kg285 hkb210 (by decide)
  have hkb265 := q_Gw.tag kg285 hkb265 (by decide)
  have hkb272 := q_Gw.tag kg285 hkb272 (by decide)
  have hkb279 := q_Gw.tag kg285 hkb279 (by decide)
  have hW0 := hW
  have hp0 := hp0.know (List.mem_of_getElem? (i := 0) rfl) rfl (k := 16) rfl (q_1 hkb279 (by decide)) (q_2 hkb279 (by decide))
  refine lv_aload_n hx hb dX11_init_283 rfl (lv_at hl 2 rfl) ?_
  refine lv_iconst (v := 3) hx hb dX11_init_284 (by decide) ?_
  refine q_newR hE hB hW 36 rfl rfl wl_55 (by decide +kernel) (by decide) (by decide) (by decide) (Nat.le_of_ble_eq_true rfl) (Nat.le_of_ble_eq_true rfl) dX11_init_285 (fun kb286 kL287 ks288 H hW kg289 nkb286 hkb286 => ?_)
  refine W.widen (k := 366) (n := 2695) (Nat.le_of_ble_eq_true rfl) (Nat.le_of_ble_eq_true rfl) ?_
  have fkb286 := (fun q9 => nkb286 (hg.1 _ q9))
  have ukb286 := hp0.nL nkb286
  have hg := q_Gw.tr hg kg289 (Or.inr fkb286) hkb286.here.2 (fun x hx => hW0.1.inL x hx)
  have hp0 := hp0.mv kg289 ukb286
  have hkb1 := q_Gw.tag kg289 hkb1 (by decide)
  have hkb7 := q_Gw.tag kg289 hkb7 (by decide)
  have hkb40 := q_Gw.tag kg289 hkb40 (by decide)
  have hkb50 := q_Gw.tag kg289 hkb50 (by decide)
  have hkb60 := q_Gw.tag kg289 hkb60 (by decide)
  have hkb70 := q_Gw.tag kg289 hkb70 (by decide)
  have hkb80 := q_Gw.tag kg289 hkb80 (by decide)
  have hkb90 := q_Gw.tag kg289 hkb90 (by decide)
  have hkb100 := q_Gw.tag kg289 hkb100 (by decide)
  have hkb110 := q_Gw.tag kg289 hkb110 (by decide)
  have hkb117 := q_Gw.tag kg289 hkb117 (by decide)
  have hkb216 := q_Gw.tag kg289 hkb216 (by decide)
  have hkb204 := q_Gw.tag kg289 hkb204 (by decide)
  have hkb210 := q_Gw.tag kg289 hkb210 (by decide)
  have hkb265 := q_Gw.tag kg289 hkb265 (by decide)
  have hkb272 := q_Gw.tag kg289 hkb272 (by decide)
  have hkb279 := q_Gw.tag kg289 hkb279 (by decide)
  have hW0 := hW
  refine q_putF hE hW hp0 rfl q_k11 tyX11 tyX11_ok 18 (by decide) rfl wl_56 rfl hin rfl rfl rfl (by decide) rfl dX11_init_288 (fun ks290 H locs hW kg291 hp0 => ?_)
  have hg := q_Gw.tr hg kg291 (Or.inl rfl) hp0.here.2 (fun x hx => hW0.1.inL x hx)
  have hkb286 := hkb286.mv kg291 (Ne.symm ukb286)
  have hkb1 := q_Gw.tag kg291 hkb1 (by decide)
  have hkb7 := q_Gw.tag kg291 hkb7 (by decide)
  have hkb40 := q_Gw.tag kg291 hkb40 (by decide)
  have hkb50 := q_Gw.tag kg291 hkb50 (by decide)
  have hkb60 := q_Gw.tag kg291 hkb60 (by decide)
  have hkb70 := q_Gw.tag kg291 hkb70 (by decide)
  have hkb80 := q_Gw.tag kg291 hkb80 (by decide)
  have hkb90 := q_Gw.tag kg291 hkb90 (by decide)
  have hkb100 := q_Gw.tag kg291 hkb100 (by decide)
  have hkb110 := q_Gw.tag kg291 hkb110 (by decide)
  have hkb117 := q_Gw.tag kg291 hkb117 (by decide)
  have hkb216 := q_Gw.tag kg291 hkb216 (by decide)
  have hkb204 := q_Gw.tag kg291 hkb204 (by decide)
  have hkb210 := q_Gw.tag kg291 hkb210 (by decide)
  have hkb265 := q_Gw.tag kg291 hkb265 (by decide)
  have hkb272 := q_Gw.tag kg291 hkb272 (by decide)
  have hkb279 := q_Gw.tag kg291 hkb279 (by decide)
  have hW0 := hW
  refine lv_iconst (v := 0) hx hb dX11_init_291 (by decide) ?_
  refine lv_istore_n (lv' := [(2, .int 0), (1, .ref kb1), (0, .ref a0)]) hx hb dX11_init_292 rfl hl (by decide) rfl (fun ls hl => ?_)
  refine lv_iload_n hx hb dX11_init_293 rfl (lv_at hl 0 rfl) ?_
  refine lv_iconst (v := 3) hx hb dX11_init_294 (by decide) ?_
  refine lv_icmp_ge (tgt := 317) hx hb dX11_init_295 (by decide) (fun q_h => absurd q_h (by decide)) (fun _ => ?_)
  refine lv_aload_n hx hb dX11_init_298 rfl (lv_at hl 2 rfl) ?_
  refine q_getX hE hW hp0 rfl q_k11 18 (by decide) (List.mem_of_getElem? (i := 0) rfl) wl_56 dX11_init_299 ?_
  refine lv_iload_n hx hb dX11_init_302 rfl (lv_at hl 0 rfl) ?_
  refine q_new (t := 23) hE hB hW rfl q_k5 tyX5 tyX5_ok wl_55 wl_57 wl_58 (by decide +kernel) rfl (Nat.le_of_ble_eq_true rfl) (Nat.le_of_ble_eq_true rfl) dX11_init_303 (fun kb292 kL293 ks294 H hW kg295 nkb292 hkb292 => ?_)
  refine W.widen (k := 367) (n := 2700) (Nat.le_of_ble_eq_true rfl) (Nat.le_of_ble_eq_true rfl) ?_
  have fkb292 := (fun q9 => nkb292 (hg.1 _ q9))
  have ukb292 := hp0.nL nkb292
  have ukb286_kb292 := hkb286.nL nkb292
  have hg := q_Gw.tr hg kg295 (Or.inr fkb292) hkb292.here.2 (fun x hx => hW0.1.inL x hx)
  have hp0 := hp0.mv kg295 ukb292
  have hkb286 := hkb286.mv kg295 ukb286_kb292
  have hkb1 := q_Gw.tag kg295 hkb1 (by decide)
  have hkb7 := q_Gw.tag kg295 hkb7 (by decide)
  have hkb40 := q_Gw.tag kg295 hkb40 (by decide)
  have hkb50 := q_Gw.tag kg295 hkb50 (by decide)
  have hkb60 := q_Gw.tag kg295 hkb60 (by decide)
  have hkb70 := q_Gw.tag kg295 hkb70 (by decide)
  have hkb80 := q_Gw.tag kg295 hkb80 (by decide)
  have hkb90 := q_Gw.tag kg295 hkb90 (by decide)
  have hkb100 := q_Gw.tag kg295 hkb100 (by decide)
  have hkb110 := q_Gw.tag kg295 hkb110 (by decide)
  have hkb117 := q_Gw.tag kg295 hkb117 (by decide)
  have hkb216 := q_Gw.tag kg295 hkb216 (by decide)
  have hkb204 := q_Gw.tag kg295 hkb204 (by decide)
  have hkb210 := q_Gw.tag kg295 hkb210 (by decide)
  have hkb265 := q_Gw.tag kg295 hkb265 (by decide)
  have hkb272 := q_Gw.tag kg295 hkb272 (by decide)
  have hkb279 := q_Gw.tag kg295 hkb279 (by decide)
  have hW0 := hW
  refine lv_dup hx hb dX11_init_306 rfl ?_
  refine q_initC (n := 0) (As := []) (rest := [.ref kb292, .int 0, .ref kb286]) hE hB hA hW (c_X5_init l G kL293 kT281 ks294 kb292 hkb292) wl_121 wl_58 wl_119 wl_120 rfl ⟨by decide, by decide, by decide +kernel⟩ rfl hl.1 rfl (Nat.le_of_ble_eq_true rfl) dX11_init_307 ⟨by decide, by decide⟩ ⟨Nat.le_of_ble_eq_true rfl, Nat.le_of_ble_eq_true rfl⟩ (fun kL296 kT297 ks298 H locs hW kg299 hz9 => ?_)
  refine W.widen (k := 369) (n := 2732) (Nat.le_of_ble_eq_true rfl) (Nat.le_of_ble_eq_true rfl) ?_
  have hy9 := hkb292.here.2
  have hg := q_Gw.tr hg kg299 (Or.inr fkb292) hy9 (fun x hx => hW0.1.inL x hx)
  have hp0 := hp0.mv kg299 ukb292
  have hkb286 := hkb286.mv kg299 ukb286_kb292
  have hkb1 := q_Gw.tag kg299 hkb1 (by decide)
  have hkb7 := q_Gw.tag kg299 hkb7 (by decide)
  have hkb40 := q_Gw.tag kg299 hkb40 (by decide)
  have hkb50 := q_Gw.tag kg299 hkb50 (by decide)
  have hkb60 := q_Gw.tag kg299 hkb60 (by decide)
  have hkb70 := q_Gw.tag kg299 hkb70 (by decide)
  have hkb80 := q_Gw.tag kg299 hkb80 (by decide)
  have hkb90 := q_Gw.tag kg299 hkb90 (by decide)
  have hkb100 := q_Gw.tag kg299 hkb100 (by decide)
  have hkb110 := q_Gw.tag kg299 hkb110 (by decide)
  have hkb117 := q_Gw.tag kg299 hkb117 (by decide)
  have hkb216 := q_Gw.tag kg299 hkb216 (by decide)
  have hkb204 := q_Gw.tag kg299 hkb204 (by decide)
  have hkb210 := q_Gw.tag kg299 hkb210 (by decide)
  have hkb265 := q_Gw.tag kg299 hkb265 (by decide)
  have hkb272 := q_Gw.tag kg299 hkb272 (by decide)
  have hkb279 := q_Gw.tag kg299 hkb279 (by decide)
  have hW0 := hW
  have hkb292 := hz9
  refine q_aaP (E := RX5) hE hW 0 hkb286 rfl rfl hkb292 (by decide) rfl q_k5 (Or.inl rfl) (by decide) (by decide) (by decide) (q_in (q_c (k := 0) (x := 0) (by decide)) (by decide) (by decide)) dX11_init_310 (fun ks300 H locs hW kg301 hkb286 => ?_)
  have hg := q_Gw.tr hg kg301 (Or.inr fkb286) hkb286.here.2 (fun x hx => hW0.1.inL x hx)
  have hp0 := hp0.mv kg301 ukb286
  have hkb1 := q_Gw.tag kg301 hkb1 (by decide)
  have hkb7 := q_Gw.tag kg301 hkb7 (by decide)
  have hkb40 := q_Gw.tag kg301 hkb40 (by decide)
  have hkb50 := q_Gw.tag kg301 hkb50 (by decide)
  have hkb60 := q_Gw.tag kg301 hkb60 (by decide)
  have hkb70 := q_Gw.tag kg301 hkb70 (by decide)
  have hkb80 := q_Gw.tag kg301 hkb80 (by decide)
  have hkb90 := q_Gw.tag kg301 hkb90 (by decide)
  have hkb100 := q_Gw.tag kg301 hkb100 (by decide)
  have hkb110 := q_Gw.tag kg301 hkb110 (by decide)
  have hkb117 := q_Gw.tag kg301 hkb117 (by decide)
  have hkb216 := q_Gw.tag kg301 hkb216 (by decide)
  have hkb204 := q_Gw.tag kg301 hkb204 (by decide)
  have hkb210 := q_Gw.tag kg301 hkb210 (by decide)
  have hkb265 := q_Gw.tag kg301 hkb265 (by decide)
  have hkb272 := q_Gw.tag kg301 hkb272 (by decide)
  have hkb279 := q_Gw.tag kg301 hkb279 (by decide)
  have hkb292 := q_Gw.tag kg301 hkb292 (by decide)
  have hW0 := hW
  refine lv_iinc (v := 1) (lv' := [(2, .int 1), (1, .ref kb1), (0, .ref a0)]) hx hb dX11_init_311 hl (k := 0) rfl (by decide) (by decide) rfl (fun ls hl => ?_)
  refine lv_goto (tgt := 293) hx hb dX11_init_314 (by decide) ?_
  refine lv_iload_n hx hb dX11_init_293 rfl (lv_at hl 0 rfl) ?_
  refine lv_iconst (v := 3) hx hb dX11_init_294 (by decide) ?_
  refine lv_icmp_ge (tgt := 317) hx hb dX11_init_295 (by decide) (fun q_h => absurd q_h (by decide)) (fun _ => ?_)
  refine lv_aload_n hx hb dX11_init_298 rfl (lv_at hl 2 rfl) ?_
  refine q_getX hE hW hp0 rfl q_k11 18 (by decide) (List.mem_of_getElem? (i := 0) rfl) wl_56 dX11_init_299 ?_
  refine lv_iload_n hx hb dX11_init_302 rfl (lv_at hl 0 rfl) ?_
  refine q_new (t := 23) hE hB hW rfl q_k5 tyX5 tyX5_ok wl_55 wl_57 wl_58 (by decide +kernel) rfl (Nat.le_of_ble_eq_true rfl) (Nat.le_of_ble_eq_true rfl) dX11_init_303 (fun kb302 kL303 ks304 H hW kg305 nkb302 hkb302 => ?_)
  refine W.widen (k := 370) (n := 2737) (Nat.le_of_ble_eq_true rfl) (Nat.le_of_ble_eq_true rfl) ?_
  have fkb302 := (fun q9 => nkb302 (hg.1 _ q9))
  have ukb302 := hp0.nL nkb302
  have ukb286_kb302 := hkb286.nL nkb302
  have hg := q_Gw.tr hg kg305 (Or.inr fkb302) hkb302.here.2 (fun x hx => hW0.1.inL x hx)
  have hp0 := hp0.mv kg305 ukb302
  have hkb286 := hkb286.mv kg305 ukb286_kb302
  have hkb1 := q_Gw.tag kg305 hkb1 (by decide)
  have hkb7 := q_Gw.tag kg305 hkb7 (by decide)
  have hkb40 := q_Gw.tag kg305 hkb40 (by decide)
  have hkb50 := q_Gw.tag kg305 hkb50 (by decide)
  have hkb60 := q_Gw.tag kg305 hkb60 (by decide)
  have hkb70 := q_Gw.tag kg305 hkb70 (by decide)
  have hkb80 := q_Gw.tag kg305 hkb80 (by decide)
  have hkb90 := q_Gw.tag kg305 hkb90 (by decide)
  have hkb100 := q_Gw.tag kg305 hkb100 (by decide)
  have hkb110 := q_Gw.tag kg305 hkb110 (by decide)
  have hkb117 := q_Gw.tag kg305 hkb117 (by decide)
  have hkb216 := q_Gw.tag kg305 hkb216 (by decide)
  have hkb204 := q_Gw.tag kg305 hkb204 (by decide)
  have hkb210 := q_Gw.tag kg305 hkb210 (by decide)
  have hkb265 := q_Gw.tag kg305 hkb265 (by decide)
  have hkb272 := q_Gw.tag kg305 hkb272 (by decide)
  have hkb279 := q_Gw.tag kg305 hkb279 (by decide)
  have hW0 := hW
  refine lv_dup hx hb dX11_init_306 rfl ?_
  refine q_initC (n := 0) (As := []) (rest := [.ref kb302, .int 1, .ref kb286]) hE hB hA hW (c_X5_init l G kL303 kT297 ks304 kb302 hkb302) wl_121 wl_58 wl_119 wl_120 rfl ⟨by decide, by decide, by decide +kernel⟩ rfl hl.1 rfl (Nat.le_of_ble_eq_true rfl) dX11_init_307 ⟨by decide, by decide⟩ ⟨Nat.le_of_ble_eq_true rfl, Nat.le_of_ble_eq_true rfl⟩ (fun kL306 kT307 ks308 H locs hW kg309 hz9 => ?_)
  refine W.widen (k := 372) (n := 2769) (Nat.le_of_ble_eq_true rfl) (Nat.le_of_ble_eq_true rfl) ?_
  have hy9 := hkb302.here.2
  have hg := q_Gw.tr hg kg309 (Or.inr fkb302) hy9 (fun x hx => hW0.1.inL x hx)
  have hp0 := hp0.mv kg309 ukb302
  have hkb286 := hkb286.mv kg309 ukb286_kb302
  have hkb1 := q_Gw.tag kg309 hkb1 (by decide)
  have hkb7 := q_Gw.tag kg309 hkb7 (by decide)
  have hkb40 := q_Gw.tag kg309 hkb40 (by decide)
  have hkb50 := q_Gw.tag kg309 hkb50 (by decide)
  have hkb60 := q_Gw.tag kg309 hkb60 (by decide)
  have hkb70 := q_Gw.tag kg309 hkb70 (by decide)
  have hkb80 := q_Gw.tag kg309 hkb80 (by decide)
  have hkb90 := q_Gw.tag kg309 hkb90 (by decide)
  have hkb100 := q_Gw.tag kg309 hkb100 (by decide)
  have hkb110 := q_Gw.tag kg309 hkb110 (by decide)
  have hkb117 := q_Gw.tag kg309 hkb117 (by decide)
  have hkb216 := q_Gw.tag kg309 hkb216 (by decide)
  have hkb204 := q_Gw.tag kg309 hkb204 (by decide)
  have hkb210 := q_Gw.tag kg309 hkb210 (by decide)
  have hkb265 := q_Gw.tag kg309 hkb265 (by decide)
  have hkb272 := q_Gw.tag kg309 hkb272 (by decide)
  have hkb279 := q_Gw.tag kg309 hkb279 (by decide)
  have hW0 := hW
  have hkb302 := hz9
  refine q_aaP (E := RX5) hE hW 1 hkb286 rfl rfl hkb302 (by decide) rfl q_k5 (Or.inl rfl) (by decide) (by decide) (by decide) (q_in (q_c (k := 1) (x := 1) (by decide)) (by decide) (by decide)) dX11_init_310 (fun ks310 H locs hW kg311 hkb286 => ?_)
  have hg := q_Gw.tr hg kg311 (Or.inr fkb286) hkb286.here.2 (fun x hx => hW0.1.inL x hx)
  have hp0 := hp0.mv kg311 ukb286
  have hkb1 := q_Gw.tag kg311 hkb1 (by decide)
  have hkb7 := q_Gw.tag kg311 hkb7 (by decide)
  have hkb40 := q_Gw.tag kg311 hkb40 (by decide)
  have hkb50 := q_Gw.tag kg311 hkb50 (by decide)
  have hkb60 := q_Gw.tag kg311 hkb60 (by decide)
  have hkb70 := q_Gw.tag kg311 hkb70 (by decide)
  have hkb80 := q_Gw.tag kg311 hkb80 (by decide)
  have hkb90 := q_Gw.tag kg311 hkb90 (by decide)
  have hkb100 := q_Gw.tag kg311 hkb100 (by decide)
  have hkb110 := q_Gw.tag kg311 hkb110 (by decide)
  have hkb117 := q_Gw.tag kg311 hkb117 (by decide)
  have hkb216 := q_Gw.tag kg311 hkb216 (by decide)
  have hkb204 := q_Gw.tag kg311 hkb204 (by decide)
  have hkb210 := q_Gw.tag kg311 hkb210 (by decide)
  have hkb265 := q_Gw.tag kg311 hkb265 (by decide)
  have hkb272 := q_Gw.tag kg311 hkb272 (by decide)
  have hkb279 := q_Gw.tag kg311 hkb279 (by decide)
  have hkb302 := q_Gw.tag kg311 hkb302 (by decide)
  have hW0 := hW
  refine lv_iinc (v := 2) (lv' := [(2, .int 2), (1, .ref kb1), (0, .ref a0)]) hx hb dX11_init_311 hl (k := 0) rfl (by decide) (by decide) rfl (fun ls hl => ?_)
  refine lv_goto (tgt := 293) hx hb dX11_init_314 (by decide) ?_
  refine lv_iload_n hx hb dX11_init_293 rfl (lv_at hl 0 rfl) ?_
  refine lv_iconst (v := 3) hx hb dX11_init_294 (by decide) ?_
  refine lv_icmp_ge (tgt := 317) hx hb dX11_init_295 (by decide) (fun q_h => absurd q_h (by decide)) (fun _ => ?_)
  refine lv_aload_n hx hb dX11_init_298 rfl (lv_at hl 2 rfl) ?_
  refine q_getX hE hW hp0 rfl q_k11 18 (by decide) (List.mem_of_getElem? (i := 0) rfl) wl_56 dX11_init_299 ?_
  refine lv_iload_n hx hb dX11_init_302 rfl (lv_at hl 0 rfl) ?_
  refine q_new (t := 23) hE hB hW rfl q_k5 tyX5 tyX5_ok wl_55 wl_57 wl_58 (by decide +kernel) rfl (Nat.le_of_ble_eq_true rfl) (Nat.le_of_ble_eq_true rfl) dX11_init_303 (fun kb312 kL313 ks314 H hW kg315 nkb312 hkb312 => ?_)
  refine W.widen (k := 373) (n := 2774) (Nat.le_of_ble_eq_true rfl) (Nat.le_of_ble_eq_true rfl) ?_
  have fkb312 := (fun q9 => nkb312 (hg.1 _ q9))
  have ukb312 := hp0.nL nkb312
  have ukb286_kb312 := hkb286.nL nkb312
  have hg := q_Gw.tr hg kg315 (Or.inr fkb312) hkb312.here.2 (fun x hx => hW0.1.inL x hx)
  have hp0 := hp0.mv kg315 ukb312
  have hkb286 := hkb286.mv kg315 ukb286_kb312
  have hkb1 := q_Gw.tag kg315 hkb1 (by decide)
  have hkb7 := q_Gw.tag kg315 hkb7 (by decide)
  have hkb40 := q_Gw.tag kg315 hkb40 (by decide)
  have hkb50 := q_Gw.tag kg315 hkb50 (by decide)
  have hkb60 := q_Gw.tag kg315 hkb60 (by decide)
  have hkb70 := q_Gw.tag kg315 hkb70 (by decide)
  have hkb80 := q_Gw.tag kg315 hkb80 (by decide)
  have hkb90 := q_Gw.tag kg315 hkb90 (by decide)
  have hkb100 := q_Gw.tag kg315 hkb100 (by decide)
  have hkb110 := q_Gw.tag kg315 hkb110 (by decide)
  have hkb117 := q_Gw.tag kg315 hkb117 (by decide)
  have hkb216 := q_Gw.tag kg315 hkb216 (by decide)
  have hkb204 := q_Gw.tag kg315 hkb204 (by decide)
  have hkb210 := q_Gw.tag kg315 hkb210 (by decide)
  have hkb265 := q_Gw.tag kg315 hkb265 (by decide)
  have hkb272 := q_Gw.tag kg315 hkb272 (by decide)
  have hkb279 := q_Gw.tag kg315 hkb279 (by decide)
  have hW0 := hW
  refine lv_dup hx hb dX11_init_306 rfl ?_
  refine q_initC (n := 0) (As := []) (rest := [.ref kb312, .int 2, .ref kb286]) hE hB hA hW (c_X5_init l G kL313 kT307 ks314 kb312 hkb312) wl_121 wl_58 wl_119 wl_120 rfl ⟨by decide, by decide, by decide +kernel⟩ rfl hl.1 rfl (Nat.le_of_ble_eq_true rfl) dX11_init_307 ⟨by decide, by decide⟩ ⟨Nat.le_of_ble_eq_true rfl, Nat.le_of_ble_eq_true rfl⟩ (fun kL316 kT317 ks318 H locs hW kg319 hz9 => ?_)
  refine W.widen (k := 375) (n := 2806) (Nat.le_of_ble_eq_true rfl) (Nat.le_of_ble_eq_true rfl) ?_
  have hy9 := hkb312.here.2
  have hg := q_Gw.tr hg kg319 (Or.inr fkb312) hy9 (fun x hx => hW0.1.inL x hx)
  have hp0 := hp0.mv kg319 ukb312
  have hkb286 := hkb286.mv kg319 ukb286_kb312
  have hkb1 := q_Gw.tag kg319 hkb1 (by decide)
  have hkb7 := q_Gw.tag kg319 hkb7 (by decide)
  have hkb40 := q_Gw.tag kg319 hkb40 (by decide)
  have hkb50 := q_Gw.tag kg319 hkb50 (by decide)
  have hkb60 := q_Gw.tag kg319 hkb60 (by decide)
  have hkb70 := q_Gw.tag kg319 hkb70 (by decide)
  have hkb80 := q_Gw.tag kg319 hkb80 (by decide)
  have hkb90 := q_Gw.tag kg319 hkb90 (by decide)
  have hkb100 := q_Gw.tag kg319 hkb100 (by decide)
  have hkb110 := q_Gw.tag kg319 hkb110 (by decide)
  have hkb117 := q_Gw.tag kg319 hkb117 (by decide)
  have hkb216 := q_Gw.tag kg319 hkb216 (by decide)
  have hkb204 := q_Gw.tag kg319 hkb204 (by decide)
  have hkb210 := q_Gw.tag kg319 hkb210 (by decide)
  have hkb265 := q_Gw.tag kg319 hkb265 (by decide)
  have hkb272 := q_Gw.tag kg319 hkb272 (by decide)
  have hkb279 := q_Gw.tag kg319 hkb279 (by decide)
  have hW0 := hW
  have hkb312 := hz9
  refine q_aaP (E := RX5) hE hW 2 hkb286 rfl rfl hkb312 (by decide) rfl q_k5 (Or.inl rfl) (by decide) (by decide) (by decide) (q_in (q_c (k := 2) (x := 2) (by decide)) (by decide) (by decide)) dX11_init_310 (fun ks320 H locs hW kg321 hkb286 => ?_)
  have hg := q_Gw.tr hg kg321 (Or.inr fkb286) hkb286.here.2 (fun x hx => hW0.1.inL x hx)
  have hp0 := hp0.mv kg321 ukb286
  have hkb1 := q_Gw.tag kg321 hkb1 (by decide)
  have hkb7 := q_Gw.tag kg321 hkb7 (by decide)
  have hkb40 := q_Gw.tag kg321 hkb40 (by decide)
  have hkb50 := q_Gw.tag kg321 hkb50 (by decide)
  have hkb60 := q_Gw.tag kg321 hkb60 (by decide)
  have hkb70 := q_Gw.tag kg321 hkb70 (by decide)
  have hkb80 := q_Gw.tag kg321 hkb80 (by decide)
  have hkb90 := q_Gw.tag kg321 hkb90 (by decide)
  have hkb100 := q_Gw.tag kg321 hkb100 (by decide)
  have hkb110 := q_Gw.tag kg321 hkb110 (by decide)
  have hkb117 := q_Gw.tag kg321 hkb117 (by decide)
  have hkb216 := q_Gw.tag kg321 hkb216 (by decide)
  have hkb204 := q_Gw.tag kg321 hkb204 (by decide)
  have hkb210 := q_Gw.tag kg321 hkb210 (by decide)
  have hkb265 := q_Gw.tag kg321 hkb265 (by decide)
  have hkb272 := q_Gw.tag kg321 hkb272 (by decide)
  have hkb279 := q_Gw.tag kg321 hkb279 (by decide)
  have hkb312 := q_Gw.tag kg321 hkb312 (by decide)
  have hW0 := hW
  obtain ⟨hW, kg322, hz9⟩ := hkb286.tell hW rfl rfl
  have hy9 := hkb286.here.2
  have hg := q_Gw.tr hg kg322 (Or.inr fkb286) hy9 (fun x hx => hW0.1.inL x hx)
  have hp0 := hp0.mv kg322 ukb286
  have hkb1 := q_Gw.tag kg322 hkb1 (by decide)
  have hkb7 := q_Gw.tag kg322 hkb7 (by decide)
  have hkb40 := q_Gw.tag kg322 hkb40 (by decide)
  have hkb50 := q_Gw.tag kg322 hkb50 (by decide)
  have hkb60 := q_Gw.tag kg322 hkb60 (by decide)
  have hkb70 := q_Gw.tag kg322 hkb70 (by decide)
  have hkb80 := q_Gw.tag kg322 hkb80 (by decide)
  have hkb90 := q_Gw.tag kg322 hkb90 (by decide)
  have hkb100 := q_Gw.tag kg322 hkb100 (by decide)
  have hkb110 := q_Gw.tag kg322 hkb110 (by decide)
  have hkb117 := q_Gw.tag kg322 hkb117 (by decide)
  have hkb216 := q_Gw.tag kg322 hkb216 (by decide)
  have hkb204 := q_Gw.tag kg322 hkb204 (by decide)
  have hkb210 := q_Gw.tag kg322 hkb210 (by decide)
  have hkb265 := q_Gw.tag kg322 hkb265 (by decide)
  have hkb272 := q_Gw.tag kg322 hkb272 (by decide)
  have hkb279 := q_Gw.tag kg322 hkb279 (by decide)
  have hkb312 := q_Gw.tag kg322 hkb312 (by decide)
  have hW0 := hW
  have hkb286 := hz9
  have hp0 := hp0.know (List.mem_of_getElem? (i := 0) rfl) rfl (k := 18) rfl (q_1 hkb286 (by decide)) (q_2 hkb286 (by decide))
  refine lv_iinc (v := 3) (lv' := [(2, .int 3), (1, .ref kb1), (0, .ref a0)]) hx hb dX11_init_311 hl (k := 0) rfl (by decide) (by decide) rfl (fun ls hl => ?_)
  refine lv_goto (tgt := 293) hx hb dX11_init_314 (by decide) ?_
  refine lv_iload_n hx hb dX11_init_293 rfl (lv_at hl 0 rfl) ?_
  refine lv_iconst (v := 3) hx hb dX11_init_294 (by decide) ?_
  refine lv_icmp_ge (tgt := 317) hx hb dX11_init_295 (by decide) (fun _ => ?_) (fun q_h => absurd (by decide) q_h)
  refine lv_aload_n hx hb dX11_init_317 rfl (lv_at hl 2 rfl) ?_
  refine q_new (t := 23) hE hB hW rfl q_k5 tyX5 tyX5_ok wl_55 wl_57 wl_58 (by decide +kernel) rfl (Nat.le_of_ble_eq_true rfl) (Nat.le_of_ble_eq_true rfl) dX11_init_318 (fun kb323 kL324 ks325 H hW kg326 nkb323 hkb323 => ?_)
  refine W.widen (k := 376) (n := 2811) (Nat.le_of_ble_eq_true rfl) (Nat.le_of_ble_eq_true rfl) ?_
  have fkb323 := (fun q9 => nkb323 (hg.1 _ q9))
  have ukb323 := hp0.nL nkb323
  have hg := q_Gw.tr hg kg326 (Or.inr fkb323) hkb323.here.2 (fun x hx => hW0.1.inL x hx)
  have hp0 := hp0.mv kg326 ukb323
  have hkb1 := q_Gw.tag kg326 hkb1 (by decide)
  have hkb7 := q_Gw.tag kg326 hkb7 (by decide)
  have hkb40 := q_Gw.tag kg326 hkb40 (by decide)
  have hkb50 := q_Gw.tag kg326 hkb50 (by decide)
  have hkb60 := q_Gw.tag kg326 hkb60 (by decide)
  have hkb70 := q_Gw.tag kg326 hkb70 (by decide)
  have hkb80 := q_Gw.tag kg326 hkb80 (by decide)
  have hkb90 := q_Gw.tag kg326 hkb90 (by decide)
  have hkb100 := q_Gw.tag kg326 hkb100 (by decide)
  have hkb110 := q_Gw.tag kg326 hkb110 (by decide)
  have hkb117 := q_Gw.tag kg326 hkb117 (by decide)
  have hkb216 := q_Gw.tag kg326 hkb216 (by decide)
  have hkb204 := q_Gw.tag kg326 hkb204 (by decide)
  have hkb210 := q_Gw.tag kg326 hkb210 (by decide)
  have hkb265 := q_Gw.tag kg326 hkb265 (by decide)
  have hkb272 := q_Gw.tag kg326 hkb272 (by decide)
  have hkb279 := q_Gw.tag kg326 hkb279 (by decide)
  have hkb286 := q_Gw.tag kg326 hkb286 (by decide)
  have hW0 := hW
  refine lv_dup hx hb dX11_init_321 rfl ?_
  refine q_initC (n := 0) (As := []) (rest := [.ref kb323, .ref a0]) hE hB hA hW (c_X5_init l G kL324 (va_up kT317 kb286 36) ks325 kb323 hkb323) wl_121 wl_58 wl_119 wl_120 rfl ⟨by decide, by decide, by decide +kernel⟩ rfl hl.1 rfl (Nat.le_of_ble_eq_true rfl) dX11_init_322 ⟨by decide, by decide⟩ ⟨Nat.le_of_ble_eq_true rfl, Nat.le_of_ble_eq_true rfl⟩ (fun kL327 kT328 ks329 H locs hW kg330 hz9 => ?_)
  refine W.widen (k := 378) (n := 2843) (Nat.le_of_ble_eq_true rfl) (Nat.le_of_ble_eq_true rfl) ?_
  have hy9 := hkb323.here.2
  have hg := q_Gw.tr hg kg330 (Or.inr fkb323) hy9 (fun x hx => hW0.1.inL x hx)
  have hp0 := hp0.mv kg330 ukb323
  have hkb1 := q_Gw.tag kg330 hkb1 (by decide)
  have hkb7 := q_Gw.tag kg330 hkb7 (by decide)
  have hkb40 := q_Gw.tag kg330 hkb40 (by decide)
  have hkb50 := q_Gw.tag kg330 hkb50 (by decide)
  have hkb60 := q_Gw.tag kg330 hkb60 (by decide)
  have hkb70 := q_Gw.tag kg330 hkb70 (by decide)
  have hkb80 := q_Gw.tag kg330 hkb80 (by decide)
  have hkb90 := q_Gw.tag kg330 hkb90 (by decide)
  have hkb100 := q_Gw.tag kg330 hkb100 (by decide)
  have hkb110 := q_Gw.tag kg330 hkb110 (by decide)
  have hkb117 := q_Gw.tag kg330 hkb117 (by decide)
  have hkb216 := q_Gw.tag kg330 hkb216 (by decide)
  have hkb204 := q_Gw.tag kg330 hkb204 (by decide)
  have hkb210 := q_Gw.tag kg330 hkb210 (by decide)
  have hkb265 := q_Gw.tag kg330 hkb265 (by decide)
  have hkb272 := q_Gw.tag kg330 hkb272 (by decide)
  have hkb279 := q_Gw.tag kg330 hkb279 (by decide)
  have hkb286 := q_Gw.tag kg330 hkb286 (by decide)
  have hW0 := hW
  have hkb323 := hz9
  refine q_putF hE hW hp0 rfl q_k11 tyX11 tyX11_ok 19 (by decide) rfl wl_59 rfl hin rfl rfl rfl (by decide) rfl dX11_init_325 (fun ks331 H locs hW kg332 hp0 => ?_)
  have hg := q_Gw.tr hg kg332 (Or.inl rfl) hp0.here.2 (fun x hx => hW0.1.inL x hx)
  have hkb1 := q_Gw.tag kg332 hkb1 (by decide)
  have hkb7 := q_Gw.tag kg332 hkb7 (by decide)
  have hkb40 := q_Gw.tag kg332 hkb40 (by decide)
  have hkb50 := q_Gw.tag kg332 hkb50 (by decide)
  have hkb60 := q_Gw.tag kg332 hkb60 (by decide)
  have hkb70 := q_Gw.tag kg332 hkb70 (by decide)
  have hkb80 := q_Gw.tag kg332 hkb80 (by decide)
  have hkb90 := q_Gw.tag kg332 hkb90 (by decide)
  have hkb100 := q_Gw.tag kg332 hkb100 (by decide)
  have hkb110 := q_Gw.tag kg332 hkb110 (by decide)
  have hkb117 := q_Gw.tag kg332 hkb117 (by decide)
  have hkb216 := q_Gw.tag kg332 hkb216 (by decide)
  have hkb204 := q_Gw.tag kg332 hkb204 (by decide)
  have hkb210 := q_Gw.tag kg332 hkb210 (by decide)
  have hkb265 := q_Gw.tag kg332 hkb265 (by decide)
  have hkb272 := q_Gw.tag kg332 hkb272 (by decide)
  have hkb279 := q_Gw.tag kg332 hkb279 (by decide)
  have hkb286 := q_Gw.tag kg332 hkb286 (by decide)
  have hkb323 := q_Gw.tag kg332 hkb323 (by decide)
  have hW0 := hW
  have hp0 := hp0.know (List.mem_of_getElem? (i := 0) rfl) rfl (k := 19) rfl (q_1 hkb323 (by decide)) (q_2 hkb323 (by decide))
  obtain ⟨hW, hz8, hz9⟩ := hp0.tell hW rfl rfl (by decide)
  exact q_retC hE hr hlocks hW (q_Gw.tr hg hz8 (Or.inl rfl) hp0.here.2 (fun x hx => hW0.1.inL x hx)) hz9 dX11_init_328
